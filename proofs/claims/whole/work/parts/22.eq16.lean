set_option maxRecDepth 100000 in
theorem f274_0 : mj_find (mj_P 274).2.2.2.2 0 = [(.aload_n 0, 1, 0, []), (.iconst 0, 1, 0, []), (.putfield 122, 3, 0, [12, 0, 0, 1410]), (.iload_n 1, 1, 0, []), (.ifCond .eq 22, 3, 0, [28]), (.aload_n 0, 1, 0, []), (.iload_n 1, 1, 0, []), (.bipush 10, 2, 10, []), (.bipush 9, 2, 9, []), (.aload_n 0, 1, 0, []), (.getfield 479, 3, 0, [12, 54, 0, 1464]), (.iadd, 1, 0, []), (.invokevirtual 144, 3, 0, [0, 152, 12, 3, 1, 1624, 1626, 42, 156, 1627])] := rfl
set_option maxRecDepth 100000 in
theorem q274_0 (E : mj_E) (d w c : Nat) (hi : Nat → Nat → Int32) (hl : Nat → Nat → Int64) (v1 : Int32) : mj_den mj_P E d 274 0 [Value.ref 205, Value.int v1, Value.float 0, Value.float 0, Value.float 0] [] (mj_hw w c hi hl) = if v1 = 0 then mj_den mj_P E d 274 28 [Value.ref 205, Value.int v1, Value.float 0, Value.float 0, Value.float 0] [] (mj_hw w c (mj_u hi 205 0 (0 : Int32)) hl) else mj_bi (mj_dc mj_P E d 152 [Value.ref 205, Value.int v1, Value.int (10 : Int32), Value.int ((9 : Int32) + (hi 205 54))] (mj_hw w c (mj_u hi 205 0 (0 : Int32)) hl)) (fun x1 h1 => mj_den mj_P E d 274 23 [Value.ref 205, Value.int v1, Value.float 0, Value.float 0, Value.float 0] [Value.int x1] h1) := by
  rw [mj_den_eq, f274_0]
  exact zt_aload_n rfl rfl (zt_iconst rfl (zt_puti (mjkd205 _ _ _ _) rfl rfl (zt_iload_n rfl rfl (zt_if_eq rfl rfl (zt_aload_n rfl rfl (zt_iload_n rfl rfl (zt_bipush rfl (zt_bipush rfl (zt_aload_n rfl rfl (zt_geti (mjkd205 _ _ _ _) rfl rfl (zt_iadd rfl (zt_call0_1 rfl (mjkd205 _ _ _ _) (Nat.le_of_ble_eq_true rfl) rfl rfl))))))))))))
set_option maxRecDepth 100000 in
theorem f274_23 : mj_find (mj_P 274).2.2.2.2 23 = [(.ifCond .ne 5, 3, 0, [28]), (.iconst (-1), 1, (-1), []), (.ireturn, 1, 0, [0])] := rfl
set_option maxRecDepth 100000 in
theorem q274_23 (E : mj_E) (d w c : Nat) (hi : Nat → Nat → Int32) (hl : Nat → Nat → Int64) (v1 : Int32) (s0 : Int32) : mj_den mj_P E d 274 23 [Value.ref 205, Value.int v1, Value.float 0, Value.float 0, Value.float 0] [Value.int s0] (mj_hw w c hi hl) = if ¬ s0 = 0 then mj_den mj_P E d 274 28 [Value.ref 205, Value.int v1, Value.float 0, Value.float 0, Value.float 0] [] (mj_hw w c hi hl) else some (some (Value.int (-1 : Int32)), (mj_hw w c hi hl)) := by
  rw [mj_den_eq, f274_23]
  exact zt_if_ne rfl rfl (zt_iconst rfl (zt_ireturn0))
set_option maxRecDepth 100000 in
theorem f274_28 : mj_find (mj_P 274).2.2.2.2 28 = [(.aload_n 0, 1, 0, []), (.invokevirtual 485, 3, 0, [0, 273, 12, 0, 0, 2101, 2103, 130, 156, 2104])] := rfl
set_option maxRecDepth 100000 in
theorem q274_28 (E : mj_E) (d w c : Nat) (hi : Nat → Nat → Int32) (hl : Nat → Nat → Int64) (v1 : Int32) : mj_den mj_P E d 274 28 [Value.ref 205, Value.int v1, Value.float 0, Value.float 0, Value.float 0] [] (mj_hw w c hi hl) = mj_bv (mj_dc mj_P E d 273 [Value.ref 205] (mj_hw w c hi hl)) (fun h1 => mj_den mj_P E d 274 32 [Value.ref 205, Value.int v1, Value.float 0, Value.float 0, Value.float 0] [] h1) := by
  rw [mj_den_eq, f274_28]
  exact zt_aload_n rfl rfl (zt_call0_0 rfl (mjkd205 _ _ _ _) (Nat.le_of_ble_eq_true rfl) rfl rfl)
set_option maxRecDepth 100000 in
theorem f274_32 : mj_find (mj_P 274).2.2.2.2 32 = [(.iload_n 1, 1, 0, []), (.ifCond .ne 10, 3, 0, [43]), (.aload_n 0, 1, 0, []), (.getfield 104, 3, 0, [12, 57, 3, 1467]), (.iconst 0, 1, 0, []), (.iaload, 1, 0, []), (.ireturn, 1, 0, [0])] := rfl
set_option maxRecDepth 100000 in
theorem q274_32 (E : mj_E) (d w c : Nat) (hi : Nat → Nat → Int32) (hl : Nat → Nat → Int64) (v1 : Int32) : mj_den mj_P E d 274 32 [Value.ref 205, Value.int v1, Value.float 0, Value.float 0, Value.float 0] [] (mj_hw w c hi hl) = if ¬ v1 = 0 then mj_den mj_P E d 274 43 [Value.ref 205, Value.int v1, Value.float 0, Value.float 0, Value.float 0] [] (mj_hw w c hi hl) else if 0 ≤ (0 : Int32) ∧ ((0 : Int32)).toNatClampNeg < 128 then some (some (Value.int (hi 236 (((0 : Int32)).toNatClampNeg))), (mj_hw w c hi hl)) else none := by
  rw [mj_den_eq, f274_32]
  exact zt_iload_n rfl rfl (zt_if_ne rfl rfl (zt_aload_n rfl rfl (zt_getr (mjkd205 _ _ _ _) (mjhr205_57 w c) rfl (zt_iconst rfl (zt_iald (mjkd236 _ _ _ _) (mjln236 _ _ _ _) rfl rfl (zt_ireturn0))))))
set_option maxRecDepth 100000 in
theorem f274_43 : mj_find (mj_P 274).2.2.2.2 43 = [(.iconst 0, 1, 0, []), (.istore_n 2, 1, 0, []), (.iconst (-1), 1, (-1), []), (.istore_n 3, 1, 0, []), (.iconst 0, 1, 0, []), (.istore 4, 2, 0, [])] := rfl
set_option maxRecDepth 100000 in
theorem q274_43 (E : mj_E) (d w c : Nat) (hi : Nat → Nat → Int32) (hl : Nat → Nat → Int64) (v1 : Int32) : mj_den mj_P E d 274 43 [Value.ref 205, Value.int v1, Value.float 0, Value.float 0, Value.float 0] [] (mj_hw w c hi hl) = mj_den mj_P E d 274 50 [Value.ref 205, Value.int v1, Value.int (0 : Int32), Value.int (-1 : Int32), Value.int (0 : Int32)] [] (mj_hw w c hi hl) := by
  rw [mj_den_eq, f274_43]
  exact zt_iconst rfl (zt_istore_n (Nat.le_of_ble_eq_true rfl) rfl rfl (zt_iconst rfl (zt_istore_n (Nat.le_of_ble_eq_true rfl) rfl rfl (zt_iconst rfl (zt_istore (Nat.le_of_ble_eq_true rfl) rfl rfl (zt_end rfl))))))
set_option maxRecDepth 100000 in
theorem f274_50 : mj_find (mj_P 274).2.2.2.2 50 = [(.iload 4, 2, 0, []), (.iload_n 1, 1, 0, []), (.bipush 10, 2, 10, []), (.isub, 1, 0, []), (.if_icmp .gt 48, 3, 0, [104]), (.iconst 0, 1, 0, []), (.istore_n 3, 1, 0, [])] := rfl
set_option maxRecDepth 100000 in
theorem q274_50 (E : mj_E) (d w c : Nat) (hi : Nat → Nat → Int32) (hl : Nat → Nat → Int64) (v1 : Int32) (v2 : Int32) (v3 : Int32) (v4 : Int32) : mj_den mj_P E d 274 50 [Value.ref 205, Value.int v1, Value.int v2, Value.int v3, Value.int v4] [] (mj_hw w c hi hl) = if (v1 - (10 : Int32)) < v4 then mj_den mj_P E d 274 104 [Value.ref 205, Value.int v1, Value.int v2, Value.int v3, Value.int v4] [] (mj_hw w c hi hl) else mj_den mj_P E d 274 61 [Value.ref 205, Value.int v1, Value.int v2, Value.int (0 : Int32), Value.int v4] [] (mj_hw w c hi hl) := by
  rw [mj_den_eq, f274_50]
  exact zt_iload rfl rfl (zt_iload_n rfl rfl (zt_bipush rfl (zt_isub rfl (zt_icmp_gt rfl rfl (zt_iconst rfl (zt_istore_n (Nat.le_of_ble_eq_true rfl) rfl rfl (zt_end rfl)))))))
set_option maxRecDepth 100000 in
theorem f274_61 : mj_find (mj_P 274).2.2.2.2 61 = [(.aload_n 0, 1, 0, []), (.iload_n 2, 1, 0, []), (.iload_n 3, 1, 0, []), (.invokevirtual 327, 3, 0, [0, 157, 12, 2, 1, 1832, 1834, 87, 156, 1835])] := rfl
set_option maxRecDepth 100000 in
theorem q274_61 (E : mj_E) (d w c : Nat) (hi : Nat → Nat → Int32) (hl : Nat → Nat → Int64) (v1 : Int32) (v2 : Int32) (v3 : Int32) (v4 : Int32) : mj_den mj_P E d 274 61 [Value.ref 205, Value.int v1, Value.int v2, Value.int v3, Value.int v4] [] (mj_hw w c hi hl) = mj_bi (mj_dc mj_P E d 157 [Value.ref 205, Value.int v2, Value.int v3] (mj_hw w c hi hl)) (fun x1 h1 => mj_den mj_P E d 274 67 [Value.ref 205, Value.int v1, Value.int v2, Value.int v3, Value.int v4] [Value.int x1] h1) := by
  rw [mj_den_eq, f274_61]
  exact zt_aload_n rfl rfl (zt_iload_n rfl rfl (zt_iload_n rfl rfl (zt_call0_1 rfl (mjkd205 _ _ _ _) (Nat.le_of_ble_eq_true rfl) rfl rfl)))
set_option maxRecDepth 100000 in
theorem f274_67 : mj_find (mj_P 274).2.2.2.2 67 = [(.ifCond .ne 18, 3, 0, [85]), (.aload_n 0, 1, 0, []), (.iload_n 2, 1, 0, []), (.iload_n 3, 1, 0, []), (.invokevirtual 482, 3, 0, [0, 272, 12, 2, 1, 2105, 2107, 131, 156, 2108])] := rfl
set_option maxRecDepth 100000 in
theorem q274_67 (E : mj_E) (d w c : Nat) (hi : Nat → Nat → Int32) (hl : Nat → Nat → Int64) (v1 : Int32) (v2 : Int32) (v3 : Int32) (v4 : Int32) (s0 : Int32) : mj_den mj_P E d 274 67 [Value.ref 205, Value.int v1, Value.int v2, Value.int v3, Value.int v4] [Value.int s0] (mj_hw w c hi hl) = if ¬ s0 = 0 then mj_den mj_P E d 274 85 [Value.ref 205, Value.int v1, Value.int v2, Value.int v3, Value.int v4] [] (mj_hw w c hi hl) else mj_bi (mj_dc mj_P E d 272 [Value.ref 205, Value.int v2, Value.int v3] (mj_hw w c hi hl)) (fun x1 h1 => mj_den mj_P E d 274 76 [Value.ref 205, Value.int v1, Value.int v2, Value.int v3, Value.int v4] [Value.int x1] h1) := by
  rw [mj_den_eq, f274_67]
  exact zt_if_ne rfl rfl (zt_aload_n rfl rfl (zt_iload_n rfl rfl (zt_iload_n rfl rfl (zt_call0_1 rfl (mjkd205 _ _ _ _) (Nat.le_of_ble_eq_true rfl) rfl rfl))))
set_option maxRecDepth 100000 in
theorem f274_76 : mj_find (mj_P 274).2.2.2.2 76 = [(.aload_n 0, 1, 0, []), (.getfield 104, 3, 0, [12, 57, 3, 1467]), (.iload_n 2, 1, 0, []), (.iaload, 1, 0, []), (.if_icmp .eq 10, 3, 0, [92])] := rfl
set_option maxRecDepth 100000 in
theorem q274_76 (E : mj_E) (d w c : Nat) (hi : Nat → Nat → Int32) (hl : Nat → Nat → Int64) (v1 : Int32) (v2 : Int32) (v3 : Int32) (v4 : Int32) (s0 : Int32) : mj_den mj_P E d 274 76 [Value.ref 205, Value.int v1, Value.int v2, Value.int v3, Value.int v4] [Value.int s0] (mj_hw w c hi hl) = if 0 ≤ v2 ∧ (v2).toNatClampNeg < 128 then if s0 = (hi 236 ((v2).toNatClampNeg)) then mj_den mj_P E d 274 92 [Value.ref 205, Value.int v1, Value.int v2, Value.int v3, Value.int v4] [] (mj_hw w c hi hl) else mj_den mj_P E d 274 85 [Value.ref 205, Value.int v1, Value.int v2, Value.int v3, Value.int v4] [] (mj_hw w c hi hl) else none := by
  rw [mj_den_eq, f274_76]
  exact zt_aload_n rfl rfl (zt_getr (mjkd205 _ _ _ _) (mjhr205_57 w c) rfl (zt_iload_n rfl rfl (zt_iald (mjkd236 _ _ _ _) (mjln236 _ _ _ _) rfl rfl (zt_icmp_eq rfl rfl (zt_end rfl)))))
set_option maxRecDepth 100000 in
theorem f274_85 : mj_find (mj_P 274).2.2.2.2 85 = [(.iload_n 3, 1, 0, []), (.iconst 1, 1, 1, []), (.iadd, 1, 0, []), (.istore_n 3, 1, 0, []), (.goto (-28), 3, 0, [61])] := rfl
set_option maxRecDepth 100000 in
theorem q274_85 (E : mj_E) (d w c : Nat) (hi : Nat → Nat → Int32) (hl : Nat → Nat → Int64) (v1 : Int32) (v2 : Int32) (v3 : Int32) (v4 : Int32) : mj_den mj_P E d 274 85 [Value.ref 205, Value.int v1, Value.int v2, Value.int v3, Value.int v4] [] (mj_hw w c hi hl) = mj_den mj_P E d 274 61 [Value.ref 205, Value.int v1, Value.int v2, Value.int (v3 + (1 : Int32)), Value.int v4] [] (mj_hw w c hi hl) := by
  rw [mj_den_eq, f274_85]
  exact zt_iload_n rfl rfl (zt_iconst rfl (zt_iadd rfl (zt_istore_n (Nat.le_of_ble_eq_true rfl) rfl rfl (zt_goto rfl))))
set_option maxRecDepth 100000 in
theorem f274_92 : mj_find (mj_P 274).2.2.2.2 92 = [(.iload_n 2, 1, 0, []), (.iconst 1, 1, 1, []), (.iload_n 3, 1, 0, []), (.ishl, 1, 0, []), (.ior, 1, 0, []), (.istore_n 2, 1, 0, []), (.iinc 4 1, 3, 1, []), (.goto (-51), 3, 0, [50])] := rfl
set_option maxRecDepth 100000 in
theorem q274_92 (E : mj_E) (d w c : Nat) (hi : Nat → Nat → Int32) (hl : Nat → Nat → Int64) (v1 : Int32) (v2 : Int32) (v3 : Int32) (v4 : Int32) : mj_den mj_P E d 274 92 [Value.ref 205, Value.int v1, Value.int v2, Value.int v3, Value.int v4] [] (mj_hw w c hi hl) = mj_den mj_P E d 274 50 [Value.ref 205, Value.int v1, Value.int (v2 ||| ((1 : Int32) <<< (v3 &&& 31))), Value.int v3, Value.int (v4 + (1 : Int32))] [] (mj_hw w c hi hl) := by
  rw [mj_den_eq, f274_92]
  exact zt_iload_n rfl rfl (zt_iconst rfl (zt_iload_n rfl rfl (zt_ishl rfl (zt_ior rfl (zt_istore_n (Nat.le_of_ble_eq_true rfl) rfl rfl (zt_iinc rfl (Nat.le_of_ble_eq_true rfl) rfl rfl (zt_goto rfl)))))))
set_option maxRecDepth 100000 in
theorem f274_104 : mj_find (mj_P 274).2.2.2.2 104 = [(.iload_n 3, 1, 0, []), (.ireturn, 1, 0, [0])] := rfl
set_option maxRecDepth 100000 in
theorem q274_104 (E : mj_E) (d w c : Nat) (hi : Nat → Nat → Int32) (hl : Nat → Nat → Int64) (v1 : Int32) (v2 : Int32) (v3 : Int32) (v4 : Int32) : mj_den mj_P E d 274 104 [Value.ref 205, Value.int v1, Value.int v2, Value.int v3, Value.int v4] [] (mj_hw w c hi hl) = some (some (Value.int v3), (mj_hw w c hi hl)) := by
  rw [mj_den_eq, f274_104]
  exact zt_iload_n rfl rfl (zt_ireturn0)
set_option maxRecDepth 100000 in
theorem f275_0 : mj_find (mj_P 275).2.2.2.2 0 = [(.aload_n 0, 1, 0, []), (.iconst 0, 1, 0, []), (.putfield 122, 3, 0, [12, 0, 0, 1410]), (.iload_n 1, 1, 0, []), (.iconst (-1), 1, (-1), []), (.if_icmp .ne 10, 3, 0, [17]), (.aload_n 0, 1, 0, []), (.iconst 0, 1, 0, []), (.putfield 488, 3, 0, [12, 58, 0, 1468]), (.iconst 0, 1, 0, []), (.ireturn, 1, 0, [0])] := rfl
set_option maxRecDepth 100000 in
theorem q275_0 (E : mj_E) (d w c : Nat) (hi : Nat → Nat → Int32) (hl : Nat → Nat → Int64) (v1 : Int32) : mj_den mj_P E d 275 0 [Value.ref 205, Value.int v1] [] (mj_hw w c hi hl) = if ¬ v1 = (-1 : Int32) then mj_den mj_P E d 275 17 [Value.ref 205, Value.int v1] [] (mj_hw w c (mj_u hi 205 0 (0 : Int32)) hl) else some (some (Value.int (0 : Int32)), (mj_hw w c (mj_u (mj_u hi 205 0 (0 : Int32)) 205 58 (0 : Int32)) hl)) := by
  rw [mj_den_eq, f275_0]
  exact zt_aload_n rfl rfl (zt_iconst rfl (zt_puti (mjkd205 _ _ _ _) rfl rfl (zt_iload_n rfl rfl (zt_iconst rfl (zt_icmp_ne rfl rfl (zt_aload_n rfl rfl (zt_iconst rfl (zt_puti (mjkd205 _ _ _ _) rfl rfl (zt_iconst rfl (zt_ireturn0))))))))))
set_option maxRecDepth 100000 in
theorem f275_17 : mj_find (mj_P 275).2.2.2.2 17 = [(.aload_n 0, 1, 0, []), (.iload_n 1, 1, 0, []), (.iconst 0, 1, 0, []), (.bipush 99, 2, 99, []), (.invokevirtual 144, 3, 0, [0, 152, 12, 3, 1, 1624, 1626, 42, 156, 1627])] := rfl
set_option maxRecDepth 100000 in
theorem q275_17 (E : mj_E) (d w c : Nat) (hi : Nat → Nat → Int32) (hl : Nat → Nat → Int64) (v1 : Int32) : mj_den mj_P E d 275 17 [Value.ref 205, Value.int v1] [] (mj_hw w c hi hl) = mj_bi (mj_dc mj_P E d 152 [Value.ref 205, Value.int v1, Value.int (0 : Int32), Value.int (99 : Int32)] (mj_hw w c hi hl)) (fun x1 h1 => mj_den mj_P E d 275 25 [Value.ref 205, Value.int v1] [Value.int x1] h1) := by
  rw [mj_den_eq, f275_17]
  exact zt_aload_n rfl rfl (zt_iload_n rfl rfl (zt_iconst rfl (zt_bipush rfl (zt_call0_1 rfl (mjkd205 _ _ _ _) (Nat.le_of_ble_eq_true rfl) rfl rfl))))
set_option maxRecDepth 100000 in
theorem f275_25 : mj_find (mj_P 275).2.2.2.2 25 = [(.ifCond .eq 12, 3, 0, [37]), (.aload_n 0, 1, 0, []), (.getfield 488, 3, 0, [12, 58, 0, 1468]), (.bipush 12, 2, 12, []), (.if_icmp .ne 5, 3, 0, [39])] := rfl
set_option maxRecDepth 100000 in
theorem q275_25 (E : mj_E) (d w c : Nat) (hi : Nat → Nat → Int32) (hl : Nat → Nat → Int64) (v1 : Int32) (s0 : Int32) : mj_den mj_P E d 275 25 [Value.ref 205, Value.int v1] [Value.int s0] (mj_hw w c hi hl) = if s0 = 0 then mj_den mj_P E d 275 37 [Value.ref 205, Value.int v1] [] (mj_hw w c hi hl) else if ¬ (hi 205 58) = (12 : Int32) then mj_den mj_P E d 275 39 [Value.ref 205, Value.int v1] [] (mj_hw w c hi hl) else mj_den mj_P E d 275 37 [Value.ref 205, Value.int v1] [] (mj_hw w c hi hl) := by
  rw [mj_den_eq, f275_25]
  exact zt_if_eq rfl rfl (zt_aload_n rfl rfl (zt_geti (mjkd205 _ _ _ _) rfl rfl (zt_bipush rfl (zt_icmp_ne rfl rfl (zt_end rfl)))))
set_option maxRecDepth 100000 in
theorem f275_37 : mj_find (mj_P 275).2.2.2.2 37 = [(.iconst (-1), 1, (-1), []), (.ireturn, 1, 0, [0])] := rfl
set_option maxRecDepth 100000 in
theorem q275_37 (E : mj_E) (d w c : Nat) (hi : Nat → Nat → Int32) (hl : Nat → Nat → Int64) (v1 : Int32) : mj_den mj_P E d 275 37 [Value.ref 205, Value.int v1] [] (mj_hw w c hi hl) = some (some (Value.int (-1 : Int32)), (mj_hw w c hi hl)) := by
  rw [mj_den_eq, f275_37]
  exact zt_iconst rfl (zt_ireturn0)
set_option maxRecDepth 100000 in
theorem f275_39 : mj_find (mj_P 275).2.2.2.2 39 = [(.aload_n 0, 1, 0, []), (.getfield 107, 3, 0, [12, 59, 3, 1469]), (.aload_n 0, 1, 0, []), (.getfield 488, 3, 0, [12, 58, 0, 1468]), (.iload_n 1, 1, 0, []), (.iastore, 1, 0, []), (.aload_n 0, 1, 0, []), (.aload_n 0, 1, 0, []), (.getfield 488, 3, 0, [12, 58, 0, 1468]), (.iconst 1, 1, 1, []), (.iadd, 1, 0, []), (.putfield 488, 3, 0, [12, 58, 0, 1468]), (.aload_n 0, 1, 0, []), (.getfield 488, 3, 0, [12, 58, 0, 1468]), (.ireturn, 1, 0, [0])] := rfl
set_option maxRecDepth 100000 in
theorem q275_39 (E : mj_E) (d w c : Nat) (hi : Nat → Nat → Int32) (hl : Nat → Nat → Int64) (v1 : Int32) : mj_den mj_P E d 275 39 [Value.ref 205, Value.int v1] [] (mj_hw w c hi hl) = if 0 ≤ (hi 205 58) ∧ ((hi 205 58)).toNatClampNeg < 12 then some (some (Value.int ((hi 205 58) + (1 : Int32))), (mj_hw w c (mj_u (mj_u hi 237 (((hi 205 58)).toNatClampNeg) v1) 205 58 ((hi 205 58) + (1 : Int32))) hl)) else none := by
  rw [mj_den_eq, f275_39]
  exact zt_aload_n rfl rfl (zt_getr (mjkd205 _ _ _ _) (mjhr205_59 w c) rfl (zt_aload_n rfl rfl (zt_geti (mjkd205 _ _ _ _) rfl rfl (zt_iload_n rfl rfl (zt_iast (mjkd237 _ _ _ _) (mjln237 _ _ _ _) rfl rfl (zt_aload_n rfl rfl (zt_aload_n rfl rfl (zt_geti (mjkd205 _ _ _ _) rfl rfl (zt_iconst rfl (zt_iadd rfl (zt_puti (mjkd205 _ _ _ _) rfl rfl (zt_aload_n rfl rfl (zt_geti (mjkd205 _ _ _ _) rfl rfl (zt_ireturn0))))))))))))))
set_option maxRecDepth 100000 in
theorem f276_0 : mj_find (mj_P 276).2.2.2.2 0 = [(.iconst 0, 1, 0, []), (.istore_n 1, 1, 0, [])] := rfl
set_option maxRecDepth 100000 in
theorem q276_0 (E : mj_E) (d w c : Nat) (hi : Nat → Nat → Int32) (hl : Nat → Nat → Int64) : mj_den mj_P E d 276 0 [Value.ref 205, Value.float 0, Value.float 0, Value.float 0] [] (mj_hw w c hi hl) = mj_den mj_P E d 276 2 [Value.ref 205, Value.int (0 : Int32), Value.float 0, Value.float 0] [] (mj_hw w c hi hl) := by
  rw [mj_den_eq, f276_0]
  exact zt_iconst rfl (zt_istore_n (Nat.le_of_ble_eq_true rfl) rfl rfl (zt_end rfl))
set_option maxRecDepth 100000 in
theorem f276_2 : mj_find (mj_P 276).2.2.2.2 2 = [(.iload_n 1, 1, 0, []), (.aload_n 0, 1, 0, []), (.getfield 488, 3, 0, [12, 58, 0, 1468]), (.if_icmp .ge 78, 3, 0, [85]), (.iconst 0, 1, 0, []), (.istore_n 2, 1, 0, []), (.iconst 0, 1, 0, []), (.istore_n 3, 1, 0, [])] := rfl
set_option maxRecDepth 100000 in
theorem q276_2 (E : mj_E) (d w c : Nat) (hi : Nat → Nat → Int32) (hl : Nat → Nat → Int64) (v1 : Int32) : mj_den mj_P E d 276 2 [Value.ref 205, Value.int v1, Value.float 0, Value.float 0] [] (mj_hw w c hi hl) = if (hi 205 58) ≤ v1 then mj_den mj_P E d 276 85 [Value.ref 205, Value.int v1, Value.float 0, Value.float 0] [] (mj_hw w c hi hl) else mj_den mj_P E d 276 14 [Value.ref 205, Value.int v1, Value.int (0 : Int32), Value.int (0 : Int32)] [] (mj_hw w c hi hl) := by
  rw [mj_den_eq, f276_2]
  exact zt_iload_n rfl rfl (zt_aload_n rfl rfl (zt_geti (mjkd205 _ _ _ _) rfl rfl (zt_icmp_ge rfl rfl (zt_iconst rfl (zt_istore_n (Nat.le_of_ble_eq_true rfl) rfl rfl (zt_iconst rfl (zt_istore_n (Nat.le_of_ble_eq_true rfl) rfl rfl (zt_end rfl))))))))
set_option maxRecDepth 100000 in
theorem q276_2_1 (E : mj_E) (d w c : Nat) (hi : Nat → Nat → Int32) (hl : Nat → Nat → Int64) (v1 : Int32) (v2 : Int32) (v3 : Int32) : mj_den mj_P E d 276 2 [Value.ref 205, Value.int v1, Value.int v2, Value.int v3] [] (mj_hw w c hi hl) = if (hi 205 58) ≤ v1 then mj_den mj_P E d 276 85 [Value.ref 205, Value.int v1, Value.int v2, Value.int v3] [] (mj_hw w c hi hl) else mj_den mj_P E d 276 14 [Value.ref 205, Value.int v1, Value.int (0 : Int32), Value.int (0 : Int32)] [] (mj_hw w c hi hl) := by
  rw [mj_den_eq, f276_2]
  exact zt_iload_n rfl rfl (zt_aload_n rfl rfl (zt_geti (mjkd205 _ _ _ _) rfl rfl (zt_icmp_ge rfl rfl (zt_iconst rfl (zt_istore_n (Nat.le_of_ble_eq_true rfl) rfl rfl (zt_iconst rfl (zt_istore_n (Nat.le_of_ble_eq_true rfl) rfl rfl (zt_end rfl))))))))
set_option maxRecDepth 100000 in
theorem f276_14 : mj_find (mj_P 276).2.2.2.2 14 = [(.iload_n 3, 1, 0, []), (.aload_n 0, 1, 0, []), (.getfield 488, 3, 0, [12, 58, 0, 1468]), (.if_icmp .ge 48, 3, 0, [67]), (.aload_n 0, 1, 0, []), (.getfield 107, 3, 0, [12, 59, 3, 1469]), (.iload_n 3, 1, 0, []), (.iaload, 1, 0, []), (.aload_n 0, 1, 0, []), (.getfield 107, 3, 0, [12, 59, 3, 1469]), (.iload_n 1, 1, 0, []), (.iaload, 1, 0, []), (.if_icmp .lt 23, 3, 0, [57]), (.aload_n 0, 1, 0, []), (.getfield 107, 3, 0, [12, 59, 3, 1469]), (.iload_n 3, 1, 0, []), (.iaload, 1, 0, []), (.aload_n 0, 1, 0, []), (.getfield 107, 3, 0, [12, 59, 3, 1469]), (.iload_n 1, 1, 0, []), (.iaload, 1, 0, []), (.if_icmp .ne 12, 3, 0, [61]), (.iload_n 3, 1, 0, []), (.iload_n 1, 1, 0, []), (.if_icmp .ge 7, 3, 0, [61])] := rfl
set_option maxRecDepth 100000 in
theorem q276_14 (E : mj_E) (d w c : Nat) (hi : Nat → Nat → Int32) (hl : Nat → Nat → Int64) (v1 : Int32) (v2 : Int32) (v3 : Int32) : mj_den mj_P E d 276 14 [Value.ref 205, Value.int v1, Value.int v2, Value.int v3] [] (mj_hw w c hi hl) = if (hi 205 58) ≤ v3 then mj_den mj_P E d 276 67 [Value.ref 205, Value.int v1, Value.int v2, Value.int v3] [] (mj_hw w c hi hl) else if 0 ≤ v3 ∧ (v3).toNatClampNeg < 12 then if 0 ≤ v1 ∧ (v1).toNatClampNeg < 12 then if (hi 237 ((v3).toNatClampNeg)) < (hi 237 ((v1).toNatClampNeg)) then mj_den mj_P E d 276 57 [Value.ref 205, Value.int v1, Value.int v2, Value.int v3] [] (mj_hw w c hi hl) else if 0 ≤ v3 ∧ (v3).toNatClampNeg < 12 then if 0 ≤ v1 ∧ (v1).toNatClampNeg < 12 then if ¬ (hi 237 ((v3).toNatClampNeg)) = (hi 237 ((v1).toNatClampNeg)) then mj_den mj_P E d 276 61 [Value.ref 205, Value.int v1, Value.int v2, Value.int v3] [] (mj_hw w c hi hl) else if v1 ≤ v3 then mj_den mj_P E d 276 61 [Value.ref 205, Value.int v1, Value.int v2, Value.int v3] [] (mj_hw w c hi hl) else mj_den mj_P E d 276 57 [Value.ref 205, Value.int v1, Value.int v2, Value.int v3] [] (mj_hw w c hi hl) else none else none else none else none := by
  rw [mj_den_eq, f276_14]
  exact zt_iload_n rfl rfl (zt_aload_n rfl rfl (zt_geti (mjkd205 _ _ _ _) rfl rfl (zt_icmp_ge rfl rfl (zt_aload_n rfl rfl (zt_getr (mjkd205 _ _ _ _) (mjhr205_59 w c) rfl (zt_iload_n rfl rfl (zt_iald (mjkd237 _ _ _ _) (mjln237 _ _ _ _) rfl rfl (zt_aload_n rfl rfl (zt_getr (mjkd205 _ _ _ _) (mjhr205_59 w c) rfl (zt_iload_n rfl rfl (zt_iald (mjkd237 _ _ _ _) (mjln237 _ _ _ _) rfl rfl (zt_icmp_lt rfl rfl (zt_aload_n rfl rfl (zt_getr (mjkd205 _ _ _ _) (mjhr205_59 w c) rfl (zt_iload_n rfl rfl (zt_iald (mjkd237 _ _ _ _) (mjln237 _ _ _ _) rfl rfl (zt_aload_n rfl rfl (zt_getr (mjkd205 _ _ _ _) (mjhr205_59 w c) rfl (zt_iload_n rfl rfl (zt_iald (mjkd237 _ _ _ _) (mjln237 _ _ _ _) rfl rfl (zt_icmp_ne rfl rfl (zt_iload_n rfl rfl (zt_iload_n rfl rfl (zt_icmp_ge rfl rfl (zt_end rfl)))))))))))))))))))))))))
set_option maxRecDepth 100000 in
theorem f276_57 : mj_find (mj_P 276).2.2.2.2 57 = [(.iload_n 2, 1, 0, []), (.iconst 1, 1, 1, []), (.iadd, 1, 0, []), (.istore_n 2, 1, 0, [])] := rfl
set_option maxRecDepth 100000 in
theorem q276_57 (E : mj_E) (d w c : Nat) (hi : Nat → Nat → Int32) (hl : Nat → Nat → Int64) (v1 : Int32) (v2 : Int32) (v3 : Int32) : mj_den mj_P E d 276 57 [Value.ref 205, Value.int v1, Value.int v2, Value.int v3] [] (mj_hw w c hi hl) = mj_den mj_P E d 276 61 [Value.ref 205, Value.int v1, Value.int (v2 + (1 : Int32)), Value.int v3] [] (mj_hw w c hi hl) := by
  rw [mj_den_eq, f276_57]
  exact zt_iload_n rfl rfl (zt_iconst rfl (zt_iadd rfl (zt_istore_n (Nat.le_of_ble_eq_true rfl) rfl rfl (zt_end rfl))))
set_option maxRecDepth 100000 in
theorem f276_61 : mj_find (mj_P 276).2.2.2.2 61 = [(.iinc 3 1, 3, 1, []), (.goto (-50), 3, 0, [14])] := rfl
set_option maxRecDepth 100000 in
theorem q276_61 (E : mj_E) (d w c : Nat) (hi : Nat → Nat → Int32) (hl : Nat → Nat → Int64) (v1 : Int32) (v2 : Int32) (v3 : Int32) : mj_den mj_P E d 276 61 [Value.ref 205, Value.int v1, Value.int v2, Value.int v3] [] (mj_hw w c hi hl) = mj_den mj_P E d 276 14 [Value.ref 205, Value.int v1, Value.int v2, Value.int (v3 + (1 : Int32))] [] (mj_hw w c hi hl) := by
  rw [mj_den_eq, f276_61]
  exact zt_iinc rfl (Nat.le_of_ble_eq_true rfl) rfl rfl (zt_goto rfl)
set_option maxRecDepth 100000 in
theorem f276_67 : mj_find (mj_P 276).2.2.2.2 67 = [(.aload_n 0, 1, 0, []), (.getfield 110, 3, 0, [12, 60, 3, 1470]), (.iload_n 2, 1, 0, []), (.aload_n 0, 1, 0, []), (.getfield 107, 3, 0, [12, 59, 3, 1469]), (.iload_n 1, 1, 0, []), (.iaload, 1, 0, []), (.iastore, 1, 0, []), (.iinc 1 1, 3, 1, []), (.goto (-80), 3, 0, [2])] := rfl
set_option maxRecDepth 100000 in
theorem q276_67 (E : mj_E) (d w c : Nat) (hi : Nat → Nat → Int32) (hl : Nat → Nat → Int64) (v1 : Int32) (v2 : Int32) (v3 : Int32) : mj_den mj_P E d 276 67 [Value.ref 205, Value.int v1, Value.int v2, Value.int v3] [] (mj_hw w c hi hl) = if 0 ≤ v1 ∧ (v1).toNatClampNeg < 12 then if 0 ≤ v2 ∧ (v2).toNatClampNeg < 12 then mj_den mj_P E d 276 2 [Value.ref 205, Value.int (v1 + (1 : Int32)), Value.int v2, Value.int v3] [] (mj_hw w c (mj_u hi 238 ((v2).toNatClampNeg) (hi 237 ((v1).toNatClampNeg))) hl) else none else none := by
  rw [mj_den_eq, f276_67]
  exact zt_aload_n rfl rfl (zt_getr (mjkd205 _ _ _ _) (mjhr205_60 w c) rfl (zt_iload_n rfl rfl (zt_aload_n rfl rfl (zt_getr (mjkd205 _ _ _ _) (mjhr205_59 w c) rfl (zt_iload_n rfl rfl (zt_iald (mjkd237 _ _ _ _) (mjln237 _ _ _ _) rfl rfl (zt_iast (mjkd238 _ _ _ _) (mjln238 _ _ _ _) rfl rfl (zt_iinc rfl (Nat.le_of_ble_eq_true rfl) rfl rfl (zt_goto rfl)))))))))
set_option maxRecDepth 100000 in
theorem f276_85 : mj_find (mj_P 276).2.2.2.2 85 = [(.return_, 1, 0, [])] := rfl
set_option maxRecDepth 100000 in
theorem q276_85 (E : mj_E) (d w c : Nat) (hi : Nat → Nat → Int32) (hl : Nat → Nat → Int64) (v1 : Int32) (v2 : Int32) (v3 : Int32) : mj_den mj_P E d 276 85 [Value.ref 205, Value.int v1, Value.int v2, Value.int v3] [] (mj_hw w c hi hl) = some (none, (mj_hw w c hi hl)) := by
  rw [mj_den_eq, f276_85]
  exact zt_return
set_option maxRecDepth 100000 in
theorem q276_85_1 (E : mj_E) (d w c : Nat) (hi : Nat → Nat → Int32) (hl : Nat → Nat → Int64) (v1 : Int32) : mj_den mj_P E d 276 85 [Value.ref 205, Value.int v1, Value.float 0, Value.float 0] [] (mj_hw w c hi hl) = some (none, (mj_hw w c hi hl)) := by
  rw [mj_den_eq, f276_85]
  exact zt_return
set_option maxRecDepth 100000 in
theorem f277_0 : mj_find (mj_P 277).2.2.2.2 0 = [(.iconst 0, 1, 0, []), (.istore_n 2, 1, 0, [])] := rfl
set_option maxRecDepth 100000 in
theorem q277_0 (E : mj_E) (d w c : Nat) (hi : Nat → Nat → Int32) (hl : Nat → Nat → Int64) (v1 : Int32) : mj_den mj_P E d 277 0 [Value.ref 205, Value.int v1, Value.float 0, Value.float 0, Value.float 0] [] (mj_hw w c hi hl) = mj_den mj_P E d 277 2 [Value.ref 205, Value.int v1, Value.int (0 : Int32), Value.float 0, Value.float 0] [] (mj_hw w c hi hl) := by
  rw [mj_den_eq, f277_0]
  exact zt_iconst rfl (zt_istore_n (Nat.le_of_ble_eq_true rfl) rfl rfl (zt_end rfl))
set_option maxRecDepth 100000 in
theorem f277_2 : mj_find (mj_P 277).2.2.2.2 2 = [(.iload_n 2, 1, 0, []), (.aload_n 0, 1, 0, []), (.getfield 488, 3, 0, [12, 58, 0, 1468]), (.if_icmp .ge 100, 3, 0, [107]), (.aload_n 0, 1, 0, []), (.iload_n 1, 1, 0, []), (.iload_n 2, 1, 0, []), (.invokevirtual 327, 3, 0, [0, 157, 12, 2, 1, 1832, 1834, 87, 156, 1835])] := rfl
set_option maxRecDepth 100000 in
theorem q277_2 (E : mj_E) (d w c : Nat) (hi : Nat → Nat → Int32) (hl : Nat → Nat → Int64) (v1 : Int32) (v2 : Int32) : mj_den mj_P E d 277 2 [Value.ref 205, Value.int v1, Value.int v2, Value.float 0, Value.float 0] [] (mj_hw w c hi hl) = if (hi 205 58) ≤ v2 then mj_den mj_P E d 277 107 [Value.ref 205, Value.int v1, Value.int v2, Value.float 0, Value.float 0] [] (mj_hw w c hi hl) else mj_bi (mj_dc mj_P E d 157 [Value.ref 205, Value.int v1, Value.int v2] (mj_hw w c hi hl)) (fun x1 h1 => mj_den mj_P E d 277 16 [Value.ref 205, Value.int v1, Value.int v2, Value.float 0, Value.float 0] [Value.int x1] h1) := by
  rw [mj_den_eq, f277_2]
  exact zt_iload_n rfl rfl (zt_aload_n rfl rfl (zt_geti (mjkd205 _ _ _ _) rfl rfl (zt_icmp_ge rfl rfl (zt_aload_n rfl rfl (zt_iload_n rfl rfl (zt_iload_n rfl rfl (zt_call0_1 rfl (mjkd205 _ _ _ _) (Nat.le_of_ble_eq_true rfl) rfl rfl)))))))
set_option maxRecDepth 100000 in
theorem q277_2_1 (E : mj_E) (d w c : Nat) (hi : Nat → Nat → Int32) (hl : Nat → Nat → Int64) (v1 : Int32) (v2 : Int32) (v3 : Int32) (v4 : Int32) : mj_den mj_P E d 277 2 [Value.ref 205, Value.int v1, Value.int v2, Value.int v3, Value.int v4] [] (mj_hw w c hi hl) = if (hi 205 58) ≤ v2 then mj_den mj_P E d 277 107 [Value.ref 205, Value.int v1, Value.int v2, Value.int v3, Value.int v4] [] (mj_hw w c hi hl) else mj_bi (mj_dc mj_P E d 157 [Value.ref 205, Value.int v1, Value.int v2] (mj_hw w c hi hl)) (fun x1 h1 => mj_den mj_P E d 277 16 [Value.ref 205, Value.int v1, Value.int v2, Value.int v3, Value.int v4] [Value.int x1] h1) := by
  rw [mj_den_eq, f277_2]
  exact zt_iload_n rfl rfl (zt_aload_n rfl rfl (zt_geti (mjkd205 _ _ _ _) rfl rfl (zt_icmp_ge rfl rfl (zt_aload_n rfl rfl (zt_iload_n rfl rfl (zt_iload_n rfl rfl (zt_call0_1 rfl (mjkd205 _ _ _ _) (Nat.le_of_ble_eq_true rfl) rfl rfl)))))))
set_option maxRecDepth 100000 in
theorem f277_16 : mj_find (mj_P 277).2.2.2.2 16 = [(.ifCond .ne 6, 3, 0, [22]), (.goto 82, 3, 0, [101])] := rfl
set_option maxRecDepth 100000 in
theorem q277_16 (E : mj_E) (d w c : Nat) (hi : Nat → Nat → Int32) (hl : Nat → Nat → Int64) (v1 : Int32) (v2 : Int32) (s0 : Int32) : mj_den mj_P E d 277 16 [Value.ref 205, Value.int v1, Value.int v2, Value.float 0, Value.float 0] [Value.int s0] (mj_hw w c hi hl) = if ¬ s0 = 0 then mj_den mj_P E d 277 22 [Value.ref 205, Value.int v1, Value.int v2, Value.float 0, Value.float 0] [] (mj_hw w c hi hl) else mj_den mj_P E d 277 101 [Value.ref 205, Value.int v1, Value.int v2, Value.float 0, Value.float 0] [] (mj_hw w c hi hl) := by
  rw [mj_den_eq, f277_16]
  exact zt_if_ne rfl rfl (zt_goto rfl)
set_option maxRecDepth 100000 in
theorem q277_16_1 (E : mj_E) (d w c : Nat) (hi : Nat → Nat → Int32) (hl : Nat → Nat → Int64) (v1 : Int32) (v2 : Int32) (v3 : Int32) (v4 : Int32) (s0 : Int32) : mj_den mj_P E d 277 16 [Value.ref 205, Value.int v1, Value.int v2, Value.int v3, Value.int v4] [Value.int s0] (mj_hw w c hi hl) = if ¬ s0 = 0 then mj_den mj_P E d 277 22 [Value.ref 205, Value.int v1, Value.int v2, Value.int v3, Value.int v4] [] (mj_hw w c hi hl) else mj_den mj_P E d 277 101 [Value.ref 205, Value.int v1, Value.int v2, Value.int v3, Value.int v4] [] (mj_hw w c hi hl) := by
  rw [mj_den_eq, f277_16]
  exact zt_if_ne rfl rfl (zt_goto rfl)
set_option maxRecDepth 100000 in
theorem f277_22 : mj_find (mj_P 277).2.2.2.2 22 = [(.iconst 0, 1, 0, []), (.istore_n 3, 1, 0, []), (.iconst 0, 1, 0, []), (.istore 4, 2, 0, [])] := rfl
set_option maxRecDepth 100000 in
theorem q277_22 (E : mj_E) (d w c : Nat) (hi : Nat → Nat → Int32) (hl : Nat → Nat → Int64) (v1 : Int32) (v2 : Int32) : mj_den mj_P E d 277 22 [Value.ref 205, Value.int v1, Value.int v2, Value.float 0, Value.float 0] [] (mj_hw w c hi hl) = mj_den mj_P E d 277 27 [Value.ref 205, Value.int v1, Value.int v2, Value.int (0 : Int32), Value.int (0 : Int32)] [] (mj_hw w c hi hl) := by
  rw [mj_den_eq, f277_22]
  exact zt_iconst rfl (zt_istore_n (Nat.le_of_ble_eq_true rfl) rfl rfl (zt_iconst rfl (zt_istore (Nat.le_of_ble_eq_true rfl) rfl rfl (zt_end rfl))))
set_option maxRecDepth 100000 in
theorem q277_22_1 (E : mj_E) (d w c : Nat) (hi : Nat → Nat → Int32) (hl : Nat → Nat → Int64) (v1 : Int32) (v2 : Int32) (v3 : Int32) (v4 : Int32) : mj_den mj_P E d 277 22 [Value.ref 205, Value.int v1, Value.int v2, Value.int v3, Value.int v4] [] (mj_hw w c hi hl) = mj_den mj_P E d 277 27 [Value.ref 205, Value.int v1, Value.int v2, Value.int (0 : Int32), Value.int (0 : Int32)] [] (mj_hw w c hi hl) := by
  rw [mj_den_eq, f277_22]
  exact zt_iconst rfl (zt_istore_n (Nat.le_of_ble_eq_true rfl) rfl rfl (zt_iconst rfl (zt_istore (Nat.le_of_ble_eq_true rfl) rfl rfl (zt_end rfl))))
set_option maxRecDepth 100000 in
theorem f277_27 : mj_find (mj_P 277).2.2.2.2 27 = [(.iload 4, 2, 0, []), (.aload_n 0, 1, 0, []), (.getfield 488, 3, 0, [12, 58, 0, 1468]), (.if_icmp .ge 62, 3, 0, [95]), (.aload_n 0, 1, 0, []), (.iload_n 1, 1, 0, []), (.iload 4, 2, 0, []), (.invokevirtual 327, 3, 0, [0, 157, 12, 2, 1, 1832, 1834, 87, 156, 1835])] := rfl
set_option maxRecDepth 100000 in
theorem q277_27 (E : mj_E) (d w c : Nat) (hi : Nat → Nat → Int32) (hl : Nat → Nat → Int64) (v1 : Int32) (v2 : Int32) (v3 : Int32) (v4 : Int32) : mj_den mj_P E d 277 27 [Value.ref 205, Value.int v1, Value.int v2, Value.int v3, Value.int v4] [] (mj_hw w c hi hl) = if (hi 205 58) ≤ v4 then mj_den mj_P E d 277 95 [Value.ref 205, Value.int v1, Value.int v2, Value.int v3, Value.int v4] [] (mj_hw w c hi hl) else mj_bi (mj_dc mj_P E d 157 [Value.ref 205, Value.int v1, Value.int v4] (mj_hw w c hi hl)) (fun x1 h1 => mj_den mj_P E d 277 43 [Value.ref 205, Value.int v1, Value.int v2, Value.int v3, Value.int v4] [Value.int x1] h1) := by
  rw [mj_den_eq, f277_27]
  exact zt_iload rfl rfl (zt_aload_n rfl rfl (zt_geti (mjkd205 _ _ _ _) rfl rfl (zt_icmp_ge rfl rfl (zt_aload_n rfl rfl (zt_iload_n rfl rfl (zt_iload rfl rfl (zt_call0_1 rfl (mjkd205 _ _ _ _) (Nat.le_of_ble_eq_true rfl) rfl rfl)))))))
set_option maxRecDepth 100000 in
theorem f277_43 : mj_find (mj_P 277).2.2.2.2 43 = [(.ifCond .ne 6, 3, 0, [49]), (.goto 43, 3, 0, [89])] := rfl
set_option maxRecDepth 100000 in
theorem q277_43 (E : mj_E) (d w c : Nat) (hi : Nat → Nat → Int32) (hl : Nat → Nat → Int64) (v1 : Int32) (v2 : Int32) (v3 : Int32) (v4 : Int32) (s0 : Int32) : mj_den mj_P E d 277 43 [Value.ref 205, Value.int v1, Value.int v2, Value.int v3, Value.int v4] [Value.int s0] (mj_hw w c hi hl) = if ¬ s0 = 0 then mj_den mj_P E d 277 49 [Value.ref 205, Value.int v1, Value.int v2, Value.int v3, Value.int v4] [] (mj_hw w c hi hl) else mj_den mj_P E d 277 89 [Value.ref 205, Value.int v1, Value.int v2, Value.int v3, Value.int v4] [] (mj_hw w c hi hl) := by
  rw [mj_den_eq, f277_43]
  exact zt_if_ne rfl rfl (zt_goto rfl)
set_option maxRecDepth 100000 in
theorem f277_49 : mj_find (mj_P 277).2.2.2.2 49 = [(.aload_n 0, 1, 0, []), (.getfield 107, 3, 0, [12, 59, 3, 1469]), (.iload 4, 2, 0, []), (.iaload, 1, 0, []), (.aload_n 0, 1, 0, []), (.getfield 107, 3, 0, [12, 59, 3, 1469]), (.iload_n 2, 1, 0, []), (.iaload, 1, 0, []), (.if_icmp .ne 7, 3, 0, [69]), (.iload_n 3, 1, 0, []), (.iconst 1, 1, 1, []), (.iadd, 1, 0, []), (.istore_n 3, 1, 0, [])] := rfl
set_option maxRecDepth 100000 in
theorem q277_49 (E : mj_E) (d w c : Nat) (hi : Nat → Nat → Int32) (hl : Nat → Nat → Int64) (v1 : Int32) (v2 : Int32) (v3 : Int32) (v4 : Int32) : mj_den mj_P E d 277 49 [Value.ref 205, Value.int v1, Value.int v2, Value.int v3, Value.int v4] [] (mj_hw w c hi hl) = if 0 ≤ v4 ∧ (v4).toNatClampNeg < 12 then if 0 ≤ v2 ∧ (v2).toNatClampNeg < 12 then if ¬ (hi 237 ((v4).toNatClampNeg)) = (hi 237 ((v2).toNatClampNeg)) then mj_den mj_P E d 277 69 [Value.ref 205, Value.int v1, Value.int v2, Value.int v3, Value.int v4] [] (mj_hw w c hi hl) else mj_den mj_P E d 277 69 [Value.ref 205, Value.int v1, Value.int v2, Value.int (v3 + (1 : Int32)), Value.int v4] [] (mj_hw w c hi hl) else none else none := by
  rw [mj_den_eq, f277_49]
  exact zt_aload_n rfl rfl (zt_getr (mjkd205 _ _ _ _) (mjhr205_59 w c) rfl (zt_iload rfl rfl (zt_iald (mjkd237 _ _ _ _) (mjln237 _ _ _ _) rfl rfl (zt_aload_n rfl rfl (zt_getr (mjkd205 _ _ _ _) (mjhr205_59 w c) rfl (zt_iload_n rfl rfl (zt_iald (mjkd237 _ _ _ _) (mjln237 _ _ _ _) rfl rfl (zt_icmp_ne rfl rfl (zt_iload_n rfl rfl (zt_iconst rfl (zt_iadd rfl (zt_istore_n (Nat.le_of_ble_eq_true rfl) rfl rfl (zt_end rfl)))))))))))))
set_option maxRecDepth 100000 in
theorem f277_69 : mj_find (mj_P 277).2.2.2.2 69 = [(.aload_n 0, 1, 0, []), (.getfield 110, 3, 0, [12, 60, 3, 1470]), (.iload 4, 2, 0, []), (.iaload, 1, 0, []), (.aload_n 0, 1, 0, []), (.getfield 107, 3, 0, [12, 59, 3, 1469]), (.iload_n 2, 1, 0, []), (.iaload, 1, 0, []), (.if_icmp .ne 7, 3, 0, [89]), (.iload_n 3, 1, 0, []), (.iconst 1, 1, 1, []), (.isub, 1, 0, []), (.istore_n 3, 1, 0, [])] := rfl
set_option maxRecDepth 100000 in
theorem q277_69 (E : mj_E) (d w c : Nat) (hi : Nat → Nat → Int32) (hl : Nat → Nat → Int64) (v1 : Int32) (v2 : Int32) (v3 : Int32) (v4 : Int32) : mj_den mj_P E d 277 69 [Value.ref 205, Value.int v1, Value.int v2, Value.int v3, Value.int v4] [] (mj_hw w c hi hl) = if 0 ≤ v4 ∧ (v4).toNatClampNeg < 12 then if 0 ≤ v2 ∧ (v2).toNatClampNeg < 12 then if ¬ (hi 238 ((v4).toNatClampNeg)) = (hi 237 ((v2).toNatClampNeg)) then mj_den mj_P E d 277 89 [Value.ref 205, Value.int v1, Value.int v2, Value.int v3, Value.int v4] [] (mj_hw w c hi hl) else mj_den mj_P E d 277 89 [Value.ref 205, Value.int v1, Value.int v2, Value.int (v3 - (1 : Int32)), Value.int v4] [] (mj_hw w c hi hl) else none else none := by
  rw [mj_den_eq, f277_69]
  exact zt_aload_n rfl rfl (zt_getr (mjkd205 _ _ _ _) (mjhr205_60 w c) rfl (zt_iload rfl rfl (zt_iald (mjkd238 _ _ _ _) (mjln238 _ _ _ _) rfl rfl (zt_aload_n rfl rfl (zt_getr (mjkd205 _ _ _ _) (mjhr205_59 w c) rfl (zt_iload_n rfl rfl (zt_iald (mjkd237 _ _ _ _) (mjln237 _ _ _ _) rfl rfl (zt_icmp_ne rfl rfl (zt_iload_n rfl rfl (zt_iconst rfl (zt_isub rfl (zt_istore_n (Nat.le_of_ble_eq_true rfl) rfl rfl (zt_end rfl)))))))))))))
set_option maxRecDepth 100000 in
theorem f277_89 : mj_find (mj_P 277).2.2.2.2 89 = [(.iinc 4 1, 3, 1, []), (.goto (-65), 3, 0, [27])] := rfl
set_option maxRecDepth 100000 in
theorem q277_89 (E : mj_E) (d w c : Nat) (hi : Nat → Nat → Int32) (hl : Nat → Nat → Int64) (v1 : Int32) (v2 : Int32) (v3 : Int32) (v4 : Int32) : mj_den mj_P E d 277 89 [Value.ref 205, Value.int v1, Value.int v2, Value.int v3, Value.int v4] [] (mj_hw w c hi hl) = mj_den mj_P E d 277 27 [Value.ref 205, Value.int v1, Value.int v2, Value.int v3, Value.int (v4 + (1 : Int32))] [] (mj_hw w c hi hl) := by
  rw [mj_den_eq, f277_89]
  exact zt_iinc rfl (Nat.le_of_ble_eq_true rfl) rfl rfl (zt_goto rfl)
set_option maxRecDepth 100000 in
theorem f277_95 : mj_find (mj_P 277).2.2.2.2 95 = [(.iload_n 3, 1, 0, []), (.ifCond .eq 5, 3, 0, [101]), (.iconst 0, 1, 0, []), (.ireturn, 1, 0, [1])] := rfl
set_option maxRecDepth 100000 in
theorem q277_95 (E : mj_E) (d w c : Nat) (hi : Nat → Nat → Int32) (hl : Nat → Nat → Int64) (v1 : Int32) (v2 : Int32) (v3 : Int32) (v4 : Int32) : mj_den mj_P E d 277 95 [Value.ref 205, Value.int v1, Value.int v2, Value.int v3, Value.int v4] [] (mj_hw w c hi hl) = if v3 = 0 then mj_den mj_P E d 277 101 [Value.ref 205, Value.int v1, Value.int v2, Value.int v3, Value.int v4] [] (mj_hw w c hi hl) else if (0 : Int32) = 0 ∨ (0 : Int32) = 1 then some (some (Value.int (0 : Int32)), (mj_hw w c hi hl)) else none := by
  rw [mj_den_eq, f277_95]
  exact zt_iload_n rfl rfl (zt_if_eq rfl rfl (zt_iconst rfl (zt_ireturn1)))
set_option maxRecDepth 100000 in
theorem f277_101 : mj_find (mj_P 277).2.2.2.2 101 = [(.iinc 2 1, 3, 1, []), (.goto (-102), 3, 0, [2])] := rfl
set_option maxRecDepth 100000 in
theorem q277_101 (E : mj_E) (d w c : Nat) (hi : Nat → Nat → Int32) (hl : Nat → Nat → Int64) (v1 : Int32) (v2 : Int32) : mj_den mj_P E d 277 101 [Value.ref 205, Value.int v1, Value.int v2, Value.float 0, Value.float 0] [] (mj_hw w c hi hl) = mj_den mj_P E d 277 2 [Value.ref 205, Value.int v1, Value.int (v2 + (1 : Int32)), Value.float 0, Value.float 0] [] (mj_hw w c hi hl) := by
  rw [mj_den_eq, f277_101]
  exact zt_iinc rfl (Nat.le_of_ble_eq_true rfl) rfl rfl (zt_goto rfl)
set_option maxRecDepth 100000 in
theorem q277_101_1 (E : mj_E) (d w c : Nat) (hi : Nat → Nat → Int32) (hl : Nat → Nat → Int64) (v1 : Int32) (v2 : Int32) (v3 : Int32) (v4 : Int32) : mj_den mj_P E d 277 101 [Value.ref 205, Value.int v1, Value.int v2, Value.int v3, Value.int v4] [] (mj_hw w c hi hl) = mj_den mj_P E d 277 2 [Value.ref 205, Value.int v1, Value.int (v2 + (1 : Int32)), Value.int v3, Value.int v4] [] (mj_hw w c hi hl) := by
  rw [mj_den_eq, f277_101]
  exact zt_iinc rfl (Nat.le_of_ble_eq_true rfl) rfl rfl (zt_goto rfl)
set_option maxRecDepth 100000 in
theorem f277_107 : mj_find (mj_P 277).2.2.2.2 107 = [(.iconst 1, 1, 1, []), (.ireturn, 1, 0, [1])] := rfl
set_option maxRecDepth 100000 in
theorem q277_107 (E : mj_E) (d w c : Nat) (hi : Nat → Nat → Int32) (hl : Nat → Nat → Int64) (v1 : Int32) (v2 : Int32) (v3 : Int32) (v4 : Int32) : mj_den mj_P E d 277 107 [Value.ref 205, Value.int v1, Value.int v2, Value.int v3, Value.int v4] [] (mj_hw w c hi hl) = if (1 : Int32) = 0 ∨ (1 : Int32) = 1 then some (some (Value.int (1 : Int32)), (mj_hw w c hi hl)) else none := by
  rw [mj_den_eq, f277_107]
  exact zt_iconst rfl (zt_ireturn1)
set_option maxRecDepth 100000 in
theorem q277_107_1 (E : mj_E) (d w c : Nat) (hi : Nat → Nat → Int32) (hl : Nat → Nat → Int64) (v1 : Int32) (v2 : Int32) : mj_den mj_P E d 277 107 [Value.ref 205, Value.int v1, Value.int v2, Value.float 0, Value.float 0] [] (mj_hw w c hi hl) = if (1 : Int32) = 0 ∨ (1 : Int32) = 1 then some (some (Value.int (1 : Int32)), (mj_hw w c hi hl)) else none := by
  rw [mj_den_eq, f277_107]
  exact zt_iconst rfl (zt_ireturn1)
set_option maxRecDepth 100000 in
theorem f278_0 : mj_find (mj_P 278).2.2.2.2 0 = [(.aload_n 0, 1, 0, []), (.invokevirtual 491, 3, 0, [0, 276, 12, 0, 0, 2121, 2123, 133, 156, 2124])] := rfl
set_option maxRecDepth 100000 in
theorem q278_0 (E : mj_E) (d w c : Nat) (hi : Nat → Nat → Int32) (hl : Nat → Nat → Int64) : mj_den mj_P E d 278 0 [Value.ref 205, Value.float 0, Value.float 0, Value.float 0, Value.float 0] [] (mj_hw w c hi hl) = mj_bv (mj_dc mj_P E d 276 [Value.ref 205] (mj_hw w c hi hl)) (fun h1 => mj_den mj_P E d 278 4 [Value.ref 205, Value.float 0, Value.float 0, Value.float 0, Value.float 0] [] h1) := by
  rw [mj_den_eq, f278_0]
  exact zt_aload_n rfl rfl (zt_call0_0 rfl (mjkd205 _ _ _ _) (Nat.le_of_ble_eq_true rfl) rfl rfl)
set_option maxRecDepth 100000 in
theorem f278_4 : mj_find (mj_P 278).2.2.2.2 4 = [(.iconst 0, 1, 0, []), (.istore_n 1, 1, 0, []), (.iconst 0, 1, 0, []), (.istore_n 2, 1, 0, [])] := rfl
set_option maxRecDepth 100000 in
theorem q278_4 (E : mj_E) (d w c : Nat) (hi : Nat → Nat → Int32) (hl : Nat → Nat → Int64) : mj_den mj_P E d 278 4 [Value.ref 205, Value.float 0, Value.float 0, Value.float 0, Value.float 0] [] (mj_hw w c hi hl) = mj_den mj_P E d 278 8 [Value.ref 205, Value.int (0 : Int32), Value.int (0 : Int32), Value.float 0, Value.float 0] [] (mj_hw w c hi hl) := by
  rw [mj_den_eq, f278_4]
  exact zt_iconst rfl (zt_istore_n (Nat.le_of_ble_eq_true rfl) rfl rfl (zt_iconst rfl (zt_istore_n (Nat.le_of_ble_eq_true rfl) rfl rfl (zt_end rfl))))
set_option maxRecDepth 100000 in
theorem f278_8 : mj_find (mj_P 278).2.2.2.2 8 = [(.iload_n 2, 1, 0, []), (.aload_n 0, 1, 0, []), (.getfield 488, 3, 0, [12, 58, 0, 1468]), (.if_icmp .ge 30, 3, 0, [43]), (.aload_n 0, 1, 0, []), (.getfield 107, 3, 0, [12, 59, 3, 1469]), (.iload_n 2, 1, 0, []), (.iaload, 1, 0, []), (.aload_n 0, 1, 0, []), (.getfield 110, 3, 0, [12, 60, 3, 1470]), (.iload_n 2, 1, 0, []), (.iaload, 1, 0, []), (.if_icmp .eq 9, 3, 0, [37]), (.iload_n 1, 1, 0, []), (.iconst 1, 1, 1, []), (.iload_n 2, 1, 0, []), (.ishl, 1, 0, []), (.ior, 1, 0, []), (.istore_n 1, 1, 0, [])] := rfl
set_option maxRecDepth 100000 in
theorem q278_8 (E : mj_E) (d w c : Nat) (hi : Nat → Nat → Int32) (hl : Nat → Nat → Int64) (v1 : Int32) (v2 : Int32) : mj_den mj_P E d 278 8 [Value.ref 205, Value.int v1, Value.int v2, Value.float 0, Value.float 0] [] (mj_hw w c hi hl) = if (hi 205 58) ≤ v2 then mj_den mj_P E d 278 43 [Value.ref 205, Value.int v1, Value.int v2, Value.float 0, Value.float 0] [] (mj_hw w c hi hl) else if 0 ≤ v2 ∧ (v2).toNatClampNeg < 12 then if 0 ≤ v2 ∧ (v2).toNatClampNeg < 12 then if (hi 237 ((v2).toNatClampNeg)) = (hi 238 ((v2).toNatClampNeg)) then mj_den mj_P E d 278 37 [Value.ref 205, Value.int v1, Value.int v2, Value.float 0, Value.float 0] [] (mj_hw w c hi hl) else mj_den mj_P E d 278 37 [Value.ref 205, Value.int (v1 ||| ((1 : Int32) <<< (v2 &&& 31))), Value.int v2, Value.float 0, Value.float 0] [] (mj_hw w c hi hl) else none else none := by
  rw [mj_den_eq, f278_8]
  exact zt_iload_n rfl rfl (zt_aload_n rfl rfl (zt_geti (mjkd205 _ _ _ _) rfl rfl (zt_icmp_ge rfl rfl (zt_aload_n rfl rfl (zt_getr (mjkd205 _ _ _ _) (mjhr205_59 w c) rfl (zt_iload_n rfl rfl (zt_iald (mjkd237 _ _ _ _) (mjln237 _ _ _ _) rfl rfl (zt_aload_n rfl rfl (zt_getr (mjkd205 _ _ _ _) (mjhr205_60 w c) rfl (zt_iload_n rfl rfl (zt_iald (mjkd238 _ _ _ _) (mjln238 _ _ _ _) rfl rfl (zt_icmp_eq rfl rfl (zt_iload_n rfl rfl (zt_iconst rfl (zt_iload_n rfl rfl (zt_ishl rfl (zt_ior rfl (zt_istore_n (Nat.le_of_ble_eq_true rfl) rfl rfl (zt_end rfl)))))))))))))))))))
set_option maxRecDepth 100000 in
theorem f278_37 : mj_find (mj_P 278).2.2.2.2 37 = [(.iinc 2 1, 3, 1, []), (.goto (-32), 3, 0, [8])] := rfl
set_option maxRecDepth 100000 in
theorem q278_37 (E : mj_E) (d w c : Nat) (hi : Nat → Nat → Int32) (hl : Nat → Nat → Int64) (v1 : Int32) (v2 : Int32) : mj_den mj_P E d 278 37 [Value.ref 205, Value.int v1, Value.int v2, Value.float 0, Value.float 0] [] (mj_hw w c hi hl) = mj_den mj_P E d 278 8 [Value.ref 205, Value.int v1, Value.int (v2 + (1 : Int32)), Value.float 0, Value.float 0] [] (mj_hw w c hi hl) := by
  rw [mj_den_eq, f278_37]
  exact zt_iinc rfl (Nat.le_of_ble_eq_true rfl) rfl rfl (zt_goto rfl)
set_option maxRecDepth 100000 in
theorem f278_43 : mj_find (mj_P 278).2.2.2.2 43 = [(.aload_n 0, 1, 0, []), (.getfield 113, 3, 0, [12, 61, 3, 1471]), (.iconst 0, 1, 0, []), (.iconst 0, 1, 0, []), (.iastore, 1, 0, []), (.iconst 1, 1, 1, []), (.istore_n 2, 1, 0, [])] := rfl
set_option maxRecDepth 100000 in
theorem q278_43 (E : mj_E) (d w c : Nat) (hi : Nat → Nat → Int32) (hl : Nat → Nat → Int64) (v1 : Int32) (v2 : Int32) : mj_den mj_P E d 278 43 [Value.ref 205, Value.int v1, Value.int v2, Value.float 0, Value.float 0] [] (mj_hw w c hi hl) = if 0 ≤ (0 : Int32) ∧ ((0 : Int32)).toNatClampNeg < 4096 then mj_den mj_P E d 278 52 [Value.ref 205, Value.int v1, Value.int (1 : Int32), Value.float 0, Value.float 0] [] (mj_hw w c (mj_u hi 239 (((0 : Int32)).toNatClampNeg) (0 : Int32)) hl) else none := by
  rw [mj_den_eq, f278_43]
  exact zt_aload_n rfl rfl (zt_getr (mjkd205 _ _ _ _) (mjhr205_61 w c) rfl (zt_iconst rfl (zt_iconst rfl (zt_iast (mjkd239 _ _ _ _) (mjln239 _ _ _ _) rfl rfl (zt_iconst rfl (zt_istore_n (Nat.le_of_ble_eq_true rfl) rfl rfl (zt_end rfl)))))))
set_option maxRecDepth 100000 in
theorem f278_52 : mj_find (mj_P 278).2.2.2.2 52 = [(.iload_n 2, 1, 0, []), (.iload_n 1, 1, 0, []), (.if_icmp .gt 90, 3, 0, [144]), (.iload_n 2, 1, 0, []), (.iload_n 1, 1, 0, []), (.iconst (-1), 1, (-1), []), (.ixor, 1, 0, []), (.iand, 1, 0, []), (.ifCond .eq 6, 3, 0, [68]), (.goto 73, 3, 0, [138])] := rfl
set_option maxRecDepth 100000 in
theorem q278_52 (E : mj_E) (d w c : Nat) (hi : Nat → Nat → Int32) (hl : Nat → Nat → Int64) (v1 : Int32) (v2 : Int32) : mj_den mj_P E d 278 52 [Value.ref 205, Value.int v1, Value.int v2, Value.float 0, Value.float 0] [] (mj_hw w c hi hl) = if v1 < v2 then mj_den mj_P E d 278 144 [Value.ref 205, Value.int v1, Value.int v2, Value.float 0, Value.float 0] [] (mj_hw w c hi hl) else if (v2 &&& (v1 ^^^ (-1 : Int32))) = 0 then mj_den mj_P E d 278 68 [Value.ref 205, Value.int v1, Value.int v2, Value.float 0, Value.float 0] [] (mj_hw w c hi hl) else mj_den mj_P E d 278 138 [Value.ref 205, Value.int v1, Value.int v2, Value.float 0, Value.float 0] [] (mj_hw w c hi hl) := by
  rw [mj_den_eq, f278_52]
  exact zt_iload_n rfl rfl (zt_iload_n rfl rfl (zt_icmp_gt rfl rfl (zt_iload_n rfl rfl (zt_iload_n rfl rfl (zt_iconst rfl (zt_ixor rfl (zt_iand rfl (zt_if_eq rfl rfl (zt_goto rfl)))))))))
set_option maxRecDepth 100000 in
theorem q278_52_1 (E : mj_E) (d w c : Nat) (hi : Nat → Nat → Int32) (hl : Nat → Nat → Int64) (v1 : Int32) (v2 : Int32) (v3 : Int32) (v4 : Int32) : mj_den mj_P E d 278 52 [Value.ref 205, Value.int v1, Value.int v2, Value.int v3, Value.int v4] [] (mj_hw w c hi hl) = if v1 < v2 then mj_den mj_P E d 278 144 [Value.ref 205, Value.int v1, Value.int v2, Value.int v3, Value.int v4] [] (mj_hw w c hi hl) else if (v2 &&& (v1 ^^^ (-1 : Int32))) = 0 then mj_den mj_P E d 278 68 [Value.ref 205, Value.int v1, Value.int v2, Value.int v3, Value.int v4] [] (mj_hw w c hi hl) else mj_den mj_P E d 278 138 [Value.ref 205, Value.int v1, Value.int v2, Value.int v3, Value.int v4] [] (mj_hw w c hi hl) := by
  rw [mj_den_eq, f278_52]
  exact zt_iload_n rfl rfl (zt_iload_n rfl rfl (zt_icmp_gt rfl rfl (zt_iload_n rfl rfl (zt_iload_n rfl rfl (zt_iconst rfl (zt_ixor rfl (zt_iand rfl (zt_if_eq rfl rfl (zt_goto rfl)))))))))
set_option maxRecDepth 100000 in
theorem f278_68 : mj_find (mj_P 278).2.2.2.2 68 = [(.iconst 0, 1, 0, []), (.istore_n 3, 1, 0, []), (.iconst 0, 1, 0, []), (.istore 4, 2, 0, [])] := rfl
set_option maxRecDepth 100000 in
theorem q278_68 (E : mj_E) (d w c : Nat) (hi : Nat → Nat → Int32) (hl : Nat → Nat → Int64) (v1 : Int32) (v2 : Int32) : mj_den mj_P E d 278 68 [Value.ref 205, Value.int v1, Value.int v2, Value.float 0, Value.float 0] [] (mj_hw w c hi hl) = mj_den mj_P E d 278 73 [Value.ref 205, Value.int v1, Value.int v2, Value.int (0 : Int32), Value.int (0 : Int32)] [] (mj_hw w c hi hl) := by
  rw [mj_den_eq, f278_68]
  exact zt_iconst rfl (zt_istore_n (Nat.le_of_ble_eq_true rfl) rfl rfl (zt_iconst rfl (zt_istore (Nat.le_of_ble_eq_true rfl) rfl rfl (zt_end rfl))))
set_option maxRecDepth 100000 in
theorem q278_68_1 (E : mj_E) (d w c : Nat) (hi : Nat → Nat → Int32) (hl : Nat → Nat → Int64) (v1 : Int32) (v2 : Int32) (v3 : Int32) (v4 : Int32) : mj_den mj_P E d 278 68 [Value.ref 205, Value.int v1, Value.int v2, Value.int v3, Value.int v4] [] (mj_hw w c hi hl) = mj_den mj_P E d 278 73 [Value.ref 205, Value.int v1, Value.int v2, Value.int (0 : Int32), Value.int (0 : Int32)] [] (mj_hw w c hi hl) := by
  rw [mj_den_eq, f278_68]
  exact zt_iconst rfl (zt_istore_n (Nat.le_of_ble_eq_true rfl) rfl rfl (zt_iconst rfl (zt_istore (Nat.le_of_ble_eq_true rfl) rfl rfl (zt_end rfl))))
set_option maxRecDepth 100000 in
theorem f278_73 : mj_find (mj_P 278).2.2.2.2 73 = [(.iload 4, 2, 0, []), (.aload_n 0, 1, 0, []), (.getfield 488, 3, 0, [12, 58, 0, 1468]), (.if_icmp .ge 38, 3, 0, [117]), (.aload_n 0, 1, 0, []), (.iload_n 2, 1, 0, []), (.iload 4, 2, 0, []), (.invokevirtual 327, 3, 0, [0, 157, 12, 2, 1, 1832, 1834, 87, 156, 1835])] := rfl
set_option maxRecDepth 100000 in
theorem q278_73 (E : mj_E) (d w c : Nat) (hi : Nat → Nat → Int32) (hl : Nat → Nat → Int64) (v1 : Int32) (v2 : Int32) (v3 : Int32) (v4 : Int32) : mj_den mj_P E d 278 73 [Value.ref 205, Value.int v1, Value.int v2, Value.int v3, Value.int v4] [] (mj_hw w c hi hl) = if (hi 205 58) ≤ v4 then mj_den mj_P E d 278 117 [Value.ref 205, Value.int v1, Value.int v2, Value.int v3, Value.int v4] [] (mj_hw w c hi hl) else mj_bi (mj_dc mj_P E d 157 [Value.ref 205, Value.int v2, Value.int v4] (mj_hw w c hi hl)) (fun x1 h1 => mj_den mj_P E d 278 89 [Value.ref 205, Value.int v1, Value.int v2, Value.int v3, Value.int v4] [Value.int x1] h1) := by
  rw [mj_den_eq, f278_73]
  exact zt_iload rfl rfl (zt_aload_n rfl rfl (zt_geti (mjkd205 _ _ _ _) rfl rfl (zt_icmp_ge rfl rfl (zt_aload_n rfl rfl (zt_iload_n rfl rfl (zt_iload rfl rfl (zt_call0_1 rfl (mjkd205 _ _ _ _) (Nat.le_of_ble_eq_true rfl) rfl rfl)))))))
set_option maxRecDepth 100000 in
theorem f278_89 : mj_find (mj_P 278).2.2.2.2 89 = [(.ifCond .eq 22, 3, 0, [111]), (.aload_n 0, 1, 0, []), (.iload_n 3, 1, 0, []), (.aload_n 0, 1, 0, []), (.getfield 113, 3, 0, [12, 61, 3, 1471]), (.iload_n 2, 1, 0, []), (.iconst 1, 1, 1, []), (.iload 4, 2, 0, []), (.ishl, 1, 0, []), (.iconst (-1), 1, (-1), []), (.ixor, 1, 0, []), (.iand, 1, 0, []), (.iaload, 1, 0, []), (.invokevirtual 383, 3, 0, [0, 154, 12, 2, 1, 1898, 1900, 103, 156, 1901])] := rfl
set_option maxRecDepth 100000 in
theorem q278_89 (E : mj_E) (d w c : Nat) (hi : Nat → Nat → Int32) (hl : Nat → Nat → Int64) (v1 : Int32) (v2 : Int32) (v3 : Int32) (v4 : Int32) (s0 : Int32) : mj_den mj_P E d 278 89 [Value.ref 205, Value.int v1, Value.int v2, Value.int v3, Value.int v4] [Value.int s0] (mj_hw w c hi hl) = if s0 = 0 then mj_den mj_P E d 278 111 [Value.ref 205, Value.int v1, Value.int v2, Value.int v3, Value.int v4] [] (mj_hw w c hi hl) else if 0 ≤ (v2 &&& (((1 : Int32) <<< (v4 &&& 31)) ^^^ (-1 : Int32))) ∧ ((v2 &&& (((1 : Int32) <<< (v4 &&& 31)) ^^^ (-1 : Int32)))).toNatClampNeg < 4096 then mj_bi (mj_dc mj_P E d 154 [Value.ref 205, Value.int v3, Value.int (hi 239 (((v2 &&& (((1 : Int32) <<< (v4 &&& 31)) ^^^ (-1 : Int32)))).toNatClampNeg))] (mj_hw w c hi hl)) (fun x1 h1 => mj_den mj_P E d 278 110 [Value.ref 205, Value.int v1, Value.int v2, Value.int v3, Value.int v4] [Value.int x1] h1) else none := by
  rw [mj_den_eq, f278_89]
  exact zt_if_eq rfl rfl (zt_aload_n rfl rfl (zt_iload_n rfl rfl (zt_aload_n rfl rfl (zt_getr (mjkd205 _ _ _ _) (mjhr205_61 w c) rfl (zt_iload_n rfl rfl (zt_iconst rfl (zt_iload rfl rfl (zt_ishl rfl (zt_iconst rfl (zt_ixor rfl (zt_iand rfl (zt_iald (mjkd239 _ _ _ _) (mjln239 _ _ _ _) rfl rfl (zt_call0_1 rfl (mjkd205 _ _ _ _) (Nat.le_of_ble_eq_true rfl) rfl rfl)))))))))))))
set_option maxRecDepth 100000 in
theorem f278_110 : mj_find (mj_P 278).2.2.2.2 110 = [(.istore_n 3, 1, 0, [])] := rfl
set_option maxRecDepth 100000 in
theorem q278_110 (E : mj_E) (d w c : Nat) (hi : Nat → Nat → Int32) (hl : Nat → Nat → Int64) (v1 : Int32) (v2 : Int32) (v3 : Int32) (v4 : Int32) (s0 : Int32) : mj_den mj_P E d 278 110 [Value.ref 205, Value.int v1, Value.int v2, Value.int v3, Value.int v4] [Value.int s0] (mj_hw w c hi hl) = mj_den mj_P E d 278 111 [Value.ref 205, Value.int v1, Value.int v2, Value.int s0, Value.int v4] [] (mj_hw w c hi hl) := by
  rw [mj_den_eq, f278_110]
  exact zt_istore_n (Nat.le_of_ble_eq_true rfl) rfl rfl (zt_end rfl)
set_option maxRecDepth 100000 in
theorem f278_111 : mj_find (mj_P 278).2.2.2.2 111 = [(.iinc 4 1, 3, 1, []), (.goto (-41), 3, 0, [73])] := rfl
set_option maxRecDepth 100000 in
theorem q278_111 (E : mj_E) (d w c : Nat) (hi : Nat → Nat → Int32) (hl : Nat → Nat → Int64) (v1 : Int32) (v2 : Int32) (v3 : Int32) (v4 : Int32) : mj_den mj_P E d 278 111 [Value.ref 205, Value.int v1, Value.int v2, Value.int v3, Value.int v4] [] (mj_hw w c hi hl) = mj_den mj_P E d 278 73 [Value.ref 205, Value.int v1, Value.int v2, Value.int v3, Value.int (v4 + (1 : Int32))] [] (mj_hw w c hi hl) := by
  rw [mj_den_eq, f278_111]
  exact zt_iinc rfl (Nat.le_of_ble_eq_true rfl) rfl rfl (zt_goto rfl)
set_option maxRecDepth 100000 in
theorem f278_117 : mj_find (mj_P 278).2.2.2.2 117 = [(.aload_n 0, 1, 0, []), (.getfield 113, 3, 0, [12, 61, 3, 1471]), (.iload_n 2, 1, 0, []), (.iload_n 3, 1, 0, []), (.aload_n 0, 1, 0, []), (.iload_n 2, 1, 0, []), (.invokevirtual 494, 3, 0, [0, 277, 12, 1, 1, 2125, 2127, 134, 156, 2128])] := rfl
set_option maxRecDepth 100000 in
theorem q278_117 (E : mj_E) (d w c : Nat) (hi : Nat → Nat → Int32) (hl : Nat → Nat → Int64) (v1 : Int32) (v2 : Int32) (v3 : Int32) (v4 : Int32) : mj_den mj_P E d 278 117 [Value.ref 205, Value.int v1, Value.int v2, Value.int v3, Value.int v4] [] (mj_hw w c hi hl) = mj_bi (mj_dc mj_P E d 277 [Value.ref 205, Value.int v2] (mj_hw w c hi hl)) (fun x1 h1 => mj_den mj_P E d 278 128 [Value.ref 205, Value.int v1, Value.int v2, Value.int v3, Value.int v4] [Value.int x1, Value.int v3, Value.int v2, Value.ref 239] h1) := by
  rw [mj_den_eq, f278_117]
  exact zt_aload_n rfl rfl (zt_getr (mjkd205 _ _ _ _) (mjhr205_61 w c) rfl (zt_iload_n rfl rfl (zt_iload_n rfl rfl (zt_aload_n rfl rfl (zt_iload_n rfl rfl (zt_call0_1 rfl (mjkd205 _ _ _ _) (Nat.le_of_ble_eq_true rfl) rfl rfl))))))
set_option maxRecDepth 100000 in
theorem f278_128 : mj_find (mj_P 278).2.2.2.2 128 = [(.ifCond .eq 7, 3, 0, [135]), (.iconst 1, 1, 1, []), (.goto 4, 3, 0, [136])] := rfl
set_option maxRecDepth 100000 in
theorem q278_128 (E : mj_E) (d w c : Nat) (hi : Nat → Nat → Int32) (hl : Nat → Nat → Int64) (v1 : Int32) (v2 : Int32) (v3 : Int32) (v4 : Int32) (s0 : Int32) (s1 : Int32) (s2 : Int32) : mj_den mj_P E d 278 128 [Value.ref 205, Value.int v1, Value.int v2, Value.int v3, Value.int v4] [Value.int s0, Value.int s1, Value.int s2, Value.ref 239] (mj_hw w c hi hl) = if s0 = 0 then mj_den mj_P E d 278 135 [Value.ref 205, Value.int v1, Value.int v2, Value.int v3, Value.int v4] [Value.int s1, Value.int s2, Value.ref 239] (mj_hw w c hi hl) else mj_den mj_P E d 278 136 [Value.ref 205, Value.int v1, Value.int v2, Value.int v3, Value.int v4] [Value.int (1 : Int32), Value.int s1, Value.int s2, Value.ref 239] (mj_hw w c hi hl) := by
  rw [mj_den_eq, f278_128]
  exact zt_if_eq rfl rfl (zt_iconst rfl (zt_goto rfl))
set_option maxRecDepth 100000 in
theorem f278_135 : mj_find (mj_P 278).2.2.2.2 135 = [(.iconst 0, 1, 0, [])] := rfl
set_option maxRecDepth 100000 in
theorem q278_135 (E : mj_E) (d w c : Nat) (hi : Nat → Nat → Int32) (hl : Nat → Nat → Int64) (v1 : Int32) (v2 : Int32) (v3 : Int32) (v4 : Int32) (s0 : Int32) (s1 : Int32) : mj_den mj_P E d 278 135 [Value.ref 205, Value.int v1, Value.int v2, Value.int v3, Value.int v4] [Value.int s0, Value.int s1, Value.ref 239] (mj_hw w c hi hl) = mj_den mj_P E d 278 136 [Value.ref 205, Value.int v1, Value.int v2, Value.int v3, Value.int v4] [Value.int (0 : Int32), Value.int s0, Value.int s1, Value.ref 239] (mj_hw w c hi hl) := by
  rw [mj_den_eq, f278_135]
  exact zt_iconst rfl (zt_end rfl)
set_option maxRecDepth 100000 in
theorem f278_136 : mj_find (mj_P 278).2.2.2.2 136 = [(.iadd, 1, 0, []), (.iastore, 1, 0, [])] := rfl
set_option maxRecDepth 100000 in
theorem q278_136 (E : mj_E) (d w c : Nat) (hi : Nat → Nat → Int32) (hl : Nat → Nat → Int64) (v1 : Int32) (v2 : Int32) (v3 : Int32) (v4 : Int32) (s0 : Int32) (s1 : Int32) (s2 : Int32) : mj_den mj_P E d 278 136 [Value.ref 205, Value.int v1, Value.int v2, Value.int v3, Value.int v4] [Value.int s0, Value.int s1, Value.int s2, Value.ref 239] (mj_hw w c hi hl) = if 0 ≤ s2 ∧ (s2).toNatClampNeg < 4096 then mj_den mj_P E d 278 138 [Value.ref 205, Value.int v1, Value.int v2, Value.int v3, Value.int v4] [] (mj_hw w c (mj_u hi 239 ((s2).toNatClampNeg) (s1 + s0)) hl) else none := by
  rw [mj_den_eq, f278_136]
  exact zt_iadd rfl (zt_iast (mjkd239 _ _ _ _) (mjln239 _ _ _ _) rfl rfl (zt_end rfl))
set_option maxRecDepth 100000 in
theorem f278_138 : mj_find (mj_P 278).2.2.2.2 138 = [(.iinc 2 1, 3, 1, []), (.goto (-89), 3, 0, [52])] := rfl
set_option maxRecDepth 100000 in
theorem q278_138 (E : mj_E) (d w c : Nat) (hi : Nat → Nat → Int32) (hl : Nat → Nat → Int64) (v1 : Int32) (v2 : Int32) : mj_den mj_P E d 278 138 [Value.ref 205, Value.int v1, Value.int v2, Value.float 0, Value.float 0] [] (mj_hw w c hi hl) = mj_den mj_P E d 278 52 [Value.ref 205, Value.int v1, Value.int (v2 + (1 : Int32)), Value.float 0, Value.float 0] [] (mj_hw w c hi hl) := by
  rw [mj_den_eq, f278_138]
  exact zt_iinc rfl (Nat.le_of_ble_eq_true rfl) rfl rfl (zt_goto rfl)
set_option maxRecDepth 100000 in
theorem q278_138_1 (E : mj_E) (d w c : Nat) (hi : Nat → Nat → Int32) (hl : Nat → Nat → Int64) (v1 : Int32) (v2 : Int32) (v3 : Int32) (v4 : Int32) : mj_den mj_P E d 278 138 [Value.ref 205, Value.int v1, Value.int v2, Value.int v3, Value.int v4] [] (mj_hw w c hi hl) = mj_den mj_P E d 278 52 [Value.ref 205, Value.int v1, Value.int (v2 + (1 : Int32)), Value.int v3, Value.int v4] [] (mj_hw w c hi hl) := by
  rw [mj_den_eq, f278_138]
  exact zt_iinc rfl (Nat.le_of_ble_eq_true rfl) rfl rfl (zt_goto rfl)
set_option maxRecDepth 100000 in
theorem f278_144 : mj_find (mj_P 278).2.2.2.2 144 = [(.aload_n 0, 1, 0, []), (.iload_n 1, 1, 0, []), (.invokevirtual 336, 3, 0, [0, 156, 12, 1, 1, 1820, 1822, 84, 156, 1823])] := rfl
set_option maxRecDepth 100000 in
theorem q278_144 (E : mj_E) (d w c : Nat) (hi : Nat → Nat → Int32) (hl : Nat → Nat → Int64) (v1 : Int32) (v2 : Int32) (v3 : Int32) (v4 : Int32) : mj_den mj_P E d 278 144 [Value.ref 205, Value.int v1, Value.int v2, Value.int v3, Value.int v4] [] (mj_hw w c hi hl) = mj_bi (mj_dc mj_P E d 156 [Value.ref 205, Value.int v1] (mj_hw w c hi hl)) (fun x1 h1 => mj_den mj_P E d 278 149 [Value.ref 205, Value.int v1, Value.int v2, Value.int v3, Value.int v4] [Value.int x1] h1) := by
  rw [mj_den_eq, f278_144]
  exact zt_aload_n rfl rfl (zt_iload_n rfl rfl (zt_call0_1 rfl (mjkd205 _ _ _ _) (Nat.le_of_ble_eq_true rfl) rfl rfl))
set_option maxRecDepth 100000 in
theorem q278_144_1 (E : mj_E) (d w c : Nat) (hi : Nat → Nat → Int32) (hl : Nat → Nat → Int64) (v1 : Int32) (v2 : Int32) : mj_den mj_P E d 278 144 [Value.ref 205, Value.int v1, Value.int v2, Value.float 0, Value.float 0] [] (mj_hw w c hi hl) = mj_bi (mj_dc mj_P E d 156 [Value.ref 205, Value.int v1] (mj_hw w c hi hl)) (fun x1 h1 => mj_den mj_P E d 278 149 [Value.ref 205, Value.int v1, Value.int v2, Value.float 0, Value.float 0] [Value.int x1] h1) := by
  rw [mj_den_eq, f278_144]
  exact zt_aload_n rfl rfl (zt_iload_n rfl rfl (zt_call0_1 rfl (mjkd205 _ _ _ _) (Nat.le_of_ble_eq_true rfl) rfl rfl))
set_option maxRecDepth 100000 in
theorem f278_149 : mj_find (mj_P 278).2.2.2.2 149 = [(.aload_n 0, 1, 0, []), (.getfield 113, 3, 0, [12, 61, 3, 1471]), (.iload_n 1, 1, 0, []), (.iaload, 1, 0, []), (.isub, 1, 0, []), (.ireturn, 1, 0, [0])] := rfl
set_option maxRecDepth 100000 in
theorem q278_149 (E : mj_E) (d w c : Nat) (hi : Nat → Nat → Int32) (hl : Nat → Nat → Int64) (v1 : Int32) (v2 : Int32) (v3 : Int32) (v4 : Int32) (s0 : Int32) : mj_den mj_P E d 278 149 [Value.ref 205, Value.int v1, Value.int v2, Value.int v3, Value.int v4] [Value.int s0] (mj_hw w c hi hl) = if 0 ≤ v1 ∧ (v1).toNatClampNeg < 4096 then some (some (Value.int (s0 - (hi 239 ((v1).toNatClampNeg)))), (mj_hw w c hi hl)) else none := by
  rw [mj_den_eq, f278_149]
  exact zt_aload_n rfl rfl (zt_getr (mjkd205 _ _ _ _) (mjhr205_61 w c) rfl (zt_iload_n rfl rfl (zt_iald (mjkd239 _ _ _ _) (mjln239 _ _ _ _) rfl rfl (zt_isub rfl (zt_ireturn0)))))
set_option maxRecDepth 100000 in
theorem q278_149_1 (E : mj_E) (d w c : Nat) (hi : Nat → Nat → Int32) (hl : Nat → Nat → Int64) (v1 : Int32) (v2 : Int32) (s0 : Int32) : mj_den mj_P E d 278 149 [Value.ref 205, Value.int v1, Value.int v2, Value.float 0, Value.float 0] [Value.int s0] (mj_hw w c hi hl) = if 0 ≤ v1 ∧ (v1).toNatClampNeg < 4096 then some (some (Value.int (s0 - (hi 239 ((v1).toNatClampNeg)))), (mj_hw w c hi hl)) else none := by
  rw [mj_den_eq, f278_149]
  exact zt_aload_n rfl rfl (zt_getr (mjkd205 _ _ _ _) (mjhr205_61 w c) rfl (zt_iload_n rfl rfl (zt_iald (mjkd239 _ _ _ _) (mjln239 _ _ _ _) rfl rfl (zt_isub rfl (zt_ireturn0)))))
set_option maxRecDepth 100000 in
theorem f279_0 : mj_find (mj_P 279).2.2.2.2 0 = [(.aload_n 0, 1, 0, []), (.iconst 0, 1, 0, []), (.putfield 122, 3, 0, [12, 0, 0, 1410]), (.aload_n 0, 1, 0, []), (.iload_n 1, 1, 0, []), (.iconst 0, 1, 0, []), (.iconst 1, 1, 1, []), (.invokevirtual 144, 3, 0, [0, 152, 12, 3, 1, 1624, 1626, 42, 156, 1627])] := rfl
set_option maxRecDepth 100000 in
theorem q279_0 (E : mj_E) (d w c : Nat) (hi : Nat → Nat → Int32) (hl : Nat → Nat → Int64) (v1 : Int32) : mj_den mj_P E d 279 0 [Value.ref 205, Value.int v1, Value.float 0, Value.float 0, Value.float 0] [] (mj_hw w c hi hl) = mj_bi (mj_dc mj_P E d 152 [Value.ref 205, Value.int v1, Value.int (0 : Int32), Value.int (1 : Int32)] (mj_hw w c (mj_u hi 205 0 (0 : Int32)) hl)) (fun x1 h1 => mj_den mj_P E d 279 12 [Value.ref 205, Value.int v1, Value.float 0, Value.float 0, Value.float 0] [Value.int x1] h1) := by
  rw [mj_den_eq, f279_0]
  exact zt_aload_n rfl rfl (zt_iconst rfl (zt_puti (mjkd205 _ _ _ _) rfl rfl (zt_aload_n rfl rfl (zt_iload_n rfl rfl (zt_iconst rfl (zt_iconst rfl (zt_call0_1 rfl (mjkd205 _ _ _ _) (Nat.le_of_ble_eq_true rfl) rfl rfl)))))))
set_option maxRecDepth 100000 in
theorem f279_12 : mj_find (mj_P 279).2.2.2.2 12 = [(.ifCond .ne 5, 3, 0, [17]), (.iconst (-1), 1, (-1), []), (.ireturn, 1, 0, [0])] := rfl
set_option maxRecDepth 100000 in
theorem q279_12 (E : mj_E) (d w c : Nat) (hi : Nat → Nat → Int32) (hl : Nat → Nat → Int64) (v1 : Int32) (s0 : Int32) : mj_den mj_P E d 279 12 [Value.ref 205, Value.int v1, Value.float 0, Value.float 0, Value.float 0] [Value.int s0] (mj_hw w c hi hl) = if ¬ s0 = 0 then mj_den mj_P E d 279 17 [Value.ref 205, Value.int v1, Value.float 0, Value.float 0, Value.float 0] [] (mj_hw w c hi hl) else some (some (Value.int (-1 : Int32)), (mj_hw w c hi hl)) := by
  rw [mj_den_eq, f279_12]
  exact zt_if_ne rfl rfl (zt_iconst rfl (zt_ireturn0))
set_option maxRecDepth 100000 in
theorem f279_17 : mj_find (mj_P 279).2.2.2.2 17 = [(.iload_n 1, 1, 0, []), (.ifCond .ne 8, 3, 0, [26]), (.aload_n 0, 1, 0, []), (.invokevirtual 497, 3, 0, [0, 278, 12, 0, 1, 2117, 2119, 132, 156, 2120])] := rfl
set_option maxRecDepth 100000 in
theorem q279_17 (E : mj_E) (d w c : Nat) (hi : Nat → Nat → Int32) (hl : Nat → Nat → Int64) (v1 : Int32) : mj_den mj_P E d 279 17 [Value.ref 205, Value.int v1, Value.float 0, Value.float 0, Value.float 0] [] (mj_hw w c hi hl) = if ¬ v1 = 0 then mj_den mj_P E d 279 26 [Value.ref 205, Value.int v1, Value.float 0, Value.float 0, Value.float 0] [] (mj_hw w c hi hl) else mj_bi (mj_dc mj_P E d 278 [Value.ref 205] (mj_hw w c hi hl)) (fun x1 h1 => mj_den mj_P E d 279 25 [Value.ref 205, Value.int v1, Value.float 0, Value.float 0, Value.float 0] [Value.int x1] h1) := by
  rw [mj_den_eq, f279_17]
  exact zt_iload_n rfl rfl (zt_if_ne rfl rfl (zt_aload_n rfl rfl (zt_call0_1 rfl (mjkd205 _ _ _ _) (Nat.le_of_ble_eq_true rfl) rfl rfl)))
set_option maxRecDepth 100000 in
theorem f279_25 : mj_find (mj_P 279).2.2.2.2 25 = [(.ireturn, 1, 0, [0])] := rfl
set_option maxRecDepth 100000 in
theorem q279_25 (E : mj_E) (d w c : Nat) (hi : Nat → Nat → Int32) (hl : Nat → Nat → Int64) (v1 : Int32) (s0 : Int32) : mj_den mj_P E d 279 25 [Value.ref 205, Value.int v1, Value.float 0, Value.float 0, Value.float 0] [Value.int s0] (mj_hw w c hi hl) = some (some (Value.int s0), (mj_hw w c hi hl)) := by
  rw [mj_den_eq, f279_25]
  exact zt_ireturn0
set_option maxRecDepth 100000 in
theorem f279_26 : mj_find (mj_P 279).2.2.2.2 26 = [(.iconst 0, 1, 0, []), (.istore_n 2, 1, 0, []), (.iconst 0, 1, 0, []), (.istore_n 3, 1, 0, [])] := rfl
set_option maxRecDepth 100000 in
theorem q279_26 (E : mj_E) (d w c : Nat) (hi : Nat → Nat → Int32) (hl : Nat → Nat → Int64) (v1 : Int32) : mj_den mj_P E d 279 26 [Value.ref 205, Value.int v1, Value.float 0, Value.float 0, Value.float 0] [] (mj_hw w c hi hl) = mj_den mj_P E d 279 30 [Value.ref 205, Value.int v1, Value.int (0 : Int32), Value.int (0 : Int32), Value.float 0] [] (mj_hw w c hi hl) := by
  rw [mj_den_eq, f279_26]
  exact zt_iconst rfl (zt_istore_n (Nat.le_of_ble_eq_true rfl) rfl rfl (zt_iconst rfl (zt_istore_n (Nat.le_of_ble_eq_true rfl) rfl rfl (zt_end rfl))))
set_option maxRecDepth 100000 in
theorem f279_30 : mj_find (mj_P 279).2.2.2.2 30 = [(.iload_n 3, 1, 0, []), (.aload_n 0, 1, 0, []), (.getfield 488, 3, 0, [12, 58, 0, 1468]), (.if_icmp .ge 49, 3, 0, [84]), (.iload_n 3, 1, 0, []), (.iconst 1, 1, 1, []), (.iadd, 1, 0, []), (.istore 4, 2, 0, [])] := rfl
set_option maxRecDepth 100000 in
theorem q279_30 (E : mj_E) (d w c : Nat) (hi : Nat → Nat → Int32) (hl : Nat → Nat → Int64) (v1 : Int32) (v2 : Int32) (v3 : Int32) : mj_den mj_P E d 279 30 [Value.ref 205, Value.int v1, Value.int v2, Value.int v3, Value.float 0] [] (mj_hw w c hi hl) = if (hi 205 58) ≤ v3 then mj_den mj_P E d 279 84 [Value.ref 205, Value.int v1, Value.int v2, Value.int v3, Value.float 0] [] (mj_hw w c hi hl) else mj_den mj_P E d 279 43 [Value.ref 205, Value.int v1, Value.int v2, Value.int v3, Value.int (v3 + (1 : Int32))] [] (mj_hw w c hi hl) := by
  rw [mj_den_eq, f279_30]
  exact zt_iload_n rfl rfl (zt_aload_n rfl rfl (zt_geti (mjkd205 _ _ _ _) rfl rfl (zt_icmp_ge rfl rfl (zt_iload_n rfl rfl (zt_iconst rfl (zt_iadd rfl (zt_istore (Nat.le_of_ble_eq_true rfl) rfl rfl (zt_end rfl))))))))
set_option maxRecDepth 100000 in
theorem q279_30_1 (E : mj_E) (d w c : Nat) (hi : Nat → Nat → Int32) (hl : Nat → Nat → Int64) (v1 : Int32) (v2 : Int32) (v3 : Int32) (v4 : Int32) : mj_den mj_P E d 279 30 [Value.ref 205, Value.int v1, Value.int v2, Value.int v3, Value.int v4] [] (mj_hw w c hi hl) = if (hi 205 58) ≤ v3 then mj_den mj_P E d 279 84 [Value.ref 205, Value.int v1, Value.int v2, Value.int v3, Value.int v4] [] (mj_hw w c hi hl) else mj_den mj_P E d 279 43 [Value.ref 205, Value.int v1, Value.int v2, Value.int v3, Value.int (v3 + (1 : Int32))] [] (mj_hw w c hi hl) := by
  rw [mj_den_eq, f279_30]
  exact zt_iload_n rfl rfl (zt_aload_n rfl rfl (zt_geti (mjkd205 _ _ _ _) rfl rfl (zt_icmp_ge rfl rfl (zt_iload_n rfl rfl (zt_iconst rfl (zt_iadd rfl (zt_istore (Nat.le_of_ble_eq_true rfl) rfl rfl (zt_end rfl))))))))
set_option maxRecDepth 100000 in
theorem f279_43 : mj_find (mj_P 279).2.2.2.2 43 = [(.iload 4, 2, 0, []), (.aload_n 0, 1, 0, []), (.getfield 488, 3, 0, [12, 58, 0, 1468]), (.if_icmp .ge 29, 3, 0, [78]), (.aload_n 0, 1, 0, []), (.getfield 107, 3, 0, [12, 59, 3, 1469]), (.iload_n 3, 1, 0, []), (.iaload, 1, 0, []), (.aload_n 0, 1, 0, []), (.getfield 107, 3, 0, [12, 59, 3, 1469]), (.iload 4, 2, 0, []), (.iaload, 1, 0, []), (.if_icmp .le 7, 3, 0, [72]), (.iload_n 2, 1, 0, []), (.iconst 1, 1, 1, []), (.iadd, 1, 0, []), (.istore_n 2, 1, 0, [])] := rfl
set_option maxRecDepth 100000 in
theorem q279_43 (E : mj_E) (d w c : Nat) (hi : Nat → Nat → Int32) (hl : Nat → Nat → Int64) (v1 : Int32) (v2 : Int32) (v3 : Int32) (v4 : Int32) : mj_den mj_P E d 279 43 [Value.ref 205, Value.int v1, Value.int v2, Value.int v3, Value.int v4] [] (mj_hw w c hi hl) = if (hi 205 58) ≤ v4 then mj_den mj_P E d 279 78 [Value.ref 205, Value.int v1, Value.int v2, Value.int v3, Value.int v4] [] (mj_hw w c hi hl) else if 0 ≤ v3 ∧ (v3).toNatClampNeg < 12 then if 0 ≤ v4 ∧ (v4).toNatClampNeg < 12 then if (hi 237 ((v3).toNatClampNeg)) ≤ (hi 237 ((v4).toNatClampNeg)) then mj_den mj_P E d 279 72 [Value.ref 205, Value.int v1, Value.int v2, Value.int v3, Value.int v4] [] (mj_hw w c hi hl) else mj_den mj_P E d 279 72 [Value.ref 205, Value.int v1, Value.int (v2 + (1 : Int32)), Value.int v3, Value.int v4] [] (mj_hw w c hi hl) else none else none := by
  rw [mj_den_eq, f279_43]
  exact zt_iload rfl rfl (zt_aload_n rfl rfl (zt_geti (mjkd205 _ _ _ _) rfl rfl (zt_icmp_ge rfl rfl (zt_aload_n rfl rfl (zt_getr (mjkd205 _ _ _ _) (mjhr205_59 w c) rfl (zt_iload_n rfl rfl (zt_iald (mjkd237 _ _ _ _) (mjln237 _ _ _ _) rfl rfl (zt_aload_n rfl rfl (zt_getr (mjkd205 _ _ _ _) (mjhr205_59 w c) rfl (zt_iload rfl rfl (zt_iald (mjkd237 _ _ _ _) (mjln237 _ _ _ _) rfl rfl (zt_icmp_le rfl rfl (zt_iload_n rfl rfl (zt_iconst rfl (zt_iadd rfl (zt_istore_n (Nat.le_of_ble_eq_true rfl) rfl rfl (zt_end rfl)))))))))))))))))
set_option maxRecDepth 100000 in
theorem f279_72 : mj_find (mj_P 279).2.2.2.2 72 = [(.iinc 4 1, 3, 1, []), (.goto (-32), 3, 0, [43])] := rfl
set_option maxRecDepth 100000 in
theorem q279_72 (E : mj_E) (d w c : Nat) (hi : Nat → Nat → Int32) (hl : Nat → Nat → Int64) (v1 : Int32) (v2 : Int32) (v3 : Int32) (v4 : Int32) : mj_den mj_P E d 279 72 [Value.ref 205, Value.int v1, Value.int v2, Value.int v3, Value.int v4] [] (mj_hw w c hi hl) = mj_den mj_P E d 279 43 [Value.ref 205, Value.int v1, Value.int v2, Value.int v3, Value.int (v4 + (1 : Int32))] [] (mj_hw w c hi hl) := by
  rw [mj_den_eq, f279_72]
  exact zt_iinc rfl (Nat.le_of_ble_eq_true rfl) rfl rfl (zt_goto rfl)
set_option maxRecDepth 100000 in
theorem f279_78 : mj_find (mj_P 279).2.2.2.2 78 = [(.iinc 3 1, 3, 1, []), (.goto (-51), 3, 0, [30])] := rfl
set_option maxRecDepth 100000 in
theorem q279_78 (E : mj_E) (d w c : Nat) (hi : Nat → Nat → Int32) (hl : Nat → Nat → Int64) (v1 : Int32) (v2 : Int32) (v3 : Int32) (v4 : Int32) : mj_den mj_P E d 279 78 [Value.ref 205, Value.int v1, Value.int v2, Value.int v3, Value.int v4] [] (mj_hw w c hi hl) = mj_den mj_P E d 279 30 [Value.ref 205, Value.int v1, Value.int v2, Value.int (v3 + (1 : Int32)), Value.int v4] [] (mj_hw w c hi hl) := by
  rw [mj_den_eq, f279_78]
  exact zt_iinc rfl (Nat.le_of_ble_eq_true rfl) rfl rfl (zt_goto rfl)
set_option maxRecDepth 100000 in
theorem f279_84 : mj_find (mj_P 279).2.2.2.2 84 = [(.iload_n 2, 1, 0, []), (.ireturn, 1, 0, [0])] := rfl
set_option maxRecDepth 100000 in
theorem q279_84 (E : mj_E) (d w c : Nat) (hi : Nat → Nat → Int32) (hl : Nat → Nat → Int64) (v1 : Int32) (v2 : Int32) (v3 : Int32) (v4 : Int32) : mj_den mj_P E d 279 84 [Value.ref 205, Value.int v1, Value.int v2, Value.int v3, Value.int v4] [] (mj_hw w c hi hl) = some (some (Value.int v2), (mj_hw w c hi hl)) := by
  rw [mj_den_eq, f279_84]
  exact zt_iload_n rfl rfl (zt_ireturn0)
set_option maxRecDepth 100000 in
theorem q279_84_1 (E : mj_E) (d w c : Nat) (hi : Nat → Nat → Int32) (hl : Nat → Nat → Int64) (v1 : Int32) (v2 : Int32) (v3 : Int32) : mj_den mj_P E d 279 84 [Value.ref 205, Value.int v1, Value.int v2, Value.int v3, Value.float 0] [] (mj_hw w c hi hl) = some (some (Value.int v2), (mj_hw w c hi hl)) := by
  rw [mj_den_eq, f279_84]
  exact zt_iload_n rfl rfl (zt_ireturn0)
set_option maxRecDepth 100000 in
theorem f280_0 : mj_find (mj_P 280).2.2.2.2 0 = [(.aload_n 0, 1, 0, []), (.getfield 116, 3, 0, [12, 62, 3, 1472]), (.iconst 0, 1, 0, []), (.iconst 0, 1, 0, []), (.iastore, 1, 0, []), (.iconst 1, 1, 1, []), (.istore_n 1, 1, 0, [])] := rfl
set_option maxRecDepth 100000 in
theorem q280_0 (E : mj_E) (d w c : Nat) (hi : Nat → Nat → Int32) (hl : Nat → Nat → Int64) : mj_den mj_P E d 280 0 [Value.ref 205, Value.float 0, Value.float 0, Value.float 0] [] (mj_hw w c hi hl) = if 0 ≤ (0 : Int32) ∧ ((0 : Int32)).toNatClampNeg < 13 then mj_den mj_P E d 280 9 [Value.ref 205, Value.int (1 : Int32), Value.float 0, Value.float 0] [] (mj_hw w c (mj_u hi 240 (((0 : Int32)).toNatClampNeg) (0 : Int32)) hl) else none := by
  rw [mj_den_eq, f280_0]
  exact zt_aload_n rfl rfl (zt_getr (mjkd205 _ _ _ _) (mjhr205_62 w c) rfl (zt_iconst rfl (zt_iconst rfl (zt_iast (mjkd240 _ _ _ _) (mjln240 _ _ _ _) rfl rfl (zt_iconst rfl (zt_istore_n (Nat.le_of_ble_eq_true rfl) rfl rfl (zt_end rfl)))))))
set_option maxRecDepth 100000 in
theorem f280_9 : mj_find (mj_P 280).2.2.2.2 9 = [(.iload_n 1, 1, 0, []), (.bipush 13, 2, 13, []), (.if_icmp .ge 66, 3, 0, [78]), (.iconst 0, 1, 0, []), (.istore_n 2, 1, 0, []), (.iconst 1, 1, 1, []), (.istore_n 3, 1, 0, [])] := rfl
set_option maxRecDepth 100000 in
theorem q280_9 (E : mj_E) (d w c : Nat) (hi : Nat → Nat → Int32) (hl : Nat → Nat → Int64) (v1 : Int32) : mj_den mj_P E d 280 9 [Value.ref 205, Value.int v1, Value.float 0, Value.float 0] [] (mj_hw w c hi hl) = if (13 : Int32) ≤ v1 then mj_den mj_P E d 280 78 [Value.ref 205, Value.int v1, Value.float 0, Value.float 0] [] (mj_hw w c hi hl) else mj_den mj_P E d 280 19 [Value.ref 205, Value.int v1, Value.int (0 : Int32), Value.int (1 : Int32)] [] (mj_hw w c hi hl) := by
  rw [mj_den_eq, f280_9]
  exact zt_iload_n rfl rfl (zt_bipush rfl (zt_icmp_ge rfl rfl (zt_iconst rfl (zt_istore_n (Nat.le_of_ble_eq_true rfl) rfl rfl (zt_iconst rfl (zt_istore_n (Nat.le_of_ble_eq_true rfl) rfl rfl (zt_end rfl)))))))
set_option maxRecDepth 100000 in
theorem q280_9_1 (E : mj_E) (d w c : Nat) (hi : Nat → Nat → Int32) (hl : Nat → Nat → Int64) (v1 : Int32) (v2 : Int32) (v3 : Int32) : mj_den mj_P E d 280 9 [Value.ref 205, Value.int v1, Value.int v2, Value.int v3] [] (mj_hw w c hi hl) = if (13 : Int32) ≤ v1 then mj_den mj_P E d 280 78 [Value.ref 205, Value.int v1, Value.int v2, Value.int v3] [] (mj_hw w c hi hl) else mj_den mj_P E d 280 19 [Value.ref 205, Value.int v1, Value.int (0 : Int32), Value.int (1 : Int32)] [] (mj_hw w c hi hl) := by
  rw [mj_den_eq, f280_9]
  exact zt_iload_n rfl rfl (zt_bipush rfl (zt_icmp_ge rfl rfl (zt_iconst rfl (zt_istore_n (Nat.le_of_ble_eq_true rfl) rfl rfl (zt_iconst rfl (zt_istore_n (Nat.le_of_ble_eq_true rfl) rfl rfl (zt_end rfl)))))))
set_option maxRecDepth 100000 in
theorem f280_19 : mj_find (mj_P 280).2.2.2.2 19 = [(.iload_n 3, 1, 0, []), (.iload_n 1, 1, 0, []), (.iconst 1, 1, 1, []), (.iadd, 1, 0, []), (.iconst 2, 1, 2, []), (.idiv, 1, 0, []), (.if_icmp .gt 22, 3, 0, [47]), (.iload_n 2, 1, 0, []), (.iconst 1, 1, 1, []), (.aload_n 0, 1, 0, []), (.getfield 116, 3, 0, [12, 62, 3, 1472]), (.iload_n 1, 1, 0, []), (.iload_n 3, 1, 0, []), (.isub, 1, 0, []), (.iaload, 1, 0, []), (.ishl, 1, 0, []), (.ior, 1, 0, []), (.istore_n 2, 1, 0, []), (.iinc 3 1, 3, 1, []), (.goto (-25), 3, 0, [19])] := rfl
set_option maxRecDepth 100000 in
theorem q280_19 (E : mj_E) (d w c : Nat) (hi : Nat → Nat → Int32) (hl : Nat → Nat → Int64) (v1 : Int32) (v2 : Int32) (v3 : Int32) : mj_den mj_P E d 280 19 [Value.ref 205, Value.int v1, Value.int v2, Value.int v3] [] (mj_hw w c hi hl) = if (2 : Int32) = 0 then none else if ((v1 + (1 : Int32)) / (2 : Int32)) < v3 then mj_den mj_P E d 280 47 [Value.ref 205, Value.int v1, Value.int v2, Value.int v3] [] (mj_hw w c hi hl) else if 0 ≤ (v1 - v3) ∧ ((v1 - v3)).toNatClampNeg < 13 then mj_den mj_P E d 280 19 [Value.ref 205, Value.int v1, Value.int (v2 ||| ((1 : Int32) <<< ((hi 240 (((v1 - v3)).toNatClampNeg)) &&& 31))), Value.int (v3 + (1 : Int32))] [] (mj_hw w c hi hl) else none := by
  rw [mj_den_eq, f280_19]
  exact zt_iload_n rfl rfl (zt_iload_n rfl rfl (zt_iconst rfl (zt_iadd rfl (zt_iconst rfl (zt_idiv  rfl (zt_icmp_gt rfl rfl (zt_iload_n rfl rfl (zt_iconst rfl (zt_aload_n rfl rfl (zt_getr (mjkd205 _ _ _ _) (mjhr205_62 w c) rfl (zt_iload_n rfl rfl (zt_iload_n rfl rfl (zt_isub rfl (zt_iald (mjkd240 _ _ _ _) (mjln240 _ _ _ _) rfl rfl (zt_ishl rfl (zt_ior rfl (zt_istore_n (Nat.le_of_ble_eq_true rfl) rfl rfl (zt_iinc rfl (Nat.le_of_ble_eq_true rfl) rfl rfl (zt_goto rfl)))))))))))))))))))
set_option maxRecDepth 100000 in
theorem f280_47 : mj_find (mj_P 280).2.2.2.2 47 = [(.iconst 0, 1, 0, []), (.istore_n 3, 1, 0, [])] := rfl
set_option maxRecDepth 100000 in
theorem q280_47 (E : mj_E) (d w c : Nat) (hi : Nat → Nat → Int32) (hl : Nat → Nat → Int64) (v1 : Int32) (v2 : Int32) (v3 : Int32) : mj_den mj_P E d 280 47 [Value.ref 205, Value.int v1, Value.int v2, Value.int v3] [] (mj_hw w c hi hl) = mj_den mj_P E d 280 49 [Value.ref 205, Value.int v1, Value.int v2, Value.int (0 : Int32)] [] (mj_hw w c hi hl) := by
  rw [mj_den_eq, f280_47]
  exact zt_iconst rfl (zt_istore_n (Nat.le_of_ble_eq_true rfl) rfl rfl (zt_end rfl))
set_option maxRecDepth 100000 in
theorem f280_49 : mj_find (mj_P 280).2.2.2.2 49 = [(.aload_n 0, 1, 0, []), (.iload_n 2, 1, 0, []), (.iload_n 3, 1, 0, []), (.invokevirtual 327, 3, 0, [0, 157, 12, 2, 1, 1832, 1834, 87, 156, 1835])] := rfl
set_option maxRecDepth 100000 in
theorem q280_49 (E : mj_E) (d w c : Nat) (hi : Nat → Nat → Int32) (hl : Nat → Nat → Int64) (v1 : Int32) (v2 : Int32) (v3 : Int32) : mj_den mj_P E d 280 49 [Value.ref 205, Value.int v1, Value.int v2, Value.int v3] [] (mj_hw w c hi hl) = mj_bi (mj_dc mj_P E d 157 [Value.ref 205, Value.int v2, Value.int v3] (mj_hw w c hi hl)) (fun x1 h1 => mj_den mj_P E d 280 55 [Value.ref 205, Value.int v1, Value.int v2, Value.int v3] [Value.int x1] h1) := by
  rw [mj_den_eq, f280_49]
  exact zt_aload_n rfl rfl (zt_iload_n rfl rfl (zt_iload_n rfl rfl (zt_call0_1 rfl (mjkd205 _ _ _ _) (Nat.le_of_ble_eq_true rfl) rfl rfl)))
set_option maxRecDepth 100000 in
theorem f280_55 : mj_find (mj_P 280).2.2.2.2 55 = [(.ifCond .eq 10, 3, 0, [65]), (.iload_n 3, 1, 0, []), (.iconst 1, 1, 1, []), (.iadd, 1, 0, []), (.istore_n 3, 1, 0, []), (.goto (-13), 3, 0, [49])] := rfl
set_option maxRecDepth 100000 in
theorem q280_55 (E : mj_E) (d w c : Nat) (hi : Nat → Nat → Int32) (hl : Nat → Nat → Int64) (v1 : Int32) (v2 : Int32) (v3 : Int32) (s0 : Int32) : mj_den mj_P E d 280 55 [Value.ref 205, Value.int v1, Value.int v2, Value.int v3] [Value.int s0] (mj_hw w c hi hl) = if s0 = 0 then mj_den mj_P E d 280 65 [Value.ref 205, Value.int v1, Value.int v2, Value.int v3] [] (mj_hw w c hi hl) else mj_den mj_P E d 280 49 [Value.ref 205, Value.int v1, Value.int v2, Value.int (v3 + (1 : Int32))] [] (mj_hw w c hi hl) := by
  rw [mj_den_eq, f280_55]
  exact zt_if_eq rfl rfl (zt_iload_n rfl rfl (zt_iconst rfl (zt_iadd rfl (zt_istore_n (Nat.le_of_ble_eq_true rfl) rfl rfl (zt_goto rfl)))))
set_option maxRecDepth 100000 in
theorem f280_65 : mj_find (mj_P 280).2.2.2.2 65 = [(.aload_n 0, 1, 0, []), (.getfield 116, 3, 0, [12, 62, 3, 1472]), (.iload_n 1, 1, 0, []), (.iload_n 3, 1, 0, []), (.iastore, 1, 0, []), (.iinc 1 1, 3, 1, []), (.goto (-66), 3, 0, [9])] := rfl
set_option maxRecDepth 100000 in
theorem q280_65 (E : mj_E) (d w c : Nat) (hi : Nat → Nat → Int32) (hl : Nat → Nat → Int64) (v1 : Int32) (v2 : Int32) (v3 : Int32) : mj_den mj_P E d 280 65 [Value.ref 205, Value.int v1, Value.int v2, Value.int v3] [] (mj_hw w c hi hl) = if 0 ≤ v1 ∧ (v1).toNatClampNeg < 13 then mj_den mj_P E d 280 9 [Value.ref 205, Value.int (v1 + (1 : Int32)), Value.int v2, Value.int v3] [] (mj_hw w c (mj_u hi 240 ((v1).toNatClampNeg) v3) hl) else none := by
  rw [mj_den_eq, f280_65]
  exact zt_aload_n rfl rfl (zt_getr (mjkd205 _ _ _ _) (mjhr205_62 w c) rfl (zt_iload_n rfl rfl (zt_iload_n rfl rfl (zt_iast (mjkd240 _ _ _ _) (mjln240 _ _ _ _) rfl rfl (zt_iinc rfl (Nat.le_of_ble_eq_true rfl) rfl rfl (zt_goto rfl))))))
set_option maxRecDepth 100000 in
theorem f280_78 : mj_find (mj_P 280).2.2.2.2 78 = [(.return_, 1, 0, [])] := rfl
set_option maxRecDepth 100000 in
theorem q280_78 (E : mj_E) (d w c : Nat) (hi : Nat → Nat → Int32) (hl : Nat → Nat → Int64) (v1 : Int32) (v2 : Int32) (v3 : Int32) : mj_den mj_P E d 280 78 [Value.ref 205, Value.int v1, Value.int v2, Value.int v3] [] (mj_hw w c hi hl) = some (none, (mj_hw w c hi hl)) := by
  rw [mj_den_eq, f280_78]
  exact zt_return
set_option maxRecDepth 100000 in
theorem q280_78_1 (E : mj_E) (d w c : Nat) (hi : Nat → Nat → Int32) (hl : Nat → Nat → Int64) (v1 : Int32) : mj_den mj_P E d 280 78 [Value.ref 205, Value.int v1, Value.float 0, Value.float 0] [] (mj_hw w c hi hl) = some (none, (mj_hw w c hi hl)) := by
  rw [mj_den_eq, f280_78]
  exact zt_return
set_option maxRecDepth 100000 in
theorem f281_0 : mj_find (mj_P 281).2.2.2.2 0 = [(.aload_n 0, 1, 0, []), (.iconst 0, 1, 0, []), (.putfield 122, 3, 0, [12, 0, 0, 1410]), (.aload_n 0, 1, 0, []), (.iload_n 1, 1, 0, []), (.iconst 0, 1, 0, []), (.iconst 1, 1, 1, []), (.invokevirtual 144, 3, 0, [0, 152, 12, 3, 1, 1624, 1626, 42, 156, 1627])] := rfl
set_option maxRecDepth 100000 in
theorem q281_0 (E : mj_E) (d w c : Nat) (hi : Nat → Nat → Int32) (hl : Nat → Nat → Int64) (v1 : Int32) : mj_den mj_P E d 281 0 [Value.ref 205, Value.int v1, Value.float 0, Value.float 0, Value.float 0, Value.float 0] [] (mj_hw w c hi hl) = mj_bi (mj_dc mj_P E d 152 [Value.ref 205, Value.int v1, Value.int (0 : Int32), Value.int (1 : Int32)] (mj_hw w c (mj_u hi 205 0 (0 : Int32)) hl)) (fun x1 h1 => mj_den mj_P E d 281 12 [Value.ref 205, Value.int v1, Value.float 0, Value.float 0, Value.float 0, Value.float 0] [Value.int x1] h1) := by
  rw [mj_den_eq, f281_0]
  exact zt_aload_n rfl rfl (zt_iconst rfl (zt_puti (mjkd205 _ _ _ _) rfl rfl (zt_aload_n rfl rfl (zt_iload_n rfl rfl (zt_iconst rfl (zt_iconst rfl (zt_call0_1 rfl (mjkd205 _ _ _ _) (Nat.le_of_ble_eq_true rfl) rfl rfl)))))))
set_option maxRecDepth 100000 in
theorem f281_12 : mj_find (mj_P 281).2.2.2.2 12 = [(.ifCond .ne 5, 3, 0, [17]), (.iconst (-1), 1, (-1), []), (.ireturn, 1, 0, [0])] := rfl
set_option maxRecDepth 100000 in
theorem q281_12 (E : mj_E) (d w c : Nat) (hi : Nat → Nat → Int32) (hl : Nat → Nat → Int64) (v1 : Int32) (s0 : Int32) : mj_den mj_P E d 281 12 [Value.ref 205, Value.int v1, Value.float 0, Value.float 0, Value.float 0, Value.float 0] [Value.int s0] (mj_hw w c hi hl) = if ¬ s0 = 0 then mj_den mj_P E d 281 17 [Value.ref 205, Value.int v1, Value.float 0, Value.float 0, Value.float 0, Value.float 0] [] (mj_hw w c hi hl) else some (some (Value.int (-1 : Int32)), (mj_hw w c hi hl)) := by
  rw [mj_den_eq, f281_12]
  exact zt_if_ne rfl rfl (zt_iconst rfl (zt_ireturn0))
set_option maxRecDepth 100000 in
theorem f281_17 : mj_find (mj_P 281).2.2.2.2 17 = [(.aload_n 0, 1, 0, []), (.invokevirtual 500, 3, 0, [0, 280, 12, 0, 0, 2133, 2135, 135, 156, 2136])] := rfl
set_option maxRecDepth 100000 in
theorem q281_17 (E : mj_E) (d w c : Nat) (hi : Nat → Nat → Int32) (hl : Nat → Nat → Int64) (v1 : Int32) : mj_den mj_P E d 281 17 [Value.ref 205, Value.int v1, Value.float 0, Value.float 0, Value.float 0, Value.float 0] [] (mj_hw w c hi hl) = mj_bv (mj_dc mj_P E d 280 [Value.ref 205] (mj_hw w c hi hl)) (fun h1 => mj_den mj_P E d 281 21 [Value.ref 205, Value.int v1, Value.float 0, Value.float 0, Value.float 0, Value.float 0] [] h1) := by
  rw [mj_den_eq, f281_17]
  exact zt_aload_n rfl rfl (zt_call0_0 rfl (mjkd205 _ _ _ _) (Nat.le_of_ble_eq_true rfl) rfl rfl)
set_option maxRecDepth 100000 in
theorem f281_21 : mj_find (mj_P 281).2.2.2.2 21 = [(.iconst 0, 1, 0, []), (.istore_n 2, 1, 0, []), (.iconst 0, 1, 0, []), (.istore_n 3, 1, 0, [])] := rfl
set_option maxRecDepth 100000 in
theorem q281_21 (E : mj_E) (d w c : Nat) (hi : Nat → Nat → Int32) (hl : Nat → Nat → Int64) (v1 : Int32) : mj_den mj_P E d 281 21 [Value.ref 205, Value.int v1, Value.float 0, Value.float 0, Value.float 0, Value.float 0] [] (mj_hw w c hi hl) = mj_den mj_P E d 281 25 [Value.ref 205, Value.int v1, Value.int (0 : Int32), Value.int (0 : Int32), Value.float 0, Value.float 0] [] (mj_hw w c hi hl) := by
  rw [mj_den_eq, f281_21]
  exact zt_iconst rfl (zt_istore_n (Nat.le_of_ble_eq_true rfl) rfl rfl (zt_iconst rfl (zt_istore_n (Nat.le_of_ble_eq_true rfl) rfl rfl (zt_end rfl))))
set_option maxRecDepth 100000 in
theorem f281_25 : mj_find (mj_P 281).2.2.2.2 25 = [(.iload_n 3, 1, 0, []), (.aload_n 0, 1, 0, []), (.getfield 134, 3, 0, [12, 6, 0, 1416]), (.if_icmp .ge 22, 3, 0, [52]), (.iload_n 2, 1, 0, []), (.aload_n 0, 1, 0, []), (.getfield 116, 3, 0, [12, 62, 3, 1472]), (.aload_n 0, 1, 0, []), (.iload_n 3, 1, 0, []), (.invokevirtual 398, 3, 0, [0, 167, 12, 1, 1, 1922, 1924, 106, 156, 1925])] := rfl
set_option maxRecDepth 100000 in
theorem q281_25 (E : mj_E) (d w c : Nat) (hi : Nat → Nat → Int32) (hl : Nat → Nat → Int64) (v1 : Int32) (v2 : Int32) (v3 : Int32) : mj_den mj_P E d 281 25 [Value.ref 205, Value.int v1, Value.int v2, Value.int v3, Value.float 0, Value.float 0] [] (mj_hw w c hi hl) = if (hi 205 6) ≤ v3 then mj_den mj_P E d 281 52 [Value.ref 205, Value.int v1, Value.int v2, Value.int v3, Value.float 0, Value.float 0] [] (mj_hw w c hi hl) else mj_bi (mj_dc mj_P E d 167 [Value.ref 205, Value.int v3] (mj_hw w c hi hl)) (fun x1 h1 => mj_den mj_P E d 281 43 [Value.ref 205, Value.int v1, Value.int v2, Value.int v3, Value.float 0, Value.float 0] [Value.int x1, Value.ref 240, Value.int v2] h1) := by
  rw [mj_den_eq, f281_25]
  exact zt_iload_n rfl rfl (zt_aload_n rfl rfl (zt_geti (mjkd205 _ _ _ _) rfl rfl (zt_icmp_ge rfl rfl (zt_iload_n rfl rfl (zt_aload_n rfl rfl (zt_getr (mjkd205 _ _ _ _) (mjhr205_62 w c) rfl (zt_aload_n rfl rfl (zt_iload_n rfl rfl (zt_call0_1 rfl (mjkd205 _ _ _ _) (Nat.le_of_ble_eq_true rfl) rfl rfl)))))))))
set_option maxRecDepth 100000 in
theorem f281_43 : mj_find (mj_P 281).2.2.2.2 43 = [(.iaload, 1, 0, []), (.ixor, 1, 0, []), (.istore_n 2, 1, 0, []), (.iinc 3 1, 3, 1, []), (.goto (-24), 3, 0, [25])] := rfl
set_option maxRecDepth 100000 in
theorem q281_43 (E : mj_E) (d w c : Nat) (hi : Nat → Nat → Int32) (hl : Nat → Nat → Int64) (v1 : Int32) (v2 : Int32) (v3 : Int32) (s0 : Int32) (s2 : Int32) : mj_den mj_P E d 281 43 [Value.ref 205, Value.int v1, Value.int v2, Value.int v3, Value.float 0, Value.float 0] [Value.int s0, Value.ref 240, Value.int s2] (mj_hw w c hi hl) = if 0 ≤ s0 ∧ (s0).toNatClampNeg < 13 then mj_den mj_P E d 281 25 [Value.ref 205, Value.int v1, Value.int (s2 ^^^ (hi 240 ((s0).toNatClampNeg))), Value.int (v3 + (1 : Int32)), Value.float 0, Value.float 0] [] (mj_hw w c hi hl) else none := by
  rw [mj_den_eq, f281_43]
  exact zt_iald (mjkd240 _ _ _ _) (mjln240 _ _ _ _) rfl rfl (zt_ixor rfl (zt_istore_n (Nat.le_of_ble_eq_true rfl) rfl rfl (zt_iinc rfl (Nat.le_of_ble_eq_true rfl) rfl rfl (zt_goto rfl))))
set_option maxRecDepth 100000 in
theorem f281_52 : mj_find (mj_P 281).2.2.2.2 52 = [(.iconst 0, 1, 0, []), (.istore_n 3, 1, 0, [])] := rfl
set_option maxRecDepth 100000 in
theorem q281_52 (E : mj_E) (d w c : Nat) (hi : Nat → Nat → Int32) (hl : Nat → Nat → Int64) (v1 : Int32) (v2 : Int32) (v3 : Int32) : mj_den mj_P E d 281 52 [Value.ref 205, Value.int v1, Value.int v2, Value.int v3, Value.float 0, Value.float 0] [] (mj_hw w c hi hl) = mj_den mj_P E d 281 54 [Value.ref 205, Value.int v1, Value.int v2, Value.int (0 : Int32), Value.float 0, Value.float 0] [] (mj_hw w c hi hl) := by
  rw [mj_den_eq, f281_52]
  exact zt_iconst rfl (zt_istore_n (Nat.le_of_ble_eq_true rfl) rfl rfl (zt_end rfl))
set_option maxRecDepth 100000 in
theorem f281_54 : mj_find (mj_P 281).2.2.2.2 54 = [(.iload_n 3, 1, 0, []), (.aload_n 0, 1, 0, []), (.getfield 134, 3, 0, [12, 6, 0, 1416]), (.if_icmp .ge 74, 3, 0, [133]), (.aload_n 0, 1, 0, []), (.iload_n 3, 1, 0, []), (.invokevirtual 398, 3, 0, [0, 167, 12, 1, 1, 1922, 1924, 106, 156, 1925])] := rfl
set_option maxRecDepth 100000 in
theorem q281_54 (E : mj_E) (d w c : Nat) (hi : Nat → Nat → Int32) (hl : Nat → Nat → Int64) (v1 : Int32) (v2 : Int32) (v3 : Int32) : mj_den mj_P E d 281 54 [Value.ref 205, Value.int v1, Value.int v2, Value.int v3, Value.float 0, Value.float 0] [] (mj_hw w c hi hl) = if (hi 205 6) ≤ v3 then mj_den mj_P E d 281 133 [Value.ref 205, Value.int v1, Value.int v2, Value.int v3, Value.float 0, Value.float 0] [] (mj_hw w c hi hl) else mj_bi (mj_dc mj_P E d 167 [Value.ref 205, Value.int v3] (mj_hw w c hi hl)) (fun x1 h1 => mj_den mj_P E d 281 67 [Value.ref 205, Value.int v1, Value.int v2, Value.int v3, Value.float 0, Value.float 0] [Value.int x1] h1) := by
  rw [mj_den_eq, f281_54]
  exact zt_iload_n rfl rfl (zt_aload_n rfl rfl (zt_geti (mjkd205 _ _ _ _) rfl rfl (zt_icmp_ge rfl rfl (zt_aload_n rfl rfl (zt_iload_n rfl rfl (zt_call0_1 rfl (mjkd205 _ _ _ _) (Nat.le_of_ble_eq_true rfl) rfl rfl))))))
set_option maxRecDepth 100000 in
theorem q281_54_1 (E : mj_E) (d w c : Nat) (hi : Nat → Nat → Int32) (hl : Nat → Nat → Int64) (v1 : Int32) (v2 : Int32) (v3 : Int32) (v4 : Int32) (v5 : Int32) : mj_den mj_P E d 281 54 [Value.ref 205, Value.int v1, Value.int v2, Value.int v3, Value.int v4, Value.int v5] [] (mj_hw w c hi hl) = if (hi 205 6) ≤ v3 then mj_den mj_P E d 281 133 [Value.ref 205, Value.int v1, Value.int v2, Value.int v3, Value.int v4, Value.int v5] [] (mj_hw w c hi hl) else mj_bi (mj_dc mj_P E d 167 [Value.ref 205, Value.int v3] (mj_hw w c hi hl)) (fun x1 h1 => mj_den mj_P E d 281 67 [Value.ref 205, Value.int v1, Value.int v2, Value.int v3, Value.int v4, Value.int v5] [Value.int x1] h1) := by
  rw [mj_den_eq, f281_54]
  exact zt_iload_n rfl rfl (zt_aload_n rfl rfl (zt_geti (mjkd205 _ _ _ _) rfl rfl (zt_icmp_ge rfl rfl (zt_aload_n rfl rfl (zt_iload_n rfl rfl (zt_call0_1 rfl (mjkd205 _ _ _ _) (Nat.le_of_ble_eq_true rfl) rfl rfl))))))
set_option maxRecDepth 100000 in
theorem f281_67 : mj_find (mj_P 281).2.2.2.2 67 = [(.istore 4, 2, 0, []), (.iconst 1, 1, 1, []), (.istore 5, 2, 0, [])] := rfl
set_option maxRecDepth 100000 in
theorem q281_67 (E : mj_E) (d w c : Nat) (hi : Nat → Nat → Int32) (hl : Nat → Nat → Int64) (v1 : Int32) (v2 : Int32) (v3 : Int32) (s0 : Int32) : mj_den mj_P E d 281 67 [Value.ref 205, Value.int v1, Value.int v2, Value.int v3, Value.float 0, Value.float 0] [Value.int s0] (mj_hw w c hi hl) = mj_den mj_P E d 281 72 [Value.ref 205, Value.int v1, Value.int v2, Value.int v3, Value.int s0, Value.int (1 : Int32)] [] (mj_hw w c hi hl) := by
  rw [mj_den_eq, f281_67]
  exact zt_istore (Nat.le_of_ble_eq_true rfl) rfl rfl (zt_iconst rfl (zt_istore (Nat.le_of_ble_eq_true rfl) rfl rfl (zt_end rfl)))
set_option maxRecDepth 100000 in
theorem q281_67_1 (E : mj_E) (d w c : Nat) (hi : Nat → Nat → Int32) (hl : Nat → Nat → Int64) (v1 : Int32) (v2 : Int32) (v3 : Int32) (v4 : Int32) (v5 : Int32) (s0 : Int32) : mj_den mj_P E d 281 67 [Value.ref 205, Value.int v1, Value.int v2, Value.int v3, Value.int v4, Value.int v5] [Value.int s0] (mj_hw w c hi hl) = mj_den mj_P E d 281 72 [Value.ref 205, Value.int v1, Value.int v2, Value.int v3, Value.int s0, Value.int (1 : Int32)] [] (mj_hw w c hi hl) := by
  rw [mj_den_eq, f281_67]
  exact zt_istore (Nat.le_of_ble_eq_true rfl) rfl rfl (zt_iconst rfl (zt_istore (Nat.le_of_ble_eq_true rfl) rfl rfl (zt_end rfl)))
set_option maxRecDepth 100000 in
theorem f281_72 : mj_find (mj_P 281).2.2.2.2 72 = [(.iload 4, 2, 0, []), (.ifCond .le 53, 3, 0, [127]), (.iload 5, 2, 0, []), (.iload 4, 2, 0, []), (.iconst 1, 1, 1, []), (.iadd, 1, 0, []), (.iconst 2, 1, 2, []), (.idiv, 1, 0, []), (.if_icmp .gt 42, 3, 0, [127]), (.iload_n 2, 1, 0, []), (.aload_n 0, 1, 0, []), (.getfield 116, 3, 0, [12, 62, 3, 1472]), (.iload 4, 2, 0, []), (.iaload, 1, 0, []), (.ixor, 1, 0, []), (.aload_n 0, 1, 0, []), (.getfield 116, 3, 0, [12, 62, 3, 1472]), (.iload 4, 2, 0, []), (.iload 5, 2, 0, []), (.isub, 1, 0, []), (.iaload, 1, 0, []), (.if_icmp .ne 14, 3, 0, [121]), (.iload_n 1, 1, 0, []), (.ifCond .ne 7, 3, 0, [118]), (.iload_n 3, 1, 0, []), (.goto 5, 3, 0, [120])] := rfl
set_option maxRecDepth 100000 in
theorem q281_72 (E : mj_E) (d w c : Nat) (hi : Nat → Nat → Int32) (hl : Nat → Nat → Int64) (v1 : Int32) (v2 : Int32) (v3 : Int32) (v4 : Int32) (v5 : Int32) : mj_den mj_P E d 281 72 [Value.ref 205, Value.int v1, Value.int v2, Value.int v3, Value.int v4, Value.int v5] [] (mj_hw w c hi hl) = if v4 ≤ 0 then mj_den mj_P E d 281 127 [Value.ref 205, Value.int v1, Value.int v2, Value.int v3, Value.int v4, Value.int v5] [] (mj_hw w c hi hl) else if (2 : Int32) = 0 then none else if ((v4 + (1 : Int32)) / (2 : Int32)) < v5 then mj_den mj_P E d 281 127 [Value.ref 205, Value.int v1, Value.int v2, Value.int v3, Value.int v4, Value.int v5] [] (mj_hw w c hi hl) else if 0 ≤ v4 ∧ (v4).toNatClampNeg < 13 then if 0 ≤ (v4 - v5) ∧ ((v4 - v5)).toNatClampNeg < 13 then if ¬ (v2 ^^^ (hi 240 ((v4).toNatClampNeg))) = (hi 240 (((v4 - v5)).toNatClampNeg)) then mj_den mj_P E d 281 121 [Value.ref 205, Value.int v1, Value.int v2, Value.int v3, Value.int v4, Value.int v5] [] (mj_hw w c hi hl) else if ¬ v1 = 0 then mj_den mj_P E d 281 118 [Value.ref 205, Value.int v1, Value.int v2, Value.int v3, Value.int v4, Value.int v5] [] (mj_hw w c hi hl) else mj_den mj_P E d 281 120 [Value.ref 205, Value.int v1, Value.int v2, Value.int v3, Value.int v4, Value.int v5] [Value.int v3] (mj_hw w c hi hl) else none else none := by
  rw [mj_den_eq, f281_72]
  exact zt_iload rfl rfl (zt_if_le rfl rfl (zt_iload rfl rfl (zt_iload rfl rfl (zt_iconst rfl (zt_iadd rfl (zt_iconst rfl (zt_idiv  rfl (zt_icmp_gt rfl rfl (zt_iload_n rfl rfl (zt_aload_n rfl rfl (zt_getr (mjkd205 _ _ _ _) (mjhr205_62 w c) rfl (zt_iload rfl rfl (zt_iald (mjkd240 _ _ _ _) (mjln240 _ _ _ _) rfl rfl (zt_ixor rfl (zt_aload_n rfl rfl (zt_getr (mjkd205 _ _ _ _) (mjhr205_62 w c) rfl (zt_iload rfl rfl (zt_iload rfl rfl (zt_isub rfl (zt_iald (mjkd240 _ _ _ _) (mjln240 _ _ _ _) rfl rfl (zt_icmp_ne rfl rfl (zt_iload_n rfl rfl (zt_if_ne rfl rfl (zt_iload_n rfl rfl (zt_goto rfl)))))))))))))))))))))))))
set_option maxRecDepth 100000 in
theorem f281_118 : mj_find (mj_P 281).2.2.2.2 118 = [(.iload 5, 2, 0, [])] := rfl
set_option maxRecDepth 100000 in
theorem q281_118 (E : mj_E) (d w c : Nat) (hi : Nat → Nat → Int32) (hl : Nat → Nat → Int64) (v1 : Int32) (v2 : Int32) (v3 : Int32) (v4 : Int32) (v5 : Int32) : mj_den mj_P E d 281 118 [Value.ref 205, Value.int v1, Value.int v2, Value.int v3, Value.int v4, Value.int v5] [] (mj_hw w c hi hl) = mj_den mj_P E d 281 120 [Value.ref 205, Value.int v1, Value.int v2, Value.int v3, Value.int v4, Value.int v5] [Value.int v5] (mj_hw w c hi hl) := by
  rw [mj_den_eq, f281_118]
  exact zt_iload rfl rfl (zt_end rfl)
set_option maxRecDepth 100000 in
theorem f281_120 : mj_find (mj_P 281).2.2.2.2 120 = [(.ireturn, 1, 0, [0])] := rfl
set_option maxRecDepth 100000 in
theorem q281_120 (E : mj_E) (d w c : Nat) (hi : Nat → Nat → Int32) (hl : Nat → Nat → Int64) (v1 : Int32) (v2 : Int32) (v3 : Int32) (v4 : Int32) (v5 : Int32) (s0 : Int32) : mj_den mj_P E d 281 120 [Value.ref 205, Value.int v1, Value.int v2, Value.int v3, Value.int v4, Value.int v5] [Value.int s0] (mj_hw w c hi hl) = some (some (Value.int s0), (mj_hw w c hi hl)) := by
  rw [mj_den_eq, f281_120]
  exact zt_ireturn0
set_option maxRecDepth 100000 in
theorem f281_121 : mj_find (mj_P 281).2.2.2.2 121 = [(.iinc 5 1, 3, 1, []), (.goto (-52), 3, 0, [72])] := rfl
set_option maxRecDepth 100000 in
theorem q281_121 (E : mj_E) (d w c : Nat) (hi : Nat → Nat → Int32) (hl : Nat → Nat → Int64) (v1 : Int32) (v2 : Int32) (v3 : Int32) (v4 : Int32) (v5 : Int32) : mj_den mj_P E d 281 121 [Value.ref 205, Value.int v1, Value.int v2, Value.int v3, Value.int v4, Value.int v5] [] (mj_hw w c hi hl) = mj_den mj_P E d 281 72 [Value.ref 205, Value.int v1, Value.int v2, Value.int v3, Value.int v4, Value.int (v5 + (1 : Int32))] [] (mj_hw w c hi hl) := by
  rw [mj_den_eq, f281_121]
  exact zt_iinc rfl (Nat.le_of_ble_eq_true rfl) rfl rfl (zt_goto rfl)
set_option maxRecDepth 100000 in
theorem f281_127 : mj_find (mj_P 281).2.2.2.2 127 = [(.iinc 3 1, 3, 1, []), (.goto (-76), 3, 0, [54])] := rfl
set_option maxRecDepth 100000 in
theorem q281_127 (E : mj_E) (d w c : Nat) (hi : Nat → Nat → Int32) (hl : Nat → Nat → Int64) (v1 : Int32) (v2 : Int32) (v3 : Int32) (v4 : Int32) (v5 : Int32) : mj_den mj_P E d 281 127 [Value.ref 205, Value.int v1, Value.int v2, Value.int v3, Value.int v4, Value.int v5] [] (mj_hw w c hi hl) = mj_den mj_P E d 281 54 [Value.ref 205, Value.int v1, Value.int v2, Value.int (v3 + (1 : Int32)), Value.int v4, Value.int v5] [] (mj_hw w c hi hl) := by
  rw [mj_den_eq, f281_127]
  exact zt_iinc rfl (Nat.le_of_ble_eq_true rfl) rfl rfl (zt_goto rfl)
set_option maxRecDepth 100000 in
theorem f281_133 : mj_find (mj_P 281).2.2.2.2 133 = [(.iconst (-1), 1, (-1), []), (.ireturn, 1, 0, [0])] := rfl
set_option maxRecDepth 100000 in
theorem q281_133 (E : mj_E) (d w c : Nat) (hi : Nat → Nat → Int32) (hl : Nat → Nat → Int64) (v1 : Int32) (v2 : Int32) (v3 : Int32) (v4 : Int32) (v5 : Int32) : mj_den mj_P E d 281 133 [Value.ref 205, Value.int v1, Value.int v2, Value.int v3, Value.int v4, Value.int v5] [] (mj_hw w c hi hl) = some (some (Value.int (-1 : Int32)), (mj_hw w c hi hl)) := by
  rw [mj_den_eq, f281_133]
  exact zt_iconst rfl (zt_ireturn0)
set_option maxRecDepth 100000 in
theorem q281_133_1 (E : mj_E) (d w c : Nat) (hi : Nat → Nat → Int32) (hl : Nat → Nat → Int64) (v1 : Int32) (v2 : Int32) (v3 : Int32) : mj_den mj_P E d 281 133 [Value.ref 205, Value.int v1, Value.int v2, Value.int v3, Value.float 0, Value.float 0] [] (mj_hw w c hi hl) = some (some (Value.int (-1 : Int32)), (mj_hw w c hi hl)) := by
  rw [mj_den_eq, f281_133]
  exact zt_iconst rfl (zt_ireturn0)
set_option maxRecDepth 100000 in
theorem f282_0 : mj_find (mj_P 282).2.2.2.2 0 = [(.aload_n 0, 1, 0, []), (.getfield 7, 3, 0, [12, 1, 3, 1411]), (.bipush 15, 2, 15, []), (.iload_n 1, 1, 0, []), (.iadd, 1, 0, []), (.iaload, 1, 0, []), (.istore_n 2, 1, 0, []), (.iconst 0, 1, 0, []), (.istore_n 3, 1, 0, [])] := rfl
set_option maxRecDepth 100000 in
theorem q282_0 (E : mj_E) (d w c : Nat) (hi : Nat → Nat → Int32) (hl : Nat → Nat → Int64) (v1 : Int32) : mj_den mj_P E d 282 0 [Value.ref 205, Value.int v1, Value.float 0, Value.float 0] [] (mj_hw w c hi hl) = if 0 ≤ ((15 : Int32) + v1) ∧ (((15 : Int32) + v1)).toNatClampNeg < 57 then mj_den mj_P E d 282 12 [Value.ref 205, Value.int v1, Value.int (hi 206 ((((15 : Int32) + v1)).toNatClampNeg)), Value.int (0 : Int32)] [] (mj_hw w c hi hl) else none := by
  rw [mj_den_eq, f282_0]
  exact zt_aload_n rfl rfl (zt_getr (mjkd205 _ _ _ _) (mjhr205_1 w c) rfl (zt_bipush rfl (zt_iload_n rfl rfl (zt_iadd rfl (zt_iald (mjkd206 _ _ _ _) (mjln206 _ _ _ _) rfl rfl (zt_istore_n (Nat.le_of_ble_eq_true rfl) rfl rfl (zt_iconst rfl (zt_istore_n (Nat.le_of_ble_eq_true rfl) rfl rfl (zt_end rfl)))))))))
set_option maxRecDepth 100000 in
theorem f282_12 : mj_find (mj_P 282).2.2.2.2 12 = [(.iload_n 3, 1, 0, []), (.aload_n 0, 1, 0, []), (.getfield 137, 3, 0, [12, 7, 0, 1417]), (.if_icmp .ge 27, 3, 0, [44]), (.aload_n 0, 1, 0, []), (.iload_n 3, 1, 0, []), (.invokevirtual 140, 3, 0, [0, 166, 12, 1, 1, 1800, 1802, 79, 156, 1803])] := rfl
set_option maxRecDepth 100000 in
theorem q282_12 (E : mj_E) (d w c : Nat) (hi : Nat → Nat → Int32) (hl : Nat → Nat → Int64) (v1 : Int32) (v2 : Int32) (v3 : Int32) : mj_den mj_P E d 282 12 [Value.ref 205, Value.int v1, Value.int v2, Value.int v3] [] (mj_hw w c hi hl) = if (hi 205 7) ≤ v3 then mj_den mj_P E d 282 44 [Value.ref 205, Value.int v1, Value.int v2, Value.int v3] [] (mj_hw w c hi hl) else mj_bi (mj_dc mj_P E d 166 [Value.ref 205, Value.int v3] (mj_hw w c hi hl)) (fun x1 h1 => mj_den mj_P E d 282 25 [Value.ref 205, Value.int v1, Value.int v2, Value.int v3] [Value.int x1] h1) := by
  rw [mj_den_eq, f282_12]
  exact zt_iload_n rfl rfl (zt_aload_n rfl rfl (zt_geti (mjkd205 _ _ _ _) rfl rfl (zt_icmp_ge rfl rfl (zt_aload_n rfl rfl (zt_iload_n rfl rfl (zt_call0_1 rfl (mjkd205 _ _ _ _) (Nat.le_of_ble_eq_true rfl) rfl rfl))))))
set_option maxRecDepth 100000 in
theorem f282_25 : mj_find (mj_P 282).2.2.2.2 25 = [(.iload_n 1, 1, 0, []), (.if_icmp .ne 12, 3, 0, [38]), (.iload_n 2, 1, 0, []), (.aload_n 0, 1, 0, []), (.getfield 28, 3, 0, [12, 11, 3, 1421]), (.iload_n 3, 1, 0, []), (.iaload, 1, 0, []), (.iadd, 1, 0, []), (.istore_n 2, 1, 0, [])] := rfl
set_option maxRecDepth 100000 in
theorem q282_25 (E : mj_E) (d w c : Nat) (hi : Nat → Nat → Int32) (hl : Nat → Nat → Int64) (v1 : Int32) (v2 : Int32) (v3 : Int32) (s0 : Int32) : mj_den mj_P E d 282 25 [Value.ref 205, Value.int v1, Value.int v2, Value.int v3] [Value.int s0] (mj_hw w c hi hl) = if ¬ s0 = v1 then mj_den mj_P E d 282 38 [Value.ref 205, Value.int v1, Value.int v2, Value.int v3] [] (mj_hw w c hi hl) else if 0 ≤ v3 ∧ (v3).toNatClampNeg < 12 then mj_den mj_P E d 282 38 [Value.ref 205, Value.int v1, Value.int (v2 + (hi 212 ((v3).toNatClampNeg))), Value.int v3] [] (mj_hw w c hi hl) else none := by
  rw [mj_den_eq, f282_25]
  exact zt_iload_n rfl rfl (zt_icmp_ne rfl rfl (zt_iload_n rfl rfl (zt_aload_n rfl rfl (zt_getr (mjkd205 _ _ _ _) (mjhr205_11 w c) rfl (zt_iload_n rfl rfl (zt_iald (mjkd212 _ _ _ _) (mjln212 _ _ _ _) rfl rfl (zt_iadd rfl (zt_istore_n (Nat.le_of_ble_eq_true rfl) rfl rfl (zt_end rfl)))))))))
set_option maxRecDepth 100000 in
theorem f282_38 : mj_find (mj_P 282).2.2.2.2 38 = [(.iinc 3 1, 3, 1, []), (.goto (-29), 3, 0, [12])] := rfl
set_option maxRecDepth 100000 in
theorem q282_38 (E : mj_E) (d w c : Nat) (hi : Nat → Nat → Int32) (hl : Nat → Nat → Int64) (v1 : Int32) (v2 : Int32) (v3 : Int32) : mj_den mj_P E d 282 38 [Value.ref 205, Value.int v1, Value.int v2, Value.int v3] [] (mj_hw w c hi hl) = mj_den mj_P E d 282 12 [Value.ref 205, Value.int v1, Value.int v2, Value.int (v3 + (1 : Int32))] [] (mj_hw w c hi hl) := by
  rw [mj_den_eq, f282_38]
  exact zt_iinc rfl (Nat.le_of_ble_eq_true rfl) rfl rfl (zt_goto rfl)
set_option maxRecDepth 100000 in
theorem f282_44 : mj_find (mj_P 282).2.2.2.2 44 = [(.iload_n 2, 1, 0, []), (.ireturn, 1, 0, [0])] := rfl
set_option maxRecDepth 100000 in
theorem q282_44 (E : mj_E) (d w c : Nat) (hi : Nat → Nat → Int32) (hl : Nat → Nat → Int64) (v1 : Int32) (v2 : Int32) (v3 : Int32) : mj_den mj_P E d 282 44 [Value.ref 205, Value.int v1, Value.int v2, Value.int v3] [] (mj_hw w c hi hl) = some (some (Value.int v2), (mj_hw w c hi hl)) := by
  rw [mj_den_eq, f282_44]
  exact zt_iload_n rfl rfl (zt_ireturn0)
set_option maxRecDepth 100000 in
theorem f283_0 : mj_find (mj_P 283).2.2.2.2 0 = [(.iconst 0, 1, 0, []), (.istore_n 2, 1, 0, []), (.iconst 0, 1, 0, []), (.istore_n 3, 1, 0, [])] := rfl
set_option maxRecDepth 100000 in
theorem q283_0 (E : mj_E) (d w c : Nat) (hi : Nat → Nat → Int32) (hl : Nat → Nat → Int64) (v1 : Int32) : mj_den mj_P E d 283 0 [Value.ref 205, Value.int v1, Value.float 0, Value.float 0] [] (mj_hw w c hi hl) = mj_den mj_P E d 283 4 [Value.ref 205, Value.int v1, Value.int (0 : Int32), Value.int (0 : Int32)] [] (mj_hw w c hi hl) := by
  rw [mj_den_eq, f283_0]
  exact zt_iconst rfl (zt_istore_n (Nat.le_of_ble_eq_true rfl) rfl rfl (zt_iconst rfl (zt_istore_n (Nat.le_of_ble_eq_true rfl) rfl rfl (zt_end rfl))))
set_option maxRecDepth 100000 in
theorem f283_4 : mj_find (mj_P 283).2.2.2.2 4 = [(.iload_n 3, 1, 0, []), (.aload_n 0, 1, 0, []), (.getfield 134, 3, 0, [12, 6, 0, 1416]), (.if_icmp .ge 56, 3, 0, [65]), (.aload_n 0, 1, 0, []), (.getfield 7, 3, 0, [12, 1, 3, 1411]), (.iconst 5, 1, 5, []), (.iload_n 3, 1, 0, []), (.iadd, 1, 0, []), (.iaload, 1, 0, []), (.aload_n 0, 1, 0, []), (.getfield 7, 3, 0, [12, 1, 3, 1411]), (.iconst 5, 1, 5, []), (.iload_n 1, 1, 0, []), (.iadd, 1, 0, []), (.iaload, 1, 0, []), (.if_icmp .lt 27, 3, 0, [55]), (.aload_n 0, 1, 0, []), (.getfield 7, 3, 0, [12, 1, 3, 1411]), (.iconst 5, 1, 5, []), (.iload_n 3, 1, 0, []), (.iadd, 1, 0, []), (.iaload, 1, 0, []), (.aload_n 0, 1, 0, []), (.getfield 7, 3, 0, [12, 1, 3, 1411]), (.iconst 5, 1, 5, []), (.iload_n 1, 1, 0, []), (.iadd, 1, 0, []), (.iaload, 1, 0, []), (.if_icmp .ne 12, 3, 0, [59]), (.iload_n 3, 1, 0, []), (.iload_n 1, 1, 0, []), (.if_icmp .ge 7, 3, 0, [59])] := rfl
set_option maxRecDepth 100000 in
theorem q283_4 (E : mj_E) (d w c : Nat) (hi : Nat → Nat → Int32) (hl : Nat → Nat → Int64) (v1 : Int32) (v2 : Int32) (v3 : Int32) : mj_den mj_P E d 283 4 [Value.ref 205, Value.int v1, Value.int v2, Value.int v3] [] (mj_hw w c hi hl) = if (hi 205 6) ≤ v3 then mj_den mj_P E d 283 65 [Value.ref 205, Value.int v1, Value.int v2, Value.int v3] [] (mj_hw w c hi hl) else if 0 ≤ ((5 : Int32) + v3) ∧ (((5 : Int32) + v3)).toNatClampNeg < 57 then if 0 ≤ ((5 : Int32) + v1) ∧ (((5 : Int32) + v1)).toNatClampNeg < 57 then if (hi 206 ((((5 : Int32) + v3)).toNatClampNeg)) < (hi 206 ((((5 : Int32) + v1)).toNatClampNeg)) then mj_den mj_P E d 283 55 [Value.ref 205, Value.int v1, Value.int v2, Value.int v3] [] (mj_hw w c hi hl) else if 0 ≤ ((5 : Int32) + v3) ∧ (((5 : Int32) + v3)).toNatClampNeg < 57 then if 0 ≤ ((5 : Int32) + v1) ∧ (((5 : Int32) + v1)).toNatClampNeg < 57 then if ¬ (hi 206 ((((5 : Int32) + v3)).toNatClampNeg)) = (hi 206 ((((5 : Int32) + v1)).toNatClampNeg)) then mj_den mj_P E d 283 59 [Value.ref 205, Value.int v1, Value.int v2, Value.int v3] [] (mj_hw w c hi hl) else if v1 ≤ v3 then mj_den mj_P E d 283 59 [Value.ref 205, Value.int v1, Value.int v2, Value.int v3] [] (mj_hw w c hi hl) else mj_den mj_P E d 283 55 [Value.ref 205, Value.int v1, Value.int v2, Value.int v3] [] (mj_hw w c hi hl) else none else none else none else none := by
  rw [mj_den_eq, f283_4]
  exact zt_iload_n rfl rfl (zt_aload_n rfl rfl (zt_geti (mjkd205 _ _ _ _) rfl rfl (zt_icmp_ge rfl rfl (zt_aload_n rfl rfl (zt_getr (mjkd205 _ _ _ _) (mjhr205_1 w c) rfl (zt_iconst rfl (zt_iload_n rfl rfl (zt_iadd rfl (zt_iald (mjkd206 _ _ _ _) (mjln206 _ _ _ _) rfl rfl (zt_aload_n rfl rfl (zt_getr (mjkd205 _ _ _ _) (mjhr205_1 w c) rfl (zt_iconst rfl (zt_iload_n rfl rfl (zt_iadd rfl (zt_iald (mjkd206 _ _ _ _) (mjln206 _ _ _ _) rfl rfl (zt_icmp_lt rfl rfl (zt_aload_n rfl rfl (zt_getr (mjkd205 _ _ _ _) (mjhr205_1 w c) rfl (zt_iconst rfl (zt_iload_n rfl rfl (zt_iadd rfl (zt_iald (mjkd206 _ _ _ _) (mjln206 _ _ _ _) rfl rfl (zt_aload_n rfl rfl (zt_getr (mjkd205 _ _ _ _) (mjhr205_1 w c) rfl (zt_iconst rfl (zt_iload_n rfl rfl (zt_iadd rfl (zt_iald (mjkd206 _ _ _ _) (mjln206 _ _ _ _) rfl rfl (zt_icmp_ne rfl rfl (zt_iload_n rfl rfl (zt_iload_n rfl rfl (zt_icmp_ge rfl rfl (zt_end rfl)))))))))))))))))))))))))))))))))
set_option maxRecDepth 100000 in
theorem f283_55 : mj_find (mj_P 283).2.2.2.2 55 = [(.iload_n 2, 1, 0, []), (.iconst 1, 1, 1, []), (.iadd, 1, 0, []), (.istore_n 2, 1, 0, [])] := rfl
set_option maxRecDepth 100000 in
theorem q283_55 (E : mj_E) (d w c : Nat) (hi : Nat → Nat → Int32) (hl : Nat → Nat → Int64) (v1 : Int32) (v2 : Int32) (v3 : Int32) : mj_den mj_P E d 283 55 [Value.ref 205, Value.int v1, Value.int v2, Value.int v3] [] (mj_hw w c hi hl) = mj_den mj_P E d 283 59 [Value.ref 205, Value.int v1, Value.int (v2 + (1 : Int32)), Value.int v3] [] (mj_hw w c hi hl) := by
  rw [mj_den_eq, f283_55]
  exact zt_iload_n rfl rfl (zt_iconst rfl (zt_iadd rfl (zt_istore_n (Nat.le_of_ble_eq_true rfl) rfl rfl (zt_end rfl))))
set_option maxRecDepth 100000 in
theorem f283_59 : mj_find (mj_P 283).2.2.2.2 59 = [(.iinc 3 1, 3, 1, []), (.goto (-58), 3, 0, [4])] := rfl
set_option maxRecDepth 100000 in
theorem q283_59 (E : mj_E) (d w c : Nat) (hi : Nat → Nat → Int32) (hl : Nat → Nat → Int64) (v1 : Int32) (v2 : Int32) (v3 : Int32) : mj_den mj_P E d 283 59 [Value.ref 205, Value.int v1, Value.int v2, Value.int v3] [] (mj_hw w c hi hl) = mj_den mj_P E d 283 4 [Value.ref 205, Value.int v1, Value.int v2, Value.int (v3 + (1 : Int32))] [] (mj_hw w c hi hl) := by
  rw [mj_den_eq, f283_59]
  exact zt_iinc rfl (Nat.le_of_ble_eq_true rfl) rfl rfl (zt_goto rfl)
set_option maxRecDepth 100000 in
theorem f283_65 : mj_find (mj_P 283).2.2.2.2 65 = [(.iload_n 2, 1, 0, []), (.ireturn, 1, 0, [0])] := rfl
set_option maxRecDepth 100000 in
theorem q283_65 (E : mj_E) (d w c : Nat) (hi : Nat → Nat → Int32) (hl : Nat → Nat → Int64) (v1 : Int32) (v2 : Int32) (v3 : Int32) : mj_den mj_P E d 283 65 [Value.ref 205, Value.int v1, Value.int v2, Value.int v3] [] (mj_hw w c hi hl) = some (some (Value.int v2), (mj_hw w c hi hl)) := by
  rw [mj_den_eq, f283_65]
  exact zt_iload_n rfl rfl (zt_ireturn0)
set_option maxRecDepth 100000 in
theorem f284_0 : mj_find (mj_P 284).2.2.2.2 0 = [(.aload_n 0, 1, 0, []), (.iconst 0, 1, 0, []), (.putfield 122, 3, 0, [12, 0, 0, 1410]), (.aload_n 0, 1, 0, []), (.getfield 134, 3, 0, [12, 6, 0, 1416]), (.ifCond .eq 13, 3, 0, [22]), (.aload_n 0, 1, 0, []), (.iload_n 1, 1, 0, []), (.iconst 0, 1, 0, []), (.iconst 2, 1, 2, []), (.invokevirtual 144, 3, 0, [0, 152, 12, 3, 1, 1624, 1626, 42, 156, 1627])] := rfl
set_option maxRecDepth 100000 in
theorem q284_0 (E : mj_E) (d w c : Nat) (hi : Nat → Nat → Int32) (hl : Nat → Nat → Int64) (v1 : Int32) : mj_den mj_P E d 284 0 [Value.ref 205, Value.int v1, Value.float 0, Value.float 0, Value.float 0] [] (mj_hw w c hi hl) = if (hi 205 6) = 0 then mj_den mj_P E d 284 22 [Value.ref 205, Value.int v1, Value.float 0, Value.float 0, Value.float 0] [] (mj_hw w c (mj_u hi 205 0 (0 : Int32)) hl) else mj_bi (mj_dc mj_P E d 152 [Value.ref 205, Value.int v1, Value.int (0 : Int32), Value.int (2 : Int32)] (mj_hw w c (mj_u hi 205 0 (0 : Int32)) hl)) (fun x1 h1 => mj_den mj_P E d 284 19 [Value.ref 205, Value.int v1, Value.float 0, Value.float 0, Value.float 0] [Value.int x1] h1) := by
  rw [mj_den_eq, f284_0]
  exact zt_aload_n rfl rfl (zt_iconst rfl (zt_puti (mjkd205 _ _ _ _) rfl rfl (zt_aload_n rfl rfl (zt_geti (mjkd205 _ _ _ _) rfl rfl (zt_if_eq rfl rfl (zt_aload_n rfl rfl (zt_iload_n rfl rfl (zt_iconst rfl (zt_iconst rfl (zt_call0_1 rfl (mjkd205 _ _ _ _) (Nat.le_of_ble_eq_true rfl) rfl rfl))))))))))
set_option maxRecDepth 100000 in
theorem f284_19 : mj_find (mj_P 284).2.2.2.2 19 = [(.ifCond .ne 5, 3, 0, [24])] := rfl
set_option maxRecDepth 100000 in
theorem q284_19 (E : mj_E) (d w c : Nat) (hi : Nat → Nat → Int32) (hl : Nat → Nat → Int64) (v1 : Int32) (s0 : Int32) : mj_den mj_P E d 284 19 [Value.ref 205, Value.int v1, Value.float 0, Value.float 0, Value.float 0] [Value.int s0] (mj_hw w c hi hl) = if ¬ s0 = 0 then mj_den mj_P E d 284 24 [Value.ref 205, Value.int v1, Value.float 0, Value.float 0, Value.float 0] [] (mj_hw w c hi hl) else mj_den mj_P E d 284 22 [Value.ref 205, Value.int v1, Value.float 0, Value.float 0, Value.float 0] [] (mj_hw w c hi hl) := by
  rw [mj_den_eq, f284_19]
  exact zt_if_ne rfl rfl (zt_end rfl)
set_option maxRecDepth 100000 in
theorem f284_22 : mj_find (mj_P 284).2.2.2.2 22 = [(.iconst (-1), 1, (-1), []), (.ireturn, 1, 0, [0])] := rfl
set_option maxRecDepth 100000 in
theorem q284_22 (E : mj_E) (d w c : Nat) (hi : Nat → Nat → Int32) (hl : Nat → Nat → Int64) (v1 : Int32) : mj_den mj_P E d 284 22 [Value.ref 205, Value.int v1, Value.float 0, Value.float 0, Value.float 0] [] (mj_hw w c hi hl) = some (some (Value.int (-1 : Int32)), (mj_hw w c hi hl)) := by
  rw [mj_den_eq, f284_22]
  exact zt_iconst rfl (zt_ireturn0)
set_option maxRecDepth 100000 in
theorem f284_24 : mj_find (mj_P 284).2.2.2.2 24 = [(.iconst 0, 1, 0, []), (.istore_n 2, 1, 0, []), (.iconst 0, 1, 0, []), (.istore_n 3, 1, 0, []), (.iconst 0, 1, 0, []), (.istore 4, 2, 0, [])] := rfl
set_option maxRecDepth 100000 in
theorem q284_24 (E : mj_E) (d w c : Nat) (hi : Nat → Nat → Int32) (hl : Nat → Nat → Int64) (v1 : Int32) : mj_den mj_P E d 284 24 [Value.ref 205, Value.int v1, Value.float 0, Value.float 0, Value.float 0] [] (mj_hw w c hi hl) = mj_den mj_P E d 284 31 [Value.ref 205, Value.int v1, Value.int (0 : Int32), Value.int (0 : Int32), Value.int (0 : Int32)] [] (mj_hw w c hi hl) := by
  rw [mj_den_eq, f284_24]
  exact zt_iconst rfl (zt_istore_n (Nat.le_of_ble_eq_true rfl) rfl rfl (zt_iconst rfl (zt_istore_n (Nat.le_of_ble_eq_true rfl) rfl rfl (zt_iconst rfl (zt_istore (Nat.le_of_ble_eq_true rfl) rfl rfl (zt_end rfl))))))
set_option maxRecDepth 100000 in
theorem f284_31 : mj_find (mj_P 284).2.2.2.2 31 = [(.iload 4, 2, 0, []), (.aload_n 0, 1, 0, []), (.getfield 134, 3, 0, [12, 6, 0, 1416]), (.if_icmp .ge 46, 3, 0, [83]), (.aload_n 0, 1, 0, []), (.iload 4, 2, 0, []), (.invokevirtual 503, 3, 0, [0, 282, 12, 1, 1, 2141, 2143, 136, 156, 2144])] := rfl
set_option maxRecDepth 100000 in
theorem q284_31 (E : mj_E) (d w c : Nat) (hi : Nat → Nat → Int32) (hl : Nat → Nat → Int64) (v1 : Int32) (v2 : Int32) (v3 : Int32) (v4 : Int32) : mj_den mj_P E d 284 31 [Value.ref 205, Value.int v1, Value.int v2, Value.int v3, Value.int v4] [] (mj_hw w c hi hl) = if (hi 205 6) ≤ v4 then mj_den mj_P E d 284 83 [Value.ref 205, Value.int v1, Value.int v2, Value.int v3, Value.int v4] [] (mj_hw w c hi hl) else mj_bi (mj_dc mj_P E d 282 [Value.ref 205, Value.int v4] (mj_hw w c hi hl)) (fun x1 h1 => mj_den mj_P E d 284 46 [Value.ref 205, Value.int v1, Value.int v2, Value.int v3, Value.int v4] [Value.int x1] h1) := by
  rw [mj_den_eq, f284_31]
  exact zt_iload rfl rfl (zt_aload_n rfl rfl (zt_geti (mjkd205 _ _ _ _) rfl rfl (zt_icmp_ge rfl rfl (zt_aload_n rfl rfl (zt_iload rfl rfl (zt_call0_1 rfl (mjkd205 _ _ _ _) (Nat.le_of_ble_eq_true rfl) rfl rfl))))))
set_option maxRecDepth 100000 in
theorem f284_46 : mj_find (mj_P 284).2.2.2.2 46 = [(.aload_n 0, 1, 0, []), (.iload_n 2, 1, 0, []), (.invokevirtual 503, 3, 0, [0, 282, 12, 1, 1, 2141, 2143, 136, 156, 2144])] := rfl
set_option maxRecDepth 100000 in
theorem q284_46 (E : mj_E) (d w c : Nat) (hi : Nat → Nat → Int32) (hl : Nat → Nat → Int64) (v1 : Int32) (v2 : Int32) (v3 : Int32) (v4 : Int32) (s0 : Int32) : mj_den mj_P E d 284 46 [Value.ref 205, Value.int v1, Value.int v2, Value.int v3, Value.int v4] [Value.int s0] (mj_hw w c hi hl) = mj_bi (mj_dc mj_P E d 282 [Value.ref 205, Value.int v2] (mj_hw w c hi hl)) (fun x1 h1 => mj_den mj_P E d 284 51 [Value.ref 205, Value.int v1, Value.int v2, Value.int v3, Value.int v4] [Value.int x1, Value.int s0] h1) := by
  rw [mj_den_eq, f284_46]
  exact zt_aload_n rfl rfl (zt_iload_n rfl rfl (zt_call0_1 rfl (mjkd205 _ _ _ _) (Nat.le_of_ble_eq_true rfl) rfl rfl))
set_option maxRecDepth 100000 in
theorem f284_51 : mj_find (mj_P 284).2.2.2.2 51 = [(.if_icmp .le 6, 3, 0, [57]), (.iload 4, 2, 0, []), (.istore_n 2, 1, 0, [])] := rfl
set_option maxRecDepth 100000 in
theorem q284_51 (E : mj_E) (d w c : Nat) (hi : Nat → Nat → Int32) (hl : Nat → Nat → Int64) (v1 : Int32) (v2 : Int32) (v3 : Int32) (v4 : Int32) (s0 : Int32) (s1 : Int32) : mj_den mj_P E d 284 51 [Value.ref 205, Value.int v1, Value.int v2, Value.int v3, Value.int v4] [Value.int s0, Value.int s1] (mj_hw w c hi hl) = if s1 ≤ s0 then mj_den mj_P E d 284 57 [Value.ref 205, Value.int v1, Value.int v2, Value.int v3, Value.int v4] [] (mj_hw w c hi hl) else mj_den mj_P E d 284 57 [Value.ref 205, Value.int v1, Value.int v4, Value.int v3, Value.int v4] [] (mj_hw w c hi hl) := by
  rw [mj_den_eq, f284_51]
  exact zt_icmp_le rfl rfl (zt_iload rfl rfl (zt_istore_n (Nat.le_of_ble_eq_true rfl) rfl rfl (zt_end rfl)))
set_option maxRecDepth 100000 in
theorem f284_57 : mj_find (mj_P 284).2.2.2.2 57 = [(.aload_n 0, 1, 0, []), (.iload 4, 2, 0, []), (.invokevirtual 506, 3, 0, [0, 283, 12, 1, 1, 2145, 2147, 137, 156, 2148])] := rfl
set_option maxRecDepth 100000 in
theorem q284_57 (E : mj_E) (d w c : Nat) (hi : Nat → Nat → Int32) (hl : Nat → Nat → Int64) (v1 : Int32) (v2 : Int32) (v3 : Int32) (v4 : Int32) : mj_den mj_P E d 284 57 [Value.ref 205, Value.int v1, Value.int v2, Value.int v3, Value.int v4] [] (mj_hw w c hi hl) = mj_bi (mj_dc mj_P E d 283 [Value.ref 205, Value.int v4] (mj_hw w c hi hl)) (fun x1 h1 => mj_den mj_P E d 284 63 [Value.ref 205, Value.int v1, Value.int v2, Value.int v3, Value.int v4] [Value.int x1] h1) := by
  rw [mj_den_eq, f284_57]
  exact zt_aload_n rfl rfl (zt_iload rfl rfl (zt_call0_1 rfl (mjkd205 _ _ _ _) (Nat.le_of_ble_eq_true rfl) rfl rfl))
set_option maxRecDepth 100000 in
theorem f284_63 : mj_find (mj_P 284).2.2.2.2 63 = [(.aload_n 0, 1, 0, []), (.getfield 134, 3, 0, [12, 6, 0, 1416]), (.iconst 1, 1, 1, []), (.isub, 1, 0, []), (.iconst 2, 1, 2, []), (.idiv, 1, 0, []), (.if_icmp .ne 6, 3, 0, [77]), (.iload 4, 2, 0, []), (.istore_n 3, 1, 0, [])] := rfl
set_option maxRecDepth 100000 in
theorem q284_63 (E : mj_E) (d w c : Nat) (hi : Nat → Nat → Int32) (hl : Nat → Nat → Int64) (v1 : Int32) (v2 : Int32) (v3 : Int32) (v4 : Int32) (s0 : Int32) : mj_den mj_P E d 284 63 [Value.ref 205, Value.int v1, Value.int v2, Value.int v3, Value.int v4] [Value.int s0] (mj_hw w c hi hl) = if (2 : Int32) = 0 then none else if ¬ s0 = (((hi 205 6) - (1 : Int32)) / (2 : Int32)) then mj_den mj_P E d 284 77 [Value.ref 205, Value.int v1, Value.int v2, Value.int v3, Value.int v4] [] (mj_hw w c hi hl) else mj_den mj_P E d 284 77 [Value.ref 205, Value.int v1, Value.int v2, Value.int v4, Value.int v4] [] (mj_hw w c hi hl) := by
  rw [mj_den_eq, f284_63]
  exact zt_aload_n rfl rfl (zt_geti (mjkd205 _ _ _ _) rfl rfl (zt_iconst rfl (zt_isub rfl (zt_iconst rfl (zt_idiv  rfl (zt_icmp_ne rfl rfl (zt_iload rfl rfl (zt_istore_n (Nat.le_of_ble_eq_true rfl) rfl rfl (zt_end rfl)))))))))
set_option maxRecDepth 100000 in
theorem f284_77 : mj_find (mj_P 284).2.2.2.2 77 = [(.iinc 4 1, 3, 1, []), (.goto (-49), 3, 0, [31])] := rfl
set_option maxRecDepth 100000 in
theorem q284_77 (E : mj_E) (d w c : Nat) (hi : Nat → Nat → Int32) (hl : Nat → Nat → Int64) (v1 : Int32) (v2 : Int32) (v3 : Int32) (v4 : Int32) : mj_den mj_P E d 284 77 [Value.ref 205, Value.int v1, Value.int v2, Value.int v3, Value.int v4] [] (mj_hw w c hi hl) = mj_den mj_P E d 284 31 [Value.ref 205, Value.int v1, Value.int v2, Value.int v3, Value.int (v4 + (1 : Int32))] [] (mj_hw w c hi hl) := by
  rw [mj_den_eq, f284_77]
  exact zt_iinc rfl (Nat.le_of_ble_eq_true rfl) rfl rfl (zt_goto rfl)
set_option maxRecDepth 100000 in
theorem f284_83 : mj_find (mj_P 284).2.2.2.2 83 = [(.iload_n 1, 1, 0, []), (.ifCond .ne 7, 3, 0, [91]), (.iload_n 2, 1, 0, []), (.goto 24, 3, 0, [112])] := rfl
set_option maxRecDepth 100000 in
theorem q284_83 (E : mj_E) (d w c : Nat) (hi : Nat → Nat → Int32) (hl : Nat → Nat → Int64) (v1 : Int32) (v2 : Int32) (v3 : Int32) (v4 : Int32) : mj_den mj_P E d 284 83 [Value.ref 205, Value.int v1, Value.int v2, Value.int v3, Value.int v4] [] (mj_hw w c hi hl) = if ¬ v1 = 0 then mj_den mj_P E d 284 91 [Value.ref 205, Value.int v1, Value.int v2, Value.int v3, Value.int v4] [] (mj_hw w c hi hl) else mj_den mj_P E d 284 112 [Value.ref 205, Value.int v1, Value.int v2, Value.int v3, Value.int v4] [Value.int v2] (mj_hw w c hi hl) := by
  rw [mj_den_eq, f284_83]
  exact zt_iload_n rfl rfl (zt_if_ne rfl rfl (zt_iload_n rfl rfl (zt_goto rfl)))
set_option maxRecDepth 100000 in
theorem f284_91 : mj_find (mj_P 284).2.2.2.2 91 = [(.iload_n 1, 1, 0, []), (.iconst 1, 1, 1, []), (.if_icmp .ne 11, 3, 0, [104]), (.aload_n 0, 1, 0, []), (.iload_n 2, 1, 0, []), (.invokevirtual 503, 3, 0, [0, 282, 12, 1, 1, 2141, 2143, 136, 156, 2144])] := rfl
set_option maxRecDepth 100000 in
theorem q284_91 (E : mj_E) (d w c : Nat) (hi : Nat → Nat → Int32) (hl : Nat → Nat → Int64) (v1 : Int32) (v2 : Int32) (v3 : Int32) (v4 : Int32) : mj_den mj_P E d 284 91 [Value.ref 205, Value.int v1, Value.int v2, Value.int v3, Value.int v4] [] (mj_hw w c hi hl) = if ¬ v1 = (1 : Int32) then mj_den mj_P E d 284 104 [Value.ref 205, Value.int v1, Value.int v2, Value.int v3, Value.int v4] [] (mj_hw w c hi hl) else mj_bi (mj_dc mj_P E d 282 [Value.ref 205, Value.int v2] (mj_hw w c hi hl)) (fun x1 h1 => mj_den mj_P E d 284 101 [Value.ref 205, Value.int v1, Value.int v2, Value.int v3, Value.int v4] [Value.int x1] h1) := by
  rw [mj_den_eq, f284_91]
  exact zt_iload_n rfl rfl (zt_iconst rfl (zt_icmp_ne rfl rfl (zt_aload_n rfl rfl (zt_iload_n rfl rfl (zt_call0_1 rfl (mjkd205 _ _ _ _) (Nat.le_of_ble_eq_true rfl) rfl rfl)))))
set_option maxRecDepth 100000 in
theorem f284_101 : mj_find (mj_P 284).2.2.2.2 101 = [(.goto 11, 3, 0, [112])] := rfl
set_option maxRecDepth 100000 in
theorem q284_101 (E : mj_E) (d w c : Nat) (hi : Nat → Nat → Int32) (hl : Nat → Nat → Int64) (v1 : Int32) (v2 : Int32) (v3 : Int32) (v4 : Int32) (s0 : Int32) : mj_den mj_P E d 284 101 [Value.ref 205, Value.int v1, Value.int v2, Value.int v3, Value.int v4] [Value.int s0] (mj_hw w c hi hl) = mj_den mj_P E d 284 112 [Value.ref 205, Value.int v1, Value.int v2, Value.int v3, Value.int v4] [Value.int s0] (mj_hw w c hi hl) := by
  rw [mj_den_eq, f284_101]
  exact zt_goto rfl
set_option maxRecDepth 100000 in
theorem f284_104 : mj_find (mj_P 284).2.2.2.2 104 = [(.aload_n 0, 1, 0, []), (.getfield 7, 3, 0, [12, 1, 3, 1411]), (.iconst 5, 1, 5, []), (.iload_n 3, 1, 0, []), (.iadd, 1, 0, []), (.iaload, 1, 0, [])] := rfl
set_option maxRecDepth 100000 in
theorem q284_104 (E : mj_E) (d w c : Nat) (hi : Nat → Nat → Int32) (hl : Nat → Nat → Int64) (v1 : Int32) (v2 : Int32) (v3 : Int32) (v4 : Int32) : mj_den mj_P E d 284 104 [Value.ref 205, Value.int v1, Value.int v2, Value.int v3, Value.int v4] [] (mj_hw w c hi hl) = if 0 ≤ ((5 : Int32) + v3) ∧ (((5 : Int32) + v3)).toNatClampNeg < 57 then mj_den mj_P E d 284 112 [Value.ref 205, Value.int v1, Value.int v2, Value.int v3, Value.int v4] [Value.int (hi 206 ((((5 : Int32) + v3)).toNatClampNeg))] (mj_hw w c hi hl) else none := by
  rw [mj_den_eq, f284_104]
  exact zt_aload_n rfl rfl (zt_getr (mjkd205 _ _ _ _) (mjhr205_1 w c) rfl (zt_iconst rfl (zt_iload_n rfl rfl (zt_iadd rfl (zt_iald (mjkd206 _ _ _ _) (mjln206 _ _ _ _) rfl rfl (zt_end rfl))))))
set_option maxRecDepth 100000 in
theorem f284_112 : mj_find (mj_P 284).2.2.2.2 112 = [(.ireturn, 1, 0, [0])] := rfl
set_option maxRecDepth 100000 in
theorem q284_112 (E : mj_E) (d w c : Nat) (hi : Nat → Nat → Int32) (hl : Nat → Nat → Int64) (v1 : Int32) (v2 : Int32) (v3 : Int32) (v4 : Int32) (s0 : Int32) : mj_den mj_P E d 284 112 [Value.ref 205, Value.int v1, Value.int v2, Value.int v3, Value.int v4] [Value.int s0] (mj_hw w c hi hl) = some (some (Value.int s0), (mj_hw w c hi hl)) := by
  rw [mj_den_eq, f284_112]
  exact zt_ireturn0
set_option maxRecDepth 100000 in
theorem f285_0 : mj_find (mj_P 285).2.2.2.2 0 = [(.aload_n 0, 1, 0, []), (.aload_n 0, 1, 0, []), (.getfield 509, 3, 0, [12, 65, 0, 1475]), (.iconst 1, 1, 1, []), (.iadd, 1, 0, []), (.putfield 509, 3, 0, [12, 65, 0, 1475]), (.aload_n 0, 1, 0, []), (.getfield 512, 3, 0, [12, 63, 1, 1473]), (.ifCond .ne 15, 3, 0, [29]), (.aload_n 0, 1, 0, []), (.getfield 119, 3, 0, [12, 66, 3, 1476]), (.aload_n 0, 1, 0, []), (.getfield 509, 3, 0, [12, 65, 0, 1475]), (.iconst 1, 1, 1, []), (.isub, 1, 0, []), (.iaload, 1, 0, []), (.ireturn, 1, 0, [0])] := rfl
set_option maxRecDepth 100000 in
theorem q285_0 (E : mj_E) (d w c : Nat) (hi : Nat → Nat → Int32) (hl : Nat → Nat → Int64) (v1 : Int32) : mj_den mj_P E d 285 0 [Value.ref 205, Value.int v1] [] (mj_hw w c hi hl) = if ¬ (hi 205 63) = 0 then mj_den mj_P E d 285 29 [Value.ref 205, Value.int v1] [] (mj_hw w c (mj_u hi 205 65 ((hi 205 65) + (1 : Int32))) hl) else if 0 ≤ (((hi 205 65) + (1 : Int32)) - (1 : Int32)) ∧ ((((hi 205 65) + (1 : Int32)) - (1 : Int32))).toNatClampNeg < 2100 then some (some (Value.int (hi 241 (((((hi 205 65) + (1 : Int32)) - (1 : Int32))).toNatClampNeg))), (mj_hw w c (mj_u hi 205 65 ((hi 205 65) + (1 : Int32))) hl)) else none := by
  rw [mj_den_eq, f285_0]
  exact zt_aload_n rfl rfl (zt_aload_n rfl rfl (zt_geti (mjkd205 _ _ _ _) rfl rfl (zt_iconst rfl (zt_iadd rfl (zt_puti (mjkd205 _ _ _ _) rfl rfl (zt_aload_n rfl rfl (zt_getz (mjkd205 _ _ _ _) rfl rfl (zt_if_ne rfl rfl (zt_aload_n rfl rfl (zt_getr (mjkd205 _ _ _ _) (mjhr205_66 w c) rfl (zt_aload_n rfl rfl (zt_geti (mjkd205 _ _ _ _) rfl rfl (zt_iconst rfl (zt_isub rfl (zt_iald (mjkd241 _ _ _ _) (mjln241 _ _ _ _) rfl rfl (zt_ireturn0))))))))))))))))
set_option maxRecDepth 100000 in
theorem f285_29 : mj_find (mj_P 285).2.2.2.2 29 = [(.aload_n 0, 1, 0, []), (.getfield 119, 3, 0, [12, 66, 3, 1476]), (.aload_n 0, 1, 0, []), (.getfield 509, 3, 0, [12, 65, 0, 1475]), (.iconst 1, 1, 1, []), (.isub, 1, 0, []), (.iload_n 1, 1, 0, []), (.iastore, 1, 0, []), (.iload_n 1, 1, 0, []), (.ireturn, 1, 0, [0])] := rfl
set_option maxRecDepth 100000 in
theorem q285_29 (E : mj_E) (d w c : Nat) (hi : Nat → Nat → Int32) (hl : Nat → Nat → Int64) (v1 : Int32) : mj_den mj_P E d 285 29 [Value.ref 205, Value.int v1] [] (mj_hw w c hi hl) = if 0 ≤ ((hi 205 65) - (1 : Int32)) ∧ (((hi 205 65) - (1 : Int32))).toNatClampNeg < 2100 then some (some (Value.int v1), (mj_hw w c (mj_u hi 241 ((((hi 205 65) - (1 : Int32))).toNatClampNeg) v1) hl)) else none := by
  rw [mj_den_eq, f285_29]
  exact zt_aload_n rfl rfl (zt_getr (mjkd205 _ _ _ _) (mjhr205_66 w c) rfl (zt_aload_n rfl rfl (zt_geti (mjkd205 _ _ _ _) rfl rfl (zt_iconst rfl (zt_isub rfl (zt_iload_n rfl rfl (zt_iast (mjkd241 _ _ _ _) (mjln241 _ _ _ _) rfl rfl (zt_iload_n rfl rfl (zt_ireturn0)))))))))
set_option maxRecDepth 100000 in
theorem f286_0 : mj_find (mj_P 286).2.2.2.2 0 = [(.aload_n 0, 1, 0, []), (.getfield 40, 3, 0, [12, 20, 3, 1430]), (.iconst 0, 1, 0, []), (.aload_n 0, 1, 0, []), (.aload_n 0, 1, 0, []), (.getfield 40, 3, 0, [12, 20, 3, 1430]), (.iconst 0, 1, 0, []), (.iaload, 1, 0, []), (.invokevirtual 515, 3, 0, [0, 285, 12, 1, 1, 2153, 2155, 138, 156, 2156])] := rfl
set_option maxRecDepth 100000 in
theorem q286_0 (E : mj_E) (d w c : Nat) (hi : Nat → Nat → Int32) (hl : Nat → Nat → Int64) : mj_den mj_P E d 286 0 [Value.ref 205, Value.float 0] [] (mj_hw w c hi hl) = if 0 ≤ (0 : Int32) ∧ ((0 : Int32)).toNatClampNeg < 2 then mj_bi (mj_dc mj_P E d 285 [Value.ref 205, Value.int (hi 216 (((0 : Int32)).toNatClampNeg))] (mj_hw w c hi hl)) (fun x1 h1 => mj_den mj_P E d 286 15 [Value.ref 205, Value.float 0] [Value.int x1, Value.int (0 : Int32), Value.ref 216] h1) else none := by
  rw [mj_den_eq, f286_0]
  exact zt_aload_n rfl rfl (zt_getr (mjkd205 _ _ _ _) (mjhr205_20 w c) rfl (zt_iconst rfl (zt_aload_n rfl rfl (zt_aload_n rfl rfl (zt_getr (mjkd205 _ _ _ _) (mjhr205_20 w c) rfl (zt_iconst rfl (zt_iald (mjkd216 _ _ _ _) (mjln216 _ _ _ _) rfl rfl (zt_call0_1 rfl (mjkd205 _ _ _ _) (Nat.le_of_ble_eq_true rfl) rfl rfl))))))))
set_option maxRecDepth 100000 in
theorem f286_15 : mj_find (mj_P 286).2.2.2.2 15 = [(.iastore, 1, 0, []), (.iconst 0, 1, 0, []), (.istore_n 1, 1, 0, [])] := rfl
set_option maxRecDepth 100000 in
theorem q286_15 (E : mj_E) (d w c : Nat) (hi : Nat → Nat → Int32) (hl : Nat → Nat → Int64) (s0 : Int32) (s1 : Int32) : mj_den mj_P E d 286 15 [Value.ref 205, Value.float 0] [Value.int s0, Value.int s1, Value.ref 216] (mj_hw w c hi hl) = if 0 ≤ s1 ∧ (s1).toNatClampNeg < 2 then mj_den mj_P E d 286 18 [Value.ref 205, Value.int (0 : Int32)] [] (mj_hw w c (mj_u hi 216 ((s1).toNatClampNeg) s0) hl) else none := by
  rw [mj_den_eq, f286_15]
  exact zt_iast (mjkd216 _ _ _ _) (mjln216 _ _ _ _) rfl rfl (zt_iconst rfl (zt_istore_n (Nat.le_of_ble_eq_true rfl) rfl rfl (zt_end rfl)))
set_option maxRecDepth 100000 in
theorem f286_18 : mj_find (mj_P 286).2.2.2.2 18 = [(.iload_n 1, 1, 0, []), (.bipush 16, 2, 16, []), (.if_icmp .ge 73, 3, 0, [94]), (.aload_n 0, 1, 0, []), (.getfield 43, 3, 0, [12, 21, 3, 1431]), (.iload_n 1, 1, 0, []), (.aload_n 0, 1, 0, []), (.aload_n 0, 1, 0, []), (.getfield 43, 3, 0, [12, 21, 3, 1431]), (.iload_n 1, 1, 0, []), (.iaload, 1, 0, []), (.invokevirtual 515, 3, 0, [0, 285, 12, 1, 1, 2153, 2155, 138, 156, 2156])] := rfl
set_option maxRecDepth 100000 in
theorem q286_18 (E : mj_E) (d w c : Nat) (hi : Nat → Nat → Int32) (hl : Nat → Nat → Int64) (v1 : Int32) : mj_den mj_P E d 286 18 [Value.ref 205, Value.int v1] [] (mj_hw w c hi hl) = if (16 : Int32) ≤ v1 then mj_den mj_P E d 286 94 [Value.ref 205, Value.int v1] [] (mj_hw w c hi hl) else if 0 ≤ v1 ∧ (v1).toNatClampNeg < 48 then mj_bi (mj_dc mj_P E d 285 [Value.ref 205, Value.int (hi 217 ((v1).toNatClampNeg))] (mj_hw w c hi hl)) (fun x1 h1 => mj_den mj_P E d 286 39 [Value.ref 205, Value.int v1] [Value.int x1, Value.int v1, Value.ref 217] h1) else none := by
  rw [mj_den_eq, f286_18]
  exact zt_iload_n rfl rfl (zt_bipush rfl (zt_icmp_ge rfl rfl (zt_aload_n rfl rfl (zt_getr (mjkd205 _ _ _ _) (mjhr205_21 w c) rfl (zt_iload_n rfl rfl (zt_aload_n rfl rfl (zt_aload_n rfl rfl (zt_getr (mjkd205 _ _ _ _) (mjhr205_21 w c) rfl (zt_iload_n rfl rfl (zt_iald (mjkd217 _ _ _ _) (mjln217 _ _ _ _) rfl rfl (zt_call0_1 rfl (mjkd205 _ _ _ _) (Nat.le_of_ble_eq_true rfl) rfl rfl)))))))))))
set_option maxRecDepth 100000 in
theorem f286_39 : mj_find (mj_P 286).2.2.2.2 39 = [(.iastore, 1, 0, []), (.aload_n 0, 1, 0, []), (.getfield 46, 3, 0, [12, 22, 3, 1432]), (.iload_n 1, 1, 0, []), (.aload_n 0, 1, 0, []), (.aload_n 0, 1, 0, []), (.getfield 46, 3, 0, [12, 22, 3, 1432]), (.iload_n 1, 1, 0, []), (.iaload, 1, 0, []), (.invokevirtual 515, 3, 0, [0, 285, 12, 1, 1, 2153, 2155, 138, 156, 2156])] := rfl
set_option maxRecDepth 100000 in
theorem q286_39 (E : mj_E) (d w c : Nat) (hi : Nat → Nat → Int32) (hl : Nat → Nat → Int64) (v1 : Int32) (s0 : Int32) (s1 : Int32) : mj_den mj_P E d 286 39 [Value.ref 205, Value.int v1] [Value.int s0, Value.int s1, Value.ref 217] (mj_hw w c hi hl) = if 0 ≤ s1 ∧ (s1).toNatClampNeg < 48 then if 0 ≤ v1 ∧ (v1).toNatClampNeg < 48 then mj_bi (mj_dc mj_P E d 285 [Value.ref 205, Value.int (hi 218 ((v1).toNatClampNeg))] (mj_hw w c (mj_u hi 217 ((s1).toNatClampNeg) s0) hl)) (fun x1 h1 => mj_den mj_P E d 286 55 [Value.ref 205, Value.int v1] [Value.int x1, Value.int v1, Value.ref 218] h1) else none else none := by
  rw [mj_den_eq, f286_39]
  exact zt_iast (mjkd217 _ _ _ _) (mjln217 _ _ _ _) rfl rfl (zt_aload_n rfl rfl (zt_getr (mjkd205 _ _ _ _) (mjhr205_22 w c) rfl (zt_iload_n rfl rfl (zt_aload_n rfl rfl (zt_aload_n rfl rfl (zt_getr (mjkd205 _ _ _ _) (mjhr205_22 w c) rfl (zt_iload_n rfl rfl (zt_iald (mjkd218 _ _ _ _) (mjln218 _ _ _ _) rfl rfl (zt_call0_1 rfl (mjkd205 _ _ _ _) (Nat.le_of_ble_eq_true rfl) rfl rfl)))))))))
set_option maxRecDepth 100000 in
theorem f286_55 : mj_find (mj_P 286).2.2.2.2 55 = [(.iastore, 1, 0, []), (.aload_n 0, 1, 0, []), (.getfield 49, 3, 0, [12, 23, 3, 1433]), (.iload_n 1, 1, 0, []), (.aload_n 0, 1, 0, []), (.aload_n 0, 1, 0, []), (.getfield 49, 3, 0, [12, 23, 3, 1433]), (.iload_n 1, 1, 0, []), (.iaload, 1, 0, []), (.invokevirtual 515, 3, 0, [0, 285, 12, 1, 1, 2153, 2155, 138, 156, 2156])] := rfl
set_option maxRecDepth 100000 in
theorem q286_55 (E : mj_E) (d w c : Nat) (hi : Nat → Nat → Int32) (hl : Nat → Nat → Int64) (v1 : Int32) (s0 : Int32) (s1 : Int32) : mj_den mj_P E d 286 55 [Value.ref 205, Value.int v1] [Value.int s0, Value.int s1, Value.ref 218] (mj_hw w c hi hl) = if 0 ≤ s1 ∧ (s1).toNatClampNeg < 48 then if 0 ≤ v1 ∧ (v1).toNatClampNeg < 48 then mj_bi (mj_dc mj_P E d 285 [Value.ref 205, Value.int (hi 219 ((v1).toNatClampNeg))] (mj_hw w c (mj_u hi 218 ((s1).toNatClampNeg) s0) hl)) (fun x1 h1 => mj_den mj_P E d 286 71 [Value.ref 205, Value.int v1] [Value.int x1, Value.int v1, Value.ref 219] h1) else none else none := by
  rw [mj_den_eq, f286_55]
  exact zt_iast (mjkd218 _ _ _ _) (mjln218 _ _ _ _) rfl rfl (zt_aload_n rfl rfl (zt_getr (mjkd205 _ _ _ _) (mjhr205_23 w c) rfl (zt_iload_n rfl rfl (zt_aload_n rfl rfl (zt_aload_n rfl rfl (zt_getr (mjkd205 _ _ _ _) (mjhr205_23 w c) rfl (zt_iload_n rfl rfl (zt_iald (mjkd219 _ _ _ _) (mjln219 _ _ _ _) rfl rfl (zt_call0_1 rfl (mjkd205 _ _ _ _) (Nat.le_of_ble_eq_true rfl) rfl rfl)))))))))
set_option maxRecDepth 100000 in
theorem f286_71 : mj_find (mj_P 286).2.2.2.2 71 = [(.iastore, 1, 0, []), (.aload_n 0, 1, 0, []), (.getfield 52, 3, 0, [12, 24, 3, 1434]), (.iload_n 1, 1, 0, []), (.aload_n 0, 1, 0, []), (.aload_n 0, 1, 0, []), (.getfield 52, 3, 0, [12, 24, 3, 1434]), (.iload_n 1, 1, 0, []), (.iaload, 1, 0, []), (.invokevirtual 515, 3, 0, [0, 285, 12, 1, 1, 2153, 2155, 138, 156, 2156])] := rfl
set_option maxRecDepth 100000 in
theorem q286_71 (E : mj_E) (d w c : Nat) (hi : Nat → Nat → Int32) (hl : Nat → Nat → Int64) (v1 : Int32) (s0 : Int32) (s1 : Int32) : mj_den mj_P E d 286 71 [Value.ref 205, Value.int v1] [Value.int s0, Value.int s1, Value.ref 219] (mj_hw w c hi hl) = if 0 ≤ s1 ∧ (s1).toNatClampNeg < 48 then if 0 ≤ v1 ∧ (v1).toNatClampNeg < 48 then mj_bi (mj_dc mj_P E d 285 [Value.ref 205, Value.int (hi 220 ((v1).toNatClampNeg))] (mj_hw w c (mj_u hi 219 ((s1).toNatClampNeg) s0) hl)) (fun x1 h1 => mj_den mj_P E d 286 87 [Value.ref 205, Value.int v1] [Value.int x1, Value.int v1, Value.ref 220] h1) else none else none := by
  rw [mj_den_eq, f286_71]
  exact zt_iast (mjkd219 _ _ _ _) (mjln219 _ _ _ _) rfl rfl (zt_aload_n rfl rfl (zt_getr (mjkd205 _ _ _ _) (mjhr205_24 w c) rfl (zt_iload_n rfl rfl (zt_aload_n rfl rfl (zt_aload_n rfl rfl (zt_getr (mjkd205 _ _ _ _) (mjhr205_24 w c) rfl (zt_iload_n rfl rfl (zt_iald (mjkd220 _ _ _ _) (mjln220 _ _ _ _) rfl rfl (zt_call0_1 rfl (mjkd205 _ _ _ _) (Nat.le_of_ble_eq_true rfl) rfl rfl)))))))))
set_option maxRecDepth 100000 in
theorem f286_87 : mj_find (mj_P 286).2.2.2.2 87 = [(.iastore, 1, 0, []), (.iinc 1 1, 3, 1, []), (.goto (-73), 3, 0, [18])] := rfl
set_option maxRecDepth 100000 in
theorem q286_87 (E : mj_E) (d w c : Nat) (hi : Nat → Nat → Int32) (hl : Nat → Nat → Int64) (v1 : Int32) (s0 : Int32) (s1 : Int32) : mj_den mj_P E d 286 87 [Value.ref 205, Value.int v1] [Value.int s0, Value.int s1, Value.ref 220] (mj_hw w c hi hl) = if 0 ≤ s1 ∧ (s1).toNatClampNeg < 48 then mj_den mj_P E d 286 18 [Value.ref 205, Value.int (v1 + (1 : Int32))] [] (mj_hw w c (mj_u hi 220 ((s1).toNatClampNeg) s0) hl) else none := by
  rw [mj_den_eq, f286_87]
  exact zt_iast (mjkd220 _ _ _ _) (mjln220 _ _ _ _) rfl rfl (zt_iinc rfl (Nat.le_of_ble_eq_true rfl) rfl rfl (zt_goto rfl))
set_option maxRecDepth 100000 in
theorem f286_94 : mj_find (mj_P 286).2.2.2.2 94 = [(.iconst 0, 1, 0, []), (.istore_n 1, 1, 0, [])] := rfl
set_option maxRecDepth 100000 in
theorem q286_94 (E : mj_E) (d w c : Nat) (hi : Nat → Nat → Int32) (hl : Nat → Nat → Int64) (v1 : Int32) : mj_den mj_P E d 286 94 [Value.ref 205, Value.int v1] [] (mj_hw w c hi hl) = mj_den mj_P E d 286 96 [Value.ref 205, Value.int (0 : Int32)] [] (mj_hw w c hi hl) := by
  rw [mj_den_eq, f286_94]
  exact zt_iconst rfl (zt_istore_n (Nat.le_of_ble_eq_true rfl) rfl rfl (zt_end rfl))
set_option maxRecDepth 100000 in
theorem f286_96 : mj_find (mj_P 286).2.2.2.2 96 = [(.iload_n 1, 1, 0, []), (.sipush 400, 3, 400, []), (.if_icmp .ge 41, 3, 0, [141]), (.aload_n 0, 1, 0, []), (.getfield 55, 3, 0, [12, 25, 3, 1435]), (.iload_n 1, 1, 0, []), (.aload_n 0, 1, 0, []), (.aload_n 0, 1, 0, []), (.getfield 55, 3, 0, [12, 25, 3, 1435]), (.iload_n 1, 1, 0, []), (.iaload, 1, 0, []), (.invokevirtual 515, 3, 0, [0, 285, 12, 1, 1, 2153, 2155, 138, 156, 2156])] := rfl
set_option maxRecDepth 100000 in
theorem q286_96 (E : mj_E) (d w c : Nat) (hi : Nat → Nat → Int32) (hl : Nat → Nat → Int64) (v1 : Int32) : mj_den mj_P E d 286 96 [Value.ref 205, Value.int v1] [] (mj_hw w c hi hl) = if (400 : Int32) ≤ v1 then mj_den mj_P E d 286 141 [Value.ref 205, Value.int v1] [] (mj_hw w c hi hl) else if 0 ≤ v1 ∧ (v1).toNatClampNeg < 1200 then mj_bi (mj_dc mj_P E d 285 [Value.ref 205, Value.int (hi 221 ((v1).toNatClampNeg))] (mj_hw w c hi hl)) (fun x1 h1 => mj_den mj_P E d 286 118 [Value.ref 205, Value.int v1] [Value.int x1, Value.int v1, Value.ref 221] h1) else none := by
  rw [mj_den_eq, f286_96]
  exact zt_iload_n rfl rfl (zt_sipush rfl (zt_icmp_ge rfl rfl (zt_aload_n rfl rfl (zt_getr (mjkd205 _ _ _ _) (mjhr205_25 w c) rfl (zt_iload_n rfl rfl (zt_aload_n rfl rfl (zt_aload_n rfl rfl (zt_getr (mjkd205 _ _ _ _) (mjhr205_25 w c) rfl (zt_iload_n rfl rfl (zt_iald (mjkd221 _ _ _ _) (mjln221 _ _ _ _) rfl rfl (zt_call0_1 rfl (mjkd205 _ _ _ _) (Nat.le_of_ble_eq_true rfl) rfl rfl)))))))))))
set_option maxRecDepth 100000 in
theorem f286_118 : mj_find (mj_P 286).2.2.2.2 118 = [(.iastore, 1, 0, []), (.aload_n 0, 1, 0, []), (.getfield 58, 3, 0, [12, 26, 3, 1436]), (.iload_n 1, 1, 0, []), (.aload_n 0, 1, 0, []), (.aload_n 0, 1, 0, []), (.getfield 58, 3, 0, [12, 26, 3, 1436]), (.iload_n 1, 1, 0, []), (.iaload, 1, 0, []), (.invokevirtual 515, 3, 0, [0, 285, 12, 1, 1, 2153, 2155, 138, 156, 2156])] := rfl
set_option maxRecDepth 100000 in
theorem q286_118 (E : mj_E) (d w c : Nat) (hi : Nat → Nat → Int32) (hl : Nat → Nat → Int64) (v1 : Int32) (s0 : Int32) (s1 : Int32) : mj_den mj_P E d 286 118 [Value.ref 205, Value.int v1] [Value.int s0, Value.int s1, Value.ref 221] (mj_hw w c hi hl) = if 0 ≤ s1 ∧ (s1).toNatClampNeg < 1200 then if 0 ≤ v1 ∧ (v1).toNatClampNeg < 1200 then mj_bi (mj_dc mj_P E d 285 [Value.ref 205, Value.int (hi 222 ((v1).toNatClampNeg))] (mj_hw w c (mj_u hi 221 ((s1).toNatClampNeg) s0) hl)) (fun x1 h1 => mj_den mj_P E d 286 134 [Value.ref 205, Value.int v1] [Value.int x1, Value.int v1, Value.ref 222] h1) else none else none := by
  rw [mj_den_eq, f286_118]
  exact zt_iast (mjkd221 _ _ _ _) (mjln221 _ _ _ _) rfl rfl (zt_aload_n rfl rfl (zt_getr (mjkd205 _ _ _ _) (mjhr205_26 w c) rfl (zt_iload_n rfl rfl (zt_aload_n rfl rfl (zt_aload_n rfl rfl (zt_getr (mjkd205 _ _ _ _) (mjhr205_26 w c) rfl (zt_iload_n rfl rfl (zt_iald (mjkd222 _ _ _ _) (mjln222 _ _ _ _) rfl rfl (zt_call0_1 rfl (mjkd205 _ _ _ _) (Nat.le_of_ble_eq_true rfl) rfl rfl)))))))))
set_option maxRecDepth 100000 in
theorem f286_134 : mj_find (mj_P 286).2.2.2.2 134 = [(.iastore, 1, 0, []), (.iinc 1 1, 3, 1, []), (.goto (-42), 3, 0, [96])] := rfl
set_option maxRecDepth 100000 in
theorem q286_134 (E : mj_E) (d w c : Nat) (hi : Nat → Nat → Int32) (hl : Nat → Nat → Int64) (v1 : Int32) (s0 : Int32) (s1 : Int32) : mj_den mj_P E d 286 134 [Value.ref 205, Value.int v1] [Value.int s0, Value.int s1, Value.ref 222] (mj_hw w c hi hl) = if 0 ≤ s1 ∧ (s1).toNatClampNeg < 1200 then mj_den mj_P E d 286 96 [Value.ref 205, Value.int (v1 + (1 : Int32))] [] (mj_hw w c (mj_u hi 222 ((s1).toNatClampNeg) s0) hl) else none := by
  rw [mj_den_eq, f286_134]
  exact zt_iast (mjkd222 _ _ _ _) (mjln222 _ _ _ _) rfl rfl (zt_iinc rfl (Nat.le_of_ble_eq_true rfl) rfl rfl (zt_goto rfl))
set_option maxRecDepth 100000 in
theorem f286_141 : mj_find (mj_P 286).2.2.2.2 141 = [(.return_, 1, 0, [])] := rfl
set_option maxRecDepth 100000 in
theorem q286_141 (E : mj_E) (d w c : Nat) (hi : Nat → Nat → Int32) (hl : Nat → Nat → Int64) (v1 : Int32) : mj_den mj_P E d 286 141 [Value.ref 205, Value.int v1] [] (mj_hw w c hi hl) = some (none, (mj_hw w c hi hl)) := by
  rw [mj_den_eq, f286_141]
  exact zt_return
set_option maxRecDepth 100000 in
theorem f287_0 : mj_find (mj_P 287).2.2.2.2 0 = [(.aload_n 0, 1, 0, []), (.aload_n 0, 1, 0, []), (.aload_n 0, 1, 0, []), (.getfield 134, 3, 0, [12, 6, 0, 1416]), (.invokevirtual 515, 3, 0, [0, 285, 12, 1, 1, 2153, 2155, 138, 156, 2156])] := rfl
set_option maxRecDepth 100000 in
theorem q287_0 (E : mj_E) (d w c : Nat) (hi : Nat → Nat → Int32) (hl : Nat → Nat → Int64) : mj_den mj_P E d 287 0 [Value.ref 205] [] (mj_hw w c hi hl) = mj_bi (mj_dc mj_P E d 285 [Value.ref 205, Value.int (hi 205 6)] (mj_hw w c hi hl)) (fun x1 h1 => mj_den mj_P E d 287 9 [Value.ref 205] [Value.int x1, Value.ref 205] h1) := by
  rw [mj_den_eq, f287_0]
  exact zt_aload_n rfl rfl (zt_aload_n rfl rfl (zt_aload_n rfl rfl (zt_geti (mjkd205 _ _ _ _) rfl rfl (zt_call0_1 rfl (mjkd205 _ _ _ _) (Nat.le_of_ble_eq_true rfl) rfl rfl))))
set_option maxRecDepth 100000 in
theorem f287_9 : mj_find (mj_P 287).2.2.2.2 9 = [(.putfield 134, 3, 0, [12, 6, 0, 1416]), (.aload_n 0, 1, 0, []), (.aload_n 0, 1, 0, []), (.aload_n 0, 1, 0, []), (.getfield 137, 3, 0, [12, 7, 0, 1417]), (.invokevirtual 515, 3, 0, [0, 285, 12, 1, 1, 2153, 2155, 138, 156, 2156])] := rfl
set_option maxRecDepth 100000 in
theorem q287_9 (E : mj_E) (d w c : Nat) (hi : Nat → Nat → Int32) (hl : Nat → Nat → Int64) (s0 : Int32) : mj_den mj_P E d 287 9 [Value.ref 205] [Value.int s0, Value.ref 205] (mj_hw w c hi hl) = mj_bi (mj_dc mj_P E d 285 [Value.ref 205, Value.int (hi 205 7)] (mj_hw w c (mj_u hi 205 6 s0) hl)) (fun x1 h1 => mj_den mj_P E d 287 21 [Value.ref 205] [Value.int x1, Value.ref 205] h1) := by
  rw [mj_den_eq, f287_9]
  exact zt_puti (mjkd205 _ _ _ _) rfl rfl (zt_aload_n rfl rfl (zt_aload_n rfl rfl (zt_aload_n rfl rfl (zt_geti (mjkd205 _ _ _ _) rfl rfl (zt_call0_1 rfl (mjkd205 _ _ _ _) (Nat.le_of_ble_eq_true rfl) rfl rfl)))))
set_option maxRecDepth 100000 in
theorem f287_21 : mj_find (mj_P 287).2.2.2.2 21 = [(.putfield 137, 3, 0, [12, 7, 0, 1417]), (.aload_n 0, 1, 0, []), (.aload_n 0, 1, 0, []), (.aload_n 0, 1, 0, []), (.getfield 287, 3, 0, [12, 36, 0, 1446]), (.invokevirtual 515, 3, 0, [0, 285, 12, 1, 1, 2153, 2155, 138, 156, 2156])] := rfl
set_option maxRecDepth 100000 in
theorem q287_21 (E : mj_E) (d w c : Nat) (hi : Nat → Nat → Int32) (hl : Nat → Nat → Int64) (s0 : Int32) : mj_den mj_P E d 287 21 [Value.ref 205] [Value.int s0, Value.ref 205] (mj_hw w c hi hl) = mj_bi (mj_dc mj_P E d 285 [Value.ref 205, Value.int (hi 205 36)] (mj_hw w c (mj_u hi 205 7 s0) hl)) (fun x1 h1 => mj_den mj_P E d 287 33 [Value.ref 205] [Value.int x1, Value.ref 205] h1) := by
  rw [mj_den_eq, f287_21]
  exact zt_puti (mjkd205 _ _ _ _) rfl rfl (zt_aload_n rfl rfl (zt_aload_n rfl rfl (zt_aload_n rfl rfl (zt_geti (mjkd205 _ _ _ _) rfl rfl (zt_call0_1 rfl (mjkd205 _ _ _ _) (Nat.le_of_ble_eq_true rfl) rfl rfl)))))
set_option maxRecDepth 100000 in
theorem f287_33 : mj_find (mj_P 287).2.2.2.2 33 = [(.putfield 287, 3, 0, [12, 36, 0, 1446]), (.aload_n 0, 1, 0, []), (.aload_n 0, 1, 0, []), (.aload_n 0, 1, 0, []), (.getfield 290, 3, 0, [12, 38, 0, 1448]), (.invokevirtual 515, 3, 0, [0, 285, 12, 1, 1, 2153, 2155, 138, 156, 2156])] := rfl
set_option maxRecDepth 100000 in
theorem q287_33 (E : mj_E) (d w c : Nat) (hi : Nat → Nat → Int32) (hl : Nat → Nat → Int64) (s0 : Int32) : mj_den mj_P E d 287 33 [Value.ref 205] [Value.int s0, Value.ref 205] (mj_hw w c hi hl) = mj_bi (mj_dc mj_P E d 285 [Value.ref 205, Value.int (hi 205 38)] (mj_hw w c (mj_u hi 205 36 s0) hl)) (fun x1 h1 => mj_den mj_P E d 287 45 [Value.ref 205] [Value.int x1, Value.ref 205] h1) := by
  rw [mj_den_eq, f287_33]
  exact zt_puti (mjkd205 _ _ _ _) rfl rfl (zt_aload_n rfl rfl (zt_aload_n rfl rfl (zt_aload_n rfl rfl (zt_geti (mjkd205 _ _ _ _) rfl rfl (zt_call0_1 rfl (mjkd205 _ _ _ _) (Nat.le_of_ble_eq_true rfl) rfl rfl)))))
set_option maxRecDepth 100000 in
theorem f287_45 : mj_find (mj_P 287).2.2.2.2 45 = [(.putfield 290, 3, 0, [12, 38, 0, 1448]), (.aload_n 0, 1, 0, []), (.aload_n 0, 1, 0, []), (.aload_n 0, 1, 0, []), (.getfield 293, 3, 0, [12, 40, 0, 1450]), (.invokevirtual 515, 3, 0, [0, 285, 12, 1, 1, 2153, 2155, 138, 156, 2156])] := rfl
set_option maxRecDepth 100000 in
theorem q287_45 (E : mj_E) (d w c : Nat) (hi : Nat → Nat → Int32) (hl : Nat → Nat → Int64) (s0 : Int32) : mj_den mj_P E d 287 45 [Value.ref 205] [Value.int s0, Value.ref 205] (mj_hw w c hi hl) = mj_bi (mj_dc mj_P E d 285 [Value.ref 205, Value.int (hi 205 40)] (mj_hw w c (mj_u hi 205 38 s0) hl)) (fun x1 h1 => mj_den mj_P E d 287 57 [Value.ref 205] [Value.int x1, Value.ref 205] h1) := by
  rw [mj_den_eq, f287_45]
  exact zt_puti (mjkd205 _ _ _ _) rfl rfl (zt_aload_n rfl rfl (zt_aload_n rfl rfl (zt_aload_n rfl rfl (zt_geti (mjkd205 _ _ _ _) rfl rfl (zt_call0_1 rfl (mjkd205 _ _ _ _) (Nat.le_of_ble_eq_true rfl) rfl rfl)))))
set_option maxRecDepth 100000 in
theorem f287_57 : mj_find (mj_P 287).2.2.2.2 57 = [(.putfield 293, 3, 0, [12, 40, 0, 1450]), (.aload_n 0, 1, 0, []), (.aload_n 0, 1, 0, []), (.aload_n 0, 1, 0, []), (.getfield 426, 3, 0, [12, 48, 0, 1458]), (.invokevirtual 515, 3, 0, [0, 285, 12, 1, 1, 2153, 2155, 138, 156, 2156])] := rfl
set_option maxRecDepth 100000 in
theorem q287_57 (E : mj_E) (d w c : Nat) (hi : Nat → Nat → Int32) (hl : Nat → Nat → Int64) (s0 : Int32) : mj_den mj_P E d 287 57 [Value.ref 205] [Value.int s0, Value.ref 205] (mj_hw w c hi hl) = mj_bi (mj_dc mj_P E d 285 [Value.ref 205, Value.int (hi 205 48)] (mj_hw w c (mj_u hi 205 40 s0) hl)) (fun x1 h1 => mj_den mj_P E d 287 69 [Value.ref 205] [Value.int x1, Value.ref 205] h1) := by
  rw [mj_den_eq, f287_57]
  exact zt_puti (mjkd205 _ _ _ _) rfl rfl (zt_aload_n rfl rfl (zt_aload_n rfl rfl (zt_aload_n rfl rfl (zt_geti (mjkd205 _ _ _ _) rfl rfl (zt_call0_1 rfl (mjkd205 _ _ _ _) (Nat.le_of_ble_eq_true rfl) rfl rfl)))))
set_option maxRecDepth 100000 in
theorem f287_69 : mj_find (mj_P 287).2.2.2.2 69 = [(.putfield 426, 3, 0, [12, 48, 0, 1458]), (.aload_n 0, 1, 0, []), (.aload_n 0, 1, 0, []), (.aload_n 0, 1, 0, []), (.getfield 447, 3, 0, [12, 51, 0, 1461]), (.invokevirtual 515, 3, 0, [0, 285, 12, 1, 1, 2153, 2155, 138, 156, 2156])] := rfl
set_option maxRecDepth 100000 in
theorem q287_69 (E : mj_E) (d w c : Nat) (hi : Nat → Nat → Int32) (hl : Nat → Nat → Int64) (s0 : Int32) : mj_den mj_P E d 287 69 [Value.ref 205] [Value.int s0, Value.ref 205] (mj_hw w c hi hl) = mj_bi (mj_dc mj_P E d 285 [Value.ref 205, Value.int (hi 205 51)] (mj_hw w c (mj_u hi 205 48 s0) hl)) (fun x1 h1 => mj_den mj_P E d 287 81 [Value.ref 205] [Value.int x1, Value.ref 205] h1) := by
  rw [mj_den_eq, f287_69]
  exact zt_puti (mjkd205 _ _ _ _) rfl rfl (zt_aload_n rfl rfl (zt_aload_n rfl rfl (zt_aload_n rfl rfl (zt_geti (mjkd205 _ _ _ _) rfl rfl (zt_call0_1 rfl (mjkd205 _ _ _ _) (Nat.le_of_ble_eq_true rfl) rfl rfl)))))
set_option maxRecDepth 100000 in
theorem f287_81 : mj_find (mj_P 287).2.2.2.2 81 = [(.putfield 447, 3, 0, [12, 51, 0, 1461]), (.aload_n 0, 1, 0, []), (.aload_n 0, 1, 0, []), (.aload_n 0, 1, 0, []), (.getfield 479, 3, 0, [12, 54, 0, 1464]), (.invokevirtual 515, 3, 0, [0, 285, 12, 1, 1, 2153, 2155, 138, 156, 2156])] := rfl
set_option maxRecDepth 100000 in
theorem q287_81 (E : mj_E) (d w c : Nat) (hi : Nat → Nat → Int32) (hl : Nat → Nat → Int64) (s0 : Int32) : mj_den mj_P E d 287 81 [Value.ref 205] [Value.int s0, Value.ref 205] (mj_hw w c hi hl) = mj_bi (mj_dc mj_P E d 285 [Value.ref 205, Value.int (hi 205 54)] (mj_hw w c (mj_u hi 205 51 s0) hl)) (fun x1 h1 => mj_den mj_P E d 287 93 [Value.ref 205] [Value.int x1, Value.ref 205] h1) := by
  rw [mj_den_eq, f287_81]
  exact zt_puti (mjkd205 _ _ _ _) rfl rfl (zt_aload_n rfl rfl (zt_aload_n rfl rfl (zt_aload_n rfl rfl (zt_geti (mjkd205 _ _ _ _) rfl rfl (zt_call0_1 rfl (mjkd205 _ _ _ _) (Nat.le_of_ble_eq_true rfl) rfl rfl)))))
set_option maxRecDepth 100000 in
theorem f287_93 : mj_find (mj_P 287).2.2.2.2 93 = [(.putfield 479, 3, 0, [12, 54, 0, 1464]), (.aload_n 0, 1, 0, []), (.aload_n 0, 1, 0, []), (.aload_n 0, 1, 0, []), (.getfield 488, 3, 0, [12, 58, 0, 1468]), (.invokevirtual 515, 3, 0, [0, 285, 12, 1, 1, 2153, 2155, 138, 156, 2156])] := rfl
set_option maxRecDepth 100000 in
theorem q287_93 (E : mj_E) (d w c : Nat) (hi : Nat → Nat → Int32) (hl : Nat → Nat → Int64) (s0 : Int32) : mj_den mj_P E d 287 93 [Value.ref 205] [Value.int s0, Value.ref 205] (mj_hw w c hi hl) = mj_bi (mj_dc mj_P E d 285 [Value.ref 205, Value.int (hi 205 58)] (mj_hw w c (mj_u hi 205 54 s0) hl)) (fun x1 h1 => mj_den mj_P E d 287 105 [Value.ref 205] [Value.int x1, Value.ref 205] h1) := by
  rw [mj_den_eq, f287_93]
  exact zt_puti (mjkd205 _ _ _ _) rfl rfl (zt_aload_n rfl rfl (zt_aload_n rfl rfl (zt_aload_n rfl rfl (zt_geti (mjkd205 _ _ _ _) rfl rfl (zt_call0_1 rfl (mjkd205 _ _ _ _) (Nat.le_of_ble_eq_true rfl) rfl rfl)))))
set_option maxRecDepth 100000 in
theorem f287_105 : mj_find (mj_P 287).2.2.2.2 105 = [(.putfield 488, 3, 0, [12, 58, 0, 1468]), (.return_, 1, 0, [])] := rfl
set_option maxRecDepth 100000 in
theorem q287_105 (E : mj_E) (d w c : Nat) (hi : Nat → Nat → Int32) (hl : Nat → Nat → Int64) (s0 : Int32) : mj_den mj_P E d 287 105 [Value.ref 205] [Value.int s0, Value.ref 205] (mj_hw w c hi hl) = some (none, (mj_hw w c (mj_u hi 205 58 s0) hl)) := by
  rw [mj_den_eq, f287_105]
  exact zt_puti (mjkd205 _ _ _ _) rfl rfl (zt_return)
set_option maxRecDepth 100000 in
theorem f288_0 : mj_find (mj_P 288).2.2.2.2 0 = [(.iconst 0, 1, 0, []), (.istore_n 1, 1, 0, [])] := rfl
set_option maxRecDepth 100000 in
theorem q288_0 (E : mj_E) (d w c : Nat) (hi : Nat → Nat → Int32) (hl : Nat → Nat → Int64) : mj_den mj_P E d 288 0 [Value.ref 205, Value.float 0] [] (mj_hw w c hi hl) = mj_den mj_P E d 288 2 [Value.ref 205, Value.int (0 : Int32)] [] (mj_hw w c hi hl) := by
  rw [mj_den_eq, f288_0]
  exact zt_iconst rfl (zt_istore_n (Nat.le_of_ble_eq_true rfl) rfl rfl (zt_end rfl))
set_option maxRecDepth 100000 in
theorem f288_2 : mj_find (mj_P 288).2.2.2.2 2 = [(.iload_n 1, 1, 0, []), (.bipush 10, 2, 10, []), (.if_icmp .ge 57, 3, 0, [62]), (.aload_n 0, 1, 0, []), (.getfield 19, 3, 0, [12, 8, 3, 1418]), (.iload_n 1, 1, 0, []), (.aload_n 0, 1, 0, []), (.aload_n 0, 1, 0, []), (.getfield 19, 3, 0, [12, 8, 3, 1418]), (.iload_n 1, 1, 0, []), (.iaload, 1, 0, []), (.invokevirtual 515, 3, 0, [0, 285, 12, 1, 1, 2153, 2155, 138, 156, 2156])] := rfl
set_option maxRecDepth 100000 in
theorem q288_2 (E : mj_E) (d w c : Nat) (hi : Nat → Nat → Int32) (hl : Nat → Nat → Int64) (v1 : Int32) : mj_den mj_P E d 288 2 [Value.ref 205, Value.int v1] [] (mj_hw w c hi hl) = if (10 : Int32) ≤ v1 then mj_den mj_P E d 288 62 [Value.ref 205, Value.int v1] [] (mj_hw w c hi hl) else if 0 ≤ v1 ∧ (v1).toNatClampNeg < 10 then mj_bi (mj_dc mj_P E d 285 [Value.ref 205, Value.int (hi 209 ((v1).toNatClampNeg))] (mj_hw w c hi hl)) (fun x1 h1 => mj_den mj_P E d 288 23 [Value.ref 205, Value.int v1] [Value.int x1, Value.int v1, Value.ref 209] h1) else none := by
  rw [mj_den_eq, f288_2]
  exact zt_iload_n rfl rfl (zt_bipush rfl (zt_icmp_ge rfl rfl (zt_aload_n rfl rfl (zt_getr (mjkd205 _ _ _ _) (mjhr205_8 w c) rfl (zt_iload_n rfl rfl (zt_aload_n rfl rfl (zt_aload_n rfl rfl (zt_getr (mjkd205 _ _ _ _) (mjhr205_8 w c) rfl (zt_iload_n rfl rfl (zt_iald (mjkd209 _ _ _ _) (mjln209 _ _ _ _) rfl rfl (zt_call0_1 rfl (mjkd205 _ _ _ _) (Nat.le_of_ble_eq_true rfl) rfl rfl)))))))))))
set_option maxRecDepth 100000 in
theorem f288_23 : mj_find (mj_P 288).2.2.2.2 23 = [(.iastore, 1, 0, []), (.aload_n 0, 1, 0, []), (.getfield 22, 3, 0, [12, 9, 3, 1419]), (.iload_n 1, 1, 0, []), (.aload_n 0, 1, 0, []), (.aload_n 0, 1, 0, []), (.getfield 22, 3, 0, [12, 9, 3, 1419]), (.iload_n 1, 1, 0, []), (.iaload, 1, 0, []), (.invokevirtual 515, 3, 0, [0, 285, 12, 1, 1, 2153, 2155, 138, 156, 2156])] := rfl
set_option maxRecDepth 100000 in
theorem q288_23 (E : mj_E) (d w c : Nat) (hi : Nat → Nat → Int32) (hl : Nat → Nat → Int64) (v1 : Int32) (s0 : Int32) (s1 : Int32) : mj_den mj_P E d 288 23 [Value.ref 205, Value.int v1] [Value.int s0, Value.int s1, Value.ref 209] (mj_hw w c hi hl) = if 0 ≤ s1 ∧ (s1).toNatClampNeg < 10 then if 0 ≤ v1 ∧ (v1).toNatClampNeg < 10 then mj_bi (mj_dc mj_P E d 285 [Value.ref 205, Value.int (hi 210 ((v1).toNatClampNeg))] (mj_hw w c (mj_u hi 209 ((s1).toNatClampNeg) s0) hl)) (fun x1 h1 => mj_den mj_P E d 288 39 [Value.ref 205, Value.int v1] [Value.int x1, Value.int v1, Value.ref 210] h1) else none else none := by
  rw [mj_den_eq, f288_23]
  exact zt_iast (mjkd209 _ _ _ _) (mjln209 _ _ _ _) rfl rfl (zt_aload_n rfl rfl (zt_getr (mjkd205 _ _ _ _) (mjhr205_9 w c) rfl (zt_iload_n rfl rfl (zt_aload_n rfl rfl (zt_aload_n rfl rfl (zt_getr (mjkd205 _ _ _ _) (mjhr205_9 w c) rfl (zt_iload_n rfl rfl (zt_iald (mjkd210 _ _ _ _) (mjln210 _ _ _ _) rfl rfl (zt_call0_1 rfl (mjkd205 _ _ _ _) (Nat.le_of_ble_eq_true rfl) rfl rfl)))))))))
set_option maxRecDepth 100000 in
theorem f288_39 : mj_find (mj_P 288).2.2.2.2 39 = [(.iastore, 1, 0, []), (.aload_n 0, 1, 0, []), (.getfield 71, 3, 0, [12, 39, 3, 1449]), (.iload_n 1, 1, 0, []), (.aload_n 0, 1, 0, []), (.aload_n 0, 1, 0, []), (.getfield 71, 3, 0, [12, 39, 3, 1449]), (.iload_n 1, 1, 0, []), (.iaload, 1, 0, []), (.invokevirtual 515, 3, 0, [0, 285, 12, 1, 1, 2153, 2155, 138, 156, 2156])] := rfl
set_option maxRecDepth 100000 in
theorem q288_39 (E : mj_E) (d w c : Nat) (hi : Nat → Nat → Int32) (hl : Nat → Nat → Int64) (v1 : Int32) (s0 : Int32) (s1 : Int32) : mj_den mj_P E d 288 39 [Value.ref 205, Value.int v1] [Value.int s0, Value.int s1, Value.ref 210] (mj_hw w c hi hl) = if 0 ≤ s1 ∧ (s1).toNatClampNeg < 10 then if 0 ≤ v1 ∧ (v1).toNatClampNeg < 20 then mj_bi (mj_dc mj_P E d 285 [Value.ref 205, Value.int (hi 225 ((v1).toNatClampNeg))] (mj_hw w c (mj_u hi 210 ((s1).toNatClampNeg) s0) hl)) (fun x1 h1 => mj_den mj_P E d 288 55 [Value.ref 205, Value.int v1] [Value.int x1, Value.int v1, Value.ref 225] h1) else none else none := by
  rw [mj_den_eq, f288_39]
  exact zt_iast (mjkd210 _ _ _ _) (mjln210 _ _ _ _) rfl rfl (zt_aload_n rfl rfl (zt_getr (mjkd205 _ _ _ _) (mjhr205_39 w c) rfl (zt_iload_n rfl rfl (zt_aload_n rfl rfl (zt_aload_n rfl rfl (zt_getr (mjkd205 _ _ _ _) (mjhr205_39 w c) rfl (zt_iload_n rfl rfl (zt_iald (mjkd225 _ _ _ _) (mjln225 _ _ _ _) rfl rfl (zt_call0_1 rfl (mjkd205 _ _ _ _) (Nat.le_of_ble_eq_true rfl) rfl rfl)))))))))
set_option maxRecDepth 100000 in
theorem f288_55 : mj_find (mj_P 288).2.2.2.2 55 = [(.iastore, 1, 0, []), (.iinc 1 1, 3, 1, []), (.goto (-57), 3, 0, [2])] := rfl
set_option maxRecDepth 100000 in
theorem q288_55 (E : mj_E) (d w c : Nat) (hi : Nat → Nat → Int32) (hl : Nat → Nat → Int64) (v1 : Int32) (s0 : Int32) (s1 : Int32) : mj_den mj_P E d 288 55 [Value.ref 205, Value.int v1] [Value.int s0, Value.int s1, Value.ref 225] (mj_hw w c hi hl) = if 0 ≤ s1 ∧ (s1).toNatClampNeg < 20 then mj_den mj_P E d 288 2 [Value.ref 205, Value.int (v1 + (1 : Int32))] [] (mj_hw w c (mj_u hi 225 ((s1).toNatClampNeg) s0) hl) else none := by
  rw [mj_den_eq, f288_55]
  exact zt_iast (mjkd225 _ _ _ _) (mjln225 _ _ _ _) rfl rfl (zt_iinc rfl (Nat.le_of_ble_eq_true rfl) rfl rfl (zt_goto rfl))
set_option maxRecDepth 100000 in
theorem f288_62 : mj_find (mj_P 288).2.2.2.2 62 = [(.iconst 0, 1, 0, []), (.istore_n 1, 1, 0, [])] := rfl
set_option maxRecDepth 100000 in
theorem q288_62 (E : mj_E) (d w c : Nat) (hi : Nat → Nat → Int32) (hl : Nat → Nat → Int64) (v1 : Int32) : mj_den mj_P E d 288 62 [Value.ref 205, Value.int v1] [] (mj_hw w c hi hl) = mj_den mj_P E d 288 64 [Value.ref 205, Value.int (0 : Int32)] [] (mj_hw w c hi hl) := by
  rw [mj_den_eq, f288_62]
  exact zt_iconst rfl (zt_istore_n (Nat.le_of_ble_eq_true rfl) rfl rfl (zt_end rfl))
set_option maxRecDepth 100000 in
theorem f288_64 : mj_find (mj_P 288).2.2.2.2 64 = [(.iload_n 1, 1, 0, []), (.bipush 12, 2, 12, []), (.if_icmp .ge 57, 3, 0, [124]), (.aload_n 0, 1, 0, []), (.getfield 25, 3, 0, [12, 10, 3, 1420]), (.iload_n 1, 1, 0, []), (.aload_n 0, 1, 0, []), (.aload_n 0, 1, 0, []), (.getfield 25, 3, 0, [12, 10, 3, 1420]), (.iload_n 1, 1, 0, []), (.iaload, 1, 0, []), (.invokevirtual 515, 3, 0, [0, 285, 12, 1, 1, 2153, 2155, 138, 156, 2156])] := rfl
set_option maxRecDepth 100000 in
theorem q288_64 (E : mj_E) (d w c : Nat) (hi : Nat → Nat → Int32) (hl : Nat → Nat → Int64) (v1 : Int32) : mj_den mj_P E d 288 64 [Value.ref 205, Value.int v1] [] (mj_hw w c hi hl) = if (12 : Int32) ≤ v1 then mj_den mj_P E d 288 124 [Value.ref 205, Value.int v1] [] (mj_hw w c hi hl) else if 0 ≤ v1 ∧ (v1).toNatClampNeg < 12 then mj_bi (mj_dc mj_P E d 285 [Value.ref 205, Value.int (hi 211 ((v1).toNatClampNeg))] (mj_hw w c hi hl)) (fun x1 h1 => mj_den mj_P E d 288 85 [Value.ref 205, Value.int v1] [Value.int x1, Value.int v1, Value.ref 211] h1) else none := by
  rw [mj_den_eq, f288_64]
  exact zt_iload_n rfl rfl (zt_bipush rfl (zt_icmp_ge rfl rfl (zt_aload_n rfl rfl (zt_getr (mjkd205 _ _ _ _) (mjhr205_10 w c) rfl (zt_iload_n rfl rfl (zt_aload_n rfl rfl (zt_aload_n rfl rfl (zt_getr (mjkd205 _ _ _ _) (mjhr205_10 w c) rfl (zt_iload_n rfl rfl (zt_iald (mjkd211 _ _ _ _) (mjln211 _ _ _ _) rfl rfl (zt_call0_1 rfl (mjkd205 _ _ _ _) (Nat.le_of_ble_eq_true rfl) rfl rfl)))))))))))
set_option maxRecDepth 100000 in
theorem f288_85 : mj_find (mj_P 288).2.2.2.2 85 = [(.iastore, 1, 0, []), (.aload_n 0, 1, 0, []), (.getfield 28, 3, 0, [12, 11, 3, 1421]), (.iload_n 1, 1, 0, []), (.aload_n 0, 1, 0, []), (.aload_n 0, 1, 0, []), (.getfield 28, 3, 0, [12, 11, 3, 1421]), (.iload_n 1, 1, 0, []), (.iaload, 1, 0, []), (.invokevirtual 515, 3, 0, [0, 285, 12, 1, 1, 2153, 2155, 138, 156, 2156])] := rfl
set_option maxRecDepth 100000 in
theorem q288_85 (E : mj_E) (d w c : Nat) (hi : Nat → Nat → Int32) (hl : Nat → Nat → Int64) (v1 : Int32) (s0 : Int32) (s1 : Int32) : mj_den mj_P E d 288 85 [Value.ref 205, Value.int v1] [Value.int s0, Value.int s1, Value.ref 211] (mj_hw w c hi hl) = if 0 ≤ s1 ∧ (s1).toNatClampNeg < 12 then if 0 ≤ v1 ∧ (v1).toNatClampNeg < 12 then mj_bi (mj_dc mj_P E d 285 [Value.ref 205, Value.int (hi 212 ((v1).toNatClampNeg))] (mj_hw w c (mj_u hi 211 ((s1).toNatClampNeg) s0) hl)) (fun x1 h1 => mj_den mj_P E d 288 101 [Value.ref 205, Value.int v1] [Value.int x1, Value.int v1, Value.ref 212] h1) else none else none := by
  rw [mj_den_eq, f288_85]
  exact zt_iast (mjkd211 _ _ _ _) (mjln211 _ _ _ _) rfl rfl (zt_aload_n rfl rfl (zt_getr (mjkd205 _ _ _ _) (mjhr205_11 w c) rfl (zt_iload_n rfl rfl (zt_aload_n rfl rfl (zt_aload_n rfl rfl (zt_getr (mjkd205 _ _ _ _) (mjhr205_11 w c) rfl (zt_iload_n rfl rfl (zt_iald (mjkd212 _ _ _ _) (mjln212 _ _ _ _) rfl rfl (zt_call0_1 rfl (mjkd205 _ _ _ _) (Nat.le_of_ble_eq_true rfl) rfl rfl)))))))))
set_option maxRecDepth 100000 in
theorem f288_101 : mj_find (mj_P 288).2.2.2.2 101 = [(.iastore, 1, 0, []), (.aload_n 0, 1, 0, []), (.getfield 107, 3, 0, [12, 59, 3, 1469]), (.iload_n 1, 1, 0, []), (.aload_n 0, 1, 0, []), (.aload_n 0, 1, 0, []), (.getfield 107, 3, 0, [12, 59, 3, 1469]), (.iload_n 1, 1, 0, []), (.iaload, 1, 0, []), (.invokevirtual 515, 3, 0, [0, 285, 12, 1, 1, 2153, 2155, 138, 156, 2156])] := rfl
set_option maxRecDepth 100000 in
theorem q288_101 (E : mj_E) (d w c : Nat) (hi : Nat → Nat → Int32) (hl : Nat → Nat → Int64) (v1 : Int32) (s0 : Int32) (s1 : Int32) : mj_den mj_P E d 288 101 [Value.ref 205, Value.int v1] [Value.int s0, Value.int s1, Value.ref 212] (mj_hw w c hi hl) = if 0 ≤ s1 ∧ (s1).toNatClampNeg < 12 then if 0 ≤ v1 ∧ (v1).toNatClampNeg < 12 then mj_bi (mj_dc mj_P E d 285 [Value.ref 205, Value.int (hi 237 ((v1).toNatClampNeg))] (mj_hw w c (mj_u hi 212 ((s1).toNatClampNeg) s0) hl)) (fun x1 h1 => mj_den mj_P E d 288 117 [Value.ref 205, Value.int v1] [Value.int x1, Value.int v1, Value.ref 237] h1) else none else none := by
  rw [mj_den_eq, f288_101]
  exact zt_iast (mjkd212 _ _ _ _) (mjln212 _ _ _ _) rfl rfl (zt_aload_n rfl rfl (zt_getr (mjkd205 _ _ _ _) (mjhr205_59 w c) rfl (zt_iload_n rfl rfl (zt_aload_n rfl rfl (zt_aload_n rfl rfl (zt_getr (mjkd205 _ _ _ _) (mjhr205_59 w c) rfl (zt_iload_n rfl rfl (zt_iald (mjkd237 _ _ _ _) (mjln237 _ _ _ _) rfl rfl (zt_call0_1 rfl (mjkd205 _ _ _ _) (Nat.le_of_ble_eq_true rfl) rfl rfl)))))))))
set_option maxRecDepth 100000 in
theorem f288_117 : mj_find (mj_P 288).2.2.2.2 117 = [(.iastore, 1, 0, []), (.iinc 1 1, 3, 1, []), (.goto (-57), 3, 0, [64])] := rfl
set_option maxRecDepth 100000 in
theorem q288_117 (E : mj_E) (d w c : Nat) (hi : Nat → Nat → Int32) (hl : Nat → Nat → Int64) (v1 : Int32) (s0 : Int32) (s1 : Int32) : mj_den mj_P E d 288 117 [Value.ref 205, Value.int v1] [Value.int s0, Value.int s1, Value.ref 237] (mj_hw w c hi hl) = if 0 ≤ s1 ∧ (s1).toNatClampNeg < 12 then mj_den mj_P E d 288 64 [Value.ref 205, Value.int (v1 + (1 : Int32))] [] (mj_hw w c (mj_u hi 237 ((s1).toNatClampNeg) s0) hl) else none := by
  rw [mj_den_eq, f288_117]
  exact zt_iast (mjkd237 _ _ _ _) (mjln237 _ _ _ _) rfl rfl (zt_iinc rfl (Nat.le_of_ble_eq_true rfl) rfl rfl (zt_goto rfl))
set_option maxRecDepth 100000 in
theorem f288_124 : mj_find (mj_P 288).2.2.2.2 124 = [(.iconst 0, 1, 0, []), (.istore_n 1, 1, 0, [])] := rfl
set_option maxRecDepth 100000 in
theorem q288_124 (E : mj_E) (d w c : Nat) (hi : Nat → Nat → Int32) (hl : Nat → Nat → Int64) (v1 : Int32) : mj_den mj_P E d 288 124 [Value.ref 205, Value.int v1] [] (mj_hw w c hi hl) = mj_den mj_P E d 288 126 [Value.ref 205, Value.int (0 : Int32)] [] (mj_hw w c hi hl) := by
  rw [mj_den_eq, f288_124]
  exact zt_iconst rfl (zt_istore_n (Nat.le_of_ble_eq_true rfl) rfl rfl (zt_end rfl))
set_option maxRecDepth 100000 in
theorem f288_126 : mj_find (mj_P 288).2.2.2.2 126 = [(.iload_n 1, 1, 0, []), (.bipush 100, 2, 100, []), (.if_icmp .ge 25, 3, 0, [154]), (.aload_n 0, 1, 0, []), (.getfield 86, 3, 0, [12, 49, 3, 1459]), (.iload_n 1, 1, 0, []), (.aload_n 0, 1, 0, []), (.aload_n 0, 1, 0, []), (.getfield 86, 3, 0, [12, 49, 3, 1459]), (.iload_n 1, 1, 0, []), (.iaload, 1, 0, []), (.invokevirtual 515, 3, 0, [0, 285, 12, 1, 1, 2153, 2155, 138, 156, 2156])] := rfl
set_option maxRecDepth 100000 in
theorem q288_126 (E : mj_E) (d w c : Nat) (hi : Nat → Nat → Int32) (hl : Nat → Nat → Int64) (v1 : Int32) : mj_den mj_P E d 288 126 [Value.ref 205, Value.int v1] [] (mj_hw w c hi hl) = if (100 : Int32) ≤ v1 then mj_den mj_P E d 288 154 [Value.ref 205, Value.int v1] [] (mj_hw w c hi hl) else if 0 ≤ v1 ∧ (v1).toNatClampNeg < 100 then mj_bi (mj_dc mj_P E d 285 [Value.ref 205, Value.int (hi 230 ((v1).toNatClampNeg))] (mj_hw w c hi hl)) (fun x1 h1 => mj_den mj_P E d 288 147 [Value.ref 205, Value.int v1] [Value.int x1, Value.int v1, Value.ref 230] h1) else none := by
  rw [mj_den_eq, f288_126]
  exact zt_iload_n rfl rfl (zt_bipush rfl (zt_icmp_ge rfl rfl (zt_aload_n rfl rfl (zt_getr (mjkd205 _ _ _ _) (mjhr205_49 w c) rfl (zt_iload_n rfl rfl (zt_aload_n rfl rfl (zt_aload_n rfl rfl (zt_getr (mjkd205 _ _ _ _) (mjhr205_49 w c) rfl (zt_iload_n rfl rfl (zt_iald (mjkd230 _ _ _ _) (mjln230 _ _ _ _) rfl rfl (zt_call0_1 rfl (mjkd205 _ _ _ _) (Nat.le_of_ble_eq_true rfl) rfl rfl)))))))))))
set_option maxRecDepth 100000 in
theorem f288_147 : mj_find (mj_P 288).2.2.2.2 147 = [(.iastore, 1, 0, []), (.iinc 1 1, 3, 1, []), (.goto (-25), 3, 0, [126])] := rfl
set_option maxRecDepth 100000 in
theorem q288_147 (E : mj_E) (d w c : Nat) (hi : Nat → Nat → Int32) (hl : Nat → Nat → Int64) (v1 : Int32) (s0 : Int32) (s1 : Int32) : mj_den mj_P E d 288 147 [Value.ref 205, Value.int v1] [Value.int s0, Value.int s1, Value.ref 230] (mj_hw w c hi hl) = if 0 ≤ s1 ∧ (s1).toNatClampNeg < 100 then mj_den mj_P E d 288 126 [Value.ref 205, Value.int (v1 + (1 : Int32))] [] (mj_hw w c (mj_u hi 230 ((s1).toNatClampNeg) s0) hl) else none := by
  rw [mj_den_eq, f288_147]
  exact zt_iast (mjkd230 _ _ _ _) (mjln230 _ _ _ _) rfl rfl (zt_iinc rfl (Nat.le_of_ble_eq_true rfl) rfl rfl (zt_goto rfl))
set_option maxRecDepth 100000 in
theorem f288_154 : mj_find (mj_P 288).2.2.2.2 154 = [(.iconst 0, 1, 0, []), (.istore_n 1, 1, 0, [])] := rfl
set_option maxRecDepth 100000 in
theorem q288_154 (E : mj_E) (d w c : Nat) (hi : Nat → Nat → Int32) (hl : Nat → Nat → Int64) (v1 : Int32) : mj_den mj_P E d 288 154 [Value.ref 205, Value.int v1] [] (mj_hw w c hi hl) = mj_den mj_P E d 288 156 [Value.ref 205, Value.int (0 : Int32)] [] (mj_hw w c hi hl) := by
  rw [mj_den_eq, f288_154]
  exact zt_iconst rfl (zt_istore_n (Nat.le_of_ble_eq_true rfl) rfl rfl (zt_end rfl))
set_option maxRecDepth 100000 in
theorem f288_156 : mj_find (mj_P 288).2.2.2.2 156 = [(.iload_n 1, 1, 0, []), (.bipush 6, 2, 6, []), (.if_icmp .ge 25, 3, 0, [184]), (.aload_n 0, 1, 0, []), (.getfield 92, 3, 0, [12, 52, 3, 1462]), (.iload_n 1, 1, 0, []), (.aload_n 0, 1, 0, []), (.aload_n 0, 1, 0, []), (.getfield 92, 3, 0, [12, 52, 3, 1462]), (.iload_n 1, 1, 0, []), (.iaload, 1, 0, []), (.invokevirtual 515, 3, 0, [0, 285, 12, 1, 1, 2153, 2155, 138, 156, 2156])] := rfl
set_option maxRecDepth 100000 in
theorem q288_156 (E : mj_E) (d w c : Nat) (hi : Nat → Nat → Int32) (hl : Nat → Nat → Int64) (v1 : Int32) : mj_den mj_P E d 288 156 [Value.ref 205, Value.int v1] [] (mj_hw w c hi hl) = if (6 : Int32) ≤ v1 then mj_den mj_P E d 288 184 [Value.ref 205, Value.int v1] [] (mj_hw w c hi hl) else if 0 ≤ v1 ∧ (v1).toNatClampNeg < 6 then mj_bi (mj_dc mj_P E d 285 [Value.ref 205, Value.int (hi 232 ((v1).toNatClampNeg))] (mj_hw w c hi hl)) (fun x1 h1 => mj_den mj_P E d 288 177 [Value.ref 205, Value.int v1] [Value.int x1, Value.int v1, Value.ref 232] h1) else none := by
  rw [mj_den_eq, f288_156]
  exact zt_iload_n rfl rfl (zt_bipush rfl (zt_icmp_ge rfl rfl (zt_aload_n rfl rfl (zt_getr (mjkd205 _ _ _ _) (mjhr205_52 w c) rfl (zt_iload_n rfl rfl (zt_aload_n rfl rfl (zt_aload_n rfl rfl (zt_getr (mjkd205 _ _ _ _) (mjhr205_52 w c) rfl (zt_iload_n rfl rfl (zt_iald (mjkd232 _ _ _ _) (mjln232 _ _ _ _) rfl rfl (zt_call0_1 rfl (mjkd205 _ _ _ _) (Nat.le_of_ble_eq_true rfl) rfl rfl)))))))))))
set_option maxRecDepth 100000 in
theorem f288_177 : mj_find (mj_P 288).2.2.2.2 177 = [(.iastore, 1, 0, []), (.iinc 1 1, 3, 1, []), (.goto (-25), 3, 0, [156])] := rfl
set_option maxRecDepth 100000 in
theorem q288_177 (E : mj_E) (d w c : Nat) (hi : Nat → Nat → Int32) (hl : Nat → Nat → Int64) (v1 : Int32) (s0 : Int32) (s1 : Int32) : mj_den mj_P E d 288 177 [Value.ref 205, Value.int v1] [Value.int s0, Value.int s1, Value.ref 232] (mj_hw w c hi hl) = if 0 ≤ s1 ∧ (s1).toNatClampNeg < 6 then mj_den mj_P E d 288 156 [Value.ref 205, Value.int (v1 + (1 : Int32))] [] (mj_hw w c (mj_u hi 232 ((s1).toNatClampNeg) s0) hl) else none := by
  rw [mj_den_eq, f288_177]
  exact zt_iast (mjkd232 _ _ _ _) (mjln232 _ _ _ _) rfl rfl (zt_iinc rfl (Nat.le_of_ble_eq_true rfl) rfl rfl (zt_goto rfl))
set_option maxRecDepth 100000 in
theorem f288_184 : mj_find (mj_P 288).2.2.2.2 184 = [(.iconst 0, 1, 0, []), (.istore_n 1, 1, 0, [])] := rfl
set_option maxRecDepth 100000 in
theorem q288_184 (E : mj_E) (d w c : Nat) (hi : Nat → Nat → Int32) (hl : Nat → Nat → Int64) (v1 : Int32) : mj_den mj_P E d 288 184 [Value.ref 205, Value.int v1] [] (mj_hw w c hi hl) = mj_den mj_P E d 288 186 [Value.ref 205, Value.int (0 : Int32)] [] (mj_hw w c hi hl) := by
  rw [mj_den_eq, f288_184]
  exact zt_iconst rfl (zt_istore_n (Nat.le_of_ble_eq_true rfl) rfl rfl (zt_end rfl))
set_option maxRecDepth 100000 in
theorem f288_186 : mj_find (mj_P 288).2.2.2.2 186 = [(.iload_n 1, 1, 0, []), (.bipush 7, 2, 7, []), (.if_icmp .ge 41, 3, 0, [230]), (.aload_n 0, 1, 0, []), (.getfield 98, 3, 0, [12, 55, 3, 1465]), (.iload_n 1, 1, 0, []), (.aload_n 0, 1, 0, []), (.aload_n 0, 1, 0, []), (.getfield 98, 3, 0, [12, 55, 3, 1465]), (.iload_n 1, 1, 0, []), (.iaload, 1, 0, []), (.invokevirtual 515, 3, 0, [0, 285, 12, 1, 1, 2153, 2155, 138, 156, 2156])] := rfl
set_option maxRecDepth 100000 in
theorem q288_186 (E : mj_E) (d w c : Nat) (hi : Nat → Nat → Int32) (hl : Nat → Nat → Int64) (v1 : Int32) : mj_den mj_P E d 288 186 [Value.ref 205, Value.int v1] [] (mj_hw w c hi hl) = if (7 : Int32) ≤ v1 then mj_den mj_P E d 288 230 [Value.ref 205, Value.int v1] [] (mj_hw w c hi hl) else if 0 ≤ v1 ∧ (v1).toNatClampNeg < 7 then mj_bi (mj_dc mj_P E d 285 [Value.ref 205, Value.int (hi 234 ((v1).toNatClampNeg))] (mj_hw w c hi hl)) (fun x1 h1 => mj_den mj_P E d 288 207 [Value.ref 205, Value.int v1] [Value.int x1, Value.int v1, Value.ref 234] h1) else none := by
  rw [mj_den_eq, f288_186]
  exact zt_iload_n rfl rfl (zt_bipush rfl (zt_icmp_ge rfl rfl (zt_aload_n rfl rfl (zt_getr (mjkd205 _ _ _ _) (mjhr205_55 w c) rfl (zt_iload_n rfl rfl (zt_aload_n rfl rfl (zt_aload_n rfl rfl (zt_getr (mjkd205 _ _ _ _) (mjhr205_55 w c) rfl (zt_iload_n rfl rfl (zt_iald (mjkd234 _ _ _ _) (mjln234 _ _ _ _) rfl rfl (zt_call0_1 rfl (mjkd205 _ _ _ _) (Nat.le_of_ble_eq_true rfl) rfl rfl)))))))))))
set_option maxRecDepth 100000 in
theorem f288_207 : mj_find (mj_P 288).2.2.2.2 207 = [(.iastore, 1, 0, []), (.aload_n 0, 1, 0, []), (.getfield 101, 3, 0, [12, 56, 3, 1466]), (.iload_n 1, 1, 0, []), (.aload_n 0, 1, 0, []), (.aload_n 0, 1, 0, []), (.getfield 101, 3, 0, [12, 56, 3, 1466]), (.iload_n 1, 1, 0, []), (.iaload, 1, 0, []), (.invokevirtual 515, 3, 0, [0, 285, 12, 1, 1, 2153, 2155, 138, 156, 2156])] := rfl
set_option maxRecDepth 100000 in
theorem q288_207 (E : mj_E) (d w c : Nat) (hi : Nat → Nat → Int32) (hl : Nat → Nat → Int64) (v1 : Int32) (s0 : Int32) (s1 : Int32) : mj_den mj_P E d 288 207 [Value.ref 205, Value.int v1] [Value.int s0, Value.int s1, Value.ref 234] (mj_hw w c hi hl) = if 0 ≤ s1 ∧ (s1).toNatClampNeg < 7 then if 0 ≤ v1 ∧ (v1).toNatClampNeg < 7 then mj_bi (mj_dc mj_P E d 285 [Value.ref 205, Value.int (hi 235 ((v1).toNatClampNeg))] (mj_hw w c (mj_u hi 234 ((s1).toNatClampNeg) s0) hl)) (fun x1 h1 => mj_den mj_P E d 288 223 [Value.ref 205, Value.int v1] [Value.int x1, Value.int v1, Value.ref 235] h1) else none else none := by
  rw [mj_den_eq, f288_207]
  exact zt_iast (mjkd234 _ _ _ _) (mjln234 _ _ _ _) rfl rfl (zt_aload_n rfl rfl (zt_getr (mjkd205 _ _ _ _) (mjhr205_56 w c) rfl (zt_iload_n rfl rfl (zt_aload_n rfl rfl (zt_aload_n rfl rfl (zt_getr (mjkd205 _ _ _ _) (mjhr205_56 w c) rfl (zt_iload_n rfl rfl (zt_iald (mjkd235 _ _ _ _) (mjln235 _ _ _ _) rfl rfl (zt_call0_1 rfl (mjkd205 _ _ _ _) (Nat.le_of_ble_eq_true rfl) rfl rfl)))))))))
set_option maxRecDepth 100000 in
theorem f288_223 : mj_find (mj_P 288).2.2.2.2 223 = [(.iastore, 1, 0, []), (.iinc 1 1, 3, 1, []), (.goto (-41), 3, 0, [186])] := rfl
set_option maxRecDepth 100000 in
theorem q288_223 (E : mj_E) (d w c : Nat) (hi : Nat → Nat → Int32) (hl : Nat → Nat → Int64) (v1 : Int32) (s0 : Int32) (s1 : Int32) : mj_den mj_P E d 288 223 [Value.ref 205, Value.int v1] [Value.int s0, Value.int s1, Value.ref 235] (mj_hw w c hi hl) = if 0 ≤ s1 ∧ (s1).toNatClampNeg < 7 then mj_den mj_P E d 288 186 [Value.ref 205, Value.int (v1 + (1 : Int32))] [] (mj_hw w c (mj_u hi 235 ((s1).toNatClampNeg) s0) hl) else none := by
  rw [mj_den_eq, f288_223]
  exact zt_iast (mjkd235 _ _ _ _) (mjln235 _ _ _ _) rfl rfl (zt_iinc rfl (Nat.le_of_ble_eq_true rfl) rfl rfl (zt_goto rfl))
set_option maxRecDepth 100000 in
theorem f288_230 : mj_find (mj_P 288).2.2.2.2 230 = [(.iconst 0, 1, 0, []), (.istore_n 1, 1, 0, [])] := rfl
set_option maxRecDepth 100000 in
theorem q288_230 (E : mj_E) (d w c : Nat) (hi : Nat → Nat → Int32) (hl : Nat → Nat → Int64) (v1 : Int32) : mj_den mj_P E d 288 230 [Value.ref 205, Value.int v1] [] (mj_hw w c hi hl) = mj_den mj_P E d 288 232 [Value.ref 205, Value.int (0 : Int32)] [] (mj_hw w c hi hl) := by
  rw [mj_den_eq, f288_230]
  exact zt_iconst rfl (zt_istore_n (Nat.le_of_ble_eq_true rfl) rfl rfl (zt_end rfl))
set_option maxRecDepth 100000 in
theorem f288_232 : mj_find (mj_P 288).2.2.2.2 232 = [(.iload_n 1, 1, 0, []), (.bipush 8, 2, 8, []), (.if_icmp .ge 25, 3, 0, [260]), (.aload_n 0, 1, 0, []), (.getfield 95, 3, 0, [12, 53, 3, 1463]), (.iload_n 1, 1, 0, []), (.aload_n 0, 1, 0, []), (.aload_n 0, 1, 0, []), (.getfield 95, 3, 0, [12, 53, 3, 1463]), (.iload_n 1, 1, 0, []), (.iaload, 1, 0, []), (.invokevirtual 515, 3, 0, [0, 285, 12, 1, 1, 2153, 2155, 138, 156, 2156])] := rfl
set_option maxRecDepth 100000 in
theorem q288_232 (E : mj_E) (d w c : Nat) (hi : Nat → Nat → Int32) (hl : Nat → Nat → Int64) (v1 : Int32) : mj_den mj_P E d 288 232 [Value.ref 205, Value.int v1] [] (mj_hw w c hi hl) = if (8 : Int32) ≤ v1 then mj_den mj_P E d 288 260 [Value.ref 205, Value.int v1] [] (mj_hw w c hi hl) else if 0 ≤ v1 ∧ (v1).toNatClampNeg < 8 then mj_bi (mj_dc mj_P E d 285 [Value.ref 205, Value.int (hi 233 ((v1).toNatClampNeg))] (mj_hw w c hi hl)) (fun x1 h1 => mj_den mj_P E d 288 253 [Value.ref 205, Value.int v1] [Value.int x1, Value.int v1, Value.ref 233] h1) else none := by
  rw [mj_den_eq, f288_232]
  exact zt_iload_n rfl rfl (zt_bipush rfl (zt_icmp_ge rfl rfl (zt_aload_n rfl rfl (zt_getr (mjkd205 _ _ _ _) (mjhr205_53 w c) rfl (zt_iload_n rfl rfl (zt_aload_n rfl rfl (zt_aload_n rfl rfl (zt_getr (mjkd205 _ _ _ _) (mjhr205_53 w c) rfl (zt_iload_n rfl rfl (zt_iald (mjkd233 _ _ _ _) (mjln233 _ _ _ _) rfl rfl (zt_call0_1 rfl (mjkd205 _ _ _ _) (Nat.le_of_ble_eq_true rfl) rfl rfl)))))))))))
set_option maxRecDepth 100000 in
theorem f288_253 : mj_find (mj_P 288).2.2.2.2 253 = [(.iastore, 1, 0, []), (.iinc 1 1, 3, 1, []), (.goto (-25), 3, 0, [232])] := rfl
set_option maxRecDepth 100000 in
theorem q288_253 (E : mj_E) (d w c : Nat) (hi : Nat → Nat → Int32) (hl : Nat → Nat → Int64) (v1 : Int32) (s0 : Int32) (s1 : Int32) : mj_den mj_P E d 288 253 [Value.ref 205, Value.int v1] [Value.int s0, Value.int s1, Value.ref 233] (mj_hw w c hi hl) = if 0 ≤ s1 ∧ (s1).toNatClampNeg < 8 then mj_den mj_P E d 288 232 [Value.ref 205, Value.int (v1 + (1 : Int32))] [] (mj_hw w c (mj_u hi 233 ((s1).toNatClampNeg) s0) hl) else none := by
  rw [mj_den_eq, f288_253]
  exact zt_iast (mjkd233 _ _ _ _) (mjln233 _ _ _ _) rfl rfl (zt_iinc rfl (Nat.le_of_ble_eq_true rfl) rfl rfl (zt_goto rfl))
set_option maxRecDepth 100000 in
theorem f288_260 : mj_find (mj_P 288).2.2.2.2 260 = [(.iconst 0, 1, 0, []), (.istore_n 1, 1, 0, [])] := rfl
set_option maxRecDepth 100000 in
theorem q288_260 (E : mj_E) (d w c : Nat) (hi : Nat → Nat → Int32) (hl : Nat → Nat → Int64) (v1 : Int32) : mj_den mj_P E d 288 260 [Value.ref 205, Value.int v1] [] (mj_hw w c hi hl) = mj_den mj_P E d 288 262 [Value.ref 205, Value.int (0 : Int32)] [] (mj_hw w c hi hl) := by
  rw [mj_den_eq, f288_260]
  exact zt_iconst rfl (zt_istore_n (Nat.le_of_ble_eq_true rfl) rfl rfl (zt_end rfl))
set_option maxRecDepth 100000 in
theorem f288_262 : mj_find (mj_P 288).2.2.2.2 262 = [(.iload_n 1, 1, 0, []), (.bipush 32, 2, 32, []), (.if_icmp .ge 25, 3, 0, [290]), (.aload_n 0, 1, 0, []), (.getfield 68, 3, 0, [12, 37, 3, 1447]), (.iload_n 1, 1, 0, []), (.aload_n 0, 1, 0, []), (.aload_n 0, 1, 0, []), (.getfield 68, 3, 0, [12, 37, 3, 1447]), (.iload_n 1, 1, 0, []), (.iaload, 1, 0, []), (.invokevirtual 515, 3, 0, [0, 285, 12, 1, 1, 2153, 2155, 138, 156, 2156])] := rfl
set_option maxRecDepth 100000 in
theorem q288_262 (E : mj_E) (d w c : Nat) (hi : Nat → Nat → Int32) (hl : Nat → Nat → Int64) (v1 : Int32) : mj_den mj_P E d 288 262 [Value.ref 205, Value.int v1] [] (mj_hw w c hi hl) = if (32 : Int32) ≤ v1 then mj_den mj_P E d 288 290 [Value.ref 205, Value.int v1] [] (mj_hw w c hi hl) else if 0 ≤ v1 ∧ (v1).toNatClampNeg < 64 then mj_bi (mj_dc mj_P E d 285 [Value.ref 205, Value.int (hi 224 ((v1).toNatClampNeg))] (mj_hw w c hi hl)) (fun x1 h1 => mj_den mj_P E d 288 283 [Value.ref 205, Value.int v1] [Value.int x1, Value.int v1, Value.ref 224] h1) else none := by
  rw [mj_den_eq, f288_262]
  exact zt_iload_n rfl rfl (zt_bipush rfl (zt_icmp_ge rfl rfl (zt_aload_n rfl rfl (zt_getr (mjkd205 _ _ _ _) (mjhr205_37 w c) rfl (zt_iload_n rfl rfl (zt_aload_n rfl rfl (zt_aload_n rfl rfl (zt_getr (mjkd205 _ _ _ _) (mjhr205_37 w c) rfl (zt_iload_n rfl rfl (zt_iald (mjkd224 _ _ _ _) (mjln224 _ _ _ _) rfl rfl (zt_call0_1 rfl (mjkd205 _ _ _ _) (Nat.le_of_ble_eq_true rfl) rfl rfl)))))))))))
set_option maxRecDepth 100000 in
theorem f288_283 : mj_find (mj_P 288).2.2.2.2 283 = [(.iastore, 1, 0, []), (.iinc 1 1, 3, 1, []), (.goto (-25), 3, 0, [262])] := rfl
set_option maxRecDepth 100000 in
theorem q288_283 (E : mj_E) (d w c : Nat) (hi : Nat → Nat → Int32) (hl : Nat → Nat → Int64) (v1 : Int32) (s0 : Int32) (s1 : Int32) : mj_den mj_P E d 288 283 [Value.ref 205, Value.int v1] [Value.int s0, Value.int s1, Value.ref 224] (mj_hw w c hi hl) = if 0 ≤ s1 ∧ (s1).toNatClampNeg < 64 then mj_den mj_P E d 288 262 [Value.ref 205, Value.int (v1 + (1 : Int32))] [] (mj_hw w c (mj_u hi 224 ((s1).toNatClampNeg) s0) hl) else none := by
  rw [mj_den_eq, f288_283]
  exact zt_iast (mjkd224 _ _ _ _) (mjln224 _ _ _ _) rfl rfl (zt_iinc rfl (Nat.le_of_ble_eq_true rfl) rfl rfl (zt_goto rfl))
set_option maxRecDepth 100000 in
theorem f288_290 : mj_find (mj_P 288).2.2.2.2 290 = [(.iconst 0, 1, 0, []), (.istore_n 1, 1, 0, [])] := rfl
set_option maxRecDepth 100000 in
theorem q288_290 (E : mj_E) (d w c : Nat) (hi : Nat → Nat → Int32) (hl : Nat → Nat → Int64) (v1 : Int32) : mj_den mj_P E d 288 290 [Value.ref 205, Value.int v1] [] (mj_hw w c hi hl) = mj_den mj_P E d 288 292 [Value.ref 205, Value.int (0 : Int32)] [] (mj_hw w c hi hl) := by
  rw [mj_den_eq, f288_290]
  exact zt_iconst rfl (zt_istore_n (Nat.le_of_ble_eq_true rfl) rfl rfl (zt_end rfl))
set_option maxRecDepth 100000 in
theorem f288_292 : mj_find (mj_P 288).2.2.2.2 292 = [(.iload_n 1, 1, 0, []), (.bipush 48, 2, 48, []), (.if_icmp .ge 25, 3, 0, [320]), (.aload_n 0, 1, 0, []), (.getfield 74, 3, 0, [12, 41, 3, 1451]), (.iload_n 1, 1, 0, []), (.aload_n 0, 1, 0, []), (.aload_n 0, 1, 0, []), (.getfield 74, 3, 0, [12, 41, 3, 1451]), (.iload_n 1, 1, 0, []), (.iaload, 1, 0, []), (.invokevirtual 515, 3, 0, [0, 285, 12, 1, 1, 2153, 2155, 138, 156, 2156])] := rfl
set_option maxRecDepth 100000 in
theorem q288_292 (E : mj_E) (d w c : Nat) (hi : Nat → Nat → Int32) (hl : Nat → Nat → Int64) (v1 : Int32) : mj_den mj_P E d 288 292 [Value.ref 205, Value.int v1] [] (mj_hw w c hi hl) = if (48 : Int32) ≤ v1 then mj_den mj_P E d 288 320 [Value.ref 205, Value.int v1] [] (mj_hw w c hi hl) else if 0 ≤ v1 ∧ (v1).toNatClampNeg < 96 then mj_bi (mj_dc mj_P E d 285 [Value.ref 205, Value.int (hi 226 ((v1).toNatClampNeg))] (mj_hw w c hi hl)) (fun x1 h1 => mj_den mj_P E d 288 313 [Value.ref 205, Value.int v1] [Value.int x1, Value.int v1, Value.ref 226] h1) else none := by
  rw [mj_den_eq, f288_292]
  exact zt_iload_n rfl rfl (zt_bipush rfl (zt_icmp_ge rfl rfl (zt_aload_n rfl rfl (zt_getr (mjkd205 _ _ _ _) (mjhr205_41 w c) rfl (zt_iload_n rfl rfl (zt_aload_n rfl rfl (zt_aload_n rfl rfl (zt_getr (mjkd205 _ _ _ _) (mjhr205_41 w c) rfl (zt_iload_n rfl rfl (zt_iald (mjkd226 _ _ _ _) (mjln226 _ _ _ _) rfl rfl (zt_call0_1 rfl (mjkd205 _ _ _ _) (Nat.le_of_ble_eq_true rfl) rfl rfl)))))))))))
set_option maxRecDepth 100000 in
theorem f288_313 : mj_find (mj_P 288).2.2.2.2 313 = [(.iastore, 1, 0, []), (.iinc 1 1, 3, 1, []), (.goto (-25), 3, 0, [292])] := rfl
set_option maxRecDepth 100000 in
theorem q288_313 (E : mj_E) (d w c : Nat) (hi : Nat → Nat → Int32) (hl : Nat → Nat → Int64) (v1 : Int32) (s0 : Int32) (s1 : Int32) : mj_den mj_P E d 288 313 [Value.ref 205, Value.int v1] [Value.int s0, Value.int s1, Value.ref 226] (mj_hw w c hi hl) = if 0 ≤ s1 ∧ (s1).toNatClampNeg < 96 then mj_den mj_P E d 288 292 [Value.ref 205, Value.int (v1 + (1 : Int32))] [] (mj_hw w c (mj_u hi 226 ((s1).toNatClampNeg) s0) hl) else none := by
  rw [mj_den_eq, f288_313]
  exact zt_iast (mjkd226 _ _ _ _) (mjln226 _ _ _ _) rfl rfl (zt_iinc rfl (Nat.le_of_ble_eq_true rfl) rfl rfl (zt_goto rfl))
set_option maxRecDepth 100000 in
theorem f288_320 : mj_find (mj_P 288).2.2.2.2 320 = [(.return_, 1, 0, [])] := rfl
set_option maxRecDepth 100000 in
theorem q288_320 (E : mj_E) (d w c : Nat) (hi : Nat → Nat → Int32) (hl : Nat → Nat → Int64) (v1 : Int32) : mj_den mj_P E d 288 320 [Value.ref 205, Value.int v1] [] (mj_hw w c hi hl) = some (none, (mj_hw w c hi hl)) := by
  rw [mj_den_eq, f288_320]
  exact zt_return
