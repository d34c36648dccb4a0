set_option maxRecDepth 100000 in
theorem f252_0 : mj_find (mj_P 252).2.2.2.2 0 = [(.iconst 0, 1, 0, []), (.istore_n 1, 1, 0, []), (.iconst 0, 1, 0, []), (.istore_n 2, 1, 0, [])] := rfl
set_option maxRecDepth 100000 in
theorem q252_0 (E : mj_E) (d w c : Nat) (hi : Nat → Nat → Int32) (hl : Nat → Nat → Int64) : mj_den mj_P E d 252 0 [Value.ref 205, Value.float 0, Value.float 0] [] (mj_hw w c hi hl) = mj_den mj_P E d 252 4 [Value.ref 205, Value.int (0 : Int32), Value.int (0 : Int32)] [] (mj_hw w c hi hl) := by
  rw [mj_den_eq, f252_0]
  exact zt_iconst rfl (zt_istore_n (Nat.le_of_ble_eq_true rfl) rfl rfl (zt_iconst rfl (zt_istore_n (Nat.le_of_ble_eq_true rfl) rfl rfl (zt_end rfl))))
set_option maxRecDepth 100000 in
theorem f252_4 : mj_find (mj_P 252).2.2.2.2 4 = [(.iload_n 2, 1, 0, []), (.aload_n 0, 1, 0, []), (.getfield 137, 3, 0, [12, 7, 0, 1417]), (.if_icmp .ge 24, 3, 0, [33]), (.aload_n 0, 1, 0, []), (.iload_n 2, 1, 0, []), (.invokevirtual 140, 3, 0, [0, 166, 12, 1, 1, 1800, 1802, 79, 156, 1803])] := rfl
set_option maxRecDepth 100000 in
theorem q252_4 (E : mj_E) (d w c : Nat) (hi : Nat → Nat → Int32) (hl : Nat → Nat → Int64) (v1 : Int32) (v2 : Int32) : mj_den mj_P E d 252 4 [Value.ref 205, Value.int v1, Value.int v2] [] (mj_hw w c hi hl) = if (hi 205 7) ≤ v2 then mj_den mj_P E d 252 33 [Value.ref 205, Value.int v1, Value.int v2] [] (mj_hw w c hi hl) else mj_bi (mj_dc mj_P E d 166 [Value.ref 205, Value.int v2] (mj_hw w c hi hl)) (fun x1 h1 => mj_den mj_P E d 252 17 [Value.ref 205, Value.int v1, Value.int v2] [Value.int x1] h1) := by
  rw [mj_den_eq, f252_4]
  exact zt_iload_n rfl rfl (zt_aload_n rfl rfl (zt_geti (mjkd205 _ _ _ _) rfl rfl (zt_icmp_ge rfl rfl (zt_aload_n rfl rfl (zt_iload_n rfl rfl (zt_call0_1 rfl (mjkd205 _ _ _ _) (Nat.le_of_ble_eq_true rfl) rfl rfl))))))
set_option maxRecDepth 100000 in
theorem f252_17 : mj_find (mj_P 252).2.2.2.2 17 = [(.iconst (-1), 1, (-1), []), (.if_icmp .ne 9, 3, 0, [27]), (.iload_n 1, 1, 0, []), (.iconst 1, 1, 1, []), (.iload_n 2, 1, 0, []), (.ishl, 1, 0, []), (.ior, 1, 0, []), (.istore_n 1, 1, 0, [])] := rfl
set_option maxRecDepth 100000 in
theorem q252_17 (E : mj_E) (d w c : Nat) (hi : Nat → Nat → Int32) (hl : Nat → Nat → Int64) (v1 : Int32) (v2 : Int32) (s0 : Int32) : mj_den mj_P E d 252 17 [Value.ref 205, Value.int v1, Value.int v2] [Value.int s0] (mj_hw w c hi hl) = if ¬ s0 = (-1 : Int32) then mj_den mj_P E d 252 27 [Value.ref 205, Value.int v1, Value.int v2] [] (mj_hw w c hi hl) else mj_den mj_P E d 252 27 [Value.ref 205, Value.int (v1 ||| ((1 : Int32) <<< (v2 &&& 31))), Value.int v2] [] (mj_hw w c hi hl) := by
  rw [mj_den_eq, f252_17]
  exact zt_iconst rfl (zt_icmp_ne rfl rfl (zt_iload_n rfl rfl (zt_iconst rfl (zt_iload_n rfl rfl (zt_ishl rfl (zt_ior rfl (zt_istore_n (Nat.le_of_ble_eq_true rfl) rfl rfl (zt_end rfl))))))))
set_option maxRecDepth 100000 in
theorem f252_27 : mj_find (mj_P 252).2.2.2.2 27 = [(.iinc 2 1, 3, 1, []), (.goto (-26), 3, 0, [4])] := rfl
set_option maxRecDepth 100000 in
theorem q252_27 (E : mj_E) (d w c : Nat) (hi : Nat → Nat → Int32) (hl : Nat → Nat → Int64) (v1 : Int32) (v2 : Int32) : mj_den mj_P E d 252 27 [Value.ref 205, Value.int v1, Value.int v2] [] (mj_hw w c hi hl) = mj_den mj_P E d 252 4 [Value.ref 205, Value.int v1, Value.int (v2 + (1 : Int32))] [] (mj_hw w c hi hl) := by
  rw [mj_den_eq, f252_27]
  exact zt_iinc rfl (Nat.le_of_ble_eq_true rfl) rfl rfl (zt_goto rfl)
set_option maxRecDepth 100000 in
theorem f252_33 : mj_find (mj_P 252).2.2.2.2 33 = [(.iload_n 1, 1, 0, []), (.ireturn, 1, 0, [0])] := rfl
set_option maxRecDepth 100000 in
theorem q252_33 (E : mj_E) (d w c : Nat) (hi : Nat → Nat → Int32) (hl : Nat → Nat → Int64) (v1 : Int32) (v2 : Int32) : mj_den mj_P E d 252 33 [Value.ref 205, Value.int v1, Value.int v2] [] (mj_hw w c hi hl) = some (some (Value.int v1), (mj_hw w c hi hl)) := by
  rw [mj_den_eq, f252_33]
  exact zt_iload_n rfl rfl (zt_ireturn0)
set_option maxRecDepth 100000 in
theorem f253_0 : mj_find (mj_P 253).2.2.2.2 0 = [(.iconst 0, 1, 0, []), (.istore_n 3, 1, 0, []), (.iconst 0, 1, 0, []), (.istore 4, 2, 0, [])] := rfl
set_option maxRecDepth 100000 in
theorem q253_0 (E : mj_E) (d w c : Nat) (hi : Nat → Nat → Int32) (hl : Nat → Nat → Int64) (v1 : Int32) (v2 : Int32) : mj_den mj_P E d 253 0 [Value.ref 205, Value.int v1, Value.int v2, Value.float 0, Value.float 0] [] (mj_hw w c hi hl) = mj_den mj_P E d 253 5 [Value.ref 205, Value.int v1, Value.int v2, Value.int (0 : Int32), Value.int (0 : Int32)] [] (mj_hw w c hi hl) := by
  rw [mj_den_eq, f253_0]
  exact zt_iconst rfl (zt_istore_n (Nat.le_of_ble_eq_true rfl) rfl rfl (zt_iconst rfl (zt_istore (Nat.le_of_ble_eq_true rfl) rfl rfl (zt_end rfl))))
set_option maxRecDepth 100000 in
theorem f253_5 : mj_find (mj_P 253).2.2.2.2 5 = [(.iload 4, 2, 0, []), (.aload_n 0, 1, 0, []), (.getfield 137, 3, 0, [12, 7, 0, 1417]), (.if_icmp .ge 31, 3, 0, [42]), (.aload_n 0, 1, 0, []), (.iload_n 1, 1, 0, []), (.iload 4, 2, 0, []), (.invokevirtual 327, 3, 0, [0, 157, 12, 2, 1, 1832, 1834, 87, 156, 1835])] := rfl
set_option maxRecDepth 100000 in
theorem q253_5 (E : mj_E) (d w c : Nat) (hi : Nat → Nat → Int32) (hl : Nat → Nat → Int64) (v1 : Int32) (v2 : Int32) (v3 : Int32) (v4 : Int32) : mj_den mj_P E d 253 5 [Value.ref 205, Value.int v1, Value.int v2, Value.int v3, Value.int v4] [] (mj_hw w c hi hl) = if (hi 205 7) ≤ v4 then mj_den mj_P E d 253 42 [Value.ref 205, Value.int v1, Value.int v2, Value.int v3, Value.int v4] [] (mj_hw w c hi hl) else mj_bi (mj_dc mj_P E d 157 [Value.ref 205, Value.int v1, Value.int v4] (mj_hw w c hi hl)) (fun x1 h1 => mj_den mj_P E d 253 21 [Value.ref 205, Value.int v1, Value.int v2, Value.int v3, Value.int v4] [Value.int x1] h1) := by
  rw [mj_den_eq, f253_5]
  exact zt_iload rfl rfl (zt_aload_n rfl rfl (zt_geti (mjkd205 _ _ _ _) rfl rfl (zt_icmp_ge rfl rfl (zt_aload_n rfl rfl (zt_iload_n rfl rfl (zt_iload rfl rfl (zt_call0_1 rfl (mjkd205 _ _ _ _) (Nat.le_of_ble_eq_true rfl) rfl rfl)))))))
set_option maxRecDepth 100000 in
theorem f253_21 : mj_find (mj_P 253).2.2.2.2 21 = [(.ifCond .eq 15, 3, 0, [36]), (.iload_n 3, 1, 0, []), (.aload_n 0, 1, 0, []), (.getfield 28, 3, 0, [12, 11, 3, 1421]), (.iload 4, 2, 0, []), (.iaload, 1, 0, []), (.iload_n 2, 1, 0, []), (.idiv, 1, 0, []), (.iadd, 1, 0, []), (.istore_n 3, 1, 0, [])] := rfl
set_option maxRecDepth 100000 in
theorem q253_21 (E : mj_E) (d w c : Nat) (hi : Nat → Nat → Int32) (hl : Nat → Nat → Int64) (v1 : Int32) (v2 : Int32) (v3 : Int32) (v4 : Int32) (s0 : Int32) : mj_den mj_P E d 253 21 [Value.ref 205, Value.int v1, Value.int v2, Value.int v3, Value.int v4] [Value.int s0] (mj_hw w c hi hl) = if s0 = 0 then mj_den mj_P E d 253 36 [Value.ref 205, Value.int v1, Value.int v2, Value.int v3, Value.int v4] [] (mj_hw w c hi hl) else if 0 ≤ v4 ∧ (v4).toNatClampNeg < 12 then if v2 = 0 then none else mj_den mj_P E d 253 36 [Value.ref 205, Value.int v1, Value.int v2, Value.int (v3 + ((hi 212 ((v4).toNatClampNeg)) / v2)), Value.int v4] [] (mj_hw w c hi hl) else none := by
  rw [mj_den_eq, f253_21]
  exact zt_if_eq rfl rfl (zt_iload_n rfl rfl (zt_aload_n rfl rfl (zt_getr (mjkd205 _ _ _ _) (mjhr205_11 w c) rfl (zt_iload rfl rfl (zt_iald (mjkd212 _ _ _ _) (mjln212 _ _ _ _) rfl rfl (zt_iload_n rfl rfl (zt_idiv  rfl (zt_iadd rfl (zt_istore_n (Nat.le_of_ble_eq_true rfl) rfl rfl (zt_end rfl))))))))))
set_option maxRecDepth 100000 in
theorem f253_36 : mj_find (mj_P 253).2.2.2.2 36 = [(.iinc 4 1, 3, 1, []), (.goto (-34), 3, 0, [5])] := rfl
set_option maxRecDepth 100000 in
theorem q253_36 (E : mj_E) (d w c : Nat) (hi : Nat → Nat → Int32) (hl : Nat → Nat → Int64) (v1 : Int32) (v2 : Int32) (v3 : Int32) (v4 : Int32) : mj_den mj_P E d 253 36 [Value.ref 205, Value.int v1, Value.int v2, Value.int v3, Value.int v4] [] (mj_hw w c hi hl) = mj_den mj_P E d 253 5 [Value.ref 205, Value.int v1, Value.int v2, Value.int v3, Value.int (v4 + (1 : Int32))] [] (mj_hw w c hi hl) := by
  rw [mj_den_eq, f253_36]
  exact zt_iinc rfl (Nat.le_of_ble_eq_true rfl) rfl rfl (zt_goto rfl)
set_option maxRecDepth 100000 in
theorem f253_42 : mj_find (mj_P 253).2.2.2.2 42 = [(.iload_n 3, 1, 0, []), (.ireturn, 1, 0, [0])] := rfl
set_option maxRecDepth 100000 in
theorem q253_42 (E : mj_E) (d w c : Nat) (hi : Nat → Nat → Int32) (hl : Nat → Nat → Int64) (v1 : Int32) (v2 : Int32) (v3 : Int32) (v4 : Int32) : mj_den mj_P E d 253 42 [Value.ref 205, Value.int v1, Value.int v2, Value.int v3, Value.int v4] [] (mj_hw w c hi hl) = some (some (Value.int v3), (mj_hw w c hi hl)) := by
  rw [mj_den_eq, f253_42]
  exact zt_iload_n rfl rfl (zt_ireturn0)
set_option maxRecDepth 100000 in
theorem f254_0 : mj_find (mj_P 254).2.2.2.2 0 = [(.aload_n 0, 1, 0, []), (.iconst 0, 1, 0, []), (.putfield 122, 3, 0, [12, 0, 0, 1410]), (.aload_n 0, 1, 0, []), (.iload_n 1, 1, 0, []), (.iconst 1, 1, 1, []), (.sipush 9999, 3, 9999, []), (.invokevirtual 144, 3, 0, [0, 152, 12, 3, 1, 1624, 1626, 42, 156, 1627])] := rfl
set_option maxRecDepth 100000 in
theorem q254_0 (E : mj_E) (d w c : Nat) (hi : Nat → Nat → Int32) (hl : Nat → Nat → Int64) (v1 : Int32) (v2 : Int32) : mj_den mj_P E d 254 0 [Value.ref 205, Value.int v1, Value.int v2, Value.float 0, Value.float 0, Value.float 0] [] (mj_hw w c hi hl) = mj_bi (mj_dc mj_P E d 152 [Value.ref 205, Value.int v1, Value.int (1 : Int32), Value.int (9999 : Int32)] (mj_hw w c (mj_u hi 205 0 (0 : Int32)) hl)) (fun x1 h1 => mj_den mj_P E d 254 14 [Value.ref 205, Value.int v1, Value.int v2, Value.float 0, Value.float 0, Value.float 0] [Value.int x1] h1) := by
  rw [mj_den_eq, f254_0]
  exact zt_aload_n rfl rfl (zt_iconst rfl (zt_puti (mjkd205 _ _ _ _) rfl rfl (zt_aload_n rfl rfl (zt_iload_n rfl rfl (zt_iconst rfl (zt_sipush rfl (zt_call0_1 rfl (mjkd205 _ _ _ _) (Nat.le_of_ble_eq_true rfl) rfl rfl)))))))
set_option maxRecDepth 100000 in
theorem f254_14 : mj_find (mj_P 254).2.2.2.2 14 = [(.ifCond .eq 13, 3, 0, [27]), (.aload_n 0, 1, 0, []), (.iload_n 2, 1, 0, []), (.iconst 0, 1, 0, []), (.iconst 1, 1, 1, []), (.invokevirtual 144, 3, 0, [0, 152, 12, 3, 1, 1624, 1626, 42, 156, 1627])] := rfl
set_option maxRecDepth 100000 in
theorem q254_14 (E : mj_E) (d w c : Nat) (hi : Nat → Nat → Int32) (hl : Nat → Nat → Int64) (v1 : Int32) (v2 : Int32) (s0 : Int32) : mj_den mj_P E d 254 14 [Value.ref 205, Value.int v1, Value.int v2, Value.float 0, Value.float 0, Value.float 0] [Value.int s0] (mj_hw w c hi hl) = if s0 = 0 then mj_den mj_P E d 254 27 [Value.ref 205, Value.int v1, Value.int v2, Value.float 0, Value.float 0, Value.float 0] [] (mj_hw w c hi hl) else mj_bi (mj_dc mj_P E d 152 [Value.ref 205, Value.int v2, Value.int (0 : Int32), Value.int (1 : Int32)] (mj_hw w c hi hl)) (fun x1 h1 => mj_den mj_P E d 254 24 [Value.ref 205, Value.int v1, Value.int v2, Value.float 0, Value.float 0, Value.float 0] [Value.int x1] h1) := by
  rw [mj_den_eq, f254_14]
  exact zt_if_eq rfl rfl (zt_aload_n rfl rfl (zt_iload_n rfl rfl (zt_iconst rfl (zt_iconst rfl (zt_call0_1 rfl (mjkd205 _ _ _ _) (Nat.le_of_ble_eq_true rfl) rfl rfl)))))
set_option maxRecDepth 100000 in
theorem f254_24 : mj_find (mj_P 254).2.2.2.2 24 = [(.ifCond .ne 5, 3, 0, [29])] := rfl
set_option maxRecDepth 100000 in
theorem q254_24 (E : mj_E) (d w c : Nat) (hi : Nat → Nat → Int32) (hl : Nat → Nat → Int64) (v1 : Int32) (v2 : Int32) (s0 : Int32) : mj_den mj_P E d 254 24 [Value.ref 205, Value.int v1, Value.int v2, Value.float 0, Value.float 0, Value.float 0] [Value.int s0] (mj_hw w c hi hl) = if ¬ s0 = 0 then mj_den mj_P E d 254 29 [Value.ref 205, Value.int v1, Value.int v2, Value.float 0, Value.float 0, Value.float 0] [] (mj_hw w c hi hl) else mj_den mj_P E d 254 27 [Value.ref 205, Value.int v1, Value.int v2, Value.float 0, Value.float 0, Value.float 0] [] (mj_hw w c hi hl) := by
  rw [mj_den_eq, f254_24]
  exact zt_if_ne rfl rfl (zt_end rfl)
set_option maxRecDepth 100000 in
theorem f254_27 : mj_find (mj_P 254).2.2.2.2 27 = [(.iconst (-1), 1, (-1), []), (.ireturn, 1, 0, [0])] := rfl
set_option maxRecDepth 100000 in
theorem q254_27 (E : mj_E) (d w c : Nat) (hi : Nat → Nat → Int32) (hl : Nat → Nat → Int64) (v1 : Int32) (v2 : Int32) : mj_den mj_P E d 254 27 [Value.ref 205, Value.int v1, Value.int v2, Value.float 0, Value.float 0, Value.float 0] [] (mj_hw w c hi hl) = some (some (Value.int (-1 : Int32)), (mj_hw w c hi hl)) := by
  rw [mj_den_eq, f254_27]
  exact zt_iconst rfl (zt_ireturn0)
set_option maxRecDepth 100000 in
theorem f254_29 : mj_find (mj_P 254).2.2.2.2 29 = [(.aload_n 0, 1, 0, []), (.invokevirtual 441, 3, 0, [0, 252, 12, 0, 1, 2019, 2021, 119, 156, 2022])] := rfl
set_option maxRecDepth 100000 in
theorem q254_29 (E : mj_E) (d w c : Nat) (hi : Nat → Nat → Int32) (hl : Nat → Nat → Int64) (v1 : Int32) (v2 : Int32) : mj_den mj_P E d 254 29 [Value.ref 205, Value.int v1, Value.int v2, Value.float 0, Value.float 0, Value.float 0] [] (mj_hw w c hi hl) = mj_bi (mj_dc mj_P E d 252 [Value.ref 205] (mj_hw w c hi hl)) (fun x1 h1 => mj_den mj_P E d 254 33 [Value.ref 205, Value.int v1, Value.int v2, Value.float 0, Value.float 0, Value.float 0] [Value.int x1] h1) := by
  rw [mj_den_eq, f254_29]
  exact zt_aload_n rfl rfl (zt_call0_1 rfl (mjkd205 _ _ _ _) (Nat.le_of_ble_eq_true rfl) rfl rfl)
set_option maxRecDepth 100000 in
theorem f254_33 : mj_find (mj_P 254).2.2.2.2 33 = [(.istore_n 3, 1, 0, []), (.iconst 0, 1, 0, []), (.istore 4, 2, 0, []), (.iconst 1, 1, 1, []), (.istore 5, 2, 0, [])] := rfl
set_option maxRecDepth 100000 in
theorem q254_33 (E : mj_E) (d w c : Nat) (hi : Nat → Nat → Int32) (hl : Nat → Nat → Int64) (v1 : Int32) (v2 : Int32) (s0 : Int32) : mj_den mj_P E d 254 33 [Value.ref 205, Value.int v1, Value.int v2, Value.float 0, Value.float 0, Value.float 0] [Value.int s0] (mj_hw w c hi hl) = mj_den mj_P E d 254 40 [Value.ref 205, Value.int v1, Value.int v2, Value.int s0, Value.int (0 : Int32), Value.int (1 : Int32)] [] (mj_hw w c hi hl) := by
  rw [mj_den_eq, f254_33]
  exact zt_istore_n (Nat.le_of_ble_eq_true rfl) rfl rfl (zt_iconst rfl (zt_istore (Nat.le_of_ble_eq_true rfl) rfl rfl (zt_iconst rfl (zt_istore (Nat.le_of_ble_eq_true rfl) rfl rfl (zt_end rfl)))))
set_option maxRecDepth 100000 in
theorem f254_40 : mj_find (mj_P 254).2.2.2.2 40 = [(.iload 5, 2, 0, []), (.iload_n 3, 1, 0, []), (.if_icmp .gt 50, 3, 0, [93]), (.iload 5, 2, 0, []), (.iload_n 3, 1, 0, []), (.iconst (-1), 1, (-1), []), (.ixor, 1, 0, []), (.iand, 1, 0, []), (.ifCond .ne 35, 3, 0, [87]), (.aload_n 0, 1, 0, []), (.iload 5, 2, 0, []), (.iconst 2, 1, 2, []), (.invokevirtual 444, 3, 0, [0, 253, 12, 2, 1, 2023, 2025, 120, 156, 2026])] := rfl
set_option maxRecDepth 100000 in
theorem q254_40 (E : mj_E) (d w c : Nat) (hi : Nat → Nat → Int32) (hl : Nat → Nat → Int64) (v1 : Int32) (v2 : Int32) (v3 : Int32) (v4 : Int32) (v5 : Int32) : mj_den mj_P E d 254 40 [Value.ref 205, Value.int v1, Value.int v2, Value.int v3, Value.int v4, Value.int v5] [] (mj_hw w c hi hl) = if v3 < v5 then mj_den mj_P E d 254 93 [Value.ref 205, Value.int v1, Value.int v2, Value.int v3, Value.int v4, Value.int v5] [] (mj_hw w c hi hl) else if ¬ (v5 &&& (v3 ^^^ (-1 : Int32))) = 0 then mj_den mj_P E d 254 87 [Value.ref 205, Value.int v1, Value.int v2, Value.int v3, Value.int v4, Value.int v5] [] (mj_hw w c hi hl) else mj_bi (mj_dc mj_P E d 253 [Value.ref 205, Value.int v5, Value.int (2 : Int32)] (mj_hw w c hi hl)) (fun x1 h1 => mj_den mj_P E d 254 62 [Value.ref 205, Value.int v1, Value.int v2, Value.int v3, Value.int v4, Value.int v5] [Value.int x1] h1) := by
  rw [mj_den_eq, f254_40]
  exact zt_iload rfl rfl (zt_iload_n rfl rfl (zt_icmp_gt rfl rfl (zt_iload rfl rfl (zt_iload_n rfl rfl (zt_iconst rfl (zt_ixor rfl (zt_iand rfl (zt_if_ne rfl rfl (zt_aload_n rfl rfl (zt_iload rfl rfl (zt_iconst rfl (zt_call0_1 rfl (mjkd205 _ _ _ _) (Nat.le_of_ble_eq_true rfl) rfl rfl))))))))))))
set_option maxRecDepth 100000 in
theorem f254_62 : mj_find (mj_P 254).2.2.2.2 62 = [(.iload_n 1, 1, 0, []), (.if_icmp .gt 24, 3, 0, [87]), (.aload_n 0, 1, 0, []), (.iload 5, 2, 0, []), (.iconst 1, 1, 1, []), (.invokevirtual 444, 3, 0, [0, 253, 12, 2, 1, 2023, 2025, 120, 156, 2026])] := rfl
set_option maxRecDepth 100000 in
theorem q254_62 (E : mj_E) (d w c : Nat) (hi : Nat → Nat → Int32) (hl : Nat → Nat → Int64) (v1 : Int32) (v2 : Int32) (v3 : Int32) (v4 : Int32) (v5 : Int32) (s0 : Int32) : mj_den mj_P E d 254 62 [Value.ref 205, Value.int v1, Value.int v2, Value.int v3, Value.int v4, Value.int v5] [Value.int s0] (mj_hw w c hi hl) = if v1 < s0 then mj_den mj_P E d 254 87 [Value.ref 205, Value.int v1, Value.int v2, Value.int v3, Value.int v4, Value.int v5] [] (mj_hw w c hi hl) else mj_bi (mj_dc mj_P E d 253 [Value.ref 205, Value.int v5, Value.int (1 : Int32)] (mj_hw w c hi hl)) (fun x1 h1 => mj_den mj_P E d 254 73 [Value.ref 205, Value.int v1, Value.int v2, Value.int v3, Value.int v4, Value.int v5] [Value.int x1] h1) := by
  rw [mj_den_eq, f254_62]
  exact zt_iload_n rfl rfl (zt_icmp_gt rfl rfl (zt_aload_n rfl rfl (zt_iload rfl rfl (zt_iconst rfl (zt_call0_1 rfl (mjkd205 _ _ _ _) (Nat.le_of_ble_eq_true rfl) rfl rfl)))))
set_option maxRecDepth 100000 in
theorem f254_73 : mj_find (mj_P 254).2.2.2.2 73 = [(.aload_n 0, 1, 0, []), (.iload 4, 2, 0, []), (.iconst 1, 1, 1, []), (.invokevirtual 444, 3, 0, [0, 253, 12, 2, 1, 2023, 2025, 120, 156, 2026])] := rfl
set_option maxRecDepth 100000 in
theorem q254_73 (E : mj_E) (d w c : Nat) (hi : Nat → Nat → Int32) (hl : Nat → Nat → Int64) (v1 : Int32) (v2 : Int32) (v3 : Int32) (v4 : Int32) (v5 : Int32) (s0 : Int32) : mj_den mj_P E d 254 73 [Value.ref 205, Value.int v1, Value.int v2, Value.int v3, Value.int v4, Value.int v5] [Value.int s0] (mj_hw w c hi hl) = mj_bi (mj_dc mj_P E d 253 [Value.ref 205, Value.int v4, Value.int (1 : Int32)] (mj_hw w c hi hl)) (fun x1 h1 => mj_den mj_P E d 254 80 [Value.ref 205, Value.int v1, Value.int v2, Value.int v3, Value.int v4, Value.int v5] [Value.int x1, Value.int s0] h1) := by
  rw [mj_den_eq, f254_73]
  exact zt_aload_n rfl rfl (zt_iload rfl rfl (zt_iconst rfl (zt_call0_1 rfl (mjkd205 _ _ _ _) (Nat.le_of_ble_eq_true rfl) rfl rfl)))
set_option maxRecDepth 100000 in
theorem f254_80 : mj_find (mj_P 254).2.2.2.2 80 = [(.if_icmp .le 7, 3, 0, [87]), (.iload 5, 2, 0, []), (.istore 4, 2, 0, [])] := rfl
set_option maxRecDepth 100000 in
theorem q254_80 (E : mj_E) (d w c : Nat) (hi : Nat → Nat → Int32) (hl : Nat → Nat → Int64) (v1 : Int32) (v2 : Int32) (v3 : Int32) (v4 : Int32) (v5 : Int32) (s0 : Int32) (s1 : Int32) : mj_den mj_P E d 254 80 [Value.ref 205, Value.int v1, Value.int v2, Value.int v3, Value.int v4, Value.int v5] [Value.int s0, Value.int s1] (mj_hw w c hi hl) = if s1 ≤ s0 then mj_den mj_P E d 254 87 [Value.ref 205, Value.int v1, Value.int v2, Value.int v3, Value.int v4, Value.int v5] [] (mj_hw w c hi hl) else mj_den mj_P E d 254 87 [Value.ref 205, Value.int v1, Value.int v2, Value.int v3, Value.int v5, Value.int v5] [] (mj_hw w c hi hl) := by
  rw [mj_den_eq, f254_80]
  exact zt_icmp_le rfl rfl (zt_iload rfl rfl (zt_istore (Nat.le_of_ble_eq_true rfl) rfl rfl (zt_end rfl)))
set_option maxRecDepth 100000 in
theorem f254_87 : mj_find (mj_P 254).2.2.2.2 87 = [(.iinc 5 1, 3, 1, []), (.goto (-50), 3, 0, [40])] := rfl
set_option maxRecDepth 100000 in
theorem q254_87 (E : mj_E) (d w c : Nat) (hi : Nat → Nat → Int32) (hl : Nat → Nat → Int64) (v1 : Int32) (v2 : Int32) (v3 : Int32) (v4 : Int32) (v5 : Int32) : mj_den mj_P E d 254 87 [Value.ref 205, Value.int v1, Value.int v2, Value.int v3, Value.int v4, Value.int v5] [] (mj_hw w c hi hl) = mj_den mj_P E d 254 40 [Value.ref 205, Value.int v1, Value.int v2, Value.int v3, Value.int v4, Value.int (v5 + (1 : Int32))] [] (mj_hw w c hi hl) := by
  rw [mj_den_eq, f254_87]
  exact zt_iinc rfl (Nat.le_of_ble_eq_true rfl) rfl rfl (zt_goto rfl)
set_option maxRecDepth 100000 in
theorem f254_93 : mj_find (mj_P 254).2.2.2.2 93 = [(.iload_n 2, 1, 0, []), (.ifCond .ne 13, 3, 0, [107]), (.aload_n 0, 1, 0, []), (.iload 4, 2, 0, []), (.iconst 1, 1, 1, []), (.invokevirtual 444, 3, 0, [0, 253, 12, 2, 1, 2023, 2025, 120, 156, 2026])] := rfl
set_option maxRecDepth 100000 in
theorem q254_93 (E : mj_E) (d w c : Nat) (hi : Nat → Nat → Int32) (hl : Nat → Nat → Int64) (v1 : Int32) (v2 : Int32) (v3 : Int32) (v4 : Int32) (v5 : Int32) : mj_den mj_P E d 254 93 [Value.ref 205, Value.int v1, Value.int v2, Value.int v3, Value.int v4, Value.int v5] [] (mj_hw w c hi hl) = if ¬ v2 = 0 then mj_den mj_P E d 254 107 [Value.ref 205, Value.int v1, Value.int v2, Value.int v3, Value.int v4, Value.int v5] [] (mj_hw w c hi hl) else mj_bi (mj_dc mj_P E d 253 [Value.ref 205, Value.int v4, Value.int (1 : Int32)] (mj_hw w c hi hl)) (fun x1 h1 => mj_den mj_P E d 254 104 [Value.ref 205, Value.int v1, Value.int v2, Value.int v3, Value.int v4, Value.int v5] [Value.int x1] h1) := by
  rw [mj_den_eq, f254_93]
  exact zt_iload_n rfl rfl (zt_if_ne rfl rfl (zt_aload_n rfl rfl (zt_iload rfl rfl (zt_iconst rfl (zt_call0_1 rfl (mjkd205 _ _ _ _) (Nat.le_of_ble_eq_true rfl) rfl rfl)))))
set_option maxRecDepth 100000 in
theorem f254_104 : mj_find (mj_P 254).2.2.2.2 104 = [(.goto 5, 3, 0, [109])] := rfl
set_option maxRecDepth 100000 in
theorem q254_104 (E : mj_E) (d w c : Nat) (hi : Nat → Nat → Int32) (hl : Nat → Nat → Int64) (v1 : Int32) (v2 : Int32) (v3 : Int32) (v4 : Int32) (v5 : Int32) (s0 : Int32) : mj_den mj_P E d 254 104 [Value.ref 205, Value.int v1, Value.int v2, Value.int v3, Value.int v4, Value.int v5] [Value.int s0] (mj_hw w c hi hl) = mj_den mj_P E d 254 109 [Value.ref 205, Value.int v1, Value.int v2, Value.int v3, Value.int v4, Value.int v5] [Value.int s0] (mj_hw w c hi hl) := by
  rw [mj_den_eq, f254_104]
  exact zt_goto rfl
set_option maxRecDepth 100000 in
theorem f254_107 : mj_find (mj_P 254).2.2.2.2 107 = [(.iload 4, 2, 0, [])] := rfl
set_option maxRecDepth 100000 in
theorem q254_107 (E : mj_E) (d w c : Nat) (hi : Nat → Nat → Int32) (hl : Nat → Nat → Int64) (v1 : Int32) (v2 : Int32) (v3 : Int32) (v4 : Int32) (v5 : Int32) : mj_den mj_P E d 254 107 [Value.ref 205, Value.int v1, Value.int v2, Value.int v3, Value.int v4, Value.int v5] [] (mj_hw w c hi hl) = mj_den mj_P E d 254 109 [Value.ref 205, Value.int v1, Value.int v2, Value.int v3, Value.int v4, Value.int v5] [Value.int v4] (mj_hw w c hi hl) := by
  rw [mj_den_eq, f254_107]
  exact zt_iload rfl rfl (zt_end rfl)
set_option maxRecDepth 100000 in
theorem f254_109 : mj_find (mj_P 254).2.2.2.2 109 = [(.ireturn, 1, 0, [0])] := rfl
set_option maxRecDepth 100000 in
theorem q254_109 (E : mj_E) (d w c : Nat) (hi : Nat → Nat → Int32) (hl : Nat → Nat → Int64) (v1 : Int32) (v2 : Int32) (v3 : Int32) (v4 : Int32) (v5 : Int32) (s0 : Int32) : mj_den mj_P E d 254 109 [Value.ref 205, Value.int v1, Value.int v2, Value.int v3, Value.int v4, Value.int v5] [Value.int s0] (mj_hw w c hi hl) = some (some (Value.int s0), (mj_hw w c hi hl)) := by
  rw [mj_den_eq, f254_109]
  exact zt_ireturn0
set_option maxRecDepth 100000 in
theorem f255_0 : mj_find (mj_P 255).2.2.2.2 0 = [(.aload_n 0, 1, 0, []), (.iconst 0, 1, 0, []), (.putfield 122, 3, 0, [12, 0, 0, 1410]), (.iload_n 1, 1, 0, []), (.iconst (-1), 1, (-1), []), (.if_icmp .ne 10, 3, 0, [17]), (.aload_n 0, 1, 0, []), (.iconst 0, 1, 0, []), (.putfield 447, 3, 0, [12, 51, 0, 1461]), (.iconst 0, 1, 0, []), (.ireturn, 1, 0, [0])] := rfl
set_option maxRecDepth 100000 in
theorem q255_0 (E : mj_E) (d w c : Nat) (hi : Nat → Nat → Int32) (hl : Nat → Nat → Int64) (v1 : Int32) : mj_den mj_P E d 255 0 [Value.ref 205, Value.int v1] [] (mj_hw w c hi hl) = if ¬ v1 = (-1 : Int32) then mj_den mj_P E d 255 17 [Value.ref 205, Value.int v1] [] (mj_hw w c (mj_u hi 205 0 (0 : Int32)) hl) else some (some (Value.int (0 : Int32)), (mj_hw w c (mj_u (mj_u hi 205 0 (0 : Int32)) 205 51 (0 : Int32)) hl)) := by
  rw [mj_den_eq, f255_0]
  exact zt_aload_n rfl rfl (zt_iconst rfl (zt_puti (mjkd205 _ _ _ _) rfl rfl (zt_iload_n rfl rfl (zt_iconst rfl (zt_icmp_ne rfl rfl (zt_aload_n rfl rfl (zt_iconst rfl (zt_puti (mjkd205 _ _ _ _) rfl rfl (zt_iconst rfl (zt_ireturn0))))))))))
set_option maxRecDepth 100000 in
theorem f255_17 : mj_find (mj_P 255).2.2.2.2 17 = [(.aload_n 0, 1, 0, []), (.iload_n 1, 1, 0, []), (.iconst 0, 1, 0, []), (.sipush 999, 3, 999, []), (.invokevirtual 144, 3, 0, [0, 152, 12, 3, 1, 1624, 1626, 42, 156, 1627])] := rfl
set_option maxRecDepth 100000 in
theorem q255_17 (E : mj_E) (d w c : Nat) (hi : Nat → Nat → Int32) (hl : Nat → Nat → Int64) (v1 : Int32) : mj_den mj_P E d 255 17 [Value.ref 205, Value.int v1] [] (mj_hw w c hi hl) = mj_bi (mj_dc mj_P E d 152 [Value.ref 205, Value.int v1, Value.int (0 : Int32), Value.int (999 : Int32)] (mj_hw w c hi hl)) (fun x1 h1 => mj_den mj_P E d 255 26 [Value.ref 205, Value.int v1] [Value.int x1] h1) := by
  rw [mj_den_eq, f255_17]
  exact zt_aload_n rfl rfl (zt_iload_n rfl rfl (zt_iconst rfl (zt_sipush rfl (zt_call0_1 rfl (mjkd205 _ _ _ _) (Nat.le_of_ble_eq_true rfl) rfl rfl))))
set_option maxRecDepth 100000 in
theorem f255_26 : mj_find (mj_P 255).2.2.2.2 26 = [(.ifCond .eq 12, 3, 0, [38]), (.aload_n 0, 1, 0, []), (.getfield 447, 3, 0, [12, 51, 0, 1461]), (.bipush 6, 2, 6, []), (.if_icmp .ne 5, 3, 0, [40])] := rfl
set_option maxRecDepth 100000 in
theorem q255_26 (E : mj_E) (d w c : Nat) (hi : Nat → Nat → Int32) (hl : Nat → Nat → Int64) (v1 : Int32) (s0 : Int32) : mj_den mj_P E d 255 26 [Value.ref 205, Value.int v1] [Value.int s0] (mj_hw w c hi hl) = if s0 = 0 then mj_den mj_P E d 255 38 [Value.ref 205, Value.int v1] [] (mj_hw w c hi hl) else if ¬ (hi 205 51) = (6 : Int32) then mj_den mj_P E d 255 40 [Value.ref 205, Value.int v1] [] (mj_hw w c hi hl) else mj_den mj_P E d 255 38 [Value.ref 205, Value.int v1] [] (mj_hw w c hi hl) := by
  rw [mj_den_eq, f255_26]
  exact zt_if_eq rfl rfl (zt_aload_n rfl rfl (zt_geti (mjkd205 _ _ _ _) rfl rfl (zt_bipush rfl (zt_icmp_ne rfl rfl (zt_end rfl)))))
set_option maxRecDepth 100000 in
theorem f255_38 : mj_find (mj_P 255).2.2.2.2 38 = [(.iconst (-1), 1, (-1), []), (.ireturn, 1, 0, [0])] := rfl
set_option maxRecDepth 100000 in
theorem q255_38 (E : mj_E) (d w c : Nat) (hi : Nat → Nat → Int32) (hl : Nat → Nat → Int64) (v1 : Int32) : mj_den mj_P E d 255 38 [Value.ref 205, Value.int v1] [] (mj_hw w c hi hl) = some (some (Value.int (-1 : Int32)), (mj_hw w c hi hl)) := by
  rw [mj_den_eq, f255_38]
  exact zt_iconst rfl (zt_ireturn0)
set_option maxRecDepth 100000 in
theorem f255_40 : mj_find (mj_P 255).2.2.2.2 40 = [(.aload_n 0, 1, 0, []), (.getfield 92, 3, 0, [12, 52, 3, 1462]), (.aload_n 0, 1, 0, []), (.getfield 447, 3, 0, [12, 51, 0, 1461]), (.iload_n 1, 1, 0, []), (.iastore, 1, 0, []), (.aload_n 0, 1, 0, []), (.aload_n 0, 1, 0, []), (.getfield 447, 3, 0, [12, 51, 0, 1461]), (.iconst 1, 1, 1, []), (.iadd, 1, 0, []), (.putfield 447, 3, 0, [12, 51, 0, 1461]), (.aload_n 0, 1, 0, []), (.getfield 447, 3, 0, [12, 51, 0, 1461]), (.ireturn, 1, 0, [0])] := rfl
set_option maxRecDepth 100000 in
theorem q255_40 (E : mj_E) (d w c : Nat) (hi : Nat → Nat → Int32) (hl : Nat → Nat → Int64) (v1 : Int32) : mj_den mj_P E d 255 40 [Value.ref 205, Value.int v1] [] (mj_hw w c hi hl) = if 0 ≤ (hi 205 51) ∧ ((hi 205 51)).toNatClampNeg < 6 then some (some (Value.int ((hi 205 51) + (1 : Int32))), (mj_hw w c (mj_u (mj_u hi 232 (((hi 205 51)).toNatClampNeg) v1) 205 51 ((hi 205 51) + (1 : Int32))) hl)) else none := by
  rw [mj_den_eq, f255_40]
  exact zt_aload_n rfl rfl (zt_getr (mjkd205 _ _ _ _) (mjhr205_52 w c) rfl (zt_aload_n rfl rfl (zt_geti (mjkd205 _ _ _ _) rfl rfl (zt_iload_n rfl rfl (zt_iast (mjkd232 _ _ _ _) (mjln232 _ _ _ _) rfl rfl (zt_aload_n rfl rfl (zt_aload_n rfl rfl (zt_geti (mjkd205 _ _ _ _) rfl rfl (zt_iconst rfl (zt_iadd rfl (zt_puti (mjkd205 _ _ _ _) rfl rfl (zt_aload_n rfl rfl (zt_geti (mjkd205 _ _ _ _) rfl rfl (zt_ireturn0))))))))))))))
set_option maxRecDepth 100000 in
theorem f256_0 : mj_find (mj_P 256).2.2.2.2 0 = [(.iconst 1, 1, 1, []), (.istore_n 2, 1, 0, []), (.iconst 2, 1, 2, []), (.istore_n 3, 1, 0, [])] := rfl
set_option maxRecDepth 100000 in
theorem q256_0 (E : mj_E) (d w c : Nat) (hi : Nat → Nat → Int32) (hl : Nat → Nat → Int64) (v1 : Int32) : mj_den mj_P E d 256 0 [Value.ref 205, Value.int v1, Value.float 0, Value.float 0] [] (mj_hw w c hi hl) = mj_den mj_P E d 256 4 [Value.ref 205, Value.int v1, Value.int (1 : Int32), Value.int (2 : Int32)] [] (mj_hw w c hi hl) := by
  rw [mj_den_eq, f256_0]
  exact zt_iconst rfl (zt_istore_n (Nat.le_of_ble_eq_true rfl) rfl rfl (zt_iconst rfl (zt_istore_n (Nat.le_of_ble_eq_true rfl) rfl rfl (zt_end rfl))))
set_option maxRecDepth 100000 in
theorem f256_4 : mj_find (mj_P 256).2.2.2.2 4 = [(.iload_n 3, 1, 0, []), (.iload_n 1, 1, 0, []), (.if_icmp .gt 13, 3, 0, [19]), (.iload_n 2, 1, 0, []), (.iload_n 3, 1, 0, []), (.imul, 1, 0, []), (.istore_n 2, 1, 0, []), (.iinc 3 1, 3, 1, []), (.goto (-12), 3, 0, [4])] := rfl
set_option maxRecDepth 100000 in
theorem q256_4 (E : mj_E) (d w c : Nat) (hi : Nat → Nat → Int32) (hl : Nat → Nat → Int64) (v1 : Int32) (v2 : Int32) (v3 : Int32) : mj_den mj_P E d 256 4 [Value.ref 205, Value.int v1, Value.int v2, Value.int v3] [] (mj_hw w c hi hl) = if v1 < v3 then mj_den mj_P E d 256 19 [Value.ref 205, Value.int v1, Value.int v2, Value.int v3] [] (mj_hw w c hi hl) else mj_den mj_P E d 256 4 [Value.ref 205, Value.int v1, Value.int (v2 * v3), Value.int (v3 + (1 : Int32))] [] (mj_hw w c hi hl) := by
  rw [mj_den_eq, f256_4]
  exact zt_iload_n rfl rfl (zt_iload_n rfl rfl (zt_icmp_gt rfl rfl (zt_iload_n rfl rfl (zt_iload_n rfl rfl (zt_imul rfl (zt_istore_n (Nat.le_of_ble_eq_true rfl) rfl rfl (zt_iinc rfl (Nat.le_of_ble_eq_true rfl) rfl rfl (zt_goto rfl))))))))
set_option maxRecDepth 100000 in
theorem f256_19 : mj_find (mj_P 256).2.2.2.2 19 = [(.iload_n 2, 1, 0, []), (.ireturn, 1, 0, [0])] := rfl
set_option maxRecDepth 100000 in
theorem q256_19 (E : mj_E) (d w c : Nat) (hi : Nat → Nat → Int32) (hl : Nat → Nat → Int64) (v1 : Int32) (v2 : Int32) (v3 : Int32) : mj_den mj_P E d 256 19 [Value.ref 205, Value.int v1, Value.int v2, Value.int v3] [] (mj_hw w c hi hl) = some (some (Value.int v2), (mj_hw w c hi hl)) := by
  rw [mj_den_eq, f256_19]
  exact zt_iload_n rfl rfl (zt_ireturn0)
set_option maxRecDepth 100000 in
theorem f257_0 : mj_find (mj_P 257).2.2.2.2 0 = [(.iconst 0, 1, 0, []), (.istore_n 2, 1, 0, []), (.iconst 0, 1, 0, []), (.istore_n 3, 1, 0, [])] := rfl
set_option maxRecDepth 100000 in
theorem q257_0 (E : mj_E) (d w c : Nat) (hi : Nat → Nat → Int32) (hl : Nat → Nat → Int64) (v1 : Int32) : mj_den mj_P E d 257 0 [Value.ref 205, Value.int v1, Value.float 0, Value.float 0] [] (mj_hw w c hi hl) = mj_den mj_P E d 257 4 [Value.ref 205, Value.int v1, Value.int (0 : Int32), Value.int (0 : Int32)] [] (mj_hw w c hi hl) := by
  rw [mj_den_eq, f257_0]
  exact zt_iconst rfl (zt_istore_n (Nat.le_of_ble_eq_true rfl) rfl rfl (zt_iconst rfl (zt_istore_n (Nat.le_of_ble_eq_true rfl) rfl rfl (zt_end rfl))))
set_option maxRecDepth 100000 in
theorem f257_4 : mj_find (mj_P 257).2.2.2.2 4 = [(.iload_n 3, 1, 0, []), (.aload_n 0, 1, 0, []), (.getfield 447, 3, 0, [12, 51, 0, 1461]), (.if_icmp .ge 27, 3, 0, [36]), (.aload_n 0, 1, 0, []), (.iload_n 1, 1, 0, []), (.iload_n 3, 1, 0, []), (.invokevirtual 327, 3, 0, [0, 157, 12, 2, 1, 1832, 1834, 87, 156, 1835])] := rfl
set_option maxRecDepth 100000 in
theorem q257_4 (E : mj_E) (d w c : Nat) (hi : Nat → Nat → Int32) (hl : Nat → Nat → Int64) (v1 : Int32) (v2 : Int32) (v3 : Int32) : mj_den mj_P E d 257 4 [Value.ref 205, Value.int v1, Value.int v2, Value.int v3] [] (mj_hw w c hi hl) = if (hi 205 51) ≤ v3 then mj_den mj_P E d 257 36 [Value.ref 205, Value.int v1, Value.int v2, Value.int v3] [] (mj_hw w c hi hl) else mj_bi (mj_dc mj_P E d 157 [Value.ref 205, Value.int v1, Value.int v3] (mj_hw w c hi hl)) (fun x1 h1 => mj_den mj_P E d 257 18 [Value.ref 205, Value.int v1, Value.int v2, Value.int v3] [Value.int x1] h1) := by
  rw [mj_den_eq, f257_4]
  exact zt_iload_n rfl rfl (zt_aload_n rfl rfl (zt_geti (mjkd205 _ _ _ _) rfl rfl (zt_icmp_ge rfl rfl (zt_aload_n rfl rfl (zt_iload_n rfl rfl (zt_iload_n rfl rfl (zt_call0_1 rfl (mjkd205 _ _ _ _) (Nat.le_of_ble_eq_true rfl) rfl rfl)))))))
set_option maxRecDepth 100000 in
theorem f257_18 : mj_find (mj_P 257).2.2.2.2 18 = [(.ifCond .eq 12, 3, 0, [30]), (.iload_n 2, 1, 0, []), (.aload_n 0, 1, 0, []), (.getfield 92, 3, 0, [12, 52, 3, 1462]), (.iload_n 3, 1, 0, []), (.iaload, 1, 0, []), (.iadd, 1, 0, []), (.istore_n 2, 1, 0, [])] := rfl
set_option maxRecDepth 100000 in
theorem q257_18 (E : mj_E) (d w c : Nat) (hi : Nat → Nat → Int32) (hl : Nat → Nat → Int64) (v1 : Int32) (v2 : Int32) (v3 : Int32) (s0 : Int32) : mj_den mj_P E d 257 18 [Value.ref 205, Value.int v1, Value.int v2, Value.int v3] [Value.int s0] (mj_hw w c hi hl) = if s0 = 0 then mj_den mj_P E d 257 30 [Value.ref 205, Value.int v1, Value.int v2, Value.int v3] [] (mj_hw w c hi hl) else if 0 ≤ v3 ∧ (v3).toNatClampNeg < 6 then mj_den mj_P E d 257 30 [Value.ref 205, Value.int v1, Value.int (v2 + (hi 232 ((v3).toNatClampNeg))), Value.int v3] [] (mj_hw w c hi hl) else none := by
  rw [mj_den_eq, f257_18]
  exact zt_if_eq rfl rfl (zt_iload_n rfl rfl (zt_aload_n rfl rfl (zt_getr (mjkd205 _ _ _ _) (mjhr205_52 w c) rfl (zt_iload_n rfl rfl (zt_iald (mjkd232 _ _ _ _) (mjln232 _ _ _ _) rfl rfl (zt_iadd rfl (zt_istore_n (Nat.le_of_ble_eq_true rfl) rfl rfl (zt_end rfl))))))))
set_option maxRecDepth 100000 in
theorem f257_30 : mj_find (mj_P 257).2.2.2.2 30 = [(.iinc 3 1, 3, 1, []), (.goto (-29), 3, 0, [4])] := rfl
set_option maxRecDepth 100000 in
theorem q257_30 (E : mj_E) (d w c : Nat) (hi : Nat → Nat → Int32) (hl : Nat → Nat → Int64) (v1 : Int32) (v2 : Int32) (v3 : Int32) : mj_den mj_P E d 257 30 [Value.ref 205, Value.int v1, Value.int v2, Value.int v3] [] (mj_hw w c hi hl) = mj_den mj_P E d 257 4 [Value.ref 205, Value.int v1, Value.int v2, Value.int (v3 + (1 : Int32))] [] (mj_hw w c hi hl) := by
  rw [mj_den_eq, f257_30]
  exact zt_iinc rfl (Nat.le_of_ble_eq_true rfl) rfl rfl (zt_goto rfl)
set_option maxRecDepth 100000 in
theorem f257_36 : mj_find (mj_P 257).2.2.2.2 36 = [(.iload_n 2, 1, 0, []), (.ireturn, 1, 0, [0])] := rfl
set_option maxRecDepth 100000 in
theorem q257_36 (E : mj_E) (d w c : Nat) (hi : Nat → Nat → Int32) (hl : Nat → Nat → Int64) (v1 : Int32) (v2 : Int32) (v3 : Int32) : mj_den mj_P E d 257 36 [Value.ref 205, Value.int v1, Value.int v2, Value.int v3] [] (mj_hw w c hi hl) = some (some (Value.int v2), (mj_hw w c hi hl)) := by
  rw [mj_den_eq, f257_36]
  exact zt_iload_n rfl rfl (zt_ireturn0)
set_option maxRecDepth 100000 in
theorem f258_0 : mj_find (mj_P 258).2.2.2.2 0 = [(.iconst 0, 1, 0, []), (.istore_n 3, 1, 0, []), (.iconst 0, 1, 0, []), (.istore 4, 2, 0, [])] := rfl
set_option maxRecDepth 100000 in
theorem q258_0 (E : mj_E) (d w c : Nat) (hi : Nat → Nat → Int32) (hl : Nat → Nat → Int64) (v1 : Int32) (v2 : Int32) : mj_den mj_P E d 258 0 [Value.ref 205, Value.int v1, Value.int v2, Value.float 0, Value.float 0, Value.float 0] [] (mj_hw w c hi hl) = mj_den mj_P E d 258 5 [Value.ref 205, Value.int v1, Value.int v2, Value.int (0 : Int32), Value.int (0 : Int32), Value.float 0] [] (mj_hw w c hi hl) := by
  rw [mj_den_eq, f258_0]
  exact zt_iconst rfl (zt_istore_n (Nat.le_of_ble_eq_true rfl) rfl rfl (zt_iconst rfl (zt_istore (Nat.le_of_ble_eq_true rfl) rfl rfl (zt_end rfl))))
set_option maxRecDepth 100000 in
theorem f258_5 : mj_find (mj_P 258).2.2.2.2 5 = [(.iload 4, 2, 0, []), (.iconst 1, 1, 1, []), (.aload_n 0, 1, 0, []), (.getfield 447, 3, 0, [12, 51, 0, 1461]), (.ishl, 1, 0, []), (.if_icmp .ge 77, 3, 0, [90]), (.aload_n 0, 1, 0, []), (.iload 4, 2, 0, []), (.iload_n 2, 1, 0, []), (.invokevirtual 327, 3, 0, [0, 157, 12, 2, 1, 1832, 1834, 87, 156, 1835])] := rfl
set_option maxRecDepth 100000 in
theorem q258_5 (E : mj_E) (d w c : Nat) (hi : Nat → Nat → Int32) (hl : Nat → Nat → Int64) (v1 : Int32) (v2 : Int32) (v3 : Int32) (v4 : Int32) : mj_den mj_P E d 258 5 [Value.ref 205, Value.int v1, Value.int v2, Value.int v3, Value.int v4, Value.float 0] [] (mj_hw w c hi hl) = if ((1 : Int32) <<< ((hi 205 51) &&& 31)) ≤ v4 then mj_den mj_P E d 258 90 [Value.ref 205, Value.int v1, Value.int v2, Value.int v3, Value.int v4, Value.float 0] [] (mj_hw w c hi hl) else mj_bi (mj_dc mj_P E d 157 [Value.ref 205, Value.int v4, Value.int v2] (mj_hw w c hi hl)) (fun x1 h1 => mj_den mj_P E d 258 23 [Value.ref 205, Value.int v1, Value.int v2, Value.int v3, Value.int v4, Value.float 0] [Value.int x1] h1) := by
  rw [mj_den_eq, f258_5]
  exact zt_iload rfl rfl (zt_iconst rfl (zt_aload_n rfl rfl (zt_geti (mjkd205 _ _ _ _) rfl rfl (zt_ishl rfl (zt_icmp_ge rfl rfl (zt_aload_n rfl rfl (zt_iload rfl rfl (zt_iload_n rfl rfl (zt_call0_1 rfl (mjkd205 _ _ _ _) (Nat.le_of_ble_eq_true rfl) rfl rfl)))))))))
set_option maxRecDepth 100000 in
theorem q258_5_1 (E : mj_E) (d w c : Nat) (hi : Nat → Nat → Int32) (hl : Nat → Nat → Int64) (v1 : Int32) (v2 : Int32) (v3 : Int32) (v4 : Int32) (v5 : Int32) : mj_den mj_P E d 258 5 [Value.ref 205, Value.int v1, Value.int v2, Value.int v3, Value.int v4, Value.int v5] [] (mj_hw w c hi hl) = if ((1 : Int32) <<< ((hi 205 51) &&& 31)) ≤ v4 then mj_den mj_P E d 258 90 [Value.ref 205, Value.int v1, Value.int v2, Value.int v3, Value.int v4, Value.int v5] [] (mj_hw w c hi hl) else mj_bi (mj_dc mj_P E d 157 [Value.ref 205, Value.int v4, Value.int v2] (mj_hw w c hi hl)) (fun x1 h1 => mj_den mj_P E d 258 23 [Value.ref 205, Value.int v1, Value.int v2, Value.int v3, Value.int v4, Value.int v5] [Value.int x1] h1) := by
  rw [mj_den_eq, f258_5]
  exact zt_iload rfl rfl (zt_iconst rfl (zt_aload_n rfl rfl (zt_geti (mjkd205 _ _ _ _) rfl rfl (zt_ishl rfl (zt_icmp_ge rfl rfl (zt_aload_n rfl rfl (zt_iload rfl rfl (zt_iload_n rfl rfl (zt_call0_1 rfl (mjkd205 _ _ _ _) (Nat.le_of_ble_eq_true rfl) rfl rfl)))))))))
set_option maxRecDepth 100000 in
theorem f258_23 : mj_find (mj_P 258).2.2.2.2 23 = [(.ifCond .eq 6, 3, 0, [29]), (.goto 58, 3, 0, [84])] := rfl
set_option maxRecDepth 100000 in
theorem q258_23 (E : mj_E) (d w c : Nat) (hi : Nat → Nat → Int32) (hl : Nat → Nat → Int64) (v1 : Int32) (v2 : Int32) (v3 : Int32) (v4 : Int32) (s0 : Int32) : mj_den mj_P E d 258 23 [Value.ref 205, Value.int v1, Value.int v2, Value.int v3, Value.int v4, Value.float 0] [Value.int s0] (mj_hw w c hi hl) = if s0 = 0 then mj_den mj_P E d 258 29 [Value.ref 205, Value.int v1, Value.int v2, Value.int v3, Value.int v4, Value.float 0] [] (mj_hw w c hi hl) else mj_den mj_P E d 258 84 [Value.ref 205, Value.int v1, Value.int v2, Value.int v3, Value.int v4, Value.float 0] [] (mj_hw w c hi hl) := by
  rw [mj_den_eq, f258_23]
  exact zt_if_eq rfl rfl (zt_goto rfl)
set_option maxRecDepth 100000 in
theorem q258_23_1 (E : mj_E) (d w c : Nat) (hi : Nat → Nat → Int32) (hl : Nat → Nat → Int64) (v1 : Int32) (v2 : Int32) (v3 : Int32) (v4 : Int32) (v5 : Int32) (s0 : Int32) : mj_den mj_P E d 258 23 [Value.ref 205, Value.int v1, Value.int v2, Value.int v3, Value.int v4, Value.int v5] [Value.int s0] (mj_hw w c hi hl) = if s0 = 0 then mj_den mj_P E d 258 29 [Value.ref 205, Value.int v1, Value.int v2, Value.int v3, Value.int v4, Value.int v5] [] (mj_hw w c hi hl) else mj_den mj_P E d 258 84 [Value.ref 205, Value.int v1, Value.int v2, Value.int v3, Value.int v4, Value.int v5] [] (mj_hw w c hi hl) := by
  rw [mj_den_eq, f258_23]
  exact zt_if_eq rfl rfl (zt_goto rfl)
set_option maxRecDepth 100000 in
theorem f258_29 : mj_find (mj_P 258).2.2.2.2 29 = [(.aload_n 0, 1, 0, []), (.iload 4, 2, 0, []), (.invokevirtual 336, 3, 0, [0, 156, 12, 1, 1, 1820, 1822, 84, 156, 1823])] := rfl
set_option maxRecDepth 100000 in
theorem q258_29 (E : mj_E) (d w c : Nat) (hi : Nat → Nat → Int32) (hl : Nat → Nat → Int64) (v1 : Int32) (v2 : Int32) (v3 : Int32) (v4 : Int32) : mj_den mj_P E d 258 29 [Value.ref 205, Value.int v1, Value.int v2, Value.int v3, Value.int v4, Value.float 0] [] (mj_hw w c hi hl) = mj_bi (mj_dc mj_P E d 156 [Value.ref 205, Value.int v4] (mj_hw w c hi hl)) (fun x1 h1 => mj_den mj_P E d 258 35 [Value.ref 205, Value.int v1, Value.int v2, Value.int v3, Value.int v4, Value.float 0] [Value.int x1] h1) := by
  rw [mj_den_eq, f258_29]
  exact zt_aload_n rfl rfl (zt_iload rfl rfl (zt_call0_1 rfl (mjkd205 _ _ _ _) (Nat.le_of_ble_eq_true rfl) rfl rfl))
set_option maxRecDepth 100000 in
theorem q258_29_1 (E : mj_E) (d w c : Nat) (hi : Nat → Nat → Int32) (hl : Nat → Nat → Int64) (v1 : Int32) (v2 : Int32) (v3 : Int32) (v4 : Int32) (v5 : Int32) : mj_den mj_P E d 258 29 [Value.ref 205, Value.int v1, Value.int v2, Value.int v3, Value.int v4, Value.int v5] [] (mj_hw w c hi hl) = mj_bi (mj_dc mj_P E d 156 [Value.ref 205, Value.int v4] (mj_hw w c hi hl)) (fun x1 h1 => mj_den mj_P E d 258 35 [Value.ref 205, Value.int v1, Value.int v2, Value.int v3, Value.int v4, Value.int v5] [Value.int x1] h1) := by
  rw [mj_den_eq, f258_29]
  exact zt_aload_n rfl rfl (zt_iload rfl rfl (zt_call0_1 rfl (mjkd205 _ _ _ _) (Nat.le_of_ble_eq_true rfl) rfl rfl))
set_option maxRecDepth 100000 in
theorem f258_35 : mj_find (mj_P 258).2.2.2.2 35 = [(.istore 5, 2, 0, []), (.iload_n 3, 1, 0, []), (.aload_n 0, 1, 0, []), (.aload_n 0, 1, 0, []), (.getfield 92, 3, 0, [12, 52, 3, 1462]), (.iload_n 2, 1, 0, []), (.iaload, 1, 0, []), (.aload_n 0, 1, 0, []), (.iconst 0, 1, 0, []), (.iload_n 1, 1, 0, []), (.aload_n 0, 1, 0, []), (.iload 4, 2, 0, []), (.invokevirtual 450, 3, 0, [0, 257, 12, 1, 1, 2039, 2041, 122, 156, 2042])] := rfl
set_option maxRecDepth 100000 in
theorem q258_35 (E : mj_E) (d w c : Nat) (hi : Nat → Nat → Int32) (hl : Nat → Nat → Int64) (v1 : Int32) (v2 : Int32) (v3 : Int32) (v4 : Int32) (s0 : Int32) : mj_den mj_P E d 258 35 [Value.ref 205, Value.int v1, Value.int v2, Value.int v3, Value.int v4, Value.float 0] [Value.int s0] (mj_hw w c hi hl) = if 0 ≤ v2 ∧ (v2).toNatClampNeg < 6 then mj_bi (mj_dc mj_P E d 257 [Value.ref 205, Value.int v4] (mj_hw w c hi hl)) (fun x1 h1 => mj_den mj_P E d 258 54 [Value.ref 205, Value.int v1, Value.int v2, Value.int v3, Value.int v4, Value.int s0] [Value.int x1, Value.int v1, Value.int (0 : Int32), Value.ref 205, Value.int (hi 232 ((v2).toNatClampNeg)), Value.ref 205, Value.int v3] h1) else none := by
  rw [mj_den_eq, f258_35]
  exact zt_istore (Nat.le_of_ble_eq_true rfl) rfl rfl (zt_iload_n rfl rfl (zt_aload_n rfl rfl (zt_aload_n rfl rfl (zt_getr (mjkd205 _ _ _ _) (mjhr205_52 w c) rfl (zt_iload_n rfl rfl (zt_iald (mjkd232 _ _ _ _) (mjln232 _ _ _ _) rfl rfl (zt_aload_n rfl rfl (zt_iconst rfl (zt_iload_n rfl rfl (zt_aload_n rfl rfl (zt_iload rfl rfl (zt_call0_1 rfl (mjkd205 _ _ _ _) (Nat.le_of_ble_eq_true rfl) rfl rfl))))))))))))
set_option maxRecDepth 100000 in
theorem q258_35_1 (E : mj_E) (d w c : Nat) (hi : Nat → Nat → Int32) (hl : Nat → Nat → Int64) (v1 : Int32) (v2 : Int32) (v3 : Int32) (v4 : Int32) (v5 : Int32) (s0 : Int32) : mj_den mj_P E d 258 35 [Value.ref 205, Value.int v1, Value.int v2, Value.int v3, Value.int v4, Value.int v5] [Value.int s0] (mj_hw w c hi hl) = if 0 ≤ v2 ∧ (v2).toNatClampNeg < 6 then mj_bi (mj_dc mj_P E d 257 [Value.ref 205, Value.int v4] (mj_hw w c hi hl)) (fun x1 h1 => mj_den mj_P E d 258 54 [Value.ref 205, Value.int v1, Value.int v2, Value.int v3, Value.int v4, Value.int s0] [Value.int x1, Value.int v1, Value.int (0 : Int32), Value.ref 205, Value.int (hi 232 ((v2).toNatClampNeg)), Value.ref 205, Value.int v3] h1) else none := by
  rw [mj_den_eq, f258_35]
  exact zt_istore (Nat.le_of_ble_eq_true rfl) rfl rfl (zt_iload_n rfl rfl (zt_aload_n rfl rfl (zt_aload_n rfl rfl (zt_getr (mjkd205 _ _ _ _) (mjhr205_52 w c) rfl (zt_iload_n rfl rfl (zt_iald (mjkd232 _ _ _ _) (mjln232 _ _ _ _) rfl rfl (zt_aload_n rfl rfl (zt_iconst rfl (zt_iload_n rfl rfl (zt_aload_n rfl rfl (zt_iload rfl rfl (zt_call0_1 rfl (mjkd205 _ _ _ _) (Nat.le_of_ble_eq_true rfl) rfl rfl))))))))))))
set_option maxRecDepth 100000 in
theorem f258_54 : mj_find (mj_P 258).2.2.2.2 54 = [(.isub, 1, 0, []), (.invokevirtual 383, 3, 0, [0, 154, 12, 2, 1, 1898, 1900, 103, 156, 1901])] := rfl
set_option maxRecDepth 100000 in
theorem q258_54 (E : mj_E) (d w c : Nat) (hi : Nat → Nat → Int32) (hl : Nat → Nat → Int64) (v1 : Int32) (v2 : Int32) (v3 : Int32) (v4 : Int32) (v5 : Int32) (s0 : Int32) (s1 : Int32) (s2 : Int32) (s4 : Int32) (s6 : Int32) : mj_den mj_P E d 258 54 [Value.ref 205, Value.int v1, Value.int v2, Value.int v3, Value.int v4, Value.int v5] [Value.int s0, Value.int s1, Value.int s2, Value.ref 205, Value.int s4, Value.ref 205, Value.int s6] (mj_hw w c hi hl) = mj_bi (mj_dc mj_P E d 154 [Value.ref 205, Value.int s2, Value.int (s1 - s0)] (mj_hw w c hi hl)) (fun x1 h1 => mj_den mj_P E d 258 58 [Value.ref 205, Value.int v1, Value.int v2, Value.int v3, Value.int v4, Value.int v5] [Value.int x1, Value.int s4, Value.ref 205, Value.int s6] h1) := by
  rw [mj_den_eq, f258_54]
  exact zt_isub rfl (zt_call0_1 rfl (mjkd205 _ _ _ _) (Nat.le_of_ble_eq_true rfl) rfl rfl)
set_option maxRecDepth 100000 in
theorem f258_58 : mj_find (mj_P 258).2.2.2.2 58 = [(.invokevirtual 374, 3, 0, [0, 155, 12, 2, 1, 1890, 1892, 101, 156, 1893])] := rfl
set_option maxRecDepth 100000 in
theorem q258_58 (E : mj_E) (d w c : Nat) (hi : Nat → Nat → Int32) (hl : Nat → Nat → Int64) (v1 : Int32) (v2 : Int32) (v3 : Int32) (v4 : Int32) (v5 : Int32) (s0 : Int32) (s1 : Int32) (s3 : Int32) : mj_den mj_P E d 258 58 [Value.ref 205, Value.int v1, Value.int v2, Value.int v3, Value.int v4, Value.int v5] [Value.int s0, Value.int s1, Value.ref 205, Value.int s3] (mj_hw w c hi hl) = mj_bi (mj_dc mj_P E d 155 [Value.ref 205, Value.int s1, Value.int s0] (mj_hw w c hi hl)) (fun x1 h1 => mj_den mj_P E d 258 61 [Value.ref 205, Value.int v1, Value.int v2, Value.int v3, Value.int v4, Value.int v5] [Value.int x1, Value.int s3] h1) := by
  rw [mj_den_eq, f258_58]
  exact zt_call0_1 rfl (mjkd205 _ _ _ _) (Nat.le_of_ble_eq_true rfl) rfl rfl
set_option maxRecDepth 100000 in
theorem f258_61 : mj_find (mj_P 258).2.2.2.2 61 = [(.aload_n 0, 1, 0, []), (.iload 5, 2, 0, []), (.invokevirtual 453, 3, 0, [0, 256, 12, 1, 1, 2043, 2045, 123, 156, 2046])] := rfl
set_option maxRecDepth 100000 in
theorem q258_61 (E : mj_E) (d w c : Nat) (hi : Nat → Nat → Int32) (hl : Nat → Nat → Int64) (v1 : Int32) (v2 : Int32) (v3 : Int32) (v4 : Int32) (v5 : Int32) (s0 : Int32) (s1 : Int32) : mj_den mj_P E d 258 61 [Value.ref 205, Value.int v1, Value.int v2, Value.int v3, Value.int v4, Value.int v5] [Value.int s0, Value.int s1] (mj_hw w c hi hl) = mj_bi (mj_dc mj_P E d 256 [Value.ref 205, Value.int v5] (mj_hw w c hi hl)) (fun x1 h1 => mj_den mj_P E d 258 67 [Value.ref 205, Value.int v1, Value.int v2, Value.int v3, Value.int v4, Value.int v5] [Value.int x1, Value.int s0, Value.int s1] h1) := by
  rw [mj_den_eq, f258_61]
  exact zt_aload_n rfl rfl (zt_iload rfl rfl (zt_call0_1 rfl (mjkd205 _ _ _ _) (Nat.le_of_ble_eq_true rfl) rfl rfl))
set_option maxRecDepth 100000 in
theorem f258_67 : mj_find (mj_P 258).2.2.2.2 67 = [(.imul, 1, 0, []), (.aload_n 0, 1, 0, []), (.aload_n 0, 1, 0, []), (.getfield 447, 3, 0, [12, 51, 0, 1461]), (.iconst 1, 1, 1, []), (.isub, 1, 0, []), (.iload 5, 2, 0, []), (.isub, 1, 0, []), (.invokevirtual 453, 3, 0, [0, 256, 12, 1, 1, 2043, 2045, 123, 156, 2046])] := rfl
set_option maxRecDepth 100000 in
theorem q258_67 (E : mj_E) (d w c : Nat) (hi : Nat → Nat → Int32) (hl : Nat → Nat → Int64) (v1 : Int32) (v2 : Int32) (v3 : Int32) (v4 : Int32) (v5 : Int32) (s0 : Int32) (s1 : Int32) (s2 : Int32) : mj_den mj_P E d 258 67 [Value.ref 205, Value.int v1, Value.int v2, Value.int v3, Value.int v4, Value.int v5] [Value.int s0, Value.int s1, Value.int s2] (mj_hw w c hi hl) = mj_bi (mj_dc mj_P E d 256 [Value.ref 205, Value.int (((hi 205 51) - (1 : Int32)) - v5)] (mj_hw w c hi hl)) (fun x1 h1 => mj_den mj_P E d 258 81 [Value.ref 205, Value.int v1, Value.int v2, Value.int v3, Value.int v4, Value.int v5] [Value.int x1, Value.int (s1 * s0), Value.int s2] h1) := by
  rw [mj_den_eq, f258_67]
  exact zt_imul rfl (zt_aload_n rfl rfl (zt_aload_n rfl rfl (zt_geti (mjkd205 _ _ _ _) rfl rfl (zt_iconst rfl (zt_isub rfl (zt_iload rfl rfl (zt_isub rfl (zt_call0_1 rfl (mjkd205 _ _ _ _) (Nat.le_of_ble_eq_true rfl) rfl rfl))))))))
set_option maxRecDepth 100000 in
theorem f258_81 : mj_find (mj_P 258).2.2.2.2 81 = [(.imul, 1, 0, []), (.iadd, 1, 0, []), (.istore_n 3, 1, 0, [])] := rfl
set_option maxRecDepth 100000 in
theorem q258_81 (E : mj_E) (d w c : Nat) (hi : Nat → Nat → Int32) (hl : Nat → Nat → Int64) (v1 : Int32) (v2 : Int32) (v3 : Int32) (v4 : Int32) (v5 : Int32) (s0 : Int32) (s1 : Int32) (s2 : Int32) : mj_den mj_P E d 258 81 [Value.ref 205, Value.int v1, Value.int v2, Value.int v3, Value.int v4, Value.int v5] [Value.int s0, Value.int s1, Value.int s2] (mj_hw w c hi hl) = mj_den mj_P E d 258 84 [Value.ref 205, Value.int v1, Value.int v2, Value.int (s2 + (s1 * s0)), Value.int v4, Value.int v5] [] (mj_hw w c hi hl) := by
  rw [mj_den_eq, f258_81]
  exact zt_imul rfl (zt_iadd rfl (zt_istore_n (Nat.le_of_ble_eq_true rfl) rfl rfl (zt_end rfl)))
set_option maxRecDepth 100000 in
theorem f258_84 : mj_find (mj_P 258).2.2.2.2 84 = [(.iinc 4 1, 3, 1, []), (.goto (-82), 3, 0, [5])] := rfl
set_option maxRecDepth 100000 in
theorem q258_84 (E : mj_E) (d w c : Nat) (hi : Nat → Nat → Int32) (hl : Nat → Nat → Int64) (v1 : Int32) (v2 : Int32) (v3 : Int32) (v4 : Int32) : mj_den mj_P E d 258 84 [Value.ref 205, Value.int v1, Value.int v2, Value.int v3, Value.int v4, Value.float 0] [] (mj_hw w c hi hl) = mj_den mj_P E d 258 5 [Value.ref 205, Value.int v1, Value.int v2, Value.int v3, Value.int (v4 + (1 : Int32)), Value.float 0] [] (mj_hw w c hi hl) := by
  rw [mj_den_eq, f258_84]
  exact zt_iinc rfl (Nat.le_of_ble_eq_true rfl) rfl rfl (zt_goto rfl)
set_option maxRecDepth 100000 in
theorem q258_84_1 (E : mj_E) (d w c : Nat) (hi : Nat → Nat → Int32) (hl : Nat → Nat → Int64) (v1 : Int32) (v2 : Int32) (v3 : Int32) (v4 : Int32) (v5 : Int32) : mj_den mj_P E d 258 84 [Value.ref 205, Value.int v1, Value.int v2, Value.int v3, Value.int v4, Value.int v5] [] (mj_hw w c hi hl) = mj_den mj_P E d 258 5 [Value.ref 205, Value.int v1, Value.int v2, Value.int v3, Value.int (v4 + (1 : Int32)), Value.int v5] [] (mj_hw w c hi hl) := by
  rw [mj_den_eq, f258_84]
  exact zt_iinc rfl (Nat.le_of_ble_eq_true rfl) rfl rfl (zt_goto rfl)
set_option maxRecDepth 100000 in
theorem f258_90 : mj_find (mj_P 258).2.2.2.2 90 = [(.iload_n 3, 1, 0, []), (.aload_n 0, 1, 0, []), (.aload_n 0, 1, 0, []), (.getfield 447, 3, 0, [12, 51, 0, 1461]), (.invokevirtual 453, 3, 0, [0, 256, 12, 1, 1, 2043, 2045, 123, 156, 2046])] := rfl
set_option maxRecDepth 100000 in
theorem q258_90 (E : mj_E) (d w c : Nat) (hi : Nat → Nat → Int32) (hl : Nat → Nat → Int64) (v1 : Int32) (v2 : Int32) (v3 : Int32) (v4 : Int32) (v5 : Int32) : mj_den mj_P E d 258 90 [Value.ref 205, Value.int v1, Value.int v2, Value.int v3, Value.int v4, Value.int v5] [] (mj_hw w c hi hl) = mj_bi (mj_dc mj_P E d 256 [Value.ref 205, Value.int (hi 205 51)] (mj_hw w c hi hl)) (fun x1 h1 => mj_den mj_P E d 258 99 [Value.ref 205, Value.int v1, Value.int v2, Value.int v3, Value.int v4, Value.int v5] [Value.int x1, Value.int v3] h1) := by
  rw [mj_den_eq, f258_90]
  exact zt_iload_n rfl rfl (zt_aload_n rfl rfl (zt_aload_n rfl rfl (zt_geti (mjkd205 _ _ _ _) rfl rfl (zt_call0_1 rfl (mjkd205 _ _ _ _) (Nat.le_of_ble_eq_true rfl) rfl rfl))))
set_option maxRecDepth 100000 in
theorem q258_90_1 (E : mj_E) (d w c : Nat) (hi : Nat → Nat → Int32) (hl : Nat → Nat → Int64) (v1 : Int32) (v2 : Int32) (v3 : Int32) (v4 : Int32) : mj_den mj_P E d 258 90 [Value.ref 205, Value.int v1, Value.int v2, Value.int v3, Value.int v4, Value.float 0] [] (mj_hw w c hi hl) = mj_bi (mj_dc mj_P E d 256 [Value.ref 205, Value.int (hi 205 51)] (mj_hw w c hi hl)) (fun x1 h1 => mj_den mj_P E d 258 99 [Value.ref 205, Value.int v1, Value.int v2, Value.int v3, Value.int v4, Value.float 0] [Value.int x1, Value.int v3] h1) := by
  rw [mj_den_eq, f258_90]
  exact zt_iload_n rfl rfl (zt_aload_n rfl rfl (zt_aload_n rfl rfl (zt_geti (mjkd205 _ _ _ _) rfl rfl (zt_call0_1 rfl (mjkd205 _ _ _ _) (Nat.le_of_ble_eq_true rfl) rfl rfl))))
set_option maxRecDepth 100000 in
theorem f258_99 : mj_find (mj_P 258).2.2.2.2 99 = [(.idiv, 1, 0, []), (.ireturn, 1, 0, [0])] := rfl
set_option maxRecDepth 100000 in
theorem q258_99 (E : mj_E) (d w c : Nat) (hi : Nat → Nat → Int32) (hl : Nat → Nat → Int64) (v1 : Int32) (v2 : Int32) (v3 : Int32) (v4 : Int32) (v5 : Int32) (s0 : Int32) (s1 : Int32) : mj_den mj_P E d 258 99 [Value.ref 205, Value.int v1, Value.int v2, Value.int v3, Value.int v4, Value.int v5] [Value.int s0, Value.int s1] (mj_hw w c hi hl) = if s0 = 0 then none else some (some (Value.int (s1 / s0)), (mj_hw w c hi hl)) := by
  rw [mj_den_eq, f258_99]
  exact zt_idiv  rfl (zt_ireturn0)
set_option maxRecDepth 100000 in
theorem q258_99_1 (E : mj_E) (d w c : Nat) (hi : Nat → Nat → Int32) (hl : Nat → Nat → Int64) (v1 : Int32) (v2 : Int32) (v3 : Int32) (v4 : Int32) (s0 : Int32) (s1 : Int32) : mj_den mj_P E d 258 99 [Value.ref 205, Value.int v1, Value.int v2, Value.int v3, Value.int v4, Value.float 0] [Value.int s0, Value.int s1] (mj_hw w c hi hl) = if s0 = 0 then none else some (some (Value.int (s1 / s0)), (mj_hw w c hi hl)) := by
  rw [mj_den_eq, f258_99]
  exact zt_idiv  rfl (zt_ireturn0)
set_option maxRecDepth 100000 in
theorem f259_0 : mj_find (mj_P 259).2.2.2.2 0 = [(.aload_n 0, 1, 0, []), (.iconst 0, 1, 0, []), (.putfield 122, 3, 0, [12, 0, 0, 1410]), (.aload_n 0, 1, 0, []), (.getfield 447, 3, 0, [12, 51, 0, 1461]), (.ifCond .eq 30, 3, 0, [39]), (.aload_n 0, 1, 0, []), (.iload_n 1, 1, 0, []), (.iconst 0, 1, 0, []), (.sipush 9999, 3, 9999, []), (.invokevirtual 144, 3, 0, [0, 152, 12, 3, 1, 1624, 1626, 42, 156, 1627])] := rfl
set_option maxRecDepth 100000 in
theorem q259_0 (E : mj_E) (d w c : Nat) (hi : Nat → Nat → Int32) (hl : Nat → Nat → Int64) (v1 : Int32) (v2 : Int32) : mj_den mj_P E d 259 0 [Value.ref 205, Value.int v1, Value.int v2, Value.float 0, Value.float 0] [] (mj_hw w c hi hl) = if (hi 205 51) = 0 then mj_den mj_P E d 259 39 [Value.ref 205, Value.int v1, Value.int v2, Value.float 0, Value.float 0] [] (mj_hw w c (mj_u hi 205 0 (0 : Int32)) hl) else mj_bi (mj_dc mj_P E d 152 [Value.ref 205, Value.int v1, Value.int (0 : Int32), Value.int (9999 : Int32)] (mj_hw w c (mj_u hi 205 0 (0 : Int32)) hl)) (fun x1 h1 => mj_den mj_P E d 259 21 [Value.ref 205, Value.int v1, Value.int v2, Value.float 0, Value.float 0] [Value.int x1] h1) := by
  rw [mj_den_eq, f259_0]
  exact zt_aload_n rfl rfl (zt_iconst rfl (zt_puti (mjkd205 _ _ _ _) rfl rfl (zt_aload_n rfl rfl (zt_geti (mjkd205 _ _ _ _) rfl rfl (zt_if_eq rfl rfl (zt_aload_n rfl rfl (zt_iload_n rfl rfl (zt_iconst rfl (zt_sipush rfl (zt_call0_1 rfl (mjkd205 _ _ _ _) (Nat.le_of_ble_eq_true rfl) rfl rfl))))))))))
set_option maxRecDepth 100000 in
theorem f259_21 : mj_find (mj_P 259).2.2.2.2 21 = [(.ifCond .eq 18, 3, 0, [39]), (.aload_n 0, 1, 0, []), (.iload_n 2, 1, 0, []), (.iconst (-1), 1, (-1), []), (.aload_n 0, 1, 0, []), (.getfield 447, 3, 0, [12, 51, 0, 1461]), (.iconst 1, 1, 1, []), (.isub, 1, 0, []), (.invokevirtual 144, 3, 0, [0, 152, 12, 3, 1, 1624, 1626, 42, 156, 1627])] := rfl
set_option maxRecDepth 100000 in
theorem q259_21 (E : mj_E) (d w c : Nat) (hi : Nat → Nat → Int32) (hl : Nat → Nat → Int64) (v1 : Int32) (v2 : Int32) (s0 : Int32) : mj_den mj_P E d 259 21 [Value.ref 205, Value.int v1, Value.int v2, Value.float 0, Value.float 0] [Value.int s0] (mj_hw w c hi hl) = if s0 = 0 then mj_den mj_P E d 259 39 [Value.ref 205, Value.int v1, Value.int v2, Value.float 0, Value.float 0] [] (mj_hw w c hi hl) else mj_bi (mj_dc mj_P E d 152 [Value.ref 205, Value.int v2, Value.int (-1 : Int32), Value.int ((hi 205 51) - (1 : Int32))] (mj_hw w c hi hl)) (fun x1 h1 => mj_den mj_P E d 259 36 [Value.ref 205, Value.int v1, Value.int v2, Value.float 0, Value.float 0] [Value.int x1] h1) := by
  rw [mj_den_eq, f259_21]
  exact zt_if_eq rfl rfl (zt_aload_n rfl rfl (zt_iload_n rfl rfl (zt_iconst rfl (zt_aload_n rfl rfl (zt_geti (mjkd205 _ _ _ _) rfl rfl (zt_iconst rfl (zt_isub rfl (zt_call0_1 rfl (mjkd205 _ _ _ _) (Nat.le_of_ble_eq_true rfl) rfl rfl))))))))
set_option maxRecDepth 100000 in
theorem f259_36 : mj_find (mj_P 259).2.2.2.2 36 = [(.ifCond .ne 5, 3, 0, [41])] := rfl
set_option maxRecDepth 100000 in
theorem q259_36 (E : mj_E) (d w c : Nat) (hi : Nat → Nat → Int32) (hl : Nat → Nat → Int64) (v1 : Int32) (v2 : Int32) (s0 : Int32) : mj_den mj_P E d 259 36 [Value.ref 205, Value.int v1, Value.int v2, Value.float 0, Value.float 0] [Value.int s0] (mj_hw w c hi hl) = if ¬ s0 = 0 then mj_den mj_P E d 259 41 [Value.ref 205, Value.int v1, Value.int v2, Value.float 0, Value.float 0] [] (mj_hw w c hi hl) else mj_den mj_P E d 259 39 [Value.ref 205, Value.int v1, Value.int v2, Value.float 0, Value.float 0] [] (mj_hw w c hi hl) := by
  rw [mj_den_eq, f259_36]
  exact zt_if_ne rfl rfl (zt_end rfl)
set_option maxRecDepth 100000 in
theorem f259_39 : mj_find (mj_P 259).2.2.2.2 39 = [(.iconst (-1), 1, (-1), []), (.ireturn, 1, 0, [0])] := rfl
set_option maxRecDepth 100000 in
theorem q259_39 (E : mj_E) (d w c : Nat) (hi : Nat → Nat → Int32) (hl : Nat → Nat → Int64) (v1 : Int32) (v2 : Int32) : mj_den mj_P E d 259 39 [Value.ref 205, Value.int v1, Value.int v2, Value.float 0, Value.float 0] [] (mj_hw w c hi hl) = some (some (Value.int (-1 : Int32)), (mj_hw w c hi hl)) := by
  rw [mj_den_eq, f259_39]
  exact zt_iconst rfl (zt_ireturn0)
set_option maxRecDepth 100000 in
theorem f259_41 : mj_find (mj_P 259).2.2.2.2 41 = [(.iload_n 2, 1, 0, []), (.iconst (-1), 1, (-1), []), (.if_icmp .eq 10, 3, 0, [53]), (.aload_n 0, 1, 0, []), (.iload_n 1, 1, 0, []), (.iload_n 2, 1, 0, []), (.invokevirtual 456, 3, 0, [0, 258, 12, 2, 1, 2035, 2037, 121, 156, 2038])] := rfl
set_option maxRecDepth 100000 in
theorem q259_41 (E : mj_E) (d w c : Nat) (hi : Nat → Nat → Int32) (hl : Nat → Nat → Int64) (v1 : Int32) (v2 : Int32) : mj_den mj_P E d 259 41 [Value.ref 205, Value.int v1, Value.int v2, Value.float 0, Value.float 0] [] (mj_hw w c hi hl) = if v2 = (-1 : Int32) then mj_den mj_P E d 259 53 [Value.ref 205, Value.int v1, Value.int v2, Value.float 0, Value.float 0] [] (mj_hw w c hi hl) else mj_bi (mj_dc mj_P E d 258 [Value.ref 205, Value.int v1, Value.int v2] (mj_hw w c hi hl)) (fun x1 h1 => mj_den mj_P E d 259 52 [Value.ref 205, Value.int v1, Value.int v2, Value.float 0, Value.float 0] [Value.int x1] h1) := by
  rw [mj_den_eq, f259_41]
  exact zt_iload_n rfl rfl (zt_iconst rfl (zt_icmp_eq rfl rfl (zt_aload_n rfl rfl (zt_iload_n rfl rfl (zt_iload_n rfl rfl (zt_call0_1 rfl (mjkd205 _ _ _ _) (Nat.le_of_ble_eq_true rfl) rfl rfl))))))
set_option maxRecDepth 100000 in
theorem f259_52 : mj_find (mj_P 259).2.2.2.2 52 = [(.ireturn, 1, 0, [0])] := rfl
set_option maxRecDepth 100000 in
theorem q259_52 (E : mj_E) (d w c : Nat) (hi : Nat → Nat → Int32) (hl : Nat → Nat → Int64) (v1 : Int32) (v2 : Int32) (s0 : Int32) : mj_den mj_P E d 259 52 [Value.ref 205, Value.int v1, Value.int v2, Value.float 0, Value.float 0] [Value.int s0] (mj_hw w c hi hl) = some (some (Value.int s0), (mj_hw w c hi hl)) := by
  rw [mj_den_eq, f259_52]
  exact zt_ireturn0
set_option maxRecDepth 100000 in
theorem f259_53 : mj_find (mj_P 259).2.2.2.2 53 = [(.iload_n 1, 1, 0, []), (.istore_n 3, 1, 0, []), (.iconst 0, 1, 0, []), (.istore 4, 2, 0, [])] := rfl
set_option maxRecDepth 100000 in
theorem q259_53 (E : mj_E) (d w c : Nat) (hi : Nat → Nat → Int32) (hl : Nat → Nat → Int64) (v1 : Int32) (v2 : Int32) : mj_den mj_P E d 259 53 [Value.ref 205, Value.int v1, Value.int v2, Value.float 0, Value.float 0] [] (mj_hw w c hi hl) = mj_den mj_P E d 259 58 [Value.ref 205, Value.int v1, Value.int v2, Value.int v1, Value.int (0 : Int32)] [] (mj_hw w c hi hl) := by
  rw [mj_den_eq, f259_53]
  exact zt_iload_n rfl rfl (zt_istore_n (Nat.le_of_ble_eq_true rfl) rfl rfl (zt_iconst rfl (zt_istore (Nat.le_of_ble_eq_true rfl) rfl rfl (zt_end rfl))))
set_option maxRecDepth 100000 in
theorem f259_58 : mj_find (mj_P 259).2.2.2.2 58 = [(.iload 4, 2, 0, []), (.aload_n 0, 1, 0, []), (.getfield 447, 3, 0, [12, 51, 0, 1461]), (.if_icmp .ge 19, 3, 0, [83]), (.iload_n 3, 1, 0, []), (.aload_n 0, 1, 0, []), (.iload_n 1, 1, 0, []), (.iload 4, 2, 0, []), (.invokevirtual 456, 3, 0, [0, 258, 12, 2, 1, 2035, 2037, 121, 156, 2038])] := rfl
set_option maxRecDepth 100000 in
theorem q259_58 (E : mj_E) (d w c : Nat) (hi : Nat → Nat → Int32) (hl : Nat → Nat → Int64) (v1 : Int32) (v2 : Int32) (v3 : Int32) (v4 : Int32) : mj_den mj_P E d 259 58 [Value.ref 205, Value.int v1, Value.int v2, Value.int v3, Value.int v4] [] (mj_hw w c hi hl) = if (hi 205 51) ≤ v4 then mj_den mj_P E d 259 83 [Value.ref 205, Value.int v1, Value.int v2, Value.int v3, Value.int v4] [] (mj_hw w c hi hl) else mj_bi (mj_dc mj_P E d 258 [Value.ref 205, Value.int v1, Value.int v4] (mj_hw w c hi hl)) (fun x1 h1 => mj_den mj_P E d 259 75 [Value.ref 205, Value.int v1, Value.int v2, Value.int v3, Value.int v4] [Value.int x1, Value.int v3] h1) := by
  rw [mj_den_eq, f259_58]
  exact zt_iload rfl rfl (zt_aload_n rfl rfl (zt_geti (mjkd205 _ _ _ _) rfl rfl (zt_icmp_ge rfl rfl (zt_iload_n rfl rfl (zt_aload_n rfl rfl (zt_iload_n rfl rfl (zt_iload rfl rfl (zt_call0_1 rfl (mjkd205 _ _ _ _) (Nat.le_of_ble_eq_true rfl) rfl rfl))))))))
set_option maxRecDepth 100000 in
theorem f259_75 : mj_find (mj_P 259).2.2.2.2 75 = [(.isub, 1, 0, []), (.istore_n 3, 1, 0, []), (.iinc 4 1, 3, 1, []), (.goto (-22), 3, 0, [58])] := rfl
set_option maxRecDepth 100000 in
theorem q259_75 (E : mj_E) (d w c : Nat) (hi : Nat → Nat → Int32) (hl : Nat → Nat → Int64) (v1 : Int32) (v2 : Int32) (v3 : Int32) (v4 : Int32) (s0 : Int32) (s1 : Int32) : mj_den mj_P E d 259 75 [Value.ref 205, Value.int v1, Value.int v2, Value.int v3, Value.int v4] [Value.int s0, Value.int s1] (mj_hw w c hi hl) = mj_den mj_P E d 259 58 [Value.ref 205, Value.int v1, Value.int v2, Value.int (s1 - s0), Value.int (v4 + (1 : Int32))] [] (mj_hw w c hi hl) := by
  rw [mj_den_eq, f259_75]
  exact zt_isub rfl (zt_istore_n (Nat.le_of_ble_eq_true rfl) rfl rfl (zt_iinc rfl (Nat.le_of_ble_eq_true rfl) rfl rfl (zt_goto rfl)))
set_option maxRecDepth 100000 in
theorem f259_83 : mj_find (mj_P 259).2.2.2.2 83 = [(.iload_n 3, 1, 0, []), (.ireturn, 1, 0, [0])] := rfl
set_option maxRecDepth 100000 in
theorem q259_83 (E : mj_E) (d w c : Nat) (hi : Nat → Nat → Int32) (hl : Nat → Nat → Int64) (v1 : Int32) (v2 : Int32) (v3 : Int32) (v4 : Int32) : mj_den mj_P E d 259 83 [Value.ref 205, Value.int v1, Value.int v2, Value.int v3, Value.int v4] [] (mj_hw w c hi hl) = some (some (Value.int v3), (mj_hw w c hi hl)) := by
  rw [mj_den_eq, f259_83]
  exact zt_iload_n rfl rfl (zt_ireturn0)
set_option maxRecDepth 100000 in
theorem f260_0 : mj_find (mj_P 260).2.2.2.2 0 = [(.iload_n 1, 1, 0, []), (.iload_n 2, 1, 0, []), (.idiv, 1, 0, []), (.istore_n 3, 1, 0, []), (.iload_n 1, 1, 0, []), (.iload_n 2, 1, 0, []), (.irem, 1, 0, []), (.istore 4, 2, 0, []), (.iconst 0, 1, 0, []), (.istore 5, 2, 0, [])] := rfl
set_option maxRecDepth 100000 in
theorem q260_0 (E : mj_E) (d w c : Nat) (hi : Nat → Nat → Int32) (hl : Nat → Nat → Int64) (v1 : Int32) (v2 : Int32) : mj_den mj_P E d 260 0 [Value.ref 205, Value.int v1, Value.int v2, Value.float 0, Value.float 0, Value.float 0] [] (mj_hw w c hi hl) = if v2 = 0 then none else if v2 = 0 then none else mj_den mj_P E d 260 12 [Value.ref 205, Value.int v1, Value.int v2, Value.int (v1 / v2), Value.int (mj_rem v1 v2), Value.int (0 : Int32)] [] (mj_hw w c hi hl) := by
  rw [mj_den_eq, f260_0]
  exact zt_iload_n rfl rfl (zt_iload_n rfl rfl (zt_idiv  rfl (zt_istore_n (Nat.le_of_ble_eq_true rfl) rfl rfl (zt_iload_n rfl rfl (zt_iload_n rfl rfl (zt_irem  rfl (zt_istore (Nat.le_of_ble_eq_true rfl) rfl rfl (zt_iconst rfl (zt_istore (Nat.le_of_ble_eq_true rfl) rfl rfl (zt_end rfl))))))))))
set_option maxRecDepth 100000 in
theorem f260_12 : mj_find (mj_P 260).2.2.2.2 12 = [(.iload 5, 2, 0, []), (.bipush 6, 2, 6, []), (.if_icmp .ge 32, 3, 0, [48]), (.iload 4, 2, 0, []), (.bipush 10, 2, 10, []), (.imul, 1, 0, []), (.istore 4, 2, 0, []), (.bipush 10, 2, 10, []), (.iload_n 3, 1, 0, []), (.imul, 1, 0, []), (.iload 4, 2, 0, []), (.iload_n 2, 1, 0, []), (.idiv, 1, 0, []), (.iadd, 1, 0, []), (.istore_n 3, 1, 0, []), (.iload 4, 2, 0, []), (.iload_n 2, 1, 0, []), (.irem, 1, 0, []), (.istore 4, 2, 0, []), (.iinc 5 1, 3, 1, []), (.goto (-33), 3, 0, [12])] := rfl
set_option maxRecDepth 100000 in
theorem q260_12 (E : mj_E) (d w c : Nat) (hi : Nat → Nat → Int32) (hl : Nat → Nat → Int64) (v1 : Int32) (v2 : Int32) (v3 : Int32) (v4 : Int32) (v5 : Int32) : mj_den mj_P E d 260 12 [Value.ref 205, Value.int v1, Value.int v2, Value.int v3, Value.int v4, Value.int v5] [] (mj_hw w c hi hl) = if (6 : Int32) ≤ v5 then mj_den mj_P E d 260 48 [Value.ref 205, Value.int v1, Value.int v2, Value.int v3, Value.int v4, Value.int v5] [] (mj_hw w c hi hl) else if v2 = 0 then none else if v2 = 0 then none else mj_den mj_P E d 260 12 [Value.ref 205, Value.int v1, Value.int v2, Value.int (((10 : Int32) * v3) + ((v4 * (10 : Int32)) / v2)), Value.int (mj_rem (v4 * (10 : Int32)) v2), Value.int (v5 + (1 : Int32))] [] (mj_hw w c hi hl) := by
  rw [mj_den_eq, f260_12]
  exact zt_iload rfl rfl (zt_bipush rfl (zt_icmp_ge rfl rfl (zt_iload rfl rfl (zt_bipush rfl (zt_imul rfl (zt_istore (Nat.le_of_ble_eq_true rfl) rfl rfl (zt_bipush rfl (zt_iload_n rfl rfl (zt_imul rfl (zt_iload rfl rfl (zt_iload_n rfl rfl (zt_idiv  rfl (zt_iadd rfl (zt_istore_n (Nat.le_of_ble_eq_true rfl) rfl rfl (zt_iload rfl rfl (zt_iload_n rfl rfl (zt_irem  rfl (zt_istore (Nat.le_of_ble_eq_true rfl) rfl rfl (zt_iinc rfl (Nat.le_of_ble_eq_true rfl) rfl rfl (zt_goto rfl))))))))))))))))))))
set_option maxRecDepth 100000 in
theorem f260_48 : mj_find (mj_P 260).2.2.2.2 48 = [(.iload_n 3, 1, 0, []), (.ireturn, 1, 0, [0])] := rfl
set_option maxRecDepth 100000 in
theorem q260_48 (E : mj_E) (d w c : Nat) (hi : Nat → Nat → Int32) (hl : Nat → Nat → Int64) (v1 : Int32) (v2 : Int32) (v3 : Int32) (v4 : Int32) (v5 : Int32) : mj_den mj_P E d 260 48 [Value.ref 205, Value.int v1, Value.int v2, Value.int v3, Value.int v4, Value.int v5] [] (mj_hw w c hi hl) = some (some (Value.int v3), (mj_hw w c hi hl)) := by
  rw [mj_den_eq, f260_48]
  exact zt_iload_n rfl rfl (zt_ireturn0)
set_option maxRecDepth 100000 in
theorem f261_0 : mj_find (mj_P 261).2.2.2.2 0 = [(.aload_n 0, 1, 0, []), (.iload_n 1, 1, 0, []), (.iload_n 2, 1, 0, []), (.imul, 1, 0, []), (.iload_n 1, 1, 0, []), (.iload_n 2, 1, 0, []), (.imul, 1, 0, []), (.ldc_w 459, 3, 1000000, [0, 2059]), (.iload_n 1, 1, 0, []), (.isub, 1, 0, []), (.iload_n 3, 1, 0, []), (.imul, 1, 0, []), (.iadd, 1, 0, []), (.invokevirtual 460, 3, 0, [0, 260, 12, 2, 1, 2060, 2062, 126, 156, 2063])] := rfl
set_option maxRecDepth 100000 in
theorem q261_0 (E : mj_E) (d w c : Nat) (hi : Nat → Nat → Int32) (hl : Nat → Nat → Int64) (v1 : Int32) (v2 : Int32) (v3 : Int32) : mj_den mj_P E d 261 0 [Value.ref 205, Value.int v1, Value.int v2, Value.int v3] [] (mj_hw w c hi hl) = mj_bi (mj_dc mj_P E d 260 [Value.ref 205, Value.int (v1 * v2), Value.int ((v1 * v2) + (((1000000 : Int32) - v1) * v3))] (mj_hw w c hi hl)) (fun x1 h1 => mj_den mj_P E d 261 18 [Value.ref 205, Value.int v1, Value.int v2, Value.int v3] [Value.int x1] h1) := by
  rw [mj_den_eq, f261_0]
  exact zt_aload_n rfl rfl (zt_iload_n rfl rfl (zt_iload_n rfl rfl (zt_imul rfl (zt_iload_n rfl rfl (zt_iload_n rfl rfl (zt_imul rfl (zt_ldc_w rfl (zt_iload_n rfl rfl (zt_isub rfl (zt_iload_n rfl rfl (zt_imul rfl (zt_iadd rfl (zt_call0_1 rfl (mjkd205 _ _ _ _) (Nat.le_of_ble_eq_true rfl) rfl rfl)))))))))))))
set_option maxRecDepth 100000 in
theorem f261_18 : mj_find (mj_P 261).2.2.2.2 18 = [(.ireturn, 1, 0, [0])] := rfl
set_option maxRecDepth 100000 in
theorem q261_18 (E : mj_E) (d w c : Nat) (hi : Nat → Nat → Int32) (hl : Nat → Nat → Int64) (v1 : Int32) (v2 : Int32) (v3 : Int32) (s0 : Int32) : mj_den mj_P E d 261 18 [Value.ref 205, Value.int v1, Value.int v2, Value.int v3] [Value.int s0] (mj_hw w c hi hl) = some (some (Value.int s0), (mj_hw w c hi hl)) := by
  rw [mj_den_eq, f261_18]
  exact zt_ireturn0
set_option maxRecDepth 100000 in
theorem f262_0 : mj_find (mj_P 262).2.2.2.2 0 = [(.sipush 1000, 3, 1000, []), (.iload_n 1, 1, 0, []), (.imul, 1, 0, []), (.istore 4, 2, 0, []), (.iconst 0, 1, 0, []), (.istore 5, 2, 0, [])] := rfl
set_option maxRecDepth 100000 in
theorem q262_0 (E : mj_E) (d w c : Nat) (hi : Nat → Nat → Int32) (hl : Nat → Nat → Int64) (v1 : Int32) (v2 : Int32) (v3 : Int32) : mj_den mj_P E d 262 0 [Value.ref 205, Value.int v1, Value.int v2, Value.int v3, Value.float 0, Value.float 0] [] (mj_hw w c hi hl) = mj_den mj_P E d 262 10 [Value.ref 205, Value.int v1, Value.int v2, Value.int v3, Value.int ((1000 : Int32) * v1), Value.int (0 : Int32)] [] (mj_hw w c hi hl) := by
  rw [mj_den_eq, f262_0]
  exact zt_sipush rfl (zt_iload_n rfl rfl (zt_imul rfl (zt_istore (Nat.le_of_ble_eq_true rfl) rfl rfl (zt_iconst rfl (zt_istore (Nat.le_of_ble_eq_true rfl) rfl rfl (zt_end rfl))))))
set_option maxRecDepth 100000 in
theorem f262_10 : mj_find (mj_P 262).2.2.2.2 10 = [(.iload 5, 2, 0, []), (.iload_n 3, 1, 0, []), (.if_icmp .ge 38, 3, 0, [51]), (.iload 5, 2, 0, []), (.iload_n 2, 1, 0, []), (.if_icmp .ge 15, 3, 0, [34]), (.aload_n 0, 1, 0, []), (.iload 4, 2, 0, []), (.bipush 9, 2, 9, []), (.iconst 4, 1, 4, []), (.invokevirtual 463, 3, 0, [0, 261, 12, 3, 1, 2055, 2057, 125, 156, 2058])] := rfl
set_option maxRecDepth 100000 in
theorem q262_10 (E : mj_E) (d w c : Nat) (hi : Nat → Nat → Int32) (hl : Nat → Nat → Int64) (v1 : Int32) (v2 : Int32) (v3 : Int32) (v4 : Int32) (v5 : Int32) : mj_den mj_P E d 262 10 [Value.ref 205, Value.int v1, Value.int v2, Value.int v3, Value.int v4, Value.int v5] [] (mj_hw w c hi hl) = if v3 ≤ v5 then mj_den mj_P E d 262 51 [Value.ref 205, Value.int v1, Value.int v2, Value.int v3, Value.int v4, Value.int v5] [] (mj_hw w c hi hl) else if v2 ≤ v5 then mj_den mj_P E d 262 34 [Value.ref 205, Value.int v1, Value.int v2, Value.int v3, Value.int v4, Value.int v5] [] (mj_hw w c hi hl) else mj_bi (mj_dc mj_P E d 261 [Value.ref 205, Value.int v4, Value.int (9 : Int32), Value.int (4 : Int32)] (mj_hw w c hi hl)) (fun x1 h1 => mj_den mj_P E d 262 31 [Value.ref 205, Value.int v1, Value.int v2, Value.int v3, Value.int v4, Value.int v5] [Value.int x1] h1) := by
  rw [mj_den_eq, f262_10]
  exact zt_iload rfl rfl (zt_iload_n rfl rfl (zt_icmp_ge rfl rfl (zt_iload rfl rfl (zt_iload_n rfl rfl (zt_icmp_ge rfl rfl (zt_aload_n rfl rfl (zt_iload rfl rfl (zt_bipush rfl (zt_iconst rfl (zt_call0_1 rfl (mjkd205 _ _ _ _) (Nat.le_of_ble_eq_true rfl) rfl rfl))))))))))
set_option maxRecDepth 100000 in
theorem f262_31 : mj_find (mj_P 262).2.2.2.2 31 = [(.goto 12, 3, 0, [43])] := rfl
set_option maxRecDepth 100000 in
theorem q262_31 (E : mj_E) (d w c : Nat) (hi : Nat → Nat → Int32) (hl : Nat → Nat → Int64) (v1 : Int32) (v2 : Int32) (v3 : Int32) (v4 : Int32) (v5 : Int32) (s0 : Int32) : mj_den mj_P E d 262 31 [Value.ref 205, Value.int v1, Value.int v2, Value.int v3, Value.int v4, Value.int v5] [Value.int s0] (mj_hw w c hi hl) = mj_den mj_P E d 262 43 [Value.ref 205, Value.int v1, Value.int v2, Value.int v3, Value.int v4, Value.int v5] [Value.int s0] (mj_hw w c hi hl) := by
  rw [mj_den_eq, f262_31]
  exact zt_goto rfl
set_option maxRecDepth 100000 in
theorem f262_34 : mj_find (mj_P 262).2.2.2.2 34 = [(.aload_n 0, 1, 0, []), (.iload 4, 2, 0, []), (.iconst 1, 1, 1, []), (.bipush 6, 2, 6, []), (.invokevirtual 463, 3, 0, [0, 261, 12, 3, 1, 2055, 2057, 125, 156, 2058])] := rfl
set_option maxRecDepth 100000 in
theorem q262_34 (E : mj_E) (d w c : Nat) (hi : Nat → Nat → Int32) (hl : Nat → Nat → Int64) (v1 : Int32) (v2 : Int32) (v3 : Int32) (v4 : Int32) (v5 : Int32) : mj_den mj_P E d 262 34 [Value.ref 205, Value.int v1, Value.int v2, Value.int v3, Value.int v4, Value.int v5] [] (mj_hw w c hi hl) = mj_bi (mj_dc mj_P E d 261 [Value.ref 205, Value.int v4, Value.int (1 : Int32), Value.int (6 : Int32)] (mj_hw w c hi hl)) (fun x1 h1 => mj_den mj_P E d 262 43 [Value.ref 205, Value.int v1, Value.int v2, Value.int v3, Value.int v4, Value.int v5] [Value.int x1] h1) := by
  rw [mj_den_eq, f262_34]
  exact zt_aload_n rfl rfl (zt_iload rfl rfl (zt_iconst rfl (zt_bipush rfl (zt_call0_1 rfl (mjkd205 _ _ _ _) (Nat.le_of_ble_eq_true rfl) rfl rfl))))
set_option maxRecDepth 100000 in
theorem f262_43 : mj_find (mj_P 262).2.2.2.2 43 = [(.istore 4, 2, 0, []), (.iinc 5 1, 3, 1, []), (.goto (-38), 3, 0, [10])] := rfl
set_option maxRecDepth 100000 in
theorem q262_43 (E : mj_E) (d w c : Nat) (hi : Nat → Nat → Int32) (hl : Nat → Nat → Int64) (v1 : Int32) (v2 : Int32) (v3 : Int32) (v4 : Int32) (v5 : Int32) (s0 : Int32) : mj_den mj_P E d 262 43 [Value.ref 205, Value.int v1, Value.int v2, Value.int v3, Value.int v4, Value.int v5] [Value.int s0] (mj_hw w c hi hl) = mj_den mj_P E d 262 10 [Value.ref 205, Value.int v1, Value.int v2, Value.int v3, Value.int s0, Value.int (v5 + (1 : Int32))] [] (mj_hw w c hi hl) := by
  rw [mj_den_eq, f262_43]
  exact zt_istore (Nat.le_of_ble_eq_true rfl) rfl rfl (zt_iinc rfl (Nat.le_of_ble_eq_true rfl) rfl rfl (zt_goto rfl))
set_option maxRecDepth 100000 in
theorem f262_51 : mj_find (mj_P 262).2.2.2.2 51 = [(.iload 4, 2, 0, []), (.ireturn, 1, 0, [0])] := rfl
set_option maxRecDepth 100000 in
theorem q262_51 (E : mj_E) (d w c : Nat) (hi : Nat → Nat → Int32) (hl : Nat → Nat → Int64) (v1 : Int32) (v2 : Int32) (v3 : Int32) (v4 : Int32) (v5 : Int32) : mj_den mj_P E d 262 51 [Value.ref 205, Value.int v1, Value.int v2, Value.int v3, Value.int v4, Value.int v5] [] (mj_hw w c hi hl) = some (some (Value.int v4), (mj_hw w c hi hl)) := by
  rw [mj_den_eq, f262_51]
  exact zt_iload rfl rfl (zt_ireturn0)
set_option maxRecDepth 100000 in
theorem f263_0 : mj_find (mj_P 263).2.2.2.2 0 = [(.aload_n 0, 1, 0, []), (.iconst 0, 1, 0, []), (.putfield 122, 3, 0, [12, 0, 0, 1410]), (.aload_n 0, 1, 0, []), (.iload_n 1, 1, 0, []), (.iconst 0, 1, 0, []), (.sipush 1000, 3, 1000, []), (.invokevirtual 144, 3, 0, [0, 152, 12, 3, 1, 1624, 1626, 42, 156, 1627])] := rfl
set_option maxRecDepth 100000 in
theorem q263_0 (E : mj_E) (d w c : Nat) (hi : Nat → Nat → Int32) (hl : Nat → Nat → Int64) (v1 : Int32) (v2 : Int32) (v3 : Int32) : mj_den mj_P E d 263 0 [Value.ref 205, Value.int v1, Value.int v2, Value.int v3] [] (mj_hw w c hi hl) = mj_bi (mj_dc mj_P E d 152 [Value.ref 205, Value.int v1, Value.int (0 : Int32), Value.int (1000 : Int32)] (mj_hw w c (mj_u hi 205 0 (0 : Int32)) hl)) (fun x1 h1 => mj_den mj_P E d 263 14 [Value.ref 205, Value.int v1, Value.int v2, Value.int v3] [Value.int x1] h1) := by
  rw [mj_den_eq, f263_0]
  exact zt_aload_n rfl rfl (zt_iconst rfl (zt_puti (mjkd205 _ _ _ _) rfl rfl (zt_aload_n rfl rfl (zt_iload_n rfl rfl (zt_iconst rfl (zt_sipush rfl (zt_call0_1 rfl (mjkd205 _ _ _ _) (Nat.le_of_ble_eq_true rfl) rfl rfl)))))))
set_option maxRecDepth 100000 in
theorem f263_14 : mj_find (mj_P 263).2.2.2.2 14 = [(.ifCond .eq 35, 3, 0, [49]), (.aload_n 0, 1, 0, []), (.iload_n 2, 1, 0, []), (.iconst 0, 1, 0, []), (.bipush 20, 2, 20, []), (.invokevirtual 144, 3, 0, [0, 152, 12, 3, 1, 1624, 1626, 42, 156, 1627])] := rfl
set_option maxRecDepth 100000 in
theorem q263_14 (E : mj_E) (d w c : Nat) (hi : Nat → Nat → Int32) (hl : Nat → Nat → Int64) (v1 : Int32) (v2 : Int32) (v3 : Int32) (s0 : Int32) : mj_den mj_P E d 263 14 [Value.ref 205, Value.int v1, Value.int v2, Value.int v3] [Value.int s0] (mj_hw w c hi hl) = if s0 = 0 then mj_den mj_P E d 263 49 [Value.ref 205, Value.int v1, Value.int v2, Value.int v3] [] (mj_hw w c hi hl) else mj_bi (mj_dc mj_P E d 152 [Value.ref 205, Value.int v2, Value.int (0 : Int32), Value.int (20 : Int32)] (mj_hw w c hi hl)) (fun x1 h1 => mj_den mj_P E d 263 25 [Value.ref 205, Value.int v1, Value.int v2, Value.int v3] [Value.int x1] h1) := by
  rw [mj_den_eq, f263_14]
  exact zt_if_eq rfl rfl (zt_aload_n rfl rfl (zt_iload_n rfl rfl (zt_iconst rfl (zt_bipush rfl (zt_call0_1 rfl (mjkd205 _ _ _ _) (Nat.le_of_ble_eq_true rfl) rfl rfl)))))
set_option maxRecDepth 100000 in
theorem f263_25 : mj_find (mj_P 263).2.2.2.2 25 = [(.ifCond .eq 24, 3, 0, [49]), (.aload_n 0, 1, 0, []), (.iload_n 3, 1, 0, []), (.iload_n 2, 1, 0, []), (.bipush 40, 2, 40, []), (.invokevirtual 144, 3, 0, [0, 152, 12, 3, 1, 1624, 1626, 42, 156, 1627])] := rfl
set_option maxRecDepth 100000 in
theorem q263_25 (E : mj_E) (d w c : Nat) (hi : Nat → Nat → Int32) (hl : Nat → Nat → Int64) (v1 : Int32) (v2 : Int32) (v3 : Int32) (s0 : Int32) : mj_den mj_P E d 263 25 [Value.ref 205, Value.int v1, Value.int v2, Value.int v3] [Value.int s0] (mj_hw w c hi hl) = if s0 = 0 then mj_den mj_P E d 263 49 [Value.ref 205, Value.int v1, Value.int v2, Value.int v3] [] (mj_hw w c hi hl) else mj_bi (mj_dc mj_P E d 152 [Value.ref 205, Value.int v3, Value.int v2, Value.int (40 : Int32)] (mj_hw w c hi hl)) (fun x1 h1 => mj_den mj_P E d 263 36 [Value.ref 205, Value.int v1, Value.int v2, Value.int v3] [Value.int x1] h1) := by
  rw [mj_den_eq, f263_25]
  exact zt_if_eq rfl rfl (zt_aload_n rfl rfl (zt_iload_n rfl rfl (zt_iload_n rfl rfl (zt_bipush rfl (zt_call0_1 rfl (mjkd205 _ _ _ _) (Nat.le_of_ble_eq_true rfl) rfl rfl)))))
set_option maxRecDepth 100000 in
theorem f263_36 : mj_find (mj_P 263).2.2.2.2 36 = [(.ifCond .eq 13, 3, 0, [49]), (.aload_n 0, 1, 0, []), (.iload_n 1, 1, 0, []), (.iload_n 2, 1, 0, []), (.iload_n 3, 1, 0, []), (.invokevirtual 466, 3, 0, [0, 262, 12, 3, 1, 2051, 2053, 124, 156, 2054])] := rfl
set_option maxRecDepth 100000 in
theorem q263_36 (E : mj_E) (d w c : Nat) (hi : Nat → Nat → Int32) (hl : Nat → Nat → Int64) (v1 : Int32) (v2 : Int32) (v3 : Int32) (s0 : Int32) : mj_den mj_P E d 263 36 [Value.ref 205, Value.int v1, Value.int v2, Value.int v3] [Value.int s0] (mj_hw w c hi hl) = if s0 = 0 then mj_den mj_P E d 263 49 [Value.ref 205, Value.int v1, Value.int v2, Value.int v3] [] (mj_hw w c hi hl) else mj_bi (mj_dc mj_P E d 262 [Value.ref 205, Value.int v1, Value.int v2, Value.int v3] (mj_hw w c hi hl)) (fun x1 h1 => mj_den mj_P E d 263 46 [Value.ref 205, Value.int v1, Value.int v2, Value.int v3] [Value.int x1] h1) := by
  rw [mj_den_eq, f263_36]
  exact zt_if_eq rfl rfl (zt_aload_n rfl rfl (zt_iload_n rfl rfl (zt_iload_n rfl rfl (zt_iload_n rfl rfl (zt_call0_1 rfl (mjkd205 _ _ _ _) (Nat.le_of_ble_eq_true rfl) rfl rfl)))))
set_option maxRecDepth 100000 in
theorem f263_46 : mj_find (mj_P 263).2.2.2.2 46 = [(.goto 4, 3, 0, [50])] := rfl
set_option maxRecDepth 100000 in
theorem q263_46 (E : mj_E) (d w c : Nat) (hi : Nat → Nat → Int32) (hl : Nat → Nat → Int64) (v1 : Int32) (v2 : Int32) (v3 : Int32) (s0 : Int32) : mj_den mj_P E d 263 46 [Value.ref 205, Value.int v1, Value.int v2, Value.int v3] [Value.int s0] (mj_hw w c hi hl) = mj_den mj_P E d 263 50 [Value.ref 205, Value.int v1, Value.int v2, Value.int v3] [Value.int s0] (mj_hw w c hi hl) := by
  rw [mj_den_eq, f263_46]
  exact zt_goto rfl
set_option maxRecDepth 100000 in
theorem f263_49 : mj_find (mj_P 263).2.2.2.2 49 = [(.iconst (-1), 1, (-1), [])] := rfl
set_option maxRecDepth 100000 in
theorem q263_49 (E : mj_E) (d w c : Nat) (hi : Nat → Nat → Int32) (hl : Nat → Nat → Int64) (v1 : Int32) (v2 : Int32) (v3 : Int32) : mj_den mj_P E d 263 49 [Value.ref 205, Value.int v1, Value.int v2, Value.int v3] [] (mj_hw w c hi hl) = mj_den mj_P E d 263 50 [Value.ref 205, Value.int v1, Value.int v2, Value.int v3] [Value.int (-1 : Int32)] (mj_hw w c hi hl) := by
  rw [mj_den_eq, f263_49]
  exact zt_iconst rfl (zt_end rfl)
set_option maxRecDepth 100000 in
theorem f263_50 : mj_find (mj_P 263).2.2.2.2 50 = [(.ireturn, 1, 0, [0])] := rfl
set_option maxRecDepth 100000 in
theorem q263_50 (E : mj_E) (d w c : Nat) (hi : Nat → Nat → Int32) (hl : Nat → Nat → Int64) (v1 : Int32) (v2 : Int32) (v3 : Int32) (s0 : Int32) : mj_den mj_P E d 263 50 [Value.ref 205, Value.int v1, Value.int v2, Value.int v3] [Value.int s0] (mj_hw w c hi hl) = some (some (Value.int s0), (mj_hw w c hi hl)) := by
  rw [mj_den_eq, f263_50]
  exact zt_ireturn0
set_option maxRecDepth 100000 in
theorem f264_0 : mj_find (mj_P 264).2.2.2.2 0 = [(.aload_n 0, 1, 0, []), (.iconst 0, 1, 0, []), (.putfield 122, 3, 0, [12, 0, 0, 1410]), (.aload_n 0, 1, 0, []), (.iload_n 1, 1, 0, []), (.iconst 1, 1, 1, []), (.ldc_w 469, 3, 999999, [0, 2068]), (.invokevirtual 144, 3, 0, [0, 152, 12, 3, 1, 1624, 1626, 42, 156, 1627])] := rfl
set_option maxRecDepth 100000 in
theorem q264_0 (E : mj_E) (d w c : Nat) (hi : Nat → Nat → Int32) (hl : Nat → Nat → Int64) (v1 : Int32) : mj_den mj_P E d 264 0 [Value.ref 205, Value.int v1, Value.float 0] [] (mj_hw w c hi hl) = mj_bi (mj_dc mj_P E d 152 [Value.ref 205, Value.int v1, Value.int (1 : Int32), Value.int (999999 : Int32)] (mj_hw w c (mj_u hi 205 0 (0 : Int32)) hl)) (fun x1 h1 => mj_den mj_P E d 264 14 [Value.ref 205, Value.int v1, Value.float 0] [Value.int x1] h1) := by
  rw [mj_den_eq, f264_0]
  exact zt_aload_n rfl rfl (zt_iconst rfl (zt_puti (mjkd205 _ _ _ _) rfl rfl (zt_aload_n rfl rfl (zt_iload_n rfl rfl (zt_iconst rfl (zt_ldc_w rfl (zt_call0_1 rfl (mjkd205 _ _ _ _) (Nat.le_of_ble_eq_true rfl) rfl rfl)))))))
set_option maxRecDepth 100000 in
theorem f264_14 : mj_find (mj_P 264).2.2.2.2 14 = [(.ifCond .ne 5, 3, 0, [19]), (.iconst (-1), 1, (-1), []), (.ireturn, 1, 0, [0])] := rfl
set_option maxRecDepth 100000 in
theorem q264_14 (E : mj_E) (d w c : Nat) (hi : Nat → Nat → Int32) (hl : Nat → Nat → Int64) (v1 : Int32) (s0 : Int32) : mj_den mj_P E d 264 14 [Value.ref 205, Value.int v1, Value.float 0] [Value.int s0] (mj_hw w c hi hl) = if ¬ s0 = 0 then mj_den mj_P E d 264 19 [Value.ref 205, Value.int v1, Value.float 0] [] (mj_hw w c hi hl) else some (some (Value.int (-1 : Int32)), (mj_hw w c hi hl)) := by
  rw [mj_den_eq, f264_14]
  exact zt_if_ne rfl rfl (zt_iconst rfl (zt_ireturn0))
set_option maxRecDepth 100000 in
theorem f264_19 : mj_find (mj_P 264).2.2.2.2 19 = [(.iconst 1, 1, 1, []), (.istore_n 2, 1, 0, [])] := rfl
set_option maxRecDepth 100000 in
theorem q264_19 (E : mj_E) (d w c : Nat) (hi : Nat → Nat → Int32) (hl : Nat → Nat → Int64) (v1 : Int32) : mj_den mj_P E d 264 19 [Value.ref 205, Value.int v1, Value.float 0] [] (mj_hw w c hi hl) = mj_den mj_P E d 264 21 [Value.ref 205, Value.int v1, Value.int (1 : Int32)] [] (mj_hw w c hi hl) := by
  rw [mj_den_eq, f264_19]
  exact zt_iconst rfl (zt_istore_n (Nat.le_of_ble_eq_true rfl) rfl rfl (zt_end rfl))
set_option maxRecDepth 100000 in
theorem f264_21 : mj_find (mj_P 264).2.2.2.2 21 = [(.iload_n 2, 1, 0, []), (.bipush 40, 2, 40, []), (.if_icmp .gt 24, 3, 0, [48]), (.aload_n 0, 1, 0, []), (.sipush 500, 3, 500, []), (.iconst 0, 1, 0, []), (.iload_n 2, 1, 0, []), (.invokevirtual 466, 3, 0, [0, 262, 12, 3, 1, 2051, 2053, 124, 156, 2054])] := rfl
set_option maxRecDepth 100000 in
theorem q264_21 (E : mj_E) (d w c : Nat) (hi : Nat → Nat → Int32) (hl : Nat → Nat → Int64) (v1 : Int32) (v2 : Int32) : mj_den mj_P E d 264 21 [Value.ref 205, Value.int v1, Value.int v2] [] (mj_hw w c hi hl) = if (40 : Int32) < v2 then mj_den mj_P E d 264 48 [Value.ref 205, Value.int v1, Value.int v2] [] (mj_hw w c hi hl) else mj_bi (mj_dc mj_P E d 262 [Value.ref 205, Value.int (500 : Int32), Value.int (0 : Int32), Value.int v2] (mj_hw w c hi hl)) (fun x1 h1 => mj_den mj_P E d 264 36 [Value.ref 205, Value.int v1, Value.int v2] [Value.int x1] h1) := by
  rw [mj_den_eq, f264_21]
  exact zt_iload_n rfl rfl (zt_bipush rfl (zt_icmp_gt rfl rfl (zt_aload_n rfl rfl (zt_sipush rfl (zt_iconst rfl (zt_iload_n rfl rfl (zt_call0_1 rfl (mjkd205 _ _ _ _) (Nat.le_of_ble_eq_true rfl) rfl rfl)))))))
set_option maxRecDepth 100000 in
theorem f264_36 : mj_find (mj_P 264).2.2.2.2 36 = [(.iload_n 1, 1, 0, []), (.if_icmp .ge 5, 3, 0, [42]), (.iload_n 2, 1, 0, []), (.ireturn, 1, 0, [0])] := rfl
set_option maxRecDepth 100000 in
theorem q264_36 (E : mj_E) (d w c : Nat) (hi : Nat → Nat → Int32) (hl : Nat → Nat → Int64) (v1 : Int32) (v2 : Int32) (s0 : Int32) : mj_den mj_P E d 264 36 [Value.ref 205, Value.int v1, Value.int v2] [Value.int s0] (mj_hw w c hi hl) = if v1 ≤ s0 then mj_den mj_P E d 264 42 [Value.ref 205, Value.int v1, Value.int v2] [] (mj_hw w c hi hl) else some (some (Value.int v2), (mj_hw w c hi hl)) := by
  rw [mj_den_eq, f264_36]
  exact zt_iload_n rfl rfl (zt_icmp_ge rfl rfl (zt_iload_n rfl rfl (zt_ireturn0)))
set_option maxRecDepth 100000 in
theorem f264_42 : mj_find (mj_P 264).2.2.2.2 42 = [(.iinc 2 1, 3, 1, []), (.goto (-24), 3, 0, [21])] := rfl
set_option maxRecDepth 100000 in
theorem q264_42 (E : mj_E) (d w c : Nat) (hi : Nat → Nat → Int32) (hl : Nat → Nat → Int64) (v1 : Int32) (v2 : Int32) : mj_den mj_P E d 264 42 [Value.ref 205, Value.int v1, Value.int v2] [] (mj_hw w c hi hl) = mj_den mj_P E d 264 21 [Value.ref 205, Value.int v1, Value.int (v2 + (1 : Int32))] [] (mj_hw w c hi hl) := by
  rw [mj_den_eq, f264_42]
  exact zt_iinc rfl (Nat.le_of_ble_eq_true rfl) rfl rfl (zt_goto rfl)
set_option maxRecDepth 100000 in
theorem f264_48 : mj_find (mj_P 264).2.2.2.2 48 = [(.iconst (-1), 1, (-1), []), (.ireturn, 1, 0, [0])] := rfl
set_option maxRecDepth 100000 in
theorem q264_48 (E : mj_E) (d w c : Nat) (hi : Nat → Nat → Int32) (hl : Nat → Nat → Int64) (v1 : Int32) (v2 : Int32) : mj_den mj_P E d 264 48 [Value.ref 205, Value.int v1, Value.int v2] [] (mj_hw w c hi hl) = some (some (Value.int (-1 : Int32)), (mj_hw w c hi hl)) := by
  rw [mj_den_eq, f264_48]
  exact zt_iconst rfl (zt_ireturn0)
set_option maxRecDepth 100000 in
theorem f265_0 : mj_find (mj_P 265).2.2.2.2 0 = [(.aload_n 0, 1, 0, []), (.iconst 0, 1, 0, []), (.putfield 122, 3, 0, [12, 0, 0, 1410]), (.aload_n 0, 1, 0, []), (.iload_n 1, 1, 0, []), (.iconst 0, 1, 0, []), (.bipush 7, 2, 7, []), (.invokevirtual 144, 3, 0, [0, 152, 12, 3, 1, 1624, 1626, 42, 156, 1627])] := rfl
set_option maxRecDepth 100000 in
theorem q265_0 (E : mj_E) (d w c : Nat) (hi : Nat → Nat → Int32) (hl : Nat → Nat → Int64) (v1 : Int32) (v2 : Int32) : mj_den mj_P E d 265 0 [Value.ref 205, Value.int v1, Value.int v2] [] (mj_hw w c hi hl) = mj_bi (mj_dc mj_P E d 152 [Value.ref 205, Value.int v1, Value.int (0 : Int32), Value.int (7 : Int32)] (mj_hw w c (mj_u hi 205 0 (0 : Int32)) hl)) (fun x1 h1 => mj_den mj_P E d 265 13 [Value.ref 205, Value.int v1, Value.int v2] [Value.int x1] h1) := by
  rw [mj_den_eq, f265_0]
  exact zt_aload_n rfl rfl (zt_iconst rfl (zt_puti (mjkd205 _ _ _ _) rfl rfl (zt_aload_n rfl rfl (zt_iload_n rfl rfl (zt_iconst rfl (zt_bipush rfl (zt_call0_1 rfl (mjkd205 _ _ _ _) (Nat.le_of_ble_eq_true rfl) rfl rfl)))))))
set_option maxRecDepth 100000 in
theorem f265_13 : mj_find (mj_P 265).2.2.2.2 13 = [(.ifCond .eq 15, 3, 0, [28]), (.aload_n 0, 1, 0, []), (.iload_n 2, 1, 0, []), (.iconst 0, 1, 0, []), (.sipush 1023, 3, 1023, []), (.invokevirtual 144, 3, 0, [0, 152, 12, 3, 1, 1624, 1626, 42, 156, 1627])] := rfl
set_option maxRecDepth 100000 in
theorem q265_13 (E : mj_E) (d w c : Nat) (hi : Nat → Nat → Int32) (hl : Nat → Nat → Int64) (v1 : Int32) (v2 : Int32) (s0 : Int32) : mj_den mj_P E d 265 13 [Value.ref 205, Value.int v1, Value.int v2] [Value.int s0] (mj_hw w c hi hl) = if s0 = 0 then mj_den mj_P E d 265 28 [Value.ref 205, Value.int v1, Value.int v2] [] (mj_hw w c hi hl) else mj_bi (mj_dc mj_P E d 152 [Value.ref 205, Value.int v2, Value.int (0 : Int32), Value.int (1023 : Int32)] (mj_hw w c hi hl)) (fun x1 h1 => mj_den mj_P E d 265 25 [Value.ref 205, Value.int v1, Value.int v2] [Value.int x1] h1) := by
  rw [mj_den_eq, f265_13]
  exact zt_if_eq rfl rfl (zt_aload_n rfl rfl (zt_iload_n rfl rfl (zt_iconst rfl (zt_sipush rfl (zt_call0_1 rfl (mjkd205 _ _ _ _) (Nat.le_of_ble_eq_true rfl) rfl rfl)))))
set_option maxRecDepth 100000 in
theorem f265_25 : mj_find (mj_P 265).2.2.2.2 25 = [(.ifCond .ne 5, 3, 0, [30])] := rfl
set_option maxRecDepth 100000 in
theorem q265_25 (E : mj_E) (d w c : Nat) (hi : Nat → Nat → Int32) (hl : Nat → Nat → Int64) (v1 : Int32) (v2 : Int32) (s0 : Int32) : mj_den mj_P E d 265 25 [Value.ref 205, Value.int v1, Value.int v2] [Value.int s0] (mj_hw w c hi hl) = if ¬ s0 = 0 then mj_den mj_P E d 265 30 [Value.ref 205, Value.int v1, Value.int v2] [] (mj_hw w c hi hl) else mj_den mj_P E d 265 28 [Value.ref 205, Value.int v1, Value.int v2] [] (mj_hw w c hi hl) := by
  rw [mj_den_eq, f265_25]
  exact zt_if_ne rfl rfl (zt_end rfl)
set_option maxRecDepth 100000 in
theorem f265_28 : mj_find (mj_P 265).2.2.2.2 28 = [(.iconst 0, 1, 0, []), (.ireturn, 1, 0, [1])] := rfl
set_option maxRecDepth 100000 in
theorem q265_28 (E : mj_E) (d w c : Nat) (hi : Nat → Nat → Int32) (hl : Nat → Nat → Int64) (v1 : Int32) (v2 : Int32) : mj_den mj_P E d 265 28 [Value.ref 205, Value.int v1, Value.int v2] [] (mj_hw w c hi hl) = if (0 : Int32) = 0 ∨ (0 : Int32) = 1 then some (some (Value.int (0 : Int32)), (mj_hw w c hi hl)) else none := by
  rw [mj_den_eq, f265_28]
  exact zt_iconst rfl (zt_ireturn1)
set_option maxRecDepth 100000 in
theorem f265_30 : mj_find (mj_P 265).2.2.2.2 30 = [(.aload_n 0, 1, 0, []), (.getfield 95, 3, 0, [12, 53, 3, 1463]), (.iload_n 1, 1, 0, []), (.iload_n 2, 1, 0, []), (.iastore, 1, 0, []), (.iconst 1, 1, 1, []), (.ireturn, 1, 0, [1])] := rfl
set_option maxRecDepth 100000 in
theorem q265_30 (E : mj_E) (d w c : Nat) (hi : Nat → Nat → Int32) (hl : Nat → Nat → Int64) (v1 : Int32) (v2 : Int32) : mj_den mj_P E d 265 30 [Value.ref 205, Value.int v1, Value.int v2] [] (mj_hw w c hi hl) = if 0 ≤ v1 ∧ (v1).toNatClampNeg < 8 then if (1 : Int32) = 0 ∨ (1 : Int32) = 1 then some (some (Value.int (1 : Int32)), (mj_hw w c (mj_u hi 233 ((v1).toNatClampNeg) v2) hl)) else none else none := by
  rw [mj_den_eq, f265_30]
  exact zt_aload_n rfl rfl (zt_getr (mjkd205 _ _ _ _) (mjhr205_53 w c) rfl (zt_iload_n rfl rfl (zt_iload_n rfl rfl (zt_iast (mjkd233 _ _ _ _) (mjln233 _ _ _ _) rfl rfl (zt_iconst rfl (zt_ireturn1))))))
set_option maxRecDepth 100000 in
theorem f266_0 : mj_find (mj_P 266).2.2.2.2 0 = [(.iconst 0, 1, 0, []), (.istore_n 2, 1, 0, []), (.iconst 0, 1, 0, []), (.istore_n 3, 1, 0, [])] := rfl
set_option maxRecDepth 100000 in
theorem q266_0 (E : mj_E) (d w c : Nat) (hi : Nat → Nat → Int32) (hl : Nat → Nat → Int64) (v1 : Int32) : mj_den mj_P E d 266 0 [Value.ref 205, Value.int v1, Value.float 0, Value.float 0] [] (mj_hw w c hi hl) = mj_den mj_P E d 266 4 [Value.ref 205, Value.int v1, Value.int (0 : Int32), Value.int (0 : Int32)] [] (mj_hw w c hi hl) := by
  rw [mj_den_eq, f266_0]
  exact zt_iconst rfl (zt_istore_n (Nat.le_of_ble_eq_true rfl) rfl rfl (zt_iconst rfl (zt_istore_n (Nat.le_of_ble_eq_true rfl) rfl rfl (zt_end rfl))))
set_option maxRecDepth 100000 in
theorem f266_4 : mj_find (mj_P 266).2.2.2.2 4 = [(.iload_n 3, 1, 0, []), (.bipush 8, 2, 8, []), (.if_icmp .ge 27, 3, 0, [34]), (.aload_n 0, 1, 0, []), (.iload_n 1, 1, 0, []), (.iload_n 3, 1, 0, []), (.invokevirtual 327, 3, 0, [0, 157, 12, 2, 1, 1832, 1834, 87, 156, 1835])] := rfl
set_option maxRecDepth 100000 in
theorem q266_4 (E : mj_E) (d w c : Nat) (hi : Nat → Nat → Int32) (hl : Nat → Nat → Int64) (v1 : Int32) (v2 : Int32) (v3 : Int32) : mj_den mj_P E d 266 4 [Value.ref 205, Value.int v1, Value.int v2, Value.int v3] [] (mj_hw w c hi hl) = if (8 : Int32) ≤ v3 then mj_den mj_P E d 266 34 [Value.ref 205, Value.int v1, Value.int v2, Value.int v3] [] (mj_hw w c hi hl) else mj_bi (mj_dc mj_P E d 157 [Value.ref 205, Value.int v1, Value.int v3] (mj_hw w c hi hl)) (fun x1 h1 => mj_den mj_P E d 266 16 [Value.ref 205, Value.int v1, Value.int v2, Value.int v3] [Value.int x1] h1) := by
  rw [mj_den_eq, f266_4]
  exact zt_iload_n rfl rfl (zt_bipush rfl (zt_icmp_ge rfl rfl (zt_aload_n rfl rfl (zt_iload_n rfl rfl (zt_iload_n rfl rfl (zt_call0_1 rfl (mjkd205 _ _ _ _) (Nat.le_of_ble_eq_true rfl) rfl rfl))))))
set_option maxRecDepth 100000 in
theorem f266_16 : mj_find (mj_P 266).2.2.2.2 16 = [(.ifCond .eq 12, 3, 0, [28]), (.iload_n 2, 1, 0, []), (.aload_n 0, 1, 0, []), (.getfield 95, 3, 0, [12, 53, 3, 1463]), (.iload_n 3, 1, 0, []), (.iaload, 1, 0, []), (.ior, 1, 0, []), (.istore_n 2, 1, 0, [])] := rfl
set_option maxRecDepth 100000 in
theorem q266_16 (E : mj_E) (d w c : Nat) (hi : Nat → Nat → Int32) (hl : Nat → Nat → Int64) (v1 : Int32) (v2 : Int32) (v3 : Int32) (s0 : Int32) : mj_den mj_P E d 266 16 [Value.ref 205, Value.int v1, Value.int v2, Value.int v3] [Value.int s0] (mj_hw w c hi hl) = if s0 = 0 then mj_den mj_P E d 266 28 [Value.ref 205, Value.int v1, Value.int v2, Value.int v3] [] (mj_hw w c hi hl) else if 0 ≤ v3 ∧ (v3).toNatClampNeg < 8 then mj_den mj_P E d 266 28 [Value.ref 205, Value.int v1, Value.int (v2 ||| (hi 233 ((v3).toNatClampNeg))), Value.int v3] [] (mj_hw w c hi hl) else none := by
  rw [mj_den_eq, f266_16]
  exact zt_if_eq rfl rfl (zt_iload_n rfl rfl (zt_aload_n rfl rfl (zt_getr (mjkd205 _ _ _ _) (mjhr205_53 w c) rfl (zt_iload_n rfl rfl (zt_iald (mjkd233 _ _ _ _) (mjln233 _ _ _ _) rfl rfl (zt_ior rfl (zt_istore_n (Nat.le_of_ble_eq_true rfl) rfl rfl (zt_end rfl))))))))
set_option maxRecDepth 100000 in
theorem f266_28 : mj_find (mj_P 266).2.2.2.2 28 = [(.iinc 3 1, 3, 1, []), (.goto (-27), 3, 0, [4])] := rfl
set_option maxRecDepth 100000 in
theorem q266_28 (E : mj_E) (d w c : Nat) (hi : Nat → Nat → Int32) (hl : Nat → Nat → Int64) (v1 : Int32) (v2 : Int32) (v3 : Int32) : mj_den mj_P E d 266 28 [Value.ref 205, Value.int v1, Value.int v2, Value.int v3] [] (mj_hw w c hi hl) = mj_den mj_P E d 266 4 [Value.ref 205, Value.int v1, Value.int v2, Value.int (v3 + (1 : Int32))] [] (mj_hw w c hi hl) := by
  rw [mj_den_eq, f266_28]
  exact zt_iinc rfl (Nat.le_of_ble_eq_true rfl) rfl rfl (zt_goto rfl)
set_option maxRecDepth 100000 in
theorem f266_34 : mj_find (mj_P 266).2.2.2.2 34 = [(.iload_n 2, 1, 0, []), (.ireturn, 1, 0, [0])] := rfl
set_option maxRecDepth 100000 in
theorem q266_34 (E : mj_E) (d w c : Nat) (hi : Nat → Nat → Int32) (hl : Nat → Nat → Int64) (v1 : Int32) (v2 : Int32) (v3 : Int32) : mj_den mj_P E d 266 34 [Value.ref 205, Value.int v1, Value.int v2, Value.int v3] [] (mj_hw w c hi hl) = some (some (Value.int v2), (mj_hw w c hi hl)) := by
  rw [mj_den_eq, f266_34]
  exact zt_iload_n rfl rfl (zt_ireturn0)
set_option maxRecDepth 100000 in
theorem f267_0 : mj_find (mj_P 267).2.2.2.2 0 = [(.aload_n 0, 1, 0, []), (.iconst 0, 1, 0, []), (.putfield 122, 3, 0, [12, 0, 0, 1410]), (.aload_n 0, 1, 0, []), (.iload_n 1, 1, 0, []), (.iconst 0, 1, 0, []), (.iconst 1, 1, 1, []), (.invokevirtual 144, 3, 0, [0, 152, 12, 3, 1, 1624, 1626, 42, 156, 1627])] := rfl
set_option maxRecDepth 100000 in
theorem q267_0 (E : mj_E) (d w c : Nat) (hi : Nat → Nat → Int32) (hl : Nat → Nat → Int64) (v1 : Int32) : mj_den mj_P E d 267 0 [Value.ref 205, Value.int v1, Value.float 0, Value.float 0] [] (mj_hw w c hi hl) = mj_bi (mj_dc mj_P E d 152 [Value.ref 205, Value.int v1, Value.int (0 : Int32), Value.int (1 : Int32)] (mj_hw w c (mj_u hi 205 0 (0 : Int32)) hl)) (fun x1 h1 => mj_den mj_P E d 267 12 [Value.ref 205, Value.int v1, Value.float 0, Value.float 0] [Value.int x1] h1) := by
  rw [mj_den_eq, f267_0]
  exact zt_aload_n rfl rfl (zt_iconst rfl (zt_puti (mjkd205 _ _ _ _) rfl rfl (zt_aload_n rfl rfl (zt_iload_n rfl rfl (zt_iconst rfl (zt_iconst rfl (zt_call0_1 rfl (mjkd205 _ _ _ _) (Nat.le_of_ble_eq_true rfl) rfl rfl)))))))
set_option maxRecDepth 100000 in
theorem f267_12 : mj_find (mj_P 267).2.2.2.2 12 = [(.ifCond .ne 5, 3, 0, [17]), (.iconst (-1), 1, (-1), []), (.ireturn, 1, 0, [0])] := rfl
set_option maxRecDepth 100000 in
theorem q267_12 (E : mj_E) (d w c : Nat) (hi : Nat → Nat → Int32) (hl : Nat → Nat → Int64) (v1 : Int32) (s0 : Int32) : mj_den mj_P E d 267 12 [Value.ref 205, Value.int v1, Value.float 0, Value.float 0] [Value.int s0] (mj_hw w c hi hl) = if ¬ s0 = 0 then mj_den mj_P E d 267 17 [Value.ref 205, Value.int v1, Value.float 0, Value.float 0] [] (mj_hw w c hi hl) else some (some (Value.int (-1 : Int32)), (mj_hw w c hi hl)) := by
  rw [mj_den_eq, f267_12]
  exact zt_if_ne rfl rfl (zt_iconst rfl (zt_ireturn0))
set_option maxRecDepth 100000 in
theorem f267_17 : mj_find (mj_P 267).2.2.2.2 17 = [(.iconst (-1), 1, (-1), []), (.istore_n 2, 1, 0, []), (.iconst 0, 1, 0, []), (.istore_n 3, 1, 0, [])] := rfl
set_option maxRecDepth 100000 in
theorem q267_17 (E : mj_E) (d w c : Nat) (hi : Nat → Nat → Int32) (hl : Nat → Nat → Int64) (v1 : Int32) : mj_den mj_P E d 267 17 [Value.ref 205, Value.int v1, Value.float 0, Value.float 0] [] (mj_hw w c hi hl) = mj_den mj_P E d 267 21 [Value.ref 205, Value.int v1, Value.int (-1 : Int32), Value.int (0 : Int32)] [] (mj_hw w c hi hl) := by
  rw [mj_den_eq, f267_17]
  exact zt_iconst rfl (zt_istore_n (Nat.le_of_ble_eq_true rfl) rfl rfl (zt_iconst rfl (zt_istore_n (Nat.le_of_ble_eq_true rfl) rfl rfl (zt_end rfl))))
set_option maxRecDepth 100000 in
theorem f267_21 : mj_find (mj_P 267).2.2.2.2 21 = [(.iload_n 3, 1, 0, []), (.sipush 256, 3, 256, []), (.if_icmp .ge 44, 3, 0, [69]), (.iload_n 2, 1, 0, []), (.iconst (-1), 1, (-1), []), (.if_icmp .eq 16, 3, 0, [46]), (.aload_n 0, 1, 0, []), (.iload_n 3, 1, 0, []), (.invokevirtual 336, 3, 0, [0, 156, 12, 1, 1, 1820, 1822, 84, 156, 1823])] := rfl
set_option maxRecDepth 100000 in
theorem q267_21 (E : mj_E) (d w c : Nat) (hi : Nat → Nat → Int32) (hl : Nat → Nat → Int64) (v1 : Int32) (v2 : Int32) (v3 : Int32) : mj_den mj_P E d 267 21 [Value.ref 205, Value.int v1, Value.int v2, Value.int v3] [] (mj_hw w c hi hl) = if (256 : Int32) ≤ v3 then mj_den mj_P E d 267 69 [Value.ref 205, Value.int v1, Value.int v2, Value.int v3] [] (mj_hw w c hi hl) else if v2 = (-1 : Int32) then mj_den mj_P E d 267 46 [Value.ref 205, Value.int v1, Value.int v2, Value.int v3] [] (mj_hw w c hi hl) else mj_bi (mj_dc mj_P E d 156 [Value.ref 205, Value.int v3] (mj_hw w c hi hl)) (fun x1 h1 => mj_den mj_P E d 267 38 [Value.ref 205, Value.int v1, Value.int v2, Value.int v3] [Value.int x1] h1) := by
  rw [mj_den_eq, f267_21]
  exact zt_iload_n rfl rfl (zt_sipush rfl (zt_icmp_ge rfl rfl (zt_iload_n rfl rfl (zt_iconst rfl (zt_icmp_eq rfl rfl (zt_aload_n rfl rfl (zt_iload_n rfl rfl (zt_call0_1 rfl (mjkd205 _ _ _ _) (Nat.le_of_ble_eq_true rfl) rfl rfl))))))))
set_option maxRecDepth 100000 in
theorem f267_38 : mj_find (mj_P 267).2.2.2.2 38 = [(.aload_n 0, 1, 0, []), (.iload_n 2, 1, 0, []), (.invokevirtual 336, 3, 0, [0, 156, 12, 1, 1, 1820, 1822, 84, 156, 1823])] := rfl
set_option maxRecDepth 100000 in
theorem q267_38 (E : mj_E) (d w c : Nat) (hi : Nat → Nat → Int32) (hl : Nat → Nat → Int64) (v1 : Int32) (v2 : Int32) (v3 : Int32) (s0 : Int32) : mj_den mj_P E d 267 38 [Value.ref 205, Value.int v1, Value.int v2, Value.int v3] [Value.int s0] (mj_hw w c hi hl) = mj_bi (mj_dc mj_P E d 156 [Value.ref 205, Value.int v2] (mj_hw w c hi hl)) (fun x1 h1 => mj_den mj_P E d 267 43 [Value.ref 205, Value.int v1, Value.int v2, Value.int v3] [Value.int x1, Value.int s0] h1) := by
  rw [mj_den_eq, f267_38]
  exact zt_aload_n rfl rfl (zt_iload_n rfl rfl (zt_call0_1 rfl (mjkd205 _ _ _ _) (Nat.le_of_ble_eq_true rfl) rfl rfl))
set_option maxRecDepth 100000 in
theorem f267_43 : mj_find (mj_P 267).2.2.2.2 43 = [(.if_icmp .ge 20, 3, 0, [63])] := rfl
set_option maxRecDepth 100000 in
theorem q267_43 (E : mj_E) (d w c : Nat) (hi : Nat → Nat → Int32) (hl : Nat → Nat → Int64) (v1 : Int32) (v2 : Int32) (v3 : Int32) (s0 : Int32) (s1 : Int32) : mj_den mj_P E d 267 43 [Value.ref 205, Value.int v1, Value.int v2, Value.int v3] [Value.int s0, Value.int s1] (mj_hw w c hi hl) = if s0 ≤ s1 then mj_den mj_P E d 267 63 [Value.ref 205, Value.int v1, Value.int v2, Value.int v3] [] (mj_hw w c hi hl) else mj_den mj_P E d 267 46 [Value.ref 205, Value.int v1, Value.int v2, Value.int v3] [] (mj_hw w c hi hl) := by
  rw [mj_den_eq, f267_43]
  exact zt_icmp_ge rfl rfl (zt_end rfl)
set_option maxRecDepth 100000 in
theorem f267_46 : mj_find (mj_P 267).2.2.2.2 46 = [(.aload_n 0, 1, 0, []), (.invokevirtual 407, 3, 0, [0, 168, 12, 0, 1, 1962, 1964, 109, 156, 1965])] := rfl
set_option maxRecDepth 100000 in
theorem q267_46 (E : mj_E) (d w c : Nat) (hi : Nat → Nat → Int32) (hl : Nat → Nat → Int64) (v1 : Int32) (v2 : Int32) (v3 : Int32) : mj_den mj_P E d 267 46 [Value.ref 205, Value.int v1, Value.int v2, Value.int v3] [] (mj_hw w c hi hl) = mj_bi (mj_dc mj_P E d 168 [Value.ref 205] (mj_hw w c hi hl)) (fun x1 h1 => mj_den mj_P E d 267 50 [Value.ref 205, Value.int v1, Value.int v2, Value.int v3] [Value.int x1] h1) := by
  rw [mj_den_eq, f267_46]
  exact zt_aload_n rfl rfl (zt_call0_1 rfl (mjkd205 _ _ _ _) (Nat.le_of_ble_eq_true rfl) rfl rfl)
set_option maxRecDepth 100000 in
theorem f267_50 : mj_find (mj_P 267).2.2.2.2 50 = [(.aload_n 0, 1, 0, []), (.iload_n 3, 1, 0, []), (.invokevirtual 470, 3, 0, [0, 266, 12, 1, 1, 2077, 2079, 127, 156, 2080])] := rfl
set_option maxRecDepth 100000 in
theorem q267_50 (E : mj_E) (d w c : Nat) (hi : Nat → Nat → Int32) (hl : Nat → Nat → Int64) (v1 : Int32) (v2 : Int32) (v3 : Int32) (s0 : Int32) : mj_den mj_P E d 267 50 [Value.ref 205, Value.int v1, Value.int v2, Value.int v3] [Value.int s0] (mj_hw w c hi hl) = mj_bi (mj_dc mj_P E d 266 [Value.ref 205, Value.int v3] (mj_hw w c hi hl)) (fun x1 h1 => mj_den mj_P E d 267 55 [Value.ref 205, Value.int v1, Value.int v2, Value.int v3] [Value.int x1, Value.int s0] h1) := by
  rw [mj_den_eq, f267_50]
  exact zt_aload_n rfl rfl (zt_iload_n rfl rfl (zt_call0_1 rfl (mjkd205 _ _ _ _) (Nat.le_of_ble_eq_true rfl) rfl rfl))
set_option maxRecDepth 100000 in
theorem f267_55 : mj_find (mj_P 267).2.2.2.2 55 = [(.iconst (-1), 1, (-1), []), (.ixor, 1, 0, []), (.iand, 1, 0, []), (.ifCond .ne 5, 3, 0, [63]), (.iload_n 3, 1, 0, []), (.istore_n 2, 1, 0, [])] := rfl
set_option maxRecDepth 100000 in
theorem q267_55 (E : mj_E) (d w c : Nat) (hi : Nat → Nat → Int32) (hl : Nat → Nat → Int64) (v1 : Int32) (v2 : Int32) (v3 : Int32) (s0 : Int32) (s1 : Int32) : mj_den mj_P E d 267 55 [Value.ref 205, Value.int v1, Value.int v2, Value.int v3] [Value.int s0, Value.int s1] (mj_hw w c hi hl) = if ¬ (s1 &&& (s0 ^^^ (-1 : Int32))) = 0 then mj_den mj_P E d 267 63 [Value.ref 205, Value.int v1, Value.int v2, Value.int v3] [] (mj_hw w c hi hl) else mj_den mj_P E d 267 63 [Value.ref 205, Value.int v1, Value.int v3, Value.int v3] [] (mj_hw w c hi hl) := by
  rw [mj_den_eq, f267_55]
  exact zt_iconst rfl (zt_ixor rfl (zt_iand rfl (zt_if_ne rfl rfl (zt_iload_n rfl rfl (zt_istore_n (Nat.le_of_ble_eq_true rfl) rfl rfl (zt_end rfl))))))
set_option maxRecDepth 100000 in
theorem f267_63 : mj_find (mj_P 267).2.2.2.2 63 = [(.iinc 3 1, 3, 1, []), (.goto (-45), 3, 0, [21])] := rfl
set_option maxRecDepth 100000 in
theorem q267_63 (E : mj_E) (d w c : Nat) (hi : Nat → Nat → Int32) (hl : Nat → Nat → Int64) (v1 : Int32) (v2 : Int32) (v3 : Int32) : mj_den mj_P E d 267 63 [Value.ref 205, Value.int v1, Value.int v2, Value.int v3] [] (mj_hw w c hi hl) = mj_den mj_P E d 267 21 [Value.ref 205, Value.int v1, Value.int v2, Value.int (v3 + (1 : Int32))] [] (mj_hw w c hi hl) := by
  rw [mj_den_eq, f267_63]
  exact zt_iinc rfl (Nat.le_of_ble_eq_true rfl) rfl rfl (zt_goto rfl)
set_option maxRecDepth 100000 in
theorem f267_69 : mj_find (mj_P 267).2.2.2.2 69 = [(.iload_n 2, 1, 0, []), (.iconst (-1), 1, (-1), []), (.if_icmp .eq 8, 3, 0, [79]), (.iload_n 1, 1, 0, []), (.iconst 1, 1, 1, []), (.if_icmp .ne 7, 3, 0, [83])] := rfl
set_option maxRecDepth 100000 in
theorem q267_69 (E : mj_E) (d w c : Nat) (hi : Nat → Nat → Int32) (hl : Nat → Nat → Int64) (v1 : Int32) (v2 : Int32) (v3 : Int32) : mj_den mj_P E d 267 69 [Value.ref 205, Value.int v1, Value.int v2, Value.int v3] [] (mj_hw w c hi hl) = if v2 = (-1 : Int32) then mj_den mj_P E d 267 79 [Value.ref 205, Value.int v1, Value.int v2, Value.int v3] [] (mj_hw w c hi hl) else if ¬ v1 = (1 : Int32) then mj_den mj_P E d 267 83 [Value.ref 205, Value.int v1, Value.int v2, Value.int v3] [] (mj_hw w c hi hl) else mj_den mj_P E d 267 79 [Value.ref 205, Value.int v1, Value.int v2, Value.int v3] [] (mj_hw w c hi hl) := by
  rw [mj_den_eq, f267_69]
  exact zt_iload_n rfl rfl (zt_iconst rfl (zt_icmp_eq rfl rfl (zt_iload_n rfl rfl (zt_iconst rfl (zt_icmp_ne rfl rfl (zt_end rfl))))))
set_option maxRecDepth 100000 in
theorem f267_79 : mj_find (mj_P 267).2.2.2.2 79 = [(.iload_n 2, 1, 0, []), (.goto 8, 3, 0, [88])] := rfl
set_option maxRecDepth 100000 in
theorem q267_79 (E : mj_E) (d w c : Nat) (hi : Nat → Nat → Int32) (hl : Nat → Nat → Int64) (v1 : Int32) (v2 : Int32) (v3 : Int32) : mj_den mj_P E d 267 79 [Value.ref 205, Value.int v1, Value.int v2, Value.int v3] [] (mj_hw w c hi hl) = mj_den mj_P E d 267 88 [Value.ref 205, Value.int v1, Value.int v2, Value.int v3] [Value.int v2] (mj_hw w c hi hl) := by
  rw [mj_den_eq, f267_79]
  exact zt_iload_n rfl rfl (zt_goto rfl)
set_option maxRecDepth 100000 in
theorem f267_83 : mj_find (mj_P 267).2.2.2.2 83 = [(.aload_n 0, 1, 0, []), (.iload_n 2, 1, 0, []), (.invokevirtual 336, 3, 0, [0, 156, 12, 1, 1, 1820, 1822, 84, 156, 1823])] := rfl
set_option maxRecDepth 100000 in
theorem q267_83 (E : mj_E) (d w c : Nat) (hi : Nat → Nat → Int32) (hl : Nat → Nat → Int64) (v1 : Int32) (v2 : Int32) (v3 : Int32) : mj_den mj_P E d 267 83 [Value.ref 205, Value.int v1, Value.int v2, Value.int v3] [] (mj_hw w c hi hl) = mj_bi (mj_dc mj_P E d 156 [Value.ref 205, Value.int v2] (mj_hw w c hi hl)) (fun x1 h1 => mj_den mj_P E d 267 88 [Value.ref 205, Value.int v1, Value.int v2, Value.int v3] [Value.int x1] h1) := by
  rw [mj_den_eq, f267_83]
  exact zt_aload_n rfl rfl (zt_iload_n rfl rfl (zt_call0_1 rfl (mjkd205 _ _ _ _) (Nat.le_of_ble_eq_true rfl) rfl rfl))
set_option maxRecDepth 100000 in
theorem f267_88 : mj_find (mj_P 267).2.2.2.2 88 = [(.ireturn, 1, 0, [0])] := rfl
set_option maxRecDepth 100000 in
theorem q267_88 (E : mj_E) (d w c : Nat) (hi : Nat → Nat → Int32) (hl : Nat → Nat → Int64) (v1 : Int32) (v2 : Int32) (v3 : Int32) (s0 : Int32) : mj_den mj_P E d 267 88 [Value.ref 205, Value.int v1, Value.int v2, Value.int v3] [Value.int s0] (mj_hw w c hi hl) = some (some (Value.int s0), (mj_hw w c hi hl)) := by
  rw [mj_den_eq, f267_88]
  exact zt_ireturn0
set_option maxRecDepth 100000 in
theorem f268_0 : mj_find (mj_P 268).2.2.2.2 0 = [(.iconst 0, 1, 0, []), (.istore 4, 2, 0, [])] := rfl
set_option maxRecDepth 100000 in
theorem q268_0 (E : mj_E) (d w c : Nat) (hi : Nat → Nat → Int32) (hl : Nat → Nat → Int64) (v1 : Int32) (v2 : Int32) (v3 : Int32) : mj_den mj_P E d 268 0 [Value.ref 205, Value.int v1, Value.int v2, Value.int v3, Value.float 0] [] (mj_hw w c hi hl) = mj_den mj_P E d 268 3 [Value.ref 205, Value.int v1, Value.int v2, Value.int v3, Value.int (0 : Int32)] [] (mj_hw w c hi hl) := by
  rw [mj_den_eq, f268_0]
  exact zt_iconst rfl (zt_istore (Nat.le_of_ble_eq_true rfl) rfl rfl (zt_end rfl))
set_option maxRecDepth 100000 in
theorem f268_3 : mj_find (mj_P 268).2.2.2.2 3 = [(.iload 4, 2, 0, []), (.bipush 8, 2, 8, []), (.if_icmp .ge 48, 3, 0, [55]), (.aload_n 0, 1, 0, []), (.iload_n 3, 1, 0, []), (.iload 4, 2, 0, []), (.invokevirtual 327, 3, 0, [0, 157, 12, 2, 1, 1832, 1834, 87, 156, 1835])] := rfl
set_option maxRecDepth 100000 in
theorem q268_3 (E : mj_E) (d w c : Nat) (hi : Nat → Nat → Int32) (hl : Nat → Nat → Int64) (v1 : Int32) (v2 : Int32) (v3 : Int32) (v4 : Int32) : mj_den mj_P E d 268 3 [Value.ref 205, Value.int v1, Value.int v2, Value.int v3, Value.int v4] [] (mj_hw w c hi hl) = if (8 : Int32) ≤ v4 then mj_den mj_P E d 268 55 [Value.ref 205, Value.int v1, Value.int v2, Value.int v3, Value.int v4] [] (mj_hw w c hi hl) else mj_bi (mj_dc mj_P E d 157 [Value.ref 205, Value.int v3, Value.int v4] (mj_hw w c hi hl)) (fun x1 h1 => mj_den mj_P E d 268 17 [Value.ref 205, Value.int v1, Value.int v2, Value.int v3, Value.int v4] [Value.int x1] h1) := by
  rw [mj_den_eq, f268_3]
  exact zt_iload rfl rfl (zt_bipush rfl (zt_icmp_ge rfl rfl (zt_aload_n rfl rfl (zt_iload_n rfl rfl (zt_iload rfl rfl (zt_call0_1 rfl (mjkd205 _ _ _ _) (Nat.le_of_ble_eq_true rfl) rfl rfl))))))
set_option maxRecDepth 100000 in
theorem f268_17 : mj_find (mj_P 268).2.2.2.2 17 = [(.ifCond .eq 32, 3, 0, [49]), (.aload_n 0, 1, 0, []), (.aload_n 0, 1, 0, []), (.getfield 95, 3, 0, [12, 53, 3, 1463]), (.iload 4, 2, 0, []), (.iaload, 1, 0, []), (.iload_n 1, 1, 0, []), (.invokevirtual 327, 3, 0, [0, 157, 12, 2, 1, 1832, 1834, 87, 156, 1835])] := rfl
set_option maxRecDepth 100000 in
theorem q268_17 (E : mj_E) (d w c : Nat) (hi : Nat → Nat → Int32) (hl : Nat → Nat → Int64) (v1 : Int32) (v2 : Int32) (v3 : Int32) (v4 : Int32) (s0 : Int32) : mj_den mj_P E d 268 17 [Value.ref 205, Value.int v1, Value.int v2, Value.int v3, Value.int v4] [Value.int s0] (mj_hw w c hi hl) = if s0 = 0 then mj_den mj_P E d 268 49 [Value.ref 205, Value.int v1, Value.int v2, Value.int v3, Value.int v4] [] (mj_hw w c hi hl) else if 0 ≤ v4 ∧ (v4).toNatClampNeg < 8 then mj_bi (mj_dc mj_P E d 157 [Value.ref 205, Value.int (hi 233 ((v4).toNatClampNeg)), Value.int v1] (mj_hw w c hi hl)) (fun x1 h1 => mj_den mj_P E d 268 32 [Value.ref 205, Value.int v1, Value.int v2, Value.int v3, Value.int v4] [Value.int x1] h1) else none := by
  rw [mj_den_eq, f268_17]
  exact zt_if_eq rfl rfl (zt_aload_n rfl rfl (zt_aload_n rfl rfl (zt_getr (mjkd205 _ _ _ _) (mjhr205_53 w c) rfl (zt_iload rfl rfl (zt_iald (mjkd233 _ _ _ _) (mjln233 _ _ _ _) rfl rfl (zt_iload_n rfl rfl (zt_call0_1 rfl (mjkd205 _ _ _ _) (Nat.le_of_ble_eq_true rfl) rfl rfl)))))))
set_option maxRecDepth 100000 in
theorem f268_32 : mj_find (mj_P 268).2.2.2.2 32 = [(.aload_n 0, 1, 0, []), (.aload_n 0, 1, 0, []), (.getfield 95, 3, 0, [12, 53, 3, 1463]), (.iload 4, 2, 0, []), (.iaload, 1, 0, []), (.iload_n 2, 1, 0, []), (.invokevirtual 327, 3, 0, [0, 157, 12, 2, 1, 1832, 1834, 87, 156, 1835])] := rfl
set_option maxRecDepth 100000 in
theorem q268_32 (E : mj_E) (d w c : Nat) (hi : Nat → Nat → Int32) (hl : Nat → Nat → Int64) (v1 : Int32) (v2 : Int32) (v3 : Int32) (v4 : Int32) (s0 : Int32) : mj_den mj_P E d 268 32 [Value.ref 205, Value.int v1, Value.int v2, Value.int v3, Value.int v4] [Value.int s0] (mj_hw w c hi hl) = if 0 ≤ v4 ∧ (v4).toNatClampNeg < 8 then mj_bi (mj_dc mj_P E d 157 [Value.ref 205, Value.int (hi 233 ((v4).toNatClampNeg)), Value.int v2] (mj_hw w c hi hl)) (fun x1 h1 => mj_den mj_P E d 268 44 [Value.ref 205, Value.int v1, Value.int v2, Value.int v3, Value.int v4] [Value.int x1, Value.int s0] h1) else none := by
  rw [mj_den_eq, f268_32]
  exact zt_aload_n rfl rfl (zt_aload_n rfl rfl (zt_getr (mjkd205 _ _ _ _) (mjhr205_53 w c) rfl (zt_iload rfl rfl (zt_iald (mjkd233 _ _ _ _) (mjln233 _ _ _ _) rfl rfl (zt_iload_n rfl rfl (zt_call0_1 rfl (mjkd205 _ _ _ _) (Nat.le_of_ble_eq_true rfl) rfl rfl))))))
set_option maxRecDepth 100000 in
theorem f268_44 : mj_find (mj_P 268).2.2.2.2 44 = [(.if_icmp .eq 5, 3, 0, [49]), (.iconst 1, 1, 1, []), (.ireturn, 1, 0, [1])] := rfl
set_option maxRecDepth 100000 in
theorem q268_44 (E : mj_E) (d w c : Nat) (hi : Nat → Nat → Int32) (hl : Nat → Nat → Int64) (v1 : Int32) (v2 : Int32) (v3 : Int32) (v4 : Int32) (s0 : Int32) (s1 : Int32) : mj_den mj_P E d 268 44 [Value.ref 205, Value.int v1, Value.int v2, Value.int v3, Value.int v4] [Value.int s0, Value.int s1] (mj_hw w c hi hl) = if s1 = s0 then mj_den mj_P E d 268 49 [Value.ref 205, Value.int v1, Value.int v2, Value.int v3, Value.int v4] [] (mj_hw w c hi hl) else if (1 : Int32) = 0 ∨ (1 : Int32) = 1 then some (some (Value.int (1 : Int32)), (mj_hw w c hi hl)) else none := by
  rw [mj_den_eq, f268_44]
  exact zt_icmp_eq rfl rfl (zt_iconst rfl (zt_ireturn1))
set_option maxRecDepth 100000 in
theorem f268_49 : mj_find (mj_P 268).2.2.2.2 49 = [(.iinc 4 1, 3, 1, []), (.goto (-49), 3, 0, [3])] := rfl
set_option maxRecDepth 100000 in
theorem q268_49 (E : mj_E) (d w c : Nat) (hi : Nat → Nat → Int32) (hl : Nat → Nat → Int64) (v1 : Int32) (v2 : Int32) (v3 : Int32) (v4 : Int32) : mj_den mj_P E d 268 49 [Value.ref 205, Value.int v1, Value.int v2, Value.int v3, Value.int v4] [] (mj_hw w c hi hl) = mj_den mj_P E d 268 3 [Value.ref 205, Value.int v1, Value.int v2, Value.int v3, Value.int (v4 + (1 : Int32))] [] (mj_hw w c hi hl) := by
  rw [mj_den_eq, f268_49]
  exact zt_iinc rfl (Nat.le_of_ble_eq_true rfl) rfl rfl (zt_goto rfl)
set_option maxRecDepth 100000 in
theorem f268_55 : mj_find (mj_P 268).2.2.2.2 55 = [(.iconst 0, 1, 0, []), (.ireturn, 1, 0, [1])] := rfl
set_option maxRecDepth 100000 in
theorem q268_55 (E : mj_E) (d w c : Nat) (hi : Nat → Nat → Int32) (hl : Nat → Nat → Int64) (v1 : Int32) (v2 : Int32) (v3 : Int32) (v4 : Int32) : mj_den mj_P E d 268 55 [Value.ref 205, Value.int v1, Value.int v2, Value.int v3, Value.int v4] [] (mj_hw w c hi hl) = if (0 : Int32) = 0 ∨ (0 : Int32) = 1 then some (some (Value.int (0 : Int32)), (mj_hw w c hi hl)) else none := by
  rw [mj_den_eq, f268_55]
  exact zt_iconst rfl (zt_ireturn1)
set_option maxRecDepth 100000 in
theorem f269_0 : mj_find (mj_P 269).2.2.2.2 0 = [(.iconst 0, 1, 0, []), (.istore_n 2, 1, 0, []), (.iconst 0, 1, 0, []), (.istore_n 3, 1, 0, [])] := rfl
set_option maxRecDepth 100000 in
theorem q269_0 (E : mj_E) (d w c : Nat) (hi : Nat → Nat → Int32) (hl : Nat → Nat → Int64) (v1 : Int32) : mj_den mj_P E d 269 0 [Value.ref 205, Value.int v1, Value.float 0, Value.float 0, Value.float 0] [] (mj_hw w c hi hl) = mj_den mj_P E d 269 4 [Value.ref 205, Value.int v1, Value.int (0 : Int32), Value.int (0 : Int32), Value.float 0] [] (mj_hw w c hi hl) := by
  rw [mj_den_eq, f269_0]
  exact zt_iconst rfl (zt_istore_n (Nat.le_of_ble_eq_true rfl) rfl rfl (zt_iconst rfl (zt_istore_n (Nat.le_of_ble_eq_true rfl) rfl rfl (zt_end rfl))))
set_option maxRecDepth 100000 in
theorem f269_4 : mj_find (mj_P 269).2.2.2.2 4 = [(.iload_n 3, 1, 0, []), (.aload_n 0, 1, 0, []), (.getfield 134, 3, 0, [12, 6, 0, 1416]), (.if_icmp .ge 44, 3, 0, [53]), (.iload_n 3, 1, 0, []), (.iconst 1, 1, 1, []), (.iadd, 1, 0, []), (.istore 4, 2, 0, [])] := rfl
set_option maxRecDepth 100000 in
theorem q269_4 (E : mj_E) (d w c : Nat) (hi : Nat → Nat → Int32) (hl : Nat → Nat → Int64) (v1 : Int32) (v2 : Int32) (v3 : Int32) : mj_den mj_P E d 269 4 [Value.ref 205, Value.int v1, Value.int v2, Value.int v3, Value.float 0] [] (mj_hw w c hi hl) = if (hi 205 6) ≤ v3 then mj_den mj_P E d 269 53 [Value.ref 205, Value.int v1, Value.int v2, Value.int v3, Value.float 0] [] (mj_hw w c hi hl) else mj_den mj_P E d 269 17 [Value.ref 205, Value.int v1, Value.int v2, Value.int v3, Value.int (v3 + (1 : Int32))] [] (mj_hw w c hi hl) := by
  rw [mj_den_eq, f269_4]
  exact zt_iload_n rfl rfl (zt_aload_n rfl rfl (zt_geti (mjkd205 _ _ _ _) rfl rfl (zt_icmp_ge rfl rfl (zt_iload_n rfl rfl (zt_iconst rfl (zt_iadd rfl (zt_istore (Nat.le_of_ble_eq_true rfl) rfl rfl (zt_end rfl))))))))
set_option maxRecDepth 100000 in
theorem q269_4_1 (E : mj_E) (d w c : Nat) (hi : Nat → Nat → Int32) (hl : Nat → Nat → Int64) (v1 : Int32) (v2 : Int32) (v3 : Int32) (v4 : Int32) : mj_den mj_P E d 269 4 [Value.ref 205, Value.int v1, Value.int v2, Value.int v3, Value.int v4] [] (mj_hw w c hi hl) = if (hi 205 6) ≤ v3 then mj_den mj_P E d 269 53 [Value.ref 205, Value.int v1, Value.int v2, Value.int v3, Value.int v4] [] (mj_hw w c hi hl) else mj_den mj_P E d 269 17 [Value.ref 205, Value.int v1, Value.int v2, Value.int v3, Value.int (v3 + (1 : Int32))] [] (mj_hw w c hi hl) := by
  rw [mj_den_eq, f269_4]
  exact zt_iload_n rfl rfl (zt_aload_n rfl rfl (zt_geti (mjkd205 _ _ _ _) rfl rfl (zt_icmp_ge rfl rfl (zt_iload_n rfl rfl (zt_iconst rfl (zt_iadd rfl (zt_istore (Nat.le_of_ble_eq_true rfl) rfl rfl (zt_end rfl))))))))
set_option maxRecDepth 100000 in
theorem f269_17 : mj_find (mj_P 269).2.2.2.2 17 = [(.iload 4, 2, 0, []), (.aload_n 0, 1, 0, []), (.getfield 134, 3, 0, [12, 6, 0, 1416]), (.if_icmp .ge 24, 3, 0, [47]), (.aload_n 0, 1, 0, []), (.iload_n 3, 1, 0, []), (.iload 4, 2, 0, []), (.iload_n 1, 1, 0, []), (.invokevirtual 473, 3, 0, [0, 268, 12, 3, 1, 2089, 2091, 129, 156, 2092])] := rfl
set_option maxRecDepth 100000 in
theorem q269_17 (E : mj_E) (d w c : Nat) (hi : Nat → Nat → Int32) (hl : Nat → Nat → Int64) (v1 : Int32) (v2 : Int32) (v3 : Int32) (v4 : Int32) : mj_den mj_P E d 269 17 [Value.ref 205, Value.int v1, Value.int v2, Value.int v3, Value.int v4] [] (mj_hw w c hi hl) = if (hi 205 6) ≤ v4 then mj_den mj_P E d 269 47 [Value.ref 205, Value.int v1, Value.int v2, Value.int v3, Value.int v4] [] (mj_hw w c hi hl) else mj_bi (mj_dc mj_P E d 268 [Value.ref 205, Value.int v3, Value.int v4, Value.int v1] (mj_hw w c hi hl)) (fun x1 h1 => mj_den mj_P E d 269 34 [Value.ref 205, Value.int v1, Value.int v2, Value.int v3, Value.int v4] [Value.int x1] h1) := by
  rw [mj_den_eq, f269_17]
  exact zt_iload rfl rfl (zt_aload_n rfl rfl (zt_geti (mjkd205 _ _ _ _) rfl rfl (zt_icmp_ge rfl rfl (zt_aload_n rfl rfl (zt_iload_n rfl rfl (zt_iload rfl rfl (zt_iload_n rfl rfl (zt_call0_1 rfl (mjkd205 _ _ _ _) (Nat.le_of_ble_eq_true rfl) rfl rfl))))))))
set_option maxRecDepth 100000 in
theorem f269_34 : mj_find (mj_P 269).2.2.2.2 34 = [(.ifCond .eq 7, 3, 0, [41]), (.iload_n 2, 1, 0, []), (.iconst 1, 1, 1, []), (.iadd, 1, 0, []), (.istore_n 2, 1, 0, [])] := rfl
set_option maxRecDepth 100000 in
theorem q269_34 (E : mj_E) (d w c : Nat) (hi : Nat → Nat → Int32) (hl : Nat → Nat → Int64) (v1 : Int32) (v2 : Int32) (v3 : Int32) (v4 : Int32) (s0 : Int32) : mj_den mj_P E d 269 34 [Value.ref 205, Value.int v1, Value.int v2, Value.int v3, Value.int v4] [Value.int s0] (mj_hw w c hi hl) = if s0 = 0 then mj_den mj_P E d 269 41 [Value.ref 205, Value.int v1, Value.int v2, Value.int v3, Value.int v4] [] (mj_hw w c hi hl) else mj_den mj_P E d 269 41 [Value.ref 205, Value.int v1, Value.int (v2 + (1 : Int32)), Value.int v3, Value.int v4] [] (mj_hw w c hi hl) := by
  rw [mj_den_eq, f269_34]
  exact zt_if_eq rfl rfl (zt_iload_n rfl rfl (zt_iconst rfl (zt_iadd rfl (zt_istore_n (Nat.le_of_ble_eq_true rfl) rfl rfl (zt_end rfl)))))
set_option maxRecDepth 100000 in
theorem f269_41 : mj_find (mj_P 269).2.2.2.2 41 = [(.iinc 4 1, 3, 1, []), (.goto (-27), 3, 0, [17])] := rfl
set_option maxRecDepth 100000 in
theorem q269_41 (E : mj_E) (d w c : Nat) (hi : Nat → Nat → Int32) (hl : Nat → Nat → Int64) (v1 : Int32) (v2 : Int32) (v3 : Int32) (v4 : Int32) : mj_den mj_P E d 269 41 [Value.ref 205, Value.int v1, Value.int v2, Value.int v3, Value.int v4] [] (mj_hw w c hi hl) = mj_den mj_P E d 269 17 [Value.ref 205, Value.int v1, Value.int v2, Value.int v3, Value.int (v4 + (1 : Int32))] [] (mj_hw w c hi hl) := by
  rw [mj_den_eq, f269_41]
  exact zt_iinc rfl (Nat.le_of_ble_eq_true rfl) rfl rfl (zt_goto rfl)
set_option maxRecDepth 100000 in
theorem f269_47 : mj_find (mj_P 269).2.2.2.2 47 = [(.iinc 3 1, 3, 1, []), (.goto (-46), 3, 0, [4])] := rfl
set_option maxRecDepth 100000 in
theorem q269_47 (E : mj_E) (d w c : Nat) (hi : Nat → Nat → Int32) (hl : Nat → Nat → Int64) (v1 : Int32) (v2 : Int32) (v3 : Int32) (v4 : Int32) : mj_den mj_P E d 269 47 [Value.ref 205, Value.int v1, Value.int v2, Value.int v3, Value.int v4] [] (mj_hw w c hi hl) = mj_den mj_P E d 269 4 [Value.ref 205, Value.int v1, Value.int v2, Value.int (v3 + (1 : Int32)), Value.int v4] [] (mj_hw w c hi hl) := by
  rw [mj_den_eq, f269_47]
  exact zt_iinc rfl (Nat.le_of_ble_eq_true rfl) rfl rfl (zt_goto rfl)
set_option maxRecDepth 100000 in
theorem f269_53 : mj_find (mj_P 269).2.2.2.2 53 = [(.iload_n 2, 1, 0, []), (.ireturn, 1, 0, [0])] := rfl
set_option maxRecDepth 100000 in
theorem q269_53 (E : mj_E) (d w c : Nat) (hi : Nat → Nat → Int32) (hl : Nat → Nat → Int64) (v1 : Int32) (v2 : Int32) (v3 : Int32) (v4 : Int32) : mj_den mj_P E d 269 53 [Value.ref 205, Value.int v1, Value.int v2, Value.int v3, Value.int v4] [] (mj_hw w c hi hl) = some (some (Value.int v2), (mj_hw w c hi hl)) := by
  rw [mj_den_eq, f269_53]
  exact zt_iload_n rfl rfl (zt_ireturn0)
set_option maxRecDepth 100000 in
theorem q269_53_1 (E : mj_E) (d w c : Nat) (hi : Nat → Nat → Int32) (hl : Nat → Nat → Int64) (v1 : Int32) (v2 : Int32) (v3 : Int32) : mj_den mj_P E d 269 53 [Value.ref 205, Value.int v1, Value.int v2, Value.int v3, Value.float 0] [] (mj_hw w c hi hl) = some (some (Value.int v2), (mj_hw w c hi hl)) := by
  rw [mj_den_eq, f269_53]
  exact zt_iload_n rfl rfl (zt_ireturn0)
set_option maxRecDepth 100000 in
theorem f270_0 : mj_find (mj_P 270).2.2.2.2 0 = [(.aload_n 0, 1, 0, []), (.iconst 0, 1, 0, []), (.putfield 122, 3, 0, [12, 0, 0, 1410]), (.iload_n 1, 1, 0, []), (.iconst (-1), 1, (-1), []), (.if_icmp .eq 25, 3, 0, [32]), (.aload_n 0, 1, 0, []), (.iload_n 1, 1, 0, []), (.iconst 0, 1, 0, []), (.sipush 255, 3, 255, []), (.invokevirtual 144, 3, 0, [0, 152, 12, 3, 1, 1624, 1626, 42, 156, 1627])] := rfl
set_option maxRecDepth 100000 in
theorem q270_0 (E : mj_E) (d w c : Nat) (hi : Nat → Nat → Int32) (hl : Nat → Nat → Int64) (v1 : Int32) : mj_den mj_P E d 270 0 [Value.ref 205, Value.int v1, Value.float 0, Value.float 0, Value.float 0] [] (mj_hw w c hi hl) = if v1 = (-1 : Int32) then mj_den mj_P E d 270 32 [Value.ref 205, Value.int v1, Value.float 0, Value.float 0, Value.float 0] [] (mj_hw w c (mj_u hi 205 0 (0 : Int32)) hl) else mj_bi (mj_dc mj_P E d 152 [Value.ref 205, Value.int v1, Value.int (0 : Int32), Value.int (255 : Int32)] (mj_hw w c (mj_u hi 205 0 (0 : Int32)) hl)) (fun x1 h1 => mj_den mj_P E d 270 19 [Value.ref 205, Value.int v1, Value.float 0, Value.float 0, Value.float 0] [Value.int x1] h1) := by
  rw [mj_den_eq, f270_0]
  exact zt_aload_n rfl rfl (zt_iconst rfl (zt_puti (mjkd205 _ _ _ _) rfl rfl (zt_iload_n rfl rfl (zt_iconst rfl (zt_icmp_eq rfl rfl (zt_aload_n rfl rfl (zt_iload_n rfl rfl (zt_iconst rfl (zt_sipush rfl (zt_call0_1 rfl (mjkd205 _ _ _ _) (Nat.le_of_ble_eq_true rfl) rfl rfl))))))))))
set_option maxRecDepth 100000 in
theorem f270_19 : mj_find (mj_P 270).2.2.2.2 19 = [(.ifCond .eq 11, 3, 0, [30]), (.aload_n 0, 1, 0, []), (.iload_n 1, 1, 0, []), (.invokevirtual 476, 3, 0, [0, 269, 12, 1, 1, 2085, 2087, 128, 156, 2088])] := rfl
set_option maxRecDepth 100000 in
theorem q270_19 (E : mj_E) (d w c : Nat) (hi : Nat → Nat → Int32) (hl : Nat → Nat → Int64) (v1 : Int32) (s0 : Int32) : mj_den mj_P E d 270 19 [Value.ref 205, Value.int v1, Value.float 0, Value.float 0, Value.float 0] [Value.int s0] (mj_hw w c hi hl) = if s0 = 0 then mj_den mj_P E d 270 30 [Value.ref 205, Value.int v1, Value.float 0, Value.float 0, Value.float 0] [] (mj_hw w c hi hl) else mj_bi (mj_dc mj_P E d 269 [Value.ref 205, Value.int v1] (mj_hw w c hi hl)) (fun x1 h1 => mj_den mj_P E d 270 27 [Value.ref 205, Value.int v1, Value.float 0, Value.float 0, Value.float 0] [Value.int x1] h1) := by
  rw [mj_den_eq, f270_19]
  exact zt_if_eq rfl rfl (zt_aload_n rfl rfl (zt_iload_n rfl rfl (zt_call0_1 rfl (mjkd205 _ _ _ _) (Nat.le_of_ble_eq_true rfl) rfl rfl)))
set_option maxRecDepth 100000 in
theorem f270_27 : mj_find (mj_P 270).2.2.2.2 27 = [(.goto 4, 3, 0, [31])] := rfl
set_option maxRecDepth 100000 in
theorem q270_27 (E : mj_E) (d w c : Nat) (hi : Nat → Nat → Int32) (hl : Nat → Nat → Int64) (v1 : Int32) (s0 : Int32) : mj_den mj_P E d 270 27 [Value.ref 205, Value.int v1, Value.float 0, Value.float 0, Value.float 0] [Value.int s0] (mj_hw w c hi hl) = mj_den mj_P E d 270 31 [Value.ref 205, Value.int v1, Value.float 0, Value.float 0, Value.float 0] [Value.int s0] (mj_hw w c hi hl) := by
  rw [mj_den_eq, f270_27]
  exact zt_goto rfl
set_option maxRecDepth 100000 in
theorem f270_30 : mj_find (mj_P 270).2.2.2.2 30 = [(.iconst (-1), 1, (-1), [])] := rfl
set_option maxRecDepth 100000 in
theorem q270_30 (E : mj_E) (d w c : Nat) (hi : Nat → Nat → Int32) (hl : Nat → Nat → Int64) (v1 : Int32) : mj_den mj_P E d 270 30 [Value.ref 205, Value.int v1, Value.float 0, Value.float 0, Value.float 0] [] (mj_hw w c hi hl) = mj_den mj_P E d 270 31 [Value.ref 205, Value.int v1, Value.float 0, Value.float 0, Value.float 0] [Value.int (-1 : Int32)] (mj_hw w c hi hl) := by
  rw [mj_den_eq, f270_30]
  exact zt_iconst rfl (zt_end rfl)
set_option maxRecDepth 100000 in
theorem f270_31 : mj_find (mj_P 270).2.2.2.2 31 = [(.ireturn, 1, 0, [0])] := rfl
set_option maxRecDepth 100000 in
theorem q270_31 (E : mj_E) (d w c : Nat) (hi : Nat → Nat → Int32) (hl : Nat → Nat → Int64) (v1 : Int32) (s0 : Int32) : mj_den mj_P E d 270 31 [Value.ref 205, Value.int v1, Value.float 0, Value.float 0, Value.float 0] [Value.int s0] (mj_hw w c hi hl) = some (some (Value.int s0), (mj_hw w c hi hl)) := by
  rw [mj_den_eq, f270_31]
  exact zt_ireturn0
set_option maxRecDepth 100000 in
theorem f270_32 : mj_find (mj_P 270).2.2.2.2 32 = [(.aload_n 0, 1, 0, []), (.sipush 255, 3, 255, []), (.invokevirtual 476, 3, 0, [0, 269, 12, 1, 1, 2085, 2087, 128, 156, 2088])] := rfl
set_option maxRecDepth 100000 in
theorem q270_32 (E : mj_E) (d w c : Nat) (hi : Nat → Nat → Int32) (hl : Nat → Nat → Int64) (v1 : Int32) : mj_den mj_P E d 270 32 [Value.ref 205, Value.int v1, Value.float 0, Value.float 0, Value.float 0] [] (mj_hw w c hi hl) = mj_bi (mj_dc mj_P E d 269 [Value.ref 205, Value.int (255 : Int32)] (mj_hw w c hi hl)) (fun x1 h1 => mj_den mj_P E d 270 39 [Value.ref 205, Value.int v1, Value.float 0, Value.float 0, Value.float 0] [Value.int x1] h1) := by
  rw [mj_den_eq, f270_32]
  exact zt_aload_n rfl rfl (zt_sipush rfl (zt_call0_1 rfl (mjkd205 _ _ _ _) (Nat.le_of_ble_eq_true rfl) rfl rfl))
set_option maxRecDepth 100000 in
theorem f270_39 : mj_find (mj_P 270).2.2.2.2 39 = [(.istore_n 2, 1, 0, []), (.bipush 8, 2, 8, []), (.istore_n 3, 1, 0, []), (.iconst 0, 1, 0, []), (.istore 4, 2, 0, [])] := rfl
set_option maxRecDepth 100000 in
theorem q270_39 (E : mj_E) (d w c : Nat) (hi : Nat → Nat → Int32) (hl : Nat → Nat → Int64) (v1 : Int32) (s0 : Int32) : mj_den mj_P E d 270 39 [Value.ref 205, Value.int v1, Value.float 0, Value.float 0, Value.float 0] [Value.int s0] (mj_hw w c hi hl) = mj_den mj_P E d 270 46 [Value.ref 205, Value.int v1, Value.int s0, Value.int (8 : Int32), Value.int (0 : Int32)] [] (mj_hw w c hi hl) := by
  rw [mj_den_eq, f270_39]
  exact zt_istore_n (Nat.le_of_ble_eq_true rfl) rfl rfl (zt_bipush rfl (zt_istore_n (Nat.le_of_ble_eq_true rfl) rfl rfl (zt_iconst rfl (zt_istore (Nat.le_of_ble_eq_true rfl) rfl rfl (zt_end rfl)))))
set_option maxRecDepth 100000 in
theorem f270_46 : mj_find (mj_P 270).2.2.2.2 46 = [(.iload 4, 2, 0, []), (.sipush 256, 3, 256, []), (.if_icmp .ge 36, 3, 0, [87]), (.aload_n 0, 1, 0, []), (.iload 4, 2, 0, []), (.invokevirtual 336, 3, 0, [0, 156, 12, 1, 1, 1820, 1822, 84, 156, 1823])] := rfl
set_option maxRecDepth 100000 in
theorem q270_46 (E : mj_E) (d w c : Nat) (hi : Nat → Nat → Int32) (hl : Nat → Nat → Int64) (v1 : Int32) (v2 : Int32) (v3 : Int32) (v4 : Int32) : mj_den mj_P E d 270 46 [Value.ref 205, Value.int v1, Value.int v2, Value.int v3, Value.int v4] [] (mj_hw w c hi hl) = if (256 : Int32) ≤ v4 then mj_den mj_P E d 270 87 [Value.ref 205, Value.int v1, Value.int v2, Value.int v3, Value.int v4] [] (mj_hw w c hi hl) else mj_bi (mj_dc mj_P E d 156 [Value.ref 205, Value.int v4] (mj_hw w c hi hl)) (fun x1 h1 => mj_den mj_P E d 270 60 [Value.ref 205, Value.int v1, Value.int v2, Value.int v3, Value.int v4] [Value.int x1] h1) := by
  rw [mj_den_eq, f270_46]
  exact zt_iload rfl rfl (zt_sipush rfl (zt_icmp_ge rfl rfl (zt_aload_n rfl rfl (zt_iload rfl rfl (zt_call0_1 rfl (mjkd205 _ _ _ _) (Nat.le_of_ble_eq_true rfl) rfl rfl)))))
set_option maxRecDepth 100000 in
theorem f270_60 : mj_find (mj_P 270).2.2.2.2 60 = [(.iload_n 3, 1, 0, []), (.if_icmp .ge 20, 3, 0, [81]), (.aload_n 0, 1, 0, []), (.iload 4, 2, 0, []), (.invokevirtual 476, 3, 0, [0, 269, 12, 1, 1, 2085, 2087, 128, 156, 2088])] := rfl
set_option maxRecDepth 100000 in
theorem q270_60 (E : mj_E) (d w c : Nat) (hi : Nat → Nat → Int32) (hl : Nat → Nat → Int64) (v1 : Int32) (v2 : Int32) (v3 : Int32) (v4 : Int32) (s0 : Int32) : mj_den mj_P E d 270 60 [Value.ref 205, Value.int v1, Value.int v2, Value.int v3, Value.int v4] [Value.int s0] (mj_hw w c hi hl) = if v3 ≤ s0 then mj_den mj_P E d 270 81 [Value.ref 205, Value.int v1, Value.int v2, Value.int v3, Value.int v4] [] (mj_hw w c hi hl) else mj_bi (mj_dc mj_P E d 269 [Value.ref 205, Value.int v4] (mj_hw w c hi hl)) (fun x1 h1 => mj_den mj_P E d 270 70 [Value.ref 205, Value.int v1, Value.int v2, Value.int v3, Value.int v4] [Value.int x1] h1) := by
  rw [mj_den_eq, f270_60]
  exact zt_iload_n rfl rfl (zt_icmp_ge rfl rfl (zt_aload_n rfl rfl (zt_iload rfl rfl (zt_call0_1 rfl (mjkd205 _ _ _ _) (Nat.le_of_ble_eq_true rfl) rfl rfl))))
set_option maxRecDepth 100000 in
theorem f270_70 : mj_find (mj_P 270).2.2.2.2 70 = [(.iload_n 2, 1, 0, []), (.if_icmp .ne 10, 3, 0, [81]), (.aload_n 0, 1, 0, []), (.iload 4, 2, 0, []), (.invokevirtual 336, 3, 0, [0, 156, 12, 1, 1, 1820, 1822, 84, 156, 1823])] := rfl
set_option maxRecDepth 100000 in
theorem q270_70 (E : mj_E) (d w c : Nat) (hi : Nat → Nat → Int32) (hl : Nat → Nat → Int64) (v1 : Int32) (v2 : Int32) (v3 : Int32) (v4 : Int32) (s0 : Int32) : mj_den mj_P E d 270 70 [Value.ref 205, Value.int v1, Value.int v2, Value.int v3, Value.int v4] [Value.int s0] (mj_hw w c hi hl) = if ¬ s0 = v2 then mj_den mj_P E d 270 81 [Value.ref 205, Value.int v1, Value.int v2, Value.int v3, Value.int v4] [] (mj_hw w c hi hl) else mj_bi (mj_dc mj_P E d 156 [Value.ref 205, Value.int v4] (mj_hw w c hi hl)) (fun x1 h1 => mj_den mj_P E d 270 80 [Value.ref 205, Value.int v1, Value.int v2, Value.int v3, Value.int v4] [Value.int x1] h1) := by
  rw [mj_den_eq, f270_70]
  exact zt_iload_n rfl rfl (zt_icmp_ne rfl rfl (zt_aload_n rfl rfl (zt_iload rfl rfl (zt_call0_1 rfl (mjkd205 _ _ _ _) (Nat.le_of_ble_eq_true rfl) rfl rfl))))
set_option maxRecDepth 100000 in
theorem f270_80 : mj_find (mj_P 270).2.2.2.2 80 = [(.istore_n 3, 1, 0, [])] := rfl
set_option maxRecDepth 100000 in
theorem q270_80 (E : mj_E) (d w c : Nat) (hi : Nat → Nat → Int32) (hl : Nat → Nat → Int64) (v1 : Int32) (v2 : Int32) (v3 : Int32) (v4 : Int32) (s0 : Int32) : mj_den mj_P E d 270 80 [Value.ref 205, Value.int v1, Value.int v2, Value.int v3, Value.int v4] [Value.int s0] (mj_hw w c hi hl) = mj_den mj_P E d 270 81 [Value.ref 205, Value.int v1, Value.int v2, Value.int s0, Value.int v4] [] (mj_hw w c hi hl) := by
  rw [mj_den_eq, f270_80]
  exact zt_istore_n (Nat.le_of_ble_eq_true rfl) rfl rfl (zt_end rfl)
set_option maxRecDepth 100000 in
theorem f270_81 : mj_find (mj_P 270).2.2.2.2 81 = [(.iinc 4 1, 3, 1, []), (.goto (-38), 3, 0, [46])] := rfl
set_option maxRecDepth 100000 in
theorem q270_81 (E : mj_E) (d w c : Nat) (hi : Nat → Nat → Int32) (hl : Nat → Nat → Int64) (v1 : Int32) (v2 : Int32) (v3 : Int32) (v4 : Int32) : mj_den mj_P E d 270 81 [Value.ref 205, Value.int v1, Value.int v2, Value.int v3, Value.int v4] [] (mj_hw w c hi hl) = mj_den mj_P E d 270 46 [Value.ref 205, Value.int v1, Value.int v2, Value.int v3, Value.int (v4 + (1 : Int32))] [] (mj_hw w c hi hl) := by
  rw [mj_den_eq, f270_81]
  exact zt_iinc rfl (Nat.le_of_ble_eq_true rfl) rfl rfl (zt_goto rfl)
set_option maxRecDepth 100000 in
theorem f270_87 : mj_find (mj_P 270).2.2.2.2 87 = [(.iload_n 3, 1, 0, []), (.ireturn, 1, 0, [0])] := rfl
set_option maxRecDepth 100000 in
theorem q270_87 (E : mj_E) (d w c : Nat) (hi : Nat → Nat → Int32) (hl : Nat → Nat → Int64) (v1 : Int32) (v2 : Int32) (v3 : Int32) (v4 : Int32) : mj_den mj_P E d 270 87 [Value.ref 205, Value.int v1, Value.int v2, Value.int v3, Value.int v4] [] (mj_hw w c hi hl) = some (some (Value.int v3), (mj_hw w c hi hl)) := by
  rw [mj_den_eq, f270_87]
  exact zt_iload_n rfl rfl (zt_ireturn0)
set_option maxRecDepth 100000 in
theorem f271_0 : mj_find (mj_P 271).2.2.2.2 0 = [(.aload_n 0, 1, 0, []), (.iconst 0, 1, 0, []), (.putfield 122, 3, 0, [12, 0, 0, 1410]), (.iload_n 1, 1, 0, []), (.iconst (-1), 1, (-1), []), (.if_icmp .ne 10, 3, 0, [17]), (.aload_n 0, 1, 0, []), (.iconst 0, 1, 0, []), (.putfield 479, 3, 0, [12, 54, 0, 1464]), (.iconst 0, 1, 0, []), (.ireturn, 1, 0, [0])] := rfl
set_option maxRecDepth 100000 in
theorem q271_0 (E : mj_E) (d w c : Nat) (hi : Nat → Nat → Int32) (hl : Nat → Nat → Int64) (v1 : Int32) (v2 : Int32) : mj_den mj_P E d 271 0 [Value.ref 205, Value.int v1, Value.int v2] [] (mj_hw w c hi hl) = if ¬ v1 = (-1 : Int32) then mj_den mj_P E d 271 17 [Value.ref 205, Value.int v1, Value.int v2] [] (mj_hw w c (mj_u hi 205 0 (0 : Int32)) hl) else some (some (Value.int (0 : Int32)), (mj_hw w c (mj_u (mj_u hi 205 0 (0 : Int32)) 205 54 (0 : Int32)) hl)) := by
  rw [mj_den_eq, f271_0]
  exact zt_aload_n rfl rfl (zt_iconst rfl (zt_puti (mjkd205 _ _ _ _) rfl rfl (zt_iload_n rfl rfl (zt_iconst rfl (zt_icmp_ne rfl rfl (zt_aload_n rfl rfl (zt_iconst rfl (zt_puti (mjkd205 _ _ _ _) rfl rfl (zt_iconst rfl (zt_ireturn0))))))))))
set_option maxRecDepth 100000 in
theorem f271_17 : mj_find (mj_P 271).2.2.2.2 17 = [(.aload_n 0, 1, 0, []), (.iload_n 1, 1, 0, []), (.iconst 0, 1, 0, []), (.bipush 99, 2, 99, []), (.invokevirtual 144, 3, 0, [0, 152, 12, 3, 1, 1624, 1626, 42, 156, 1627])] := rfl
set_option maxRecDepth 100000 in
theorem q271_17 (E : mj_E) (d w c : Nat) (hi : Nat → Nat → Int32) (hl : Nat → Nat → Int64) (v1 : Int32) (v2 : Int32) : mj_den mj_P E d 271 17 [Value.ref 205, Value.int v1, Value.int v2] [] (mj_hw w c hi hl) = mj_bi (mj_dc mj_P E d 152 [Value.ref 205, Value.int v1, Value.int (0 : Int32), Value.int (99 : Int32)] (mj_hw w c hi hl)) (fun x1 h1 => mj_den mj_P E d 271 25 [Value.ref 205, Value.int v1, Value.int v2] [Value.int x1] h1) := by
  rw [mj_den_eq, f271_17]
  exact zt_aload_n rfl rfl (zt_iload_n rfl rfl (zt_iconst rfl (zt_bipush rfl (zt_call0_1 rfl (mjkd205 _ _ _ _) (Nat.le_of_ble_eq_true rfl) rfl rfl))))
set_option maxRecDepth 100000 in
theorem f271_25 : mj_find (mj_P 271).2.2.2.2 25 = [(.ifCond .eq 23, 3, 0, [48]), (.aload_n 0, 1, 0, []), (.iload_n 2, 1, 0, []), (.iconst 0, 1, 0, []), (.bipush 9, 2, 9, []), (.invokevirtual 144, 3, 0, [0, 152, 12, 3, 1, 1624, 1626, 42, 156, 1627])] := rfl
set_option maxRecDepth 100000 in
theorem q271_25 (E : mj_E) (d w c : Nat) (hi : Nat → Nat → Int32) (hl : Nat → Nat → Int64) (v1 : Int32) (v2 : Int32) (s0 : Int32) : mj_den mj_P E d 271 25 [Value.ref 205, Value.int v1, Value.int v2] [Value.int s0] (mj_hw w c hi hl) = if s0 = 0 then mj_den mj_P E d 271 48 [Value.ref 205, Value.int v1, Value.int v2] [] (mj_hw w c hi hl) else mj_bi (mj_dc mj_P E d 152 [Value.ref 205, Value.int v2, Value.int (0 : Int32), Value.int (9 : Int32)] (mj_hw w c hi hl)) (fun x1 h1 => mj_den mj_P E d 271 36 [Value.ref 205, Value.int v1, Value.int v2] [Value.int x1] h1) := by
  rw [mj_den_eq, f271_25]
  exact zt_if_eq rfl rfl (zt_aload_n rfl rfl (zt_iload_n rfl rfl (zt_iconst rfl (zt_bipush rfl (zt_call0_1 rfl (mjkd205 _ _ _ _) (Nat.le_of_ble_eq_true rfl) rfl rfl)))))
set_option maxRecDepth 100000 in
theorem f271_36 : mj_find (mj_P 271).2.2.2.2 36 = [(.ifCond .eq 12, 3, 0, [48]), (.aload_n 0, 1, 0, []), (.getfield 479, 3, 0, [12, 54, 0, 1464]), (.bipush 7, 2, 7, []), (.if_icmp .ne 5, 3, 0, [50])] := rfl
set_option maxRecDepth 100000 in
theorem q271_36 (E : mj_E) (d w c : Nat) (hi : Nat → Nat → Int32) (hl : Nat → Nat → Int64) (v1 : Int32) (v2 : Int32) (s0 : Int32) : mj_den mj_P E d 271 36 [Value.ref 205, Value.int v1, Value.int v2] [Value.int s0] (mj_hw w c hi hl) = if s0 = 0 then mj_den mj_P E d 271 48 [Value.ref 205, Value.int v1, Value.int v2] [] (mj_hw w c hi hl) else if ¬ (hi 205 54) = (7 : Int32) then mj_den mj_P E d 271 50 [Value.ref 205, Value.int v1, Value.int v2] [] (mj_hw w c hi hl) else mj_den mj_P E d 271 48 [Value.ref 205, Value.int v1, Value.int v2] [] (mj_hw w c hi hl) := by
  rw [mj_den_eq, f271_36]
  exact zt_if_eq rfl rfl (zt_aload_n rfl rfl (zt_geti (mjkd205 _ _ _ _) rfl rfl (zt_bipush rfl (zt_icmp_ne rfl rfl (zt_end rfl)))))
set_option maxRecDepth 100000 in
theorem f271_48 : mj_find (mj_P 271).2.2.2.2 48 = [(.iconst (-1), 1, (-1), []), (.ireturn, 1, 0, [0])] := rfl
set_option maxRecDepth 100000 in
theorem q271_48 (E : mj_E) (d w c : Nat) (hi : Nat → Nat → Int32) (hl : Nat → Nat → Int64) (v1 : Int32) (v2 : Int32) : mj_den mj_P E d 271 48 [Value.ref 205, Value.int v1, Value.int v2] [] (mj_hw w c hi hl) = some (some (Value.int (-1 : Int32)), (mj_hw w c hi hl)) := by
  rw [mj_den_eq, f271_48]
  exact zt_iconst rfl (zt_ireturn0)
set_option maxRecDepth 100000 in
theorem f271_50 : mj_find (mj_P 271).2.2.2.2 50 = [(.aload_n 0, 1, 0, []), (.getfield 98, 3, 0, [12, 55, 3, 1465]), (.aload_n 0, 1, 0, []), (.getfield 479, 3, 0, [12, 54, 0, 1464]), (.iload_n 1, 1, 0, []), (.iastore, 1, 0, []), (.aload_n 0, 1, 0, []), (.getfield 101, 3, 0, [12, 56, 3, 1466]), (.aload_n 0, 1, 0, []), (.getfield 479, 3, 0, [12, 54, 0, 1464]), (.iload_n 2, 1, 0, []), (.iastore, 1, 0, []), (.aload_n 0, 1, 0, []), (.aload_n 0, 1, 0, []), (.getfield 479, 3, 0, [12, 54, 0, 1464]), (.iconst 1, 1, 1, []), (.iadd, 1, 0, []), (.putfield 479, 3, 0, [12, 54, 0, 1464]), (.aload_n 0, 1, 0, []), (.getfield 479, 3, 0, [12, 54, 0, 1464]), (.ireturn, 1, 0, [0])] := rfl
set_option maxRecDepth 100000 in
theorem q271_50 (E : mj_E) (d w c : Nat) (hi : Nat → Nat → Int32) (hl : Nat → Nat → Int64) (v1 : Int32) (v2 : Int32) : mj_den mj_P E d 271 50 [Value.ref 205, Value.int v1, Value.int v2] [] (mj_hw w c hi hl) = if 0 ≤ (hi 205 54) ∧ ((hi 205 54)).toNatClampNeg < 7 then if 0 ≤ (hi 205 54) ∧ ((hi 205 54)).toNatClampNeg < 7 then some (some (Value.int ((hi 205 54) + (1 : Int32))), (mj_hw w c (mj_u (mj_u (mj_u hi 234 (((hi 205 54)).toNatClampNeg) v1) 235 (((hi 205 54)).toNatClampNeg) v2) 205 54 ((hi 205 54) + (1 : Int32))) hl)) else none else none := by
  rw [mj_den_eq, f271_50]
  exact zt_aload_n rfl rfl (zt_getr (mjkd205 _ _ _ _) (mjhr205_55 w c) rfl (zt_aload_n rfl rfl (zt_geti (mjkd205 _ _ _ _) rfl rfl (zt_iload_n rfl rfl (zt_iast (mjkd234 _ _ _ _) (mjln234 _ _ _ _) rfl rfl (zt_aload_n rfl rfl (zt_getr (mjkd205 _ _ _ _) (mjhr205_56 w c) rfl (zt_aload_n rfl rfl (zt_geti (mjkd205 _ _ _ _) rfl rfl (zt_iload_n rfl rfl (zt_iast (mjkd235 _ _ _ _) (mjln235 _ _ _ _) rfl rfl (zt_aload_n rfl rfl (zt_aload_n rfl rfl (zt_geti (mjkd205 _ _ _ _) rfl rfl (zt_iconst rfl (zt_iadd rfl (zt_puti (mjkd205 _ _ _ _) rfl rfl (zt_aload_n rfl rfl (zt_geti (mjkd205 _ _ _ _) rfl rfl (zt_ireturn0))))))))))))))))))))
set_option maxRecDepth 100000 in
theorem f272_0 : mj_find (mj_P 272).2.2.2.2 0 = [(.aload_n 0, 1, 0, []), (.getfield 98, 3, 0, [12, 55, 3, 1465]), (.iload_n 2, 1, 0, []), (.iaload, 1, 0, []), (.istore_n 3, 1, 0, []), (.iconst 0, 1, 0, []), (.istore 4, 2, 0, [])] := rfl
set_option maxRecDepth 100000 in
theorem q272_0 (E : mj_E) (d w c : Nat) (hi : Nat → Nat → Int32) (hl : Nat → Nat → Int64) (v1 : Int32) (v2 : Int32) : mj_den mj_P E d 272 0 [Value.ref 205, Value.int v1, Value.int v2, Value.float 0, Value.float 0] [] (mj_hw w c hi hl) = if 0 ≤ v2 ∧ (v2).toNatClampNeg < 7 then mj_den mj_P E d 272 10 [Value.ref 205, Value.int v1, Value.int v2, Value.int (hi 234 ((v2).toNatClampNeg)), Value.int (0 : Int32)] [] (mj_hw w c hi hl) else none := by
  rw [mj_den_eq, f272_0]
  exact zt_aload_n rfl rfl (zt_getr (mjkd205 _ _ _ _) (mjhr205_55 w c) rfl (zt_iload_n rfl rfl (zt_iald (mjkd234 _ _ _ _) (mjln234 _ _ _ _) rfl rfl (zt_istore_n (Nat.le_of_ble_eq_true rfl) rfl rfl (zt_iconst rfl (zt_istore (Nat.le_of_ble_eq_true rfl) rfl rfl (zt_end rfl)))))))
set_option maxRecDepth 100000 in
theorem f272_10 : mj_find (mj_P 272).2.2.2.2 10 = [(.iload 4, 2, 0, []), (.aload_n 0, 1, 0, []), (.getfield 479, 3, 0, [12, 54, 0, 1464]), (.if_icmp .ge 29, 3, 0, [45]), (.aload_n 0, 1, 0, []), (.iload_n 1, 1, 0, []), (.iload 4, 2, 0, []), (.invokevirtual 327, 3, 0, [0, 157, 12, 2, 1, 1832, 1834, 87, 156, 1835])] := rfl
set_option maxRecDepth 100000 in
theorem q272_10 (E : mj_E) (d w c : Nat) (hi : Nat → Nat → Int32) (hl : Nat → Nat → Int64) (v1 : Int32) (v2 : Int32) (v3 : Int32) (v4 : Int32) : mj_den mj_P E d 272 10 [Value.ref 205, Value.int v1, Value.int v2, Value.int v3, Value.int v4] [] (mj_hw w c hi hl) = if (hi 205 54) ≤ v4 then mj_den mj_P E d 272 45 [Value.ref 205, Value.int v1, Value.int v2, Value.int v3, Value.int v4] [] (mj_hw w c hi hl) else mj_bi (mj_dc mj_P E d 157 [Value.ref 205, Value.int v1, Value.int v4] (mj_hw w c hi hl)) (fun x1 h1 => mj_den mj_P E d 272 26 [Value.ref 205, Value.int v1, Value.int v2, Value.int v3, Value.int v4] [Value.int x1] h1) := by
  rw [mj_den_eq, f272_10]
  exact zt_iload rfl rfl (zt_aload_n rfl rfl (zt_geti (mjkd205 _ _ _ _) rfl rfl (zt_icmp_ge rfl rfl (zt_aload_n rfl rfl (zt_iload_n rfl rfl (zt_iload rfl rfl (zt_call0_1 rfl (mjkd205 _ _ _ _) (Nat.le_of_ble_eq_true rfl) rfl rfl)))))))
set_option maxRecDepth 100000 in
theorem f272_26 : mj_find (mj_P 272).2.2.2.2 26 = [(.ifCond .eq 13, 3, 0, [39]), (.iload_n 3, 1, 0, []), (.aload_n 0, 1, 0, []), (.getfield 101, 3, 0, [12, 56, 3, 1466]), (.iload 4, 2, 0, []), (.iaload, 1, 0, []), (.isub, 1, 0, []), (.istore_n 3, 1, 0, [])] := rfl
set_option maxRecDepth 100000 in
theorem q272_26 (E : mj_E) (d w c : Nat) (hi : Nat → Nat → Int32) (hl : Nat → Nat → Int64) (v1 : Int32) (v2 : Int32) (v3 : Int32) (v4 : Int32) (s0 : Int32) : mj_den mj_P E d 272 26 [Value.ref 205, Value.int v1, Value.int v2, Value.int v3, Value.int v4] [Value.int s0] (mj_hw w c hi hl) = if s0 = 0 then mj_den mj_P E d 272 39 [Value.ref 205, Value.int v1, Value.int v2, Value.int v3, Value.int v4] [] (mj_hw w c hi hl) else if 0 ≤ v4 ∧ (v4).toNatClampNeg < 7 then mj_den mj_P E d 272 39 [Value.ref 205, Value.int v1, Value.int v2, Value.int (v3 - (hi 235 ((v4).toNatClampNeg))), Value.int v4] [] (mj_hw w c hi hl) else none := by
  rw [mj_den_eq, f272_26]
  exact zt_if_eq rfl rfl (zt_iload_n rfl rfl (zt_aload_n rfl rfl (zt_getr (mjkd205 _ _ _ _) (mjhr205_56 w c) rfl (zt_iload rfl rfl (zt_iald (mjkd235 _ _ _ _) (mjln235 _ _ _ _) rfl rfl (zt_isub rfl (zt_istore_n (Nat.le_of_ble_eq_true rfl) rfl rfl (zt_end rfl))))))))
set_option maxRecDepth 100000 in
theorem f272_39 : mj_find (mj_P 272).2.2.2.2 39 = [(.iinc 4 1, 3, 1, []), (.goto (-32), 3, 0, [10])] := rfl
set_option maxRecDepth 100000 in
theorem q272_39 (E : mj_E) (d w c : Nat) (hi : Nat → Nat → Int32) (hl : Nat → Nat → Int64) (v1 : Int32) (v2 : Int32) (v3 : Int32) (v4 : Int32) : mj_den mj_P E d 272 39 [Value.ref 205, Value.int v1, Value.int v2, Value.int v3, Value.int v4] [] (mj_hw w c hi hl) = mj_den mj_P E d 272 10 [Value.ref 205, Value.int v1, Value.int v2, Value.int v3, Value.int (v4 + (1 : Int32))] [] (mj_hw w c hi hl) := by
  rw [mj_den_eq, f272_39]
  exact zt_iinc rfl (Nat.le_of_ble_eq_true rfl) rfl rfl (zt_goto rfl)
set_option maxRecDepth 100000 in
theorem f272_45 : mj_find (mj_P 272).2.2.2.2 45 = [(.aload_n 0, 1, 0, []), (.iconst 0, 1, 0, []), (.iload_n 3, 1, 0, []), (.invokevirtual 383, 3, 0, [0, 154, 12, 2, 1, 1898, 1900, 103, 156, 1901])] := rfl
set_option maxRecDepth 100000 in
theorem q272_45 (E : mj_E) (d w c : Nat) (hi : Nat → Nat → Int32) (hl : Nat → Nat → Int64) (v1 : Int32) (v2 : Int32) (v3 : Int32) (v4 : Int32) : mj_den mj_P E d 272 45 [Value.ref 205, Value.int v1, Value.int v2, Value.int v3, Value.int v4] [] (mj_hw w c hi hl) = mj_bi (mj_dc mj_P E d 154 [Value.ref 205, Value.int (0 : Int32), Value.int v3] (mj_hw w c hi hl)) (fun x1 h1 => mj_den mj_P E d 272 51 [Value.ref 205, Value.int v1, Value.int v2, Value.int v3, Value.int v4] [Value.int x1] h1) := by
  rw [mj_den_eq, f272_45]
  exact zt_aload_n rfl rfl (zt_iconst rfl (zt_iload_n rfl rfl (zt_call0_1 rfl (mjkd205 _ _ _ _) (Nat.le_of_ble_eq_true rfl) rfl rfl)))
set_option maxRecDepth 100000 in
theorem f272_51 : mj_find (mj_P 272).2.2.2.2 51 = [(.aload_n 0, 1, 0, []), (.getfield 104, 3, 0, [12, 57, 3, 1467]), (.iload_n 1, 1, 0, []), (.iconst 1, 1, 1, []), (.iload_n 2, 1, 0, []), (.ishl, 1, 0, []), (.ior, 1, 0, []), (.iaload, 1, 0, []), (.iadd, 1, 0, []), (.ireturn, 1, 0, [0])] := rfl
set_option maxRecDepth 100000 in
theorem q272_51 (E : mj_E) (d w c : Nat) (hi : Nat → Nat → Int32) (hl : Nat → Nat → Int64) (v1 : Int32) (v2 : Int32) (v3 : Int32) (v4 : Int32) (s0 : Int32) : mj_den mj_P E d 272 51 [Value.ref 205, Value.int v1, Value.int v2, Value.int v3, Value.int v4] [Value.int s0] (mj_hw w c hi hl) = if 0 ≤ (v1 ||| ((1 : Int32) <<< (v2 &&& 31))) ∧ ((v1 ||| ((1 : Int32) <<< (v2 &&& 31)))).toNatClampNeg < 128 then some (some (Value.int (s0 + (hi 236 (((v1 ||| ((1 : Int32) <<< (v2 &&& 31)))).toNatClampNeg)))), (mj_hw w c hi hl)) else none := by
  rw [mj_den_eq, f272_51]
  exact zt_aload_n rfl rfl (zt_getr (mjkd205 _ _ _ _) (mjhr205_57 w c) rfl (zt_iload_n rfl rfl (zt_iconst rfl (zt_iload_n rfl rfl (zt_ishl rfl (zt_ior rfl (zt_iald (mjkd236 _ _ _ _) (mjln236 _ _ _ _) rfl rfl (zt_iadd rfl (zt_ireturn0)))))))))
set_option maxRecDepth 100000 in
theorem f273_0 : mj_find (mj_P 273).2.2.2.2 0 = [(.iconst 1, 1, 1, []), (.aload_n 0, 1, 0, []), (.getfield 479, 3, 0, [12, 54, 0, 1464]), (.ishl, 1, 0, []), (.iconst 1, 1, 1, []), (.isub, 1, 0, []), (.istore_n 1, 1, 0, [])] := rfl
set_option maxRecDepth 100000 in
theorem q273_0 (E : mj_E) (d w c : Nat) (hi : Nat → Nat → Int32) (hl : Nat → Nat → Int64) : mj_den mj_P E d 273 0 [Value.ref 205, Value.float 0, Value.float 0, Value.float 0] [] (mj_hw w c hi hl) = mj_den mj_P E d 273 9 [Value.ref 205, Value.int (((1 : Int32) <<< ((hi 205 54) &&& 31)) - (1 : Int32)), Value.float 0, Value.float 0] [] (mj_hw w c hi hl) := by
  rw [mj_den_eq, f273_0]
  exact zt_iconst rfl (zt_aload_n rfl rfl (zt_geti (mjkd205 _ _ _ _) rfl rfl (zt_ishl rfl (zt_iconst rfl (zt_isub rfl (zt_istore_n (Nat.le_of_ble_eq_true rfl) rfl rfl (zt_end rfl)))))))
set_option maxRecDepth 100000 in
theorem f273_9 : mj_find (mj_P 273).2.2.2.2 9 = [(.iload_n 1, 1, 0, []), (.ifCond .lt 55, 3, 0, [65]), (.iconst 0, 1, 0, []), (.istore_n 2, 1, 0, []), (.iconst 0, 1, 0, []), (.istore_n 3, 1, 0, [])] := rfl
set_option maxRecDepth 100000 in
theorem q273_9 (E : mj_E) (d w c : Nat) (hi : Nat → Nat → Int32) (hl : Nat → Nat → Int64) (v1 : Int32) : mj_den mj_P E d 273 9 [Value.ref 205, Value.int v1, Value.float 0, Value.float 0] [] (mj_hw w c hi hl) = if v1 < 0 then mj_den mj_P E d 273 65 [Value.ref 205, Value.int v1, Value.float 0, Value.float 0] [] (mj_hw w c hi hl) else mj_den mj_P E d 273 17 [Value.ref 205, Value.int v1, Value.int (0 : Int32), Value.int (0 : Int32)] [] (mj_hw w c hi hl) := by
  rw [mj_den_eq, f273_9]
  exact zt_iload_n rfl rfl (zt_if_lt rfl rfl (zt_iconst rfl (zt_istore_n (Nat.le_of_ble_eq_true rfl) rfl rfl (zt_iconst rfl (zt_istore_n (Nat.le_of_ble_eq_true rfl) rfl rfl (zt_end rfl))))))
set_option maxRecDepth 100000 in
theorem q273_9_1 (E : mj_E) (d w c : Nat) (hi : Nat → Nat → Int32) (hl : Nat → Nat → Int64) (v1 : Int32) (v2 : Int32) (v3 : Int32) : mj_den mj_P E d 273 9 [Value.ref 205, Value.int v1, Value.int v2, Value.int v3] [] (mj_hw w c hi hl) = if v1 < 0 then mj_den mj_P E d 273 65 [Value.ref 205, Value.int v1, Value.int v2, Value.int v3] [] (mj_hw w c hi hl) else mj_den mj_P E d 273 17 [Value.ref 205, Value.int v1, Value.int (0 : Int32), Value.int (0 : Int32)] [] (mj_hw w c hi hl) := by
  rw [mj_den_eq, f273_9]
  exact zt_iload_n rfl rfl (zt_if_lt rfl rfl (zt_iconst rfl (zt_istore_n (Nat.le_of_ble_eq_true rfl) rfl rfl (zt_iconst rfl (zt_istore_n (Nat.le_of_ble_eq_true rfl) rfl rfl (zt_end rfl))))))
set_option maxRecDepth 100000 in
theorem f273_17 : mj_find (mj_P 273).2.2.2.2 17 = [(.iload_n 3, 1, 0, []), (.aload_n 0, 1, 0, []), (.getfield 479, 3, 0, [12, 54, 0, 1464]), (.if_icmp .ge 30, 3, 0, [52]), (.aload_n 0, 1, 0, []), (.iload_n 1, 1, 0, []), (.iload_n 3, 1, 0, []), (.invokevirtual 327, 3, 0, [0, 157, 12, 2, 1, 1832, 1834, 87, 156, 1835])] := rfl
set_option maxRecDepth 100000 in
theorem q273_17 (E : mj_E) (d w c : Nat) (hi : Nat → Nat → Int32) (hl : Nat → Nat → Int64) (v1 : Int32) (v2 : Int32) (v3 : Int32) : mj_den mj_P E d 273 17 [Value.ref 205, Value.int v1, Value.int v2, Value.int v3] [] (mj_hw w c hi hl) = if (hi 205 54) ≤ v3 then mj_den mj_P E d 273 52 [Value.ref 205, Value.int v1, Value.int v2, Value.int v3] [] (mj_hw w c hi hl) else mj_bi (mj_dc mj_P E d 157 [Value.ref 205, Value.int v1, Value.int v3] (mj_hw w c hi hl)) (fun x1 h1 => mj_den mj_P E d 273 31 [Value.ref 205, Value.int v1, Value.int v2, Value.int v3] [Value.int x1] h1) := by
  rw [mj_den_eq, f273_17]
  exact zt_iload_n rfl rfl (zt_aload_n rfl rfl (zt_geti (mjkd205 _ _ _ _) rfl rfl (zt_icmp_ge rfl rfl (zt_aload_n rfl rfl (zt_iload_n rfl rfl (zt_iload_n rfl rfl (zt_call0_1 rfl (mjkd205 _ _ _ _) (Nat.le_of_ble_eq_true rfl) rfl rfl)))))))
set_option maxRecDepth 100000 in
theorem f273_31 : mj_find (mj_P 273).2.2.2.2 31 = [(.ifCond .ne 15, 3, 0, [46]), (.aload_n 0, 1, 0, []), (.iload_n 2, 1, 0, []), (.aload_n 0, 1, 0, []), (.iload_n 1, 1, 0, []), (.iload_n 3, 1, 0, []), (.invokevirtual 482, 3, 0, [0, 272, 12, 2, 1, 2105, 2107, 131, 156, 2108])] := rfl
set_option maxRecDepth 100000 in
theorem q273_31 (E : mj_E) (d w c : Nat) (hi : Nat → Nat → Int32) (hl : Nat → Nat → Int64) (v1 : Int32) (v2 : Int32) (v3 : Int32) (s0 : Int32) : mj_den mj_P E d 273 31 [Value.ref 205, Value.int v1, Value.int v2, Value.int v3] [Value.int s0] (mj_hw w c hi hl) = if ¬ s0 = 0 then mj_den mj_P E d 273 46 [Value.ref 205, Value.int v1, Value.int v2, Value.int v3] [] (mj_hw w c hi hl) else mj_bi (mj_dc mj_P E d 272 [Value.ref 205, Value.int v1, Value.int v3] (mj_hw w c hi hl)) (fun x1 h1 => mj_den mj_P E d 273 42 [Value.ref 205, Value.int v1, Value.int v2, Value.int v3] [Value.int x1, Value.int v2, Value.ref 205] h1) := by
  rw [mj_den_eq, f273_31]
  exact zt_if_ne rfl rfl (zt_aload_n rfl rfl (zt_iload_n rfl rfl (zt_aload_n rfl rfl (zt_iload_n rfl rfl (zt_iload_n rfl rfl (zt_call0_1 rfl (mjkd205 _ _ _ _) (Nat.le_of_ble_eq_true rfl) rfl rfl))))))
set_option maxRecDepth 100000 in
theorem f273_42 : mj_find (mj_P 273).2.2.2.2 42 = [(.invokevirtual 383, 3, 0, [0, 154, 12, 2, 1, 1898, 1900, 103, 156, 1901])] := rfl
set_option maxRecDepth 100000 in
theorem q273_42 (E : mj_E) (d w c : Nat) (hi : Nat → Nat → Int32) (hl : Nat → Nat → Int64) (v1 : Int32) (v2 : Int32) (v3 : Int32) (s0 : Int32) (s1 : Int32) : mj_den mj_P E d 273 42 [Value.ref 205, Value.int v1, Value.int v2, Value.int v3] [Value.int s0, Value.int s1, Value.ref 205] (mj_hw w c hi hl) = mj_bi (mj_dc mj_P E d 154 [Value.ref 205, Value.int s1, Value.int s0] (mj_hw w c hi hl)) (fun x1 h1 => mj_den mj_P E d 273 45 [Value.ref 205, Value.int v1, Value.int v2, Value.int v3] [Value.int x1] h1) := by
  rw [mj_den_eq, f273_42]
  exact zt_call0_1 rfl (mjkd205 _ _ _ _) (Nat.le_of_ble_eq_true rfl) rfl rfl
set_option maxRecDepth 100000 in
theorem f273_45 : mj_find (mj_P 273).2.2.2.2 45 = [(.istore_n 2, 1, 0, [])] := rfl
set_option maxRecDepth 100000 in
theorem q273_45 (E : mj_E) (d w c : Nat) (hi : Nat → Nat → Int32) (hl : Nat → Nat → Int64) (v1 : Int32) (v2 : Int32) (v3 : Int32) (s0 : Int32) : mj_den mj_P E d 273 45 [Value.ref 205, Value.int v1, Value.int v2, Value.int v3] [Value.int s0] (mj_hw w c hi hl) = mj_den mj_P E d 273 46 [Value.ref 205, Value.int v1, Value.int s0, Value.int v3] [] (mj_hw w c hi hl) := by
  rw [mj_den_eq, f273_45]
  exact zt_istore_n (Nat.le_of_ble_eq_true rfl) rfl rfl (zt_end rfl)
set_option maxRecDepth 100000 in
theorem f273_46 : mj_find (mj_P 273).2.2.2.2 46 = [(.iinc 3 1, 3, 1, []), (.goto (-32), 3, 0, [17])] := rfl
set_option maxRecDepth 100000 in
theorem q273_46 (E : mj_E) (d w c : Nat) (hi : Nat → Nat → Int32) (hl : Nat → Nat → Int64) (v1 : Int32) (v2 : Int32) (v3 : Int32) : mj_den mj_P E d 273 46 [Value.ref 205, Value.int v1, Value.int v2, Value.int v3] [] (mj_hw w c hi hl) = mj_den mj_P E d 273 17 [Value.ref 205, Value.int v1, Value.int v2, Value.int (v3 + (1 : Int32))] [] (mj_hw w c hi hl) := by
  rw [mj_den_eq, f273_46]
  exact zt_iinc rfl (Nat.le_of_ble_eq_true rfl) rfl rfl (zt_goto rfl)
set_option maxRecDepth 100000 in
theorem f273_52 : mj_find (mj_P 273).2.2.2.2 52 = [(.aload_n 0, 1, 0, []), (.getfield 104, 3, 0, [12, 57, 3, 1467]), (.iload_n 1, 1, 0, []), (.iload_n 2, 1, 0, []), (.iastore, 1, 0, []), (.iinc 1 (-1), 3, (-1), []), (.goto (-53), 3, 0, [9])] := rfl
set_option maxRecDepth 100000 in
theorem q273_52 (E : mj_E) (d w c : Nat) (hi : Nat → Nat → Int32) (hl : Nat → Nat → Int64) (v1 : Int32) (v2 : Int32) (v3 : Int32) : mj_den mj_P E d 273 52 [Value.ref 205, Value.int v1, Value.int v2, Value.int v3] [] (mj_hw w c hi hl) = if 0 ≤ v1 ∧ (v1).toNatClampNeg < 128 then mj_den mj_P E d 273 9 [Value.ref 205, Value.int (v1 + (-1 : Int32)), Value.int v2, Value.int v3] [] (mj_hw w c (mj_u hi 236 ((v1).toNatClampNeg) v2) hl) else none := by
  rw [mj_den_eq, f273_52]
  exact zt_aload_n rfl rfl (zt_getr (mjkd205 _ _ _ _) (mjhr205_57 w c) rfl (zt_iload_n rfl rfl (zt_iload_n rfl rfl (zt_iast (mjkd236 _ _ _ _) (mjln236 _ _ _ _) rfl rfl (zt_iinc rfl (Nat.le_of_ble_eq_true rfl) rfl rfl (zt_goto rfl))))))
set_option maxRecDepth 100000 in
theorem f273_65 : mj_find (mj_P 273).2.2.2.2 65 = [(.return_, 1, 0, [])] := rfl
set_option maxRecDepth 100000 in
theorem q273_65 (E : mj_E) (d w c : Nat) (hi : Nat → Nat → Int32) (hl : Nat → Nat → Int64) (v1 : Int32) (v2 : Int32) (v3 : Int32) : mj_den mj_P E d 273 65 [Value.ref 205, Value.int v1, Value.int v2, Value.int v3] [] (mj_hw w c hi hl) = some (none, (mj_hw w c hi hl)) := by
  rw [mj_den_eq, f273_65]
  exact zt_return
set_option maxRecDepth 100000 in
theorem q273_65_1 (E : mj_E) (d w c : Nat) (hi : Nat → Nat → Int32) (hl : Nat → Nat → Int64) (v1 : Int32) : mj_den mj_P E d 273 65 [Value.ref 205, Value.int v1, Value.float 0, Value.float 0] [] (mj_hw w c hi hl) = some (none, (mj_hw w c hi hl)) := by
  rw [mj_den_eq, f273_65]
  exact zt_return
