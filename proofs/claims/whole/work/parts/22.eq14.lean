set_option maxRecDepth 100000 in
theorem f235_0 : mj_find (mj_P 235).2.2.2.2 0 = [(.aload_n 0, 1, 0, []), (.iconst 0, 1, 0, []), (.putfield 122, 3, 0, [12, 0, 0, 1410]), (.aload_n 0, 1, 0, []), (.iload_n 1, 1, 0, []), (.iconst 0, 1, 0, []), (.sipush 199, 3, 199, []), (.invokevirtual 144, 3, 0, [0, 152, 12, 3, 1, 1624, 1626, 42, 156, 1627])] := rfl
set_option maxRecDepth 100000 in
theorem q235_0 (E : mj_E) (d w c : Nat) (hi : Nat → Nat → Int32) (hl : Nat → Nat → Int64) (v1 : Int32) : mj_den mj_P E d 235 0 [Value.ref 205, Value.int v1] [] (mj_hw w c hi hl) = mj_bi (mj_dc mj_P E d 152 [Value.ref 205, Value.int v1, Value.int (0 : Int32), Value.int (199 : Int32)] (mj_hw w c (mj_u hi 205 0 (0 : Int32)) hl)) (fun x1 h1 => mj_den mj_P E d 235 14 [Value.ref 205, Value.int v1] [Value.int x1] h1) := by
  rw [mj_den_eq, f235_0]
  exact zt_aload_n rfl rfl (zt_iconst rfl (zt_puti (mjkd205 _ _ _ _) rfl rfl (zt_aload_n rfl rfl (zt_iload_n rfl rfl (zt_iconst rfl (zt_sipush rfl (zt_call0_1 rfl (mjkd205 _ _ _ _) (Nat.le_of_ble_eq_true rfl) rfl rfl)))))))
set_option maxRecDepth 100000 in
theorem f235_14 : mj_find (mj_P 235).2.2.2.2 14 = [(.ifCond .eq 11, 3, 0, [25]), (.aload_n 0, 1, 0, []), (.iload_n 1, 1, 0, []), (.invokevirtual 334, 3, 0, [0, 219, 12, 1, 1, 1828, 1830, 86, 156, 1831])] := rfl
set_option maxRecDepth 100000 in
theorem q235_14 (E : mj_E) (d w c : Nat) (hi : Nat → Nat → Int32) (hl : Nat → Nat → Int64) (v1 : Int32) (s0 : Int32) : mj_den mj_P E d 235 14 [Value.ref 205, Value.int v1] [Value.int s0] (mj_hw w c hi hl) = if s0 = 0 then mj_den mj_P E d 235 25 [Value.ref 205, Value.int v1] [] (mj_hw w c hi hl) else mj_bi (mj_dc mj_P E d 219 [Value.ref 205, Value.int v1] (mj_hw w c hi hl)) (fun x1 h1 => mj_den mj_P E d 235 22 [Value.ref 205, Value.int v1] [Value.int x1] h1) := by
  rw [mj_den_eq, f235_14]
  exact zt_if_eq rfl rfl (zt_aload_n rfl rfl (zt_iload_n rfl rfl (zt_call0_1 rfl (mjkd205 _ _ _ _) (Nat.le_of_ble_eq_true rfl) rfl rfl)))
set_option maxRecDepth 100000 in
theorem f235_22 : mj_find (mj_P 235).2.2.2.2 22 = [(.goto 4, 3, 0, [26])] := rfl
set_option maxRecDepth 100000 in
theorem q235_22 (E : mj_E) (d w c : Nat) (hi : Nat → Nat → Int32) (hl : Nat → Nat → Int64) (v1 : Int32) (s0 : Int32) : mj_den mj_P E d 235 22 [Value.ref 205, Value.int v1] [Value.int s0] (mj_hw w c hi hl) = mj_den mj_P E d 235 26 [Value.ref 205, Value.int v1] [Value.int s0] (mj_hw w c hi hl) := by
  rw [mj_den_eq, f235_22]
  exact zt_goto rfl
set_option maxRecDepth 100000 in
theorem f235_25 : mj_find (mj_P 235).2.2.2.2 25 = [(.iconst (-1), 1, (-1), [])] := rfl
set_option maxRecDepth 100000 in
theorem q235_25 (E : mj_E) (d w c : Nat) (hi : Nat → Nat → Int32) (hl : Nat → Nat → Int64) (v1 : Int32) : mj_den mj_P E d 235 25 [Value.ref 205, Value.int v1] [] (mj_hw w c hi hl) = mj_den mj_P E d 235 26 [Value.ref 205, Value.int v1] [Value.int (-1 : Int32)] (mj_hw w c hi hl) := by
  rw [mj_den_eq, f235_25]
  exact zt_iconst rfl (zt_end rfl)
set_option maxRecDepth 100000 in
theorem f235_26 : mj_find (mj_P 235).2.2.2.2 26 = [(.ireturn, 1, 0, [0])] := rfl
set_option maxRecDepth 100000 in
theorem q235_26 (E : mj_E) (d w c : Nat) (hi : Nat → Nat → Int32) (hl : Nat → Nat → Int64) (v1 : Int32) (s0 : Int32) : mj_den mj_P E d 235 26 [Value.ref 205, Value.int v1] [Value.int s0] (mj_hw w c hi hl) = some (some (Value.int s0), (mj_hw w c hi hl)) := by
  rw [mj_den_eq, f235_26]
  exact zt_ireturn0
set_option maxRecDepth 100000 in
theorem f236_0 : mj_find (mj_P 236).2.2.2.2 0 = [(.aload_n 0, 1, 0, []), (.iconst 0, 1, 0, []), (.putfield 122, 3, 0, [12, 0, 0, 1410]), (.aload_n 0, 1, 0, []), (.iload_n 1, 1, 0, []), (.iconst 0, 1, 0, []), (.aload_n 0, 1, 0, []), (.getfield 7, 3, 0, [12, 1, 3, 1411]), (.iconst 2, 1, 2, []), (.iaload, 1, 0, []), (.iconst 1, 1, 1, []), (.isub, 1, 0, []), (.invokevirtual 144, 3, 0, [0, 152, 12, 3, 1, 1624, 1626, 42, 156, 1627])] := rfl
set_option maxRecDepth 100000 in
theorem q236_0 (E : mj_E) (d w c : Nat) (hi : Nat → Nat → Int32) (hl : Nat → Nat → Int64) (v1 : Int32) (v2 : Int32) : mj_den mj_P E d 236 0 [Value.ref 205, Value.int v1, Value.int v2] [] (mj_hw w c hi hl) = if 0 ≤ (2 : Int32) ∧ ((2 : Int32)).toNatClampNeg < 57 then mj_bi (mj_dc mj_P E d 152 [Value.ref 205, Value.int v1, Value.int (0 : Int32), Value.int ((hi 206 (((2 : Int32)).toNatClampNeg)) - (1 : Int32))] (mj_hw w c (mj_u hi 205 0 (0 : Int32)) hl)) (fun x1 h1 => mj_den mj_P E d 236 19 [Value.ref 205, Value.int v1, Value.int v2] [Value.int x1] h1) else none := by
  rw [mj_den_eq, f236_0]
  exact zt_aload_n rfl rfl (zt_iconst rfl (zt_puti (mjkd205 _ _ _ _) rfl rfl (zt_aload_n rfl rfl (zt_iload_n rfl rfl (zt_iconst rfl (zt_aload_n rfl rfl (zt_getr (mjkd205 _ _ _ _) (mjhr205_1 w c) rfl (zt_iconst rfl (zt_iald (mjkd206 _ _ _ _) (mjln206 _ _ _ _) rfl rfl (zt_iconst rfl (zt_isub rfl (zt_call0_1 rfl (mjkd205 _ _ _ _) (Nat.le_of_ble_eq_true rfl) rfl rfl))))))))))))
set_option maxRecDepth 100000 in
theorem f236_19 : mj_find (mj_P 236).2.2.2.2 19 = [(.ifCond .eq 26, 3, 0, [45]), (.aload_n 0, 1, 0, []), (.iload_n 2, 1, 0, []), (.iconst 0, 1, 0, []), (.iconst 3, 1, 3, []), (.invokevirtual 144, 3, 0, [0, 152, 12, 3, 1, 1624, 1626, 42, 156, 1627])] := rfl
set_option maxRecDepth 100000 in
theorem q236_19 (E : mj_E) (d w c : Nat) (hi : Nat → Nat → Int32) (hl : Nat → Nat → Int64) (v1 : Int32) (v2 : Int32) (s0 : Int32) : mj_den mj_P E d 236 19 [Value.ref 205, Value.int v1, Value.int v2] [Value.int s0] (mj_hw w c hi hl) = if s0 = 0 then mj_den mj_P E d 236 45 [Value.ref 205, Value.int v1, Value.int v2] [] (mj_hw w c hi hl) else mj_bi (mj_dc mj_P E d 152 [Value.ref 205, Value.int v2, Value.int (0 : Int32), Value.int (3 : Int32)] (mj_hw w c hi hl)) (fun x1 h1 => mj_den mj_P E d 236 29 [Value.ref 205, Value.int v1, Value.int v2] [Value.int x1] h1) := by
  rw [mj_den_eq, f236_19]
  exact zt_if_eq rfl rfl (zt_aload_n rfl rfl (zt_iload_n rfl rfl (zt_iconst rfl (zt_iconst rfl (zt_call0_1 rfl (mjkd205 _ _ _ _) (Nat.le_of_ble_eq_true rfl) rfl rfl)))))
set_option maxRecDepth 100000 in
theorem f236_29 : mj_find (mj_P 236).2.2.2.2 29 = [(.ifCond .eq 16, 3, 0, [45]), (.aload_n 0, 1, 0, []), (.getfield 31, 3, 0, [12, 12, 3, 1422]), (.iconst 4, 1, 4, []), (.iload_n 1, 1, 0, []), (.imul, 1, 0, []), (.iload_n 2, 1, 0, []), (.iadd, 1, 0, []), (.iaload, 1, 0, []), (.goto 4, 3, 0, [46])] := rfl
set_option maxRecDepth 100000 in
theorem q236_29 (E : mj_E) (d w c : Nat) (hi : Nat → Nat → Int32) (hl : Nat → Nat → Int64) (v1 : Int32) (v2 : Int32) (s0 : Int32) : mj_den mj_P E d 236 29 [Value.ref 205, Value.int v1, Value.int v2] [Value.int s0] (mj_hw w c hi hl) = if s0 = 0 then mj_den mj_P E d 236 45 [Value.ref 205, Value.int v1, Value.int v2] [] (mj_hw w c hi hl) else if 0 ≤ (((4 : Int32) * v1) + v2) ∧ ((((4 : Int32) * v1) + v2)).toNatClampNeg < 600 then mj_den mj_P E d 236 46 [Value.ref 205, Value.int v1, Value.int v2] [Value.int (hi 213 (((((4 : Int32) * v1) + v2)).toNatClampNeg))] (mj_hw w c hi hl) else none := by
  rw [mj_den_eq, f236_29]
  exact zt_if_eq rfl rfl (zt_aload_n rfl rfl (zt_getr (mjkd205 _ _ _ _) (mjhr205_12 w c) rfl (zt_iconst rfl (zt_iload_n rfl rfl (zt_imul rfl (zt_iload_n rfl rfl (zt_iadd rfl (zt_iald (mjkd213 _ _ _ _) (mjln213 _ _ _ _) rfl rfl (zt_goto rfl)))))))))
set_option maxRecDepth 100000 in
theorem f236_45 : mj_find (mj_P 236).2.2.2.2 45 = [(.iconst (-1), 1, (-1), [])] := rfl
set_option maxRecDepth 100000 in
theorem q236_45 (E : mj_E) (d w c : Nat) (hi : Nat → Nat → Int32) (hl : Nat → Nat → Int64) (v1 : Int32) (v2 : Int32) : mj_den mj_P E d 236 45 [Value.ref 205, Value.int v1, Value.int v2] [] (mj_hw w c hi hl) = mj_den mj_P E d 236 46 [Value.ref 205, Value.int v1, Value.int v2] [Value.int (-1 : Int32)] (mj_hw w c hi hl) := by
  rw [mj_den_eq, f236_45]
  exact zt_iconst rfl (zt_end rfl)
set_option maxRecDepth 100000 in
theorem f236_46 : mj_find (mj_P 236).2.2.2.2 46 = [(.ireturn, 1, 0, [0])] := rfl
set_option maxRecDepth 100000 in
theorem q236_46 (E : mj_E) (d w c : Nat) (hi : Nat → Nat → Int32) (hl : Nat → Nat → Int64) (v1 : Int32) (v2 : Int32) (s0 : Int32) : mj_den mj_P E d 236 46 [Value.ref 205, Value.int v1, Value.int v2] [Value.int s0] (mj_hw w c hi hl) = some (some (Value.int s0), (mj_hw w c hi hl)) := by
  rw [mj_den_eq, f236_46]
  exact zt_ireturn0
set_option maxRecDepth 100000 in
theorem f237_0 : mj_find (mj_P 237).2.2.2.2 0 = [(.aload_n 0, 1, 0, []), (.iconst 0, 1, 0, []), (.putfield 122, 3, 0, [12, 0, 0, 1410]), (.aload_n 0, 1, 0, []), (.iload_n 1, 1, 0, []), (.invokevirtual 152, 3, 0, [0, 165, 12, 1, 1, 1644, 1646, 45, 156, 1647])] := rfl
set_option maxRecDepth 100000 in
theorem q237_0 (E : mj_E) (d w c : Nat) (hi : Nat → Nat → Int32) (hl : Nat → Nat → Int64) (v1 : Int32) (v2 : Int32) : mj_den mj_P E d 237 0 [Value.ref 205, Value.int v1, Value.int v2, Value.float 0, Value.float 0] [] (mj_hw w c hi hl) = mj_bi (mj_dc mj_P E d 165 [Value.ref 205, Value.int v1] (mj_hw w c (mj_u hi 205 0 (0 : Int32)) hl)) (fun x1 h1 => mj_den mj_P E d 237 10 [Value.ref 205, Value.int v1, Value.int v2, Value.float 0, Value.float 0] [Value.int x1] h1) := by
  rw [mj_den_eq, f237_0]
  exact zt_aload_n rfl rfl (zt_iconst rfl (zt_puti (mjkd205 _ _ _ _) rfl rfl (zt_aload_n rfl rfl (zt_iload_n rfl rfl (zt_call0_1 rfl (mjkd205 _ _ _ _) (Nat.le_of_ble_eq_true rfl) rfl rfl)))))
set_option maxRecDepth 100000 in
theorem f237_10 : mj_find (mj_P 237).2.2.2.2 10 = [(.ifCond .eq 13, 3, 0, [23]), (.aload_n 0, 1, 0, []), (.iload_n 2, 1, 0, []), (.iconst 0, 1, 0, []), (.iconst 2, 1, 2, []), (.invokevirtual 144, 3, 0, [0, 152, 12, 3, 1, 1624, 1626, 42, 156, 1627])] := rfl
set_option maxRecDepth 100000 in
theorem q237_10 (E : mj_E) (d w c : Nat) (hi : Nat → Nat → Int32) (hl : Nat → Nat → Int64) (v1 : Int32) (v2 : Int32) (s0 : Int32) : mj_den mj_P E d 237 10 [Value.ref 205, Value.int v1, Value.int v2, Value.float 0, Value.float 0] [Value.int s0] (mj_hw w c hi hl) = if s0 = 0 then mj_den mj_P E d 237 23 [Value.ref 205, Value.int v1, Value.int v2, Value.float 0, Value.float 0] [] (mj_hw w c hi hl) else mj_bi (mj_dc mj_P E d 152 [Value.ref 205, Value.int v2, Value.int (0 : Int32), Value.int (2 : Int32)] (mj_hw w c hi hl)) (fun x1 h1 => mj_den mj_P E d 237 20 [Value.ref 205, Value.int v1, Value.int v2, Value.float 0, Value.float 0] [Value.int x1] h1) := by
  rw [mj_den_eq, f237_10]
  exact zt_if_eq rfl rfl (zt_aload_n rfl rfl (zt_iload_n rfl rfl (zt_iconst rfl (zt_iconst rfl (zt_call0_1 rfl (mjkd205 _ _ _ _) (Nat.le_of_ble_eq_true rfl) rfl rfl)))))
set_option maxRecDepth 100000 in
theorem f237_20 : mj_find (mj_P 237).2.2.2.2 20 = [(.ifCond .ne 5, 3, 0, [25])] := rfl
set_option maxRecDepth 100000 in
theorem q237_20 (E : mj_E) (d w c : Nat) (hi : Nat → Nat → Int32) (hl : Nat → Nat → Int64) (v1 : Int32) (v2 : Int32) (s0 : Int32) : mj_den mj_P E d 237 20 [Value.ref 205, Value.int v1, Value.int v2, Value.float 0, Value.float 0] [Value.int s0] (mj_hw w c hi hl) = if ¬ s0 = 0 then mj_den mj_P E d 237 25 [Value.ref 205, Value.int v1, Value.int v2, Value.float 0, Value.float 0] [] (mj_hw w c hi hl) else mj_den mj_P E d 237 23 [Value.ref 205, Value.int v1, Value.int v2, Value.float 0, Value.float 0] [] (mj_hw w c hi hl) := by
  rw [mj_den_eq, f237_20]
  exact zt_if_ne rfl rfl (zt_end rfl)
set_option maxRecDepth 100000 in
theorem f237_23 : mj_find (mj_P 237).2.2.2.2 23 = [(.iconst (-1), 1, (-1), []), (.ireturn, 1, 0, [0])] := rfl
set_option maxRecDepth 100000 in
theorem q237_23 (E : mj_E) (d w c : Nat) (hi : Nat → Nat → Int32) (hl : Nat → Nat → Int64) (v1 : Int32) (v2 : Int32) : mj_den mj_P E d 237 23 [Value.ref 205, Value.int v1, Value.int v2, Value.float 0, Value.float 0] [] (mj_hw w c hi hl) = some (some (Value.int (-1 : Int32)), (mj_hw w c hi hl)) := by
  rw [mj_den_eq, f237_23]
  exact zt_iconst rfl (zt_ireturn0)
set_option maxRecDepth 100000 in
theorem f237_25 : mj_find (mj_P 237).2.2.2.2 25 = [(.aload_n 0, 1, 0, []), (.invokevirtual 401, 3, 0, [0, 160, 12, 0, 0, 1946, 1948, 107, 156, 1949])] := rfl
set_option maxRecDepth 100000 in
theorem q237_25 (E : mj_E) (d w c : Nat) (hi : Nat → Nat → Int32) (hl : Nat → Nat → Int64) (v1 : Int32) (v2 : Int32) : mj_den mj_P E d 237 25 [Value.ref 205, Value.int v1, Value.int v2, Value.float 0, Value.float 0] [] (mj_hw w c hi hl) = mj_bv (mj_dc mj_P E d 160 [Value.ref 205] (mj_hw w c hi hl)) (fun h1 => mj_den mj_P E d 237 29 [Value.ref 205, Value.int v1, Value.int v2, Value.float 0, Value.float 0] [] h1) := by
  rw [mj_den_eq, f237_25]
  exact zt_aload_n rfl rfl (zt_call0_0 rfl (mjkd205 _ _ _ _) (Nat.le_of_ble_eq_true rfl) rfl rfl)
set_option maxRecDepth 100000 in
theorem f237_29 : mj_find (mj_P 237).2.2.2.2 29 = [(.aload_n 0, 1, 0, []), (.iload_n 1, 1, 0, []), (.invokevirtual 389, 3, 0, [0, 226, 12, 1, 1, 1808, 1810, 81, 156, 1811])] := rfl
set_option maxRecDepth 100000 in
theorem q237_29 (E : mj_E) (d w c : Nat) (hi : Nat → Nat → Int32) (hl : Nat → Nat → Int64) (v1 : Int32) (v2 : Int32) : mj_den mj_P E d 237 29 [Value.ref 205, Value.int v1, Value.int v2, Value.float 0, Value.float 0] [] (mj_hw w c hi hl) = mj_bi (mj_dc mj_P E d 226 [Value.ref 205, Value.int v1] (mj_hw w c hi hl)) (fun x1 h1 => mj_den mj_P E d 237 34 [Value.ref 205, Value.int v1, Value.int v2, Value.float 0, Value.float 0] [Value.int x1] h1) := by
  rw [mj_den_eq, f237_29]
  exact zt_aload_n rfl rfl (zt_iload_n rfl rfl (zt_call0_1 rfl (mjkd205 _ _ _ _) (Nat.le_of_ble_eq_true rfl) rfl rfl))
set_option maxRecDepth 100000 in
theorem f237_34 : mj_find (mj_P 237).2.2.2.2 34 = [(.istore_n 3, 1, 0, []), (.iload_n 3, 1, 0, []), (.iconst (-1), 1, (-1), []), (.if_icmp .eq 7, 3, 0, [44]), (.iload_n 2, 1, 0, []), (.ifCond .ne 7, 3, 0, [48])] := rfl
set_option maxRecDepth 100000 in
theorem q237_34 (E : mj_E) (d w c : Nat) (hi : Nat → Nat → Int32) (hl : Nat → Nat → Int64) (v1 : Int32) (v2 : Int32) (s0 : Int32) : mj_den mj_P E d 237 34 [Value.ref 205, Value.int v1, Value.int v2, Value.float 0, Value.float 0] [Value.int s0] (mj_hw w c hi hl) = if s0 = (-1 : Int32) then mj_den mj_P E d 237 44 [Value.ref 205, Value.int v1, Value.int v2, Value.int s0, Value.float 0] [] (mj_hw w c hi hl) else if ¬ v2 = 0 then mj_den mj_P E d 237 48 [Value.ref 205, Value.int v1, Value.int v2, Value.int s0, Value.float 0] [] (mj_hw w c hi hl) else mj_den mj_P E d 237 44 [Value.ref 205, Value.int v1, Value.int v2, Value.int s0, Value.float 0] [] (mj_hw w c hi hl) := by
  rw [mj_den_eq, f237_34]
  exact zt_istore_n (Nat.le_of_ble_eq_true rfl) rfl rfl (zt_iload_n rfl rfl (zt_iconst rfl (zt_icmp_eq rfl rfl (zt_iload_n rfl rfl (zt_if_ne rfl rfl (zt_end rfl))))))
set_option maxRecDepth 100000 in
theorem f237_44 : mj_find (mj_P 237).2.2.2.2 44 = [(.iload_n 3, 1, 0, []), (.goto 19, 3, 0, [64])] := rfl
set_option maxRecDepth 100000 in
theorem q237_44 (E : mj_E) (d w c : Nat) (hi : Nat → Nat → Int32) (hl : Nat → Nat → Int64) (v1 : Int32) (v2 : Int32) (v3 : Int32) : mj_den mj_P E d 237 44 [Value.ref 205, Value.int v1, Value.int v2, Value.int v3, Value.float 0] [] (mj_hw w c hi hl) = mj_den mj_P E d 237 64 [Value.ref 205, Value.int v1, Value.int v2, Value.int v3, Value.float 0] [Value.int v3] (mj_hw w c hi hl) := by
  rw [mj_den_eq, f237_44]
  exact zt_iload_n rfl rfl (zt_goto rfl)
set_option maxRecDepth 100000 in
theorem f237_48 : mj_find (mj_P 237).2.2.2.2 48 = [(.iload_n 2, 1, 0, []), (.iconst 1, 1, 1, []), (.if_icmp .ne 10, 3, 0, [60]), (.aload_n 0, 1, 0, []), (.getfield 362, 3, 0, [12, 44, 0, 1454]), (.goto 7, 3, 0, [64])] := rfl
set_option maxRecDepth 100000 in
theorem q237_48 (E : mj_E) (d w c : Nat) (hi : Nat → Nat → Int32) (hl : Nat → Nat → Int64) (v1 : Int32) (v2 : Int32) (v3 : Int32) : mj_den mj_P E d 237 48 [Value.ref 205, Value.int v1, Value.int v2, Value.int v3, Value.float 0] [] (mj_hw w c hi hl) = if ¬ v2 = (1 : Int32) then mj_den mj_P E d 237 60 [Value.ref 205, Value.int v1, Value.int v2, Value.int v3, Value.float 0] [] (mj_hw w c hi hl) else mj_den mj_P E d 237 64 [Value.ref 205, Value.int v1, Value.int v2, Value.int v3, Value.float 0] [Value.int (hi 205 44)] (mj_hw w c hi hl) := by
  rw [mj_den_eq, f237_48]
  exact zt_iload_n rfl rfl (zt_iconst rfl (zt_icmp_ne rfl rfl (zt_aload_n rfl rfl (zt_geti (mjkd205 _ _ _ _) rfl rfl (zt_goto rfl)))))
set_option maxRecDepth 100000 in
theorem f237_60 : mj_find (mj_P 237).2.2.2.2 60 = [(.aload_n 0, 1, 0, []), (.getfield 377, 3, 0, [12, 45, 0, 1455])] := rfl
set_option maxRecDepth 100000 in
theorem q237_60 (E : mj_E) (d w c : Nat) (hi : Nat → Nat → Int32) (hl : Nat → Nat → Int64) (v1 : Int32) (v2 : Int32) (v3 : Int32) : mj_den mj_P E d 237 60 [Value.ref 205, Value.int v1, Value.int v2, Value.int v3, Value.float 0] [] (mj_hw w c hi hl) = mj_den mj_P E d 237 64 [Value.ref 205, Value.int v1, Value.int v2, Value.int v3, Value.float 0] [Value.int (hi 205 45)] (mj_hw w c hi hl) := by
  rw [mj_den_eq, f237_60]
  exact zt_aload_n rfl rfl (zt_geti (mjkd205 _ _ _ _) rfl rfl (zt_end rfl))
set_option maxRecDepth 100000 in
theorem f237_64 : mj_find (mj_P 237).2.2.2.2 64 = [(.istore 4, 2, 0, []), (.aload_n 0, 1, 0, []), (.invokevirtual 404, 3, 0, [0, 161, 12, 0, 0, 1950, 1952, 108, 156, 1953])] := rfl
set_option maxRecDepth 100000 in
theorem q237_64 (E : mj_E) (d w c : Nat) (hi : Nat → Nat → Int32) (hl : Nat → Nat → Int64) (v1 : Int32) (v2 : Int32) (v3 : Int32) (s0 : Int32) : mj_den mj_P E d 237 64 [Value.ref 205, Value.int v1, Value.int v2, Value.int v3, Value.float 0] [Value.int s0] (mj_hw w c hi hl) = mj_bv (mj_dc mj_P E d 161 [Value.ref 205] (mj_hw w c hi hl)) (fun h1 => mj_den mj_P E d 237 70 [Value.ref 205, Value.int v1, Value.int v2, Value.int v3, Value.int s0] [] h1) := by
  rw [mj_den_eq, f237_64]
  exact zt_istore (Nat.le_of_ble_eq_true rfl) rfl rfl (zt_aload_n rfl rfl (zt_call0_0 rfl (mjkd205 _ _ _ _) (Nat.le_of_ble_eq_true rfl) rfl rfl))
set_option maxRecDepth 100000 in
theorem f237_70 : mj_find (mj_P 237).2.2.2.2 70 = [(.iload 4, 2, 0, []), (.ireturn, 1, 0, [0])] := rfl
set_option maxRecDepth 100000 in
theorem q237_70 (E : mj_E) (d w c : Nat) (hi : Nat → Nat → Int32) (hl : Nat → Nat → Int64) (v1 : Int32) (v2 : Int32) (v3 : Int32) (v4 : Int32) : mj_den mj_P E d 237 70 [Value.ref 205, Value.int v1, Value.int v2, Value.int v3, Value.int v4] [] (mj_hw w c hi hl) = some (some (Value.int v4), (mj_hw w c hi hl)) := by
  rw [mj_den_eq, f237_70]
  exact zt_iload rfl rfl (zt_ireturn0)
set_option maxRecDepth 100000 in
theorem f238_0 : mj_find (mj_P 238).2.2.2.2 0 = [(.aload_n 0, 1, 0, []), (.iconst 0, 1, 0, []), (.putfield 122, 3, 0, [12, 0, 0, 1410]), (.aload_n 0, 1, 0, []), (.iload_n 1, 1, 0, []), (.invokevirtual 148, 3, 0, [0, 164, 12, 1, 1, 1640, 1642, 44, 156, 1643])] := rfl
set_option maxRecDepth 100000 in
theorem q238_0 (E : mj_E) (d w c : Nat) (hi : Nat → Nat → Int32) (hl : Nat → Nat → Int64) (v1 : Int32) (v2 : Int32) (v3 : Int32) : mj_den mj_P E d 238 0 [Value.ref 205, Value.int v1, Value.int v2, Value.int v3, Value.float 0, Value.float 0, Value.float 0, Value.float 0] [] (mj_hw w c hi hl) = mj_bi (mj_dc mj_P E d 164 [Value.ref 205, Value.int v1] (mj_hw w c (mj_u hi 205 0 (0 : Int32)) hl)) (fun x1 h1 => mj_den mj_P E d 238 10 [Value.ref 205, Value.int v1, Value.int v2, Value.int v3, Value.float 0, Value.float 0, Value.float 0, Value.float 0] [Value.int x1] h1) := by
  rw [mj_den_eq, f238_0]
  exact zt_aload_n rfl rfl (zt_iconst rfl (zt_puti (mjkd205 _ _ _ _) rfl rfl (zt_aload_n rfl rfl (zt_iload_n rfl rfl (zt_call0_1 rfl (mjkd205 _ _ _ _) (Nat.le_of_ble_eq_true rfl) rfl rfl)))))
set_option maxRecDepth 100000 in
theorem f238_10 : mj_find (mj_P 238).2.2.2.2 10 = [(.ifCond .eq 21, 3, 0, [31]), (.aload_n 0, 1, 0, []), (.iload_n 2, 1, 0, []), (.invokevirtual 152, 3, 0, [0, 165, 12, 1, 1, 1644, 1646, 45, 156, 1647])] := rfl
set_option maxRecDepth 100000 in
theorem q238_10 (E : mj_E) (d w c : Nat) (hi : Nat → Nat → Int32) (hl : Nat → Nat → Int64) (v1 : Int32) (v2 : Int32) (v3 : Int32) (s0 : Int32) : mj_den mj_P E d 238 10 [Value.ref 205, Value.int v1, Value.int v2, Value.int v3, Value.float 0, Value.float 0, Value.float 0, Value.float 0] [Value.int s0] (mj_hw w c hi hl) = if s0 = 0 then mj_den mj_P E d 238 31 [Value.ref 205, Value.int v1, Value.int v2, Value.int v3, Value.float 0, Value.float 0, Value.float 0, Value.float 0] [] (mj_hw w c hi hl) else mj_bi (mj_dc mj_P E d 165 [Value.ref 205, Value.int v2] (mj_hw w c hi hl)) (fun x1 h1 => mj_den mj_P E d 238 18 [Value.ref 205, Value.int v1, Value.int v2, Value.int v3, Value.float 0, Value.float 0, Value.float 0, Value.float 0] [Value.int x1] h1) := by
  rw [mj_den_eq, f238_10]
  exact zt_if_eq rfl rfl (zt_aload_n rfl rfl (zt_iload_n rfl rfl (zt_call0_1 rfl (mjkd205 _ _ _ _) (Nat.le_of_ble_eq_true rfl) rfl rfl)))
set_option maxRecDepth 100000 in
theorem f238_18 : mj_find (mj_P 238).2.2.2.2 18 = [(.ifCond .eq 13, 3, 0, [31]), (.aload_n 0, 1, 0, []), (.iload_n 3, 1, 0, []), (.iconst 0, 1, 0, []), (.iconst 1, 1, 1, []), (.invokevirtual 144, 3, 0, [0, 152, 12, 3, 1, 1624, 1626, 42, 156, 1627])] := rfl
set_option maxRecDepth 100000 in
theorem q238_18 (E : mj_E) (d w c : Nat) (hi : Nat → Nat → Int32) (hl : Nat → Nat → Int64) (v1 : Int32) (v2 : Int32) (v3 : Int32) (s0 : Int32) : mj_den mj_P E d 238 18 [Value.ref 205, Value.int v1, Value.int v2, Value.int v3, Value.float 0, Value.float 0, Value.float 0, Value.float 0] [Value.int s0] (mj_hw w c hi hl) = if s0 = 0 then mj_den mj_P E d 238 31 [Value.ref 205, Value.int v1, Value.int v2, Value.int v3, Value.float 0, Value.float 0, Value.float 0, Value.float 0] [] (mj_hw w c hi hl) else mj_bi (mj_dc mj_P E d 152 [Value.ref 205, Value.int v3, Value.int (0 : Int32), Value.int (1 : Int32)] (mj_hw w c hi hl)) (fun x1 h1 => mj_den mj_P E d 238 28 [Value.ref 205, Value.int v1, Value.int v2, Value.int v3, Value.float 0, Value.float 0, Value.float 0, Value.float 0] [Value.int x1] h1) := by
  rw [mj_den_eq, f238_18]
  exact zt_if_eq rfl rfl (zt_aload_n rfl rfl (zt_iload_n rfl rfl (zt_iconst rfl (zt_iconst rfl (zt_call0_1 rfl (mjkd205 _ _ _ _) (Nat.le_of_ble_eq_true rfl) rfl rfl)))))
set_option maxRecDepth 100000 in
theorem f238_28 : mj_find (mj_P 238).2.2.2.2 28 = [(.ifCond .ne 5, 3, 0, [33])] := rfl
set_option maxRecDepth 100000 in
theorem q238_28 (E : mj_E) (d w c : Nat) (hi : Nat → Nat → Int32) (hl : Nat → Nat → Int64) (v1 : Int32) (v2 : Int32) (v3 : Int32) (s0 : Int32) : mj_den mj_P E d 238 28 [Value.ref 205, Value.int v1, Value.int v2, Value.int v3, Value.float 0, Value.float 0, Value.float 0, Value.float 0] [Value.int s0] (mj_hw w c hi hl) = if ¬ s0 = 0 then mj_den mj_P E d 238 33 [Value.ref 205, Value.int v1, Value.int v2, Value.int v3, Value.float 0, Value.float 0, Value.float 0, Value.float 0] [] (mj_hw w c hi hl) else mj_den mj_P E d 238 31 [Value.ref 205, Value.int v1, Value.int v2, Value.int v3, Value.float 0, Value.float 0, Value.float 0, Value.float 0] [] (mj_hw w c hi hl) := by
  rw [mj_den_eq, f238_28]
  exact zt_if_ne rfl rfl (zt_end rfl)
set_option maxRecDepth 100000 in
theorem f238_31 : mj_find (mj_P 238).2.2.2.2 31 = [(.iconst (-1), 1, (-1), []), (.ireturn, 1, 0, [0])] := rfl
set_option maxRecDepth 100000 in
theorem q238_31 (E : mj_E) (d w c : Nat) (hi : Nat → Nat → Int32) (hl : Nat → Nat → Int64) (v1 : Int32) (v2 : Int32) (v3 : Int32) : mj_den mj_P E d 238 31 [Value.ref 205, Value.int v1, Value.int v2, Value.int v3, Value.float 0, Value.float 0, Value.float 0, Value.float 0] [] (mj_hw w c hi hl) = some (some (Value.int (-1 : Int32)), (mj_hw w c hi hl)) := by
  rw [mj_den_eq, f238_31]
  exact zt_iconst rfl (zt_ireturn0)
set_option maxRecDepth 100000 in
theorem f238_33 : mj_find (mj_P 238).2.2.2.2 33 = [(.iconst 0, 1, 0, []), (.istore 4, 2, 0, []), (.iconst (-1), 1, (-1), []), (.istore 5, 2, 0, []), (.iconst 0, 1, 0, []), (.istore 6, 2, 0, [])] := rfl
set_option maxRecDepth 100000 in
theorem q238_33 (E : mj_E) (d w c : Nat) (hi : Nat → Nat → Int32) (hl : Nat → Nat → Int64) (v1 : Int32) (v2 : Int32) (v3 : Int32) : mj_den mj_P E d 238 33 [Value.ref 205, Value.int v1, Value.int v2, Value.int v3, Value.float 0, Value.float 0, Value.float 0, Value.float 0] [] (mj_hw w c hi hl) = mj_den mj_P E d 238 42 [Value.ref 205, Value.int v1, Value.int v2, Value.int v3, Value.int (0 : Int32), Value.int (-1 : Int32), Value.int (0 : Int32), Value.float 0] [] (mj_hw w c hi hl) := by
  rw [mj_den_eq, f238_33]
  exact zt_iconst rfl (zt_istore (Nat.le_of_ble_eq_true rfl) rfl rfl (zt_iconst rfl (zt_istore (Nat.le_of_ble_eq_true rfl) rfl rfl (zt_iconst rfl (zt_istore (Nat.le_of_ble_eq_true rfl) rfl rfl (zt_end rfl))))))
set_option maxRecDepth 100000 in
theorem f238_42 : mj_find (mj_P 238).2.2.2.2 42 = [(.iload 6, 2, 0, []), (.bipush 8, 2, 8, []), (.if_icmp .ge 54, 3, 0, [100]), (.aload_n 0, 1, 0, []), (.iload_n 1, 1, 0, []), (.iload_n 2, 1, 0, []), (.iload 6, 2, 0, []), (.iconst 0, 1, 0, []), (.aload_n 0, 1, 0, []), (.aload_n 0, 1, 0, []), (.invokevirtual 365, 3, 0, [0, 169, 12, 0, 1, 1812, 1814, 82, 156, 1815])] := rfl
set_option maxRecDepth 100000 in
theorem q238_42 (E : mj_E) (d w c : Nat) (hi : Nat → Nat → Int32) (hl : Nat → Nat → Int64) (v1 : Int32) (v2 : Int32) (v3 : Int32) (v4 : Int32) (v5 : Int32) (v6 : Int32) : mj_den mj_P E d 238 42 [Value.ref 205, Value.int v1, Value.int v2, Value.int v3, Value.int v4, Value.int v5, Value.int v6, Value.float 0] [] (mj_hw w c hi hl) = if (8 : Int32) ≤ v6 then mj_den mj_P E d 238 100 [Value.ref 205, Value.int v1, Value.int v2, Value.int v3, Value.int v4, Value.int v5, Value.int v6, Value.float 0] [] (mj_hw w c hi hl) else mj_bi (mj_dc mj_P E d 169 [Value.ref 205] (mj_hw w c hi hl)) (fun x1 h1 => mj_den mj_P E d 238 60 [Value.ref 205, Value.int v1, Value.int v2, Value.int v3, Value.int v4, Value.int v5, Value.int v6, Value.float 0] [Value.int x1, Value.ref 205, Value.int (0 : Int32), Value.int v6, Value.int v2, Value.int v1, Value.ref 205] h1) := by
  rw [mj_den_eq, f238_42]
  exact zt_iload rfl rfl (zt_bipush rfl (zt_icmp_ge rfl rfl (zt_aload_n rfl rfl (zt_iload_n rfl rfl (zt_iload_n rfl rfl (zt_iload rfl rfl (zt_iconst rfl (zt_aload_n rfl rfl (zt_aload_n rfl rfl (zt_call0_1 rfl (mjkd205 _ _ _ _) (Nat.le_of_ble_eq_true rfl) rfl rfl))))))))))
set_option maxRecDepth 100000 in
theorem q238_42_1 (E : mj_E) (d w c : Nat) (hi : Nat → Nat → Int32) (hl : Nat → Nat → Int64) (v1 : Int32) (v2 : Int32) (v3 : Int32) (v4 : Int32) (v5 : Int32) (v6 : Int32) (v7 : Int32) : mj_den mj_P E d 238 42 [Value.ref 205, Value.int v1, Value.int v2, Value.int v3, Value.int v4, Value.int v5, Value.int v6, Value.int v7] [] (mj_hw w c hi hl) = if (8 : Int32) ≤ v6 then mj_den mj_P E d 238 100 [Value.ref 205, Value.int v1, Value.int v2, Value.int v3, Value.int v4, Value.int v5, Value.int v6, Value.int v7] [] (mj_hw w c hi hl) else mj_bi (mj_dc mj_P E d 169 [Value.ref 205] (mj_hw w c hi hl)) (fun x1 h1 => mj_den mj_P E d 238 60 [Value.ref 205, Value.int v1, Value.int v2, Value.int v3, Value.int v4, Value.int v5, Value.int v6, Value.int v7] [Value.int x1, Value.ref 205, Value.int (0 : Int32), Value.int v6, Value.int v2, Value.int v1, Value.ref 205] h1) := by
  rw [mj_den_eq, f238_42]
  exact zt_iload rfl rfl (zt_bipush rfl (zt_icmp_ge rfl rfl (zt_aload_n rfl rfl (zt_iload_n rfl rfl (zt_iload_n rfl rfl (zt_iload rfl rfl (zt_iconst rfl (zt_aload_n rfl rfl (zt_aload_n rfl rfl (zt_call0_1 rfl (mjkd205 _ _ _ _) (Nat.le_of_ble_eq_true rfl) rfl rfl))))))))))
set_option maxRecDepth 100000 in
theorem f238_60 : mj_find (mj_P 238).2.2.2.2 60 = [(.invokevirtual 336, 3, 0, [0, 156, 12, 1, 1, 1820, 1822, 84, 156, 1823])] := rfl
set_option maxRecDepth 100000 in
theorem q238_60 (E : mj_E) (d w c : Nat) (hi : Nat → Nat → Int32) (hl : Nat → Nat → Int64) (v1 : Int32) (v2 : Int32) (v3 : Int32) (v4 : Int32) (v5 : Int32) (v6 : Int32) (s0 : Int32) (s2 : Int32) (s3 : Int32) (s4 : Int32) (s5 : Int32) : mj_den mj_P E d 238 60 [Value.ref 205, Value.int v1, Value.int v2, Value.int v3, Value.int v4, Value.int v5, Value.int v6, Value.float 0] [Value.int s0, Value.ref 205, Value.int s2, Value.int s3, Value.int s4, Value.int s5, Value.ref 205] (mj_hw w c hi hl) = mj_bi (mj_dc mj_P E d 156 [Value.ref 205, Value.int s0] (mj_hw w c hi hl)) (fun x1 h1 => mj_den mj_P E d 238 63 [Value.ref 205, Value.int v1, Value.int v2, Value.int v3, Value.int v4, Value.int v5, Value.int v6, Value.float 0] [Value.int x1, Value.int s2, Value.int s3, Value.int s4, Value.int s5, Value.ref 205] h1) := by
  rw [mj_den_eq, f238_60]
  exact zt_call0_1 rfl (mjkd205 _ _ _ _) (Nat.le_of_ble_eq_true rfl) rfl rfl
set_option maxRecDepth 100000 in
theorem q238_60_1 (E : mj_E) (d w c : Nat) (hi : Nat → Nat → Int32) (hl : Nat → Nat → Int64) (v1 : Int32) (v2 : Int32) (v3 : Int32) (v4 : Int32) (v5 : Int32) (v6 : Int32) (v7 : Int32) (s0 : Int32) (s2 : Int32) (s3 : Int32) (s4 : Int32) (s5 : Int32) : mj_den mj_P E d 238 60 [Value.ref 205, Value.int v1, Value.int v2, Value.int v3, Value.int v4, Value.int v5, Value.int v6, Value.int v7] [Value.int s0, Value.ref 205, Value.int s2, Value.int s3, Value.int s4, Value.int s5, Value.ref 205] (mj_hw w c hi hl) = mj_bi (mj_dc mj_P E d 156 [Value.ref 205, Value.int s0] (mj_hw w c hi hl)) (fun x1 h1 => mj_den mj_P E d 238 63 [Value.ref 205, Value.int v1, Value.int v2, Value.int v3, Value.int v4, Value.int v5, Value.int v6, Value.int v7] [Value.int x1, Value.int s2, Value.int s3, Value.int s4, Value.int s5, Value.ref 205] h1) := by
  rw [mj_den_eq, f238_60]
  exact zt_call0_1 rfl (mjkd205 _ _ _ _) (Nat.le_of_ble_eq_true rfl) rfl rfl
set_option maxRecDepth 100000 in
theorem f238_63 : mj_find (mj_P 238).2.2.2.2 63 = [(.invokevirtual 339, 3, 0, [0, 216, 12, 5, 1, 1836, 1838, 88, 156, 1839])] := rfl
set_option maxRecDepth 100000 in
theorem q238_63 (E : mj_E) (d w c : Nat) (hi : Nat → Nat → Int32) (hl : Nat → Nat → Int64) (v1 : Int32) (v2 : Int32) (v3 : Int32) (v4 : Int32) (v5 : Int32) (v6 : Int32) (s0 : Int32) (s1 : Int32) (s2 : Int32) (s3 : Int32) (s4 : Int32) : mj_den mj_P E d 238 63 [Value.ref 205, Value.int v1, Value.int v2, Value.int v3, Value.int v4, Value.int v5, Value.int v6, Value.float 0] [Value.int s0, Value.int s1, Value.int s2, Value.int s3, Value.int s4, Value.ref 205] (mj_hw w c hi hl) = mj_bi (mj_dc mj_P E d 216 [Value.ref 205, Value.int s4, Value.int s3, Value.int s2, Value.int s1, Value.int s0] (mj_hw w c hi hl)) (fun x1 h1 => mj_den mj_P E d 238 66 [Value.ref 205, Value.int v1, Value.int v2, Value.int v3, Value.int v4, Value.int v5, Value.int v6, Value.float 0] [Value.int x1] h1) := by
  rw [mj_den_eq, f238_63]
  exact zt_call0_1 rfl (mjkd205 _ _ _ _) (Nat.le_of_ble_eq_true rfl) rfl rfl
set_option maxRecDepth 100000 in
theorem q238_63_1 (E : mj_E) (d w c : Nat) (hi : Nat → Nat → Int32) (hl : Nat → Nat → Int64) (v1 : Int32) (v2 : Int32) (v3 : Int32) (v4 : Int32) (v5 : Int32) (v6 : Int32) (v7 : Int32) (s0 : Int32) (s1 : Int32) (s2 : Int32) (s3 : Int32) (s4 : Int32) : mj_den mj_P E d 238 63 [Value.ref 205, Value.int v1, Value.int v2, Value.int v3, Value.int v4, Value.int v5, Value.int v6, Value.int v7] [Value.int s0, Value.int s1, Value.int s2, Value.int s3, Value.int s4, Value.ref 205] (mj_hw w c hi hl) = mj_bi (mj_dc mj_P E d 216 [Value.ref 205, Value.int s4, Value.int s3, Value.int s2, Value.int s1, Value.int s0] (mj_hw w c hi hl)) (fun x1 h1 => mj_den mj_P E d 238 66 [Value.ref 205, Value.int v1, Value.int v2, Value.int v3, Value.int v4, Value.int v5, Value.int v6, Value.int v7] [Value.int x1] h1) := by
  rw [mj_den_eq, f238_63]
  exact zt_call0_1 rfl (mjkd205 _ _ _ _) (Nat.le_of_ble_eq_true rfl) rfl rfl
set_option maxRecDepth 100000 in
theorem f238_66 : mj_find (mj_P 238).2.2.2.2 66 = [(.istore 7, 2, 0, []), (.iload 7, 2, 0, []), (.iload 5, 2, 0, []), (.if_icmp .le 8, 3, 0, [80]), (.iload 6, 2, 0, []), (.goto 5, 3, 0, [82])] := rfl
set_option maxRecDepth 100000 in
theorem q238_66 (E : mj_E) (d w c : Nat) (hi : Nat → Nat → Int32) (hl : Nat → Nat → Int64) (v1 : Int32) (v2 : Int32) (v3 : Int32) (v4 : Int32) (v5 : Int32) (v6 : Int32) (s0 : Int32) : mj_den mj_P E d 238 66 [Value.ref 205, Value.int v1, Value.int v2, Value.int v3, Value.int v4, Value.int v5, Value.int v6, Value.float 0] [Value.int s0] (mj_hw w c hi hl) = if s0 ≤ v5 then mj_den mj_P E d 238 80 [Value.ref 205, Value.int v1, Value.int v2, Value.int v3, Value.int v4, Value.int v5, Value.int v6, Value.int s0] [] (mj_hw w c hi hl) else mj_den mj_P E d 238 82 [Value.ref 205, Value.int v1, Value.int v2, Value.int v3, Value.int v4, Value.int v5, Value.int v6, Value.int s0] [Value.int v6] (mj_hw w c hi hl) := by
  rw [mj_den_eq, f238_66]
  exact zt_istore (Nat.le_of_ble_eq_true rfl) rfl rfl (zt_iload rfl rfl (zt_iload rfl rfl (zt_icmp_le rfl rfl (zt_iload rfl rfl (zt_goto rfl)))))
set_option maxRecDepth 100000 in
theorem q238_66_1 (E : mj_E) (d w c : Nat) (hi : Nat → Nat → Int32) (hl : Nat → Nat → Int64) (v1 : Int32) (v2 : Int32) (v3 : Int32) (v4 : Int32) (v5 : Int32) (v6 : Int32) (v7 : Int32) (s0 : Int32) : mj_den mj_P E d 238 66 [Value.ref 205, Value.int v1, Value.int v2, Value.int v3, Value.int v4, Value.int v5, Value.int v6, Value.int v7] [Value.int s0] (mj_hw w c hi hl) = if s0 ≤ v5 then mj_den mj_P E d 238 80 [Value.ref 205, Value.int v1, Value.int v2, Value.int v3, Value.int v4, Value.int v5, Value.int v6, Value.int s0] [] (mj_hw w c hi hl) else mj_den mj_P E d 238 82 [Value.ref 205, Value.int v1, Value.int v2, Value.int v3, Value.int v4, Value.int v5, Value.int v6, Value.int s0] [Value.int v6] (mj_hw w c hi hl) := by
  rw [mj_den_eq, f238_66]
  exact zt_istore (Nat.le_of_ble_eq_true rfl) rfl rfl (zt_iload rfl rfl (zt_iload rfl rfl (zt_icmp_le rfl rfl (zt_iload rfl rfl (zt_goto rfl)))))
set_option maxRecDepth 100000 in
theorem f238_80 : mj_find (mj_P 238).2.2.2.2 80 = [(.iload 4, 2, 0, [])] := rfl
set_option maxRecDepth 100000 in
theorem q238_80 (E : mj_E) (d w c : Nat) (hi : Nat → Nat → Int32) (hl : Nat → Nat → Int64) (v1 : Int32) (v2 : Int32) (v3 : Int32) (v4 : Int32) (v5 : Int32) (v6 : Int32) (v7 : Int32) : mj_den mj_P E d 238 80 [Value.ref 205, Value.int v1, Value.int v2, Value.int v3, Value.int v4, Value.int v5, Value.int v6, Value.int v7] [] (mj_hw w c hi hl) = mj_den mj_P E d 238 82 [Value.ref 205, Value.int v1, Value.int v2, Value.int v3, Value.int v4, Value.int v5, Value.int v6, Value.int v7] [Value.int v4] (mj_hw w c hi hl) := by
  rw [mj_den_eq, f238_80]
  exact zt_iload rfl rfl (zt_end rfl)
set_option maxRecDepth 100000 in
theorem f238_82 : mj_find (mj_P 238).2.2.2.2 82 = [(.istore 4, 2, 0, []), (.aload_n 0, 1, 0, []), (.iload 5, 2, 0, []), (.iload 7, 2, 0, []), (.invokevirtual 383, 3, 0, [0, 154, 12, 2, 1, 1898, 1900, 103, 156, 1901])] := rfl
set_option maxRecDepth 100000 in
theorem q238_82 (E : mj_E) (d w c : Nat) (hi : Nat → Nat → Int32) (hl : Nat → Nat → Int64) (v1 : Int32) (v2 : Int32) (v3 : Int32) (v4 : Int32) (v5 : Int32) (v6 : Int32) (v7 : Int32) (s0 : Int32) : mj_den mj_P E d 238 82 [Value.ref 205, Value.int v1, Value.int v2, Value.int v3, Value.int v4, Value.int v5, Value.int v6, Value.int v7] [Value.int s0] (mj_hw w c hi hl) = mj_bi (mj_dc mj_P E d 154 [Value.ref 205, Value.int v5, Value.int v7] (mj_hw w c hi hl)) (fun x1 h1 => mj_den mj_P E d 238 92 [Value.ref 205, Value.int v1, Value.int v2, Value.int v3, Value.int s0, Value.int v5, Value.int v6, Value.int v7] [Value.int x1] h1) := by
  rw [mj_den_eq, f238_82]
  exact zt_istore (Nat.le_of_ble_eq_true rfl) rfl rfl (zt_aload_n rfl rfl (zt_iload rfl rfl (zt_iload rfl rfl (zt_call0_1 rfl (mjkd205 _ _ _ _) (Nat.le_of_ble_eq_true rfl) rfl rfl))))
set_option maxRecDepth 100000 in
theorem f238_92 : mj_find (mj_P 238).2.2.2.2 92 = [(.istore 5, 2, 0, []), (.iinc 6 1, 3, 1, []), (.goto (-55), 3, 0, [42])] := rfl
set_option maxRecDepth 100000 in
theorem q238_92 (E : mj_E) (d w c : Nat) (hi : Nat → Nat → Int32) (hl : Nat → Nat → Int64) (v1 : Int32) (v2 : Int32) (v3 : Int32) (v4 : Int32) (v5 : Int32) (v6 : Int32) (v7 : Int32) (s0 : Int32) : mj_den mj_P E d 238 92 [Value.ref 205, Value.int v1, Value.int v2, Value.int v3, Value.int v4, Value.int v5, Value.int v6, Value.int v7] [Value.int s0] (mj_hw w c hi hl) = mj_den mj_P E d 238 42 [Value.ref 205, Value.int v1, Value.int v2, Value.int v3, Value.int v4, Value.int s0, Value.int (v6 + (1 : Int32)), Value.int v7] [] (mj_hw w c hi hl) := by
  rw [mj_den_eq, f238_92]
  exact zt_istore (Nat.le_of_ble_eq_true rfl) rfl rfl (zt_iinc rfl (Nat.le_of_ble_eq_true rfl) rfl rfl (zt_goto rfl))
set_option maxRecDepth 100000 in
theorem f238_100 : mj_find (mj_P 238).2.2.2.2 100 = [(.iload_n 3, 1, 0, []), (.ifCond .ne 8, 3, 0, [109]), (.iload 4, 2, 0, []), (.goto 5, 3, 0, [111])] := rfl
set_option maxRecDepth 100000 in
theorem q238_100 (E : mj_E) (d w c : Nat) (hi : Nat → Nat → Int32) (hl : Nat → Nat → Int64) (v1 : Int32) (v2 : Int32) (v3 : Int32) (v4 : Int32) (v5 : Int32) (v6 : Int32) (v7 : Int32) : mj_den mj_P E d 238 100 [Value.ref 205, Value.int v1, Value.int v2, Value.int v3, Value.int v4, Value.int v5, Value.int v6, Value.int v7] [] (mj_hw w c hi hl) = if ¬ v3 = 0 then mj_den mj_P E d 238 109 [Value.ref 205, Value.int v1, Value.int v2, Value.int v3, Value.int v4, Value.int v5, Value.int v6, Value.int v7] [] (mj_hw w c hi hl) else mj_den mj_P E d 238 111 [Value.ref 205, Value.int v1, Value.int v2, Value.int v3, Value.int v4, Value.int v5, Value.int v6, Value.int v7] [Value.int v4] (mj_hw w c hi hl) := by
  rw [mj_den_eq, f238_100]
  exact zt_iload_n rfl rfl (zt_if_ne rfl rfl (zt_iload rfl rfl (zt_goto rfl)))
set_option maxRecDepth 100000 in
theorem q238_100_1 (E : mj_E) (d w c : Nat) (hi : Nat → Nat → Int32) (hl : Nat → Nat → Int64) (v1 : Int32) (v2 : Int32) (v3 : Int32) (v4 : Int32) (v5 : Int32) (v6 : Int32) : mj_den mj_P E d 238 100 [Value.ref 205, Value.int v1, Value.int v2, Value.int v3, Value.int v4, Value.int v5, Value.int v6, Value.float 0] [] (mj_hw w c hi hl) = if ¬ v3 = 0 then mj_den mj_P E d 238 109 [Value.ref 205, Value.int v1, Value.int v2, Value.int v3, Value.int v4, Value.int v5, Value.int v6, Value.float 0] [] (mj_hw w c hi hl) else mj_den mj_P E d 238 111 [Value.ref 205, Value.int v1, Value.int v2, Value.int v3, Value.int v4, Value.int v5, Value.int v6, Value.float 0] [Value.int v4] (mj_hw w c hi hl) := by
  rw [mj_den_eq, f238_100]
  exact zt_iload_n rfl rfl (zt_if_ne rfl rfl (zt_iload rfl rfl (zt_goto rfl)))
set_option maxRecDepth 100000 in
theorem f238_109 : mj_find (mj_P 238).2.2.2.2 109 = [(.iload 5, 2, 0, [])] := rfl
set_option maxRecDepth 100000 in
theorem q238_109 (E : mj_E) (d w c : Nat) (hi : Nat → Nat → Int32) (hl : Nat → Nat → Int64) (v1 : Int32) (v2 : Int32) (v3 : Int32) (v4 : Int32) (v5 : Int32) (v6 : Int32) (v7 : Int32) : mj_den mj_P E d 238 109 [Value.ref 205, Value.int v1, Value.int v2, Value.int v3, Value.int v4, Value.int v5, Value.int v6, Value.int v7] [] (mj_hw w c hi hl) = mj_den mj_P E d 238 111 [Value.ref 205, Value.int v1, Value.int v2, Value.int v3, Value.int v4, Value.int v5, Value.int v6, Value.int v7] [Value.int v5] (mj_hw w c hi hl) := by
  rw [mj_den_eq, f238_109]
  exact zt_iload rfl rfl (zt_end rfl)
set_option maxRecDepth 100000 in
theorem q238_109_1 (E : mj_E) (d w c : Nat) (hi : Nat → Nat → Int32) (hl : Nat → Nat → Int64) (v1 : Int32) (v2 : Int32) (v3 : Int32) (v4 : Int32) (v5 : Int32) (v6 : Int32) : mj_den mj_P E d 238 109 [Value.ref 205, Value.int v1, Value.int v2, Value.int v3, Value.int v4, Value.int v5, Value.int v6, Value.float 0] [] (mj_hw w c hi hl) = mj_den mj_P E d 238 111 [Value.ref 205, Value.int v1, Value.int v2, Value.int v3, Value.int v4, Value.int v5, Value.int v6, Value.float 0] [Value.int v5] (mj_hw w c hi hl) := by
  rw [mj_den_eq, f238_109]
  exact zt_iload rfl rfl (zt_end rfl)
set_option maxRecDepth 100000 in
theorem f238_111 : mj_find (mj_P 238).2.2.2.2 111 = [(.ireturn, 1, 0, [0])] := rfl
set_option maxRecDepth 100000 in
theorem q238_111 (E : mj_E) (d w c : Nat) (hi : Nat → Nat → Int32) (hl : Nat → Nat → Int64) (v1 : Int32) (v2 : Int32) (v3 : Int32) (v4 : Int32) (v5 : Int32) (v6 : Int32) (v7 : Int32) (s0 : Int32) : mj_den mj_P E d 238 111 [Value.ref 205, Value.int v1, Value.int v2, Value.int v3, Value.int v4, Value.int v5, Value.int v6, Value.int v7] [Value.int s0] (mj_hw w c hi hl) = some (some (Value.int s0), (mj_hw w c hi hl)) := by
  rw [mj_den_eq, f238_111]
  exact zt_ireturn0
set_option maxRecDepth 100000 in
theorem q238_111_1 (E : mj_E) (d w c : Nat) (hi : Nat → Nat → Int32) (hl : Nat → Nat → Int64) (v1 : Int32) (v2 : Int32) (v3 : Int32) (v4 : Int32) (v5 : Int32) (v6 : Int32) (s0 : Int32) : mj_den mj_P E d 238 111 [Value.ref 205, Value.int v1, Value.int v2, Value.int v3, Value.int v4, Value.int v5, Value.int v6, Value.float 0] [Value.int s0] (mj_hw w c hi hl) = some (some (Value.int s0), (mj_hw w c hi hl)) := by
  rw [mj_den_eq, f238_111]
  exact zt_ireturn0
set_option maxRecDepth 100000 in
theorem f239_0 : mj_find (mj_P 239).2.2.2.2 0 = [(.iload_n 1, 1, 0, []), (.istore_n 3, 1, 0, []), (.iconst (-1), 1, (-1), []), (.istore 4, 2, 0, [])] := rfl
set_option maxRecDepth 100000 in
theorem q239_0 (E : mj_E) (d w c : Nat) (hi : Nat → Nat → Int32) (hl : Nat → Nat → Int64) (v1 : Int32) (v2 : Int32) : mj_den mj_P E d 239 0 [Value.ref 205, Value.int v1, Value.int v2, Value.float 0, Value.float 0, Value.float 0] [] (mj_hw w c hi hl) = mj_den mj_P E d 239 5 [Value.ref 205, Value.int v1, Value.int v2, Value.int v1, Value.int (-1 : Int32), Value.float 0] [] (mj_hw w c hi hl) := by
  rw [mj_den_eq, f239_0]
  exact zt_iload_n rfl rfl (zt_istore_n (Nat.le_of_ble_eq_true rfl) rfl rfl (zt_iconst rfl (zt_istore (Nat.le_of_ble_eq_true rfl) rfl rfl (zt_end rfl))))
set_option maxRecDepth 100000 in
theorem f239_5 : mj_find (mj_P 239).2.2.2.2 5 = [(.iload 4, 2, 0, []), (.iload_n 3, 1, 0, []), (.if_icmp .eq 50, 3, 0, [58]), (.iload_n 3, 1, 0, []), (.istore 4, 2, 0, []), (.iconst 0, 1, 0, []), (.istore 5, 2, 0, [])] := rfl
set_option maxRecDepth 100000 in
theorem q239_5 (E : mj_E) (d w c : Nat) (hi : Nat → Nat → Int32) (hl : Nat → Nat → Int64) (v1 : Int32) (v2 : Int32) (v3 : Int32) (v4 : Int32) : mj_den mj_P E d 239 5 [Value.ref 205, Value.int v1, Value.int v2, Value.int v3, Value.int v4, Value.float 0] [] (mj_hw w c hi hl) = if v4 = v3 then mj_den mj_P E d 239 58 [Value.ref 205, Value.int v1, Value.int v2, Value.int v3, Value.int v4, Value.float 0] [] (mj_hw w c hi hl) else mj_den mj_P E d 239 17 [Value.ref 205, Value.int v1, Value.int v2, Value.int v3, Value.int v3, Value.int (0 : Int32)] [] (mj_hw w c hi hl) := by
  rw [mj_den_eq, f239_5]
  exact zt_iload rfl rfl (zt_iload_n rfl rfl (zt_icmp_eq rfl rfl (zt_iload_n rfl rfl (zt_istore (Nat.le_of_ble_eq_true rfl) rfl rfl (zt_iconst rfl (zt_istore (Nat.le_of_ble_eq_true rfl) rfl rfl (zt_end rfl)))))))
set_option maxRecDepth 100000 in
theorem q239_5_1 (E : mj_E) (d w c : Nat) (hi : Nat → Nat → Int32) (hl : Nat → Nat → Int64) (v1 : Int32) (v2 : Int32) (v3 : Int32) (v4 : Int32) (v5 : Int32) : mj_den mj_P E d 239 5 [Value.ref 205, Value.int v1, Value.int v2, Value.int v3, Value.int v4, Value.int v5] [] (mj_hw w c hi hl) = if v4 = v3 then mj_den mj_P E d 239 58 [Value.ref 205, Value.int v1, Value.int v2, Value.int v3, Value.int v4, Value.int v5] [] (mj_hw w c hi hl) else mj_den mj_P E d 239 17 [Value.ref 205, Value.int v1, Value.int v2, Value.int v3, Value.int v3, Value.int (0 : Int32)] [] (mj_hw w c hi hl) := by
  rw [mj_den_eq, f239_5]
  exact zt_iload rfl rfl (zt_iload_n rfl rfl (zt_icmp_eq rfl rfl (zt_iload_n rfl rfl (zt_istore (Nat.le_of_ble_eq_true rfl) rfl rfl (zt_iconst rfl (zt_istore (Nat.le_of_ble_eq_true rfl) rfl rfl (zt_end rfl)))))))
set_option maxRecDepth 100000 in
theorem f239_17 : mj_find (mj_P 239).2.2.2.2 17 = [(.iload 5, 2, 0, []), (.aload_n 0, 1, 0, []), (.getfield 134, 3, 0, [12, 6, 0, 1416]), (.if_icmp .ge 32, 3, 0, [55]), (.aload_n 0, 1, 0, []), (.iload 4, 2, 0, []), (.iload 5, 2, 0, []), (.invokevirtual 327, 3, 0, [0, 157, 12, 2, 1, 1832, 1834, 87, 156, 1835])] := rfl
set_option maxRecDepth 100000 in
theorem q239_17 (E : mj_E) (d w c : Nat) (hi : Nat → Nat → Int32) (hl : Nat → Nat → Int64) (v1 : Int32) (v2 : Int32) (v3 : Int32) (v4 : Int32) (v5 : Int32) : mj_den mj_P E d 239 17 [Value.ref 205, Value.int v1, Value.int v2, Value.int v3, Value.int v4, Value.int v5] [] (mj_hw w c hi hl) = if (hi 205 6) ≤ v5 then mj_den mj_P E d 239 55 [Value.ref 205, Value.int v1, Value.int v2, Value.int v3, Value.int v4, Value.int v5] [] (mj_hw w c hi hl) else mj_bi (mj_dc mj_P E d 157 [Value.ref 205, Value.int v4, Value.int v5] (mj_hw w c hi hl)) (fun x1 h1 => mj_den mj_P E d 239 34 [Value.ref 205, Value.int v1, Value.int v2, Value.int v3, Value.int v4, Value.int v5] [Value.int x1] h1) := by
  rw [mj_den_eq, f239_17]
  exact zt_iload rfl rfl (zt_aload_n rfl rfl (zt_geti (mjkd205 _ _ _ _) rfl rfl (zt_icmp_ge rfl rfl (zt_aload_n rfl rfl (zt_iload rfl rfl (zt_iload rfl rfl (zt_call0_1 rfl (mjkd205 _ _ _ _) (Nat.le_of_ble_eq_true rfl) rfl rfl)))))))
set_option maxRecDepth 100000 in
theorem f239_34 : mj_find (mj_P 239).2.2.2.2 34 = [(.ifCond .eq 15, 3, 0, [49]), (.iload_n 3, 1, 0, []), (.aload_n 0, 1, 0, []), (.getfield 71, 3, 0, [12, 39, 3, 1449]), (.iload 5, 2, 0, []), (.iaload, 1, 0, []), (.iload_n 2, 1, 0, []), (.iand, 1, 0, []), (.ior, 1, 0, []), (.istore_n 3, 1, 0, [])] := rfl
set_option maxRecDepth 100000 in
theorem q239_34 (E : mj_E) (d w c : Nat) (hi : Nat → Nat → Int32) (hl : Nat → Nat → Int64) (v1 : Int32) (v2 : Int32) (v3 : Int32) (v4 : Int32) (v5 : Int32) (s0 : Int32) : mj_den mj_P E d 239 34 [Value.ref 205, Value.int v1, Value.int v2, Value.int v3, Value.int v4, Value.int v5] [Value.int s0] (mj_hw w c hi hl) = if s0 = 0 then mj_den mj_P E d 239 49 [Value.ref 205, Value.int v1, Value.int v2, Value.int v3, Value.int v4, Value.int v5] [] (mj_hw w c hi hl) else if 0 ≤ v5 ∧ (v5).toNatClampNeg < 20 then mj_den mj_P E d 239 49 [Value.ref 205, Value.int v1, Value.int v2, Value.int (v3 ||| ((hi 225 ((v5).toNatClampNeg)) &&& v2)), Value.int v4, Value.int v5] [] (mj_hw w c hi hl) else none := by
  rw [mj_den_eq, f239_34]
  exact zt_if_eq rfl rfl (zt_iload_n rfl rfl (zt_aload_n rfl rfl (zt_getr (mjkd205 _ _ _ _) (mjhr205_39 w c) rfl (zt_iload rfl rfl (zt_iald (mjkd225 _ _ _ _) (mjln225 _ _ _ _) rfl rfl (zt_iload_n rfl rfl (zt_iand rfl (zt_ior rfl (zt_istore_n (Nat.le_of_ble_eq_true rfl) rfl rfl (zt_end rfl))))))))))
set_option maxRecDepth 100000 in
theorem f239_49 : mj_find (mj_P 239).2.2.2.2 49 = [(.iinc 5 1, 3, 1, []), (.goto (-35), 3, 0, [17])] := rfl
set_option maxRecDepth 100000 in
theorem q239_49 (E : mj_E) (d w c : Nat) (hi : Nat → Nat → Int32) (hl : Nat → Nat → Int64) (v1 : Int32) (v2 : Int32) (v3 : Int32) (v4 : Int32) (v5 : Int32) : mj_den mj_P E d 239 49 [Value.ref 205, Value.int v1, Value.int v2, Value.int v3, Value.int v4, Value.int v5] [] (mj_hw w c hi hl) = mj_den mj_P E d 239 17 [Value.ref 205, Value.int v1, Value.int v2, Value.int v3, Value.int v4, Value.int (v5 + (1 : Int32))] [] (mj_hw w c hi hl) := by
  rw [mj_den_eq, f239_49]
  exact zt_iinc rfl (Nat.le_of_ble_eq_true rfl) rfl rfl (zt_goto rfl)
set_option maxRecDepth 100000 in
theorem f239_55 : mj_find (mj_P 239).2.2.2.2 55 = [(.goto (-50), 3, 0, [5])] := rfl
set_option maxRecDepth 100000 in
theorem q239_55 (E : mj_E) (d w c : Nat) (hi : Nat → Nat → Int32) (hl : Nat → Nat → Int64) (v1 : Int32) (v2 : Int32) (v3 : Int32) (v4 : Int32) (v5 : Int32) : mj_den mj_P E d 239 55 [Value.ref 205, Value.int v1, Value.int v2, Value.int v3, Value.int v4, Value.int v5] [] (mj_hw w c hi hl) = mj_den mj_P E d 239 5 [Value.ref 205, Value.int v1, Value.int v2, Value.int v3, Value.int v4, Value.int v5] [] (mj_hw w c hi hl) := by
  rw [mj_den_eq, f239_55]
  exact zt_goto rfl
set_option maxRecDepth 100000 in
theorem f239_58 : mj_find (mj_P 239).2.2.2.2 58 = [(.iload_n 3, 1, 0, []), (.ireturn, 1, 0, [0])] := rfl
set_option maxRecDepth 100000 in
theorem q239_58 (E : mj_E) (d w c : Nat) (hi : Nat → Nat → Int32) (hl : Nat → Nat → Int64) (v1 : Int32) (v2 : Int32) (v3 : Int32) (v4 : Int32) (v5 : Int32) : mj_den mj_P E d 239 58 [Value.ref 205, Value.int v1, Value.int v2, Value.int v3, Value.int v4, Value.int v5] [] (mj_hw w c hi hl) = some (some (Value.int v3), (mj_hw w c hi hl)) := by
  rw [mj_den_eq, f239_58]
  exact zt_iload_n rfl rfl (zt_ireturn0)
set_option maxRecDepth 100000 in
theorem q239_58_1 (E : mj_E) (d w c : Nat) (hi : Nat → Nat → Int32) (hl : Nat → Nat → Int64) (v1 : Int32) (v2 : Int32) (v3 : Int32) (v4 : Int32) : mj_den mj_P E d 239 58 [Value.ref 205, Value.int v1, Value.int v2, Value.int v3, Value.int v4, Value.float 0] [] (mj_hw w c hi hl) = some (some (Value.int v3), (mj_hw w c hi hl)) := by
  rw [mj_den_eq, f239_58]
  exact zt_iload_n rfl rfl (zt_ireturn0)
set_option maxRecDepth 100000 in
theorem f240_0 : mj_find (mj_P 240).2.2.2.2 0 = [(.aload_n 0, 1, 0, []), (.iconst 0, 1, 0, []), (.putfield 122, 3, 0, [12, 0, 0, 1410]), (.aload_n 0, 1, 0, []), (.iload_n 1, 1, 0, []), (.iconst 0, 1, 0, []), (.iconst 1, 1, 1, []), (.invokevirtual 144, 3, 0, [0, 152, 12, 3, 1, 1624, 1626, 42, 156, 1627])] := rfl
set_option maxRecDepth 100000 in
theorem q240_0 (E : mj_E) (d w c : Nat) (hi : Nat → Nat → Int32) (hl : Nat → Nat → Int64) (v1 : Int32) : mj_den mj_P E d 240 0 [Value.ref 205, Value.int v1, Value.float 0, Value.float 0, Value.float 0] [] (mj_hw w c hi hl) = mj_bi (mj_dc mj_P E d 152 [Value.ref 205, Value.int v1, Value.int (0 : Int32), Value.int (1 : Int32)] (mj_hw w c (mj_u hi 205 0 (0 : Int32)) hl)) (fun x1 h1 => mj_den mj_P E d 240 12 [Value.ref 205, Value.int v1, Value.float 0, Value.float 0, Value.float 0] [Value.int x1] h1) := by
  rw [mj_den_eq, f240_0]
  exact zt_aload_n rfl rfl (zt_iconst rfl (zt_puti (mjkd205 _ _ _ _) rfl rfl (zt_aload_n rfl rfl (zt_iload_n rfl rfl (zt_iconst rfl (zt_iconst rfl (zt_call0_1 rfl (mjkd205 _ _ _ _) (Nat.le_of_ble_eq_true rfl) rfl rfl)))))))
set_option maxRecDepth 100000 in
theorem f240_12 : mj_find (mj_P 240).2.2.2.2 12 = [(.ifCond .ne 5, 3, 0, [17]), (.iconst (-1), 1, (-1), []), (.ireturn, 1, 0, [0])] := rfl
set_option maxRecDepth 100000 in
theorem q240_12 (E : mj_E) (d w c : Nat) (hi : Nat → Nat → Int32) (hl : Nat → Nat → Int64) (v1 : Int32) (s0 : Int32) : mj_den mj_P E d 240 12 [Value.ref 205, Value.int v1, Value.float 0, Value.float 0, Value.float 0] [Value.int s0] (mj_hw w c hi hl) = if ¬ s0 = 0 then mj_den mj_P E d 240 17 [Value.ref 205, Value.int v1, Value.float 0, Value.float 0, Value.float 0] [] (mj_hw w c hi hl) else some (some (Value.int (-1 : Int32)), (mj_hw w c hi hl)) := by
  rw [mj_den_eq, f240_12]
  exact zt_if_ne rfl rfl (zt_iconst rfl (zt_ireturn0))
set_option maxRecDepth 100000 in
theorem f240_17 : mj_find (mj_P 240).2.2.2.2 17 = [(.aload_n 0, 1, 0, []), (.invokevirtual 407, 3, 0, [0, 168, 12, 0, 1, 1962, 1964, 109, 156, 1965])] := rfl
set_option maxRecDepth 100000 in
theorem q240_17 (E : mj_E) (d w c : Nat) (hi : Nat → Nat → Int32) (hl : Nat → Nat → Int64) (v1 : Int32) : mj_den mj_P E d 240 17 [Value.ref 205, Value.int v1, Value.float 0, Value.float 0, Value.float 0] [] (mj_hw w c hi hl) = mj_bi (mj_dc mj_P E d 168 [Value.ref 205] (mj_hw w c hi hl)) (fun x1 h1 => mj_den mj_P E d 240 21 [Value.ref 205, Value.int v1, Value.float 0, Value.float 0, Value.float 0] [Value.int x1] h1) := by
  rw [mj_den_eq, f240_17]
  exact zt_aload_n rfl rfl (zt_call0_1 rfl (mjkd205 _ _ _ _) (Nat.le_of_ble_eq_true rfl) rfl rfl)
set_option maxRecDepth 100000 in
theorem f240_21 : mj_find (mj_P 240).2.2.2.2 21 = [(.istore_n 2, 1, 0, []), (.iload_n 2, 1, 0, []), (.istore_n 3, 1, 0, []), (.iconst 0, 1, 0, []), (.istore 4, 2, 0, [])] := rfl
set_option maxRecDepth 100000 in
theorem q240_21 (E : mj_E) (d w c : Nat) (hi : Nat → Nat → Int32) (hl : Nat → Nat → Int64) (v1 : Int32) (s0 : Int32) : mj_den mj_P E d 240 21 [Value.ref 205, Value.int v1, Value.float 0, Value.float 0, Value.float 0] [Value.int s0] (mj_hw w c hi hl) = mj_den mj_P E d 240 27 [Value.ref 205, Value.int v1, Value.int s0, Value.int s0, Value.int (0 : Int32)] [] (mj_hw w c hi hl) := by
  rw [mj_den_eq, f240_21]
  exact zt_istore_n (Nat.le_of_ble_eq_true rfl) rfl rfl (zt_iload_n rfl rfl (zt_istore_n (Nat.le_of_ble_eq_true rfl) rfl rfl (zt_iconst rfl (zt_istore (Nat.le_of_ble_eq_true rfl) rfl rfl (zt_end rfl)))))
set_option maxRecDepth 100000 in
theorem f240_27 : mj_find (mj_P 240).2.2.2.2 27 = [(.iload 4, 2, 0, []), (.iload_n 2, 1, 0, []), (.if_icmp .gt 46, 3, 0, [76]), (.iload 4, 2, 0, []), (.iload_n 2, 1, 0, []), (.iconst (-1), 1, (-1), []), (.ixor, 1, 0, []), (.iand, 1, 0, []), (.ifCond .ne 31, 3, 0, [70]), (.aload_n 0, 1, 0, []), (.iload 4, 2, 0, []), (.invokevirtual 336, 3, 0, [0, 156, 12, 1, 1, 1820, 1822, 84, 156, 1823])] := rfl
set_option maxRecDepth 100000 in
theorem q240_27 (E : mj_E) (d w c : Nat) (hi : Nat → Nat → Int32) (hl : Nat → Nat → Int64) (v1 : Int32) (v2 : Int32) (v3 : Int32) (v4 : Int32) : mj_den mj_P E d 240 27 [Value.ref 205, Value.int v1, Value.int v2, Value.int v3, Value.int v4] [] (mj_hw w c hi hl) = if v2 < v4 then mj_den mj_P E d 240 76 [Value.ref 205, Value.int v1, Value.int v2, Value.int v3, Value.int v4] [] (mj_hw w c hi hl) else if ¬ (v4 &&& (v2 ^^^ (-1 : Int32))) = 0 then mj_den mj_P E d 240 70 [Value.ref 205, Value.int v1, Value.int v2, Value.int v3, Value.int v4] [] (mj_hw w c hi hl) else mj_bi (mj_dc mj_P E d 156 [Value.ref 205, Value.int v4] (mj_hw w c hi hl)) (fun x1 h1 => mj_den mj_P E d 240 48 [Value.ref 205, Value.int v1, Value.int v2, Value.int v3, Value.int v4] [Value.int x1] h1) := by
  rw [mj_den_eq, f240_27]
  exact zt_iload rfl rfl (zt_iload_n rfl rfl (zt_icmp_gt rfl rfl (zt_iload rfl rfl (zt_iload_n rfl rfl (zt_iconst rfl (zt_ixor rfl (zt_iand rfl (zt_if_ne rfl rfl (zt_aload_n rfl rfl (zt_iload rfl rfl (zt_call0_1 rfl (mjkd205 _ _ _ _) (Nat.le_of_ble_eq_true rfl) rfl rfl)))))))))))
set_option maxRecDepth 100000 in
theorem f240_48 : mj_find (mj_P 240).2.2.2.2 48 = [(.aload_n 0, 1, 0, []), (.iload_n 3, 1, 0, []), (.invokevirtual 336, 3, 0, [0, 156, 12, 1, 1, 1820, 1822, 84, 156, 1823])] := rfl
set_option maxRecDepth 100000 in
theorem q240_48 (E : mj_E) (d w c : Nat) (hi : Nat → Nat → Int32) (hl : Nat → Nat → Int64) (v1 : Int32) (v2 : Int32) (v3 : Int32) (v4 : Int32) (s0 : Int32) : mj_den mj_P E d 240 48 [Value.ref 205, Value.int v1, Value.int v2, Value.int v3, Value.int v4] [Value.int s0] (mj_hw w c hi hl) = mj_bi (mj_dc mj_P E d 156 [Value.ref 205, Value.int v3] (mj_hw w c hi hl)) (fun x1 h1 => mj_den mj_P E d 240 53 [Value.ref 205, Value.int v1, Value.int v2, Value.int v3, Value.int v4] [Value.int x1, Value.int s0] h1) := by
  rw [mj_den_eq, f240_48]
  exact zt_aload_n rfl rfl (zt_iload_n rfl rfl (zt_call0_1 rfl (mjkd205 _ _ _ _) (Nat.le_of_ble_eq_true rfl) rfl rfl))
set_option maxRecDepth 100000 in
theorem f240_53 : mj_find (mj_P 240).2.2.2.2 53 = [(.if_icmp .ge 17, 3, 0, [70]), (.aload_n 0, 1, 0, []), (.iload 4, 2, 0, []), (.iload_n 2, 1, 0, []), (.invokevirtual 410, 3, 0, [0, 239, 12, 2, 1, 1966, 1968, 110, 156, 1969])] := rfl
set_option maxRecDepth 100000 in
theorem q240_53 (E : mj_E) (d w c : Nat) (hi : Nat → Nat → Int32) (hl : Nat → Nat → Int64) (v1 : Int32) (v2 : Int32) (v3 : Int32) (v4 : Int32) (s0 : Int32) (s1 : Int32) : mj_den mj_P E d 240 53 [Value.ref 205, Value.int v1, Value.int v2, Value.int v3, Value.int v4] [Value.int s0, Value.int s1] (mj_hw w c hi hl) = if s0 ≤ s1 then mj_den mj_P E d 240 70 [Value.ref 205, Value.int v1, Value.int v2, Value.int v3, Value.int v4] [] (mj_hw w c hi hl) else mj_bi (mj_dc mj_P E d 239 [Value.ref 205, Value.int v4, Value.int v2] (mj_hw w c hi hl)) (fun x1 h1 => mj_den mj_P E d 240 63 [Value.ref 205, Value.int v1, Value.int v2, Value.int v3, Value.int v4] [Value.int x1] h1) := by
  rw [mj_den_eq, f240_53]
  exact zt_icmp_ge rfl rfl (zt_aload_n rfl rfl (zt_iload rfl rfl (zt_iload_n rfl rfl (zt_call0_1 rfl (mjkd205 _ _ _ _) (Nat.le_of_ble_eq_true rfl) rfl rfl))))
set_option maxRecDepth 100000 in
theorem f240_63 : mj_find (mj_P 240).2.2.2.2 63 = [(.iload_n 2, 1, 0, []), (.if_icmp .ne 6, 3, 0, [70]), (.iload 4, 2, 0, []), (.istore_n 3, 1, 0, [])] := rfl
set_option maxRecDepth 100000 in
theorem q240_63 (E : mj_E) (d w c : Nat) (hi : Nat → Nat → Int32) (hl : Nat → Nat → Int64) (v1 : Int32) (v2 : Int32) (v3 : Int32) (v4 : Int32) (s0 : Int32) : mj_den mj_P E d 240 63 [Value.ref 205, Value.int v1, Value.int v2, Value.int v3, Value.int v4] [Value.int s0] (mj_hw w c hi hl) = if ¬ s0 = v2 then mj_den mj_P E d 240 70 [Value.ref 205, Value.int v1, Value.int v2, Value.int v3, Value.int v4] [] (mj_hw w c hi hl) else mj_den mj_P E d 240 70 [Value.ref 205, Value.int v1, Value.int v2, Value.int v4, Value.int v4] [] (mj_hw w c hi hl) := by
  rw [mj_den_eq, f240_63]
  exact zt_iload_n rfl rfl (zt_icmp_ne rfl rfl (zt_iload rfl rfl (zt_istore_n (Nat.le_of_ble_eq_true rfl) rfl rfl (zt_end rfl))))
set_option maxRecDepth 100000 in
theorem f240_70 : mj_find (mj_P 240).2.2.2.2 70 = [(.iinc 4 1, 3, 1, []), (.goto (-46), 3, 0, [27])] := rfl
set_option maxRecDepth 100000 in
theorem q240_70 (E : mj_E) (d w c : Nat) (hi : Nat → Nat → Int32) (hl : Nat → Nat → Int64) (v1 : Int32) (v2 : Int32) (v3 : Int32) (v4 : Int32) : mj_den mj_P E d 240 70 [Value.ref 205, Value.int v1, Value.int v2, Value.int v3, Value.int v4] [] (mj_hw w c hi hl) = mj_den mj_P E d 240 27 [Value.ref 205, Value.int v1, Value.int v2, Value.int v3, Value.int (v4 + (1 : Int32))] [] (mj_hw w c hi hl) := by
  rw [mj_den_eq, f240_70]
  exact zt_iinc rfl (Nat.le_of_ble_eq_true rfl) rfl rfl (zt_goto rfl)
set_option maxRecDepth 100000 in
theorem f240_76 : mj_find (mj_P 240).2.2.2.2 76 = [(.iload_n 1, 1, 0, []), (.ifCond .ne 11, 3, 0, [88]), (.aload_n 0, 1, 0, []), (.iload_n 3, 1, 0, []), (.invokevirtual 336, 3, 0, [0, 156, 12, 1, 1, 1820, 1822, 84, 156, 1823])] := rfl
set_option maxRecDepth 100000 in
theorem q240_76 (E : mj_E) (d w c : Nat) (hi : Nat → Nat → Int32) (hl : Nat → Nat → Int64) (v1 : Int32) (v2 : Int32) (v3 : Int32) (v4 : Int32) : mj_den mj_P E d 240 76 [Value.ref 205, Value.int v1, Value.int v2, Value.int v3, Value.int v4] [] (mj_hw w c hi hl) = if ¬ v1 = 0 then mj_den mj_P E d 240 88 [Value.ref 205, Value.int v1, Value.int v2, Value.int v3, Value.int v4] [] (mj_hw w c hi hl) else mj_bi (mj_dc mj_P E d 156 [Value.ref 205, Value.int v3] (mj_hw w c hi hl)) (fun x1 h1 => mj_den mj_P E d 240 85 [Value.ref 205, Value.int v1, Value.int v2, Value.int v3, Value.int v4] [Value.int x1] h1) := by
  rw [mj_den_eq, f240_76]
  exact zt_iload_n rfl rfl (zt_if_ne rfl rfl (zt_aload_n rfl rfl (zt_iload_n rfl rfl (zt_call0_1 rfl (mjkd205 _ _ _ _) (Nat.le_of_ble_eq_true rfl) rfl rfl))))
set_option maxRecDepth 100000 in
theorem f240_85 : mj_find (mj_P 240).2.2.2.2 85 = [(.goto 4, 3, 0, [89])] := rfl
set_option maxRecDepth 100000 in
theorem q240_85 (E : mj_E) (d w c : Nat) (hi : Nat → Nat → Int32) (hl : Nat → Nat → Int64) (v1 : Int32) (v2 : Int32) (v3 : Int32) (v4 : Int32) (s0 : Int32) : mj_den mj_P E d 240 85 [Value.ref 205, Value.int v1, Value.int v2, Value.int v3, Value.int v4] [Value.int s0] (mj_hw w c hi hl) = mj_den mj_P E d 240 89 [Value.ref 205, Value.int v1, Value.int v2, Value.int v3, Value.int v4] [Value.int s0] (mj_hw w c hi hl) := by
  rw [mj_den_eq, f240_85]
  exact zt_goto rfl
set_option maxRecDepth 100000 in
theorem f240_88 : mj_find (mj_P 240).2.2.2.2 88 = [(.iload_n 3, 1, 0, [])] := rfl
set_option maxRecDepth 100000 in
theorem q240_88 (E : mj_E) (d w c : Nat) (hi : Nat → Nat → Int32) (hl : Nat → Nat → Int64) (v1 : Int32) (v2 : Int32) (v3 : Int32) (v4 : Int32) : mj_den mj_P E d 240 88 [Value.ref 205, Value.int v1, Value.int v2, Value.int v3, Value.int v4] [] (mj_hw w c hi hl) = mj_den mj_P E d 240 89 [Value.ref 205, Value.int v1, Value.int v2, Value.int v3, Value.int v4] [Value.int v3] (mj_hw w c hi hl) := by
  rw [mj_den_eq, f240_88]
  exact zt_iload_n rfl rfl (zt_end rfl)
set_option maxRecDepth 100000 in
theorem f240_89 : mj_find (mj_P 240).2.2.2.2 89 = [(.ireturn, 1, 0, [0])] := rfl
set_option maxRecDepth 100000 in
theorem q240_89 (E : mj_E) (d w c : Nat) (hi : Nat → Nat → Int32) (hl : Nat → Nat → Int64) (v1 : Int32) (v2 : Int32) (v3 : Int32) (v4 : Int32) (s0 : Int32) : mj_den mj_P E d 240 89 [Value.ref 205, Value.int v1, Value.int v2, Value.int v3, Value.int v4] [Value.int s0] (mj_hw w c hi hl) = some (some (Value.int s0), (mj_hw w c hi hl)) := by
  rw [mj_den_eq, f240_89]
  exact zt_ireturn0
set_option maxRecDepth 100000 in
theorem f241_0 : mj_find (mj_P 241).2.2.2.2 0 = [(.aload_n 0, 1, 0, []), (.aload_n 0, 1, 0, []), (.getfield 71, 3, 0, [12, 39, 3, 1449]), (.iload_n 1, 1, 0, []), (.iaload, 1, 0, []), (.iload_n 2, 1, 0, []), (.invokevirtual 327, 3, 0, [0, 157, 12, 2, 1, 1832, 1834, 87, 156, 1835])] := rfl
set_option maxRecDepth 100000 in
theorem q241_0 (E : mj_E) (d w c : Nat) (hi : Nat → Nat → Int32) (hl : Nat → Nat → Int64) (v1 : Int32) (v2 : Int32) : mj_den mj_P E d 241 0 [Value.ref 205, Value.int v1, Value.int v2] [] (mj_hw w c hi hl) = if 0 ≤ v1 ∧ (v1).toNatClampNeg < 20 then mj_bi (mj_dc mj_P E d 157 [Value.ref 205, Value.int (hi 225 ((v1).toNatClampNeg)), Value.int v2] (mj_hw w c hi hl)) (fun x1 h1 => mj_den mj_P E d 241 11 [Value.ref 205, Value.int v1, Value.int v2] [Value.int x1] h1) else none := by
  rw [mj_den_eq, f241_0]
  exact zt_aload_n rfl rfl (zt_aload_n rfl rfl (zt_getr (mjkd205 _ _ _ _) (mjhr205_39 w c) rfl (zt_iload_n rfl rfl (zt_iald (mjkd225 _ _ _ _) (mjln225 _ _ _ _) rfl rfl (zt_iload_n rfl rfl (zt_call0_1 rfl (mjkd205 _ _ _ _) (Nat.le_of_ble_eq_true rfl) rfl rfl))))))
set_option maxRecDepth 100000 in
theorem f241_11 : mj_find (mj_P 241).2.2.2.2 11 = [(.ifCond .eq 7, 3, 0, [18]), (.iconst 1, 1, 1, []), (.goto 4, 3, 0, [19])] := rfl
set_option maxRecDepth 100000 in
theorem q241_11 (E : mj_E) (d w c : Nat) (hi : Nat → Nat → Int32) (hl : Nat → Nat → Int64) (v1 : Int32) (v2 : Int32) (s0 : Int32) : mj_den mj_P E d 241 11 [Value.ref 205, Value.int v1, Value.int v2] [Value.int s0] (mj_hw w c hi hl) = if s0 = 0 then mj_den mj_P E d 241 18 [Value.ref 205, Value.int v1, Value.int v2] [] (mj_hw w c hi hl) else mj_den mj_P E d 241 19 [Value.ref 205, Value.int v1, Value.int v2] [Value.int (1 : Int32)] (mj_hw w c hi hl) := by
  rw [mj_den_eq, f241_11]
  exact zt_if_eq rfl rfl (zt_iconst rfl (zt_goto rfl))
set_option maxRecDepth 100000 in
theorem f241_18 : mj_find (mj_P 241).2.2.2.2 18 = [(.iconst 0, 1, 0, [])] := rfl
set_option maxRecDepth 100000 in
theorem q241_18 (E : mj_E) (d w c : Nat) (hi : Nat → Nat → Int32) (hl : Nat → Nat → Int64) (v1 : Int32) (v2 : Int32) : mj_den mj_P E d 241 18 [Value.ref 205, Value.int v1, Value.int v2] [] (mj_hw w c hi hl) = mj_den mj_P E d 241 19 [Value.ref 205, Value.int v1, Value.int v2] [Value.int (0 : Int32)] (mj_hw w c hi hl) := by
  rw [mj_den_eq, f241_18]
  exact zt_iconst rfl (zt_end rfl)
set_option maxRecDepth 100000 in
theorem f241_19 : mj_find (mj_P 241).2.2.2.2 19 = [(.aload_n 0, 1, 0, []), (.aload_n 0, 1, 0, []), (.getfield 71, 3, 0, [12, 39, 3, 1449]), (.iload_n 2, 1, 0, []), (.iaload, 1, 0, []), (.iload_n 1, 1, 0, []), (.invokevirtual 327, 3, 0, [0, 157, 12, 2, 1, 1832, 1834, 87, 156, 1835])] := rfl
set_option maxRecDepth 100000 in
theorem q241_19 (E : mj_E) (d w c : Nat) (hi : Nat → Nat → Int32) (hl : Nat → Nat → Int64) (v1 : Int32) (v2 : Int32) (s0 : Int32) : mj_den mj_P E d 241 19 [Value.ref 205, Value.int v1, Value.int v2] [Value.int s0] (mj_hw w c hi hl) = if 0 ≤ v2 ∧ (v2).toNatClampNeg < 20 then mj_bi (mj_dc mj_P E d 157 [Value.ref 205, Value.int (hi 225 ((v2).toNatClampNeg)), Value.int v1] (mj_hw w c hi hl)) (fun x1 h1 => mj_den mj_P E d 241 30 [Value.ref 205, Value.int v1, Value.int v2] [Value.int x1, Value.int s0] h1) else none := by
  rw [mj_den_eq, f241_19]
  exact zt_aload_n rfl rfl (zt_aload_n rfl rfl (zt_getr (mjkd205 _ _ _ _) (mjhr205_39 w c) rfl (zt_iload_n rfl rfl (zt_iald (mjkd225 _ _ _ _) (mjln225 _ _ _ _) rfl rfl (zt_iload_n rfl rfl (zt_call0_1 rfl (mjkd205 _ _ _ _) (Nat.le_of_ble_eq_true rfl) rfl rfl))))))
set_option maxRecDepth 100000 in
theorem f241_30 : mj_find (mj_P 241).2.2.2.2 30 = [(.ifCond .eq 7, 3, 0, [37]), (.iconst 1, 1, 1, []), (.goto 4, 3, 0, [38])] := rfl
set_option maxRecDepth 100000 in
theorem q241_30 (E : mj_E) (d w c : Nat) (hi : Nat → Nat → Int32) (hl : Nat → Nat → Int64) (v1 : Int32) (v2 : Int32) (s0 : Int32) (s1 : Int32) : mj_den mj_P E d 241 30 [Value.ref 205, Value.int v1, Value.int v2] [Value.int s0, Value.int s1] (mj_hw w c hi hl) = if s0 = 0 then mj_den mj_P E d 241 37 [Value.ref 205, Value.int v1, Value.int v2] [Value.int s1] (mj_hw w c hi hl) else mj_den mj_P E d 241 38 [Value.ref 205, Value.int v1, Value.int v2] [Value.int (1 : Int32), Value.int s1] (mj_hw w c hi hl) := by
  rw [mj_den_eq, f241_30]
  exact zt_if_eq rfl rfl (zt_iconst rfl (zt_goto rfl))
set_option maxRecDepth 100000 in
theorem f241_37 : mj_find (mj_P 241).2.2.2.2 37 = [(.iconst 0, 1, 0, [])] := rfl
set_option maxRecDepth 100000 in
theorem q241_37 (E : mj_E) (d w c : Nat) (hi : Nat → Nat → Int32) (hl : Nat → Nat → Int64) (v1 : Int32) (v2 : Int32) (s0 : Int32) : mj_den mj_P E d 241 37 [Value.ref 205, Value.int v1, Value.int v2] [Value.int s0] (mj_hw w c hi hl) = mj_den mj_P E d 241 38 [Value.ref 205, Value.int v1, Value.int v2] [Value.int (0 : Int32), Value.int s0] (mj_hw w c hi hl) := by
  rw [mj_den_eq, f241_37]
  exact zt_iconst rfl (zt_end rfl)
set_option maxRecDepth 100000 in
theorem f241_38 : mj_find (mj_P 241).2.2.2.2 38 = [(.iadd, 1, 0, []), (.ireturn, 1, 0, [0])] := rfl
set_option maxRecDepth 100000 in
theorem q241_38 (E : mj_E) (d w c : Nat) (hi : Nat → Nat → Int32) (hl : Nat → Nat → Int64) (v1 : Int32) (v2 : Int32) (s0 : Int32) (s1 : Int32) : mj_den mj_P E d 241 38 [Value.ref 205, Value.int v1, Value.int v2] [Value.int s0, Value.int s1] (mj_hw w c hi hl) = some (some (Value.int (s1 + s0)), (mj_hw w c hi hl)) := by
  rw [mj_den_eq, f241_38]
  exact zt_iadd rfl (zt_ireturn0)
set_option maxRecDepth 100000 in
theorem f242_0 : mj_find (mj_P 242).2.2.2.2 0 = [(.iload_n 2, 1, 0, []), (.iconst (-1), 1, (-1), []), (.if_icmp .ne 7, 3, 0, [9]), (.iconst 0, 1, 0, []), (.goto 9, 3, 0, [15])] := rfl
set_option maxRecDepth 100000 in
theorem q242_0 (E : mj_E) (d w c : Nat) (hi : Nat → Nat → Int32) (hl : Nat → Nat → Int64) (v1 : Int32) (v2 : Int32) (v3 : Int32) : mj_den mj_P E d 242 0 [Value.ref 205, Value.int v1, Value.int v2, Value.int v3] [] (mj_hw w c hi hl) = if ¬ v2 = (-1 : Int32) then mj_den mj_P E d 242 9 [Value.ref 205, Value.int v1, Value.int v2, Value.int v3] [] (mj_hw w c hi hl) else mj_den mj_P E d 242 15 [Value.ref 205, Value.int v1, Value.int v2, Value.int v3] [Value.int (0 : Int32)] (mj_hw w c hi hl) := by
  rw [mj_den_eq, f242_0]
  exact zt_iload_n rfl rfl (zt_iconst rfl (zt_icmp_ne rfl rfl (zt_iconst rfl (zt_goto rfl))))
set_option maxRecDepth 100000 in
theorem f242_9 : mj_find (mj_P 242).2.2.2.2 9 = [(.aload_n 0, 1, 0, []), (.iload_n 2, 1, 0, []), (.iload_n 3, 1, 0, []), (.invokevirtual 413, 3, 0, [0, 241, 12, 2, 1, 1987, 1989, 114, 156, 1990])] := rfl
set_option maxRecDepth 100000 in
theorem q242_9 (E : mj_E) (d w c : Nat) (hi : Nat → Nat → Int32) (hl : Nat → Nat → Int64) (v1 : Int32) (v2 : Int32) (v3 : Int32) : mj_den mj_P E d 242 9 [Value.ref 205, Value.int v1, Value.int v2, Value.int v3] [] (mj_hw w c hi hl) = mj_bi (mj_dc mj_P E d 241 [Value.ref 205, Value.int v2, Value.int v3] (mj_hw w c hi hl)) (fun x1 h1 => mj_den mj_P E d 242 15 [Value.ref 205, Value.int v1, Value.int v2, Value.int v3] [Value.int x1] h1) := by
  rw [mj_den_eq, f242_9]
  exact zt_aload_n rfl rfl (zt_iload_n rfl rfl (zt_iload_n rfl rfl (zt_call0_1 rfl (mjkd205 _ _ _ _) (Nat.le_of_ble_eq_true rfl) rfl rfl)))
set_option maxRecDepth 100000 in
theorem f242_15 : mj_find (mj_P 242).2.2.2.2 15 = [(.aload_n 0, 1, 0, []), (.getfield 83, 3, 0, [12, 47, 3, 1457]), (.bipush 10, 2, 10, []), (.iload_n 1, 1, 0, []), (.iconst 1, 1, 1, []), (.iload_n 3, 1, 0, []), (.ishl, 1, 0, []), (.ior, 1, 0, []), (.imul, 1, 0, []), (.iload_n 3, 1, 0, []), (.iadd, 1, 0, []), (.iaload, 1, 0, []), (.iadd, 1, 0, []), (.ireturn, 1, 0, [0])] := rfl
set_option maxRecDepth 100000 in
theorem q242_15 (E : mj_E) (d w c : Nat) (hi : Nat → Nat → Int32) (hl : Nat → Nat → Int64) (v1 : Int32) (v2 : Int32) (v3 : Int32) (s0 : Int32) : mj_den mj_P E d 242 15 [Value.ref 205, Value.int v1, Value.int v2, Value.int v3] [Value.int s0] (mj_hw w c hi hl) = if 0 ≤ (((10 : Int32) * (v1 ||| ((1 : Int32) <<< (v3 &&& 31)))) + v3) ∧ ((((10 : Int32) * (v1 ||| ((1 : Int32) <<< (v3 &&& 31)))) + v3)).toNatClampNeg < 10240 then some (some (Value.int (s0 + (hi 229 (((((10 : Int32) * (v1 ||| ((1 : Int32) <<< (v3 &&& 31)))) + v3)).toNatClampNeg)))), (mj_hw w c hi hl)) else none := by
  rw [mj_den_eq, f242_15]
  exact zt_aload_n rfl rfl (zt_getr (mjkd205 _ _ _ _) (mjhr205_47 w c) rfl (zt_bipush rfl (zt_iload_n rfl rfl (zt_iconst rfl (zt_iload_n rfl rfl (zt_ishl rfl (zt_ior rfl (zt_imul rfl (zt_iload_n rfl rfl (zt_iadd rfl (zt_iald (mjkd229 _ _ _ _) (mjln229 _ _ _ _) rfl rfl (zt_iadd rfl (zt_ireturn0)))))))))))))
set_option maxRecDepth 100000 in
theorem f243_0 : mj_find (mj_P 243).2.2.2.2 0 = [(.iload_n 1, 1, 0, []), (.iload_n 3, 1, 0, []), (.if_icmp .ne 5, 3, 0, [7]), (.iconst 0, 1, 0, []), (.ireturn, 1, 0, [0])] := rfl
set_option maxRecDepth 100000 in
theorem q243_0 (E : mj_E) (d w c : Nat) (hi : Nat → Nat → Int32) (hl : Nat → Nat → Int64) (v1 : Int32) (v2 : Int32) (v3 : Int32) : mj_den mj_P E d 243 0 [Value.ref 205, Value.int v1, Value.int v2, Value.int v3, Value.float 0, Value.float 0] [] (mj_hw w c hi hl) = if ¬ v1 = v3 then mj_den mj_P E d 243 7 [Value.ref 205, Value.int v1, Value.int v2, Value.int v3, Value.float 0, Value.float 0] [] (mj_hw w c hi hl) else some (some (Value.int (0 : Int32)), (mj_hw w c hi hl)) := by
  rw [mj_den_eq, f243_0]
  exact zt_iload_n rfl rfl (zt_iload_n rfl rfl (zt_icmp_ne rfl rfl (zt_iconst rfl (zt_ireturn0))))
set_option maxRecDepth 100000 in
theorem f243_7 : mj_find (mj_P 243).2.2.2.2 7 = [(.ldc_w 416, 3, 100000000, [0, 1982]), (.istore 4, 2, 0, []), (.iconst 0, 1, 0, []), (.istore 5, 2, 0, [])] := rfl
set_option maxRecDepth 100000 in
theorem q243_7 (E : mj_E) (d w c : Nat) (hi : Nat → Nat → Int32) (hl : Nat → Nat → Int64) (v1 : Int32) (v2 : Int32) (v3 : Int32) : mj_den mj_P E d 243 7 [Value.ref 205, Value.int v1, Value.int v2, Value.int v3, Value.float 0, Value.float 0] [] (mj_hw w c hi hl) = mj_den mj_P E d 243 15 [Value.ref 205, Value.int v1, Value.int v2, Value.int v3, Value.int (100000000 : Int32), Value.int (0 : Int32)] [] (mj_hw w c hi hl) := by
  rw [mj_den_eq, f243_7]
  exact zt_ldc_w rfl (zt_istore (Nat.le_of_ble_eq_true rfl) rfl rfl (zt_iconst rfl (zt_istore (Nat.le_of_ble_eq_true rfl) rfl rfl (zt_end rfl))))
set_option maxRecDepth 100000 in
theorem f243_15 : mj_find (mj_P 243).2.2.2.2 15 = [(.iload 5, 2, 0, []), (.aload_n 0, 1, 0, []), (.getfield 134, 3, 0, [12, 6, 0, 1416]), (.if_icmp .ge 39, 3, 0, [60]), (.aload_n 0, 1, 0, []), (.iload_n 3, 1, 0, []), (.iload_n 1, 1, 0, []), (.iconst (-1), 1, (-1), []), (.ixor, 1, 0, []), (.iand, 1, 0, []), (.iload 5, 2, 0, []), (.invokevirtual 327, 3, 0, [0, 157, 12, 2, 1, 1832, 1834, 87, 156, 1835])] := rfl
set_option maxRecDepth 100000 in
theorem q243_15 (E : mj_E) (d w c : Nat) (hi : Nat → Nat → Int32) (hl : Nat → Nat → Int64) (v1 : Int32) (v2 : Int32) (v3 : Int32) (v4 : Int32) (v5 : Int32) : mj_den mj_P E d 243 15 [Value.ref 205, Value.int v1, Value.int v2, Value.int v3, Value.int v4, Value.int v5] [] (mj_hw w c hi hl) = if (hi 205 6) ≤ v5 then mj_den mj_P E d 243 60 [Value.ref 205, Value.int v1, Value.int v2, Value.int v3, Value.int v4, Value.int v5] [] (mj_hw w c hi hl) else mj_bi (mj_dc mj_P E d 157 [Value.ref 205, Value.int (v3 &&& (v1 ^^^ (-1 : Int32))), Value.int v5] (mj_hw w c hi hl)) (fun x1 h1 => mj_den mj_P E d 243 35 [Value.ref 205, Value.int v1, Value.int v2, Value.int v3, Value.int v4, Value.int v5] [Value.int x1] h1) := by
  rw [mj_den_eq, f243_15]
  exact zt_iload rfl rfl (zt_aload_n rfl rfl (zt_geti (mjkd205 _ _ _ _) rfl rfl (zt_icmp_ge rfl rfl (zt_aload_n rfl rfl (zt_iload_n rfl rfl (zt_iload_n rfl rfl (zt_iconst rfl (zt_ixor rfl (zt_iand rfl (zt_iload rfl rfl (zt_call0_1 rfl (mjkd205 _ _ _ _) (Nat.le_of_ble_eq_true rfl) rfl rfl)))))))))))
set_option maxRecDepth 100000 in
theorem f243_35 : mj_find (mj_P 243).2.2.2.2 35 = [(.ifCond .eq 19, 3, 0, [54]), (.aload_n 0, 1, 0, []), (.iload 4, 2, 0, []), (.aload_n 0, 1, 0, []), (.iload_n 1, 1, 0, []), (.iload_n 2, 1, 0, []), (.iload 5, 2, 0, []), (.invokevirtual 417, 3, 0, [0, 242, 12, 3, 1, 1983, 1985, 113, 156, 1986])] := rfl
set_option maxRecDepth 100000 in
theorem q243_35 (E : mj_E) (d w c : Nat) (hi : Nat → Nat → Int32) (hl : Nat → Nat → Int64) (v1 : Int32) (v2 : Int32) (v3 : Int32) (v4 : Int32) (v5 : Int32) (s0 : Int32) : mj_den mj_P E d 243 35 [Value.ref 205, Value.int v1, Value.int v2, Value.int v3, Value.int v4, Value.int v5] [Value.int s0] (mj_hw w c hi hl) = if s0 = 0 then mj_den mj_P E d 243 54 [Value.ref 205, Value.int v1, Value.int v2, Value.int v3, Value.int v4, Value.int v5] [] (mj_hw w c hi hl) else mj_bi (mj_dc mj_P E d 242 [Value.ref 205, Value.int v1, Value.int v2, Value.int v5] (mj_hw w c hi hl)) (fun x1 h1 => mj_den mj_P E d 243 49 [Value.ref 205, Value.int v1, Value.int v2, Value.int v3, Value.int v4, Value.int v5] [Value.int x1, Value.int v4, Value.ref 205] h1) := by
  rw [mj_den_eq, f243_35]
  exact zt_if_eq rfl rfl (zt_aload_n rfl rfl (zt_iload rfl rfl (zt_aload_n rfl rfl (zt_iload_n rfl rfl (zt_iload_n rfl rfl (zt_iload rfl rfl (zt_call0_1 rfl (mjkd205 _ _ _ _) (Nat.le_of_ble_eq_true rfl) rfl rfl)))))))
set_option maxRecDepth 100000 in
theorem f243_49 : mj_find (mj_P 243).2.2.2.2 49 = [(.invokevirtual 374, 3, 0, [0, 155, 12, 2, 1, 1890, 1892, 101, 156, 1893])] := rfl
set_option maxRecDepth 100000 in
theorem q243_49 (E : mj_E) (d w c : Nat) (hi : Nat → Nat → Int32) (hl : Nat → Nat → Int64) (v1 : Int32) (v2 : Int32) (v3 : Int32) (v4 : Int32) (v5 : Int32) (s0 : Int32) (s1 : Int32) : mj_den mj_P E d 243 49 [Value.ref 205, Value.int v1, Value.int v2, Value.int v3, Value.int v4, Value.int v5] [Value.int s0, Value.int s1, Value.ref 205] (mj_hw w c hi hl) = mj_bi (mj_dc mj_P E d 155 [Value.ref 205, Value.int s1, Value.int s0] (mj_hw w c hi hl)) (fun x1 h1 => mj_den mj_P E d 243 52 [Value.ref 205, Value.int v1, Value.int v2, Value.int v3, Value.int v4, Value.int v5] [Value.int x1] h1) := by
  rw [mj_den_eq, f243_49]
  exact zt_call0_1 rfl (mjkd205 _ _ _ _) (Nat.le_of_ble_eq_true rfl) rfl rfl
set_option maxRecDepth 100000 in
theorem f243_52 : mj_find (mj_P 243).2.2.2.2 52 = [(.istore 4, 2, 0, [])] := rfl
set_option maxRecDepth 100000 in
theorem q243_52 (E : mj_E) (d w c : Nat) (hi : Nat → Nat → Int32) (hl : Nat → Nat → Int64) (v1 : Int32) (v2 : Int32) (v3 : Int32) (v4 : Int32) (v5 : Int32) (s0 : Int32) : mj_den mj_P E d 243 52 [Value.ref 205, Value.int v1, Value.int v2, Value.int v3, Value.int v4, Value.int v5] [Value.int s0] (mj_hw w c hi hl) = mj_den mj_P E d 243 54 [Value.ref 205, Value.int v1, Value.int v2, Value.int v3, Value.int s0, Value.int v5] [] (mj_hw w c hi hl) := by
  rw [mj_den_eq, f243_52]
  exact zt_istore (Nat.le_of_ble_eq_true rfl) rfl rfl (zt_end rfl)
set_option maxRecDepth 100000 in
theorem f243_54 : mj_find (mj_P 243).2.2.2.2 54 = [(.iinc 5 1, 3, 1, []), (.goto (-42), 3, 0, [15])] := rfl
set_option maxRecDepth 100000 in
theorem q243_54 (E : mj_E) (d w c : Nat) (hi : Nat → Nat → Int32) (hl : Nat → Nat → Int64) (v1 : Int32) (v2 : Int32) (v3 : Int32) (v4 : Int32) (v5 : Int32) : mj_den mj_P E d 243 54 [Value.ref 205, Value.int v1, Value.int v2, Value.int v3, Value.int v4, Value.int v5] [] (mj_hw w c hi hl) = mj_den mj_P E d 243 15 [Value.ref 205, Value.int v1, Value.int v2, Value.int v3, Value.int v4, Value.int (v5 + (1 : Int32))] [] (mj_hw w c hi hl) := by
  rw [mj_den_eq, f243_54]
  exact zt_iinc rfl (Nat.le_of_ble_eq_true rfl) rfl rfl (zt_goto rfl)
set_option maxRecDepth 100000 in
theorem f243_60 : mj_find (mj_P 243).2.2.2.2 60 = [(.iload 4, 2, 0, []), (.ireturn, 1, 0, [0])] := rfl
set_option maxRecDepth 100000 in
theorem q243_60 (E : mj_E) (d w c : Nat) (hi : Nat → Nat → Int32) (hl : Nat → Nat → Int64) (v1 : Int32) (v2 : Int32) (v3 : Int32) (v4 : Int32) (v5 : Int32) : mj_den mj_P E d 243 60 [Value.ref 205, Value.int v1, Value.int v2, Value.int v3, Value.int v4, Value.int v5] [] (mj_hw w c hi hl) = some (some (Value.int v4), (mj_hw w c hi hl)) := by
  rw [mj_den_eq, f243_60]
  exact zt_iload rfl rfl (zt_ireturn0)
set_option maxRecDepth 100000 in
theorem f244_0 : mj_find (mj_P 244).2.2.2.2 0 = [(.iload_n 1, 1, 0, []), (.istore_n 2, 1, 0, [])] := rfl
set_option maxRecDepth 100000 in
theorem q244_0 (E : mj_E) (d w c : Nat) (hi : Nat → Nat → Int32) (hl : Nat → Nat → Int64) (v1 : Int32) : mj_den mj_P E d 244 0 [Value.ref 205, Value.int v1, Value.float 0, Value.float 0] [] (mj_hw w c hi hl) = mj_den mj_P E d 244 2 [Value.ref 205, Value.int v1, Value.int v1, Value.float 0] [] (mj_hw w c hi hl) := by
  rw [mj_den_eq, f244_0]
  exact zt_iload_n rfl rfl (zt_istore_n (Nat.le_of_ble_eq_true rfl) rfl rfl (zt_end rfl))
set_option maxRecDepth 100000 in
theorem f244_2 : mj_find (mj_P 244).2.2.2.2 2 = [(.iload_n 2, 1, 0, []), (.ifCond .le 63, 3, 0, [66]), (.iload_n 2, 1, 0, []), (.iload_n 1, 1, 0, []), (.iconst (-1), 1, (-1), []), (.ixor, 1, 0, []), (.iand, 1, 0, []), (.ifCond .eq 6, 3, 0, [17]), (.goto 46, 3, 0, [60])] := rfl
set_option maxRecDepth 100000 in
theorem q244_2 (E : mj_E) (d w c : Nat) (hi : Nat → Nat → Int32) (hl : Nat → Nat → Int64) (v1 : Int32) (v2 : Int32) : mj_den mj_P E d 244 2 [Value.ref 205, Value.int v1, Value.int v2, Value.float 0] [] (mj_hw w c hi hl) = if v2 ≤ 0 then mj_den mj_P E d 244 66 [Value.ref 205, Value.int v1, Value.int v2, Value.float 0] [] (mj_hw w c hi hl) else if (v2 &&& (v1 ^^^ (-1 : Int32))) = 0 then mj_den mj_P E d 244 17 [Value.ref 205, Value.int v1, Value.int v2, Value.float 0] [] (mj_hw w c hi hl) else mj_den mj_P E d 244 60 [Value.ref 205, Value.int v1, Value.int v2, Value.float 0] [] (mj_hw w c hi hl) := by
  rw [mj_den_eq, f244_2]
  exact zt_iload_n rfl rfl (zt_if_le rfl rfl (zt_iload_n rfl rfl (zt_iload_n rfl rfl (zt_iconst rfl (zt_ixor rfl (zt_iand rfl (zt_if_eq rfl rfl (zt_goto rfl))))))))
set_option maxRecDepth 100000 in
theorem q244_2_1 (E : mj_E) (d w c : Nat) (hi : Nat → Nat → Int32) (hl : Nat → Nat → Int64) (v1 : Int32) (v2 : Int32) (v3 : Int32) : mj_den mj_P E d 244 2 [Value.ref 205, Value.int v1, Value.int v2, Value.int v3] [] (mj_hw w c hi hl) = if v2 ≤ 0 then mj_den mj_P E d 244 66 [Value.ref 205, Value.int v1, Value.int v2, Value.int v3] [] (mj_hw w c hi hl) else if (v2 &&& (v1 ^^^ (-1 : Int32))) = 0 then mj_den mj_P E d 244 17 [Value.ref 205, Value.int v1, Value.int v2, Value.int v3] [] (mj_hw w c hi hl) else mj_den mj_P E d 244 60 [Value.ref 205, Value.int v1, Value.int v2, Value.int v3] [] (mj_hw w c hi hl) := by
  rw [mj_den_eq, f244_2]
  exact zt_iload_n rfl rfl (zt_if_le rfl rfl (zt_iload_n rfl rfl (zt_iload_n rfl rfl (zt_iconst rfl (zt_ixor rfl (zt_iand rfl (zt_if_eq rfl rfl (zt_goto rfl))))))))
set_option maxRecDepth 100000 in
theorem f244_17 : mj_find (mj_P 244).2.2.2.2 17 = [(.iconst 0, 1, 0, []), (.istore_n 3, 1, 0, [])] := rfl
set_option maxRecDepth 100000 in
theorem q244_17 (E : mj_E) (d w c : Nat) (hi : Nat → Nat → Int32) (hl : Nat → Nat → Int64) (v1 : Int32) (v2 : Int32) : mj_den mj_P E d 244 17 [Value.ref 205, Value.int v1, Value.int v2, Value.float 0] [] (mj_hw w c hi hl) = mj_den mj_P E d 244 19 [Value.ref 205, Value.int v1, Value.int v2, Value.int (0 : Int32)] [] (mj_hw w c hi hl) := by
  rw [mj_den_eq, f244_17]
  exact zt_iconst rfl (zt_istore_n (Nat.le_of_ble_eq_true rfl) rfl rfl (zt_end rfl))
set_option maxRecDepth 100000 in
theorem q244_17_1 (E : mj_E) (d w c : Nat) (hi : Nat → Nat → Int32) (hl : Nat → Nat → Int64) (v1 : Int32) (v2 : Int32) (v3 : Int32) : mj_den mj_P E d 244 17 [Value.ref 205, Value.int v1, Value.int v2, Value.int v3] [] (mj_hw w c hi hl) = mj_den mj_P E d 244 19 [Value.ref 205, Value.int v1, Value.int v2, Value.int (0 : Int32)] [] (mj_hw w c hi hl) := by
  rw [mj_den_eq, f244_17]
  exact zt_iconst rfl (zt_istore_n (Nat.le_of_ble_eq_true rfl) rfl rfl (zt_end rfl))
set_option maxRecDepth 100000 in
theorem f244_19 : mj_find (mj_P 244).2.2.2.2 19 = [(.iload_n 3, 1, 0, []), (.aload_n 0, 1, 0, []), (.getfield 134, 3, 0, [12, 6, 0, 1416]), (.if_icmp .ge 36, 3, 0, [60]), (.aload_n 0, 1, 0, []), (.iload_n 2, 1, 0, []), (.iload_n 3, 1, 0, []), (.invokevirtual 327, 3, 0, [0, 157, 12, 2, 1, 1832, 1834, 87, 156, 1835])] := rfl
set_option maxRecDepth 100000 in
theorem q244_19 (E : mj_E) (d w c : Nat) (hi : Nat → Nat → Int32) (hl : Nat → Nat → Int64) (v1 : Int32) (v2 : Int32) (v3 : Int32) : mj_den mj_P E d 244 19 [Value.ref 205, Value.int v1, Value.int v2, Value.int v3] [] (mj_hw w c hi hl) = if (hi 205 6) ≤ v3 then mj_den mj_P E d 244 60 [Value.ref 205, Value.int v1, Value.int v2, Value.int v3] [] (mj_hw w c hi hl) else mj_bi (mj_dc mj_P E d 157 [Value.ref 205, Value.int v2, Value.int v3] (mj_hw w c hi hl)) (fun x1 h1 => mj_den mj_P E d 244 33 [Value.ref 205, Value.int v1, Value.int v2, Value.int v3] [Value.int x1] h1) := by
  rw [mj_den_eq, f244_19]
  exact zt_iload_n rfl rfl (zt_aload_n rfl rfl (zt_geti (mjkd205 _ _ _ _) rfl rfl (zt_icmp_ge rfl rfl (zt_aload_n rfl rfl (zt_iload_n rfl rfl (zt_iload_n rfl rfl (zt_call0_1 rfl (mjkd205 _ _ _ _) (Nat.le_of_ble_eq_true rfl) rfl rfl)))))))
set_option maxRecDepth 100000 in
theorem f244_33 : mj_find (mj_P 244).2.2.2.2 33 = [(.ifCond .eq 21, 3, 0, [54]), (.aload_n 0, 1, 0, []), (.getfield 83, 3, 0, [12, 47, 3, 1457]), (.bipush 10, 2, 10, []), (.iload_n 2, 1, 0, []), (.imul, 1, 0, []), (.iload_n 3, 1, 0, []), (.iadd, 1, 0, []), (.aload_n 0, 1, 0, []), (.iload_n 2, 1, 0, []), (.iload_n 3, 1, 0, []), (.iload_n 1, 1, 0, []), (.invokevirtual 420, 3, 0, [0, 243, 12, 3, 1, 1978, 1980, 112, 156, 1981])] := rfl
set_option maxRecDepth 100000 in
theorem q244_33 (E : mj_E) (d w c : Nat) (hi : Nat → Nat → Int32) (hl : Nat → Nat → Int64) (v1 : Int32) (v2 : Int32) (v3 : Int32) (s0 : Int32) : mj_den mj_P E d 244 33 [Value.ref 205, Value.int v1, Value.int v2, Value.int v3] [Value.int s0] (mj_hw w c hi hl) = if s0 = 0 then mj_den mj_P E d 244 54 [Value.ref 205, Value.int v1, Value.int v2, Value.int v3] [] (mj_hw w c hi hl) else mj_bi (mj_dc mj_P E d 243 [Value.ref 205, Value.int v2, Value.int v3, Value.int v1] (mj_hw w c hi hl)) (fun x1 h1 => mj_den mj_P E d 244 53 [Value.ref 205, Value.int v1, Value.int v2, Value.int v3] [Value.int x1, Value.int (((10 : Int32) * v2) + v3), Value.ref 229] h1) := by
  rw [mj_den_eq, f244_33]
  exact zt_if_eq rfl rfl (zt_aload_n rfl rfl (zt_getr (mjkd205 _ _ _ _) (mjhr205_47 w c) rfl (zt_bipush rfl (zt_iload_n rfl rfl (zt_imul rfl (zt_iload_n rfl rfl (zt_iadd rfl (zt_aload_n rfl rfl (zt_iload_n rfl rfl (zt_iload_n rfl rfl (zt_iload_n rfl rfl (zt_call0_1 rfl (mjkd205 _ _ _ _) (Nat.le_of_ble_eq_true rfl) rfl rfl))))))))))))
set_option maxRecDepth 100000 in
theorem f244_53 : mj_find (mj_P 244).2.2.2.2 53 = [(.iastore, 1, 0, [])] := rfl
set_option maxRecDepth 100000 in
theorem q244_53 (E : mj_E) (d w c : Nat) (hi : Nat → Nat → Int32) (hl : Nat → Nat → Int64) (v1 : Int32) (v2 : Int32) (v3 : Int32) (s0 : Int32) (s1 : Int32) : mj_den mj_P E d 244 53 [Value.ref 205, Value.int v1, Value.int v2, Value.int v3] [Value.int s0, Value.int s1, Value.ref 229] (mj_hw w c hi hl) = if 0 ≤ s1 ∧ (s1).toNatClampNeg < 10240 then mj_den mj_P E d 244 54 [Value.ref 205, Value.int v1, Value.int v2, Value.int v3] [] (mj_hw w c (mj_u hi 229 ((s1).toNatClampNeg) s0) hl) else none := by
  rw [mj_den_eq, f244_53]
  exact zt_iast (mjkd229 _ _ _ _) (mjln229 _ _ _ _) rfl rfl (zt_end rfl)
set_option maxRecDepth 100000 in
theorem f244_54 : mj_find (mj_P 244).2.2.2.2 54 = [(.iinc 3 1, 3, 1, []), (.goto (-38), 3, 0, [19])] := rfl
set_option maxRecDepth 100000 in
theorem q244_54 (E : mj_E) (d w c : Nat) (hi : Nat → Nat → Int32) (hl : Nat → Nat → Int64) (v1 : Int32) (v2 : Int32) (v3 : Int32) : mj_den mj_P E d 244 54 [Value.ref 205, Value.int v1, Value.int v2, Value.int v3] [] (mj_hw w c hi hl) = mj_den mj_P E d 244 19 [Value.ref 205, Value.int v1, Value.int v2, Value.int (v3 + (1 : Int32))] [] (mj_hw w c hi hl) := by
  rw [mj_den_eq, f244_54]
  exact zt_iinc rfl (Nat.le_of_ble_eq_true rfl) rfl rfl (zt_goto rfl)
set_option maxRecDepth 100000 in
theorem f244_60 : mj_find (mj_P 244).2.2.2.2 60 = [(.iinc 2 (-1), 3, (-1), []), (.goto (-61), 3, 0, [2])] := rfl
set_option maxRecDepth 100000 in
theorem q244_60 (E : mj_E) (d w c : Nat) (hi : Nat → Nat → Int32) (hl : Nat → Nat → Int64) (v1 : Int32) (v2 : Int32) : mj_den mj_P E d 244 60 [Value.ref 205, Value.int v1, Value.int v2, Value.float 0] [] (mj_hw w c hi hl) = mj_den mj_P E d 244 2 [Value.ref 205, Value.int v1, Value.int (v2 + (-1 : Int32)), Value.float 0] [] (mj_hw w c hi hl) := by
  rw [mj_den_eq, f244_60]
  exact zt_iinc rfl (Nat.le_of_ble_eq_true rfl) rfl rfl (zt_goto rfl)
set_option maxRecDepth 100000 in
theorem q244_60_1 (E : mj_E) (d w c : Nat) (hi : Nat → Nat → Int32) (hl : Nat → Nat → Int64) (v1 : Int32) (v2 : Int32) (v3 : Int32) : mj_den mj_P E d 244 60 [Value.ref 205, Value.int v1, Value.int v2, Value.int v3] [] (mj_hw w c hi hl) = mj_den mj_P E d 244 2 [Value.ref 205, Value.int v1, Value.int (v2 + (-1 : Int32)), Value.int v3] [] (mj_hw w c hi hl) := by
  rw [mj_den_eq, f244_60]
  exact zt_iinc rfl (Nat.le_of_ble_eq_true rfl) rfl rfl (zt_goto rfl)
set_option maxRecDepth 100000 in
theorem f244_66 : mj_find (mj_P 244).2.2.2.2 66 = [(.return_, 1, 0, [])] := rfl
set_option maxRecDepth 100000 in
theorem q244_66 (E : mj_E) (d w c : Nat) (hi : Nat → Nat → Int32) (hl : Nat → Nat → Int64) (v1 : Int32) (v2 : Int32) (v3 : Int32) : mj_den mj_P E d 244 66 [Value.ref 205, Value.int v1, Value.int v2, Value.int v3] [] (mj_hw w c hi hl) = some (none, (mj_hw w c hi hl)) := by
  rw [mj_den_eq, f244_66]
  exact zt_return
set_option maxRecDepth 100000 in
theorem q244_66_1 (E : mj_E) (d w c : Nat) (hi : Nat → Nat → Int32) (hl : Nat → Nat → Int64) (v1 : Int32) (v2 : Int32) : mj_den mj_P E d 244 66 [Value.ref 205, Value.int v1, Value.int v2, Value.float 0] [] (mj_hw w c hi hl) = some (none, (mj_hw w c hi hl)) := by
  rw [mj_den_eq, f244_66]
  exact zt_return
set_option maxRecDepth 100000 in
theorem f245_0 : mj_find (mj_P 245).2.2.2.2 0 = [(.aload_n 0, 1, 0, []), (.iconst 0, 1, 0, []), (.putfield 122, 3, 0, [12, 0, 0, 1410]), (.aload_n 0, 1, 0, []), (.invokevirtual 407, 3, 0, [0, 168, 12, 0, 1, 1962, 1964, 109, 156, 1965])] := rfl
set_option maxRecDepth 100000 in
theorem q245_0 (E : mj_E) (d w c : Nat) (hi : Nat → Nat → Int32) (hl : Nat → Nat → Int64) (v1 : Int32) : mj_den mj_P E d 245 0 [Value.ref 205, Value.int v1, Value.float 0, Value.float 0, Value.float 0, Value.float 0, Value.float 0, Value.float 0] [] (mj_hw w c hi hl) = mj_bi (mj_dc mj_P E d 168 [Value.ref 205] (mj_hw w c (mj_u hi 205 0 (0 : Int32)) hl)) (fun x1 h1 => mj_den mj_P E d 245 9 [Value.ref 205, Value.int v1, Value.float 0, Value.float 0, Value.float 0, Value.float 0, Value.float 0, Value.float 0] [Value.int x1] h1) := by
  rw [mj_den_eq, f245_0]
  exact zt_aload_n rfl rfl (zt_iconst rfl (zt_puti (mjkd205 _ _ _ _) rfl rfl (zt_aload_n rfl rfl (zt_call0_1 rfl (mjkd205 _ _ _ _) (Nat.le_of_ble_eq_true rfl) rfl rfl))))
set_option maxRecDepth 100000 in
theorem f245_9 : mj_find (mj_P 245).2.2.2.2 9 = [(.istore_n 2, 1, 0, []), (.aload_n 0, 1, 0, []), (.iload_n 2, 1, 0, []), (.invokevirtual 336, 3, 0, [0, 156, 12, 1, 1, 1820, 1822, 84, 156, 1823])] := rfl
set_option maxRecDepth 100000 in
theorem q245_9 (E : mj_E) (d w c : Nat) (hi : Nat → Nat → Int32) (hl : Nat → Nat → Int64) (v1 : Int32) (s0 : Int32) : mj_den mj_P E d 245 9 [Value.ref 205, Value.int v1, Value.float 0, Value.float 0, Value.float 0, Value.float 0, Value.float 0, Value.float 0] [Value.int s0] (mj_hw w c hi hl) = mj_bi (mj_dc mj_P E d 156 [Value.ref 205, Value.int s0] (mj_hw w c hi hl)) (fun x1 h1 => mj_den mj_P E d 245 15 [Value.ref 205, Value.int v1, Value.int s0, Value.float 0, Value.float 0, Value.float 0, Value.float 0, Value.float 0] [Value.int x1] h1) := by
  rw [mj_den_eq, f245_9]
  exact zt_istore_n (Nat.le_of_ble_eq_true rfl) rfl rfl (zt_aload_n rfl rfl (zt_iload_n rfl rfl (zt_call0_1 rfl (mjkd205 _ _ _ _) (Nat.le_of_ble_eq_true rfl) rfl rfl)))
set_option maxRecDepth 100000 in
theorem f245_15 : mj_find (mj_P 245).2.2.2.2 15 = [(.bipush 8, 2, 8, []), (.if_icmp .gt 25, 3, 0, [42]), (.iload_n 1, 1, 0, []), (.ifCond .eq 23, 3, 0, [44]), (.aload_n 0, 1, 0, []), (.iload_n 1, 1, 0, []), (.bipush 10, 2, 10, []), (.bipush 9, 2, 9, []), (.aload_n 0, 1, 0, []), (.iload_n 2, 1, 0, []), (.invokevirtual 336, 3, 0, [0, 156, 12, 1, 1, 1820, 1822, 84, 156, 1823])] := rfl
set_option maxRecDepth 100000 in
theorem q245_15 (E : mj_E) (d w c : Nat) (hi : Nat → Nat → Int32) (hl : Nat → Nat → Int64) (v1 : Int32) (v2 : Int32) (s0 : Int32) : mj_den mj_P E d 245 15 [Value.ref 205, Value.int v1, Value.int v2, Value.float 0, Value.float 0, Value.float 0, Value.float 0, Value.float 0] [Value.int s0] (mj_hw w c hi hl) = if (8 : Int32) < s0 then mj_den mj_P E d 245 42 [Value.ref 205, Value.int v1, Value.int v2, Value.float 0, Value.float 0, Value.float 0, Value.float 0, Value.float 0] [] (mj_hw w c hi hl) else if v1 = 0 then mj_den mj_P E d 245 44 [Value.ref 205, Value.int v1, Value.int v2, Value.float 0, Value.float 0, Value.float 0, Value.float 0, Value.float 0] [] (mj_hw w c hi hl) else mj_bi (mj_dc mj_P E d 156 [Value.ref 205, Value.int v2] (mj_hw w c hi hl)) (fun x1 h1 => mj_den mj_P E d 245 35 [Value.ref 205, Value.int v1, Value.int v2, Value.float 0, Value.float 0, Value.float 0, Value.float 0, Value.float 0] [Value.int x1, Value.int (9 : Int32), Value.int (10 : Int32), Value.int v1, Value.ref 205] h1) := by
  rw [mj_den_eq, f245_15]
  exact zt_bipush rfl (zt_icmp_gt rfl rfl (zt_iload_n rfl rfl (zt_if_eq rfl rfl (zt_aload_n rfl rfl (zt_iload_n rfl rfl (zt_bipush rfl (zt_bipush rfl (zt_aload_n rfl rfl (zt_iload_n rfl rfl (zt_call0_1 rfl (mjkd205 _ _ _ _) (Nat.le_of_ble_eq_true rfl) rfl rfl))))))))))
set_option maxRecDepth 100000 in
theorem f245_35 : mj_find (mj_P 245).2.2.2.2 35 = [(.iadd, 1, 0, []), (.invokevirtual 144, 3, 0, [0, 152, 12, 3, 1, 1624, 1626, 42, 156, 1627])] := rfl
set_option maxRecDepth 100000 in
theorem q245_35 (E : mj_E) (d w c : Nat) (hi : Nat → Nat → Int32) (hl : Nat → Nat → Int64) (v1 : Int32) (v2 : Int32) (s0 : Int32) (s1 : Int32) (s2 : Int32) (s3 : Int32) : mj_den mj_P E d 245 35 [Value.ref 205, Value.int v1, Value.int v2, Value.float 0, Value.float 0, Value.float 0, Value.float 0, Value.float 0] [Value.int s0, Value.int s1, Value.int s2, Value.int s3, Value.ref 205] (mj_hw w c hi hl) = mj_bi (mj_dc mj_P E d 152 [Value.ref 205, Value.int s3, Value.int s2, Value.int (s1 + s0)] (mj_hw w c hi hl)) (fun x1 h1 => mj_den mj_P E d 245 39 [Value.ref 205, Value.int v1, Value.int v2, Value.float 0, Value.float 0, Value.float 0, Value.float 0, Value.float 0] [Value.int x1] h1) := by
  rw [mj_den_eq, f245_35]
  exact zt_iadd rfl (zt_call0_1 rfl (mjkd205 _ _ _ _) (Nat.le_of_ble_eq_true rfl) rfl rfl)
set_option maxRecDepth 100000 in
theorem f245_39 : mj_find (mj_P 245).2.2.2.2 39 = [(.ifCond .ne 5, 3, 0, [44])] := rfl
set_option maxRecDepth 100000 in
theorem q245_39 (E : mj_E) (d w c : Nat) (hi : Nat → Nat → Int32) (hl : Nat → Nat → Int64) (v1 : Int32) (v2 : Int32) (s0 : Int32) : mj_den mj_P E d 245 39 [Value.ref 205, Value.int v1, Value.int v2, Value.float 0, Value.float 0, Value.float 0, Value.float 0, Value.float 0] [Value.int s0] (mj_hw w c hi hl) = if ¬ s0 = 0 then mj_den mj_P E d 245 44 [Value.ref 205, Value.int v1, Value.int v2, Value.float 0, Value.float 0, Value.float 0, Value.float 0, Value.float 0] [] (mj_hw w c hi hl) else mj_den mj_P E d 245 42 [Value.ref 205, Value.int v1, Value.int v2, Value.float 0, Value.float 0, Value.float 0, Value.float 0, Value.float 0] [] (mj_hw w c hi hl) := by
  rw [mj_den_eq, f245_39]
  exact zt_if_ne rfl rfl (zt_end rfl)
set_option maxRecDepth 100000 in
theorem f245_42 : mj_find (mj_P 245).2.2.2.2 42 = [(.iconst (-1), 1, (-1), []), (.ireturn, 1, 0, [0])] := rfl
set_option maxRecDepth 100000 in
theorem q245_42 (E : mj_E) (d w c : Nat) (hi : Nat → Nat → Int32) (hl : Nat → Nat → Int64) (v1 : Int32) (v2 : Int32) : mj_den mj_P E d 245 42 [Value.ref 205, Value.int v1, Value.int v2, Value.float 0, Value.float 0, Value.float 0, Value.float 0, Value.float 0] [] (mj_hw w c hi hl) = some (some (Value.int (-1 : Int32)), (mj_hw w c hi hl)) := by
  rw [mj_den_eq, f245_42]
  exact zt_iconst rfl (zt_ireturn0)
set_option maxRecDepth 100000 in
theorem f245_44 : mj_find (mj_P 245).2.2.2.2 44 = [(.aload_n 0, 1, 0, []), (.iload_n 2, 1, 0, []), (.invokevirtual 423, 3, 0, [0, 244, 12, 1, 0, 1974, 1976, 111, 156, 1977])] := rfl
set_option maxRecDepth 100000 in
theorem q245_44 (E : mj_E) (d w c : Nat) (hi : Nat → Nat → Int32) (hl : Nat → Nat → Int64) (v1 : Int32) (v2 : Int32) : mj_den mj_P E d 245 44 [Value.ref 205, Value.int v1, Value.int v2, Value.float 0, Value.float 0, Value.float 0, Value.float 0, Value.float 0] [] (mj_hw w c hi hl) = mj_bv (mj_dc mj_P E d 244 [Value.ref 205, Value.int v2] (mj_hw w c hi hl)) (fun h1 => mj_den mj_P E d 245 49 [Value.ref 205, Value.int v1, Value.int v2, Value.float 0, Value.float 0, Value.float 0, Value.float 0, Value.float 0] [] h1) := by
  rw [mj_den_eq, f245_44]
  exact zt_aload_n rfl rfl (zt_iload_n rfl rfl (zt_call0_0 rfl (mjkd205 _ _ _ _) (Nat.le_of_ble_eq_true rfl) rfl rfl))
set_option maxRecDepth 100000 in
theorem f245_49 : mj_find (mj_P 245).2.2.2.2 49 = [(.aload_n 0, 1, 0, []), (.iconst 0, 1, 0, []), (.iconst (-1), 1, (-1), []), (.iload_n 2, 1, 0, []), (.invokevirtual 420, 3, 0, [0, 243, 12, 3, 1, 1978, 1980, 112, 156, 1981])] := rfl
set_option maxRecDepth 100000 in
theorem q245_49 (E : mj_E) (d w c : Nat) (hi : Nat → Nat → Int32) (hl : Nat → Nat → Int64) (v1 : Int32) (v2 : Int32) : mj_den mj_P E d 245 49 [Value.ref 205, Value.int v1, Value.int v2, Value.float 0, Value.float 0, Value.float 0, Value.float 0, Value.float 0] [] (mj_hw w c hi hl) = mj_bi (mj_dc mj_P E d 243 [Value.ref 205, Value.int (0 : Int32), Value.int (-1 : Int32), Value.int v2] (mj_hw w c hi hl)) (fun x1 h1 => mj_den mj_P E d 245 56 [Value.ref 205, Value.int v1, Value.int v2, Value.float 0, Value.float 0, Value.float 0, Value.float 0, Value.float 0] [Value.int x1] h1) := by
  rw [mj_den_eq, f245_49]
  exact zt_aload_n rfl rfl (zt_iconst rfl (zt_iconst rfl (zt_iload_n rfl rfl (zt_call0_1 rfl (mjkd205 _ _ _ _) (Nat.le_of_ble_eq_true rfl) rfl rfl))))
set_option maxRecDepth 100000 in
theorem f245_56 : mj_find (mj_P 245).2.2.2.2 56 = [(.istore_n 3, 1, 0, []), (.iload_n 1, 1, 0, []), (.ifCond .ne 5, 3, 0, [63]), (.iload_n 3, 1, 0, []), (.ireturn, 1, 0, [0])] := rfl
set_option maxRecDepth 100000 in
theorem q245_56 (E : mj_E) (d w c : Nat) (hi : Nat → Nat → Int32) (hl : Nat → Nat → Int64) (v1 : Int32) (v2 : Int32) (s0 : Int32) : mj_den mj_P E d 245 56 [Value.ref 205, Value.int v1, Value.int v2, Value.float 0, Value.float 0, Value.float 0, Value.float 0, Value.float 0] [Value.int s0] (mj_hw w c hi hl) = if ¬ v1 = 0 then mj_den mj_P E d 245 63 [Value.ref 205, Value.int v1, Value.int v2, Value.int s0, Value.float 0, Value.float 0, Value.float 0, Value.float 0] [] (mj_hw w c hi hl) else some (some (Value.int s0), (mj_hw w c hi hl)) := by
  rw [mj_den_eq, f245_56]
  exact zt_istore_n (Nat.le_of_ble_eq_true rfl) rfl rfl (zt_iload_n rfl rfl (zt_if_ne rfl rfl (zt_iload_n rfl rfl (zt_ireturn0))))
set_option maxRecDepth 100000 in
theorem f245_63 : mj_find (mj_P 245).2.2.2.2 63 = [(.iconst 0, 1, 0, []), (.istore 4, 2, 0, []), (.iconst (-1), 1, (-1), []), (.istore 5, 2, 0, []), (.iconst 0, 1, 0, []), (.istore 6, 2, 0, [])] := rfl
set_option maxRecDepth 100000 in
theorem q245_63 (E : mj_E) (d w c : Nat) (hi : Nat → Nat → Int32) (hl : Nat → Nat → Int64) (v1 : Int32) (v2 : Int32) (v3 : Int32) : mj_den mj_P E d 245 63 [Value.ref 205, Value.int v1, Value.int v2, Value.int v3, Value.float 0, Value.float 0, Value.float 0, Value.float 0] [] (mj_hw w c hi hl) = mj_den mj_P E d 245 72 [Value.ref 205, Value.int v1, Value.int v2, Value.int v3, Value.int (0 : Int32), Value.int (-1 : Int32), Value.int (0 : Int32), Value.float 0] [] (mj_hw w c hi hl) := by
  rw [mj_den_eq, f245_63]
  exact zt_iconst rfl (zt_istore (Nat.le_of_ble_eq_true rfl) rfl rfl (zt_iconst rfl (zt_istore (Nat.le_of_ble_eq_true rfl) rfl rfl (zt_iconst rfl (zt_istore (Nat.le_of_ble_eq_true rfl) rfl rfl (zt_end rfl))))))
set_option maxRecDepth 100000 in
theorem f245_72 : mj_find (mj_P 245).2.2.2.2 72 = [(.iload 6, 2, 0, []), (.iload_n 1, 1, 0, []), (.bipush 10, 2, 10, []), (.isub, 1, 0, []), (.if_icmp .gt 84, 3, 0, [162]), (.iconst 0, 1, 0, []), (.istore 7, 2, 0, [])] := rfl
set_option maxRecDepth 100000 in
theorem q245_72 (E : mj_E) (d w c : Nat) (hi : Nat → Nat → Int32) (hl : Nat → Nat → Int64) (v1 : Int32) (v2 : Int32) (v3 : Int32) (v4 : Int32) (v5 : Int32) (v6 : Int32) : mj_den mj_P E d 245 72 [Value.ref 205, Value.int v1, Value.int v2, Value.int v3, Value.int v4, Value.int v5, Value.int v6, Value.float 0] [] (mj_hw w c hi hl) = if (v1 - (10 : Int32)) < v6 then mj_den mj_P E d 245 162 [Value.ref 205, Value.int v1, Value.int v2, Value.int v3, Value.int v4, Value.int v5, Value.int v6, Value.float 0] [] (mj_hw w c hi hl) else mj_den mj_P E d 245 84 [Value.ref 205, Value.int v1, Value.int v2, Value.int v3, Value.int v4, Value.int v5, Value.int v6, Value.int (0 : Int32)] [] (mj_hw w c hi hl) := by
  rw [mj_den_eq, f245_72]
  exact zt_iload rfl rfl (zt_iload_n rfl rfl (zt_bipush rfl (zt_isub rfl (zt_icmp_gt rfl rfl (zt_iconst rfl (zt_istore (Nat.le_of_ble_eq_true rfl) rfl rfl (zt_end rfl)))))))
set_option maxRecDepth 100000 in
theorem q245_72_1 (E : mj_E) (d w c : Nat) (hi : Nat → Nat → Int32) (hl : Nat → Nat → Int64) (v1 : Int32) (v2 : Int32) (v3 : Int32) (v4 : Int32) (v5 : Int32) (v6 : Int32) (v7 : Int32) : mj_den mj_P E d 245 72 [Value.ref 205, Value.int v1, Value.int v2, Value.int v3, Value.int v4, Value.int v5, Value.int v6, Value.int v7] [] (mj_hw w c hi hl) = if (v1 - (10 : Int32)) < v6 then mj_den mj_P E d 245 162 [Value.ref 205, Value.int v1, Value.int v2, Value.int v3, Value.int v4, Value.int v5, Value.int v6, Value.int v7] [] (mj_hw w c hi hl) else mj_den mj_P E d 245 84 [Value.ref 205, Value.int v1, Value.int v2, Value.int v3, Value.int v4, Value.int v5, Value.int v6, Value.int (0 : Int32)] [] (mj_hw w c hi hl) := by
  rw [mj_den_eq, f245_72]
  exact zt_iload rfl rfl (zt_iload_n rfl rfl (zt_bipush rfl (zt_isub rfl (zt_icmp_gt rfl rfl (zt_iconst rfl (zt_istore (Nat.le_of_ble_eq_true rfl) rfl rfl (zt_end rfl)))))))
set_option maxRecDepth 100000 in
theorem f245_84 : mj_find (mj_P 245).2.2.2.2 84 = [(.aload_n 0, 1, 0, []), (.iload_n 2, 1, 0, []), (.iload 4, 2, 0, []), (.iconst (-1), 1, (-1), []), (.ixor, 1, 0, []), (.iand, 1, 0, []), (.iload 7, 2, 0, []), (.invokevirtual 327, 3, 0, [0, 157, 12, 2, 1, 1832, 1834, 87, 156, 1835])] := rfl
set_option maxRecDepth 100000 in
theorem q245_84 (E : mj_E) (d w c : Nat) (hi : Nat → Nat → Int32) (hl : Nat → Nat → Int64) (v1 : Int32) (v2 : Int32) (v3 : Int32) (v4 : Int32) (v5 : Int32) (v6 : Int32) (v7 : Int32) : mj_den mj_P E d 245 84 [Value.ref 205, Value.int v1, Value.int v2, Value.int v3, Value.int v4, Value.int v5, Value.int v6, Value.int v7] [] (mj_hw w c hi hl) = mj_bi (mj_dc mj_P E d 157 [Value.ref 205, Value.int (v2 &&& (v4 ^^^ (-1 : Int32))), Value.int v7] (mj_hw w c hi hl)) (fun x1 h1 => mj_den mj_P E d 245 96 [Value.ref 205, Value.int v1, Value.int v2, Value.int v3, Value.int v4, Value.int v5, Value.int v6, Value.int v7] [Value.int x1] h1) := by
  rw [mj_den_eq, f245_84]
  exact zt_aload_n rfl rfl (zt_iload_n rfl rfl (zt_iload rfl rfl (zt_iconst rfl (zt_ixor rfl (zt_iand rfl (zt_iload rfl rfl (zt_call0_1 rfl (mjkd205 _ _ _ _) (Nat.le_of_ble_eq_true rfl) rfl rfl)))))))
set_option maxRecDepth 100000 in
theorem f245_96 : mj_find (mj_P 245).2.2.2.2 96 = [(.ifCond .eq 17, 3, 0, [113]), (.aload_n 0, 1, 0, []), (.iload 4, 2, 0, []), (.iload 5, 2, 0, []), (.iload 7, 2, 0, []), (.invokevirtual 417, 3, 0, [0, 242, 12, 3, 1, 1983, 1985, 113, 156, 1986])] := rfl
set_option maxRecDepth 100000 in
theorem q245_96 (E : mj_E) (d w c : Nat) (hi : Nat → Nat → Int32) (hl : Nat → Nat → Int64) (v1 : Int32) (v2 : Int32) (v3 : Int32) (v4 : Int32) (v5 : Int32) (v6 : Int32) (v7 : Int32) (s0 : Int32) : mj_den mj_P E d 245 96 [Value.ref 205, Value.int v1, Value.int v2, Value.int v3, Value.int v4, Value.int v5, Value.int v6, Value.int v7] [Value.int s0] (mj_hw w c hi hl) = if s0 = 0 then mj_den mj_P E d 245 113 [Value.ref 205, Value.int v1, Value.int v2, Value.int v3, Value.int v4, Value.int v5, Value.int v6, Value.int v7] [] (mj_hw w c hi hl) else mj_bi (mj_dc mj_P E d 242 [Value.ref 205, Value.int v4, Value.int v5, Value.int v7] (mj_hw w c hi hl)) (fun x1 h1 => mj_den mj_P E d 245 109 [Value.ref 205, Value.int v1, Value.int v2, Value.int v3, Value.int v4, Value.int v5, Value.int v6, Value.int v7] [Value.int x1] h1) := by
  rw [mj_den_eq, f245_96]
  exact zt_if_eq rfl rfl (zt_aload_n rfl rfl (zt_iload rfl rfl (zt_iload rfl rfl (zt_iload rfl rfl (zt_call0_1 rfl (mjkd205 _ _ _ _) (Nat.le_of_ble_eq_true rfl) rfl rfl)))))
set_option maxRecDepth 100000 in
theorem f245_109 : mj_find (mj_P 245).2.2.2.2 109 = [(.iload_n 3, 1, 0, []), (.if_icmp .eq 12, 3, 0, [122])] := rfl
set_option maxRecDepth 100000 in
theorem q245_109 (E : mj_E) (d w c : Nat) (hi : Nat → Nat → Int32) (hl : Nat → Nat → Int64) (v1 : Int32) (v2 : Int32) (v3 : Int32) (v4 : Int32) (v5 : Int32) (v6 : Int32) (v7 : Int32) (s0 : Int32) : mj_den mj_P E d 245 109 [Value.ref 205, Value.int v1, Value.int v2, Value.int v3, Value.int v4, Value.int v5, Value.int v6, Value.int v7] [Value.int s0] (mj_hw w c hi hl) = if s0 = v3 then mj_den mj_P E d 245 122 [Value.ref 205, Value.int v1, Value.int v2, Value.int v3, Value.int v4, Value.int v5, Value.int v6, Value.int v7] [] (mj_hw w c hi hl) else mj_den mj_P E d 245 113 [Value.ref 205, Value.int v1, Value.int v2, Value.int v3, Value.int v4, Value.int v5, Value.int v6, Value.int v7] [] (mj_hw w c hi hl) := by
  rw [mj_den_eq, f245_109]
  exact zt_iload_n rfl rfl (zt_icmp_eq rfl rfl (zt_end rfl))
set_option maxRecDepth 100000 in
theorem f245_113 : mj_find (mj_P 245).2.2.2.2 113 = [(.iload 7, 2, 0, []), (.iconst 1, 1, 1, []), (.iadd, 1, 0, []), (.istore 7, 2, 0, []), (.goto (-35), 3, 0, [84])] := rfl
set_option maxRecDepth 100000 in
theorem q245_113 (E : mj_E) (d w c : Nat) (hi : Nat → Nat → Int32) (hl : Nat → Nat → Int64) (v1 : Int32) (v2 : Int32) (v3 : Int32) (v4 : Int32) (v5 : Int32) (v6 : Int32) (v7 : Int32) : mj_den mj_P E d 245 113 [Value.ref 205, Value.int v1, Value.int v2, Value.int v3, Value.int v4, Value.int v5, Value.int v6, Value.int v7] [] (mj_hw w c hi hl) = mj_den mj_P E d 245 84 [Value.ref 205, Value.int v1, Value.int v2, Value.int v3, Value.int v4, Value.int v5, Value.int v6, Value.int (v7 + (1 : Int32))] [] (mj_hw w c hi hl) := by
  rw [mj_den_eq, f245_113]
  exact zt_iload rfl rfl (zt_iconst rfl (zt_iadd rfl (zt_istore (Nat.le_of_ble_eq_true rfl) rfl rfl (zt_goto rfl))))
set_option maxRecDepth 100000 in
theorem f245_122 : mj_find (mj_P 245).2.2.2.2 122 = [(.iload_n 3, 1, 0, []), (.iload 5, 2, 0, []), (.iconst (-1), 1, (-1), []), (.if_icmp .ne 7, 3, 0, [133]), (.iconst 0, 1, 0, []), (.goto 11, 3, 0, [141])] := rfl
set_option maxRecDepth 100000 in
theorem q245_122 (E : mj_E) (d w c : Nat) (hi : Nat → Nat → Int32) (hl : Nat → Nat → Int64) (v1 : Int32) (v2 : Int32) (v3 : Int32) (v4 : Int32) (v5 : Int32) (v6 : Int32) (v7 : Int32) : mj_den mj_P E d 245 122 [Value.ref 205, Value.int v1, Value.int v2, Value.int v3, Value.int v4, Value.int v5, Value.int v6, Value.int v7] [] (mj_hw w c hi hl) = if ¬ v5 = (-1 : Int32) then mj_den mj_P E d 245 133 [Value.ref 205, Value.int v1, Value.int v2, Value.int v3, Value.int v4, Value.int v5, Value.int v6, Value.int v7] [Value.int v3] (mj_hw w c hi hl) else mj_den mj_P E d 245 141 [Value.ref 205, Value.int v1, Value.int v2, Value.int v3, Value.int v4, Value.int v5, Value.int v6, Value.int v7] [Value.int (0 : Int32), Value.int v3] (mj_hw w c hi hl) := by
  rw [mj_den_eq, f245_122]
  exact zt_iload_n rfl rfl (zt_iload rfl rfl (zt_iconst rfl (zt_icmp_ne rfl rfl (zt_iconst rfl (zt_goto rfl)))))
set_option maxRecDepth 100000 in
theorem f245_133 : mj_find (mj_P 245).2.2.2.2 133 = [(.aload_n 0, 1, 0, []), (.iload 5, 2, 0, []), (.iload 7, 2, 0, []), (.invokevirtual 413, 3, 0, [0, 241, 12, 2, 1, 1987, 1989, 114, 156, 1990])] := rfl
set_option maxRecDepth 100000 in
theorem q245_133 (E : mj_E) (d w c : Nat) (hi : Nat → Nat → Int32) (hl : Nat → Nat → Int64) (v1 : Int32) (v2 : Int32) (v3 : Int32) (v4 : Int32) (v5 : Int32) (v6 : Int32) (v7 : Int32) (s0 : Int32) : mj_den mj_P E d 245 133 [Value.ref 205, Value.int v1, Value.int v2, Value.int v3, Value.int v4, Value.int v5, Value.int v6, Value.int v7] [Value.int s0] (mj_hw w c hi hl) = mj_bi (mj_dc mj_P E d 241 [Value.ref 205, Value.int v5, Value.int v7] (mj_hw w c hi hl)) (fun x1 h1 => mj_den mj_P E d 245 141 [Value.ref 205, Value.int v1, Value.int v2, Value.int v3, Value.int v4, Value.int v5, Value.int v6, Value.int v7] [Value.int x1, Value.int s0] h1) := by
  rw [mj_den_eq, f245_133]
  exact zt_aload_n rfl rfl (zt_iload rfl rfl (zt_iload rfl rfl (zt_call0_1 rfl (mjkd205 _ _ _ _) (Nat.le_of_ble_eq_true rfl) rfl rfl)))
set_option maxRecDepth 100000 in
theorem f245_141 : mj_find (mj_P 245).2.2.2.2 141 = [(.isub, 1, 0, []), (.istore_n 3, 1, 0, []), (.iload 4, 2, 0, []), (.iconst 1, 1, 1, []), (.iload 7, 2, 0, []), (.ishl, 1, 0, []), (.ior, 1, 0, []), (.istore 4, 2, 0, []), (.iload 7, 2, 0, []), (.istore 5, 2, 0, []), (.iinc 6 1, 3, 1, []), (.goto (-87), 3, 0, [72])] := rfl
set_option maxRecDepth 100000 in
theorem q245_141 (E : mj_E) (d w c : Nat) (hi : Nat → Nat → Int32) (hl : Nat → Nat → Int64) (v1 : Int32) (v2 : Int32) (v3 : Int32) (v4 : Int32) (v5 : Int32) (v6 : Int32) (v7 : Int32) (s0 : Int32) (s1 : Int32) : mj_den mj_P E d 245 141 [Value.ref 205, Value.int v1, Value.int v2, Value.int v3, Value.int v4, Value.int v5, Value.int v6, Value.int v7] [Value.int s0, Value.int s1] (mj_hw w c hi hl) = mj_den mj_P E d 245 72 [Value.ref 205, Value.int v1, Value.int v2, Value.int (s1 - s0), Value.int (v4 ||| ((1 : Int32) <<< (v7 &&& 31))), Value.int v7, Value.int (v6 + (1 : Int32)), Value.int v7] [] (mj_hw w c hi hl) := by
  rw [mj_den_eq, f245_141]
  exact zt_isub rfl (zt_istore_n (Nat.le_of_ble_eq_true rfl) rfl rfl (zt_iload rfl rfl (zt_iconst rfl (zt_iload rfl rfl (zt_ishl rfl (zt_ior rfl (zt_istore (Nat.le_of_ble_eq_true rfl) rfl rfl (zt_iload rfl rfl (zt_istore (Nat.le_of_ble_eq_true rfl) rfl rfl (zt_iinc rfl (Nat.le_of_ble_eq_true rfl) rfl rfl (zt_goto rfl)))))))))))
set_option maxRecDepth 100000 in
theorem f245_162 : mj_find (mj_P 245).2.2.2.2 162 = [(.iload 5, 2, 0, []), (.ireturn, 1, 0, [0])] := rfl
set_option maxRecDepth 100000 in
theorem q245_162 (E : mj_E) (d w c : Nat) (hi : Nat → Nat → Int32) (hl : Nat → Nat → Int64) (v1 : Int32) (v2 : Int32) (v3 : Int32) (v4 : Int32) (v5 : Int32) (v6 : Int32) (v7 : Int32) : mj_den mj_P E d 245 162 [Value.ref 205, Value.int v1, Value.int v2, Value.int v3, Value.int v4, Value.int v5, Value.int v6, Value.int v7] [] (mj_hw w c hi hl) = some (some (Value.int v5), (mj_hw w c hi hl)) := by
  rw [mj_den_eq, f245_162]
  exact zt_iload rfl rfl (zt_ireturn0)
set_option maxRecDepth 100000 in
theorem q245_162_1 (E : mj_E) (d w c : Nat) (hi : Nat → Nat → Int32) (hl : Nat → Nat → Int64) (v1 : Int32) (v2 : Int32) (v3 : Int32) (v4 : Int32) (v5 : Int32) (v6 : Int32) : mj_den mj_P E d 245 162 [Value.ref 205, Value.int v1, Value.int v2, Value.int v3, Value.int v4, Value.int v5, Value.int v6, Value.float 0] [] (mj_hw w c hi hl) = some (some (Value.int v5), (mj_hw w c hi hl)) := by
  rw [mj_den_eq, f245_162]
  exact zt_iload rfl rfl (zt_ireturn0)
set_option maxRecDepth 100000 in
theorem f246_0 : mj_find (mj_P 246).2.2.2.2 0 = [(.aload_n 0, 1, 0, []), (.iconst 0, 1, 0, []), (.putfield 122, 3, 0, [12, 0, 0, 1410]), (.iload_n 1, 1, 0, []), (.iconst (-1), 1, (-1), []), (.if_icmp .ne 31, 3, 0, [38]), (.aload_n 0, 1, 0, []), (.iconst 0, 1, 0, []), (.putfield 426, 3, 0, [12, 48, 0, 1458]), (.iconst 0, 1, 0, []), (.istore_n 3, 1, 0, [])] := rfl
set_option maxRecDepth 100000 in
theorem q246_0 (E : mj_E) (d w c : Nat) (hi : Nat → Nat → Int32) (hl : Nat → Nat → Int64) (v1 : Int32) (v2 : Int32) : mj_den mj_P E d 246 0 [Value.ref 205, Value.int v1, Value.int v2, Value.float 0] [] (mj_hw w c hi hl) = if ¬ v1 = (-1 : Int32) then mj_den mj_P E d 246 38 [Value.ref 205, Value.int v1, Value.int v2, Value.float 0] [] (mj_hw w c (mj_u hi 205 0 (0 : Int32)) hl) else mj_den mj_P E d 246 17 [Value.ref 205, Value.int v1, Value.int v2, Value.int (0 : Int32)] [] (mj_hw w c (mj_u (mj_u hi 205 0 (0 : Int32)) 205 48 (0 : Int32)) hl) := by
  rw [mj_den_eq, f246_0]
  exact zt_aload_n rfl rfl (zt_iconst rfl (zt_puti (mjkd205 _ _ _ _) rfl rfl (zt_iload_n rfl rfl (zt_iconst rfl (zt_icmp_ne rfl rfl (zt_aload_n rfl rfl (zt_iconst rfl (zt_puti (mjkd205 _ _ _ _) rfl rfl (zt_iconst rfl (zt_istore_n (Nat.le_of_ble_eq_true rfl) rfl rfl (zt_end rfl)))))))))))
set_option maxRecDepth 100000 in
theorem f246_17 : mj_find (mj_P 246).2.2.2.2 17 = [(.iload_n 3, 1, 0, []), (.bipush 100, 2, 100, []), (.if_icmp .ge 16, 3, 0, [36]), (.aload_n 0, 1, 0, []), (.getfield 86, 3, 0, [12, 49, 3, 1459]), (.iload_n 3, 1, 0, []), (.iconst 0, 1, 0, []), (.iastore, 1, 0, []), (.iinc 3 1, 3, 1, []), (.goto (-16), 3, 0, [17])] := rfl
set_option maxRecDepth 100000 in
theorem q246_17 (E : mj_E) (d w c : Nat) (hi : Nat → Nat → Int32) (hl : Nat → Nat → Int64) (v1 : Int32) (v2 : Int32) (v3 : Int32) : mj_den mj_P E d 246 17 [Value.ref 205, Value.int v1, Value.int v2, Value.int v3] [] (mj_hw w c hi hl) = if (100 : Int32) ≤ v3 then mj_den mj_P E d 246 36 [Value.ref 205, Value.int v1, Value.int v2, Value.int v3] [] (mj_hw w c hi hl) else if 0 ≤ v3 ∧ (v3).toNatClampNeg < 100 then mj_den mj_P E d 246 17 [Value.ref 205, Value.int v1, Value.int v2, Value.int (v3 + (1 : Int32))] [] (mj_hw w c (mj_u hi 230 ((v3).toNatClampNeg) (0 : Int32)) hl) else none := by
  rw [mj_den_eq, f246_17]
  exact zt_iload_n rfl rfl (zt_bipush rfl (zt_icmp_ge rfl rfl (zt_aload_n rfl rfl (zt_getr (mjkd205 _ _ _ _) (mjhr205_49 w c) rfl (zt_iload_n rfl rfl (zt_iconst rfl (zt_iast (mjkd230 _ _ _ _) (mjln230 _ _ _ _) rfl rfl (zt_iinc rfl (Nat.le_of_ble_eq_true rfl) rfl rfl (zt_goto rfl)))))))))
set_option maxRecDepth 100000 in
theorem f246_36 : mj_find (mj_P 246).2.2.2.2 36 = [(.iconst 0, 1, 0, []), (.ireturn, 1, 0, [0])] := rfl
set_option maxRecDepth 100000 in
theorem q246_36 (E : mj_E) (d w c : Nat) (hi : Nat → Nat → Int32) (hl : Nat → Nat → Int64) (v1 : Int32) (v2 : Int32) (v3 : Int32) : mj_den mj_P E d 246 36 [Value.ref 205, Value.int v1, Value.int v2, Value.int v3] [] (mj_hw w c hi hl) = some (some (Value.int (0 : Int32)), (mj_hw w c hi hl)) := by
  rw [mj_den_eq, f246_36]
  exact zt_iconst rfl (zt_ireturn0)
set_option maxRecDepth 100000 in
theorem f246_38 : mj_find (mj_P 246).2.2.2.2 38 = [(.aload_n 0, 1, 0, []), (.iload_n 1, 1, 0, []), (.invokevirtual 148, 3, 0, [0, 164, 12, 1, 1, 1640, 1642, 44, 156, 1643])] := rfl
set_option maxRecDepth 100000 in
theorem q246_38 (E : mj_E) (d w c : Nat) (hi : Nat → Nat → Int32) (hl : Nat → Nat → Int64) (v1 : Int32) (v2 : Int32) : mj_den mj_P E d 246 38 [Value.ref 205, Value.int v1, Value.int v2, Value.float 0] [] (mj_hw w c hi hl) = mj_bi (mj_dc mj_P E d 164 [Value.ref 205, Value.int v1] (mj_hw w c hi hl)) (fun x1 h1 => mj_den mj_P E d 246 43 [Value.ref 205, Value.int v1, Value.int v2, Value.float 0] [Value.int x1] h1) := by
  rw [mj_den_eq, f246_38]
  exact zt_aload_n rfl rfl (zt_iload_n rfl rfl (zt_call0_1 rfl (mjkd205 _ _ _ _) (Nat.le_of_ble_eq_true rfl) rfl rfl))
set_option maxRecDepth 100000 in
theorem f246_43 : mj_find (mj_P 246).2.2.2.2 43 = [(.ifCond .eq 25, 3, 0, [68]), (.aload_n 0, 1, 0, []), (.iload_n 2, 1, 0, []), (.invokevirtual 148, 3, 0, [0, 164, 12, 1, 1, 1640, 1642, 44, 156, 1643])] := rfl
set_option maxRecDepth 100000 in
theorem q246_43 (E : mj_E) (d w c : Nat) (hi : Nat → Nat → Int32) (hl : Nat → Nat → Int64) (v1 : Int32) (v2 : Int32) (s0 : Int32) : mj_den mj_P E d 246 43 [Value.ref 205, Value.int v1, Value.int v2, Value.float 0] [Value.int s0] (mj_hw w c hi hl) = if s0 = 0 then mj_den mj_P E d 246 68 [Value.ref 205, Value.int v1, Value.int v2, Value.float 0] [] (mj_hw w c hi hl) else mj_bi (mj_dc mj_P E d 164 [Value.ref 205, Value.int v2] (mj_hw w c hi hl)) (fun x1 h1 => mj_den mj_P E d 246 51 [Value.ref 205, Value.int v1, Value.int v2, Value.float 0] [Value.int x1] h1) := by
  rw [mj_den_eq, f246_43]
  exact zt_if_eq rfl rfl (zt_aload_n rfl rfl (zt_iload_n rfl rfl (zt_call0_1 rfl (mjkd205 _ _ _ _) (Nat.le_of_ble_eq_true rfl) rfl rfl)))
set_option maxRecDepth 100000 in
theorem f246_51 : mj_find (mj_P 246).2.2.2.2 51 = [(.ifCond .eq 17, 3, 0, [68]), (.iload_n 1, 1, 0, []), (.iload_n 2, 1, 0, []), (.if_icmp .eq 12, 3, 0, [68]), (.aload_n 0, 1, 0, []), (.getfield 426, 3, 0, [12, 48, 0, 1458]), (.bipush 16, 2, 16, []), (.if_icmp .ne 5, 3, 0, [70])] := rfl
set_option maxRecDepth 100000 in
theorem q246_51 (E : mj_E) (d w c : Nat) (hi : Nat → Nat → Int32) (hl : Nat → Nat → Int64) (v1 : Int32) (v2 : Int32) (s0 : Int32) : mj_den mj_P E d 246 51 [Value.ref 205, Value.int v1, Value.int v2, Value.float 0] [Value.int s0] (mj_hw w c hi hl) = if s0 = 0 then mj_den mj_P E d 246 68 [Value.ref 205, Value.int v1, Value.int v2, Value.float 0] [] (mj_hw w c hi hl) else if v1 = v2 then mj_den mj_P E d 246 68 [Value.ref 205, Value.int v1, Value.int v2, Value.float 0] [] (mj_hw w c hi hl) else if ¬ (hi 205 48) = (16 : Int32) then mj_den mj_P E d 246 70 [Value.ref 205, Value.int v1, Value.int v2, Value.float 0] [] (mj_hw w c hi hl) else mj_den mj_P E d 246 68 [Value.ref 205, Value.int v1, Value.int v2, Value.float 0] [] (mj_hw w c hi hl) := by
  rw [mj_den_eq, f246_51]
  exact zt_if_eq rfl rfl (zt_iload_n rfl rfl (zt_iload_n rfl rfl (zt_icmp_eq rfl rfl (zt_aload_n rfl rfl (zt_geti (mjkd205 _ _ _ _) rfl rfl (zt_bipush rfl (zt_icmp_ne rfl rfl (zt_end rfl))))))))
set_option maxRecDepth 100000 in
theorem f246_68 : mj_find (mj_P 246).2.2.2.2 68 = [(.iconst (-1), 1, (-1), []), (.ireturn, 1, 0, [0])] := rfl
set_option maxRecDepth 100000 in
theorem q246_68 (E : mj_E) (d w c : Nat) (hi : Nat → Nat → Int32) (hl : Nat → Nat → Int64) (v1 : Int32) (v2 : Int32) : mj_den mj_P E d 246 68 [Value.ref 205, Value.int v1, Value.int v2, Value.float 0] [] (mj_hw w c hi hl) = some (some (Value.int (-1 : Int32)), (mj_hw w c hi hl)) := by
  rw [mj_den_eq, f246_68]
  exact zt_iconst rfl (zt_ireturn0)
set_option maxRecDepth 100000 in
theorem f246_70 : mj_find (mj_P 246).2.2.2.2 70 = [(.aload_n 0, 1, 0, []), (.getfield 86, 3, 0, [12, 49, 3, 1459]), (.bipush 10, 2, 10, []), (.iload_n 1, 1, 0, []), (.imul, 1, 0, []), (.iload_n 2, 1, 0, []), (.iadd, 1, 0, []), (.aload_n 0, 1, 0, []), (.getfield 86, 3, 0, [12, 49, 3, 1459]), (.bipush 10, 2, 10, []), (.iload_n 1, 1, 0, []), (.imul, 1, 0, []), (.iload_n 2, 1, 0, []), (.iadd, 1, 0, []), (.iaload, 1, 0, []), (.iconst 1, 1, 1, []), (.iadd, 1, 0, []), (.iastore, 1, 0, []), (.aload_n 0, 1, 0, []), (.aload_n 0, 1, 0, []), (.getfield 426, 3, 0, [12, 48, 0, 1458]), (.iconst 1, 1, 1, []), (.iadd, 1, 0, []), (.putfield 426, 3, 0, [12, 48, 0, 1458]), (.aload_n 0, 1, 0, []), (.getfield 426, 3, 0, [12, 48, 0, 1458]), (.ireturn, 1, 0, [0])] := rfl
set_option maxRecDepth 100000 in
theorem q246_70 (E : mj_E) (d w c : Nat) (hi : Nat → Nat → Int32) (hl : Nat → Nat → Int64) (v1 : Int32) (v2 : Int32) : mj_den mj_P E d 246 70 [Value.ref 205, Value.int v1, Value.int v2, Value.float 0] [] (mj_hw w c hi hl) = if 0 ≤ (((10 : Int32) * v1) + v2) ∧ ((((10 : Int32) * v1) + v2)).toNatClampNeg < 100 then if 0 ≤ (((10 : Int32) * v1) + v2) ∧ ((((10 : Int32) * v1) + v2)).toNatClampNeg < 100 then some (some (Value.int ((hi 205 48) + (1 : Int32))), (mj_hw w c (mj_u (mj_u hi 230 (((((10 : Int32) * v1) + v2)).toNatClampNeg) ((hi 230 (((((10 : Int32) * v1) + v2)).toNatClampNeg)) + (1 : Int32))) 205 48 ((hi 205 48) + (1 : Int32))) hl)) else none else none := by
  rw [mj_den_eq, f246_70]
  exact zt_aload_n rfl rfl (zt_getr (mjkd205 _ _ _ _) (mjhr205_49 w c) rfl (zt_bipush rfl (zt_iload_n rfl rfl (zt_imul rfl (zt_iload_n rfl rfl (zt_iadd rfl (zt_aload_n rfl rfl (zt_getr (mjkd205 _ _ _ _) (mjhr205_49 w c) rfl (zt_bipush rfl (zt_iload_n rfl rfl (zt_imul rfl (zt_iload_n rfl rfl (zt_iadd rfl (zt_iald (mjkd230 _ _ _ _) (mjln230 _ _ _ _) rfl rfl (zt_iconst rfl (zt_iadd rfl (zt_iast (mjkd230 _ _ _ _) (mjln230 _ _ _ _) rfl rfl (zt_aload_n rfl rfl (zt_aload_n rfl rfl (zt_geti (mjkd205 _ _ _ _) rfl rfl (zt_iconst rfl (zt_iadd rfl (zt_puti (mjkd205 _ _ _ _) rfl rfl (zt_aload_n rfl rfl (zt_geti (mjkd205 _ _ _ _) rfl rfl (zt_ireturn0))))))))))))))))))))))))))
set_option maxRecDepth 100000 in
theorem f247_0 : mj_find (mj_P 247).2.2.2.2 0 = [(.iconst 0, 1, 0, []), (.istore_n 1, 1, 0, []), (.iconst 0, 1, 0, []), (.istore_n 2, 1, 0, [])] := rfl
set_option maxRecDepth 100000 in
theorem q247_0 (E : mj_E) (d w c : Nat) (hi : Nat → Nat → Int32) (hl : Nat → Nat → Int64) : mj_den mj_P E d 247 0 [Value.ref 205, Value.float 0, Value.float 0] [] (mj_hw w c hi hl) = mj_den mj_P E d 247 4 [Value.ref 205, Value.int (0 : Int32), Value.int (0 : Int32)] [] (mj_hw w c hi hl) := by
  rw [mj_den_eq, f247_0]
  exact zt_iconst rfl (zt_istore_n (Nat.le_of_ble_eq_true rfl) rfl rfl (zt_iconst rfl (zt_istore_n (Nat.le_of_ble_eq_true rfl) rfl rfl (zt_end rfl))))
set_option maxRecDepth 100000 in
theorem f247_4 : mj_find (mj_P 247).2.2.2.2 4 = [(.iload_n 2, 1, 0, []), (.bipush 100, 2, 100, []), (.if_icmp .ge 34, 3, 0, [41]), (.aload_n 0, 1, 0, []), (.getfield 86, 3, 0, [12, 49, 3, 1459]), (.iload_n 2, 1, 0, []), (.iaload, 1, 0, []), (.ifCond .le 19, 3, 0, [35]), (.iload_n 1, 1, 0, []), (.iconst 1, 1, 1, []), (.iload_n 2, 1, 0, []), (.bipush 10, 2, 10, []), (.idiv, 1, 0, []), (.ishl, 1, 0, []), (.ior, 1, 0, []), (.iconst 1, 1, 1, []), (.iload_n 2, 1, 0, []), (.bipush 10, 2, 10, []), (.irem, 1, 0, []), (.ishl, 1, 0, []), (.ior, 1, 0, []), (.istore_n 1, 1, 0, [])] := rfl
set_option maxRecDepth 100000 in
theorem q247_4 (E : mj_E) (d w c : Nat) (hi : Nat → Nat → Int32) (hl : Nat → Nat → Int64) (v1 : Int32) (v2 : Int32) : mj_den mj_P E d 247 4 [Value.ref 205, Value.int v1, Value.int v2] [] (mj_hw w c hi hl) = if (100 : Int32) ≤ v2 then mj_den mj_P E d 247 41 [Value.ref 205, Value.int v1, Value.int v2] [] (mj_hw w c hi hl) else if 0 ≤ v2 ∧ (v2).toNatClampNeg < 100 then if (hi 230 ((v2).toNatClampNeg)) ≤ 0 then mj_den mj_P E d 247 35 [Value.ref 205, Value.int v1, Value.int v2] [] (mj_hw w c hi hl) else if (10 : Int32) = 0 then none else if (10 : Int32) = 0 then none else mj_den mj_P E d 247 35 [Value.ref 205, Value.int ((v1 ||| ((1 : Int32) <<< ((v2 / (10 : Int32)) &&& 31))) ||| ((1 : Int32) <<< ((mj_rem v2 (10 : Int32)) &&& 31))), Value.int v2] [] (mj_hw w c hi hl) else none := by
  rw [mj_den_eq, f247_4]
  exact zt_iload_n rfl rfl (zt_bipush rfl (zt_icmp_ge rfl rfl (zt_aload_n rfl rfl (zt_getr (mjkd205 _ _ _ _) (mjhr205_49 w c) rfl (zt_iload_n rfl rfl (zt_iald (mjkd230 _ _ _ _) (mjln230 _ _ _ _) rfl rfl (zt_if_le rfl rfl (zt_iload_n rfl rfl (zt_iconst rfl (zt_iload_n rfl rfl (zt_bipush rfl (zt_idiv  rfl (zt_ishl rfl (zt_ior rfl (zt_iconst rfl (zt_iload_n rfl rfl (zt_bipush rfl (zt_irem  rfl (zt_ishl rfl (zt_ior rfl (zt_istore_n (Nat.le_of_ble_eq_true rfl) rfl rfl (zt_end rfl))))))))))))))))))))))
set_option maxRecDepth 100000 in
theorem f247_35 : mj_find (mj_P 247).2.2.2.2 35 = [(.iinc 2 1, 3, 1, []), (.goto (-34), 3, 0, [4])] := rfl
set_option maxRecDepth 100000 in
theorem q247_35 (E : mj_E) (d w c : Nat) (hi : Nat → Nat → Int32) (hl : Nat → Nat → Int64) (v1 : Int32) (v2 : Int32) : mj_den mj_P E d 247 35 [Value.ref 205, Value.int v1, Value.int v2] [] (mj_hw w c hi hl) = mj_den mj_P E d 247 4 [Value.ref 205, Value.int v1, Value.int (v2 + (1 : Int32))] [] (mj_hw w c hi hl) := by
  rw [mj_den_eq, f247_35]
  exact zt_iinc rfl (Nat.le_of_ble_eq_true rfl) rfl rfl (zt_goto rfl)
set_option maxRecDepth 100000 in
theorem f247_41 : mj_find (mj_P 247).2.2.2.2 41 = [(.iload_n 1, 1, 0, []), (.ireturn, 1, 0, [0])] := rfl
set_option maxRecDepth 100000 in
theorem q247_41 (E : mj_E) (d w c : Nat) (hi : Nat → Nat → Int32) (hl : Nat → Nat → Int64) (v1 : Int32) (v2 : Int32) : mj_den mj_P E d 247 41 [Value.ref 205, Value.int v1, Value.int v2] [] (mj_hw w c hi hl) = some (some (Value.int v1), (mj_hw w c hi hl)) := by
  rw [mj_den_eq, f247_41]
  exact zt_iload_n rfl rfl (zt_ireturn0)
set_option maxRecDepth 100000 in
theorem f248_0 : mj_find (mj_P 248).2.2.2.2 0 = [(.iconst 0, 1, 0, []), (.istore_n 3, 1, 0, []), (.iconst 0, 1, 0, []), (.istore 4, 2, 0, [])] := rfl
set_option maxRecDepth 100000 in
theorem q248_0 (E : mj_E) (d w c : Nat) (hi : Nat → Nat → Int32) (hl : Nat → Nat → Int64) (v1 : Int32) (v2 : Int32) : mj_den mj_P E d 248 0 [Value.ref 205, Value.int v1, Value.int v2, Value.float 0, Value.float 0] [] (mj_hw w c hi hl) = mj_den mj_P E d 248 5 [Value.ref 205, Value.int v1, Value.int v2, Value.int (0 : Int32), Value.int (0 : Int32)] [] (mj_hw w c hi hl) := by
  rw [mj_den_eq, f248_0]
  exact zt_iconst rfl (zt_istore_n (Nat.le_of_ble_eq_true rfl) rfl rfl (zt_iconst rfl (zt_istore (Nat.le_of_ble_eq_true rfl) rfl rfl (zt_end rfl))))
set_option maxRecDepth 100000 in
theorem f248_5 : mj_find (mj_P 248).2.2.2.2 5 = [(.iload 4, 2, 0, []), (.bipush 10, 2, 10, []), (.if_icmp .ge 34, 3, 0, [43]), (.aload_n 0, 1, 0, []), (.iload_n 2, 1, 0, []), (.iload 4, 2, 0, []), (.invokevirtual 327, 3, 0, [0, 157, 12, 2, 1, 1832, 1834, 87, 156, 1835])] := rfl
set_option maxRecDepth 100000 in
theorem q248_5 (E : mj_E) (d w c : Nat) (hi : Nat → Nat → Int32) (hl : Nat → Nat → Int64) (v1 : Int32) (v2 : Int32) (v3 : Int32) (v4 : Int32) : mj_den mj_P E d 248 5 [Value.ref 205, Value.int v1, Value.int v2, Value.int v3, Value.int v4] [] (mj_hw w c hi hl) = if (10 : Int32) ≤ v4 then mj_den mj_P E d 248 43 [Value.ref 205, Value.int v1, Value.int v2, Value.int v3, Value.int v4] [] (mj_hw w c hi hl) else mj_bi (mj_dc mj_P E d 157 [Value.ref 205, Value.int v2, Value.int v4] (mj_hw w c hi hl)) (fun x1 h1 => mj_den mj_P E d 248 19 [Value.ref 205, Value.int v1, Value.int v2, Value.int v3, Value.int v4] [Value.int x1] h1) := by
  rw [mj_den_eq, f248_5]
  exact zt_iload rfl rfl (zt_bipush rfl (zt_icmp_ge rfl rfl (zt_aload_n rfl rfl (zt_iload_n rfl rfl (zt_iload rfl rfl (zt_call0_1 rfl (mjkd205 _ _ _ _) (Nat.le_of_ble_eq_true rfl) rfl rfl))))))
set_option maxRecDepth 100000 in
theorem f248_19 : mj_find (mj_P 248).2.2.2.2 19 = [(.ifCond .eq 18, 3, 0, [37]), (.iload_n 3, 1, 0, []), (.aload_n 0, 1, 0, []), (.getfield 86, 3, 0, [12, 49, 3, 1459]), (.bipush 10, 2, 10, []), (.iload 4, 2, 0, []), (.imul, 1, 0, []), (.iload_n 1, 1, 0, []), (.iadd, 1, 0, []), (.iaload, 1, 0, []), (.iadd, 1, 0, []), (.istore_n 3, 1, 0, [])] := rfl
set_option maxRecDepth 100000 in
theorem q248_19 (E : mj_E) (d w c : Nat) (hi : Nat → Nat → Int32) (hl : Nat → Nat → Int64) (v1 : Int32) (v2 : Int32) (v3 : Int32) (v4 : Int32) (s0 : Int32) : mj_den mj_P E d 248 19 [Value.ref 205, Value.int v1, Value.int v2, Value.int v3, Value.int v4] [Value.int s0] (mj_hw w c hi hl) = if s0 = 0 then mj_den mj_P E d 248 37 [Value.ref 205, Value.int v1, Value.int v2, Value.int v3, Value.int v4] [] (mj_hw w c hi hl) else if 0 ≤ (((10 : Int32) * v4) + v1) ∧ ((((10 : Int32) * v4) + v1)).toNatClampNeg < 100 then mj_den mj_P E d 248 37 [Value.ref 205, Value.int v1, Value.int v2, Value.int (v3 + (hi 230 (((((10 : Int32) * v4) + v1)).toNatClampNeg))), Value.int v4] [] (mj_hw w c hi hl) else none := by
  rw [mj_den_eq, f248_19]
  exact zt_if_eq rfl rfl (zt_iload_n rfl rfl (zt_aload_n rfl rfl (zt_getr (mjkd205 _ _ _ _) (mjhr205_49 w c) rfl (zt_bipush rfl (zt_iload rfl rfl (zt_imul rfl (zt_iload_n rfl rfl (zt_iadd rfl (zt_iald (mjkd230 _ _ _ _) (mjln230 _ _ _ _) rfl rfl (zt_iadd rfl (zt_istore_n (Nat.le_of_ble_eq_true rfl) rfl rfl (zt_end rfl))))))))))))
set_option maxRecDepth 100000 in
theorem f248_37 : mj_find (mj_P 248).2.2.2.2 37 = [(.iinc 4 1, 3, 1, []), (.goto (-35), 3, 0, [5])] := rfl
set_option maxRecDepth 100000 in
theorem q248_37 (E : mj_E) (d w c : Nat) (hi : Nat → Nat → Int32) (hl : Nat → Nat → Int64) (v1 : Int32) (v2 : Int32) (v3 : Int32) (v4 : Int32) : mj_den mj_P E d 248 37 [Value.ref 205, Value.int v1, Value.int v2, Value.int v3, Value.int v4] [] (mj_hw w c hi hl) = mj_den mj_P E d 248 5 [Value.ref 205, Value.int v1, Value.int v2, Value.int v3, Value.int (v4 + (1 : Int32))] [] (mj_hw w c hi hl) := by
  rw [mj_den_eq, f248_37]
  exact zt_iinc rfl (Nat.le_of_ble_eq_true rfl) rfl rfl (zt_goto rfl)
set_option maxRecDepth 100000 in
theorem f248_43 : mj_find (mj_P 248).2.2.2.2 43 = [(.iload_n 3, 1, 0, []), (.ireturn, 1, 0, [0])] := rfl
set_option maxRecDepth 100000 in
theorem q248_43 (E : mj_E) (d w c : Nat) (hi : Nat → Nat → Int32) (hl : Nat → Nat → Int64) (v1 : Int32) (v2 : Int32) (v3 : Int32) (v4 : Int32) : mj_den mj_P E d 248 43 [Value.ref 205, Value.int v1, Value.int v2, Value.int v3, Value.int v4] [] (mj_hw w c hi hl) = some (some (Value.int v3), (mj_hw w c hi hl)) := by
  rw [mj_den_eq, f248_43]
  exact zt_iload_n rfl rfl (zt_ireturn0)
set_option maxRecDepth 100000 in
theorem f249_0 : mj_find (mj_P 249).2.2.2.2 0 = [(.aload_n 0, 1, 0, []), (.iload_n 2, 1, 0, []), (.iload_n 3, 1, 0, []), (.iload_n 1, 1, 0, []), (.iconst (-1), 1, (-1), []), (.ixor, 1, 0, []), (.iand, 1, 0, []), (.iconst 1, 1, 1, []), (.iload_n 2, 1, 0, []), (.ishl, 1, 0, []), (.iconst (-1), 1, (-1), []), (.ixor, 1, 0, []), (.iand, 1, 0, []), (.invokevirtual 429, 3, 0, [0, 248, 12, 2, 1, 2011, 2013, 118, 156, 2014])] := rfl
set_option maxRecDepth 100000 in
theorem q249_0 (E : mj_E) (d w c : Nat) (hi : Nat → Nat → Int32) (hl : Nat → Nat → Int64) (v1 : Int32) (v2 : Int32) (v3 : Int32) : mj_den mj_P E d 249 0 [Value.ref 205, Value.int v1, Value.int v2, Value.int v3] [] (mj_hw w c hi hl) = mj_bi (mj_dc mj_P E d 248 [Value.ref 205, Value.int v2, Value.int ((v3 &&& (v1 ^^^ (-1 : Int32))) &&& (((1 : Int32) <<< (v2 &&& 31)) ^^^ (-1 : Int32)))] (mj_hw w c hi hl)) (fun x1 h1 => mj_den mj_P E d 249 16 [Value.ref 205, Value.int v1, Value.int v2, Value.int v3] [Value.int x1] h1) := by
  rw [mj_den_eq, f249_0]
  exact zt_aload_n rfl rfl (zt_iload_n rfl rfl (zt_iload_n rfl rfl (zt_iload_n rfl rfl (zt_iconst rfl (zt_ixor rfl (zt_iand rfl (zt_iconst rfl (zt_iload_n rfl rfl (zt_ishl rfl (zt_iconst rfl (zt_ixor rfl (zt_iand rfl (zt_call0_1 rfl (mjkd205 _ _ _ _) (Nat.le_of_ble_eq_true rfl) rfl rfl)))))))))))))
set_option maxRecDepth 100000 in
theorem f249_16 : mj_find (mj_P 249).2.2.2.2 16 = [(.aload_n 0, 1, 0, []), (.getfield 89, 3, 0, [12, 50, 3, 1460]), (.iload_n 1, 1, 0, []), (.iconst 1, 1, 1, []), (.iload_n 2, 1, 0, []), (.ishl, 1, 0, []), (.ior, 1, 0, []), (.iaload, 1, 0, []), (.iadd, 1, 0, []), (.ireturn, 1, 0, [0])] := rfl
set_option maxRecDepth 100000 in
theorem q249_16 (E : mj_E) (d w c : Nat) (hi : Nat → Nat → Int32) (hl : Nat → Nat → Int64) (v1 : Int32) (v2 : Int32) (v3 : Int32) (s0 : Int32) : mj_den mj_P E d 249 16 [Value.ref 205, Value.int v1, Value.int v2, Value.int v3] [Value.int s0] (mj_hw w c hi hl) = if 0 ≤ (v1 ||| ((1 : Int32) <<< (v2 &&& 31))) ∧ ((v1 ||| ((1 : Int32) <<< (v2 &&& 31)))).toNatClampNeg < 1024 then some (some (Value.int (s0 + (hi 231 (((v1 ||| ((1 : Int32) <<< (v2 &&& 31)))).toNatClampNeg)))), (mj_hw w c hi hl)) else none := by
  rw [mj_den_eq, f249_16]
  exact zt_aload_n rfl rfl (zt_getr (mjkd205 _ _ _ _) (mjhr205_50 w c) rfl (zt_iload_n rfl rfl (zt_iconst rfl (zt_iload_n rfl rfl (zt_ishl rfl (zt_ior rfl (zt_iald (mjkd231 _ _ _ _) (mjln231 _ _ _ _) rfl rfl (zt_iadd rfl (zt_ireturn0)))))))))
set_option maxRecDepth 100000 in
theorem f250_0 : mj_find (mj_P 250).2.2.2.2 0 = [(.iload_n 1, 1, 0, []), (.istore_n 2, 1, 0, [])] := rfl
set_option maxRecDepth 100000 in
theorem q250_0 (E : mj_E) (d w c : Nat) (hi : Nat → Nat → Int32) (hl : Nat → Nat → Int64) (v1 : Int32) : mj_den mj_P E d 250 0 [Value.ref 205, Value.int v1, Value.float 0, Value.float 0, Value.float 0] [] (mj_hw w c hi hl) = mj_den mj_P E d 250 2 [Value.ref 205, Value.int v1, Value.int v1, Value.float 0, Value.float 0] [] (mj_hw w c hi hl) := by
  rw [mj_den_eq, f250_0]
  exact zt_iload_n rfl rfl (zt_istore_n (Nat.le_of_ble_eq_true rfl) rfl rfl (zt_end rfl))
set_option maxRecDepth 100000 in
theorem f250_2 : mj_find (mj_P 250).2.2.2.2 2 = [(.iload_n 2, 1, 0, []), (.ifCond .lt 84, 3, 0, [87]), (.iload_n 2, 1, 0, []), (.iload_n 1, 1, 0, []), (.iconst (-1), 1, (-1), []), (.ixor, 1, 0, []), (.iand, 1, 0, []), (.ifCond .eq 6, 3, 0, [17]), (.goto 67, 3, 0, [81])] := rfl
set_option maxRecDepth 100000 in
theorem q250_2 (E : mj_E) (d w c : Nat) (hi : Nat → Nat → Int32) (hl : Nat → Nat → Int64) (v1 : Int32) (v2 : Int32) : mj_den mj_P E d 250 2 [Value.ref 205, Value.int v1, Value.int v2, Value.float 0, Value.float 0] [] (mj_hw w c hi hl) = if v2 < 0 then mj_den mj_P E d 250 87 [Value.ref 205, Value.int v1, Value.int v2, Value.float 0, Value.float 0] [] (mj_hw w c hi hl) else if (v2 &&& (v1 ^^^ (-1 : Int32))) = 0 then mj_den mj_P E d 250 17 [Value.ref 205, Value.int v1, Value.int v2, Value.float 0, Value.float 0] [] (mj_hw w c hi hl) else mj_den mj_P E d 250 81 [Value.ref 205, Value.int v1, Value.int v2, Value.float 0, Value.float 0] [] (mj_hw w c hi hl) := by
  rw [mj_den_eq, f250_2]
  exact zt_iload_n rfl rfl (zt_if_lt rfl rfl (zt_iload_n rfl rfl (zt_iload_n rfl rfl (zt_iconst rfl (zt_ixor rfl (zt_iand rfl (zt_if_eq rfl rfl (zt_goto rfl))))))))
set_option maxRecDepth 100000 in
theorem q250_2_1 (E : mj_E) (d w c : Nat) (hi : Nat → Nat → Int32) (hl : Nat → Nat → Int64) (v1 : Int32) (v2 : Int32) (v3 : Int32) (v4 : Int32) : mj_den mj_P E d 250 2 [Value.ref 205, Value.int v1, Value.int v2, Value.int v3, Value.int v4] [] (mj_hw w c hi hl) = if v2 < 0 then mj_den mj_P E d 250 87 [Value.ref 205, Value.int v1, Value.int v2, Value.int v3, Value.int v4] [] (mj_hw w c hi hl) else if (v2 &&& (v1 ^^^ (-1 : Int32))) = 0 then mj_den mj_P E d 250 17 [Value.ref 205, Value.int v1, Value.int v2, Value.int v3, Value.int v4] [] (mj_hw w c hi hl) else mj_den mj_P E d 250 81 [Value.ref 205, Value.int v1, Value.int v2, Value.int v3, Value.int v4] [] (mj_hw w c hi hl) := by
  rw [mj_den_eq, f250_2]
  exact zt_iload_n rfl rfl (zt_if_lt rfl rfl (zt_iload_n rfl rfl (zt_iload_n rfl rfl (zt_iconst rfl (zt_ixor rfl (zt_iand rfl (zt_if_eq rfl rfl (zt_goto rfl))))))))
set_option maxRecDepth 100000 in
theorem f250_17 : mj_find (mj_P 250).2.2.2.2 17 = [(.iload_n 2, 1, 0, []), (.iload_n 1, 1, 0, []), (.if_icmp .ne 7, 3, 0, [26]), (.iconst 0, 1, 0, []), (.goto 6, 3, 0, [29])] := rfl
set_option maxRecDepth 100000 in
theorem q250_17 (E : mj_E) (d w c : Nat) (hi : Nat → Nat → Int32) (hl : Nat → Nat → Int64) (v1 : Int32) (v2 : Int32) : mj_den mj_P E d 250 17 [Value.ref 205, Value.int v1, Value.int v2, Value.float 0, Value.float 0] [] (mj_hw w c hi hl) = if ¬ v2 = v1 then mj_den mj_P E d 250 26 [Value.ref 205, Value.int v1, Value.int v2, Value.float 0, Value.float 0] [] (mj_hw w c hi hl) else mj_den mj_P E d 250 29 [Value.ref 205, Value.int v1, Value.int v2, Value.float 0, Value.float 0] [Value.int (0 : Int32)] (mj_hw w c hi hl) := by
  rw [mj_den_eq, f250_17]
  exact zt_iload_n rfl rfl (zt_iload_n rfl rfl (zt_icmp_ne rfl rfl (zt_iconst rfl (zt_goto rfl))))
set_option maxRecDepth 100000 in
theorem q250_17_1 (E : mj_E) (d w c : Nat) (hi : Nat → Nat → Int32) (hl : Nat → Nat → Int64) (v1 : Int32) (v2 : Int32) (v3 : Int32) (v4 : Int32) : mj_den mj_P E d 250 17 [Value.ref 205, Value.int v1, Value.int v2, Value.int v3, Value.int v4] [] (mj_hw w c hi hl) = if ¬ v2 = v1 then mj_den mj_P E d 250 26 [Value.ref 205, Value.int v1, Value.int v2, Value.int v3, Value.int v4] [] (mj_hw w c hi hl) else mj_den mj_P E d 250 29 [Value.ref 205, Value.int v1, Value.int v2, Value.int v3, Value.int v4] [Value.int (0 : Int32)] (mj_hw w c hi hl) := by
  rw [mj_den_eq, f250_17]
  exact zt_iload_n rfl rfl (zt_iload_n rfl rfl (zt_icmp_ne rfl rfl (zt_iconst rfl (zt_goto rfl))))
set_option maxRecDepth 100000 in
theorem f250_26 : mj_find (mj_P 250).2.2.2.2 26 = [(.ldc_w 416, 3, 100000000, [0, 1982])] := rfl
set_option maxRecDepth 100000 in
theorem q250_26 (E : mj_E) (d w c : Nat) (hi : Nat → Nat → Int32) (hl : Nat → Nat → Int64) (v1 : Int32) (v2 : Int32) (v3 : Int32) (v4 : Int32) : mj_den mj_P E d 250 26 [Value.ref 205, Value.int v1, Value.int v2, Value.int v3, Value.int v4] [] (mj_hw w c hi hl) = mj_den mj_P E d 250 29 [Value.ref 205, Value.int v1, Value.int v2, Value.int v3, Value.int v4] [Value.int (100000000 : Int32)] (mj_hw w c hi hl) := by
  rw [mj_den_eq, f250_26]
  exact zt_ldc_w rfl (zt_end rfl)
set_option maxRecDepth 100000 in
theorem q250_26_1 (E : mj_E) (d w c : Nat) (hi : Nat → Nat → Int32) (hl : Nat → Nat → Int64) (v1 : Int32) (v2 : Int32) : mj_den mj_P E d 250 26 [Value.ref 205, Value.int v1, Value.int v2, Value.float 0, Value.float 0] [] (mj_hw w c hi hl) = mj_den mj_P E d 250 29 [Value.ref 205, Value.int v1, Value.int v2, Value.float 0, Value.float 0] [Value.int (100000000 : Int32)] (mj_hw w c hi hl) := by
  rw [mj_den_eq, f250_26]
  exact zt_ldc_w rfl (zt_end rfl)
set_option maxRecDepth 100000 in
theorem f250_29 : mj_find (mj_P 250).2.2.2.2 29 = [(.istore_n 3, 1, 0, []), (.iconst 0, 1, 0, []), (.istore 4, 2, 0, [])] := rfl
set_option maxRecDepth 100000 in
theorem q250_29 (E : mj_E) (d w c : Nat) (hi : Nat → Nat → Int32) (hl : Nat → Nat → Int64) (v1 : Int32) (v2 : Int32) (s0 : Int32) : mj_den mj_P E d 250 29 [Value.ref 205, Value.int v1, Value.int v2, Value.float 0, Value.float 0] [Value.int s0] (mj_hw w c hi hl) = mj_den mj_P E d 250 33 [Value.ref 205, Value.int v1, Value.int v2, Value.int s0, Value.int (0 : Int32)] [] (mj_hw w c hi hl) := by
  rw [mj_den_eq, f250_29]
  exact zt_istore_n (Nat.le_of_ble_eq_true rfl) rfl rfl (zt_iconst rfl (zt_istore (Nat.le_of_ble_eq_true rfl) rfl rfl (zt_end rfl)))
set_option maxRecDepth 100000 in
theorem q250_29_1 (E : mj_E) (d w c : Nat) (hi : Nat → Nat → Int32) (hl : Nat → Nat → Int64) (v1 : Int32) (v2 : Int32) (v3 : Int32) (v4 : Int32) (s0 : Int32) : mj_den mj_P E d 250 29 [Value.ref 205, Value.int v1, Value.int v2, Value.int v3, Value.int v4] [Value.int s0] (mj_hw w c hi hl) = mj_den mj_P E d 250 33 [Value.ref 205, Value.int v1, Value.int v2, Value.int s0, Value.int (0 : Int32)] [] (mj_hw w c hi hl) := by
  rw [mj_den_eq, f250_29]
  exact zt_istore_n (Nat.le_of_ble_eq_true rfl) rfl rfl (zt_iconst rfl (zt_istore (Nat.le_of_ble_eq_true rfl) rfl rfl (zt_end rfl)))
set_option maxRecDepth 100000 in
theorem f250_33 : mj_find (mj_P 250).2.2.2.2 33 = [(.iload 4, 2, 0, []), (.bipush 10, 2, 10, []), (.if_icmp .ge 37, 3, 0, [74]), (.aload_n 0, 1, 0, []), (.iload_n 1, 1, 0, []), (.iload_n 2, 1, 0, []), (.iconst (-1), 1, (-1), []), (.ixor, 1, 0, []), (.iand, 1, 0, []), (.iload 4, 2, 0, []), (.invokevirtual 327, 3, 0, [0, 157, 12, 2, 1, 1832, 1834, 87, 156, 1835])] := rfl
set_option maxRecDepth 100000 in
theorem q250_33 (E : mj_E) (d w c : Nat) (hi : Nat → Nat → Int32) (hl : Nat → Nat → Int64) (v1 : Int32) (v2 : Int32) (v3 : Int32) (v4 : Int32) : mj_den mj_P E d 250 33 [Value.ref 205, Value.int v1, Value.int v2, Value.int v3, Value.int v4] [] (mj_hw w c hi hl) = if (10 : Int32) ≤ v4 then mj_den mj_P E d 250 74 [Value.ref 205, Value.int v1, Value.int v2, Value.int v3, Value.int v4] [] (mj_hw w c hi hl) else mj_bi (mj_dc mj_P E d 157 [Value.ref 205, Value.int (v1 &&& (v2 ^^^ (-1 : Int32))), Value.int v4] (mj_hw w c hi hl)) (fun x1 h1 => mj_den mj_P E d 250 51 [Value.ref 205, Value.int v1, Value.int v2, Value.int v3, Value.int v4] [Value.int x1] h1) := by
  rw [mj_den_eq, f250_33]
  exact zt_iload rfl rfl (zt_bipush rfl (zt_icmp_ge rfl rfl (zt_aload_n rfl rfl (zt_iload_n rfl rfl (zt_iload_n rfl rfl (zt_iconst rfl (zt_ixor rfl (zt_iand rfl (zt_iload rfl rfl (zt_call0_1 rfl (mjkd205 _ _ _ _) (Nat.le_of_ble_eq_true rfl) rfl rfl))))))))))
set_option maxRecDepth 100000 in
theorem f250_51 : mj_find (mj_P 250).2.2.2.2 51 = [(.ifCond .eq 17, 3, 0, [68]), (.aload_n 0, 1, 0, []), (.iload_n 3, 1, 0, []), (.aload_n 0, 1, 0, []), (.iload_n 2, 1, 0, []), (.iload 4, 2, 0, []), (.iload_n 1, 1, 0, []), (.invokevirtual 432, 3, 0, [0, 249, 12, 3, 1, 2007, 2009, 117, 156, 2010])] := rfl
set_option maxRecDepth 100000 in
theorem q250_51 (E : mj_E) (d w c : Nat) (hi : Nat → Nat → Int32) (hl : Nat → Nat → Int64) (v1 : Int32) (v2 : Int32) (v3 : Int32) (v4 : Int32) (s0 : Int32) : mj_den mj_P E d 250 51 [Value.ref 205, Value.int v1, Value.int v2, Value.int v3, Value.int v4] [Value.int s0] (mj_hw w c hi hl) = if s0 = 0 then mj_den mj_P E d 250 68 [Value.ref 205, Value.int v1, Value.int v2, Value.int v3, Value.int v4] [] (mj_hw w c hi hl) else mj_bi (mj_dc mj_P E d 249 [Value.ref 205, Value.int v2, Value.int v4, Value.int v1] (mj_hw w c hi hl)) (fun x1 h1 => mj_den mj_P E d 250 64 [Value.ref 205, Value.int v1, Value.int v2, Value.int v3, Value.int v4] [Value.int x1, Value.int v3, Value.ref 205] h1) := by
  rw [mj_den_eq, f250_51]
  exact zt_if_eq rfl rfl (zt_aload_n rfl rfl (zt_iload_n rfl rfl (zt_aload_n rfl rfl (zt_iload_n rfl rfl (zt_iload rfl rfl (zt_iload_n rfl rfl (zt_call0_1 rfl (mjkd205 _ _ _ _) (Nat.le_of_ble_eq_true rfl) rfl rfl)))))))
set_option maxRecDepth 100000 in
theorem f250_64 : mj_find (mj_P 250).2.2.2.2 64 = [(.invokevirtual 374, 3, 0, [0, 155, 12, 2, 1, 1890, 1892, 101, 156, 1893])] := rfl
set_option maxRecDepth 100000 in
theorem q250_64 (E : mj_E) (d w c : Nat) (hi : Nat → Nat → Int32) (hl : Nat → Nat → Int64) (v1 : Int32) (v2 : Int32) (v3 : Int32) (v4 : Int32) (s0 : Int32) (s1 : Int32) : mj_den mj_P E d 250 64 [Value.ref 205, Value.int v1, Value.int v2, Value.int v3, Value.int v4] [Value.int s0, Value.int s1, Value.ref 205] (mj_hw w c hi hl) = mj_bi (mj_dc mj_P E d 155 [Value.ref 205, Value.int s1, Value.int s0] (mj_hw w c hi hl)) (fun x1 h1 => mj_den mj_P E d 250 67 [Value.ref 205, Value.int v1, Value.int v2, Value.int v3, Value.int v4] [Value.int x1] h1) := by
  rw [mj_den_eq, f250_64]
  exact zt_call0_1 rfl (mjkd205 _ _ _ _) (Nat.le_of_ble_eq_true rfl) rfl rfl
set_option maxRecDepth 100000 in
theorem f250_67 : mj_find (mj_P 250).2.2.2.2 67 = [(.istore_n 3, 1, 0, [])] := rfl
set_option maxRecDepth 100000 in
theorem q250_67 (E : mj_E) (d w c : Nat) (hi : Nat → Nat → Int32) (hl : Nat → Nat → Int64) (v1 : Int32) (v2 : Int32) (v3 : Int32) (v4 : Int32) (s0 : Int32) : mj_den mj_P E d 250 67 [Value.ref 205, Value.int v1, Value.int v2, Value.int v3, Value.int v4] [Value.int s0] (mj_hw w c hi hl) = mj_den mj_P E d 250 68 [Value.ref 205, Value.int v1, Value.int v2, Value.int s0, Value.int v4] [] (mj_hw w c hi hl) := by
  rw [mj_den_eq, f250_67]
  exact zt_istore_n (Nat.le_of_ble_eq_true rfl) rfl rfl (zt_end rfl)
set_option maxRecDepth 100000 in
theorem f250_68 : mj_find (mj_P 250).2.2.2.2 68 = [(.iinc 4 1, 3, 1, []), (.goto (-38), 3, 0, [33])] := rfl
set_option maxRecDepth 100000 in
theorem q250_68 (E : mj_E) (d w c : Nat) (hi : Nat → Nat → Int32) (hl : Nat → Nat → Int64) (v1 : Int32) (v2 : Int32) (v3 : Int32) (v4 : Int32) : mj_den mj_P E d 250 68 [Value.ref 205, Value.int v1, Value.int v2, Value.int v3, Value.int v4] [] (mj_hw w c hi hl) = mj_den mj_P E d 250 33 [Value.ref 205, Value.int v1, Value.int v2, Value.int v3, Value.int (v4 + (1 : Int32))] [] (mj_hw w c hi hl) := by
  rw [mj_den_eq, f250_68]
  exact zt_iinc rfl (Nat.le_of_ble_eq_true rfl) rfl rfl (zt_goto rfl)
set_option maxRecDepth 100000 in
theorem f250_74 : mj_find (mj_P 250).2.2.2.2 74 = [(.aload_n 0, 1, 0, []), (.getfield 89, 3, 0, [12, 50, 3, 1460]), (.iload_n 2, 1, 0, []), (.iload_n 3, 1, 0, []), (.iastore, 1, 0, [])] := rfl
set_option maxRecDepth 100000 in
theorem q250_74 (E : mj_E) (d w c : Nat) (hi : Nat → Nat → Int32) (hl : Nat → Nat → Int64) (v1 : Int32) (v2 : Int32) (v3 : Int32) (v4 : Int32) : mj_den mj_P E d 250 74 [Value.ref 205, Value.int v1, Value.int v2, Value.int v3, Value.int v4] [] (mj_hw w c hi hl) = if 0 ≤ v2 ∧ (v2).toNatClampNeg < 1024 then mj_den mj_P E d 250 81 [Value.ref 205, Value.int v1, Value.int v2, Value.int v3, Value.int v4] [] (mj_hw w c (mj_u hi 231 ((v2).toNatClampNeg) v3) hl) else none := by
  rw [mj_den_eq, f250_74]
  exact zt_aload_n rfl rfl (zt_getr (mjkd205 _ _ _ _) (mjhr205_50 w c) rfl (zt_iload_n rfl rfl (zt_iload_n rfl rfl (zt_iast (mjkd231 _ _ _ _) (mjln231 _ _ _ _) rfl rfl (zt_end rfl)))))
set_option maxRecDepth 100000 in
theorem f250_81 : mj_find (mj_P 250).2.2.2.2 81 = [(.iinc 2 (-1), 3, (-1), []), (.goto (-82), 3, 0, [2])] := rfl
set_option maxRecDepth 100000 in
theorem q250_81 (E : mj_E) (d w c : Nat) (hi : Nat → Nat → Int32) (hl : Nat → Nat → Int64) (v1 : Int32) (v2 : Int32) : mj_den mj_P E d 250 81 [Value.ref 205, Value.int v1, Value.int v2, Value.float 0, Value.float 0] [] (mj_hw w c hi hl) = mj_den mj_P E d 250 2 [Value.ref 205, Value.int v1, Value.int (v2 + (-1 : Int32)), Value.float 0, Value.float 0] [] (mj_hw w c hi hl) := by
  rw [mj_den_eq, f250_81]
  exact zt_iinc rfl (Nat.le_of_ble_eq_true rfl) rfl rfl (zt_goto rfl)
set_option maxRecDepth 100000 in
theorem q250_81_1 (E : mj_E) (d w c : Nat) (hi : Nat → Nat → Int32) (hl : Nat → Nat → Int64) (v1 : Int32) (v2 : Int32) (v3 : Int32) (v4 : Int32) : mj_den mj_P E d 250 81 [Value.ref 205, Value.int v1, Value.int v2, Value.int v3, Value.int v4] [] (mj_hw w c hi hl) = mj_den mj_P E d 250 2 [Value.ref 205, Value.int v1, Value.int (v2 + (-1 : Int32)), Value.int v3, Value.int v4] [] (mj_hw w c hi hl) := by
  rw [mj_den_eq, f250_81]
  exact zt_iinc rfl (Nat.le_of_ble_eq_true rfl) rfl rfl (zt_goto rfl)
set_option maxRecDepth 100000 in
theorem f250_87 : mj_find (mj_P 250).2.2.2.2 87 = [(.return_, 1, 0, [])] := rfl
set_option maxRecDepth 100000 in
theorem q250_87 (E : mj_E) (d w c : Nat) (hi : Nat → Nat → Int32) (hl : Nat → Nat → Int64) (v1 : Int32) (v2 : Int32) (v3 : Int32) (v4 : Int32) : mj_den mj_P E d 250 87 [Value.ref 205, Value.int v1, Value.int v2, Value.int v3, Value.int v4] [] (mj_hw w c hi hl) = some (none, (mj_hw w c hi hl)) := by
  rw [mj_den_eq, f250_87]
  exact zt_return
set_option maxRecDepth 100000 in
theorem q250_87_1 (E : mj_E) (d w c : Nat) (hi : Nat → Nat → Int32) (hl : Nat → Nat → Int64) (v1 : Int32) (v2 : Int32) : mj_den mj_P E d 250 87 [Value.ref 205, Value.int v1, Value.int v2, Value.float 0, Value.float 0] [] (mj_hw w c hi hl) = some (none, (mj_hw w c hi hl)) := by
  rw [mj_den_eq, f250_87]
  exact zt_return
set_option maxRecDepth 100000 in
theorem f251_0 : mj_find (mj_P 251).2.2.2.2 0 = [(.aload_n 0, 1, 0, []), (.iconst 0, 1, 0, []), (.putfield 122, 3, 0, [12, 0, 0, 1410]), (.aload_n 0, 1, 0, []), (.invokevirtual 435, 3, 0, [0, 247, 12, 0, 1, 1999, 2001, 115, 156, 2002])] := rfl
set_option maxRecDepth 100000 in
theorem q251_0 (E : mj_E) (d w c : Nat) (hi : Nat → Nat → Int32) (hl : Nat → Nat → Int64) (v1 : Int32) : mj_den mj_P E d 251 0 [Value.ref 205, Value.int v1, Value.float 0, Value.float 0, Value.float 0, Value.float 0] [] (mj_hw w c hi hl) = mj_bi (mj_dc mj_P E d 247 [Value.ref 205] (mj_hw w c (mj_u hi 205 0 (0 : Int32)) hl)) (fun x1 h1 => mj_den mj_P E d 251 9 [Value.ref 205, Value.int v1, Value.float 0, Value.float 0, Value.float 0, Value.float 0] [Value.int x1] h1) := by
  rw [mj_den_eq, f251_0]
  exact zt_aload_n rfl rfl (zt_iconst rfl (zt_puti (mjkd205 _ _ _ _) rfl rfl (zt_aload_n rfl rfl (zt_call0_1 rfl (mjkd205 _ _ _ _) (Nat.le_of_ble_eq_true rfl) rfl rfl))))
set_option maxRecDepth 100000 in
theorem f251_9 : mj_find (mj_P 251).2.2.2.2 9 = [(.istore_n 2, 1, 0, []), (.iload_n 1, 1, 0, []), (.ifCond .eq 23, 3, 0, [34]), (.aload_n 0, 1, 0, []), (.iload_n 1, 1, 0, []), (.bipush 10, 2, 10, []), (.bipush 9, 2, 9, []), (.aload_n 0, 1, 0, []), (.iload_n 2, 1, 0, []), (.invokevirtual 336, 3, 0, [0, 156, 12, 1, 1, 1820, 1822, 84, 156, 1823])] := rfl
set_option maxRecDepth 100000 in
theorem q251_9 (E : mj_E) (d w c : Nat) (hi : Nat → Nat → Int32) (hl : Nat → Nat → Int64) (v1 : Int32) (s0 : Int32) : mj_den mj_P E d 251 9 [Value.ref 205, Value.int v1, Value.float 0, Value.float 0, Value.float 0, Value.float 0] [Value.int s0] (mj_hw w c hi hl) = if v1 = 0 then mj_den mj_P E d 251 34 [Value.ref 205, Value.int v1, Value.int s0, Value.float 0, Value.float 0, Value.float 0] [] (mj_hw w c hi hl) else mj_bi (mj_dc mj_P E d 156 [Value.ref 205, Value.int s0] (mj_hw w c hi hl)) (fun x1 h1 => mj_den mj_P E d 251 25 [Value.ref 205, Value.int v1, Value.int s0, Value.float 0, Value.float 0, Value.float 0] [Value.int x1, Value.int (9 : Int32), Value.int (10 : Int32), Value.int v1, Value.ref 205] h1) := by
  rw [mj_den_eq, f251_9]
  exact zt_istore_n (Nat.le_of_ble_eq_true rfl) rfl rfl (zt_iload_n rfl rfl (zt_if_eq rfl rfl (zt_aload_n rfl rfl (zt_iload_n rfl rfl (zt_bipush rfl (zt_bipush rfl (zt_aload_n rfl rfl (zt_iload_n rfl rfl (zt_call0_1 rfl (mjkd205 _ _ _ _) (Nat.le_of_ble_eq_true rfl) rfl rfl)))))))))
set_option maxRecDepth 100000 in
theorem f251_25 : mj_find (mj_P 251).2.2.2.2 25 = [(.iadd, 1, 0, []), (.invokevirtual 144, 3, 0, [0, 152, 12, 3, 1, 1624, 1626, 42, 156, 1627])] := rfl
set_option maxRecDepth 100000 in
theorem q251_25 (E : mj_E) (d w c : Nat) (hi : Nat → Nat → Int32) (hl : Nat → Nat → Int64) (v1 : Int32) (v2 : Int32) (s0 : Int32) (s1 : Int32) (s2 : Int32) (s3 : Int32) : mj_den mj_P E d 251 25 [Value.ref 205, Value.int v1, Value.int v2, Value.float 0, Value.float 0, Value.float 0] [Value.int s0, Value.int s1, Value.int s2, Value.int s3, Value.ref 205] (mj_hw w c hi hl) = mj_bi (mj_dc mj_P E d 152 [Value.ref 205, Value.int s3, Value.int s2, Value.int (s1 + s0)] (mj_hw w c hi hl)) (fun x1 h1 => mj_den mj_P E d 251 29 [Value.ref 205, Value.int v1, Value.int v2, Value.float 0, Value.float 0, Value.float 0] [Value.int x1] h1) := by
  rw [mj_den_eq, f251_25]
  exact zt_iadd rfl (zt_call0_1 rfl (mjkd205 _ _ _ _) (Nat.le_of_ble_eq_true rfl) rfl rfl)
set_option maxRecDepth 100000 in
theorem f251_29 : mj_find (mj_P 251).2.2.2.2 29 = [(.ifCond .ne 5, 3, 0, [34]), (.iconst (-1), 1, (-1), []), (.ireturn, 1, 0, [0])] := rfl
set_option maxRecDepth 100000 in
theorem q251_29 (E : mj_E) (d w c : Nat) (hi : Nat → Nat → Int32) (hl : Nat → Nat → Int64) (v1 : Int32) (v2 : Int32) (s0 : Int32) : mj_den mj_P E d 251 29 [Value.ref 205, Value.int v1, Value.int v2, Value.float 0, Value.float 0, Value.float 0] [Value.int s0] (mj_hw w c hi hl) = if ¬ s0 = 0 then mj_den mj_P E d 251 34 [Value.ref 205, Value.int v1, Value.int v2, Value.float 0, Value.float 0, Value.float 0] [] (mj_hw w c hi hl) else some (some (Value.int (-1 : Int32)), (mj_hw w c hi hl)) := by
  rw [mj_den_eq, f251_29]
  exact zt_if_ne rfl rfl (zt_iconst rfl (zt_ireturn0))
set_option maxRecDepth 100000 in
theorem f251_34 : mj_find (mj_P 251).2.2.2.2 34 = [(.aload_n 0, 1, 0, []), (.iload_n 2, 1, 0, []), (.invokevirtual 438, 3, 0, [0, 250, 12, 1, 0, 2003, 2005, 116, 156, 2006])] := rfl
set_option maxRecDepth 100000 in
theorem q251_34 (E : mj_E) (d w c : Nat) (hi : Nat → Nat → Int32) (hl : Nat → Nat → Int64) (v1 : Int32) (v2 : Int32) : mj_den mj_P E d 251 34 [Value.ref 205, Value.int v1, Value.int v2, Value.float 0, Value.float 0, Value.float 0] [] (mj_hw w c hi hl) = mj_bv (mj_dc mj_P E d 250 [Value.ref 205, Value.int v2] (mj_hw w c hi hl)) (fun h1 => mj_den mj_P E d 251 39 [Value.ref 205, Value.int v1, Value.int v2, Value.float 0, Value.float 0, Value.float 0] [] h1) := by
  rw [mj_den_eq, f251_34]
  exact zt_aload_n rfl rfl (zt_iload_n rfl rfl (zt_call0_0 rfl (mjkd205 _ _ _ _) (Nat.le_of_ble_eq_true rfl) rfl rfl))
set_option maxRecDepth 100000 in
theorem f251_39 : mj_find (mj_P 251).2.2.2.2 39 = [(.iload_n 1, 1, 0, []), (.ifCond .ne 10, 3, 0, [50]), (.aload_n 0, 1, 0, []), (.getfield 89, 3, 0, [12, 50, 3, 1460]), (.iconst 0, 1, 0, []), (.iaload, 1, 0, []), (.ireturn, 1, 0, [0])] := rfl
set_option maxRecDepth 100000 in
theorem q251_39 (E : mj_E) (d w c : Nat) (hi : Nat → Nat → Int32) (hl : Nat → Nat → Int64) (v1 : Int32) (v2 : Int32) : mj_den mj_P E d 251 39 [Value.ref 205, Value.int v1, Value.int v2, Value.float 0, Value.float 0, Value.float 0] [] (mj_hw w c hi hl) = if ¬ v1 = 0 then mj_den mj_P E d 251 50 [Value.ref 205, Value.int v1, Value.int v2, Value.float 0, Value.float 0, Value.float 0] [] (mj_hw w c hi hl) else if 0 ≤ (0 : Int32) ∧ ((0 : Int32)).toNatClampNeg < 1024 then some (some (Value.int (hi 231 (((0 : Int32)).toNatClampNeg))), (mj_hw w c hi hl)) else none := by
  rw [mj_den_eq, f251_39]
  exact zt_iload_n rfl rfl (zt_if_ne rfl rfl (zt_aload_n rfl rfl (zt_getr (mjkd205 _ _ _ _) (mjhr205_50 w c) rfl (zt_iconst rfl (zt_iald (mjkd231 _ _ _ _) (mjln231 _ _ _ _) rfl rfl (zt_ireturn0))))))
set_option maxRecDepth 100000 in
theorem f251_50 : mj_find (mj_P 251).2.2.2.2 50 = [(.iconst 0, 1, 0, []), (.istore_n 3, 1, 0, []), (.iconst (-1), 1, (-1), []), (.istore 4, 2, 0, []), (.iconst 0, 1, 0, []), (.istore 5, 2, 0, [])] := rfl
set_option maxRecDepth 100000 in
theorem q251_50 (E : mj_E) (d w c : Nat) (hi : Nat → Nat → Int32) (hl : Nat → Nat → Int64) (v1 : Int32) (v2 : Int32) : mj_den mj_P E d 251 50 [Value.ref 205, Value.int v1, Value.int v2, Value.float 0, Value.float 0, Value.float 0] [] (mj_hw w c hi hl) = mj_den mj_P E d 251 58 [Value.ref 205, Value.int v1, Value.int v2, Value.int (0 : Int32), Value.int (-1 : Int32), Value.int (0 : Int32)] [] (mj_hw w c hi hl) := by
  rw [mj_den_eq, f251_50]
  exact zt_iconst rfl (zt_istore_n (Nat.le_of_ble_eq_true rfl) rfl rfl (zt_iconst rfl (zt_istore (Nat.le_of_ble_eq_true rfl) rfl rfl (zt_iconst rfl (zt_istore (Nat.le_of_ble_eq_true rfl) rfl rfl (zt_end rfl))))))
set_option maxRecDepth 100000 in
theorem f251_58 : mj_find (mj_P 251).2.2.2.2 58 = [(.iload 5, 2, 0, []), (.iload_n 1, 1, 0, []), (.bipush 10, 2, 10, []), (.isub, 1, 0, []), (.if_icmp .gt 59, 3, 0, [123]), (.iconst 0, 1, 0, []), (.istore 4, 2, 0, [])] := rfl
set_option maxRecDepth 100000 in
theorem q251_58 (E : mj_E) (d w c : Nat) (hi : Nat → Nat → Int32) (hl : Nat → Nat → Int64) (v1 : Int32) (v2 : Int32) (v3 : Int32) (v4 : Int32) (v5 : Int32) : mj_den mj_P E d 251 58 [Value.ref 205, Value.int v1, Value.int v2, Value.int v3, Value.int v4, Value.int v5] [] (mj_hw w c hi hl) = if (v1 - (10 : Int32)) < v5 then mj_den mj_P E d 251 123 [Value.ref 205, Value.int v1, Value.int v2, Value.int v3, Value.int v4, Value.int v5] [] (mj_hw w c hi hl) else mj_den mj_P E d 251 70 [Value.ref 205, Value.int v1, Value.int v2, Value.int v3, Value.int (0 : Int32), Value.int v5] [] (mj_hw w c hi hl) := by
  rw [mj_den_eq, f251_58]
  exact zt_iload rfl rfl (zt_iload_n rfl rfl (zt_bipush rfl (zt_isub rfl (zt_icmp_gt rfl rfl (zt_iconst rfl (zt_istore (Nat.le_of_ble_eq_true rfl) rfl rfl (zt_end rfl)))))))
set_option maxRecDepth 100000 in
theorem f251_70 : mj_find (mj_P 251).2.2.2.2 70 = [(.aload_n 0, 1, 0, []), (.iload_n 2, 1, 0, []), (.iload_n 3, 1, 0, []), (.iconst (-1), 1, (-1), []), (.ixor, 1, 0, []), (.iand, 1, 0, []), (.iload 4, 2, 0, []), (.invokevirtual 327, 3, 0, [0, 157, 12, 2, 1, 1832, 1834, 87, 156, 1835])] := rfl
set_option maxRecDepth 100000 in
theorem q251_70 (E : mj_E) (d w c : Nat) (hi : Nat → Nat → Int32) (hl : Nat → Nat → Int64) (v1 : Int32) (v2 : Int32) (v3 : Int32) (v4 : Int32) (v5 : Int32) : mj_den mj_P E d 251 70 [Value.ref 205, Value.int v1, Value.int v2, Value.int v3, Value.int v4, Value.int v5] [] (mj_hw w c hi hl) = mj_bi (mj_dc mj_P E d 157 [Value.ref 205, Value.int (v2 &&& (v3 ^^^ (-1 : Int32))), Value.int v4] (mj_hw w c hi hl)) (fun x1 h1 => mj_den mj_P E d 251 81 [Value.ref 205, Value.int v1, Value.int v2, Value.int v3, Value.int v4, Value.int v5] [Value.int x1] h1) := by
  rw [mj_den_eq, f251_70]
  exact zt_aload_n rfl rfl (zt_iload_n rfl rfl (zt_iload_n rfl rfl (zt_iconst rfl (zt_ixor rfl (zt_iand rfl (zt_iload rfl rfl (zt_call0_1 rfl (mjkd205 _ _ _ _) (Nat.le_of_ble_eq_true rfl) rfl rfl)))))))
set_option maxRecDepth 100000 in
theorem f251_81 : mj_find (mj_P 251).2.2.2.2 81 = [(.ifCond .eq 20, 3, 0, [101]), (.aload_n 0, 1, 0, []), (.iload_n 3, 1, 0, []), (.iload 4, 2, 0, []), (.iload_n 2, 1, 0, []), (.invokevirtual 432, 3, 0, [0, 249, 12, 3, 1, 2007, 2009, 117, 156, 2010])] := rfl
set_option maxRecDepth 100000 in
theorem q251_81 (E : mj_E) (d w c : Nat) (hi : Nat → Nat → Int32) (hl : Nat → Nat → Int64) (v1 : Int32) (v2 : Int32) (v3 : Int32) (v4 : Int32) (v5 : Int32) (s0 : Int32) : mj_den mj_P E d 251 81 [Value.ref 205, Value.int v1, Value.int v2, Value.int v3, Value.int v4, Value.int v5] [Value.int s0] (mj_hw w c hi hl) = if s0 = 0 then mj_den mj_P E d 251 101 [Value.ref 205, Value.int v1, Value.int v2, Value.int v3, Value.int v4, Value.int v5] [] (mj_hw w c hi hl) else mj_bi (mj_dc mj_P E d 249 [Value.ref 205, Value.int v3, Value.int v4, Value.int v2] (mj_hw w c hi hl)) (fun x1 h1 => mj_den mj_P E d 251 92 [Value.ref 205, Value.int v1, Value.int v2, Value.int v3, Value.int v4, Value.int v5] [Value.int x1] h1) := by
  rw [mj_den_eq, f251_81]
  exact zt_if_eq rfl rfl (zt_aload_n rfl rfl (zt_iload_n rfl rfl (zt_iload rfl rfl (zt_iload_n rfl rfl (zt_call0_1 rfl (mjkd205 _ _ _ _) (Nat.le_of_ble_eq_true rfl) rfl rfl)))))
set_option maxRecDepth 100000 in
theorem f251_92 : mj_find (mj_P 251).2.2.2.2 92 = [(.aload_n 0, 1, 0, []), (.getfield 89, 3, 0, [12, 50, 3, 1460]), (.iload_n 3, 1, 0, []), (.iaload, 1, 0, []), (.if_icmp .eq 12, 3, 0, [110])] := rfl
set_option maxRecDepth 100000 in
theorem q251_92 (E : mj_E) (d w c : Nat) (hi : Nat → Nat → Int32) (hl : Nat → Nat → Int64) (v1 : Int32) (v2 : Int32) (v3 : Int32) (v4 : Int32) (v5 : Int32) (s0 : Int32) : mj_den mj_P E d 251 92 [Value.ref 205, Value.int v1, Value.int v2, Value.int v3, Value.int v4, Value.int v5] [Value.int s0] (mj_hw w c hi hl) = if 0 ≤ v3 ∧ (v3).toNatClampNeg < 1024 then if s0 = (hi 231 ((v3).toNatClampNeg)) then mj_den mj_P E d 251 110 [Value.ref 205, Value.int v1, Value.int v2, Value.int v3, Value.int v4, Value.int v5] [] (mj_hw w c hi hl) else mj_den mj_P E d 251 101 [Value.ref 205, Value.int v1, Value.int v2, Value.int v3, Value.int v4, Value.int v5] [] (mj_hw w c hi hl) else none := by
  rw [mj_den_eq, f251_92]
  exact zt_aload_n rfl rfl (zt_getr (mjkd205 _ _ _ _) (mjhr205_50 w c) rfl (zt_iload_n rfl rfl (zt_iald (mjkd231 _ _ _ _) (mjln231 _ _ _ _) rfl rfl (zt_icmp_eq rfl rfl (zt_end rfl)))))
set_option maxRecDepth 100000 in
theorem f251_101 : mj_find (mj_P 251).2.2.2.2 101 = [(.iload 4, 2, 0, []), (.iconst 1, 1, 1, []), (.iadd, 1, 0, []), (.istore 4, 2, 0, []), (.goto (-37), 3, 0, [70])] := rfl
set_option maxRecDepth 100000 in
theorem q251_101 (E : mj_E) (d w c : Nat) (hi : Nat → Nat → Int32) (hl : Nat → Nat → Int64) (v1 : Int32) (v2 : Int32) (v3 : Int32) (v4 : Int32) (v5 : Int32) : mj_den mj_P E d 251 101 [Value.ref 205, Value.int v1, Value.int v2, Value.int v3, Value.int v4, Value.int v5] [] (mj_hw w c hi hl) = mj_den mj_P E d 251 70 [Value.ref 205, Value.int v1, Value.int v2, Value.int v3, Value.int (v4 + (1 : Int32)), Value.int v5] [] (mj_hw w c hi hl) := by
  rw [mj_den_eq, f251_101]
  exact zt_iload rfl rfl (zt_iconst rfl (zt_iadd rfl (zt_istore (Nat.le_of_ble_eq_true rfl) rfl rfl (zt_goto rfl))))
set_option maxRecDepth 100000 in
theorem f251_110 : mj_find (mj_P 251).2.2.2.2 110 = [(.iload_n 3, 1, 0, []), (.iconst 1, 1, 1, []), (.iload 4, 2, 0, []), (.ishl, 1, 0, []), (.ior, 1, 0, []), (.istore_n 3, 1, 0, []), (.iinc 5 1, 3, 1, []), (.goto (-62), 3, 0, [58])] := rfl
set_option maxRecDepth 100000 in
theorem q251_110 (E : mj_E) (d w c : Nat) (hi : Nat → Nat → Int32) (hl : Nat → Nat → Int64) (v1 : Int32) (v2 : Int32) (v3 : Int32) (v4 : Int32) (v5 : Int32) : mj_den mj_P E d 251 110 [Value.ref 205, Value.int v1, Value.int v2, Value.int v3, Value.int v4, Value.int v5] [] (mj_hw w c hi hl) = mj_den mj_P E d 251 58 [Value.ref 205, Value.int v1, Value.int v2, Value.int (v3 ||| ((1 : Int32) <<< (v4 &&& 31))), Value.int v4, Value.int (v5 + (1 : Int32))] [] (mj_hw w c hi hl) := by
  rw [mj_den_eq, f251_110]
  exact zt_iload_n rfl rfl (zt_iconst rfl (zt_iload rfl rfl (zt_ishl rfl (zt_ior rfl (zt_istore_n (Nat.le_of_ble_eq_true rfl) rfl rfl (zt_iinc rfl (Nat.le_of_ble_eq_true rfl) rfl rfl (zt_goto rfl)))))))
set_option maxRecDepth 100000 in
theorem f251_123 : mj_find (mj_P 251).2.2.2.2 123 = [(.iload 4, 2, 0, []), (.ireturn, 1, 0, [0])] := rfl
set_option maxRecDepth 100000 in
theorem q251_123 (E : mj_E) (d w c : Nat) (hi : Nat → Nat → Int32) (hl : Nat → Nat → Int64) (v1 : Int32) (v2 : Int32) (v3 : Int32) (v4 : Int32) (v5 : Int32) : mj_den mj_P E d 251 123 [Value.ref 205, Value.int v1, Value.int v2, Value.int v3, Value.int v4, Value.int v5] [] (mj_hw w c hi hl) = some (some (Value.int v4), (mj_hw w c hi hl)) := by
  rw [mj_den_eq, f251_123]
  exact zt_iload rfl rfl (zt_ireturn0)
