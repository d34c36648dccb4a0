set_option maxRecDepth 100000 in
theorem f45_0 : mj_find (mj_P 45).2.2.2.2 0 = [(.aload_n 0, 1, 0, []), (.iconst 0, 1, 0, []), (.putfield 9, 3, 0, [5, 0, 0, 462]), (.return_, 1, 0, [])] := rfl
set_option maxRecDepth 100000 in
theorem q45_0 (E : mj_E) (d w c : Nat) (hi : Nat → Nat → Int32) (hl : Nat → Nat → Int64) : mj_den mj_P E d 45 0 [Value.ref 91] [] (mj_hw w c hi hl) = some (none, (mj_hw w c (mj_u hi 91 0 (0 : Int32)) hl)) := by
  rw [mj_den_eq, f45_0]
  exact zt_aload_n rfl rfl (zt_iconst rfl (zt_puti (mjkd91 _ _ _ _) rfl rfl (zt_return)))
set_option maxRecDepth 100000 in
theorem f47_0 : mj_find (mj_P 47).2.2.2.2 0 = [(.bipush 24, 2, 24, []), (.istore_n 2, 1, 0, [])] := rfl
set_option maxRecDepth 100000 in
theorem q47_0 (E : mj_E) (d w c : Nat) (hi : Nat → Nat → Int32) (hl : Nat → Nat → Int64) (v1 : Int32) : mj_den mj_P E d 47 0 [Value.ref 159, Value.int v1, Value.float 0] [] (mj_hw w c hi hl) = mj_den mj_P E d 47 3 [Value.ref 159, Value.int v1, Value.int (24 : Int32)] [] (mj_hw w c hi hl) := by
  rw [mj_den_eq, f47_0]
  exact zt_bipush rfl (zt_istore_n (Nat.le_of_ble_eq_true rfl) rfl rfl (zt_end rfl))
set_option maxRecDepth 100000 in
theorem f47_3 : mj_find (mj_P 47).2.2.2.2 3 = [(.iload_n 2, 1, 0, []), (.ifCond .lt 42, 3, 0, [46]), (.aload_n 0, 1, 0, []), (.getfield 9, 3, 0, [6, 0, 0, 484]), (.sipush 400, 3, 400, []), (.if_icmp .ge 26, 3, 0, [40]), (.aload_n 0, 1, 0, []), (.getfield 35, 3, 0, [6, 5, 3, 494]), (.aload_n 0, 1, 0, []), (.getfield 9, 3, 0, [6, 0, 0, 484]), (.iload_n 1, 1, 0, []), (.iload_n 2, 1, 0, []), (.ishr, 1, 0, []), (.i2b, 1, 0, []), (.bastore, 1, 0, []), (.aload_n 0, 1, 0, []), (.dup, 1, 0, []), (.getfield 9, 3, 0, [6, 0, 0, 484]), (.iconst 1, 1, 1, []), (.iadd, 1, 0, []), (.putfield 9, 3, 0, [6, 0, 0, 484])] := rfl
set_option maxRecDepth 100000 in
theorem q47_3 (E : mj_E) (d w c : Nat) (hi : Nat → Nat → Int32) (hl : Nat → Nat → Int64) (v1 : Int32) (v2 : Int32) : mj_den mj_P E d 47 3 [Value.ref 159, Value.int v1, Value.int v2] [] (mj_hw w c hi hl) = if v2 < 0 then mj_den mj_P E d 47 46 [Value.ref 159, Value.int v1, Value.int v2] [] (mj_hw w c hi hl) else if (400 : Int32) ≤ (hi 159 0) then mj_den mj_P E d 47 40 [Value.ref 159, Value.int v1, Value.int v2] [] (mj_hw w c hi hl) else if 0 ≤ (hi 159 0) ∧ ((hi 159 0)).toNatClampNeg < 400 then mj_den mj_P E d 47 40 [Value.ref 159, Value.int v1, Value.int v2] [] (mj_hw w c (mj_u (mj_u hi 173 (((hi 159 0)).toNatClampNeg) (((v1 >>> (v2 &&& 31)).toInt8.toInt32).toInt8.toInt32)) 159 0 ((hi 159 0) + (1 : Int32))) hl) else none := by
  rw [mj_den_eq, f47_3]
  exact zt_iload_n rfl rfl (zt_if_lt rfl rfl (zt_aload_n rfl rfl (zt_geti (mjkd159 _ _ _ _) rfl rfl (zt_sipush rfl (zt_icmp_ge rfl rfl (zt_aload_n rfl rfl (zt_getr (mjkd159 _ _ _ _) (mjhr159_5 w c) rfl (zt_aload_n rfl rfl (zt_geti (mjkd159 _ _ _ _) rfl rfl (zt_iload_n rfl rfl (zt_iload_n rfl rfl (zt_ishr rfl (zt_i2b rfl (zt_bast (mjkd173 _ _ _ _) (mjln173 _ _ _ _) rfl rfl (zt_aload_n rfl rfl (zt_dupr rfl (zt_geti (mjkd159 _ _ _ _) rfl rfl (zt_iconst rfl (zt_iadd rfl (zt_puti (mjkd159 _ _ _ _) rfl rfl (zt_end rfl)))))))))))))))))))))
set_option maxRecDepth 100000 in
theorem f47_40 : mj_find (mj_P 47).2.2.2.2 40 = [(.iinc 2 (-8), 3, (-8), []), (.goto (-40), 3, 0, [3])] := rfl
set_option maxRecDepth 100000 in
theorem q47_40 (E : mj_E) (d w c : Nat) (hi : Nat → Nat → Int32) (hl : Nat → Nat → Int64) (v1 : Int32) (v2 : Int32) : mj_den mj_P E d 47 40 [Value.ref 159, Value.int v1, Value.int v2] [] (mj_hw w c hi hl) = mj_den mj_P E d 47 3 [Value.ref 159, Value.int v1, Value.int (v2 + (-8 : Int32))] [] (mj_hw w c hi hl) := by
  rw [mj_den_eq, f47_40]
  exact zt_iinc rfl (Nat.le_of_ble_eq_true rfl) rfl rfl (zt_goto rfl)
set_option maxRecDepth 100000 in
theorem f47_46 : mj_find (mj_P 47).2.2.2.2 46 = [(.return_, 1, 0, [])] := rfl
set_option maxRecDepth 100000 in
theorem q47_46 (E : mj_E) (d w c : Nat) (hi : Nat → Nat → Int32) (hl : Nat → Nat → Int64) (v1 : Int32) (v2 : Int32) : mj_den mj_P E d 47 46 [Value.ref 159, Value.int v1, Value.int v2] [] (mj_hw w c hi hl) = some (none, (mj_hw w c hi hl)) := by
  rw [mj_den_eq, f47_46]
  exact zt_return
set_option maxRecDepth 100000 in
theorem f48_0 : mj_find (mj_P 48).2.2.2.2 0 = [(.aload_n 0, 1, 0, []), (.iload_n 1, 1, 0, []), (.ifCond .ne 8, 3, 0, [10]), (.ldc 39, 2, 0, [1, 3, 483]), (.goto 25, 3, 0, [32])] := rfl
set_option maxRecDepth 100000 in
theorem q48_0 (E : mj_E) (d w c : Nat) (hi : Nat → Nat → Int32) (hl : Nat → Nat → Int64) (v1 : Int32) (v2 : Int32) (v3 : Int32) : mj_den mj_P E d 48 0 [Value.ref 159, Value.int v1, Value.int v2, Value.int v3, Value.float 0, Value.float 0, Value.float 0] [] (mj_hw w c hi hl) = if ¬ v1 = 0 then mj_den mj_P E d 48 10 [Value.ref 159, Value.int v1, Value.int v2, Value.int v3, Value.float 0, Value.float 0, Value.float 0] [Value.ref 159] (mj_hw w c hi hl) else mj_den mj_P E d 48 32 [Value.ref 159, Value.int v1, Value.int v2, Value.int v3, Value.float 0, Value.float 0, Value.float 0] [Value.retAddr 3, Value.ref 159] (mj_hw w c hi hl) := by
  rw [mj_den_eq, f48_0]
  exact zt_aload_n rfl rfl (zt_iload_n rfl rfl (zt_if_ne rfl rfl (zt_ldcs rfl (zt_goto rfl))))
set_option maxRecDepth 100000 in
theorem f48_10 : mj_find (mj_P 48).2.2.2.2 10 = [(.iload_n 1, 1, 0, []), (.iconst 1, 1, 1, []), (.if_icmp .ne 8, 3, 0, [20]), (.ldc 76, 2, 0, [1, 4, 847]), (.goto 15, 3, 0, [32])] := rfl
set_option maxRecDepth 100000 in
theorem q48_10 (E : mj_E) (d w c : Nat) (hi : Nat → Nat → Int32) (hl : Nat → Nat → Int64) (v1 : Int32) (v2 : Int32) (v3 : Int32) : mj_den mj_P E d 48 10 [Value.ref 159, Value.int v1, Value.int v2, Value.int v3, Value.float 0, Value.float 0, Value.float 0] [Value.ref 159] (mj_hw w c hi hl) = if ¬ v1 = (1 : Int32) then mj_den mj_P E d 48 20 [Value.ref 159, Value.int v1, Value.int v2, Value.int v3, Value.float 0, Value.float 0, Value.float 0] [Value.ref 159] (mj_hw w c hi hl) else mj_den mj_P E d 48 32 [Value.ref 159, Value.int v1, Value.int v2, Value.int v3, Value.float 0, Value.float 0, Value.float 0] [Value.retAddr 4, Value.ref 159] (mj_hw w c hi hl) := by
  rw [mj_den_eq, f48_10]
  exact zt_iload_n rfl rfl (zt_iconst rfl (zt_icmp_ne rfl rfl (zt_ldcs rfl (zt_goto rfl))))
set_option maxRecDepth 100000 in
theorem f48_20 : mj_find (mj_P 48).2.2.2.2 20 = [(.iload_n 1, 1, 0, []), (.iconst 2, 1, 2, []), (.if_icmp .ne 8, 3, 0, [30]), (.ldc 78, 2, 0, [1, 5, 848]), (.goto 5, 3, 0, [32])] := rfl
set_option maxRecDepth 100000 in
theorem q48_20 (E : mj_E) (d w c : Nat) (hi : Nat → Nat → Int32) (hl : Nat → Nat → Int64) (v1 : Int32) (v2 : Int32) (v3 : Int32) : mj_den mj_P E d 48 20 [Value.ref 159, Value.int v1, Value.int v2, Value.int v3, Value.float 0, Value.float 0, Value.float 0] [Value.ref 159] (mj_hw w c hi hl) = if ¬ v1 = (2 : Int32) then mj_den mj_P E d 48 30 [Value.ref 159, Value.int v1, Value.int v2, Value.int v3, Value.float 0, Value.float 0, Value.float 0] [Value.ref 159] (mj_hw w c hi hl) else mj_den mj_P E d 48 32 [Value.ref 159, Value.int v1, Value.int v2, Value.int v3, Value.float 0, Value.float 0, Value.float 0] [Value.retAddr 5, Value.ref 159] (mj_hw w c hi hl) := by
  rw [mj_den_eq, f48_20]
  exact zt_iload_n rfl rfl (zt_iconst rfl (zt_icmp_ne rfl rfl (zt_ldcs rfl (zt_goto rfl))))
set_option maxRecDepth 100000 in
theorem f48_30 : mj_find (mj_P 48).2.2.2.2 30 = [(.ldc 80, 2, 0, [1, 6, 849])] := rfl
set_option maxRecDepth 100000 in
theorem q48_30 (E : mj_E) (d w c : Nat) (hi : Nat → Nat → Int32) (hl : Nat → Nat → Int64) (v1 : Int32) (v2 : Int32) (v3 : Int32) : mj_den mj_P E d 48 30 [Value.ref 159, Value.int v1, Value.int v2, Value.int v3, Value.float 0, Value.float 0, Value.float 0] [Value.ref 159] (mj_hw w c hi hl) = mj_den mj_P E d 48 32 [Value.ref 159, Value.int v1, Value.int v2, Value.int v3, Value.float 0, Value.float 0, Value.float 0] [Value.retAddr 6, Value.ref 159] (mj_hw w c hi hl) := by
  rw [mj_den_eq, f48_30]
  exact zt_ldcs rfl (zt_end rfl)
set_option maxRecDepth 100000 in
theorem f48_32 : mj_find (mj_P 48).2.2.2.2 32 = [(.putfield 41, 3, 0, [6, 6, 3, 495]), (.aload_n 0, 1, 0, []), (.iload_n 2, 1, 0, []), (.putfield 45, 3, 0, [6, 7, 0, 496]), (.aload_n 0, 1, 0, []), (.iload_n 3, 1, 0, []), (.putfield 48, 3, 0, [6, 8, 0, 497]), (.aload_n 0, 1, 0, []), (.invokevirtual 82, 3, 0, [0, 49, 6, 0, 0, 850, 852, 6, 150, 853])] := rfl
set_option maxRecDepth 100000 in
theorem q48_32 (E : mj_E) (d w c : Nat) (hi : Nat → Nat → Int32) (hl : Nat → Nat → Int64) (v1 : Int32) (v2 : Int32) (v3 : Int32) : mj_den mj_P E d 48 32 [Value.ref 159, Value.int v1, Value.int v2, Value.int v3, Value.float 0, Value.float 0, Value.float 0] [Value.retAddr 3, Value.ref 159] (mj_hw w c hi hl) = mj_bv (mj_dc mj_P E d 49 [Value.ref 159] (mj_hw 3 c (mj_u (mj_u hi 159 7 v2) 159 8 v3) hl)) (fun h1 => mj_den mj_P E d 48 49 [Value.ref 159, Value.int v1, Value.int v2, Value.int v3, Value.float 0, Value.float 0, Value.float 0] [] h1) := by
  rw [mj_den_eq, f48_32]
  exact zt_putw (mjkd159 _ _ _ _) (Nat.le_of_ble_eq_true rfl) (Nat.le_of_ble_eq_true rfl) (mj_hw_words _ _ _ _ _) rfl (zt_aload_n rfl rfl (zt_iload_n rfl rfl (zt_puti (mjkd159 _ _ _ _) rfl rfl (zt_aload_n rfl rfl (zt_iload_n rfl rfl (zt_puti (mjkd159 _ _ _ _) rfl rfl (zt_aload_n rfl rfl (zt_call0_0 rfl (mjkd159 _ _ _ _) (Nat.le_of_ble_eq_true rfl) rfl rfl))))))))
set_option maxRecDepth 100000 in
theorem q48_32_1 (E : mj_E) (d w c : Nat) (hi : Nat → Nat → Int32) (hl : Nat → Nat → Int64) (v1 : Int32) (v2 : Int32) (v3 : Int32) : mj_den mj_P E d 48 32 [Value.ref 159, Value.int v1, Value.int v2, Value.int v3, Value.float 0, Value.float 0, Value.float 0] [Value.retAddr 4, Value.ref 159] (mj_hw w c hi hl) = mj_bv (mj_dc mj_P E d 49 [Value.ref 159] (mj_hw 4 c (mj_u (mj_u hi 159 7 v2) 159 8 v3) hl)) (fun h1 => mj_den mj_P E d 48 49 [Value.ref 159, Value.int v1, Value.int v2, Value.int v3, Value.float 0, Value.float 0, Value.float 0] [] h1) := by
  rw [mj_den_eq, f48_32]
  exact zt_putw (mjkd159 _ _ _ _) (Nat.le_of_ble_eq_true rfl) (Nat.le_of_ble_eq_true rfl) (mj_hw_words _ _ _ _ _) rfl (zt_aload_n rfl rfl (zt_iload_n rfl rfl (zt_puti (mjkd159 _ _ _ _) rfl rfl (zt_aload_n rfl rfl (zt_iload_n rfl rfl (zt_puti (mjkd159 _ _ _ _) rfl rfl (zt_aload_n rfl rfl (zt_call0_0 rfl (mjkd159 _ _ _ _) (Nat.le_of_ble_eq_true rfl) rfl rfl))))))))
set_option maxRecDepth 100000 in
theorem q48_32_2 (E : mj_E) (d w c : Nat) (hi : Nat → Nat → Int32) (hl : Nat → Nat → Int64) (v1 : Int32) (v2 : Int32) (v3 : Int32) : mj_den mj_P E d 48 32 [Value.ref 159, Value.int v1, Value.int v2, Value.int v3, Value.float 0, Value.float 0, Value.float 0] [Value.retAddr 5, Value.ref 159] (mj_hw w c hi hl) = mj_bv (mj_dc mj_P E d 49 [Value.ref 159] (mj_hw 5 c (mj_u (mj_u hi 159 7 v2) 159 8 v3) hl)) (fun h1 => mj_den mj_P E d 48 49 [Value.ref 159, Value.int v1, Value.int v2, Value.int v3, Value.float 0, Value.float 0, Value.float 0] [] h1) := by
  rw [mj_den_eq, f48_32]
  exact zt_putw (mjkd159 _ _ _ _) (Nat.le_of_ble_eq_true rfl) (Nat.le_of_ble_eq_true rfl) (mj_hw_words _ _ _ _ _) rfl (zt_aload_n rfl rfl (zt_iload_n rfl rfl (zt_puti (mjkd159 _ _ _ _) rfl rfl (zt_aload_n rfl rfl (zt_iload_n rfl rfl (zt_puti (mjkd159 _ _ _ _) rfl rfl (zt_aload_n rfl rfl (zt_call0_0 rfl (mjkd159 _ _ _ _) (Nat.le_of_ble_eq_true rfl) rfl rfl))))))))
set_option maxRecDepth 100000 in
theorem q48_32_3 (E : mj_E) (d w c : Nat) (hi : Nat → Nat → Int32) (hl : Nat → Nat → Int64) (v1 : Int32) (v2 : Int32) (v3 : Int32) : mj_den mj_P E d 48 32 [Value.ref 159, Value.int v1, Value.int v2, Value.int v3, Value.float 0, Value.float 0, Value.float 0] [Value.retAddr 6, Value.ref 159] (mj_hw w c hi hl) = mj_bv (mj_dc mj_P E d 49 [Value.ref 159] (mj_hw 6 c (mj_u (mj_u hi 159 7 v2) 159 8 v3) hl)) (fun h1 => mj_den mj_P E d 48 49 [Value.ref 159, Value.int v1, Value.int v2, Value.int v3, Value.float 0, Value.float 0, Value.float 0] [] h1) := by
  rw [mj_den_eq, f48_32]
  exact zt_putw (mjkd159 _ _ _ _) (Nat.le_of_ble_eq_true rfl) (Nat.le_of_ble_eq_true rfl) (mj_hw_words _ _ _ _ _) rfl (zt_aload_n rfl rfl (zt_iload_n rfl rfl (zt_puti (mjkd159 _ _ _ _) rfl rfl (zt_aload_n rfl rfl (zt_iload_n rfl rfl (zt_puti (mjkd159 _ _ _ _) rfl rfl (zt_aload_n rfl rfl (zt_call0_0 rfl (mjkd159 _ _ _ _) (Nat.le_of_ble_eq_true rfl) rfl rfl))))))))
set_option maxRecDepth 100000 in
theorem f48_49 : mj_find (mj_P 48).2.2.2.2 49 = [(.aload_n 0, 1, 0, []), (.getfield 24, 3, 0, [6, 3, 3, 490]), (.iconst 0, 1, 0, []), (.putfield 85, 3, 0, [2, 0, 0, 282]), (.aload_n 0, 1, 0, []), (.getfield 24, 3, 0, [6, 3, 3, 490]), (.iconst 0, 1, 0, []), (.putfield 87, 3, 0, [2, 1, 0, 285]), (.aload_n 0, 1, 0, []), (.getfield 31, 3, 0, [6, 4, 3, 492]), (.iconst 0, 1, 0, []), (.putfield 88, 3, 0, [3, 0, 0, 326]), (.aload_n 0, 1, 0, []), (.iconst (-1), 1, (-1), []), (.putfield 54, 3, 0, [6, 10, 0, 499]), (.aload_n 0, 1, 0, []), (.invokevirtual 91, 3, 0, [0, 55, 6, 0, 0, 976, 978, 10, 150, 979])] := rfl
set_option maxRecDepth 100000 in
theorem q48_49 (E : mj_E) (d w c : Nat) (hi : Nat → Nat → Int32) (hl : Nat → Nat → Int64) (v1 : Int32) (v2 : Int32) (v3 : Int32) : mj_den mj_P E d 48 49 [Value.ref 159, Value.int v1, Value.int v2, Value.int v3, Value.float 0, Value.float 0, Value.float 0] [] (mj_hw w c hi hl) = mj_bv (mj_dc mj_P E d 55 [Value.ref 159] (mj_hw w c (mj_u (mj_u (mj_u (mj_u hi 160 0 (0 : Int32)) 160 1 (0 : Int32)) 169 0 (0 : Int32)) 159 10 (-1 : Int32)) hl)) (fun h1 => mj_den mj_P E d 48 82 [Value.ref 159, Value.int v1, Value.int v2, Value.int v3, Value.float 0, Value.float 0, Value.float 0] [] h1) := by
  rw [mj_den_eq, f48_49]
  exact zt_aload_n rfl rfl (zt_getr (mjkd159 _ _ _ _) (mjhr159_3 w c) rfl (zt_iconst rfl (zt_puti (mjkd160 _ _ _ _) rfl rfl (zt_aload_n rfl rfl (zt_getr (mjkd159 _ _ _ _) (mjhr159_3 w c) rfl (zt_iconst rfl (zt_puti (mjkd160 _ _ _ _) rfl rfl (zt_aload_n rfl rfl (zt_getr (mjkd159 _ _ _ _) (mjhr159_4 w c) rfl (zt_iconst rfl (zt_puti (mjkd169 _ _ _ _) rfl rfl (zt_aload_n rfl rfl (zt_iconst rfl (zt_puti (mjkd159 _ _ _ _) rfl rfl (zt_aload_n rfl rfl (zt_call0_0 rfl (mjkd159 _ _ _ _) (Nat.le_of_ble_eq_true rfl) rfl rfl))))))))))))))))
set_option maxRecDepth 100000 in
theorem f48_82 : mj_find (mj_P 48).2.2.2.2 82 = [(.iload_n 1, 1, 0, []), (.ifCond .ne 7, 3, 0, [90]), (.iconst 2, 1, 2, []), (.goto 13, 3, 0, [100])] := rfl
set_option maxRecDepth 100000 in
theorem q48_82 (E : mj_E) (d w c : Nat) (hi : Nat → Nat → Int32) (hl : Nat → Nat → Int64) (v1 : Int32) (v2 : Int32) (v3 : Int32) : mj_den mj_P E d 48 82 [Value.ref 159, Value.int v1, Value.int v2, Value.int v3, Value.float 0, Value.float 0, Value.float 0] [] (mj_hw w c hi hl) = if ¬ v1 = 0 then mj_den mj_P E d 48 90 [Value.ref 159, Value.int v1, Value.int v2, Value.int v3, Value.float 0, Value.float 0, Value.float 0] [] (mj_hw w c hi hl) else mj_den mj_P E d 48 100 [Value.ref 159, Value.int v1, Value.int v2, Value.int v3, Value.float 0, Value.float 0, Value.float 0] [Value.int (2 : Int32)] (mj_hw w c hi hl) := by
  rw [mj_den_eq, f48_82]
  exact zt_iload_n rfl rfl (zt_if_ne rfl rfl (zt_iconst rfl (zt_goto rfl)))
set_option maxRecDepth 100000 in
theorem f48_90 : mj_find (mj_P 48).2.2.2.2 90 = [(.iload_n 1, 1, 0, []), (.iconst 3, 1, 3, []), (.if_icmp .ne 7, 3, 0, [99]), (.iconst 2, 1, 2, []), (.goto 4, 3, 0, [100])] := rfl
set_option maxRecDepth 100000 in
theorem q48_90 (E : mj_E) (d w c : Nat) (hi : Nat → Nat → Int32) (hl : Nat → Nat → Int64) (v1 : Int32) (v2 : Int32) (v3 : Int32) : mj_den mj_P E d 48 90 [Value.ref 159, Value.int v1, Value.int v2, Value.int v3, Value.float 0, Value.float 0, Value.float 0] [] (mj_hw w c hi hl) = if ¬ v1 = (3 : Int32) then mj_den mj_P E d 48 99 [Value.ref 159, Value.int v1, Value.int v2, Value.int v3, Value.float 0, Value.float 0, Value.float 0] [] (mj_hw w c hi hl) else mj_den mj_P E d 48 100 [Value.ref 159, Value.int v1, Value.int v2, Value.int v3, Value.float 0, Value.float 0, Value.float 0] [Value.int (2 : Int32)] (mj_hw w c hi hl) := by
  rw [mj_den_eq, f48_90]
  exact zt_iload_n rfl rfl (zt_iconst rfl (zt_icmp_ne rfl rfl (zt_iconst rfl (zt_goto rfl))))
set_option maxRecDepth 100000 in
theorem f48_99 : mj_find (mj_P 48).2.2.2.2 99 = [(.iconst 0, 1, 0, [])] := rfl
set_option maxRecDepth 100000 in
theorem q48_99 (E : mj_E) (d w c : Nat) (hi : Nat → Nat → Int32) (hl : Nat → Nat → Int64) (v1 : Int32) (v2 : Int32) (v3 : Int32) : mj_den mj_P E d 48 99 [Value.ref 159, Value.int v1, Value.int v2, Value.int v3, Value.float 0, Value.float 0, Value.float 0] [] (mj_hw w c hi hl) = mj_den mj_P E d 48 100 [Value.ref 159, Value.int v1, Value.int v2, Value.int v3, Value.float 0, Value.float 0, Value.float 0] [Value.int (0 : Int32)] (mj_hw w c hi hl) := by
  rw [mj_den_eq, f48_99]
  exact zt_iconst rfl (zt_end rfl)
set_option maxRecDepth 100000 in
theorem f48_100 : mj_find (mj_P 48).2.2.2.2 100 = [(.istore 4, 2, 0, []), (.iconst 0, 1, 0, []), (.istore 5, 2, 0, [])] := rfl
set_option maxRecDepth 100000 in
theorem q48_100 (E : mj_E) (d w c : Nat) (hi : Nat → Nat → Int32) (hl : Nat → Nat → Int64) (v1 : Int32) (v2 : Int32) (v3 : Int32) (s0 : Int32) : mj_den mj_P E d 48 100 [Value.ref 159, Value.int v1, Value.int v2, Value.int v3, Value.float 0, Value.float 0, Value.float 0] [Value.int s0] (mj_hw w c hi hl) = mj_den mj_P E d 48 105 [Value.ref 159, Value.int v1, Value.int v2, Value.int v3, Value.int s0, Value.int (0 : Int32), Value.float 0] [] (mj_hw w c hi hl) := by
  rw [mj_den_eq, f48_100]
  exact zt_istore (Nat.le_of_ble_eq_true rfl) rfl rfl (zt_iconst rfl (zt_istore (Nat.le_of_ble_eq_true rfl) rfl rfl (zt_end rfl)))
set_option maxRecDepth 100000 in
theorem f48_105 : mj_find (mj_P 48).2.2.2.2 105 = [(.iload 5, 2, 0, []), (.bipush 16, 2, 16, []), (.if_icmp .gt 111, 3, 0, [220]), (.aload_n 0, 1, 0, []), (.getfield 57, 3, 0, [6, 11, 0, 500]), (.ifCond .eq 104, 3, 0, [220]), (.aload_n 0, 1, 0, []), (.getfield 57, 3, 0, [6, 11, 0, 500]), (.iconst 2, 1, 2, []), (.if_icmp .ne 12, 3, 0, [136]), (.aload_n 0, 1, 0, []), (.getfield 60, 3, 0, [6, 12, 0, 501]), (.iload 4, 2, 0, []), (.if_icmp .le 9, 3, 0, [142])] := rfl
set_option maxRecDepth 100000 in
theorem q48_105 (E : mj_E) (d w c : Nat) (hi : Nat → Nat → Int32) (hl : Nat → Nat → Int64) (v1 : Int32) (v2 : Int32) (v3 : Int32) (v4 : Int32) (v5 : Int32) : mj_den mj_P E d 48 105 [Value.ref 159, Value.int v1, Value.int v2, Value.int v3, Value.int v4, Value.int v5, Value.float 0] [] (mj_hw w c hi hl) = if (16 : Int32) < v5 then mj_den mj_P E d 48 220 [Value.ref 159, Value.int v1, Value.int v2, Value.int v3, Value.int v4, Value.int v5, Value.float 0] [] (mj_hw w c hi hl) else if (hi 159 11) = 0 then mj_den mj_P E d 48 220 [Value.ref 159, Value.int v1, Value.int v2, Value.int v3, Value.int v4, Value.int v5, Value.float 0] [] (mj_hw w c hi hl) else if ¬ (hi 159 11) = (2 : Int32) then mj_den mj_P E d 48 136 [Value.ref 159, Value.int v1, Value.int v2, Value.int v3, Value.int v4, Value.int v5, Value.float 0] [] (mj_hw w c hi hl) else if (hi 159 12) ≤ v4 then mj_den mj_P E d 48 142 [Value.ref 159, Value.int v1, Value.int v2, Value.int v3, Value.int v4, Value.int v5, Value.float 0] [] (mj_hw w c hi hl) else mj_den mj_P E d 48 136 [Value.ref 159, Value.int v1, Value.int v2, Value.int v3, Value.int v4, Value.int v5, Value.float 0] [] (mj_hw w c hi hl) := by
  rw [mj_den_eq, f48_105]
  exact zt_iload rfl rfl (zt_bipush rfl (zt_icmp_gt rfl rfl (zt_aload_n rfl rfl (zt_geti (mjkd159 _ _ _ _) rfl rfl (zt_if_eq rfl rfl (zt_aload_n rfl rfl (zt_geti (mjkd159 _ _ _ _) rfl rfl (zt_iconst rfl (zt_icmp_ne rfl rfl (zt_aload_n rfl rfl (zt_geti (mjkd159 _ _ _ _) rfl rfl (zt_iload rfl rfl (zt_icmp_le rfl rfl (zt_end rfl))))))))))))))
set_option maxRecDepth 100000 in
theorem q48_105_1 (E : mj_E) (d w c : Nat) (hi : Nat → Nat → Int32) (hl : Nat → Nat → Int64) (v1 : Int32) (v2 : Int32) (v3 : Int32) (v4 : Int32) (v5 : Int32) (v6 : Int32) : mj_den mj_P E d 48 105 [Value.ref 159, Value.int v1, Value.int v2, Value.int v3, Value.int v4, Value.int v5, Value.int v6] [] (mj_hw w c hi hl) = if (16 : Int32) < v5 then mj_den mj_P E d 48 220 [Value.ref 159, Value.int v1, Value.int v2, Value.int v3, Value.int v4, Value.int v5, Value.int v6] [] (mj_hw w c hi hl) else if (hi 159 11) = 0 then mj_den mj_P E d 48 220 [Value.ref 159, Value.int v1, Value.int v2, Value.int v3, Value.int v4, Value.int v5, Value.int v6] [] (mj_hw w c hi hl) else if ¬ (hi 159 11) = (2 : Int32) then mj_den mj_P E d 48 136 [Value.ref 159, Value.int v1, Value.int v2, Value.int v3, Value.int v4, Value.int v5, Value.int v6] [] (mj_hw w c hi hl) else if (hi 159 12) ≤ v4 then mj_den mj_P E d 48 142 [Value.ref 159, Value.int v1, Value.int v2, Value.int v3, Value.int v4, Value.int v5, Value.int v6] [] (mj_hw w c hi hl) else mj_den mj_P E d 48 136 [Value.ref 159, Value.int v1, Value.int v2, Value.int v3, Value.int v4, Value.int v5, Value.int v6] [] (mj_hw w c hi hl) := by
  rw [mj_den_eq, f48_105]
  exact zt_iload rfl rfl (zt_bipush rfl (zt_icmp_gt rfl rfl (zt_aload_n rfl rfl (zt_geti (mjkd159 _ _ _ _) rfl rfl (zt_if_eq rfl rfl (zt_aload_n rfl rfl (zt_geti (mjkd159 _ _ _ _) rfl rfl (zt_iconst rfl (zt_icmp_ne rfl rfl (zt_aload_n rfl rfl (zt_geti (mjkd159 _ _ _ _) rfl rfl (zt_iload rfl rfl (zt_icmp_le rfl rfl (zt_end rfl))))))))))))))
set_option maxRecDepth 100000 in
theorem f48_136 : mj_find (mj_P 48).2.2.2.2 136 = [(.aload_n 0, 1, 0, []), (.iconst 1, 1, 1, []), (.invokevirtual 94, 3, 0, [0, 58, 6, 1, 1, 980, 982, 11, 150, 983])] := rfl
set_option maxRecDepth 100000 in
theorem q48_136 (E : mj_E) (d w c : Nat) (hi : Nat → Nat → Int32) (hl : Nat → Nat → Int64) (v1 : Int32) (v2 : Int32) (v3 : Int32) (v4 : Int32) (v5 : Int32) : mj_den mj_P E d 48 136 [Value.ref 159, Value.int v1, Value.int v2, Value.int v3, Value.int v4, Value.int v5, Value.float 0] [] (mj_hw w c hi hl) = mj_bi (mj_dc mj_P E d 58 [Value.ref 159, Value.int (1 : Int32)] (mj_hw w c hi hl)) (fun x1 h1 => mj_den mj_P E d 48 141 [Value.ref 159, Value.int v1, Value.int v2, Value.int v3, Value.int v4, Value.int v5, Value.float 0] [Value.int x1] h1) := by
  rw [mj_den_eq, f48_136]
  exact zt_aload_n rfl rfl (zt_iconst rfl (zt_call0_1 rfl (mjkd159 _ _ _ _) (Nat.le_of_ble_eq_true rfl) rfl rfl))
set_option maxRecDepth 100000 in
theorem q48_136_1 (E : mj_E) (d w c : Nat) (hi : Nat → Nat → Int32) (hl : Nat → Nat → Int64) (v1 : Int32) (v2 : Int32) (v3 : Int32) (v4 : Int32) (v5 : Int32) (v6 : Int32) : mj_den mj_P E d 48 136 [Value.ref 159, Value.int v1, Value.int v2, Value.int v3, Value.int v4, Value.int v5, Value.int v6] [] (mj_hw w c hi hl) = mj_bi (mj_dc mj_P E d 58 [Value.ref 159, Value.int (1 : Int32)] (mj_hw w c hi hl)) (fun x1 h1 => mj_den mj_P E d 48 141 [Value.ref 159, Value.int v1, Value.int v2, Value.int v3, Value.int v4, Value.int v5, Value.int v6] [Value.int x1] h1) := by
  rw [mj_den_eq, f48_136]
  exact zt_aload_n rfl rfl (zt_iconst rfl (zt_call0_1 rfl (mjkd159 _ _ _ _) (Nat.le_of_ble_eq_true rfl) rfl rfl))
set_option maxRecDepth 100000 in
theorem f48_141 : mj_find (mj_P 48).2.2.2.2 141 = [(.ireturn, 1, 0, [1])] := rfl
set_option maxRecDepth 100000 in
theorem q48_141 (E : mj_E) (d w c : Nat) (hi : Nat → Nat → Int32) (hl : Nat → Nat → Int64) (v1 : Int32) (v2 : Int32) (v3 : Int32) (v4 : Int32) (v5 : Int32) (s0 : Int32) : mj_den mj_P E d 48 141 [Value.ref 159, Value.int v1, Value.int v2, Value.int v3, Value.int v4, Value.int v5, Value.float 0] [Value.int s0] (mj_hw w c hi hl) = if s0 = 0 ∨ s0 = 1 then some (some (Value.int s0), (mj_hw w c hi hl)) else none := by
  rw [mj_den_eq, f48_141]
  exact zt_ireturn1
set_option maxRecDepth 100000 in
theorem q48_141_1 (E : mj_E) (d w c : Nat) (hi : Nat → Nat → Int32) (hl : Nat → Nat → Int64) (v1 : Int32) (v2 : Int32) (v3 : Int32) (v4 : Int32) (v5 : Int32) (v6 : Int32) (s0 : Int32) : mj_den mj_P E d 48 141 [Value.ref 159, Value.int v1, Value.int v2, Value.int v3, Value.int v4, Value.int v5, Value.int v6] [Value.int s0] (mj_hw w c hi hl) = if s0 = 0 ∨ s0 = 1 then some (some (Value.int s0), (mj_hw w c hi hl)) else none := by
  rw [mj_den_eq, f48_141]
  exact zt_ireturn1
set_option maxRecDepth 100000 in
theorem f48_142 : mj_find (mj_P 48).2.2.2.2 142 = [(.iload 5, 2, 0, []), (.bipush 16, 2, 16, []), (.if_icmp .ne 9, 3, 0, [155]), (.aload_n 0, 1, 0, []), (.iconst 3, 1, 3, []), (.invokevirtual 94, 3, 0, [0, 58, 6, 1, 1, 980, 982, 11, 150, 983])] := rfl
set_option maxRecDepth 100000 in
theorem q48_142 (E : mj_E) (d w c : Nat) (hi : Nat → Nat → Int32) (hl : Nat → Nat → Int64) (v1 : Int32) (v2 : Int32) (v3 : Int32) (v4 : Int32) (v5 : Int32) : mj_den mj_P E d 48 142 [Value.ref 159, Value.int v1, Value.int v2, Value.int v3, Value.int v4, Value.int v5, Value.float 0] [] (mj_hw w c hi hl) = if ¬ v5 = (16 : Int32) then mj_den mj_P E d 48 155 [Value.ref 159, Value.int v1, Value.int v2, Value.int v3, Value.int v4, Value.int v5, Value.float 0] [] (mj_hw w c hi hl) else mj_bi (mj_dc mj_P E d 58 [Value.ref 159, Value.int (3 : Int32)] (mj_hw w c hi hl)) (fun x1 h1 => mj_den mj_P E d 48 154 [Value.ref 159, Value.int v1, Value.int v2, Value.int v3, Value.int v4, Value.int v5, Value.float 0] [Value.int x1] h1) := by
  rw [mj_den_eq, f48_142]
  exact zt_iload rfl rfl (zt_bipush rfl (zt_icmp_ne rfl rfl (zt_aload_n rfl rfl (zt_iconst rfl (zt_call0_1 rfl (mjkd159 _ _ _ _) (Nat.le_of_ble_eq_true rfl) rfl rfl)))))
set_option maxRecDepth 100000 in
theorem q48_142_1 (E : mj_E) (d w c : Nat) (hi : Nat → Nat → Int32) (hl : Nat → Nat → Int64) (v1 : Int32) (v2 : Int32) (v3 : Int32) (v4 : Int32) (v5 : Int32) (v6 : Int32) : mj_den mj_P E d 48 142 [Value.ref 159, Value.int v1, Value.int v2, Value.int v3, Value.int v4, Value.int v5, Value.int v6] [] (mj_hw w c hi hl) = if ¬ v5 = (16 : Int32) then mj_den mj_P E d 48 155 [Value.ref 159, Value.int v1, Value.int v2, Value.int v3, Value.int v4, Value.int v5, Value.int v6] [] (mj_hw w c hi hl) else mj_bi (mj_dc mj_P E d 58 [Value.ref 159, Value.int (3 : Int32)] (mj_hw w c hi hl)) (fun x1 h1 => mj_den mj_P E d 48 154 [Value.ref 159, Value.int v1, Value.int v2, Value.int v3, Value.int v4, Value.int v5, Value.int v6] [Value.int x1] h1) := by
  rw [mj_den_eq, f48_142]
  exact zt_iload rfl rfl (zt_bipush rfl (zt_icmp_ne rfl rfl (zt_aload_n rfl rfl (zt_iconst rfl (zt_call0_1 rfl (mjkd159 _ _ _ _) (Nat.le_of_ble_eq_true rfl) rfl rfl)))))
set_option maxRecDepth 100000 in
theorem f48_154 : mj_find (mj_P 48).2.2.2.2 154 = [(.ireturn, 1, 0, [1])] := rfl
set_option maxRecDepth 100000 in
theorem q48_154 (E : mj_E) (d w c : Nat) (hi : Nat → Nat → Int32) (hl : Nat → Nat → Int64) (v1 : Int32) (v2 : Int32) (v3 : Int32) (v4 : Int32) (v5 : Int32) (s0 : Int32) : mj_den mj_P E d 48 154 [Value.ref 159, Value.int v1, Value.int v2, Value.int v3, Value.int v4, Value.int v5, Value.float 0] [Value.int s0] (mj_hw w c hi hl) = if s0 = 0 ∨ s0 = 1 then some (some (Value.int s0), (mj_hw w c hi hl)) else none := by
  rw [mj_den_eq, f48_154]
  exact zt_ireturn1
set_option maxRecDepth 100000 in
theorem q48_154_1 (E : mj_E) (d w c : Nat) (hi : Nat → Nat → Int32) (hl : Nat → Nat → Int64) (v1 : Int32) (v2 : Int32) (v3 : Int32) (v4 : Int32) (v5 : Int32) (v6 : Int32) (s0 : Int32) : mj_den mj_P E d 48 154 [Value.ref 159, Value.int v1, Value.int v2, Value.int v3, Value.int v4, Value.int v5, Value.int v6] [Value.int s0] (mj_hw w c hi hl) = if s0 = 0 ∨ s0 = 1 then some (some (Value.int s0), (mj_hw w c hi hl)) else none := by
  rw [mj_den_eq, f48_154]
  exact zt_ireturn1
set_option maxRecDepth 100000 in
theorem f48_155 : mj_find (mj_P 48).2.2.2.2 155 = [(.iload_n 1, 1, 0, []), (.ifCond .ne 12, 3, 0, [168]), (.aload_n 0, 1, 0, []), (.iload 5, 2, 0, []), (.invokevirtual 98, 3, 0, [0, 61, 6, 1, 1, 984, 986, 12, 150, 987])] := rfl
set_option maxRecDepth 100000 in
theorem q48_155 (E : mj_E) (d w c : Nat) (hi : Nat → Nat → Int32) (hl : Nat → Nat → Int64) (v1 : Int32) (v2 : Int32) (v3 : Int32) (v4 : Int32) (v5 : Int32) : mj_den mj_P E d 48 155 [Value.ref 159, Value.int v1, Value.int v2, Value.int v3, Value.int v4, Value.int v5, Value.float 0] [] (mj_hw w c hi hl) = if ¬ v1 = 0 then mj_den mj_P E d 48 168 [Value.ref 159, Value.int v1, Value.int v2, Value.int v3, Value.int v4, Value.int v5, Value.float 0] [] (mj_hw w c hi hl) else mj_bi (mj_dc mj_P E d 61 [Value.ref 159, Value.int v5] (mj_hw w c hi hl)) (fun x1 h1 => mj_den mj_P E d 48 165 [Value.ref 159, Value.int v1, Value.int v2, Value.int v3, Value.int v4, Value.int v5, Value.float 0] [Value.int x1] h1) := by
  rw [mj_den_eq, f48_155]
  exact zt_iload_n rfl rfl (zt_if_ne rfl rfl (zt_aload_n rfl rfl (zt_iload rfl rfl (zt_call0_1 rfl (mjkd159 _ _ _ _) (Nat.le_of_ble_eq_true rfl) rfl rfl))))
set_option maxRecDepth 100000 in
theorem q48_155_1 (E : mj_E) (d w c : Nat) (hi : Nat → Nat → Int32) (hl : Nat → Nat → Int64) (v1 : Int32) (v2 : Int32) (v3 : Int32) (v4 : Int32) (v5 : Int32) (v6 : Int32) : mj_den mj_P E d 48 155 [Value.ref 159, Value.int v1, Value.int v2, Value.int v3, Value.int v4, Value.int v5, Value.int v6] [] (mj_hw w c hi hl) = if ¬ v1 = 0 then mj_den mj_P E d 48 168 [Value.ref 159, Value.int v1, Value.int v2, Value.int v3, Value.int v4, Value.int v5, Value.int v6] [] (mj_hw w c hi hl) else mj_bi (mj_dc mj_P E d 61 [Value.ref 159, Value.int v5] (mj_hw w c hi hl)) (fun x1 h1 => mj_den mj_P E d 48 165 [Value.ref 159, Value.int v1, Value.int v2, Value.int v3, Value.int v4, Value.int v5, Value.int v6] [Value.int x1] h1) := by
  rw [mj_den_eq, f48_155]
  exact zt_iload_n rfl rfl (zt_if_ne rfl rfl (zt_aload_n rfl rfl (zt_iload rfl rfl (zt_call0_1 rfl (mjkd159 _ _ _ _) (Nat.le_of_ble_eq_true rfl) rfl rfl))))
set_option maxRecDepth 100000 in
theorem f48_165 : mj_find (mj_P 48).2.2.2.2 165 = [(.goto 31, 3, 0, [196])] := rfl
set_option maxRecDepth 100000 in
theorem q48_165 (E : mj_E) (d w c : Nat) (hi : Nat → Nat → Int32) (hl : Nat → Nat → Int64) (v1 : Int32) (v2 : Int32) (v3 : Int32) (v4 : Int32) (v5 : Int32) (s0 : Int32) : mj_den mj_P E d 48 165 [Value.ref 159, Value.int v1, Value.int v2, Value.int v3, Value.int v4, Value.int v5, Value.float 0] [Value.int s0] (mj_hw w c hi hl) = mj_den mj_P E d 48 196 [Value.ref 159, Value.int v1, Value.int v2, Value.int v3, Value.int v4, Value.int v5, Value.float 0] [Value.int s0] (mj_hw w c hi hl) := by
  rw [mj_den_eq, f48_165]
  exact zt_goto rfl
set_option maxRecDepth 100000 in
theorem q48_165_1 (E : mj_E) (d w c : Nat) (hi : Nat → Nat → Int32) (hl : Nat → Nat → Int64) (v1 : Int32) (v2 : Int32) (v3 : Int32) (v4 : Int32) (v5 : Int32) (v6 : Int32) (s0 : Int32) : mj_den mj_P E d 48 165 [Value.ref 159, Value.int v1, Value.int v2, Value.int v3, Value.int v4, Value.int v5, Value.int v6] [Value.int s0] (mj_hw w c hi hl) = mj_den mj_P E d 48 196 [Value.ref 159, Value.int v1, Value.int v2, Value.int v3, Value.int v4, Value.int v5, Value.int v6] [Value.int s0] (mj_hw w c hi hl) := by
  rw [mj_den_eq, f48_165]
  exact zt_goto rfl
set_option maxRecDepth 100000 in
theorem f48_168 : mj_find (mj_P 48).2.2.2.2 168 = [(.iload_n 1, 1, 0, []), (.iconst 1, 1, 1, []), (.if_icmp .ne 10, 3, 0, [180]), (.aload_n 0, 1, 0, []), (.invokevirtual 101, 3, 0, [0, 66, 6, 0, 1, 1020, 1022, 20, 150, 1023])] := rfl
set_option maxRecDepth 100000 in
theorem q48_168 (E : mj_E) (d w c : Nat) (hi : Nat → Nat → Int32) (hl : Nat → Nat → Int64) (v1 : Int32) (v2 : Int32) (v3 : Int32) (v4 : Int32) (v5 : Int32) (v6 : Int32) : mj_den mj_P E d 48 168 [Value.ref 159, Value.int v1, Value.int v2, Value.int v3, Value.int v4, Value.int v5, Value.int v6] [] (mj_hw w c hi hl) = if ¬ v1 = (1 : Int32) then mj_den mj_P E d 48 180 [Value.ref 159, Value.int v1, Value.int v2, Value.int v3, Value.int v4, Value.int v5, Value.int v6] [] (mj_hw w c hi hl) else mj_bi (mj_dc mj_P E d 66 [Value.ref 159] (mj_hw w c hi hl)) (fun x1 h1 => mj_den mj_P E d 48 177 [Value.ref 159, Value.int v1, Value.int v2, Value.int v3, Value.int v4, Value.int v5, Value.int v6] [Value.int x1] h1) := by
  rw [mj_den_eq, f48_168]
  exact zt_iload_n rfl rfl (zt_iconst rfl (zt_icmp_ne rfl rfl (zt_aload_n rfl rfl (zt_call0_1 rfl (mjkd159 _ _ _ _) (Nat.le_of_ble_eq_true rfl) rfl rfl))))
set_option maxRecDepth 100000 in
theorem q48_168_1 (E : mj_E) (d w c : Nat) (hi : Nat → Nat → Int32) (hl : Nat → Nat → Int64) (v1 : Int32) (v2 : Int32) (v3 : Int32) (v4 : Int32) (v5 : Int32) : mj_den mj_P E d 48 168 [Value.ref 159, Value.int v1, Value.int v2, Value.int v3, Value.int v4, Value.int v5, Value.float 0] [] (mj_hw w c hi hl) = if ¬ v1 = (1 : Int32) then mj_den mj_P E d 48 180 [Value.ref 159, Value.int v1, Value.int v2, Value.int v3, Value.int v4, Value.int v5, Value.float 0] [] (mj_hw w c hi hl) else mj_bi (mj_dc mj_P E d 66 [Value.ref 159] (mj_hw w c hi hl)) (fun x1 h1 => mj_den mj_P E d 48 177 [Value.ref 159, Value.int v1, Value.int v2, Value.int v3, Value.int v4, Value.int v5, Value.float 0] [Value.int x1] h1) := by
  rw [mj_den_eq, f48_168]
  exact zt_iload_n rfl rfl (zt_iconst rfl (zt_icmp_ne rfl rfl (zt_aload_n rfl rfl (zt_call0_1 rfl (mjkd159 _ _ _ _) (Nat.le_of_ble_eq_true rfl) rfl rfl))))
set_option maxRecDepth 100000 in
theorem f48_177 : mj_find (mj_P 48).2.2.2.2 177 = [(.goto 19, 3, 0, [196])] := rfl
set_option maxRecDepth 100000 in
theorem q48_177 (E : mj_E) (d w c : Nat) (hi : Nat → Nat → Int32) (hl : Nat → Nat → Int64) (v1 : Int32) (v2 : Int32) (v3 : Int32) (v4 : Int32) (v5 : Int32) (v6 : Int32) (s0 : Int32) : mj_den mj_P E d 48 177 [Value.ref 159, Value.int v1, Value.int v2, Value.int v3, Value.int v4, Value.int v5, Value.int v6] [Value.int s0] (mj_hw w c hi hl) = mj_den mj_P E d 48 196 [Value.ref 159, Value.int v1, Value.int v2, Value.int v3, Value.int v4, Value.int v5, Value.int v6] [Value.int s0] (mj_hw w c hi hl) := by
  rw [mj_den_eq, f48_177]
  exact zt_goto rfl
set_option maxRecDepth 100000 in
theorem q48_177_1 (E : mj_E) (d w c : Nat) (hi : Nat → Nat → Int32) (hl : Nat → Nat → Int64) (v1 : Int32) (v2 : Int32) (v3 : Int32) (v4 : Int32) (v5 : Int32) (s0 : Int32) : mj_den mj_P E d 48 177 [Value.ref 159, Value.int v1, Value.int v2, Value.int v3, Value.int v4, Value.int v5, Value.float 0] [Value.int s0] (mj_hw w c hi hl) = mj_den mj_P E d 48 196 [Value.ref 159, Value.int v1, Value.int v2, Value.int v3, Value.int v4, Value.int v5, Value.float 0] [Value.int s0] (mj_hw w c hi hl) := by
  rw [mj_den_eq, f48_177]
  exact zt_goto rfl
set_option maxRecDepth 100000 in
theorem f48_180 : mj_find (mj_P 48).2.2.2.2 180 = [(.iload_n 1, 1, 0, []), (.iconst 2, 1, 2, []), (.if_icmp .ne 10, 3, 0, [192]), (.aload_n 0, 1, 0, []), (.invokevirtual 105, 3, 0, [0, 67, 6, 0, 1, 1032, 1034, 22, 150, 1035])] := rfl
set_option maxRecDepth 100000 in
theorem q48_180 (E : mj_E) (d w c : Nat) (hi : Nat → Nat → Int32) (hl : Nat → Nat → Int64) (v1 : Int32) (v2 : Int32) (v3 : Int32) (v4 : Int32) (v5 : Int32) (v6 : Int32) : mj_den mj_P E d 48 180 [Value.ref 159, Value.int v1, Value.int v2, Value.int v3, Value.int v4, Value.int v5, Value.int v6] [] (mj_hw w c hi hl) = if ¬ v1 = (2 : Int32) then mj_den mj_P E d 48 192 [Value.ref 159, Value.int v1, Value.int v2, Value.int v3, Value.int v4, Value.int v5, Value.int v6] [] (mj_hw w c hi hl) else mj_bi (mj_dc mj_P E d 67 [Value.ref 159] (mj_hw w c hi hl)) (fun x1 h1 => mj_den mj_P E d 48 189 [Value.ref 159, Value.int v1, Value.int v2, Value.int v3, Value.int v4, Value.int v5, Value.int v6] [Value.int x1] h1) := by
  rw [mj_den_eq, f48_180]
  exact zt_iload_n rfl rfl (zt_iconst rfl (zt_icmp_ne rfl rfl (zt_aload_n rfl rfl (zt_call0_1 rfl (mjkd159 _ _ _ _) (Nat.le_of_ble_eq_true rfl) rfl rfl))))
set_option maxRecDepth 100000 in
theorem q48_180_1 (E : mj_E) (d w c : Nat) (hi : Nat → Nat → Int32) (hl : Nat → Nat → Int64) (v1 : Int32) (v2 : Int32) (v3 : Int32) (v4 : Int32) (v5 : Int32) : mj_den mj_P E d 48 180 [Value.ref 159, Value.int v1, Value.int v2, Value.int v3, Value.int v4, Value.int v5, Value.float 0] [] (mj_hw w c hi hl) = if ¬ v1 = (2 : Int32) then mj_den mj_P E d 48 192 [Value.ref 159, Value.int v1, Value.int v2, Value.int v3, Value.int v4, Value.int v5, Value.float 0] [] (mj_hw w c hi hl) else mj_bi (mj_dc mj_P E d 67 [Value.ref 159] (mj_hw w c hi hl)) (fun x1 h1 => mj_den mj_P E d 48 189 [Value.ref 159, Value.int v1, Value.int v2, Value.int v3, Value.int v4, Value.int v5, Value.float 0] [Value.int x1] h1) := by
  rw [mj_den_eq, f48_180]
  exact zt_iload_n rfl rfl (zt_iconst rfl (zt_icmp_ne rfl rfl (zt_aload_n rfl rfl (zt_call0_1 rfl (mjkd159 _ _ _ _) (Nat.le_of_ble_eq_true rfl) rfl rfl))))
set_option maxRecDepth 100000 in
theorem f48_189 : mj_find (mj_P 48).2.2.2.2 189 = [(.goto 7, 3, 0, [196])] := rfl
set_option maxRecDepth 100000 in
theorem q48_189 (E : mj_E) (d w c : Nat) (hi : Nat → Nat → Int32) (hl : Nat → Nat → Int64) (v1 : Int32) (v2 : Int32) (v3 : Int32) (v4 : Int32) (v5 : Int32) (v6 : Int32) (s0 : Int32) : mj_den mj_P E d 48 189 [Value.ref 159, Value.int v1, Value.int v2, Value.int v3, Value.int v4, Value.int v5, Value.int v6] [Value.int s0] (mj_hw w c hi hl) = mj_den mj_P E d 48 196 [Value.ref 159, Value.int v1, Value.int v2, Value.int v3, Value.int v4, Value.int v5, Value.int v6] [Value.int s0] (mj_hw w c hi hl) := by
  rw [mj_den_eq, f48_189]
  exact zt_goto rfl
set_option maxRecDepth 100000 in
theorem q48_189_1 (E : mj_E) (d w c : Nat) (hi : Nat → Nat → Int32) (hl : Nat → Nat → Int64) (v1 : Int32) (v2 : Int32) (v3 : Int32) (v4 : Int32) (v5 : Int32) (s0 : Int32) : mj_den mj_P E d 48 189 [Value.ref 159, Value.int v1, Value.int v2, Value.int v3, Value.int v4, Value.int v5, Value.float 0] [Value.int s0] (mj_hw w c hi hl) = mj_den mj_P E d 48 196 [Value.ref 159, Value.int v1, Value.int v2, Value.int v3, Value.int v4, Value.int v5, Value.float 0] [Value.int s0] (mj_hw w c hi hl) := by
  rw [mj_den_eq, f48_189]
  exact zt_goto rfl
set_option maxRecDepth 100000 in
theorem f48_192 : mj_find (mj_P 48).2.2.2.2 192 = [(.aload_n 0, 1, 0, []), (.invokevirtual 108, 3, 0, [0, 68, 6, 0, 1, 1036, 1038, 23, 150, 1039])] := rfl
set_option maxRecDepth 100000 in
theorem q48_192 (E : mj_E) (d w c : Nat) (hi : Nat → Nat → Int32) (hl : Nat → Nat → Int64) (v1 : Int32) (v2 : Int32) (v3 : Int32) (v4 : Int32) (v5 : Int32) (v6 : Int32) : mj_den mj_P E d 48 192 [Value.ref 159, Value.int v1, Value.int v2, Value.int v3, Value.int v4, Value.int v5, Value.int v6] [] (mj_hw w c hi hl) = mj_bi (mj_dc mj_P E d 68 [Value.ref 159] (mj_hw w c hi hl)) (fun x1 h1 => mj_den mj_P E d 48 196 [Value.ref 159, Value.int v1, Value.int v2, Value.int v3, Value.int v4, Value.int v5, Value.int v6] [Value.int x1] h1) := by
  rw [mj_den_eq, f48_192]
  exact zt_aload_n rfl rfl (zt_call0_1 rfl (mjkd159 _ _ _ _) (Nat.le_of_ble_eq_true rfl) rfl rfl)
set_option maxRecDepth 100000 in
theorem q48_192_1 (E : mj_E) (d w c : Nat) (hi : Nat → Nat → Int32) (hl : Nat → Nat → Int64) (v1 : Int32) (v2 : Int32) (v3 : Int32) (v4 : Int32) (v5 : Int32) : mj_den mj_P E d 48 192 [Value.ref 159, Value.int v1, Value.int v2, Value.int v3, Value.int v4, Value.int v5, Value.float 0] [] (mj_hw w c hi hl) = mj_bi (mj_dc mj_P E d 68 [Value.ref 159] (mj_hw w c hi hl)) (fun x1 h1 => mj_den mj_P E d 48 196 [Value.ref 159, Value.int v1, Value.int v2, Value.int v3, Value.int v4, Value.int v5, Value.float 0] [Value.int x1] h1) := by
  rw [mj_den_eq, f48_192]
  exact zt_aload_n rfl rfl (zt_call0_1 rfl (mjkd159 _ _ _ _) (Nat.le_of_ble_eq_true rfl) rfl rfl)
set_option maxRecDepth 100000 in
theorem f48_196 : mj_find (mj_P 48).2.2.2.2 196 = [(.istore 6, 2, 0, []), (.iload 6, 2, 0, []), (.ifCond .eq 12, 3, 0, [212]), (.aload_n 0, 1, 0, []), (.bipush 59, 2, 59, []), (.invokevirtual 111, 3, 0, [0, 59, 6, 1, 1, 1016, 1018, 19, 150, 1019])] := rfl
set_option maxRecDepth 100000 in
theorem q48_196 (E : mj_E) (d w c : Nat) (hi : Nat → Nat → Int32) (hl : Nat → Nat → Int64) (v1 : Int32) (v2 : Int32) (v3 : Int32) (v4 : Int32) (v5 : Int32) (s0 : Int32) : mj_den mj_P E d 48 196 [Value.ref 159, Value.int v1, Value.int v2, Value.int v3, Value.int v4, Value.int v5, Value.float 0] [Value.int s0] (mj_hw w c hi hl) = if s0 = 0 then mj_den mj_P E d 48 212 [Value.ref 159, Value.int v1, Value.int v2, Value.int v3, Value.int v4, Value.int v5, Value.int s0] [] (mj_hw w c hi hl) else mj_bi (mj_dc mj_P E d 59 [Value.ref 159, Value.int (59 : Int32)] (mj_hw w c hi hl)) (fun x1 h1 => mj_den mj_P E d 48 209 [Value.ref 159, Value.int v1, Value.int v2, Value.int v3, Value.int v4, Value.int v5, Value.int s0] [Value.int x1] h1) := by
  rw [mj_den_eq, f48_196]
  exact zt_istore (Nat.le_of_ble_eq_true rfl) rfl rfl (zt_iload rfl rfl (zt_if_eq rfl rfl (zt_aload_n rfl rfl (zt_bipush rfl (zt_call0_1 rfl (mjkd159 _ _ _ _) (Nat.le_of_ble_eq_true rfl) rfl rfl)))))
set_option maxRecDepth 100000 in
theorem q48_196_1 (E : mj_E) (d w c : Nat) (hi : Nat → Nat → Int32) (hl : Nat → Nat → Int64) (v1 : Int32) (v2 : Int32) (v3 : Int32) (v4 : Int32) (v5 : Int32) (v6 : Int32) (s0 : Int32) : mj_den mj_P E d 48 196 [Value.ref 159, Value.int v1, Value.int v2, Value.int v3, Value.int v4, Value.int v5, Value.int v6] [Value.int s0] (mj_hw w c hi hl) = if s0 = 0 then mj_den mj_P E d 48 212 [Value.ref 159, Value.int v1, Value.int v2, Value.int v3, Value.int v4, Value.int v5, Value.int s0] [] (mj_hw w c hi hl) else mj_bi (mj_dc mj_P E d 59 [Value.ref 159, Value.int (59 : Int32)] (mj_hw w c hi hl)) (fun x1 h1 => mj_den mj_P E d 48 209 [Value.ref 159, Value.int v1, Value.int v2, Value.int v3, Value.int v4, Value.int v5, Value.int s0] [Value.int x1] h1) := by
  rw [mj_den_eq, f48_196]
  exact zt_istore (Nat.le_of_ble_eq_true rfl) rfl rfl (zt_iload rfl rfl (zt_if_eq rfl rfl (zt_aload_n rfl rfl (zt_bipush rfl (zt_call0_1 rfl (mjkd159 _ _ _ _) (Nat.le_of_ble_eq_true rfl) rfl rfl)))))
set_option maxRecDepth 100000 in
theorem f48_209 : mj_find (mj_P 48).2.2.2.2 209 = [(.ifCond .ne 5, 3, 0, [214])] := rfl
set_option maxRecDepth 100000 in
theorem q48_209 (E : mj_E) (d w c : Nat) (hi : Nat → Nat → Int32) (hl : Nat → Nat → Int64) (v1 : Int32) (v2 : Int32) (v3 : Int32) (v4 : Int32) (v5 : Int32) (v6 : Int32) (s0 : Int32) : mj_den mj_P E d 48 209 [Value.ref 159, Value.int v1, Value.int v2, Value.int v3, Value.int v4, Value.int v5, Value.int v6] [Value.int s0] (mj_hw w c hi hl) = if ¬ s0 = 0 then mj_den mj_P E d 48 214 [Value.ref 159, Value.int v1, Value.int v2, Value.int v3, Value.int v4, Value.int v5, Value.int v6] [] (mj_hw w c hi hl) else mj_den mj_P E d 48 212 [Value.ref 159, Value.int v1, Value.int v2, Value.int v3, Value.int v4, Value.int v5, Value.int v6] [] (mj_hw w c hi hl) := by
  rw [mj_den_eq, f48_209]
  exact zt_if_ne rfl rfl (zt_end rfl)
set_option maxRecDepth 100000 in
theorem f48_212 : mj_find (mj_P 48).2.2.2.2 212 = [(.iconst 0, 1, 0, []), (.ireturn, 1, 0, [1])] := rfl
set_option maxRecDepth 100000 in
theorem q48_212 (E : mj_E) (d w c : Nat) (hi : Nat → Nat → Int32) (hl : Nat → Nat → Int64) (v1 : Int32) (v2 : Int32) (v3 : Int32) (v4 : Int32) (v5 : Int32) (v6 : Int32) : mj_den mj_P E d 48 212 [Value.ref 159, Value.int v1, Value.int v2, Value.int v3, Value.int v4, Value.int v5, Value.int v6] [] (mj_hw w c hi hl) = if (0 : Int32) = 0 ∨ (0 : Int32) = 1 then some (some (Value.int (0 : Int32)), (mj_hw w c hi hl)) else none := by
  rw [mj_den_eq, f48_212]
  exact zt_iconst rfl (zt_ireturn1)
set_option maxRecDepth 100000 in
theorem f48_214 : mj_find (mj_P 48).2.2.2.2 214 = [(.iinc 5 1, 3, 1, []), (.goto (-112), 3, 0, [105])] := rfl
set_option maxRecDepth 100000 in
theorem q48_214 (E : mj_E) (d w c : Nat) (hi : Nat → Nat → Int32) (hl : Nat → Nat → Int64) (v1 : Int32) (v2 : Int32) (v3 : Int32) (v4 : Int32) (v5 : Int32) (v6 : Int32) : mj_den mj_P E d 48 214 [Value.ref 159, Value.int v1, Value.int v2, Value.int v3, Value.int v4, Value.int v5, Value.int v6] [] (mj_hw w c hi hl) = mj_den mj_P E d 48 105 [Value.ref 159, Value.int v1, Value.int v2, Value.int v3, Value.int v4, Value.int (v5 + (1 : Int32)), Value.int v6] [] (mj_hw w c hi hl) := by
  rw [mj_den_eq, f48_214]
  exact zt_iinc rfl (Nat.le_of_ble_eq_true rfl) rfl rfl (zt_goto rfl)
set_option maxRecDepth 100000 in
theorem f48_220 : mj_find (mj_P 48).2.2.2.2 220 = [(.iconst 1, 1, 1, []), (.ireturn, 1, 0, [1])] := rfl
set_option maxRecDepth 100000 in
theorem q48_220 (E : mj_E) (d w c : Nat) (hi : Nat → Nat → Int32) (hl : Nat → Nat → Int64) (v1 : Int32) (v2 : Int32) (v3 : Int32) (v4 : Int32) (v5 : Int32) (v6 : Int32) : mj_den mj_P E d 48 220 [Value.ref 159, Value.int v1, Value.int v2, Value.int v3, Value.int v4, Value.int v5, Value.int v6] [] (mj_hw w c hi hl) = if (1 : Int32) = 0 ∨ (1 : Int32) = 1 then some (some (Value.int (1 : Int32)), (mj_hw w c hi hl)) else none := by
  rw [mj_den_eq, f48_220]
  exact zt_iconst rfl (zt_ireturn1)
set_option maxRecDepth 100000 in
theorem q48_220_1 (E : mj_E) (d w c : Nat) (hi : Nat → Nat → Int32) (hl : Nat → Nat → Int64) (v1 : Int32) (v2 : Int32) (v3 : Int32) (v4 : Int32) (v5 : Int32) : mj_den mj_P E d 48 220 [Value.ref 159, Value.int v1, Value.int v2, Value.int v3, Value.int v4, Value.int v5, Value.float 0] [] (mj_hw w c hi hl) = if (1 : Int32) = 0 ∨ (1 : Int32) = 1 then some (some (Value.int (1 : Int32)), (mj_hw w c hi hl)) else none := by
  rw [mj_den_eq, f48_220]
  exact zt_iconst rfl (zt_ireturn1)
set_option maxRecDepth 100000 in
theorem f49_0 : mj_find (mj_P 49).2.2.2.2 0 = [(.aload_n 0, 1, 0, []), (.iconst 0, 1, 0, []), (.putfield 51, 3, 0, [6, 9, 0, 498]), (.iconst 0, 1, 0, []), (.istore_n 1, 1, 0, []), (.iconst 0, 1, 0, []), (.istore_n 2, 1, 0, [])] := rfl
set_option maxRecDepth 100000 in
theorem q49_0 (E : mj_E) (d w c : Nat) (hi : Nat → Nat → Int32) (hl : Nat → Nat → Int64) : mj_den mj_P E d 49 0 [Value.ref 159, Value.float 0, Value.float 0] [] (mj_hw w c hi hl) = mj_den mj_P E d 49 9 [Value.ref 159, Value.int (0 : Int32), Value.int (0 : Int32)] [] (mj_hw w c (mj_u hi 159 9 (0 : Int32)) hl) := by
  rw [mj_den_eq, f49_0]
  exact zt_aload_n rfl rfl (zt_iconst rfl (zt_puti (mjkd159 _ _ _ _) rfl rfl (zt_iconst rfl (zt_istore_n (Nat.le_of_ble_eq_true rfl) rfl rfl (zt_iconst rfl (zt_istore_n (Nat.le_of_ble_eq_true rfl) rfl rfl (zt_end rfl)))))))
set_option maxRecDepth 100000 in
theorem f49_9 : mj_find (mj_P 49).2.2.2.2 9 = [(.iload_n 2, 1, 0, []), (.sipush 400, 3, 400, []), (.if_icmp .ge 51, 3, 0, [64]), (.iload_n 1, 1, 0, []), (.aload_n 0, 1, 0, []), (.getfield 9, 3, 0, [6, 0, 0, 484]), (.if_icmp .ge 43, 3, 0, [64]), (.aload_n 0, 1, 0, []), (.getfield 35, 3, 0, [6, 5, 3, 494]), (.iload_n 1, 1, 0, []), (.baload, 1, 0, []), (.bipush 32, 2, 32, []), (.if_icmp .eq 14, 3, 0, [46]), (.aload_n 0, 1, 0, []), (.getfield 35, 3, 0, [6, 5, 3, 494]), (.iload_n 1, 1, 0, []), (.baload, 1, 0, []), (.bipush 10, 2, 10, []), (.if_icmp .ne 9, 3, 0, [52])] := rfl
set_option maxRecDepth 100000 in
theorem q49_9 (E : mj_E) (d w c : Nat) (hi : Nat → Nat → Int32) (hl : Nat → Nat → Int64) (v1 : Int32) (v2 : Int32) : mj_den mj_P E d 49 9 [Value.ref 159, Value.int v1, Value.int v2] [] (mj_hw w c hi hl) = if (400 : Int32) ≤ v2 then mj_den mj_P E d 49 64 [Value.ref 159, Value.int v1, Value.int v2] [] (mj_hw w c hi hl) else if (hi 159 0) ≤ v1 then mj_den mj_P E d 49 64 [Value.ref 159, Value.int v1, Value.int v2] [] (mj_hw w c hi hl) else if 0 ≤ v1 ∧ (v1).toNatClampNeg < 400 then if (hi 173 ((v1).toNatClampNeg)) = (32 : Int32) then mj_den mj_P E d 49 46 [Value.ref 159, Value.int v1, Value.int v2] [] (mj_hw w c hi hl) else if 0 ≤ v1 ∧ (v1).toNatClampNeg < 400 then if ¬ (hi 173 ((v1).toNatClampNeg)) = (10 : Int32) then mj_den mj_P E d 49 52 [Value.ref 159, Value.int v1, Value.int v2] [] (mj_hw w c hi hl) else mj_den mj_P E d 49 46 [Value.ref 159, Value.int v1, Value.int v2] [] (mj_hw w c hi hl) else none else none := by
  rw [mj_den_eq, f49_9]
  exact zt_iload_n rfl rfl (zt_sipush rfl (zt_icmp_ge rfl rfl (zt_iload_n rfl rfl (zt_aload_n rfl rfl (zt_geti (mjkd159 _ _ _ _) rfl rfl (zt_icmp_ge rfl rfl (zt_aload_n rfl rfl (zt_getr (mjkd159 _ _ _ _) (mjhr159_5 w c) rfl (zt_iload_n rfl rfl (zt_bald (mjkd173 _ _ _ _) (mjln173 _ _ _ _) rfl rfl (zt_bipush rfl (zt_icmp_eq rfl rfl (zt_aload_n rfl rfl (zt_getr (mjkd159 _ _ _ _) (mjhr159_5 w c) rfl (zt_iload_n rfl rfl (zt_bald (mjkd173 _ _ _ _) (mjln173 _ _ _ _) rfl rfl (zt_bipush rfl (zt_icmp_ne rfl rfl (zt_end rfl)))))))))))))))))))
set_option maxRecDepth 100000 in
theorem f49_46 : mj_find (mj_P 49).2.2.2.2 46 = [(.iinc 1 1, 3, 1, []), (.goto 9, 3, 0, [58])] := rfl
set_option maxRecDepth 100000 in
theorem q49_46 (E : mj_E) (d w c : Nat) (hi : Nat → Nat → Int32) (hl : Nat → Nat → Int64) (v1 : Int32) (v2 : Int32) : mj_den mj_P E d 49 46 [Value.ref 159, Value.int v1, Value.int v2] [] (mj_hw w c hi hl) = mj_den mj_P E d 49 58 [Value.ref 159, Value.int (v1 + (1 : Int32)), Value.int v2] [] (mj_hw w c hi hl) := by
  rw [mj_den_eq, f49_46]
  exact zt_iinc rfl (Nat.le_of_ble_eq_true rfl) rfl rfl (zt_goto rfl)
set_option maxRecDepth 100000 in
theorem f49_52 : mj_find (mj_P 49).2.2.2.2 52 = [(.aload_n 0, 1, 0, []), (.iload_n 1, 1, 0, []), (.invokevirtual 115, 3, 0, [0, 50, 6, 1, 1, 854, 856, 7, 150, 857])] := rfl
set_option maxRecDepth 100000 in
theorem q49_52 (E : mj_E) (d w c : Nat) (hi : Nat → Nat → Int32) (hl : Nat → Nat → Int64) (v1 : Int32) (v2 : Int32) : mj_den mj_P E d 49 52 [Value.ref 159, Value.int v1, Value.int v2] [] (mj_hw w c hi hl) = mj_bi (mj_dc mj_P E d 50 [Value.ref 159, Value.int v1] (mj_hw w c hi hl)) (fun x1 h1 => mj_den mj_P E d 49 57 [Value.ref 159, Value.int v1, Value.int v2] [Value.int x1] h1) := by
  rw [mj_den_eq, f49_52]
  exact zt_aload_n rfl rfl (zt_iload_n rfl rfl (zt_call0_1 rfl (mjkd159 _ _ _ _) (Nat.le_of_ble_eq_true rfl) rfl rfl))
set_option maxRecDepth 100000 in
theorem f49_57 : mj_find (mj_P 49).2.2.2.2 57 = [(.istore_n 1, 1, 0, [])] := rfl
set_option maxRecDepth 100000 in
theorem q49_57 (E : mj_E) (d w c : Nat) (hi : Nat → Nat → Int32) (hl : Nat → Nat → Int64) (v1 : Int32) (v2 : Int32) (s0 : Int32) : mj_den mj_P E d 49 57 [Value.ref 159, Value.int v1, Value.int v2] [Value.int s0] (mj_hw w c hi hl) = mj_den mj_P E d 49 58 [Value.ref 159, Value.int s0, Value.int v2] [] (mj_hw w c hi hl) := by
  rw [mj_den_eq, f49_57]
  exact zt_istore_n (Nat.le_of_ble_eq_true rfl) rfl rfl (zt_end rfl)
set_option maxRecDepth 100000 in
theorem f49_58 : mj_find (mj_P 49).2.2.2.2 58 = [(.iinc 2 1, 3, 1, []), (.goto (-52), 3, 0, [9])] := rfl
set_option maxRecDepth 100000 in
theorem q49_58 (E : mj_E) (d w c : Nat) (hi : Nat → Nat → Int32) (hl : Nat → Nat → Int64) (v1 : Int32) (v2 : Int32) : mj_den mj_P E d 49 58 [Value.ref 159, Value.int v1, Value.int v2] [] (mj_hw w c hi hl) = mj_den mj_P E d 49 9 [Value.ref 159, Value.int v1, Value.int (v2 + (1 : Int32))] [] (mj_hw w c hi hl) := by
  rw [mj_den_eq, f49_58]
  exact zt_iinc rfl (Nat.le_of_ble_eq_true rfl) rfl rfl (zt_goto rfl)
set_option maxRecDepth 100000 in
theorem f49_64 : mj_find (mj_P 49).2.2.2.2 64 = [(.aload_n 0, 1, 0, []), (.iconst 0, 1, 0, []), (.iconst 0, 1, 0, []), (.aload_n 0, 1, 0, []), (.getfield 9, 3, 0, [6, 0, 0, 484]), (.invokevirtual 119, 3, 0, [0, 51, 6, 3, 0, 913, 915, 9, 150, 916])] := rfl
set_option maxRecDepth 100000 in
theorem q49_64 (E : mj_E) (d w c : Nat) (hi : Nat → Nat → Int32) (hl : Nat → Nat → Int64) (v1 : Int32) (v2 : Int32) : mj_den mj_P E d 49 64 [Value.ref 159, Value.int v1, Value.int v2] [] (mj_hw w c hi hl) = mj_bv (mj_dc mj_P E d 51 [Value.ref 159, Value.int (0 : Int32), Value.int (0 : Int32), Value.int (hi 159 0)] (mj_hw w c hi hl)) (fun h1 => mj_den mj_P E d 49 74 [Value.ref 159, Value.int v1, Value.int v2] [] h1) := by
  rw [mj_den_eq, f49_64]
  exact zt_aload_n rfl rfl (zt_iconst rfl (zt_iconst rfl (zt_aload_n rfl rfl (zt_geti (mjkd159 _ _ _ _) rfl rfl (zt_call0_0 rfl (mjkd159 _ _ _ _) (Nat.le_of_ble_eq_true rfl) rfl rfl)))))
set_option maxRecDepth 100000 in
theorem f49_74 : mj_find (mj_P 49).2.2.2.2 74 = [(.return_, 1, 0, [])] := rfl
set_option maxRecDepth 100000 in
theorem q49_74 (E : mj_E) (d w c : Nat) (hi : Nat → Nat → Int32) (hl : Nat → Nat → Int64) (v1 : Int32) (v2 : Int32) : mj_den mj_P E d 49 74 [Value.ref 159, Value.int v1, Value.int v2] [] (mj_hw w c hi hl) = some (none, (mj_hw w c hi hl)) := by
  rw [mj_den_eq, f49_74]
  exact zt_return
set_option maxRecDepth 100000 in
theorem f50_0 : mj_find (mj_P 50).2.2.2.2 0 = [(.iload_n 1, 1, 0, []), (.iconst 1, 1, 1, []), (.iadd, 1, 0, []), (.istore_n 2, 1, 0, []), (.aload_n 0, 1, 0, []), (.getfield 35, 3, 0, [6, 5, 3, 494]), (.iload_n 1, 1, 0, []), (.baload, 1, 0, []), (.invokestatic 123, 3, 0, [1, 52, 0, 1, 1, 858, 859, 150, 860])] := rfl
set_option maxRecDepth 100000 in
theorem q50_0 (E : mj_E) (d w c : Nat) (hi : Nat → Nat → Int32) (hl : Nat → Nat → Int64) (v1 : Int32) : mj_den mj_P E d 50 0 [Value.ref 159, Value.int v1, Value.float 0, Value.float 0] [] (mj_hw w c hi hl) = if 0 ≤ v1 ∧ (v1).toNatClampNeg < 400 then mj_bi (mj_dc mj_P E d 52 [Value.int (hi 173 ((v1).toNatClampNeg))] (mj_hw w c hi hl)) (fun x1 h1 => mj_den mj_P E d 50 13 [Value.ref 159, Value.int v1, Value.int (v1 + (1 : Int32)), Value.float 0] [Value.int x1] h1) else none := by
  rw [mj_den_eq, f50_0]
  exact zt_iload_n rfl rfl (zt_iconst rfl (zt_iadd rfl (zt_istore_n (Nat.le_of_ble_eq_true rfl) rfl rfl (zt_aload_n rfl rfl (zt_getr (mjkd159 _ _ _ _) (mjhr159_5 w c) rfl (zt_iload_n rfl rfl (zt_bald (mjkd173 _ _ _ _) (mjln173 _ _ _ _) rfl rfl (zt_call1_1 (Nat.le_of_ble_eq_true rfl) rfl (Nat.le_of_ble_eq_true rfl) rfl rfl))))))))
set_option maxRecDepth 100000 in
theorem f50_13 : mj_find (mj_P 50).2.2.2.2 13 = [(.ifCond .eq 55, 3, 0, [68])] := rfl
set_option maxRecDepth 100000 in
theorem q50_13 (E : mj_E) (d w c : Nat) (hi : Nat → Nat → Int32) (hl : Nat → Nat → Int64) (v1 : Int32) (v2 : Int32) (s0 : Int32) : mj_den mj_P E d 50 13 [Value.ref 159, Value.int v1, Value.int v2, Value.float 0] [Value.int s0] (mj_hw w c hi hl) = if s0 = 0 then mj_den mj_P E d 50 68 [Value.ref 159, Value.int v1, Value.int v2, Value.float 0] [] (mj_hw w c hi hl) else mj_den mj_P E d 50 16 [Value.ref 159, Value.int v1, Value.int v2, Value.float 0] [] (mj_hw w c hi hl) := by
  rw [mj_den_eq, f50_13]
  exact zt_if_eq rfl rfl (zt_end rfl)
set_option maxRecDepth 100000 in
theorem f50_16 : mj_find (mj_P 50).2.2.2.2 16 = [(.iload_n 2, 1, 0, []), (.aload_n 0, 1, 0, []), (.getfield 9, 3, 0, [6, 0, 0, 484]), (.if_icmp .ge 21, 3, 0, [42]), (.aload_n 0, 1, 0, []), (.getfield 35, 3, 0, [6, 5, 3, 494]), (.iload_n 2, 1, 0, []), (.baload, 1, 0, []), (.invokestatic 123, 3, 0, [1, 52, 0, 1, 1, 858, 859, 150, 860])] := rfl
set_option maxRecDepth 100000 in
theorem q50_16 (E : mj_E) (d w c : Nat) (hi : Nat → Nat → Int32) (hl : Nat → Nat → Int64) (v1 : Int32) (v2 : Int32) : mj_den mj_P E d 50 16 [Value.ref 159, Value.int v1, Value.int v2, Value.float 0] [] (mj_hw w c hi hl) = if (hi 159 0) ≤ v2 then mj_den mj_P E d 50 42 [Value.ref 159, Value.int v1, Value.int v2, Value.float 0] [] (mj_hw w c hi hl) else if 0 ≤ v2 ∧ (v2).toNatClampNeg < 400 then mj_bi (mj_dc mj_P E d 52 [Value.int (hi 173 ((v2).toNatClampNeg))] (mj_hw w c hi hl)) (fun x1 h1 => mj_den mj_P E d 50 33 [Value.ref 159, Value.int v1, Value.int v2, Value.float 0] [Value.int x1] h1) else none := by
  rw [mj_den_eq, f50_16]
  exact zt_iload_n rfl rfl (zt_aload_n rfl rfl (zt_geti (mjkd159 _ _ _ _) rfl rfl (zt_icmp_ge rfl rfl (zt_aload_n rfl rfl (zt_getr (mjkd159 _ _ _ _) (mjhr159_5 w c) rfl (zt_iload_n rfl rfl (zt_bald (mjkd173 _ _ _ _) (mjln173 _ _ _ _) rfl rfl (zt_call1_1 (Nat.le_of_ble_eq_true rfl) rfl (Nat.le_of_ble_eq_true rfl) rfl rfl))))))))
set_option maxRecDepth 100000 in
theorem f50_33 : mj_find (mj_P 50).2.2.2.2 33 = [(.ifCond .eq 9, 3, 0, [42]), (.iinc 2 1, 3, 1, []), (.goto (-23), 3, 0, [16])] := rfl
set_option maxRecDepth 100000 in
theorem q50_33 (E : mj_E) (d w c : Nat) (hi : Nat → Nat → Int32) (hl : Nat → Nat → Int64) (v1 : Int32) (v2 : Int32) (s0 : Int32) : mj_den mj_P E d 50 33 [Value.ref 159, Value.int v1, Value.int v2, Value.float 0] [Value.int s0] (mj_hw w c hi hl) = if s0 = 0 then mj_den mj_P E d 50 42 [Value.ref 159, Value.int v1, Value.int v2, Value.float 0] [] (mj_hw w c hi hl) else mj_den mj_P E d 50 16 [Value.ref 159, Value.int v1, Value.int (v2 + (1 : Int32)), Value.float 0] [] (mj_hw w c hi hl) := by
  rw [mj_den_eq, f50_33]
  exact zt_if_eq rfl rfl (zt_iinc rfl (Nat.le_of_ble_eq_true rfl) rfl rfl (zt_goto rfl))
set_option maxRecDepth 100000 in
theorem f50_42 : mj_find (mj_P 50).2.2.2.2 42 = [(.aload_n 0, 1, 0, []), (.iload_n 1, 1, 0, []), (.iload_n 2, 1, 0, []), (.invokevirtual 126, 3, 0, [0, 54, 6, 2, 1, 861, 863, 8, 150, 864])] := rfl
set_option maxRecDepth 100000 in
theorem q50_42 (E : mj_E) (d w c : Nat) (hi : Nat → Nat → Int32) (hl : Nat → Nat → Int64) (v1 : Int32) (v2 : Int32) : mj_den mj_P E d 50 42 [Value.ref 159, Value.int v1, Value.int v2, Value.float 0] [] (mj_hw w c hi hl) = mj_bi (mj_dc mj_P E d 54 [Value.ref 159, Value.int v1, Value.int v2] (mj_hw w c hi hl)) (fun x1 h1 => mj_den mj_P E d 50 48 [Value.ref 159, Value.int v1, Value.int v2, Value.float 0] [Value.int x1] h1) := by
  rw [mj_den_eq, f50_42]
  exact zt_aload_n rfl rfl (zt_iload_n rfl rfl (zt_iload_n rfl rfl (zt_call0_1 rfl (mjkd159 _ _ _ _) (Nat.le_of_ble_eq_true rfl) rfl rfl)))
set_option maxRecDepth 100000 in
theorem f50_48 : mj_find (mj_P 50).2.2.2.2 48 = [(.istore_n 3, 1, 0, []), (.aload_n 0, 1, 0, []), (.iload_n 3, 1, 0, []), (.iconst (-1), 1, (-1), []), (.if_icmp .ne 7, 3, 0, [59]), (.iconst 4, 1, 4, []), (.goto 4, 3, 0, [60])] := rfl
set_option maxRecDepth 100000 in
theorem q50_48 (E : mj_E) (d w c : Nat) (hi : Nat → Nat → Int32) (hl : Nat → Nat → Int64) (v1 : Int32) (v2 : Int32) (s0 : Int32) : mj_den mj_P E d 50 48 [Value.ref 159, Value.int v1, Value.int v2, Value.float 0] [Value.int s0] (mj_hw w c hi hl) = if ¬ s0 = (-1 : Int32) then mj_den mj_P E d 50 59 [Value.ref 159, Value.int v1, Value.int v2, Value.int s0] [Value.ref 159] (mj_hw w c hi hl) else mj_den mj_P E d 50 60 [Value.ref 159, Value.int v1, Value.int v2, Value.int s0] [Value.int (4 : Int32), Value.ref 159] (mj_hw w c hi hl) := by
  rw [mj_den_eq, f50_48]
  exact zt_istore_n (Nat.le_of_ble_eq_true rfl) rfl rfl (zt_aload_n rfl rfl (zt_iload_n rfl rfl (zt_iconst rfl (zt_icmp_ne rfl rfl (zt_iconst rfl (zt_goto rfl))))))
set_option maxRecDepth 100000 in
theorem f50_59 : mj_find (mj_P 50).2.2.2.2 59 = [(.iconst 2, 1, 2, [])] := rfl
set_option maxRecDepth 100000 in
theorem q50_59 (E : mj_E) (d w c : Nat) (hi : Nat → Nat → Int32) (hl : Nat → Nat → Int64) (v1 : Int32) (v2 : Int32) (v3 : Int32) : mj_den mj_P E d 50 59 [Value.ref 159, Value.int v1, Value.int v2, Value.int v3] [Value.ref 159] (mj_hw w c hi hl) = mj_den mj_P E d 50 60 [Value.ref 159, Value.int v1, Value.int v2, Value.int v3] [Value.int (2 : Int32), Value.ref 159] (mj_hw w c hi hl) := by
  rw [mj_den_eq, f50_59]
  exact zt_iconst rfl (zt_end rfl)
set_option maxRecDepth 100000 in
theorem f50_60 : mj_find (mj_P 50).2.2.2.2 60 = [(.iload_n 3, 1, 0, []), (.iload_n 1, 1, 0, []), (.invokevirtual 119, 3, 0, [0, 51, 6, 3, 0, 913, 915, 9, 150, 916])] := rfl
set_option maxRecDepth 100000 in
theorem q50_60 (E : mj_E) (d w c : Nat) (hi : Nat → Nat → Int32) (hl : Nat → Nat → Int64) (v1 : Int32) (v2 : Int32) (v3 : Int32) (s0 : Int32) : mj_den mj_P E d 50 60 [Value.ref 159, Value.int v1, Value.int v2, Value.int v3] [Value.int s0, Value.ref 159] (mj_hw w c hi hl) = mj_bv (mj_dc mj_P E d 51 [Value.ref 159, Value.int s0, Value.int v3, Value.int v1] (mj_hw w c hi hl)) (fun h1 => mj_den mj_P E d 50 65 [Value.ref 159, Value.int v1, Value.int v2, Value.int v3] [] h1) := by
  rw [mj_den_eq, f50_60]
  exact zt_iload_n rfl rfl (zt_iload_n rfl rfl (zt_call0_0 rfl (mjkd159 _ _ _ _) (Nat.le_of_ble_eq_true rfl) rfl rfl))
set_option maxRecDepth 100000 in
theorem f50_65 : mj_find (mj_P 50).2.2.2.2 65 = [(.goto 119, 3, 0, [184])] := rfl
set_option maxRecDepth 100000 in
theorem q50_65 (E : mj_E) (d w c : Nat) (hi : Nat → Nat → Int32) (hl : Nat → Nat → Int64) (v1 : Int32) (v2 : Int32) (v3 : Int32) : mj_den mj_P E d 50 65 [Value.ref 159, Value.int v1, Value.int v2, Value.int v3] [] (mj_hw w c hi hl) = mj_den mj_P E d 50 184 [Value.ref 159, Value.int v1, Value.int v2, Value.int v3] [] (mj_hw w c hi hl) := by
  rw [mj_den_eq, f50_65]
  exact zt_goto rfl
set_option maxRecDepth 100000 in
theorem f50_68 : mj_find (mj_P 50).2.2.2.2 68 = [(.aload_n 0, 1, 0, []), (.getfield 35, 3, 0, [6, 5, 3, 494]), (.iload_n 1, 1, 0, []), (.baload, 1, 0, []), (.invokestatic 130, 3, 0, [1, 53, 0, 1, 1, 917, 918, 150, 919])] := rfl
set_option maxRecDepth 100000 in
theorem q50_68 (E : mj_E) (d w c : Nat) (hi : Nat → Nat → Int32) (hl : Nat → Nat → Int64) (v1 : Int32) (v2 : Int32) : mj_den mj_P E d 50 68 [Value.ref 159, Value.int v1, Value.int v2, Value.float 0] [] (mj_hw w c hi hl) = if 0 ≤ v1 ∧ (v1).toNatClampNeg < 400 then mj_bi (mj_dc mj_P E d 53 [Value.int (hi 173 ((v1).toNatClampNeg))] (mj_hw w c hi hl)) (fun x1 h1 => mj_den mj_P E d 50 77 [Value.ref 159, Value.int v1, Value.int v2, Value.float 0] [Value.int x1] h1) else none := by
  rw [mj_den_eq, f50_68]
  exact zt_aload_n rfl rfl (zt_getr (mjkd159 _ _ _ _) (mjhr159_5 w c) rfl (zt_iload_n rfl rfl (zt_bald (mjkd173 _ _ _ _) (mjln173 _ _ _ _) rfl rfl (zt_call1_1 (Nat.le_of_ble_eq_true rfl) rfl (Nat.le_of_ble_eq_true rfl) rfl rfl))))
set_option maxRecDepth 100000 in
theorem f50_77 : mj_find (mj_P 50).2.2.2.2 77 = [(.ifCond .eq 75, 3, 0, [152]), (.aload_n 0, 1, 0, []), (.getfield 35, 3, 0, [6, 5, 3, 494]), (.iload_n 1, 1, 0, []), (.baload, 1, 0, []), (.bipush 48, 2, 48, []), (.isub, 1, 0, []), (.istore_n 3, 1, 0, [])] := rfl
set_option maxRecDepth 100000 in
theorem q50_77 (E : mj_E) (d w c : Nat) (hi : Nat → Nat → Int32) (hl : Nat → Nat → Int64) (v1 : Int32) (v2 : Int32) (s0 : Int32) : mj_den mj_P E d 50 77 [Value.ref 159, Value.int v1, Value.int v2, Value.float 0] [Value.int s0] (mj_hw w c hi hl) = if s0 = 0 then mj_den mj_P E d 50 152 [Value.ref 159, Value.int v1, Value.int v2, Value.float 0] [] (mj_hw w c hi hl) else if 0 ≤ v1 ∧ (v1).toNatClampNeg < 400 then mj_den mj_P E d 50 90 [Value.ref 159, Value.int v1, Value.int v2, Value.int ((hi 173 ((v1).toNatClampNeg)) - (48 : Int32))] [] (mj_hw w c hi hl) else none := by
  rw [mj_den_eq, f50_77]
  exact zt_if_eq rfl rfl (zt_aload_n rfl rfl (zt_getr (mjkd159 _ _ _ _) (mjhr159_5 w c) rfl (zt_iload_n rfl rfl (zt_bald (mjkd173 _ _ _ _) (mjln173 _ _ _ _) rfl rfl (zt_bipush rfl (zt_isub rfl (zt_istore_n (Nat.le_of_ble_eq_true rfl) rfl rfl (zt_end rfl))))))))
set_option maxRecDepth 100000 in
theorem f50_90 : mj_find (mj_P 50).2.2.2.2 90 = [(.iload_n 2, 1, 0, []), (.aload_n 0, 1, 0, []), (.getfield 9, 3, 0, [6, 0, 0, 484]), (.if_icmp .ge 36, 3, 0, [131]), (.aload_n 0, 1, 0, []), (.getfield 35, 3, 0, [6, 5, 3, 494]), (.iload_n 2, 1, 0, []), (.baload, 1, 0, []), (.invokestatic 130, 3, 0, [1, 53, 0, 1, 1, 917, 918, 150, 919])] := rfl
set_option maxRecDepth 100000 in
theorem q50_90 (E : mj_E) (d w c : Nat) (hi : Nat → Nat → Int32) (hl : Nat → Nat → Int64) (v1 : Int32) (v2 : Int32) (v3 : Int32) : mj_den mj_P E d 50 90 [Value.ref 159, Value.int v1, Value.int v2, Value.int v3] [] (mj_hw w c hi hl) = if (hi 159 0) ≤ v2 then mj_den mj_P E d 50 131 [Value.ref 159, Value.int v1, Value.int v2, Value.int v3] [] (mj_hw w c hi hl) else if 0 ≤ v2 ∧ (v2).toNatClampNeg < 400 then mj_bi (mj_dc mj_P E d 53 [Value.int (hi 173 ((v2).toNatClampNeg))] (mj_hw w c hi hl)) (fun x1 h1 => mj_den mj_P E d 50 107 [Value.ref 159, Value.int v1, Value.int v2, Value.int v3] [Value.int x1] h1) else none := by
  rw [mj_den_eq, f50_90]
  exact zt_iload_n rfl rfl (zt_aload_n rfl rfl (zt_geti (mjkd159 _ _ _ _) rfl rfl (zt_icmp_ge rfl rfl (zt_aload_n rfl rfl (zt_getr (mjkd159 _ _ _ _) (mjhr159_5 w c) rfl (zt_iload_n rfl rfl (zt_bald (mjkd173 _ _ _ _) (mjln173 _ _ _ _) rfl rfl (zt_call1_1 (Nat.le_of_ble_eq_true rfl) rfl (Nat.le_of_ble_eq_true rfl) rfl rfl))))))))
set_option maxRecDepth 100000 in
theorem f50_107 : mj_find (mj_P 50).2.2.2.2 107 = [(.ifCond .eq 24, 3, 0, [131]), (.iload_n 3, 1, 0, []), (.bipush 10, 2, 10, []), (.imul, 1, 0, []), (.aload_n 0, 1, 0, []), (.getfield 35, 3, 0, [6, 5, 3, 494]), (.iload_n 2, 1, 0, []), (.baload, 1, 0, []), (.iadd, 1, 0, []), (.bipush 48, 2, 48, []), (.isub, 1, 0, []), (.istore_n 3, 1, 0, []), (.iinc 2 1, 3, 1, []), (.goto (-38), 3, 0, [90])] := rfl
set_option maxRecDepth 100000 in
theorem q50_107 (E : mj_E) (d w c : Nat) (hi : Nat → Nat → Int32) (hl : Nat → Nat → Int64) (v1 : Int32) (v2 : Int32) (v3 : Int32) (s0 : Int32) : mj_den mj_P E d 50 107 [Value.ref 159, Value.int v1, Value.int v2, Value.int v3] [Value.int s0] (mj_hw w c hi hl) = if s0 = 0 then mj_den mj_P E d 50 131 [Value.ref 159, Value.int v1, Value.int v2, Value.int v3] [] (mj_hw w c hi hl) else if 0 ≤ v2 ∧ (v2).toNatClampNeg < 400 then mj_den mj_P E d 50 90 [Value.ref 159, Value.int v1, Value.int (v2 + (1 : Int32)), Value.int (((v3 * (10 : Int32)) + (hi 173 ((v2).toNatClampNeg))) - (48 : Int32))] [] (mj_hw w c hi hl) else none := by
  rw [mj_den_eq, f50_107]
  exact zt_if_eq rfl rfl (zt_iload_n rfl rfl (zt_bipush rfl (zt_imul rfl (zt_aload_n rfl rfl (zt_getr (mjkd159 _ _ _ _) (mjhr159_5 w c) rfl (zt_iload_n rfl rfl (zt_bald (mjkd173 _ _ _ _) (mjln173 _ _ _ _) rfl rfl (zt_iadd rfl (zt_bipush rfl (zt_isub rfl (zt_istore_n (Nat.le_of_ble_eq_true rfl) rfl rfl (zt_iinc rfl (Nat.le_of_ble_eq_true rfl) rfl rfl (zt_goto rfl)))))))))))))
set_option maxRecDepth 100000 in
theorem f50_131 : mj_find (mj_P 50).2.2.2.2 131 = [(.aload_n 0, 1, 0, []), (.iload_n 2, 1, 0, []), (.iload_n 1, 1, 0, []), (.isub, 1, 0, []), (.iconst 4, 1, 4, []), (.if_icmp .le 7, 3, 0, [143]), (.iconst 4, 1, 4, []), (.goto 4, 3, 0, [144])] := rfl
set_option maxRecDepth 100000 in
theorem q50_131 (E : mj_E) (d w c : Nat) (hi : Nat → Nat → Int32) (hl : Nat → Nat → Int64) (v1 : Int32) (v2 : Int32) (v3 : Int32) : mj_den mj_P E d 50 131 [Value.ref 159, Value.int v1, Value.int v2, Value.int v3] [] (mj_hw w c hi hl) = if (v2 - v1) ≤ (4 : Int32) then mj_den mj_P E d 50 143 [Value.ref 159, Value.int v1, Value.int v2, Value.int v3] [Value.ref 159] (mj_hw w c hi hl) else mj_den mj_P E d 50 144 [Value.ref 159, Value.int v1, Value.int v2, Value.int v3] [Value.int (4 : Int32), Value.ref 159] (mj_hw w c hi hl) := by
  rw [mj_den_eq, f50_131]
  exact zt_aload_n rfl rfl (zt_iload_n rfl rfl (zt_iload_n rfl rfl (zt_isub rfl (zt_iconst rfl (zt_icmp_le rfl rfl (zt_iconst rfl (zt_goto rfl)))))))
set_option maxRecDepth 100000 in
theorem f50_143 : mj_find (mj_P 50).2.2.2.2 143 = [(.iconst 1, 1, 1, [])] := rfl
set_option maxRecDepth 100000 in
theorem q50_143 (E : mj_E) (d w c : Nat) (hi : Nat → Nat → Int32) (hl : Nat → Nat → Int64) (v1 : Int32) (v2 : Int32) (v3 : Int32) : mj_den mj_P E d 50 143 [Value.ref 159, Value.int v1, Value.int v2, Value.int v3] [Value.ref 159] (mj_hw w c hi hl) = mj_den mj_P E d 50 144 [Value.ref 159, Value.int v1, Value.int v2, Value.int v3] [Value.int (1 : Int32), Value.ref 159] (mj_hw w c hi hl) := by
  rw [mj_den_eq, f50_143]
  exact zt_iconst rfl (zt_end rfl)
set_option maxRecDepth 100000 in
theorem f50_144 : mj_find (mj_P 50).2.2.2.2 144 = [(.iload_n 3, 1, 0, []), (.iload_n 1, 1, 0, []), (.invokevirtual 119, 3, 0, [0, 51, 6, 3, 0, 913, 915, 9, 150, 916])] := rfl
set_option maxRecDepth 100000 in
theorem q50_144 (E : mj_E) (d w c : Nat) (hi : Nat → Nat → Int32) (hl : Nat → Nat → Int64) (v1 : Int32) (v2 : Int32) (v3 : Int32) (s0 : Int32) : mj_den mj_P E d 50 144 [Value.ref 159, Value.int v1, Value.int v2, Value.int v3] [Value.int s0, Value.ref 159] (mj_hw w c hi hl) = mj_bv (mj_dc mj_P E d 51 [Value.ref 159, Value.int s0, Value.int v3, Value.int v1] (mj_hw w c hi hl)) (fun h1 => mj_den mj_P E d 50 149 [Value.ref 159, Value.int v1, Value.int v2, Value.int v3] [] h1) := by
  rw [mj_den_eq, f50_144]
  exact zt_iload_n rfl rfl (zt_iload_n rfl rfl (zt_call0_0 rfl (mjkd159 _ _ _ _) (Nat.le_of_ble_eq_true rfl) rfl rfl))
set_option maxRecDepth 100000 in
theorem f50_149 : mj_find (mj_P 50).2.2.2.2 149 = [(.goto 35, 3, 0, [184])] := rfl
set_option maxRecDepth 100000 in
theorem q50_149 (E : mj_E) (d w c : Nat) (hi : Nat → Nat → Int32) (hl : Nat → Nat → Int64) (v1 : Int32) (v2 : Int32) (v3 : Int32) : mj_den mj_P E d 50 149 [Value.ref 159, Value.int v1, Value.int v2, Value.int v3] [] (mj_hw w c hi hl) = mj_den mj_P E d 50 184 [Value.ref 159, Value.int v1, Value.int v2, Value.int v3] [] (mj_hw w c hi hl) := by
  rw [mj_den_eq, f50_149]
  exact zt_goto rfl
set_option maxRecDepth 100000 in
theorem f50_152 : mj_find (mj_P 50).2.2.2.2 152 = [(.aload_n 0, 1, 0, []), (.getfield 35, 3, 0, [6, 5, 3, 494]), (.iload_n 1, 1, 0, []), (.baload, 1, 0, []), (.sipush 255, 3, 255, []), (.iand, 1, 0, []), (.i2c, 1, 0, []), (.istore_n 3, 1, 0, []), (.aload_n 0, 1, 0, []), (.ldc 133, 2, 0, [1, 7, 920]), (.iload_n 3, 1, 0, []), (.invokevirtual 135, 3, 0, [8, 299, 99, 1, 1, 921, 922, 923, 159, 924])] := rfl
set_option maxRecDepth 100000 in
theorem q50_152 (E : mj_E) (d w c : Nat) (hi : Nat → Nat → Int32) (hl : Nat → Nat → Int64) (v1 : Int32) (v2 : Int32) : mj_den mj_P E d 50 152 [Value.ref 159, Value.int v1, Value.int v2, Value.float 0] [] (mj_hw w c hi hl) = if 0 ≤ v1 ∧ (v1).toNatClampNeg < 400 then mj_bi (mj_dc mj_P E d 299 [Value.retAddr 7, Value.int ((((hi 173 ((v1).toNatClampNeg)) &&& (255 : Int32)).toUInt32 % 65536).toInt32)] (mj_hw w c hi hl)) (fun x1 h1 => mj_den mj_P E d 50 171 [Value.ref 159, Value.int v1, Value.int v2, Value.int ((((hi 173 ((v1).toNatClampNeg)) &&& (255 : Int32)).toUInt32 % 65536).toInt32)] [Value.int x1, Value.ref 159] h1) else none := by
  rw [mj_den_eq, f50_152]
  exact zt_aload_n rfl rfl (zt_getr (mjkd159 _ _ _ _) (mjhr159_5 w c) rfl (zt_iload_n rfl rfl (zt_bald (mjkd173 _ _ _ _) (mjln173 _ _ _ _) rfl rfl (zt_sipush rfl (zt_iand rfl (zt_i2c rfl (zt_istore_n (Nat.le_of_ble_eq_true rfl) rfl rfl (zt_aload_n rfl rfl (zt_ldcs rfl (zt_iload_n rfl rfl (zt_call8_1 rfl (Nat.le_of_ble_eq_true rfl) (Nat.le_of_ble_eq_true rfl) (Nat.le_of_ble_eq_true rfl) rfl rfl)))))))))))
set_option maxRecDepth 100000 in
theorem f50_171 : mj_find (mj_P 50).2.2.2.2 171 = [(.ifCond .lt 7, 3, 0, [178]), (.iconst 3, 1, 3, []), (.goto 4, 3, 0, [179])] := rfl
set_option maxRecDepth 100000 in
theorem q50_171 (E : mj_E) (d w c : Nat) (hi : Nat → Nat → Int32) (hl : Nat → Nat → Int64) (v1 : Int32) (v2 : Int32) (v3 : Int32) (s0 : Int32) : mj_den mj_P E d 50 171 [Value.ref 159, Value.int v1, Value.int v2, Value.int v3] [Value.int s0, Value.ref 159] (mj_hw w c hi hl) = if s0 < 0 then mj_den mj_P E d 50 178 [Value.ref 159, Value.int v1, Value.int v2, Value.int v3] [Value.ref 159] (mj_hw w c hi hl) else mj_den mj_P E d 50 179 [Value.ref 159, Value.int v1, Value.int v2, Value.int v3] [Value.int (3 : Int32), Value.ref 159] (mj_hw w c hi hl) := by
  rw [mj_den_eq, f50_171]
  exact zt_if_lt rfl rfl (zt_iconst rfl (zt_goto rfl))
set_option maxRecDepth 100000 in
theorem f50_178 : mj_find (mj_P 50).2.2.2.2 178 = [(.iconst 4, 1, 4, [])] := rfl
set_option maxRecDepth 100000 in
theorem q50_178 (E : mj_E) (d w c : Nat) (hi : Nat → Nat → Int32) (hl : Nat → Nat → Int64) (v1 : Int32) (v2 : Int32) (v3 : Int32) : mj_den mj_P E d 50 178 [Value.ref 159, Value.int v1, Value.int v2, Value.int v3] [Value.ref 159] (mj_hw w c hi hl) = mj_den mj_P E d 50 179 [Value.ref 159, Value.int v1, Value.int v2, Value.int v3] [Value.int (4 : Int32), Value.ref 159] (mj_hw w c hi hl) := by
  rw [mj_den_eq, f50_178]
  exact zt_iconst rfl (zt_end rfl)
set_option maxRecDepth 100000 in
theorem f50_179 : mj_find (mj_P 50).2.2.2.2 179 = [(.iload_n 3, 1, 0, []), (.iload_n 1, 1, 0, []), (.invokevirtual 119, 3, 0, [0, 51, 6, 3, 0, 913, 915, 9, 150, 916])] := rfl
set_option maxRecDepth 100000 in
theorem q50_179 (E : mj_E) (d w c : Nat) (hi : Nat → Nat → Int32) (hl : Nat → Nat → Int64) (v1 : Int32) (v2 : Int32) (v3 : Int32) (s0 : Int32) : mj_den mj_P E d 50 179 [Value.ref 159, Value.int v1, Value.int v2, Value.int v3] [Value.int s0, Value.ref 159] (mj_hw w c hi hl) = mj_bv (mj_dc mj_P E d 51 [Value.ref 159, Value.int s0, Value.int v3, Value.int v1] (mj_hw w c hi hl)) (fun h1 => mj_den mj_P E d 50 184 [Value.ref 159, Value.int v1, Value.int v2, Value.int v3] [] h1) := by
  rw [mj_den_eq, f50_179]
  exact zt_iload_n rfl rfl (zt_iload_n rfl rfl (zt_call0_0 rfl (mjkd159 _ _ _ _) (Nat.le_of_ble_eq_true rfl) rfl rfl))
set_option maxRecDepth 100000 in
theorem f50_184 : mj_find (mj_P 50).2.2.2.2 184 = [(.iload_n 2, 1, 0, []), (.ireturn, 1, 0, [0])] := rfl
set_option maxRecDepth 100000 in
theorem q50_184 (E : mj_E) (d w c : Nat) (hi : Nat → Nat → Int32) (hl : Nat → Nat → Int64) (v1 : Int32) (v2 : Int32) (v3 : Int32) : mj_den mj_P E d 50 184 [Value.ref 159, Value.int v1, Value.int v2, Value.int v3] [] (mj_hw w c hi hl) = some (some (Value.int v2), (mj_hw w c hi hl)) := by
  rw [mj_den_eq, f50_184]
  exact zt_iload_n rfl rfl (zt_ireturn0)
set_option maxRecDepth 100000 in
theorem f51_0 : mj_find (mj_P 51).2.2.2.2 0 = [(.aload_n 0, 1, 0, []), (.getfield 51, 3, 0, [6, 9, 0, 498]), (.sipush 400, 3, 400, []), (.if_icmp .gt 43, 3, 0, [50]), (.aload_n 0, 1, 0, []), (.getfield 66, 3, 0, [6, 14, 3, 503]), (.aload_n 0, 1, 0, []), (.getfield 51, 3, 0, [6, 9, 0, 498]), (.iload_n 1, 1, 0, []), (.iastore, 1, 0, []), (.aload_n 0, 1, 0, []), (.getfield 70, 3, 0, [6, 15, 3, 504]), (.aload_n 0, 1, 0, []), (.getfield 51, 3, 0, [6, 9, 0, 498]), (.iload_n 2, 1, 0, []), (.iastore, 1, 0, []), (.aload_n 0, 1, 0, []), (.getfield 73, 3, 0, [6, 16, 3, 505]), (.aload_n 0, 1, 0, []), (.getfield 51, 3, 0, [6, 9, 0, 498]), (.iload_n 3, 1, 0, []), (.iastore, 1, 0, []), (.aload_n 0, 1, 0, []), (.dup, 1, 0, []), (.getfield 51, 3, 0, [6, 9, 0, 498]), (.iconst 1, 1, 1, []), (.iadd, 1, 0, []), (.putfield 51, 3, 0, [6, 9, 0, 498])] := rfl
set_option maxRecDepth 100000 in
theorem q51_0 (E : mj_E) (d w c : Nat) (hi : Nat → Nat → Int32) (hl : Nat → Nat → Int64) (v1 : Int32) (v2 : Int32) (v3 : Int32) : mj_den mj_P E d 51 0 [Value.ref 159, Value.int v1, Value.int v2, Value.int v3] [] (mj_hw w c hi hl) = if (400 : Int32) < (hi 159 9) then mj_den mj_P E d 51 50 [Value.ref 159, Value.int v1, Value.int v2, Value.int v3] [] (mj_hw w c hi hl) else if 0 ≤ (hi 159 9) ∧ ((hi 159 9)).toNatClampNeg < 401 then if 0 ≤ (hi 159 9) ∧ ((hi 159 9)).toNatClampNeg < 401 then if 0 ≤ (hi 159 9) ∧ ((hi 159 9)).toNatClampNeg < 401 then mj_den mj_P E d 51 50 [Value.ref 159, Value.int v1, Value.int v2, Value.int v3] [] (mj_hw w c (mj_u (mj_u (mj_u (mj_u hi 174 (((hi 159 9)).toNatClampNeg) v1) 175 (((hi 159 9)).toNatClampNeg) v2) 176 (((hi 159 9)).toNatClampNeg) v3) 159 9 ((hi 159 9) + (1 : Int32))) hl) else none else none else none := by
  rw [mj_den_eq, f51_0]
  exact zt_aload_n rfl rfl (zt_geti (mjkd159 _ _ _ _) rfl rfl (zt_sipush rfl (zt_icmp_gt rfl rfl (zt_aload_n rfl rfl (zt_getr (mjkd159 _ _ _ _) (mjhr159_14 w c) rfl (zt_aload_n rfl rfl (zt_geti (mjkd159 _ _ _ _) rfl rfl (zt_iload_n rfl rfl (zt_iast (mjkd174 _ _ _ _) (mjln174 _ _ _ _) rfl rfl (zt_aload_n rfl rfl (zt_getr (mjkd159 _ _ _ _) (mjhr159_15 w c) rfl (zt_aload_n rfl rfl (zt_geti (mjkd159 _ _ _ _) rfl rfl (zt_iload_n rfl rfl (zt_iast (mjkd175 _ _ _ _) (mjln175 _ _ _ _) rfl rfl (zt_aload_n rfl rfl (zt_getr (mjkd159 _ _ _ _) (mjhr159_16 w c) rfl (zt_aload_n rfl rfl (zt_geti (mjkd159 _ _ _ _) rfl rfl (zt_iload_n rfl rfl (zt_iast (mjkd176 _ _ _ _) (mjln176 _ _ _ _) rfl rfl (zt_aload_n rfl rfl (zt_dupr rfl (zt_geti (mjkd159 _ _ _ _) rfl rfl (zt_iconst rfl (zt_iadd rfl (zt_puti (mjkd159 _ _ _ _) rfl rfl (zt_end rfl))))))))))))))))))))))))))))
set_option maxRecDepth 100000 in
theorem f51_50 : mj_find (mj_P 51).2.2.2.2 50 = [(.return_, 1, 0, [])] := rfl
set_option maxRecDepth 100000 in
theorem q51_50 (E : mj_E) (d w c : Nat) (hi : Nat → Nat → Int32) (hl : Nat → Nat → Int64) (v1 : Int32) (v2 : Int32) (v3 : Int32) : mj_den mj_P E d 51 50 [Value.ref 159, Value.int v1, Value.int v2, Value.int v3] [] (mj_hw w c hi hl) = some (none, (mj_hw w c hi hl)) := by
  rw [mj_den_eq, f51_50]
  exact zt_return
set_option maxRecDepth 100000 in
theorem f52_0 : mj_find (mj_P 52).2.2.2.2 0 = [(.iload_n 0, 1, 0, []), (.bipush 97, 2, 97, []), (.if_icmp .lt 9, 3, 0, [12]), (.iload_n 0, 1, 0, []), (.bipush 122, 2, 122, []), (.if_icmp .le 15, 3, 0, [24])] := rfl
set_option maxRecDepth 100000 in
theorem q52_0 (E : mj_E) (d w c : Nat) (hi : Nat → Nat → Int32) (hl : Nat → Nat → Int64) (v0 : Int32) : mj_den mj_P E d 52 0 [Value.int v0] [] (mj_hw w c hi hl) = if v0 < (97 : Int32) then mj_den mj_P E d 52 12 [Value.int v0] [] (mj_hw w c hi hl) else if v0 ≤ (122 : Int32) then mj_den mj_P E d 52 24 [Value.int v0] [] (mj_hw w c hi hl) else mj_den mj_P E d 52 12 [Value.int v0] [] (mj_hw w c hi hl) := by
  rw [mj_den_eq, f52_0]
  exact zt_iload_n rfl rfl (zt_bipush rfl (zt_icmp_lt rfl rfl (zt_iload_n rfl rfl (zt_bipush rfl (zt_icmp_le rfl rfl (zt_end rfl))))))
set_option maxRecDepth 100000 in
theorem f52_12 : mj_find (mj_P 52).2.2.2.2 12 = [(.iload_n 0, 1, 0, []), (.bipush 65, 2, 65, []), (.if_icmp .lt 13, 3, 0, [28]), (.iload_n 0, 1, 0, []), (.bipush 90, 2, 90, []), (.if_icmp .gt 7, 3, 0, [28])] := rfl
set_option maxRecDepth 100000 in
theorem q52_12 (E : mj_E) (d w c : Nat) (hi : Nat → Nat → Int32) (hl : Nat → Nat → Int64) (v0 : Int32) : mj_den mj_P E d 52 12 [Value.int v0] [] (mj_hw w c hi hl) = if v0 < (65 : Int32) then mj_den mj_P E d 52 28 [Value.int v0] [] (mj_hw w c hi hl) else if (90 : Int32) < v0 then mj_den mj_P E d 52 28 [Value.int v0] [] (mj_hw w c hi hl) else mj_den mj_P E d 52 24 [Value.int v0] [] (mj_hw w c hi hl) := by
  rw [mj_den_eq, f52_12]
  exact zt_iload_n rfl rfl (zt_bipush rfl (zt_icmp_lt rfl rfl (zt_iload_n rfl rfl (zt_bipush rfl (zt_icmp_gt rfl rfl (zt_end rfl))))))
set_option maxRecDepth 100000 in
theorem f52_24 : mj_find (mj_P 52).2.2.2.2 24 = [(.iconst 1, 1, 1, []), (.goto 4, 3, 0, [29])] := rfl
set_option maxRecDepth 100000 in
theorem q52_24 (E : mj_E) (d w c : Nat) (hi : Nat → Nat → Int32) (hl : Nat → Nat → Int64) (v0 : Int32) : mj_den mj_P E d 52 24 [Value.int v0] [] (mj_hw w c hi hl) = mj_den mj_P E d 52 29 [Value.int v0] [Value.int (1 : Int32)] (mj_hw w c hi hl) := by
  rw [mj_den_eq, f52_24]
  exact zt_iconst rfl (zt_goto rfl)
set_option maxRecDepth 100000 in
theorem f52_28 : mj_find (mj_P 52).2.2.2.2 28 = [(.iconst 0, 1, 0, [])] := rfl
set_option maxRecDepth 100000 in
theorem q52_28 (E : mj_E) (d w c : Nat) (hi : Nat → Nat → Int32) (hl : Nat → Nat → Int64) (v0 : Int32) : mj_den mj_P E d 52 28 [Value.int v0] [] (mj_hw w c hi hl) = mj_den mj_P E d 52 29 [Value.int v0] [Value.int (0 : Int32)] (mj_hw w c hi hl) := by
  rw [mj_den_eq, f52_28]
  exact zt_iconst rfl (zt_end rfl)
set_option maxRecDepth 100000 in
theorem f52_29 : mj_find (mj_P 52).2.2.2.2 29 = [(.ireturn, 1, 0, [1])] := rfl
set_option maxRecDepth 100000 in
theorem q52_29 (E : mj_E) (d w c : Nat) (hi : Nat → Nat → Int32) (hl : Nat → Nat → Int64) (v0 : Int32) (s0 : Int32) : mj_den mj_P E d 52 29 [Value.int v0] [Value.int s0] (mj_hw w c hi hl) = if s0 = 0 ∨ s0 = 1 then some (some (Value.int s0), (mj_hw w c hi hl)) else none := by
  rw [mj_den_eq, f52_29]
  exact zt_ireturn1
set_option maxRecDepth 100000 in
theorem f53_0 : mj_find (mj_P 53).2.2.2.2 0 = [(.iload_n 0, 1, 0, []), (.bipush 48, 2, 48, []), (.if_icmp .lt 13, 3, 0, [16]), (.iload_n 0, 1, 0, []), (.bipush 57, 2, 57, []), (.if_icmp .gt 7, 3, 0, [16]), (.iconst 1, 1, 1, []), (.goto 4, 3, 0, [17])] := rfl
set_option maxRecDepth 100000 in
theorem q53_0 (E : mj_E) (d w c : Nat) (hi : Nat → Nat → Int32) (hl : Nat → Nat → Int64) (v0 : Int32) : mj_den mj_P E d 53 0 [Value.int v0] [] (mj_hw w c hi hl) = if v0 < (48 : Int32) then mj_den mj_P E d 53 16 [Value.int v0] [] (mj_hw w c hi hl) else if (57 : Int32) < v0 then mj_den mj_P E d 53 16 [Value.int v0] [] (mj_hw w c hi hl) else mj_den mj_P E d 53 17 [Value.int v0] [Value.int (1 : Int32)] (mj_hw w c hi hl) := by
  rw [mj_den_eq, f53_0]
  exact zt_iload_n rfl rfl (zt_bipush rfl (zt_icmp_lt rfl rfl (zt_iload_n rfl rfl (zt_bipush rfl (zt_icmp_gt rfl rfl (zt_iconst rfl (zt_goto rfl)))))))
set_option maxRecDepth 100000 in
theorem f53_16 : mj_find (mj_P 53).2.2.2.2 16 = [(.iconst 0, 1, 0, [])] := rfl
set_option maxRecDepth 100000 in
theorem q53_16 (E : mj_E) (d w c : Nat) (hi : Nat → Nat → Int32) (hl : Nat → Nat → Int64) (v0 : Int32) : mj_den mj_P E d 53 16 [Value.int v0] [] (mj_hw w c hi hl) = mj_den mj_P E d 53 17 [Value.int v0] [Value.int (0 : Int32)] (mj_hw w c hi hl) := by
  rw [mj_den_eq, f53_16]
  exact zt_iconst rfl (zt_end rfl)
set_option maxRecDepth 100000 in
theorem f53_17 : mj_find (mj_P 53).2.2.2.2 17 = [(.ireturn, 1, 0, [1])] := rfl
set_option maxRecDepth 100000 in
theorem q53_17 (E : mj_E) (d w c : Nat) (hi : Nat → Nat → Int32) (hl : Nat → Nat → Int64) (v0 : Int32) (s0 : Int32) : mj_den mj_P E d 53 17 [Value.int v0] [Value.int s0] (mj_hw w c hi hl) = if s0 = 0 ∨ s0 = 1 then some (some (Value.int s0), (mj_hw w c hi hl)) else none := by
  rw [mj_den_eq, f53_17]
  exact zt_ireturn1
set_option maxRecDepth 100000 in
theorem f54_0 : mj_find (mj_P 54).2.2.2.2 0 = [(.iconst 0, 1, 0, []), (.istore_n 3, 1, 0, []), (.iconst 0, 1, 0, []), (.istore 4, 2, 0, []), (.iconst 0, 1, 0, []), (.istore 5, 2, 0, [])] := rfl
set_option maxRecDepth 100000 in
theorem q54_0 (E : mj_E) (d w c : Nat) (hi : Nat → Nat → Int32) (hl : Nat → Nat → Int64) (v1 : Int32) (v2 : Int32) : mj_den mj_P E d 54 0 [Value.ref 159, Value.int v1, Value.int v2, Value.float 0, Value.float 0, Value.float 0, Value.float 0] [] (mj_hw w c hi hl) = mj_den mj_P E d 54 8 [Value.ref 159, Value.int v1, Value.int v2, Value.int (0 : Int32), Value.int (0 : Int32), Value.int (0 : Int32), Value.float 0] [] (mj_hw w c hi hl) := by
  rw [mj_den_eq, f54_0]
  exact zt_iconst rfl (zt_istore_n (Nat.le_of_ble_eq_true rfl) rfl rfl (zt_iconst rfl (zt_istore (Nat.le_of_ble_eq_true rfl) rfl rfl (zt_iconst rfl (zt_istore (Nat.le_of_ble_eq_true rfl) rfl rfl (zt_end rfl))))))
set_option maxRecDepth 100000 in
theorem f54_8 : mj_find (mj_P 54).2.2.2.2 8 = [(.iload 5, 2, 0, []), (.aload_n 0, 1, 0, []), (.getfield 41, 3, 0, [6, 6, 3, 495]), (.invokevirtual 140, 3, 0, [8, 297, 99, 0, 1, 865, 866, 867, 159, 868])] := rfl
set_option maxRecDepth 100000 in
theorem q54_8 (E : mj_E) (d c : Nat) (hi : Nat → Nat → Int32) (hl : Nat → Nat → Int64) (v1 : Int32) (v2 : Int32) (v3 : Int32) (v4 : Int32) (v5 : Int32) : mj_den mj_P E d 54 8 [Value.ref 159, Value.int v1, Value.int v2, Value.int v3, Value.int v4, Value.int v5, Value.float 0] [] (mj_hw 6 c hi hl) = mj_bi (mj_dc mj_P E d 297 [Value.retAddr 6] (mj_hw 6 c hi hl)) (fun x1 h1 => mj_den mj_P E d 54 17 [Value.ref 159, Value.int v1, Value.int v2, Value.int v3, Value.int v4, Value.int v5, Value.float 0] [Value.int x1, Value.int v5] h1) := by
  rw [mj_den_eq, f54_8]
  exact zt_iload rfl rfl (zt_aload_n rfl rfl (zt_getc (mjkd159 _ _ _ _) (mjhr_w 6 c) rfl (zt_call8_1 rfl (Nat.le_of_ble_eq_true rfl) (Nat.le_of_ble_eq_true rfl) (Nat.le_of_ble_eq_true rfl) rfl rfl)))
set_option maxRecDepth 100000 in
theorem q54_8_1 (E : mj_E) (d c : Nat) (hi : Nat → Nat → Int32) (hl : Nat → Nat → Int64) (v1 : Int32) (v2 : Int32) (v3 : Int32) (v4 : Int32) (v5 : Int32) (v6 : Int32) : mj_den mj_P E d 54 8 [Value.ref 159, Value.int v1, Value.int v2, Value.int v3, Value.int v4, Value.int v5, Value.int v6] [] (mj_hw 6 c hi hl) = mj_bi (mj_dc mj_P E d 297 [Value.retAddr 6] (mj_hw 6 c hi hl)) (fun x1 h1 => mj_den mj_P E d 54 17 [Value.ref 159, Value.int v1, Value.int v2, Value.int v3, Value.int v4, Value.int v5, Value.int v6] [Value.int x1, Value.int v5] h1) := by
  rw [mj_den_eq, f54_8]
  exact zt_iload rfl rfl (zt_aload_n rfl rfl (zt_getc (mjkd159 _ _ _ _) (mjhr_w 6 c) rfl (zt_call8_1 rfl (Nat.le_of_ble_eq_true rfl) (Nat.le_of_ble_eq_true rfl) (Nat.le_of_ble_eq_true rfl) rfl rfl)))
set_option maxRecDepth 100000 in
theorem q54_8_2 (E : mj_E) (d c : Nat) (hi : Nat → Nat → Int32) (hl : Nat → Nat → Int64) (v1 : Int32) (v2 : Int32) (v3 : Int32) (v4 : Int32) (v5 : Int32) (v6 : Int32) : mj_den mj_P E d 54 8 [Value.ref 159, Value.int v1, Value.int v2, Value.int v3, Value.int v4, Value.int v5, Value.int v6] [] (mj_hw 5 c hi hl) = mj_bi (mj_dc mj_P E d 297 [Value.retAddr 5] (mj_hw 5 c hi hl)) (fun x1 h1 => mj_den mj_P E d 54 17 [Value.ref 159, Value.int v1, Value.int v2, Value.int v3, Value.int v4, Value.int v5, Value.int v6] [Value.int x1, Value.int v5] h1) := by
  rw [mj_den_eq, f54_8]
  exact zt_iload rfl rfl (zt_aload_n rfl rfl (zt_getc (mjkd159 _ _ _ _) (mjhr_w 5 c) rfl (zt_call8_1 rfl (Nat.le_of_ble_eq_true rfl) (Nat.le_of_ble_eq_true rfl) (Nat.le_of_ble_eq_true rfl) rfl rfl)))
set_option maxRecDepth 100000 in
theorem q54_8_3 (E : mj_E) (d c : Nat) (hi : Nat → Nat → Int32) (hl : Nat → Nat → Int64) (v1 : Int32) (v2 : Int32) (v3 : Int32) (v4 : Int32) (v5 : Int32) (v6 : Int32) : mj_den mj_P E d 54 8 [Value.ref 159, Value.int v1, Value.int v2, Value.int v3, Value.int v4, Value.int v5, Value.int v6] [] (mj_hw 4 c hi hl) = mj_bi (mj_dc mj_P E d 297 [Value.retAddr 4] (mj_hw 4 c hi hl)) (fun x1 h1 => mj_den mj_P E d 54 17 [Value.ref 159, Value.int v1, Value.int v2, Value.int v3, Value.int v4, Value.int v5, Value.int v6] [Value.int x1, Value.int v5] h1) := by
  rw [mj_den_eq, f54_8]
  exact zt_iload rfl rfl (zt_aload_n rfl rfl (zt_getc (mjkd159 _ _ _ _) (mjhr_w 4 c) rfl (zt_call8_1 rfl (Nat.le_of_ble_eq_true rfl) (Nat.le_of_ble_eq_true rfl) (Nat.le_of_ble_eq_true rfl) rfl rfl)))
set_option maxRecDepth 100000 in
theorem q54_8_4 (E : mj_E) (d c : Nat) (hi : Nat → Nat → Int32) (hl : Nat → Nat → Int64) (v1 : Int32) (v2 : Int32) (v3 : Int32) (v4 : Int32) (v5 : Int32) (v6 : Int32) : mj_den mj_P E d 54 8 [Value.ref 159, Value.int v1, Value.int v2, Value.int v3, Value.int v4, Value.int v5, Value.int v6] [] (mj_hw 3 c hi hl) = mj_bi (mj_dc mj_P E d 297 [Value.retAddr 3] (mj_hw 3 c hi hl)) (fun x1 h1 => mj_den mj_P E d 54 17 [Value.ref 159, Value.int v1, Value.int v2, Value.int v3, Value.int v4, Value.int v5, Value.int v6] [Value.int x1, Value.int v5] h1) := by
  rw [mj_den_eq, f54_8]
  exact zt_iload rfl rfl (zt_aload_n rfl rfl (zt_getc (mjkd159 _ _ _ _) (mjhr_w 3 c) rfl (zt_call8_1 rfl (Nat.le_of_ble_eq_true rfl) (Nat.le_of_ble_eq_true rfl) (Nat.le_of_ble_eq_true rfl) rfl rfl)))
set_option maxRecDepth 100000 in
theorem q54_8_5 (E : mj_E) (d c : Nat) (hi : Nat → Nat → Int32) (hl : Nat → Nat → Int64) (v1 : Int32) (v2 : Int32) (v3 : Int32) (v4 : Int32) (v5 : Int32) : mj_den mj_P E d 54 8 [Value.ref 159, Value.int v1, Value.int v2, Value.int v3, Value.int v4, Value.int v5, Value.float 0] [] (mj_hw 5 c hi hl) = mj_bi (mj_dc mj_P E d 297 [Value.retAddr 5] (mj_hw 5 c hi hl)) (fun x1 h1 => mj_den mj_P E d 54 17 [Value.ref 159, Value.int v1, Value.int v2, Value.int v3, Value.int v4, Value.int v5, Value.float 0] [Value.int x1, Value.int v5] h1) := by
  rw [mj_den_eq, f54_8]
  exact zt_iload rfl rfl (zt_aload_n rfl rfl (zt_getc (mjkd159 _ _ _ _) (mjhr_w 5 c) rfl (zt_call8_1 rfl (Nat.le_of_ble_eq_true rfl) (Nat.le_of_ble_eq_true rfl) (Nat.le_of_ble_eq_true rfl) rfl rfl)))
set_option maxRecDepth 100000 in
theorem q54_8_6 (E : mj_E) (d c : Nat) (hi : Nat → Nat → Int32) (hl : Nat → Nat → Int64) (v1 : Int32) (v2 : Int32) (v3 : Int32) (v4 : Int32) (v5 : Int32) : mj_den mj_P E d 54 8 [Value.ref 159, Value.int v1, Value.int v2, Value.int v3, Value.int v4, Value.int v5, Value.float 0] [] (mj_hw 4 c hi hl) = mj_bi (mj_dc mj_P E d 297 [Value.retAddr 4] (mj_hw 4 c hi hl)) (fun x1 h1 => mj_den mj_P E d 54 17 [Value.ref 159, Value.int v1, Value.int v2, Value.int v3, Value.int v4, Value.int v5, Value.float 0] [Value.int x1, Value.int v5] h1) := by
  rw [mj_den_eq, f54_8]
  exact zt_iload rfl rfl (zt_aload_n rfl rfl (zt_getc (mjkd159 _ _ _ _) (mjhr_w 4 c) rfl (zt_call8_1 rfl (Nat.le_of_ble_eq_true rfl) (Nat.le_of_ble_eq_true rfl) (Nat.le_of_ble_eq_true rfl) rfl rfl)))
set_option maxRecDepth 100000 in
theorem q54_8_7 (E : mj_E) (d c : Nat) (hi : Nat → Nat → Int32) (hl : Nat → Nat → Int64) (v1 : Int32) (v2 : Int32) (v3 : Int32) (v4 : Int32) (v5 : Int32) : mj_den mj_P E d 54 8 [Value.ref 159, Value.int v1, Value.int v2, Value.int v3, Value.int v4, Value.int v5, Value.float 0] [] (mj_hw 3 c hi hl) = mj_bi (mj_dc mj_P E d 297 [Value.retAddr 3] (mj_hw 3 c hi hl)) (fun x1 h1 => mj_den mj_P E d 54 17 [Value.ref 159, Value.int v1, Value.int v2, Value.int v3, Value.int v4, Value.int v5, Value.float 0] [Value.int x1, Value.int v5] h1) := by
  rw [mj_den_eq, f54_8]
  exact zt_iload rfl rfl (zt_aload_n rfl rfl (zt_getc (mjkd159 _ _ _ _) (mjhr_w 3 c) rfl (zt_call8_1 rfl (Nat.le_of_ble_eq_true rfl) (Nat.le_of_ble_eq_true rfl) (Nat.le_of_ble_eq_true rfl) rfl rfl)))
set_option maxRecDepth 100000 in
theorem f54_17 : mj_find (mj_P 54).2.2.2.2 17 = [(.if_icmp .gt 101, 3, 0, [118]), (.iload 5, 2, 0, []), (.aload_n 0, 1, 0, []), (.getfield 41, 3, 0, [6, 6, 3, 495]), (.invokevirtual 140, 3, 0, [8, 297, 99, 0, 1, 865, 866, 867, 159, 868])] := rfl
set_option maxRecDepth 100000 in
theorem q54_17 (E : mj_E) (d c : Nat) (hi : Nat → Nat → Int32) (hl : Nat → Nat → Int64) (v1 : Int32) (v2 : Int32) (v3 : Int32) (v4 : Int32) (v5 : Int32) (s0 : Int32) (s1 : Int32) : mj_den mj_P E d 54 17 [Value.ref 159, Value.int v1, Value.int v2, Value.int v3, Value.int v4, Value.int v5, Value.float 0] [Value.int s0, Value.int s1] (mj_hw 6 c hi hl) = if s0 < s1 then mj_den mj_P E d 54 118 [Value.ref 159, Value.int v1, Value.int v2, Value.int v3, Value.int v4, Value.int v5, Value.float 0] [] (mj_hw 6 c hi hl) else mj_bi (mj_dc mj_P E d 297 [Value.retAddr 6] (mj_hw 6 c hi hl)) (fun x1 h1 => mj_den mj_P E d 54 29 [Value.ref 159, Value.int v1, Value.int v2, Value.int v3, Value.int v4, Value.int v5, Value.float 0] [Value.int x1, Value.int v5] h1) := by
  rw [mj_den_eq, f54_17]
  exact zt_icmp_gt rfl rfl (zt_iload rfl rfl (zt_aload_n rfl rfl (zt_getc (mjkd159 _ _ _ _) (mjhr_w 6 c) rfl (zt_call8_1 rfl (Nat.le_of_ble_eq_true rfl) (Nat.le_of_ble_eq_true rfl) (Nat.le_of_ble_eq_true rfl) rfl rfl))))
set_option maxRecDepth 100000 in
theorem q54_17_1 (E : mj_E) (d c : Nat) (hi : Nat → Nat → Int32) (hl : Nat → Nat → Int64) (v1 : Int32) (v2 : Int32) (v3 : Int32) (v4 : Int32) (v5 : Int32) (v6 : Int32) (s0 : Int32) (s1 : Int32) : mj_den mj_P E d 54 17 [Value.ref 159, Value.int v1, Value.int v2, Value.int v3, Value.int v4, Value.int v5, Value.int v6] [Value.int s0, Value.int s1] (mj_hw 6 c hi hl) = if s0 < s1 then mj_den mj_P E d 54 118 [Value.ref 159, Value.int v1, Value.int v2, Value.int v3, Value.int v4, Value.int v5, Value.int v6] [] (mj_hw 6 c hi hl) else mj_bi (mj_dc mj_P E d 297 [Value.retAddr 6] (mj_hw 6 c hi hl)) (fun x1 h1 => mj_den mj_P E d 54 29 [Value.ref 159, Value.int v1, Value.int v2, Value.int v3, Value.int v4, Value.int v5, Value.int v6] [Value.int x1, Value.int v5] h1) := by
  rw [mj_den_eq, f54_17]
  exact zt_icmp_gt rfl rfl (zt_iload rfl rfl (zt_aload_n rfl rfl (zt_getc (mjkd159 _ _ _ _) (mjhr_w 6 c) rfl (zt_call8_1 rfl (Nat.le_of_ble_eq_true rfl) (Nat.le_of_ble_eq_true rfl) (Nat.le_of_ble_eq_true rfl) rfl rfl))))
set_option maxRecDepth 100000 in
theorem q54_17_2 (E : mj_E) (d c : Nat) (hi : Nat → Nat → Int32) (hl : Nat → Nat → Int64) (v1 : Int32) (v2 : Int32) (v3 : Int32) (v4 : Int32) (v5 : Int32) (v6 : Int32) (s0 : Int32) (s1 : Int32) : mj_den mj_P E d 54 17 [Value.ref 159, Value.int v1, Value.int v2, Value.int v3, Value.int v4, Value.int v5, Value.int v6] [Value.int s0, Value.int s1] (mj_hw 5 c hi hl) = if s0 < s1 then mj_den mj_P E d 54 118 [Value.ref 159, Value.int v1, Value.int v2, Value.int v3, Value.int v4, Value.int v5, Value.int v6] [] (mj_hw 5 c hi hl) else mj_bi (mj_dc mj_P E d 297 [Value.retAddr 5] (mj_hw 5 c hi hl)) (fun x1 h1 => mj_den mj_P E d 54 29 [Value.ref 159, Value.int v1, Value.int v2, Value.int v3, Value.int v4, Value.int v5, Value.int v6] [Value.int x1, Value.int v5] h1) := by
  rw [mj_den_eq, f54_17]
  exact zt_icmp_gt rfl rfl (zt_iload rfl rfl (zt_aload_n rfl rfl (zt_getc (mjkd159 _ _ _ _) (mjhr_w 5 c) rfl (zt_call8_1 rfl (Nat.le_of_ble_eq_true rfl) (Nat.le_of_ble_eq_true rfl) (Nat.le_of_ble_eq_true rfl) rfl rfl))))
set_option maxRecDepth 100000 in
theorem q54_17_3 (E : mj_E) (d c : Nat) (hi : Nat → Nat → Int32) (hl : Nat → Nat → Int64) (v1 : Int32) (v2 : Int32) (v3 : Int32) (v4 : Int32) (v5 : Int32) (v6 : Int32) (s0 : Int32) (s1 : Int32) : mj_den mj_P E d 54 17 [Value.ref 159, Value.int v1, Value.int v2, Value.int v3, Value.int v4, Value.int v5, Value.int v6] [Value.int s0, Value.int s1] (mj_hw 4 c hi hl) = if s0 < s1 then mj_den mj_P E d 54 118 [Value.ref 159, Value.int v1, Value.int v2, Value.int v3, Value.int v4, Value.int v5, Value.int v6] [] (mj_hw 4 c hi hl) else mj_bi (mj_dc mj_P E d 297 [Value.retAddr 4] (mj_hw 4 c hi hl)) (fun x1 h1 => mj_den mj_P E d 54 29 [Value.ref 159, Value.int v1, Value.int v2, Value.int v3, Value.int v4, Value.int v5, Value.int v6] [Value.int x1, Value.int v5] h1) := by
  rw [mj_den_eq, f54_17]
  exact zt_icmp_gt rfl rfl (zt_iload rfl rfl (zt_aload_n rfl rfl (zt_getc (mjkd159 _ _ _ _) (mjhr_w 4 c) rfl (zt_call8_1 rfl (Nat.le_of_ble_eq_true rfl) (Nat.le_of_ble_eq_true rfl) (Nat.le_of_ble_eq_true rfl) rfl rfl))))
set_option maxRecDepth 100000 in
theorem q54_17_4 (E : mj_E) (d c : Nat) (hi : Nat → Nat → Int32) (hl : Nat → Nat → Int64) (v1 : Int32) (v2 : Int32) (v3 : Int32) (v4 : Int32) (v5 : Int32) (v6 : Int32) (s0 : Int32) (s1 : Int32) : mj_den mj_P E d 54 17 [Value.ref 159, Value.int v1, Value.int v2, Value.int v3, Value.int v4, Value.int v5, Value.int v6] [Value.int s0, Value.int s1] (mj_hw 3 c hi hl) = if s0 < s1 then mj_den mj_P E d 54 118 [Value.ref 159, Value.int v1, Value.int v2, Value.int v3, Value.int v4, Value.int v5, Value.int v6] [] (mj_hw 3 c hi hl) else mj_bi (mj_dc mj_P E d 297 [Value.retAddr 3] (mj_hw 3 c hi hl)) (fun x1 h1 => mj_den mj_P E d 54 29 [Value.ref 159, Value.int v1, Value.int v2, Value.int v3, Value.int v4, Value.int v5, Value.int v6] [Value.int x1, Value.int v5] h1) := by
  rw [mj_den_eq, f54_17]
  exact zt_icmp_gt rfl rfl (zt_iload rfl rfl (zt_aload_n rfl rfl (zt_getc (mjkd159 _ _ _ _) (mjhr_w 3 c) rfl (zt_call8_1 rfl (Nat.le_of_ble_eq_true rfl) (Nat.le_of_ble_eq_true rfl) (Nat.le_of_ble_eq_true rfl) rfl rfl))))
set_option maxRecDepth 100000 in
theorem q54_17_5 (E : mj_E) (d c : Nat) (hi : Nat → Nat → Int32) (hl : Nat → Nat → Int64) (v1 : Int32) (v2 : Int32) (v3 : Int32) (v4 : Int32) (v5 : Int32) (s0 : Int32) (s1 : Int32) : mj_den mj_P E d 54 17 [Value.ref 159, Value.int v1, Value.int v2, Value.int v3, Value.int v4, Value.int v5, Value.float 0] [Value.int s0, Value.int s1] (mj_hw 5 c hi hl) = if s0 < s1 then mj_den mj_P E d 54 118 [Value.ref 159, Value.int v1, Value.int v2, Value.int v3, Value.int v4, Value.int v5, Value.float 0] [] (mj_hw 5 c hi hl) else mj_bi (mj_dc mj_P E d 297 [Value.retAddr 5] (mj_hw 5 c hi hl)) (fun x1 h1 => mj_den mj_P E d 54 29 [Value.ref 159, Value.int v1, Value.int v2, Value.int v3, Value.int v4, Value.int v5, Value.float 0] [Value.int x1, Value.int v5] h1) := by
  rw [mj_den_eq, f54_17]
  exact zt_icmp_gt rfl rfl (zt_iload rfl rfl (zt_aload_n rfl rfl (zt_getc (mjkd159 _ _ _ _) (mjhr_w 5 c) rfl (zt_call8_1 rfl (Nat.le_of_ble_eq_true rfl) (Nat.le_of_ble_eq_true rfl) (Nat.le_of_ble_eq_true rfl) rfl rfl))))
set_option maxRecDepth 100000 in
theorem q54_17_6 (E : mj_E) (d c : Nat) (hi : Nat → Nat → Int32) (hl : Nat → Nat → Int64) (v1 : Int32) (v2 : Int32) (v3 : Int32) (v4 : Int32) (v5 : Int32) (s0 : Int32) (s1 : Int32) : mj_den mj_P E d 54 17 [Value.ref 159, Value.int v1, Value.int v2, Value.int v3, Value.int v4, Value.int v5, Value.float 0] [Value.int s0, Value.int s1] (mj_hw 4 c hi hl) = if s0 < s1 then mj_den mj_P E d 54 118 [Value.ref 159, Value.int v1, Value.int v2, Value.int v3, Value.int v4, Value.int v5, Value.float 0] [] (mj_hw 4 c hi hl) else mj_bi (mj_dc mj_P E d 297 [Value.retAddr 4] (mj_hw 4 c hi hl)) (fun x1 h1 => mj_den mj_P E d 54 29 [Value.ref 159, Value.int v1, Value.int v2, Value.int v3, Value.int v4, Value.int v5, Value.float 0] [Value.int x1, Value.int v5] h1) := by
  rw [mj_den_eq, f54_17]
  exact zt_icmp_gt rfl rfl (zt_iload rfl rfl (zt_aload_n rfl rfl (zt_getc (mjkd159 _ _ _ _) (mjhr_w 4 c) rfl (zt_call8_1 rfl (Nat.le_of_ble_eq_true rfl) (Nat.le_of_ble_eq_true rfl) (Nat.le_of_ble_eq_true rfl) rfl rfl))))
set_option maxRecDepth 100000 in
theorem q54_17_7 (E : mj_E) (d c : Nat) (hi : Nat → Nat → Int32) (hl : Nat → Nat → Int64) (v1 : Int32) (v2 : Int32) (v3 : Int32) (v4 : Int32) (v5 : Int32) (s0 : Int32) (s1 : Int32) : mj_den mj_P E d 54 17 [Value.ref 159, Value.int v1, Value.int v2, Value.int v3, Value.int v4, Value.int v5, Value.float 0] [Value.int s0, Value.int s1] (mj_hw 3 c hi hl) = if s0 < s1 then mj_den mj_P E d 54 118 [Value.ref 159, Value.int v1, Value.int v2, Value.int v3, Value.int v4, Value.int v5, Value.float 0] [] (mj_hw 3 c hi hl) else mj_bi (mj_dc mj_P E d 297 [Value.retAddr 3] (mj_hw 3 c hi hl)) (fun x1 h1 => mj_den mj_P E d 54 29 [Value.ref 159, Value.int v1, Value.int v2, Value.int v3, Value.int v4, Value.int v5, Value.float 0] [Value.int x1, Value.int v5] h1) := by
  rw [mj_den_eq, f54_17]
  exact zt_icmp_gt rfl rfl (zt_iload rfl rfl (zt_aload_n rfl rfl (zt_getc (mjkd159 _ _ _ _) (mjhr_w 3 c) rfl (zt_call8_1 rfl (Nat.le_of_ble_eq_true rfl) (Nat.le_of_ble_eq_true rfl) (Nat.le_of_ble_eq_true rfl) rfl rfl))))
set_option maxRecDepth 100000 in
theorem f54_29 : mj_find (mj_P 54).2.2.2.2 29 = [(.if_icmp .ge 15, 3, 0, [44]), (.aload_n 0, 1, 0, []), (.getfield 41, 3, 0, [6, 6, 3, 495]), (.iload 5, 2, 0, []), (.invokevirtual 143, 3, 0, [8, 298, 99, 1, 1, 875, 876, 877, 159, 878])] := rfl
set_option maxRecDepth 100000 in
theorem q54_29 (E : mj_E) (d c : Nat) (hi : Nat → Nat → Int32) (hl : Nat → Nat → Int64) (v1 : Int32) (v2 : Int32) (v3 : Int32) (v4 : Int32) (v5 : Int32) (s0 : Int32) (s1 : Int32) : mj_den mj_P E d 54 29 [Value.ref 159, Value.int v1, Value.int v2, Value.int v3, Value.int v4, Value.int v5, Value.float 0] [Value.int s0, Value.int s1] (mj_hw 6 c hi hl) = if s0 ≤ s1 then mj_den mj_P E d 54 44 [Value.ref 159, Value.int v1, Value.int v2, Value.int v3, Value.int v4, Value.int v5, Value.float 0] [] (mj_hw 6 c hi hl) else mj_bi (mj_dc mj_P E d 298 [Value.retAddr 6, Value.int v5] (mj_hw 6 c hi hl)) (fun x1 h1 => mj_den mj_P E d 54 41 [Value.ref 159, Value.int v1, Value.int v2, Value.int v3, Value.int v4, Value.int v5, Value.float 0] [Value.int x1] h1) := by
  rw [mj_den_eq, f54_29]
  exact zt_icmp_ge rfl rfl (zt_aload_n rfl rfl (zt_getc (mjkd159 _ _ _ _) (mjhr_w 6 c) rfl (zt_iload rfl rfl (zt_call8_1 rfl (Nat.le_of_ble_eq_true rfl) (Nat.le_of_ble_eq_true rfl) (Nat.le_of_ble_eq_true rfl) rfl rfl))))
set_option maxRecDepth 100000 in
theorem q54_29_1 (E : mj_E) (d c : Nat) (hi : Nat → Nat → Int32) (hl : Nat → Nat → Int64) (v1 : Int32) (v2 : Int32) (v3 : Int32) (v4 : Int32) (v5 : Int32) (v6 : Int32) (s0 : Int32) (s1 : Int32) : mj_den mj_P E d 54 29 [Value.ref 159, Value.int v1, Value.int v2, Value.int v3, Value.int v4, Value.int v5, Value.int v6] [Value.int s0, Value.int s1] (mj_hw 6 c hi hl) = if s0 ≤ s1 then mj_den mj_P E d 54 44 [Value.ref 159, Value.int v1, Value.int v2, Value.int v3, Value.int v4, Value.int v5, Value.int v6] [] (mj_hw 6 c hi hl) else mj_bi (mj_dc mj_P E d 298 [Value.retAddr 6, Value.int v5] (mj_hw 6 c hi hl)) (fun x1 h1 => mj_den mj_P E d 54 41 [Value.ref 159, Value.int v1, Value.int v2, Value.int v3, Value.int v4, Value.int v5, Value.int v6] [Value.int x1] h1) := by
  rw [mj_den_eq, f54_29]
  exact zt_icmp_ge rfl rfl (zt_aload_n rfl rfl (zt_getc (mjkd159 _ _ _ _) (mjhr_w 6 c) rfl (zt_iload rfl rfl (zt_call8_1 rfl (Nat.le_of_ble_eq_true rfl) (Nat.le_of_ble_eq_true rfl) (Nat.le_of_ble_eq_true rfl) rfl rfl))))
set_option maxRecDepth 100000 in
theorem q54_29_2 (E : mj_E) (d c : Nat) (hi : Nat → Nat → Int32) (hl : Nat → Nat → Int64) (v1 : Int32) (v2 : Int32) (v3 : Int32) (v4 : Int32) (v5 : Int32) (v6 : Int32) (s0 : Int32) (s1 : Int32) : mj_den mj_P E d 54 29 [Value.ref 159, Value.int v1, Value.int v2, Value.int v3, Value.int v4, Value.int v5, Value.int v6] [Value.int s0, Value.int s1] (mj_hw 5 c hi hl) = if s0 ≤ s1 then mj_den mj_P E d 54 44 [Value.ref 159, Value.int v1, Value.int v2, Value.int v3, Value.int v4, Value.int v5, Value.int v6] [] (mj_hw 5 c hi hl) else mj_bi (mj_dc mj_P E d 298 [Value.retAddr 5, Value.int v5] (mj_hw 5 c hi hl)) (fun x1 h1 => mj_den mj_P E d 54 41 [Value.ref 159, Value.int v1, Value.int v2, Value.int v3, Value.int v4, Value.int v5, Value.int v6] [Value.int x1] h1) := by
  rw [mj_den_eq, f54_29]
  exact zt_icmp_ge rfl rfl (zt_aload_n rfl rfl (zt_getc (mjkd159 _ _ _ _) (mjhr_w 5 c) rfl (zt_iload rfl rfl (zt_call8_1 rfl (Nat.le_of_ble_eq_true rfl) (Nat.le_of_ble_eq_true rfl) (Nat.le_of_ble_eq_true rfl) rfl rfl))))
set_option maxRecDepth 100000 in
theorem q54_29_3 (E : mj_E) (d c : Nat) (hi : Nat → Nat → Int32) (hl : Nat → Nat → Int64) (v1 : Int32) (v2 : Int32) (v3 : Int32) (v4 : Int32) (v5 : Int32) (v6 : Int32) (s0 : Int32) (s1 : Int32) : mj_den mj_P E d 54 29 [Value.ref 159, Value.int v1, Value.int v2, Value.int v3, Value.int v4, Value.int v5, Value.int v6] [Value.int s0, Value.int s1] (mj_hw 4 c hi hl) = if s0 ≤ s1 then mj_den mj_P E d 54 44 [Value.ref 159, Value.int v1, Value.int v2, Value.int v3, Value.int v4, Value.int v5, Value.int v6] [] (mj_hw 4 c hi hl) else mj_bi (mj_dc mj_P E d 298 [Value.retAddr 4, Value.int v5] (mj_hw 4 c hi hl)) (fun x1 h1 => mj_den mj_P E d 54 41 [Value.ref 159, Value.int v1, Value.int v2, Value.int v3, Value.int v4, Value.int v5, Value.int v6] [Value.int x1] h1) := by
  rw [mj_den_eq, f54_29]
  exact zt_icmp_ge rfl rfl (zt_aload_n rfl rfl (zt_getc (mjkd159 _ _ _ _) (mjhr_w 4 c) rfl (zt_iload rfl rfl (zt_call8_1 rfl (Nat.le_of_ble_eq_true rfl) (Nat.le_of_ble_eq_true rfl) (Nat.le_of_ble_eq_true rfl) rfl rfl))))
set_option maxRecDepth 100000 in
theorem q54_29_4 (E : mj_E) (d c : Nat) (hi : Nat → Nat → Int32) (hl : Nat → Nat → Int64) (v1 : Int32) (v2 : Int32) (v3 : Int32) (v4 : Int32) (v5 : Int32) (v6 : Int32) (s0 : Int32) (s1 : Int32) : mj_den mj_P E d 54 29 [Value.ref 159, Value.int v1, Value.int v2, Value.int v3, Value.int v4, Value.int v5, Value.int v6] [Value.int s0, Value.int s1] (mj_hw 3 c hi hl) = if s0 ≤ s1 then mj_den mj_P E d 54 44 [Value.ref 159, Value.int v1, Value.int v2, Value.int v3, Value.int v4, Value.int v5, Value.int v6] [] (mj_hw 3 c hi hl) else mj_bi (mj_dc mj_P E d 298 [Value.retAddr 3, Value.int v5] (mj_hw 3 c hi hl)) (fun x1 h1 => mj_den mj_P E d 54 41 [Value.ref 159, Value.int v1, Value.int v2, Value.int v3, Value.int v4, Value.int v5, Value.int v6] [Value.int x1] h1) := by
  rw [mj_den_eq, f54_29]
  exact zt_icmp_ge rfl rfl (zt_aload_n rfl rfl (zt_getc (mjkd159 _ _ _ _) (mjhr_w 3 c) rfl (zt_iload rfl rfl (zt_call8_1 rfl (Nat.le_of_ble_eq_true rfl) (Nat.le_of_ble_eq_true rfl) (Nat.le_of_ble_eq_true rfl) rfl rfl))))
set_option maxRecDepth 100000 in
theorem q54_29_5 (E : mj_E) (d c : Nat) (hi : Nat → Nat → Int32) (hl : Nat → Nat → Int64) (v1 : Int32) (v2 : Int32) (v3 : Int32) (v4 : Int32) (v5 : Int32) (s0 : Int32) (s1 : Int32) : mj_den mj_P E d 54 29 [Value.ref 159, Value.int v1, Value.int v2, Value.int v3, Value.int v4, Value.int v5, Value.float 0] [Value.int s0, Value.int s1] (mj_hw 5 c hi hl) = if s0 ≤ s1 then mj_den mj_P E d 54 44 [Value.ref 159, Value.int v1, Value.int v2, Value.int v3, Value.int v4, Value.int v5, Value.float 0] [] (mj_hw 5 c hi hl) else mj_bi (mj_dc mj_P E d 298 [Value.retAddr 5, Value.int v5] (mj_hw 5 c hi hl)) (fun x1 h1 => mj_den mj_P E d 54 41 [Value.ref 159, Value.int v1, Value.int v2, Value.int v3, Value.int v4, Value.int v5, Value.float 0] [Value.int x1] h1) := by
  rw [mj_den_eq, f54_29]
  exact zt_icmp_ge rfl rfl (zt_aload_n rfl rfl (zt_getc (mjkd159 _ _ _ _) (mjhr_w 5 c) rfl (zt_iload rfl rfl (zt_call8_1 rfl (Nat.le_of_ble_eq_true rfl) (Nat.le_of_ble_eq_true rfl) (Nat.le_of_ble_eq_true rfl) rfl rfl))))
set_option maxRecDepth 100000 in
theorem q54_29_6 (E : mj_E) (d c : Nat) (hi : Nat → Nat → Int32) (hl : Nat → Nat → Int64) (v1 : Int32) (v2 : Int32) (v3 : Int32) (v4 : Int32) (v5 : Int32) (s0 : Int32) (s1 : Int32) : mj_den mj_P E d 54 29 [Value.ref 159, Value.int v1, Value.int v2, Value.int v3, Value.int v4, Value.int v5, Value.float 0] [Value.int s0, Value.int s1] (mj_hw 4 c hi hl) = if s0 ≤ s1 then mj_den mj_P E d 54 44 [Value.ref 159, Value.int v1, Value.int v2, Value.int v3, Value.int v4, Value.int v5, Value.float 0] [] (mj_hw 4 c hi hl) else mj_bi (mj_dc mj_P E d 298 [Value.retAddr 4, Value.int v5] (mj_hw 4 c hi hl)) (fun x1 h1 => mj_den mj_P E d 54 41 [Value.ref 159, Value.int v1, Value.int v2, Value.int v3, Value.int v4, Value.int v5, Value.float 0] [Value.int x1] h1) := by
  rw [mj_den_eq, f54_29]
  exact zt_icmp_ge rfl rfl (zt_aload_n rfl rfl (zt_getc (mjkd159 _ _ _ _) (mjhr_w 4 c) rfl (zt_iload rfl rfl (zt_call8_1 rfl (Nat.le_of_ble_eq_true rfl) (Nat.le_of_ble_eq_true rfl) (Nat.le_of_ble_eq_true rfl) rfl rfl))))
set_option maxRecDepth 100000 in
theorem q54_29_7 (E : mj_E) (d c : Nat) (hi : Nat → Nat → Int32) (hl : Nat → Nat → Int64) (v1 : Int32) (v2 : Int32) (v3 : Int32) (v4 : Int32) (v5 : Int32) (s0 : Int32) (s1 : Int32) : mj_den mj_P E d 54 29 [Value.ref 159, Value.int v1, Value.int v2, Value.int v3, Value.int v4, Value.int v5, Value.float 0] [Value.int s0, Value.int s1] (mj_hw 3 c hi hl) = if s0 ≤ s1 then mj_den mj_P E d 54 44 [Value.ref 159, Value.int v1, Value.int v2, Value.int v3, Value.int v4, Value.int v5, Value.float 0] [] (mj_hw 3 c hi hl) else mj_bi (mj_dc mj_P E d 298 [Value.retAddr 3, Value.int v5] (mj_hw 3 c hi hl)) (fun x1 h1 => mj_den mj_P E d 54 41 [Value.ref 159, Value.int v1, Value.int v2, Value.int v3, Value.int v4, Value.int v5, Value.float 0] [Value.int x1] h1) := by
  rw [mj_den_eq, f54_29]
  exact zt_icmp_ge rfl rfl (zt_aload_n rfl rfl (zt_getc (mjkd159 _ _ _ _) (mjhr_w 3 c) rfl (zt_iload rfl rfl (zt_call8_1 rfl (Nat.le_of_ble_eq_true rfl) (Nat.le_of_ble_eq_true rfl) (Nat.le_of_ble_eq_true rfl) rfl rfl))))
set_option maxRecDepth 100000 in
theorem f54_41 : mj_find (mj_P 54).2.2.2.2 41 = [(.goto 5, 3, 0, [46])] := rfl
set_option maxRecDepth 100000 in
theorem q54_41 (E : mj_E) (d w c : Nat) (hi : Nat → Nat → Int32) (hl : Nat → Nat → Int64) (v1 : Int32) (v2 : Int32) (v3 : Int32) (v4 : Int32) (v5 : Int32) (s0 : Int32) : mj_den mj_P E d 54 41 [Value.ref 159, Value.int v1, Value.int v2, Value.int v3, Value.int v4, Value.int v5, Value.float 0] [Value.int s0] (mj_hw w c hi hl) = mj_den mj_P E d 54 46 [Value.ref 159, Value.int v1, Value.int v2, Value.int v3, Value.int v4, Value.int v5, Value.float 0] [Value.int s0] (mj_hw w c hi hl) := by
  rw [mj_den_eq, f54_41]
  exact zt_goto rfl
set_option maxRecDepth 100000 in
theorem q54_41_1 (E : mj_E) (d w c : Nat) (hi : Nat → Nat → Int32) (hl : Nat → Nat → Int64) (v1 : Int32) (v2 : Int32) (v3 : Int32) (v4 : Int32) (v5 : Int32) (v6 : Int32) (s0 : Int32) : mj_den mj_P E d 54 41 [Value.ref 159, Value.int v1, Value.int v2, Value.int v3, Value.int v4, Value.int v5, Value.int v6] [Value.int s0] (mj_hw w c hi hl) = mj_den mj_P E d 54 46 [Value.ref 159, Value.int v1, Value.int v2, Value.int v3, Value.int v4, Value.int v5, Value.int v6] [Value.int s0] (mj_hw w c hi hl) := by
  rw [mj_den_eq, f54_41]
  exact zt_goto rfl
set_option maxRecDepth 100000 in
theorem f54_44 : mj_find (mj_P 54).2.2.2.2 44 = [(.bipush 32, 2, 32, [])] := rfl
set_option maxRecDepth 100000 in
theorem q54_44 (E : mj_E) (d w c : Nat) (hi : Nat → Nat → Int32) (hl : Nat → Nat → Int64) (v1 : Int32) (v2 : Int32) (v3 : Int32) (v4 : Int32) (v5 : Int32) (v6 : Int32) : mj_den mj_P E d 54 44 [Value.ref 159, Value.int v1, Value.int v2, Value.int v3, Value.int v4, Value.int v5, Value.int v6] [] (mj_hw w c hi hl) = mj_den mj_P E d 54 46 [Value.ref 159, Value.int v1, Value.int v2, Value.int v3, Value.int v4, Value.int v5, Value.int v6] [Value.int (32 : Int32)] (mj_hw w c hi hl) := by
  rw [mj_den_eq, f54_44]
  exact zt_bipush rfl (zt_end rfl)
set_option maxRecDepth 100000 in
theorem q54_44_1 (E : mj_E) (d w c : Nat) (hi : Nat → Nat → Int32) (hl : Nat → Nat → Int64) (v1 : Int32) (v2 : Int32) (v3 : Int32) (v4 : Int32) (v5 : Int32) : mj_den mj_P E d 54 44 [Value.ref 159, Value.int v1, Value.int v2, Value.int v3, Value.int v4, Value.int v5, Value.float 0] [] (mj_hw w c hi hl) = mj_den mj_P E d 54 46 [Value.ref 159, Value.int v1, Value.int v2, Value.int v3, Value.int v4, Value.int v5, Value.float 0] [Value.int (32 : Int32)] (mj_hw w c hi hl) := by
  rw [mj_den_eq, f54_44]
  exact zt_bipush rfl (zt_end rfl)
set_option maxRecDepth 100000 in
theorem f54_46 : mj_find (mj_P 54).2.2.2.2 46 = [(.istore 6, 2, 0, []), (.iload 6, 2, 0, []), (.bipush 32, 2, 32, []), (.if_icmp .ne 22, 3, 0, [74]), (.iload 4, 2, 0, []), (.iload_n 2, 1, 0, []), (.iload_n 1, 1, 0, []), (.isub, 1, 0, []), (.if_icmp .ne 5, 3, 0, [65]), (.iload_n 3, 1, 0, []), (.ireturn, 1, 0, [0])] := rfl
set_option maxRecDepth 100000 in
theorem q54_46 (E : mj_E) (d w c : Nat) (hi : Nat → Nat → Int32) (hl : Nat → Nat → Int64) (v1 : Int32) (v2 : Int32) (v3 : Int32) (v4 : Int32) (v5 : Int32) (s0 : Int32) : mj_den mj_P E d 54 46 [Value.ref 159, Value.int v1, Value.int v2, Value.int v3, Value.int v4, Value.int v5, Value.float 0] [Value.int s0] (mj_hw w c hi hl) = if ¬ s0 = (32 : Int32) then mj_den mj_P E d 54 74 [Value.ref 159, Value.int v1, Value.int v2, Value.int v3, Value.int v4, Value.int v5, Value.int s0] [] (mj_hw w c hi hl) else if ¬ v4 = (v2 - v1) then mj_den mj_P E d 54 65 [Value.ref 159, Value.int v1, Value.int v2, Value.int v3, Value.int v4, Value.int v5, Value.int s0] [] (mj_hw w c hi hl) else some (some (Value.int v3), (mj_hw w c hi hl)) := by
  rw [mj_den_eq, f54_46]
  exact zt_istore (Nat.le_of_ble_eq_true rfl) rfl rfl (zt_iload rfl rfl (zt_bipush rfl (zt_icmp_ne rfl rfl (zt_iload rfl rfl (zt_iload_n rfl rfl (zt_iload_n rfl rfl (zt_isub rfl (zt_icmp_ne rfl rfl (zt_iload_n rfl rfl (zt_ireturn0))))))))))
set_option maxRecDepth 100000 in
theorem q54_46_1 (E : mj_E) (d w c : Nat) (hi : Nat → Nat → Int32) (hl : Nat → Nat → Int64) (v1 : Int32) (v2 : Int32) (v3 : Int32) (v4 : Int32) (v5 : Int32) (v6 : Int32) (s0 : Int32) : mj_den mj_P E d 54 46 [Value.ref 159, Value.int v1, Value.int v2, Value.int v3, Value.int v4, Value.int v5, Value.int v6] [Value.int s0] (mj_hw w c hi hl) = if ¬ s0 = (32 : Int32) then mj_den mj_P E d 54 74 [Value.ref 159, Value.int v1, Value.int v2, Value.int v3, Value.int v4, Value.int v5, Value.int s0] [] (mj_hw w c hi hl) else if ¬ v4 = (v2 - v1) then mj_den mj_P E d 54 65 [Value.ref 159, Value.int v1, Value.int v2, Value.int v3, Value.int v4, Value.int v5, Value.int s0] [] (mj_hw w c hi hl) else some (some (Value.int v3), (mj_hw w c hi hl)) := by
  rw [mj_den_eq, f54_46]
  exact zt_istore (Nat.le_of_ble_eq_true rfl) rfl rfl (zt_iload rfl rfl (zt_bipush rfl (zt_icmp_ne rfl rfl (zt_iload rfl rfl (zt_iload_n rfl rfl (zt_iload_n rfl rfl (zt_isub rfl (zt_icmp_ne rfl rfl (zt_iload_n rfl rfl (zt_ireturn0))))))))))
set_option maxRecDepth 100000 in
theorem f54_65 : mj_find (mj_P 54).2.2.2.2 65 = [(.iinc 3 1, 3, 1, []), (.iconst 0, 1, 0, []), (.istore 4, 2, 0, []), (.goto 41, 3, 0, [112])] := rfl
set_option maxRecDepth 100000 in
theorem q54_65 (E : mj_E) (d w c : Nat) (hi : Nat → Nat → Int32) (hl : Nat → Nat → Int64) (v1 : Int32) (v2 : Int32) (v3 : Int32) (v4 : Int32) (v5 : Int32) (v6 : Int32) : mj_den mj_P E d 54 65 [Value.ref 159, Value.int v1, Value.int v2, Value.int v3, Value.int v4, Value.int v5, Value.int v6] [] (mj_hw w c hi hl) = mj_den mj_P E d 54 112 [Value.ref 159, Value.int v1, Value.int v2, Value.int (v3 + (1 : Int32)), Value.int (0 : Int32), Value.int v5, Value.int v6] [] (mj_hw w c hi hl) := by
  rw [mj_den_eq, f54_65]
  exact zt_iinc rfl (Nat.le_of_ble_eq_true rfl) rfl rfl (zt_iconst rfl (zt_istore (Nat.le_of_ble_eq_true rfl) rfl rfl (zt_goto rfl)))
set_option maxRecDepth 100000 in
theorem f54_74 : mj_find (mj_P 54).2.2.2.2 74 = [(.iload 4, 2, 0, []), (.iconst (-1), 1, (-1), []), (.if_icmp .eq 35, 3, 0, [112]), (.iload_n 1, 1, 0, []), (.iload 4, 2, 0, []), (.iadd, 1, 0, []), (.iload_n 2, 1, 0, []), (.if_icmp .ge 24, 3, 0, [109]), (.aload_n 0, 1, 0, []), (.getfield 35, 3, 0, [6, 5, 3, 494]), (.iload_n 1, 1, 0, []), (.iload 4, 2, 0, []), (.iadd, 1, 0, []), (.baload, 1, 0, []), (.iload 6, 2, 0, []), (.if_icmp .ne 10, 3, 0, [109]), (.iload 4, 2, 0, []), (.iconst 1, 1, 1, []), (.iadd, 1, 0, []), (.goto 4, 3, 0, [110])] := rfl
set_option maxRecDepth 100000 in
theorem q54_74 (E : mj_E) (d w c : Nat) (hi : Nat → Nat → Int32) (hl : Nat → Nat → Int64) (v1 : Int32) (v2 : Int32) (v3 : Int32) (v4 : Int32) (v5 : Int32) (v6 : Int32) : mj_den mj_P E d 54 74 [Value.ref 159, Value.int v1, Value.int v2, Value.int v3, Value.int v4, Value.int v5, Value.int v6] [] (mj_hw w c hi hl) = if v4 = (-1 : Int32) then mj_den mj_P E d 54 112 [Value.ref 159, Value.int v1, Value.int v2, Value.int v3, Value.int v4, Value.int v5, Value.int v6] [] (mj_hw w c hi hl) else if v2 ≤ (v1 + v4) then mj_den mj_P E d 54 109 [Value.ref 159, Value.int v1, Value.int v2, Value.int v3, Value.int v4, Value.int v5, Value.int v6] [] (mj_hw w c hi hl) else if 0 ≤ (v1 + v4) ∧ ((v1 + v4)).toNatClampNeg < 400 then if ¬ (hi 173 (((v1 + v4)).toNatClampNeg)) = v6 then mj_den mj_P E d 54 109 [Value.ref 159, Value.int v1, Value.int v2, Value.int v3, Value.int v4, Value.int v5, Value.int v6] [] (mj_hw w c hi hl) else mj_den mj_P E d 54 110 [Value.ref 159, Value.int v1, Value.int v2, Value.int v3, Value.int v4, Value.int v5, Value.int v6] [Value.int (v4 + (1 : Int32))] (mj_hw w c hi hl) else none := by
  rw [mj_den_eq, f54_74]
  exact zt_iload rfl rfl (zt_iconst rfl (zt_icmp_eq rfl rfl (zt_iload_n rfl rfl (zt_iload rfl rfl (zt_iadd rfl (zt_iload_n rfl rfl (zt_icmp_ge rfl rfl (zt_aload_n rfl rfl (zt_getr (mjkd159 _ _ _ _) (mjhr159_5 w c) rfl (zt_iload_n rfl rfl (zt_iload rfl rfl (zt_iadd rfl (zt_bald (mjkd173 _ _ _ _) (mjln173 _ _ _ _) rfl rfl (zt_iload rfl rfl (zt_icmp_ne rfl rfl (zt_iload rfl rfl (zt_iconst rfl (zt_iadd rfl (zt_goto rfl)))))))))))))))))))
set_option maxRecDepth 100000 in
theorem f54_109 : mj_find (mj_P 54).2.2.2.2 109 = [(.iconst (-1), 1, (-1), [])] := rfl
set_option maxRecDepth 100000 in
theorem q54_109 (E : mj_E) (d w c : Nat) (hi : Nat → Nat → Int32) (hl : Nat → Nat → Int64) (v1 : Int32) (v2 : Int32) (v3 : Int32) (v4 : Int32) (v5 : Int32) (v6 : Int32) : mj_den mj_P E d 54 109 [Value.ref 159, Value.int v1, Value.int v2, Value.int v3, Value.int v4, Value.int v5, Value.int v6] [] (mj_hw w c hi hl) = mj_den mj_P E d 54 110 [Value.ref 159, Value.int v1, Value.int v2, Value.int v3, Value.int v4, Value.int v5, Value.int v6] [Value.int (-1 : Int32)] (mj_hw w c hi hl) := by
  rw [mj_den_eq, f54_109]
  exact zt_iconst rfl (zt_end rfl)
set_option maxRecDepth 100000 in
theorem f54_110 : mj_find (mj_P 54).2.2.2.2 110 = [(.istore 4, 2, 0, [])] := rfl
set_option maxRecDepth 100000 in
theorem q54_110 (E : mj_E) (d w c : Nat) (hi : Nat → Nat → Int32) (hl : Nat → Nat → Int64) (v1 : Int32) (v2 : Int32) (v3 : Int32) (v4 : Int32) (v5 : Int32) (v6 : Int32) (s0 : Int32) : mj_den mj_P E d 54 110 [Value.ref 159, Value.int v1, Value.int v2, Value.int v3, Value.int v4, Value.int v5, Value.int v6] [Value.int s0] (mj_hw w c hi hl) = mj_den mj_P E d 54 112 [Value.ref 159, Value.int v1, Value.int v2, Value.int v3, Value.int s0, Value.int v5, Value.int v6] [] (mj_hw w c hi hl) := by
  rw [mj_den_eq, f54_110]
  exact zt_istore (Nat.le_of_ble_eq_true rfl) rfl rfl (zt_end rfl)
set_option maxRecDepth 100000 in
theorem f54_112 : mj_find (mj_P 54).2.2.2.2 112 = [(.iinc 5 1, 3, 1, []), (.goto (-107), 3, 0, [8])] := rfl
set_option maxRecDepth 100000 in
theorem q54_112 (E : mj_E) (d w c : Nat) (hi : Nat → Nat → Int32) (hl : Nat → Nat → Int64) (v1 : Int32) (v2 : Int32) (v3 : Int32) (v4 : Int32) (v5 : Int32) (v6 : Int32) : mj_den mj_P E d 54 112 [Value.ref 159, Value.int v1, Value.int v2, Value.int v3, Value.int v4, Value.int v5, Value.int v6] [] (mj_hw w c hi hl) = mj_den mj_P E d 54 8 [Value.ref 159, Value.int v1, Value.int v2, Value.int v3, Value.int v4, Value.int (v5 + (1 : Int32)), Value.int v6] [] (mj_hw w c hi hl) := by
  rw [mj_den_eq, f54_112]
  exact zt_iinc rfl (Nat.le_of_ble_eq_true rfl) rfl rfl (zt_goto rfl)
set_option maxRecDepth 100000 in
theorem f54_118 : mj_find (mj_P 54).2.2.2.2 118 = [(.iconst (-1), 1, (-1), []), (.ireturn, 1, 0, [0])] := rfl
set_option maxRecDepth 100000 in
theorem q54_118 (E : mj_E) (d w c : Nat) (hi : Nat → Nat → Int32) (hl : Nat → Nat → Int64) (v1 : Int32) (v2 : Int32) (v3 : Int32) (v4 : Int32) (v5 : Int32) (v6 : Int32) : mj_den mj_P E d 54 118 [Value.ref 159, Value.int v1, Value.int v2, Value.int v3, Value.int v4, Value.int v5, Value.int v6] [] (mj_hw w c hi hl) = some (some (Value.int (-1 : Int32)), (mj_hw w c hi hl)) := by
  rw [mj_den_eq, f54_118]
  exact zt_iconst rfl (zt_ireturn0)
set_option maxRecDepth 100000 in
theorem q54_118_1 (E : mj_E) (d w c : Nat) (hi : Nat → Nat → Int32) (hl : Nat → Nat → Int64) (v1 : Int32) (v2 : Int32) (v3 : Int32) (v4 : Int32) (v5 : Int32) : mj_den mj_P E d 54 118 [Value.ref 159, Value.int v1, Value.int v2, Value.int v3, Value.int v4, Value.int v5, Value.float 0] [] (mj_hw w c hi hl) = some (some (Value.int (-1 : Int32)), (mj_hw w c hi hl)) := by
  rw [mj_den_eq, f54_118]
  exact zt_iconst rfl (zt_ireturn0)
set_option maxRecDepth 100000 in
theorem f55_0 : mj_find (mj_P 55).2.2.2.2 0 = [(.aload_n 0, 1, 0, []), (.dup, 1, 0, []), (.getfield 54, 3, 0, [6, 10, 0, 499]), (.iconst 1, 1, 1, []), (.iadd, 1, 0, []), (.putfield 54, 3, 0, [6, 10, 0, 499]), (.aload_n 0, 1, 0, []), (.getfield 54, 3, 0, [6, 10, 0, 499]), (.ifCond .lt 28, 3, 0, [42]), (.aload_n 0, 1, 0, []), (.getfield 54, 3, 0, [6, 10, 0, 499]), (.aload_n 0, 1, 0, []), (.getfield 51, 3, 0, [6, 9, 0, 498]), (.if_icmp .ge 17, 3, 0, [42]), (.aload_n 0, 1, 0, []), (.getfield 54, 3, 0, [6, 10, 0, 499]), (.sipush 400, 3, 400, []), (.if_icmp .gt 7, 3, 0, [42]), (.iconst 1, 1, 1, []), (.goto 4, 3, 0, [43])] := rfl
set_option maxRecDepth 100000 in
theorem q55_0 (E : mj_E) (d w c : Nat) (hi : Nat → Nat → Int32) (hl : Nat → Nat → Int64) : mj_den mj_P E d 55 0 [Value.ref 159, Value.float 0] [] (mj_hw w c hi hl) = if ((hi 159 10) + (1 : Int32)) < 0 then mj_den mj_P E d 55 42 [Value.ref 159, Value.float 0] [] (mj_hw w c (mj_u hi 159 10 ((hi 159 10) + (1 : Int32))) hl) else if (hi 159 9) ≤ ((hi 159 10) + (1 : Int32)) then mj_den mj_P E d 55 42 [Value.ref 159, Value.float 0] [] (mj_hw w c (mj_u hi 159 10 ((hi 159 10) + (1 : Int32))) hl) else if (400 : Int32) < ((hi 159 10) + (1 : Int32)) then mj_den mj_P E d 55 42 [Value.ref 159, Value.float 0] [] (mj_hw w c (mj_u hi 159 10 ((hi 159 10) + (1 : Int32))) hl) else mj_den mj_P E d 55 43 [Value.ref 159, Value.float 0] [Value.int (1 : Int32)] (mj_hw w c (mj_u hi 159 10 ((hi 159 10) + (1 : Int32))) hl) := by
  rw [mj_den_eq, f55_0]
  exact zt_aload_n rfl rfl (zt_dupr rfl (zt_geti (mjkd159 _ _ _ _) rfl rfl (zt_iconst rfl (zt_iadd rfl (zt_puti (mjkd159 _ _ _ _) rfl rfl (zt_aload_n rfl rfl (zt_geti (mjkd159 _ _ _ _) rfl rfl (zt_if_lt rfl rfl (zt_aload_n rfl rfl (zt_geti (mjkd159 _ _ _ _) rfl rfl (zt_aload_n rfl rfl (zt_geti (mjkd159 _ _ _ _) rfl rfl (zt_icmp_ge rfl rfl (zt_aload_n rfl rfl (zt_geti (mjkd159 _ _ _ _) rfl rfl (zt_sipush rfl (zt_icmp_gt rfl rfl (zt_iconst rfl (zt_goto rfl)))))))))))))))))))
set_option maxRecDepth 100000 in
theorem f55_42 : mj_find (mj_P 55).2.2.2.2 42 = [(.iconst 0, 1, 0, [])] := rfl
set_option maxRecDepth 100000 in
theorem q55_42 (E : mj_E) (d w c : Nat) (hi : Nat → Nat → Int32) (hl : Nat → Nat → Int64) : mj_den mj_P E d 55 42 [Value.ref 159, Value.float 0] [] (mj_hw w c hi hl) = mj_den mj_P E d 55 43 [Value.ref 159, Value.float 0] [Value.int (0 : Int32)] (mj_hw w c hi hl) := by
  rw [mj_den_eq, f55_42]
  exact zt_iconst rfl (zt_end rfl)
set_option maxRecDepth 100000 in
theorem f55_43 : mj_find (mj_P 55).2.2.2.2 43 = [(.istore_n 1, 1, 0, []), (.aload_n 0, 1, 0, []), (.iload_n 1, 1, 0, []), (.ifCond .eq 15, 3, 0, [61]), (.aload_n 0, 1, 0, []), (.getfield 66, 3, 0, [6, 14, 3, 503]), (.aload_n 0, 1, 0, []), (.getfield 54, 3, 0, [6, 10, 0, 499]), (.iaload, 1, 0, []), (.goto 4, 3, 0, [62])] := rfl
set_option maxRecDepth 100000 in
theorem q55_43 (E : mj_E) (d w c : Nat) (hi : Nat → Nat → Int32) (hl : Nat → Nat → Int64) (s0 : Int32) : mj_den mj_P E d 55 43 [Value.ref 159, Value.float 0] [Value.int s0] (mj_hw w c hi hl) = if s0 = 0 then mj_den mj_P E d 55 61 [Value.ref 159, Value.int s0] [Value.ref 159] (mj_hw w c hi hl) else if 0 ≤ (hi 159 10) ∧ ((hi 159 10)).toNatClampNeg < 401 then mj_den mj_P E d 55 62 [Value.ref 159, Value.int s0] [Value.int (hi 174 (((hi 159 10)).toNatClampNeg)), Value.ref 159] (mj_hw w c hi hl) else none := by
  rw [mj_den_eq, f55_43]
  exact zt_istore_n (Nat.le_of_ble_eq_true rfl) rfl rfl (zt_aload_n rfl rfl (zt_iload_n rfl rfl (zt_if_eq rfl rfl (zt_aload_n rfl rfl (zt_getr (mjkd159 _ _ _ _) (mjhr159_14 w c) rfl (zt_aload_n rfl rfl (zt_geti (mjkd159 _ _ _ _) rfl rfl (zt_iald (mjkd174 _ _ _ _) (mjln174 _ _ _ _) rfl rfl (zt_goto rfl)))))))))
set_option maxRecDepth 100000 in
theorem f55_61 : mj_find (mj_P 55).2.2.2.2 61 = [(.iconst 0, 1, 0, [])] := rfl
set_option maxRecDepth 100000 in
theorem q55_61 (E : mj_E) (d w c : Nat) (hi : Nat → Nat → Int32) (hl : Nat → Nat → Int64) (v1 : Int32) : mj_den mj_P E d 55 61 [Value.ref 159, Value.int v1] [Value.ref 159] (mj_hw w c hi hl) = mj_den mj_P E d 55 62 [Value.ref 159, Value.int v1] [Value.int (0 : Int32), Value.ref 159] (mj_hw w c hi hl) := by
  rw [mj_den_eq, f55_61]
  exact zt_iconst rfl (zt_end rfl)
set_option maxRecDepth 100000 in
theorem f55_62 : mj_find (mj_P 55).2.2.2.2 62 = [(.putfield 57, 3, 0, [6, 11, 0, 500]), (.aload_n 0, 1, 0, []), (.iload_n 1, 1, 0, []), (.ifCond .eq 15, 3, 0, [82]), (.aload_n 0, 1, 0, []), (.getfield 70, 3, 0, [6, 15, 3, 504]), (.aload_n 0, 1, 0, []), (.getfield 54, 3, 0, [6, 10, 0, 499]), (.iaload, 1, 0, []), (.goto 4, 3, 0, [83])] := rfl
set_option maxRecDepth 100000 in
theorem q55_62 (E : mj_E) (d w c : Nat) (hi : Nat → Nat → Int32) (hl : Nat → Nat → Int64) (v1 : Int32) (s0 : Int32) : mj_den mj_P E d 55 62 [Value.ref 159, Value.int v1] [Value.int s0, Value.ref 159] (mj_hw w c hi hl) = if v1 = 0 then mj_den mj_P E d 55 82 [Value.ref 159, Value.int v1] [Value.ref 159] (mj_hw w c (mj_u hi 159 11 s0) hl) else if 0 ≤ (hi 159 10) ∧ ((hi 159 10)).toNatClampNeg < 401 then mj_den mj_P E d 55 83 [Value.ref 159, Value.int v1] [Value.int (hi 175 (((hi 159 10)).toNatClampNeg)), Value.ref 159] (mj_hw w c (mj_u hi 159 11 s0) hl) else none := by
  rw [mj_den_eq, f55_62]
  exact zt_puti (mjkd159 _ _ _ _) rfl rfl (zt_aload_n rfl rfl (zt_iload_n rfl rfl (zt_if_eq rfl rfl (zt_aload_n rfl rfl (zt_getr (mjkd159 _ _ _ _) (mjhr159_15 w c) rfl (zt_aload_n rfl rfl (zt_geti (mjkd159 _ _ _ _) rfl rfl (zt_iald (mjkd175 _ _ _ _) (mjln175 _ _ _ _) rfl rfl (zt_goto rfl)))))))))
set_option maxRecDepth 100000 in
theorem f55_82 : mj_find (mj_P 55).2.2.2.2 82 = [(.iconst 0, 1, 0, [])] := rfl
set_option maxRecDepth 100000 in
theorem q55_82 (E : mj_E) (d w c : Nat) (hi : Nat → Nat → Int32) (hl : Nat → Nat → Int64) (v1 : Int32) : mj_den mj_P E d 55 82 [Value.ref 159, Value.int v1] [Value.ref 159] (mj_hw w c hi hl) = mj_den mj_P E d 55 83 [Value.ref 159, Value.int v1] [Value.int (0 : Int32), Value.ref 159] (mj_hw w c hi hl) := by
  rw [mj_den_eq, f55_82]
  exact zt_iconst rfl (zt_end rfl)
set_option maxRecDepth 100000 in
theorem f55_83 : mj_find (mj_P 55).2.2.2.2 83 = [(.putfield 60, 3, 0, [6, 12, 0, 501]), (.aload_n 0, 1, 0, []), (.iload_n 1, 1, 0, []), (.ifCond .eq 15, 3, 0, [103]), (.aload_n 0, 1, 0, []), (.getfield 73, 3, 0, [6, 16, 3, 505]), (.aload_n 0, 1, 0, []), (.getfield 54, 3, 0, [6, 10, 0, 499]), (.iaload, 1, 0, []), (.goto 7, 3, 0, [107])] := rfl
set_option maxRecDepth 100000 in
theorem q55_83 (E : mj_E) (d w c : Nat) (hi : Nat → Nat → Int32) (hl : Nat → Nat → Int64) (v1 : Int32) (s0 : Int32) : mj_den mj_P E d 55 83 [Value.ref 159, Value.int v1] [Value.int s0, Value.ref 159] (mj_hw w c hi hl) = if v1 = 0 then mj_den mj_P E d 55 103 [Value.ref 159, Value.int v1] [Value.ref 159] (mj_hw w c (mj_u hi 159 12 s0) hl) else if 0 ≤ (hi 159 10) ∧ ((hi 159 10)).toNatClampNeg < 401 then mj_den mj_P E d 55 107 [Value.ref 159, Value.int v1] [Value.int (hi 176 (((hi 159 10)).toNatClampNeg)), Value.ref 159] (mj_hw w c (mj_u hi 159 12 s0) hl) else none := by
  rw [mj_den_eq, f55_83]
  exact zt_puti (mjkd159 _ _ _ _) rfl rfl (zt_aload_n rfl rfl (zt_iload_n rfl rfl (zt_if_eq rfl rfl (zt_aload_n rfl rfl (zt_getr (mjkd159 _ _ _ _) (mjhr159_16 w c) rfl (zt_aload_n rfl rfl (zt_geti (mjkd159 _ _ _ _) rfl rfl (zt_iald (mjkd176 _ _ _ _) (mjln176 _ _ _ _) rfl rfl (zt_goto rfl)))))))))
set_option maxRecDepth 100000 in
theorem f55_103 : mj_find (mj_P 55).2.2.2.2 103 = [(.aload_n 0, 1, 0, []), (.getfield 9, 3, 0, [6, 0, 0, 484])] := rfl
set_option maxRecDepth 100000 in
theorem q55_103 (E : mj_E) (d w c : Nat) (hi : Nat → Nat → Int32) (hl : Nat → Nat → Int64) (v1 : Int32) : mj_den mj_P E d 55 103 [Value.ref 159, Value.int v1] [Value.ref 159] (mj_hw w c hi hl) = mj_den mj_P E d 55 107 [Value.ref 159, Value.int v1] [Value.int (hi 159 0), Value.ref 159] (mj_hw w c hi hl) := by
  rw [mj_den_eq, f55_103]
  exact zt_aload_n rfl rfl (zt_geti (mjkd159 _ _ _ _) rfl rfl (zt_end rfl))
set_option maxRecDepth 100000 in
theorem f55_107 : mj_find (mj_P 55).2.2.2.2 107 = [(.putfield 63, 3, 0, [6, 13, 0, 502]), (.return_, 1, 0, [])] := rfl
set_option maxRecDepth 100000 in
theorem q55_107 (E : mj_E) (d w c : Nat) (hi : Nat → Nat → Int32) (hl : Nat → Nat → Int64) (v1 : Int32) (s0 : Int32) : mj_den mj_P E d 55 107 [Value.ref 159, Value.int v1] [Value.int s0, Value.ref 159] (mj_hw w c hi hl) = some (none, (mj_hw w c (mj_u hi 159 13 s0) hl)) := by
  rw [mj_den_eq, f55_107]
  exact zt_puti (mjkd159 _ _ _ _) rfl rfl (zt_return)
set_option maxRecDepth 100000 in
theorem f56_0 : mj_find (mj_P 56).2.2.2.2 0 = [(.aload_n 0, 1, 0, []), (.getfield 57, 3, 0, [6, 11, 0, 500]), (.iconst 3, 1, 3, []), (.if_icmp .ne 15, 3, 0, [20]), (.aload_n 0, 1, 0, []), (.getfield 60, 3, 0, [6, 12, 0, 501]), (.iload_n 1, 1, 0, []), (.if_icmp .ne 7, 3, 0, [20]), (.iconst 1, 1, 1, []), (.goto 4, 3, 0, [21])] := rfl
set_option maxRecDepth 100000 in
theorem q56_0 (E : mj_E) (d w c : Nat) (hi : Nat → Nat → Int32) (hl : Nat → Nat → Int64) (v1 : Int32) : mj_den mj_P E d 56 0 [Value.ref 159, Value.int v1] [] (mj_hw w c hi hl) = if ¬ (hi 159 11) = (3 : Int32) then mj_den mj_P E d 56 20 [Value.ref 159, Value.int v1] [] (mj_hw w c hi hl) else if ¬ (hi 159 12) = v1 then mj_den mj_P E d 56 20 [Value.ref 159, Value.int v1] [] (mj_hw w c hi hl) else mj_den mj_P E d 56 21 [Value.ref 159, Value.int v1] [Value.int (1 : Int32)] (mj_hw w c hi hl) := by
  rw [mj_den_eq, f56_0]
  exact zt_aload_n rfl rfl (zt_geti (mjkd159 _ _ _ _) rfl rfl (zt_iconst rfl (zt_icmp_ne rfl rfl (zt_aload_n rfl rfl (zt_geti (mjkd159 _ _ _ _) rfl rfl (zt_iload_n rfl rfl (zt_icmp_ne rfl rfl (zt_iconst rfl (zt_goto rfl)))))))))
set_option maxRecDepth 100000 in
theorem f56_20 : mj_find (mj_P 56).2.2.2.2 20 = [(.iconst 0, 1, 0, [])] := rfl
set_option maxRecDepth 100000 in
theorem q56_20 (E : mj_E) (d w c : Nat) (hi : Nat → Nat → Int32) (hl : Nat → Nat → Int64) (v1 : Int32) : mj_den mj_P E d 56 20 [Value.ref 159, Value.int v1] [] (mj_hw w c hi hl) = mj_den mj_P E d 56 21 [Value.ref 159, Value.int v1] [Value.int (0 : Int32)] (mj_hw w c hi hl) := by
  rw [mj_den_eq, f56_20]
  exact zt_iconst rfl (zt_end rfl)
set_option maxRecDepth 100000 in
theorem f56_21 : mj_find (mj_P 56).2.2.2.2 21 = [(.ireturn, 1, 0, [1])] := rfl
set_option maxRecDepth 100000 in
theorem q56_21 (E : mj_E) (d w c : Nat) (hi : Nat → Nat → Int32) (hl : Nat → Nat → Int64) (v1 : Int32) (s0 : Int32) : mj_den mj_P E d 56 21 [Value.ref 159, Value.int v1] [Value.int s0] (mj_hw w c hi hl) = if s0 = 0 ∨ s0 = 1 then some (some (Value.int s0), (mj_hw w c hi hl)) else none := by
  rw [mj_den_eq, f56_21]
  exact zt_ireturn1
set_option maxRecDepth 100000 in
theorem f57_0 : mj_find (mj_P 57).2.2.2.2 0 = [(.aload_n 0, 1, 0, []), (.getfield 57, 3, 0, [6, 11, 0, 500]), (.iconst 2, 1, 2, []), (.if_icmp .ne 15, 3, 0, [20]), (.aload_n 0, 1, 0, []), (.getfield 60, 3, 0, [6, 12, 0, 501]), (.iload_n 1, 1, 0, []), (.if_icmp .ne 7, 3, 0, [20]), (.iconst 1, 1, 1, []), (.goto 4, 3, 0, [21])] := rfl
set_option maxRecDepth 100000 in
theorem q57_0 (E : mj_E) (d w c : Nat) (hi : Nat → Nat → Int32) (hl : Nat → Nat → Int64) (v1 : Int32) : mj_den mj_P E d 57 0 [Value.ref 159, Value.int v1] [] (mj_hw w c hi hl) = if ¬ (hi 159 11) = (2 : Int32) then mj_den mj_P E d 57 20 [Value.ref 159, Value.int v1] [] (mj_hw w c hi hl) else if ¬ (hi 159 12) = v1 then mj_den mj_P E d 57 20 [Value.ref 159, Value.int v1] [] (mj_hw w c hi hl) else mj_den mj_P E d 57 21 [Value.ref 159, Value.int v1] [Value.int (1 : Int32)] (mj_hw w c hi hl) := by
  rw [mj_den_eq, f57_0]
  exact zt_aload_n rfl rfl (zt_geti (mjkd159 _ _ _ _) rfl rfl (zt_iconst rfl (zt_icmp_ne rfl rfl (zt_aload_n rfl rfl (zt_geti (mjkd159 _ _ _ _) rfl rfl (zt_iload_n rfl rfl (zt_icmp_ne rfl rfl (zt_iconst rfl (zt_goto rfl)))))))))
set_option maxRecDepth 100000 in
theorem f57_20 : mj_find (mj_P 57).2.2.2.2 20 = [(.iconst 0, 1, 0, [])] := rfl
set_option maxRecDepth 100000 in
theorem q57_20 (E : mj_E) (d w c : Nat) (hi : Nat → Nat → Int32) (hl : Nat → Nat → Int64) (v1 : Int32) : mj_den mj_P E d 57 20 [Value.ref 159, Value.int v1] [] (mj_hw w c hi hl) = mj_den mj_P E d 57 21 [Value.ref 159, Value.int v1] [Value.int (0 : Int32)] (mj_hw w c hi hl) := by
  rw [mj_den_eq, f57_20]
  exact zt_iconst rfl (zt_end rfl)
set_option maxRecDepth 100000 in
theorem f57_21 : mj_find (mj_P 57).2.2.2.2 21 = [(.ireturn, 1, 0, [1])] := rfl
set_option maxRecDepth 100000 in
theorem q57_21 (E : mj_E) (d w c : Nat) (hi : Nat → Nat → Int32) (hl : Nat → Nat → Int64) (v1 : Int32) (s0 : Int32) : mj_den mj_P E d 57 21 [Value.ref 159, Value.int v1] [Value.int s0] (mj_hw w c hi hl) = if s0 = 0 ∨ s0 = 1 then some (some (Value.int s0), (mj_hw w c hi hl)) else none := by
  rw [mj_den_eq, f57_21]
  exact zt_ireturn1
set_option maxRecDepth 100000 in
theorem f58_0 : mj_find (mj_P 58).2.2.2.2 0 = [(.aload_n 0, 1, 0, []), (.iload_n 1, 1, 0, []), (.putfield 15, 3, 0, [6, 1, 0, 486]), (.aload_n 0, 1, 0, []), (.aload_n 0, 1, 0, []), (.getfield 63, 3, 0, [6, 13, 0, 502]), (.putfield 18, 3, 0, [6, 2, 0, 488]), (.iconst 0, 1, 0, []), (.ireturn, 1, 0, [1])] := rfl
set_option maxRecDepth 100000 in
theorem q58_0 (E : mj_E) (d w c : Nat) (hi : Nat → Nat → Int32) (hl : Nat → Nat → Int64) (v1 : Int32) : mj_den mj_P E d 58 0 [Value.ref 159, Value.int v1] [] (mj_hw w c hi hl) = if (0 : Int32) = 0 ∨ (0 : Int32) = 1 then some (some (Value.int (0 : Int32)), (mj_hw w c (mj_u (mj_u hi 159 1 v1) 159 2 (hi 159 13)) hl)) else none := by
  rw [mj_den_eq, f58_0]
  exact zt_aload_n rfl rfl (zt_iload_n rfl rfl (zt_puti (mjkd159 _ _ _ _) rfl rfl (zt_aload_n rfl rfl (zt_aload_n rfl rfl (zt_geti (mjkd159 _ _ _ _) rfl rfl (zt_puti (mjkd159 _ _ _ _) rfl rfl (zt_iconst rfl (zt_ireturn1))))))))
set_option maxRecDepth 100000 in
theorem f59_0 : mj_find (mj_P 59).2.2.2.2 0 = [(.aload_n 0, 1, 0, []), (.iload_n 1, 1, 0, []), (.invokevirtual 147, 3, 0, [0, 56, 6, 1, 1, 1000, 1002, 15, 150, 1003])] := rfl
set_option maxRecDepth 100000 in
theorem q59_0 (E : mj_E) (d w c : Nat) (hi : Nat → Nat → Int32) (hl : Nat → Nat → Int64) (v1 : Int32) : mj_den mj_P E d 59 0 [Value.ref 159, Value.int v1] [] (mj_hw w c hi hl) = mj_bi (mj_dc mj_P E d 56 [Value.ref 159, Value.int v1] (mj_hw w c hi hl)) (fun x1 h1 => mj_den mj_P E d 59 5 [Value.ref 159, Value.int v1] [Value.int x1] h1) := by
  rw [mj_den_eq, f59_0]
  exact zt_aload_n rfl rfl (zt_iload_n rfl rfl (zt_call0_1 rfl (mjkd159 _ _ _ _) (Nat.le_of_ble_eq_true rfl) rfl rfl))
set_option maxRecDepth 100000 in
theorem f59_5 : mj_find (mj_P 59).2.2.2.2 5 = [(.ifCond .ne 9, 3, 0, [14]), (.aload_n 0, 1, 0, []), (.iconst 1, 1, 1, []), (.invokevirtual 94, 3, 0, [0, 58, 6, 1, 1, 980, 982, 11, 150, 983])] := rfl
set_option maxRecDepth 100000 in
theorem q59_5 (E : mj_E) (d w c : Nat) (hi : Nat → Nat → Int32) (hl : Nat → Nat → Int64) (v1 : Int32) (s0 : Int32) : mj_den mj_P E d 59 5 [Value.ref 159, Value.int v1] [Value.int s0] (mj_hw w c hi hl) = if ¬ s0 = 0 then mj_den mj_P E d 59 14 [Value.ref 159, Value.int v1] [] (mj_hw w c hi hl) else mj_bi (mj_dc mj_P E d 58 [Value.ref 159, Value.int (1 : Int32)] (mj_hw w c hi hl)) (fun x1 h1 => mj_den mj_P E d 59 13 [Value.ref 159, Value.int v1] [Value.int x1] h1) := by
  rw [mj_den_eq, f59_5]
  exact zt_if_ne rfl rfl (zt_aload_n rfl rfl (zt_iconst rfl (zt_call0_1 rfl (mjkd159 _ _ _ _) (Nat.le_of_ble_eq_true rfl) rfl rfl)))
set_option maxRecDepth 100000 in
theorem f59_13 : mj_find (mj_P 59).2.2.2.2 13 = [(.ireturn, 1, 0, [1])] := rfl
set_option maxRecDepth 100000 in
theorem q59_13 (E : mj_E) (d w c : Nat) (hi : Nat → Nat → Int32) (hl : Nat → Nat → Int64) (v1 : Int32) (s0 : Int32) : mj_den mj_P E d 59 13 [Value.ref 159, Value.int v1] [Value.int s0] (mj_hw w c hi hl) = if s0 = 0 ∨ s0 = 1 then some (some (Value.int s0), (mj_hw w c hi hl)) else none := by
  rw [mj_den_eq, f59_13]
  exact zt_ireturn1
set_option maxRecDepth 100000 in
theorem f59_14 : mj_find (mj_P 59).2.2.2.2 14 = [(.aload_n 0, 1, 0, []), (.invokevirtual 91, 3, 0, [0, 55, 6, 0, 0, 976, 978, 10, 150, 979])] := rfl
set_option maxRecDepth 100000 in
theorem q59_14 (E : mj_E) (d w c : Nat) (hi : Nat → Nat → Int32) (hl : Nat → Nat → Int64) (v1 : Int32) : mj_den mj_P E d 59 14 [Value.ref 159, Value.int v1] [] (mj_hw w c hi hl) = mj_bv (mj_dc mj_P E d 55 [Value.ref 159] (mj_hw w c hi hl)) (fun h1 => mj_den mj_P E d 59 18 [Value.ref 159, Value.int v1] [] h1) := by
  rw [mj_den_eq, f59_14]
  exact zt_aload_n rfl rfl (zt_call0_0 rfl (mjkd159 _ _ _ _) (Nat.le_of_ble_eq_true rfl) rfl rfl)
set_option maxRecDepth 100000 in
theorem f59_18 : mj_find (mj_P 59).2.2.2.2 18 = [(.iconst 1, 1, 1, []), (.ireturn, 1, 0, [1])] := rfl
set_option maxRecDepth 100000 in
theorem q59_18 (E : mj_E) (d w c : Nat) (hi : Nat → Nat → Int32) (hl : Nat → Nat → Int64) (v1 : Int32) : mj_den mj_P E d 59 18 [Value.ref 159, Value.int v1] [] (mj_hw w c hi hl) = if (1 : Int32) = 0 ∨ (1 : Int32) = 1 then some (some (Value.int (1 : Int32)), (mj_hw w c hi hl)) else none := by
  rw [mj_den_eq, f59_18]
  exact zt_iconst rfl (zt_ireturn1)
set_option maxRecDepth 100000 in
theorem f60_0 : mj_find (mj_P 60).2.2.2.2 0 = [(.aload_n 0, 1, 0, []), (.getfield 57, 3, 0, [6, 11, 0, 500]), (.iconst 1, 1, 1, []), (.if_icmp .eq 9, 3, 0, [14]), (.aload_n 0, 1, 0, []), (.iconst 1, 1, 1, []), (.invokevirtual 94, 3, 0, [0, 58, 6, 1, 1, 980, 982, 11, 150, 983])] := rfl
set_option maxRecDepth 100000 in
theorem q60_0 (E : mj_E) (d w c : Nat) (hi : Nat → Nat → Int32) (hl : Nat → Nat → Int64) (v1 : Int32) (v2 : Int32) : mj_den mj_P E d 60 0 [Value.ref 159, Value.int v1, Value.int v2] [] (mj_hw w c hi hl) = if (hi 159 11) = (1 : Int32) then mj_den mj_P E d 60 14 [Value.ref 159, Value.int v1, Value.int v2] [] (mj_hw w c hi hl) else mj_bi (mj_dc mj_P E d 58 [Value.ref 159, Value.int (1 : Int32)] (mj_hw w c hi hl)) (fun x1 h1 => mj_den mj_P E d 60 13 [Value.ref 159, Value.int v1, Value.int v2] [Value.int x1] h1) := by
  rw [mj_den_eq, f60_0]
  exact zt_aload_n rfl rfl (zt_geti (mjkd159 _ _ _ _) rfl rfl (zt_iconst rfl (zt_icmp_eq rfl rfl (zt_aload_n rfl rfl (zt_iconst rfl (zt_call0_1 rfl (mjkd159 _ _ _ _) (Nat.le_of_ble_eq_true rfl) rfl rfl))))))
set_option maxRecDepth 100000 in
theorem f60_13 : mj_find (mj_P 60).2.2.2.2 13 = [(.ireturn, 1, 0, [1])] := rfl
set_option maxRecDepth 100000 in
theorem q60_13 (E : mj_E) (d w c : Nat) (hi : Nat → Nat → Int32) (hl : Nat → Nat → Int64) (v1 : Int32) (v2 : Int32) (s0 : Int32) : mj_den mj_P E d 60 13 [Value.ref 159, Value.int v1, Value.int v2] [Value.int s0] (mj_hw w c hi hl) = if s0 = 0 ∨ s0 = 1 then some (some (Value.int s0), (mj_hw w c hi hl)) else none := by
  rw [mj_den_eq, f60_13]
  exact zt_ireturn1
set_option maxRecDepth 100000 in
theorem f60_14 : mj_find (mj_P 60).2.2.2.2 14 = [(.aload_n 0, 1, 0, []), (.getfield 60, 3, 0, [6, 12, 0, 501]), (.iload_n 1, 1, 0, []), (.if_icmp .lt 11, 3, 0, [30]), (.aload_n 0, 1, 0, []), (.getfield 60, 3, 0, [6, 12, 0, 501]), (.iload_n 2, 1, 0, []), (.if_icmp .le 9, 3, 0, [36])] := rfl
set_option maxRecDepth 100000 in
theorem q60_14 (E : mj_E) (d w c : Nat) (hi : Nat → Nat → Int32) (hl : Nat → Nat → Int64) (v1 : Int32) (v2 : Int32) : mj_den mj_P E d 60 14 [Value.ref 159, Value.int v1, Value.int v2] [] (mj_hw w c hi hl) = if (hi 159 12) < v1 then mj_den mj_P E d 60 30 [Value.ref 159, Value.int v1, Value.int v2] [] (mj_hw w c hi hl) else if (hi 159 12) ≤ v2 then mj_den mj_P E d 60 36 [Value.ref 159, Value.int v1, Value.int v2] [] (mj_hw w c hi hl) else mj_den mj_P E d 60 30 [Value.ref 159, Value.int v1, Value.int v2] [] (mj_hw w c hi hl) := by
  rw [mj_den_eq, f60_14]
  exact zt_aload_n rfl rfl (zt_geti (mjkd159 _ _ _ _) rfl rfl (zt_iload_n rfl rfl (zt_icmp_lt rfl rfl (zt_aload_n rfl rfl (zt_geti (mjkd159 _ _ _ _) rfl rfl (zt_iload_n rfl rfl (zt_icmp_le rfl rfl (zt_end rfl))))))))
set_option maxRecDepth 100000 in
theorem f60_30 : mj_find (mj_P 60).2.2.2.2 30 = [(.aload_n 0, 1, 0, []), (.iconst 2, 1, 2, []), (.invokevirtual 94, 3, 0, [0, 58, 6, 1, 1, 980, 982, 11, 150, 983])] := rfl
set_option maxRecDepth 100000 in
theorem q60_30 (E : mj_E) (d w c : Nat) (hi : Nat → Nat → Int32) (hl : Nat → Nat → Int64) (v1 : Int32) (v2 : Int32) : mj_den mj_P E d 60 30 [Value.ref 159, Value.int v1, Value.int v2] [] (mj_hw w c hi hl) = mj_bi (mj_dc mj_P E d 58 [Value.ref 159, Value.int (2 : Int32)] (mj_hw w c hi hl)) (fun x1 h1 => mj_den mj_P E d 60 35 [Value.ref 159, Value.int v1, Value.int v2] [Value.int x1] h1) := by
  rw [mj_den_eq, f60_30]
  exact zt_aload_n rfl rfl (zt_iconst rfl (zt_call0_1 rfl (mjkd159 _ _ _ _) (Nat.le_of_ble_eq_true rfl) rfl rfl))
set_option maxRecDepth 100000 in
theorem f60_35 : mj_find (mj_P 60).2.2.2.2 35 = [(.ireturn, 1, 0, [1])] := rfl
set_option maxRecDepth 100000 in
theorem q60_35 (E : mj_E) (d w c : Nat) (hi : Nat → Nat → Int32) (hl : Nat → Nat → Int64) (v1 : Int32) (v2 : Int32) (s0 : Int32) : mj_den mj_P E d 60 35 [Value.ref 159, Value.int v1, Value.int v2] [Value.int s0] (mj_hw w c hi hl) = if s0 = 0 ∨ s0 = 1 then some (some (Value.int s0), (mj_hw w c hi hl)) else none := by
  rw [mj_den_eq, f60_35]
  exact zt_ireturn1
set_option maxRecDepth 100000 in
theorem f60_36 : mj_find (mj_P 60).2.2.2.2 36 = [(.aload_n 0, 1, 0, []), (.invokevirtual 91, 3, 0, [0, 55, 6, 0, 0, 976, 978, 10, 150, 979])] := rfl
set_option maxRecDepth 100000 in
theorem q60_36 (E : mj_E) (d w c : Nat) (hi : Nat → Nat → Int32) (hl : Nat → Nat → Int64) (v1 : Int32) (v2 : Int32) : mj_den mj_P E d 60 36 [Value.ref 159, Value.int v1, Value.int v2] [] (mj_hw w c hi hl) = mj_bv (mj_dc mj_P E d 55 [Value.ref 159] (mj_hw w c hi hl)) (fun h1 => mj_den mj_P E d 60 40 [Value.ref 159, Value.int v1, Value.int v2] [] h1) := by
  rw [mj_den_eq, f60_36]
  exact zt_aload_n rfl rfl (zt_call0_0 rfl (mjkd159 _ _ _ _) (Nat.le_of_ble_eq_true rfl) rfl rfl)
set_option maxRecDepth 100000 in
theorem f60_40 : mj_find (mj_P 60).2.2.2.2 40 = [(.iconst 1, 1, 1, []), (.ireturn, 1, 0, [1])] := rfl
set_option maxRecDepth 100000 in
theorem q60_40 (E : mj_E) (d w c : Nat) (hi : Nat → Nat → Int32) (hl : Nat → Nat → Int64) (v1 : Int32) (v2 : Int32) : mj_den mj_P E d 60 40 [Value.ref 159, Value.int v1, Value.int v2] [] (mj_hw w c hi hl) = if (1 : Int32) = 0 ∨ (1 : Int32) = 1 then some (some (Value.int (1 : Int32)), (mj_hw w c hi hl)) else none := by
  rw [mj_den_eq, f60_40]
  exact zt_iconst rfl (zt_ireturn1)
set_option maxRecDepth 100000 in
theorem f61_0 : mj_find (mj_P 61).2.2.2.2 0 = [(.aload_n 0, 1, 0, []), (.getfield 24, 3, 0, [6, 3, 3, 490]), (.getfield 150, 3, 0, [2, 2, 3, 287]), (.iload_n 1, 1, 0, []), (.aload_n 0, 1, 0, []), (.getfield 60, 3, 0, [6, 12, 0, 501]), (.iastore, 1, 0, []), (.aload_n 0, 1, 0, []), (.getfield 24, 3, 0, [6, 3, 3, 490]), (.getfield 153, 3, 0, [2, 3, 3, 289]), (.iload_n 1, 1, 0, []), (.aload_n 0, 1, 0, []), (.getfield 24, 3, 0, [6, 3, 3, 490]), (.getfield 87, 3, 0, [2, 1, 0, 285]), (.iastore, 1, 0, []), (.aload_n 0, 1, 0, []), (.invokevirtual 91, 3, 0, [0, 55, 6, 0, 0, 976, 978, 10, 150, 979])] := rfl
set_option maxRecDepth 100000 in
theorem q61_0 (E : mj_E) (d w c : Nat) (hi : Nat → Nat → Int32) (hl : Nat → Nat → Int64) (v1 : Int32) : mj_den mj_P E d 61 0 [Value.ref 159, Value.int v1] [] (mj_hw w c hi hl) = if 0 ≤ v1 ∧ (v1).toNatClampNeg < 16 then if 0 ≤ v1 ∧ (v1).toNatClampNeg < 16 then mj_bv (mj_dc mj_P E d 55 [Value.ref 159] (mj_hw w c (mj_u (mj_u hi 161 ((v1).toNatClampNeg) (hi 159 12)) 162 ((v1).toNatClampNeg) (hi 160 1)) hl)) (fun h1 => mj_den mj_P E d 61 33 [Value.ref 159, Value.int v1] [] h1) else none else none := by
  rw [mj_den_eq, f61_0]
  exact zt_aload_n rfl rfl (zt_getr (mjkd159 _ _ _ _) (mjhr159_3 w c) rfl (zt_getr (mjkd160 _ _ _ _) (mjhr160_2 w c) rfl (zt_iload_n rfl rfl (zt_aload_n rfl rfl (zt_geti (mjkd159 _ _ _ _) rfl rfl (zt_iast (mjkd161 _ _ _ _) (mjln161 _ _ _ _) rfl rfl (zt_aload_n rfl rfl (zt_getr (mjkd159 _ _ _ _) (mjhr159_3 w c) rfl (zt_getr (mjkd160 _ _ _ _) (mjhr160_3 w c) rfl (zt_iload_n rfl rfl (zt_aload_n rfl rfl (zt_getr (mjkd159 _ _ _ _) (mjhr159_3 w c) rfl (zt_geti (mjkd160 _ _ _ _) rfl rfl (zt_iast (mjkd162 _ _ _ _) (mjln162 _ _ _ _) rfl rfl (zt_aload_n rfl rfl (zt_call0_0 rfl (mjkd159 _ _ _ _) (Nat.le_of_ble_eq_true rfl) rfl rfl))))))))))))))))
set_option maxRecDepth 100000 in
theorem f61_33 : mj_find (mj_P 61).2.2.2.2 33 = [(.aload_n 0, 1, 0, []), (.invokevirtual 155, 3, 0, [0, 64, 6, 0, 1, 988, 990, 13, 150, 991])] := rfl
set_option maxRecDepth 100000 in
theorem q61_33 (E : mj_E) (d w c : Nat) (hi : Nat → Nat → Int32) (hl : Nat → Nat → Int64) (v1 : Int32) : mj_den mj_P E d 61 33 [Value.ref 159, Value.int v1] [] (mj_hw w c hi hl) = mj_bi (mj_dc mj_P E d 64 [Value.ref 159] (mj_hw w c hi hl)) (fun x1 h1 => mj_den mj_P E d 61 37 [Value.ref 159, Value.int v1] [Value.int x1] h1) := by
  rw [mj_den_eq, f61_33]
  exact zt_aload_n rfl rfl (zt_call0_1 rfl (mjkd159 _ _ _ _) (Nat.le_of_ble_eq_true rfl) rfl rfl)
set_option maxRecDepth 100000 in
theorem f61_37 : mj_find (mj_P 61).2.2.2.2 37 = [(.ifCond .ne 5, 3, 0, [42]), (.iconst 0, 1, 0, []), (.ireturn, 1, 0, [1])] := rfl
set_option maxRecDepth 100000 in
theorem q61_37 (E : mj_E) (d w c : Nat) (hi : Nat → Nat → Int32) (hl : Nat → Nat → Int64) (v1 : Int32) (s0 : Int32) : mj_den mj_P E d 61 37 [Value.ref 159, Value.int v1] [Value.int s0] (mj_hw w c hi hl) = if ¬ s0 = 0 then mj_den mj_P E d 61 42 [Value.ref 159, Value.int v1] [] (mj_hw w c hi hl) else if (0 : Int32) = 0 ∨ (0 : Int32) = 1 then some (some (Value.int (0 : Int32)), (mj_hw w c hi hl)) else none := by
  rw [mj_den_eq, f61_37]
  exact zt_if_ne rfl rfl (zt_iconst rfl (zt_ireturn1))
set_option maxRecDepth 100000 in
theorem f61_42 : mj_find (mj_P 61).2.2.2.2 42 = [(.aload_n 0, 1, 0, []), (.getfield 24, 3, 0, [6, 3, 3, 490]), (.getfield 158, 3, 0, [2, 4, 3, 291]), (.iload_n 1, 1, 0, []), (.aload_n 0, 1, 0, []), (.getfield 24, 3, 0, [6, 3, 3, 490]), (.getfield 87, 3, 0, [2, 1, 0, 285]), (.iastore, 1, 0, []), (.aload_n 0, 1, 0, []), (.iconst 3, 1, 3, []), (.invokevirtual 161, 3, 0, [0, 57, 6, 1, 1, 1004, 1006, 16, 150, 1007])] := rfl
set_option maxRecDepth 100000 in
theorem q61_42 (E : mj_E) (d w c : Nat) (hi : Nat → Nat → Int32) (hl : Nat → Nat → Int64) (v1 : Int32) : mj_den mj_P E d 61 42 [Value.ref 159, Value.int v1] [] (mj_hw w c hi hl) = if 0 ≤ v1 ∧ (v1).toNatClampNeg < 16 then mj_bi (mj_dc mj_P E d 57 [Value.ref 159, Value.int (3 : Int32)] (mj_hw w c (mj_u hi 163 ((v1).toNatClampNeg) (hi 160 1)) hl)) (fun x1 h1 => mj_den mj_P E d 61 63 [Value.ref 159, Value.int v1] [Value.int x1] h1) else none := by
  rw [mj_den_eq, f61_42]
  exact zt_aload_n rfl rfl (zt_getr (mjkd159 _ _ _ _) (mjhr159_3 w c) rfl (zt_getr (mjkd160 _ _ _ _) (mjhr160_4 w c) rfl (zt_iload_n rfl rfl (zt_aload_n rfl rfl (zt_getr (mjkd159 _ _ _ _) (mjhr159_3 w c) rfl (zt_geti (mjkd160 _ _ _ _) rfl rfl (zt_iast (mjkd163 _ _ _ _) (mjln163 _ _ _ _) rfl rfl (zt_aload_n rfl rfl (zt_iconst rfl (zt_call0_1 rfl (mjkd159 _ _ _ _) (Nat.le_of_ble_eq_true rfl) rfl rfl))))))))))
set_option maxRecDepth 100000 in
theorem f61_63 : mj_find (mj_P 61).2.2.2.2 63 = [(.ifCond .eq 18, 3, 0, [81]), (.aload_n 0, 1, 0, []), (.invokevirtual 91, 3, 0, [0, 55, 6, 0, 0, 976, 978, 10, 150, 979])] := rfl
set_option maxRecDepth 100000 in
theorem q61_63 (E : mj_E) (d w c : Nat) (hi : Nat → Nat → Int32) (hl : Nat → Nat → Int64) (v1 : Int32) (s0 : Int32) : mj_den mj_P E d 61 63 [Value.ref 159, Value.int v1] [Value.int s0] (mj_hw w c hi hl) = if s0 = 0 then mj_den mj_P E d 61 81 [Value.ref 159, Value.int v1] [] (mj_hw w c hi hl) else mj_bv (mj_dc mj_P E d 55 [Value.ref 159] (mj_hw w c hi hl)) (fun h1 => mj_den mj_P E d 61 70 [Value.ref 159, Value.int v1] [] h1) := by
  rw [mj_den_eq, f61_63]
  exact zt_if_eq rfl rfl (zt_aload_n rfl rfl (zt_call0_0 rfl (mjkd159 _ _ _ _) (Nat.le_of_ble_eq_true rfl) rfl rfl))
set_option maxRecDepth 100000 in
theorem f61_70 : mj_find (mj_P 61).2.2.2.2 70 = [(.aload_n 0, 1, 0, []), (.iconst 0, 1, 0, []), (.iconst 0, 1, 0, []), (.invokevirtual 164, 3, 0, [0, 62, 6, 2, 1, 1008, 1010, 17, 150, 1011])] := rfl
set_option maxRecDepth 100000 in
theorem q61_70 (E : mj_E) (d w c : Nat) (hi : Nat → Nat → Int32) (hl : Nat → Nat → Int64) (v1 : Int32) : mj_den mj_P E d 61 70 [Value.ref 159, Value.int v1] [] (mj_hw w c hi hl) = mj_bi (mj_dc mj_P E d 62 [Value.ref 159, Value.int (0 : Int32), Value.int (0 : Int32)] (mj_hw w c hi hl)) (fun x1 h1 => mj_den mj_P E d 61 76 [Value.ref 159, Value.int v1] [Value.int x1] h1) := by
  rw [mj_den_eq, f61_70]
  exact zt_aload_n rfl rfl (zt_iconst rfl (zt_iconst rfl (zt_call0_1 rfl (mjkd159 _ _ _ _) (Nat.le_of_ble_eq_true rfl) rfl rfl)))
set_option maxRecDepth 100000 in
theorem f61_76 : mj_find (mj_P 61).2.2.2.2 76 = [(.ifCond .ne 5, 3, 0, [81]), (.iconst 0, 1, 0, []), (.ireturn, 1, 0, [1])] := rfl
set_option maxRecDepth 100000 in
theorem q61_76 (E : mj_E) (d w c : Nat) (hi : Nat → Nat → Int32) (hl : Nat → Nat → Int64) (v1 : Int32) (s0 : Int32) : mj_den mj_P E d 61 76 [Value.ref 159, Value.int v1] [Value.int s0] (mj_hw w c hi hl) = if ¬ s0 = 0 then mj_den mj_P E d 61 81 [Value.ref 159, Value.int v1] [] (mj_hw w c hi hl) else if (0 : Int32) = 0 ∨ (0 : Int32) = 1 then some (some (Value.int (0 : Int32)), (mj_hw w c hi hl)) else none := by
  rw [mj_den_eq, f61_76]
  exact zt_if_ne rfl rfl (zt_iconst rfl (zt_ireturn1))
set_option maxRecDepth 100000 in
theorem f61_81 : mj_find (mj_P 61).2.2.2.2 81 = [(.aload_n 0, 1, 0, []), (.getfield 24, 3, 0, [6, 3, 3, 490]), (.getfield 168, 3, 0, [2, 5, 3, 293]), (.iload_n 1, 1, 0, []), (.aload_n 0, 1, 0, []), (.getfield 24, 3, 0, [6, 3, 3, 490]), (.getfield 87, 3, 0, [2, 1, 0, 285]), (.iastore, 1, 0, []), (.aload_n 0, 1, 0, []), (.getfield 24, 3, 0, [6, 3, 3, 490]), (.iload_n 1, 1, 0, []), (.iconst 1, 1, 1, []), (.iadd, 1, 0, []), (.putfield 85, 3, 0, [2, 0, 0, 282]), (.iconst 1, 1, 1, []), (.ireturn, 1, 0, [1])] := rfl
set_option maxRecDepth 100000 in
theorem q61_81 (E : mj_E) (d w c : Nat) (hi : Nat → Nat → Int32) (hl : Nat → Nat → Int64) (v1 : Int32) : mj_den mj_P E d 61 81 [Value.ref 159, Value.int v1] [] (mj_hw w c hi hl) = if 0 ≤ v1 ∧ (v1).toNatClampNeg < 16 then if (1 : Int32) = 0 ∨ (1 : Int32) = 1 then some (some (Value.int (1 : Int32)), (mj_hw w c (mj_u (mj_u hi 164 ((v1).toNatClampNeg) (hi 160 1)) 160 0 (v1 + (1 : Int32))) hl)) else none else none := by
  rw [mj_den_eq, f61_81]
  exact zt_aload_n rfl rfl (zt_getr (mjkd159 _ _ _ _) (mjhr159_3 w c) rfl (zt_getr (mjkd160 _ _ _ _) (mjhr160_5 w c) rfl (zt_iload_n rfl rfl (zt_aload_n rfl rfl (zt_getr (mjkd159 _ _ _ _) (mjhr159_3 w c) rfl (zt_geti (mjkd160 _ _ _ _) rfl rfl (zt_iast (mjkd164 _ _ _ _) (mjln164 _ _ _ _) rfl rfl (zt_aload_n rfl rfl (zt_getr (mjkd159 _ _ _ _) (mjhr159_3 w c) rfl (zt_iload_n rfl rfl (zt_iconst rfl (zt_iadd rfl (zt_puti (mjkd160 _ _ _ _) rfl rfl (zt_iconst rfl (zt_ireturn1)))))))))))))))
