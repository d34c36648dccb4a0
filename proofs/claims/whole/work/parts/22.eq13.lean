set_option maxRecDepth 100000 in
theorem f214_0 : mj_find (mj_P 214).2.2.2.2 0 = [(.aload_n 0, 1, 0, []), (.getfield 77, 3, 0, [12, 42, 3, 1452]), (.iconst 0, 1, 0, []), (.aload_n 0, 1, 0, []), (.getfield 7, 3, 0, [12, 1, 3, 1411]), (.iconst 5, 1, 5, []), (.iload_n 1, 1, 0, []), (.iadd, 1, 0, []), (.iaload, 1, 0, []), (.iastore, 1, 0, []), (.aload_n 0, 1, 0, []), (.getfield 77, 3, 0, [12, 42, 3, 1452]), (.iconst 1, 1, 1, []), (.aload_n 0, 1, 0, []), (.getfield 19, 3, 0, [12, 8, 3, 1418]), (.iload_n 1, 1, 0, []), (.iaload, 1, 0, []), (.iastore, 1, 0, []), (.aload_n 0, 1, 0, []), (.getfield 77, 3, 0, [12, 42, 3, 1452]), (.iconst 2, 1, 2, []), (.aload_n 0, 1, 0, []), (.getfield 22, 3, 0, [12, 9, 3, 1419]), (.iload_n 1, 1, 0, []), (.iaload, 1, 0, []), (.iastore, 1, 0, []), (.aload_n 0, 1, 0, []), (.getfield 77, 3, 0, [12, 42, 3, 1452]), (.iconst 3, 1, 3, []), (.aload_n 0, 1, 0, []), (.getfield 7, 3, 0, [12, 1, 3, 1411]), (.bipush 35, 2, 35, []), (.iload_n 1, 1, 0, []), (.iadd, 1, 0, []), (.iaload, 1, 0, []), (.iastore, 1, 0, []), (.aload_n 0, 1, 0, []), (.getfield 77, 3, 0, [12, 42, 3, 1452]), (.iconst 4, 1, 4, []), (.aload_n 0, 1, 0, []), (.getfield 25, 3, 0, [12, 10, 3, 1420]), (.iload_n 2, 1, 0, []), (.iaload, 1, 0, []), (.iastore, 1, 0, []), (.aload_n 0, 1, 0, []), (.getfield 77, 3, 0, [12, 42, 3, 1452]), (.iconst 5, 1, 5, []), (.aload_n 0, 1, 0, []), (.getfield 28, 3, 0, [12, 11, 3, 1421]), (.iload_n 2, 1, 0, []), (.iaload, 1, 0, []), (.iastore, 1, 0, []), (.aload_n 0, 1, 0, []), (.getfield 77, 3, 0, [12, 42, 3, 1452]), (.bipush 6, 2, 6, []), (.iload_n 3, 1, 0, []), (.iastore, 1, 0, []), (.aload_n 0, 1, 0, []), (.getfield 77, 3, 0, [12, 42, 3, 1452]), (.bipush 7, 2, 7, []), (.iload 4, 2, 0, []), (.iastore, 1, 0, []), (.aload_n 0, 1, 0, []), (.getfield 77, 3, 0, [12, 42, 3, 1452]), (.bipush 8, 2, 8, []), (.aload_n 0, 1, 0, []), (.getfield 7, 3, 0, [12, 1, 3, 1411]), (.iconst 3, 1, 3, []), (.iaload, 1, 0, []), (.iastore, 1, 0, []), (.aload_n 0, 1, 0, []), (.getfield 77, 3, 0, [12, 42, 3, 1452]), (.bipush 9, 2, 9, []), (.iload 5, 2, 0, []), (.iastore, 1, 0, []), (.return_, 1, 0, [])] := rfl
set_option maxRecDepth 100000 in
theorem q214_0 (E : mj_E) (d w c : Nat) (hi : Nat → Nat → Int32) (hl : Nat → Nat → Int64) (v1 : Int32) (v2 : Int32) (v3 : Int32) (v4 : Int32) (v5 : Int32) : mj_den mj_P E d 214 0 [Value.ref 205, Value.int v1, Value.int v2, Value.int v3, Value.int v4, Value.int v5] [] (mj_hw w c hi hl) = if 0 ≤ ((5 : Int32) + v1) ∧ (((5 : Int32) + v1)).toNatClampNeg < 57 then if 0 ≤ (0 : Int32) ∧ ((0 : Int32)).toNatClampNeg < 10 then if 0 ≤ v1 ∧ (v1).toNatClampNeg < 10 then if 0 ≤ (1 : Int32) ∧ ((1 : Int32)).toNatClampNeg < 10 then if 0 ≤ v1 ∧ (v1).toNatClampNeg < 10 then if 0 ≤ (2 : Int32) ∧ ((2 : Int32)).toNatClampNeg < 10 then if 0 ≤ ((35 : Int32) + v1) ∧ (((35 : Int32) + v1)).toNatClampNeg < 57 then if 0 ≤ (3 : Int32) ∧ ((3 : Int32)).toNatClampNeg < 10 then if 0 ≤ v2 ∧ (v2).toNatClampNeg < 12 then if 0 ≤ (4 : Int32) ∧ ((4 : Int32)).toNatClampNeg < 10 then if 0 ≤ v2 ∧ (v2).toNatClampNeg < 12 then if 0 ≤ (5 : Int32) ∧ ((5 : Int32)).toNatClampNeg < 10 then if 0 ≤ (6 : Int32) ∧ ((6 : Int32)).toNatClampNeg < 10 then if 0 ≤ (7 : Int32) ∧ ((7 : Int32)).toNatClampNeg < 10 then if 0 ≤ (3 : Int32) ∧ ((3 : Int32)).toNatClampNeg < 57 then if 0 ≤ (8 : Int32) ∧ ((8 : Int32)).toNatClampNeg < 10 then if 0 ≤ (9 : Int32) ∧ ((9 : Int32)).toNatClampNeg < 10 then some (none, (mj_hw w c (mj_u (mj_u (mj_u (mj_u (mj_u (mj_u (mj_u (mj_u (mj_u (mj_u hi 227 (((0 : Int32)).toNatClampNeg) (hi 206 ((((5 : Int32) + v1)).toNatClampNeg))) 227 (((1 : Int32)).toNatClampNeg) (hi 209 ((v1).toNatClampNeg))) 227 (((2 : Int32)).toNatClampNeg) (hi 210 ((v1).toNatClampNeg))) 227 (((3 : Int32)).toNatClampNeg) (hi 206 ((((35 : Int32) + v1)).toNatClampNeg))) 227 (((4 : Int32)).toNatClampNeg) (hi 211 ((v2).toNatClampNeg))) 227 (((5 : Int32)).toNatClampNeg) (hi 212 ((v2).toNatClampNeg))) 227 (((6 : Int32)).toNatClampNeg) v3) 227 (((7 : Int32)).toNatClampNeg) v4) 227 (((8 : Int32)).toNatClampNeg) (hi 206 (((3 : Int32)).toNatClampNeg))) 227 (((9 : Int32)).toNatClampNeg) v5) hl)) else none else none else none else none else none else none else none else none else none else none else none else none else none else none else none else none else none := by
  rw [mj_den_eq, f214_0]
  exact zt_aload_n rfl rfl (zt_getr (mjkd205 _ _ _ _) (mjhr205_42 w c) rfl (zt_iconst rfl (zt_aload_n rfl rfl (zt_getr (mjkd205 _ _ _ _) (mjhr205_1 w c) rfl (zt_iconst rfl (zt_iload_n rfl rfl (zt_iadd rfl (zt_iald (mjkd206 _ _ _ _) (mjln206 _ _ _ _) rfl rfl (zt_iast (mjkd227 _ _ _ _) (mjln227 _ _ _ _) rfl rfl (zt_aload_n rfl rfl (zt_getr (mjkd205 _ _ _ _) (mjhr205_42 w c) rfl (zt_iconst rfl (zt_aload_n rfl rfl (zt_getr (mjkd205 _ _ _ _) (mjhr205_8 w c) rfl (zt_iload_n rfl rfl (zt_iald (mjkd209 _ _ _ _) (mjln209 _ _ _ _) rfl rfl (zt_iast (mjkd227 _ _ _ _) (mjln227 _ _ _ _) rfl rfl (zt_aload_n rfl rfl (zt_getr (mjkd205 _ _ _ _) (mjhr205_42 w c) rfl (zt_iconst rfl (zt_aload_n rfl rfl (zt_getr (mjkd205 _ _ _ _) (mjhr205_9 w c) rfl (zt_iload_n rfl rfl (zt_iald (mjkd210 _ _ _ _) (mjln210 _ _ _ _) rfl rfl (zt_iast (mjkd227 _ _ _ _) (mjln227 _ _ _ _) rfl rfl (zt_aload_n rfl rfl (zt_getr (mjkd205 _ _ _ _) (mjhr205_42 w c) rfl (zt_iconst rfl (zt_aload_n rfl rfl (zt_getr (mjkd205 _ _ _ _) (mjhr205_1 w c) rfl (zt_bipush rfl (zt_iload_n rfl rfl (zt_iadd rfl (zt_iald (mjkd206 _ _ _ _) (mjln206 _ _ _ _) rfl rfl (zt_iast (mjkd227 _ _ _ _) (mjln227 _ _ _ _) rfl rfl (zt_aload_n rfl rfl (zt_getr (mjkd205 _ _ _ _) (mjhr205_42 w c) rfl (zt_iconst rfl (zt_aload_n rfl rfl (zt_getr (mjkd205 _ _ _ _) (mjhr205_10 w c) rfl (zt_iload_n rfl rfl (zt_iald (mjkd211 _ _ _ _) (mjln211 _ _ _ _) rfl rfl (zt_iast (mjkd227 _ _ _ _) (mjln227 _ _ _ _) rfl rfl (zt_aload_n rfl rfl (zt_getr (mjkd205 _ _ _ _) (mjhr205_42 w c) rfl (zt_iconst rfl (zt_aload_n rfl rfl (zt_getr (mjkd205 _ _ _ _) (mjhr205_11 w c) rfl (zt_iload_n rfl rfl (zt_iald (mjkd212 _ _ _ _) (mjln212 _ _ _ _) rfl rfl (zt_iast (mjkd227 _ _ _ _) (mjln227 _ _ _ _) rfl rfl (zt_aload_n rfl rfl (zt_getr (mjkd205 _ _ _ _) (mjhr205_42 w c) rfl (zt_bipush rfl (zt_iload_n rfl rfl (zt_iast (mjkd227 _ _ _ _) (mjln227 _ _ _ _) rfl rfl (zt_aload_n rfl rfl (zt_getr (mjkd205 _ _ _ _) (mjhr205_42 w c) rfl (zt_bipush rfl (zt_iload rfl rfl (zt_iast (mjkd227 _ _ _ _) (mjln227 _ _ _ _) rfl rfl (zt_aload_n rfl rfl (zt_getr (mjkd205 _ _ _ _) (mjhr205_42 w c) rfl (zt_bipush rfl (zt_aload_n rfl rfl (zt_getr (mjkd205 _ _ _ _) (mjhr205_1 w c) rfl (zt_iconst rfl (zt_iald (mjkd206 _ _ _ _) (mjln206 _ _ _ _) rfl rfl (zt_iast (mjkd227 _ _ _ _) (mjln227 _ _ _ _) rfl rfl (zt_aload_n rfl rfl (zt_getr (mjkd205 _ _ _ _) (mjhr205_42 w c) rfl (zt_bipush rfl (zt_iload rfl rfl (zt_iast (mjkd227 _ _ _ _) (mjln227 _ _ _ _) rfl rfl (zt_return)))))))))))))))))))))))))))))))))))))))))))))))))))))))))))))))))))))))))))
set_option maxRecDepth 100000 in
theorem f215_0 : mj_find (mj_P 215).2.2.2.2 0 = [(.aload_n 0, 1, 0, []), (.iload_n 1, 1, 0, []), (.invokevirtual 314, 3, 0, [0, 213, 12, 1, 1, 1848, 1850, 91, 156, 1851])] := rfl
set_option maxRecDepth 100000 in
theorem q215_0 (E : mj_E) (d w c : Nat) (hi : Nat → Nat → Int32) (hl : Nat → Nat → Int64) (v1 : Int32) (v2 : Int32) (v3 : Int32) : mj_den mj_P E d 215 0 [Value.ref 205, Value.int v1, Value.int v2, Value.int v3, Value.float 0] [] (mj_hw w c hi hl) = mj_bi (mj_dc mj_P E d 213 [Value.ref 205, Value.int v1] (mj_hw w c hi hl)) (fun x1 h1 => mj_den mj_P E d 215 5 [Value.ref 205, Value.int v1, Value.int v2, Value.int v3, Value.float 0] [Value.int x1] h1) := by
  rw [mj_den_eq, f215_0]
  exact zt_aload_n rfl rfl (zt_iload_n rfl rfl (zt_call0_1 rfl (mjkd205 _ _ _ _) (Nat.le_of_ble_eq_true rfl) rfl rfl))
set_option maxRecDepth 100000 in
theorem f215_5 : mj_find (mj_P 215).2.2.2.2 5 = [(.istore 4, 2, 0, []), (.aload_n 0, 1, 0, []), (.iload 4, 2, 0, []), (.iconst (-1), 1, (-1), []), (.if_icmp .ne 7, 3, 0, [18]), (.iload_n 2, 1, 0, []), (.goto 22, 3, 0, [37])] := rfl
set_option maxRecDepth 100000 in
theorem q215_5 (E : mj_E) (d w c : Nat) (hi : Nat → Nat → Int32) (hl : Nat → Nat → Int64) (v1 : Int32) (v2 : Int32) (v3 : Int32) (s0 : Int32) : mj_den mj_P E d 215 5 [Value.ref 205, Value.int v1, Value.int v2, Value.int v3, Value.float 0] [Value.int s0] (mj_hw w c hi hl) = if ¬ s0 = (-1 : Int32) then mj_den mj_P E d 215 18 [Value.ref 205, Value.int v1, Value.int v2, Value.int v3, Value.int s0] [Value.ref 205] (mj_hw w c hi hl) else mj_den mj_P E d 215 37 [Value.ref 205, Value.int v1, Value.int v2, Value.int v3, Value.int s0] [Value.int v2, Value.ref 205] (mj_hw w c hi hl) := by
  rw [mj_den_eq, f215_5]
  exact zt_istore (Nat.le_of_ble_eq_true rfl) rfl rfl (zt_aload_n rfl rfl (zt_iload rfl rfl (zt_iconst rfl (zt_icmp_ne rfl rfl (zt_iload_n rfl rfl (zt_goto rfl))))))
set_option maxRecDepth 100000 in
theorem f215_18 : mj_find (mj_P 215).2.2.2.2 18 = [(.aload_n 0, 1, 0, []), (.iconst 0, 1, 0, []), (.aload_n 0, 1, 0, []), (.getfield 46, 3, 0, [12, 22, 3, 1432]), (.iload 4, 2, 0, []), (.iaload, 1, 0, []), (.aload_n 0, 1, 0, []), (.getfield 49, 3, 0, [12, 23, 3, 1433]), (.iload 4, 2, 0, []), (.iaload, 1, 0, []), (.invokevirtual 311, 3, 0, [0, 212, 12, 3, 1, 1852, 1854, 92, 156, 1855])] := rfl
set_option maxRecDepth 100000 in
theorem q215_18 (E : mj_E) (d w c : Nat) (hi : Nat → Nat → Int32) (hl : Nat → Nat → Int64) (v1 : Int32) (v2 : Int32) (v3 : Int32) (v4 : Int32) : mj_den mj_P E d 215 18 [Value.ref 205, Value.int v1, Value.int v2, Value.int v3, Value.int v4] [Value.ref 205] (mj_hw w c hi hl) = if 0 ≤ v4 ∧ (v4).toNatClampNeg < 48 then if 0 ≤ v4 ∧ (v4).toNatClampNeg < 48 then mj_bi (mj_dc mj_P E d 212 [Value.ref 205, Value.int (0 : Int32), Value.int (hi 218 ((v4).toNatClampNeg)), Value.int (hi 219 ((v4).toNatClampNeg))] (mj_hw w c hi hl)) (fun x1 h1 => mj_den mj_P E d 215 37 [Value.ref 205, Value.int v1, Value.int v2, Value.int v3, Value.int v4] [Value.int x1, Value.ref 205] h1) else none else none := by
  rw [mj_den_eq, f215_18]
  exact zt_aload_n rfl rfl (zt_iconst rfl (zt_aload_n rfl rfl (zt_getr (mjkd205 _ _ _ _) (mjhr205_22 w c) rfl (zt_iload rfl rfl (zt_iald (mjkd218 _ _ _ _) (mjln218 _ _ _ _) rfl rfl (zt_aload_n rfl rfl (zt_getr (mjkd205 _ _ _ _) (mjhr205_23 w c) rfl (zt_iload rfl rfl (zt_iald (mjkd219 _ _ _ _) (mjln219 _ _ _ _) rfl rfl (zt_call0_1 rfl (mjkd205 _ _ _ _) (Nat.le_of_ble_eq_true rfl) rfl rfl))))))))))
set_option maxRecDepth 100000 in
theorem f215_37 : mj_find (mj_P 215).2.2.2.2 37 = [(.iconst 0, 1, 0, []), (.iload_n 3, 1, 0, []), (.invokevirtual 317, 3, 0, [0, 153, 12, 3, 1, 1860, 1862, 94, 156, 1863])] := rfl
set_option maxRecDepth 100000 in
theorem q215_37 (E : mj_E) (d w c : Nat) (hi : Nat → Nat → Int32) (hl : Nat → Nat → Int64) (v1 : Int32) (v2 : Int32) (v3 : Int32) (v4 : Int32) (s0 : Int32) : mj_den mj_P E d 215 37 [Value.ref 205, Value.int v1, Value.int v2, Value.int v3, Value.int v4] [Value.int s0, Value.ref 205] (mj_hw w c hi hl) = mj_bi (mj_dc mj_P E d 153 [Value.ref 205, Value.int s0, Value.int (0 : Int32), Value.int v3] (mj_hw w c hi hl)) (fun x1 h1 => mj_den mj_P E d 215 42 [Value.ref 205, Value.int v1, Value.int v2, Value.int v3, Value.int v4] [Value.int x1] h1) := by
  rw [mj_den_eq, f215_37]
  exact zt_iconst rfl (zt_iload_n rfl rfl (zt_call0_1 rfl (mjkd205 _ _ _ _) (Nat.le_of_ble_eq_true rfl) rfl rfl))
set_option maxRecDepth 100000 in
theorem f215_42 : mj_find (mj_P 215).2.2.2.2 42 = [(.ireturn, 1, 0, [0])] := rfl
set_option maxRecDepth 100000 in
theorem q215_42 (E : mj_E) (d w c : Nat) (hi : Nat → Nat → Int32) (hl : Nat → Nat → Int64) (v1 : Int32) (v2 : Int32) (v3 : Int32) (v4 : Int32) (s0 : Int32) : mj_den mj_P E d 215 42 [Value.ref 205, Value.int v1, Value.int v2, Value.int v3, Value.int v4] [Value.int s0] (mj_hw w c hi hl) = some (some (Value.int s0), (mj_hw w c hi hl)) := by
  rw [mj_den_eq, f215_42]
  exact zt_ireturn0
set_option maxRecDepth 100000 in
theorem f216_0 : mj_find (mj_P 216).2.2.2.2 0 = [(.aload_n 0, 1, 0, []), (.iload_n 1, 1, 0, []), (.iload_n 2, 1, 0, []), (.iload_n 3, 1, 0, []), (.iload 4, 2, 0, []), (.iload 5, 2, 0, []), (.invokevirtual 320, 3, 0, [0, 214, 12, 5, 0, 1840, 1842, 89, 156, 1843])] := rfl
set_option maxRecDepth 100000 in
theorem q216_0 (E : mj_E) (d w c : Nat) (hi : Nat → Nat → Int32) (hl : Nat → Nat → Int64) (v1 : Int32) (v2 : Int32) (v3 : Int32) (v4 : Int32) (v5 : Int32) : mj_den mj_P E d 216 0 [Value.ref 205, Value.int v1, Value.int v2, Value.int v3, Value.int v4, Value.int v5] [] (mj_hw w c hi hl) = mj_bv (mj_dc mj_P E d 214 [Value.ref 205, Value.int v1, Value.int v2, Value.int v3, Value.int v4, Value.int v5] (mj_hw w c hi hl)) (fun h1 => mj_den mj_P E d 216 11 [Value.ref 205, Value.int v1, Value.int v2, Value.int v3, Value.int v4, Value.int v5] [] h1) := by
  rw [mj_den_eq, f216_0]
  exact zt_aload_n rfl rfl (zt_iload_n rfl rfl (zt_iload_n rfl rfl (zt_iload_n rfl rfl (zt_iload rfl rfl (zt_iload rfl rfl (zt_call0_0 rfl (mjkd205 _ _ _ _) (Nat.le_of_ble_eq_true rfl) rfl rfl))))))
set_option maxRecDepth 100000 in
theorem f216_11 : mj_find (mj_P 216).2.2.2.2 11 = [(.aload_n 0, 1, 0, []), (.iconst 0, 1, 0, []), (.sipush 300, 3, 300, []), (.iconst 3, 1, 3, []), (.aload_n 0, 1, 0, []), (.getfield 7, 3, 0, [12, 1, 3, 1411]), (.iconst 5, 1, 5, []), (.iload_n 1, 1, 0, []), (.iadd, 1, 0, []), (.iaload, 1, 0, []), (.imul, 1, 0, []), (.isub, 1, 0, []), (.sipush 1000, 3, 1000, []), (.invokevirtual 324, 3, 0, [0, 215, 12, 3, 1, 1844, 1846, 90, 156, 1847])] := rfl
set_option maxRecDepth 100000 in
theorem q216_11 (E : mj_E) (d w c : Nat) (hi : Nat → Nat → Int32) (hl : Nat → Nat → Int64) (v1 : Int32) (v2 : Int32) (v3 : Int32) (v4 : Int32) (v5 : Int32) : mj_den mj_P E d 216 11 [Value.ref 205, Value.int v1, Value.int v2, Value.int v3, Value.int v4, Value.int v5] [] (mj_hw w c hi hl) = if 0 ≤ ((5 : Int32) + v1) ∧ (((5 : Int32) + v1)).toNatClampNeg < 57 then mj_bi (mj_dc mj_P E d 215 [Value.ref 205, Value.int (0 : Int32), Value.int ((300 : Int32) - ((3 : Int32) * (hi 206 ((((5 : Int32) + v1)).toNatClampNeg)))), Value.int (1000 : Int32)] (mj_hw w c hi hl)) (fun x1 h1 => mj_den mj_P E d 216 33 [Value.ref 205, Value.int v1, Value.int v2, Value.int v3, Value.int v4, Value.int v5] [Value.int x1] h1) else none := by
  rw [mj_den_eq, f216_11]
  exact zt_aload_n rfl rfl (zt_iconst rfl (zt_sipush rfl (zt_iconst rfl (zt_aload_n rfl rfl (zt_getr (mjkd205 _ _ _ _) (mjhr205_1 w c) rfl (zt_iconst rfl (zt_iload_n rfl rfl (zt_iadd rfl (zt_iald (mjkd206 _ _ _ _) (mjln206 _ _ _ _) rfl rfl (zt_imul rfl (zt_isub rfl (zt_sipush rfl (zt_call0_1 rfl (mjkd205 _ _ _ _) (Nat.le_of_ble_eq_true rfl) rfl rfl)))))))))))))
set_option maxRecDepth 100000 in
theorem f216_33 : mj_find (mj_P 216).2.2.2.2 33 = [(.ireturn, 1, 0, [0])] := rfl
set_option maxRecDepth 100000 in
theorem q216_33 (E : mj_E) (d w c : Nat) (hi : Nat → Nat → Int32) (hl : Nat → Nat → Int64) (v1 : Int32) (v2 : Int32) (v3 : Int32) (v4 : Int32) (v5 : Int32) (s0 : Int32) : mj_den mj_P E d 216 33 [Value.ref 205, Value.int v1, Value.int v2, Value.int v3, Value.int v4, Value.int v5] [Value.int s0] (mj_hw w c hi hl) = some (some (Value.int s0), (mj_hw w c hi hl)) := by
  rw [mj_den_eq, f216_33]
  exact zt_ireturn0
set_option maxRecDepth 100000 in
theorem f217_0 : mj_find (mj_P 217).2.2.2.2 0 = [(.aload_n 0, 1, 0, []), (.iload_n 1, 1, 0, []), (.iload_n 2, 1, 0, []), (.iconst 0, 1, 0, []), (.iload_n 3, 1, 0, []), (.iconst 1, 1, 1, []), (.invokevirtual 320, 3, 0, [0, 214, 12, 5, 0, 1840, 1842, 89, 156, 1843])] := rfl
set_option maxRecDepth 100000 in
theorem q217_0 (E : mj_E) (d w c : Nat) (hi : Nat → Nat → Int32) (hl : Nat → Nat → Int64) (v1 : Int32) (v2 : Int32) (v3 : Int32) : mj_den mj_P E d 217 0 [Value.ref 205, Value.int v1, Value.int v2, Value.int v3] [] (mj_hw w c hi hl) = mj_bv (mj_dc mj_P E d 214 [Value.ref 205, Value.int v1, Value.int v2, Value.int (0 : Int32), Value.int v3, Value.int (1 : Int32)] (mj_hw w c hi hl)) (fun h1 => mj_den mj_P E d 217 9 [Value.ref 205, Value.int v1, Value.int v2, Value.int v3] [] h1) := by
  rw [mj_den_eq, f217_0]
  exact zt_aload_n rfl rfl (zt_iload_n rfl rfl (zt_iload_n rfl rfl (zt_iconst rfl (zt_iload_n rfl rfl (zt_iconst rfl (zt_call0_0 rfl (mjkd205 _ _ _ _) (Nat.le_of_ble_eq_true rfl) rfl rfl))))))
set_option maxRecDepth 100000 in
theorem f217_9 : mj_find (mj_P 217).2.2.2.2 9 = [(.aload_n 0, 1, 0, []), (.iconst 1, 1, 1, []), (.aload_n 0, 1, 0, []), (.getfield 28, 3, 0, [12, 11, 3, 1421]), (.iload_n 2, 1, 0, []), (.iaload, 1, 0, []), (.iconst 2, 1, 2, []), (.idiv, 1, 0, []), (.sipush 9999, 3, 9999, []), (.invokevirtual 324, 3, 0, [0, 215, 12, 3, 1, 1844, 1846, 90, 156, 1847])] := rfl
set_option maxRecDepth 100000 in
theorem q217_9 (E : mj_E) (d w c : Nat) (hi : Nat → Nat → Int32) (hl : Nat → Nat → Int64) (v1 : Int32) (v2 : Int32) (v3 : Int32) : mj_den mj_P E d 217 9 [Value.ref 205, Value.int v1, Value.int v2, Value.int v3] [] (mj_hw w c hi hl) = if 0 ≤ v2 ∧ (v2).toNatClampNeg < 12 then if (2 : Int32) = 0 then none else mj_bi (mj_dc mj_P E d 215 [Value.ref 205, Value.int (1 : Int32), Value.int ((hi 212 ((v2).toNatClampNeg)) / (2 : Int32)), Value.int (9999 : Int32)] (mj_hw w c hi hl)) (fun x1 h1 => mj_den mj_P E d 217 25 [Value.ref 205, Value.int v1, Value.int v2, Value.int v3] [Value.int x1] h1) else none := by
  rw [mj_den_eq, f217_9]
  exact zt_aload_n rfl rfl (zt_iconst rfl (zt_aload_n rfl rfl (zt_getr (mjkd205 _ _ _ _) (mjhr205_11 w c) rfl (zt_iload_n rfl rfl (zt_iald (mjkd212 _ _ _ _) (mjln212 _ _ _ _) rfl rfl (zt_iconst rfl (zt_idiv  rfl (zt_sipush rfl (zt_call0_1 rfl (mjkd205 _ _ _ _) (Nat.le_of_ble_eq_true rfl) rfl rfl)))))))))
set_option maxRecDepth 100000 in
theorem f217_25 : mj_find (mj_P 217).2.2.2.2 25 = [(.ireturn, 1, 0, [0])] := rfl
set_option maxRecDepth 100000 in
theorem q217_25 (E : mj_E) (d w c : Nat) (hi : Nat → Nat → Int32) (hl : Nat → Nat → Int64) (v1 : Int32) (v2 : Int32) (v3 : Int32) (s0 : Int32) : mj_den mj_P E d 217 25 [Value.ref 205, Value.int v1, Value.int v2, Value.int v3] [Value.int s0] (mj_hw w c hi hl) = some (some (Value.int s0), (mj_hw w c hi hl)) := by
  rw [mj_den_eq, f217_25]
  exact zt_ireturn0
set_option maxRecDepth 100000 in
theorem f218_0 : mj_find (mj_P 218).2.2.2.2 0 = [(.aload_n 0, 1, 0, []), (.iload_n 1, 1, 0, []), (.iload_n 2, 1, 0, []), (.iconst 0, 1, 0, []), (.iload_n 3, 1, 0, []), (.iconst 1, 1, 1, []), (.invokevirtual 320, 3, 0, [0, 214, 12, 5, 0, 1840, 1842, 89, 156, 1843])] := rfl
set_option maxRecDepth 100000 in
theorem q218_0 (E : mj_E) (d w c : Nat) (hi : Nat → Nat → Int32) (hl : Nat → Nat → Int64) (v1 : Int32) (v2 : Int32) (v3 : Int32) : mj_den mj_P E d 218 0 [Value.ref 205, Value.int v1, Value.int v2, Value.int v3] [] (mj_hw w c hi hl) = mj_bv (mj_dc mj_P E d 214 [Value.ref 205, Value.int v1, Value.int v2, Value.int (0 : Int32), Value.int v3, Value.int (1 : Int32)] (mj_hw w c hi hl)) (fun h1 => mj_den mj_P E d 218 9 [Value.ref 205, Value.int v1, Value.int v2, Value.int v3] [] h1) := by
  rw [mj_den_eq, f218_0]
  exact zt_aload_n rfl rfl (zt_iload_n rfl rfl (zt_iload_n rfl rfl (zt_iconst rfl (zt_iload_n rfl rfl (zt_iconst rfl (zt_call0_0 rfl (mjkd205 _ _ _ _) (Nat.le_of_ble_eq_true rfl) rfl rfl))))))
set_option maxRecDepth 100000 in
theorem f218_9 : mj_find (mj_P 218).2.2.2.2 9 = [(.aload_n 0, 1, 0, []), (.iconst 2, 1, 2, []), (.iconst 5, 1, 5, []), (.bipush 99, 2, 99, []), (.invokevirtual 324, 3, 0, [0, 215, 12, 3, 1, 1844, 1846, 90, 156, 1847])] := rfl
set_option maxRecDepth 100000 in
theorem q218_9 (E : mj_E) (d w c : Nat) (hi : Nat → Nat → Int32) (hl : Nat → Nat → Int64) (v1 : Int32) (v2 : Int32) (v3 : Int32) : mj_den mj_P E d 218 9 [Value.ref 205, Value.int v1, Value.int v2, Value.int v3] [] (mj_hw w c hi hl) = mj_bi (mj_dc mj_P E d 215 [Value.ref 205, Value.int (2 : Int32), Value.int (5 : Int32), Value.int (99 : Int32)] (mj_hw w c hi hl)) (fun x1 h1 => mj_den mj_P E d 218 17 [Value.ref 205, Value.int v1, Value.int v2, Value.int v3] [Value.int x1] h1) := by
  rw [mj_den_eq, f218_9]
  exact zt_aload_n rfl rfl (zt_iconst rfl (zt_iconst rfl (zt_bipush rfl (zt_call0_1 rfl (mjkd205 _ _ _ _) (Nat.le_of_ble_eq_true rfl) rfl rfl))))
set_option maxRecDepth 100000 in
theorem f218_17 : mj_find (mj_P 218).2.2.2.2 17 = [(.ireturn, 1, 0, [0])] := rfl
set_option maxRecDepth 100000 in
theorem q218_17 (E : mj_E) (d w c : Nat) (hi : Nat → Nat → Int32) (hl : Nat → Nat → Int64) (v1 : Int32) (v2 : Int32) (v3 : Int32) (s0 : Int32) : mj_den mj_P E d 218 17 [Value.ref 205, Value.int v1, Value.int v2, Value.int v3] [Value.int s0] (mj_hw w c hi hl) = some (some (Value.int s0), (mj_hw w c hi hl)) := by
  rw [mj_den_eq, f218_17]
  exact zt_ireturn0
set_option maxRecDepth 100000 in
theorem f219_0 : mj_find (mj_P 219).2.2.2.2 0 = [(.iconst 0, 1, 0, []), (.istore_n 2, 1, 0, []), (.iconst 0, 1, 0, []), (.istore_n 3, 1, 0, [])] := rfl
set_option maxRecDepth 100000 in
theorem q219_0 (E : mj_E) (d w c : Nat) (hi : Nat → Nat → Int32) (hl : Nat → Nat → Int64) (v1 : Int32) : mj_den mj_P E d 219 0 [Value.ref 205, Value.int v1, Value.float 0, Value.float 0, Value.float 0] [] (mj_hw w c hi hl) = mj_den mj_P E d 219 4 [Value.ref 205, Value.int v1, Value.int (0 : Int32), Value.int (0 : Int32), Value.float 0] [] (mj_hw w c hi hl) := by
  rw [mj_den_eq, f219_0]
  exact zt_iconst rfl (zt_istore_n (Nat.le_of_ble_eq_true rfl) rfl rfl (zt_iconst rfl (zt_istore_n (Nat.le_of_ble_eq_true rfl) rfl rfl (zt_end rfl))))
set_option maxRecDepth 100000 in
theorem f219_4 : mj_find (mj_P 219).2.2.2.2 4 = [(.iload_n 3, 1, 0, []), (.aload_n 0, 1, 0, []), (.getfield 287, 3, 0, [12, 36, 0, 1446]), (.if_icmp .ge 22, 3, 0, [31]), (.iload_n 2, 1, 0, []), (.aload_n 0, 1, 0, []), (.getfield 68, 3, 0, [12, 37, 3, 1447]), (.iconst 2, 1, 2, []), (.iload_n 3, 1, 0, []), (.imul, 1, 0, []), (.iconst 1, 1, 1, []), (.iadd, 1, 0, []), (.iaload, 1, 0, []), (.iadd, 1, 0, []), (.istore_n 2, 1, 0, []), (.iinc 3 1, 3, 1, []), (.goto (-24), 3, 0, [4])] := rfl
set_option maxRecDepth 100000 in
theorem q219_4 (E : mj_E) (d w c : Nat) (hi : Nat → Nat → Int32) (hl : Nat → Nat → Int64) (v1 : Int32) (v2 : Int32) (v3 : Int32) : mj_den mj_P E d 219 4 [Value.ref 205, Value.int v1, Value.int v2, Value.int v3, Value.float 0] [] (mj_hw w c hi hl) = if (hi 205 36) ≤ v3 then mj_den mj_P E d 219 31 [Value.ref 205, Value.int v1, Value.int v2, Value.int v3, Value.float 0] [] (mj_hw w c hi hl) else if 0 ≤ (((2 : Int32) * v3) + (1 : Int32)) ∧ ((((2 : Int32) * v3) + (1 : Int32))).toNatClampNeg < 64 then mj_den mj_P E d 219 4 [Value.ref 205, Value.int v1, Value.int (v2 + (hi 224 (((((2 : Int32) * v3) + (1 : Int32))).toNatClampNeg))), Value.int (v3 + (1 : Int32)), Value.float 0] [] (mj_hw w c hi hl) else none := by
  rw [mj_den_eq, f219_4]
  exact zt_iload_n rfl rfl (zt_aload_n rfl rfl (zt_geti (mjkd205 _ _ _ _) rfl rfl (zt_icmp_ge rfl rfl (zt_iload_n rfl rfl (zt_aload_n rfl rfl (zt_getr (mjkd205 _ _ _ _) (mjhr205_37 w c) rfl (zt_iconst rfl (zt_iload_n rfl rfl (zt_imul rfl (zt_iconst rfl (zt_iadd rfl (zt_iald (mjkd224 _ _ _ _) (mjln224 _ _ _ _) rfl rfl (zt_iadd rfl (zt_istore_n (Nat.le_of_ble_eq_true rfl) rfl rfl (zt_iinc rfl (Nat.le_of_ble_eq_true rfl) rfl rfl (zt_goto rfl))))))))))))))))
set_option maxRecDepth 100000 in
theorem f219_31 : mj_find (mj_P 219).2.2.2.2 31 = [(.iload_n 2, 1, 0, []), (.ifCond .ne 5, 3, 0, [37]), (.iconst 0, 1, 0, []), (.ireturn, 1, 0, [0])] := rfl
set_option maxRecDepth 100000 in
theorem q219_31 (E : mj_E) (d w c : Nat) (hi : Nat → Nat → Int32) (hl : Nat → Nat → Int64) (v1 : Int32) (v2 : Int32) (v3 : Int32) : mj_den mj_P E d 219 31 [Value.ref 205, Value.int v1, Value.int v2, Value.int v3, Value.float 0] [] (mj_hw w c hi hl) = if ¬ v2 = 0 then mj_den mj_P E d 219 37 [Value.ref 205, Value.int v1, Value.int v2, Value.int v3, Value.float 0] [] (mj_hw w c hi hl) else some (some (Value.int (0 : Int32)), (mj_hw w c hi hl)) := by
  rw [mj_den_eq, f219_31]
  exact zt_iload_n rfl rfl (zt_if_ne rfl rfl (zt_iconst rfl (zt_ireturn0)))
set_option maxRecDepth 100000 in
theorem f219_37 : mj_find (mj_P 219).2.2.2.2 37 = [(.iload_n 1, 1, 0, []), (.iload_n 2, 1, 0, []), (.irem, 1, 0, []), (.istore_n 3, 1, 0, []), (.iconst 0, 1, 0, []), (.istore 4, 2, 0, [])] := rfl
set_option maxRecDepth 100000 in
theorem q219_37 (E : mj_E) (d w c : Nat) (hi : Nat → Nat → Int32) (hl : Nat → Nat → Int64) (v1 : Int32) (v2 : Int32) (v3 : Int32) : mj_den mj_P E d 219 37 [Value.ref 205, Value.int v1, Value.int v2, Value.int v3, Value.float 0] [] (mj_hw w c hi hl) = if v2 = 0 then none else mj_den mj_P E d 219 44 [Value.ref 205, Value.int v1, Value.int v2, Value.int (mj_rem v1 v2), Value.int (0 : Int32)] [] (mj_hw w c hi hl) := by
  rw [mj_den_eq, f219_37]
  exact zt_iload_n rfl rfl (zt_iload_n rfl rfl (zt_irem  rfl (zt_istore_n (Nat.le_of_ble_eq_true rfl) rfl rfl (zt_iconst rfl (zt_istore (Nat.le_of_ble_eq_true rfl) rfl rfl (zt_end rfl))))))
set_option maxRecDepth 100000 in
theorem f219_44 : mj_find (mj_P 219).2.2.2.2 44 = [(.iload_n 3, 1, 0, []), (.aload_n 0, 1, 0, []), (.getfield 68, 3, 0, [12, 37, 3, 1447]), (.iconst 2, 1, 2, []), (.iload 4, 2, 0, []), (.imul, 1, 0, []), (.iconst 1, 1, 1, []), (.iadd, 1, 0, []), (.iaload, 1, 0, []), (.if_icmp .lt 26, 3, 0, [82]), (.iload_n 3, 1, 0, []), (.aload_n 0, 1, 0, []), (.getfield 68, 3, 0, [12, 37, 3, 1447]), (.iconst 2, 1, 2, []), (.iload 4, 2, 0, []), (.imul, 1, 0, []), (.iconst 1, 1, 1, []), (.iadd, 1, 0, []), (.iaload, 1, 0, []), (.isub, 1, 0, []), (.istore_n 3, 1, 0, []), (.iload 4, 2, 0, []), (.iconst 1, 1, 1, []), (.iadd, 1, 0, []), (.istore 4, 2, 0, []), (.goto (-35), 3, 0, [44])] := rfl
set_option maxRecDepth 100000 in
theorem q219_44 (E : mj_E) (d w c : Nat) (hi : Nat → Nat → Int32) (hl : Nat → Nat → Int64) (v1 : Int32) (v2 : Int32) (v3 : Int32) (v4 : Int32) : mj_den mj_P E d 219 44 [Value.ref 205, Value.int v1, Value.int v2, Value.int v3, Value.int v4] [] (mj_hw w c hi hl) = if 0 ≤ (((2 : Int32) * v4) + (1 : Int32)) ∧ ((((2 : Int32) * v4) + (1 : Int32))).toNatClampNeg < 64 then if v3 < (hi 224 (((((2 : Int32) * v4) + (1 : Int32))).toNatClampNeg)) then mj_den mj_P E d 219 82 [Value.ref 205, Value.int v1, Value.int v2, Value.int v3, Value.int v4] [] (mj_hw w c hi hl) else if 0 ≤ (((2 : Int32) * v4) + (1 : Int32)) ∧ ((((2 : Int32) * v4) + (1 : Int32))).toNatClampNeg < 64 then mj_den mj_P E d 219 44 [Value.ref 205, Value.int v1, Value.int v2, Value.int (v3 - (hi 224 (((((2 : Int32) * v4) + (1 : Int32))).toNatClampNeg))), Value.int (v4 + (1 : Int32))] [] (mj_hw w c hi hl) else none else none := by
  rw [mj_den_eq, f219_44]
  exact zt_iload_n rfl rfl (zt_aload_n rfl rfl (zt_getr (mjkd205 _ _ _ _) (mjhr205_37 w c) rfl (zt_iconst rfl (zt_iload rfl rfl (zt_imul rfl (zt_iconst rfl (zt_iadd rfl (zt_iald (mjkd224 _ _ _ _) (mjln224 _ _ _ _) rfl rfl (zt_icmp_lt rfl rfl (zt_iload_n rfl rfl (zt_aload_n rfl rfl (zt_getr (mjkd205 _ _ _ _) (mjhr205_37 w c) rfl (zt_iconst rfl (zt_iload rfl rfl (zt_imul rfl (zt_iconst rfl (zt_iadd rfl (zt_iald (mjkd224 _ _ _ _) (mjln224 _ _ _ _) rfl rfl (zt_isub rfl (zt_istore_n (Nat.le_of_ble_eq_true rfl) rfl rfl (zt_iload rfl rfl (zt_iconst rfl (zt_iadd rfl (zt_istore (Nat.le_of_ble_eq_true rfl) rfl rfl (zt_goto rfl)))))))))))))))))))))))))
set_option maxRecDepth 100000 in
theorem f219_82 : mj_find (mj_P 219).2.2.2.2 82 = [(.aload_n 0, 1, 0, []), (.getfield 68, 3, 0, [12, 37, 3, 1447]), (.iconst 2, 1, 2, []), (.iload 4, 2, 0, []), (.imul, 1, 0, []), (.iaload, 1, 0, []), (.ireturn, 1, 0, [0])] := rfl
set_option maxRecDepth 100000 in
theorem q219_82 (E : mj_E) (d w c : Nat) (hi : Nat → Nat → Int32) (hl : Nat → Nat → Int64) (v1 : Int32) (v2 : Int32) (v3 : Int32) (v4 : Int32) : mj_den mj_P E d 219 82 [Value.ref 205, Value.int v1, Value.int v2, Value.int v3, Value.int v4] [] (mj_hw w c hi hl) = if 0 ≤ ((2 : Int32) * v4) ∧ (((2 : Int32) * v4)).toNatClampNeg < 64 then some (some (Value.int (hi 224 ((((2 : Int32) * v4)).toNatClampNeg))), (mj_hw w c hi hl)) else none := by
  rw [mj_den_eq, f219_82]
  exact zt_aload_n rfl rfl (zt_getr (mjkd205 _ _ _ _) (mjhr205_37 w c) rfl (zt_iconst rfl (zt_iload rfl rfl (zt_imul rfl (zt_iald (mjkd224 _ _ _ _) (mjln224 _ _ _ _) rfl rfl (zt_ireturn0))))))
set_option maxRecDepth 100000 in
theorem f220_0 : mj_find (mj_P 220).2.2.2.2 0 = [(.aload_n 0, 1, 0, []), (.getfield 128, 3, 0, [12, 5, 1, 1415]), (.ifCond .ne 15, 3, 0, [19]), (.aload_n 0, 1, 0, []), (.getfield 7, 3, 0, [12, 1, 3, 1411]), (.iconst 2, 1, 2, []), (.iaload, 1, 0, []), (.sipush 150, 3, 150, []), (.if_icmp .ne 4, 3, 0, [20])] := rfl
set_option maxRecDepth 100000 in
theorem q220_0 (E : mj_E) (d w c : Nat) (hi : Nat → Nat → Int32) (hl : Nat → Nat → Int64) (v1 : Int32) (v2 : Int32) (v3 : Int32) : mj_den mj_P E d 220 0 [Value.ref 205, Value.int v1, Value.int v2, Value.int v3, Value.float 0] [] (mj_hw w c hi hl) = if ¬ (hi 205 5) = 0 then mj_den mj_P E d 220 19 [Value.ref 205, Value.int v1, Value.int v2, Value.int v3, Value.float 0] [] (mj_hw w c hi hl) else if 0 ≤ (2 : Int32) ∧ ((2 : Int32)).toNatClampNeg < 57 then if ¬ (hi 206 (((2 : Int32)).toNatClampNeg)) = (150 : Int32) then mj_den mj_P E d 220 20 [Value.ref 205, Value.int v1, Value.int v2, Value.int v3, Value.float 0] [] (mj_hw w c hi hl) else mj_den mj_P E d 220 19 [Value.ref 205, Value.int v1, Value.int v2, Value.int v3, Value.float 0] [] (mj_hw w c hi hl) else none := by
  rw [mj_den_eq, f220_0]
  exact zt_aload_n rfl rfl (zt_getz (mjkd205 _ _ _ _) rfl rfl (zt_if_ne rfl rfl (zt_aload_n rfl rfl (zt_getr (mjkd205 _ _ _ _) (mjhr205_1 w c) rfl (zt_iconst rfl (zt_iald (mjkd206 _ _ _ _) (mjln206 _ _ _ _) rfl rfl (zt_sipush rfl (zt_icmp_ne rfl rfl (zt_end rfl)))))))))
set_option maxRecDepth 100000 in
theorem f220_19 : mj_find (mj_P 220).2.2.2.2 19 = [(.return_, 1, 0, [])] := rfl
set_option maxRecDepth 100000 in
theorem q220_19 (E : mj_E) (d w c : Nat) (hi : Nat → Nat → Int32) (hl : Nat → Nat → Int64) (v1 : Int32) (v2 : Int32) (v3 : Int32) : mj_den mj_P E d 220 19 [Value.ref 205, Value.int v1, Value.int v2, Value.int v3, Value.float 0] [] (mj_hw w c hi hl) = some (none, (mj_hw w c hi hl)) := by
  rw [mj_den_eq, f220_19]
  exact zt_return
set_option maxRecDepth 100000 in
theorem f220_20 : mj_find (mj_P 220).2.2.2.2 20 = [(.iconst 4, 1, 4, []), (.aload_n 0, 1, 0, []), (.getfield 7, 3, 0, [12, 1, 3, 1411]), (.iconst 2, 1, 2, []), (.iaload, 1, 0, []), (.imul, 1, 0, []), (.istore 4, 2, 0, []), (.aload_n 0, 1, 0, []), (.getfield 31, 3, 0, [12, 12, 3, 1422]), (.iload 4, 2, 0, []), (.aload_n 0, 1, 0, []), (.getfield 7, 3, 0, [12, 1, 3, 1411]), (.iconst 0, 1, 0, []), (.iaload, 1, 0, []), (.iastore, 1, 0, []), (.aload_n 0, 1, 0, []), (.getfield 31, 3, 0, [12, 12, 3, 1422]), (.iload 4, 2, 0, []), (.iconst 1, 1, 1, []), (.iadd, 1, 0, []), (.iload_n 1, 1, 0, []), (.iastore, 1, 0, []), (.aload_n 0, 1, 0, []), (.getfield 31, 3, 0, [12, 12, 3, 1422]), (.iload 4, 2, 0, []), (.iconst 2, 1, 2, []), (.iadd, 1, 0, []), (.iload_n 2, 1, 0, []), (.iastore, 1, 0, []), (.aload_n 0, 1, 0, []), (.getfield 31, 3, 0, [12, 12, 3, 1422]), (.iload 4, 2, 0, []), (.iconst 3, 1, 3, []), (.iadd, 1, 0, []), (.iload_n 3, 1, 0, []), (.iastore, 1, 0, []), (.aload_n 0, 1, 0, []), (.getfield 7, 3, 0, [12, 1, 3, 1411]), (.iconst 2, 1, 2, []), (.aload_n 0, 1, 0, []), (.getfield 7, 3, 0, [12, 1, 3, 1411]), (.iconst 2, 1, 2, []), (.iaload, 1, 0, []), (.iconst 1, 1, 1, []), (.iadd, 1, 0, []), (.iastore, 1, 0, []), (.return_, 1, 0, [])] := rfl
set_option maxRecDepth 100000 in
theorem q220_20 (E : mj_E) (d w c : Nat) (hi : Nat → Nat → Int32) (hl : Nat → Nat → Int64) (v1 : Int32) (v2 : Int32) (v3 : Int32) : mj_den mj_P E d 220 20 [Value.ref 205, Value.int v1, Value.int v2, Value.int v3, Value.float 0] [] (mj_hw w c hi hl) = if 0 ≤ (2 : Int32) ∧ ((2 : Int32)).toNatClampNeg < 57 then if 0 ≤ (0 : Int32) ∧ ((0 : Int32)).toNatClampNeg < 57 then if 0 ≤ ((4 : Int32) * (hi 206 (((2 : Int32)).toNatClampNeg))) ∧ (((4 : Int32) * (hi 206 (((2 : Int32)).toNatClampNeg)))).toNatClampNeg < 600 then if 0 ≤ (((4 : Int32) * (hi 206 (((2 : Int32)).toNatClampNeg))) + (1 : Int32)) ∧ ((((4 : Int32) * (hi 206 (((2 : Int32)).toNatClampNeg))) + (1 : Int32))).toNatClampNeg < 600 then if 0 ≤ (((4 : Int32) * (hi 206 (((2 : Int32)).toNatClampNeg))) + (2 : Int32)) ∧ ((((4 : Int32) * (hi 206 (((2 : Int32)).toNatClampNeg))) + (2 : Int32))).toNatClampNeg < 600 then if 0 ≤ (((4 : Int32) * (hi 206 (((2 : Int32)).toNatClampNeg))) + (3 : Int32)) ∧ ((((4 : Int32) * (hi 206 (((2 : Int32)).toNatClampNeg))) + (3 : Int32))).toNatClampNeg < 600 then if 0 ≤ (2 : Int32) ∧ ((2 : Int32)).toNatClampNeg < 57 then if 0 ≤ (2 : Int32) ∧ ((2 : Int32)).toNatClampNeg < 57 then some (none, (mj_hw w c (mj_u (mj_u (mj_u (mj_u (mj_u hi 213 ((((4 : Int32) * (hi 206 (((2 : Int32)).toNatClampNeg)))).toNatClampNeg) (hi 206 (((0 : Int32)).toNatClampNeg))) 213 (((((4 : Int32) * (hi 206 (((2 : Int32)).toNatClampNeg))) + (1 : Int32))).toNatClampNeg) v1) 213 (((((4 : Int32) * (hi 206 (((2 : Int32)).toNatClampNeg))) + (2 : Int32))).toNatClampNeg) v2) 213 (((((4 : Int32) * (hi 206 (((2 : Int32)).toNatClampNeg))) + (3 : Int32))).toNatClampNeg) v3) 206 (((2 : Int32)).toNatClampNeg) ((hi 206 (((2 : Int32)).toNatClampNeg)) + (1 : Int32))) hl)) else none else none else none else none else none else none else none else none := by
  rw [mj_den_eq, f220_20]
  exact zt_iconst rfl (zt_aload_n rfl rfl (zt_getr (mjkd205 _ _ _ _) (mjhr205_1 w c) rfl (zt_iconst rfl (zt_iald (mjkd206 _ _ _ _) (mjln206 _ _ _ _) rfl rfl (zt_imul rfl (zt_istore (Nat.le_of_ble_eq_true rfl) rfl rfl (zt_aload_n rfl rfl (zt_getr (mjkd205 _ _ _ _) (mjhr205_12 w c) rfl (zt_iload rfl rfl (zt_aload_n rfl rfl (zt_getr (mjkd205 _ _ _ _) (mjhr205_1 w c) rfl (zt_iconst rfl (zt_iald (mjkd206 _ _ _ _) (mjln206 _ _ _ _) rfl rfl (zt_iast (mjkd213 _ _ _ _) (mjln213 _ _ _ _) rfl rfl (zt_aload_n rfl rfl (zt_getr (mjkd205 _ _ _ _) (mjhr205_12 w c) rfl (zt_iload rfl rfl (zt_iconst rfl (zt_iadd rfl (zt_iload_n rfl rfl (zt_iast (mjkd213 _ _ _ _) (mjln213 _ _ _ _) rfl rfl (zt_aload_n rfl rfl (zt_getr (mjkd205 _ _ _ _) (mjhr205_12 w c) rfl (zt_iload rfl rfl (zt_iconst rfl (zt_iadd rfl (zt_iload_n rfl rfl (zt_iast (mjkd213 _ _ _ _) (mjln213 _ _ _ _) rfl rfl (zt_aload_n rfl rfl (zt_getr (mjkd205 _ _ _ _) (mjhr205_12 w c) rfl (zt_iload rfl rfl (zt_iconst rfl (zt_iadd rfl (zt_iload_n rfl rfl (zt_iast (mjkd213 _ _ _ _) (mjln213 _ _ _ _) rfl rfl (zt_aload_n rfl rfl (zt_getr (mjkd205 _ _ _ _) (mjhr205_1 w c) rfl (zt_iconst rfl (zt_aload_n rfl rfl (zt_getr (mjkd205 _ _ _ _) (mjhr205_1 w c) rfl (zt_iconst rfl (zt_iald (mjkd206 _ _ _ _) (mjln206 _ _ _ _) rfl rfl (zt_iconst rfl (zt_iadd rfl (zt_iast (mjkd206 _ _ _ _) (mjln206 _ _ _ _) rfl rfl (zt_return))))))))))))))))))))))))))))))))))))))))))))))
set_option maxRecDepth 100000 in
theorem f221_0 : mj_find (mj_P 221).2.2.2.2 0 = [(.iconst (-1), 1, (-1), []), (.istore_n 2, 1, 0, []), (.iconst 0, 1, 0, []), (.istore_n 3, 1, 0, [])] := rfl
set_option maxRecDepth 100000 in
theorem q221_0 (E : mj_E) (d w c : Nat) (hi : Nat → Nat → Int32) (hl : Nat → Nat → Int64) (v1 : Int32) : mj_den mj_P E d 221 0 [Value.ref 205, Value.int v1, Value.float 0, Value.float 0] [] (mj_hw w c hi hl) = mj_den mj_P E d 221 4 [Value.ref 205, Value.int v1, Value.int (-1 : Int32), Value.int (0 : Int32)] [] (mj_hw w c hi hl) := by
  rw [mj_den_eq, f221_0]
  exact zt_iconst rfl (zt_istore_n (Nat.le_of_ble_eq_true rfl) rfl rfl (zt_iconst rfl (zt_istore_n (Nat.le_of_ble_eq_true rfl) rfl rfl (zt_end rfl))))
set_option maxRecDepth 100000 in
theorem f221_4 : mj_find (mj_P 221).2.2.2.2 4 = [(.iload_n 3, 1, 0, []), (.aload_n 0, 1, 0, []), (.getfield 134, 3, 0, [12, 6, 0, 1416]), (.if_icmp .ge 44, 3, 0, [53]), (.aload_n 0, 1, 0, []), (.iload_n 1, 1, 0, []), (.iload_n 3, 1, 0, []), (.invokevirtual 327, 3, 0, [0, 157, 12, 2, 1, 1832, 1834, 87, 156, 1835])] := rfl
set_option maxRecDepth 100000 in
theorem q221_4 (E : mj_E) (d w c : Nat) (hi : Nat → Nat → Int32) (hl : Nat → Nat → Int64) (v1 : Int32) (v2 : Int32) (v3 : Int32) : mj_den mj_P E d 221 4 [Value.ref 205, Value.int v1, Value.int v2, Value.int v3] [] (mj_hw w c hi hl) = if (hi 205 6) ≤ v3 then mj_den mj_P E d 221 53 [Value.ref 205, Value.int v1, Value.int v2, Value.int v3] [] (mj_hw w c hi hl) else mj_bi (mj_dc mj_P E d 157 [Value.ref 205, Value.int v1, Value.int v3] (mj_hw w c hi hl)) (fun x1 h1 => mj_den mj_P E d 221 18 [Value.ref 205, Value.int v1, Value.int v2, Value.int v3] [Value.int x1] h1) := by
  rw [mj_den_eq, f221_4]
  exact zt_iload_n rfl rfl (zt_aload_n rfl rfl (zt_geti (mjkd205 _ _ _ _) rfl rfl (zt_icmp_ge rfl rfl (zt_aload_n rfl rfl (zt_iload_n rfl rfl (zt_iload_n rfl rfl (zt_call0_1 rfl (mjkd205 _ _ _ _) (Nat.le_of_ble_eq_true rfl) rfl rfl)))))))
set_option maxRecDepth 100000 in
theorem f221_18 : mj_find (mj_P 221).2.2.2.2 18 = [(.ifCond .eq 29, 3, 0, [47]), (.iload_n 2, 1, 0, []), (.iconst (-1), 1, (-1), []), (.if_icmp .eq 22, 3, 0, [45]), (.aload_n 0, 1, 0, []), (.getfield 7, 3, 0, [12, 1, 3, 1411]), (.iconst 5, 1, 5, []), (.iload_n 3, 1, 0, []), (.iadd, 1, 0, []), (.iaload, 1, 0, []), (.aload_n 0, 1, 0, []), (.getfield 7, 3, 0, [12, 1, 3, 1411]), (.iconst 5, 1, 5, []), (.iload_n 2, 1, 0, []), (.iadd, 1, 0, []), (.iaload, 1, 0, []), (.if_icmp .le 5, 3, 0, [47])] := rfl
set_option maxRecDepth 100000 in
theorem q221_18 (E : mj_E) (d w c : Nat) (hi : Nat → Nat → Int32) (hl : Nat → Nat → Int64) (v1 : Int32) (v2 : Int32) (v3 : Int32) (s0 : Int32) : mj_den mj_P E d 221 18 [Value.ref 205, Value.int v1, Value.int v2, Value.int v3] [Value.int s0] (mj_hw w c hi hl) = if s0 = 0 then mj_den mj_P E d 221 47 [Value.ref 205, Value.int v1, Value.int v2, Value.int v3] [] (mj_hw w c hi hl) else if v2 = (-1 : Int32) then mj_den mj_P E d 221 45 [Value.ref 205, Value.int v1, Value.int v2, Value.int v3] [] (mj_hw w c hi hl) else if 0 ≤ ((5 : Int32) + v3) ∧ (((5 : Int32) + v3)).toNatClampNeg < 57 then if 0 ≤ ((5 : Int32) + v2) ∧ (((5 : Int32) + v2)).toNatClampNeg < 57 then if (hi 206 ((((5 : Int32) + v3)).toNatClampNeg)) ≤ (hi 206 ((((5 : Int32) + v2)).toNatClampNeg)) then mj_den mj_P E d 221 47 [Value.ref 205, Value.int v1, Value.int v2, Value.int v3] [] (mj_hw w c hi hl) else mj_den mj_P E d 221 45 [Value.ref 205, Value.int v1, Value.int v2, Value.int v3] [] (mj_hw w c hi hl) else none else none := by
  rw [mj_den_eq, f221_18]
  exact zt_if_eq rfl rfl (zt_iload_n rfl rfl (zt_iconst rfl (zt_icmp_eq rfl rfl (zt_aload_n rfl rfl (zt_getr (mjkd205 _ _ _ _) (mjhr205_1 w c) rfl (zt_iconst rfl (zt_iload_n rfl rfl (zt_iadd rfl (zt_iald (mjkd206 _ _ _ _) (mjln206 _ _ _ _) rfl rfl (zt_aload_n rfl rfl (zt_getr (mjkd205 _ _ _ _) (mjhr205_1 w c) rfl (zt_iconst rfl (zt_iload_n rfl rfl (zt_iadd rfl (zt_iald (mjkd206 _ _ _ _) (mjln206 _ _ _ _) rfl rfl (zt_icmp_le rfl rfl (zt_end rfl)))))))))))))))))
set_option maxRecDepth 100000 in
theorem f221_45 : mj_find (mj_P 221).2.2.2.2 45 = [(.iload_n 3, 1, 0, []), (.istore_n 2, 1, 0, [])] := rfl
set_option maxRecDepth 100000 in
theorem q221_45 (E : mj_E) (d w c : Nat) (hi : Nat → Nat → Int32) (hl : Nat → Nat → Int64) (v1 : Int32) (v2 : Int32) (v3 : Int32) : mj_den mj_P E d 221 45 [Value.ref 205, Value.int v1, Value.int v2, Value.int v3] [] (mj_hw w c hi hl) = mj_den mj_P E d 221 47 [Value.ref 205, Value.int v1, Value.int v3, Value.int v3] [] (mj_hw w c hi hl) := by
  rw [mj_den_eq, f221_45]
  exact zt_iload_n rfl rfl (zt_istore_n (Nat.le_of_ble_eq_true rfl) rfl rfl (zt_end rfl))
set_option maxRecDepth 100000 in
theorem f221_47 : mj_find (mj_P 221).2.2.2.2 47 = [(.iinc 3 1, 3, 1, []), (.goto (-46), 3, 0, [4])] := rfl
set_option maxRecDepth 100000 in
theorem q221_47 (E : mj_E) (d w c : Nat) (hi : Nat → Nat → Int32) (hl : Nat → Nat → Int64) (v1 : Int32) (v2 : Int32) (v3 : Int32) : mj_den mj_P E d 221 47 [Value.ref 205, Value.int v1, Value.int v2, Value.int v3] [] (mj_hw w c hi hl) = mj_den mj_P E d 221 4 [Value.ref 205, Value.int v1, Value.int v2, Value.int (v3 + (1 : Int32))] [] (mj_hw w c hi hl) := by
  rw [mj_den_eq, f221_47]
  exact zt_iinc rfl (Nat.le_of_ble_eq_true rfl) rfl rfl (zt_goto rfl)
set_option maxRecDepth 100000 in
theorem f221_53 : mj_find (mj_P 221).2.2.2.2 53 = [(.iload_n 2, 1, 0, []), (.ireturn, 1, 0, [0])] := rfl
set_option maxRecDepth 100000 in
theorem q221_53 (E : mj_E) (d w c : Nat) (hi : Nat → Nat → Int32) (hl : Nat → Nat → Int64) (v1 : Int32) (v2 : Int32) (v3 : Int32) : mj_den mj_P E d 221 53 [Value.ref 205, Value.int v1, Value.int v2, Value.int v3] [] (mj_hw w c hi hl) = some (some (Value.int v2), (mj_hw w c hi hl)) := by
  rw [mj_den_eq, f221_53]
  exact zt_iload_n rfl rfl (zt_ireturn0)
set_option maxRecDepth 100000 in
theorem f222_0 : mj_find (mj_P 222).2.2.2.2 0 = [(.aload_n 0, 1, 0, []), (.getfield 128, 3, 0, [12, 5, 1, 1415]), (.ifCond .eq 20, 3, 0, [24]), (.iconst 2, 1, 2, []), (.iload_n 1, 1, 0, []), (.imul, 1, 0, []), (.sipush 1000, 3, 1000, []), (.if_icmp .lt 7, 3, 0, [20]), (.iconst 1, 1, 1, []), (.goto 23, 3, 0, [40])] := rfl
set_option maxRecDepth 100000 in
theorem q222_0 (E : mj_E) (d w c : Nat) (hi : Nat → Nat → Int32) (hl : Nat → Nat → Int64) (v1 : Int32) : mj_den mj_P E d 222 0 [Value.ref 205, Value.int v1] [] (mj_hw w c hi hl) = if (hi 205 5) = 0 then mj_den mj_P E d 222 24 [Value.ref 205, Value.int v1] [] (mj_hw w c hi hl) else if ((2 : Int32) * v1) < (1000 : Int32) then mj_den mj_P E d 222 20 [Value.ref 205, Value.int v1] [] (mj_hw w c hi hl) else mj_den mj_P E d 222 40 [Value.ref 205, Value.int v1] [Value.int (1 : Int32)] (mj_hw w c hi hl) := by
  rw [mj_den_eq, f222_0]
  exact zt_aload_n rfl rfl (zt_getz (mjkd205 _ _ _ _) rfl rfl (zt_if_eq rfl rfl (zt_iconst rfl (zt_iload_n rfl rfl (zt_imul rfl (zt_sipush rfl (zt_icmp_lt rfl rfl (zt_iconst rfl (zt_goto rfl)))))))))
set_option maxRecDepth 100000 in
theorem f222_20 : mj_find (mj_P 222).2.2.2.2 20 = [(.iconst 0, 1, 0, []), (.goto 19, 3, 0, [40])] := rfl
set_option maxRecDepth 100000 in
theorem q222_20 (E : mj_E) (d w c : Nat) (hi : Nat → Nat → Int32) (hl : Nat → Nat → Int64) (v1 : Int32) : mj_den mj_P E d 222 20 [Value.ref 205, Value.int v1] [] (mj_hw w c hi hl) = mj_den mj_P E d 222 40 [Value.ref 205, Value.int v1] [Value.int (0 : Int32)] (mj_hw w c hi hl) := by
  rw [mj_den_eq, f222_20]
  exact zt_iconst rfl (zt_goto rfl)
set_option maxRecDepth 100000 in
theorem f222_24 : mj_find (mj_P 222).2.2.2.2 24 = [(.aload_n 0, 1, 0, []), (.sipush 1000, 3, 1000, []), (.invokevirtual 331, 3, 0, [0, 163, 12, 1, 1, 1868, 1870, 96, 156, 1871])] := rfl
set_option maxRecDepth 100000 in
theorem q222_24 (E : mj_E) (d w c : Nat) (hi : Nat → Nat → Int32) (hl : Nat → Nat → Int64) (v1 : Int32) : mj_den mj_P E d 222 24 [Value.ref 205, Value.int v1] [] (mj_hw w c hi hl) = mj_bi (mj_dc mj_P E d 163 [Value.ref 205, Value.int (1000 : Int32)] (mj_hw w c hi hl)) (fun x1 h1 => mj_den mj_P E d 222 31 [Value.ref 205, Value.int v1] [Value.int x1] h1) := by
  rw [mj_den_eq, f222_24]
  exact zt_aload_n rfl rfl (zt_sipush rfl (zt_call0_1 rfl (mjkd205 _ _ _ _) (Nat.le_of_ble_eq_true rfl) rfl rfl))
set_option maxRecDepth 100000 in
theorem f222_31 : mj_find (mj_P 222).2.2.2.2 31 = [(.iload_n 1, 1, 0, []), (.if_icmp .ge 7, 3, 0, [39]), (.iconst 1, 1, 1, []), (.goto 4, 3, 0, [40])] := rfl
set_option maxRecDepth 100000 in
theorem q222_31 (E : mj_E) (d w c : Nat) (hi : Nat → Nat → Int32) (hl : Nat → Nat → Int64) (v1 : Int32) (s0 : Int32) : mj_den mj_P E d 222 31 [Value.ref 205, Value.int v1] [Value.int s0] (mj_hw w c hi hl) = if v1 ≤ s0 then mj_den mj_P E d 222 39 [Value.ref 205, Value.int v1] [] (mj_hw w c hi hl) else mj_den mj_P E d 222 40 [Value.ref 205, Value.int v1] [Value.int (1 : Int32)] (mj_hw w c hi hl) := by
  rw [mj_den_eq, f222_31]
  exact zt_iload_n rfl rfl (zt_icmp_ge rfl rfl (zt_iconst rfl (zt_goto rfl)))
set_option maxRecDepth 100000 in
theorem f222_39 : mj_find (mj_P 222).2.2.2.2 39 = [(.iconst 0, 1, 0, [])] := rfl
set_option maxRecDepth 100000 in
theorem q222_39 (E : mj_E) (d w c : Nat) (hi : Nat → Nat → Int32) (hl : Nat → Nat → Int64) (v1 : Int32) : mj_den mj_P E d 222 39 [Value.ref 205, Value.int v1] [] (mj_hw w c hi hl) = mj_den mj_P E d 222 40 [Value.ref 205, Value.int v1] [Value.int (0 : Int32)] (mj_hw w c hi hl) := by
  rw [mj_den_eq, f222_39]
  exact zt_iconst rfl (zt_end rfl)
set_option maxRecDepth 100000 in
theorem f222_40 : mj_find (mj_P 222).2.2.2.2 40 = [(.ireturn, 1, 0, [1])] := rfl
set_option maxRecDepth 100000 in
theorem q222_40 (E : mj_E) (d w c : Nat) (hi : Nat → Nat → Int32) (hl : Nat → Nat → Int64) (v1 : Int32) (s0 : Int32) : mj_den mj_P E d 222 40 [Value.ref 205, Value.int v1] [Value.int s0] (mj_hw w c hi hl) = if s0 = 0 ∨ s0 = 1 then some (some (Value.int s0), (mj_hw w c hi hl)) else none := by
  rw [mj_den_eq, f222_40]
  exact zt_ireturn1
set_option maxRecDepth 100000 in
theorem f223_0 : mj_find (mj_P 223).2.2.2.2 0 = [(.aload_n 0, 1, 0, []), (.iload_n 3, 1, 0, []), (.invokevirtual 334, 3, 0, [0, 219, 12, 1, 1, 1828, 1830, 86, 156, 1831])] := rfl
set_option maxRecDepth 100000 in
theorem q223_0 (E : mj_E) (d w c : Nat) (hi : Nat → Nat → Int32) (hl : Nat → Nat → Int64) (v1 : Int32) (v2 : Int32) (v3 : Int32) : mj_den mj_P E d 223 0 [Value.ref 205, Value.int v1, Value.int v2, Value.int v3, Value.float 0, Value.float 0, Value.float 0] [] (mj_hw w c hi hl) = mj_bi (mj_dc mj_P E d 219 [Value.ref 205, Value.int v3] (mj_hw w c hi hl)) (fun x1 h1 => mj_den mj_P E d 223 5 [Value.ref 205, Value.int v1, Value.int v2, Value.int v3, Value.float 0, Value.float 0, Value.float 0] [Value.int x1] h1) := by
  rw [mj_den_eq, f223_0]
  exact zt_aload_n rfl rfl (zt_iload_n rfl rfl (zt_call0_1 rfl (mjkd205 _ _ _ _) (Nat.le_of_ble_eq_true rfl) rfl rfl))
set_option maxRecDepth 100000 in
theorem f223_5 : mj_find (mj_P 223).2.2.2.2 5 = [(.istore 4, 2, 0, []), (.iconst 0, 1, 0, []), (.istore 5, 2, 0, []), (.iconst 0, 1, 0, []), (.istore 6, 2, 0, [])] := rfl
set_option maxRecDepth 100000 in
theorem q223_5 (E : mj_E) (d w c : Nat) (hi : Nat → Nat → Int32) (hl : Nat → Nat → Int64) (v1 : Int32) (v2 : Int32) (v3 : Int32) (s0 : Int32) : mj_den mj_P E d 223 5 [Value.ref 205, Value.int v1, Value.int v2, Value.int v3, Value.float 0, Value.float 0, Value.float 0] [Value.int s0] (mj_hw w c hi hl) = mj_den mj_P E d 223 13 [Value.ref 205, Value.int v1, Value.int v2, Value.int v3, Value.int s0, Value.int (0 : Int32), Value.int (0 : Int32)] [] (mj_hw w c hi hl) := by
  rw [mj_den_eq, f223_5]
  exact zt_istore (Nat.le_of_ble_eq_true rfl) rfl rfl (zt_iconst rfl (zt_istore (Nat.le_of_ble_eq_true rfl) rfl rfl (zt_iconst rfl (zt_istore (Nat.le_of_ble_eq_true rfl) rfl rfl (zt_end rfl)))))
set_option maxRecDepth 100000 in
theorem f223_13 : mj_find (mj_P 223).2.2.2.2 13 = [(.iload 6, 2, 0, []), (.aload_n 0, 1, 0, []), (.getfield 134, 3, 0, [12, 6, 0, 1416]), (.if_icmp .ge 84, 3, 0, [103]), (.aload_n 0, 1, 0, []), (.iload_n 2, 1, 0, []), (.iload 6, 2, 0, []), (.invokevirtual 327, 3, 0, [0, 157, 12, 2, 1, 1832, 1834, 87, 156, 1835])] := rfl
set_option maxRecDepth 100000 in
theorem q223_13 (E : mj_E) (d w c : Nat) (hi : Nat → Nat → Int32) (hl : Nat → Nat → Int64) (v1 : Int32) (v2 : Int32) (v3 : Int32) (v4 : Int32) (v5 : Int32) (v6 : Int32) : mj_den mj_P E d 223 13 [Value.ref 205, Value.int v1, Value.int v2, Value.int v3, Value.int v4, Value.int v5, Value.int v6] [] (mj_hw w c hi hl) = if (hi 205 6) ≤ v6 then mj_den mj_P E d 223 103 [Value.ref 205, Value.int v1, Value.int v2, Value.int v3, Value.int v4, Value.int v5, Value.int v6] [] (mj_hw w c hi hl) else mj_bi (mj_dc mj_P E d 157 [Value.ref 205, Value.int v2, Value.int v6] (mj_hw w c hi hl)) (fun x1 h1 => mj_den mj_P E d 223 29 [Value.ref 205, Value.int v1, Value.int v2, Value.int v3, Value.int v4, Value.int v5, Value.int v6] [Value.int x1] h1) := by
  rw [mj_den_eq, f223_13]
  exact zt_iload rfl rfl (zt_aload_n rfl rfl (zt_geti (mjkd205 _ _ _ _) rfl rfl (zt_icmp_ge rfl rfl (zt_aload_n rfl rfl (zt_iload_n rfl rfl (zt_iload rfl rfl (zt_call0_1 rfl (mjkd205 _ _ _ _) (Nat.le_of_ble_eq_true rfl) rfl rfl)))))))
set_option maxRecDepth 100000 in
theorem f223_29 : mj_find (mj_P 223).2.2.2.2 29 = [(.ifCond .eq 68, 3, 0, [97]), (.aload_n 0, 1, 0, []), (.aload_n 0, 1, 0, []), (.iload 6, 2, 0, []), (.iload_n 1, 1, 0, []), (.iload 4, 2, 0, []), (.iload_n 3, 1, 0, []), (.aload_n 0, 1, 0, []), (.iload_n 2, 1, 0, []), (.invokevirtual 336, 3, 0, [0, 156, 12, 1, 1, 1820, 1822, 84, 156, 1823])] := rfl
set_option maxRecDepth 100000 in
theorem q223_29 (E : mj_E) (d w c : Nat) (hi : Nat → Nat → Int32) (hl : Nat → Nat → Int64) (v1 : Int32) (v2 : Int32) (v3 : Int32) (v4 : Int32) (v5 : Int32) (v6 : Int32) (s0 : Int32) : mj_den mj_P E d 223 29 [Value.ref 205, Value.int v1, Value.int v2, Value.int v3, Value.int v4, Value.int v5, Value.int v6] [Value.int s0] (mj_hw w c hi hl) = if s0 = 0 then mj_den mj_P E d 223 97 [Value.ref 205, Value.int v1, Value.int v2, Value.int v3, Value.int v4, Value.int v5, Value.int v6] [] (mj_hw w c hi hl) else mj_bi (mj_dc mj_P E d 156 [Value.ref 205, Value.int v2] (mj_hw w c hi hl)) (fun x1 h1 => mj_den mj_P E d 223 45 [Value.ref 205, Value.int v1, Value.int v2, Value.int v3, Value.int v4, Value.int v5, Value.int v6] [Value.int x1, Value.int v3, Value.int v4, Value.int v1, Value.int v6, Value.ref 205, Value.ref 205] h1) := by
  rw [mj_den_eq, f223_29]
  exact zt_if_eq rfl rfl (zt_aload_n rfl rfl (zt_aload_n rfl rfl (zt_iload rfl rfl (zt_iload_n rfl rfl (zt_iload rfl rfl (zt_iload_n rfl rfl (zt_aload_n rfl rfl (zt_iload_n rfl rfl (zt_call0_1 rfl (mjkd205 _ _ _ _) (Nat.le_of_ble_eq_true rfl) rfl rfl)))))))))
set_option maxRecDepth 100000 in
theorem f223_45 : mj_find (mj_P 223).2.2.2.2 45 = [(.invokevirtual 339, 3, 0, [0, 216, 12, 5, 1, 1836, 1838, 88, 156, 1839])] := rfl
set_option maxRecDepth 100000 in
theorem q223_45 (E : mj_E) (d w c : Nat) (hi : Nat → Nat → Int32) (hl : Nat → Nat → Int64) (v1 : Int32) (v2 : Int32) (v3 : Int32) (v4 : Int32) (v5 : Int32) (v6 : Int32) (s0 : Int32) (s1 : Int32) (s2 : Int32) (s3 : Int32) (s4 : Int32) : mj_den mj_P E d 223 45 [Value.ref 205, Value.int v1, Value.int v2, Value.int v3, Value.int v4, Value.int v5, Value.int v6] [Value.int s0, Value.int s1, Value.int s2, Value.int s3, Value.int s4, Value.ref 205, Value.ref 205] (mj_hw w c hi hl) = mj_bi (mj_dc mj_P E d 216 [Value.ref 205, Value.int s4, Value.int s3, Value.int s2, Value.int s1, Value.int s0] (mj_hw w c hi hl)) (fun x1 h1 => mj_den mj_P E d 223 48 [Value.ref 205, Value.int v1, Value.int v2, Value.int v3, Value.int v4, Value.int v5, Value.int v6] [Value.int x1, Value.ref 205] h1) := by
  rw [mj_den_eq, f223_45]
  exact zt_call0_1 rfl (mjkd205 _ _ _ _) (Nat.le_of_ble_eq_true rfl) rfl rfl
set_option maxRecDepth 100000 in
theorem f223_48 : mj_find (mj_P 223).2.2.2.2 48 = [(.invokevirtual 343, 3, 0, [0, 222, 12, 1, 1, 1864, 1866, 95, 156, 1867])] := rfl
set_option maxRecDepth 100000 in
theorem q223_48 (E : mj_E) (d w c : Nat) (hi : Nat → Nat → Int32) (hl : Nat → Nat → Int64) (v1 : Int32) (v2 : Int32) (v3 : Int32) (v4 : Int32) (v5 : Int32) (v6 : Int32) (s0 : Int32) : mj_den mj_P E d 223 48 [Value.ref 205, Value.int v1, Value.int v2, Value.int v3, Value.int v4, Value.int v5, Value.int v6] [Value.int s0, Value.ref 205] (mj_hw w c hi hl) = mj_bi (mj_dc mj_P E d 222 [Value.ref 205, Value.int s0] (mj_hw w c hi hl)) (fun x1 h1 => mj_den mj_P E d 223 51 [Value.ref 205, Value.int v1, Value.int v2, Value.int v3, Value.int v4, Value.int v5, Value.int v6] [Value.int x1] h1) := by
  rw [mj_den_eq, f223_48]
  exact zt_call0_1 rfl (mjkd205 _ _ _ _) (Nat.le_of_ble_eq_true rfl) rfl rfl
set_option maxRecDepth 100000 in
theorem f223_51 : mj_find (mj_P 223).2.2.2.2 51 = [(.ifCond .ne 6, 3, 0, [57]), (.goto 43, 3, 0, [97])] := rfl
set_option maxRecDepth 100000 in
theorem q223_51 (E : mj_E) (d w c : Nat) (hi : Nat → Nat → Int32) (hl : Nat → Nat → Int64) (v1 : Int32) (v2 : Int32) (v3 : Int32) (v4 : Int32) (v5 : Int32) (v6 : Int32) (s0 : Int32) : mj_den mj_P E d 223 51 [Value.ref 205, Value.int v1, Value.int v2, Value.int v3, Value.int v4, Value.int v5, Value.int v6] [Value.int s0] (mj_hw w c hi hl) = if ¬ s0 = 0 then mj_den mj_P E d 223 57 [Value.ref 205, Value.int v1, Value.int v2, Value.int v3, Value.int v4, Value.int v5, Value.int v6] [] (mj_hw w c hi hl) else mj_den mj_P E d 223 97 [Value.ref 205, Value.int v1, Value.int v2, Value.int v3, Value.int v4, Value.int v5, Value.int v6] [] (mj_hw w c hi hl) := by
  rw [mj_den_eq, f223_51]
  exact zt_if_ne rfl rfl (zt_goto rfl)
set_option maxRecDepth 100000 in
theorem f223_57 : mj_find (mj_P 223).2.2.2.2 57 = [(.aload_n 0, 1, 0, []), (.getfield 7, 3, 0, [12, 1, 3, 1411]), (.bipush 35, 2, 35, []), (.iload 6, 2, 0, []), (.iadd, 1, 0, []), (.aload_n 0, 1, 0, []), (.getfield 7, 3, 0, [12, 1, 3, 1411]), (.bipush 35, 2, 35, []), (.iload 6, 2, 0, []), (.iadd, 1, 0, []), (.iaload, 1, 0, []), (.iconst 1, 1, 1, []), (.iadd, 1, 0, []), (.iastore, 1, 0, []), (.iload 5, 2, 0, []), (.iconst 1, 1, 1, []), (.iload 6, 2, 0, []), (.ishl, 1, 0, []), (.ior, 1, 0, []), (.istore 5, 2, 0, []), (.aload_n 0, 1, 0, []), (.iconst 0, 1, 0, []), (.iload 6, 2, 0, []), (.iload 4, 2, 0, []), (.invokevirtual 346, 3, 0, [0, 220, 12, 3, 0, 1874, 1876, 97, 156, 1877])] := rfl
set_option maxRecDepth 100000 in
theorem q223_57 (E : mj_E) (d w c : Nat) (hi : Nat → Nat → Int32) (hl : Nat → Nat → Int64) (v1 : Int32) (v2 : Int32) (v3 : Int32) (v4 : Int32) (v5 : Int32) (v6 : Int32) : mj_den mj_P E d 223 57 [Value.ref 205, Value.int v1, Value.int v2, Value.int v3, Value.int v4, Value.int v5, Value.int v6] [] (mj_hw w c hi hl) = if 0 ≤ ((35 : Int32) + v6) ∧ (((35 : Int32) + v6)).toNatClampNeg < 57 then if 0 ≤ ((35 : Int32) + v6) ∧ (((35 : Int32) + v6)).toNatClampNeg < 57 then mj_bv (mj_dc mj_P E d 220 [Value.ref 205, Value.int (0 : Int32), Value.int v6, Value.int v4] (mj_hw w c (mj_u hi 206 ((((35 : Int32) + v6)).toNatClampNeg) ((hi 206 ((((35 : Int32) + v6)).toNatClampNeg)) + (1 : Int32))) hl)) (fun h1 => mj_den mj_P E d 223 97 [Value.ref 205, Value.int v1, Value.int v2, Value.int v3, Value.int v4, Value.int (v5 ||| ((1 : Int32) <<< (v6 &&& 31))), Value.int v6] [] h1) else none else none := by
  rw [mj_den_eq, f223_57]
  exact zt_aload_n rfl rfl (zt_getr (mjkd205 _ _ _ _) (mjhr205_1 w c) rfl (zt_bipush rfl (zt_iload rfl rfl (zt_iadd rfl (zt_aload_n rfl rfl (zt_getr (mjkd205 _ _ _ _) (mjhr205_1 w c) rfl (zt_bipush rfl (zt_iload rfl rfl (zt_iadd rfl (zt_iald (mjkd206 _ _ _ _) (mjln206 _ _ _ _) rfl rfl (zt_iconst rfl (zt_iadd rfl (zt_iast (mjkd206 _ _ _ _) (mjln206 _ _ _ _) rfl rfl (zt_iload rfl rfl (zt_iconst rfl (zt_iload rfl rfl (zt_ishl rfl (zt_ior rfl (zt_istore (Nat.le_of_ble_eq_true rfl) rfl rfl (zt_aload_n rfl rfl (zt_iconst rfl (zt_iload rfl rfl (zt_iload rfl rfl (zt_call0_0 rfl (mjkd205 _ _ _ _) (Nat.le_of_ble_eq_true rfl) rfl rfl))))))))))))))))))))))))
set_option maxRecDepth 100000 in
theorem f223_97 : mj_find (mj_P 223).2.2.2.2 97 = [(.iinc 6 1, 3, 1, []), (.goto (-87), 3, 0, [13])] := rfl
set_option maxRecDepth 100000 in
theorem q223_97 (E : mj_E) (d w c : Nat) (hi : Nat → Nat → Int32) (hl : Nat → Nat → Int64) (v1 : Int32) (v2 : Int32) (v3 : Int32) (v4 : Int32) (v5 : Int32) (v6 : Int32) : mj_den mj_P E d 223 97 [Value.ref 205, Value.int v1, Value.int v2, Value.int v3, Value.int v4, Value.int v5, Value.int v6] [] (mj_hw w c hi hl) = mj_den mj_P E d 223 13 [Value.ref 205, Value.int v1, Value.int v2, Value.int v3, Value.int v4, Value.int v5, Value.int (v6 + (1 : Int32))] [] (mj_hw w c hi hl) := by
  rw [mj_den_eq, f223_97]
  exact zt_iinc rfl (Nat.le_of_ble_eq_true rfl) rfl rfl (zt_goto rfl)
set_option maxRecDepth 100000 in
theorem f223_103 : mj_find (mj_P 223).2.2.2.2 103 = [(.iload 5, 2, 0, []), (.ireturn, 1, 0, [0])] := rfl
set_option maxRecDepth 100000 in
theorem q223_103 (E : mj_E) (d w c : Nat) (hi : Nat → Nat → Int32) (hl : Nat → Nat → Int64) (v1 : Int32) (v2 : Int32) (v3 : Int32) (v4 : Int32) (v5 : Int32) (v6 : Int32) : mj_den mj_P E d 223 103 [Value.ref 205, Value.int v1, Value.int v2, Value.int v3, Value.int v4, Value.int v5, Value.int v6] [] (mj_hw w c hi hl) = some (some (Value.int v5), (mj_hw w c hi hl)) := by
  rw [mj_den_eq, f223_103]
  exact zt_iload rfl rfl (zt_ireturn0)
set_option maxRecDepth 100000 in
theorem f224_0 : mj_find (mj_P 224).2.2.2.2 0 = [(.iconst 0, 1, 0, []), (.istore 4, 2, 0, []), (.iconst 0, 1, 0, []), (.istore 5, 2, 0, [])] := rfl
set_option maxRecDepth 100000 in
theorem q224_0 (E : mj_E) (d w c : Nat) (hi : Nat → Nat → Int32) (hl : Nat → Nat → Int64) (v1 : Int32) (v2 : Int32) (v3 : Int32) : mj_den mj_P E d 224 0 [Value.ref 205, Value.int v1, Value.int v2, Value.int v3, Value.float 0, Value.float 0, Value.float 0] [] (mj_hw w c hi hl) = mj_den mj_P E d 224 6 [Value.ref 205, Value.int v1, Value.int v2, Value.int v3, Value.int (0 : Int32), Value.int (0 : Int32), Value.float 0] [] (mj_hw w c hi hl) := by
  rw [mj_den_eq, f224_0]
  exact zt_iconst rfl (zt_istore (Nat.le_of_ble_eq_true rfl) rfl rfl (zt_iconst rfl (zt_istore (Nat.le_of_ble_eq_true rfl) rfl rfl (zt_end rfl))))
set_option maxRecDepth 100000 in
theorem f224_6 : mj_find (mj_P 224).2.2.2.2 6 = [(.iload 5, 2, 0, []), (.aload_n 0, 1, 0, []), (.getfield 134, 3, 0, [12, 6, 0, 1416]), (.if_icmp .ge 31, 3, 0, [43]), (.aload_n 0, 1, 0, []), (.iload_n 2, 1, 0, []), (.iload 5, 2, 0, []), (.invokevirtual 327, 3, 0, [0, 157, 12, 2, 1, 1832, 1834, 87, 156, 1835])] := rfl
set_option maxRecDepth 100000 in
theorem q224_6 (E : mj_E) (d w c : Nat) (hi : Nat → Nat → Int32) (hl : Nat → Nat → Int64) (v1 : Int32) (v2 : Int32) (v3 : Int32) (v4 : Int32) (v5 : Int32) : mj_den mj_P E d 224 6 [Value.ref 205, Value.int v1, Value.int v2, Value.int v3, Value.int v4, Value.int v5, Value.float 0] [] (mj_hw w c hi hl) = if (hi 205 6) ≤ v5 then mj_den mj_P E d 224 43 [Value.ref 205, Value.int v1, Value.int v2, Value.int v3, Value.int v4, Value.int v5, Value.float 0] [] (mj_hw w c hi hl) else mj_bi (mj_dc mj_P E d 157 [Value.ref 205, Value.int v2, Value.int v5] (mj_hw w c hi hl)) (fun x1 h1 => mj_den mj_P E d 224 22 [Value.ref 205, Value.int v1, Value.int v2, Value.int v3, Value.int v4, Value.int v5, Value.float 0] [Value.int x1] h1) := by
  rw [mj_den_eq, f224_6]
  exact zt_iload rfl rfl (zt_aload_n rfl rfl (zt_geti (mjkd205 _ _ _ _) rfl rfl (zt_icmp_ge rfl rfl (zt_aload_n rfl rfl (zt_iload_n rfl rfl (zt_iload rfl rfl (zt_call0_1 rfl (mjkd205 _ _ _ _) (Nat.le_of_ble_eq_true rfl) rfl rfl)))))))
set_option maxRecDepth 100000 in
theorem f224_22 : mj_find (mj_P 224).2.2.2.2 22 = [(.ifCond .eq 15, 3, 0, [37]), (.iload 4, 2, 0, []), (.aload_n 0, 1, 0, []), (.getfield 71, 3, 0, [12, 39, 3, 1449]), (.iload 5, 2, 0, []), (.iaload, 1, 0, []), (.ior, 1, 0, []), (.istore 4, 2, 0, [])] := rfl
set_option maxRecDepth 100000 in
theorem q224_22 (E : mj_E) (d w c : Nat) (hi : Nat → Nat → Int32) (hl : Nat → Nat → Int64) (v1 : Int32) (v2 : Int32) (v3 : Int32) (v4 : Int32) (v5 : Int32) (s0 : Int32) : mj_den mj_P E d 224 22 [Value.ref 205, Value.int v1, Value.int v2, Value.int v3, Value.int v4, Value.int v5, Value.float 0] [Value.int s0] (mj_hw w c hi hl) = if s0 = 0 then mj_den mj_P E d 224 37 [Value.ref 205, Value.int v1, Value.int v2, Value.int v3, Value.int v4, Value.int v5, Value.float 0] [] (mj_hw w c hi hl) else if 0 ≤ v5 ∧ (v5).toNatClampNeg < 20 then mj_den mj_P E d 224 37 [Value.ref 205, Value.int v1, Value.int v2, Value.int v3, Value.int (v4 ||| (hi 225 ((v5).toNatClampNeg))), Value.int v5, Value.float 0] [] (mj_hw w c hi hl) else none := by
  rw [mj_den_eq, f224_22]
  exact zt_if_eq rfl rfl (zt_iload rfl rfl (zt_aload_n rfl rfl (zt_getr (mjkd205 _ _ _ _) (mjhr205_39 w c) rfl (zt_iload rfl rfl (zt_iald (mjkd225 _ _ _ _) (mjln225 _ _ _ _) rfl rfl (zt_ior rfl (zt_istore (Nat.le_of_ble_eq_true rfl) rfl rfl (zt_end rfl))))))))
set_option maxRecDepth 100000 in
theorem f224_37 : mj_find (mj_P 224).2.2.2.2 37 = [(.iinc 5 1, 3, 1, []), (.goto (-34), 3, 0, [6])] := rfl
set_option maxRecDepth 100000 in
theorem q224_37 (E : mj_E) (d w c : Nat) (hi : Nat → Nat → Int32) (hl : Nat → Nat → Int64) (v1 : Int32) (v2 : Int32) (v3 : Int32) (v4 : Int32) (v5 : Int32) : mj_den mj_P E d 224 37 [Value.ref 205, Value.int v1, Value.int v2, Value.int v3, Value.int v4, Value.int v5, Value.float 0] [] (mj_hw w c hi hl) = mj_den mj_P E d 224 6 [Value.ref 205, Value.int v1, Value.int v2, Value.int v3, Value.int v4, Value.int (v5 + (1 : Int32)), Value.float 0] [] (mj_hw w c hi hl) := by
  rw [mj_den_eq, f224_37]
  exact zt_iinc rfl (Nat.le_of_ble_eq_true rfl) rfl rfl (zt_goto rfl)
set_option maxRecDepth 100000 in
theorem f224_43 : mj_find (mj_P 224).2.2.2.2 43 = [(.iload 4, 2, 0, []), (.iload_n 1, 1, 0, []), (.iand, 1, 0, []), (.iload_n 2, 1, 0, []), (.iconst (-1), 1, (-1), []), (.ixor, 1, 0, []), (.iand, 1, 0, []), (.istore 5, 2, 0, []), (.iconst 0, 1, 0, []), (.istore 6, 2, 0, [])] := rfl
set_option maxRecDepth 100000 in
theorem q224_43 (E : mj_E) (d w c : Nat) (hi : Nat → Nat → Int32) (hl : Nat → Nat → Int64) (v1 : Int32) (v2 : Int32) (v3 : Int32) (v4 : Int32) (v5 : Int32) : mj_den mj_P E d 224 43 [Value.ref 205, Value.int v1, Value.int v2, Value.int v3, Value.int v4, Value.int v5, Value.float 0] [] (mj_hw w c hi hl) = mj_den mj_P E d 224 56 [Value.ref 205, Value.int v1, Value.int v2, Value.int v3, Value.int v4, Value.int ((v4 &&& v1) &&& (v2 ^^^ (-1 : Int32))), Value.int (0 : Int32)] [] (mj_hw w c hi hl) := by
  rw [mj_den_eq, f224_43]
  exact zt_iload rfl rfl (zt_iload_n rfl rfl (zt_iand rfl (zt_iload_n rfl rfl (zt_iconst rfl (zt_ixor rfl (zt_iand rfl (zt_istore (Nat.le_of_ble_eq_true rfl) rfl rfl (zt_iconst rfl (zt_istore (Nat.le_of_ble_eq_true rfl) rfl rfl (zt_end rfl))))))))))
set_option maxRecDepth 100000 in
theorem f224_56 : mj_find (mj_P 224).2.2.2.2 56 = [(.iload 6, 2, 0, []), (.aload_n 0, 1, 0, []), (.getfield 134, 3, 0, [12, 6, 0, 1416]), (.if_icmp .ge 28, 3, 0, [90]), (.aload_n 0, 1, 0, []), (.iload 5, 2, 0, []), (.iload 6, 2, 0, []), (.invokevirtual 327, 3, 0, [0, 157, 12, 2, 1, 1832, 1834, 87, 156, 1835])] := rfl
set_option maxRecDepth 100000 in
theorem q224_56 (E : mj_E) (d w c : Nat) (hi : Nat → Nat → Int32) (hl : Nat → Nat → Int64) (v1 : Int32) (v2 : Int32) (v3 : Int32) (v4 : Int32) (v5 : Int32) (v6 : Int32) : mj_den mj_P E d 224 56 [Value.ref 205, Value.int v1, Value.int v2, Value.int v3, Value.int v4, Value.int v5, Value.int v6] [] (mj_hw w c hi hl) = if (hi 205 6) ≤ v6 then mj_den mj_P E d 224 90 [Value.ref 205, Value.int v1, Value.int v2, Value.int v3, Value.int v4, Value.int v5, Value.int v6] [] (mj_hw w c hi hl) else mj_bi (mj_dc mj_P E d 157 [Value.ref 205, Value.int v5, Value.int v6] (mj_hw w c hi hl)) (fun x1 h1 => mj_den mj_P E d 224 73 [Value.ref 205, Value.int v1, Value.int v2, Value.int v3, Value.int v4, Value.int v5, Value.int v6] [Value.int x1] h1) := by
  rw [mj_den_eq, f224_56]
  exact zt_iload rfl rfl (zt_aload_n rfl rfl (zt_geti (mjkd205 _ _ _ _) rfl rfl (zt_icmp_ge rfl rfl (zt_aload_n rfl rfl (zt_iload rfl rfl (zt_iload rfl rfl (zt_call0_1 rfl (mjkd205 _ _ _ _) (Nat.le_of_ble_eq_true rfl) rfl rfl)))))))
set_option maxRecDepth 100000 in
theorem f224_73 : mj_find (mj_P 224).2.2.2.2 73 = [(.ifCond .eq 11, 3, 0, [84]), (.aload_n 0, 1, 0, []), (.iconst 1, 1, 1, []), (.iload 6, 2, 0, []), (.iload_n 3, 1, 0, []), (.invokevirtual 346, 3, 0, [0, 220, 12, 3, 0, 1874, 1876, 97, 156, 1877])] := rfl
set_option maxRecDepth 100000 in
theorem q224_73 (E : mj_E) (d w c : Nat) (hi : Nat → Nat → Int32) (hl : Nat → Nat → Int64) (v1 : Int32) (v2 : Int32) (v3 : Int32) (v4 : Int32) (v5 : Int32) (v6 : Int32) (s0 : Int32) : mj_den mj_P E d 224 73 [Value.ref 205, Value.int v1, Value.int v2, Value.int v3, Value.int v4, Value.int v5, Value.int v6] [Value.int s0] (mj_hw w c hi hl) = if s0 = 0 then mj_den mj_P E d 224 84 [Value.ref 205, Value.int v1, Value.int v2, Value.int v3, Value.int v4, Value.int v5, Value.int v6] [] (mj_hw w c hi hl) else mj_bv (mj_dc mj_P E d 220 [Value.ref 205, Value.int (1 : Int32), Value.int v6, Value.int v3] (mj_hw w c hi hl)) (fun h1 => mj_den mj_P E d 224 84 [Value.ref 205, Value.int v1, Value.int v2, Value.int v3, Value.int v4, Value.int v5, Value.int v6] [] h1) := by
  rw [mj_den_eq, f224_73]
  exact zt_if_eq rfl rfl (zt_aload_n rfl rfl (zt_iconst rfl (zt_iload rfl rfl (zt_iload_n rfl rfl (zt_call0_0 rfl (mjkd205 _ _ _ _) (Nat.le_of_ble_eq_true rfl) rfl rfl)))))
set_option maxRecDepth 100000 in
theorem f224_84 : mj_find (mj_P 224).2.2.2.2 84 = [(.iinc 6 1, 3, 1, []), (.goto (-31), 3, 0, [56])] := rfl
set_option maxRecDepth 100000 in
theorem q224_84 (E : mj_E) (d w c : Nat) (hi : Nat → Nat → Int32) (hl : Nat → Nat → Int64) (v1 : Int32) (v2 : Int32) (v3 : Int32) (v4 : Int32) (v5 : Int32) (v6 : Int32) : mj_den mj_P E d 224 84 [Value.ref 205, Value.int v1, Value.int v2, Value.int v3, Value.int v4, Value.int v5, Value.int v6] [] (mj_hw w c hi hl) = mj_den mj_P E d 224 56 [Value.ref 205, Value.int v1, Value.int v2, Value.int v3, Value.int v4, Value.int v5, Value.int (v6 + (1 : Int32))] [] (mj_hw w c hi hl) := by
  rw [mj_den_eq, f224_84]
  exact zt_iinc rfl (Nat.le_of_ble_eq_true rfl) rfl rfl (zt_goto rfl)
set_option maxRecDepth 100000 in
theorem f224_90 : mj_find (mj_P 224).2.2.2.2 90 = [(.iload 5, 2, 0, []), (.ireturn, 1, 0, [0])] := rfl
set_option maxRecDepth 100000 in
theorem q224_90 (E : mj_E) (d w c : Nat) (hi : Nat → Nat → Int32) (hl : Nat → Nat → Int64) (v1 : Int32) (v2 : Int32) (v3 : Int32) (v4 : Int32) (v5 : Int32) (v6 : Int32) : mj_den mj_P E d 224 90 [Value.ref 205, Value.int v1, Value.int v2, Value.int v3, Value.int v4, Value.int v5, Value.int v6] [] (mj_hw w c hi hl) = some (some (Value.int v5), (mj_hw w c hi hl)) := by
  rw [mj_den_eq, f224_90]
  exact zt_iload rfl rfl (zt_ireturn0)
set_option maxRecDepth 100000 in
theorem f225_0 : mj_find (mj_P 225).2.2.2.2 0 = [(.iload_n 2, 1, 0, []), (.istore_n 3, 1, 0, []), (.iconst 0, 1, 0, []), (.istore 4, 2, 0, []), (.aload_n 0, 1, 0, []), (.iconst 0, 1, 0, []), (.putfield 350, 3, 0, [12, 46, 0, 1456])] := rfl
set_option maxRecDepth 100000 in
theorem q225_0 (E : mj_E) (d w c : Nat) (hi : Nat → Nat → Int32) (hl : Nat → Nat → Int64) (v1 : Int32) (v2 : Int32) : mj_den mj_P E d 225 0 [Value.ref 205, Value.int v1, Value.int v2, Value.float 0, Value.float 0, Value.float 0, Value.float 0] [] (mj_hw w c hi hl) = mj_den mj_P E d 225 10 [Value.ref 205, Value.int v1, Value.int v2, Value.int v2, Value.int (0 : Int32), Value.float 0, Value.float 0] [] (mj_hw w c (mj_u hi 205 46 (0 : Int32)) hl) := by
  rw [mj_den_eq, f225_0]
  exact zt_iload_n rfl rfl (zt_istore_n (Nat.le_of_ble_eq_true rfl) rfl rfl (zt_iconst rfl (zt_istore (Nat.le_of_ble_eq_true rfl) rfl rfl (zt_aload_n rfl rfl (zt_iconst rfl (zt_puti (mjkd205 _ _ _ _) rfl rfl (zt_end rfl)))))))
set_option maxRecDepth 100000 in
theorem f225_10 : mj_find (mj_P 225).2.2.2.2 10 = [(.aload_n 0, 1, 0, []), (.iload_n 3, 1, 0, []), (.invokevirtual 336, 3, 0, [0, 156, 12, 1, 1, 1820, 1822, 84, 156, 1823])] := rfl
set_option maxRecDepth 100000 in
theorem q225_10 (E : mj_E) (d w c : Nat) (hi : Nat → Nat → Int32) (hl : Nat → Nat → Int64) (v1 : Int32) (v2 : Int32) (v3 : Int32) (v4 : Int32) : mj_den mj_P E d 225 10 [Value.ref 205, Value.int v1, Value.int v2, Value.int v3, Value.int v4, Value.float 0, Value.float 0] [] (mj_hw w c hi hl) = mj_bi (mj_dc mj_P E d 156 [Value.ref 205, Value.int v3] (mj_hw w c hi hl)) (fun x1 h1 => mj_den mj_P E d 225 15 [Value.ref 205, Value.int v1, Value.int v2, Value.int v3, Value.int v4, Value.float 0, Value.float 0] [Value.int x1] h1) := by
  rw [mj_den_eq, f225_10]
  exact zt_aload_n rfl rfl (zt_iload_n rfl rfl (zt_call0_1 rfl (mjkd205 _ _ _ _) (Nat.le_of_ble_eq_true rfl) rfl rfl))
set_option maxRecDepth 100000 in
theorem q225_10_1 (E : mj_E) (d w c : Nat) (hi : Nat → Nat → Int32) (hl : Nat → Nat → Int64) (v1 : Int32) (v2 : Int32) (v3 : Int32) (v4 : Int32) (v5 : Int32) (v6 : Int32) : mj_den mj_P E d 225 10 [Value.ref 205, Value.int v1, Value.int v2, Value.int v3, Value.int v4, Value.int v5, Value.int v6] [] (mj_hw w c hi hl) = mj_bi (mj_dc mj_P E d 156 [Value.ref 205, Value.int v3] (mj_hw w c hi hl)) (fun x1 h1 => mj_den mj_P E d 225 15 [Value.ref 205, Value.int v1, Value.int v2, Value.int v3, Value.int v4, Value.int v5, Value.int v6] [Value.int x1] h1) := by
  rw [mj_den_eq, f225_10]
  exact zt_aload_n rfl rfl (zt_iload_n rfl rfl (zt_call0_1 rfl (mjkd205 _ _ _ _) (Nat.le_of_ble_eq_true rfl) rfl rfl))
set_option maxRecDepth 100000 in
theorem f225_15 : mj_find (mj_P 225).2.2.2.2 15 = [(.iconst 1, 1, 1, []), (.if_icmp .le 96, 3, 0, [112]), (.iload 4, 2, 0, []), (.sipush 200, 3, 200, []), (.if_icmp .ge 88, 3, 0, [112]), (.aload_n 0, 1, 0, []), (.iload_n 1, 1, 0, []), (.iload_n 3, 1, 0, []), (.iload 4, 2, 0, []), (.invokevirtual 353, 3, 0, [0, 223, 12, 3, 1, 1824, 1826, 85, 156, 1827])] := rfl
set_option maxRecDepth 100000 in
theorem q225_15 (E : mj_E) (d w c : Nat) (hi : Nat → Nat → Int32) (hl : Nat → Nat → Int64) (v1 : Int32) (v2 : Int32) (v3 : Int32) (v4 : Int32) (s0 : Int32) : mj_den mj_P E d 225 15 [Value.ref 205, Value.int v1, Value.int v2, Value.int v3, Value.int v4, Value.float 0, Value.float 0] [Value.int s0] (mj_hw w c hi hl) = if s0 ≤ (1 : Int32) then mj_den mj_P E d 225 112 [Value.ref 205, Value.int v1, Value.int v2, Value.int v3, Value.int v4, Value.float 0, Value.float 0] [] (mj_hw w c hi hl) else if (200 : Int32) ≤ v4 then mj_den mj_P E d 225 112 [Value.ref 205, Value.int v1, Value.int v2, Value.int v3, Value.int v4, Value.float 0, Value.float 0] [] (mj_hw w c hi hl) else mj_bi (mj_dc mj_P E d 223 [Value.ref 205, Value.int v1, Value.int v3, Value.int v4] (mj_hw w c hi hl)) (fun x1 h1 => mj_den mj_P E d 225 35 [Value.ref 205, Value.int v1, Value.int v2, Value.int v3, Value.int v4, Value.float 0, Value.float 0] [Value.int x1] h1) := by
  rw [mj_den_eq, f225_15]
  exact zt_iconst rfl (zt_icmp_le rfl rfl (zt_iload rfl rfl (zt_sipush rfl (zt_icmp_ge rfl rfl (zt_aload_n rfl rfl (zt_iload_n rfl rfl (zt_iload_n rfl rfl (zt_iload rfl rfl (zt_call0_1 rfl (mjkd205 _ _ _ _) (Nat.le_of_ble_eq_true rfl) rfl rfl)))))))))
set_option maxRecDepth 100000 in
theorem q225_15_1 (E : mj_E) (d w c : Nat) (hi : Nat → Nat → Int32) (hl : Nat → Nat → Int64) (v1 : Int32) (v2 : Int32) (v3 : Int32) (v4 : Int32) (v5 : Int32) (v6 : Int32) (s0 : Int32) : mj_den mj_P E d 225 15 [Value.ref 205, Value.int v1, Value.int v2, Value.int v3, Value.int v4, Value.int v5, Value.int v6] [Value.int s0] (mj_hw w c hi hl) = if s0 ≤ (1 : Int32) then mj_den mj_P E d 225 112 [Value.ref 205, Value.int v1, Value.int v2, Value.int v3, Value.int v4, Value.int v5, Value.int v6] [] (mj_hw w c hi hl) else if (200 : Int32) ≤ v4 then mj_den mj_P E d 225 112 [Value.ref 205, Value.int v1, Value.int v2, Value.int v3, Value.int v4, Value.int v5, Value.int v6] [] (mj_hw w c hi hl) else mj_bi (mj_dc mj_P E d 223 [Value.ref 205, Value.int v1, Value.int v3, Value.int v4] (mj_hw w c hi hl)) (fun x1 h1 => mj_den mj_P E d 225 35 [Value.ref 205, Value.int v1, Value.int v2, Value.int v3, Value.int v4, Value.int v5, Value.int v6] [Value.int x1] h1) := by
  rw [mj_den_eq, f225_15]
  exact zt_iconst rfl (zt_icmp_le rfl rfl (zt_iload rfl rfl (zt_sipush rfl (zt_icmp_ge rfl rfl (zt_aload_n rfl rfl (zt_iload_n rfl rfl (zt_iload_n rfl rfl (zt_iload rfl rfl (zt_call0_1 rfl (mjkd205 _ _ _ _) (Nat.le_of_ble_eq_true rfl) rfl rfl)))))))))
set_option maxRecDepth 100000 in
theorem f225_35 : mj_find (mj_P 225).2.2.2.2 35 = [(.istore 5, 2, 0, []), (.iload 5, 2, 0, []), (.aload_n 0, 1, 0, []), (.iload_n 3, 1, 0, []), (.iload 5, 2, 0, []), (.aload_n 0, 1, 0, []), (.iload 4, 2, 0, []), (.invokevirtual 334, 3, 0, [0, 219, 12, 1, 1, 1828, 1830, 86, 156, 1831])] := rfl
set_option maxRecDepth 100000 in
theorem q225_35 (E : mj_E) (d w c : Nat) (hi : Nat → Nat → Int32) (hl : Nat → Nat → Int64) (v1 : Int32) (v2 : Int32) (v3 : Int32) (v4 : Int32) (s0 : Int32) : mj_den mj_P E d 225 35 [Value.ref 205, Value.int v1, Value.int v2, Value.int v3, Value.int v4, Value.float 0, Value.float 0] [Value.int s0] (mj_hw w c hi hl) = mj_bi (mj_dc mj_P E d 219 [Value.ref 205, Value.int v4] (mj_hw w c hi hl)) (fun x1 h1 => mj_den mj_P E d 225 49 [Value.ref 205, Value.int v1, Value.int v2, Value.int v3, Value.int v4, Value.int s0, Value.float 0] [Value.int x1, Value.int s0, Value.int v3, Value.ref 205, Value.int s0] h1) := by
  rw [mj_den_eq, f225_35]
  exact zt_istore (Nat.le_of_ble_eq_true rfl) rfl rfl (zt_iload rfl rfl (zt_aload_n rfl rfl (zt_iload_n rfl rfl (zt_iload rfl rfl (zt_aload_n rfl rfl (zt_iload rfl rfl (zt_call0_1 rfl (mjkd205 _ _ _ _) (Nat.le_of_ble_eq_true rfl) rfl rfl)))))))
set_option maxRecDepth 100000 in
theorem q225_35_1 (E : mj_E) (d w c : Nat) (hi : Nat → Nat → Int32) (hl : Nat → Nat → Int64) (v1 : Int32) (v2 : Int32) (v3 : Int32) (v4 : Int32) (v5 : Int32) (v6 : Int32) (s0 : Int32) : mj_den mj_P E d 225 35 [Value.ref 205, Value.int v1, Value.int v2, Value.int v3, Value.int v4, Value.int v5, Value.int v6] [Value.int s0] (mj_hw w c hi hl) = mj_bi (mj_dc mj_P E d 219 [Value.ref 205, Value.int v4] (mj_hw w c hi hl)) (fun x1 h1 => mj_den mj_P E d 225 49 [Value.ref 205, Value.int v1, Value.int v2, Value.int v3, Value.int v4, Value.int s0, Value.int v6] [Value.int x1, Value.int s0, Value.int v3, Value.ref 205, Value.int s0] h1) := by
  rw [mj_den_eq, f225_35]
  exact zt_istore (Nat.le_of_ble_eq_true rfl) rfl rfl (zt_iload rfl rfl (zt_aload_n rfl rfl (zt_iload_n rfl rfl (zt_iload rfl rfl (zt_aload_n rfl rfl (zt_iload rfl rfl (zt_call0_1 rfl (mjkd205 _ _ _ _) (Nat.le_of_ble_eq_true rfl) rfl rfl)))))))
set_option maxRecDepth 100000 in
theorem f225_49 : mj_find (mj_P 225).2.2.2.2 49 = [(.invokevirtual 356, 3, 0, [0, 224, 12, 3, 1, 1878, 1880, 98, 156, 1881])] := rfl
set_option maxRecDepth 100000 in
theorem q225_49 (E : mj_E) (d w c : Nat) (hi : Nat → Nat → Int32) (hl : Nat → Nat → Int64) (v1 : Int32) (v2 : Int32) (v3 : Int32) (v4 : Int32) (v5 : Int32) (s0 : Int32) (s1 : Int32) (s2 : Int32) (s4 : Int32) : mj_den mj_P E d 225 49 [Value.ref 205, Value.int v1, Value.int v2, Value.int v3, Value.int v4, Value.int v5, Value.float 0] [Value.int s0, Value.int s1, Value.int s2, Value.ref 205, Value.int s4] (mj_hw w c hi hl) = mj_bi (mj_dc mj_P E d 224 [Value.ref 205, Value.int s2, Value.int s1, Value.int s0] (mj_hw w c hi hl)) (fun x1 h1 => mj_den mj_P E d 225 52 [Value.ref 205, Value.int v1, Value.int v2, Value.int v3, Value.int v4, Value.int v5, Value.float 0] [Value.int x1, Value.int s4] h1) := by
  rw [mj_den_eq, f225_49]
  exact zt_call0_1 rfl (mjkd205 _ _ _ _) (Nat.le_of_ble_eq_true rfl) rfl rfl
set_option maxRecDepth 100000 in
theorem q225_49_1 (E : mj_E) (d w c : Nat) (hi : Nat → Nat → Int32) (hl : Nat → Nat → Int64) (v1 : Int32) (v2 : Int32) (v3 : Int32) (v4 : Int32) (v5 : Int32) (v6 : Int32) (s0 : Int32) (s1 : Int32) (s2 : Int32) (s4 : Int32) : mj_den mj_P E d 225 49 [Value.ref 205, Value.int v1, Value.int v2, Value.int v3, Value.int v4, Value.int v5, Value.int v6] [Value.int s0, Value.int s1, Value.int s2, Value.ref 205, Value.int s4] (mj_hw w c hi hl) = mj_bi (mj_dc mj_P E d 224 [Value.ref 205, Value.int s2, Value.int s1, Value.int s0] (mj_hw w c hi hl)) (fun x1 h1 => mj_den mj_P E d 225 52 [Value.ref 205, Value.int v1, Value.int v2, Value.int v3, Value.int v4, Value.int v5, Value.int v6] [Value.int x1, Value.int s4] h1) := by
  rw [mj_den_eq, f225_49]
  exact zt_call0_1 rfl (mjkd205 _ _ _ _) (Nat.le_of_ble_eq_true rfl) rfl rfl
set_option maxRecDepth 100000 in
theorem f225_52 : mj_find (mj_P 225).2.2.2.2 52 = [(.ior, 1, 0, []), (.istore 6, 2, 0, []), (.aload_n 0, 1, 0, []), (.aload_n 0, 1, 0, []), (.getfield 350, 3, 0, [12, 46, 0, 1456]), (.iload 5, 2, 0, []), (.ior, 1, 0, []), (.putfield 350, 3, 0, [12, 46, 0, 1456]), (.iload 6, 2, 0, []), (.iload_n 3, 1, 0, []), (.if_icmp .ne 13, 3, 0, [82]), (.iconst 1, 1, 1, []), (.aload_n 0, 1, 0, []), (.iload_n 3, 1, 0, []), (.invokevirtual 359, 3, 0, [0, 221, 12, 1, 1, 1882, 1884, 99, 156, 1885])] := rfl
set_option maxRecDepth 100000 in
theorem q225_52 (E : mj_E) (d w c : Nat) (hi : Nat → Nat → Int32) (hl : Nat → Nat → Int64) (v1 : Int32) (v2 : Int32) (v3 : Int32) (v4 : Int32) (v5 : Int32) (s0 : Int32) (s1 : Int32) : mj_den mj_P E d 225 52 [Value.ref 205, Value.int v1, Value.int v2, Value.int v3, Value.int v4, Value.int v5, Value.float 0] [Value.int s0, Value.int s1] (mj_hw w c hi hl) = if ¬ (s1 ||| s0) = v3 then mj_den mj_P E d 225 82 [Value.ref 205, Value.int v1, Value.int v2, Value.int v3, Value.int v4, Value.int v5, Value.int (s1 ||| s0)] [] (mj_hw w c (mj_u hi 205 46 ((hi 205 46) ||| v5)) hl) else mj_bi (mj_dc mj_P E d 221 [Value.ref 205, Value.int v3] (mj_hw w c (mj_u hi 205 46 ((hi 205 46) ||| v5)) hl)) (fun x1 h1 => mj_den mj_P E d 225 78 [Value.ref 205, Value.int v1, Value.int v2, Value.int v3, Value.int v4, Value.int v5, Value.int (s1 ||| s0)] [Value.int x1, Value.int (1 : Int32)] h1) := by
  rw [mj_den_eq, f225_52]
  exact zt_ior rfl (zt_istore (Nat.le_of_ble_eq_true rfl) rfl rfl (zt_aload_n rfl rfl (zt_aload_n rfl rfl (zt_geti (mjkd205 _ _ _ _) rfl rfl (zt_iload rfl rfl (zt_ior rfl (zt_puti (mjkd205 _ _ _ _) rfl rfl (zt_iload rfl rfl (zt_iload_n rfl rfl (zt_icmp_ne rfl rfl (zt_iconst rfl (zt_aload_n rfl rfl (zt_iload_n rfl rfl (zt_call0_1 rfl (mjkd205 _ _ _ _) (Nat.le_of_ble_eq_true rfl) rfl rfl))))))))))))))
set_option maxRecDepth 100000 in
theorem q225_52_1 (E : mj_E) (d w c : Nat) (hi : Nat → Nat → Int32) (hl : Nat → Nat → Int64) (v1 : Int32) (v2 : Int32) (v3 : Int32) (v4 : Int32) (v5 : Int32) (v6 : Int32) (s0 : Int32) (s1 : Int32) : mj_den mj_P E d 225 52 [Value.ref 205, Value.int v1, Value.int v2, Value.int v3, Value.int v4, Value.int v5, Value.int v6] [Value.int s0, Value.int s1] (mj_hw w c hi hl) = if ¬ (s1 ||| s0) = v3 then mj_den mj_P E d 225 82 [Value.ref 205, Value.int v1, Value.int v2, Value.int v3, Value.int v4, Value.int v5, Value.int (s1 ||| s0)] [] (mj_hw w c (mj_u hi 205 46 ((hi 205 46) ||| v5)) hl) else mj_bi (mj_dc mj_P E d 221 [Value.ref 205, Value.int v3] (mj_hw w c (mj_u hi 205 46 ((hi 205 46) ||| v5)) hl)) (fun x1 h1 => mj_den mj_P E d 225 78 [Value.ref 205, Value.int v1, Value.int v2, Value.int v3, Value.int v4, Value.int v5, Value.int (s1 ||| s0)] [Value.int x1, Value.int (1 : Int32)] h1) := by
  rw [mj_den_eq, f225_52]
  exact zt_ior rfl (zt_istore (Nat.le_of_ble_eq_true rfl) rfl rfl (zt_aload_n rfl rfl (zt_aload_n rfl rfl (zt_geti (mjkd205 _ _ _ _) rfl rfl (zt_iload rfl rfl (zt_ior rfl (zt_puti (mjkd205 _ _ _ _) rfl rfl (zt_iload rfl rfl (zt_iload_n rfl rfl (zt_icmp_ne rfl rfl (zt_iconst rfl (zt_aload_n rfl rfl (zt_iload_n rfl rfl (zt_call0_1 rfl (mjkd205 _ _ _ _) (Nat.le_of_ble_eq_true rfl) rfl rfl))))))))))))))
set_option maxRecDepth 100000 in
theorem f225_78 : mj_find (mj_P 225).2.2.2.2 78 = [(.ishl, 1, 0, []), (.goto 9, 3, 0, [88])] := rfl
set_option maxRecDepth 100000 in
theorem q225_78 (E : mj_E) (d w c : Nat) (hi : Nat → Nat → Int32) (hl : Nat → Nat → Int64) (v1 : Int32) (v2 : Int32) (v3 : Int32) (v4 : Int32) (v5 : Int32) (v6 : Int32) (s0 : Int32) (s1 : Int32) : mj_den mj_P E d 225 78 [Value.ref 205, Value.int v1, Value.int v2, Value.int v3, Value.int v4, Value.int v5, Value.int v6] [Value.int s0, Value.int s1] (mj_hw w c hi hl) = mj_den mj_P E d 225 88 [Value.ref 205, Value.int v1, Value.int v2, Value.int v3, Value.int v4, Value.int v5, Value.int v6] [Value.int (s1 <<< (s0 &&& 31))] (mj_hw w c hi hl) := by
  rw [mj_den_eq, f225_78]
  exact zt_ishl rfl (zt_goto rfl)
set_option maxRecDepth 100000 in
theorem f225_82 : mj_find (mj_P 225).2.2.2.2 82 = [(.iload_n 3, 1, 0, []), (.iload 6, 2, 0, []), (.iconst (-1), 1, (-1), []), (.ixor, 1, 0, []), (.iand, 1, 0, [])] := rfl
set_option maxRecDepth 100000 in
theorem q225_82 (E : mj_E) (d w c : Nat) (hi : Nat → Nat → Int32) (hl : Nat → Nat → Int64) (v1 : Int32) (v2 : Int32) (v3 : Int32) (v4 : Int32) (v5 : Int32) (v6 : Int32) : mj_den mj_P E d 225 82 [Value.ref 205, Value.int v1, Value.int v2, Value.int v3, Value.int v4, Value.int v5, Value.int v6] [] (mj_hw w c hi hl) = mj_den mj_P E d 225 88 [Value.ref 205, Value.int v1, Value.int v2, Value.int v3, Value.int v4, Value.int v5, Value.int v6] [Value.int (v3 &&& (v6 ^^^ (-1 : Int32)))] (mj_hw w c hi hl) := by
  rw [mj_den_eq, f225_82]
  exact zt_iload_n rfl rfl (zt_iload rfl rfl (zt_iconst rfl (zt_ixor rfl (zt_iand rfl (zt_end rfl)))))
set_option maxRecDepth 100000 in
theorem f225_88 : mj_find (mj_P 225).2.2.2.2 88 = [(.istore_n 3, 1, 0, []), (.iload 4, 2, 0, []), (.iconst 1, 1, 1, []), (.iadd, 1, 0, []), (.istore 4, 2, 0, []), (.aload_n 0, 1, 0, []), (.getfield 7, 3, 0, [12, 1, 3, 1411]), (.iconst 0, 1, 0, []), (.aload_n 0, 1, 0, []), (.getfield 7, 3, 0, [12, 1, 3, 1411]), (.iconst 0, 1, 0, []), (.iaload, 1, 0, []), (.iconst 1, 1, 1, []), (.iadd, 1, 0, []), (.iastore, 1, 0, []), (.goto (-99), 3, 0, [10])] := rfl
set_option maxRecDepth 100000 in
theorem q225_88 (E : mj_E) (d w c : Nat) (hi : Nat → Nat → Int32) (hl : Nat → Nat → Int64) (v1 : Int32) (v2 : Int32) (v3 : Int32) (v4 : Int32) (v5 : Int32) (v6 : Int32) (s0 : Int32) : mj_den mj_P E d 225 88 [Value.ref 205, Value.int v1, Value.int v2, Value.int v3, Value.int v4, Value.int v5, Value.int v6] [Value.int s0] (mj_hw w c hi hl) = if 0 ≤ (0 : Int32) ∧ ((0 : Int32)).toNatClampNeg < 57 then if 0 ≤ (0 : Int32) ∧ ((0 : Int32)).toNatClampNeg < 57 then mj_den mj_P E d 225 10 [Value.ref 205, Value.int v1, Value.int v2, Value.int s0, Value.int (v4 + (1 : Int32)), Value.int v5, Value.int v6] [] (mj_hw w c (mj_u hi 206 (((0 : Int32)).toNatClampNeg) ((hi 206 (((0 : Int32)).toNatClampNeg)) + (1 : Int32))) hl) else none else none := by
  rw [mj_den_eq, f225_88]
  exact zt_istore_n (Nat.le_of_ble_eq_true rfl) rfl rfl (zt_iload rfl rfl (zt_iconst rfl (zt_iadd rfl (zt_istore (Nat.le_of_ble_eq_true rfl) rfl rfl (zt_aload_n rfl rfl (zt_getr (mjkd205 _ _ _ _) (mjhr205_1 w c) rfl (zt_iconst rfl (zt_aload_n rfl rfl (zt_getr (mjkd205 _ _ _ _) (mjhr205_1 w c) rfl (zt_iconst rfl (zt_iald (mjkd206 _ _ _ _) (mjln206 _ _ _ _) rfl rfl (zt_iconst rfl (zt_iadd rfl (zt_iast (mjkd206 _ _ _ _) (mjln206 _ _ _ _) rfl rfl (zt_goto rfl)))))))))))))))
set_option maxRecDepth 100000 in
theorem f225_112 : mj_find (mj_P 225).2.2.2.2 112 = [(.aload_n 0, 1, 0, []), (.iload 4, 2, 0, []), (.putfield 362, 3, 0, [12, 44, 0, 1454]), (.aload_n 0, 1, 0, []), (.iload_n 3, 1, 0, []), (.invokevirtual 359, 3, 0, [0, 221, 12, 1, 1, 1882, 1884, 99, 156, 1885])] := rfl
set_option maxRecDepth 100000 in
theorem q225_112 (E : mj_E) (d w c : Nat) (hi : Nat → Nat → Int32) (hl : Nat → Nat → Int64) (v1 : Int32) (v2 : Int32) (v3 : Int32) (v4 : Int32) (v5 : Int32) (v6 : Int32) : mj_den mj_P E d 225 112 [Value.ref 205, Value.int v1, Value.int v2, Value.int v3, Value.int v4, Value.int v5, Value.int v6] [] (mj_hw w c hi hl) = mj_bi (mj_dc mj_P E d 221 [Value.ref 205, Value.int v3] (mj_hw w c (mj_u hi 205 44 v4) hl)) (fun x1 h1 => mj_den mj_P E d 225 123 [Value.ref 205, Value.int v1, Value.int v2, Value.int v3, Value.int v4, Value.int v5, Value.int v6] [Value.int x1] h1) := by
  rw [mj_den_eq, f225_112]
  exact zt_aload_n rfl rfl (zt_iload rfl rfl (zt_puti (mjkd205 _ _ _ _) rfl rfl (zt_aload_n rfl rfl (zt_iload_n rfl rfl (zt_call0_1 rfl (mjkd205 _ _ _ _) (Nat.le_of_ble_eq_true rfl) rfl rfl)))))
set_option maxRecDepth 100000 in
theorem q225_112_1 (E : mj_E) (d w c : Nat) (hi : Nat → Nat → Int32) (hl : Nat → Nat → Int64) (v1 : Int32) (v2 : Int32) (v3 : Int32) (v4 : Int32) : mj_den mj_P E d 225 112 [Value.ref 205, Value.int v1, Value.int v2, Value.int v3, Value.int v4, Value.float 0, Value.float 0] [] (mj_hw w c hi hl) = mj_bi (mj_dc mj_P E d 221 [Value.ref 205, Value.int v3] (mj_hw w c (mj_u hi 205 44 v4) hl)) (fun x1 h1 => mj_den mj_P E d 225 123 [Value.ref 205, Value.int v1, Value.int v2, Value.int v3, Value.int v4, Value.float 0, Value.float 0] [Value.int x1] h1) := by
  rw [mj_den_eq, f225_112]
  exact zt_aload_n rfl rfl (zt_iload rfl rfl (zt_puti (mjkd205 _ _ _ _) rfl rfl (zt_aload_n rfl rfl (zt_iload_n rfl rfl (zt_call0_1 rfl (mjkd205 _ _ _ _) (Nat.le_of_ble_eq_true rfl) rfl rfl)))))
set_option maxRecDepth 100000 in
theorem f225_123 : mj_find (mj_P 225).2.2.2.2 123 = [(.istore 5, 2, 0, []), (.aload_n 0, 1, 0, []), (.iload_n 3, 1, 0, []), (.invokevirtual 336, 3, 0, [0, 156, 12, 1, 1, 1820, 1822, 84, 156, 1823])] := rfl
set_option maxRecDepth 100000 in
theorem q225_123 (E : mj_E) (d w c : Nat) (hi : Nat → Nat → Int32) (hl : Nat → Nat → Int64) (v1 : Int32) (v2 : Int32) (v3 : Int32) (v4 : Int32) (v5 : Int32) (v6 : Int32) (s0 : Int32) : mj_den mj_P E d 225 123 [Value.ref 205, Value.int v1, Value.int v2, Value.int v3, Value.int v4, Value.int v5, Value.int v6] [Value.int s0] (mj_hw w c hi hl) = mj_bi (mj_dc mj_P E d 156 [Value.ref 205, Value.int v3] (mj_hw w c hi hl)) (fun x1 h1 => mj_den mj_P E d 225 130 [Value.ref 205, Value.int v1, Value.int v2, Value.int v3, Value.int v4, Value.int s0, Value.int v6] [Value.int x1] h1) := by
  rw [mj_den_eq, f225_123]
  exact zt_istore (Nat.le_of_ble_eq_true rfl) rfl rfl (zt_aload_n rfl rfl (zt_iload_n rfl rfl (zt_call0_1 rfl (mjkd205 _ _ _ _) (Nat.le_of_ble_eq_true rfl) rfl rfl)))
set_option maxRecDepth 100000 in
theorem q225_123_1 (E : mj_E) (d w c : Nat) (hi : Nat → Nat → Int32) (hl : Nat → Nat → Int64) (v1 : Int32) (v2 : Int32) (v3 : Int32) (v4 : Int32) (s0 : Int32) : mj_den mj_P E d 225 123 [Value.ref 205, Value.int v1, Value.int v2, Value.int v3, Value.int v4, Value.float 0, Value.float 0] [Value.int s0] (mj_hw w c hi hl) = mj_bi (mj_dc mj_P E d 156 [Value.ref 205, Value.int v3] (mj_hw w c hi hl)) (fun x1 h1 => mj_den mj_P E d 225 130 [Value.ref 205, Value.int v1, Value.int v2, Value.int v3, Value.int v4, Value.int s0, Value.float 0] [Value.int x1] h1) := by
  rw [mj_den_eq, f225_123]
  exact zt_istore (Nat.le_of_ble_eq_true rfl) rfl rfl (zt_aload_n rfl rfl (zt_iload_n rfl rfl (zt_call0_1 rfl (mjkd205 _ _ _ _) (Nat.le_of_ble_eq_true rfl) rfl rfl)))
set_option maxRecDepth 100000 in
theorem f225_130 : mj_find (mj_P 225).2.2.2.2 130 = [(.iconst 1, 1, 1, []), (.if_icmp .le 11, 3, 0, [142]), (.aload_n 0, 1, 0, []), (.iconst 3, 1, 3, []), (.iload 5, 2, 0, []), (.iload_n 1, 1, 0, []), (.invokevirtual 346, 3, 0, [0, 220, 12, 3, 0, 1874, 1876, 97, 156, 1877])] := rfl
set_option maxRecDepth 100000 in
theorem q225_130 (E : mj_E) (d w c : Nat) (hi : Nat → Nat → Int32) (hl : Nat → Nat → Int64) (v1 : Int32) (v2 : Int32) (v3 : Int32) (v4 : Int32) (v5 : Int32) (v6 : Int32) (s0 : Int32) : mj_den mj_P E d 225 130 [Value.ref 205, Value.int v1, Value.int v2, Value.int v3, Value.int v4, Value.int v5, Value.int v6] [Value.int s0] (mj_hw w c hi hl) = if s0 ≤ (1 : Int32) then mj_den mj_P E d 225 142 [Value.ref 205, Value.int v1, Value.int v2, Value.int v3, Value.int v4, Value.int v5, Value.int v6] [] (mj_hw w c hi hl) else mj_bv (mj_dc mj_P E d 220 [Value.ref 205, Value.int (3 : Int32), Value.int v5, Value.int v1] (mj_hw w c hi hl)) (fun h1 => mj_den mj_P E d 225 142 [Value.ref 205, Value.int v1, Value.int v2, Value.int v3, Value.int v4, Value.int v5, Value.int v6] [] h1) := by
  rw [mj_den_eq, f225_130]
  exact zt_iconst rfl (zt_icmp_le rfl rfl (zt_aload_n rfl rfl (zt_iconst rfl (zt_iload rfl rfl (zt_iload_n rfl rfl (zt_call0_0 rfl (mjkd205 _ _ _ _) (Nat.le_of_ble_eq_true rfl) rfl rfl))))))
set_option maxRecDepth 100000 in
theorem q225_130_1 (E : mj_E) (d w c : Nat) (hi : Nat → Nat → Int32) (hl : Nat → Nat → Int64) (v1 : Int32) (v2 : Int32) (v3 : Int32) (v4 : Int32) (v5 : Int32) (s0 : Int32) : mj_den mj_P E d 225 130 [Value.ref 205, Value.int v1, Value.int v2, Value.int v3, Value.int v4, Value.int v5, Value.float 0] [Value.int s0] (mj_hw w c hi hl) = if s0 ≤ (1 : Int32) then mj_den mj_P E d 225 142 [Value.ref 205, Value.int v1, Value.int v2, Value.int v3, Value.int v4, Value.int v5, Value.float 0] [] (mj_hw w c hi hl) else mj_bv (mj_dc mj_P E d 220 [Value.ref 205, Value.int (3 : Int32), Value.int v5, Value.int v1] (mj_hw w c hi hl)) (fun h1 => mj_den mj_P E d 225 142 [Value.ref 205, Value.int v1, Value.int v2, Value.int v3, Value.int v4, Value.int v5, Value.float 0] [] h1) := by
  rw [mj_den_eq, f225_130]
  exact zt_iconst rfl (zt_icmp_le rfl rfl (zt_aload_n rfl rfl (zt_iconst rfl (zt_iload rfl rfl (zt_iload_n rfl rfl (zt_call0_0 rfl (mjkd205 _ _ _ _) (Nat.le_of_ble_eq_true rfl) rfl rfl))))))
set_option maxRecDepth 100000 in
theorem f225_142 : mj_find (mj_P 225).2.2.2.2 142 = [(.iload 5, 2, 0, []), (.ireturn, 1, 0, [0])] := rfl
set_option maxRecDepth 100000 in
theorem q225_142 (E : mj_E) (d w c : Nat) (hi : Nat → Nat → Int32) (hl : Nat → Nat → Int64) (v1 : Int32) (v2 : Int32) (v3 : Int32) (v4 : Int32) (v5 : Int32) (v6 : Int32) : mj_den mj_P E d 225 142 [Value.ref 205, Value.int v1, Value.int v2, Value.int v3, Value.int v4, Value.int v5, Value.int v6] [] (mj_hw w c hi hl) = some (some (Value.int v5), (mj_hw w c hi hl)) := by
  rw [mj_den_eq, f225_142]
  exact zt_iload rfl rfl (zt_ireturn0)
set_option maxRecDepth 100000 in
theorem q225_142_1 (E : mj_E) (d w c : Nat) (hi : Nat → Nat → Int32) (hl : Nat → Nat → Int64) (v1 : Int32) (v2 : Int32) (v3 : Int32) (v4 : Int32) (v5 : Int32) : mj_den mj_P E d 225 142 [Value.ref 205, Value.int v1, Value.int v2, Value.int v3, Value.int v4, Value.int v5, Value.float 0] [] (mj_hw w c hi hl) = some (some (Value.int v5), (mj_hw w c hi hl)) := by
  rw [mj_den_eq, f225_142]
  exact zt_iload rfl rfl (zt_ireturn0)
set_option maxRecDepth 100000 in
theorem f226_0 : mj_find (mj_P 226).2.2.2.2 0 = [(.aload_n 0, 1, 0, []), (.invokevirtual 365, 3, 0, [0, 169, 12, 0, 1, 1812, 1814, 82, 156, 1815])] := rfl
set_option maxRecDepth 100000 in
theorem q226_0 (E : mj_E) (d w c : Nat) (hi : Nat → Nat → Int32) (hl : Nat → Nat → Int64) (v1 : Int32) : mj_den mj_P E d 226 0 [Value.ref 205, Value.int v1, Value.float 0, Value.float 0, Value.float 0] [] (mj_hw w c hi hl) = mj_bi (mj_dc mj_P E d 169 [Value.ref 205] (mj_hw w c hi hl)) (fun x1 h1 => mj_den mj_P E d 226 4 [Value.ref 205, Value.int v1, Value.float 0, Value.float 0, Value.float 0] [Value.int x1] h1) := by
  rw [mj_den_eq, f226_0]
  exact zt_aload_n rfl rfl (zt_call0_1 rfl (mjkd205 _ _ _ _) (Nat.le_of_ble_eq_true rfl) rfl rfl)
set_option maxRecDepth 100000 in
theorem f226_4 : mj_find (mj_P 226).2.2.2.2 4 = [(.istore_n 2, 1, 0, []), (.iload_n 2, 1, 0, []), (.ifCond .ne 5, 3, 0, [11]), (.iconst (-1), 1, (-1), []), (.ireturn, 1, 0, [0])] := rfl
set_option maxRecDepth 100000 in
theorem q226_4 (E : mj_E) (d w c : Nat) (hi : Nat → Nat → Int32) (hl : Nat → Nat → Int64) (v1 : Int32) (s0 : Int32) : mj_den mj_P E d 226 4 [Value.ref 205, Value.int v1, Value.float 0, Value.float 0, Value.float 0] [Value.int s0] (mj_hw w c hi hl) = if ¬ s0 = 0 then mj_den mj_P E d 226 11 [Value.ref 205, Value.int v1, Value.int s0, Value.float 0, Value.float 0] [] (mj_hw w c hi hl) else some (some (Value.int (-1 : Int32)), (mj_hw w c hi hl)) := by
  rw [mj_den_eq, f226_4]
  exact zt_istore_n (Nat.le_of_ble_eq_true rfl) rfl rfl (zt_iload_n rfl rfl (zt_if_ne rfl rfl (zt_iconst rfl (zt_ireturn0))))
set_option maxRecDepth 100000 in
theorem f226_11 : mj_find (mj_P 226).2.2.2.2 11 = [(.aload_n 0, 1, 0, []), (.iload_n 1, 1, 0, []), (.iload_n 2, 1, 0, []), (.invokevirtual 368, 3, 0, [0, 225, 12, 2, 1, 1816, 1818, 83, 156, 1819])] := rfl
set_option maxRecDepth 100000 in
theorem q226_11 (E : mj_E) (d w c : Nat) (hi : Nat → Nat → Int32) (hl : Nat → Nat → Int64) (v1 : Int32) (v2 : Int32) : mj_den mj_P E d 226 11 [Value.ref 205, Value.int v1, Value.int v2, Value.float 0, Value.float 0] [] (mj_hw w c hi hl) = mj_bi (mj_dc mj_P E d 225 [Value.ref 205, Value.int v1, Value.int v2] (mj_hw w c hi hl)) (fun x1 h1 => mj_den mj_P E d 226 17 [Value.ref 205, Value.int v1, Value.int v2, Value.float 0, Value.float 0] [Value.int x1] h1) := by
  rw [mj_den_eq, f226_11]
  exact zt_aload_n rfl rfl (zt_iload_n rfl rfl (zt_iload_n rfl rfl (zt_call0_1 rfl (mjkd205 _ _ _ _) (Nat.le_of_ble_eq_true rfl) rfl rfl)))
set_option maxRecDepth 100000 in
theorem f226_17 : mj_find (mj_P 226).2.2.2.2 17 = [(.istore_n 3, 1, 0, []), (.aload_n 0, 1, 0, []), (.aload_n 0, 1, 0, []), (.aload_n 0, 1, 0, []), (.getfield 7, 3, 0, [12, 1, 3, 1411]), (.bipush 15, 2, 15, []), (.iload_n 3, 1, 0, []), (.iadd, 1, 0, []), (.iaload, 1, 0, []), (.aload_n 0, 1, 0, []), (.iload_n 3, 1, 0, []), (.iload_n 1, 1, 0, []), (.aload_n 0, 1, 0, []), (.getfield 362, 3, 0, [12, 44, 0, 1454]), (.invokevirtual 371, 3, 0, [0, 217, 12, 3, 1, 1886, 1888, 100, 156, 1889])] := rfl
set_option maxRecDepth 100000 in
theorem q226_17 (E : mj_E) (d w c : Nat) (hi : Nat → Nat → Int32) (hl : Nat → Nat → Int64) (v1 : Int32) (v2 : Int32) (s0 : Int32) : mj_den mj_P E d 226 17 [Value.ref 205, Value.int v1, Value.int v2, Value.float 0, Value.float 0] [Value.int s0] (mj_hw w c hi hl) = if 0 ≤ ((15 : Int32) + s0) ∧ (((15 : Int32) + s0)).toNatClampNeg < 57 then mj_bi (mj_dc mj_P E d 217 [Value.ref 205, Value.int s0, Value.int v1, Value.int (hi 205 44)] (mj_hw w c hi hl)) (fun x1 h1 => mj_den mj_P E d 226 39 [Value.ref 205, Value.int v1, Value.int v2, Value.int s0, Value.float 0] [Value.int x1, Value.int (hi 206 ((((15 : Int32) + s0)).toNatClampNeg)), Value.ref 205, Value.ref 205] h1) else none := by
  rw [mj_den_eq, f226_17]
  exact zt_istore_n (Nat.le_of_ble_eq_true rfl) rfl rfl (zt_aload_n rfl rfl (zt_aload_n rfl rfl (zt_aload_n rfl rfl (zt_getr (mjkd205 _ _ _ _) (mjhr205_1 w c) rfl (zt_bipush rfl (zt_iload_n rfl rfl (zt_iadd rfl (zt_iald (mjkd206 _ _ _ _) (mjln206 _ _ _ _) rfl rfl (zt_aload_n rfl rfl (zt_iload_n rfl rfl (zt_iload_n rfl rfl (zt_aload_n rfl rfl (zt_geti (mjkd205 _ _ _ _) rfl rfl (zt_call0_1 rfl (mjkd205 _ _ _ _) (Nat.le_of_ble_eq_true rfl) rfl rfl))))))))))))))
set_option maxRecDepth 100000 in
theorem f226_39 : mj_find (mj_P 226).2.2.2.2 39 = [(.invokevirtual 374, 3, 0, [0, 155, 12, 2, 1, 1890, 1892, 101, 156, 1893])] := rfl
set_option maxRecDepth 100000 in
theorem q226_39 (E : mj_E) (d w c : Nat) (hi : Nat → Nat → Int32) (hl : Nat → Nat → Int64) (v1 : Int32) (v2 : Int32) (v3 : Int32) (s0 : Int32) (s1 : Int32) : mj_den mj_P E d 226 39 [Value.ref 205, Value.int v1, Value.int v2, Value.int v3, Value.float 0] [Value.int s0, Value.int s1, Value.ref 205, Value.ref 205] (mj_hw w c hi hl) = mj_bi (mj_dc mj_P E d 155 [Value.ref 205, Value.int s1, Value.int s0] (mj_hw w c hi hl)) (fun x1 h1 => mj_den mj_P E d 226 42 [Value.ref 205, Value.int v1, Value.int v2, Value.int v3, Value.float 0] [Value.int x1, Value.ref 205] h1) := by
  rw [mj_den_eq, f226_39]
  exact zt_call0_1 rfl (mjkd205 _ _ _ _) (Nat.le_of_ble_eq_true rfl) rfl rfl
set_option maxRecDepth 100000 in
theorem f226_42 : mj_find (mj_P 226).2.2.2.2 42 = [(.putfield 377, 3, 0, [12, 45, 0, 1455]), (.aload_n 0, 1, 0, []), (.getfield 7, 3, 0, [12, 1, 3, 1411]), (.bipush 15, 2, 15, []), (.iload_n 3, 1, 0, []), (.iadd, 1, 0, []), (.aload_n 0, 1, 0, []), (.getfield 7, 3, 0, [12, 1, 3, 1411]), (.bipush 15, 2, 15, []), (.iload_n 3, 1, 0, []), (.iadd, 1, 0, []), (.iaload, 1, 0, []), (.aload_n 0, 1, 0, []), (.getfield 377, 3, 0, [12, 45, 0, 1455]), (.isub, 1, 0, []), (.iastore, 1, 0, []), (.aload_n 0, 1, 0, []), (.getfield 7, 3, 0, [12, 1, 3, 1411]), (.iconst 4, 1, 4, []), (.aload_n 0, 1, 0, []), (.getfield 7, 3, 0, [12, 1, 3, 1411]), (.iconst 4, 1, 4, []), (.iaload, 1, 0, []), (.aload_n 0, 1, 0, []), (.getfield 377, 3, 0, [12, 45, 0, 1455]), (.iadd, 1, 0, []), (.iastore, 1, 0, []), (.aload_n 0, 1, 0, []), (.getfield 7, 3, 0, [12, 1, 3, 1411]), (.bipush 45, 2, 45, []), (.iload_n 1, 1, 0, []), (.iadd, 1, 0, []), (.iload_n 3, 1, 0, []), (.iconst 1, 1, 1, []), (.iadd, 1, 0, []), (.iastore, 1, 0, []), (.aload_n 0, 1, 0, []), (.getfield 7, 3, 0, [12, 1, 3, 1411]), (.iconst 5, 1, 5, []), (.iload_n 3, 1, 0, []), (.iadd, 1, 0, []), (.aload_n 0, 1, 0, []), (.bipush 99, 2, 99, []), (.aload_n 0, 1, 0, []), (.getfield 7, 3, 0, [12, 1, 3, 1411]), (.iconst 5, 1, 5, []), (.iload_n 3, 1, 0, []), (.iadd, 1, 0, []), (.iaload, 1, 0, []), (.aload_n 0, 1, 0, []), (.iload_n 3, 1, 0, []), (.iload_n 1, 1, 0, []), (.aload_n 0, 1, 0, []), (.getfield 362, 3, 0, [12, 44, 0, 1454]), (.invokevirtual 380, 3, 0, [0, 218, 12, 3, 1, 1894, 1896, 102, 156, 1897])] := rfl
set_option maxRecDepth 100000 in
theorem q226_42 (E : mj_E) (d w c : Nat) (hi : Nat → Nat → Int32) (hl : Nat → Nat → Int64) (v1 : Int32) (v2 : Int32) (v3 : Int32) (s0 : Int32) : mj_den mj_P E d 226 42 [Value.ref 205, Value.int v1, Value.int v2, Value.int v3, Value.float 0] [Value.int s0, Value.ref 205] (mj_hw w c hi hl) = if 0 ≤ ((15 : Int32) + v3) ∧ (((15 : Int32) + v3)).toNatClampNeg < 57 then if 0 ≤ ((15 : Int32) + v3) ∧ (((15 : Int32) + v3)).toNatClampNeg < 57 then if 0 ≤ (4 : Int32) ∧ ((4 : Int32)).toNatClampNeg < 57 then if 0 ≤ (4 : Int32) ∧ ((4 : Int32)).toNatClampNeg < 57 then if 0 ≤ ((45 : Int32) + v1) ∧ (((45 : Int32) + v1)).toNatClampNeg < 57 then if 0 ≤ ((5 : Int32) + v3) ∧ (((5 : Int32) + v3)).toNatClampNeg < 57 then mj_bi (mj_dc mj_P E d 218 [Value.ref 205, Value.int v3, Value.int v1, Value.int (hi 205 44)] (mj_hw w c (mj_u (mj_u (mj_u (mj_u hi 205 45 s0) 206 ((((15 : Int32) + v3)).toNatClampNeg) ((hi 206 ((((15 : Int32) + v3)).toNatClampNeg)) - s0)) 206 (((4 : Int32)).toNatClampNeg) (((mj_u (mj_u hi 205 45 s0) 206 ((((15 : Int32) + v3)).toNatClampNeg) ((hi 206 ((((15 : Int32) + v3)).toNatClampNeg)) - s0)) 206 (((4 : Int32)).toNatClampNeg)) + s0)) 206 ((((45 : Int32) + v1)).toNatClampNeg) (v3 + (1 : Int32))) hl)) (fun x1 h1 => mj_den mj_P E d 226 125 [Value.ref 205, Value.int v1, Value.int v2, Value.int v3, Value.float 0] [Value.int x1, Value.int ((mj_u (mj_u (mj_u (mj_u hi 205 45 s0) 206 ((((15 : Int32) + v3)).toNatClampNeg) ((hi 206 ((((15 : Int32) + v3)).toNatClampNeg)) - s0)) 206 (((4 : Int32)).toNatClampNeg) (((mj_u (mj_u hi 205 45 s0) 206 ((((15 : Int32) + v3)).toNatClampNeg) ((hi 206 ((((15 : Int32) + v3)).toNatClampNeg)) - s0)) 206 (((4 : Int32)).toNatClampNeg)) + s0)) 206 ((((45 : Int32) + v1)).toNatClampNeg) (v3 + (1 : Int32))) 206 ((((5 : Int32) + v3)).toNatClampNeg)), Value.int (99 : Int32), Value.ref 205, Value.int ((5 : Int32) + v3), Value.ref 206] h1) else none else none else none else none else none else none := by
  rw [mj_den_eq, f226_42]
  exact zt_puti (mjkd205 _ _ _ _) rfl rfl (zt_aload_n rfl rfl (zt_getr (mjkd205 _ _ _ _) (mjhr205_1 w c) rfl (zt_bipush rfl (zt_iload_n rfl rfl (zt_iadd rfl (zt_aload_n rfl rfl (zt_getr (mjkd205 _ _ _ _) (mjhr205_1 w c) rfl (zt_bipush rfl (zt_iload_n rfl rfl (zt_iadd rfl (zt_iald (mjkd206 _ _ _ _) (mjln206 _ _ _ _) rfl rfl (zt_aload_n rfl rfl (zt_geti (mjkd205 _ _ _ _) rfl rfl (zt_isub rfl (zt_iast (mjkd206 _ _ _ _) (mjln206 _ _ _ _) rfl rfl (zt_aload_n rfl rfl (zt_getr (mjkd205 _ _ _ _) (mjhr205_1 w c) rfl (zt_iconst rfl (zt_aload_n rfl rfl (zt_getr (mjkd205 _ _ _ _) (mjhr205_1 w c) rfl (zt_iconst rfl (zt_iald (mjkd206 _ _ _ _) (mjln206 _ _ _ _) rfl rfl (zt_aload_n rfl rfl (zt_geti (mjkd205 _ _ _ _) rfl rfl (zt_iadd rfl (zt_iast (mjkd206 _ _ _ _) (mjln206 _ _ _ _) rfl rfl (zt_aload_n rfl rfl (zt_getr (mjkd205 _ _ _ _) (mjhr205_1 w c) rfl (zt_bipush rfl (zt_iload_n rfl rfl (zt_iadd rfl (zt_iload_n rfl rfl (zt_iconst rfl (zt_iadd rfl (zt_iast (mjkd206 _ _ _ _) (mjln206 _ _ _ _) rfl rfl (zt_aload_n rfl rfl (zt_getr (mjkd205 _ _ _ _) (mjhr205_1 w c) rfl (zt_iconst rfl (zt_iload_n rfl rfl (zt_iadd rfl (zt_aload_n rfl rfl (zt_bipush rfl (zt_aload_n rfl rfl (zt_getr (mjkd205 _ _ _ _) (mjhr205_1 w c) rfl (zt_iconst rfl (zt_iload_n rfl rfl (zt_iadd rfl (zt_iald (mjkd206 _ _ _ _) (mjln206 _ _ _ _) rfl rfl (zt_aload_n rfl rfl (zt_iload_n rfl rfl (zt_iload_n rfl rfl (zt_aload_n rfl rfl (zt_geti (mjkd205 _ _ _ _) rfl rfl (zt_call0_1 rfl (mjkd205 _ _ _ _) (Nat.le_of_ble_eq_true rfl) rfl rfl))))))))))))))))))))))))))))))))))))))))))))))))))))))
set_option maxRecDepth 100000 in
theorem f226_125 : mj_find (mj_P 226).2.2.2.2 125 = [(.iadd, 1, 0, []), (.invokevirtual 374, 3, 0, [0, 155, 12, 2, 1, 1890, 1892, 101, 156, 1893])] := rfl
set_option maxRecDepth 100000 in
theorem q226_125 (E : mj_E) (d w c : Nat) (hi : Nat → Nat → Int32) (hl : Nat → Nat → Int64) (v1 : Int32) (v2 : Int32) (v3 : Int32) (s0 : Int32) (s1 : Int32) (s2 : Int32) (s4 : Int32) : mj_den mj_P E d 226 125 [Value.ref 205, Value.int v1, Value.int v2, Value.int v3, Value.float 0] [Value.int s0, Value.int s1, Value.int s2, Value.ref 205, Value.int s4, Value.ref 206] (mj_hw w c hi hl) = mj_bi (mj_dc mj_P E d 155 [Value.ref 205, Value.int s2, Value.int (s1 + s0)] (mj_hw w c hi hl)) (fun x1 h1 => mj_den mj_P E d 226 129 [Value.ref 205, Value.int v1, Value.int v2, Value.int v3, Value.float 0] [Value.int x1, Value.int s4, Value.ref 206] h1) := by
  rw [mj_den_eq, f226_125]
  exact zt_iadd rfl (zt_call0_1 rfl (mjkd205 _ _ _ _) (Nat.le_of_ble_eq_true rfl) rfl rfl)
set_option maxRecDepth 100000 in
theorem f226_129 : mj_find (mj_P 226).2.2.2.2 129 = [(.iastore, 1, 0, []), (.aload_n 0, 1, 0, []), (.iconst 2, 1, 2, []), (.iload_n 3, 1, 0, []), (.iload_n 1, 1, 0, []), (.invokevirtual 346, 3, 0, [0, 220, 12, 3, 0, 1874, 1876, 97, 156, 1877])] := rfl
set_option maxRecDepth 100000 in
theorem q226_129 (E : mj_E) (d w c : Nat) (hi : Nat → Nat → Int32) (hl : Nat → Nat → Int64) (v1 : Int32) (v2 : Int32) (v3 : Int32) (s0 : Int32) (s1 : Int32) : mj_den mj_P E d 226 129 [Value.ref 205, Value.int v1, Value.int v2, Value.int v3, Value.float 0] [Value.int s0, Value.int s1, Value.ref 206] (mj_hw w c hi hl) = if 0 ≤ s1 ∧ (s1).toNatClampNeg < 57 then mj_bv (mj_dc mj_P E d 220 [Value.ref 205, Value.int (2 : Int32), Value.int v3, Value.int v1] (mj_hw w c (mj_u hi 206 ((s1).toNatClampNeg) s0) hl)) (fun h1 => mj_den mj_P E d 226 137 [Value.ref 205, Value.int v1, Value.int v2, Value.int v3, Value.float 0] [] h1) else none := by
  rw [mj_den_eq, f226_129]
  exact zt_iast (mjkd206 _ _ _ _) (mjln206 _ _ _ _) rfl rfl (zt_aload_n rfl rfl (zt_iconst rfl (zt_iload_n rfl rfl (zt_iload_n rfl rfl (zt_call0_0 rfl (mjkd205 _ _ _ _) (Nat.le_of_ble_eq_true rfl) rfl rfl)))))
set_option maxRecDepth 100000 in
theorem f226_137 : mj_find (mj_P 226).2.2.2.2 137 = [(.iconst 0, 1, 0, []), (.istore 4, 2, 0, [])] := rfl
set_option maxRecDepth 100000 in
theorem q226_137 (E : mj_E) (d w c : Nat) (hi : Nat → Nat → Int32) (hl : Nat → Nat → Int64) (v1 : Int32) (v2 : Int32) (v3 : Int32) : mj_den mj_P E d 226 137 [Value.ref 205, Value.int v1, Value.int v2, Value.int v3, Value.float 0] [] (mj_hw w c hi hl) = mj_den mj_P E d 226 140 [Value.ref 205, Value.int v1, Value.int v2, Value.int v3, Value.int (0 : Int32)] [] (mj_hw w c hi hl) := by
  rw [mj_den_eq, f226_137]
  exact zt_iconst rfl (zt_istore (Nat.le_of_ble_eq_true rfl) rfl rfl (zt_end rfl))
set_option maxRecDepth 100000 in
theorem f226_140 : mj_find (mj_P 226).2.2.2.2 140 = [(.iload 4, 2, 0, []), (.aload_n 0, 1, 0, []), (.getfield 134, 3, 0, [12, 6, 0, 1416]), (.if_icmp .ge 53, 3, 0, [199]), (.iload 4, 2, 0, []), (.iload_n 3, 1, 0, []), (.if_icmp .eq 41, 3, 0, [193]), (.aload_n 0, 1, 0, []), (.aload_n 0, 1, 0, []), (.getfield 350, 3, 0, [12, 46, 0, 1456]), (.iload 4, 2, 0, []), (.invokevirtual 327, 3, 0, [0, 157, 12, 2, 1, 1832, 1834, 87, 156, 1835])] := rfl
set_option maxRecDepth 100000 in
theorem q226_140 (E : mj_E) (d w c : Nat) (hi : Nat → Nat → Int32) (hl : Nat → Nat → Int64) (v1 : Int32) (v2 : Int32) (v3 : Int32) (v4 : Int32) : mj_den mj_P E d 226 140 [Value.ref 205, Value.int v1, Value.int v2, Value.int v3, Value.int v4] [] (mj_hw w c hi hl) = if (hi 205 6) ≤ v4 then mj_den mj_P E d 226 199 [Value.ref 205, Value.int v1, Value.int v2, Value.int v3, Value.int v4] [] (mj_hw w c hi hl) else if v4 = v3 then mj_den mj_P E d 226 193 [Value.ref 205, Value.int v1, Value.int v2, Value.int v3, Value.int v4] [] (mj_hw w c hi hl) else mj_bi (mj_dc mj_P E d 157 [Value.ref 205, Value.int (hi 205 46), Value.int v4] (mj_hw w c hi hl)) (fun x1 h1 => mj_den mj_P E d 226 165 [Value.ref 205, Value.int v1, Value.int v2, Value.int v3, Value.int v4] [Value.int x1] h1) := by
  rw [mj_den_eq, f226_140]
  exact zt_iload rfl rfl (zt_aload_n rfl rfl (zt_geti (mjkd205 _ _ _ _) rfl rfl (zt_icmp_ge rfl rfl (zt_iload rfl rfl (zt_iload_n rfl rfl (zt_icmp_eq rfl rfl (zt_aload_n rfl rfl (zt_aload_n rfl rfl (zt_geti (mjkd205 _ _ _ _) rfl rfl (zt_iload rfl rfl (zt_call0_1 rfl (mjkd205 _ _ _ _) (Nat.le_of_ble_eq_true rfl) rfl rfl)))))))))))
set_option maxRecDepth 100000 in
theorem f226_165 : mj_find (mj_P 226).2.2.2.2 165 = [(.ifCond .eq 28, 3, 0, [193]), (.aload_n 0, 1, 0, []), (.getfield 7, 3, 0, [12, 1, 3, 1411]), (.iconst 5, 1, 5, []), (.iload 4, 2, 0, []), (.iadd, 1, 0, []), (.aload_n 0, 1, 0, []), (.iconst 0, 1, 0, []), (.aload_n 0, 1, 0, []), (.getfield 7, 3, 0, [12, 1, 3, 1411]), (.iconst 5, 1, 5, []), (.iload 4, 2, 0, []), (.iadd, 1, 0, []), (.iaload, 1, 0, []), (.iconst 3, 1, 3, []), (.isub, 1, 0, []), (.invokevirtual 383, 3, 0, [0, 154, 12, 2, 1, 1898, 1900, 103, 156, 1901])] := rfl
set_option maxRecDepth 100000 in
theorem q226_165 (E : mj_E) (d w c : Nat) (hi : Nat → Nat → Int32) (hl : Nat → Nat → Int64) (v1 : Int32) (v2 : Int32) (v3 : Int32) (v4 : Int32) (s0 : Int32) : mj_den mj_P E d 226 165 [Value.ref 205, Value.int v1, Value.int v2, Value.int v3, Value.int v4] [Value.int s0] (mj_hw w c hi hl) = if s0 = 0 then mj_den mj_P E d 226 193 [Value.ref 205, Value.int v1, Value.int v2, Value.int v3, Value.int v4] [] (mj_hw w c hi hl) else if 0 ≤ ((5 : Int32) + v4) ∧ (((5 : Int32) + v4)).toNatClampNeg < 57 then mj_bi (mj_dc mj_P E d 154 [Value.ref 205, Value.int (0 : Int32), Value.int ((hi 206 ((((5 : Int32) + v4)).toNatClampNeg)) - (3 : Int32))] (mj_hw w c hi hl)) (fun x1 h1 => mj_den mj_P E d 226 192 [Value.ref 205, Value.int v1, Value.int v2, Value.int v3, Value.int v4] [Value.int x1, Value.int ((5 : Int32) + v4), Value.ref 206] h1) else none := by
  rw [mj_den_eq, f226_165]
  exact zt_if_eq rfl rfl (zt_aload_n rfl rfl (zt_getr (mjkd205 _ _ _ _) (mjhr205_1 w c) rfl (zt_iconst rfl (zt_iload rfl rfl (zt_iadd rfl (zt_aload_n rfl rfl (zt_iconst rfl (zt_aload_n rfl rfl (zt_getr (mjkd205 _ _ _ _) (mjhr205_1 w c) rfl (zt_iconst rfl (zt_iload rfl rfl (zt_iadd rfl (zt_iald (mjkd206 _ _ _ _) (mjln206 _ _ _ _) rfl rfl (zt_iconst rfl (zt_isub rfl (zt_call0_1 rfl (mjkd205 _ _ _ _) (Nat.le_of_ble_eq_true rfl) rfl rfl))))))))))))))))
set_option maxRecDepth 100000 in
theorem f226_192 : mj_find (mj_P 226).2.2.2.2 192 = [(.iastore, 1, 0, [])] := rfl
set_option maxRecDepth 100000 in
theorem q226_192 (E : mj_E) (d w c : Nat) (hi : Nat → Nat → Int32) (hl : Nat → Nat → Int64) (v1 : Int32) (v2 : Int32) (v3 : Int32) (v4 : Int32) (s0 : Int32) (s1 : Int32) : mj_den mj_P E d 226 192 [Value.ref 205, Value.int v1, Value.int v2, Value.int v3, Value.int v4] [Value.int s0, Value.int s1, Value.ref 206] (mj_hw w c hi hl) = if 0 ≤ s1 ∧ (s1).toNatClampNeg < 57 then mj_den mj_P E d 226 193 [Value.ref 205, Value.int v1, Value.int v2, Value.int v3, Value.int v4] [] (mj_hw w c (mj_u hi 206 ((s1).toNatClampNeg) s0) hl) else none := by
  rw [mj_den_eq, f226_192]
  exact zt_iast (mjkd206 _ _ _ _) (mjln206 _ _ _ _) rfl rfl (zt_end rfl)
set_option maxRecDepth 100000 in
theorem f226_193 : mj_find (mj_P 226).2.2.2.2 193 = [(.iinc 4 1, 3, 1, []), (.goto (-56), 3, 0, [140])] := rfl
set_option maxRecDepth 100000 in
theorem q226_193 (E : mj_E) (d w c : Nat) (hi : Nat → Nat → Int32) (hl : Nat → Nat → Int64) (v1 : Int32) (v2 : Int32) (v3 : Int32) (v4 : Int32) : mj_den mj_P E d 226 193 [Value.ref 205, Value.int v1, Value.int v2, Value.int v3, Value.int v4] [] (mj_hw w c hi hl) = mj_den mj_P E d 226 140 [Value.ref 205, Value.int v1, Value.int v2, Value.int v3, Value.int (v4 + (1 : Int32))] [] (mj_hw w c hi hl) := by
  rw [mj_den_eq, f226_193]
  exact zt_iinc rfl (Nat.le_of_ble_eq_true rfl) rfl rfl (zt_goto rfl)
set_option maxRecDepth 100000 in
theorem f226_199 : mj_find (mj_P 226).2.2.2.2 199 = [(.iload_n 3, 1, 0, []), (.ireturn, 1, 0, [0])] := rfl
set_option maxRecDepth 100000 in
theorem q226_199 (E : mj_E) (d w c : Nat) (hi : Nat → Nat → Int32) (hl : Nat → Nat → Int64) (v1 : Int32) (v2 : Int32) (v3 : Int32) (v4 : Int32) : mj_den mj_P E d 226 199 [Value.ref 205, Value.int v1, Value.int v2, Value.int v3, Value.int v4] [] (mj_hw w c hi hl) = some (some (Value.int v3), (mj_hw w c hi hl)) := by
  rw [mj_den_eq, f226_199]
  exact zt_iload_n rfl rfl (zt_ireturn0)
set_option maxRecDepth 100000 in
theorem f227_0 : mj_find (mj_P 227).2.2.2.2 0 = [(.aload_n 0, 1, 0, []), (.iconst 0, 1, 0, []), (.putfield 122, 3, 0, [12, 0, 0, 1410]), (.aload_n 0, 1, 0, []), (.iload_n 1, 1, 0, []), (.invokevirtual 152, 3, 0, [0, 165, 12, 1, 1, 1644, 1646, 45, 156, 1647])] := rfl
set_option maxRecDepth 100000 in
theorem q227_0 (E : mj_E) (d w c : Nat) (hi : Nat → Nat → Int32) (hl : Nat → Nat → Int64) (v1 : Int32) : mj_den mj_P E d 227 0 [Value.ref 205, Value.int v1] [] (mj_hw w c hi hl) = mj_bi (mj_dc mj_P E d 165 [Value.ref 205, Value.int v1] (mj_hw w c (mj_u hi 205 0 (0 : Int32)) hl)) (fun x1 h1 => mj_den mj_P E d 227 10 [Value.ref 205, Value.int v1] [Value.int x1] h1) := by
  rw [mj_den_eq, f227_0]
  exact zt_aload_n rfl rfl (zt_iconst rfl (zt_puti (mjkd205 _ _ _ _) rfl rfl (zt_aload_n rfl rfl (zt_iload_n rfl rfl (zt_call0_1 rfl (mjkd205 _ _ _ _) (Nat.le_of_ble_eq_true rfl) rfl rfl)))))
set_option maxRecDepth 100000 in
theorem f227_10 : mj_find (mj_P 227).2.2.2.2 10 = [(.ifCond .eq 12, 3, 0, [22]), (.aload_n 0, 1, 0, []), (.iload_n 1, 1, 0, []), (.invokevirtual 140, 3, 0, [0, 166, 12, 1, 1, 1800, 1802, 79, 156, 1803])] := rfl
set_option maxRecDepth 100000 in
theorem q227_10 (E : mj_E) (d w c : Nat) (hi : Nat → Nat → Int32) (hl : Nat → Nat → Int64) (v1 : Int32) (s0 : Int32) : mj_den mj_P E d 227 10 [Value.ref 205, Value.int v1] [Value.int s0] (mj_hw w c hi hl) = if s0 = 0 then mj_den mj_P E d 227 22 [Value.ref 205, Value.int v1] [] (mj_hw w c hi hl) else mj_bi (mj_dc mj_P E d 166 [Value.ref 205, Value.int v1] (mj_hw w c hi hl)) (fun x1 h1 => mj_den mj_P E d 227 18 [Value.ref 205, Value.int v1] [Value.int x1] h1) := by
  rw [mj_den_eq, f227_10]
  exact zt_if_eq rfl rfl (zt_aload_n rfl rfl (zt_iload_n rfl rfl (zt_call0_1 rfl (mjkd205 _ _ _ _) (Nat.le_of_ble_eq_true rfl) rfl rfl)))
set_option maxRecDepth 100000 in
theorem f227_18 : mj_find (mj_P 227).2.2.2.2 18 = [(.iconst (-1), 1, (-1), []), (.if_icmp .eq 6, 3, 0, [25])] := rfl
set_option maxRecDepth 100000 in
theorem q227_18 (E : mj_E) (d w c : Nat) (hi : Nat → Nat → Int32) (hl : Nat → Nat → Int64) (v1 : Int32) (s0 : Int32) : mj_den mj_P E d 227 18 [Value.ref 205, Value.int v1] [Value.int s0] (mj_hw w c hi hl) = if s0 = (-1 : Int32) then mj_den mj_P E d 227 25 [Value.ref 205, Value.int v1] [] (mj_hw w c hi hl) else mj_den mj_P E d 227 22 [Value.ref 205, Value.int v1] [] (mj_hw w c hi hl) := by
  rw [mj_den_eq, f227_18]
  exact zt_iconst rfl (zt_icmp_eq rfl rfl (zt_end rfl))
set_option maxRecDepth 100000 in
theorem f227_22 : mj_find (mj_P 227).2.2.2.2 22 = [(.bipush (-2), 2, (-2), []), (.ireturn, 1, 0, [0])] := rfl
set_option maxRecDepth 100000 in
theorem q227_22 (E : mj_E) (d w c : Nat) (hi : Nat → Nat → Int32) (hl : Nat → Nat → Int64) (v1 : Int32) : mj_den mj_P E d 227 22 [Value.ref 205, Value.int v1] [] (mj_hw w c hi hl) = some (some (Value.int (-2 : Int32)), (mj_hw w c hi hl)) := by
  rw [mj_den_eq, f227_22]
  exact zt_bipush rfl (zt_ireturn0)
set_option maxRecDepth 100000 in
theorem f227_25 : mj_find (mj_P 227).2.2.2.2 25 = [(.aload_n 0, 1, 0, []), (.invokevirtual 386, 3, 0, [0, 158, 12, 0, 0, 1804, 1806, 80, 156, 1807])] := rfl
set_option maxRecDepth 100000 in
theorem q227_25 (E : mj_E) (d w c : Nat) (hi : Nat → Nat → Int32) (hl : Nat → Nat → Int64) (v1 : Int32) : mj_den mj_P E d 227 25 [Value.ref 205, Value.int v1] [] (mj_hw w c hi hl) = mj_bv (mj_dc mj_P E d 158 [Value.ref 205] (mj_hw w c hi hl)) (fun h1 => mj_den mj_P E d 227 29 [Value.ref 205, Value.int v1] [] h1) := by
  rw [mj_den_eq, f227_25]
  exact zt_aload_n rfl rfl (zt_call0_0 rfl (mjkd205 _ _ _ _) (Nat.le_of_ble_eq_true rfl) rfl rfl)
set_option maxRecDepth 100000 in
theorem f227_29 : mj_find (mj_P 227).2.2.2.2 29 = [(.aload_n 0, 1, 0, []), (.iload_n 1, 1, 0, []), (.invokevirtual 389, 3, 0, [0, 226, 12, 1, 1, 1808, 1810, 81, 156, 1811])] := rfl
set_option maxRecDepth 100000 in
theorem q227_29 (E : mj_E) (d w c : Nat) (hi : Nat → Nat → Int32) (hl : Nat → Nat → Int64) (v1 : Int32) : mj_den mj_P E d 227 29 [Value.ref 205, Value.int v1] [] (mj_hw w c hi hl) = mj_bi (mj_dc mj_P E d 226 [Value.ref 205, Value.int v1] (mj_hw w c hi hl)) (fun x1 h1 => mj_den mj_P E d 227 34 [Value.ref 205, Value.int v1] [Value.int x1] h1) := by
  rw [mj_den_eq, f227_29]
  exact zt_aload_n rfl rfl (zt_iload_n rfl rfl (zt_call0_1 rfl (mjkd205 _ _ _ _) (Nat.le_of_ble_eq_true rfl) rfl rfl))
set_option maxRecDepth 100000 in
theorem f227_34 : mj_find (mj_P 227).2.2.2.2 34 = [(.ireturn, 1, 0, [0])] := rfl
set_option maxRecDepth 100000 in
theorem q227_34 (E : mj_E) (d w c : Nat) (hi : Nat → Nat → Int32) (hl : Nat → Nat → Int64) (v1 : Int32) (s0 : Int32) : mj_den mj_P E d 227 34 [Value.ref 205, Value.int v1] [Value.int s0] (mj_hw w c hi hl) = some (some (Value.int s0), (mj_hw w c hi hl)) := by
  rw [mj_den_eq, f227_34]
  exact zt_ireturn0
set_option maxRecDepth 100000 in
theorem f228_0 : mj_find (mj_P 228).2.2.2.2 0 = [(.iload_n 1, 1, 0, []), (.iconst 2, 1, 2, []), (.if_icmp .ge 10, 3, 0, [12]), (.bipush 25, 2, 25, []), (.iload_n 2, 1, 0, []), (.iadd, 1, 0, []), (.goto 4, 3, 0, [13])] := rfl
set_option maxRecDepth 100000 in
theorem q228_0 (E : mj_E) (d w c : Nat) (hi : Nat → Nat → Int32) (hl : Nat → Nat → Int64) (v1 : Int32) (v2 : Int32) : mj_den mj_P E d 228 0 [Value.ref 205, Value.int v1, Value.int v2, Value.float 0, Value.float 0] [] (mj_hw w c hi hl) = if (2 : Int32) ≤ v1 then mj_den mj_P E d 228 12 [Value.ref 205, Value.int v1, Value.int v2, Value.float 0, Value.float 0] [] (mj_hw w c hi hl) else mj_den mj_P E d 228 13 [Value.ref 205, Value.int v1, Value.int v2, Value.float 0, Value.float 0] [Value.int ((25 : Int32) + v2)] (mj_hw w c hi hl) := by
  rw [mj_den_eq, f228_0]
  exact zt_iload_n rfl rfl (zt_iconst rfl (zt_icmp_ge rfl rfl (zt_bipush rfl (zt_iload_n rfl rfl (zt_iadd rfl (zt_goto rfl))))))
set_option maxRecDepth 100000 in
theorem f228_12 : mj_find (mj_P 228).2.2.2.2 12 = [(.iconst 3, 1, 3, [])] := rfl
set_option maxRecDepth 100000 in
theorem q228_12 (E : mj_E) (d w c : Nat) (hi : Nat → Nat → Int32) (hl : Nat → Nat → Int64) (v1 : Int32) (v2 : Int32) : mj_den mj_P E d 228 12 [Value.ref 205, Value.int v1, Value.int v2, Value.float 0, Value.float 0] [] (mj_hw w c hi hl) = mj_den mj_P E d 228 13 [Value.ref 205, Value.int v1, Value.int v2, Value.float 0, Value.float 0] [Value.int (3 : Int32)] (mj_hw w c hi hl) := by
  rw [mj_den_eq, f228_12]
  exact zt_iconst rfl (zt_end rfl)
set_option maxRecDepth 100000 in
theorem f228_13 : mj_find (mj_P 228).2.2.2.2 13 = [(.istore_n 3, 1, 0, []), (.iload_n 1, 1, 0, []), (.iconst 2, 1, 2, []), (.irem, 1, 0, []), (.ifCond .ne 7, 3, 0, [24]), (.iconst 1, 1, 1, []), (.goto 4, 3, 0, [25])] := rfl
set_option maxRecDepth 100000 in
theorem q228_13 (E : mj_E) (d w c : Nat) (hi : Nat → Nat → Int32) (hl : Nat → Nat → Int64) (v1 : Int32) (v2 : Int32) (s0 : Int32) : mj_den mj_P E d 228 13 [Value.ref 205, Value.int v1, Value.int v2, Value.float 0, Value.float 0] [Value.int s0] (mj_hw w c hi hl) = if (2 : Int32) = 0 then none else if ¬ (mj_rem v1 (2 : Int32)) = 0 then mj_den mj_P E d 228 24 [Value.ref 205, Value.int v1, Value.int v2, Value.int s0, Value.float 0] [] (mj_hw w c hi hl) else mj_den mj_P E d 228 25 [Value.ref 205, Value.int v1, Value.int v2, Value.int s0, Value.float 0] [Value.int (1 : Int32)] (mj_hw w c hi hl) := by
  rw [mj_den_eq, f228_13]
  exact zt_istore_n (Nat.le_of_ble_eq_true rfl) rfl rfl (zt_iload_n rfl rfl (zt_iconst rfl (zt_irem  rfl (zt_if_ne rfl rfl (zt_iconst rfl (zt_goto rfl))))))
set_option maxRecDepth 100000 in
theorem f228_24 : mj_find (mj_P 228).2.2.2.2 24 = [(.iconst 0, 1, 0, [])] := rfl
set_option maxRecDepth 100000 in
theorem q228_24 (E : mj_E) (d w c : Nat) (hi : Nat → Nat → Int32) (hl : Nat → Nat → Int64) (v1 : Int32) (v2 : Int32) (v3 : Int32) : mj_den mj_P E d 228 24 [Value.ref 205, Value.int v1, Value.int v2, Value.int v3, Value.float 0] [] (mj_hw w c hi hl) = mj_den mj_P E d 228 25 [Value.ref 205, Value.int v1, Value.int v2, Value.int v3, Value.float 0] [Value.int (0 : Int32)] (mj_hw w c hi hl) := by
  rw [mj_den_eq, f228_24]
  exact zt_iconst rfl (zt_end rfl)
set_option maxRecDepth 100000 in
theorem f228_25 : mj_find (mj_P 228).2.2.2.2 25 = [(.istore 4, 2, 0, []), (.aload_n 0, 1, 0, []), (.getfield 7, 3, 0, [12, 1, 3, 1411]), (.iload_n 3, 1, 0, []), (.iaload, 1, 0, []), (.iload 4, 2, 0, []), (.if_icmp .ne 5, 3, 0, [40]), (.iconst 0, 1, 0, []), (.ireturn, 1, 0, [1])] := rfl
set_option maxRecDepth 100000 in
theorem q228_25 (E : mj_E) (d w c : Nat) (hi : Nat → Nat → Int32) (hl : Nat → Nat → Int64) (v1 : Int32) (v2 : Int32) (v3 : Int32) (s0 : Int32) : mj_den mj_P E d 228 25 [Value.ref 205, Value.int v1, Value.int v2, Value.int v3, Value.float 0] [Value.int s0] (mj_hw w c hi hl) = if 0 ≤ v3 ∧ (v3).toNatClampNeg < 57 then if ¬ (hi 206 ((v3).toNatClampNeg)) = s0 then mj_den mj_P E d 228 40 [Value.ref 205, Value.int v1, Value.int v2, Value.int v3, Value.int s0] [] (mj_hw w c hi hl) else if (0 : Int32) = 0 ∨ (0 : Int32) = 1 then some (some (Value.int (0 : Int32)), (mj_hw w c hi hl)) else none else none := by
  rw [mj_den_eq, f228_25]
  exact zt_istore (Nat.le_of_ble_eq_true rfl) rfl rfl (zt_aload_n rfl rfl (zt_getr (mjkd205 _ _ _ _) (mjhr205_1 w c) rfl (zt_iload_n rfl rfl (zt_iald (mjkd206 _ _ _ _) (mjln206 _ _ _ _) rfl rfl (zt_iload rfl rfl (zt_icmp_ne rfl rfl (zt_iconst rfl (zt_ireturn1))))))))
set_option maxRecDepth 100000 in
theorem f228_40 : mj_find (mj_P 228).2.2.2.2 40 = [(.aload_n 0, 1, 0, []), (.getfield 7, 3, 0, [12, 1, 3, 1411]), (.iload_n 3, 1, 0, []), (.iload 4, 2, 0, []), (.iastore, 1, 0, []), (.iconst 1, 1, 1, []), (.ireturn, 1, 0, [1])] := rfl
set_option maxRecDepth 100000 in
theorem q228_40 (E : mj_E) (d w c : Nat) (hi : Nat → Nat → Int32) (hl : Nat → Nat → Int64) (v1 : Int32) (v2 : Int32) (v3 : Int32) (v4 : Int32) : mj_den mj_P E d 228 40 [Value.ref 205, Value.int v1, Value.int v2, Value.int v3, Value.int v4] [] (mj_hw w c hi hl) = if 0 ≤ v3 ∧ (v3).toNatClampNeg < 57 then if (1 : Int32) = 0 ∨ (1 : Int32) = 1 then some (some (Value.int (1 : Int32)), (mj_hw w c (mj_u hi 206 ((v3).toNatClampNeg) v4) hl)) else none else none := by
  rw [mj_den_eq, f228_40]
  exact zt_aload_n rfl rfl (zt_getr (mjkd205 _ _ _ _) (mjhr205_1 w c) rfl (zt_iload_n rfl rfl (zt_iload rfl rfl (zt_iast (mjkd206 _ _ _ _) (mjln206 _ _ _ _) rfl rfl (zt_iconst rfl (zt_ireturn1))))))
set_option maxRecDepth 100000 in
theorem f229_0 : mj_find (mj_P 229).2.2.2.2 0 = [(.aload_n 0, 1, 0, []), (.iconst 0, 1, 0, []), (.putfield 122, 3, 0, [12, 0, 0, 1410]), (.aload_n 0, 1, 0, []), (.iload_n 1, 1, 0, []), (.iconst 0, 1, 0, []), (.iconst 3, 1, 3, []), (.invokevirtual 144, 3, 0, [0, 152, 12, 3, 1, 1624, 1626, 42, 156, 1627])] := rfl
set_option maxRecDepth 100000 in
theorem q229_0 (E : mj_E) (d w c : Nat) (hi : Nat → Nat → Int32) (hl : Nat → Nat → Int64) (v1 : Int32) (v2 : Int32) : mj_den mj_P E d 229 0 [Value.ref 205, Value.int v1, Value.int v2] [] (mj_hw w c hi hl) = mj_bi (mj_dc mj_P E d 152 [Value.ref 205, Value.int v1, Value.int (0 : Int32), Value.int (3 : Int32)] (mj_hw w c (mj_u hi 205 0 (0 : Int32)) hl)) (fun x1 h1 => mj_den mj_P E d 229 12 [Value.ref 205, Value.int v1, Value.int v2] [Value.int x1] h1) := by
  rw [mj_den_eq, f229_0]
  exact zt_aload_n rfl rfl (zt_iconst rfl (zt_puti (mjkd205 _ _ _ _) rfl rfl (zt_aload_n rfl rfl (zt_iload_n rfl rfl (zt_iconst rfl (zt_iconst rfl (zt_call0_1 rfl (mjkd205 _ _ _ _) (Nat.le_of_ble_eq_true rfl) rfl rfl)))))))
set_option maxRecDepth 100000 in
theorem f229_12 : mj_find (mj_P 229).2.2.2.2 12 = [(.ifCond .eq 16, 3, 0, [28]), (.iload_n 1, 1, 0, []), (.iconst 2, 1, 2, []), (.if_icmp .ge 13, 3, 0, [30]), (.aload_n 0, 1, 0, []), (.iload_n 2, 1, 0, []), (.invokevirtual 148, 3, 0, [0, 164, 12, 1, 1, 1640, 1642, 44, 156, 1643])] := rfl
set_option maxRecDepth 100000 in
theorem q229_12 (E : mj_E) (d w c : Nat) (hi : Nat → Nat → Int32) (hl : Nat → Nat → Int64) (v1 : Int32) (v2 : Int32) (s0 : Int32) : mj_den mj_P E d 229 12 [Value.ref 205, Value.int v1, Value.int v2] [Value.int s0] (mj_hw w c hi hl) = if s0 = 0 then mj_den mj_P E d 229 28 [Value.ref 205, Value.int v1, Value.int v2] [] (mj_hw w c hi hl) else if (2 : Int32) ≤ v1 then mj_den mj_P E d 229 30 [Value.ref 205, Value.int v1, Value.int v2] [] (mj_hw w c hi hl) else mj_bi (mj_dc mj_P E d 164 [Value.ref 205, Value.int v2] (mj_hw w c hi hl)) (fun x1 h1 => mj_den mj_P E d 229 25 [Value.ref 205, Value.int v1, Value.int v2] [Value.int x1] h1) := by
  rw [mj_den_eq, f229_12]
  exact zt_if_eq rfl rfl (zt_iload_n rfl rfl (zt_iconst rfl (zt_icmp_ge rfl rfl (zt_aload_n rfl rfl (zt_iload_n rfl rfl (zt_call0_1 rfl (mjkd205 _ _ _ _) (Nat.le_of_ble_eq_true rfl) rfl rfl))))))
set_option maxRecDepth 100000 in
theorem f229_25 : mj_find (mj_P 229).2.2.2.2 25 = [(.ifCond .ne 5, 3, 0, [30])] := rfl
set_option maxRecDepth 100000 in
theorem q229_25 (E : mj_E) (d w c : Nat) (hi : Nat → Nat → Int32) (hl : Nat → Nat → Int64) (v1 : Int32) (v2 : Int32) (s0 : Int32) : mj_den mj_P E d 229 25 [Value.ref 205, Value.int v1, Value.int v2] [Value.int s0] (mj_hw w c hi hl) = if ¬ s0 = 0 then mj_den mj_P E d 229 30 [Value.ref 205, Value.int v1, Value.int v2] [] (mj_hw w c hi hl) else mj_den mj_P E d 229 28 [Value.ref 205, Value.int v1, Value.int v2] [] (mj_hw w c hi hl) := by
  rw [mj_den_eq, f229_25]
  exact zt_if_ne rfl rfl (zt_end rfl)
set_option maxRecDepth 100000 in
theorem f229_28 : mj_find (mj_P 229).2.2.2.2 28 = [(.iconst 0, 1, 0, []), (.ireturn, 1, 0, [1])] := rfl
set_option maxRecDepth 100000 in
theorem q229_28 (E : mj_E) (d w c : Nat) (hi : Nat → Nat → Int32) (hl : Nat → Nat → Int64) (v1 : Int32) (v2 : Int32) : mj_den mj_P E d 229 28 [Value.ref 205, Value.int v1, Value.int v2] [] (mj_hw w c hi hl) = if (0 : Int32) = 0 ∨ (0 : Int32) = 1 then some (some (Value.int (0 : Int32)), (mj_hw w c hi hl)) else none := by
  rw [mj_den_eq, f229_28]
  exact zt_iconst rfl (zt_ireturn1)
set_option maxRecDepth 100000 in
theorem f229_30 : mj_find (mj_P 229).2.2.2.2 30 = [(.aload_n 0, 1, 0, []), (.getfield 7, 3, 0, [12, 1, 3, 1411]), (.iload_n 1, 1, 0, []), (.iconst 2, 1, 2, []), (.if_icmp .ge 10, 3, 0, [46]), (.bipush 25, 2, 25, []), (.iload_n 2, 1, 0, []), (.iadd, 1, 0, []), (.goto 4, 3, 0, [47])] := rfl
set_option maxRecDepth 100000 in
theorem q229_30 (E : mj_E) (d w c : Nat) (hi : Nat → Nat → Int32) (hl : Nat → Nat → Int64) (v1 : Int32) (v2 : Int32) : mj_den mj_P E d 229 30 [Value.ref 205, Value.int v1, Value.int v2] [] (mj_hw w c hi hl) = if (2 : Int32) ≤ v1 then mj_den mj_P E d 229 46 [Value.ref 205, Value.int v1, Value.int v2] [Value.ref 206] (mj_hw w c hi hl) else mj_den mj_P E d 229 47 [Value.ref 205, Value.int v1, Value.int v2] [Value.int ((25 : Int32) + v2), Value.ref 206] (mj_hw w c hi hl) := by
  rw [mj_den_eq, f229_30]
  exact zt_aload_n rfl rfl (zt_getr (mjkd205 _ _ _ _) (mjhr205_1 w c) rfl (zt_iload_n rfl rfl (zt_iconst rfl (zt_icmp_ge rfl rfl (zt_bipush rfl (zt_iload_n rfl rfl (zt_iadd rfl (zt_goto rfl))))))))
set_option maxRecDepth 100000 in
theorem f229_46 : mj_find (mj_P 229).2.2.2.2 46 = [(.iconst 3, 1, 3, [])] := rfl
set_option maxRecDepth 100000 in
theorem q229_46 (E : mj_E) (d w c : Nat) (hi : Nat → Nat → Int32) (hl : Nat → Nat → Int64) (v1 : Int32) (v2 : Int32) : mj_den mj_P E d 229 46 [Value.ref 205, Value.int v1, Value.int v2] [Value.ref 206] (mj_hw w c hi hl) = mj_den mj_P E d 229 47 [Value.ref 205, Value.int v1, Value.int v2] [Value.int (3 : Int32), Value.ref 206] (mj_hw w c hi hl) := by
  rw [mj_den_eq, f229_46]
  exact zt_iconst rfl (zt_end rfl)
set_option maxRecDepth 100000 in
theorem f229_47 : mj_find (mj_P 229).2.2.2.2 47 = [(.iaload, 1, 0, []), (.iload_n 1, 1, 0, []), (.iconst 2, 1, 2, []), (.irem, 1, 0, []), (.ifCond .ne 7, 3, 0, [58]), (.iconst 1, 1, 1, []), (.goto 4, 3, 0, [59])] := rfl
set_option maxRecDepth 100000 in
theorem q229_47 (E : mj_E) (d w c : Nat) (hi : Nat → Nat → Int32) (hl : Nat → Nat → Int64) (v1 : Int32) (v2 : Int32) (s0 : Int32) : mj_den mj_P E d 229 47 [Value.ref 205, Value.int v1, Value.int v2] [Value.int s0, Value.ref 206] (mj_hw w c hi hl) = if 0 ≤ s0 ∧ (s0).toNatClampNeg < 57 then if (2 : Int32) = 0 then none else if ¬ (mj_rem v1 (2 : Int32)) = 0 then mj_den mj_P E d 229 58 [Value.ref 205, Value.int v1, Value.int v2] [Value.int (hi 206 ((s0).toNatClampNeg))] (mj_hw w c hi hl) else mj_den mj_P E d 229 59 [Value.ref 205, Value.int v1, Value.int v2] [Value.int (1 : Int32), Value.int (hi 206 ((s0).toNatClampNeg))] (mj_hw w c hi hl) else none := by
  rw [mj_den_eq, f229_47]
  exact zt_iald (mjkd206 _ _ _ _) (mjln206 _ _ _ _) rfl rfl (zt_iload_n rfl rfl (zt_iconst rfl (zt_irem  rfl (zt_if_ne rfl rfl (zt_iconst rfl (zt_goto rfl))))))
set_option maxRecDepth 100000 in
theorem f229_58 : mj_find (mj_P 229).2.2.2.2 58 = [(.iconst 0, 1, 0, [])] := rfl
set_option maxRecDepth 100000 in
theorem q229_58 (E : mj_E) (d w c : Nat) (hi : Nat → Nat → Int32) (hl : Nat → Nat → Int64) (v1 : Int32) (v2 : Int32) (s0 : Int32) : mj_den mj_P E d 229 58 [Value.ref 205, Value.int v1, Value.int v2] [Value.int s0] (mj_hw w c hi hl) = mj_den mj_P E d 229 59 [Value.ref 205, Value.int v1, Value.int v2] [Value.int (0 : Int32), Value.int s0] (mj_hw w c hi hl) := by
  rw [mj_den_eq, f229_58]
  exact zt_iconst rfl (zt_end rfl)
set_option maxRecDepth 100000 in
theorem f229_59 : mj_find (mj_P 229).2.2.2.2 59 = [(.if_icmp .ne 5, 3, 0, [64]), (.iconst 0, 1, 0, []), (.ireturn, 1, 0, [1])] := rfl
set_option maxRecDepth 100000 in
theorem q229_59 (E : mj_E) (d w c : Nat) (hi : Nat → Nat → Int32) (hl : Nat → Nat → Int64) (v1 : Int32) (v2 : Int32) (s0 : Int32) (s1 : Int32) : mj_den mj_P E d 229 59 [Value.ref 205, Value.int v1, Value.int v2] [Value.int s0, Value.int s1] (mj_hw w c hi hl) = if ¬ s1 = s0 then mj_den mj_P E d 229 64 [Value.ref 205, Value.int v1, Value.int v2] [] (mj_hw w c hi hl) else if (0 : Int32) = 0 ∨ (0 : Int32) = 1 then some (some (Value.int (0 : Int32)), (mj_hw w c hi hl)) else none := by
  rw [mj_den_eq, f229_59]
  exact zt_icmp_ne rfl rfl (zt_iconst rfl (zt_ireturn1))
set_option maxRecDepth 100000 in
theorem f229_64 : mj_find (mj_P 229).2.2.2.2 64 = [(.aload_n 0, 1, 0, []), (.invokevirtual 386, 3, 0, [0, 158, 12, 0, 0, 1804, 1806, 80, 156, 1807])] := rfl
set_option maxRecDepth 100000 in
theorem q229_64 (E : mj_E) (d w c : Nat) (hi : Nat → Nat → Int32) (hl : Nat → Nat → Int64) (v1 : Int32) (v2 : Int32) : mj_den mj_P E d 229 64 [Value.ref 205, Value.int v1, Value.int v2] [] (mj_hw w c hi hl) = mj_bv (mj_dc mj_P E d 158 [Value.ref 205] (mj_hw w c hi hl)) (fun h1 => mj_den mj_P E d 229 68 [Value.ref 205, Value.int v1, Value.int v2] [] h1) := by
  rw [mj_den_eq, f229_64]
  exact zt_aload_n rfl rfl (zt_call0_0 rfl (mjkd205 _ _ _ _) (Nat.le_of_ble_eq_true rfl) rfl rfl)
set_option maxRecDepth 100000 in
theorem f229_68 : mj_find (mj_P 229).2.2.2.2 68 = [(.aload_n 0, 1, 0, []), (.iload_n 1, 1, 0, []), (.iload_n 2, 1, 0, []), (.invokevirtual 392, 3, 0, [0, 228, 12, 2, 1, 1906, 1908, 104, 156, 1909])] := rfl
set_option maxRecDepth 100000 in
theorem q229_68 (E : mj_E) (d w c : Nat) (hi : Nat → Nat → Int32) (hl : Nat → Nat → Int64) (v1 : Int32) (v2 : Int32) : mj_den mj_P E d 229 68 [Value.ref 205, Value.int v1, Value.int v2] [] (mj_hw w c hi hl) = mj_bi (mj_dc mj_P E d 228 [Value.ref 205, Value.int v1, Value.int v2] (mj_hw w c hi hl)) (fun x1 h1 => mj_den mj_P E d 229 74 [Value.ref 205, Value.int v1, Value.int v2] [Value.int x1] h1) := by
  rw [mj_den_eq, f229_68]
  exact zt_aload_n rfl rfl (zt_iload_n rfl rfl (zt_iload_n rfl rfl (zt_call0_1 rfl (mjkd205 _ _ _ _) (Nat.le_of_ble_eq_true rfl) rfl rfl)))
set_option maxRecDepth 100000 in
theorem f229_74 : mj_find (mj_P 229).2.2.2.2 74 = [(.ireturn, 1, 0, [1])] := rfl
set_option maxRecDepth 100000 in
theorem q229_74 (E : mj_E) (d w c : Nat) (hi : Nat → Nat → Int32) (hl : Nat → Nat → Int64) (v1 : Int32) (v2 : Int32) (s0 : Int32) : mj_den mj_P E d 229 74 [Value.ref 205, Value.int v1, Value.int v2] [Value.int s0] (mj_hw w c hi hl) = if s0 = 0 ∨ s0 = 1 then some (some (Value.int s0), (mj_hw w c hi hl)) else none := by
  rw [mj_den_eq, f229_74]
  exact zt_ireturn1
set_option maxRecDepth 100000 in
theorem f230_0 : mj_find (mj_P 230).2.2.2.2 0 = [(.aload_n 0, 1, 0, []), (.getfield 74, 3, 0, [12, 41, 3, 1451]), (.iload_n 1, 1, 0, []), (.iaload, 1, 0, []), (.istore_n 2, 1, 0, []), (.iload_n 2, 1, 0, []), (.iconst 1, 1, 1, []), (.if_icmp .eq 8, 3, 0, [17]), (.iload_n 2, 1, 0, []), (.iconst 2, 1, 2, []), (.if_icmp .ne 21, 3, 0, [35])] := rfl
set_option maxRecDepth 100000 in
theorem q230_0 (E : mj_E) (d w c : Nat) (hi : Nat → Nat → Int32) (hl : Nat → Nat → Int64) (v1 : Int32) : mj_den mj_P E d 230 0 [Value.ref 205, Value.int v1, Value.float 0] [] (mj_hw w c hi hl) = if 0 ≤ v1 ∧ (v1).toNatClampNeg < 96 then if (hi 226 ((v1).toNatClampNeg)) = (1 : Int32) then mj_den mj_P E d 230 17 [Value.ref 205, Value.int v1, Value.int (hi 226 ((v1).toNatClampNeg))] [] (mj_hw w c hi hl) else if ¬ (hi 226 ((v1).toNatClampNeg)) = (2 : Int32) then mj_den mj_P E d 230 35 [Value.ref 205, Value.int v1, Value.int (hi 226 ((v1).toNatClampNeg))] [] (mj_hw w c hi hl) else mj_den mj_P E d 230 17 [Value.ref 205, Value.int v1, Value.int (hi 226 ((v1).toNatClampNeg))] [] (mj_hw w c hi hl) else none := by
  rw [mj_den_eq, f230_0]
  exact zt_aload_n rfl rfl (zt_getr (mjkd205 _ _ _ _) (mjhr205_41 w c) rfl (zt_iload_n rfl rfl (zt_iald (mjkd226 _ _ _ _) (mjln226 _ _ _ _) rfl rfl (zt_istore_n (Nat.le_of_ble_eq_true rfl) rfl rfl (zt_iload_n rfl rfl (zt_iconst rfl (zt_icmp_eq rfl rfl (zt_iload_n rfl rfl (zt_iconst rfl (zt_icmp_ne rfl rfl (zt_end rfl)))))))))))
set_option maxRecDepth 100000 in
theorem f230_17 : mj_find (mj_P 230).2.2.2.2 17 = [(.aload_n 0, 1, 0, []), (.iload_n 2, 1, 0, []), (.iconst 1, 1, 1, []), (.isub, 1, 0, []), (.aload_n 0, 1, 0, []), (.getfield 74, 3, 0, [12, 41, 3, 1451]), (.iload_n 1, 1, 0, []), (.iconst 1, 1, 1, []), (.iadd, 1, 0, []), (.iaload, 1, 0, []), (.invokevirtual 392, 3, 0, [0, 228, 12, 2, 1, 1906, 1908, 104, 156, 1909])] := rfl
set_option maxRecDepth 100000 in
theorem q230_17 (E : mj_E) (d w c : Nat) (hi : Nat → Nat → Int32) (hl : Nat → Nat → Int64) (v1 : Int32) (v2 : Int32) : mj_den mj_P E d 230 17 [Value.ref 205, Value.int v1, Value.int v2] [] (mj_hw w c hi hl) = if 0 ≤ (v1 + (1 : Int32)) ∧ ((v1 + (1 : Int32))).toNatClampNeg < 96 then mj_bi (mj_dc mj_P E d 228 [Value.ref 205, Value.int (v2 - (1 : Int32)), Value.int (hi 226 (((v1 + (1 : Int32))).toNatClampNeg))] (mj_hw w c hi hl)) (fun x1 h1 => mj_den mj_P E d 230 32 [Value.ref 205, Value.int v1, Value.int v2] [Value.int x1] h1) else none := by
  rw [mj_den_eq, f230_17]
  exact zt_aload_n rfl rfl (zt_iload_n rfl rfl (zt_iconst rfl (zt_isub rfl (zt_aload_n rfl rfl (zt_getr (mjkd205 _ _ _ _) (mjhr205_41 w c) rfl (zt_iload_n rfl rfl (zt_iconst rfl (zt_iadd rfl (zt_iald (mjkd226 _ _ _ _) (mjln226 _ _ _ _) rfl rfl (zt_call0_1 rfl (mjkd205 _ _ _ _) (Nat.le_of_ble_eq_true rfl) rfl rfl))))))))))
set_option maxRecDepth 100000 in
theorem f230_32 : mj_find (mj_P 230).2.2.2.2 32 = [(.pop, 1, 0, []), (.iconst 0, 1, 0, []), (.ireturn, 1, 0, [1])] := rfl
set_option maxRecDepth 100000 in
theorem q230_32 (E : mj_E) (d w c : Nat) (hi : Nat → Nat → Int32) (hl : Nat → Nat → Int64) (v1 : Int32) (v2 : Int32) (s0 : Int32) : mj_den mj_P E d 230 32 [Value.ref 205, Value.int v1, Value.int v2] [Value.int s0] (mj_hw w c hi hl) = if (0 : Int32) = 0 ∨ (0 : Int32) = 1 then some (some (Value.int (0 : Int32)), (mj_hw w c hi hl)) else none := by
  rw [mj_den_eq, f230_32]
  exact zt_pop rfl (zt_iconst rfl (zt_ireturn1))
set_option maxRecDepth 100000 in
theorem f230_35 : mj_find (mj_P 230).2.2.2.2 35 = [(.aload_n 0, 1, 0, []), (.getfield 74, 3, 0, [12, 41, 3, 1451]), (.iload_n 1, 1, 0, []), (.iconst 2, 1, 2, []), (.iadd, 1, 0, []), (.iaload, 1, 0, []), (.ifCond .eq 26, 3, 0, [69]), (.aload_n 0, 1, 0, []), (.getfield 7, 3, 0, [12, 1, 3, 1411]), (.iconst 3, 1, 3, []), (.aload_n 0, 1, 0, []), (.getfield 74, 3, 0, [12, 41, 3, 1451]), (.iload_n 1, 1, 0, []), (.iconst 2, 1, 2, []), (.iadd, 1, 0, []), (.iaload, 1, 0, []), (.iconst 1, 1, 1, []), (.if_icmp .ne 7, 3, 0, [67]), (.iconst 1, 1, 1, []), (.goto 4, 3, 0, [68])] := rfl
set_option maxRecDepth 100000 in
theorem q230_35 (E : mj_E) (d w c : Nat) (hi : Nat → Nat → Int32) (hl : Nat → Nat → Int64) (v1 : Int32) (v2 : Int32) : mj_den mj_P E d 230 35 [Value.ref 205, Value.int v1, Value.int v2] [] (mj_hw w c hi hl) = if 0 ≤ (v1 + (2 : Int32)) ∧ ((v1 + (2 : Int32))).toNatClampNeg < 96 then if (hi 226 (((v1 + (2 : Int32))).toNatClampNeg)) = 0 then mj_den mj_P E d 230 69 [Value.ref 205, Value.int v1, Value.int v2] [] (mj_hw w c hi hl) else if 0 ≤ (v1 + (2 : Int32)) ∧ ((v1 + (2 : Int32))).toNatClampNeg < 96 then if ¬ (hi 226 (((v1 + (2 : Int32))).toNatClampNeg)) = (1 : Int32) then mj_den mj_P E d 230 67 [Value.ref 205, Value.int v1, Value.int v2] [Value.int (3 : Int32), Value.ref 206] (mj_hw w c hi hl) else mj_den mj_P E d 230 68 [Value.ref 205, Value.int v1, Value.int v2] [Value.int (1 : Int32), Value.int (3 : Int32), Value.ref 206] (mj_hw w c hi hl) else none else none := by
  rw [mj_den_eq, f230_35]
  exact zt_aload_n rfl rfl (zt_getr (mjkd205 _ _ _ _) (mjhr205_41 w c) rfl (zt_iload_n rfl rfl (zt_iconst rfl (zt_iadd rfl (zt_iald (mjkd226 _ _ _ _) (mjln226 _ _ _ _) rfl rfl (zt_if_eq rfl rfl (zt_aload_n rfl rfl (zt_getr (mjkd205 _ _ _ _) (mjhr205_1 w c) rfl (zt_iconst rfl (zt_aload_n rfl rfl (zt_getr (mjkd205 _ _ _ _) (mjhr205_41 w c) rfl (zt_iload_n rfl rfl (zt_iconst rfl (zt_iadd rfl (zt_iald (mjkd226 _ _ _ _) (mjln226 _ _ _ _) rfl rfl (zt_iconst rfl (zt_icmp_ne rfl rfl (zt_iconst rfl (zt_goto rfl)))))))))))))))))))
set_option maxRecDepth 100000 in
theorem f230_67 : mj_find (mj_P 230).2.2.2.2 67 = [(.iconst 0, 1, 0, [])] := rfl
set_option maxRecDepth 100000 in
theorem q230_67 (E : mj_E) (d w c : Nat) (hi : Nat → Nat → Int32) (hl : Nat → Nat → Int64) (v1 : Int32) (v2 : Int32) (s0 : Int32) : mj_den mj_P E d 230 67 [Value.ref 205, Value.int v1, Value.int v2] [Value.int s0, Value.ref 206] (mj_hw w c hi hl) = mj_den mj_P E d 230 68 [Value.ref 205, Value.int v1, Value.int v2] [Value.int (0 : Int32), Value.int s0, Value.ref 206] (mj_hw w c hi hl) := by
  rw [mj_den_eq, f230_67]
  exact zt_iconst rfl (zt_end rfl)
set_option maxRecDepth 100000 in
theorem f230_68 : mj_find (mj_P 230).2.2.2.2 68 = [(.iastore, 1, 0, [])] := rfl
set_option maxRecDepth 100000 in
theorem q230_68 (E : mj_E) (d w c : Nat) (hi : Nat → Nat → Int32) (hl : Nat → Nat → Int64) (v1 : Int32) (v2 : Int32) (s0 : Int32) (s1 : Int32) : mj_den mj_P E d 230 68 [Value.ref 205, Value.int v1, Value.int v2] [Value.int s0, Value.int s1, Value.ref 206] (mj_hw w c hi hl) = if 0 ≤ s1 ∧ (s1).toNatClampNeg < 57 then mj_den mj_P E d 230 69 [Value.ref 205, Value.int v1, Value.int v2] [] (mj_hw w c (mj_u hi 206 ((s1).toNatClampNeg) s0) hl) else none := by
  rw [mj_den_eq, f230_68]
  exact zt_iast (mjkd206 _ _ _ _) (mjln206 _ _ _ _) rfl rfl (zt_end rfl)
set_option maxRecDepth 100000 in
theorem f230_69 : mj_find (mj_P 230).2.2.2.2 69 = [(.aload_n 0, 1, 0, []), (.aload_n 0, 1, 0, []), (.getfield 74, 3, 0, [12, 41, 3, 1451]), (.iload_n 1, 1, 0, []), (.iconst 1, 1, 1, []), (.iadd, 1, 0, []), (.iaload, 1, 0, []), (.invokevirtual 140, 3, 0, [0, 166, 12, 1, 1, 1800, 1802, 79, 156, 1803])] := rfl
set_option maxRecDepth 100000 in
theorem q230_69 (E : mj_E) (d w c : Nat) (hi : Nat → Nat → Int32) (hl : Nat → Nat → Int64) (v1 : Int32) (v2 : Int32) : mj_den mj_P E d 230 69 [Value.ref 205, Value.int v1, Value.int v2] [] (mj_hw w c hi hl) = if 0 ≤ (v1 + (1 : Int32)) ∧ ((v1 + (1 : Int32))).toNatClampNeg < 96 then mj_bi (mj_dc mj_P E d 166 [Value.ref 205, Value.int (hi 226 (((v1 + (1 : Int32))).toNatClampNeg))] (mj_hw w c hi hl)) (fun x1 h1 => mj_den mj_P E d 230 81 [Value.ref 205, Value.int v1, Value.int v2] [Value.int x1] h1) else none := by
  rw [mj_den_eq, f230_69]
  exact zt_aload_n rfl rfl (zt_aload_n rfl rfl (zt_getr (mjkd205 _ _ _ _) (mjhr205_41 w c) rfl (zt_iload_n rfl rfl (zt_iconst rfl (zt_iadd rfl (zt_iald (mjkd226 _ _ _ _) (mjln226 _ _ _ _) rfl rfl (zt_call0_1 rfl (mjkd205 _ _ _ _) (Nat.le_of_ble_eq_true rfl) rfl rfl)))))))
set_option maxRecDepth 100000 in
theorem f230_81 : mj_find (mj_P 230).2.2.2.2 81 = [(.iconst (-1), 1, (-1), []), (.if_icmp .ne 23, 3, 0, [105]), (.aload_n 0, 1, 0, []), (.aload_n 0, 1, 0, []), (.getfield 74, 3, 0, [12, 41, 3, 1451]), (.iload_n 1, 1, 0, []), (.iconst 1, 1, 1, []), (.iadd, 1, 0, []), (.iaload, 1, 0, []), (.invokevirtual 389, 3, 0, [0, 226, 12, 1, 1, 1808, 1810, 81, 156, 1811])] := rfl
set_option maxRecDepth 100000 in
theorem q230_81 (E : mj_E) (d w c : Nat) (hi : Nat → Nat → Int32) (hl : Nat → Nat → Int64) (v1 : Int32) (v2 : Int32) (s0 : Int32) : mj_den mj_P E d 230 81 [Value.ref 205, Value.int v1, Value.int v2] [Value.int s0] (mj_hw w c hi hl) = if ¬ s0 = (-1 : Int32) then mj_den mj_P E d 230 105 [Value.ref 205, Value.int v1, Value.int v2] [] (mj_hw w c hi hl) else if 0 ≤ (v1 + (1 : Int32)) ∧ ((v1 + (1 : Int32))).toNatClampNeg < 96 then mj_bi (mj_dc mj_P E d 226 [Value.ref 205, Value.int (hi 226 (((v1 + (1 : Int32))).toNatClampNeg))] (mj_hw w c hi hl)) (fun x1 h1 => mj_den mj_P E d 230 97 [Value.ref 205, Value.int v1, Value.int v2] [Value.int x1] h1) else none := by
  rw [mj_den_eq, f230_81]
  exact zt_iconst rfl (zt_icmp_ne rfl rfl (zt_aload_n rfl rfl (zt_aload_n rfl rfl (zt_getr (mjkd205 _ _ _ _) (mjhr205_41 w c) rfl (zt_iload_n rfl rfl (zt_iconst rfl (zt_iadd rfl (zt_iald (mjkd226 _ _ _ _) (mjln226 _ _ _ _) rfl rfl (zt_call0_1 rfl (mjkd205 _ _ _ _) (Nat.le_of_ble_eq_true rfl) rfl rfl)))))))))
set_option maxRecDepth 100000 in
theorem f230_97 : mj_find (mj_P 230).2.2.2.2 97 = [(.iconst (-1), 1, (-1), []), (.if_icmp .eq 7, 3, 0, [105]), (.iconst 1, 1, 1, []), (.goto 4, 3, 0, [106])] := rfl
set_option maxRecDepth 100000 in
theorem q230_97 (E : mj_E) (d w c : Nat) (hi : Nat → Nat → Int32) (hl : Nat → Nat → Int64) (v1 : Int32) (v2 : Int32) (s0 : Int32) : mj_den mj_P E d 230 97 [Value.ref 205, Value.int v1, Value.int v2] [Value.int s0] (mj_hw w c hi hl) = if s0 = (-1 : Int32) then mj_den mj_P E d 230 105 [Value.ref 205, Value.int v1, Value.int v2] [] (mj_hw w c hi hl) else mj_den mj_P E d 230 106 [Value.ref 205, Value.int v1, Value.int v2] [Value.int (1 : Int32)] (mj_hw w c hi hl) := by
  rw [mj_den_eq, f230_97]
  exact zt_iconst rfl (zt_icmp_eq rfl rfl (zt_iconst rfl (zt_goto rfl)))
set_option maxRecDepth 100000 in
theorem f230_105 : mj_find (mj_P 230).2.2.2.2 105 = [(.iconst 0, 1, 0, [])] := rfl
set_option maxRecDepth 100000 in
theorem q230_105 (E : mj_E) (d w c : Nat) (hi : Nat → Nat → Int32) (hl : Nat → Nat → Int64) (v1 : Int32) (v2 : Int32) : mj_den mj_P E d 230 105 [Value.ref 205, Value.int v1, Value.int v2] [] (mj_hw w c hi hl) = mj_den mj_P E d 230 106 [Value.ref 205, Value.int v1, Value.int v2] [Value.int (0 : Int32)] (mj_hw w c hi hl) := by
  rw [mj_den_eq, f230_105]
  exact zt_iconst rfl (zt_end rfl)
set_option maxRecDepth 100000 in
theorem f230_106 : mj_find (mj_P 230).2.2.2.2 106 = [(.ireturn, 1, 0, [1])] := rfl
set_option maxRecDepth 100000 in
theorem q230_106 (E : mj_E) (d w c : Nat) (hi : Nat → Nat → Int32) (hl : Nat → Nat → Int64) (v1 : Int32) (v2 : Int32) (s0 : Int32) : mj_den mj_P E d 230 106 [Value.ref 205, Value.int v1, Value.int v2] [Value.int s0] (mj_hw w c hi hl) = if s0 = 0 ∨ s0 = 1 then some (some (Value.int s0), (mj_hw w c hi hl)) else none := by
  rw [mj_den_eq, f230_106]
  exact zt_ireturn1
set_option maxRecDepth 100000 in
theorem f231_0 : mj_find (mj_P 231).2.2.2.2 0 = [(.aload_n 0, 1, 0, []), (.iconst 0, 1, 0, []), (.putfield 122, 3, 0, [12, 0, 0, 1410]), (.aload_n 0, 1, 0, []), (.invokevirtual 386, 3, 0, [0, 158, 12, 0, 0, 1804, 1806, 80, 156, 1807])] := rfl
set_option maxRecDepth 100000 in
theorem q231_0 (E : mj_E) (d w c : Nat) (hi : Nat → Nat → Int32) (hl : Nat → Nat → Int64) : mj_den mj_P E d 231 0 [Value.ref 205, Value.float 0, Value.float 0] [] (mj_hw w c hi hl) = mj_bv (mj_dc mj_P E d 158 [Value.ref 205] (mj_hw w c (mj_u hi 205 0 (0 : Int32)) hl)) (fun h1 => mj_den mj_P E d 231 9 [Value.ref 205, Value.float 0, Value.float 0] [] h1) := by
  rw [mj_den_eq, f231_0]
  exact zt_aload_n rfl rfl (zt_iconst rfl (zt_puti (mjkd205 _ _ _ _) rfl rfl (zt_aload_n rfl rfl (zt_call0_0 rfl (mjkd205 _ _ _ _) (Nat.le_of_ble_eq_true rfl) rfl rfl))))
set_option maxRecDepth 100000 in
theorem f231_9 : mj_find (mj_P 231).2.2.2.2 9 = [(.iconst 0, 1, 0, []), (.istore_n 1, 1, 0, []), (.iconst 0, 1, 0, []), (.istore_n 2, 1, 0, [])] := rfl
set_option maxRecDepth 100000 in
theorem q231_9 (E : mj_E) (d w c : Nat) (hi : Nat → Nat → Int32) (hl : Nat → Nat → Int64) : mj_den mj_P E d 231 9 [Value.ref 205, Value.float 0, Value.float 0] [] (mj_hw w c hi hl) = mj_den mj_P E d 231 13 [Value.ref 205, Value.int (0 : Int32), Value.int (0 : Int32)] [] (mj_hw w c hi hl) := by
  rw [mj_den_eq, f231_9]
  exact zt_iconst rfl (zt_istore_n (Nat.le_of_ble_eq_true rfl) rfl rfl (zt_iconst rfl (zt_istore_n (Nat.le_of_ble_eq_true rfl) rfl rfl (zt_end rfl))))
set_option maxRecDepth 100000 in
theorem f231_13 : mj_find (mj_P 231).2.2.2.2 13 = [(.iload_n 2, 1, 0, []), (.aload_n 0, 1, 0, []), (.getfield 293, 3, 0, [12, 40, 0, 1450]), (.if_icmp .ge 23, 3, 0, [41]), (.aload_n 0, 1, 0, []), (.iconst 3, 1, 3, []), (.iload_n 2, 1, 0, []), (.imul, 1, 0, []), (.invokevirtual 395, 3, 0, [0, 230, 12, 1, 1, 1914, 1916, 105, 156, 1917])] := rfl
set_option maxRecDepth 100000 in
theorem q231_13 (E : mj_E) (d w c : Nat) (hi : Nat → Nat → Int32) (hl : Nat → Nat → Int64) (v1 : Int32) (v2 : Int32) : mj_den mj_P E d 231 13 [Value.ref 205, Value.int v1, Value.int v2] [] (mj_hw w c hi hl) = if (hi 205 40) ≤ v2 then mj_den mj_P E d 231 41 [Value.ref 205, Value.int v1, Value.int v2] [] (mj_hw w c hi hl) else mj_bi (mj_dc mj_P E d 230 [Value.ref 205, Value.int ((3 : Int32) * v2)] (mj_hw w c hi hl)) (fun x1 h1 => mj_den mj_P E d 231 28 [Value.ref 205, Value.int v1, Value.int v2] [Value.int x1] h1) := by
  rw [mj_den_eq, f231_13]
  exact zt_iload_n rfl rfl (zt_aload_n rfl rfl (zt_geti (mjkd205 _ _ _ _) rfl rfl (zt_icmp_ge rfl rfl (zt_aload_n rfl rfl (zt_iconst rfl (zt_iload_n rfl rfl (zt_imul rfl (zt_call0_1 rfl (mjkd205 _ _ _ _) (Nat.le_of_ble_eq_true rfl) rfl rfl))))))))
set_option maxRecDepth 100000 in
theorem f231_28 : mj_find (mj_P 231).2.2.2.2 28 = [(.ifCond .eq 7, 3, 0, [35]), (.iload_n 1, 1, 0, []), (.iconst 1, 1, 1, []), (.iadd, 1, 0, []), (.istore_n 1, 1, 0, [])] := rfl
set_option maxRecDepth 100000 in
theorem q231_28 (E : mj_E) (d w c : Nat) (hi : Nat → Nat → Int32) (hl : Nat → Nat → Int64) (v1 : Int32) (v2 : Int32) (s0 : Int32) : mj_den mj_P E d 231 28 [Value.ref 205, Value.int v1, Value.int v2] [Value.int s0] (mj_hw w c hi hl) = if s0 = 0 then mj_den mj_P E d 231 35 [Value.ref 205, Value.int v1, Value.int v2] [] (mj_hw w c hi hl) else mj_den mj_P E d 231 35 [Value.ref 205, Value.int (v1 + (1 : Int32)), Value.int v2] [] (mj_hw w c hi hl) := by
  rw [mj_den_eq, f231_28]
  exact zt_if_eq rfl rfl (zt_iload_n rfl rfl (zt_iconst rfl (zt_iadd rfl (zt_istore_n (Nat.le_of_ble_eq_true rfl) rfl rfl (zt_end rfl)))))
set_option maxRecDepth 100000 in
theorem f231_35 : mj_find (mj_P 231).2.2.2.2 35 = [(.iinc 2 1, 3, 1, []), (.goto (-25), 3, 0, [13])] := rfl
set_option maxRecDepth 100000 in
theorem q231_35 (E : mj_E) (d w c : Nat) (hi : Nat → Nat → Int32) (hl : Nat → Nat → Int64) (v1 : Int32) (v2 : Int32) : mj_den mj_P E d 231 35 [Value.ref 205, Value.int v1, Value.int v2] [] (mj_hw w c hi hl) = mj_den mj_P E d 231 13 [Value.ref 205, Value.int v1, Value.int (v2 + (1 : Int32))] [] (mj_hw w c hi hl) := by
  rw [mj_den_eq, f231_35]
  exact zt_iinc rfl (Nat.le_of_ble_eq_true rfl) rfl rfl (zt_goto rfl)
set_option maxRecDepth 100000 in
theorem f231_41 : mj_find (mj_P 231).2.2.2.2 41 = [(.iload_n 1, 1, 0, []), (.ireturn, 1, 0, [0])] := rfl
set_option maxRecDepth 100000 in
theorem q231_41 (E : mj_E) (d w c : Nat) (hi : Nat → Nat → Int32) (hl : Nat → Nat → Int64) (v1 : Int32) (v2 : Int32) : mj_den mj_P E d 231 41 [Value.ref 205, Value.int v1, Value.int v2] [] (mj_hw w c hi hl) = some (some (Value.int v1), (mj_hw w c hi hl)) := by
  rw [mj_den_eq, f231_41]
  exact zt_iload_n rfl rfl (zt_ireturn0)
set_option maxRecDepth 100000 in
theorem f232_0 : mj_find (mj_P 232).2.2.2.2 0 = [(.aload_n 0, 1, 0, []), (.iconst 0, 1, 0, []), (.putfield 122, 3, 0, [12, 0, 0, 1410]), (.aload_n 0, 1, 0, []), (.iload_n 1, 1, 0, []), (.invokevirtual 148, 3, 0, [0, 164, 12, 1, 1, 1640, 1642, 44, 156, 1643])] := rfl
set_option maxRecDepth 100000 in
theorem q232_0 (E : mj_E) (d w c : Nat) (hi : Nat → Nat → Int32) (hl : Nat → Nat → Int64) (v1 : Int32) (v2 : Int32) : mj_den mj_P E d 232 0 [Value.ref 205, Value.int v1, Value.int v2] [] (mj_hw w c hi hl) = mj_bi (mj_dc mj_P E d 164 [Value.ref 205, Value.int v1] (mj_hw w c (mj_u hi 205 0 (0 : Int32)) hl)) (fun x1 h1 => mj_den mj_P E d 232 10 [Value.ref 205, Value.int v1, Value.int v2] [Value.int x1] h1) := by
  rw [mj_den_eq, f232_0]
  exact zt_aload_n rfl rfl (zt_iconst rfl (zt_puti (mjkd205 _ _ _ _) rfl rfl (zt_aload_n rfl rfl (zt_iload_n rfl rfl (zt_call0_1 rfl (mjkd205 _ _ _ _) (Nat.le_of_ble_eq_true rfl) rfl rfl)))))
set_option maxRecDepth 100000 in
theorem f232_10 : mj_find (mj_P 232).2.2.2.2 10 = [(.ifCond .ne 5, 3, 0, [15]), (.iconst (-1), 1, (-1), []), (.ireturn, 1, 0, [0])] := rfl
set_option maxRecDepth 100000 in
theorem q232_10 (E : mj_E) (d w c : Nat) (hi : Nat → Nat → Int32) (hl : Nat → Nat → Int64) (v1 : Int32) (v2 : Int32) (s0 : Int32) : mj_den mj_P E d 232 10 [Value.ref 205, Value.int v1, Value.int v2] [Value.int s0] (mj_hw w c hi hl) = if ¬ s0 = 0 then mj_den mj_P E d 232 15 [Value.ref 205, Value.int v1, Value.int v2] [] (mj_hw w c hi hl) else some (some (Value.int (-1 : Int32)), (mj_hw w c hi hl)) := by
  rw [mj_den_eq, f232_10]
  exact zt_if_ne rfl rfl (zt_iconst rfl (zt_ireturn0))
set_option maxRecDepth 100000 in
theorem f232_15 : mj_find (mj_P 232).2.2.2.2 15 = [(.iload_n 2, 1, 0, []), (.ifCond .ne 12, 3, 0, [28]), (.aload_n 0, 1, 0, []), (.getfield 7, 3, 0, [12, 1, 3, 1411]), (.iconst 5, 1, 5, []), (.iload_n 1, 1, 0, []), (.iadd, 1, 0, []), (.iaload, 1, 0, []), (.ireturn, 1, 0, [0])] := rfl
set_option maxRecDepth 100000 in
theorem q232_15 (E : mj_E) (d w c : Nat) (hi : Nat → Nat → Int32) (hl : Nat → Nat → Int64) (v1 : Int32) (v2 : Int32) : mj_den mj_P E d 232 15 [Value.ref 205, Value.int v1, Value.int v2] [] (mj_hw w c hi hl) = if ¬ v2 = 0 then mj_den mj_P E d 232 28 [Value.ref 205, Value.int v1, Value.int v2] [] (mj_hw w c hi hl) else if 0 ≤ ((5 : Int32) + v1) ∧ (((5 : Int32) + v1)).toNatClampNeg < 57 then some (some (Value.int (hi 206 ((((5 : Int32) + v1)).toNatClampNeg))), (mj_hw w c hi hl)) else none := by
  rw [mj_den_eq, f232_15]
  exact zt_iload_n rfl rfl (zt_if_ne rfl rfl (zt_aload_n rfl rfl (zt_getr (mjkd205 _ _ _ _) (mjhr205_1 w c) rfl (zt_iconst rfl (zt_iload_n rfl rfl (zt_iadd rfl (zt_iald (mjkd206 _ _ _ _) (mjln206 _ _ _ _) rfl rfl (zt_ireturn0))))))))
set_option maxRecDepth 100000 in
theorem f232_28 : mj_find (mj_P 232).2.2.2.2 28 = [(.iload_n 2, 1, 0, []), (.iconst 1, 1, 1, []), (.if_icmp .ne 10, 3, 0, [40]), (.aload_n 0, 1, 0, []), (.getfield 19, 3, 0, [12, 8, 3, 1418]), (.iload_n 1, 1, 0, []), (.iaload, 1, 0, []), (.ireturn, 1, 0, [0])] := rfl
set_option maxRecDepth 100000 in
theorem q232_28 (E : mj_E) (d w c : Nat) (hi : Nat → Nat → Int32) (hl : Nat → Nat → Int64) (v1 : Int32) (v2 : Int32) : mj_den mj_P E d 232 28 [Value.ref 205, Value.int v1, Value.int v2] [] (mj_hw w c hi hl) = if ¬ v2 = (1 : Int32) then mj_den mj_P E d 232 40 [Value.ref 205, Value.int v1, Value.int v2] [] (mj_hw w c hi hl) else if 0 ≤ v1 ∧ (v1).toNatClampNeg < 10 then some (some (Value.int (hi 209 ((v1).toNatClampNeg))), (mj_hw w c hi hl)) else none := by
  rw [mj_den_eq, f232_28]
  exact zt_iload_n rfl rfl (zt_iconst rfl (zt_icmp_ne rfl rfl (zt_aload_n rfl rfl (zt_getr (mjkd205 _ _ _ _) (mjhr205_8 w c) rfl (zt_iload_n rfl rfl (zt_iald (mjkd209 _ _ _ _) (mjln209 _ _ _ _) rfl rfl (zt_ireturn0)))))))
set_option maxRecDepth 100000 in
theorem f232_40 : mj_find (mj_P 232).2.2.2.2 40 = [(.iload_n 2, 1, 0, []), (.iconst 2, 1, 2, []), (.if_icmp .ne 13, 3, 0, [55]), (.aload_n 0, 1, 0, []), (.getfield 7, 3, 0, [12, 1, 3, 1411]), (.bipush 15, 2, 15, []), (.iload_n 1, 1, 0, []), (.iadd, 1, 0, []), (.iaload, 1, 0, []), (.ireturn, 1, 0, [0])] := rfl
set_option maxRecDepth 100000 in
theorem q232_40 (E : mj_E) (d w c : Nat) (hi : Nat → Nat → Int32) (hl : Nat → Nat → Int64) (v1 : Int32) (v2 : Int32) : mj_den mj_P E d 232 40 [Value.ref 205, Value.int v1, Value.int v2] [] (mj_hw w c hi hl) = if ¬ v2 = (2 : Int32) then mj_den mj_P E d 232 55 [Value.ref 205, Value.int v1, Value.int v2] [] (mj_hw w c hi hl) else if 0 ≤ ((15 : Int32) + v1) ∧ (((15 : Int32) + v1)).toNatClampNeg < 57 then some (some (Value.int (hi 206 ((((15 : Int32) + v1)).toNatClampNeg))), (mj_hw w c hi hl)) else none := by
  rw [mj_den_eq, f232_40]
  exact zt_iload_n rfl rfl (zt_iconst rfl (zt_icmp_ne rfl rfl (zt_aload_n rfl rfl (zt_getr (mjkd205 _ _ _ _) (mjhr205_1 w c) rfl (zt_bipush rfl (zt_iload_n rfl rfl (zt_iadd rfl (zt_iald (mjkd206 _ _ _ _) (mjln206 _ _ _ _) rfl rfl (zt_ireturn0)))))))))
set_option maxRecDepth 100000 in
theorem f232_55 : mj_find (mj_P 232).2.2.2.2 55 = [(.iload_n 2, 1, 0, []), (.iconst 3, 1, 3, []), (.if_icmp .ne 10, 3, 0, [67]), (.aload_n 0, 1, 0, []), (.getfield 22, 3, 0, [12, 9, 3, 1419]), (.iload_n 1, 1, 0, []), (.iaload, 1, 0, []), (.ireturn, 1, 0, [0])] := rfl
set_option maxRecDepth 100000 in
theorem q232_55 (E : mj_E) (d w c : Nat) (hi : Nat → Nat → Int32) (hl : Nat → Nat → Int64) (v1 : Int32) (v2 : Int32) : mj_den mj_P E d 232 55 [Value.ref 205, Value.int v1, Value.int v2] [] (mj_hw w c hi hl) = if ¬ v2 = (3 : Int32) then mj_den mj_P E d 232 67 [Value.ref 205, Value.int v1, Value.int v2] [] (mj_hw w c hi hl) else if 0 ≤ v1 ∧ (v1).toNatClampNeg < 10 then some (some (Value.int (hi 210 ((v1).toNatClampNeg))), (mj_hw w c hi hl)) else none := by
  rw [mj_den_eq, f232_55]
  exact zt_iload_n rfl rfl (zt_iconst rfl (zt_icmp_ne rfl rfl (zt_aload_n rfl rfl (zt_getr (mjkd205 _ _ _ _) (mjhr205_9 w c) rfl (zt_iload_n rfl rfl (zt_iald (mjkd210 _ _ _ _) (mjln210 _ _ _ _) rfl rfl (zt_ireturn0)))))))
set_option maxRecDepth 100000 in
theorem f232_67 : mj_find (mj_P 232).2.2.2.2 67 = [(.iload_n 2, 1, 0, []), (.iconst 4, 1, 4, []), (.if_icmp .ne 13, 3, 0, [82]), (.aload_n 0, 1, 0, []), (.getfield 7, 3, 0, [12, 1, 3, 1411]), (.bipush 25, 2, 25, []), (.iload_n 1, 1, 0, []), (.iadd, 1, 0, []), (.iaload, 1, 0, []), (.ireturn, 1, 0, [0])] := rfl
set_option maxRecDepth 100000 in
theorem q232_67 (E : mj_E) (d w c : Nat) (hi : Nat → Nat → Int32) (hl : Nat → Nat → Int64) (v1 : Int32) (v2 : Int32) : mj_den mj_P E d 232 67 [Value.ref 205, Value.int v1, Value.int v2] [] (mj_hw w c hi hl) = if ¬ v2 = (4 : Int32) then mj_den mj_P E d 232 82 [Value.ref 205, Value.int v1, Value.int v2] [] (mj_hw w c hi hl) else if 0 ≤ ((25 : Int32) + v1) ∧ (((25 : Int32) + v1)).toNatClampNeg < 57 then some (some (Value.int (hi 206 ((((25 : Int32) + v1)).toNatClampNeg))), (mj_hw w c hi hl)) else none := by
  rw [mj_den_eq, f232_67]
  exact zt_iload_n rfl rfl (zt_iconst rfl (zt_icmp_ne rfl rfl (zt_aload_n rfl rfl (zt_getr (mjkd205 _ _ _ _) (mjhr205_1 w c) rfl (zt_bipush rfl (zt_iload_n rfl rfl (zt_iadd rfl (zt_iald (mjkd206 _ _ _ _) (mjln206 _ _ _ _) rfl rfl (zt_ireturn0)))))))))
set_option maxRecDepth 100000 in
theorem f232_82 : mj_find (mj_P 232).2.2.2.2 82 = [(.iload_n 2, 1, 0, []), (.iconst 5, 1, 5, []), (.if_icmp .ne 13, 3, 0, [97]), (.aload_n 0, 1, 0, []), (.getfield 7, 3, 0, [12, 1, 3, 1411]), (.bipush 35, 2, 35, []), (.iload_n 1, 1, 0, []), (.iadd, 1, 0, []), (.iaload, 1, 0, []), (.ireturn, 1, 0, [0])] := rfl
set_option maxRecDepth 100000 in
theorem q232_82 (E : mj_E) (d w c : Nat) (hi : Nat → Nat → Int32) (hl : Nat → Nat → Int64) (v1 : Int32) (v2 : Int32) : mj_den mj_P E d 232 82 [Value.ref 205, Value.int v1, Value.int v2] [] (mj_hw w c hi hl) = if ¬ v2 = (5 : Int32) then mj_den mj_P E d 232 97 [Value.ref 205, Value.int v1, Value.int v2] [] (mj_hw w c hi hl) else if 0 ≤ ((35 : Int32) + v1) ∧ (((35 : Int32) + v1)).toNatClampNeg < 57 then some (some (Value.int (hi 206 ((((35 : Int32) + v1)).toNatClampNeg))), (mj_hw w c hi hl)) else none := by
  rw [mj_den_eq, f232_82]
  exact zt_iload_n rfl rfl (zt_iconst rfl (zt_icmp_ne rfl rfl (zt_aload_n rfl rfl (zt_getr (mjkd205 _ _ _ _) (mjhr205_1 w c) rfl (zt_bipush rfl (zt_iload_n rfl rfl (zt_iadd rfl (zt_iald (mjkd206 _ _ _ _) (mjln206 _ _ _ _) rfl rfl (zt_ireturn0)))))))))
set_option maxRecDepth 100000 in
theorem f232_97 : mj_find (mj_P 232).2.2.2.2 97 = [(.iload_n 2, 1, 0, []), (.bipush 6, 2, 6, []), (.if_icmp .ne 11, 3, 0, [111]), (.aload_n 0, 1, 0, []), (.iload_n 1, 1, 0, []), (.invokevirtual 398, 3, 0, [0, 167, 12, 1, 1, 1922, 1924, 106, 156, 1925])] := rfl
set_option maxRecDepth 100000 in
theorem q232_97 (E : mj_E) (d w c : Nat) (hi : Nat → Nat → Int32) (hl : Nat → Nat → Int64) (v1 : Int32) (v2 : Int32) : mj_den mj_P E d 232 97 [Value.ref 205, Value.int v1, Value.int v2] [] (mj_hw w c hi hl) = if ¬ v2 = (6 : Int32) then mj_den mj_P E d 232 111 [Value.ref 205, Value.int v1, Value.int v2] [] (mj_hw w c hi hl) else mj_bi (mj_dc mj_P E d 167 [Value.ref 205, Value.int v1] (mj_hw w c hi hl)) (fun x1 h1 => mj_den mj_P E d 232 108 [Value.ref 205, Value.int v1, Value.int v2] [Value.int x1] h1) := by
  rw [mj_den_eq, f232_97]
  exact zt_iload_n rfl rfl (zt_bipush rfl (zt_icmp_ne rfl rfl (zt_aload_n rfl rfl (zt_iload_n rfl rfl (zt_call0_1 rfl (mjkd205 _ _ _ _) (Nat.le_of_ble_eq_true rfl) rfl rfl)))))
set_option maxRecDepth 100000 in
theorem f232_108 : mj_find (mj_P 232).2.2.2.2 108 = [(.goto 19, 3, 0, [127])] := rfl
set_option maxRecDepth 100000 in
theorem q232_108 (E : mj_E) (d w c : Nat) (hi : Nat → Nat → Int32) (hl : Nat → Nat → Int64) (v1 : Int32) (v2 : Int32) (s0 : Int32) : mj_den mj_P E d 232 108 [Value.ref 205, Value.int v1, Value.int v2] [Value.int s0] (mj_hw w c hi hl) = mj_den mj_P E d 232 127 [Value.ref 205, Value.int v1, Value.int v2] [Value.int s0] (mj_hw w c hi hl) := by
  rw [mj_den_eq, f232_108]
  exact zt_goto rfl
set_option maxRecDepth 100000 in
theorem f232_111 : mj_find (mj_P 232).2.2.2.2 111 = [(.iload_n 2, 1, 0, []), (.bipush 7, 2, 7, []), (.if_icmp .ne 12, 3, 0, [126]), (.aload_n 0, 1, 0, []), (.getfield 71, 3, 0, [12, 39, 3, 1449]), (.iload_n 1, 1, 0, []), (.iaload, 1, 0, []), (.goto 4, 3, 0, [127])] := rfl
set_option maxRecDepth 100000 in
theorem q232_111 (E : mj_E) (d w c : Nat) (hi : Nat → Nat → Int32) (hl : Nat → Nat → Int64) (v1 : Int32) (v2 : Int32) : mj_den mj_P E d 232 111 [Value.ref 205, Value.int v1, Value.int v2] [] (mj_hw w c hi hl) = if ¬ v2 = (7 : Int32) then mj_den mj_P E d 232 126 [Value.ref 205, Value.int v1, Value.int v2] [] (mj_hw w c hi hl) else if 0 ≤ v1 ∧ (v1).toNatClampNeg < 20 then mj_den mj_P E d 232 127 [Value.ref 205, Value.int v1, Value.int v2] [Value.int (hi 225 ((v1).toNatClampNeg))] (mj_hw w c hi hl) else none := by
  rw [mj_den_eq, f232_111]
  exact zt_iload_n rfl rfl (zt_bipush rfl (zt_icmp_ne rfl rfl (zt_aload_n rfl rfl (zt_getr (mjkd205 _ _ _ _) (mjhr205_39 w c) rfl (zt_iload_n rfl rfl (zt_iald (mjkd225 _ _ _ _) (mjln225 _ _ _ _) rfl rfl (zt_goto rfl)))))))
set_option maxRecDepth 100000 in
theorem f232_126 : mj_find (mj_P 232).2.2.2.2 126 = [(.iconst (-1), 1, (-1), [])] := rfl
set_option maxRecDepth 100000 in
theorem q232_126 (E : mj_E) (d w c : Nat) (hi : Nat → Nat → Int32) (hl : Nat → Nat → Int64) (v1 : Int32) (v2 : Int32) : mj_den mj_P E d 232 126 [Value.ref 205, Value.int v1, Value.int v2] [] (mj_hw w c hi hl) = mj_den mj_P E d 232 127 [Value.ref 205, Value.int v1, Value.int v2] [Value.int (-1 : Int32)] (mj_hw w c hi hl) := by
  rw [mj_den_eq, f232_126]
  exact zt_iconst rfl (zt_end rfl)
set_option maxRecDepth 100000 in
theorem f232_127 : mj_find (mj_P 232).2.2.2.2 127 = [(.ireturn, 1, 0, [0])] := rfl
set_option maxRecDepth 100000 in
theorem q232_127 (E : mj_E) (d w c : Nat) (hi : Nat → Nat → Int32) (hl : Nat → Nat → Int64) (v1 : Int32) (v2 : Int32) (s0 : Int32) : mj_den mj_P E d 232 127 [Value.ref 205, Value.int v1, Value.int v2] [Value.int s0] (mj_hw w c hi hl) = some (some (Value.int s0), (mj_hw w c hi hl)) := by
  rw [mj_den_eq, f232_127]
  exact zt_ireturn0
set_option maxRecDepth 100000 in
theorem f233_0 : mj_find (mj_P 233).2.2.2.2 0 = [(.aload_n 0, 1, 0, []), (.iconst 0, 1, 0, []), (.putfield 122, 3, 0, [12, 0, 0, 1410]), (.aload_n 0, 1, 0, []), (.iload_n 1, 1, 0, []), (.invokevirtual 152, 3, 0, [0, 165, 12, 1, 1, 1644, 1646, 45, 156, 1647])] := rfl
set_option maxRecDepth 100000 in
theorem q233_0 (E : mj_E) (d w c : Nat) (hi : Nat → Nat → Int32) (hl : Nat → Nat → Int64) (v1 : Int32) (v2 : Int32) : mj_den mj_P E d 233 0 [Value.ref 205, Value.int v1, Value.int v2] [] (mj_hw w c hi hl) = mj_bi (mj_dc mj_P E d 165 [Value.ref 205, Value.int v1] (mj_hw w c (mj_u hi 205 0 (0 : Int32)) hl)) (fun x1 h1 => mj_den mj_P E d 233 10 [Value.ref 205, Value.int v1, Value.int v2] [Value.int x1] h1) := by
  rw [mj_den_eq, f233_0]
  exact zt_aload_n rfl rfl (zt_iconst rfl (zt_puti (mjkd205 _ _ _ _) rfl rfl (zt_aload_n rfl rfl (zt_iload_n rfl rfl (zt_call0_1 rfl (mjkd205 _ _ _ _) (Nat.le_of_ble_eq_true rfl) rfl rfl)))))
set_option maxRecDepth 100000 in
theorem f233_10 : mj_find (mj_P 233).2.2.2.2 10 = [(.ifCond .ne 6, 3, 0, [16]), (.bipush (-2), 2, (-2), []), (.ireturn, 1, 0, [0])] := rfl
set_option maxRecDepth 100000 in
theorem q233_10 (E : mj_E) (d w c : Nat) (hi : Nat → Nat → Int32) (hl : Nat → Nat → Int64) (v1 : Int32) (v2 : Int32) (s0 : Int32) : mj_den mj_P E d 233 10 [Value.ref 205, Value.int v1, Value.int v2] [Value.int s0] (mj_hw w c hi hl) = if ¬ s0 = 0 then mj_den mj_P E d 233 16 [Value.ref 205, Value.int v1, Value.int v2] [] (mj_hw w c hi hl) else some (some (Value.int (-2 : Int32)), (mj_hw w c hi hl)) := by
  rw [mj_den_eq, f233_10]
  exact zt_if_ne rfl rfl (zt_bipush rfl (zt_ireturn0))
set_option maxRecDepth 100000 in
theorem f233_16 : mj_find (mj_P 233).2.2.2.2 16 = [(.iload_n 2, 1, 0, []), (.ifCond .ne 12, 3, 0, [29]), (.aload_n 0, 1, 0, []), (.getfield 25, 3, 0, [12, 10, 3, 1420]), (.iload_n 1, 1, 0, []), (.iaload, 1, 0, []), (.goto 32, 3, 0, [58])] := rfl
set_option maxRecDepth 100000 in
theorem q233_16 (E : mj_E) (d w c : Nat) (hi : Nat → Nat → Int32) (hl : Nat → Nat → Int64) (v1 : Int32) (v2 : Int32) : mj_den mj_P E d 233 16 [Value.ref 205, Value.int v1, Value.int v2] [] (mj_hw w c hi hl) = if ¬ v2 = 0 then mj_den mj_P E d 233 29 [Value.ref 205, Value.int v1, Value.int v2] [] (mj_hw w c hi hl) else if 0 ≤ v1 ∧ (v1).toNatClampNeg < 12 then mj_den mj_P E d 233 58 [Value.ref 205, Value.int v1, Value.int v2] [Value.int (hi 211 ((v1).toNatClampNeg))] (mj_hw w c hi hl) else none := by
  rw [mj_den_eq, f233_16]
  exact zt_iload_n rfl rfl (zt_if_ne rfl rfl (zt_aload_n rfl rfl (zt_getr (mjkd205 _ _ _ _) (mjhr205_10 w c) rfl (zt_iload_n rfl rfl (zt_iald (mjkd211 _ _ _ _) (mjln211 _ _ _ _) rfl rfl (zt_goto rfl))))))
set_option maxRecDepth 100000 in
theorem f233_29 : mj_find (mj_P 233).2.2.2.2 29 = [(.iload_n 2, 1, 0, []), (.iconst 1, 1, 1, []), (.if_icmp .ne 12, 3, 0, [43]), (.aload_n 0, 1, 0, []), (.getfield 28, 3, 0, [12, 11, 3, 1421]), (.iload_n 1, 1, 0, []), (.iaload, 1, 0, []), (.goto 18, 3, 0, [58])] := rfl
set_option maxRecDepth 100000 in
theorem q233_29 (E : mj_E) (d w c : Nat) (hi : Nat → Nat → Int32) (hl : Nat → Nat → Int64) (v1 : Int32) (v2 : Int32) : mj_den mj_P E d 233 29 [Value.ref 205, Value.int v1, Value.int v2] [] (mj_hw w c hi hl) = if ¬ v2 = (1 : Int32) then mj_den mj_P E d 233 43 [Value.ref 205, Value.int v1, Value.int v2] [] (mj_hw w c hi hl) else if 0 ≤ v1 ∧ (v1).toNatClampNeg < 12 then mj_den mj_P E d 233 58 [Value.ref 205, Value.int v1, Value.int v2] [Value.int (hi 212 ((v1).toNatClampNeg))] (mj_hw w c hi hl) else none := by
  rw [mj_den_eq, f233_29]
  exact zt_iload_n rfl rfl (zt_iconst rfl (zt_icmp_ne rfl rfl (zt_aload_n rfl rfl (zt_getr (mjkd205 _ _ _ _) (mjhr205_11 w c) rfl (zt_iload_n rfl rfl (zt_iald (mjkd212 _ _ _ _) (mjln212 _ _ _ _) rfl rfl (zt_goto rfl)))))))
set_option maxRecDepth 100000 in
theorem f233_43 : mj_find (mj_P 233).2.2.2.2 43 = [(.iload_n 2, 1, 0, []), (.iconst 2, 1, 2, []), (.if_icmp .ne 11, 3, 0, [56]), (.aload_n 0, 1, 0, []), (.iload_n 1, 1, 0, []), (.invokevirtual 140, 3, 0, [0, 166, 12, 1, 1, 1800, 1802, 79, 156, 1803])] := rfl
set_option maxRecDepth 100000 in
theorem q233_43 (E : mj_E) (d w c : Nat) (hi : Nat → Nat → Int32) (hl : Nat → Nat → Int64) (v1 : Int32) (v2 : Int32) : mj_den mj_P E d 233 43 [Value.ref 205, Value.int v1, Value.int v2] [] (mj_hw w c hi hl) = if ¬ v2 = (2 : Int32) then mj_den mj_P E d 233 56 [Value.ref 205, Value.int v1, Value.int v2] [] (mj_hw w c hi hl) else mj_bi (mj_dc mj_P E d 166 [Value.ref 205, Value.int v1] (mj_hw w c hi hl)) (fun x1 h1 => mj_den mj_P E d 233 53 [Value.ref 205, Value.int v1, Value.int v2] [Value.int x1] h1) := by
  rw [mj_den_eq, f233_43]
  exact zt_iload_n rfl rfl (zt_iconst rfl (zt_icmp_ne rfl rfl (zt_aload_n rfl rfl (zt_iload_n rfl rfl (zt_call0_1 rfl (mjkd205 _ _ _ _) (Nat.le_of_ble_eq_true rfl) rfl rfl)))))
set_option maxRecDepth 100000 in
theorem f233_53 : mj_find (mj_P 233).2.2.2.2 53 = [(.goto 5, 3, 0, [58])] := rfl
set_option maxRecDepth 100000 in
theorem q233_53 (E : mj_E) (d w c : Nat) (hi : Nat → Nat → Int32) (hl : Nat → Nat → Int64) (v1 : Int32) (v2 : Int32) (s0 : Int32) : mj_den mj_P E d 233 53 [Value.ref 205, Value.int v1, Value.int v2] [Value.int s0] (mj_hw w c hi hl) = mj_den mj_P E d 233 58 [Value.ref 205, Value.int v1, Value.int v2] [Value.int s0] (mj_hw w c hi hl) := by
  rw [mj_den_eq, f233_53]
  exact zt_goto rfl
set_option maxRecDepth 100000 in
theorem f233_56 : mj_find (mj_P 233).2.2.2.2 56 = [(.bipush (-2), 2, (-2), [])] := rfl
set_option maxRecDepth 100000 in
theorem q233_56 (E : mj_E) (d w c : Nat) (hi : Nat → Nat → Int32) (hl : Nat → Nat → Int64) (v1 : Int32) (v2 : Int32) : mj_den mj_P E d 233 56 [Value.ref 205, Value.int v1, Value.int v2] [] (mj_hw w c hi hl) = mj_den mj_P E d 233 58 [Value.ref 205, Value.int v1, Value.int v2] [Value.int (-2 : Int32)] (mj_hw w c hi hl) := by
  rw [mj_den_eq, f233_56]
  exact zt_bipush rfl (zt_end rfl)
set_option maxRecDepth 100000 in
theorem f233_58 : mj_find (mj_P 233).2.2.2.2 58 = [(.ireturn, 1, 0, [0])] := rfl
set_option maxRecDepth 100000 in
theorem q233_58 (E : mj_E) (d w c : Nat) (hi : Nat → Nat → Int32) (hl : Nat → Nat → Int64) (v1 : Int32) (v2 : Int32) (s0 : Int32) : mj_den mj_P E d 233 58 [Value.ref 205, Value.int v1, Value.int v2] [Value.int s0] (mj_hw w c hi hl) = some (some (Value.int s0), (mj_hw w c hi hl)) := by
  rw [mj_den_eq, f233_58]
  exact zt_ireturn0
set_option maxRecDepth 100000 in
theorem f234_0 : mj_find (mj_P 234).2.2.2.2 0 = [(.aload_n 0, 1, 0, []), (.iconst 0, 1, 0, []), (.putfield 122, 3, 0, [12, 0, 0, 1410]), (.aload_n 0, 1, 0, []), (.iload_n 1, 1, 0, []), (.invokevirtual 148, 3, 0, [0, 164, 12, 1, 1, 1640, 1642, 44, 156, 1643])] := rfl
set_option maxRecDepth 100000 in
theorem q234_0 (E : mj_E) (d w c : Nat) (hi : Nat → Nat → Int32) (hl : Nat → Nat → Int64) (v1 : Int32) (v2 : Int32) (v3 : Int32) : mj_den mj_P E d 234 0 [Value.ref 205, Value.int v1, Value.int v2, Value.int v3] [] (mj_hw w c hi hl) = mj_bi (mj_dc mj_P E d 164 [Value.ref 205, Value.int v1] (mj_hw w c (mj_u hi 205 0 (0 : Int32)) hl)) (fun x1 h1 => mj_den mj_P E d 234 10 [Value.ref 205, Value.int v1, Value.int v2, Value.int v3] [Value.int x1] h1) := by
  rw [mj_den_eq, f234_0]
  exact zt_aload_n rfl rfl (zt_iconst rfl (zt_puti (mjkd205 _ _ _ _) rfl rfl (zt_aload_n rfl rfl (zt_iload_n rfl rfl (zt_call0_1 rfl (mjkd205 _ _ _ _) (Nat.le_of_ble_eq_true rfl) rfl rfl)))))
set_option maxRecDepth 100000 in
theorem f234_10 : mj_find (mj_P 234).2.2.2.2 10 = [(.ifCond .eq 22, 3, 0, [32]), (.aload_n 0, 1, 0, []), (.iload_n 2, 1, 0, []), (.invokevirtual 152, 3, 0, [0, 165, 12, 1, 1, 1644, 1646, 45, 156, 1647])] := rfl
set_option maxRecDepth 100000 in
theorem q234_10 (E : mj_E) (d w c : Nat) (hi : Nat → Nat → Int32) (hl : Nat → Nat → Int64) (v1 : Int32) (v2 : Int32) (v3 : Int32) (s0 : Int32) : mj_den mj_P E d 234 10 [Value.ref 205, Value.int v1, Value.int v2, Value.int v3] [Value.int s0] (mj_hw w c hi hl) = if s0 = 0 then mj_den mj_P E d 234 32 [Value.ref 205, Value.int v1, Value.int v2, Value.int v3] [] (mj_hw w c hi hl) else mj_bi (mj_dc mj_P E d 165 [Value.ref 205, Value.int v2] (mj_hw w c hi hl)) (fun x1 h1 => mj_den mj_P E d 234 18 [Value.ref 205, Value.int v1, Value.int v2, Value.int v3] [Value.int x1] h1) := by
  rw [mj_den_eq, f234_10]
  exact zt_if_eq rfl rfl (zt_aload_n rfl rfl (zt_iload_n rfl rfl (zt_call0_1 rfl (mjkd205 _ _ _ _) (Nat.le_of_ble_eq_true rfl) rfl rfl)))
set_option maxRecDepth 100000 in
theorem f234_18 : mj_find (mj_P 234).2.2.2.2 18 = [(.ifCond .eq 14, 3, 0, [32]), (.aload_n 0, 1, 0, []), (.iload_n 3, 1, 0, []), (.iconst 0, 1, 0, []), (.bipush 7, 2, 7, []), (.invokevirtual 144, 3, 0, [0, 152, 12, 3, 1, 1624, 1626, 42, 156, 1627])] := rfl
set_option maxRecDepth 100000 in
theorem q234_18 (E : mj_E) (d w c : Nat) (hi : Nat → Nat → Int32) (hl : Nat → Nat → Int64) (v1 : Int32) (v2 : Int32) (v3 : Int32) (s0 : Int32) : mj_den mj_P E d 234 18 [Value.ref 205, Value.int v1, Value.int v2, Value.int v3] [Value.int s0] (mj_hw w c hi hl) = if s0 = 0 then mj_den mj_P E d 234 32 [Value.ref 205, Value.int v1, Value.int v2, Value.int v3] [] (mj_hw w c hi hl) else mj_bi (mj_dc mj_P E d 152 [Value.ref 205, Value.int v3, Value.int (0 : Int32), Value.int (7 : Int32)] (mj_hw w c hi hl)) (fun x1 h1 => mj_den mj_P E d 234 29 [Value.ref 205, Value.int v1, Value.int v2, Value.int v3] [Value.int x1] h1) := by
  rw [mj_den_eq, f234_18]
  exact zt_if_eq rfl rfl (zt_aload_n rfl rfl (zt_iload_n rfl rfl (zt_iconst rfl (zt_bipush rfl (zt_call0_1 rfl (mjkd205 _ _ _ _) (Nat.le_of_ble_eq_true rfl) rfl rfl)))))
set_option maxRecDepth 100000 in
theorem f234_29 : mj_find (mj_P 234).2.2.2.2 29 = [(.ifCond .ne 5, 3, 0, [34])] := rfl
set_option maxRecDepth 100000 in
theorem q234_29 (E : mj_E) (d w c : Nat) (hi : Nat → Nat → Int32) (hl : Nat → Nat → Int64) (v1 : Int32) (v2 : Int32) (v3 : Int32) (s0 : Int32) : mj_den mj_P E d 234 29 [Value.ref 205, Value.int v1, Value.int v2, Value.int v3] [Value.int s0] (mj_hw w c hi hl) = if ¬ s0 = 0 then mj_den mj_P E d 234 34 [Value.ref 205, Value.int v1, Value.int v2, Value.int v3] [] (mj_hw w c hi hl) else mj_den mj_P E d 234 32 [Value.ref 205, Value.int v1, Value.int v2, Value.int v3] [] (mj_hw w c hi hl) := by
  rw [mj_den_eq, f234_29]
  exact zt_if_ne rfl rfl (zt_end rfl)
set_option maxRecDepth 100000 in
theorem f234_32 : mj_find (mj_P 234).2.2.2.2 32 = [(.iconst (-1), 1, (-1), []), (.ireturn, 1, 0, [0])] := rfl
set_option maxRecDepth 100000 in
theorem q234_32 (E : mj_E) (d w c : Nat) (hi : Nat → Nat → Int32) (hl : Nat → Nat → Int64) (v1 : Int32) (v2 : Int32) (v3 : Int32) : mj_den mj_P E d 234 32 [Value.ref 205, Value.int v1, Value.int v2, Value.int v3] [] (mj_hw w c hi hl) = some (some (Value.int (-1 : Int32)), (mj_hw w c hi hl)) := by
  rw [mj_den_eq, f234_32]
  exact zt_iconst rfl (zt_ireturn0)
set_option maxRecDepth 100000 in
theorem f234_34 : mj_find (mj_P 234).2.2.2.2 34 = [(.aload_n 0, 1, 0, []), (.iload_n 1, 1, 0, []), (.iload_n 2, 1, 0, []), (.iload_n 3, 1, 0, []), (.iconst 0, 1, 0, []), (.aload_n 0, 1, 0, []), (.aload_n 0, 1, 0, []), (.invokevirtual 365, 3, 0, [0, 169, 12, 0, 1, 1812, 1814, 82, 156, 1815])] := rfl
set_option maxRecDepth 100000 in
theorem q234_34 (E : mj_E) (d w c : Nat) (hi : Nat → Nat → Int32) (hl : Nat → Nat → Int64) (v1 : Int32) (v2 : Int32) (v3 : Int32) : mj_den mj_P E d 234 34 [Value.ref 205, Value.int v1, Value.int v2, Value.int v3] [] (mj_hw w c hi hl) = mj_bi (mj_dc mj_P E d 169 [Value.ref 205] (mj_hw w c hi hl)) (fun x1 h1 => mj_den mj_P E d 234 44 [Value.ref 205, Value.int v1, Value.int v2, Value.int v3] [Value.int x1, Value.ref 205, Value.int (0 : Int32), Value.int v3, Value.int v2, Value.int v1, Value.ref 205] h1) := by
  rw [mj_den_eq, f234_34]
  exact zt_aload_n rfl rfl (zt_iload_n rfl rfl (zt_iload_n rfl rfl (zt_iload_n rfl rfl (zt_iconst rfl (zt_aload_n rfl rfl (zt_aload_n rfl rfl (zt_call0_1 rfl (mjkd205 _ _ _ _) (Nat.le_of_ble_eq_true rfl) rfl rfl)))))))
set_option maxRecDepth 100000 in
theorem f234_44 : mj_find (mj_P 234).2.2.2.2 44 = [(.invokevirtual 336, 3, 0, [0, 156, 12, 1, 1, 1820, 1822, 84, 156, 1823])] := rfl
set_option maxRecDepth 100000 in
theorem q234_44 (E : mj_E) (d w c : Nat) (hi : Nat → Nat → Int32) (hl : Nat → Nat → Int64) (v1 : Int32) (v2 : Int32) (v3 : Int32) (s0 : Int32) (s2 : Int32) (s3 : Int32) (s4 : Int32) (s5 : Int32) : mj_den mj_P E d 234 44 [Value.ref 205, Value.int v1, Value.int v2, Value.int v3] [Value.int s0, Value.ref 205, Value.int s2, Value.int s3, Value.int s4, Value.int s5, Value.ref 205] (mj_hw w c hi hl) = mj_bi (mj_dc mj_P E d 156 [Value.ref 205, Value.int s0] (mj_hw w c hi hl)) (fun x1 h1 => mj_den mj_P E d 234 47 [Value.ref 205, Value.int v1, Value.int v2, Value.int v3] [Value.int x1, Value.int s2, Value.int s3, Value.int s4, Value.int s5, Value.ref 205] h1) := by
  rw [mj_den_eq, f234_44]
  exact zt_call0_1 rfl (mjkd205 _ _ _ _) (Nat.le_of_ble_eq_true rfl) rfl rfl
set_option maxRecDepth 100000 in
theorem f234_47 : mj_find (mj_P 234).2.2.2.2 47 = [(.invokevirtual 339, 3, 0, [0, 216, 12, 5, 1, 1836, 1838, 88, 156, 1839])] := rfl
set_option maxRecDepth 100000 in
theorem q234_47 (E : mj_E) (d w c : Nat) (hi : Nat → Nat → Int32) (hl : Nat → Nat → Int64) (v1 : Int32) (v2 : Int32) (v3 : Int32) (s0 : Int32) (s1 : Int32) (s2 : Int32) (s3 : Int32) (s4 : Int32) : mj_den mj_P E d 234 47 [Value.ref 205, Value.int v1, Value.int v2, Value.int v3] [Value.int s0, Value.int s1, Value.int s2, Value.int s3, Value.int s4, Value.ref 205] (mj_hw w c hi hl) = mj_bi (mj_dc mj_P E d 216 [Value.ref 205, Value.int s4, Value.int s3, Value.int s2, Value.int s1, Value.int s0] (mj_hw w c hi hl)) (fun x1 h1 => mj_den mj_P E d 234 50 [Value.ref 205, Value.int v1, Value.int v2, Value.int v3] [Value.int x1] h1) := by
  rw [mj_den_eq, f234_47]
  exact zt_call0_1 rfl (mjkd205 _ _ _ _) (Nat.le_of_ble_eq_true rfl) rfl rfl
set_option maxRecDepth 100000 in
theorem f234_50 : mj_find (mj_P 234).2.2.2.2 50 = [(.ireturn, 1, 0, [0])] := rfl
set_option maxRecDepth 100000 in
theorem q234_50 (E : mj_E) (d w c : Nat) (hi : Nat → Nat → Int32) (hl : Nat → Nat → Int64) (v1 : Int32) (v2 : Int32) (v3 : Int32) (s0 : Int32) : mj_den mj_P E d 234 50 [Value.ref 205, Value.int v1, Value.int v2, Value.int v3] [Value.int s0] (mj_hw w c hi hl) = some (some (Value.int s0), (mj_hw w c hi hl)) := by
  rw [mj_den_eq, f234_50]
  exact zt_ireturn0
