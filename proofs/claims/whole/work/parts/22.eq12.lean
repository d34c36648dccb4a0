set_option maxRecDepth 100000 in
theorem f197_0 : mj_find (mj_P 197).2.2.2.2 0 = [(.iconst 0, 1, 0, []), (.istore_n 2, 1, 0, [])] := rfl
set_option maxRecDepth 100000 in
theorem q197_0 (E : mj_E) (d w c : Nat) (hi : Nat → Nat → Int32) (hl : Nat → Nat → Int64) (v1 : Int32) : mj_den mj_P E d 197 0 [Value.ref 205, Value.int v1, Value.float 0] [] (mj_hw w c hi hl) = mj_den mj_P E d 197 2 [Value.ref 205, Value.int v1, Value.int (0 : Int32)] [] (mj_hw w c hi hl) := by
  rw [mj_den_eq, f197_0]
  exact zt_iconst rfl (zt_istore_n (Nat.le_of_ble_eq_true rfl) rfl rfl (zt_end rfl))
set_option maxRecDepth 100000 in
theorem f197_2 : mj_find (mj_P 197).2.2.2.2 2 = [(.iload_n 2, 1, 0, []), (.iload_n 1, 1, 0, []), (.if_icmp .ge 101, 3, 0, [105]), (.aload_n 0, 1, 0, []), (.getfield 43, 3, 0, [12, 21, 3, 1431]), (.bipush 16, 2, 16, []), (.aload_n 0, 1, 0, []), (.getfield 253, 3, 0, [12, 27, 0, 1437]), (.imul, 1, 0, []), (.iload_n 2, 1, 0, []), (.iadd, 1, 0, []), (.aload_n 0, 1, 0, []), (.getfield 43, 3, 0, [12, 21, 3, 1431]), (.bipush 32, 2, 32, []), (.iload_n 2, 1, 0, []), (.iadd, 1, 0, []), (.iaload, 1, 0, []), (.iastore, 1, 0, []), (.aload_n 0, 1, 0, []), (.getfield 46, 3, 0, [12, 22, 3, 1432]), (.bipush 16, 2, 16, []), (.aload_n 0, 1, 0, []), (.getfield 253, 3, 0, [12, 27, 0, 1437]), (.imul, 1, 0, []), (.iload_n 2, 1, 0, []), (.iadd, 1, 0, []), (.aload_n 0, 1, 0, []), (.getfield 46, 3, 0, [12, 22, 3, 1432]), (.bipush 32, 2, 32, []), (.iload_n 2, 1, 0, []), (.iadd, 1, 0, []), (.iaload, 1, 0, []), (.iastore, 1, 0, []), (.aload_n 0, 1, 0, []), (.getfield 49, 3, 0, [12, 23, 3, 1433]), (.bipush 16, 2, 16, []), (.aload_n 0, 1, 0, []), (.getfield 253, 3, 0, [12, 27, 0, 1437]), (.imul, 1, 0, []), (.iload_n 2, 1, 0, []), (.iadd, 1, 0, []), (.aload_n 0, 1, 0, []), (.getfield 49, 3, 0, [12, 23, 3, 1433]), (.bipush 32, 2, 32, []), (.iload_n 2, 1, 0, []), (.iadd, 1, 0, []), (.iaload, 1, 0, []), (.iastore, 1, 0, []), (.aload_n 0, 1, 0, []), (.getfield 52, 3, 0, [12, 24, 3, 1434]), (.bipush 16, 2, 16, []), (.aload_n 0, 1, 0, []), (.getfield 253, 3, 0, [12, 27, 0, 1437]), (.imul, 1, 0, []), (.iload_n 2, 1, 0, []), (.iadd, 1, 0, []), (.aload_n 0, 1, 0, []), (.getfield 52, 3, 0, [12, 24, 3, 1434]), (.bipush 32, 2, 32, []), (.iload_n 2, 1, 0, []), (.iadd, 1, 0, []), (.iaload, 1, 0, []), (.iastore, 1, 0, []), (.iinc 2 1, 3, 1, []), (.goto (-100), 3, 0, [2])] := rfl
set_option maxRecDepth 100000 in
theorem q197_2 (E : mj_E) (d w c : Nat) (hi : Nat → Nat → Int32) (hl : Nat → Nat → Int64) (v1 : Int32) (v2 : Int32) : mj_den mj_P E d 197 2 [Value.ref 205, Value.int v1, Value.int v2] [] (mj_hw w c hi hl) = if v1 ≤ v2 then mj_den mj_P E d 197 105 [Value.ref 205, Value.int v1, Value.int v2] [] (mj_hw w c hi hl) else if 0 ≤ ((32 : Int32) + v2) ∧ (((32 : Int32) + v2)).toNatClampNeg < 48 then if 0 ≤ (((16 : Int32) * (hi 205 27)) + v2) ∧ ((((16 : Int32) * (hi 205 27)) + v2)).toNatClampNeg < 48 then if 0 ≤ ((32 : Int32) + v2) ∧ (((32 : Int32) + v2)).toNatClampNeg < 48 then if 0 ≤ (((16 : Int32) * (hi 205 27)) + v2) ∧ ((((16 : Int32) * (hi 205 27)) + v2)).toNatClampNeg < 48 then if 0 ≤ ((32 : Int32) + v2) ∧ (((32 : Int32) + v2)).toNatClampNeg < 48 then if 0 ≤ (((16 : Int32) * (hi 205 27)) + v2) ∧ ((((16 : Int32) * (hi 205 27)) + v2)).toNatClampNeg < 48 then if 0 ≤ ((32 : Int32) + v2) ∧ (((32 : Int32) + v2)).toNatClampNeg < 48 then if 0 ≤ (((16 : Int32) * (hi 205 27)) + v2) ∧ ((((16 : Int32) * (hi 205 27)) + v2)).toNatClampNeg < 48 then mj_den mj_P E d 197 2 [Value.ref 205, Value.int v1, Value.int (v2 + (1 : Int32))] [] (mj_hw w c (mj_u (mj_u (mj_u (mj_u hi 217 (((((16 : Int32) * (hi 205 27)) + v2)).toNatClampNeg) (hi 217 ((((32 : Int32) + v2)).toNatClampNeg))) 218 (((((16 : Int32) * (hi 205 27)) + v2)).toNatClampNeg) (hi 218 ((((32 : Int32) + v2)).toNatClampNeg))) 219 (((((16 : Int32) * (hi 205 27)) + v2)).toNatClampNeg) (hi 219 ((((32 : Int32) + v2)).toNatClampNeg))) 220 (((((16 : Int32) * (hi 205 27)) + v2)).toNatClampNeg) (hi 220 ((((32 : Int32) + v2)).toNatClampNeg))) hl) else none else none else none else none else none else none else none else none := by
  rw [mj_den_eq, f197_2]
  exact zt_iload_n rfl rfl (zt_iload_n rfl rfl (zt_icmp_ge rfl rfl (zt_aload_n rfl rfl (zt_getr (mjkd205 _ _ _ _) (mjhr205_21 w c) rfl (zt_bipush rfl (zt_aload_n rfl rfl (zt_geti (mjkd205 _ _ _ _) rfl rfl (zt_imul rfl (zt_iload_n rfl rfl (zt_iadd rfl (zt_aload_n rfl rfl (zt_getr (mjkd205 _ _ _ _) (mjhr205_21 w c) rfl (zt_bipush rfl (zt_iload_n rfl rfl (zt_iadd rfl (zt_iald (mjkd217 _ _ _ _) (mjln217 _ _ _ _) rfl rfl (zt_iast (mjkd217 _ _ _ _) (mjln217 _ _ _ _) rfl rfl (zt_aload_n rfl rfl (zt_getr (mjkd205 _ _ _ _) (mjhr205_22 w c) rfl (zt_bipush rfl (zt_aload_n rfl rfl (zt_geti (mjkd205 _ _ _ _) rfl rfl (zt_imul rfl (zt_iload_n rfl rfl (zt_iadd rfl (zt_aload_n rfl rfl (zt_getr (mjkd205 _ _ _ _) (mjhr205_22 w c) rfl (zt_bipush rfl (zt_iload_n rfl rfl (zt_iadd rfl (zt_iald (mjkd218 _ _ _ _) (mjln218 _ _ _ _) rfl rfl (zt_iast (mjkd218 _ _ _ _) (mjln218 _ _ _ _) rfl rfl (zt_aload_n rfl rfl (zt_getr (mjkd205 _ _ _ _) (mjhr205_23 w c) rfl (zt_bipush rfl (zt_aload_n rfl rfl (zt_geti (mjkd205 _ _ _ _) rfl rfl (zt_imul rfl (zt_iload_n rfl rfl (zt_iadd rfl (zt_aload_n rfl rfl (zt_getr (mjkd205 _ _ _ _) (mjhr205_23 w c) rfl (zt_bipush rfl (zt_iload_n rfl rfl (zt_iadd rfl (zt_iald (mjkd219 _ _ _ _) (mjln219 _ _ _ _) rfl rfl (zt_iast (mjkd219 _ _ _ _) (mjln219 _ _ _ _) rfl rfl (zt_aload_n rfl rfl (zt_getr (mjkd205 _ _ _ _) (mjhr205_24 w c) rfl (zt_bipush rfl (zt_aload_n rfl rfl (zt_geti (mjkd205 _ _ _ _) rfl rfl (zt_imul rfl (zt_iload_n rfl rfl (zt_iadd rfl (zt_aload_n rfl rfl (zt_getr (mjkd205 _ _ _ _) (mjhr205_24 w c) rfl (zt_bipush rfl (zt_iload_n rfl rfl (zt_iadd rfl (zt_iald (mjkd220 _ _ _ _) (mjln220 _ _ _ _) rfl rfl (zt_iast (mjkd220 _ _ _ _) (mjln220 _ _ _ _) rfl rfl (zt_iinc rfl (Nat.le_of_ble_eq_true rfl) rfl rfl (zt_goto rfl))))))))))))))))))))))))))))))))))))))))))))))))))))))))))))))))
set_option maxRecDepth 100000 in
theorem f197_105 : mj_find (mj_P 197).2.2.2.2 105 = [(.iconst 0, 1, 0, []), (.istore_n 2, 1, 0, [])] := rfl
set_option maxRecDepth 100000 in
theorem q197_105 (E : mj_E) (d w c : Nat) (hi : Nat → Nat → Int32) (hl : Nat → Nat → Int64) (v1 : Int32) (v2 : Int32) : mj_den mj_P E d 197 105 [Value.ref 205, Value.int v1, Value.int v2] [] (mj_hw w c hi hl) = mj_den mj_P E d 197 107 [Value.ref 205, Value.int v1, Value.int (0 : Int32)] [] (mj_hw w c hi hl) := by
  rw [mj_den_eq, f197_105]
  exact zt_iconst rfl (zt_istore_n (Nat.le_of_ble_eq_true rfl) rfl rfl (zt_end rfl))
set_option maxRecDepth 100000 in
theorem f197_107 : mj_find (mj_P 197).2.2.2.2 107 = [(.iload_n 2, 1, 0, []), (.aload_n 0, 1, 0, []), (.getfield 199, 3, 0, [12, 28, 0, 1438]), (.if_icmp .ge 59, 3, 0, [171]), (.aload_n 0, 1, 0, []), (.getfield 55, 3, 0, [12, 25, 3, 1435]), (.sipush 400, 3, 400, []), (.aload_n 0, 1, 0, []), (.getfield 253, 3, 0, [12, 27, 0, 1437]), (.imul, 1, 0, []), (.iload_n 2, 1, 0, []), (.iadd, 1, 0, []), (.aload_n 0, 1, 0, []), (.getfield 55, 3, 0, [12, 25, 3, 1435]), (.sipush 800, 3, 800, []), (.iload_n 2, 1, 0, []), (.iadd, 1, 0, []), (.iaload, 1, 0, []), (.iastore, 1, 0, []), (.aload_n 0, 1, 0, []), (.getfield 58, 3, 0, [12, 26, 3, 1436]), (.sipush 400, 3, 400, []), (.aload_n 0, 1, 0, []), (.getfield 253, 3, 0, [12, 27, 0, 1437]), (.imul, 1, 0, []), (.iload_n 2, 1, 0, []), (.iadd, 1, 0, []), (.aload_n 0, 1, 0, []), (.getfield 58, 3, 0, [12, 26, 3, 1436]), (.sipush 800, 3, 800, []), (.iload_n 2, 1, 0, []), (.iadd, 1, 0, []), (.iaload, 1, 0, []), (.iastore, 1, 0, []), (.iinc 2 1, 3, 1, []), (.goto (-61), 3, 0, [107])] := rfl
set_option maxRecDepth 100000 in
theorem q197_107 (E : mj_E) (d w c : Nat) (hi : Nat → Nat → Int32) (hl : Nat → Nat → Int64) (v1 : Int32) (v2 : Int32) : mj_den mj_P E d 197 107 [Value.ref 205, Value.int v1, Value.int v2] [] (mj_hw w c hi hl) = if (hi 205 28) ≤ v2 then mj_den mj_P E d 197 171 [Value.ref 205, Value.int v1, Value.int v2] [] (mj_hw w c hi hl) else if 0 ≤ ((800 : Int32) + v2) ∧ (((800 : Int32) + v2)).toNatClampNeg < 1200 then if 0 ≤ (((400 : Int32) * (hi 205 27)) + v2) ∧ ((((400 : Int32) * (hi 205 27)) + v2)).toNatClampNeg < 1200 then if 0 ≤ ((800 : Int32) + v2) ∧ (((800 : Int32) + v2)).toNatClampNeg < 1200 then if 0 ≤ (((400 : Int32) * (hi 205 27)) + v2) ∧ ((((400 : Int32) * (hi 205 27)) + v2)).toNatClampNeg < 1200 then mj_den mj_P E d 197 107 [Value.ref 205, Value.int v1, Value.int (v2 + (1 : Int32))] [] (mj_hw w c (mj_u (mj_u hi 221 (((((400 : Int32) * (hi 205 27)) + v2)).toNatClampNeg) (hi 221 ((((800 : Int32) + v2)).toNatClampNeg))) 222 (((((400 : Int32) * (hi 205 27)) + v2)).toNatClampNeg) (hi 222 ((((800 : Int32) + v2)).toNatClampNeg))) hl) else none else none else none else none := by
  rw [mj_den_eq, f197_107]
  exact zt_iload_n rfl rfl (zt_aload_n rfl rfl (zt_geti (mjkd205 _ _ _ _) rfl rfl (zt_icmp_ge rfl rfl (zt_aload_n rfl rfl (zt_getr (mjkd205 _ _ _ _) (mjhr205_25 w c) rfl (zt_sipush rfl (zt_aload_n rfl rfl (zt_geti (mjkd205 _ _ _ _) rfl rfl (zt_imul rfl (zt_iload_n rfl rfl (zt_iadd rfl (zt_aload_n rfl rfl (zt_getr (mjkd205 _ _ _ _) (mjhr205_25 w c) rfl (zt_sipush rfl (zt_iload_n rfl rfl (zt_iadd rfl (zt_iald (mjkd221 _ _ _ _) (mjln221 _ _ _ _) rfl rfl (zt_iast (mjkd221 _ _ _ _) (mjln221 _ _ _ _) rfl rfl (zt_aload_n rfl rfl (zt_getr (mjkd205 _ _ _ _) (mjhr205_26 w c) rfl (zt_sipush rfl (zt_aload_n rfl rfl (zt_geti (mjkd205 _ _ _ _) rfl rfl (zt_imul rfl (zt_iload_n rfl rfl (zt_iadd rfl (zt_aload_n rfl rfl (zt_getr (mjkd205 _ _ _ _) (mjhr205_26 w c) rfl (zt_sipush rfl (zt_iload_n rfl rfl (zt_iadd rfl (zt_iald (mjkd222 _ _ _ _) (mjln222 _ _ _ _) rfl rfl (zt_iast (mjkd222 _ _ _ _) (mjln222 _ _ _ _) rfl rfl (zt_iinc rfl (Nat.le_of_ble_eq_true rfl) rfl rfl (zt_goto rfl)))))))))))))))))))))))))))))))))))
set_option maxRecDepth 100000 in
theorem f197_171 : mj_find (mj_P 197).2.2.2.2 171 = [(.aload_n 0, 1, 0, []), (.getfield 40, 3, 0, [12, 20, 3, 1430]), (.aload_n 0, 1, 0, []), (.getfield 253, 3, 0, [12, 27, 0, 1437]), (.iload_n 1, 1, 0, []), (.iastore, 1, 0, []), (.return_, 1, 0, [])] := rfl
set_option maxRecDepth 100000 in
theorem q197_171 (E : mj_E) (d w c : Nat) (hi : Nat → Nat → Int32) (hl : Nat → Nat → Int64) (v1 : Int32) (v2 : Int32) : mj_den mj_P E d 197 171 [Value.ref 205, Value.int v1, Value.int v2] [] (mj_hw w c hi hl) = if 0 ≤ (hi 205 27) ∧ ((hi 205 27)).toNatClampNeg < 2 then some (none, (mj_hw w c (mj_u hi 216 (((hi 205 27)).toNatClampNeg) v1) hl)) else none := by
  rw [mj_den_eq, f197_171]
  exact zt_aload_n rfl rfl (zt_getr (mjkd205 _ _ _ _) (mjhr205_20 w c) rfl (zt_aload_n rfl rfl (zt_geti (mjkd205 _ _ _ _) rfl rfl (zt_iload_n rfl rfl (zt_iast (mjkd216 _ _ _ _) (mjln216 _ _ _ _) rfl rfl (zt_return))))))
set_option maxRecDepth 100000 in
theorem f198_0 : mj_find (mj_P 198).2.2.2.2 0 = [(.aload_n 0, 1, 0, []), (.getfield 174, 3, 0, [12, 17, 0, 1427]), (.iconst 3, 1, 3, []), (.if_icmp .eq 9, 3, 0, [14]), (.aload_n 0, 1, 0, []), (.iconst 1, 1, 1, []), (.invokevirtual 205, 3, 0, [0, 183, 12, 1, 1, 1700, 1702, 56, 156, 1703])] := rfl
set_option maxRecDepth 100000 in
theorem q198_0 (E : mj_E) (d w c : Nat) (hi : Nat → Nat → Int32) (hl : Nat → Nat → Int64) (v1 : Int32) (v2 : Int32) : mj_den mj_P E d 198 0 [Value.ref 205, Value.int v1, Value.int v2, Value.float 0] [] (mj_hw w c hi hl) = if (hi 205 17) = (3 : Int32) then mj_den mj_P E d 198 14 [Value.ref 205, Value.int v1, Value.int v2, Value.float 0] [] (mj_hw w c hi hl) else mj_bi (mj_dc mj_P E d 183 [Value.ref 205, Value.int (1 : Int32)] (mj_hw w c hi hl)) (fun x1 h1 => mj_den mj_P E d 198 13 [Value.ref 205, Value.int v1, Value.int v2, Value.float 0] [Value.int x1] h1) := by
  rw [mj_den_eq, f198_0]
  exact zt_aload_n rfl rfl (zt_geti (mjkd205 _ _ _ _) rfl rfl (zt_iconst rfl (zt_icmp_eq rfl rfl (zt_aload_n rfl rfl (zt_iconst rfl (zt_call0_1 rfl (mjkd205 _ _ _ _) (Nat.le_of_ble_eq_true rfl) rfl rfl))))))
set_option maxRecDepth 100000 in
theorem f198_13 : mj_find (mj_P 198).2.2.2.2 13 = [(.ireturn, 1, 0, [0])] := rfl
set_option maxRecDepth 100000 in
theorem q198_13 (E : mj_E) (d w c : Nat) (hi : Nat → Nat → Int32) (hl : Nat → Nat → Int64) (v1 : Int32) (v2 : Int32) (s0 : Int32) : mj_den mj_P E d 198 13 [Value.ref 205, Value.int v1, Value.int v2, Value.float 0] [Value.int s0] (mj_hw w c hi hl) = some (some (Value.int s0), (mj_hw w c hi hl)) := by
  rw [mj_den_eq, f198_13]
  exact zt_ireturn0
set_option maxRecDepth 100000 in
theorem f198_14 : mj_find (mj_P 198).2.2.2.2 14 = [(.aload_n 0, 1, 0, []), (.aload_n 0, 1, 0, []), (.getfield 177, 3, 0, [12, 18, 0, 1428]), (.iload_n 1, 1, 0, []), (.iload_n 2, 1, 0, []), (.invokevirtual 144, 3, 0, [0, 152, 12, 3, 1, 1624, 1626, 42, 156, 1627])] := rfl
set_option maxRecDepth 100000 in
theorem q198_14 (E : mj_E) (d w c : Nat) (hi : Nat → Nat → Int32) (hl : Nat → Nat → Int64) (v1 : Int32) (v2 : Int32) : mj_den mj_P E d 198 14 [Value.ref 205, Value.int v1, Value.int v2, Value.float 0] [] (mj_hw w c hi hl) = mj_bi (mj_dc mj_P E d 152 [Value.ref 205, Value.int (hi 205 18), Value.int v1, Value.int v2] (mj_hw w c hi hl)) (fun x1 h1 => mj_den mj_P E d 198 24 [Value.ref 205, Value.int v1, Value.int v2, Value.float 0] [Value.int x1] h1) := by
  rw [mj_den_eq, f198_14]
  exact zt_aload_n rfl rfl (zt_aload_n rfl rfl (zt_geti (mjkd205 _ _ _ _) rfl rfl (zt_iload_n rfl rfl (zt_iload_n rfl rfl (zt_call0_1 rfl (mjkd205 _ _ _ _) (Nat.le_of_ble_eq_true rfl) rfl rfl)))))
set_option maxRecDepth 100000 in
theorem f198_24 : mj_find (mj_P 198).2.2.2.2 24 = [(.ifCond .ne 9, 3, 0, [33]), (.aload_n 0, 1, 0, []), (.iconst 2, 1, 2, []), (.invokevirtual 205, 3, 0, [0, 183, 12, 1, 1, 1700, 1702, 56, 156, 1703])] := rfl
set_option maxRecDepth 100000 in
theorem q198_24 (E : mj_E) (d w c : Nat) (hi : Nat → Nat → Int32) (hl : Nat → Nat → Int64) (v1 : Int32) (v2 : Int32) (s0 : Int32) : mj_den mj_P E d 198 24 [Value.ref 205, Value.int v1, Value.int v2, Value.float 0] [Value.int s0] (mj_hw w c hi hl) = if ¬ s0 = 0 then mj_den mj_P E d 198 33 [Value.ref 205, Value.int v1, Value.int v2, Value.float 0] [] (mj_hw w c hi hl) else mj_bi (mj_dc mj_P E d 183 [Value.ref 205, Value.int (2 : Int32)] (mj_hw w c hi hl)) (fun x1 h1 => mj_den mj_P E d 198 32 [Value.ref 205, Value.int v1, Value.int v2, Value.float 0] [Value.int x1] h1) := by
  rw [mj_den_eq, f198_24]
  exact zt_if_ne rfl rfl (zt_aload_n rfl rfl (zt_iconst rfl (zt_call0_1 rfl (mjkd205 _ _ _ _) (Nat.le_of_ble_eq_true rfl) rfl rfl)))
set_option maxRecDepth 100000 in
theorem f198_32 : mj_find (mj_P 198).2.2.2.2 32 = [(.ireturn, 1, 0, [0])] := rfl
set_option maxRecDepth 100000 in
theorem q198_32 (E : mj_E) (d w c : Nat) (hi : Nat → Nat → Int32) (hl : Nat → Nat → Int64) (v1 : Int32) (v2 : Int32) (s0 : Int32) : mj_den mj_P E d 198 32 [Value.ref 205, Value.int v1, Value.int v2, Value.float 0] [Value.int s0] (mj_hw w c hi hl) = some (some (Value.int s0), (mj_hw w c hi hl)) := by
  rw [mj_den_eq, f198_32]
  exact zt_ireturn0
set_option maxRecDepth 100000 in
theorem f198_33 : mj_find (mj_P 198).2.2.2.2 33 = [(.aload_n 0, 1, 0, []), (.getfield 177, 3, 0, [12, 18, 0, 1428]), (.istore_n 3, 1, 0, []), (.aload_n 0, 1, 0, []), (.invokevirtual 212, 3, 0, [0, 182, 12, 0, 0, 1668, 1670, 48, 156, 1671])] := rfl
set_option maxRecDepth 100000 in
theorem q198_33 (E : mj_E) (d w c : Nat) (hi : Nat → Nat → Int32) (hl : Nat → Nat → Int64) (v1 : Int32) (v2 : Int32) : mj_den mj_P E d 198 33 [Value.ref 205, Value.int v1, Value.int v2, Value.float 0] [] (mj_hw w c hi hl) = mj_bv (mj_dc mj_P E d 182 [Value.ref 205] (mj_hw w c hi hl)) (fun h1 => mj_den mj_P E d 198 42 [Value.ref 205, Value.int v1, Value.int v2, Value.int (hi 205 18)] [] h1) := by
  rw [mj_den_eq, f198_33]
  exact zt_aload_n rfl rfl (zt_geti (mjkd205 _ _ _ _) rfl rfl (zt_istore_n (Nat.le_of_ble_eq_true rfl) rfl rfl (zt_aload_n rfl rfl (zt_call0_0 rfl (mjkd205 _ _ _ _) (Nat.le_of_ble_eq_true rfl) rfl rfl))))
set_option maxRecDepth 100000 in
theorem f198_42 : mj_find (mj_P 198).2.2.2.2 42 = [(.iload_n 3, 1, 0, []), (.ireturn, 1, 0, [0])] := rfl
set_option maxRecDepth 100000 in
theorem q198_42 (E : mj_E) (d w c : Nat) (hi : Nat → Nat → Int32) (hl : Nat → Nat → Int64) (v1 : Int32) (v2 : Int32) (v3 : Int32) : mj_den mj_P E d 198 42 [Value.ref 205, Value.int v1, Value.int v2, Value.int v3] [] (mj_hw w c hi hl) = some (some (Value.int v3), (mj_hw w c hi hl)) := by
  rw [mj_den_eq, f198_42]
  exact zt_iload_n rfl rfl (zt_ireturn0)
set_option maxRecDepth 100000 in
theorem f199_0 : mj_find (mj_P 199).2.2.2.2 0 = [(.aload_n 0, 1, 0, []), (.iload_n 1, 1, 0, []), (.invokevirtual 219, 3, 0, [0, 185, 12, 1, 1, 1720, 1722, 61, 156, 1723])] := rfl
set_option maxRecDepth 100000 in
theorem q199_0 (E : mj_E) (d w c : Nat) (hi : Nat → Nat → Int32) (hl : Nat → Nat → Int64) (v1 : Int32) : mj_den mj_P E d 199 0 [Value.ref 205, Value.int v1] [] (mj_hw w c hi hl) = mj_bi (mj_dc mj_P E d 185 [Value.ref 205, Value.int v1] (mj_hw w c hi hl)) (fun x1 h1 => mj_den mj_P E d 199 5 [Value.ref 205, Value.int v1] [Value.int x1] h1) := by
  rw [mj_den_eq, f199_0]
  exact zt_aload_n rfl rfl (zt_iload_n rfl rfl (zt_call0_1 rfl (mjkd205 _ _ _ _) (Nat.le_of_ble_eq_true rfl) rfl rfl))
set_option maxRecDepth 100000 in
theorem f199_5 : mj_find (mj_P 199).2.2.2.2 5 = [(.ifCond .ne 9, 3, 0, [14]), (.aload_n 0, 1, 0, []), (.iconst 1, 1, 1, []), (.invokevirtual 205, 3, 0, [0, 183, 12, 1, 1, 1700, 1702, 56, 156, 1703])] := rfl
set_option maxRecDepth 100000 in
theorem q199_5 (E : mj_E) (d w c : Nat) (hi : Nat → Nat → Int32) (hl : Nat → Nat → Int64) (v1 : Int32) (s0 : Int32) : mj_den mj_P E d 199 5 [Value.ref 205, Value.int v1] [Value.int s0] (mj_hw w c hi hl) = if ¬ s0 = 0 then mj_den mj_P E d 199 14 [Value.ref 205, Value.int v1] [] (mj_hw w c hi hl) else mj_bi (mj_dc mj_P E d 183 [Value.ref 205, Value.int (1 : Int32)] (mj_hw w c hi hl)) (fun x1 h1 => mj_den mj_P E d 199 13 [Value.ref 205, Value.int v1] [Value.int x1] h1) := by
  rw [mj_den_eq, f199_5]
  exact zt_if_ne rfl rfl (zt_aload_n rfl rfl (zt_iconst rfl (zt_call0_1 rfl (mjkd205 _ _ _ _) (Nat.le_of_ble_eq_true rfl) rfl rfl)))
set_option maxRecDepth 100000 in
theorem f199_13 : mj_find (mj_P 199).2.2.2.2 13 = [(.ireturn, 1, 0, [0])] := rfl
set_option maxRecDepth 100000 in
theorem q199_13 (E : mj_E) (d w c : Nat) (hi : Nat → Nat → Int32) (hl : Nat → Nat → Int64) (v1 : Int32) (s0 : Int32) : mj_den mj_P E d 199 13 [Value.ref 205, Value.int v1] [Value.int s0] (mj_hw w c hi hl) = some (some (Value.int s0), (mj_hw w c hi hl)) := by
  rw [mj_den_eq, f199_13]
  exact zt_ireturn0
set_option maxRecDepth 100000 in
theorem f199_14 : mj_find (mj_P 199).2.2.2.2 14 = [(.aload_n 0, 1, 0, []), (.invokevirtual 212, 3, 0, [0, 182, 12, 0, 0, 1668, 1670, 48, 156, 1671])] := rfl
set_option maxRecDepth 100000 in
theorem q199_14 (E : mj_E) (d w c : Nat) (hi : Nat → Nat → Int32) (hl : Nat → Nat → Int64) (v1 : Int32) : mj_den mj_P E d 199 14 [Value.ref 205, Value.int v1] [] (mj_hw w c hi hl) = mj_bv (mj_dc mj_P E d 182 [Value.ref 205] (mj_hw w c hi hl)) (fun h1 => mj_den mj_P E d 199 18 [Value.ref 205, Value.int v1] [] h1) := by
  rw [mj_den_eq, f199_14]
  exact zt_aload_n rfl rfl (zt_call0_0 rfl (mjkd205 _ _ _ _) (Nat.le_of_ble_eq_true rfl) rfl rfl)
set_option maxRecDepth 100000 in
theorem f199_18 : mj_find (mj_P 199).2.2.2.2 18 = [(.iconst 0, 1, 0, []), (.ireturn, 1, 0, [0])] := rfl
set_option maxRecDepth 100000 in
theorem q199_18 (E : mj_E) (d w c : Nat) (hi : Nat → Nat → Int32) (hl : Nat → Nat → Int64) (v1 : Int32) : mj_den mj_P E d 199 18 [Value.ref 205, Value.int v1] [] (mj_hw w c hi hl) = some (some (Value.int (0 : Int32)), (mj_hw w c hi hl)) := by
  rw [mj_den_eq, f199_18]
  exact zt_iconst rfl (zt_ireturn0)
set_option maxRecDepth 100000 in
theorem f200_0 : mj_find (mj_P 200).2.2.2.2 0 = [(.aload_n 0, 1, 0, []), (.iload_n 1, 1, 0, []), (.invokevirtual 234, 3, 0, [0, 184, 12, 1, 1, 1696, 1698, 55, 156, 1699])] := rfl
set_option maxRecDepth 100000 in
theorem q200_0 (E : mj_E) (d w c : Nat) (hi : Nat → Nat → Int32) (hl : Nat → Nat → Int64) (v1 : Int32) (v2 : Int32) (v3 : Int32) : mj_den mj_P E d 200 0 [Value.ref 205, Value.int v1, Value.int v2, Value.int v3] [] (mj_hw w c hi hl) = mj_bi (mj_dc mj_P E d 184 [Value.ref 205, Value.int v1] (mj_hw w c hi hl)) (fun x1 h1 => mj_den mj_P E d 200 5 [Value.ref 205, Value.int v1, Value.int v2, Value.int v3] [Value.int x1] h1) := by
  rw [mj_den_eq, f200_0]
  exact zt_aload_n rfl rfl (zt_iload_n rfl rfl (zt_call0_1 rfl (mjkd205 _ _ _ _) (Nat.le_of_ble_eq_true rfl) rfl rfl))
set_option maxRecDepth 100000 in
theorem f200_5 : mj_find (mj_P 200).2.2.2.2 5 = [(.ifCond .ne 9, 3, 0, [14]), (.aload_n 0, 1, 0, []), (.iconst 1, 1, 1, []), (.invokevirtual 205, 3, 0, [0, 183, 12, 1, 1, 1700, 1702, 56, 156, 1703])] := rfl
set_option maxRecDepth 100000 in
theorem q200_5 (E : mj_E) (d w c : Nat) (hi : Nat → Nat → Int32) (hl : Nat → Nat → Int64) (v1 : Int32) (v2 : Int32) (v3 : Int32) (s0 : Int32) : mj_den mj_P E d 200 5 [Value.ref 205, Value.int v1, Value.int v2, Value.int v3] [Value.int s0] (mj_hw w c hi hl) = if ¬ s0 = 0 then mj_den mj_P E d 200 14 [Value.ref 205, Value.int v1, Value.int v2, Value.int v3] [] (mj_hw w c hi hl) else mj_bi (mj_dc mj_P E d 183 [Value.ref 205, Value.int (1 : Int32)] (mj_hw w c hi hl)) (fun x1 h1 => mj_den mj_P E d 200 13 [Value.ref 205, Value.int v1, Value.int v2, Value.int v3] [Value.int x1] h1) := by
  rw [mj_den_eq, f200_5]
  exact zt_if_ne rfl rfl (zt_aload_n rfl rfl (zt_iconst rfl (zt_call0_1 rfl (mjkd205 _ _ _ _) (Nat.le_of_ble_eq_true rfl) rfl rfl)))
set_option maxRecDepth 100000 in
theorem f200_13 : mj_find (mj_P 200).2.2.2.2 13 = [(.ireturn, 1, 0, [0])] := rfl
set_option maxRecDepth 100000 in
theorem q200_13 (E : mj_E) (d w c : Nat) (hi : Nat → Nat → Int32) (hl : Nat → Nat → Int64) (v1 : Int32) (v2 : Int32) (v3 : Int32) (s0 : Int32) : mj_den mj_P E d 200 13 [Value.ref 205, Value.int v1, Value.int v2, Value.int v3] [Value.int s0] (mj_hw w c hi hl) = some (some (Value.int s0), (mj_hw w c hi hl)) := by
  rw [mj_den_eq, f200_13]
  exact zt_ireturn0
set_option maxRecDepth 100000 in
theorem f200_14 : mj_find (mj_P 200).2.2.2.2 14 = [(.aload_n 0, 1, 0, []), (.invokevirtual 212, 3, 0, [0, 182, 12, 0, 0, 1668, 1670, 48, 156, 1671])] := rfl
set_option maxRecDepth 100000 in
theorem q200_14 (E : mj_E) (d w c : Nat) (hi : Nat → Nat → Int32) (hl : Nat → Nat → Int64) (v1 : Int32) (v2 : Int32) (v3 : Int32) : mj_den mj_P E d 200 14 [Value.ref 205, Value.int v1, Value.int v2, Value.int v3] [] (mj_hw w c hi hl) = mj_bv (mj_dc mj_P E d 182 [Value.ref 205] (mj_hw w c hi hl)) (fun h1 => mj_den mj_P E d 200 18 [Value.ref 205, Value.int v1, Value.int v2, Value.int v3] [] h1) := by
  rw [mj_den_eq, f200_14]
  exact zt_aload_n rfl rfl (zt_call0_0 rfl (mjkd205 _ _ _ _) (Nat.le_of_ble_eq_true rfl) rfl rfl)
set_option maxRecDepth 100000 in
theorem f200_18 : mj_find (mj_P 200).2.2.2.2 18 = [(.aload_n 0, 1, 0, []), (.iload_n 2, 1, 0, []), (.iload_n 3, 1, 0, []), (.invokevirtual 256, 3, 0, [0, 198, 12, 2, 1, 1712, 1714, 59, 156, 1715])] := rfl
set_option maxRecDepth 100000 in
theorem q200_18 (E : mj_E) (d w c : Nat) (hi : Nat → Nat → Int32) (hl : Nat → Nat → Int64) (v1 : Int32) (v2 : Int32) (v3 : Int32) : mj_den mj_P E d 200 18 [Value.ref 205, Value.int v1, Value.int v2, Value.int v3] [] (mj_hw w c hi hl) = mj_bi (mj_dc mj_P E d 198 [Value.ref 205, Value.int v2, Value.int v3] (mj_hw w c hi hl)) (fun x1 h1 => mj_den mj_P E d 200 24 [Value.ref 205, Value.int v1, Value.int v2, Value.int v3] [Value.int x1] h1) := by
  rw [mj_den_eq, f200_18]
  exact zt_aload_n rfl rfl (zt_iload_n rfl rfl (zt_iload_n rfl rfl (zt_call0_1 rfl (mjkd205 _ _ _ _) (Nat.le_of_ble_eq_true rfl) rfl rfl)))
set_option maxRecDepth 100000 in
theorem f200_24 : mj_find (mj_P 200).2.2.2.2 24 = [(.ireturn, 1, 0, [0])] := rfl
set_option maxRecDepth 100000 in
theorem q200_24 (E : mj_E) (d w c : Nat) (hi : Nat → Nat → Int32) (hl : Nat → Nat → Int64) (v1 : Int32) (v2 : Int32) (v3 : Int32) (s0 : Int32) : mj_den mj_P E d 200 24 [Value.ref 205, Value.int v1, Value.int v2, Value.int v3] [Value.int s0] (mj_hw w c hi hl) = some (some (Value.int s0), (mj_hw w c hi hl)) := by
  rw [mj_den_eq, f200_24]
  exact zt_ireturn0
set_option maxRecDepth 100000 in
theorem f201_0 : mj_find (mj_P 201).2.2.2.2 0 = [(.aload_n 0, 1, 0, []), (.getfield 68, 3, 0, [12, 37, 3, 1447]), (.iload_n 1, 1, 0, []), (.aload_n 0, 1, 0, []), (.bipush 17, 2, 17, []), (.iconst 0, 1, 0, []), (.bipush 7, 2, 7, []), (.invokevirtual 259, 3, 0, [0, 200, 12, 3, 1, 1708, 1710, 58, 156, 1711])] := rfl
set_option maxRecDepth 100000 in
theorem q201_0 (E : mj_E) (d w c : Nat) (hi : Nat → Nat → Int32) (hl : Nat → Nat → Int64) (v1 : Int32) : mj_den mj_P E d 201 0 [Value.ref 205, Value.int v1] [] (mj_hw w c hi hl) = mj_bi (mj_dc mj_P E d 200 [Value.ref 205, Value.int (17 : Int32), Value.int (0 : Int32), Value.int (7 : Int32)] (mj_hw w c hi hl)) (fun x1 h1 => mj_den mj_P E d 201 14 [Value.ref 205, Value.int v1] [Value.int x1, Value.int v1, Value.ref 224] h1) := by
  rw [mj_den_eq, f201_0]
  exact zt_aload_n rfl rfl (zt_getr (mjkd205 _ _ _ _) (mjhr205_37 w c) rfl (zt_iload_n rfl rfl (zt_aload_n rfl rfl (zt_bipush rfl (zt_iconst rfl (zt_bipush rfl (zt_call0_1 rfl (mjkd205 _ _ _ _) (Nat.le_of_ble_eq_true rfl) rfl rfl)))))))
set_option maxRecDepth 100000 in
theorem f201_14 : mj_find (mj_P 201).2.2.2.2 14 = [(.iastore, 1, 0, []), (.aload_n 0, 1, 0, []), (.getfield 68, 3, 0, [12, 37, 3, 1447]), (.iload_n 1, 1, 0, []), (.iaload, 1, 0, []), (.iconst (-1), 1, (-1), []), (.if_icmp .ne 5, 3, 0, [27]), (.iconst (-1), 1, (-1), []), (.ireturn, 1, 0, [0])] := rfl
set_option maxRecDepth 100000 in
theorem q201_14 (E : mj_E) (d w c : Nat) (hi : Nat → Nat → Int32) (hl : Nat → Nat → Int64) (v1 : Int32) (s0 : Int32) (s1 : Int32) : mj_den mj_P E d 201 14 [Value.ref 205, Value.int v1] [Value.int s0, Value.int s1, Value.ref 224] (mj_hw w c hi hl) = if 0 ≤ s1 ∧ (s1).toNatClampNeg < 64 then if 0 ≤ v1 ∧ (v1).toNatClampNeg < 64 then if ¬ ((mj_u hi 224 ((s1).toNatClampNeg) s0) 224 ((v1).toNatClampNeg)) = (-1 : Int32) then mj_den mj_P E d 201 27 [Value.ref 205, Value.int v1] [] (mj_hw w c (mj_u hi 224 ((s1).toNatClampNeg) s0) hl) else some (some (Value.int (-1 : Int32)), (mj_hw w c (mj_u hi 224 ((s1).toNatClampNeg) s0) hl)) else none else none := by
  rw [mj_den_eq, f201_14]
  exact zt_iast (mjkd224 _ _ _ _) (mjln224 _ _ _ _) rfl rfl (zt_aload_n rfl rfl (zt_getr (mjkd205 _ _ _ _) (mjhr205_37 w c) rfl (zt_iload_n rfl rfl (zt_iald (mjkd224 _ _ _ _) (mjln224 _ _ _ _) rfl rfl (zt_iconst rfl (zt_icmp_ne rfl rfl (zt_iconst rfl (zt_ireturn0))))))))
set_option maxRecDepth 100000 in
theorem f201_27 : mj_find (mj_P 201).2.2.2.2 27 = [(.aload_n 0, 1, 0, []), (.getfield 68, 3, 0, [12, 37, 3, 1447]), (.iload_n 1, 1, 0, []), (.iconst 1, 1, 1, []), (.iadd, 1, 0, []), (.aload_n 0, 1, 0, []), (.bipush 18, 2, 18, []), (.invokevirtual 234, 3, 0, [0, 184, 12, 1, 1, 1696, 1698, 55, 156, 1699])] := rfl
set_option maxRecDepth 100000 in
theorem q201_27 (E : mj_E) (d w c : Nat) (hi : Nat → Nat → Int32) (hl : Nat → Nat → Int64) (v1 : Int32) : mj_den mj_P E d 201 27 [Value.ref 205, Value.int v1] [] (mj_hw w c hi hl) = mj_bi (mj_dc mj_P E d 184 [Value.ref 205, Value.int (18 : Int32)] (mj_hw w c hi hl)) (fun x1 h1 => mj_den mj_P E d 201 40 [Value.ref 205, Value.int v1] [Value.int x1, Value.int (v1 + (1 : Int32)), Value.ref 224] h1) := by
  rw [mj_den_eq, f201_27]
  exact zt_aload_n rfl rfl (zt_getr (mjkd205 _ _ _ _) (mjhr205_37 w c) rfl (zt_iload_n rfl rfl (zt_iconst rfl (zt_iadd rfl (zt_aload_n rfl rfl (zt_bipush rfl (zt_call0_1 rfl (mjkd205 _ _ _ _) (Nat.le_of_ble_eq_true rfl) rfl rfl)))))))
set_option maxRecDepth 100000 in
theorem f201_40 : mj_find (mj_P 201).2.2.2.2 40 = [(.ifCond .eq 15, 3, 0, [55]), (.aload_n 0, 1, 0, []), (.bipush 18, 2, 18, []), (.iconst 1, 1, 1, []), (.bipush 60, 2, 60, []), (.invokevirtual 259, 3, 0, [0, 200, 12, 3, 1, 1708, 1710, 58, 156, 1711])] := rfl
set_option maxRecDepth 100000 in
theorem q201_40 (E : mj_E) (d w c : Nat) (hi : Nat → Nat → Int32) (hl : Nat → Nat → Int64) (v1 : Int32) (s0 : Int32) (s1 : Int32) : mj_den mj_P E d 201 40 [Value.ref 205, Value.int v1] [Value.int s0, Value.int s1, Value.ref 224] (mj_hw w c hi hl) = if s0 = 0 then mj_den mj_P E d 201 55 [Value.ref 205, Value.int v1] [Value.int s1, Value.ref 224] (mj_hw w c hi hl) else mj_bi (mj_dc mj_P E d 200 [Value.ref 205, Value.int (18 : Int32), Value.int (1 : Int32), Value.int (60 : Int32)] (mj_hw w c hi hl)) (fun x1 h1 => mj_den mj_P E d 201 52 [Value.ref 205, Value.int v1] [Value.int x1, Value.int s1, Value.ref 224] h1) := by
  rw [mj_den_eq, f201_40]
  exact zt_if_eq rfl rfl (zt_aload_n rfl rfl (zt_bipush rfl (zt_iconst rfl (zt_bipush rfl (zt_call0_1 rfl (mjkd205 _ _ _ _) (Nat.le_of_ble_eq_true rfl) rfl rfl)))))
set_option maxRecDepth 100000 in
theorem f201_52 : mj_find (mj_P 201).2.2.2.2 52 = [(.goto 4, 3, 0, [56])] := rfl
set_option maxRecDepth 100000 in
theorem q201_52 (E : mj_E) (d w c : Nat) (hi : Nat → Nat → Int32) (hl : Nat → Nat → Int64) (v1 : Int32) (s0 : Int32) (s1 : Int32) : mj_den mj_P E d 201 52 [Value.ref 205, Value.int v1] [Value.int s0, Value.int s1, Value.ref 224] (mj_hw w c hi hl) = mj_den mj_P E d 201 56 [Value.ref 205, Value.int v1] [Value.int s0, Value.int s1, Value.ref 224] (mj_hw w c hi hl) := by
  rw [mj_den_eq, f201_52]
  exact zt_goto rfl
set_option maxRecDepth 100000 in
theorem f201_55 : mj_find (mj_P 201).2.2.2.2 55 = [(.iconst 1, 1, 1, [])] := rfl
set_option maxRecDepth 100000 in
theorem q201_55 (E : mj_E) (d w c : Nat) (hi : Nat → Nat → Int32) (hl : Nat → Nat → Int64) (v1 : Int32) (s0 : Int32) : mj_den mj_P E d 201 55 [Value.ref 205, Value.int v1] [Value.int s0, Value.ref 224] (mj_hw w c hi hl) = mj_den mj_P E d 201 56 [Value.ref 205, Value.int v1] [Value.int (1 : Int32), Value.int s0, Value.ref 224] (mj_hw w c hi hl) := by
  rw [mj_den_eq, f201_55]
  exact zt_iconst rfl (zt_end rfl)
set_option maxRecDepth 100000 in
theorem f201_56 : mj_find (mj_P 201).2.2.2.2 56 = [(.iastore, 1, 0, []), (.aload_n 0, 1, 0, []), (.getfield 68, 3, 0, [12, 37, 3, 1447]), (.iload_n 1, 1, 0, []), (.iconst 1, 1, 1, []), (.iadd, 1, 0, []), (.iaload, 1, 0, []), (.iconst (-1), 1, (-1), []), (.if_icmp .ne 7, 3, 0, [73]), (.iconst (-1), 1, (-1), []), (.goto 9, 3, 0, [79])] := rfl
set_option maxRecDepth 100000 in
theorem q201_56 (E : mj_E) (d w c : Nat) (hi : Nat → Nat → Int32) (hl : Nat → Nat → Int64) (v1 : Int32) (s0 : Int32) (s1 : Int32) : mj_den mj_P E d 201 56 [Value.ref 205, Value.int v1] [Value.int s0, Value.int s1, Value.ref 224] (mj_hw w c hi hl) = if 0 ≤ s1 ∧ (s1).toNatClampNeg < 64 then if 0 ≤ (v1 + (1 : Int32)) ∧ ((v1 + (1 : Int32))).toNatClampNeg < 64 then if ¬ ((mj_u hi 224 ((s1).toNatClampNeg) s0) 224 (((v1 + (1 : Int32))).toNatClampNeg)) = (-1 : Int32) then mj_den mj_P E d 201 73 [Value.ref 205, Value.int v1] [] (mj_hw w c (mj_u hi 224 ((s1).toNatClampNeg) s0) hl) else mj_den mj_P E d 201 79 [Value.ref 205, Value.int v1] [Value.int (-1 : Int32)] (mj_hw w c (mj_u hi 224 ((s1).toNatClampNeg) s0) hl) else none else none := by
  rw [mj_den_eq, f201_56]
  exact zt_iast (mjkd224 _ _ _ _) (mjln224 _ _ _ _) rfl rfl (zt_aload_n rfl rfl (zt_getr (mjkd205 _ _ _ _) (mjhr205_37 w c) rfl (zt_iload_n rfl rfl (zt_iconst rfl (zt_iadd rfl (zt_iald (mjkd224 _ _ _ _) (mjln224 _ _ _ _) rfl rfl (zt_iconst rfl (zt_icmp_ne rfl rfl (zt_iconst rfl (zt_goto rfl))))))))))
set_option maxRecDepth 100000 in
theorem f201_73 : mj_find (mj_P 201).2.2.2.2 73 = [(.aload_n 0, 1, 0, []), (.bipush 59, 2, 59, []), (.invokevirtual 263, 3, 0, [0, 199, 12, 1, 1, 1716, 1718, 60, 156, 1719])] := rfl
set_option maxRecDepth 100000 in
theorem q201_73 (E : mj_E) (d w c : Nat) (hi : Nat → Nat → Int32) (hl : Nat → Nat → Int64) (v1 : Int32) : mj_den mj_P E d 201 73 [Value.ref 205, Value.int v1] [] (mj_hw w c hi hl) = mj_bi (mj_dc mj_P E d 199 [Value.ref 205, Value.int (59 : Int32)] (mj_hw w c hi hl)) (fun x1 h1 => mj_den mj_P E d 201 79 [Value.ref 205, Value.int v1] [Value.int x1] h1) := by
  rw [mj_den_eq, f201_73]
  exact zt_aload_n rfl rfl (zt_bipush rfl (zt_call0_1 rfl (mjkd205 _ _ _ _) (Nat.le_of_ble_eq_true rfl) rfl rfl))
set_option maxRecDepth 100000 in
theorem f201_79 : mj_find (mj_P 201).2.2.2.2 79 = [(.ireturn, 1, 0, [0])] := rfl
set_option maxRecDepth 100000 in
theorem q201_79 (E : mj_E) (d w c : Nat) (hi : Nat → Nat → Int32) (hl : Nat → Nat → Int64) (v1 : Int32) (s0 : Int32) : mj_den mj_P E d 201 79 [Value.ref 205, Value.int v1] [Value.int s0] (mj_hw w c hi hl) = some (some (Value.int s0), (mj_hw w c hi hl)) := by
  rw [mj_den_eq, f201_79]
  exact zt_ireturn0
set_option maxRecDepth 100000 in
theorem f202_0 : mj_find (mj_P 202).2.2.2.2 0 = [(.iconst 0, 1, 0, []), (.istore_n 1, 1, 0, [])] := rfl
set_option maxRecDepth 100000 in
theorem q202_0 (E : mj_E) (d w c : Nat) (hi : Nat → Nat → Int32) (hl : Nat → Nat → Int64) : mj_den mj_P E d 202 0 [Value.ref 205, Value.float 0] [] (mj_hw w c hi hl) = mj_den mj_P E d 202 2 [Value.ref 205, Value.int (0 : Int32)] [] (mj_hw w c hi hl) := by
  rw [mj_den_eq, f202_0]
  exact zt_iconst rfl (zt_istore_n (Nat.le_of_ble_eq_true rfl) rfl rfl (zt_end rfl))
set_option maxRecDepth 100000 in
theorem f202_2 : mj_find (mj_P 202).2.2.2.2 2 = [(.aload_n 0, 1, 0, []), (.bipush 17, 2, 17, []), (.invokevirtual 234, 3, 0, [0, 184, 12, 1, 1, 1696, 1698, 55, 156, 1699])] := rfl
set_option maxRecDepth 100000 in
theorem q202_2 (E : mj_E) (d w c : Nat) (hi : Nat → Nat → Int32) (hl : Nat → Nat → Int64) (v1 : Int32) : mj_den mj_P E d 202 2 [Value.ref 205, Value.int v1] [] (mj_hw w c hi hl) = mj_bi (mj_dc mj_P E d 184 [Value.ref 205, Value.int (17 : Int32)] (mj_hw w c hi hl)) (fun x1 h1 => mj_den mj_P E d 202 8 [Value.ref 205, Value.int v1] [Value.int x1] h1) := by
  rw [mj_den_eq, f202_2]
  exact zt_aload_n rfl rfl (zt_bipush rfl (zt_call0_1 rfl (mjkd205 _ _ _ _) (Nat.le_of_ble_eq_true rfl) rfl rfl))
set_option maxRecDepth 100000 in
theorem f202_8 : mj_find (mj_P 202).2.2.2.2 8 = [(.ifCond .eq 38, 3, 0, [46]), (.iload_n 1, 1, 0, []), (.bipush 16, 2, 16, []), (.if_icmp .ne 9, 3, 0, [23]), (.aload_n 0, 1, 0, []), (.iconst 3, 1, 3, []), (.invokevirtual 205, 3, 0, [0, 183, 12, 1, 1, 1700, 1702, 56, 156, 1703])] := rfl
set_option maxRecDepth 100000 in
theorem q202_8 (E : mj_E) (d w c : Nat) (hi : Nat → Nat → Int32) (hl : Nat → Nat → Int64) (v1 : Int32) (s0 : Int32) : mj_den mj_P E d 202 8 [Value.ref 205, Value.int v1] [Value.int s0] (mj_hw w c hi hl) = if s0 = 0 then mj_den mj_P E d 202 46 [Value.ref 205, Value.int v1] [] (mj_hw w c hi hl) else if ¬ v1 = (16 : Int32) then mj_den mj_P E d 202 23 [Value.ref 205, Value.int v1] [] (mj_hw w c hi hl) else mj_bi (mj_dc mj_P E d 183 [Value.ref 205, Value.int (3 : Int32)] (mj_hw w c hi hl)) (fun x1 h1 => mj_den mj_P E d 202 22 [Value.ref 205, Value.int v1] [Value.int x1] h1) := by
  rw [mj_den_eq, f202_8]
  exact zt_if_eq rfl rfl (zt_iload_n rfl rfl (zt_bipush rfl (zt_icmp_ne rfl rfl (zt_aload_n rfl rfl (zt_iconst rfl (zt_call0_1 rfl (mjkd205 _ _ _ _) (Nat.le_of_ble_eq_true rfl) rfl rfl))))))
set_option maxRecDepth 100000 in
theorem f202_22 : mj_find (mj_P 202).2.2.2.2 22 = [(.ireturn, 1, 0, [0])] := rfl
set_option maxRecDepth 100000 in
theorem q202_22 (E : mj_E) (d w c : Nat) (hi : Nat → Nat → Int32) (hl : Nat → Nat → Int64) (v1 : Int32) (s0 : Int32) : mj_den mj_P E d 202 22 [Value.ref 205, Value.int v1] [Value.int s0] (mj_hw w c hi hl) = some (some (Value.int s0), (mj_hw w c hi hl)) := by
  rw [mj_den_eq, f202_22]
  exact zt_ireturn0
set_option maxRecDepth 100000 in
theorem f202_23 : mj_find (mj_P 202).2.2.2.2 23 = [(.aload_n 0, 1, 0, []), (.bipush 32, 2, 32, []), (.iconst 2, 1, 2, []), (.iload_n 1, 1, 0, []), (.imul, 1, 0, []), (.iadd, 1, 0, []), (.invokevirtual 266, 3, 0, [0, 201, 12, 1, 1, 1704, 1706, 57, 156, 1707])] := rfl
set_option maxRecDepth 100000 in
theorem q202_23 (E : mj_E) (d w c : Nat) (hi : Nat → Nat → Int32) (hl : Nat → Nat → Int64) (v1 : Int32) : mj_den mj_P E d 202 23 [Value.ref 205, Value.int v1] [] (mj_hw w c hi hl) = mj_bi (mj_dc mj_P E d 201 [Value.ref 205, Value.int ((32 : Int32) + ((2 : Int32) * v1))] (mj_hw w c hi hl)) (fun x1 h1 => mj_den mj_P E d 202 33 [Value.ref 205, Value.int v1] [Value.int x1] h1) := by
  rw [mj_den_eq, f202_23]
  exact zt_aload_n rfl rfl (zt_bipush rfl (zt_iconst rfl (zt_iload_n rfl rfl (zt_imul rfl (zt_iadd rfl (zt_call0_1 rfl (mjkd205 _ _ _ _) (Nat.le_of_ble_eq_true rfl) rfl rfl))))))
set_option maxRecDepth 100000 in
theorem f202_33 : mj_find (mj_P 202).2.2.2.2 33 = [(.iconst (-1), 1, (-1), []), (.if_icmp .ne 5, 3, 0, [39]), (.iconst (-1), 1, (-1), []), (.ireturn, 1, 0, [0])] := rfl
set_option maxRecDepth 100000 in
theorem q202_33 (E : mj_E) (d w c : Nat) (hi : Nat → Nat → Int32) (hl : Nat → Nat → Int64) (v1 : Int32) (s0 : Int32) : mj_den mj_P E d 202 33 [Value.ref 205, Value.int v1] [Value.int s0] (mj_hw w c hi hl) = if ¬ s0 = (-1 : Int32) then mj_den mj_P E d 202 39 [Value.ref 205, Value.int v1] [] (mj_hw w c hi hl) else some (some (Value.int (-1 : Int32)), (mj_hw w c hi hl)) := by
  rw [mj_den_eq, f202_33]
  exact zt_iconst rfl (zt_icmp_ne rfl rfl (zt_iconst rfl (zt_ireturn0)))
set_option maxRecDepth 100000 in
theorem f202_39 : mj_find (mj_P 202).2.2.2.2 39 = [(.iload_n 1, 1, 0, []), (.iconst 1, 1, 1, []), (.iadd, 1, 0, []), (.istore_n 1, 1, 0, []), (.goto (-41), 3, 0, [2])] := rfl
set_option maxRecDepth 100000 in
theorem q202_39 (E : mj_E) (d w c : Nat) (hi : Nat → Nat → Int32) (hl : Nat → Nat → Int64) (v1 : Int32) : mj_den mj_P E d 202 39 [Value.ref 205, Value.int v1] [] (mj_hw w c hi hl) = mj_den mj_P E d 202 2 [Value.ref 205, Value.int (v1 + (1 : Int32))] [] (mj_hw w c hi hl) := by
  rw [mj_den_eq, f202_39]
  exact zt_iload_n rfl rfl (zt_iconst rfl (zt_iadd rfl (zt_istore_n (Nat.le_of_ble_eq_true rfl) rfl rfl (zt_goto rfl))))
set_option maxRecDepth 100000 in
theorem f202_46 : mj_find (mj_P 202).2.2.2.2 46 = [(.aload_n 0, 1, 0, []), (.getfield 174, 3, 0, [12, 17, 0, 1427]), (.ifCond .ne 7, 3, 0, [57]), (.iload_n 1, 1, 0, []), (.goto 8, 3, 0, [62])] := rfl
set_option maxRecDepth 100000 in
theorem q202_46 (E : mj_E) (d w c : Nat) (hi : Nat → Nat → Int32) (hl : Nat → Nat → Int64) (v1 : Int32) : mj_den mj_P E d 202 46 [Value.ref 205, Value.int v1] [] (mj_hw w c hi hl) = if ¬ (hi 205 17) = 0 then mj_den mj_P E d 202 57 [Value.ref 205, Value.int v1] [] (mj_hw w c hi hl) else mj_den mj_P E d 202 62 [Value.ref 205, Value.int v1] [Value.int v1] (mj_hw w c hi hl) := by
  rw [mj_den_eq, f202_46]
  exact zt_aload_n rfl rfl (zt_geti (mjkd205 _ _ _ _) rfl rfl (zt_if_ne rfl rfl (zt_iload_n rfl rfl (zt_goto rfl))))
set_option maxRecDepth 100000 in
theorem f202_57 : mj_find (mj_P 202).2.2.2.2 57 = [(.aload_n 0, 1, 0, []), (.iconst 1, 1, 1, []), (.invokevirtual 205, 3, 0, [0, 183, 12, 1, 1, 1700, 1702, 56, 156, 1703])] := rfl
set_option maxRecDepth 100000 in
theorem q202_57 (E : mj_E) (d w c : Nat) (hi : Nat → Nat → Int32) (hl : Nat → Nat → Int64) (v1 : Int32) : mj_den mj_P E d 202 57 [Value.ref 205, Value.int v1] [] (mj_hw w c hi hl) = mj_bi (mj_dc mj_P E d 183 [Value.ref 205, Value.int (1 : Int32)] (mj_hw w c hi hl)) (fun x1 h1 => mj_den mj_P E d 202 62 [Value.ref 205, Value.int v1] [Value.int x1] h1) := by
  rw [mj_den_eq, f202_57]
  exact zt_aload_n rfl rfl (zt_iconst rfl (zt_call0_1 rfl (mjkd205 _ _ _ _) (Nat.le_of_ble_eq_true rfl) rfl rfl))
set_option maxRecDepth 100000 in
theorem f202_62 : mj_find (mj_P 202).2.2.2.2 62 = [(.ireturn, 1, 0, [0])] := rfl
set_option maxRecDepth 100000 in
theorem q202_62 (E : mj_E) (d w c : Nat) (hi : Nat → Nat → Int32) (hl : Nat → Nat → Int64) (v1 : Int32) (s0 : Int32) : mj_den mj_P E d 202 62 [Value.ref 205, Value.int v1] [Value.int s0] (mj_hw w c hi hl) = some (some (Value.int s0), (mj_hw w c hi hl)) := by
  rw [mj_den_eq, f202_62]
  exact zt_ireturn0
set_option maxRecDepth 100000 in
theorem f203_0 : mj_find (mj_P 203).2.2.2.2 0 = [(.aload_n 0, 1, 0, []), (.bipush 19, 2, 19, []), (.iconst 0, 1, 0, []), (.aload_n 0, 1, 0, []), (.getfield 134, 3, 0, [12, 6, 0, 1416]), (.iconst 1, 1, 1, []), (.isub, 1, 0, []), (.invokevirtual 259, 3, 0, [0, 200, 12, 3, 1, 1708, 1710, 58, 156, 1711])] := rfl
set_option maxRecDepth 100000 in
theorem q203_0 (E : mj_E) (d w c : Nat) (hi : Nat → Nat → Int32) (hl : Nat → Nat → Int64) : mj_den mj_P E d 203 0 [Value.ref 205, Value.float 0, Value.float 0] [] (mj_hw w c hi hl) = mj_bi (mj_dc mj_P E d 200 [Value.ref 205, Value.int (19 : Int32), Value.int (0 : Int32), Value.int ((hi 205 6) - (1 : Int32))] (mj_hw w c hi hl)) (fun x1 h1 => mj_den mj_P E d 203 13 [Value.ref 205, Value.float 0, Value.float 0] [Value.int x1] h1) := by
  rw [mj_den_eq, f203_0]
  exact zt_aload_n rfl rfl (zt_bipush rfl (zt_iconst rfl (zt_aload_n rfl rfl (zt_geti (mjkd205 _ _ _ _) rfl rfl (zt_iconst rfl (zt_isub rfl (zt_call0_1 rfl (mjkd205 _ _ _ _) (Nat.le_of_ble_eq_true rfl) rfl rfl)))))))
set_option maxRecDepth 100000 in
theorem f203_13 : mj_find (mj_P 203).2.2.2.2 13 = [(.istore_n 1, 1, 0, []), (.iload_n 1, 1, 0, []), (.iconst (-1), 1, (-1), []), (.if_icmp .ne 5, 3, 0, [21]), (.iconst (-1), 1, (-1), []), (.ireturn, 1, 0, [0])] := rfl
set_option maxRecDepth 100000 in
theorem q203_13 (E : mj_E) (d w c : Nat) (hi : Nat → Nat → Int32) (hl : Nat → Nat → Int64) (s0 : Int32) : mj_den mj_P E d 203 13 [Value.ref 205, Value.float 0, Value.float 0] [Value.int s0] (mj_hw w c hi hl) = if ¬ s0 = (-1 : Int32) then mj_den mj_P E d 203 21 [Value.ref 205, Value.int s0, Value.float 0] [] (mj_hw w c hi hl) else some (some (Value.int (-1 : Int32)), (mj_hw w c hi hl)) := by
  rw [mj_den_eq, f203_13]
  exact zt_istore_n (Nat.le_of_ble_eq_true rfl) rfl rfl (zt_iload_n rfl rfl (zt_iconst rfl (zt_icmp_ne rfl rfl (zt_iconst rfl (zt_ireturn0)))))
set_option maxRecDepth 100000 in
theorem f203_21 : mj_find (mj_P 203).2.2.2.2 21 = [(.aload_n 0, 1, 0, []), (.bipush 20, 2, 20, []), (.invokevirtual 234, 3, 0, [0, 184, 12, 1, 1, 1696, 1698, 55, 156, 1699])] := rfl
set_option maxRecDepth 100000 in
theorem q203_21 (E : mj_E) (d w c : Nat) (hi : Nat → Nat → Int32) (hl : Nat → Nat → Int64) (v1 : Int32) : mj_den mj_P E d 203 21 [Value.ref 205, Value.int v1, Value.float 0] [] (mj_hw w c hi hl) = mj_bi (mj_dc mj_P E d 184 [Value.ref 205, Value.int (20 : Int32)] (mj_hw w c hi hl)) (fun x1 h1 => mj_den mj_P E d 203 27 [Value.ref 205, Value.int v1, Value.float 0] [Value.int x1] h1) := by
  rw [mj_den_eq, f203_21]
  exact zt_aload_n rfl rfl (zt_bipush rfl (zt_call0_1 rfl (mjkd205 _ _ _ _) (Nat.le_of_ble_eq_true rfl) rfl rfl))
set_option maxRecDepth 100000 in
theorem f203_27 : mj_find (mj_P 203).2.2.2.2 27 = [(.ifCond .ne 9, 3, 0, [36]), (.aload_n 0, 1, 0, []), (.iconst 1, 1, 1, []), (.invokevirtual 205, 3, 0, [0, 183, 12, 1, 1, 1700, 1702, 56, 156, 1703])] := rfl
set_option maxRecDepth 100000 in
theorem q203_27 (E : mj_E) (d w c : Nat) (hi : Nat → Nat → Int32) (hl : Nat → Nat → Int64) (v1 : Int32) (s0 : Int32) : mj_den mj_P E d 203 27 [Value.ref 205, Value.int v1, Value.float 0] [Value.int s0] (mj_hw w c hi hl) = if ¬ s0 = 0 then mj_den mj_P E d 203 36 [Value.ref 205, Value.int v1, Value.float 0] [] (mj_hw w c hi hl) else mj_bi (mj_dc mj_P E d 183 [Value.ref 205, Value.int (1 : Int32)] (mj_hw w c hi hl)) (fun x1 h1 => mj_den mj_P E d 203 35 [Value.ref 205, Value.int v1, Value.float 0] [Value.int x1] h1) := by
  rw [mj_den_eq, f203_27]
  exact zt_if_ne rfl rfl (zt_aload_n rfl rfl (zt_iconst rfl (zt_call0_1 rfl (mjkd205 _ _ _ _) (Nat.le_of_ble_eq_true rfl) rfl rfl)))
set_option maxRecDepth 100000 in
theorem f203_35 : mj_find (mj_P 203).2.2.2.2 35 = [(.ireturn, 1, 0, [0])] := rfl
set_option maxRecDepth 100000 in
theorem q203_35 (E : mj_E) (d w c : Nat) (hi : Nat → Nat → Int32) (hl : Nat → Nat → Int64) (v1 : Int32) (s0 : Int32) : mj_den mj_P E d 203 35 [Value.ref 205, Value.int v1, Value.float 0] [Value.int s0] (mj_hw w c hi hl) = some (some (Value.int s0), (mj_hw w c hi hl)) := by
  rw [mj_den_eq, f203_35]
  exact zt_ireturn0
set_option maxRecDepth 100000 in
theorem f203_36 : mj_find (mj_P 203).2.2.2.2 36 = [(.aload_n 0, 1, 0, []), (.invokevirtual 212, 3, 0, [0, 182, 12, 0, 0, 1668, 1670, 48, 156, 1671])] := rfl
set_option maxRecDepth 100000 in
theorem q203_36 (E : mj_E) (d w c : Nat) (hi : Nat → Nat → Int32) (hl : Nat → Nat → Int64) (v1 : Int32) : mj_den mj_P E d 203 36 [Value.ref 205, Value.int v1, Value.float 0] [] (mj_hw w c hi hl) = mj_bv (mj_dc mj_P E d 182 [Value.ref 205] (mj_hw w c hi hl)) (fun h1 => mj_den mj_P E d 203 40 [Value.ref 205, Value.int v1, Value.float 0] [] h1) := by
  rw [mj_den_eq, f203_36]
  exact zt_aload_n rfl rfl (zt_call0_0 rfl (mjkd205 _ _ _ _) (Nat.le_of_ble_eq_true rfl) rfl rfl)
set_option maxRecDepth 100000 in
theorem f203_40 : mj_find (mj_P 203).2.2.2.2 40 = [(.aload_n 0, 1, 0, []), (.getfield 174, 3, 0, [12, 17, 0, 1427]), (.iconst 3, 1, 3, []), (.if_icmp .ne 17, 3, 0, [62]), (.aload_n 0, 1, 0, []), (.getfield 177, 3, 0, [12, 18, 0, 1428]), (.iload_n 1, 1, 0, []), (.if_icmp .ne 9, 3, 0, [62]), (.aload_n 0, 1, 0, []), (.iconst 2, 1, 2, []), (.invokevirtual 205, 3, 0, [0, 183, 12, 1, 1, 1700, 1702, 56, 156, 1703])] := rfl
set_option maxRecDepth 100000 in
theorem q203_40 (E : mj_E) (d w c : Nat) (hi : Nat → Nat → Int32) (hl : Nat → Nat → Int64) (v1 : Int32) : mj_den mj_P E d 203 40 [Value.ref 205, Value.int v1, Value.float 0] [] (mj_hw w c hi hl) = if ¬ (hi 205 17) = (3 : Int32) then mj_den mj_P E d 203 62 [Value.ref 205, Value.int v1, Value.float 0] [] (mj_hw w c hi hl) else if ¬ (hi 205 18) = v1 then mj_den mj_P E d 203 62 [Value.ref 205, Value.int v1, Value.float 0] [] (mj_hw w c hi hl) else mj_bi (mj_dc mj_P E d 183 [Value.ref 205, Value.int (2 : Int32)] (mj_hw w c hi hl)) (fun x1 h1 => mj_den mj_P E d 203 61 [Value.ref 205, Value.int v1, Value.float 0] [Value.int x1] h1) := by
  rw [mj_den_eq, f203_40]
  exact zt_aload_n rfl rfl (zt_geti (mjkd205 _ _ _ _) rfl rfl (zt_iconst rfl (zt_icmp_ne rfl rfl (zt_aload_n rfl rfl (zt_geti (mjkd205 _ _ _ _) rfl rfl (zt_iload_n rfl rfl (zt_icmp_ne rfl rfl (zt_aload_n rfl rfl (zt_iconst rfl (zt_call0_1 rfl (mjkd205 _ _ _ _) (Nat.le_of_ble_eq_true rfl) rfl rfl))))))))))
set_option maxRecDepth 100000 in
theorem f203_61 : mj_find (mj_P 203).2.2.2.2 61 = [(.ireturn, 1, 0, [0])] := rfl
set_option maxRecDepth 100000 in
theorem q203_61 (E : mj_E) (d w c : Nat) (hi : Nat → Nat → Int32) (hl : Nat → Nat → Int64) (v1 : Int32) (s0 : Int32) : mj_den mj_P E d 203 61 [Value.ref 205, Value.int v1, Value.float 0] [Value.int s0] (mj_hw w c hi hl) = some (some (Value.int s0), (mj_hw w c hi hl)) := by
  rw [mj_den_eq, f203_61]
  exact zt_ireturn0
set_option maxRecDepth 100000 in
theorem f203_62 : mj_find (mj_P 203).2.2.2.2 62 = [(.aload_n 0, 1, 0, []), (.iconst 0, 1, 0, []), (.aload_n 0, 1, 0, []), (.getfield 134, 3, 0, [12, 6, 0, 1416]), (.iconst 1, 1, 1, []), (.isub, 1, 0, []), (.invokevirtual 256, 3, 0, [0, 198, 12, 2, 1, 1712, 1714, 59, 156, 1715])] := rfl
set_option maxRecDepth 100000 in
theorem q203_62 (E : mj_E) (d w c : Nat) (hi : Nat → Nat → Int32) (hl : Nat → Nat → Int64) (v1 : Int32) : mj_den mj_P E d 203 62 [Value.ref 205, Value.int v1, Value.float 0] [] (mj_hw w c hi hl) = mj_bi (mj_dc mj_P E d 198 [Value.ref 205, Value.int (0 : Int32), Value.int ((hi 205 6) - (1 : Int32))] (mj_hw w c hi hl)) (fun x1 h1 => mj_den mj_P E d 203 73 [Value.ref 205, Value.int v1, Value.float 0] [Value.int x1] h1) := by
  rw [mj_den_eq, f203_62]
  exact zt_aload_n rfl rfl (zt_iconst rfl (zt_aload_n rfl rfl (zt_geti (mjkd205 _ _ _ _) rfl rfl (zt_iconst rfl (zt_isub rfl (zt_call0_1 rfl (mjkd205 _ _ _ _) (Nat.le_of_ble_eq_true rfl) rfl rfl))))))
set_option maxRecDepth 100000 in
theorem f203_73 : mj_find (mj_P 203).2.2.2.2 73 = [(.istore_n 2, 1, 0, []), (.iload_n 2, 1, 0, []), (.iconst (-1), 1, (-1), []), (.if_icmp .ne 5, 3, 0, [81]), (.iconst (-1), 1, (-1), []), (.ireturn, 1, 0, [0])] := rfl
set_option maxRecDepth 100000 in
theorem q203_73 (E : mj_E) (d w c : Nat) (hi : Nat → Nat → Int32) (hl : Nat → Nat → Int64) (v1 : Int32) (s0 : Int32) : mj_den mj_P E d 203 73 [Value.ref 205, Value.int v1, Value.float 0] [Value.int s0] (mj_hw w c hi hl) = if ¬ s0 = (-1 : Int32) then mj_den mj_P E d 203 81 [Value.ref 205, Value.int v1, Value.int s0] [] (mj_hw w c hi hl) else some (some (Value.int (-1 : Int32)), (mj_hw w c hi hl)) := by
  rw [mj_den_eq, f203_73]
  exact zt_istore_n (Nat.le_of_ble_eq_true rfl) rfl rfl (zt_iload_n rfl rfl (zt_iconst rfl (zt_icmp_ne rfl rfl (zt_iconst rfl (zt_ireturn0)))))
set_option maxRecDepth 100000 in
theorem f203_81 : mj_find (mj_P 203).2.2.2.2 81 = [(.aload_n 0, 1, 0, []), (.getfield 71, 3, 0, [12, 39, 3, 1449]), (.bipush 10, 2, 10, []), (.iload_n 1, 1, 0, []), (.iadd, 1, 0, []), (.aload_n 0, 1, 0, []), (.getfield 71, 3, 0, [12, 39, 3, 1449]), (.bipush 10, 2, 10, []), (.iload_n 1, 1, 0, []), (.iadd, 1, 0, []), (.iaload, 1, 0, []), (.iconst 1, 1, 1, []), (.iload_n 2, 1, 0, []), (.ishl, 1, 0, []), (.ior, 1, 0, []), (.iastore, 1, 0, []), (.aload_n 0, 1, 0, []), (.bipush 59, 2, 59, []), (.invokevirtual 263, 3, 0, [0, 199, 12, 1, 1, 1716, 1718, 60, 156, 1719])] := rfl
set_option maxRecDepth 100000 in
theorem q203_81 (E : mj_E) (d w c : Nat) (hi : Nat → Nat → Int32) (hl : Nat → Nat → Int64) (v1 : Int32) (v2 : Int32) : mj_den mj_P E d 203 81 [Value.ref 205, Value.int v1, Value.int v2] [] (mj_hw w c hi hl) = if 0 ≤ ((10 : Int32) + v1) ∧ (((10 : Int32) + v1)).toNatClampNeg < 20 then if 0 ≤ ((10 : Int32) + v1) ∧ (((10 : Int32) + v1)).toNatClampNeg < 20 then mj_bi (mj_dc mj_P E d 199 [Value.ref 205, Value.int (59 : Int32)] (mj_hw w c (mj_u hi 225 ((((10 : Int32) + v1)).toNatClampNeg) ((hi 225 ((((10 : Int32) + v1)).toNatClampNeg)) ||| ((1 : Int32) <<< (v2 &&& 31)))) hl)) (fun x1 h1 => mj_den mj_P E d 203 109 [Value.ref 205, Value.int v1, Value.int v2] [Value.int x1] h1) else none else none := by
  rw [mj_den_eq, f203_81]
  exact zt_aload_n rfl rfl (zt_getr (mjkd205 _ _ _ _) (mjhr205_39 w c) rfl (zt_bipush rfl (zt_iload_n rfl rfl (zt_iadd rfl (zt_aload_n rfl rfl (zt_getr (mjkd205 _ _ _ _) (mjhr205_39 w c) rfl (zt_bipush rfl (zt_iload_n rfl rfl (zt_iadd rfl (zt_iald (mjkd225 _ _ _ _) (mjln225 _ _ _ _) rfl rfl (zt_iconst rfl (zt_iload_n rfl rfl (zt_ishl rfl (zt_ior rfl (zt_iast (mjkd225 _ _ _ _) (mjln225 _ _ _ _) rfl rfl (zt_aload_n rfl rfl (zt_bipush rfl (zt_call0_1 rfl (mjkd205 _ _ _ _) (Nat.le_of_ble_eq_true rfl) rfl rfl))))))))))))))))))
set_option maxRecDepth 100000 in
theorem f203_109 : mj_find (mj_P 203).2.2.2.2 109 = [(.ireturn, 1, 0, [0])] := rfl
set_option maxRecDepth 100000 in
theorem q203_109 (E : mj_E) (d w c : Nat) (hi : Nat → Nat → Int32) (hl : Nat → Nat → Int64) (v1 : Int32) (v2 : Int32) (s0 : Int32) : mj_den mj_P E d 203 109 [Value.ref 205, Value.int v1, Value.int v2] [Value.int s0] (mj_hw w c hi hl) = some (some (Value.int s0), (mj_hw w c hi hl)) := by
  rw [mj_den_eq, f203_109]
  exact zt_ireturn0
set_option maxRecDepth 100000 in
theorem f204_0 : mj_find (mj_P 204).2.2.2.2 0 = [(.iconst 0, 1, 0, []), (.istore_n 1, 1, 0, [])] := rfl
set_option maxRecDepth 100000 in
theorem q204_0 (E : mj_E) (d w c : Nat) (hi : Nat → Nat → Int32) (hl : Nat → Nat → Int64) : mj_den mj_P E d 204 0 [Value.ref 205, Value.float 0] [] (mj_hw w c hi hl) = mj_den mj_P E d 204 2 [Value.ref 205, Value.int (0 : Int32)] [] (mj_hw w c hi hl) := by
  rw [mj_den_eq, f204_0]
  exact zt_iconst rfl (zt_istore_n (Nat.le_of_ble_eq_true rfl) rfl rfl (zt_end rfl))
set_option maxRecDepth 100000 in
theorem f204_2 : mj_find (mj_P 204).2.2.2.2 2 = [(.iload_n 1, 1, 0, []), (.bipush 10, 2, 10, []), (.if_icmp .ge 19, 3, 0, [24]), (.aload_n 0, 1, 0, []), (.getfield 71, 3, 0, [12, 39, 3, 1449]), (.bipush 10, 2, 10, []), (.iload_n 1, 1, 0, []), (.iadd, 1, 0, []), (.iconst 0, 1, 0, []), (.iastore, 1, 0, []), (.iinc 1 1, 3, 1, []), (.goto (-19), 3, 0, [2])] := rfl
set_option maxRecDepth 100000 in
theorem q204_2 (E : mj_E) (d w c : Nat) (hi : Nat → Nat → Int32) (hl : Nat → Nat → Int64) (v1 : Int32) : mj_den mj_P E d 204 2 [Value.ref 205, Value.int v1] [] (mj_hw w c hi hl) = if (10 : Int32) ≤ v1 then mj_den mj_P E d 204 24 [Value.ref 205, Value.int v1] [] (mj_hw w c hi hl) else if 0 ≤ ((10 : Int32) + v1) ∧ (((10 : Int32) + v1)).toNatClampNeg < 20 then mj_den mj_P E d 204 2 [Value.ref 205, Value.int (v1 + (1 : Int32))] [] (mj_hw w c (mj_u hi 225 ((((10 : Int32) + v1)).toNatClampNeg) (0 : Int32)) hl) else none := by
  rw [mj_den_eq, f204_2]
  exact zt_iload_n rfl rfl (zt_bipush rfl (zt_icmp_ge rfl rfl (zt_aload_n rfl rfl (zt_getr (mjkd205 _ _ _ _) (mjhr205_39 w c) rfl (zt_bipush rfl (zt_iload_n rfl rfl (zt_iadd rfl (zt_iconst rfl (zt_iast (mjkd225 _ _ _ _) (mjln225 _ _ _ _) rfl rfl (zt_iinc rfl (Nat.le_of_ble_eq_true rfl) rfl rfl (zt_goto rfl)))))))))))
set_option maxRecDepth 100000 in
theorem f204_24 : mj_find (mj_P 204).2.2.2.2 24 = [(.iconst 0, 1, 0, []), (.istore_n 1, 1, 0, [])] := rfl
set_option maxRecDepth 100000 in
theorem q204_24 (E : mj_E) (d w c : Nat) (hi : Nat → Nat → Int32) (hl : Nat → Nat → Int64) (v1 : Int32) : mj_den mj_P E d 204 24 [Value.ref 205, Value.int v1] [] (mj_hw w c hi hl) = mj_den mj_P E d 204 26 [Value.ref 205, Value.int (0 : Int32)] [] (mj_hw w c hi hl) := by
  rw [mj_den_eq, f204_24]
  exact zt_iconst rfl (zt_istore_n (Nat.le_of_ble_eq_true rfl) rfl rfl (zt_end rfl))
set_option maxRecDepth 100000 in
theorem f204_26 : mj_find (mj_P 204).2.2.2.2 26 = [(.aload_n 0, 1, 0, []), (.bipush 19, 2, 19, []), (.invokevirtual 234, 3, 0, [0, 184, 12, 1, 1, 1696, 1698, 55, 156, 1699])] := rfl
set_option maxRecDepth 100000 in
theorem q204_26 (E : mj_E) (d w c : Nat) (hi : Nat → Nat → Int32) (hl : Nat → Nat → Int64) (v1 : Int32) : mj_den mj_P E d 204 26 [Value.ref 205, Value.int v1] [] (mj_hw w c hi hl) = mj_bi (mj_dc mj_P E d 184 [Value.ref 205, Value.int (19 : Int32)] (mj_hw w c hi hl)) (fun x1 h1 => mj_den mj_P E d 204 32 [Value.ref 205, Value.int v1] [Value.int x1] h1) := by
  rw [mj_den_eq, f204_26]
  exact zt_aload_n rfl rfl (zt_bipush rfl (zt_call0_1 rfl (mjkd205 _ _ _ _) (Nat.le_of_ble_eq_true rfl) rfl rfl))
set_option maxRecDepth 100000 in
theorem f204_32 : mj_find (mj_P 204).2.2.2.2 32 = [(.ifCond .eq 32, 3, 0, [64]), (.iload_n 1, 1, 0, []), (.bipush 16, 2, 16, []), (.if_icmp .ne 9, 3, 0, [47]), (.aload_n 0, 1, 0, []), (.iconst 3, 1, 3, []), (.invokevirtual 205, 3, 0, [0, 183, 12, 1, 1, 1700, 1702, 56, 156, 1703])] := rfl
set_option maxRecDepth 100000 in
theorem q204_32 (E : mj_E) (d w c : Nat) (hi : Nat → Nat → Int32) (hl : Nat → Nat → Int64) (v1 : Int32) (s0 : Int32) : mj_den mj_P E d 204 32 [Value.ref 205, Value.int v1] [Value.int s0] (mj_hw w c hi hl) = if s0 = 0 then mj_den mj_P E d 204 64 [Value.ref 205, Value.int v1] [] (mj_hw w c hi hl) else if ¬ v1 = (16 : Int32) then mj_den mj_P E d 204 47 [Value.ref 205, Value.int v1] [] (mj_hw w c hi hl) else mj_bi (mj_dc mj_P E d 183 [Value.ref 205, Value.int (3 : Int32)] (mj_hw w c hi hl)) (fun x1 h1 => mj_den mj_P E d 204 46 [Value.ref 205, Value.int v1] [Value.int x1] h1) := by
  rw [mj_den_eq, f204_32]
  exact zt_if_eq rfl rfl (zt_iload_n rfl rfl (zt_bipush rfl (zt_icmp_ne rfl rfl (zt_aload_n rfl rfl (zt_iconst rfl (zt_call0_1 rfl (mjkd205 _ _ _ _) (Nat.le_of_ble_eq_true rfl) rfl rfl))))))
set_option maxRecDepth 100000 in
theorem f204_46 : mj_find (mj_P 204).2.2.2.2 46 = [(.ireturn, 1, 0, [0])] := rfl
set_option maxRecDepth 100000 in
theorem q204_46 (E : mj_E) (d w c : Nat) (hi : Nat → Nat → Int32) (hl : Nat → Nat → Int64) (v1 : Int32) (s0 : Int32) : mj_den mj_P E d 204 46 [Value.ref 205, Value.int v1] [Value.int s0] (mj_hw w c hi hl) = some (some (Value.int s0), (mj_hw w c hi hl)) := by
  rw [mj_den_eq, f204_46]
  exact zt_ireturn0
set_option maxRecDepth 100000 in
theorem f204_47 : mj_find (mj_P 204).2.2.2.2 47 = [(.aload_n 0, 1, 0, []), (.invokevirtual 269, 3, 0, [0, 203, 12, 0, 1, 1728, 1730, 63, 156, 1731])] := rfl
set_option maxRecDepth 100000 in
theorem q204_47 (E : mj_E) (d w c : Nat) (hi : Nat → Nat → Int32) (hl : Nat → Nat → Int64) (v1 : Int32) : mj_den mj_P E d 204 47 [Value.ref 205, Value.int v1] [] (mj_hw w c hi hl) = mj_bi (mj_dc mj_P E d 203 [Value.ref 205] (mj_hw w c hi hl)) (fun x1 h1 => mj_den mj_P E d 204 51 [Value.ref 205, Value.int v1] [Value.int x1] h1) := by
  rw [mj_den_eq, f204_47]
  exact zt_aload_n rfl rfl (zt_call0_1 rfl (mjkd205 _ _ _ _) (Nat.le_of_ble_eq_true rfl) rfl rfl)
set_option maxRecDepth 100000 in
theorem f204_51 : mj_find (mj_P 204).2.2.2.2 51 = [(.iconst (-1), 1, (-1), []), (.if_icmp .ne 5, 3, 0, [57]), (.iconst (-1), 1, (-1), []), (.ireturn, 1, 0, [0])] := rfl
set_option maxRecDepth 100000 in
theorem q204_51 (E : mj_E) (d w c : Nat) (hi : Nat → Nat → Int32) (hl : Nat → Nat → Int64) (v1 : Int32) (s0 : Int32) : mj_den mj_P E d 204 51 [Value.ref 205, Value.int v1] [Value.int s0] (mj_hw w c hi hl) = if ¬ s0 = (-1 : Int32) then mj_den mj_P E d 204 57 [Value.ref 205, Value.int v1] [] (mj_hw w c hi hl) else some (some (Value.int (-1 : Int32)), (mj_hw w c hi hl)) := by
  rw [mj_den_eq, f204_51]
  exact zt_iconst rfl (zt_icmp_ne rfl rfl (zt_iconst rfl (zt_ireturn0)))
set_option maxRecDepth 100000 in
theorem f204_57 : mj_find (mj_P 204).2.2.2.2 57 = [(.iload_n 1, 1, 0, []), (.iconst 1, 1, 1, []), (.iadd, 1, 0, []), (.istore_n 1, 1, 0, []), (.goto (-35), 3, 0, [26])] := rfl
set_option maxRecDepth 100000 in
theorem q204_57 (E : mj_E) (d w c : Nat) (hi : Nat → Nat → Int32) (hl : Nat → Nat → Int64) (v1 : Int32) : mj_den mj_P E d 204 57 [Value.ref 205, Value.int v1] [] (mj_hw w c hi hl) = mj_den mj_P E d 204 26 [Value.ref 205, Value.int (v1 + (1 : Int32))] [] (mj_hw w c hi hl) := by
  rw [mj_den_eq, f204_57]
  exact zt_iload_n rfl rfl (zt_iconst rfl (zt_iadd rfl (zt_istore_n (Nat.le_of_ble_eq_true rfl) rfl rfl (zt_goto rfl))))
set_option maxRecDepth 100000 in
theorem f204_64 : mj_find (mj_P 204).2.2.2.2 64 = [(.aload_n 0, 1, 0, []), (.getfield 174, 3, 0, [12, 17, 0, 1427]), (.ifCond .ne 7, 3, 0, [75]), (.iload_n 1, 1, 0, []), (.goto 8, 3, 0, [80])] := rfl
set_option maxRecDepth 100000 in
theorem q204_64 (E : mj_E) (d w c : Nat) (hi : Nat → Nat → Int32) (hl : Nat → Nat → Int64) (v1 : Int32) : mj_den mj_P E d 204 64 [Value.ref 205, Value.int v1] [] (mj_hw w c hi hl) = if ¬ (hi 205 17) = 0 then mj_den mj_P E d 204 75 [Value.ref 205, Value.int v1] [] (mj_hw w c hi hl) else mj_den mj_P E d 204 80 [Value.ref 205, Value.int v1] [Value.int v1] (mj_hw w c hi hl) := by
  rw [mj_den_eq, f204_64]
  exact zt_aload_n rfl rfl (zt_geti (mjkd205 _ _ _ _) rfl rfl (zt_if_ne rfl rfl (zt_iload_n rfl rfl (zt_goto rfl))))
set_option maxRecDepth 100000 in
theorem f204_75 : mj_find (mj_P 204).2.2.2.2 75 = [(.aload_n 0, 1, 0, []), (.iconst 1, 1, 1, []), (.invokevirtual 205, 3, 0, [0, 183, 12, 1, 1, 1700, 1702, 56, 156, 1703])] := rfl
set_option maxRecDepth 100000 in
theorem q204_75 (E : mj_E) (d w c : Nat) (hi : Nat → Nat → Int32) (hl : Nat → Nat → Int64) (v1 : Int32) : mj_den mj_P E d 204 75 [Value.ref 205, Value.int v1] [] (mj_hw w c hi hl) = mj_bi (mj_dc mj_P E d 183 [Value.ref 205, Value.int (1 : Int32)] (mj_hw w c hi hl)) (fun x1 h1 => mj_den mj_P E d 204 80 [Value.ref 205, Value.int v1] [Value.int x1] h1) := by
  rw [mj_den_eq, f204_75]
  exact zt_aload_n rfl rfl (zt_iconst rfl (zt_call0_1 rfl (mjkd205 _ _ _ _) (Nat.le_of_ble_eq_true rfl) rfl rfl))
set_option maxRecDepth 100000 in
theorem f204_80 : mj_find (mj_P 204).2.2.2.2 80 = [(.ireturn, 1, 0, [0])] := rfl
set_option maxRecDepth 100000 in
theorem q204_80 (E : mj_E) (d w c : Nat) (hi : Nat → Nat → Int32) (hl : Nat → Nat → Int64) (v1 : Int32) (s0 : Int32) : mj_den mj_P E d 204 80 [Value.ref 205, Value.int v1] [Value.int s0] (mj_hw w c hi hl) = some (some (Value.int s0), (mj_hw w c hi hl)) := by
  rw [mj_den_eq, f204_80]
  exact zt_ireturn0
set_option maxRecDepth 100000 in
theorem f205_0 : mj_find (mj_P 205).2.2.2.2 0 = [(.aload_n 0, 1, 0, []), (.bipush 21, 2, 21, []), (.invokevirtual 234, 3, 0, [0, 184, 12, 1, 1, 1696, 1698, 55, 156, 1699])] := rfl
set_option maxRecDepth 100000 in
theorem q205_0 (E : mj_E) (d w c : Nat) (hi : Nat → Nat → Int32) (hl : Nat → Nat → Int64) (v1 : Int32) : mj_den mj_P E d 205 0 [Value.ref 205, Value.int v1, Value.float 0] [] (mj_hw w c hi hl) = mj_bi (mj_dc mj_P E d 184 [Value.ref 205, Value.int (21 : Int32)] (mj_hw w c hi hl)) (fun x1 h1 => mj_den mj_P E d 205 6 [Value.ref 205, Value.int v1, Value.float 0] [Value.int x1] h1) := by
  rw [mj_den_eq, f205_0]
  exact zt_aload_n rfl rfl (zt_bipush rfl (zt_call0_1 rfl (mjkd205 _ _ _ _) (Nat.le_of_ble_eq_true rfl) rfl rfl))
set_option maxRecDepth 100000 in
theorem f205_6 : mj_find (mj_P 205).2.2.2.2 6 = [(.ifCond .eq 7, 3, 0, [13]), (.iconst 0, 1, 0, []), (.goto 17, 3, 0, [27])] := rfl
set_option maxRecDepth 100000 in
theorem q205_6 (E : mj_E) (d w c : Nat) (hi : Nat → Nat → Int32) (hl : Nat → Nat → Int64) (v1 : Int32) (s0 : Int32) : mj_den mj_P E d 205 6 [Value.ref 205, Value.int v1, Value.float 0] [Value.int s0] (mj_hw w c hi hl) = if s0 = 0 then mj_den mj_P E d 205 13 [Value.ref 205, Value.int v1, Value.float 0] [] (mj_hw w c hi hl) else mj_den mj_P E d 205 27 [Value.ref 205, Value.int v1, Value.float 0] [Value.int (0 : Int32)] (mj_hw w c hi hl) := by
  rw [mj_den_eq, f205_6]
  exact zt_if_eq rfl rfl (zt_iconst rfl (zt_goto rfl))
set_option maxRecDepth 100000 in
theorem f205_13 : mj_find (mj_P 205).2.2.2.2 13 = [(.aload_n 0, 1, 0, []), (.bipush 23, 2, 23, []), (.invokevirtual 234, 3, 0, [0, 184, 12, 1, 1, 1696, 1698, 55, 156, 1699])] := rfl
set_option maxRecDepth 100000 in
theorem q205_13 (E : mj_E) (d w c : Nat) (hi : Nat → Nat → Int32) (hl : Nat → Nat → Int64) (v1 : Int32) : mj_den mj_P E d 205 13 [Value.ref 205, Value.int v1, Value.float 0] [] (mj_hw w c hi hl) = mj_bi (mj_dc mj_P E d 184 [Value.ref 205, Value.int (23 : Int32)] (mj_hw w c hi hl)) (fun x1 h1 => mj_den mj_P E d 205 19 [Value.ref 205, Value.int v1, Value.float 0] [Value.int x1] h1) := by
  rw [mj_den_eq, f205_13]
  exact zt_aload_n rfl rfl (zt_bipush rfl (zt_call0_1 rfl (mjkd205 _ _ _ _) (Nat.le_of_ble_eq_true rfl) rfl rfl))
set_option maxRecDepth 100000 in
theorem f205_19 : mj_find (mj_P 205).2.2.2.2 19 = [(.ifCond .eq 7, 3, 0, [26]), (.iconst 1, 1, 1, []), (.goto 4, 3, 0, [27])] := rfl
set_option maxRecDepth 100000 in
theorem q205_19 (E : mj_E) (d w c : Nat) (hi : Nat → Nat → Int32) (hl : Nat → Nat → Int64) (v1 : Int32) (s0 : Int32) : mj_den mj_P E d 205 19 [Value.ref 205, Value.int v1, Value.float 0] [Value.int s0] (mj_hw w c hi hl) = if s0 = 0 then mj_den mj_P E d 205 26 [Value.ref 205, Value.int v1, Value.float 0] [] (mj_hw w c hi hl) else mj_den mj_P E d 205 27 [Value.ref 205, Value.int v1, Value.float 0] [Value.int (1 : Int32)] (mj_hw w c hi hl) := by
  rw [mj_den_eq, f205_19]
  exact zt_if_eq rfl rfl (zt_iconst rfl (zt_goto rfl))
set_option maxRecDepth 100000 in
theorem f205_26 : mj_find (mj_P 205).2.2.2.2 26 = [(.iconst 2, 1, 2, [])] := rfl
set_option maxRecDepth 100000 in
theorem q205_26 (E : mj_E) (d w c : Nat) (hi : Nat → Nat → Int32) (hl : Nat → Nat → Int64) (v1 : Int32) : mj_den mj_P E d 205 26 [Value.ref 205, Value.int v1, Value.float 0] [] (mj_hw w c hi hl) = mj_den mj_P E d 205 27 [Value.ref 205, Value.int v1, Value.float 0] [Value.int (2 : Int32)] (mj_hw w c hi hl) := by
  rw [mj_den_eq, f205_26]
  exact zt_iconst rfl (zt_end rfl)
set_option maxRecDepth 100000 in
theorem f205_27 : mj_find (mj_P 205).2.2.2.2 27 = [(.istore_n 2, 1, 0, []), (.aload_n 0, 1, 0, []), (.invokevirtual 212, 3, 0, [0, 182, 12, 0, 0, 1668, 1670, 48, 156, 1671])] := rfl
set_option maxRecDepth 100000 in
theorem q205_27 (E : mj_E) (d w c : Nat) (hi : Nat → Nat → Int32) (hl : Nat → Nat → Int64) (v1 : Int32) (s0 : Int32) : mj_den mj_P E d 205 27 [Value.ref 205, Value.int v1, Value.float 0] [Value.int s0] (mj_hw w c hi hl) = mj_bv (mj_dc mj_P E d 182 [Value.ref 205] (mj_hw w c hi hl)) (fun h1 => mj_den mj_P E d 205 32 [Value.ref 205, Value.int v1, Value.int s0] [] h1) := by
  rw [mj_den_eq, f205_27]
  exact zt_istore_n (Nat.le_of_ble_eq_true rfl) rfl rfl (zt_aload_n rfl rfl (zt_call0_0 rfl (mjkd205 _ _ _ _) (Nat.le_of_ble_eq_true rfl) rfl rfl))
set_option maxRecDepth 100000 in
theorem f205_32 : mj_find (mj_P 205).2.2.2.2 32 = [(.aload_n 0, 1, 0, []), (.getfield 74, 3, 0, [12, 41, 3, 1451]), (.iload_n 1, 1, 0, []), (.iload_n 2, 1, 0, []), (.iastore, 1, 0, []), (.aload_n 0, 1, 0, []), (.getfield 74, 3, 0, [12, 41, 3, 1451]), (.iload_n 1, 1, 0, []), (.iconst 1, 1, 1, []), (.iadd, 1, 0, []), (.aload_n 0, 1, 0, []), (.iconst 0, 1, 0, []), (.iload_n 2, 1, 0, []), (.ifCond .ne 12, 3, 0, [61]), (.aload_n 0, 1, 0, []), (.getfield 137, 3, 0, [12, 7, 0, 1417]), (.iconst 1, 1, 1, []), (.isub, 1, 0, []), (.goto 9, 3, 0, [67])] := rfl
set_option maxRecDepth 100000 in
theorem q205_32 (E : mj_E) (d w c : Nat) (hi : Nat → Nat → Int32) (hl : Nat → Nat → Int64) (v1 : Int32) (v2 : Int32) : mj_den mj_P E d 205 32 [Value.ref 205, Value.int v1, Value.int v2] [] (mj_hw w c hi hl) = if 0 ≤ v1 ∧ (v1).toNatClampNeg < 96 then if ¬ v2 = 0 then mj_den mj_P E d 205 61 [Value.ref 205, Value.int v1, Value.int v2] [Value.int (0 : Int32), Value.ref 205, Value.int (v1 + (1 : Int32)), Value.ref 226] (mj_hw w c (mj_u hi 226 ((v1).toNatClampNeg) v2) hl) else mj_den mj_P E d 205 67 [Value.ref 205, Value.int v1, Value.int v2] [Value.int ((hi 205 7) - (1 : Int32)), Value.int (0 : Int32), Value.ref 205, Value.int (v1 + (1 : Int32)), Value.ref 226] (mj_hw w c (mj_u hi 226 ((v1).toNatClampNeg) v2) hl) else none := by
  rw [mj_den_eq, f205_32]
  exact zt_aload_n rfl rfl (zt_getr (mjkd205 _ _ _ _) (mjhr205_41 w c) rfl (zt_iload_n rfl rfl (zt_iload_n rfl rfl (zt_iast (mjkd226 _ _ _ _) (mjln226 _ _ _ _) rfl rfl (zt_aload_n rfl rfl (zt_getr (mjkd205 _ _ _ _) (mjhr205_41 w c) rfl (zt_iload_n rfl rfl (zt_iconst rfl (zt_iadd rfl (zt_aload_n rfl rfl (zt_iconst rfl (zt_iload_n rfl rfl (zt_if_ne rfl rfl (zt_aload_n rfl rfl (zt_geti (mjkd205 _ _ _ _) rfl rfl (zt_iconst rfl (zt_isub rfl (zt_goto rfl))))))))))))))))))
set_option maxRecDepth 100000 in
theorem f205_61 : mj_find (mj_P 205).2.2.2.2 61 = [(.aload_n 0, 1, 0, []), (.getfield 134, 3, 0, [12, 6, 0, 1416]), (.iconst 1, 1, 1, []), (.isub, 1, 0, [])] := rfl
set_option maxRecDepth 100000 in
theorem q205_61 (E : mj_E) (d w c : Nat) (hi : Nat → Nat → Int32) (hl : Nat → Nat → Int64) (v1 : Int32) (v2 : Int32) (s0 : Int32) (s2 : Int32) : mj_den mj_P E d 205 61 [Value.ref 205, Value.int v1, Value.int v2] [Value.int s0, Value.ref 205, Value.int s2, Value.ref 226] (mj_hw w c hi hl) = mj_den mj_P E d 205 67 [Value.ref 205, Value.int v1, Value.int v2] [Value.int ((hi 205 6) - (1 : Int32)), Value.int s0, Value.ref 205, Value.int s2, Value.ref 226] (mj_hw w c hi hl) := by
  rw [mj_den_eq, f205_61]
  exact zt_aload_n rfl rfl (zt_geti (mjkd205 _ _ _ _) rfl rfl (zt_iconst rfl (zt_isub rfl (zt_end rfl))))
set_option maxRecDepth 100000 in
theorem f205_67 : mj_find (mj_P 205).2.2.2.2 67 = [(.invokevirtual 256, 3, 0, [0, 198, 12, 2, 1, 1712, 1714, 59, 156, 1715])] := rfl
set_option maxRecDepth 100000 in
theorem q205_67 (E : mj_E) (d w c : Nat) (hi : Nat → Nat → Int32) (hl : Nat → Nat → Int64) (v1 : Int32) (v2 : Int32) (s0 : Int32) (s1 : Int32) (s3 : Int32) : mj_den mj_P E d 205 67 [Value.ref 205, Value.int v1, Value.int v2] [Value.int s0, Value.int s1, Value.ref 205, Value.int s3, Value.ref 226] (mj_hw w c hi hl) = mj_bi (mj_dc mj_P E d 198 [Value.ref 205, Value.int s1, Value.int s0] (mj_hw w c hi hl)) (fun x1 h1 => mj_den mj_P E d 205 70 [Value.ref 205, Value.int v1, Value.int v2] [Value.int x1, Value.int s3, Value.ref 226] h1) := by
  rw [mj_den_eq, f205_67]
  exact zt_call0_1 rfl (mjkd205 _ _ _ _) (Nat.le_of_ble_eq_true rfl) rfl rfl
set_option maxRecDepth 100000 in
theorem f205_70 : mj_find (mj_P 205).2.2.2.2 70 = [(.iastore, 1, 0, []), (.aload_n 0, 1, 0, []), (.getfield 74, 3, 0, [12, 41, 3, 1451]), (.iload_n 1, 1, 0, []), (.iconst 1, 1, 1, []), (.iadd, 1, 0, []), (.iaload, 1, 0, []), (.iconst (-1), 1, (-1), []), (.if_icmp .ne 5, 3, 0, [85]), (.iconst (-1), 1, (-1), []), (.ireturn, 1, 0, [0])] := rfl
set_option maxRecDepth 100000 in
theorem q205_70 (E : mj_E) (d w c : Nat) (hi : Nat → Nat → Int32) (hl : Nat → Nat → Int64) (v1 : Int32) (v2 : Int32) (s0 : Int32) (s1 : Int32) : mj_den mj_P E d 205 70 [Value.ref 205, Value.int v1, Value.int v2] [Value.int s0, Value.int s1, Value.ref 226] (mj_hw w c hi hl) = if 0 ≤ s1 ∧ (s1).toNatClampNeg < 96 then if 0 ≤ (v1 + (1 : Int32)) ∧ ((v1 + (1 : Int32))).toNatClampNeg < 96 then if ¬ ((mj_u hi 226 ((s1).toNatClampNeg) s0) 226 (((v1 + (1 : Int32))).toNatClampNeg)) = (-1 : Int32) then mj_den mj_P E d 205 85 [Value.ref 205, Value.int v1, Value.int v2] [] (mj_hw w c (mj_u hi 226 ((s1).toNatClampNeg) s0) hl) else some (some (Value.int (-1 : Int32)), (mj_hw w c (mj_u hi 226 ((s1).toNatClampNeg) s0) hl)) else none else none := by
  rw [mj_den_eq, f205_70]
  exact zt_iast (mjkd226 _ _ _ _) (mjln226 _ _ _ _) rfl rfl (zt_aload_n rfl rfl (zt_getr (mjkd205 _ _ _ _) (mjhr205_41 w c) rfl (zt_iload_n rfl rfl (zt_iconst rfl (zt_iadd rfl (zt_iald (mjkd226 _ _ _ _) (mjln226 _ _ _ _) rfl rfl (zt_iconst rfl (zt_icmp_ne rfl rfl (zt_iconst rfl (zt_ireturn0))))))))))
set_option maxRecDepth 100000 in
theorem f205_85 : mj_find (mj_P 205).2.2.2.2 85 = [(.aload_n 0, 1, 0, []), (.getfield 74, 3, 0, [12, 41, 3, 1451]), (.iload_n 1, 1, 0, []), (.iconst 2, 1, 2, []), (.iadd, 1, 0, []), (.iconst 0, 1, 0, []), (.iastore, 1, 0, []), (.iload_n 2, 1, 0, []), (.ifCond .ne 47, 3, 0, [142]), (.aload_n 0, 1, 0, []), (.bipush 15, 2, 15, []), (.invokevirtual 234, 3, 0, [0, 184, 12, 1, 1, 1696, 1698, 55, 156, 1699])] := rfl
set_option maxRecDepth 100000 in
theorem q205_85 (E : mj_E) (d w c : Nat) (hi : Nat → Nat → Int32) (hl : Nat → Nat → Int64) (v1 : Int32) (v2 : Int32) : mj_den mj_P E d 205 85 [Value.ref 205, Value.int v1, Value.int v2] [] (mj_hw w c hi hl) = if 0 ≤ (v1 + (2 : Int32)) ∧ ((v1 + (2 : Int32))).toNatClampNeg < 96 then if ¬ v2 = 0 then mj_den mj_P E d 205 142 [Value.ref 205, Value.int v1, Value.int v2] [] (mj_hw w c (mj_u hi 226 (((v1 + (2 : Int32))).toNatClampNeg) (0 : Int32)) hl) else mj_bi (mj_dc mj_P E d 184 [Value.ref 205, Value.int (15 : Int32)] (mj_hw w c (mj_u hi 226 (((v1 + (2 : Int32))).toNatClampNeg) (0 : Int32)) hl)) (fun x1 h1 => mj_den mj_P E d 205 104 [Value.ref 205, Value.int v1, Value.int v2] [Value.int x1] h1) else none := by
  rw [mj_den_eq, f205_85]
  exact zt_aload_n rfl rfl (zt_getr (mjkd205 _ _ _ _) (mjhr205_41 w c) rfl (zt_iload_n rfl rfl (zt_iconst rfl (zt_iadd rfl (zt_iconst rfl (zt_iast (mjkd226 _ _ _ _) (mjln226 _ _ _ _) rfl rfl (zt_iload_n rfl rfl (zt_if_ne rfl rfl (zt_aload_n rfl rfl (zt_bipush rfl (zt_call0_1 rfl (mjkd205 _ _ _ _) (Nat.le_of_ble_eq_true rfl) rfl rfl)))))))))))
set_option maxRecDepth 100000 in
theorem f205_104 : mj_find (mj_P 205).2.2.2.2 104 = [(.ifCond .ne 12, 3, 0, [116]), (.aload_n 0, 1, 0, []), (.bipush 22, 2, 22, []), (.invokevirtual 234, 3, 0, [0, 184, 12, 1, 1, 1696, 1698, 55, 156, 1699])] := rfl
set_option maxRecDepth 100000 in
theorem q205_104 (E : mj_E) (d w c : Nat) (hi : Nat → Nat → Int32) (hl : Nat → Nat → Int64) (v1 : Int32) (v2 : Int32) (s0 : Int32) : mj_den mj_P E d 205 104 [Value.ref 205, Value.int v1, Value.int v2] [Value.int s0] (mj_hw w c hi hl) = if ¬ s0 = 0 then mj_den mj_P E d 205 116 [Value.ref 205, Value.int v1, Value.int v2] [] (mj_hw w c hi hl) else mj_bi (mj_dc mj_P E d 184 [Value.ref 205, Value.int (22 : Int32)] (mj_hw w c hi hl)) (fun x1 h1 => mj_den mj_P E d 205 113 [Value.ref 205, Value.int v1, Value.int v2] [Value.int x1] h1) := by
  rw [mj_den_eq, f205_104]
  exact zt_if_ne rfl rfl (zt_aload_n rfl rfl (zt_bipush rfl (zt_call0_1 rfl (mjkd205 _ _ _ _) (Nat.le_of_ble_eq_true rfl) rfl rfl)))
set_option maxRecDepth 100000 in
theorem f205_113 : mj_find (mj_P 205).2.2.2.2 113 = [(.ifCond .eq 29, 3, 0, [142])] := rfl
set_option maxRecDepth 100000 in
theorem q205_113 (E : mj_E) (d w c : Nat) (hi : Nat → Nat → Int32) (hl : Nat → Nat → Int64) (v1 : Int32) (v2 : Int32) (s0 : Int32) : mj_den mj_P E d 205 113 [Value.ref 205, Value.int v1, Value.int v2] [Value.int s0] (mj_hw w c hi hl) = if s0 = 0 then mj_den mj_P E d 205 142 [Value.ref 205, Value.int v1, Value.int v2] [] (mj_hw w c hi hl) else mj_den mj_P E d 205 116 [Value.ref 205, Value.int v1, Value.int v2] [] (mj_hw w c hi hl) := by
  rw [mj_den_eq, f205_113]
  exact zt_if_eq rfl rfl (zt_end rfl)
set_option maxRecDepth 100000 in
theorem f205_116 : mj_find (mj_P 205).2.2.2.2 116 = [(.aload_n 0, 1, 0, []), (.getfield 74, 3, 0, [12, 41, 3, 1451]), (.iload_n 1, 1, 0, []), (.iconst 2, 1, 2, []), (.iadd, 1, 0, []), (.aload_n 0, 1, 0, []), (.bipush 15, 2, 15, []), (.invokevirtual 234, 3, 0, [0, 184, 12, 1, 1, 1696, 1698, 55, 156, 1699])] := rfl
set_option maxRecDepth 100000 in
theorem q205_116 (E : mj_E) (d w c : Nat) (hi : Nat → Nat → Int32) (hl : Nat → Nat → Int64) (v1 : Int32) (v2 : Int32) : mj_den mj_P E d 205 116 [Value.ref 205, Value.int v1, Value.int v2] [] (mj_hw w c hi hl) = mj_bi (mj_dc mj_P E d 184 [Value.ref 205, Value.int (15 : Int32)] (mj_hw w c hi hl)) (fun x1 h1 => mj_den mj_P E d 205 129 [Value.ref 205, Value.int v1, Value.int v2] [Value.int x1, Value.int (v1 + (2 : Int32)), Value.ref 226] h1) := by
  rw [mj_den_eq, f205_116]
  exact zt_aload_n rfl rfl (zt_getr (mjkd205 _ _ _ _) (mjhr205_41 w c) rfl (zt_iload_n rfl rfl (zt_iconst rfl (zt_iadd rfl (zt_aload_n rfl rfl (zt_bipush rfl (zt_call0_1 rfl (mjkd205 _ _ _ _) (Nat.le_of_ble_eq_true rfl) rfl rfl)))))))
set_option maxRecDepth 100000 in
theorem f205_129 : mj_find (mj_P 205).2.2.2.2 129 = [(.ifCond .eq 7, 3, 0, [136]), (.iconst 1, 1, 1, []), (.goto 4, 3, 0, [137])] := rfl
set_option maxRecDepth 100000 in
theorem q205_129 (E : mj_E) (d w c : Nat) (hi : Nat → Nat → Int32) (hl : Nat → Nat → Int64) (v1 : Int32) (v2 : Int32) (s0 : Int32) (s1 : Int32) : mj_den mj_P E d 205 129 [Value.ref 205, Value.int v1, Value.int v2] [Value.int s0, Value.int s1, Value.ref 226] (mj_hw w c hi hl) = if s0 = 0 then mj_den mj_P E d 205 136 [Value.ref 205, Value.int v1, Value.int v2] [Value.int s1, Value.ref 226] (mj_hw w c hi hl) else mj_den mj_P E d 205 137 [Value.ref 205, Value.int v1, Value.int v2] [Value.int (1 : Int32), Value.int s1, Value.ref 226] (mj_hw w c hi hl) := by
  rw [mj_den_eq, f205_129]
  exact zt_if_eq rfl rfl (zt_iconst rfl (zt_goto rfl))
set_option maxRecDepth 100000 in
theorem f205_136 : mj_find (mj_P 205).2.2.2.2 136 = [(.iconst 2, 1, 2, [])] := rfl
set_option maxRecDepth 100000 in
theorem q205_136 (E : mj_E) (d w c : Nat) (hi : Nat → Nat → Int32) (hl : Nat → Nat → Int64) (v1 : Int32) (v2 : Int32) (s0 : Int32) : mj_den mj_P E d 205 136 [Value.ref 205, Value.int v1, Value.int v2] [Value.int s0, Value.ref 226] (mj_hw w c hi hl) = mj_den mj_P E d 205 137 [Value.ref 205, Value.int v1, Value.int v2] [Value.int (2 : Int32), Value.int s0, Value.ref 226] (mj_hw w c hi hl) := by
  rw [mj_den_eq, f205_136]
  exact zt_iconst rfl (zt_end rfl)
set_option maxRecDepth 100000 in
theorem f205_137 : mj_find (mj_P 205).2.2.2.2 137 = [(.iastore, 1, 0, []), (.aload_n 0, 1, 0, []), (.invokevirtual 212, 3, 0, [0, 182, 12, 0, 0, 1668, 1670, 48, 156, 1671])] := rfl
set_option maxRecDepth 100000 in
theorem q205_137 (E : mj_E) (d w c : Nat) (hi : Nat → Nat → Int32) (hl : Nat → Nat → Int64) (v1 : Int32) (v2 : Int32) (s0 : Int32) (s1 : Int32) : mj_den mj_P E d 205 137 [Value.ref 205, Value.int v1, Value.int v2] [Value.int s0, Value.int s1, Value.ref 226] (mj_hw w c hi hl) = if 0 ≤ s1 ∧ (s1).toNatClampNeg < 96 then mj_bv (mj_dc mj_P E d 182 [Value.ref 205] (mj_hw w c (mj_u hi 226 ((s1).toNatClampNeg) s0) hl)) (fun h1 => mj_den mj_P E d 205 142 [Value.ref 205, Value.int v1, Value.int v2] [] h1) else none := by
  rw [mj_den_eq, f205_137]
  exact zt_iast (mjkd226 _ _ _ _) (mjln226 _ _ _ _) rfl rfl (zt_aload_n rfl rfl (zt_call0_0 rfl (mjkd205 _ _ _ _) (Nat.le_of_ble_eq_true rfl) rfl rfl))
set_option maxRecDepth 100000 in
theorem f205_142 : mj_find (mj_P 205).2.2.2.2 142 = [(.aload_n 0, 1, 0, []), (.bipush 59, 2, 59, []), (.invokevirtual 263, 3, 0, [0, 199, 12, 1, 1, 1716, 1718, 60, 156, 1719])] := rfl
set_option maxRecDepth 100000 in
theorem q205_142 (E : mj_E) (d w c : Nat) (hi : Nat → Nat → Int32) (hl : Nat → Nat → Int64) (v1 : Int32) (v2 : Int32) : mj_den mj_P E d 205 142 [Value.ref 205, Value.int v1, Value.int v2] [] (mj_hw w c hi hl) = mj_bi (mj_dc mj_P E d 199 [Value.ref 205, Value.int (59 : Int32)] (mj_hw w c hi hl)) (fun x1 h1 => mj_den mj_P E d 205 148 [Value.ref 205, Value.int v1, Value.int v2] [Value.int x1] h1) := by
  rw [mj_den_eq, f205_142]
  exact zt_aload_n rfl rfl (zt_bipush rfl (zt_call0_1 rfl (mjkd205 _ _ _ _) (Nat.le_of_ble_eq_true rfl) rfl rfl))
set_option maxRecDepth 100000 in
theorem f205_148 : mj_find (mj_P 205).2.2.2.2 148 = [(.ireturn, 1, 0, [0])] := rfl
set_option maxRecDepth 100000 in
theorem q205_148 (E : mj_E) (d w c : Nat) (hi : Nat → Nat → Int32) (hl : Nat → Nat → Int64) (v1 : Int32) (v2 : Int32) (s0 : Int32) : mj_den mj_P E d 205 148 [Value.ref 205, Value.int v1, Value.int v2] [Value.int s0] (mj_hw w c hi hl) = some (some (Value.int s0), (mj_hw w c hi hl)) := by
  rw [mj_den_eq, f205_148]
  exact zt_ireturn0
set_option maxRecDepth 100000 in
theorem f206_0 : mj_find (mj_P 206).2.2.2.2 0 = [(.iconst 0, 1, 0, []), (.istore_n 1, 1, 0, [])] := rfl
set_option maxRecDepth 100000 in
theorem q206_0 (E : mj_E) (d w c : Nat) (hi : Nat → Nat → Int32) (hl : Nat → Nat → Int64) : mj_den mj_P E d 206 0 [Value.ref 205, Value.float 0] [] (mj_hw w c hi hl) = mj_den mj_P E d 206 2 [Value.ref 205, Value.int (0 : Int32)] [] (mj_hw w c hi hl) := by
  rw [mj_den_eq, f206_0]
  exact zt_iconst rfl (zt_istore_n (Nat.le_of_ble_eq_true rfl) rfl rfl (zt_end rfl))
set_option maxRecDepth 100000 in
theorem f206_2 : mj_find (mj_P 206).2.2.2.2 2 = [(.aload_n 0, 1, 0, []), (.bipush 21, 2, 21, []), (.invokevirtual 234, 3, 0, [0, 184, 12, 1, 1, 1696, 1698, 55, 156, 1699])] := rfl
set_option maxRecDepth 100000 in
theorem q206_2 (E : mj_E) (d w c : Nat) (hi : Nat → Nat → Int32) (hl : Nat → Nat → Int64) (v1 : Int32) : mj_den mj_P E d 206 2 [Value.ref 205, Value.int v1] [] (mj_hw w c hi hl) = mj_bi (mj_dc mj_P E d 184 [Value.ref 205, Value.int (21 : Int32)] (mj_hw w c hi hl)) (fun x1 h1 => mj_den mj_P E d 206 8 [Value.ref 205, Value.int v1] [Value.int x1] h1) := by
  rw [mj_den_eq, f206_2]
  exact zt_aload_n rfl rfl (zt_bipush rfl (zt_call0_1 rfl (mjkd205 _ _ _ _) (Nat.le_of_ble_eq_true rfl) rfl rfl))
set_option maxRecDepth 100000 in
theorem f206_8 : mj_find (mj_P 206).2.2.2.2 8 = [(.ifCond .ne 21, 3, 0, [29]), (.aload_n 0, 1, 0, []), (.bipush 23, 2, 23, []), (.invokevirtual 234, 3, 0, [0, 184, 12, 1, 1, 1696, 1698, 55, 156, 1699])] := rfl
set_option maxRecDepth 100000 in
theorem q206_8 (E : mj_E) (d w c : Nat) (hi : Nat → Nat → Int32) (hl : Nat → Nat → Int64) (v1 : Int32) (s0 : Int32) : mj_den mj_P E d 206 8 [Value.ref 205, Value.int v1] [Value.int s0] (mj_hw w c hi hl) = if ¬ s0 = 0 then mj_den mj_P E d 206 29 [Value.ref 205, Value.int v1] [] (mj_hw w c hi hl) else mj_bi (mj_dc mj_P E d 184 [Value.ref 205, Value.int (23 : Int32)] (mj_hw w c hi hl)) (fun x1 h1 => mj_den mj_P E d 206 17 [Value.ref 205, Value.int v1] [Value.int x1] h1) := by
  rw [mj_den_eq, f206_8]
  exact zt_if_ne rfl rfl (zt_aload_n rfl rfl (zt_bipush rfl (zt_call0_1 rfl (mjkd205 _ _ _ _) (Nat.le_of_ble_eq_true rfl) rfl rfl)))
set_option maxRecDepth 100000 in
theorem f206_17 : mj_find (mj_P 206).2.2.2.2 17 = [(.ifCond .ne 12, 3, 0, [29]), (.aload_n 0, 1, 0, []), (.bipush 24, 2, 24, []), (.invokevirtual 234, 3, 0, [0, 184, 12, 1, 1, 1696, 1698, 55, 156, 1699])] := rfl
set_option maxRecDepth 100000 in
theorem q206_17 (E : mj_E) (d w c : Nat) (hi : Nat → Nat → Int32) (hl : Nat → Nat → Int64) (v1 : Int32) (s0 : Int32) : mj_den mj_P E d 206 17 [Value.ref 205, Value.int v1] [Value.int s0] (mj_hw w c hi hl) = if ¬ s0 = 0 then mj_den mj_P E d 206 29 [Value.ref 205, Value.int v1] [] (mj_hw w c hi hl) else mj_bi (mj_dc mj_P E d 184 [Value.ref 205, Value.int (24 : Int32)] (mj_hw w c hi hl)) (fun x1 h1 => mj_den mj_P E d 206 26 [Value.ref 205, Value.int v1] [Value.int x1] h1) := by
  rw [mj_den_eq, f206_17]
  exact zt_if_ne rfl rfl (zt_aload_n rfl rfl (zt_bipush rfl (zt_call0_1 rfl (mjkd205 _ _ _ _) (Nat.le_of_ble_eq_true rfl) rfl rfl)))
set_option maxRecDepth 100000 in
theorem f206_26 : mj_find (mj_P 206).2.2.2.2 26 = [(.ifCond .eq 38, 3, 0, [64])] := rfl
set_option maxRecDepth 100000 in
theorem q206_26 (E : mj_E) (d w c : Nat) (hi : Nat → Nat → Int32) (hl : Nat → Nat → Int64) (v1 : Int32) (s0 : Int32) : mj_den mj_P E d 206 26 [Value.ref 205, Value.int v1] [Value.int s0] (mj_hw w c hi hl) = if s0 = 0 then mj_den mj_P E d 206 64 [Value.ref 205, Value.int v1] [] (mj_hw w c hi hl) else mj_den mj_P E d 206 29 [Value.ref 205, Value.int v1] [] (mj_hw w c hi hl) := by
  rw [mj_den_eq, f206_26]
  exact zt_if_eq rfl rfl (zt_end rfl)
set_option maxRecDepth 100000 in
theorem f206_29 : mj_find (mj_P 206).2.2.2.2 29 = [(.iload_n 1, 1, 0, []), (.bipush 16, 2, 16, []), (.if_icmp .ne 9, 3, 0, [41]), (.aload_n 0, 1, 0, []), (.iconst 3, 1, 3, []), (.invokevirtual 205, 3, 0, [0, 183, 12, 1, 1, 1700, 1702, 56, 156, 1703])] := rfl
set_option maxRecDepth 100000 in
theorem q206_29 (E : mj_E) (d w c : Nat) (hi : Nat → Nat → Int32) (hl : Nat → Nat → Int64) (v1 : Int32) : mj_den mj_P E d 206 29 [Value.ref 205, Value.int v1] [] (mj_hw w c hi hl) = if ¬ v1 = (16 : Int32) then mj_den mj_P E d 206 41 [Value.ref 205, Value.int v1] [] (mj_hw w c hi hl) else mj_bi (mj_dc mj_P E d 183 [Value.ref 205, Value.int (3 : Int32)] (mj_hw w c hi hl)) (fun x1 h1 => mj_den mj_P E d 206 40 [Value.ref 205, Value.int v1] [Value.int x1] h1) := by
  rw [mj_den_eq, f206_29]
  exact zt_iload_n rfl rfl (zt_bipush rfl (zt_icmp_ne rfl rfl (zt_aload_n rfl rfl (zt_iconst rfl (zt_call0_1 rfl (mjkd205 _ _ _ _) (Nat.le_of_ble_eq_true rfl) rfl rfl)))))
set_option maxRecDepth 100000 in
theorem f206_40 : mj_find (mj_P 206).2.2.2.2 40 = [(.ireturn, 1, 0, [0])] := rfl
set_option maxRecDepth 100000 in
theorem q206_40 (E : mj_E) (d w c : Nat) (hi : Nat → Nat → Int32) (hl : Nat → Nat → Int64) (v1 : Int32) (s0 : Int32) : mj_den mj_P E d 206 40 [Value.ref 205, Value.int v1] [Value.int s0] (mj_hw w c hi hl) = some (some (Value.int s0), (mj_hw w c hi hl)) := by
  rw [mj_den_eq, f206_40]
  exact zt_ireturn0
set_option maxRecDepth 100000 in
theorem f206_41 : mj_find (mj_P 206).2.2.2.2 41 = [(.aload_n 0, 1, 0, []), (.bipush 48, 2, 48, []), (.iconst 3, 1, 3, []), (.iload_n 1, 1, 0, []), (.imul, 1, 0, []), (.iadd, 1, 0, []), (.invokevirtual 272, 3, 0, [0, 205, 12, 1, 1, 1736, 1738, 65, 156, 1739])] := rfl
set_option maxRecDepth 100000 in
theorem q206_41 (E : mj_E) (d w c : Nat) (hi : Nat → Nat → Int32) (hl : Nat → Nat → Int64) (v1 : Int32) : mj_den mj_P E d 206 41 [Value.ref 205, Value.int v1] [] (mj_hw w c hi hl) = mj_bi (mj_dc mj_P E d 205 [Value.ref 205, Value.int ((48 : Int32) + ((3 : Int32) * v1))] (mj_hw w c hi hl)) (fun x1 h1 => mj_den mj_P E d 206 51 [Value.ref 205, Value.int v1] [Value.int x1] h1) := by
  rw [mj_den_eq, f206_41]
  exact zt_aload_n rfl rfl (zt_bipush rfl (zt_iconst rfl (zt_iload_n rfl rfl (zt_imul rfl (zt_iadd rfl (zt_call0_1 rfl (mjkd205 _ _ _ _) (Nat.le_of_ble_eq_true rfl) rfl rfl))))))
set_option maxRecDepth 100000 in
theorem f206_51 : mj_find (mj_P 206).2.2.2.2 51 = [(.iconst (-1), 1, (-1), []), (.if_icmp .ne 5, 3, 0, [57]), (.iconst (-1), 1, (-1), []), (.ireturn, 1, 0, [0])] := rfl
set_option maxRecDepth 100000 in
theorem q206_51 (E : mj_E) (d w c : Nat) (hi : Nat → Nat → Int32) (hl : Nat → Nat → Int64) (v1 : Int32) (s0 : Int32) : mj_den mj_P E d 206 51 [Value.ref 205, Value.int v1] [Value.int s0] (mj_hw w c hi hl) = if ¬ s0 = (-1 : Int32) then mj_den mj_P E d 206 57 [Value.ref 205, Value.int v1] [] (mj_hw w c hi hl) else some (some (Value.int (-1 : Int32)), (mj_hw w c hi hl)) := by
  rw [mj_den_eq, f206_51]
  exact zt_iconst rfl (zt_icmp_ne rfl rfl (zt_iconst rfl (zt_ireturn0)))
set_option maxRecDepth 100000 in
theorem f206_57 : mj_find (mj_P 206).2.2.2.2 57 = [(.iload_n 1, 1, 0, []), (.iconst 1, 1, 1, []), (.iadd, 1, 0, []), (.istore_n 1, 1, 0, []), (.goto (-59), 3, 0, [2])] := rfl
set_option maxRecDepth 100000 in
theorem q206_57 (E : mj_E) (d w c : Nat) (hi : Nat → Nat → Int32) (hl : Nat → Nat → Int64) (v1 : Int32) : mj_den mj_P E d 206 57 [Value.ref 205, Value.int v1] [] (mj_hw w c hi hl) = mj_den mj_P E d 206 2 [Value.ref 205, Value.int (v1 + (1 : Int32))] [] (mj_hw w c hi hl) := by
  rw [mj_den_eq, f206_57]
  exact zt_iload_n rfl rfl (zt_iconst rfl (zt_iadd rfl (zt_istore_n (Nat.le_of_ble_eq_true rfl) rfl rfl (zt_goto rfl))))
set_option maxRecDepth 100000 in
theorem f206_64 : mj_find (mj_P 206).2.2.2.2 64 = [(.aload_n 0, 1, 0, []), (.getfield 174, 3, 0, [12, 17, 0, 1427]), (.ifCond .ne 7, 3, 0, [75]), (.iload_n 1, 1, 0, []), (.goto 8, 3, 0, [80])] := rfl
set_option maxRecDepth 100000 in
theorem q206_64 (E : mj_E) (d w c : Nat) (hi : Nat → Nat → Int32) (hl : Nat → Nat → Int64) (v1 : Int32) : mj_den mj_P E d 206 64 [Value.ref 205, Value.int v1] [] (mj_hw w c hi hl) = if ¬ (hi 205 17) = 0 then mj_den mj_P E d 206 75 [Value.ref 205, Value.int v1] [] (mj_hw w c hi hl) else mj_den mj_P E d 206 80 [Value.ref 205, Value.int v1] [Value.int v1] (mj_hw w c hi hl) := by
  rw [mj_den_eq, f206_64]
  exact zt_aload_n rfl rfl (zt_geti (mjkd205 _ _ _ _) rfl rfl (zt_if_ne rfl rfl (zt_iload_n rfl rfl (zt_goto rfl))))
set_option maxRecDepth 100000 in
theorem f206_75 : mj_find (mj_P 206).2.2.2.2 75 = [(.aload_n 0, 1, 0, []), (.iconst 1, 1, 1, []), (.invokevirtual 205, 3, 0, [0, 183, 12, 1, 1, 1700, 1702, 56, 156, 1703])] := rfl
set_option maxRecDepth 100000 in
theorem q206_75 (E : mj_E) (d w c : Nat) (hi : Nat → Nat → Int32) (hl : Nat → Nat → Int64) (v1 : Int32) : mj_den mj_P E d 206 75 [Value.ref 205, Value.int v1] [] (mj_hw w c hi hl) = mj_bi (mj_dc mj_P E d 183 [Value.ref 205, Value.int (1 : Int32)] (mj_hw w c hi hl)) (fun x1 h1 => mj_den mj_P E d 206 80 [Value.ref 205, Value.int v1] [Value.int x1] h1) := by
  rw [mj_den_eq, f206_75]
  exact zt_aload_n rfl rfl (zt_iconst rfl (zt_call0_1 rfl (mjkd205 _ _ _ _) (Nat.le_of_ble_eq_true rfl) rfl rfl))
set_option maxRecDepth 100000 in
theorem f206_80 : mj_find (mj_P 206).2.2.2.2 80 = [(.ireturn, 1, 0, [0])] := rfl
set_option maxRecDepth 100000 in
theorem q206_80 (E : mj_E) (d w c : Nat) (hi : Nat → Nat → Int32) (hl : Nat → Nat → Int64) (v1 : Int32) (s0 : Int32) : mj_den mj_P E d 206 80 [Value.ref 205, Value.int v1] [Value.int s0] (mj_hw w c hi hl) = some (some (Value.int s0), (mj_hw w c hi hl)) := by
  rw [mj_den_eq, f206_80]
  exact zt_ireturn0
set_option maxRecDepth 100000 in
theorem f207_0 : mj_find (mj_P 207).2.2.2.2 0 = [(.aload_n 0, 1, 0, []), (.iconst 0, 1, 0, []), (.putfield 253, 3, 0, [12, 27, 0, 1437]), (.aload_n 0, 1, 0, []), (.invokevirtual 212, 3, 0, [0, 182, 12, 0, 0, 1668, 1670, 48, 156, 1671])] := rfl
set_option maxRecDepth 100000 in
theorem q207_0 (E : mj_E) (d w c : Nat) (hi : Nat → Nat → Int32) (hl : Nat → Nat → Int64) (v1 : Int32) : mj_den mj_P E d 207 0 [Value.ref 205, Value.int v1] [] (mj_hw w c hi hl) = mj_bv (mj_dc mj_P E d 182 [Value.ref 205] (mj_hw w c (mj_u hi 205 27 (0 : Int32)) hl)) (fun h1 => mj_den mj_P E d 207 9 [Value.ref 205, Value.int v1] [] h1) := by
  rw [mj_den_eq, f207_0]
  exact zt_aload_n rfl rfl (zt_iconst rfl (zt_puti (mjkd205 _ _ _ _) rfl rfl (zt_aload_n rfl rfl (zt_call0_0 rfl (mjkd205 _ _ _ _) (Nat.le_of_ble_eq_true rfl) rfl rfl))))
set_option maxRecDepth 100000 in
theorem f207_9 : mj_find (mj_P 207).2.2.2.2 9 = [(.iload_n 1, 1, 0, []), (.iconst 1, 1, 1, []), (.if_icmp .ne 8, 3, 0, [19]), (.aload_n 0, 1, 0, []), (.invokevirtual 275, 3, 0, [0, 202, 12, 0, 1, 1692, 1694, 54, 156, 1695])] := rfl
set_option maxRecDepth 100000 in
theorem q207_9 (E : mj_E) (d w c : Nat) (hi : Nat → Nat → Int32) (hl : Nat → Nat → Int64) (v1 : Int32) : mj_den mj_P E d 207 9 [Value.ref 205, Value.int v1] [] (mj_hw w c hi hl) = if ¬ v1 = (1 : Int32) then mj_den mj_P E d 207 19 [Value.ref 205, Value.int v1] [] (mj_hw w c hi hl) else mj_bi (mj_dc mj_P E d 202 [Value.ref 205] (mj_hw w c hi hl)) (fun x1 h1 => mj_den mj_P E d 207 18 [Value.ref 205, Value.int v1] [Value.int x1] h1) := by
  rw [mj_den_eq, f207_9]
  exact zt_iload_n rfl rfl (zt_iconst rfl (zt_icmp_ne rfl rfl (zt_aload_n rfl rfl (zt_call0_1 rfl (mjkd205 _ _ _ _) (Nat.le_of_ble_eq_true rfl) rfl rfl))))
set_option maxRecDepth 100000 in
theorem f207_18 : mj_find (mj_P 207).2.2.2.2 18 = [(.ireturn, 1, 0, [0])] := rfl
set_option maxRecDepth 100000 in
theorem q207_18 (E : mj_E) (d w c : Nat) (hi : Nat → Nat → Int32) (hl : Nat → Nat → Int64) (v1 : Int32) (s0 : Int32) : mj_den mj_P E d 207 18 [Value.ref 205, Value.int v1] [Value.int s0] (mj_hw w c hi hl) = some (some (Value.int s0), (mj_hw w c hi hl)) := by
  rw [mj_den_eq, f207_18]
  exact zt_ireturn0
set_option maxRecDepth 100000 in
theorem f207_19 : mj_find (mj_P 207).2.2.2.2 19 = [(.iload_n 1, 1, 0, []), (.iconst 2, 1, 2, []), (.if_icmp .ne 8, 3, 0, [29]), (.aload_n 0, 1, 0, []), (.invokevirtual 278, 3, 0, [0, 204, 12, 0, 1, 1724, 1726, 62, 156, 1727])] := rfl
set_option maxRecDepth 100000 in
theorem q207_19 (E : mj_E) (d w c : Nat) (hi : Nat → Nat → Int32) (hl : Nat → Nat → Int64) (v1 : Int32) : mj_den mj_P E d 207 19 [Value.ref 205, Value.int v1] [] (mj_hw w c hi hl) = if ¬ v1 = (2 : Int32) then mj_den mj_P E d 207 29 [Value.ref 205, Value.int v1] [] (mj_hw w c hi hl) else mj_bi (mj_dc mj_P E d 204 [Value.ref 205] (mj_hw w c hi hl)) (fun x1 h1 => mj_den mj_P E d 207 28 [Value.ref 205, Value.int v1] [Value.int x1] h1) := by
  rw [mj_den_eq, f207_19]
  exact zt_iload_n rfl rfl (zt_iconst rfl (zt_icmp_ne rfl rfl (zt_aload_n rfl rfl (zt_call0_1 rfl (mjkd205 _ _ _ _) (Nat.le_of_ble_eq_true rfl) rfl rfl))))
set_option maxRecDepth 100000 in
theorem f207_28 : mj_find (mj_P 207).2.2.2.2 28 = [(.ireturn, 1, 0, [0])] := rfl
set_option maxRecDepth 100000 in
theorem q207_28 (E : mj_E) (d w c : Nat) (hi : Nat → Nat → Int32) (hl : Nat → Nat → Int64) (v1 : Int32) (s0 : Int32) : mj_den mj_P E d 207 28 [Value.ref 205, Value.int v1] [Value.int s0] (mj_hw w c hi hl) = some (some (Value.int s0), (mj_hw w c hi hl)) := by
  rw [mj_den_eq, f207_28]
  exact zt_ireturn0
set_option maxRecDepth 100000 in
theorem f207_29 : mj_find (mj_P 207).2.2.2.2 29 = [(.iload_n 1, 1, 0, []), (.iconst 3, 1, 3, []), (.if_icmp .ne 10, 3, 0, [41]), (.aload_n 0, 1, 0, []), (.invokevirtual 281, 3, 0, [0, 206, 12, 0, 1, 1732, 1734, 64, 156, 1735])] := rfl
set_option maxRecDepth 100000 in
theorem q207_29 (E : mj_E) (d w c : Nat) (hi : Nat → Nat → Int32) (hl : Nat → Nat → Int64) (v1 : Int32) : mj_den mj_P E d 207 29 [Value.ref 205, Value.int v1] [] (mj_hw w c hi hl) = if ¬ v1 = (3 : Int32) then mj_den mj_P E d 207 41 [Value.ref 205, Value.int v1] [] (mj_hw w c hi hl) else mj_bi (mj_dc mj_P E d 206 [Value.ref 205] (mj_hw w c hi hl)) (fun x1 h1 => mj_den mj_P E d 207 38 [Value.ref 205, Value.int v1] [Value.int x1] h1) := by
  rw [mj_den_eq, f207_29]
  exact zt_iload_n rfl rfl (zt_iconst rfl (zt_icmp_ne rfl rfl (zt_aload_n rfl rfl (zt_call0_1 rfl (mjkd205 _ _ _ _) (Nat.le_of_ble_eq_true rfl) rfl rfl))))
set_option maxRecDepth 100000 in
theorem f207_38 : mj_find (mj_P 207).2.2.2.2 38 = [(.goto 7, 3, 0, [45])] := rfl
set_option maxRecDepth 100000 in
theorem q207_38 (E : mj_E) (d w c : Nat) (hi : Nat → Nat → Int32) (hl : Nat → Nat → Int64) (v1 : Int32) (s0 : Int32) : mj_den mj_P E d 207 38 [Value.ref 205, Value.int v1] [Value.int s0] (mj_hw w c hi hl) = mj_den mj_P E d 207 45 [Value.ref 205, Value.int v1] [Value.int s0] (mj_hw w c hi hl) := by
  rw [mj_den_eq, f207_38]
  exact zt_goto rfl
set_option maxRecDepth 100000 in
theorem f207_41 : mj_find (mj_P 207).2.2.2.2 41 = [(.aload_n 0, 1, 0, []), (.invokevirtual 284, 3, 0, [0, 196, 12, 0, 1, 1740, 1742, 66, 156, 1743])] := rfl
set_option maxRecDepth 100000 in
theorem q207_41 (E : mj_E) (d w c : Nat) (hi : Nat → Nat → Int32) (hl : Nat → Nat → Int64) (v1 : Int32) : mj_den mj_P E d 207 41 [Value.ref 205, Value.int v1] [] (mj_hw w c hi hl) = mj_bi (mj_dc mj_P E d 196 [Value.ref 205] (mj_hw w c hi hl)) (fun x1 h1 => mj_den mj_P E d 207 45 [Value.ref 205, Value.int v1] [Value.int x1] h1) := by
  rw [mj_den_eq, f207_41]
  exact zt_aload_n rfl rfl (zt_call0_1 rfl (mjkd205 _ _ _ _) (Nat.le_of_ble_eq_true rfl) rfl rfl)
set_option maxRecDepth 100000 in
theorem f207_45 : mj_find (mj_P 207).2.2.2.2 45 = [(.ireturn, 1, 0, [0])] := rfl
set_option maxRecDepth 100000 in
theorem q207_45 (E : mj_E) (d w c : Nat) (hi : Nat → Nat → Int32) (hl : Nat → Nat → Int64) (v1 : Int32) (s0 : Int32) : mj_den mj_P E d 207 45 [Value.ref 205, Value.int v1] [Value.int s0] (mj_hw w c hi hl) = some (some (Value.int s0), (mj_hw w c hi hl)) := by
  rw [mj_den_eq, f207_45]
  exact zt_ireturn0
set_option maxRecDepth 100000 in
theorem f208_0 : mj_find (mj_P 208).2.2.2.2 0 = [(.iload_n 1, 1, 0, []), (.iconst 1, 1, 1, []), (.if_icmp .ne 39, 3, 0, [41]), (.iconst 0, 1, 0, []), (.istore_n 3, 1, 0, [])] := rfl
set_option maxRecDepth 100000 in
theorem q208_0 (E : mj_E) (d w c : Nat) (hi : Nat → Nat → Int32) (hl : Nat → Nat → Int64) (v1 : Int32) (v2 : Int32) : mj_den mj_P E d 208 0 [Value.ref 205, Value.int v1, Value.int v2, Value.float 0] [] (mj_hw w c hi hl) = if ¬ v1 = (1 : Int32) then mj_den mj_P E d 208 41 [Value.ref 205, Value.int v1, Value.int v2, Value.float 0] [] (mj_hw w c hi hl) else mj_den mj_P E d 208 7 [Value.ref 205, Value.int v1, Value.int v2, Value.int (0 : Int32)] [] (mj_hw w c hi hl) := by
  rw [mj_den_eq, f208_0]
  exact zt_iload_n rfl rfl (zt_iconst rfl (zt_icmp_ne rfl rfl (zt_iconst rfl (zt_istore_n (Nat.le_of_ble_eq_true rfl) rfl rfl (zt_end rfl)))))
set_option maxRecDepth 100000 in
theorem f208_7 : mj_find (mj_P 208).2.2.2.2 7 = [(.iload_n 3, 1, 0, []), (.iconst 2, 1, 2, []), (.iload_n 2, 1, 0, []), (.imul, 1, 0, []), (.if_icmp .ge 24, 3, 0, [35]), (.aload_n 0, 1, 0, []), (.getfield 68, 3, 0, [12, 37, 3, 1447]), (.iload_n 3, 1, 0, []), (.aload_n 0, 1, 0, []), (.getfield 68, 3, 0, [12, 37, 3, 1447]), (.bipush 32, 2, 32, []), (.iload_n 3, 1, 0, []), (.iadd, 1, 0, []), (.iaload, 1, 0, []), (.iastore, 1, 0, []), (.iinc 3 1, 3, 1, []), (.goto (-25), 3, 0, [7])] := rfl
set_option maxRecDepth 100000 in
theorem q208_7 (E : mj_E) (d w c : Nat) (hi : Nat → Nat → Int32) (hl : Nat → Nat → Int64) (v1 : Int32) (v2 : Int32) (v3 : Int32) : mj_den mj_P E d 208 7 [Value.ref 205, Value.int v1, Value.int v2, Value.int v3] [] (mj_hw w c hi hl) = if ((2 : Int32) * v2) ≤ v3 then mj_den mj_P E d 208 35 [Value.ref 205, Value.int v1, Value.int v2, Value.int v3] [] (mj_hw w c hi hl) else if 0 ≤ ((32 : Int32) + v3) ∧ (((32 : Int32) + v3)).toNatClampNeg < 64 then if 0 ≤ v3 ∧ (v3).toNatClampNeg < 64 then mj_den mj_P E d 208 7 [Value.ref 205, Value.int v1, Value.int v2, Value.int (v3 + (1 : Int32))] [] (mj_hw w c (mj_u hi 224 ((v3).toNatClampNeg) (hi 224 ((((32 : Int32) + v3)).toNatClampNeg))) hl) else none else none := by
  rw [mj_den_eq, f208_7]
  exact zt_iload_n rfl rfl (zt_iconst rfl (zt_iload_n rfl rfl (zt_imul rfl (zt_icmp_ge rfl rfl (zt_aload_n rfl rfl (zt_getr (mjkd205 _ _ _ _) (mjhr205_37 w c) rfl (zt_iload_n rfl rfl (zt_aload_n rfl rfl (zt_getr (mjkd205 _ _ _ _) (mjhr205_37 w c) rfl (zt_bipush rfl (zt_iload_n rfl rfl (zt_iadd rfl (zt_iald (mjkd224 _ _ _ _) (mjln224 _ _ _ _) rfl rfl (zt_iast (mjkd224 _ _ _ _) (mjln224 _ _ _ _) rfl rfl (zt_iinc rfl (Nat.le_of_ble_eq_true rfl) rfl rfl (zt_goto rfl))))))))))))))))
set_option maxRecDepth 100000 in
theorem f208_35 : mj_find (mj_P 208).2.2.2.2 35 = [(.aload_n 0, 1, 0, []), (.iload_n 2, 1, 0, []), (.putfield 287, 3, 0, [12, 36, 0, 1446]), (.return_, 1, 0, [])] := rfl
set_option maxRecDepth 100000 in
theorem q208_35 (E : mj_E) (d w c : Nat) (hi : Nat → Nat → Int32) (hl : Nat → Nat → Int64) (v1 : Int32) (v2 : Int32) (v3 : Int32) : mj_den mj_P E d 208 35 [Value.ref 205, Value.int v1, Value.int v2, Value.int v3] [] (mj_hw w c hi hl) = some (none, (mj_hw w c (mj_u hi 205 36 v2) hl)) := by
  rw [mj_den_eq, f208_35]
  exact zt_aload_n rfl rfl (zt_iload_n rfl rfl (zt_puti (mjkd205 _ _ _ _) rfl rfl (zt_return)))
set_option maxRecDepth 100000 in
theorem f208_41 : mj_find (mj_P 208).2.2.2.2 41 = [(.iload_n 1, 1, 0, []), (.iconst 2, 1, 2, []), (.if_icmp .ne 40, 3, 0, [83]), (.iconst 0, 1, 0, []), (.istore_n 3, 1, 0, [])] := rfl
set_option maxRecDepth 100000 in
theorem q208_41 (E : mj_E) (d w c : Nat) (hi : Nat → Nat → Int32) (hl : Nat → Nat → Int64) (v1 : Int32) (v2 : Int32) : mj_den mj_P E d 208 41 [Value.ref 205, Value.int v1, Value.int v2, Value.float 0] [] (mj_hw w c hi hl) = if ¬ v1 = (2 : Int32) then mj_den mj_P E d 208 83 [Value.ref 205, Value.int v1, Value.int v2, Value.float 0] [] (mj_hw w c hi hl) else mj_den mj_P E d 208 48 [Value.ref 205, Value.int v1, Value.int v2, Value.int (0 : Int32)] [] (mj_hw w c hi hl) := by
  rw [mj_den_eq, f208_41]
  exact zt_iload_n rfl rfl (zt_iconst rfl (zt_icmp_ne rfl rfl (zt_iconst rfl (zt_istore_n (Nat.le_of_ble_eq_true rfl) rfl rfl (zt_end rfl)))))
set_option maxRecDepth 100000 in
theorem f208_48 : mj_find (mj_P 208).2.2.2.2 48 = [(.iload_n 3, 1, 0, []), (.bipush 10, 2, 10, []), (.if_icmp .ge 24, 3, 0, [75]), (.aload_n 0, 1, 0, []), (.getfield 71, 3, 0, [12, 39, 3, 1449]), (.iload_n 3, 1, 0, []), (.aload_n 0, 1, 0, []), (.getfield 71, 3, 0, [12, 39, 3, 1449]), (.bipush 10, 2, 10, []), (.iload_n 3, 1, 0, []), (.iadd, 1, 0, []), (.iaload, 1, 0, []), (.iastore, 1, 0, []), (.iinc 3 1, 3, 1, []), (.goto (-24), 3, 0, [48])] := rfl
set_option maxRecDepth 100000 in
theorem q208_48 (E : mj_E) (d w c : Nat) (hi : Nat → Nat → Int32) (hl : Nat → Nat → Int64) (v1 : Int32) (v2 : Int32) (v3 : Int32) : mj_den mj_P E d 208 48 [Value.ref 205, Value.int v1, Value.int v2, Value.int v3] [] (mj_hw w c hi hl) = if (10 : Int32) ≤ v3 then mj_den mj_P E d 208 75 [Value.ref 205, Value.int v1, Value.int v2, Value.int v3] [] (mj_hw w c hi hl) else if 0 ≤ ((10 : Int32) + v3) ∧ (((10 : Int32) + v3)).toNatClampNeg < 20 then if 0 ≤ v3 ∧ (v3).toNatClampNeg < 20 then mj_den mj_P E d 208 48 [Value.ref 205, Value.int v1, Value.int v2, Value.int (v3 + (1 : Int32))] [] (mj_hw w c (mj_u hi 225 ((v3).toNatClampNeg) (hi 225 ((((10 : Int32) + v3)).toNatClampNeg))) hl) else none else none := by
  rw [mj_den_eq, f208_48]
  exact zt_iload_n rfl rfl (zt_bipush rfl (zt_icmp_ge rfl rfl (zt_aload_n rfl rfl (zt_getr (mjkd205 _ _ _ _) (mjhr205_39 w c) rfl (zt_iload_n rfl rfl (zt_aload_n rfl rfl (zt_getr (mjkd205 _ _ _ _) (mjhr205_39 w c) rfl (zt_bipush rfl (zt_iload_n rfl rfl (zt_iadd rfl (zt_iald (mjkd225 _ _ _ _) (mjln225 _ _ _ _) rfl rfl (zt_iast (mjkd225 _ _ _ _) (mjln225 _ _ _ _) rfl rfl (zt_iinc rfl (Nat.le_of_ble_eq_true rfl) rfl rfl (zt_goto rfl))))))))))))))
set_option maxRecDepth 100000 in
theorem f208_75 : mj_find (mj_P 208).2.2.2.2 75 = [(.aload_n 0, 1, 0, []), (.iload_n 2, 1, 0, []), (.putfield 290, 3, 0, [12, 38, 0, 1448]), (.goto 38, 3, 0, [118])] := rfl
set_option maxRecDepth 100000 in
theorem q208_75 (E : mj_E) (d w c : Nat) (hi : Nat → Nat → Int32) (hl : Nat → Nat → Int64) (v1 : Int32) (v2 : Int32) (v3 : Int32) : mj_den mj_P E d 208 75 [Value.ref 205, Value.int v1, Value.int v2, Value.int v3] [] (mj_hw w c hi hl) = mj_den mj_P E d 208 118 [Value.ref 205, Value.int v1, Value.int v2, Value.int v3] [] (mj_hw w c (mj_u hi 205 38 v2) hl) := by
  rw [mj_den_eq, f208_75]
  exact zt_aload_n rfl rfl (zt_iload_n rfl rfl (zt_puti (mjkd205 _ _ _ _) rfl rfl (zt_goto rfl)))
set_option maxRecDepth 100000 in
theorem f208_83 : mj_find (mj_P 208).2.2.2.2 83 = [(.iconst 0, 1, 0, []), (.istore_n 3, 1, 0, [])] := rfl
set_option maxRecDepth 100000 in
theorem q208_83 (E : mj_E) (d w c : Nat) (hi : Nat → Nat → Int32) (hl : Nat → Nat → Int64) (v1 : Int32) (v2 : Int32) : mj_den mj_P E d 208 83 [Value.ref 205, Value.int v1, Value.int v2, Value.float 0] [] (mj_hw w c hi hl) = mj_den mj_P E d 208 85 [Value.ref 205, Value.int v1, Value.int v2, Value.int (0 : Int32)] [] (mj_hw w c hi hl) := by
  rw [mj_den_eq, f208_83]
  exact zt_iconst rfl (zt_istore_n (Nat.le_of_ble_eq_true rfl) rfl rfl (zt_end rfl))
set_option maxRecDepth 100000 in
theorem f208_85 : mj_find (mj_P 208).2.2.2.2 85 = [(.iload_n 3, 1, 0, []), (.iconst 3, 1, 3, []), (.iload_n 2, 1, 0, []), (.imul, 1, 0, []), (.if_icmp .ge 24, 3, 0, [113]), (.aload_n 0, 1, 0, []), (.getfield 74, 3, 0, [12, 41, 3, 1451]), (.iload_n 3, 1, 0, []), (.aload_n 0, 1, 0, []), (.getfield 74, 3, 0, [12, 41, 3, 1451]), (.bipush 48, 2, 48, []), (.iload_n 3, 1, 0, []), (.iadd, 1, 0, []), (.iaload, 1, 0, []), (.iastore, 1, 0, []), (.iinc 3 1, 3, 1, []), (.goto (-25), 3, 0, [85])] := rfl
set_option maxRecDepth 100000 in
theorem q208_85 (E : mj_E) (d w c : Nat) (hi : Nat → Nat → Int32) (hl : Nat → Nat → Int64) (v1 : Int32) (v2 : Int32) (v3 : Int32) : mj_den mj_P E d 208 85 [Value.ref 205, Value.int v1, Value.int v2, Value.int v3] [] (mj_hw w c hi hl) = if ((3 : Int32) * v2) ≤ v3 then mj_den mj_P E d 208 113 [Value.ref 205, Value.int v1, Value.int v2, Value.int v3] [] (mj_hw w c hi hl) else if 0 ≤ ((48 : Int32) + v3) ∧ (((48 : Int32) + v3)).toNatClampNeg < 96 then if 0 ≤ v3 ∧ (v3).toNatClampNeg < 96 then mj_den mj_P E d 208 85 [Value.ref 205, Value.int v1, Value.int v2, Value.int (v3 + (1 : Int32))] [] (mj_hw w c (mj_u hi 226 ((v3).toNatClampNeg) (hi 226 ((((48 : Int32) + v3)).toNatClampNeg))) hl) else none else none := by
  rw [mj_den_eq, f208_85]
  exact zt_iload_n rfl rfl (zt_iconst rfl (zt_iload_n rfl rfl (zt_imul rfl (zt_icmp_ge rfl rfl (zt_aload_n rfl rfl (zt_getr (mjkd205 _ _ _ _) (mjhr205_41 w c) rfl (zt_iload_n rfl rfl (zt_aload_n rfl rfl (zt_getr (mjkd205 _ _ _ _) (mjhr205_41 w c) rfl (zt_bipush rfl (zt_iload_n rfl rfl (zt_iadd rfl (zt_iald (mjkd226 _ _ _ _) (mjln226 _ _ _ _) rfl rfl (zt_iast (mjkd226 _ _ _ _) (mjln226 _ _ _ _) rfl rfl (zt_iinc rfl (Nat.le_of_ble_eq_true rfl) rfl rfl (zt_goto rfl))))))))))))))))
set_option maxRecDepth 100000 in
theorem f208_113 : mj_find (mj_P 208).2.2.2.2 113 = [(.aload_n 0, 1, 0, []), (.iload_n 2, 1, 0, []), (.putfield 293, 3, 0, [12, 40, 0, 1450])] := rfl
set_option maxRecDepth 100000 in
theorem q208_113 (E : mj_E) (d w c : Nat) (hi : Nat → Nat → Int32) (hl : Nat → Nat → Int64) (v1 : Int32) (v2 : Int32) (v3 : Int32) : mj_den mj_P E d 208 113 [Value.ref 205, Value.int v1, Value.int v2, Value.int v3] [] (mj_hw w c hi hl) = mj_den mj_P E d 208 118 [Value.ref 205, Value.int v1, Value.int v2, Value.int v3] [] (mj_hw w c (mj_u hi 205 40 v2) hl) := by
  rw [mj_den_eq, f208_113]
  exact zt_aload_n rfl rfl (zt_iload_n rfl rfl (zt_puti (mjkd205 _ _ _ _) rfl rfl (zt_end rfl)))
set_option maxRecDepth 100000 in
theorem f208_118 : mj_find (mj_P 208).2.2.2.2 118 = [(.aload_n 0, 1, 0, []), (.iconst 0, 1, 0, []), (.putfield 125, 3, 0, [12, 3, 0, 1413]), (.return_, 1, 0, [])] := rfl
set_option maxRecDepth 100000 in
theorem q208_118 (E : mj_E) (d w c : Nat) (hi : Nat → Nat → Int32) (hl : Nat → Nat → Int64) (v1 : Int32) (v2 : Int32) (v3 : Int32) : mj_den mj_P E d 208 118 [Value.ref 205, Value.int v1, Value.int v2, Value.int v3] [] (mj_hw w c hi hl) = some (none, (mj_hw w c (mj_u hi 205 3 (0 : Int32)) hl)) := by
  rw [mj_den_eq, f208_118]
  exact zt_aload_n rfl rfl (zt_iconst rfl (zt_puti (mjkd205 _ _ _ _) rfl rfl (zt_return)))
set_option maxRecDepth 100000 in
theorem f209_0 : mj_find (mj_P 209).2.2.2.2 0 = [(.aload_n 0, 1, 0, []), (.iconst 0, 1, 0, []), (.putfield 122, 3, 0, [12, 0, 0, 1410]), (.aload_n 0, 1, 0, []), (.iconst 0, 1, 0, []), (.putfield 296, 3, 0, [12, 34, 0, 1444]), (.aload_n 0, 1, 0, []), (.iconst (-1), 1, (-1), []), (.putfield 64, 3, 0, [12, 35, 0, 1445]), (.aload_n 0, 1, 0, []), (.iconst 0, 1, 0, []), (.putfield 165, 3, 0, [12, 15, 0, 1425]), (.aload_n 0, 1, 0, []), (.iconst 0, 1, 0, []), (.putfield 199, 3, 0, [12, 28, 0, 1438]), (.aload_n 0, 1, 0, []), (.iconst 0, 1, 0, []), (.putfield 231, 3, 0, [12, 29, 0, 1439]), (.iconst (-1), 1, (-1), []), (.istore_n 2, 1, 0, []), (.aload_n 0, 1, 0, []), (.iload_n 1, 1, 0, []), (.iconst 0, 1, 0, []), (.iconst 3, 1, 3, []), (.invokevirtual 144, 3, 0, [0, 152, 12, 3, 1, 1624, 1626, 42, 156, 1627])] := rfl
set_option maxRecDepth 100000 in
theorem q209_0 (E : mj_E) (d w c : Nat) (hi : Nat → Nat → Int32) (hl : Nat → Nat → Int64) (v1 : Int32) : mj_den mj_P E d 209 0 [Value.ref 205, Value.int v1, Value.float 0] [] (mj_hw w c hi hl) = mj_bi (mj_dc mj_P E d 152 [Value.ref 205, Value.int v1, Value.int (0 : Int32), Value.int (3 : Int32)] (mj_hw w c (mj_u (mj_u (mj_u (mj_u (mj_u (mj_u hi 205 0 (0 : Int32)) 205 34 (0 : Int32)) 205 35 (-1 : Int32)) 205 15 (0 : Int32)) 205 28 (0 : Int32)) 205 29 (0 : Int32)) hl)) (fun x1 h1 => mj_den mj_P E d 209 39 [Value.ref 205, Value.int v1, Value.int (-1 : Int32)] [Value.int x1] h1) := by
  rw [mj_den_eq, f209_0]
  exact zt_aload_n rfl rfl (zt_iconst rfl (zt_puti (mjkd205 _ _ _ _) rfl rfl (zt_aload_n rfl rfl (zt_iconst rfl (zt_puti (mjkd205 _ _ _ _) rfl rfl (zt_aload_n rfl rfl (zt_iconst rfl (zt_puti (mjkd205 _ _ _ _) rfl rfl (zt_aload_n rfl rfl (zt_iconst rfl (zt_puti (mjkd205 _ _ _ _) rfl rfl (zt_aload_n rfl rfl (zt_iconst rfl (zt_puti (mjkd205 _ _ _ _) rfl rfl (zt_aload_n rfl rfl (zt_iconst rfl (zt_puti (mjkd205 _ _ _ _) rfl rfl (zt_iconst rfl (zt_istore_n (Nat.le_of_ble_eq_true rfl) rfl rfl (zt_aload_n rfl rfl (zt_iload_n rfl rfl (zt_iconst rfl (zt_iconst rfl (zt_call0_1 rfl (mjkd205 _ _ _ _) (Nat.le_of_ble_eq_true rfl) rfl rfl))))))))))))))))))))))))
set_option maxRecDepth 100000 in
theorem f209_39 : mj_find (mj_P 209).2.2.2.2 39 = [(.ifCond .eq 30, 3, 0, [69]), (.aload_n 0, 1, 0, []), (.iload_n 1, 1, 0, []), (.invokevirtual 299, 3, 0, [0, 207, 12, 1, 1, 1664, 1666, 47, 156, 1667])] := rfl
set_option maxRecDepth 100000 in
theorem q209_39 (E : mj_E) (d w c : Nat) (hi : Nat → Nat → Int32) (hl : Nat → Nat → Int64) (v1 : Int32) (v2 : Int32) (s0 : Int32) : mj_den mj_P E d 209 39 [Value.ref 205, Value.int v1, Value.int v2] [Value.int s0] (mj_hw w c hi hl) = if s0 = 0 then mj_den mj_P E d 209 69 [Value.ref 205, Value.int v1, Value.int v2] [] (mj_hw w c hi hl) else mj_bi (mj_dc mj_P E d 207 [Value.ref 205, Value.int v1] (mj_hw w c hi hl)) (fun x1 h1 => mj_den mj_P E d 209 47 [Value.ref 205, Value.int v1, Value.int v2] [Value.int x1] h1) := by
  rw [mj_den_eq, f209_39]
  exact zt_if_eq rfl rfl (zt_aload_n rfl rfl (zt_iload_n rfl rfl (zt_call0_1 rfl (mjkd205 _ _ _ _) (Nat.le_of_ble_eq_true rfl) rfl rfl)))
set_option maxRecDepth 100000 in
theorem f209_47 : mj_find (mj_P 209).2.2.2.2 47 = [(.istore_n 2, 1, 0, []), (.iload_n 2, 1, 0, []), (.iconst (-1), 1, (-1), []), (.if_icmp .ne 19, 3, 0, [69]), (.aload_n 0, 1, 0, []), (.aload_n 0, 1, 0, []), (.getfield 193, 3, 0, [12, 32, 0, 1442]), (.putfield 296, 3, 0, [12, 34, 0, 1444]), (.aload_n 0, 1, 0, []), (.aload_n 0, 1, 0, []), (.getfield 196, 3, 0, [12, 33, 0, 1443]), (.putfield 64, 3, 0, [12, 35, 0, 1445])] := rfl
set_option maxRecDepth 100000 in
theorem q209_47 (E : mj_E) (d w c : Nat) (hi : Nat → Nat → Int32) (hl : Nat → Nat → Int64) (v1 : Int32) (v2 : Int32) (s0 : Int32) : mj_den mj_P E d 209 47 [Value.ref 205, Value.int v1, Value.int v2] [Value.int s0] (mj_hw w c hi hl) = if ¬ s0 = (-1 : Int32) then mj_den mj_P E d 209 69 [Value.ref 205, Value.int v1, Value.int s0] [] (mj_hw w c hi hl) else mj_den mj_P E d 209 69 [Value.ref 205, Value.int v1, Value.int s0] [] (mj_hw w c (mj_u (mj_u hi 205 34 (hi 205 32)) 205 35 (hi 205 33)) hl) := by
  rw [mj_den_eq, f209_47]
  exact zt_istore_n (Nat.le_of_ble_eq_true rfl) rfl rfl (zt_iload_n rfl rfl (zt_iconst rfl (zt_icmp_ne rfl rfl (zt_aload_n rfl rfl (zt_aload_n rfl rfl (zt_geti (mjkd205 _ _ _ _) rfl rfl (zt_puti (mjkd205 _ _ _ _) rfl rfl (zt_aload_n rfl rfl (zt_aload_n rfl rfl (zt_geti (mjkd205 _ _ _ _) rfl rfl (zt_puti (mjkd205 _ _ _ _) rfl rfl (zt_end rfl))))))))))))
set_option maxRecDepth 100000 in
theorem f209_69 : mj_find (mj_P 209).2.2.2.2 69 = [(.aload_n 0, 1, 0, []), (.iconst 0, 1, 0, []), (.putfield 158, 3, 0, [12, 14, 0, 1424]), (.iload_n 2, 1, 0, []), (.iconst (-1), 1, (-1), []), (.if_icmp .ne 5, 3, 0, [81]), (.iconst (-1), 1, (-1), []), (.ireturn, 1, 0, [0])] := rfl
set_option maxRecDepth 100000 in
theorem q209_69 (E : mj_E) (d w c : Nat) (hi : Nat → Nat → Int32) (hl : Nat → Nat → Int64) (v1 : Int32) (v2 : Int32) : mj_den mj_P E d 209 69 [Value.ref 205, Value.int v1, Value.int v2] [] (mj_hw w c hi hl) = if ¬ v2 = (-1 : Int32) then mj_den mj_P E d 209 81 [Value.ref 205, Value.int v1, Value.int v2] [] (mj_hw w c (mj_u hi 205 14 (0 : Int32)) hl) else some (some (Value.int (-1 : Int32)), (mj_hw w c (mj_u hi 205 14 (0 : Int32)) hl)) := by
  rw [mj_den_eq, f209_69]
  exact zt_aload_n rfl rfl (zt_iconst rfl (zt_puti (mjkd205 _ _ _ _) rfl rfl (zt_iload_n rfl rfl (zt_iconst rfl (zt_icmp_ne rfl rfl (zt_iconst rfl (zt_ireturn0)))))))
set_option maxRecDepth 100000 in
theorem f209_81 : mj_find (mj_P 209).2.2.2.2 81 = [(.iload_n 1, 1, 0, []), (.ifCond .ne 11, 3, 0, [93]), (.aload_n 0, 1, 0, []), (.iload_n 2, 1, 0, []), (.invokevirtual 302, 3, 0, [0, 197, 12, 1, 0, 1784, 1786, 77, 156, 1787])] := rfl
set_option maxRecDepth 100000 in
theorem q209_81 (E : mj_E) (d w c : Nat) (hi : Nat → Nat → Int32) (hl : Nat → Nat → Int64) (v1 : Int32) (v2 : Int32) : mj_den mj_P E d 209 81 [Value.ref 205, Value.int v1, Value.int v2] [] (mj_hw w c hi hl) = if ¬ v1 = 0 then mj_den mj_P E d 209 93 [Value.ref 205, Value.int v1, Value.int v2] [] (mj_hw w c hi hl) else mj_bv (mj_dc mj_P E d 197 [Value.ref 205, Value.int v2] (mj_hw w c hi hl)) (fun h1 => mj_den mj_P E d 209 90 [Value.ref 205, Value.int v1, Value.int v2] [] h1) := by
  rw [mj_den_eq, f209_81]
  exact zt_iload_n rfl rfl (zt_if_ne rfl rfl (zt_aload_n rfl rfl (zt_iload_n rfl rfl (zt_call0_0 rfl (mjkd205 _ _ _ _) (Nat.le_of_ble_eq_true rfl) rfl rfl))))
set_option maxRecDepth 100000 in
theorem f209_90 : mj_find (mj_P 209).2.2.2.2 90 = [(.goto 9, 3, 0, [99])] := rfl
set_option maxRecDepth 100000 in
theorem q209_90 (E : mj_E) (d w c : Nat) (hi : Nat → Nat → Int32) (hl : Nat → Nat → Int64) (v1 : Int32) (v2 : Int32) : mj_den mj_P E d 209 90 [Value.ref 205, Value.int v1, Value.int v2] [] (mj_hw w c hi hl) = mj_den mj_P E d 209 99 [Value.ref 205, Value.int v1, Value.int v2] [] (mj_hw w c hi hl) := by
  rw [mj_den_eq, f209_90]
  exact zt_goto rfl
set_option maxRecDepth 100000 in
theorem f209_93 : mj_find (mj_P 209).2.2.2.2 93 = [(.aload_n 0, 1, 0, []), (.iload_n 1, 1, 0, []), (.iload_n 2, 1, 0, []), (.invokevirtual 305, 3, 0, [0, 208, 12, 2, 0, 1788, 1790, 78, 156, 1791])] := rfl
set_option maxRecDepth 100000 in
theorem q209_93 (E : mj_E) (d w c : Nat) (hi : Nat → Nat → Int32) (hl : Nat → Nat → Int64) (v1 : Int32) (v2 : Int32) : mj_den mj_P E d 209 93 [Value.ref 205, Value.int v1, Value.int v2] [] (mj_hw w c hi hl) = mj_bv (mj_dc mj_P E d 208 [Value.ref 205, Value.int v1, Value.int v2] (mj_hw w c hi hl)) (fun h1 => mj_den mj_P E d 209 99 [Value.ref 205, Value.int v1, Value.int v2] [] h1) := by
  rw [mj_den_eq, f209_93]
  exact zt_aload_n rfl rfl (zt_iload_n rfl rfl (zt_iload_n rfl rfl (zt_call0_0 rfl (mjkd205 _ _ _ _) (Nat.le_of_ble_eq_true rfl) rfl rfl)))
set_option maxRecDepth 100000 in
theorem f209_99 : mj_find (mj_P 209).2.2.2.2 99 = [(.iload_n 2, 1, 0, []), (.ireturn, 1, 0, [0])] := rfl
set_option maxRecDepth 100000 in
theorem q209_99 (E : mj_E) (d w c : Nat) (hi : Nat → Nat → Int32) (hl : Nat → Nat → Int64) (v1 : Int32) (v2 : Int32) : mj_den mj_P E d 209 99 [Value.ref 205, Value.int v1, Value.int v2] [] (mj_hw w c hi hl) = some (some (Value.int v2), (mj_hw w c hi hl)) := by
  rw [mj_den_eq, f209_99]
  exact zt_iload_n rfl rfl (zt_ireturn0)
set_option maxRecDepth 100000 in
theorem f210_0 : mj_find (mj_P 210).2.2.2.2 0 = [(.aload_n 0, 1, 0, []), (.iconst 0, 1, 0, []), (.putfield 122, 3, 0, [12, 0, 0, 1410]), (.iload_n 1, 1, 0, []), (.ifCond .ne 10, 3, 0, [16]), (.aload_n 0, 1, 0, []), (.getfield 296, 3, 0, [12, 34, 0, 1444]), (.goto 16, 3, 0, [29])] := rfl
set_option maxRecDepth 100000 in
theorem q210_0 (E : mj_E) (d w c : Nat) (hi : Nat → Nat → Int32) (hl : Nat → Nat → Int64) (v1 : Int32) : mj_den mj_P E d 210 0 [Value.ref 205, Value.int v1] [] (mj_hw w c hi hl) = if ¬ v1 = 0 then mj_den mj_P E d 210 16 [Value.ref 205, Value.int v1] [] (mj_hw w c (mj_u hi 205 0 (0 : Int32)) hl) else mj_den mj_P E d 210 29 [Value.ref 205, Value.int v1] [Value.int (hi 205 34)] (mj_hw w c (mj_u hi 205 0 (0 : Int32)) hl) := by
  rw [mj_den_eq, f210_0]
  exact zt_aload_n rfl rfl (zt_iconst rfl (zt_puti (mjkd205 _ _ _ _) rfl rfl (zt_iload_n rfl rfl (zt_if_ne rfl rfl (zt_aload_n rfl rfl (zt_geti (mjkd205 _ _ _ _) rfl rfl (zt_goto rfl)))))))
set_option maxRecDepth 100000 in
theorem f210_16 : mj_find (mj_P 210).2.2.2.2 16 = [(.iload_n 1, 1, 0, []), (.iconst 1, 1, 1, []), (.if_icmp .ne 10, 3, 0, [28]), (.aload_n 0, 1, 0, []), (.getfield 64, 3, 0, [12, 35, 0, 1445]), (.goto 4, 3, 0, [29])] := rfl
set_option maxRecDepth 100000 in
theorem q210_16 (E : mj_E) (d w c : Nat) (hi : Nat → Nat → Int32) (hl : Nat → Nat → Int64) (v1 : Int32) : mj_den mj_P E d 210 16 [Value.ref 205, Value.int v1] [] (mj_hw w c hi hl) = if ¬ v1 = (1 : Int32) then mj_den mj_P E d 210 28 [Value.ref 205, Value.int v1] [] (mj_hw w c hi hl) else mj_den mj_P E d 210 29 [Value.ref 205, Value.int v1] [Value.int (hi 205 35)] (mj_hw w c hi hl) := by
  rw [mj_den_eq, f210_16]
  exact zt_iload_n rfl rfl (zt_iconst rfl (zt_icmp_ne rfl rfl (zt_aload_n rfl rfl (zt_geti (mjkd205 _ _ _ _) rfl rfl (zt_goto rfl)))))
set_option maxRecDepth 100000 in
theorem f210_28 : mj_find (mj_P 210).2.2.2.2 28 = [(.iconst (-1), 1, (-1), [])] := rfl
set_option maxRecDepth 100000 in
theorem q210_28 (E : mj_E) (d w c : Nat) (hi : Nat → Nat → Int32) (hl : Nat → Nat → Int64) (v1 : Int32) : mj_den mj_P E d 210 28 [Value.ref 205, Value.int v1] [] (mj_hw w c hi hl) = mj_den mj_P E d 210 29 [Value.ref 205, Value.int v1] [Value.int (-1 : Int32)] (mj_hw w c hi hl) := by
  rw [mj_den_eq, f210_28]
  exact zt_iconst rfl (zt_end rfl)
set_option maxRecDepth 100000 in
theorem f210_29 : mj_find (mj_P 210).2.2.2.2 29 = [(.ireturn, 1, 0, [0])] := rfl
set_option maxRecDepth 100000 in
theorem q210_29 (E : mj_E) (d w c : Nat) (hi : Nat → Nat → Int32) (hl : Nat → Nat → Int64) (v1 : Int32) (s0 : Int32) : mj_den mj_P E d 210 29 [Value.ref 205, Value.int v1] [Value.int s0] (mj_hw w c hi hl) = some (some (Value.int s0), (mj_hw w c hi hl)) := by
  rw [mj_den_eq, f210_29]
  exact zt_ireturn0
set_option maxRecDepth 100000 in
theorem f211_0 : mj_find (mj_P 211).2.2.2.2 0 = [(.iload_n 1, 1, 0, []), (.iconst 2, 1, 2, []), (.if_icmp .ne 7, 3, 0, [9]), (.iload_n 2, 1, 0, []), (.iload_n 3, 1, 0, []), (.iadd, 1, 0, []), (.ireturn, 1, 0, [0])] := rfl
set_option maxRecDepth 100000 in
theorem q211_0 (E : mj_E) (d w c : Nat) (hi : Nat → Nat → Int32) (hl : Nat → Nat → Int64) (v1 : Int32) (v2 : Int32) (v3 : Int32) : mj_den mj_P E d 211 0 [Value.ref 205, Value.int v1, Value.int v2, Value.int v3] [] (mj_hw w c hi hl) = if ¬ v1 = (2 : Int32) then mj_den mj_P E d 211 9 [Value.ref 205, Value.int v1, Value.int v2, Value.int v3] [] (mj_hw w c hi hl) else some (some (Value.int (v2 + v3)), (mj_hw w c hi hl)) := by
  rw [mj_den_eq, f211_0]
  exact zt_iload_n rfl rfl (zt_iconst rfl (zt_icmp_ne rfl rfl (zt_iload_n rfl rfl (zt_iload_n rfl rfl (zt_iadd rfl (zt_ireturn0))))))
set_option maxRecDepth 100000 in
theorem f211_9 : mj_find (mj_P 211).2.2.2.2 9 = [(.iload_n 1, 1, 0, []), (.iconst 3, 1, 3, []), (.if_icmp .ne 7, 3, 0, [18]), (.iload_n 2, 1, 0, []), (.iload_n 3, 1, 0, []), (.isub, 1, 0, []), (.ireturn, 1, 0, [0])] := rfl
set_option maxRecDepth 100000 in
theorem q211_9 (E : mj_E) (d w c : Nat) (hi : Nat → Nat → Int32) (hl : Nat → Nat → Int64) (v1 : Int32) (v2 : Int32) (v3 : Int32) : mj_den mj_P E d 211 9 [Value.ref 205, Value.int v1, Value.int v2, Value.int v3] [] (mj_hw w c hi hl) = if ¬ v1 = (3 : Int32) then mj_den mj_P E d 211 18 [Value.ref 205, Value.int v1, Value.int v2, Value.int v3] [] (mj_hw w c hi hl) else some (some (Value.int (v2 - v3)), (mj_hw w c hi hl)) := by
  rw [mj_den_eq, f211_9]
  exact zt_iload_n rfl rfl (zt_iconst rfl (zt_icmp_ne rfl rfl (zt_iload_n rfl rfl (zt_iload_n rfl rfl (zt_isub rfl (zt_ireturn0))))))
set_option maxRecDepth 100000 in
theorem f211_18 : mj_find (mj_P 211).2.2.2.2 18 = [(.iload_n 1, 1, 0, []), (.iconst 4, 1, 4, []), (.if_icmp .ne 7, 3, 0, [27]), (.iload_n 2, 1, 0, []), (.iload_n 3, 1, 0, []), (.imul, 1, 0, []), (.ireturn, 1, 0, [0])] := rfl
set_option maxRecDepth 100000 in
theorem q211_18 (E : mj_E) (d w c : Nat) (hi : Nat → Nat → Int32) (hl : Nat → Nat → Int64) (v1 : Int32) (v2 : Int32) (v3 : Int32) : mj_den mj_P E d 211 18 [Value.ref 205, Value.int v1, Value.int v2, Value.int v3] [] (mj_hw w c hi hl) = if ¬ v1 = (4 : Int32) then mj_den mj_P E d 211 27 [Value.ref 205, Value.int v1, Value.int v2, Value.int v3] [] (mj_hw w c hi hl) else some (some (Value.int (v2 * v3)), (mj_hw w c hi hl)) := by
  rw [mj_den_eq, f211_18]
  exact zt_iload_n rfl rfl (zt_iconst rfl (zt_icmp_ne rfl rfl (zt_iload_n rfl rfl (zt_iload_n rfl rfl (zt_imul rfl (zt_ireturn0))))))
set_option maxRecDepth 100000 in
theorem f211_27 : mj_find (mj_P 211).2.2.2.2 27 = [(.iload_n 1, 1, 0, []), (.iconst 5, 1, 5, []), (.if_icmp .ne 7, 3, 0, [36]), (.iload_n 2, 1, 0, []), (.iload_n 3, 1, 0, []), (.idiv, 1, 0, []), (.ireturn, 1, 0, [0])] := rfl
set_option maxRecDepth 100000 in
theorem q211_27 (E : mj_E) (d w c : Nat) (hi : Nat → Nat → Int32) (hl : Nat → Nat → Int64) (v1 : Int32) (v2 : Int32) (v3 : Int32) : mj_den mj_P E d 211 27 [Value.ref 205, Value.int v1, Value.int v2, Value.int v3] [] (mj_hw w c hi hl) = if ¬ v1 = (5 : Int32) then mj_den mj_P E d 211 36 [Value.ref 205, Value.int v1, Value.int v2, Value.int v3] [] (mj_hw w c hi hl) else if v3 = 0 then none else some (some (Value.int (v2 / v3)), (mj_hw w c hi hl)) := by
  rw [mj_den_eq, f211_27]
  exact zt_iload_n rfl rfl (zt_iconst rfl (zt_icmp_ne rfl rfl (zt_iload_n rfl rfl (zt_iload_n rfl rfl (zt_idiv  rfl (zt_ireturn0))))))
set_option maxRecDepth 100000 in
theorem f211_36 : mj_find (mj_P 211).2.2.2.2 36 = [(.iload_n 1, 1, 0, []), (.bipush 6, 2, 6, []), (.if_icmp .ne 14, 3, 0, [53]), (.iload_n 2, 1, 0, []), (.iload_n 3, 1, 0, []), (.if_icmp .ge 7, 3, 0, [51]), (.iconst 1, 1, 1, []), (.goto 4, 3, 0, [52])] := rfl
set_option maxRecDepth 100000 in
theorem q211_36 (E : mj_E) (d w c : Nat) (hi : Nat → Nat → Int32) (hl : Nat → Nat → Int64) (v1 : Int32) (v2 : Int32) (v3 : Int32) : mj_den mj_P E d 211 36 [Value.ref 205, Value.int v1, Value.int v2, Value.int v3] [] (mj_hw w c hi hl) = if ¬ v1 = (6 : Int32) then mj_den mj_P E d 211 53 [Value.ref 205, Value.int v1, Value.int v2, Value.int v3] [] (mj_hw w c hi hl) else if v3 ≤ v2 then mj_den mj_P E d 211 51 [Value.ref 205, Value.int v1, Value.int v2, Value.int v3] [] (mj_hw w c hi hl) else mj_den mj_P E d 211 52 [Value.ref 205, Value.int v1, Value.int v2, Value.int v3] [Value.int (1 : Int32)] (mj_hw w c hi hl) := by
  rw [mj_den_eq, f211_36]
  exact zt_iload_n rfl rfl (zt_bipush rfl (zt_icmp_ne rfl rfl (zt_iload_n rfl rfl (zt_iload_n rfl rfl (zt_icmp_ge rfl rfl (zt_iconst rfl (zt_goto rfl)))))))
set_option maxRecDepth 100000 in
theorem f211_51 : mj_find (mj_P 211).2.2.2.2 51 = [(.iconst 0, 1, 0, [])] := rfl
set_option maxRecDepth 100000 in
theorem q211_51 (E : mj_E) (d w c : Nat) (hi : Nat → Nat → Int32) (hl : Nat → Nat → Int64) (v1 : Int32) (v2 : Int32) (v3 : Int32) : mj_den mj_P E d 211 51 [Value.ref 205, Value.int v1, Value.int v2, Value.int v3] [] (mj_hw w c hi hl) = mj_den mj_P E d 211 52 [Value.ref 205, Value.int v1, Value.int v2, Value.int v3] [Value.int (0 : Int32)] (mj_hw w c hi hl) := by
  rw [mj_den_eq, f211_51]
  exact zt_iconst rfl (zt_end rfl)
set_option maxRecDepth 100000 in
theorem f211_52 : mj_find (mj_P 211).2.2.2.2 52 = [(.ireturn, 1, 0, [0])] := rfl
set_option maxRecDepth 100000 in
theorem q211_52 (E : mj_E) (d w c : Nat) (hi : Nat → Nat → Int32) (hl : Nat → Nat → Int64) (v1 : Int32) (v2 : Int32) (v3 : Int32) (s0 : Int32) : mj_den mj_P E d 211 52 [Value.ref 205, Value.int v1, Value.int v2, Value.int v3] [Value.int s0] (mj_hw w c hi hl) = some (some (Value.int s0), (mj_hw w c hi hl)) := by
  rw [mj_den_eq, f211_52]
  exact zt_ireturn0
set_option maxRecDepth 100000 in
theorem f211_53 : mj_find (mj_P 211).2.2.2.2 53 = [(.iload_n 1, 1, 0, []), (.bipush 7, 2, 7, []), (.if_icmp .ne 14, 3, 0, [70]), (.iload_n 2, 1, 0, []), (.iload_n 3, 1, 0, []), (.if_icmp .ne 7, 3, 0, [68]), (.iconst 1, 1, 1, []), (.goto 4, 3, 0, [69])] := rfl
set_option maxRecDepth 100000 in
theorem q211_53 (E : mj_E) (d w c : Nat) (hi : Nat → Nat → Int32) (hl : Nat → Nat → Int64) (v1 : Int32) (v2 : Int32) (v3 : Int32) : mj_den mj_P E d 211 53 [Value.ref 205, Value.int v1, Value.int v2, Value.int v3] [] (mj_hw w c hi hl) = if ¬ v1 = (7 : Int32) then mj_den mj_P E d 211 70 [Value.ref 205, Value.int v1, Value.int v2, Value.int v3] [] (mj_hw w c hi hl) else if ¬ v2 = v3 then mj_den mj_P E d 211 68 [Value.ref 205, Value.int v1, Value.int v2, Value.int v3] [] (mj_hw w c hi hl) else mj_den mj_P E d 211 69 [Value.ref 205, Value.int v1, Value.int v2, Value.int v3] [Value.int (1 : Int32)] (mj_hw w c hi hl) := by
  rw [mj_den_eq, f211_53]
  exact zt_iload_n rfl rfl (zt_bipush rfl (zt_icmp_ne rfl rfl (zt_iload_n rfl rfl (zt_iload_n rfl rfl (zt_icmp_ne rfl rfl (zt_iconst rfl (zt_goto rfl)))))))
set_option maxRecDepth 100000 in
theorem f211_68 : mj_find (mj_P 211).2.2.2.2 68 = [(.iconst 0, 1, 0, [])] := rfl
set_option maxRecDepth 100000 in
theorem q211_68 (E : mj_E) (d w c : Nat) (hi : Nat → Nat → Int32) (hl : Nat → Nat → Int64) (v1 : Int32) (v2 : Int32) (v3 : Int32) : mj_den mj_P E d 211 68 [Value.ref 205, Value.int v1, Value.int v2, Value.int v3] [] (mj_hw w c hi hl) = mj_den mj_P E d 211 69 [Value.ref 205, Value.int v1, Value.int v2, Value.int v3] [Value.int (0 : Int32)] (mj_hw w c hi hl) := by
  rw [mj_den_eq, f211_68]
  exact zt_iconst rfl (zt_end rfl)
set_option maxRecDepth 100000 in
theorem f211_69 : mj_find (mj_P 211).2.2.2.2 69 = [(.ireturn, 1, 0, [0])] := rfl
set_option maxRecDepth 100000 in
theorem q211_69 (E : mj_E) (d w c : Nat) (hi : Nat → Nat → Int32) (hl : Nat → Nat → Int64) (v1 : Int32) (v2 : Int32) (v3 : Int32) (s0 : Int32) : mj_den mj_P E d 211 69 [Value.ref 205, Value.int v1, Value.int v2, Value.int v3] [Value.int s0] (mj_hw w c hi hl) = some (some (Value.int s0), (mj_hw w c hi hl)) := by
  rw [mj_den_eq, f211_69]
  exact zt_ireturn0
set_option maxRecDepth 100000 in
theorem f211_70 : mj_find (mj_P 211).2.2.2.2 70 = [(.iload_n 1, 1, 0, []), (.bipush 8, 2, 8, []), (.if_icmp .ne 14, 3, 0, [87]), (.iload_n 2, 1, 0, []), (.iload_n 3, 1, 0, []), (.if_icmp .le 7, 3, 0, [85]), (.iconst 1, 1, 1, []), (.goto 4, 3, 0, [86])] := rfl
set_option maxRecDepth 100000 in
theorem q211_70 (E : mj_E) (d w c : Nat) (hi : Nat → Nat → Int32) (hl : Nat → Nat → Int64) (v1 : Int32) (v2 : Int32) (v3 : Int32) : mj_den mj_P E d 211 70 [Value.ref 205, Value.int v1, Value.int v2, Value.int v3] [] (mj_hw w c hi hl) = if ¬ v1 = (8 : Int32) then mj_den mj_P E d 211 87 [Value.ref 205, Value.int v1, Value.int v2, Value.int v3] [] (mj_hw w c hi hl) else if v2 ≤ v3 then mj_den mj_P E d 211 85 [Value.ref 205, Value.int v1, Value.int v2, Value.int v3] [] (mj_hw w c hi hl) else mj_den mj_P E d 211 86 [Value.ref 205, Value.int v1, Value.int v2, Value.int v3] [Value.int (1 : Int32)] (mj_hw w c hi hl) := by
  rw [mj_den_eq, f211_70]
  exact zt_iload_n rfl rfl (zt_bipush rfl (zt_icmp_ne rfl rfl (zt_iload_n rfl rfl (zt_iload_n rfl rfl (zt_icmp_le rfl rfl (zt_iconst rfl (zt_goto rfl)))))))
set_option maxRecDepth 100000 in
theorem f211_85 : mj_find (mj_P 211).2.2.2.2 85 = [(.iconst 0, 1, 0, [])] := rfl
set_option maxRecDepth 100000 in
theorem q211_85 (E : mj_E) (d w c : Nat) (hi : Nat → Nat → Int32) (hl : Nat → Nat → Int64) (v1 : Int32) (v2 : Int32) (v3 : Int32) : mj_den mj_P E d 211 85 [Value.ref 205, Value.int v1, Value.int v2, Value.int v3] [] (mj_hw w c hi hl) = mj_den mj_P E d 211 86 [Value.ref 205, Value.int v1, Value.int v2, Value.int v3] [Value.int (0 : Int32)] (mj_hw w c hi hl) := by
  rw [mj_den_eq, f211_85]
  exact zt_iconst rfl (zt_end rfl)
set_option maxRecDepth 100000 in
theorem f211_86 : mj_find (mj_P 211).2.2.2.2 86 = [(.ireturn, 1, 0, [0])] := rfl
set_option maxRecDepth 100000 in
theorem q211_86 (E : mj_E) (d w c : Nat) (hi : Nat → Nat → Int32) (hl : Nat → Nat → Int64) (v1 : Int32) (v2 : Int32) (v3 : Int32) (s0 : Int32) : mj_den mj_P E d 211 86 [Value.ref 205, Value.int v1, Value.int v2, Value.int v3] [Value.int s0] (mj_hw w c hi hl) = some (some (Value.int s0), (mj_hw w c hi hl)) := by
  rw [mj_den_eq, f211_86]
  exact zt_ireturn0
set_option maxRecDepth 100000 in
theorem f211_87 : mj_find (mj_P 211).2.2.2.2 87 = [(.iload_n 1, 1, 0, []), (.bipush 10, 2, 10, []), (.if_icmp .ne 9, 3, 0, [99]), (.iload_n 2, 1, 0, []), (.iload_n 3, 1, 0, []), (.imul, 1, 0, []), (.goto 14, 3, 0, [110])] := rfl
set_option maxRecDepth 100000 in
theorem q211_87 (E : mj_E) (d w c : Nat) (hi : Nat → Nat → Int32) (hl : Nat → Nat → Int64) (v1 : Int32) (v2 : Int32) (v3 : Int32) : mj_den mj_P E d 211 87 [Value.ref 205, Value.int v1, Value.int v2, Value.int v3] [] (mj_hw w c hi hl) = if ¬ v1 = (10 : Int32) then mj_den mj_P E d 211 99 [Value.ref 205, Value.int v1, Value.int v2, Value.int v3] [] (mj_hw w c hi hl) else mj_den mj_P E d 211 110 [Value.ref 205, Value.int v1, Value.int v2, Value.int v3] [Value.int (v2 * v3)] (mj_hw w c hi hl) := by
  rw [mj_den_eq, f211_87]
  exact zt_iload_n rfl rfl (zt_bipush rfl (zt_icmp_ne rfl rfl (zt_iload_n rfl rfl (zt_iload_n rfl rfl (zt_imul rfl (zt_goto rfl))))))
set_option maxRecDepth 100000 in
theorem f211_99 : mj_find (mj_P 211).2.2.2.2 99 = [(.iload_n 2, 1, 0, []), (.iload_n 3, 1, 0, []), (.iadd, 1, 0, []), (.ifCond .le 7, 3, 0, [109]), (.iconst 1, 1, 1, []), (.goto 4, 3, 0, [110])] := rfl
set_option maxRecDepth 100000 in
theorem q211_99 (E : mj_E) (d w c : Nat) (hi : Nat → Nat → Int32) (hl : Nat → Nat → Int64) (v1 : Int32) (v2 : Int32) (v3 : Int32) : mj_den mj_P E d 211 99 [Value.ref 205, Value.int v1, Value.int v2, Value.int v3] [] (mj_hw w c hi hl) = if (v2 + v3) ≤ 0 then mj_den mj_P E d 211 109 [Value.ref 205, Value.int v1, Value.int v2, Value.int v3] [] (mj_hw w c hi hl) else mj_den mj_P E d 211 110 [Value.ref 205, Value.int v1, Value.int v2, Value.int v3] [Value.int (1 : Int32)] (mj_hw w c hi hl) := by
  rw [mj_den_eq, f211_99]
  exact zt_iload_n rfl rfl (zt_iload_n rfl rfl (zt_iadd rfl (zt_if_le rfl rfl (zt_iconst rfl (zt_goto rfl)))))
set_option maxRecDepth 100000 in
theorem f211_109 : mj_find (mj_P 211).2.2.2.2 109 = [(.iconst 0, 1, 0, [])] := rfl
set_option maxRecDepth 100000 in
theorem q211_109 (E : mj_E) (d w c : Nat) (hi : Nat → Nat → Int32) (hl : Nat → Nat → Int64) (v1 : Int32) (v2 : Int32) (v3 : Int32) : mj_den mj_P E d 211 109 [Value.ref 205, Value.int v1, Value.int v2, Value.int v3] [] (mj_hw w c hi hl) = mj_den mj_P E d 211 110 [Value.ref 205, Value.int v1, Value.int v2, Value.int v3] [Value.int (0 : Int32)] (mj_hw w c hi hl) := by
  rw [mj_den_eq, f211_109]
  exact zt_iconst rfl (zt_end rfl)
set_option maxRecDepth 100000 in
theorem f211_110 : mj_find (mj_P 211).2.2.2.2 110 = [(.ireturn, 1, 0, [0])] := rfl
set_option maxRecDepth 100000 in
theorem q211_110 (E : mj_E) (d w c : Nat) (hi : Nat → Nat → Int32) (hl : Nat → Nat → Int64) (v1 : Int32) (v2 : Int32) (v3 : Int32) (s0 : Int32) : mj_den mj_P E d 211 110 [Value.ref 205, Value.int v1, Value.int v2, Value.int v3] [Value.int s0] (mj_hw w c hi hl) = some (some (Value.int s0), (mj_hw w c hi hl)) := by
  rw [mj_den_eq, f211_110]
  exact zt_ireturn0
set_option maxRecDepth 100000 in
theorem f212_0 : mj_find (mj_P 212).2.2.2.2 0 = [(.iconst 0, 1, 0, []), (.istore 4, 2, 0, []), (.sipush 400, 3, 400, []), (.iload_n 1, 1, 0, []), (.imul, 1, 0, []), (.iload_n 2, 1, 0, []), (.iadd, 1, 0, []), (.istore 5, 2, 0, [])] := rfl
set_option maxRecDepth 100000 in
theorem q212_0 (E : mj_E) (d w c : Nat) (hi : Nat → Nat → Int32) (hl : Nat → Nat → Int64) (v1 : Int32) (v2 : Int32) (v3 : Int32) : mj_den mj_P E d 212 0 [Value.ref 205, Value.int v1, Value.int v2, Value.int v3, Value.float 0, Value.float 0] [] (mj_hw w c hi hl) = mj_den mj_P E d 212 12 [Value.ref 205, Value.int v1, Value.int v2, Value.int v3, Value.int (0 : Int32), Value.int (((400 : Int32) * v1) + v2)] [] (mj_hw w c hi hl) := by
  rw [mj_den_eq, f212_0]
  exact zt_iconst rfl (zt_istore (Nat.le_of_ble_eq_true rfl) rfl rfl (zt_sipush rfl (zt_iload_n rfl rfl (zt_imul rfl (zt_iload_n rfl rfl (zt_iadd rfl (zt_istore (Nat.le_of_ble_eq_true rfl) rfl rfl (zt_end rfl))))))))
set_option maxRecDepth 100000 in
theorem f212_12 : mj_find (mj_P 212).2.2.2.2 12 = [(.iload 5, 2, 0, []), (.sipush 400, 3, 400, []), (.iload_n 1, 1, 0, []), (.imul, 1, 0, []), (.iload_n 3, 1, 0, []), (.iadd, 1, 0, []), (.if_icmp .ge 155, 3, 0, [176]), (.aload_n 0, 1, 0, []), (.getfield 55, 3, 0, [12, 25, 3, 1435]), (.iload 5, 2, 0, []), (.iaload, 1, 0, []), (.ifCond .eq 14, 3, 0, [45]), (.aload_n 0, 1, 0, []), (.getfield 55, 3, 0, [12, 25, 3, 1435]), (.iload 5, 2, 0, []), (.iaload, 1, 0, []), (.iconst 1, 1, 1, []), (.if_icmp .ne 51, 3, 0, [93])] := rfl
set_option maxRecDepth 100000 in
theorem q212_12 (E : mj_E) (d w c : Nat) (hi : Nat → Nat → Int32) (hl : Nat → Nat → Int64) (v1 : Int32) (v2 : Int32) (v3 : Int32) (v4 : Int32) (v5 : Int32) : mj_den mj_P E d 212 12 [Value.ref 205, Value.int v1, Value.int v2, Value.int v3, Value.int v4, Value.int v5] [] (mj_hw w c hi hl) = if (((400 : Int32) * v1) + v3) ≤ v5 then mj_den mj_P E d 212 176 [Value.ref 205, Value.int v1, Value.int v2, Value.int v3, Value.int v4, Value.int v5] [] (mj_hw w c hi hl) else if 0 ≤ v5 ∧ (v5).toNatClampNeg < 1200 then if (hi 221 ((v5).toNatClampNeg)) = 0 then mj_den mj_P E d 212 45 [Value.ref 205, Value.int v1, Value.int v2, Value.int v3, Value.int v4, Value.int v5] [] (mj_hw w c hi hl) else if 0 ≤ v5 ∧ (v5).toNatClampNeg < 1200 then if ¬ (hi 221 ((v5).toNatClampNeg)) = (1 : Int32) then mj_den mj_P E d 212 93 [Value.ref 205, Value.int v1, Value.int v2, Value.int v3, Value.int v4, Value.int v5] [] (mj_hw w c hi hl) else mj_den mj_P E d 212 45 [Value.ref 205, Value.int v1, Value.int v2, Value.int v3, Value.int v4, Value.int v5] [] (mj_hw w c hi hl) else none else none := by
  rw [mj_den_eq, f212_12]
  exact zt_iload rfl rfl (zt_sipush rfl (zt_iload_n rfl rfl (zt_imul rfl (zt_iload_n rfl rfl (zt_iadd rfl (zt_icmp_ge rfl rfl (zt_aload_n rfl rfl (zt_getr (mjkd205 _ _ _ _) (mjhr205_25 w c) rfl (zt_iload rfl rfl (zt_iald (mjkd221 _ _ _ _) (mjln221 _ _ _ _) rfl rfl (zt_if_eq rfl rfl (zt_aload_n rfl rfl (zt_getr (mjkd205 _ _ _ _) (mjhr205_25 w c) rfl (zt_iload rfl rfl (zt_iald (mjkd221 _ _ _ _) (mjln221 _ _ _ _) rfl rfl (zt_iconst rfl (zt_icmp_ne rfl rfl (zt_end rfl))))))))))))))))))
set_option maxRecDepth 100000 in
theorem f212_45 : mj_find (mj_P 212).2.2.2.2 45 = [(.aload_n 0, 1, 0, []), (.getfield 80, 3, 0, [12, 43, 3, 1453]), (.iload 4, 2, 0, []), (.aload_n 0, 1, 0, []), (.getfield 55, 3, 0, [12, 25, 3, 1435]), (.iload 5, 2, 0, []), (.iaload, 1, 0, []), (.ifCond .ne 13, 3, 0, [71]), (.aload_n 0, 1, 0, []), (.getfield 58, 3, 0, [12, 26, 3, 1436]), (.iload 5, 2, 0, []), (.iaload, 1, 0, []), (.goto 15, 3, 0, [83])] := rfl
set_option maxRecDepth 100000 in
theorem q212_45 (E : mj_E) (d w c : Nat) (hi : Nat → Nat → Int32) (hl : Nat → Nat → Int64) (v1 : Int32) (v2 : Int32) (v3 : Int32) (v4 : Int32) (v5 : Int32) : mj_den mj_P E d 212 45 [Value.ref 205, Value.int v1, Value.int v2, Value.int v3, Value.int v4, Value.int v5] [] (mj_hw w c hi hl) = if 0 ≤ v5 ∧ (v5).toNatClampNeg < 1200 then if ¬ (hi 221 ((v5).toNatClampNeg)) = 0 then mj_den mj_P E d 212 71 [Value.ref 205, Value.int v1, Value.int v2, Value.int v3, Value.int v4, Value.int v5] [Value.int v4, Value.ref 228] (mj_hw w c hi hl) else if 0 ≤ v5 ∧ (v5).toNatClampNeg < 1200 then mj_den mj_P E d 212 83 [Value.ref 205, Value.int v1, Value.int v2, Value.int v3, Value.int v4, Value.int v5] [Value.int (hi 222 ((v5).toNatClampNeg)), Value.int v4, Value.ref 228] (mj_hw w c hi hl) else none else none := by
  rw [mj_den_eq, f212_45]
  exact zt_aload_n rfl rfl (zt_getr (mjkd205 _ _ _ _) (mjhr205_43 w c) rfl (zt_iload rfl rfl (zt_aload_n rfl rfl (zt_getr (mjkd205 _ _ _ _) (mjhr205_25 w c) rfl (zt_iload rfl rfl (zt_iald (mjkd221 _ _ _ _) (mjln221 _ _ _ _) rfl rfl (zt_if_ne rfl rfl (zt_aload_n rfl rfl (zt_getr (mjkd205 _ _ _ _) (mjhr205_26 w c) rfl (zt_iload rfl rfl (zt_iald (mjkd222 _ _ _ _) (mjln222 _ _ _ _) rfl rfl (zt_goto rfl))))))))))))
set_option maxRecDepth 100000 in
theorem f212_71 : mj_find (mj_P 212).2.2.2.2 71 = [(.aload_n 0, 1, 0, []), (.getfield 77, 3, 0, [12, 42, 3, 1452]), (.aload_n 0, 1, 0, []), (.getfield 58, 3, 0, [12, 26, 3, 1436]), (.iload 5, 2, 0, []), (.iaload, 1, 0, []), (.iaload, 1, 0, [])] := rfl
set_option maxRecDepth 100000 in
theorem q212_71 (E : mj_E) (d w c : Nat) (hi : Nat → Nat → Int32) (hl : Nat → Nat → Int64) (v1 : Int32) (v2 : Int32) (v3 : Int32) (v4 : Int32) (v5 : Int32) (s0 : Int32) : mj_den mj_P E d 212 71 [Value.ref 205, Value.int v1, Value.int v2, Value.int v3, Value.int v4, Value.int v5] [Value.int s0, Value.ref 228] (mj_hw w c hi hl) = if 0 ≤ v5 ∧ (v5).toNatClampNeg < 1200 then if 0 ≤ (hi 222 ((v5).toNatClampNeg)) ∧ ((hi 222 ((v5).toNatClampNeg))).toNatClampNeg < 10 then mj_den mj_P E d 212 83 [Value.ref 205, Value.int v1, Value.int v2, Value.int v3, Value.int v4, Value.int v5] [Value.int (hi 227 (((hi 222 ((v5).toNatClampNeg))).toNatClampNeg)), Value.int s0, Value.ref 228] (mj_hw w c hi hl) else none else none := by
  rw [mj_den_eq, f212_71]
  exact zt_aload_n rfl rfl (zt_getr (mjkd205 _ _ _ _) (mjhr205_42 w c) rfl (zt_aload_n rfl rfl (zt_getr (mjkd205 _ _ _ _) (mjhr205_26 w c) rfl (zt_iload rfl rfl (zt_iald (mjkd222 _ _ _ _) (mjln222 _ _ _ _) rfl rfl (zt_iald (mjkd227 _ _ _ _) (mjln227 _ _ _ _) rfl rfl (zt_end rfl)))))))
set_option maxRecDepth 100000 in
theorem f212_83 : mj_find (mj_P 212).2.2.2.2 83 = [(.iastore, 1, 0, []), (.iload 4, 2, 0, []), (.iconst 1, 1, 1, []), (.iadd, 1, 0, []), (.istore 4, 2, 0, []), (.goto 80, 3, 0, [170])] := rfl
set_option maxRecDepth 100000 in
theorem q212_83 (E : mj_E) (d w c : Nat) (hi : Nat → Nat → Int32) (hl : Nat → Nat → Int64) (v1 : Int32) (v2 : Int32) (v3 : Int32) (v4 : Int32) (v5 : Int32) (s0 : Int32) (s1 : Int32) : mj_den mj_P E d 212 83 [Value.ref 205, Value.int v1, Value.int v2, Value.int v3, Value.int v4, Value.int v5] [Value.int s0, Value.int s1, Value.ref 228] (mj_hw w c hi hl) = if 0 ≤ s1 ∧ (s1).toNatClampNeg < 420 then mj_den mj_P E d 212 170 [Value.ref 205, Value.int v1, Value.int v2, Value.int v3, Value.int (v4 + (1 : Int32)), Value.int v5] [] (mj_hw w c (mj_u hi 228 ((s1).toNatClampNeg) s0) hl) else none := by
  rw [mj_den_eq, f212_83]
  exact zt_iast (mjkd228 _ _ _ _) (mjln228 _ _ _ _) rfl rfl (zt_iload rfl rfl (zt_iconst rfl (zt_iadd rfl (zt_istore (Nat.le_of_ble_eq_true rfl) rfl rfl (zt_goto rfl)))))
set_option maxRecDepth 100000 in
theorem f212_93 : mj_find (mj_P 212).2.2.2.2 93 = [(.aload_n 0, 1, 0, []), (.getfield 55, 3, 0, [12, 25, 3, 1435]), (.iload 5, 2, 0, []), (.iaload, 1, 0, []), (.bipush 9, 2, 9, []), (.if_icmp .ne 26, 3, 0, [128]), (.aload_n 0, 1, 0, []), (.getfield 80, 3, 0, [12, 43, 3, 1453]), (.iload 4, 2, 0, []), (.iconst 1, 1, 1, []), (.isub, 1, 0, []), (.iconst 1, 1, 1, []), (.aload_n 0, 1, 0, []), (.getfield 80, 3, 0, [12, 43, 3, 1453]), (.iload 4, 2, 0, []), (.iconst 1, 1, 1, []), (.isub, 1, 0, []), (.iaload, 1, 0, []), (.isub, 1, 0, []), (.iastore, 1, 0, []), (.goto 45, 3, 0, [170])] := rfl
set_option maxRecDepth 100000 in
theorem q212_93 (E : mj_E) (d w c : Nat) (hi : Nat → Nat → Int32) (hl : Nat → Nat → Int64) (v1 : Int32) (v2 : Int32) (v3 : Int32) (v4 : Int32) (v5 : Int32) : mj_den mj_P E d 212 93 [Value.ref 205, Value.int v1, Value.int v2, Value.int v3, Value.int v4, Value.int v5] [] (mj_hw w c hi hl) = if 0 ≤ v5 ∧ (v5).toNatClampNeg < 1200 then if ¬ (hi 221 ((v5).toNatClampNeg)) = (9 : Int32) then mj_den mj_P E d 212 128 [Value.ref 205, Value.int v1, Value.int v2, Value.int v3, Value.int v4, Value.int v5] [] (mj_hw w c hi hl) else if 0 ≤ (v4 - (1 : Int32)) ∧ ((v4 - (1 : Int32))).toNatClampNeg < 420 then if 0 ≤ (v4 - (1 : Int32)) ∧ ((v4 - (1 : Int32))).toNatClampNeg < 420 then mj_den mj_P E d 212 170 [Value.ref 205, Value.int v1, Value.int v2, Value.int v3, Value.int v4, Value.int v5] [] (mj_hw w c (mj_u hi 228 (((v4 - (1 : Int32))).toNatClampNeg) ((1 : Int32) - (hi 228 (((v4 - (1 : Int32))).toNatClampNeg)))) hl) else none else none else none := by
  rw [mj_den_eq, f212_93]
  exact zt_aload_n rfl rfl (zt_getr (mjkd205 _ _ _ _) (mjhr205_25 w c) rfl (zt_iload rfl rfl (zt_iald (mjkd221 _ _ _ _) (mjln221 _ _ _ _) rfl rfl (zt_bipush rfl (zt_icmp_ne rfl rfl (zt_aload_n rfl rfl (zt_getr (mjkd205 _ _ _ _) (mjhr205_43 w c) rfl (zt_iload rfl rfl (zt_iconst rfl (zt_isub rfl (zt_iconst rfl (zt_aload_n rfl rfl (zt_getr (mjkd205 _ _ _ _) (mjhr205_43 w c) rfl (zt_iload rfl rfl (zt_iconst rfl (zt_isub rfl (zt_iald (mjkd228 _ _ _ _) (mjln228 _ _ _ _) rfl rfl (zt_isub rfl (zt_iast (mjkd228 _ _ _ _) (mjln228 _ _ _ _) rfl rfl (zt_goto rfl))))))))))))))))))))
set_option maxRecDepth 100000 in
theorem f212_128 : mj_find (mj_P 212).2.2.2.2 128 = [(.iload 4, 2, 0, []), (.iconst 1, 1, 1, []), (.isub, 1, 0, []), (.istore 4, 2, 0, []), (.aload_n 0, 1, 0, []), (.getfield 80, 3, 0, [12, 43, 3, 1453]), (.iload 4, 2, 0, []), (.iconst 1, 1, 1, []), (.isub, 1, 0, []), (.aload_n 0, 1, 0, []), (.aload_n 0, 1, 0, []), (.getfield 55, 3, 0, [12, 25, 3, 1435]), (.iload 5, 2, 0, []), (.iaload, 1, 0, []), (.aload_n 0, 1, 0, []), (.getfield 80, 3, 0, [12, 43, 3, 1453]), (.iload 4, 2, 0, []), (.iconst 1, 1, 1, []), (.isub, 1, 0, []), (.iaload, 1, 0, []), (.aload_n 0, 1, 0, []), (.getfield 80, 3, 0, [12, 43, 3, 1453]), (.iload 4, 2, 0, []), (.iaload, 1, 0, []), (.invokevirtual 308, 3, 0, [0, 211, 12, 3, 1, 1856, 1858, 93, 156, 1859])] := rfl
set_option maxRecDepth 100000 in
theorem q212_128 (E : mj_E) (d w c : Nat) (hi : Nat → Nat → Int32) (hl : Nat → Nat → Int64) (v1 : Int32) (v2 : Int32) (v3 : Int32) (v4 : Int32) (v5 : Int32) : mj_den mj_P E d 212 128 [Value.ref 205, Value.int v1, Value.int v2, Value.int v3, Value.int v4, Value.int v5] [] (mj_hw w c hi hl) = if 0 ≤ v5 ∧ (v5).toNatClampNeg < 1200 then if 0 ≤ ((v4 - (1 : Int32)) - (1 : Int32)) ∧ (((v4 - (1 : Int32)) - (1 : Int32))).toNatClampNeg < 420 then if 0 ≤ (v4 - (1 : Int32)) ∧ ((v4 - (1 : Int32))).toNatClampNeg < 420 then mj_bi (mj_dc mj_P E d 211 [Value.ref 205, Value.int (hi 221 ((v5).toNatClampNeg)), Value.int (hi 228 ((((v4 - (1 : Int32)) - (1 : Int32))).toNatClampNeg)), Value.int (hi 228 (((v4 - (1 : Int32))).toNatClampNeg))] (mj_hw w c hi hl)) (fun x1 h1 => mj_den mj_P E d 212 169 [Value.ref 205, Value.int v1, Value.int v2, Value.int v3, Value.int (v4 - (1 : Int32)), Value.int v5] [Value.int x1, Value.int ((v4 - (1 : Int32)) - (1 : Int32)), Value.ref 228] h1) else none else none else none := by
  rw [mj_den_eq, f212_128]
  exact zt_iload rfl rfl (zt_iconst rfl (zt_isub rfl (zt_istore (Nat.le_of_ble_eq_true rfl) rfl rfl (zt_aload_n rfl rfl (zt_getr (mjkd205 _ _ _ _) (mjhr205_43 w c) rfl (zt_iload rfl rfl (zt_iconst rfl (zt_isub rfl (zt_aload_n rfl rfl (zt_aload_n rfl rfl (zt_getr (mjkd205 _ _ _ _) (mjhr205_25 w c) rfl (zt_iload rfl rfl (zt_iald (mjkd221 _ _ _ _) (mjln221 _ _ _ _) rfl rfl (zt_aload_n rfl rfl (zt_getr (mjkd205 _ _ _ _) (mjhr205_43 w c) rfl (zt_iload rfl rfl (zt_iconst rfl (zt_isub rfl (zt_iald (mjkd228 _ _ _ _) (mjln228 _ _ _ _) rfl rfl (zt_aload_n rfl rfl (zt_getr (mjkd205 _ _ _ _) (mjhr205_43 w c) rfl (zt_iload rfl rfl (zt_iald (mjkd228 _ _ _ _) (mjln228 _ _ _ _) rfl rfl (zt_call0_1 rfl (mjkd205 _ _ _ _) (Nat.le_of_ble_eq_true rfl) rfl rfl))))))))))))))))))))))))
set_option maxRecDepth 100000 in
theorem f212_169 : mj_find (mj_P 212).2.2.2.2 169 = [(.iastore, 1, 0, [])] := rfl
set_option maxRecDepth 100000 in
theorem q212_169 (E : mj_E) (d w c : Nat) (hi : Nat → Nat → Int32) (hl : Nat → Nat → Int64) (v1 : Int32) (v2 : Int32) (v3 : Int32) (v4 : Int32) (v5 : Int32) (s0 : Int32) (s1 : Int32) : mj_den mj_P E d 212 169 [Value.ref 205, Value.int v1, Value.int v2, Value.int v3, Value.int v4, Value.int v5] [Value.int s0, Value.int s1, Value.ref 228] (mj_hw w c hi hl) = if 0 ≤ s1 ∧ (s1).toNatClampNeg < 420 then mj_den mj_P E d 212 170 [Value.ref 205, Value.int v1, Value.int v2, Value.int v3, Value.int v4, Value.int v5] [] (mj_hw w c (mj_u hi 228 ((s1).toNatClampNeg) s0) hl) else none := by
  rw [mj_den_eq, f212_169]
  exact zt_iast (mjkd228 _ _ _ _) (mjln228 _ _ _ _) rfl rfl (zt_end rfl)
set_option maxRecDepth 100000 in
theorem f212_170 : mj_find (mj_P 212).2.2.2.2 170 = [(.iinc 5 1, 3, 1, []), (.goto (-161), 3, 0, [12])] := rfl
set_option maxRecDepth 100000 in
theorem q212_170 (E : mj_E) (d w c : Nat) (hi : Nat → Nat → Int32) (hl : Nat → Nat → Int64) (v1 : Int32) (v2 : Int32) (v3 : Int32) (v4 : Int32) (v5 : Int32) : mj_den mj_P E d 212 170 [Value.ref 205, Value.int v1, Value.int v2, Value.int v3, Value.int v4, Value.int v5] [] (mj_hw w c hi hl) = mj_den mj_P E d 212 12 [Value.ref 205, Value.int v1, Value.int v2, Value.int v3, Value.int v4, Value.int (v5 + (1 : Int32))] [] (mj_hw w c hi hl) := by
  rw [mj_den_eq, f212_170]
  exact zt_iinc rfl (Nat.le_of_ble_eq_true rfl) rfl rfl (zt_goto rfl)
set_option maxRecDepth 100000 in
theorem f212_176 : mj_find (mj_P 212).2.2.2.2 176 = [(.aload_n 0, 1, 0, []), (.getfield 80, 3, 0, [12, 43, 3, 1453]), (.iconst 0, 1, 0, []), (.iaload, 1, 0, []), (.ireturn, 1, 0, [0])] := rfl
set_option maxRecDepth 100000 in
theorem q212_176 (E : mj_E) (d w c : Nat) (hi : Nat → Nat → Int32) (hl : Nat → Nat → Int64) (v1 : Int32) (v2 : Int32) (v3 : Int32) (v4 : Int32) (v5 : Int32) : mj_den mj_P E d 212 176 [Value.ref 205, Value.int v1, Value.int v2, Value.int v3, Value.int v4, Value.int v5] [] (mj_hw w c hi hl) = if 0 ≤ (0 : Int32) ∧ ((0 : Int32)).toNatClampNeg < 420 then some (some (Value.int (hi 228 (((0 : Int32)).toNatClampNeg))), (mj_hw w c hi hl)) else none := by
  rw [mj_den_eq, f212_176]
  exact zt_aload_n rfl rfl (zt_getr (mjkd205 _ _ _ _) (mjhr205_43 w c) rfl (zt_iconst rfl (zt_iald (mjkd228 _ _ _ _) (mjln228 _ _ _ _) rfl rfl (zt_ireturn0))))
set_option maxRecDepth 100000 in
theorem f213_0 : mj_find (mj_P 213).2.2.2.2 0 = [(.iconst 0, 1, 0, []), (.istore_n 2, 1, 0, [])] := rfl
set_option maxRecDepth 100000 in
theorem q213_0 (E : mj_E) (d w c : Nat) (hi : Nat → Nat → Int32) (hl : Nat → Nat → Int64) (v1 : Int32) : mj_den mj_P E d 213 0 [Value.ref 205, Value.int v1, Value.float 0] [] (mj_hw w c hi hl) = mj_den mj_P E d 213 2 [Value.ref 205, Value.int v1, Value.int (0 : Int32)] [] (mj_hw w c hi hl) := by
  rw [mj_den_eq, f213_0]
  exact zt_iconst rfl (zt_istore_n (Nat.le_of_ble_eq_true rfl) rfl rfl (zt_end rfl))
set_option maxRecDepth 100000 in
theorem f213_2 : mj_find (mj_P 213).2.2.2.2 2 = [(.iload_n 2, 1, 0, []), (.aload_n 0, 1, 0, []), (.getfield 40, 3, 0, [12, 20, 3, 1430]), (.iconst 0, 1, 0, []), (.iaload, 1, 0, []), (.if_icmp .ge 56, 3, 0, [65]), (.aload_n 0, 1, 0, []), (.getfield 43, 3, 0, [12, 21, 3, 1431]), (.iload_n 2, 1, 0, []), (.iaload, 1, 0, []), (.iload_n 1, 1, 0, []), (.if_icmp .ne 40, 3, 0, [59]), (.aload_n 0, 1, 0, []), (.getfield 49, 3, 0, [12, 23, 3, 1433]), (.iload_n 2, 1, 0, []), (.iaload, 1, 0, []), (.aload_n 0, 1, 0, []), (.getfield 52, 3, 0, [12, 24, 3, 1434]), (.iload_n 2, 1, 0, []), (.iaload, 1, 0, []), (.if_icmp .eq 23, 3, 0, [57]), (.aload_n 0, 1, 0, []), (.iconst 0, 1, 0, []), (.aload_n 0, 1, 0, []), (.getfield 49, 3, 0, [12, 23, 3, 1433]), (.iload_n 2, 1, 0, []), (.iaload, 1, 0, []), (.aload_n 0, 1, 0, []), (.getfield 52, 3, 0, [12, 24, 3, 1434]), (.iload_n 2, 1, 0, []), (.iaload, 1, 0, []), (.invokevirtual 311, 3, 0, [0, 212, 12, 3, 1, 1852, 1854, 92, 156, 1855])] := rfl
set_option maxRecDepth 100000 in
theorem q213_2 (E : mj_E) (d w c : Nat) (hi : Nat → Nat → Int32) (hl : Nat → Nat → Int64) (v1 : Int32) (v2 : Int32) : mj_den mj_P E d 213 2 [Value.ref 205, Value.int v1, Value.int v2] [] (mj_hw w c hi hl) = if 0 ≤ (0 : Int32) ∧ ((0 : Int32)).toNatClampNeg < 2 then if (hi 216 (((0 : Int32)).toNatClampNeg)) ≤ v2 then mj_den mj_P E d 213 65 [Value.ref 205, Value.int v1, Value.int v2] [] (mj_hw w c hi hl) else if 0 ≤ v2 ∧ (v2).toNatClampNeg < 48 then if ¬ (hi 217 ((v2).toNatClampNeg)) = v1 then mj_den mj_P E d 213 59 [Value.ref 205, Value.int v1, Value.int v2] [] (mj_hw w c hi hl) else if 0 ≤ v2 ∧ (v2).toNatClampNeg < 48 then if 0 ≤ v2 ∧ (v2).toNatClampNeg < 48 then if (hi 219 ((v2).toNatClampNeg)) = (hi 220 ((v2).toNatClampNeg)) then mj_den mj_P E d 213 57 [Value.ref 205, Value.int v1, Value.int v2] [] (mj_hw w c hi hl) else if 0 ≤ v2 ∧ (v2).toNatClampNeg < 48 then if 0 ≤ v2 ∧ (v2).toNatClampNeg < 48 then mj_bi (mj_dc mj_P E d 212 [Value.ref 205, Value.int (0 : Int32), Value.int (hi 219 ((v2).toNatClampNeg)), Value.int (hi 220 ((v2).toNatClampNeg))] (mj_hw w c hi hl)) (fun x1 h1 => mj_den mj_P E d 213 54 [Value.ref 205, Value.int v1, Value.int v2] [Value.int x1] h1) else none else none else none else none else none else none := by
  rw [mj_den_eq, f213_2]
  exact zt_iload_n rfl rfl (zt_aload_n rfl rfl (zt_getr (mjkd205 _ _ _ _) (mjhr205_20 w c) rfl (zt_iconst rfl (zt_iald (mjkd216 _ _ _ _) (mjln216 _ _ _ _) rfl rfl (zt_icmp_ge rfl rfl (zt_aload_n rfl rfl (zt_getr (mjkd205 _ _ _ _) (mjhr205_21 w c) rfl (zt_iload_n rfl rfl (zt_iald (mjkd217 _ _ _ _) (mjln217 _ _ _ _) rfl rfl (zt_iload_n rfl rfl (zt_icmp_ne rfl rfl (zt_aload_n rfl rfl (zt_getr (mjkd205 _ _ _ _) (mjhr205_23 w c) rfl (zt_iload_n rfl rfl (zt_iald (mjkd219 _ _ _ _) (mjln219 _ _ _ _) rfl rfl (zt_aload_n rfl rfl (zt_getr (mjkd205 _ _ _ _) (mjhr205_24 w c) rfl (zt_iload_n rfl rfl (zt_iald (mjkd220 _ _ _ _) (mjln220 _ _ _ _) rfl rfl (zt_icmp_eq rfl rfl (zt_aload_n rfl rfl (zt_iconst rfl (zt_aload_n rfl rfl (zt_getr (mjkd205 _ _ _ _) (mjhr205_23 w c) rfl (zt_iload_n rfl rfl (zt_iald (mjkd219 _ _ _ _) (mjln219 _ _ _ _) rfl rfl (zt_aload_n rfl rfl (zt_getr (mjkd205 _ _ _ _) (mjhr205_24 w c) rfl (zt_iload_n rfl rfl (zt_iald (mjkd220 _ _ _ _) (mjln220 _ _ _ _) rfl rfl (zt_call0_1 rfl (mjkd205 _ _ _ _) (Nat.le_of_ble_eq_true rfl) rfl rfl)))))))))))))))))))))))))))))))
set_option maxRecDepth 100000 in
theorem f213_54 : mj_find (mj_P 213).2.2.2.2 54 = [(.ifCond .eq 5, 3, 0, [59])] := rfl
set_option maxRecDepth 100000 in
theorem q213_54 (E : mj_E) (d w c : Nat) (hi : Nat → Nat → Int32) (hl : Nat → Nat → Int64) (v1 : Int32) (v2 : Int32) (s0 : Int32) : mj_den mj_P E d 213 54 [Value.ref 205, Value.int v1, Value.int v2] [Value.int s0] (mj_hw w c hi hl) = if s0 = 0 then mj_den mj_P E d 213 59 [Value.ref 205, Value.int v1, Value.int v2] [] (mj_hw w c hi hl) else mj_den mj_P E d 213 57 [Value.ref 205, Value.int v1, Value.int v2] [] (mj_hw w c hi hl) := by
  rw [mj_den_eq, f213_54]
  exact zt_if_eq rfl rfl (zt_end rfl)
set_option maxRecDepth 100000 in
theorem f213_57 : mj_find (mj_P 213).2.2.2.2 57 = [(.iload_n 2, 1, 0, []), (.ireturn, 1, 0, [0])] := rfl
set_option maxRecDepth 100000 in
theorem q213_57 (E : mj_E) (d w c : Nat) (hi : Nat → Nat → Int32) (hl : Nat → Nat → Int64) (v1 : Int32) (v2 : Int32) : mj_den mj_P E d 213 57 [Value.ref 205, Value.int v1, Value.int v2] [] (mj_hw w c hi hl) = some (some (Value.int v2), (mj_hw w c hi hl)) := by
  rw [mj_den_eq, f213_57]
  exact zt_iload_n rfl rfl (zt_ireturn0)
set_option maxRecDepth 100000 in
theorem f213_59 : mj_find (mj_P 213).2.2.2.2 59 = [(.iinc 2 1, 3, 1, []), (.goto (-60), 3, 0, [2])] := rfl
set_option maxRecDepth 100000 in
theorem q213_59 (E : mj_E) (d w c : Nat) (hi : Nat → Nat → Int32) (hl : Nat → Nat → Int64) (v1 : Int32) (v2 : Int32) : mj_den mj_P E d 213 59 [Value.ref 205, Value.int v1, Value.int v2] [] (mj_hw w c hi hl) = mj_den mj_P E d 213 2 [Value.ref 205, Value.int v1, Value.int (v2 + (1 : Int32))] [] (mj_hw w c hi hl) := by
  rw [mj_den_eq, f213_59]
  exact zt_iinc rfl (Nat.le_of_ble_eq_true rfl) rfl rfl (zt_goto rfl)
set_option maxRecDepth 100000 in
theorem f213_65 : mj_find (mj_P 213).2.2.2.2 65 = [(.iconst (-1), 1, (-1), []), (.ireturn, 1, 0, [0])] := rfl
set_option maxRecDepth 100000 in
theorem q213_65 (E : mj_E) (d w c : Nat) (hi : Nat → Nat → Int32) (hl : Nat → Nat → Int64) (v1 : Int32) (v2 : Int32) : mj_den mj_P E d 213 65 [Value.ref 205, Value.int v1, Value.int v2] [] (mj_hw w c hi hl) = some (some (Value.int (-1 : Int32)), (mj_hw w c hi hl)) := by
  rw [mj_den_eq, f213_65]
  exact zt_iconst rfl (zt_ireturn0)
