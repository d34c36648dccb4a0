/-! generic equations of places: scratch locals are any values, cells are names. printed by wip/gen/g55.py -/
set_option maxRecDepth 100000 in
theorem g158_0 {E : mj_E} {d w c : Nat} {hi : Nat → Nat → Int32} {hl : Nat → Nat → Int64} : mj_den mj_P E d 158 0 [Value.ref 205, Value.float 0] [] (mj_hw w c hi hl) = if ¬ (hi 205 3) = (6 : Int32) then mj_den mj_P E d 158 53 [Value.ref 205, Value.float 0] [] (mj_hw w c hi hl) else mj_den mj_P E d 158 21 [Value.ref 205, Value.int (0 : Int32)] [] (mj_hw w c (mj_u hi 205 3 ((hi 205 3) - (1 : Int32))) hl) := by
  rw [mj_den_eq, f158_0]
  exact zt_aload_n rfl rfl (zt_geti (mjkd205 _ _ _ _) rfl rfl (zt_bipush rfl (zt_icmp_ne rfl rfl (zt_aload_n rfl rfl (zt_aload_n rfl rfl (zt_geti (mjkd205 _ _ _ _) rfl rfl (zt_iconst rfl (zt_isub rfl (zt_puti (mjkd205 _ _ _ _) rfl rfl (zt_iconst rfl (zt_istore_n (Nat.le_of_ble_eq_true rfl) rfl rfl (zt_end rfl))))))))))))
set_option maxRecDepth 100000 in
theorem g158_21 {E : mj_E} {d w c : Nat} {hi : Nat → Nat → Int32} {hl : Nat → Nat → Int64} (v1 : Int32) : mj_den mj_P E d 158 21 [Value.ref 205, Value.int v1] [] (mj_hw w c hi hl) = if ((57 : Int32) * (hi 205 3)) ≤ v1 then mj_den mj_P E d 158 53 [Value.ref 205, Value.int v1] [] (mj_hw w c hi hl) else if 0 ≤ (v1 + (57 : Int32)) ∧ ((v1 + (57 : Int32))).toNatClampNeg < 342 then if 0 ≤ v1 ∧ (v1).toNatClampNeg < 342 then mj_den mj_P E d 158 21 [Value.ref 205, Value.int (v1 + (1 : Int32))] [] (mj_hw w c (mj_u hi 207 ((v1).toNatClampNeg) (hi 207 (((v1 + (57 : Int32))).toNatClampNeg))) hl) else none else none := by
  rw [mj_den_eq, f158_21]
  exact zt_iload_n rfl rfl (zt_bipush rfl (zt_aload_n rfl rfl (zt_geti (mjkd205 _ _ _ _) rfl rfl (zt_imul rfl (zt_icmp_ge rfl rfl (zt_aload_n rfl rfl (zt_getr (mjkd205 _ _ _ _) (mjhr205_2 w c) rfl (zt_iload_n rfl rfl (zt_aload_n rfl rfl (zt_getr (mjkd205 _ _ _ _) (mjhr205_2 w c) rfl (zt_iload_n rfl rfl (zt_bipush rfl (zt_iadd rfl (zt_iald (mjkd207 _ _ _ _) (mjln207 _ _ _ _) rfl rfl (zt_iast (mjkd207 _ _ _ _) (mjln207 _ _ _ _) rfl rfl (zt_iinc rfl (Nat.le_of_ble_eq_true rfl) rfl rfl (zt_goto rfl)))))))))))))))))
set_option maxRecDepth 100000 in
theorem g158_53 {E : mj_E} {d w c : Nat} {hi : Nat → Nat → Int32} {hl : Nat → Nat → Int64} (u1 : Value) : mj_den mj_P E d 158 53 [Value.ref 205, u1] [] (mj_hw w c hi hl) = mj_den mj_P E d 158 55 [Value.ref 205, Value.int (0 : Int32)] [] (mj_hw w c hi hl) := by
  rw [mj_den_eq, f158_53]
  exact zt_iconst rfl (zt_istore_n (Nat.le_of_ble_eq_true rfl) rfl rfl (zt_end rfl))
set_option maxRecDepth 100000 in
theorem g158_55 {E : mj_E} {d w c : Nat} {hi : Nat → Nat → Int32} {hl : Nat → Nat → Int64} (v1 : Int32) : mj_den mj_P E d 158 55 [Value.ref 205, Value.int v1] [] (mj_hw w c hi hl) = if (57 : Int32) ≤ v1 then mj_den mj_P E d 158 87 [Value.ref 205, Value.int v1] [] (mj_hw w c hi hl) else if 0 ≤ v1 ∧ (v1).toNatClampNeg < 57 then if 0 ≤ (((57 : Int32) * (hi 205 3)) + v1) ∧ ((((57 : Int32) * (hi 205 3)) + v1)).toNatClampNeg < 342 then mj_den mj_P E d 158 55 [Value.ref 205, Value.int (v1 + (1 : Int32))] [] (mj_hw w c (mj_u hi 207 (((((57 : Int32) * (hi 205 3)) + v1)).toNatClampNeg) (hi 206 ((v1).toNatClampNeg))) hl) else none else none := by
  rw [mj_den_eq, f158_55]
  exact zt_iload_n rfl rfl (zt_bipush rfl (zt_icmp_ge rfl rfl (zt_aload_n rfl rfl (zt_getr (mjkd205 _ _ _ _) (mjhr205_2 w c) rfl (zt_bipush rfl (zt_aload_n rfl rfl (zt_geti (mjkd205 _ _ _ _) rfl rfl (zt_imul rfl (zt_iload_n rfl rfl (zt_iadd rfl (zt_aload_n rfl rfl (zt_getr (mjkd205 _ _ _ _) (mjhr205_1 w c) rfl (zt_iload_n rfl rfl (zt_iald (mjkd206 _ _ _ _) (mjln206 _ _ _ _) rfl rfl (zt_iast (mjkd207 _ _ _ _) (mjln207 _ _ _ _) rfl rfl (zt_iinc rfl (Nat.le_of_ble_eq_true rfl) rfl rfl (zt_goto rfl)))))))))))))))))
set_option maxRecDepth 100000 in
theorem g158_87 {E : mj_E} {d w c : Nat} {hi : Nat → Nat → Int32} {hl : Nat → Nat → Int64} (v1 : Int32) : mj_den mj_P E d 158 87 [Value.ref 205, Value.int v1] [] (mj_hw w c hi hl) = some (none, (mj_hw w c (mj_u hi 205 3 ((hi 205 3) + (1 : Int32))) hl)) := by
  rw [mj_den_eq, f158_87]
  exact zt_aload_n rfl rfl (zt_aload_n rfl rfl (zt_geti (mjkd205 _ _ _ _) rfl rfl (zt_iconst rfl (zt_iadd rfl (zt_puti (mjkd205 _ _ _ _) rfl rfl (zt_return))))))
theorem xg158 (E : mj_E) (d : Nat) (h : mj_H) : mj_dc mj_P E (d + 1) 158 [Value.ref 205] h = mj_den mj_P E d 158 0 [Value.ref 205, Value.float 0] [] h := mj_dc_eq mj_P E d 158 [Value.ref 205] h (Nat.le_of_ble_eq_true rfl)
set_option maxRecDepth 100000 in
theorem g181_0 {E : mj_E} {d w c : Nat} {hi : Nat → Nat → Int32} {hl : Nat → Nat → Int64} (v1 : Int32) (v2 : Int32) : mj_den mj_P E d 181 0 [Value.ref 205, Value.int v1, Value.int v2, Value.float 0, Value.float 0, Value.float 0] [] (mj_hw w c hi hl) = mj_den mj_P E d 181 5 [Value.ref 205, Value.int v1, Value.int v2, Value.int (-1 : Int32), Value.int (0 : Int32), Value.float 0] [] (mj_hw w c hi hl) := by
  rw [mj_den_eq, f181_0]
  exact zt_iconst rfl (zt_istore_n (Nat.le_of_ble_eq_true rfl) rfl rfl (zt_iconst rfl (zt_istore (Nat.le_of_ble_eq_true rfl) rfl rfl (zt_end rfl))))
set_option maxRecDepth 100000 in
theorem g181_5 {E : mj_E} {d w c : Nat} {hi : Nat → Nat → Int32} {hl : Nat → Nat → Int64} (v1 : Int32) (v2 : Int32) (v3 : Int32) (v4 : Int32) (u5 : Value) : mj_den mj_P E d 181 5 [Value.ref 205, Value.int v1, Value.int v2, Value.int v3, Value.int v4, u5] [] (mj_hw w c hi hl) = if (131 : Int32) ≤ v4 then mj_den mj_P E d 181 118 [Value.ref 205, Value.int v1, Value.int v2, Value.int v3, Value.int v4, u5] [] (mj_hw w c hi hl) else mj_den mj_P E d 181 20 [Value.ref 205, Value.int v1, Value.int v2, Value.int (v3 + (1 : Int32)), Value.int v4, Value.int (0 : Int32)] [] (mj_hw w c hi hl) := by
  rw [mj_den_eq, f181_5]
  exact zt_iload rfl rfl (zt_sipush rfl (zt_icmp_ge rfl rfl (zt_iconst rfl (zt_istore (Nat.le_of_ble_eq_true rfl) rfl rfl (zt_iload_n rfl rfl (zt_iconst rfl (zt_iadd rfl (zt_istore_n (Nat.le_of_ble_eq_true rfl) rfl rfl (zt_end rfl)))))))))
set_option maxRecDepth 100000 in
theorem g181_20 {E : mj_E} {d w c : Nat} {hi : Nat → Nat → Int32} {hl : Nat → Nat → Int64} (v1 : Int32) (v2 : Int32) (v3 : Int32) (v4 : Int32) (v5 : Int32) : mj_den mj_P E d 181 20 [Value.ref 205, Value.int v1, Value.int v2, Value.int v3, Value.int v4, Value.int v5] [] (mj_hw w c hi hl) = if v2 ≤ (v1 + v5) then mj_den mj_P E d 181 61 [Value.ref 205, Value.int v1, Value.int v2, Value.int v3, Value.int v4, Value.int v5] [] (mj_hw w c hi hl) else if 0 ≤ ((v4 + (1 : Int32)) + v5) ∧ (((v4 + (1 : Int32)) + v5)).toNatClampNeg < 132 then if 0 ≤ (v1 + v5) ∧ ((v1 + v5)).toNatClampNeg < 400 then if ¬ (hi 215 ((((v4 + (1 : Int32)) + v5)).toNatClampNeg)) = (hi 214 (((v1 + v5)).toNatClampNeg)) then mj_den mj_P E d 181 61 [Value.ref 205, Value.int v1, Value.int v2, Value.int v3, Value.int v4, Value.int v5] [] (mj_hw w c hi hl) else mj_den mj_P E d 181 20 [Value.ref 205, Value.int v1, Value.int v2, Value.int v3, Value.int v4, Value.int (v5 + (1 : Int32))] [] (mj_hw w c hi hl) else none else none := by
  rw [mj_den_eq, f181_20]
  exact zt_iload_n rfl rfl (zt_iload rfl rfl (zt_iadd rfl (zt_iload_n rfl rfl (zt_icmp_ge rfl rfl (zt_aload_n rfl rfl (zt_getr (mjkd205 _ _ _ _) (mjhr205_19 w c) rfl (zt_iload rfl rfl (zt_iconst rfl (zt_iadd rfl (zt_iload rfl rfl (zt_iadd rfl (zt_iald (mjkd215 _ _ _ _) (mjln215 _ _ _ _) rfl rfl (zt_aload_n rfl rfl (zt_getr (mjkd205 _ _ _ _) (mjhr205_13 w c) rfl (zt_iload_n rfl rfl (zt_iload rfl rfl (zt_iadd rfl (zt_iald (mjkd214 _ _ _ _) (mjln214 _ _ _ _) rfl rfl (zt_icmp_ne rfl rfl (zt_iload rfl rfl (zt_iconst rfl (zt_iadd rfl (zt_istore (Nat.le_of_ble_eq_true rfl) rfl rfl (zt_goto rfl))))))))))))))))))))))))
set_option maxRecDepth 100000 in
theorem g181_61 {E : mj_E} {d w c : Nat} {hi : Nat → Nat → Int32} {hl : Nat → Nat → Int64} (v1 : Int32) (v2 : Int32) (v3 : Int32) (v4 : Int32) (v5 : Int32) : mj_den mj_P E d 181 61 [Value.ref 205, Value.int v1, Value.int v2, Value.int v3, Value.int v4, Value.int v5] [] (mj_hw w c hi hl) = if ¬ (v1 + v5) = v2 then mj_den mj_P E d 181 88 [Value.ref 205, Value.int v1, Value.int v2, Value.int v3, Value.int v4, Value.int v5] [] (mj_hw w c hi hl) else if 0 ≤ ((v4 + (1 : Int32)) + v5) ∧ (((v4 + (1 : Int32)) + v5)).toNatClampNeg < 132 then if ¬ (hi 215 ((((v4 + (1 : Int32)) + v5)).toNatClampNeg)) = (32 : Int32) then mj_den mj_P E d 181 88 [Value.ref 205, Value.int v1, Value.int v2, Value.int v3, Value.int v4, Value.int v5] [] (mj_hw w c hi hl) else some (some (Value.int v3), (mj_hw w c hi hl)) else none := by
  rw [mj_den_eq, f181_61]
  exact zt_iload_n rfl rfl (zt_iload rfl rfl (zt_iadd rfl (zt_iload_n rfl rfl (zt_icmp_ne rfl rfl (zt_aload_n rfl rfl (zt_getr (mjkd205 _ _ _ _) (mjhr205_19 w c) rfl (zt_iload rfl rfl (zt_iconst rfl (zt_iadd rfl (zt_iload rfl rfl (zt_iadd rfl (zt_iald (mjkd215 _ _ _ _) (mjln215 _ _ _ _) rfl rfl (zt_bipush rfl (zt_icmp_ne rfl rfl (zt_iload_n rfl rfl (zt_ireturn0))))))))))))))))
set_option maxRecDepth 100000 in
theorem g181_88 {E : mj_E} {d w c : Nat} {hi : Nat → Nat → Int32} {hl : Nat → Nat → Int64} (v1 : Int32) (v2 : Int32) (v3 : Int32) (v4 : Int32) (v5 : Int32) : mj_den mj_P E d 181 88 [Value.ref 205, Value.int v1, Value.int v2, Value.int v3, Value.int v4, Value.int v5] [] (mj_hw w c hi hl) = mj_den mj_P E d 181 94 [Value.ref 205, Value.int v1, Value.int v2, Value.int v3, Value.int (v4 + (1 : Int32)), Value.int v5] [] (mj_hw w c hi hl) := by
  rw [mj_den_eq, f181_88]
  exact zt_iload rfl rfl (zt_iconst rfl (zt_iadd rfl (zt_istore (Nat.le_of_ble_eq_true rfl) rfl rfl (zt_end rfl))))
set_option maxRecDepth 100000 in
theorem g181_94 {E : mj_E} {d w c : Nat} {hi : Nat → Nat → Int32} {hl : Nat → Nat → Int64} (v1 : Int32) (v2 : Int32) (v3 : Int32) (v4 : Int32) (v5 : Int32) : mj_den mj_P E d 181 94 [Value.ref 205, Value.int v1, Value.int v2, Value.int v3, Value.int v4, Value.int v5] [] (mj_hw w c hi hl) = if 0 ≤ v4 ∧ (v4).toNatClampNeg < 132 then if (hi 215 ((v4).toNatClampNeg)) = (32 : Int32) then mj_den mj_P E d 181 115 [Value.ref 205, Value.int v1, Value.int v2, Value.int v3, Value.int v4, Value.int v5] [] (mj_hw w c hi hl) else mj_den mj_P E d 181 94 [Value.ref 205, Value.int v1, Value.int v2, Value.int v3, Value.int (v4 + (1 : Int32)), Value.int v5] [] (mj_hw w c hi hl) else none := by
  rw [mj_den_eq, f181_94]
  exact zt_aload_n rfl rfl (zt_getr (mjkd205 _ _ _ _) (mjhr205_19 w c) rfl (zt_iload rfl rfl (zt_iald (mjkd215 _ _ _ _) (mjln215 _ _ _ _) rfl rfl (zt_bipush rfl (zt_icmp_eq rfl rfl (zt_iload rfl rfl (zt_iconst rfl (zt_iadd rfl (zt_istore (Nat.le_of_ble_eq_true rfl) rfl rfl (zt_goto rfl))))))))))
set_option maxRecDepth 100000 in
theorem g181_115 {E : mj_E} {d w c : Nat} {hi : Nat → Nat → Int32} {hl : Nat → Nat → Int64} (v1 : Int32) (v2 : Int32) (v3 : Int32) (v4 : Int32) (v5 : Int32) : mj_den mj_P E d 181 115 [Value.ref 205, Value.int v1, Value.int v2, Value.int v3, Value.int v4, Value.int v5] [] (mj_hw w c hi hl) = mj_den mj_P E d 181 5 [Value.ref 205, Value.int v1, Value.int v2, Value.int v3, Value.int v4, Value.int v5] [] (mj_hw w c hi hl) := by
  rw [mj_den_eq, f181_115]
  exact zt_goto rfl
set_option maxRecDepth 100000 in
theorem g181_118 {E : mj_E} {d w c : Nat} {hi : Nat → Nat → Int32} {hl : Nat → Nat → Int64} (v1 : Int32) (v2 : Int32) (v3 : Int32) (v4 : Int32) (u5 : Value) : mj_den mj_P E d 181 118 [Value.ref 205, Value.int v1, Value.int v2, Value.int v3, Value.int v4, u5] [] (mj_hw w c hi hl) = some (some (Value.int (-1 : Int32)), (mj_hw w c hi hl)) := by
  rw [mj_den_eq, f181_118]
  exact zt_iconst rfl (zt_ireturn0)
theorem xg181 (E : mj_E) (d : Nat) (a1 : Int32) (a2 : Int32) (h : mj_H) : mj_dc mj_P E (d + 1) 181 [Value.ref 205, Value.int a1, Value.int a2] h = mj_den mj_P E d 181 0 [Value.ref 205, Value.int a1, Value.int a2, Value.float 0, Value.float 0, Value.float 0] [] h := mj_dc_eq mj_P E d 181 [Value.ref 205, Value.int a1, Value.int a2] h (Nat.le_of_ble_eq_true rfl)
set_option maxRecDepth 100000 in
theorem g189_0 {E : mj_E} {d w c : Nat} {hi : Nat → Nat → Int32} {hl : Nat → Nat → Int64} : mj_den mj_P E d 189 0 [Value.ref 205, Value.float 0] [] (mj_hw w c hi hl) = mj_bi (mj_dc mj_P E d 188 [Value.ref 205] (mj_hw w c hi hl)) (fun x1 h1 => mj_den mj_P E d 189 4 [Value.ref 205, Value.float 0] [Value.int x1] h1) := by
  rw [mj_den_eq, f189_0]
  exact zt_aload_n rfl rfl (zt_call0_1 rfl (mjkd205 _ _ _ _) (Nat.le_of_ble_eq_true rfl) rfl rfl)
set_option maxRecDepth 100000 in
theorem g189_4 {E : mj_E} {d w c : Nat} {hi : Nat → Nat → Int32} {hl : Nat → Nat → Int64} (s0 : Int32) : mj_den mj_P E d 189 4 [Value.ref 205, Value.float 0] [Value.int s0] (mj_hw w c hi hl) = if ¬ s0 = (-1 : Int32) then mj_den mj_P E d 189 10 [Value.ref 205, Value.float 0] [] (mj_hw w c hi hl) else some (some (Value.int (-1 : Int32)), (mj_hw w c hi hl)) := by
  rw [mj_den_eq, f189_4]
  exact zt_iconst rfl (zt_icmp_ne rfl rfl (zt_iconst rfl (zt_ireturn0)))
set_option maxRecDepth 100000 in
theorem g189_10 {E : mj_E} {d w c : Nat} {hi : Nat → Nat → Int32} {hl : Nat → Nat → Int64} (u1 : Value) : mj_den mj_P E d 189 10 [Value.ref 205, u1] [] (mj_hw w c hi hl) = mj_bi (mj_dc mj_P E d 185 [Value.ref 205, Value.int (42 : Int32)] (mj_hw w c hi hl)) (fun x1 h1 => mj_den mj_P E d 189 16 [Value.ref 205, u1] [Value.int x1] h1) := by
  rw [mj_den_eq, f189_10]
  exact zt_aload_n rfl rfl (zt_bipush rfl (zt_call0_1 rfl (mjkd205 _ _ _ _) (Nat.le_of_ble_eq_true rfl) rfl rfl))
set_option maxRecDepth 100000 in
theorem g189_16 {E : mj_E} {d w c : Nat} {hi : Nat → Nat → Int32} {hl : Nat → Nat → Int64} (u1 : Value) (s0 : Int32) : mj_den mj_P E d 189 16 [Value.ref 205, u1] [Value.int s0] (mj_hw w c hi hl) = if ¬ s0 = 0 then mj_den mj_P E d 189 28 [Value.ref 205, u1] [] (mj_hw w c hi hl) else mj_bi (mj_dc mj_P E d 185 [Value.ref 205, Value.int (47 : Int32)] (mj_hw w c hi hl)) (fun x1 h1 => mj_den mj_P E d 189 25 [Value.ref 205, u1] [Value.int x1] h1) := by
  rw [mj_den_eq, f189_16]
  exact zt_if_ne rfl rfl (zt_aload_n rfl rfl (zt_bipush rfl (zt_call0_1 rfl (mjkd205 _ _ _ _) (Nat.le_of_ble_eq_true rfl) rfl rfl)))
set_option maxRecDepth 100000 in
theorem g189_25 {E : mj_E} {d w c : Nat} {hi : Nat → Nat → Int32} {hl : Nat → Nat → Int64} (u1 : Value) (s0 : Int32) : mj_den mj_P E d 189 25 [Value.ref 205, u1] [Value.int s0] (mj_hw w c hi hl) = if s0 = 0 then mj_den mj_P E d 189 101 [Value.ref 205, u1] [] (mj_hw w c hi hl) else mj_den mj_P E d 189 28 [Value.ref 205, u1] [] (mj_hw w c hi hl) := by
  rw [mj_den_eq, f189_25]
  exact zt_if_eq rfl rfl (zt_end rfl)
set_option maxRecDepth 100000 in
theorem g189_28 {E : mj_E} {d w c : Nat} {hi : Nat → Nat → Int32} {hl : Nat → Nat → Int64} (u1 : Value) : mj_den mj_P E d 189 28 [Value.ref 205, u1] [] (mj_hw w c hi hl) = mj_bi (mj_dc mj_P E d 185 [Value.ref 205, Value.int (42 : Int32)] (mj_hw w c hi hl)) (fun x1 h1 => mj_den mj_P E d 189 34 [Value.ref 205, u1] [Value.int x1] h1) := by
  rw [mj_den_eq, f189_28]
  exact zt_aload_n rfl rfl (zt_bipush rfl (zt_call0_1 rfl (mjkd205 _ _ _ _) (Nat.le_of_ble_eq_true rfl) rfl rfl))
set_option maxRecDepth 100000 in
theorem g189_34 {E : mj_E} {d w c : Nat} {hi : Nat → Nat → Int32} {hl : Nat → Nat → Int64} (u1 : Value) (s0 : Int32) : mj_den mj_P E d 189 34 [Value.ref 205, u1] [Value.int s0] (mj_hw w c hi hl) = mj_bv (mj_dc mj_P E d 182 [Value.ref 205] (mj_hw w c hi hl)) (fun h1 => mj_den mj_P E d 189 39 [Value.ref 205, Value.int s0] [] h1) := by
  rw [mj_den_eq, f189_34]
  exact zt_istore_n (Nat.le_of_ble_eq_true rfl) rfl rfl (zt_aload_n rfl rfl (zt_call0_0 rfl (mjkd205 _ _ _ _) (Nat.le_of_ble_eq_true rfl) rfl rfl))
set_option maxRecDepth 100000 in
theorem g189_39 {E : mj_E} {d w c : Nat} {hi : Nat → Nat → Int32} {hl : Nat → Nat → Int64} (v1 : Int32) : mj_den mj_P E d 189 39 [Value.ref 205, Value.int v1] [] (mj_hw w c hi hl) = if ¬ v1 = 0 then mj_den mj_P E d 189 57 [Value.ref 205, Value.int v1] [] (mj_hw w c hi hl) else if (hi 205 17) = (3 : Int32) then mj_den mj_P E d 189 57 [Value.ref 205, Value.int v1] [] (mj_hw w c hi hl) else mj_bi (mj_dc mj_P E d 183 [Value.ref 205, Value.int (1 : Int32)] (mj_hw w c hi hl)) (fun x1 h1 => mj_den mj_P E d 189 56 [Value.ref 205, Value.int v1] [Value.int x1] h1) := by
  rw [mj_den_eq, f189_39]
  exact zt_iload_n rfl rfl (zt_if_ne rfl rfl (zt_aload_n rfl rfl (zt_geti (mjkd205 _ _ _ _) rfl rfl (zt_iconst rfl (zt_icmp_eq rfl rfl (zt_aload_n rfl rfl (zt_iconst rfl (zt_call0_1 rfl (mjkd205 _ _ _ _) (Nat.le_of_ble_eq_true rfl) rfl rfl))))))))
set_option maxRecDepth 100000 in
theorem g189_56 {E : mj_E} {d w c : Nat} {hi : Nat → Nat → Int32} {hl : Nat → Nat → Int64} (v1 : Int32) (s0 : Int32) : mj_den mj_P E d 189 56 [Value.ref 205, Value.int v1] [Value.int s0] (mj_hw w c hi hl) = some (some (Value.int s0), (mj_hw w c hi hl)) := by
  rw [mj_den_eq, f189_56]
  exact zt_ireturn0
set_option maxRecDepth 100000 in
theorem g189_57 {E : mj_E} {d w c : Nat} {hi : Nat → Nat → Int32} {hl : Nat → Nat → Int64} (v1 : Int32) : mj_den mj_P E d 189 57 [Value.ref 205, Value.int v1] [] (mj_hw w c hi hl) = if ¬ v1 = 0 then mj_den mj_P E d 189 74 [Value.ref 205, Value.int v1] [] (mj_hw w c hi hl) else if ¬ (hi 205 18) = 0 then mj_den mj_P E d 189 74 [Value.ref 205, Value.int v1] [] (mj_hw w c hi hl) else mj_bi (mj_dc mj_P E d 183 [Value.ref 205, Value.int (2 : Int32)] (mj_hw w c hi hl)) (fun x1 h1 => mj_den mj_P E d 189 73 [Value.ref 205, Value.int v1] [Value.int x1] h1) := by
  rw [mj_den_eq, f189_57]
  exact zt_iload_n rfl rfl (zt_if_ne rfl rfl (zt_aload_n rfl rfl (zt_geti (mjkd205 _ _ _ _) rfl rfl (zt_if_ne rfl rfl (zt_aload_n rfl rfl (zt_iconst rfl (zt_call0_1 rfl (mjkd205 _ _ _ _) (Nat.le_of_ble_eq_true rfl) rfl rfl)))))))
set_option maxRecDepth 100000 in
theorem g189_73 {E : mj_E} {d w c : Nat} {hi : Nat → Nat → Int32} {hl : Nat → Nat → Int64} (v1 : Int32) (s0 : Int32) : mj_den mj_P E d 189 73 [Value.ref 205, Value.int v1] [Value.int s0] (mj_hw w c hi hl) = some (some (Value.int s0), (mj_hw w c hi hl)) := by
  rw [mj_den_eq, f189_73]
  exact zt_ireturn0
set_option maxRecDepth 100000 in
theorem g189_74 {E : mj_E} {d w c : Nat} {hi : Nat → Nat → Int32} {hl : Nat → Nat → Int64} (v1 : Int32) : mj_den mj_P E d 189 74 [Value.ref 205, Value.int v1] [] (mj_hw w c hi hl) = mj_bi (mj_dc mj_P E d 188 [Value.ref 205] (mj_hw w c hi hl)) (fun x1 h1 => mj_den mj_P E d 189 78 [Value.ref 205, Value.int v1] [Value.int x1] h1) := by
  rw [mj_den_eq, f189_74]
  exact zt_aload_n rfl rfl (zt_call0_1 rfl (mjkd205 _ _ _ _) (Nat.le_of_ble_eq_true rfl) rfl rfl)
set_option maxRecDepth 100000 in
theorem g189_78 {E : mj_E} {d w c : Nat} {hi : Nat → Nat → Int32} {hl : Nat → Nat → Int64} (v1 : Int32) (s0 : Int32) : mj_den mj_P E d 189 78 [Value.ref 205, Value.int v1] [Value.int s0] (mj_hw w c hi hl) = if ¬ s0 = (-1 : Int32) then mj_den mj_P E d 189 84 [Value.ref 205, Value.int v1] [] (mj_hw w c hi hl) else some (some (Value.int (-1 : Int32)), (mj_hw w c hi hl)) := by
  rw [mj_den_eq, f189_78]
  exact zt_iconst rfl (zt_icmp_ne rfl rfl (zt_iconst rfl (zt_ireturn0)))
set_option maxRecDepth 100000 in
theorem g189_84 {E : mj_E} {d w c : Nat} {hi : Nat → Nat → Int32} {hl : Nat → Nat → Int64} (v1 : Int32) : mj_den mj_P E d 189 84 [Value.ref 205, Value.int v1] [] (mj_hw w c hi hl) = if v1 = 0 then mj_den mj_P E d 189 93 [Value.ref 205, Value.int v1] [Value.ref 205] (mj_hw w c hi hl) else mj_den mj_P E d 189 94 [Value.ref 205, Value.int v1] [Value.int (4 : Int32), Value.ref 205] (mj_hw w c hi hl) := by
  rw [mj_den_eq, f189_84]
  exact zt_aload_n rfl rfl (zt_iload_n rfl rfl (zt_if_eq rfl rfl (zt_iconst rfl (zt_goto rfl))))
set_option maxRecDepth 100000 in
theorem g189_93 {E : mj_E} {d w c : Nat} {hi : Nat → Nat → Int32} {hl : Nat → Nat → Int64} (v1 : Int32) : mj_den mj_P E d 189 93 [Value.ref 205, Value.int v1] [Value.ref 205] (mj_hw w c hi hl) = mj_den mj_P E d 189 94 [Value.ref 205, Value.int v1] [Value.int (5 : Int32), Value.ref 205] (mj_hw w c hi hl) := by
  rw [mj_den_eq, f189_93]
  exact zt_iconst rfl (zt_end rfl)
set_option maxRecDepth 100000 in
theorem g189_94 {E : mj_E} {d w c : Nat} {hi : Nat → Nat → Int32} {hl : Nat → Nat → Int64} (v1 : Int32) (s0 : Int32) : mj_den mj_P E d 189 94 [Value.ref 205, Value.int v1] [Value.int s0, Value.ref 205] (mj_hw w c hi hl) = mj_bv (mj_dc mj_P E d 186 [Value.ref 205, Value.int s0, Value.int (0 : Int32)] (mj_hw w c hi hl)) (fun h1 => mj_den mj_P E d 189 98 [Value.ref 205, Value.int v1] [] h1) := by
  rw [mj_den_eq, f189_94]
  exact zt_iconst rfl (zt_call0_0 rfl (mjkd205 _ _ _ _) (Nat.le_of_ble_eq_true rfl) rfl rfl)
set_option maxRecDepth 100000 in
theorem g189_98 {E : mj_E} {d w c : Nat} {hi : Nat → Nat → Int32} {hl : Nat → Nat → Int64} (v1 : Int32) : mj_den mj_P E d 189 98 [Value.ref 205, Value.int v1] [] (mj_hw w c hi hl) = mj_den mj_P E d 189 10 [Value.ref 205, Value.int v1] [] (mj_hw w c hi hl) := by
  rw [mj_den_eq, f189_98]
  exact zt_goto rfl
set_option maxRecDepth 100000 in
theorem g189_101 {E : mj_E} {d w c : Nat} {hi : Nat → Nat → Int32} {hl : Nat → Nat → Int64} (u1 : Value) : mj_den mj_P E d 189 101 [Value.ref 205, u1] [] (mj_hw w c hi hl) = some (some (Value.int (0 : Int32)), (mj_hw w c hi hl)) := by
  rw [mj_den_eq, f189_101]
  exact zt_iconst rfl (zt_ireturn0)
theorem xg189 (E : mj_E) (d : Nat) (h : mj_H) : mj_dc mj_P E (d + 1) 189 [Value.ref 205] h = mj_den mj_P E d 189 0 [Value.ref 205, Value.float 0] [] h := mj_dc_eq mj_P E d 189 [Value.ref 205] h (Nat.le_of_ble_eq_true rfl)
set_option maxRecDepth 100000 in
theorem g190_0 {E : mj_E} {d w c : Nat} {hi : Nat → Nat → Int32} {hl : Nat → Nat → Int64} : mj_den mj_P E d 190 0 [Value.ref 205, Value.float 0] [] (mj_hw w c hi hl) = mj_bi (mj_dc mj_P E d 189 [Value.ref 205] (mj_hw w c hi hl)) (fun x1 h1 => mj_den mj_P E d 190 4 [Value.ref 205, Value.float 0] [Value.int x1] h1) := by
  rw [mj_den_eq, f190_0]
  exact zt_aload_n rfl rfl (zt_call0_1 rfl (mjkd205 _ _ _ _) (Nat.le_of_ble_eq_true rfl) rfl rfl)
set_option maxRecDepth 100000 in
theorem g190_4 {E : mj_E} {d w c : Nat} {hi : Nat → Nat → Int32} {hl : Nat → Nat → Int64} (s0 : Int32) : mj_den mj_P E d 190 4 [Value.ref 205, Value.float 0] [Value.int s0] (mj_hw w c hi hl) = if ¬ s0 = (-1 : Int32) then mj_den mj_P E d 190 10 [Value.ref 205, Value.float 0] [] (mj_hw w c hi hl) else some (some (Value.int (-1 : Int32)), (mj_hw w c hi hl)) := by
  rw [mj_den_eq, f190_4]
  exact zt_iconst rfl (zt_icmp_ne rfl rfl (zt_iconst rfl (zt_ireturn0)))
set_option maxRecDepth 100000 in
theorem g190_10 {E : mj_E} {d w c : Nat} {hi : Nat → Nat → Int32} {hl : Nat → Nat → Int64} (u1 : Value) : mj_den mj_P E d 190 10 [Value.ref 205, u1] [] (mj_hw w c hi hl) = mj_bi (mj_dc mj_P E d 185 [Value.ref 205, Value.int (43 : Int32)] (mj_hw w c hi hl)) (fun x1 h1 => mj_den mj_P E d 190 16 [Value.ref 205, u1] [Value.int x1] h1) := by
  rw [mj_den_eq, f190_10]
  exact zt_aload_n rfl rfl (zt_bipush rfl (zt_call0_1 rfl (mjkd205 _ _ _ _) (Nat.le_of_ble_eq_true rfl) rfl rfl))
set_option maxRecDepth 100000 in
theorem g190_16 {E : mj_E} {d w c : Nat} {hi : Nat → Nat → Int32} {hl : Nat → Nat → Int64} (u1 : Value) (s0 : Int32) : mj_den mj_P E d 190 16 [Value.ref 205, u1] [Value.int s0] (mj_hw w c hi hl) = if ¬ s0 = 0 then mj_den mj_P E d 190 28 [Value.ref 205, u1] [] (mj_hw w c hi hl) else mj_bi (mj_dc mj_P E d 185 [Value.ref 205, Value.int (45 : Int32)] (mj_hw w c hi hl)) (fun x1 h1 => mj_den mj_P E d 190 25 [Value.ref 205, u1] [Value.int x1] h1) := by
  rw [mj_den_eq, f190_16]
  exact zt_if_ne rfl rfl (zt_aload_n rfl rfl (zt_bipush rfl (zt_call0_1 rfl (mjkd205 _ _ _ _) (Nat.le_of_ble_eq_true rfl) rfl rfl)))
set_option maxRecDepth 100000 in
theorem g190_25 {E : mj_E} {d w c : Nat} {hi : Nat → Nat → Int32} {hl : Nat → Nat → Int64} (u1 : Value) (s0 : Int32) : mj_den mj_P E d 190 25 [Value.ref 205, u1] [Value.int s0] (mj_hw w c hi hl) = if s0 = 0 then mj_den mj_P E d 190 66 [Value.ref 205, u1] [] (mj_hw w c hi hl) else mj_den mj_P E d 190 28 [Value.ref 205, u1] [] (mj_hw w c hi hl) := by
  rw [mj_den_eq, f190_25]
  exact zt_if_eq rfl rfl (zt_end rfl)
set_option maxRecDepth 100000 in
theorem g190_28 {E : mj_E} {d w c : Nat} {hi : Nat → Nat → Int32} {hl : Nat → Nat → Int64} (u1 : Value) : mj_den mj_P E d 190 28 [Value.ref 205, u1] [] (mj_hw w c hi hl) = if ¬ (hi 205 18) = (43 : Int32) then mj_den mj_P E d 190 41 [Value.ref 205, u1] [] (mj_hw w c hi hl) else mj_den mj_P E d 190 42 [Value.ref 205, u1] [Value.int (2 : Int32)] (mj_hw w c hi hl) := by
  rw [mj_den_eq, f190_28]
  exact zt_aload_n rfl rfl (zt_geti (mjkd205 _ _ _ _) rfl rfl (zt_bipush rfl (zt_icmp_ne rfl rfl (zt_iconst rfl (zt_goto rfl)))))
set_option maxRecDepth 100000 in
theorem g190_41 {E : mj_E} {d w c : Nat} {hi : Nat → Nat → Int32} {hl : Nat → Nat → Int64} (u1 : Value) : mj_den mj_P E d 190 41 [Value.ref 205, u1] [] (mj_hw w c hi hl) = mj_den mj_P E d 190 42 [Value.ref 205, u1] [Value.int (3 : Int32)] (mj_hw w c hi hl) := by
  rw [mj_den_eq, f190_41]
  exact zt_iconst rfl (zt_end rfl)
set_option maxRecDepth 100000 in
theorem g190_42 {E : mj_E} {d w c : Nat} {hi : Nat → Nat → Int32} {hl : Nat → Nat → Int64} (u1 : Value) (s0 : Int32) : mj_den mj_P E d 190 42 [Value.ref 205, u1] [Value.int s0] (mj_hw w c hi hl) = mj_bv (mj_dc mj_P E d 182 [Value.ref 205] (mj_hw w c hi hl)) (fun h1 => mj_den mj_P E d 190 47 [Value.ref 205, Value.int s0] [] h1) := by
  rw [mj_den_eq, f190_42]
  exact zt_istore_n (Nat.le_of_ble_eq_true rfl) rfl rfl (zt_aload_n rfl rfl (zt_call0_0 rfl (mjkd205 _ _ _ _) (Nat.le_of_ble_eq_true rfl) rfl rfl))
set_option maxRecDepth 100000 in
theorem g190_47 {E : mj_E} {d w c : Nat} {hi : Nat → Nat → Int32} {hl : Nat → Nat → Int64} (v1 : Int32) : mj_den mj_P E d 190 47 [Value.ref 205, Value.int v1] [] (mj_hw w c hi hl) = mj_bi (mj_dc mj_P E d 189 [Value.ref 205] (mj_hw w c hi hl)) (fun x1 h1 => mj_den mj_P E d 190 51 [Value.ref 205, Value.int v1] [Value.int x1] h1) := by
  rw [mj_den_eq, f190_47]
  exact zt_aload_n rfl rfl (zt_call0_1 rfl (mjkd205 _ _ _ _) (Nat.le_of_ble_eq_true rfl) rfl rfl)
set_option maxRecDepth 100000 in
theorem g190_51 {E : mj_E} {d w c : Nat} {hi : Nat → Nat → Int32} {hl : Nat → Nat → Int64} (v1 : Int32) (s0 : Int32) : mj_den mj_P E d 190 51 [Value.ref 205, Value.int v1] [Value.int s0] (mj_hw w c hi hl) = if ¬ s0 = (-1 : Int32) then mj_den mj_P E d 190 57 [Value.ref 205, Value.int v1] [] (mj_hw w c hi hl) else some (some (Value.int (-1 : Int32)), (mj_hw w c hi hl)) := by
  rw [mj_den_eq, f190_51]
  exact zt_iconst rfl (zt_icmp_ne rfl rfl (zt_iconst rfl (zt_ireturn0)))
set_option maxRecDepth 100000 in
theorem g190_57 {E : mj_E} {d w c : Nat} {hi : Nat → Nat → Int32} {hl : Nat → Nat → Int64} (v1 : Int32) : mj_den mj_P E d 190 57 [Value.ref 205, Value.int v1] [] (mj_hw w c hi hl) = mj_bv (mj_dc mj_P E d 186 [Value.ref 205, Value.int v1, Value.int (0 : Int32)] (mj_hw w c hi hl)) (fun h1 => mj_den mj_P E d 190 63 [Value.ref 205, Value.int v1] [] h1) := by
  rw [mj_den_eq, f190_57]
  exact zt_aload_n rfl rfl (zt_iload_n rfl rfl (zt_iconst rfl (zt_call0_0 rfl (mjkd205 _ _ _ _) (Nat.le_of_ble_eq_true rfl) rfl rfl)))
set_option maxRecDepth 100000 in
theorem g190_63 {E : mj_E} {d w c : Nat} {hi : Nat → Nat → Int32} {hl : Nat → Nat → Int64} (v1 : Int32) : mj_den mj_P E d 190 63 [Value.ref 205, Value.int v1] [] (mj_hw w c hi hl) = mj_den mj_P E d 190 10 [Value.ref 205, Value.int v1] [] (mj_hw w c hi hl) := by
  rw [mj_den_eq, f190_63]
  exact zt_goto rfl
set_option maxRecDepth 100000 in
theorem g190_66 {E : mj_E} {d w c : Nat} {hi : Nat → Nat → Int32} {hl : Nat → Nat → Int64} (u1 : Value) : mj_den mj_P E d 190 66 [Value.ref 205, u1] [] (mj_hw w c hi hl) = some (some (Value.int (0 : Int32)), (mj_hw w c hi hl)) := by
  rw [mj_den_eq, f190_66]
  exact zt_iconst rfl (zt_ireturn0)
theorem xg190 (E : mj_E) (d : Nat) (h : mj_H) : mj_dc mj_P E (d + 1) 190 [Value.ref 205] h = mj_den mj_P E d 190 0 [Value.ref 205, Value.float 0] [] h := mj_dc_eq mj_P E d 190 [Value.ref 205] h (Nat.le_of_ble_eq_true rfl)
set_option maxRecDepth 100000 in
theorem g194_0 {E : mj_E} {d w c : Nat} {hi : Nat → Nat → Int32} {hl : Nat → Nat → Int64} : mj_den mj_P E d 194 0 [Value.ref 205, Value.float 0, Value.float 0, Value.float 0] [] (mj_hw w c hi hl) = mj_den mj_P E d 194 9 [Value.ref 205, Value.int (0 : Int32), Value.int (1 : Int32), Value.float 0] [] (mj_hw w c (mj_u hi 205 31 (0 : Int32)) hl) := by
  rw [mj_den_eq, f194_0]
  exact zt_iconst rfl (zt_istore_n (Nat.le_of_ble_eq_true rfl) rfl rfl (zt_aload_n rfl rfl (zt_iconst rfl (zt_puti (mjkd205 _ _ _ _) rfl rfl (zt_iconst rfl (zt_istore_n (Nat.le_of_ble_eq_true rfl) rfl rfl (zt_end rfl)))))))
set_option maxRecDepth 100000 in
theorem g194_9 {E : mj_E} {d w c : Nat} {hi : Nat → Nat → Int32} {hl : Nat → Nat → Int64} (v1 : Int32) (v2 : Int32) (u3 : Value) : mj_den mj_P E d 194 9 [Value.ref 205, Value.int v1, Value.int v2, u3] [] (mj_hw w c hi hl) = if v2 = 0 then mj_den mj_P E d 194 109 [Value.ref 205, Value.int v1, Value.int v2, u3] [] (mj_hw w c hi hl) else mj_bi (mj_dc mj_P E d 184 [Value.ref 205, Value.int (6 : Int32)] (mj_hw w c hi hl)) (fun x1 h1 => mj_den mj_P E d 194 19 [Value.ref 205, Value.int v1, Value.int v2, u3] [Value.int x1] h1) := by
  rw [mj_den_eq, f194_9]
  exact zt_iload_n rfl rfl (zt_if_eq rfl rfl (zt_aload_n rfl rfl (zt_bipush rfl (zt_call0_1 rfl (mjkd205 _ _ _ _) (Nat.le_of_ble_eq_true rfl) rfl rfl))))
set_option maxRecDepth 100000 in
theorem g194_19 {E : mj_E} {d w c : Nat} {hi : Nat → Nat → Int32} {hl : Nat → Nat → Int64} (v1 : Int32) (v2 : Int32) (u3 : Value) (s0 : Int32) : mj_den mj_P E d 194 19 [Value.ref 205, Value.int v1, Value.int v2, u3] [Value.int s0] (mj_hw w c hi hl) = if ¬ s0 = 0 then mj_den mj_P E d 194 33 [Value.ref 205, Value.int v1, Value.int v2, Value.int s0] [] (mj_hw w c hi hl) else mj_bi (mj_dc mj_P E d 185 [Value.ref 205, Value.int (40 : Int32)] (mj_hw w c hi hl)) (fun x1 h1 => mj_den mj_P E d 194 30 [Value.ref 205, Value.int v1, Value.int v2, Value.int s0] [Value.int x1] h1) := by
  rw [mj_den_eq, f194_19]
  exact zt_istore_n (Nat.le_of_ble_eq_true rfl) rfl rfl (zt_iload_n rfl rfl (zt_if_ne rfl rfl (zt_aload_n rfl rfl (zt_bipush rfl (zt_call0_1 rfl (mjkd205 _ _ _ _) (Nat.le_of_ble_eq_true rfl) rfl rfl)))))
set_option maxRecDepth 100000 in
theorem g194_30 {E : mj_E} {d w c : Nat} {hi : Nat → Nat → Int32} {hl : Nat → Nat → Int64} (v1 : Int32) (v2 : Int32) (v3 : Int32) (s0 : Int32) : mj_den mj_P E d 194 30 [Value.ref 205, Value.int v1, Value.int v2, Value.int v3] [Value.int s0] (mj_hw w c hi hl) = if s0 = 0 then mj_den mj_P E d 194 88 [Value.ref 205, Value.int v1, Value.int v2, Value.int v3] [] (mj_hw w c hi hl) else mj_den mj_P E d 194 33 [Value.ref 205, Value.int v1, Value.int v2, Value.int v3] [] (mj_hw w c hi hl) := by
  rw [mj_den_eq, f194_30]
  exact zt_if_eq rfl rfl (zt_end rfl)
set_option maxRecDepth 100000 in
theorem g194_33 {E : mj_E} {d w c : Nat} {hi : Nat → Nat → Int32} {hl : Nat → Nat → Int64} (v1 : Int32) (v2 : Int32) (v3 : Int32) : mj_den mj_P E d 194 33 [Value.ref 205, Value.int v1, Value.int v2, Value.int v3] [] (mj_hw w c hi hl) = if ¬ (hi 205 29) = (8 : Int32) then mj_den mj_P E d 194 48 [Value.ref 205, Value.int v1, Value.int v2, Value.int v3] [] (mj_hw w c hi hl) else mj_bi (mj_dc mj_P E d 183 [Value.ref 205, Value.int (3 : Int32)] (mj_hw w c hi hl)) (fun x1 h1 => mj_den mj_P E d 194 47 [Value.ref 205, Value.int v1, Value.int v2, Value.int v3] [Value.int x1] h1) := by
  rw [mj_den_eq, f194_33]
  exact zt_aload_n rfl rfl (zt_geti (mjkd205 _ _ _ _) rfl rfl (zt_bipush rfl (zt_icmp_ne rfl rfl (zt_aload_n rfl rfl (zt_iconst rfl (zt_call0_1 rfl (mjkd205 _ _ _ _) (Nat.le_of_ble_eq_true rfl) rfl rfl))))))
set_option maxRecDepth 100000 in
theorem g194_47 {E : mj_E} {d w c : Nat} {hi : Nat → Nat → Int32} {hl : Nat → Nat → Int64} (v1 : Int32) (v2 : Int32) (v3 : Int32) (s0 : Int32) : mj_den mj_P E d 194 47 [Value.ref 205, Value.int v1, Value.int v2, Value.int v3] [Value.int s0] (mj_hw w c hi hl) = some (some (Value.int s0), (mj_hw w c hi hl)) := by
  rw [mj_den_eq, f194_47]
  exact zt_ireturn0
set_option maxRecDepth 100000 in
theorem g194_48 {E : mj_E} {d w c : Nat} {hi : Nat → Nat → Int32} {hl : Nat → Nat → Int64} (v1 : Int32) (v2 : Int32) (v3 : Int32) : mj_den mj_P E d 194 48 [Value.ref 205, Value.int v1, Value.int v2, Value.int v3] [] (mj_hw w c hi hl) = if ¬ v3 = 0 then mj_den mj_P E d 194 66 [Value.ref 205, Value.int v1, Value.int v2, Value.int v3] [] (mj_hw w c (mj_u hi 205 29 ((hi 205 29) + (1 : Int32))) hl) else mj_den mj_P E d 194 66 [Value.ref 205, Value.int (v1 + (1 : Int32)), Value.int v2, Value.int v3] [] (mj_hw w c (mj_u hi 205 29 ((hi 205 29) + (1 : Int32))) hl) := by
  rw [mj_den_eq, f194_48]
  exact zt_aload_n rfl rfl (zt_aload_n rfl rfl (zt_geti (mjkd205 _ _ _ _) rfl rfl (zt_iconst rfl (zt_iadd rfl (zt_puti (mjkd205 _ _ _ _) rfl rfl (zt_iload_n rfl rfl (zt_if_ne rfl rfl (zt_iload_n rfl rfl (zt_iconst rfl (zt_iadd rfl (zt_istore_n (Nat.le_of_ble_eq_true rfl) rfl rfl (zt_end rfl))))))))))))
set_option maxRecDepth 100000 in
theorem g194_66 {E : mj_E} {d w c : Nat} {hi : Nat → Nat → Int32} {hl : Nat → Nat → Int64} (v1 : Int32) (v2 : Int32) (v3 : Int32) : mj_den mj_P E d 194 66 [Value.ref 205, Value.int v1, Value.int v2, Value.int v3] [] (mj_hw w c hi hl) = if v3 = 0 then mj_den mj_P E d 194 76 [Value.ref 205, Value.int v1, Value.int v2, Value.int v3] [Value.ref 205] (mj_hw w c hi hl) else mj_den mj_P E d 194 78 [Value.ref 205, Value.int v1, Value.int v2, Value.int v3] [Value.int (9 : Int32), Value.ref 205] (mj_hw w c hi hl) := by
  rw [mj_den_eq, f194_66]
  exact zt_aload_n rfl rfl (zt_iload_n rfl rfl (zt_if_eq rfl rfl (zt_bipush rfl (zt_goto rfl))))
set_option maxRecDepth 100000 in
theorem g194_76 {E : mj_E} {d w c : Nat} {hi : Nat → Nat → Int32} {hl : Nat → Nat → Int64} (v1 : Int32) (v2 : Int32) (v3 : Int32) : mj_den mj_P E d 194 76 [Value.ref 205, Value.int v1, Value.int v2, Value.int v3] [Value.ref 205] (mj_hw w c hi hl) = mj_den mj_P E d 194 78 [Value.ref 205, Value.int v1, Value.int v2, Value.int v3] [Value.int (12 : Int32), Value.ref 205] (mj_hw w c hi hl) := by
  rw [mj_den_eq, f194_76]
  exact zt_bipush rfl (zt_end rfl)
set_option maxRecDepth 100000 in
theorem g194_78 {E : mj_E} {d w c : Nat} {hi : Nat → Nat → Int32} {hl : Nat → Nat → Int64} (v1 : Int32) (v2 : Int32) (v3 : Int32) (s0 : Int32) : mj_den mj_P E d 194 78 [Value.ref 205, Value.int v1, Value.int v2, Value.int v3] [Value.int s0, Value.ref 205] (mj_hw w c hi hl) = mj_bv (mj_dc mj_P E d 192 [Value.ref 205, Value.int s0] (mj_hw w c hi hl)) (fun h1 => mj_den mj_P E d 194 81 [Value.ref 205, Value.int v1, Value.int v2, Value.int v3] [] h1) := by
  rw [mj_den_eq, f194_78]
  exact zt_call0_0 rfl (mjkd205 _ _ _ _) (Nat.le_of_ble_eq_true rfl) rfl rfl
set_option maxRecDepth 100000 in
theorem g194_81 {E : mj_E} {d w c : Nat} {hi : Nat → Nat → Int32} {hl : Nat → Nat → Int64} (v1 : Int32) (v2 : Int32) (v3 : Int32) : mj_den mj_P E d 194 81 [Value.ref 205, Value.int v1, Value.int v2, Value.int v3] [] (mj_hw w c hi hl) = mj_bv (mj_dc mj_P E d 182 [Value.ref 205] (mj_hw w c hi hl)) (fun h1 => mj_den mj_P E d 194 85 [Value.ref 205, Value.int v1, Value.int v2, Value.int v3] [] h1) := by
  rw [mj_den_eq, f194_81]
  exact zt_aload_n rfl rfl (zt_call0_0 rfl (mjkd205 _ _ _ _) (Nat.le_of_ble_eq_true rfl) rfl rfl)
set_option maxRecDepth 100000 in
theorem g194_85 {E : mj_E} {d w c : Nat} {hi : Nat → Nat → Int32} {hl : Nat → Nat → Int64} (v1 : Int32) (v2 : Int32) (v3 : Int32) : mj_den mj_P E d 194 85 [Value.ref 205, Value.int v1, Value.int v2, Value.int v3] [] (mj_hw w c hi hl) = mj_den mj_P E d 194 9 [Value.ref 205, Value.int v1, Value.int v2, Value.int v3] [] (mj_hw w c hi hl) := by
  rw [mj_den_eq, f194_85]
  exact zt_goto rfl
set_option maxRecDepth 100000 in
theorem g194_88 {E : mj_E} {d w c : Nat} {hi : Nat → Nat → Int32} {hl : Nat → Nat → Int64} (v1 : Int32) (v2 : Int32) (v3 : Int32) : mj_den mj_P E d 194 88 [Value.ref 205, Value.int v1, Value.int v2, Value.int v3] [] (mj_hw w c hi hl) = mj_bi (mj_dc mj_P E d 191 [Value.ref 205] (mj_hw w c hi hl)) (fun x1 h1 => mj_den mj_P E d 194 92 [Value.ref 205, Value.int v1, Value.int v2, Value.int v3] [Value.int x1] h1) := by
  rw [mj_den_eq, f194_88]
  exact zt_aload_n rfl rfl (zt_call0_1 rfl (mjkd205 _ _ _ _) (Nat.le_of_ble_eq_true rfl) rfl rfl)
set_option maxRecDepth 100000 in
theorem g194_92 {E : mj_E} {d w c : Nat} {hi : Nat → Nat → Int32} {hl : Nat → Nat → Int64} (v1 : Int32) (v2 : Int32) (v3 : Int32) (s0 : Int32) : mj_den mj_P E d 194 92 [Value.ref 205, Value.int v1, Value.int v2, Value.int v3] [Value.int s0] (mj_hw w c hi hl) = if ¬ s0 = (-1 : Int32) then mj_den mj_P E d 194 98 [Value.ref 205, Value.int v1, Value.int v2, Value.int v3] [] (mj_hw w c hi hl) else some (some (Value.int (-1 : Int32)), (mj_hw w c hi hl)) := by
  rw [mj_den_eq, f194_92]
  exact zt_iconst rfl (zt_icmp_ne rfl rfl (zt_iconst rfl (zt_ireturn0)))
set_option maxRecDepth 100000 in
theorem g194_98 {E : mj_E} {d w c : Nat} {hi : Nat → Nat → Int32} {hl : Nat → Nat → Int64} (v1 : Int32) (v2 : Int32) (v3 : Int32) : mj_den mj_P E d 194 98 [Value.ref 205, Value.int v1, Value.int v2, Value.int v3] [] (mj_hw w c hi hl) = mj_bv (mj_dc mj_P E d 193 [Value.ref 205, Value.int (9 : Int32)] (mj_hw w c hi hl)) (fun h1 => mj_den mj_P E d 194 104 [Value.ref 205, Value.int v1, Value.int v2, Value.int v3] [] h1) := by
  rw [mj_den_eq, f194_98]
  exact zt_aload_n rfl rfl (zt_bipush rfl (zt_call0_0 rfl (mjkd205 _ _ _ _) (Nat.le_of_ble_eq_true rfl) rfl rfl))
set_option maxRecDepth 100000 in
theorem g194_104 {E : mj_E} {d w c : Nat} {hi : Nat → Nat → Int32} {hl : Nat → Nat → Int64} (v1 : Int32) (v2 : Int32) (v3 : Int32) : mj_den mj_P E d 194 104 [Value.ref 205, Value.int v1, Value.int v2, Value.int v3] [] (mj_hw w c hi hl) = mj_den mj_P E d 194 9 [Value.ref 205, Value.int v1, Value.int (0 : Int32), Value.int v3] [] (mj_hw w c hi hl) := by
  rw [mj_den_eq, f194_104]
  exact zt_iconst rfl (zt_istore_n (Nat.le_of_ble_eq_true rfl) rfl rfl (zt_goto rfl))
set_option maxRecDepth 100000 in
theorem g194_109 {E : mj_E} {d w c : Nat} {hi : Nat → Nat → Int32} {hl : Nat → Nat → Int64} (v1 : Int32) (v2 : Int32) (u3 : Value) : mj_den mj_P E d 194 109 [Value.ref 205, Value.int v1, Value.int v2, u3] [] (mj_hw w c hi hl) = mj_bi (mj_dc mj_P E d 184 [Value.ref 205, Value.int (5 : Int32)] (mj_hw w c hi hl)) (fun x1 h1 => mj_den mj_P E d 194 114 [Value.ref 205, Value.int v1, Value.int v2, u3] [Value.int x1] h1) := by
  rw [mj_den_eq, f194_109]
  exact zt_aload_n rfl rfl (zt_iconst rfl (zt_call0_1 rfl (mjkd205 _ _ _ _) (Nat.le_of_ble_eq_true rfl) rfl rfl))
set_option maxRecDepth 100000 in
theorem g194_114 {E : mj_E} {d w c : Nat} {hi : Nat → Nat → Int32} {hl : Nat → Nat → Int64} (v1 : Int32) (v2 : Int32) (u3 : Value) (s0 : Int32) : mj_den mj_P E d 194 114 [Value.ref 205, Value.int v1, Value.int v2, u3] [Value.int s0] (mj_hw w c hi hl) = if s0 = 0 then mj_den mj_P E d 194 138 [Value.ref 205, Value.int v1, Value.int v2, u3] [] (mj_hw w c hi hl) else mj_bv (mj_dc mj_P E d 193 [Value.ref 205, Value.int (10 : Int32)] (mj_hw w c hi hl)) (fun h1 => mj_den mj_P E d 194 123 [Value.ref 205, Value.int v1, Value.int v2, u3] [] h1) := by
  rw [mj_den_eq, f194_114]
  exact zt_if_eq rfl rfl (zt_aload_n rfl rfl (zt_bipush rfl (zt_call0_0 rfl (mjkd205 _ _ _ _) (Nat.le_of_ble_eq_true rfl) rfl rfl)))
set_option maxRecDepth 100000 in
theorem g194_123 {E : mj_E} {d w c : Nat} {hi : Nat → Nat → Int32} {hl : Nat → Nat → Int64} (v1 : Int32) (v2 : Int32) (u3 : Value) : mj_den mj_P E d 194 123 [Value.ref 205, Value.int v1, Value.int v2, u3] [] (mj_hw w c hi hl) = mj_bv (mj_dc mj_P E d 192 [Value.ref 205, Value.int (10 : Int32)] (mj_hw w c hi hl)) (fun h1 => mj_den mj_P E d 194 129 [Value.ref 205, Value.int v1, Value.int v2, u3] [] h1) := by
  rw [mj_den_eq, f194_123]
  exact zt_aload_n rfl rfl (zt_bipush rfl (zt_call0_0 rfl (mjkd205 _ _ _ _) (Nat.le_of_ble_eq_true rfl) rfl rfl))
set_option maxRecDepth 100000 in
theorem g194_129 {E : mj_E} {d w c : Nat} {hi : Nat → Nat → Int32} {hl : Nat → Nat → Int64} (v1 : Int32) (v2 : Int32) (u3 : Value) : mj_den mj_P E d 194 129 [Value.ref 205, Value.int v1, Value.int v2, u3] [] (mj_hw w c hi hl) = mj_bv (mj_dc mj_P E d 182 [Value.ref 205] (mj_hw w c hi hl)) (fun h1 => mj_den mj_P E d 194 133 [Value.ref 205, Value.int v1, Value.int v2, u3] [] h1) := by
  rw [mj_den_eq, f194_129]
  exact zt_aload_n rfl rfl (zt_call0_0 rfl (mjkd205 _ _ _ _) (Nat.le_of_ble_eq_true rfl) rfl rfl)
set_option maxRecDepth 100000 in
theorem g194_133 {E : mj_E} {d w c : Nat} {hi : Nat → Nat → Int32} {hl : Nat → Nat → Int64} (v1 : Int32) (v2 : Int32) (u3 : Value) : mj_den mj_P E d 194 133 [Value.ref 205, Value.int v1, Value.int v2, u3] [] (mj_hw w c hi hl) = mj_den mj_P E d 194 9 [Value.ref 205, Value.int v1, Value.int (1 : Int32), u3] [] (mj_hw w c hi hl) := by
  rw [mj_den_eq, f194_133]
  exact zt_iconst rfl (zt_istore_n (Nat.le_of_ble_eq_true rfl) rfl rfl (zt_goto rfl))
set_option maxRecDepth 100000 in
theorem g194_138 {E : mj_E} {d w c : Nat} {hi : Nat → Nat → Int32} {hl : Nat → Nat → Int64} (v1 : Int32) (v2 : Int32) (u3 : Value) : mj_den mj_P E d 194 138 [Value.ref 205, Value.int v1, Value.int v2, u3] [] (mj_hw w c hi hl) = mj_bi (mj_dc mj_P E d 184 [Value.ref 205, Value.int (4 : Int32)] (mj_hw w c hi hl)) (fun x1 h1 => mj_den mj_P E d 194 143 [Value.ref 205, Value.int v1, Value.int v2, u3] [Value.int x1] h1) := by
  rw [mj_den_eq, f194_138]
  exact zt_aload_n rfl rfl (zt_iconst rfl (zt_call0_1 rfl (mjkd205 _ _ _ _) (Nat.le_of_ble_eq_true rfl) rfl rfl))
set_option maxRecDepth 100000 in
theorem g194_143 {E : mj_E} {d w c : Nat} {hi : Nat → Nat → Int32} {hl : Nat → Nat → Int64} (v1 : Int32) (v2 : Int32) (u3 : Value) (s0 : Int32) : mj_den mj_P E d 194 143 [Value.ref 205, Value.int v1, Value.int v2, u3] [Value.int s0] (mj_hw w c hi hl) = if s0 = 0 then mj_den mj_P E d 194 173 [Value.ref 205, Value.int v1, Value.int v2, u3] [] (mj_hw w c hi hl) else mj_bv (mj_dc mj_P E d 193 [Value.ref 205, Value.int (10 : Int32)] (mj_hw w c hi hl)) (fun h1 => mj_den mj_P E d 194 152 [Value.ref 205, Value.int v1, Value.int v2, u3] [] h1) := by
  rw [mj_den_eq, f194_143]
  exact zt_if_eq rfl rfl (zt_aload_n rfl rfl (zt_bipush rfl (zt_call0_0 rfl (mjkd205 _ _ _ _) (Nat.le_of_ble_eq_true rfl) rfl rfl)))
set_option maxRecDepth 100000 in
theorem g194_152 {E : mj_E} {d w c : Nat} {hi : Nat → Nat → Int32} {hl : Nat → Nat → Int64} (v1 : Int32) (v2 : Int32) (u3 : Value) : mj_den mj_P E d 194 152 [Value.ref 205, Value.int v1, Value.int v2, u3] [] (mj_hw w c hi hl) = mj_bv (mj_dc mj_P E d 193 [Value.ref 205, Value.int (11 : Int32)] (mj_hw w c hi hl)) (fun h1 => mj_den mj_P E d 194 158 [Value.ref 205, Value.int v1, Value.int v2, u3] [] h1) := by
  rw [mj_den_eq, f194_152]
  exact zt_aload_n rfl rfl (zt_bipush rfl (zt_call0_0 rfl (mjkd205 _ _ _ _) (Nat.le_of_ble_eq_true rfl) rfl rfl))
set_option maxRecDepth 100000 in
theorem g194_158 {E : mj_E} {d w c : Nat} {hi : Nat → Nat → Int32} {hl : Nat → Nat → Int64} (v1 : Int32) (v2 : Int32) (u3 : Value) : mj_den mj_P E d 194 158 [Value.ref 205, Value.int v1, Value.int v2, u3] [] (mj_hw w c hi hl) = mj_bv (mj_dc mj_P E d 192 [Value.ref 205, Value.int (11 : Int32)] (mj_hw w c hi hl)) (fun h1 => mj_den mj_P E d 194 164 [Value.ref 205, Value.int v1, Value.int v2, u3] [] h1) := by
  rw [mj_den_eq, f194_158]
  exact zt_aload_n rfl rfl (zt_bipush rfl (zt_call0_0 rfl (mjkd205 _ _ _ _) (Nat.le_of_ble_eq_true rfl) rfl rfl))
set_option maxRecDepth 100000 in
theorem g194_164 {E : mj_E} {d w c : Nat} {hi : Nat → Nat → Int32} {hl : Nat → Nat → Int64} (v1 : Int32) (v2 : Int32) (u3 : Value) : mj_den mj_P E d 194 164 [Value.ref 205, Value.int v1, Value.int v2, u3] [] (mj_hw w c hi hl) = mj_bv (mj_dc mj_P E d 182 [Value.ref 205] (mj_hw w c hi hl)) (fun h1 => mj_den mj_P E d 194 168 [Value.ref 205, Value.int v1, Value.int v2, u3] [] h1) := by
  rw [mj_den_eq, f194_164]
  exact zt_aload_n rfl rfl (zt_call0_0 rfl (mjkd205 _ _ _ _) (Nat.le_of_ble_eq_true rfl) rfl rfl)
set_option maxRecDepth 100000 in
theorem g194_168 {E : mj_E} {d w c : Nat} {hi : Nat → Nat → Int32} {hl : Nat → Nat → Int64} (v1 : Int32) (v2 : Int32) (u3 : Value) : mj_den mj_P E d 194 168 [Value.ref 205, Value.int v1, Value.int v2, u3] [] (mj_hw w c hi hl) = mj_den mj_P E d 194 9 [Value.ref 205, Value.int v1, Value.int (1 : Int32), u3] [] (mj_hw w c hi hl) := by
  rw [mj_den_eq, f194_168]
  exact zt_iconst rfl (zt_istore_n (Nat.le_of_ble_eq_true rfl) rfl rfl (zt_goto rfl))
set_option maxRecDepth 100000 in
theorem g194_173 {E : mj_E} {d w c : Nat} {hi : Nat → Nat → Int32} {hl : Nat → Nat → Int64} (v1 : Int32) (v2 : Int32) (u3 : Value) : mj_den mj_P E d 194 173 [Value.ref 205, Value.int v1, Value.int v2, u3] [] (mj_hw w c hi hl) = mj_bv (mj_dc mj_P E d 193 [Value.ref 205, Value.int (10 : Int32)] (mj_hw w c hi hl)) (fun h1 => mj_den mj_P E d 194 179 [Value.ref 205, Value.int v1, Value.int v2, u3] [] h1) := by
  rw [mj_den_eq, f194_173]
  exact zt_aload_n rfl rfl (zt_bipush rfl (zt_call0_0 rfl (mjkd205 _ _ _ _) (Nat.le_of_ble_eq_true rfl) rfl rfl))
set_option maxRecDepth 100000 in
theorem g194_179 {E : mj_E} {d w c : Nat} {hi : Nat → Nat → Int32} {hl : Nat → Nat → Int64} (v1 : Int32) (v2 : Int32) (u3 : Value) : mj_den mj_P E d 194 179 [Value.ref 205, Value.int v1, Value.int v2, u3] [] (mj_hw w c hi hl) = mj_bv (mj_dc mj_P E d 193 [Value.ref 205, Value.int (11 : Int32)] (mj_hw w c hi hl)) (fun h1 => mj_den mj_P E d 194 185 [Value.ref 205, Value.int v1, Value.int v2, u3] [] h1) := by
  rw [mj_den_eq, f194_179]
  exact zt_aload_n rfl rfl (zt_bipush rfl (zt_call0_0 rfl (mjkd205 _ _ _ _) (Nat.le_of_ble_eq_true rfl) rfl rfl))
set_option maxRecDepth 100000 in
theorem g194_185 {E : mj_E} {d w c : Nat} {hi : Nat → Nat → Int32} {hl : Nat → Nat → Int64} (v1 : Int32) (v2 : Int32) (u3 : Value) : mj_den mj_P E d 194 185 [Value.ref 205, Value.int v1, Value.int v2, u3] [] (mj_hw w c hi hl) = if ¬ v1 = 0 then mj_den mj_P E d 194 191 [Value.ref 205, Value.int v1, Value.int v2, u3] [] (mj_hw w c hi hl) else some (some (Value.int (0 : Int32)), (mj_hw w c hi hl)) := by
  rw [mj_den_eq, f194_185]
  exact zt_iload_n rfl rfl (zt_if_ne rfl rfl (zt_iconst rfl (zt_ireturn0)))
set_option maxRecDepth 100000 in
theorem g194_191 {E : mj_E} {d w c : Nat} {hi : Nat → Nat → Int32} {hl : Nat → Nat → Int64} (v1 : Int32) (v2 : Int32) (u3 : Value) : mj_den mj_P E d 194 191 [Value.ref 205, Value.int v1, Value.int v2, u3] [] (mj_hw w c hi hl) = mj_bi (mj_dc mj_P E d 185 [Value.ref 205, Value.int (41 : Int32)] (mj_hw w c hi hl)) (fun x1 h1 => mj_den mj_P E d 194 197 [Value.ref 205, Value.int v1, Value.int v2, u3] [Value.int x1] h1) := by
  rw [mj_den_eq, f194_191]
  exact zt_aload_n rfl rfl (zt_bipush rfl (zt_call0_1 rfl (mjkd205 _ _ _ _) (Nat.le_of_ble_eq_true rfl) rfl rfl))
set_option maxRecDepth 100000 in
theorem g194_197 {E : mj_E} {d w c : Nat} {hi : Nat → Nat → Int32} {hl : Nat → Nat → Int64} (v1 : Int32) (v2 : Int32) (u3 : Value) (s0 : Int32) : mj_den mj_P E d 194 197 [Value.ref 205, Value.int v1, Value.int v2, u3] [Value.int s0] (mj_hw w c hi hl) = if ¬ s0 = 0 then mj_den mj_P E d 194 206 [Value.ref 205, Value.int v1, Value.int v2, u3] [] (mj_hw w c hi hl) else mj_bi (mj_dc mj_P E d 183 [Value.ref 205, Value.int (1 : Int32)] (mj_hw w c hi hl)) (fun x1 h1 => mj_den mj_P E d 194 205 [Value.ref 205, Value.int v1, Value.int v2, u3] [Value.int x1] h1) := by
  rw [mj_den_eq, f194_197]
  exact zt_if_ne rfl rfl (zt_aload_n rfl rfl (zt_iconst rfl (zt_call0_1 rfl (mjkd205 _ _ _ _) (Nat.le_of_ble_eq_true rfl) rfl rfl)))
set_option maxRecDepth 100000 in
theorem g194_205 {E : mj_E} {d w c : Nat} {hi : Nat → Nat → Int32} {hl : Nat → Nat → Int64} (v1 : Int32) (v2 : Int32) (u3 : Value) (s0 : Int32) : mj_den mj_P E d 194 205 [Value.ref 205, Value.int v1, Value.int v2, u3] [Value.int s0] (mj_hw w c hi hl) = some (some (Value.int s0), (mj_hw w c hi hl)) := by
  rw [mj_den_eq, f194_205]
  exact zt_ireturn0
set_option maxRecDepth 100000 in
theorem g194_206 {E : mj_E} {d w c : Nat} {hi : Nat → Nat → Int32} {hl : Nat → Nat → Int64} (v1 : Int32) (v2 : Int32) (u3 : Value) : mj_den mj_P E d 194 206 [Value.ref 205, Value.int v1, Value.int v2, u3] [] (mj_hw w c hi hl) = mj_bv (mj_dc mj_P E d 193 [Value.ref 205, Value.int (9 : Int32)] (mj_hw w c (mj_u (mj_u hi 205 31 ((hi 205 31) - (1 : Int32))) 205 29 ((hi 205 29) - (1 : Int32))) hl)) (fun h1 => mj_den mj_P E d 194 236 [Value.ref 205, Value.int (v1 - (1 : Int32)), Value.int v2, u3] [] h1) := by
  rw [mj_den_eq, f194_206]
  exact zt_aload_n rfl rfl (zt_aload_n rfl rfl (zt_geti (mjkd205 _ _ _ _) rfl rfl (zt_iconst rfl (zt_isub rfl (zt_puti (mjkd205 _ _ _ _) rfl rfl (zt_iload_n rfl rfl (zt_iconst rfl (zt_isub rfl (zt_istore_n (Nat.le_of_ble_eq_true rfl) rfl rfl (zt_aload_n rfl rfl (zt_aload_n rfl rfl (zt_geti (mjkd205 _ _ _ _) rfl rfl (zt_iconst rfl (zt_isub rfl (zt_puti (mjkd205 _ _ _ _) rfl rfl (zt_aload_n rfl rfl (zt_bipush rfl (zt_call0_0 rfl (mjkd205 _ _ _ _) (Nat.le_of_ble_eq_true rfl) rfl rfl))))))))))))))))))
set_option maxRecDepth 100000 in
theorem g194_236 {E : mj_E} {d w c : Nat} {hi : Nat → Nat → Int32} {hl : Nat → Nat → Int64} (v1 : Int32) (v2 : Int32) (u3 : Value) : mj_den mj_P E d 194 236 [Value.ref 205, Value.int v1, Value.int v2, u3] [] (mj_hw w c hi hl) = mj_bv (mj_dc mj_P E d 182 [Value.ref 205] (mj_hw w c hi hl)) (fun h1 => mj_den mj_P E d 194 240 [Value.ref 205, Value.int v1, Value.int v2, u3] [] h1) := by
  rw [mj_den_eq, f194_236]
  exact zt_aload_n rfl rfl (zt_call0_0 rfl (mjkd205 _ _ _ _) (Nat.le_of_ble_eq_true rfl) rfl rfl)
set_option maxRecDepth 100000 in
theorem g194_240 {E : mj_E} {d w c : Nat} {hi : Nat → Nat → Int32} {hl : Nat → Nat → Int64} (v1 : Int32) (v2 : Int32) (u3 : Value) : mj_den mj_P E d 194 240 [Value.ref 205, Value.int v1, Value.int v2, u3] [] (mj_hw w c hi hl) = mj_den mj_P E d 194 9 [Value.ref 205, Value.int v1, Value.int v2, u3] [] (mj_hw w c hi hl) := by
  rw [mj_den_eq, f194_240]
  exact zt_goto rfl
theorem xg194 (E : mj_E) (d : Nat) (h : mj_H) : mj_dc mj_P E (d + 1) 194 [Value.ref 205] h = mj_den mj_P E d 194 0 [Value.ref 205, Value.float 0, Value.float 0, Value.float 0] [] h := mj_dc_eq mj_P E d 194 [Value.ref 205] h (Nat.le_of_ble_eq_true rfl)
set_option maxRecDepth 100000 in
theorem g196_0 {E : mj_E} {d w c : Nat} {hi : Nat → Nat → Int32} {hl : Nat → Nat → Int64} : mj_den mj_P E d 196 0 [Value.ref 205, Value.float 0, Value.float 0] [] (mj_hw w c hi hl) = mj_den mj_P E d 196 2 [Value.ref 205, Value.int (0 : Int32), Value.float 0] [] (mj_hw w c hi hl) := by
  rw [mj_den_eq, f196_0]
  exact zt_iconst rfl (zt_istore_n (Nat.le_of_ble_eq_true rfl) rfl rfl (zt_end rfl))
set_option maxRecDepth 100000 in
theorem g196_2 {E : mj_E} {d w c : Nat} {hi : Nat → Nat → Int32} {hl : Nat → Nat → Int64} (v1 : Int32) (u2 : Value) : mj_den mj_P E d 196 2 [Value.ref 205, Value.int v1, u2] [] (mj_hw w c hi hl) = mj_bi (mj_dc mj_P E d 195 [Value.ref 205] (mj_hw w c hi hl)) (fun x1 h1 => mj_den mj_P E d 196 6 [Value.ref 205, Value.int v1, u2] [Value.int x1] h1) := by
  rw [mj_den_eq, f196_2]
  exact zt_aload_n rfl rfl (zt_call0_1 rfl (mjkd205 _ _ _ _) (Nat.le_of_ble_eq_true rfl) rfl rfl)
set_option maxRecDepth 100000 in
theorem g196_6 {E : mj_E} {d w c : Nat} {hi : Nat → Nat → Int32} {hl : Nat → Nat → Int64} (v1 : Int32) (u2 : Value) (s0 : Int32) : mj_den mj_P E d 196 6 [Value.ref 205, Value.int v1, u2] [Value.int s0] (mj_hw w c hi hl) = if s0 = 0 then mj_den mj_P E d 196 128 [Value.ref 205, Value.int v1, u2] [] (mj_hw w c hi hl) else if ¬ v1 = (16 : Int32) then mj_den mj_P E d 196 21 [Value.ref 205, Value.int v1, u2] [] (mj_hw w c hi hl) else mj_bi (mj_dc mj_P E d 183 [Value.ref 205, Value.int (3 : Int32)] (mj_hw w c hi hl)) (fun x1 h1 => mj_den mj_P E d 196 20 [Value.ref 205, Value.int v1, u2] [Value.int x1] h1) := by
  rw [mj_den_eq, f196_6]
  exact zt_if_eq rfl rfl (zt_iload_n rfl rfl (zt_bipush rfl (zt_icmp_ne rfl rfl (zt_aload_n rfl rfl (zt_iconst rfl (zt_call0_1 rfl (mjkd205 _ _ _ _) (Nat.le_of_ble_eq_true rfl) rfl rfl))))))
set_option maxRecDepth 100000 in
theorem g196_20 {E : mj_E} {d w c : Nat} {hi : Nat → Nat → Int32} {hl : Nat → Nat → Int64} (v1 : Int32) (u2 : Value) (s0 : Int32) : mj_den mj_P E d 196 20 [Value.ref 205, Value.int v1, u2] [Value.int s0] (mj_hw w c hi hl) = some (some (Value.int s0), (mj_hw w c hi hl)) := by
  rw [mj_den_eq, f196_20]
  exact zt_ireturn0
set_option maxRecDepth 100000 in
theorem g196_21 {E : mj_E} {d w c : Nat} {hi : Nat → Nat → Int32} {hl : Nat → Nat → Int64} (v1 : Int32) (u2 : Value) : mj_den mj_P E d 196 21 [Value.ref 205, Value.int v1, u2] [] (mj_hw w c hi hl) = if 0 ≤ ((32 : Int32) + v1) ∧ (((32 : Int32) + v1)).toNatClampNeg < 48 then mj_bv (mj_dc mj_P E d 182 [Value.ref 205] (mj_hw w c (mj_u hi 217 ((((32 : Int32) + v1)).toNatClampNeg) (hi 205 18)) hl)) (fun h1 => mj_den mj_P E d 196 40 [Value.ref 205, Value.int v1, Value.int ((32 : Int32) + v1)] [] h1) else none := by
  rw [mj_den_eq, f196_21]
  exact zt_bipush rfl (zt_iload_n rfl rfl (zt_iadd rfl (zt_istore_n (Nat.le_of_ble_eq_true rfl) rfl rfl (zt_aload_n rfl rfl (zt_getr (mjkd205 _ _ _ _) (mjhr205_21 w c) rfl (zt_iload_n rfl rfl (zt_aload_n rfl rfl (zt_geti (mjkd205 _ _ _ _) rfl rfl (zt_iast (mjkd217 _ _ _ _) (mjln217 _ _ _ _) rfl rfl (zt_aload_n rfl rfl (zt_call0_0 rfl (mjkd205 _ _ _ _) (Nat.le_of_ble_eq_true rfl) rfl rfl)))))))))))
set_option maxRecDepth 100000 in
theorem g196_40 {E : mj_E} {d w c : Nat} {hi : Nat → Nat → Int32} {hl : Nat → Nat → Int64} (v1 : Int32) (v2 : Int32) : mj_den mj_P E d 196 40 [Value.ref 205, Value.int v1, Value.int v2] [] (mj_hw w c hi hl) = if 0 ≤ v2 ∧ (v2).toNatClampNeg < 48 then mj_bi (mj_dc mj_P E d 190 [Value.ref 205] (mj_hw w c (mj_u hi 218 ((v2).toNatClampNeg) (hi 205 28)) hl)) (fun x1 h1 => mj_den mj_P E d 196 54 [Value.ref 205, Value.int v1, Value.int v2] [Value.int x1] h1) else none := by
  rw [mj_den_eq, f196_40]
  exact zt_aload_n rfl rfl (zt_getr (mjkd205 _ _ _ _) (mjhr205_22 w c) rfl (zt_iload_n rfl rfl (zt_aload_n rfl rfl (zt_geti (mjkd205 _ _ _ _) rfl rfl (zt_iast (mjkd218 _ _ _ _) (mjln218 _ _ _ _) rfl rfl (zt_aload_n rfl rfl (zt_call0_1 rfl (mjkd205 _ _ _ _) (Nat.le_of_ble_eq_true rfl) rfl rfl)))))))
set_option maxRecDepth 100000 in
theorem g196_54 {E : mj_E} {d w c : Nat} {hi : Nat → Nat → Int32} {hl : Nat → Nat → Int64} (v1 : Int32) (v2 : Int32) (s0 : Int32) : mj_den mj_P E d 196 54 [Value.ref 205, Value.int v1, Value.int v2] [Value.int s0] (mj_hw w c hi hl) = if ¬ s0 = (-1 : Int32) then mj_den mj_P E d 196 60 [Value.ref 205, Value.int v1, Value.int v2] [] (mj_hw w c hi hl) else some (some (Value.int (-1 : Int32)), (mj_hw w c hi hl)) := by
  rw [mj_den_eq, f196_54]
  exact zt_iconst rfl (zt_icmp_ne rfl rfl (zt_iconst rfl (zt_ireturn0)))
set_option maxRecDepth 100000 in
theorem g196_60 {E : mj_E} {d w c : Nat} {hi : Nat → Nat → Int32} {hl : Nat → Nat → Int64} (v1 : Int32) (v2 : Int32) : mj_den mj_P E d 196 60 [Value.ref 205, Value.int v1, Value.int v2] [] (mj_hw w c hi hl) = if 0 ≤ v2 ∧ (v2).toNatClampNeg < 48 then mj_bi (mj_dc mj_P E d 184 [Value.ref 205, Value.int (3 : Int32)] (mj_hw w c (mj_u hi 219 ((v2).toNatClampNeg) (hi 205 28)) hl)) (fun x1 h1 => mj_den mj_P E d 196 75 [Value.ref 205, Value.int v1, Value.int v2] [Value.int x1] h1) else none := by
  rw [mj_den_eq, f196_60]
  exact zt_aload_n rfl rfl (zt_getr (mjkd205 _ _ _ _) (mjhr205_23 w c) rfl (zt_iload_n rfl rfl (zt_aload_n rfl rfl (zt_geti (mjkd205 _ _ _ _) rfl rfl (zt_iast (mjkd219 _ _ _ _) (mjln219 _ _ _ _) rfl rfl (zt_aload_n rfl rfl (zt_iconst rfl (zt_call0_1 rfl (mjkd205 _ _ _ _) (Nat.le_of_ble_eq_true rfl) rfl rfl))))))))
set_option maxRecDepth 100000 in
theorem g196_75 {E : mj_E} {d w c : Nat} {hi : Nat → Nat → Int32} {hl : Nat → Nat → Int64} (v1 : Int32) (v2 : Int32) (s0 : Int32) : mj_den mj_P E d 196 75 [Value.ref 205, Value.int v1, Value.int v2] [Value.int s0] (mj_hw w c hi hl) = if s0 = 0 then mj_den mj_P E d 196 92 [Value.ref 205, Value.int v1, Value.int v2] [] (mj_hw w c hi hl) else mj_bv (mj_dc mj_P E d 182 [Value.ref 205] (mj_hw w c hi hl)) (fun h1 => mj_den mj_P E d 196 82 [Value.ref 205, Value.int v1, Value.int v2] [] h1) := by
  rw [mj_den_eq, f196_75]
  exact zt_if_eq rfl rfl (zt_aload_n rfl rfl (zt_call0_0 rfl (mjkd205 _ _ _ _) (Nat.le_of_ble_eq_true rfl) rfl rfl))
set_option maxRecDepth 100000 in
theorem g196_82 {E : mj_E} {d w c : Nat} {hi : Nat → Nat → Int32} {hl : Nat → Nat → Int64} (v1 : Int32) (v2 : Int32) : mj_den mj_P E d 196 82 [Value.ref 205, Value.int v1, Value.int v2] [] (mj_hw w c hi hl) = mj_bi (mj_dc mj_P E d 194 [Value.ref 205] (mj_hw w c hi hl)) (fun x1 h1 => mj_den mj_P E d 196 86 [Value.ref 205, Value.int v1, Value.int v2] [Value.int x1] h1) := by
  rw [mj_den_eq, f196_82]
  exact zt_aload_n rfl rfl (zt_call0_1 rfl (mjkd205 _ _ _ _) (Nat.le_of_ble_eq_true rfl) rfl rfl)
set_option maxRecDepth 100000 in
theorem g196_86 {E : mj_E} {d w c : Nat} {hi : Nat → Nat → Int32} {hl : Nat → Nat → Int64} (v1 : Int32) (v2 : Int32) (s0 : Int32) : mj_den mj_P E d 196 86 [Value.ref 205, Value.int v1, Value.int v2] [Value.int s0] (mj_hw w c hi hl) = if ¬ s0 = (-1 : Int32) then mj_den mj_P E d 196 92 [Value.ref 205, Value.int v1, Value.int v2] [] (mj_hw w c hi hl) else some (some (Value.int (-1 : Int32)), (mj_hw w c hi hl)) := by
  rw [mj_den_eq, f196_86]
  exact zt_iconst rfl (zt_icmp_ne rfl rfl (zt_iconst rfl (zt_ireturn0)))
set_option maxRecDepth 100000 in
theorem g196_92 {E : mj_E} {d w c : Nat} {hi : Nat → Nat → Int32} {hl : Nat → Nat → Int64} (v1 : Int32) (v2 : Int32) : mj_den mj_P E d 196 92 [Value.ref 205, Value.int v1, Value.int v2] [] (mj_hw w c hi hl) = if 0 ≤ v2 ∧ (v2).toNatClampNeg < 48 then mj_bi (mj_dc mj_P E d 185 [Value.ref 205, Value.int (59 : Int32)] (mj_hw w c (mj_u hi 220 ((v2).toNatClampNeg) (hi 205 28)) hl)) (fun x1 h1 => mj_den mj_P E d 196 108 [Value.ref 205, Value.int v1, Value.int v2] [Value.int x1] h1) else none := by
  rw [mj_den_eq, f196_92]
  exact zt_aload_n rfl rfl (zt_getr (mjkd205 _ _ _ _) (mjhr205_24 w c) rfl (zt_iload_n rfl rfl (zt_aload_n rfl rfl (zt_geti (mjkd205 _ _ _ _) rfl rfl (zt_iast (mjkd220 _ _ _ _) (mjln220 _ _ _ _) rfl rfl (zt_aload_n rfl rfl (zt_bipush rfl (zt_call0_1 rfl (mjkd205 _ _ _ _) (Nat.le_of_ble_eq_true rfl) rfl rfl))))))))
set_option maxRecDepth 100000 in
theorem g196_108 {E : mj_E} {d w c : Nat} {hi : Nat → Nat → Int32} {hl : Nat → Nat → Int64} (v1 : Int32) (v2 : Int32) (s0 : Int32) : mj_den mj_P E d 196 108 [Value.ref 205, Value.int v1, Value.int v2] [Value.int s0] (mj_hw w c hi hl) = if ¬ s0 = 0 then mj_den mj_P E d 196 117 [Value.ref 205, Value.int v1, Value.int v2] [] (mj_hw w c hi hl) else mj_bi (mj_dc mj_P E d 183 [Value.ref 205, Value.int (1 : Int32)] (mj_hw w c hi hl)) (fun x1 h1 => mj_den mj_P E d 196 116 [Value.ref 205, Value.int v1, Value.int v2] [Value.int x1] h1) := by
  rw [mj_den_eq, f196_108]
  exact zt_if_ne rfl rfl (zt_aload_n rfl rfl (zt_iconst rfl (zt_call0_1 rfl (mjkd205 _ _ _ _) (Nat.le_of_ble_eq_true rfl) rfl rfl)))
set_option maxRecDepth 100000 in
theorem g196_116 {E : mj_E} {d w c : Nat} {hi : Nat → Nat → Int32} {hl : Nat → Nat → Int64} (v1 : Int32) (v2 : Int32) (s0 : Int32) : mj_den mj_P E d 196 116 [Value.ref 205, Value.int v1, Value.int v2] [Value.int s0] (mj_hw w c hi hl) = some (some (Value.int s0), (mj_hw w c hi hl)) := by
  rw [mj_den_eq, f196_116]
  exact zt_ireturn0
set_option maxRecDepth 100000 in
theorem g196_117 {E : mj_E} {d w c : Nat} {hi : Nat → Nat → Int32} {hl : Nat → Nat → Int64} (v1 : Int32) (v2 : Int32) : mj_den mj_P E d 196 117 [Value.ref 205, Value.int v1, Value.int v2] [] (mj_hw w c hi hl) = mj_bv (mj_dc mj_P E d 182 [Value.ref 205] (mj_hw w c hi hl)) (fun h1 => mj_den mj_P E d 196 121 [Value.ref 205, Value.int v1, Value.int v2] [] h1) := by
  rw [mj_den_eq, f196_117]
  exact zt_aload_n rfl rfl (zt_call0_0 rfl (mjkd205 _ _ _ _) (Nat.le_of_ble_eq_true rfl) rfl rfl)
set_option maxRecDepth 100000 in
theorem g196_121 {E : mj_E} {d w c : Nat} {hi : Nat → Nat → Int32} {hl : Nat → Nat → Int64} (v1 : Int32) (v2 : Int32) : mj_den mj_P E d 196 121 [Value.ref 205, Value.int v1, Value.int v2] [] (mj_hw w c hi hl) = mj_den mj_P E d 196 2 [Value.ref 205, Value.int (v1 + (1 : Int32)), Value.int v2] [] (mj_hw w c hi hl) := by
  rw [mj_den_eq, f196_121]
  exact zt_iload_n rfl rfl (zt_iconst rfl (zt_iadd rfl (zt_istore_n (Nat.le_of_ble_eq_true rfl) rfl rfl (zt_goto rfl))))
set_option maxRecDepth 100000 in
theorem g196_128 {E : mj_E} {d w c : Nat} {hi : Nat → Nat → Int32} {hl : Nat → Nat → Int64} (v1 : Int32) (u2 : Value) : mj_den mj_P E d 196 128 [Value.ref 205, Value.int v1, u2] [] (mj_hw w c hi hl) = if ¬ (hi 205 17) = 0 then mj_den mj_P E d 196 139 [Value.ref 205, Value.int v1, u2] [] (mj_hw w c hi hl) else mj_den mj_P E d 196 144 [Value.ref 205, Value.int v1, u2] [Value.int v1] (mj_hw w c hi hl) := by
  rw [mj_den_eq, f196_128]
  exact zt_aload_n rfl rfl (zt_geti (mjkd205 _ _ _ _) rfl rfl (zt_if_ne rfl rfl (zt_iload_n rfl rfl (zt_goto rfl))))
set_option maxRecDepth 100000 in
theorem g196_139 {E : mj_E} {d w c : Nat} {hi : Nat → Nat → Int32} {hl : Nat → Nat → Int64} (v1 : Int32) (u2 : Value) : mj_den mj_P E d 196 139 [Value.ref 205, Value.int v1, u2] [] (mj_hw w c hi hl) = mj_bi (mj_dc mj_P E d 183 [Value.ref 205, Value.int (1 : Int32)] (mj_hw w c hi hl)) (fun x1 h1 => mj_den mj_P E d 196 144 [Value.ref 205, Value.int v1, u2] [Value.int x1] h1) := by
  rw [mj_den_eq, f196_139]
  exact zt_aload_n rfl rfl (zt_iconst rfl (zt_call0_1 rfl (mjkd205 _ _ _ _) (Nat.le_of_ble_eq_true rfl) rfl rfl))
set_option maxRecDepth 100000 in
theorem g196_144 {E : mj_E} {d w c : Nat} {hi : Nat → Nat → Int32} {hl : Nat → Nat → Int64} (v1 : Int32) (u2 : Value) (s0 : Int32) : mj_den mj_P E d 196 144 [Value.ref 205, Value.int v1, u2] [Value.int s0] (mj_hw w c hi hl) = some (some (Value.int s0), (mj_hw w c hi hl)) := by
  rw [mj_den_eq, f196_144]
  exact zt_ireturn0
theorem xg196 (E : mj_E) (d : Nat) (h : mj_H) : mj_dc mj_P E (d + 1) 196 [Value.ref 205] h = mj_den mj_P E d 196 0 [Value.ref 205, Value.float 0, Value.float 0] [] h := mj_dc_eq mj_P E d 196 [Value.ref 205] h (Nat.le_of_ble_eq_true rfl)
set_option maxRecDepth 100000 in
theorem g225_0 {E : mj_E} {d w c : Nat} {hi : Nat → Nat → Int32} {hl : Nat → Nat → Int64} (v1 : Int32) (v2 : Int32) : mj_den mj_P E d 225 0 [Value.ref 205, Value.int v1, Value.int v2, Value.float 0, Value.float 0, Value.float 0, Value.float 0] [] (mj_hw w c hi hl) = mj_den mj_P E d 225 10 [Value.ref 205, Value.int v1, Value.int v2, Value.int v2, Value.int (0 : Int32), Value.float 0, Value.float 0] [] (mj_hw w c (mj_u hi 205 46 (0 : Int32)) hl) := by
  rw [mj_den_eq, f225_0]
  exact zt_iload_n rfl rfl (zt_istore_n (Nat.le_of_ble_eq_true rfl) rfl rfl (zt_iconst rfl (zt_istore (Nat.le_of_ble_eq_true rfl) rfl rfl (zt_aload_n rfl rfl (zt_iconst rfl (zt_puti (mjkd205 _ _ _ _) rfl rfl (zt_end rfl)))))))
set_option maxRecDepth 100000 in
theorem g225_10 {E : mj_E} {d w c : Nat} {hi : Nat → Nat → Int32} {hl : Nat → Nat → Int64} (v1 : Int32) (v2 : Int32) (v3 : Int32) (v4 : Int32) (u5 : Value) (u6 : Value) : mj_den mj_P E d 225 10 [Value.ref 205, Value.int v1, Value.int v2, Value.int v3, Value.int v4, u5, u6] [] (mj_hw w c hi hl) = mj_bi (mj_dc mj_P E d 156 [Value.ref 205, Value.int v3] (mj_hw w c hi hl)) (fun x1 h1 => mj_den mj_P E d 225 15 [Value.ref 205, Value.int v1, Value.int v2, Value.int v3, Value.int v4, u5, u6] [Value.int x1] h1) := by
  rw [mj_den_eq, f225_10]
  exact zt_aload_n rfl rfl (zt_iload_n rfl rfl (zt_call0_1 rfl (mjkd205 _ _ _ _) (Nat.le_of_ble_eq_true rfl) rfl rfl))
set_option maxRecDepth 100000 in
theorem g225_15 {E : mj_E} {d w c : Nat} {hi : Nat → Nat → Int32} {hl : Nat → Nat → Int64} (v1 : Int32) (v2 : Int32) (v3 : Int32) (v4 : Int32) (u5 : Value) (u6 : Value) (s0 : Int32) : mj_den mj_P E d 225 15 [Value.ref 205, Value.int v1, Value.int v2, Value.int v3, Value.int v4, u5, u6] [Value.int s0] (mj_hw w c hi hl) = if s0 ≤ (1 : Int32) then mj_den mj_P E d 225 112 [Value.ref 205, Value.int v1, Value.int v2, Value.int v3, Value.int v4, u5, u6] [] (mj_hw w c hi hl) else if (200 : Int32) ≤ v4 then mj_den mj_P E d 225 112 [Value.ref 205, Value.int v1, Value.int v2, Value.int v3, Value.int v4, u5, u6] [] (mj_hw w c hi hl) else mj_bi (mj_dc mj_P E d 223 [Value.ref 205, Value.int v1, Value.int v3, Value.int v4] (mj_hw w c hi hl)) (fun x1 h1 => mj_den mj_P E d 225 35 [Value.ref 205, Value.int v1, Value.int v2, Value.int v3, Value.int v4, u5, u6] [Value.int x1] h1) := by
  rw [mj_den_eq, f225_15]
  exact zt_iconst rfl (zt_icmp_le rfl rfl (zt_iload rfl rfl (zt_sipush rfl (zt_icmp_ge rfl rfl (zt_aload_n rfl rfl (zt_iload_n rfl rfl (zt_iload_n rfl rfl (zt_iload rfl rfl (zt_call0_1 rfl (mjkd205 _ _ _ _) (Nat.le_of_ble_eq_true rfl) rfl rfl)))))))))
set_option maxRecDepth 100000 in
theorem g225_35 {E : mj_E} {d w c : Nat} {hi : Nat → Nat → Int32} {hl : Nat → Nat → Int64} (v1 : Int32) (v2 : Int32) (v3 : Int32) (v4 : Int32) (u5 : Value) (u6 : Value) (s0 : Int32) : mj_den mj_P E d 225 35 [Value.ref 205, Value.int v1, Value.int v2, Value.int v3, Value.int v4, u5, u6] [Value.int s0] (mj_hw w c hi hl) = mj_bi (mj_dc mj_P E d 219 [Value.ref 205, Value.int v4] (mj_hw w c hi hl)) (fun x1 h1 => mj_den mj_P E d 225 49 [Value.ref 205, Value.int v1, Value.int v2, Value.int v3, Value.int v4, Value.int s0, u6] [Value.int x1, Value.int s0, Value.int v3, Value.ref 205, Value.int s0] h1) := by
  rw [mj_den_eq, f225_35]
  exact zt_istore (Nat.le_of_ble_eq_true rfl) rfl rfl (zt_iload rfl rfl (zt_aload_n rfl rfl (zt_iload_n rfl rfl (zt_iload rfl rfl (zt_aload_n rfl rfl (zt_iload rfl rfl (zt_call0_1 rfl (mjkd205 _ _ _ _) (Nat.le_of_ble_eq_true rfl) rfl rfl)))))))
set_option maxRecDepth 100000 in
theorem g225_49 {E : mj_E} {d w c : Nat} {hi : Nat → Nat → Int32} {hl : Nat → Nat → Int64} (v1 : Int32) (v2 : Int32) (v3 : Int32) (v4 : Int32) (v5 : Int32) (u6 : Value) (s0 : Int32) (s1 : Int32) (s2 : Int32) (s4 : Int32) : mj_den mj_P E d 225 49 [Value.ref 205, Value.int v1, Value.int v2, Value.int v3, Value.int v4, Value.int v5, u6] [Value.int s0, Value.int s1, Value.int s2, Value.ref 205, Value.int s4] (mj_hw w c hi hl) = mj_bi (mj_dc mj_P E d 224 [Value.ref 205, Value.int s2, Value.int s1, Value.int s0] (mj_hw w c hi hl)) (fun x1 h1 => mj_den mj_P E d 225 52 [Value.ref 205, Value.int v1, Value.int v2, Value.int v3, Value.int v4, Value.int v5, u6] [Value.int x1, Value.int s4] h1) := by
  rw [mj_den_eq, f225_49]
  exact zt_call0_1 rfl (mjkd205 _ _ _ _) (Nat.le_of_ble_eq_true rfl) rfl rfl
set_option maxRecDepth 100000 in
theorem g225_52 {E : mj_E} {d w c : Nat} {hi : Nat → Nat → Int32} {hl : Nat → Nat → Int64} (v1 : Int32) (v2 : Int32) (v3 : Int32) (v4 : Int32) (v5 : Int32) (u6 : Value) (s0 : Int32) (s1 : Int32) : mj_den mj_P E d 225 52 [Value.ref 205, Value.int v1, Value.int v2, Value.int v3, Value.int v4, Value.int v5, u6] [Value.int s0, Value.int s1] (mj_hw w c hi hl) = if ¬ (s1 ||| s0) = v3 then mj_den mj_P E d 225 82 [Value.ref 205, Value.int v1, Value.int v2, Value.int v3, Value.int v4, Value.int v5, Value.int (s1 ||| s0)] [] (mj_hw w c (mj_u hi 205 46 ((hi 205 46) ||| v5)) hl) else mj_bi (mj_dc mj_P E d 221 [Value.ref 205, Value.int v3] (mj_hw w c (mj_u hi 205 46 ((hi 205 46) ||| v5)) hl)) (fun x1 h1 => mj_den mj_P E d 225 78 [Value.ref 205, Value.int v1, Value.int v2, Value.int v3, Value.int v4, Value.int v5, Value.int (s1 ||| s0)] [Value.int x1, Value.int (1 : Int32)] h1) := by
  rw [mj_den_eq, f225_52]
  exact zt_ior rfl (zt_istore (Nat.le_of_ble_eq_true rfl) rfl rfl (zt_aload_n rfl rfl (zt_aload_n rfl rfl (zt_geti (mjkd205 _ _ _ _) rfl rfl (zt_iload rfl rfl (zt_ior rfl (zt_puti (mjkd205 _ _ _ _) rfl rfl (zt_iload rfl rfl (zt_iload_n rfl rfl (zt_icmp_ne rfl rfl (zt_iconst rfl (zt_aload_n rfl rfl (zt_iload_n rfl rfl (zt_call0_1 rfl (mjkd205 _ _ _ _) (Nat.le_of_ble_eq_true rfl) rfl rfl))))))))))))))
set_option maxRecDepth 100000 in
theorem g225_78 {E : mj_E} {d w c : Nat} {hi : Nat → Nat → Int32} {hl : Nat → Nat → Int64} (v1 : Int32) (v2 : Int32) (v3 : Int32) (v4 : Int32) (v5 : Int32) (v6 : Int32) (s0 : Int32) (s1 : Int32) : mj_den mj_P E d 225 78 [Value.ref 205, Value.int v1, Value.int v2, Value.int v3, Value.int v4, Value.int v5, Value.int v6] [Value.int s0, Value.int s1] (mj_hw w c hi hl) = mj_den mj_P E d 225 88 [Value.ref 205, Value.int v1, Value.int v2, Value.int v3, Value.int v4, Value.int v5, Value.int v6] [Value.int (s1 <<< (s0 &&& 31))] (mj_hw w c hi hl) := by
  rw [mj_den_eq, f225_78]
  exact zt_ishl rfl (zt_goto rfl)
set_option maxRecDepth 100000 in
theorem g225_82 {E : mj_E} {d w c : Nat} {hi : Nat → Nat → Int32} {hl : Nat → Nat → Int64} (v1 : Int32) (v2 : Int32) (v3 : Int32) (v4 : Int32) (v5 : Int32) (v6 : Int32) : mj_den mj_P E d 225 82 [Value.ref 205, Value.int v1, Value.int v2, Value.int v3, Value.int v4, Value.int v5, Value.int v6] [] (mj_hw w c hi hl) = mj_den mj_P E d 225 88 [Value.ref 205, Value.int v1, Value.int v2, Value.int v3, Value.int v4, Value.int v5, Value.int v6] [Value.int (v3 &&& (v6 ^^^ (-1 : Int32)))] (mj_hw w c hi hl) := by
  rw [mj_den_eq, f225_82]
  exact zt_iload_n rfl rfl (zt_iload rfl rfl (zt_iconst rfl (zt_ixor rfl (zt_iand rfl (zt_end rfl)))))
set_option maxRecDepth 100000 in
theorem g225_88 {E : mj_E} {d w c : Nat} {hi : Nat → Nat → Int32} {hl : Nat → Nat → Int64} (v1 : Int32) (v2 : Int32) (v3 : Int32) (v4 : Int32) (v5 : Int32) (v6 : Int32) (s0 : Int32) : mj_den mj_P E d 225 88 [Value.ref 205, Value.int v1, Value.int v2, Value.int v3, Value.int v4, Value.int v5, Value.int v6] [Value.int s0] (mj_hw w c hi hl) = if 0 ≤ (0 : Int32) ∧ ((0 : Int32)).toNatClampNeg < 57 then if 0 ≤ (0 : Int32) ∧ ((0 : Int32)).toNatClampNeg < 57 then mj_den mj_P E d 225 10 [Value.ref 205, Value.int v1, Value.int v2, Value.int s0, Value.int (v4 + (1 : Int32)), Value.int v5, Value.int v6] [] (mj_hw w c (mj_u hi 206 (((0 : Int32)).toNatClampNeg) ((hi 206 (((0 : Int32)).toNatClampNeg)) + (1 : Int32))) hl) else none else none := by
  rw [mj_den_eq, f225_88]
  exact zt_istore_n (Nat.le_of_ble_eq_true rfl) rfl rfl (zt_iload rfl rfl (zt_iconst rfl (zt_iadd rfl (zt_istore (Nat.le_of_ble_eq_true rfl) rfl rfl (zt_aload_n rfl rfl (zt_getr (mjkd205 _ _ _ _) (mjhr205_1 w c) rfl (zt_iconst rfl (zt_aload_n rfl rfl (zt_getr (mjkd205 _ _ _ _) (mjhr205_1 w c) rfl (zt_iconst rfl (zt_iald (mjkd206 _ _ _ _) (mjln206 _ _ _ _) rfl rfl (zt_iconst rfl (zt_iadd rfl (zt_iast (mjkd206 _ _ _ _) (mjln206 _ _ _ _) rfl rfl (zt_goto rfl)))))))))))))))
set_option maxRecDepth 100000 in
theorem g225_112 {E : mj_E} {d w c : Nat} {hi : Nat → Nat → Int32} {hl : Nat → Nat → Int64} (v1 : Int32) (v2 : Int32) (v3 : Int32) (v4 : Int32) (u5 : Value) (u6 : Value) : mj_den mj_P E d 225 112 [Value.ref 205, Value.int v1, Value.int v2, Value.int v3, Value.int v4, u5, u6] [] (mj_hw w c hi hl) = mj_bi (mj_dc mj_P E d 221 [Value.ref 205, Value.int v3] (mj_hw w c (mj_u hi 205 44 v4) hl)) (fun x1 h1 => mj_den mj_P E d 225 123 [Value.ref 205, Value.int v1, Value.int v2, Value.int v3, Value.int v4, u5, u6] [Value.int x1] h1) := by
  rw [mj_den_eq, f225_112]
  exact zt_aload_n rfl rfl (zt_iload rfl rfl (zt_puti (mjkd205 _ _ _ _) rfl rfl (zt_aload_n rfl rfl (zt_iload_n rfl rfl (zt_call0_1 rfl (mjkd205 _ _ _ _) (Nat.le_of_ble_eq_true rfl) rfl rfl)))))
set_option maxRecDepth 100000 in
theorem g225_123 {E : mj_E} {d w c : Nat} {hi : Nat → Nat → Int32} {hl : Nat → Nat → Int64} (v1 : Int32) (v2 : Int32) (v3 : Int32) (v4 : Int32) (u5 : Value) (u6 : Value) (s0 : Int32) : mj_den mj_P E d 225 123 [Value.ref 205, Value.int v1, Value.int v2, Value.int v3, Value.int v4, u5, u6] [Value.int s0] (mj_hw w c hi hl) = mj_bi (mj_dc mj_P E d 156 [Value.ref 205, Value.int v3] (mj_hw w c hi hl)) (fun x1 h1 => mj_den mj_P E d 225 130 [Value.ref 205, Value.int v1, Value.int v2, Value.int v3, Value.int v4, Value.int s0, u6] [Value.int x1] h1) := by
  rw [mj_den_eq, f225_123]
  exact zt_istore (Nat.le_of_ble_eq_true rfl) rfl rfl (zt_aload_n rfl rfl (zt_iload_n rfl rfl (zt_call0_1 rfl (mjkd205 _ _ _ _) (Nat.le_of_ble_eq_true rfl) rfl rfl)))
set_option maxRecDepth 100000 in
theorem g225_130 {E : mj_E} {d w c : Nat} {hi : Nat → Nat → Int32} {hl : Nat → Nat → Int64} (v1 : Int32) (v2 : Int32) (v3 : Int32) (v4 : Int32) (v5 : Int32) (u6 : Value) (s0 : Int32) : mj_den mj_P E d 225 130 [Value.ref 205, Value.int v1, Value.int v2, Value.int v3, Value.int v4, Value.int v5, u6] [Value.int s0] (mj_hw w c hi hl) = if s0 ≤ (1 : Int32) then mj_den mj_P E d 225 142 [Value.ref 205, Value.int v1, Value.int v2, Value.int v3, Value.int v4, Value.int v5, u6] [] (mj_hw w c hi hl) else mj_bv (mj_dc mj_P E d 220 [Value.ref 205, Value.int (3 : Int32), Value.int v5, Value.int v1] (mj_hw w c hi hl)) (fun h1 => mj_den mj_P E d 225 142 [Value.ref 205, Value.int v1, Value.int v2, Value.int v3, Value.int v4, Value.int v5, u6] [] h1) := by
  rw [mj_den_eq, f225_130]
  exact zt_iconst rfl (zt_icmp_le rfl rfl (zt_aload_n rfl rfl (zt_iconst rfl (zt_iload rfl rfl (zt_iload_n rfl rfl (zt_call0_0 rfl (mjkd205 _ _ _ _) (Nat.le_of_ble_eq_true rfl) rfl rfl))))))
set_option maxRecDepth 100000 in
theorem g225_142 {E : mj_E} {d w c : Nat} {hi : Nat → Nat → Int32} {hl : Nat → Nat → Int64} (v1 : Int32) (v2 : Int32) (v3 : Int32) (v4 : Int32) (v5 : Int32) (u6 : Value) : mj_den mj_P E d 225 142 [Value.ref 205, Value.int v1, Value.int v2, Value.int v3, Value.int v4, Value.int v5, u6] [] (mj_hw w c hi hl) = some (some (Value.int v5), (mj_hw w c hi hl)) := by
  rw [mj_den_eq, f225_142]
  exact zt_iload rfl rfl (zt_ireturn0)
theorem xg225 (E : mj_E) (d : Nat) (a1 : Int32) (a2 : Int32) (h : mj_H) : mj_dc mj_P E (d + 1) 225 [Value.ref 205, Value.int a1, Value.int a2] h = mj_den mj_P E d 225 0 [Value.ref 205, Value.int a1, Value.int a2, Value.float 0, Value.float 0, Value.float 0, Value.float 0] [] h := mj_dc_eq mj_P E d 225 [Value.ref 205, Value.int a1, Value.int a2] h (Nat.le_of_ble_eq_true rfl)
set_option maxRecDepth 100000 in
theorem g238_0 {E : mj_E} {d w c : Nat} {hi : Nat → Nat → Int32} {hl : Nat → Nat → Int64} (v1 : Int32) (v2 : Int32) (v3 : Int32) : mj_den mj_P E d 238 0 [Value.ref 205, Value.int v1, Value.int v2, Value.int v3, Value.float 0, Value.float 0, Value.float 0, Value.float 0] [] (mj_hw w c hi hl) = mj_bi (mj_dc mj_P E d 164 [Value.ref 205, Value.int v1] (mj_hw w c (mj_u hi 205 0 (0 : Int32)) hl)) (fun x1 h1 => mj_den mj_P E d 238 10 [Value.ref 205, Value.int v1, Value.int v2, Value.int v3, Value.float 0, Value.float 0, Value.float 0, Value.float 0] [Value.int x1] h1) := by
  rw [mj_den_eq, f238_0]
  exact zt_aload_n rfl rfl (zt_iconst rfl (zt_puti (mjkd205 _ _ _ _) rfl rfl (zt_aload_n rfl rfl (zt_iload_n rfl rfl (zt_call0_1 rfl (mjkd205 _ _ _ _) (Nat.le_of_ble_eq_true rfl) rfl rfl)))))
set_option maxRecDepth 100000 in
theorem g238_10 {E : mj_E} {d w c : Nat} {hi : Nat → Nat → Int32} {hl : Nat → Nat → Int64} (v1 : Int32) (v2 : Int32) (v3 : Int32) (s0 : Int32) : mj_den mj_P E d 238 10 [Value.ref 205, Value.int v1, Value.int v2, Value.int v3, Value.float 0, Value.float 0, Value.float 0, Value.float 0] [Value.int s0] (mj_hw w c hi hl) = if s0 = 0 then mj_den mj_P E d 238 31 [Value.ref 205, Value.int v1, Value.int v2, Value.int v3, Value.float 0, Value.float 0, Value.float 0, Value.float 0] [] (mj_hw w c hi hl) else mj_bi (mj_dc mj_P E d 165 [Value.ref 205, Value.int v2] (mj_hw w c hi hl)) (fun x1 h1 => mj_den mj_P E d 238 18 [Value.ref 205, Value.int v1, Value.int v2, Value.int v3, Value.float 0, Value.float 0, Value.float 0, Value.float 0] [Value.int x1] h1) := by
  rw [mj_den_eq, f238_10]
  exact zt_if_eq rfl rfl (zt_aload_n rfl rfl (zt_iload_n rfl rfl (zt_call0_1 rfl (mjkd205 _ _ _ _) (Nat.le_of_ble_eq_true rfl) rfl rfl)))
set_option maxRecDepth 100000 in
theorem g238_18 {E : mj_E} {d w c : Nat} {hi : Nat → Nat → Int32} {hl : Nat → Nat → Int64} (v1 : Int32) (v2 : Int32) (v3 : Int32) (s0 : Int32) : mj_den mj_P E d 238 18 [Value.ref 205, Value.int v1, Value.int v2, Value.int v3, Value.float 0, Value.float 0, Value.float 0, Value.float 0] [Value.int s0] (mj_hw w c hi hl) = if s0 = 0 then mj_den mj_P E d 238 31 [Value.ref 205, Value.int v1, Value.int v2, Value.int v3, Value.float 0, Value.float 0, Value.float 0, Value.float 0] [] (mj_hw w c hi hl) else mj_bi (mj_dc mj_P E d 152 [Value.ref 205, Value.int v3, Value.int (0 : Int32), Value.int (1 : Int32)] (mj_hw w c hi hl)) (fun x1 h1 => mj_den mj_P E d 238 28 [Value.ref 205, Value.int v1, Value.int v2, Value.int v3, Value.float 0, Value.float 0, Value.float 0, Value.float 0] [Value.int x1] h1) := by
  rw [mj_den_eq, f238_18]
  exact zt_if_eq rfl rfl (zt_aload_n rfl rfl (zt_iload_n rfl rfl (zt_iconst rfl (zt_iconst rfl (zt_call0_1 rfl (mjkd205 _ _ _ _) (Nat.le_of_ble_eq_true rfl) rfl rfl)))))
set_option maxRecDepth 100000 in
theorem g238_28 {E : mj_E} {d w c : Nat} {hi : Nat → Nat → Int32} {hl : Nat → Nat → Int64} (v1 : Int32) (v2 : Int32) (v3 : Int32) (s0 : Int32) : mj_den mj_P E d 238 28 [Value.ref 205, Value.int v1, Value.int v2, Value.int v3, Value.float 0, Value.float 0, Value.float 0, Value.float 0] [Value.int s0] (mj_hw w c hi hl) = if ¬ s0 = 0 then mj_den mj_P E d 238 33 [Value.ref 205, Value.int v1, Value.int v2, Value.int v3, Value.float 0, Value.float 0, Value.float 0, Value.float 0] [] (mj_hw w c hi hl) else mj_den mj_P E d 238 31 [Value.ref 205, Value.int v1, Value.int v2, Value.int v3, Value.float 0, Value.float 0, Value.float 0, Value.float 0] [] (mj_hw w c hi hl) := by
  rw [mj_den_eq, f238_28]
  exact zt_if_ne rfl rfl (zt_end rfl)
set_option maxRecDepth 100000 in
theorem g238_31 {E : mj_E} {d w c : Nat} {hi : Nat → Nat → Int32} {hl : Nat → Nat → Int64} (v1 : Int32) (v2 : Int32) (v3 : Int32) : mj_den mj_P E d 238 31 [Value.ref 205, Value.int v1, Value.int v2, Value.int v3, Value.float 0, Value.float 0, Value.float 0, Value.float 0] [] (mj_hw w c hi hl) = some (some (Value.int (-1 : Int32)), (mj_hw w c hi hl)) := by
  rw [mj_den_eq, f238_31]
  exact zt_iconst rfl (zt_ireturn0)
set_option maxRecDepth 100000 in
theorem g238_33 {E : mj_E} {d w c : Nat} {hi : Nat → Nat → Int32} {hl : Nat → Nat → Int64} (v1 : Int32) (v2 : Int32) (v3 : Int32) : mj_den mj_P E d 238 33 [Value.ref 205, Value.int v1, Value.int v2, Value.int v3, Value.float 0, Value.float 0, Value.float 0, Value.float 0] [] (mj_hw w c hi hl) = mj_den mj_P E d 238 42 [Value.ref 205, Value.int v1, Value.int v2, Value.int v3, Value.int (0 : Int32), Value.int (-1 : Int32), Value.int (0 : Int32), Value.float 0] [] (mj_hw w c hi hl) := by
  rw [mj_den_eq, f238_33]
  exact zt_iconst rfl (zt_istore (Nat.le_of_ble_eq_true rfl) rfl rfl (zt_iconst rfl (zt_istore (Nat.le_of_ble_eq_true rfl) rfl rfl (zt_iconst rfl (zt_istore (Nat.le_of_ble_eq_true rfl) rfl rfl (zt_end rfl))))))
set_option maxRecDepth 100000 in
theorem g238_42 {E : mj_E} {d w c : Nat} {hi : Nat → Nat → Int32} {hl : Nat → Nat → Int64} (v1 : Int32) (v2 : Int32) (v3 : Int32) (v4 : Int32) (v5 : Int32) (v6 : Int32) (u7 : Value) : mj_den mj_P E d 238 42 [Value.ref 205, Value.int v1, Value.int v2, Value.int v3, Value.int v4, Value.int v5, Value.int v6, u7] [] (mj_hw w c hi hl) = if (8 : Int32) ≤ v6 then mj_den mj_P E d 238 100 [Value.ref 205, Value.int v1, Value.int v2, Value.int v3, Value.int v4, Value.int v5, Value.int v6, u7] [] (mj_hw w c hi hl) else mj_bi (mj_dc mj_P E d 169 [Value.ref 205] (mj_hw w c hi hl)) (fun x1 h1 => mj_den mj_P E d 238 60 [Value.ref 205, Value.int v1, Value.int v2, Value.int v3, Value.int v4, Value.int v5, Value.int v6, u7] [Value.int x1, Value.ref 205, Value.int (0 : Int32), Value.int v6, Value.int v2, Value.int v1, Value.ref 205] h1) := by
  rw [mj_den_eq, f238_42]
  exact zt_iload rfl rfl (zt_bipush rfl (zt_icmp_ge rfl rfl (zt_aload_n rfl rfl (zt_iload_n rfl rfl (zt_iload_n rfl rfl (zt_iload rfl rfl (zt_iconst rfl (zt_aload_n rfl rfl (zt_aload_n rfl rfl (zt_call0_1 rfl (mjkd205 _ _ _ _) (Nat.le_of_ble_eq_true rfl) rfl rfl))))))))))
set_option maxRecDepth 100000 in
theorem g238_60 {E : mj_E} {d w c : Nat} {hi : Nat → Nat → Int32} {hl : Nat → Nat → Int64} (v1 : Int32) (v2 : Int32) (v3 : Int32) (v4 : Int32) (v5 : Int32) (v6 : Int32) (u7 : Value) (s0 : Int32) (s2 : Int32) (s3 : Int32) (s4 : Int32) (s5 : Int32) : mj_den mj_P E d 238 60 [Value.ref 205, Value.int v1, Value.int v2, Value.int v3, Value.int v4, Value.int v5, Value.int v6, u7] [Value.int s0, Value.ref 205, Value.int s2, Value.int s3, Value.int s4, Value.int s5, Value.ref 205] (mj_hw w c hi hl) = mj_bi (mj_dc mj_P E d 156 [Value.ref 205, Value.int s0] (mj_hw w c hi hl)) (fun x1 h1 => mj_den mj_P E d 238 63 [Value.ref 205, Value.int v1, Value.int v2, Value.int v3, Value.int v4, Value.int v5, Value.int v6, u7] [Value.int x1, Value.int s2, Value.int s3, Value.int s4, Value.int s5, Value.ref 205] h1) := by
  rw [mj_den_eq, f238_60]
  exact zt_call0_1 rfl (mjkd205 _ _ _ _) (Nat.le_of_ble_eq_true rfl) rfl rfl
set_option maxRecDepth 100000 in
theorem g238_63 {E : mj_E} {d w c : Nat} {hi : Nat → Nat → Int32} {hl : Nat → Nat → Int64} (v1 : Int32) (v2 : Int32) (v3 : Int32) (v4 : Int32) (v5 : Int32) (v6 : Int32) (u7 : Value) (s0 : Int32) (s1 : Int32) (s2 : Int32) (s3 : Int32) (s4 : Int32) : mj_den mj_P E d 238 63 [Value.ref 205, Value.int v1, Value.int v2, Value.int v3, Value.int v4, Value.int v5, Value.int v6, u7] [Value.int s0, Value.int s1, Value.int s2, Value.int s3, Value.int s4, Value.ref 205] (mj_hw w c hi hl) = mj_bi (mj_dc mj_P E d 216 [Value.ref 205, Value.int s4, Value.int s3, Value.int s2, Value.int s1, Value.int s0] (mj_hw w c hi hl)) (fun x1 h1 => mj_den mj_P E d 238 66 [Value.ref 205, Value.int v1, Value.int v2, Value.int v3, Value.int v4, Value.int v5, Value.int v6, u7] [Value.int x1] h1) := by
  rw [mj_den_eq, f238_63]
  exact zt_call0_1 rfl (mjkd205 _ _ _ _) (Nat.le_of_ble_eq_true rfl) rfl rfl
set_option maxRecDepth 100000 in
theorem g238_66 {E : mj_E} {d w c : Nat} {hi : Nat → Nat → Int32} {hl : Nat → Nat → Int64} (v1 : Int32) (v2 : Int32) (v3 : Int32) (v4 : Int32) (v5 : Int32) (v6 : Int32) (u7 : Value) (s0 : Int32) : mj_den mj_P E d 238 66 [Value.ref 205, Value.int v1, Value.int v2, Value.int v3, Value.int v4, Value.int v5, Value.int v6, u7] [Value.int s0] (mj_hw w c hi hl) = if s0 ≤ v5 then mj_den mj_P E d 238 80 [Value.ref 205, Value.int v1, Value.int v2, Value.int v3, Value.int v4, Value.int v5, Value.int v6, Value.int s0] [] (mj_hw w c hi hl) else mj_den mj_P E d 238 82 [Value.ref 205, Value.int v1, Value.int v2, Value.int v3, Value.int v4, Value.int v5, Value.int v6, Value.int s0] [Value.int v6] (mj_hw w c hi hl) := by
  rw [mj_den_eq, f238_66]
  exact zt_istore (Nat.le_of_ble_eq_true rfl) rfl rfl (zt_iload rfl rfl (zt_iload rfl rfl (zt_icmp_le rfl rfl (zt_iload rfl rfl (zt_goto rfl)))))
set_option maxRecDepth 100000 in
theorem g238_80 {E : mj_E} {d w c : Nat} {hi : Nat → Nat → Int32} {hl : Nat → Nat → Int64} (v1 : Int32) (v2 : Int32) (v3 : Int32) (v4 : Int32) (v5 : Int32) (v6 : Int32) (v7 : Int32) : mj_den mj_P E d 238 80 [Value.ref 205, Value.int v1, Value.int v2, Value.int v3, Value.int v4, Value.int v5, Value.int v6, Value.int v7] [] (mj_hw w c hi hl) = mj_den mj_P E d 238 82 [Value.ref 205, Value.int v1, Value.int v2, Value.int v3, Value.int v4, Value.int v5, Value.int v6, Value.int v7] [Value.int v4] (mj_hw w c hi hl) := by
  rw [mj_den_eq, f238_80]
  exact zt_iload rfl rfl (zt_end rfl)
set_option maxRecDepth 100000 in
theorem g238_82 {E : mj_E} {d w c : Nat} {hi : Nat → Nat → Int32} {hl : Nat → Nat → Int64} (v1 : Int32) (v2 : Int32) (v3 : Int32) (v4 : Int32) (v5 : Int32) (v6 : Int32) (v7 : Int32) (s0 : Int32) : mj_den mj_P E d 238 82 [Value.ref 205, Value.int v1, Value.int v2, Value.int v3, Value.int v4, Value.int v5, Value.int v6, Value.int v7] [Value.int s0] (mj_hw w c hi hl) = mj_bi (mj_dc mj_P E d 154 [Value.ref 205, Value.int v5, Value.int v7] (mj_hw w c hi hl)) (fun x1 h1 => mj_den mj_P E d 238 92 [Value.ref 205, Value.int v1, Value.int v2, Value.int v3, Value.int s0, Value.int v5, Value.int v6, Value.int v7] [Value.int x1] h1) := by
  rw [mj_den_eq, f238_82]
  exact zt_istore (Nat.le_of_ble_eq_true rfl) rfl rfl (zt_aload_n rfl rfl (zt_iload rfl rfl (zt_iload rfl rfl (zt_call0_1 rfl (mjkd205 _ _ _ _) (Nat.le_of_ble_eq_true rfl) rfl rfl))))
set_option maxRecDepth 100000 in
theorem g238_92 {E : mj_E} {d w c : Nat} {hi : Nat → Nat → Int32} {hl : Nat → Nat → Int64} (v1 : Int32) (v2 : Int32) (v3 : Int32) (v4 : Int32) (v5 : Int32) (v6 : Int32) (v7 : Int32) (s0 : Int32) : mj_den mj_P E d 238 92 [Value.ref 205, Value.int v1, Value.int v2, Value.int v3, Value.int v4, Value.int v5, Value.int v6, Value.int v7] [Value.int s0] (mj_hw w c hi hl) = mj_den mj_P E d 238 42 [Value.ref 205, Value.int v1, Value.int v2, Value.int v3, Value.int v4, Value.int s0, Value.int (v6 + (1 : Int32)), Value.int v7] [] (mj_hw w c hi hl) := by
  rw [mj_den_eq, f238_92]
  exact zt_istore (Nat.le_of_ble_eq_true rfl) rfl rfl (zt_iinc rfl (Nat.le_of_ble_eq_true rfl) rfl rfl (zt_goto rfl))
set_option maxRecDepth 100000 in
theorem g238_100 {E : mj_E} {d w c : Nat} {hi : Nat → Nat → Int32} {hl : Nat → Nat → Int64} (v1 : Int32) (v2 : Int32) (v3 : Int32) (v4 : Int32) (v5 : Int32) (v6 : Int32) (u7 : Value) : mj_den mj_P E d 238 100 [Value.ref 205, Value.int v1, Value.int v2, Value.int v3, Value.int v4, Value.int v5, Value.int v6, u7] [] (mj_hw w c hi hl) = if ¬ v3 = 0 then mj_den mj_P E d 238 109 [Value.ref 205, Value.int v1, Value.int v2, Value.int v3, Value.int v4, Value.int v5, Value.int v6, u7] [] (mj_hw w c hi hl) else mj_den mj_P E d 238 111 [Value.ref 205, Value.int v1, Value.int v2, Value.int v3, Value.int v4, Value.int v5, Value.int v6, u7] [Value.int v4] (mj_hw w c hi hl) := by
  rw [mj_den_eq, f238_100]
  exact zt_iload_n rfl rfl (zt_if_ne rfl rfl (zt_iload rfl rfl (zt_goto rfl)))
set_option maxRecDepth 100000 in
theorem g238_109 {E : mj_E} {d w c : Nat} {hi : Nat → Nat → Int32} {hl : Nat → Nat → Int64} (v1 : Int32) (v2 : Int32) (v3 : Int32) (v4 : Int32) (v5 : Int32) (v6 : Int32) (u7 : Value) : mj_den mj_P E d 238 109 [Value.ref 205, Value.int v1, Value.int v2, Value.int v3, Value.int v4, Value.int v5, Value.int v6, u7] [] (mj_hw w c hi hl) = mj_den mj_P E d 238 111 [Value.ref 205, Value.int v1, Value.int v2, Value.int v3, Value.int v4, Value.int v5, Value.int v6, u7] [Value.int v5] (mj_hw w c hi hl) := by
  rw [mj_den_eq, f238_109]
  exact zt_iload rfl rfl (zt_end rfl)
set_option maxRecDepth 100000 in
theorem g238_111 {E : mj_E} {d w c : Nat} {hi : Nat → Nat → Int32} {hl : Nat → Nat → Int64} (v1 : Int32) (v2 : Int32) (v3 : Int32) (v4 : Int32) (v5 : Int32) (v6 : Int32) (u7 : Value) (s0 : Int32) : mj_den mj_P E d 238 111 [Value.ref 205, Value.int v1, Value.int v2, Value.int v3, Value.int v4, Value.int v5, Value.int v6, u7] [Value.int s0] (mj_hw w c hi hl) = some (some (Value.int s0), (mj_hw w c hi hl)) := by
  rw [mj_den_eq, f238_111]
  exact zt_ireturn0
theorem xg238 (E : mj_E) (d : Nat) (a1 : Int32) (a2 : Int32) (a3 : Int32) (h : mj_H) : mj_dc mj_P E (d + 1) 238 [Value.ref 205, Value.int a1, Value.int a2, Value.int a3] h = mj_den mj_P E d 238 0 [Value.ref 205, Value.int a1, Value.int a2, Value.int a3, Value.float 0, Value.float 0, Value.float 0, Value.float 0] [] h := mj_dc_eq mj_P E d 238 [Value.ref 205, Value.int a1, Value.int a2, Value.int a3] h (Nat.le_of_ble_eq_true rfl)
set_option maxRecDepth 100000 in
theorem g239_0 {E : mj_E} {d w c : Nat} {hi : Nat → Nat → Int32} {hl : Nat → Nat → Int64} (v1 : Int32) (v2 : Int32) : mj_den mj_P E d 239 0 [Value.ref 205, Value.int v1, Value.int v2, Value.float 0, Value.float 0, Value.float 0] [] (mj_hw w c hi hl) = mj_den mj_P E d 239 5 [Value.ref 205, Value.int v1, Value.int v2, Value.int v1, Value.int (-1 : Int32), Value.float 0] [] (mj_hw w c hi hl) := by
  rw [mj_den_eq, f239_0]
  exact zt_iload_n rfl rfl (zt_istore_n (Nat.le_of_ble_eq_true rfl) rfl rfl (zt_iconst rfl (zt_istore (Nat.le_of_ble_eq_true rfl) rfl rfl (zt_end rfl))))
set_option maxRecDepth 100000 in
theorem g239_5 {E : mj_E} {d w c : Nat} {hi : Nat → Nat → Int32} {hl : Nat → Nat → Int64} (v1 : Int32) (v2 : Int32) (v3 : Int32) (v4 : Int32) (u5 : Value) : mj_den mj_P E d 239 5 [Value.ref 205, Value.int v1, Value.int v2, Value.int v3, Value.int v4, u5] [] (mj_hw w c hi hl) = if v4 = v3 then mj_den mj_P E d 239 58 [Value.ref 205, Value.int v1, Value.int v2, Value.int v3, Value.int v4, u5] [] (mj_hw w c hi hl) else mj_den mj_P E d 239 17 [Value.ref 205, Value.int v1, Value.int v2, Value.int v3, Value.int v3, Value.int (0 : Int32)] [] (mj_hw w c hi hl) := by
  rw [mj_den_eq, f239_5]
  exact zt_iload rfl rfl (zt_iload_n rfl rfl (zt_icmp_eq rfl rfl (zt_iload_n rfl rfl (zt_istore (Nat.le_of_ble_eq_true rfl) rfl rfl (zt_iconst rfl (zt_istore (Nat.le_of_ble_eq_true rfl) rfl rfl (zt_end rfl)))))))
set_option maxRecDepth 100000 in
theorem g239_17 {E : mj_E} {d w c : Nat} {hi : Nat → Nat → Int32} {hl : Nat → Nat → Int64} (v1 : Int32) (v2 : Int32) (v3 : Int32) (v4 : Int32) (v5 : Int32) : mj_den mj_P E d 239 17 [Value.ref 205, Value.int v1, Value.int v2, Value.int v3, Value.int v4, Value.int v5] [] (mj_hw w c hi hl) = if (hi 205 6) ≤ v5 then mj_den mj_P E d 239 55 [Value.ref 205, Value.int v1, Value.int v2, Value.int v3, Value.int v4, Value.int v5] [] (mj_hw w c hi hl) else mj_bi (mj_dc mj_P E d 157 [Value.ref 205, Value.int v4, Value.int v5] (mj_hw w c hi hl)) (fun x1 h1 => mj_den mj_P E d 239 34 [Value.ref 205, Value.int v1, Value.int v2, Value.int v3, Value.int v4, Value.int v5] [Value.int x1] h1) := by
  rw [mj_den_eq, f239_17]
  exact zt_iload rfl rfl (zt_aload_n rfl rfl (zt_geti (mjkd205 _ _ _ _) rfl rfl (zt_icmp_ge rfl rfl (zt_aload_n rfl rfl (zt_iload rfl rfl (zt_iload rfl rfl (zt_call0_1 rfl (mjkd205 _ _ _ _) (Nat.le_of_ble_eq_true rfl) rfl rfl)))))))
set_option maxRecDepth 100000 in
theorem g239_34 {E : mj_E} {d w c : Nat} {hi : Nat → Nat → Int32} {hl : Nat → Nat → Int64} (v1 : Int32) (v2 : Int32) (v3 : Int32) (v4 : Int32) (v5 : Int32) (s0 : Int32) : mj_den mj_P E d 239 34 [Value.ref 205, Value.int v1, Value.int v2, Value.int v3, Value.int v4, Value.int v5] [Value.int s0] (mj_hw w c hi hl) = if s0 = 0 then mj_den mj_P E d 239 49 [Value.ref 205, Value.int v1, Value.int v2, Value.int v3, Value.int v4, Value.int v5] [] (mj_hw w c hi hl) else if 0 ≤ v5 ∧ (v5).toNatClampNeg < 20 then mj_den mj_P E d 239 49 [Value.ref 205, Value.int v1, Value.int v2, Value.int (v3 ||| ((hi 225 ((v5).toNatClampNeg)) &&& v2)), Value.int v4, Value.int v5] [] (mj_hw w c hi hl) else none := by
  rw [mj_den_eq, f239_34]
  exact zt_if_eq rfl rfl (zt_iload_n rfl rfl (zt_aload_n rfl rfl (zt_getr (mjkd205 _ _ _ _) (mjhr205_39 w c) rfl (zt_iload rfl rfl (zt_iald (mjkd225 _ _ _ _) (mjln225 _ _ _ _) rfl rfl (zt_iload_n rfl rfl (zt_iand rfl (zt_ior rfl (zt_istore_n (Nat.le_of_ble_eq_true rfl) rfl rfl (zt_end rfl))))))))))
set_option maxRecDepth 100000 in
theorem g239_49 {E : mj_E} {d w c : Nat} {hi : Nat → Nat → Int32} {hl : Nat → Nat → Int64} (v1 : Int32) (v2 : Int32) (v3 : Int32) (v4 : Int32) (v5 : Int32) : mj_den mj_P E d 239 49 [Value.ref 205, Value.int v1, Value.int v2, Value.int v3, Value.int v4, Value.int v5] [] (mj_hw w c hi hl) = mj_den mj_P E d 239 17 [Value.ref 205, Value.int v1, Value.int v2, Value.int v3, Value.int v4, Value.int (v5 + (1 : Int32))] [] (mj_hw w c hi hl) := by
  rw [mj_den_eq, f239_49]
  exact zt_iinc rfl (Nat.le_of_ble_eq_true rfl) rfl rfl (zt_goto rfl)
set_option maxRecDepth 100000 in
theorem g239_55 {E : mj_E} {d w c : Nat} {hi : Nat → Nat → Int32} {hl : Nat → Nat → Int64} (v1 : Int32) (v2 : Int32) (v3 : Int32) (v4 : Int32) (v5 : Int32) : mj_den mj_P E d 239 55 [Value.ref 205, Value.int v1, Value.int v2, Value.int v3, Value.int v4, Value.int v5] [] (mj_hw w c hi hl) = mj_den mj_P E d 239 5 [Value.ref 205, Value.int v1, Value.int v2, Value.int v3, Value.int v4, Value.int v5] [] (mj_hw w c hi hl) := by
  rw [mj_den_eq, f239_55]
  exact zt_goto rfl
set_option maxRecDepth 100000 in
theorem g239_58 {E : mj_E} {d w c : Nat} {hi : Nat → Nat → Int32} {hl : Nat → Nat → Int64} (v1 : Int32) (v2 : Int32) (v3 : Int32) (v4 : Int32) (u5 : Value) : mj_den mj_P E d 239 58 [Value.ref 205, Value.int v1, Value.int v2, Value.int v3, Value.int v4, u5] [] (mj_hw w c hi hl) = some (some (Value.int v3), (mj_hw w c hi hl)) := by
  rw [mj_den_eq, f239_58]
  exact zt_iload_n rfl rfl (zt_ireturn0)
theorem xg239 (E : mj_E) (d : Nat) (a1 : Int32) (a2 : Int32) (h : mj_H) : mj_dc mj_P E (d + 1) 239 [Value.ref 205, Value.int a1, Value.int a2] h = mj_den mj_P E d 239 0 [Value.ref 205, Value.int a1, Value.int a2, Value.float 0, Value.float 0, Value.float 0] [] h := mj_dc_eq mj_P E d 239 [Value.ref 205, Value.int a1, Value.int a2] h (Nat.le_of_ble_eq_true rfl)
set_option maxRecDepth 100000 in
theorem g244_0 {E : mj_E} {d w c : Nat} {hi : Nat → Nat → Int32} {hl : Nat → Nat → Int64} (v1 : Int32) : mj_den mj_P E d 244 0 [Value.ref 205, Value.int v1, Value.float 0, Value.float 0] [] (mj_hw w c hi hl) = mj_den mj_P E d 244 2 [Value.ref 205, Value.int v1, Value.int v1, Value.float 0] [] (mj_hw w c hi hl) := by
  rw [mj_den_eq, f244_0]
  exact zt_iload_n rfl rfl (zt_istore_n (Nat.le_of_ble_eq_true rfl) rfl rfl (zt_end rfl))
set_option maxRecDepth 100000 in
theorem g244_2 {E : mj_E} {d w c : Nat} {hi : Nat → Nat → Int32} {hl : Nat → Nat → Int64} (v1 : Int32) (v2 : Int32) (u3 : Value) : mj_den mj_P E d 244 2 [Value.ref 205, Value.int v1, Value.int v2, u3] [] (mj_hw w c hi hl) = if v2 ≤ 0 then mj_den mj_P E d 244 66 [Value.ref 205, Value.int v1, Value.int v2, u3] [] (mj_hw w c hi hl) else if (v2 &&& (v1 ^^^ (-1 : Int32))) = 0 then mj_den mj_P E d 244 17 [Value.ref 205, Value.int v1, Value.int v2, u3] [] (mj_hw w c hi hl) else mj_den mj_P E d 244 60 [Value.ref 205, Value.int v1, Value.int v2, u3] [] (mj_hw w c hi hl) := by
  rw [mj_den_eq, f244_2]
  exact zt_iload_n rfl rfl (zt_if_le rfl rfl (zt_iload_n rfl rfl (zt_iload_n rfl rfl (zt_iconst rfl (zt_ixor rfl (zt_iand rfl (zt_if_eq rfl rfl (zt_goto rfl))))))))
set_option maxRecDepth 100000 in
theorem g244_17 {E : mj_E} {d w c : Nat} {hi : Nat → Nat → Int32} {hl : Nat → Nat → Int64} (v1 : Int32) (v2 : Int32) (u3 : Value) : mj_den mj_P E d 244 17 [Value.ref 205, Value.int v1, Value.int v2, u3] [] (mj_hw w c hi hl) = mj_den mj_P E d 244 19 [Value.ref 205, Value.int v1, Value.int v2, Value.int (0 : Int32)] [] (mj_hw w c hi hl) := by
  rw [mj_den_eq, f244_17]
  exact zt_iconst rfl (zt_istore_n (Nat.le_of_ble_eq_true rfl) rfl rfl (zt_end rfl))
set_option maxRecDepth 100000 in
theorem g244_19 {E : mj_E} {d w c : Nat} {hi : Nat → Nat → Int32} {hl : Nat → Nat → Int64} (v1 : Int32) (v2 : Int32) (v3 : Int32) : mj_den mj_P E d 244 19 [Value.ref 205, Value.int v1, Value.int v2, Value.int v3] [] (mj_hw w c hi hl) = if (hi 205 6) ≤ v3 then mj_den mj_P E d 244 60 [Value.ref 205, Value.int v1, Value.int v2, Value.int v3] [] (mj_hw w c hi hl) else mj_bi (mj_dc mj_P E d 157 [Value.ref 205, Value.int v2, Value.int v3] (mj_hw w c hi hl)) (fun x1 h1 => mj_den mj_P E d 244 33 [Value.ref 205, Value.int v1, Value.int v2, Value.int v3] [Value.int x1] h1) := by
  rw [mj_den_eq, f244_19]
  exact zt_iload_n rfl rfl (zt_aload_n rfl rfl (zt_geti (mjkd205 _ _ _ _) rfl rfl (zt_icmp_ge rfl rfl (zt_aload_n rfl rfl (zt_iload_n rfl rfl (zt_iload_n rfl rfl (zt_call0_1 rfl (mjkd205 _ _ _ _) (Nat.le_of_ble_eq_true rfl) rfl rfl)))))))
set_option maxRecDepth 100000 in
theorem g244_33 {E : mj_E} {d w c : Nat} {hi : Nat → Nat → Int32} {hl : Nat → Nat → Int64} (v1 : Int32) (v2 : Int32) (v3 : Int32) (s0 : Int32) : mj_den mj_P E d 244 33 [Value.ref 205, Value.int v1, Value.int v2, Value.int v3] [Value.int s0] (mj_hw w c hi hl) = if s0 = 0 then mj_den mj_P E d 244 54 [Value.ref 205, Value.int v1, Value.int v2, Value.int v3] [] (mj_hw w c hi hl) else mj_bi (mj_dc mj_P E d 243 [Value.ref 205, Value.int v2, Value.int v3, Value.int v1] (mj_hw w c hi hl)) (fun x1 h1 => mj_den mj_P E d 244 53 [Value.ref 205, Value.int v1, Value.int v2, Value.int v3] [Value.int x1, Value.int (((10 : Int32) * v2) + v3), Value.ref 229] h1) := by
  rw [mj_den_eq, f244_33]
  exact zt_if_eq rfl rfl (zt_aload_n rfl rfl (zt_getr (mjkd205 _ _ _ _) (mjhr205_47 w c) rfl (zt_bipush rfl (zt_iload_n rfl rfl (zt_imul rfl (zt_iload_n rfl rfl (zt_iadd rfl (zt_aload_n rfl rfl (zt_iload_n rfl rfl (zt_iload_n rfl rfl (zt_iload_n rfl rfl (zt_call0_1 rfl (mjkd205 _ _ _ _) (Nat.le_of_ble_eq_true rfl) rfl rfl))))))))))))
set_option maxRecDepth 100000 in
theorem g244_53 {E : mj_E} {d w c : Nat} {hi : Nat → Nat → Int32} {hl : Nat → Nat → Int64} (v1 : Int32) (v2 : Int32) (v3 : Int32) (s0 : Int32) (s1 : Int32) : mj_den mj_P E d 244 53 [Value.ref 205, Value.int v1, Value.int v2, Value.int v3] [Value.int s0, Value.int s1, Value.ref 229] (mj_hw w c hi hl) = if 0 ≤ s1 ∧ (s1).toNatClampNeg < 10240 then mj_den mj_P E d 244 54 [Value.ref 205, Value.int v1, Value.int v2, Value.int v3] [] (mj_hw w c (mj_u hi 229 ((s1).toNatClampNeg) s0) hl) else none := by
  rw [mj_den_eq, f244_53]
  exact zt_iast (mjkd229 _ _ _ _) (mjln229 _ _ _ _) rfl rfl (zt_end rfl)
set_option maxRecDepth 100000 in
theorem g244_54 {E : mj_E} {d w c : Nat} {hi : Nat → Nat → Int32} {hl : Nat → Nat → Int64} (v1 : Int32) (v2 : Int32) (v3 : Int32) : mj_den mj_P E d 244 54 [Value.ref 205, Value.int v1, Value.int v2, Value.int v3] [] (mj_hw w c hi hl) = mj_den mj_P E d 244 19 [Value.ref 205, Value.int v1, Value.int v2, Value.int (v3 + (1 : Int32))] [] (mj_hw w c hi hl) := by
  rw [mj_den_eq, f244_54]
  exact zt_iinc rfl (Nat.le_of_ble_eq_true rfl) rfl rfl (zt_goto rfl)
set_option maxRecDepth 100000 in
theorem g244_60 {E : mj_E} {d w c : Nat} {hi : Nat → Nat → Int32} {hl : Nat → Nat → Int64} (v1 : Int32) (v2 : Int32) (u3 : Value) : mj_den mj_P E d 244 60 [Value.ref 205, Value.int v1, Value.int v2, u3] [] (mj_hw w c hi hl) = mj_den mj_P E d 244 2 [Value.ref 205, Value.int v1, Value.int (v2 + (-1 : Int32)), u3] [] (mj_hw w c hi hl) := by
  rw [mj_den_eq, f244_60]
  exact zt_iinc rfl (Nat.le_of_ble_eq_true rfl) rfl rfl (zt_goto rfl)
set_option maxRecDepth 100000 in
theorem g244_66 {E : mj_E} {d w c : Nat} {hi : Nat → Nat → Int32} {hl : Nat → Nat → Int64} (v1 : Int32) (v2 : Int32) (u3 : Value) : mj_den mj_P E d 244 66 [Value.ref 205, Value.int v1, Value.int v2, u3] [] (mj_hw w c hi hl) = some (none, (mj_hw w c hi hl)) := by
  rw [mj_den_eq, f244_66]
  exact zt_return
theorem xg244 (E : mj_E) (d : Nat) (a1 : Int32) (h : mj_H) : mj_dc mj_P E (d + 1) 244 [Value.ref 205, Value.int a1] h = mj_den mj_P E d 244 0 [Value.ref 205, Value.int a1, Value.float 0, Value.float 0] [] h := mj_dc_eq mj_P E d 244 [Value.ref 205, Value.int a1] h (Nat.le_of_ble_eq_true rfl)
set_option maxRecDepth 100000 in
theorem g245_0 {E : mj_E} {d w c : Nat} {hi : Nat → Nat → Int32} {hl : Nat → Nat → Int64} (v1 : Int32) : mj_den mj_P E d 245 0 [Value.ref 205, Value.int v1, Value.float 0, Value.float 0, Value.float 0, Value.float 0, Value.float 0, Value.float 0] [] (mj_hw w c hi hl) = mj_bi (mj_dc mj_P E d 168 [Value.ref 205] (mj_hw w c (mj_u hi 205 0 (0 : Int32)) hl)) (fun x1 h1 => mj_den mj_P E d 245 9 [Value.ref 205, Value.int v1, Value.float 0, Value.float 0, Value.float 0, Value.float 0, Value.float 0, Value.float 0] [Value.int x1] h1) := by
  rw [mj_den_eq, f245_0]
  exact zt_aload_n rfl rfl (zt_iconst rfl (zt_puti (mjkd205 _ _ _ _) rfl rfl (zt_aload_n rfl rfl (zt_call0_1 rfl (mjkd205 _ _ _ _) (Nat.le_of_ble_eq_true rfl) rfl rfl))))
set_option maxRecDepth 100000 in
theorem g245_9 {E : mj_E} {d w c : Nat} {hi : Nat → Nat → Int32} {hl : Nat → Nat → Int64} (v1 : Int32) (s0 : Int32) : mj_den mj_P E d 245 9 [Value.ref 205, Value.int v1, Value.float 0, Value.float 0, Value.float 0, Value.float 0, Value.float 0, Value.float 0] [Value.int s0] (mj_hw w c hi hl) = mj_bi (mj_dc mj_P E d 156 [Value.ref 205, Value.int s0] (mj_hw w c hi hl)) (fun x1 h1 => mj_den mj_P E d 245 15 [Value.ref 205, Value.int v1, Value.int s0, Value.float 0, Value.float 0, Value.float 0, Value.float 0, Value.float 0] [Value.int x1] h1) := by
  rw [mj_den_eq, f245_9]
  exact zt_istore_n (Nat.le_of_ble_eq_true rfl) rfl rfl (zt_aload_n rfl rfl (zt_iload_n rfl rfl (zt_call0_1 rfl (mjkd205 _ _ _ _) (Nat.le_of_ble_eq_true rfl) rfl rfl)))
set_option maxRecDepth 100000 in
theorem g245_15 {E : mj_E} {d w c : Nat} {hi : Nat → Nat → Int32} {hl : Nat → Nat → Int64} (v1 : Int32) (v2 : Int32) (s0 : Int32) : mj_den mj_P E d 245 15 [Value.ref 205, Value.int v1, Value.int v2, Value.float 0, Value.float 0, Value.float 0, Value.float 0, Value.float 0] [Value.int s0] (mj_hw w c hi hl) = if (8 : Int32) < s0 then mj_den mj_P E d 245 42 [Value.ref 205, Value.int v1, Value.int v2, Value.float 0, Value.float 0, Value.float 0, Value.float 0, Value.float 0] [] (mj_hw w c hi hl) else if v1 = 0 then mj_den mj_P E d 245 44 [Value.ref 205, Value.int v1, Value.int v2, Value.float 0, Value.float 0, Value.float 0, Value.float 0, Value.float 0] [] (mj_hw w c hi hl) else mj_bi (mj_dc mj_P E d 156 [Value.ref 205, Value.int v2] (mj_hw w c hi hl)) (fun x1 h1 => mj_den mj_P E d 245 35 [Value.ref 205, Value.int v1, Value.int v2, Value.float 0, Value.float 0, Value.float 0, Value.float 0, Value.float 0] [Value.int x1, Value.int (9 : Int32), Value.int (10 : Int32), Value.int v1, Value.ref 205] h1) := by
  rw [mj_den_eq, f245_15]
  exact zt_bipush rfl (zt_icmp_gt rfl rfl (zt_iload_n rfl rfl (zt_if_eq rfl rfl (zt_aload_n rfl rfl (zt_iload_n rfl rfl (zt_bipush rfl (zt_bipush rfl (zt_aload_n rfl rfl (zt_iload_n rfl rfl (zt_call0_1 rfl (mjkd205 _ _ _ _) (Nat.le_of_ble_eq_true rfl) rfl rfl))))))))))
set_option maxRecDepth 100000 in
theorem g245_35 {E : mj_E} {d w c : Nat} {hi : Nat → Nat → Int32} {hl : Nat → Nat → Int64} (v1 : Int32) (v2 : Int32) (s0 : Int32) (s1 : Int32) (s2 : Int32) (s3 : Int32) : mj_den mj_P E d 245 35 [Value.ref 205, Value.int v1, Value.int v2, Value.float 0, Value.float 0, Value.float 0, Value.float 0, Value.float 0] [Value.int s0, Value.int s1, Value.int s2, Value.int s3, Value.ref 205] (mj_hw w c hi hl) = mj_bi (mj_dc mj_P E d 152 [Value.ref 205, Value.int s3, Value.int s2, Value.int (s1 + s0)] (mj_hw w c hi hl)) (fun x1 h1 => mj_den mj_P E d 245 39 [Value.ref 205, Value.int v1, Value.int v2, Value.float 0, Value.float 0, Value.float 0, Value.float 0, Value.float 0] [Value.int x1] h1) := by
  rw [mj_den_eq, f245_35]
  exact zt_iadd rfl (zt_call0_1 rfl (mjkd205 _ _ _ _) (Nat.le_of_ble_eq_true rfl) rfl rfl)
set_option maxRecDepth 100000 in
theorem g245_39 {E : mj_E} {d w c : Nat} {hi : Nat → Nat → Int32} {hl : Nat → Nat → Int64} (v1 : Int32) (v2 : Int32) (s0 : Int32) : mj_den mj_P E d 245 39 [Value.ref 205, Value.int v1, Value.int v2, Value.float 0, Value.float 0, Value.float 0, Value.float 0, Value.float 0] [Value.int s0] (mj_hw w c hi hl) = if ¬ s0 = 0 then mj_den mj_P E d 245 44 [Value.ref 205, Value.int v1, Value.int v2, Value.float 0, Value.float 0, Value.float 0, Value.float 0, Value.float 0] [] (mj_hw w c hi hl) else mj_den mj_P E d 245 42 [Value.ref 205, Value.int v1, Value.int v2, Value.float 0, Value.float 0, Value.float 0, Value.float 0, Value.float 0] [] (mj_hw w c hi hl) := by
  rw [mj_den_eq, f245_39]
  exact zt_if_ne rfl rfl (zt_end rfl)
set_option maxRecDepth 100000 in
theorem g245_42 {E : mj_E} {d w c : Nat} {hi : Nat → Nat → Int32} {hl : Nat → Nat → Int64} (v1 : Int32) (v2 : Int32) : mj_den mj_P E d 245 42 [Value.ref 205, Value.int v1, Value.int v2, Value.float 0, Value.float 0, Value.float 0, Value.float 0, Value.float 0] [] (mj_hw w c hi hl) = some (some (Value.int (-1 : Int32)), (mj_hw w c hi hl)) := by
  rw [mj_den_eq, f245_42]
  exact zt_iconst rfl (zt_ireturn0)
set_option maxRecDepth 100000 in
theorem g245_44 {E : mj_E} {d w c : Nat} {hi : Nat → Nat → Int32} {hl : Nat → Nat → Int64} (v1 : Int32) (v2 : Int32) : mj_den mj_P E d 245 44 [Value.ref 205, Value.int v1, Value.int v2, Value.float 0, Value.float 0, Value.float 0, Value.float 0, Value.float 0] [] (mj_hw w c hi hl) = mj_bv (mj_dc mj_P E d 244 [Value.ref 205, Value.int v2] (mj_hw w c hi hl)) (fun h1 => mj_den mj_P E d 245 49 [Value.ref 205, Value.int v1, Value.int v2, Value.float 0, Value.float 0, Value.float 0, Value.float 0, Value.float 0] [] h1) := by
  rw [mj_den_eq, f245_44]
  exact zt_aload_n rfl rfl (zt_iload_n rfl rfl (zt_call0_0 rfl (mjkd205 _ _ _ _) (Nat.le_of_ble_eq_true rfl) rfl rfl))
set_option maxRecDepth 100000 in
theorem g245_49 {E : mj_E} {d w c : Nat} {hi : Nat → Nat → Int32} {hl : Nat → Nat → Int64} (v1 : Int32) (v2 : Int32) : mj_den mj_P E d 245 49 [Value.ref 205, Value.int v1, Value.int v2, Value.float 0, Value.float 0, Value.float 0, Value.float 0, Value.float 0] [] (mj_hw w c hi hl) = mj_bi (mj_dc mj_P E d 243 [Value.ref 205, Value.int (0 : Int32), Value.int (-1 : Int32), Value.int v2] (mj_hw w c hi hl)) (fun x1 h1 => mj_den mj_P E d 245 56 [Value.ref 205, Value.int v1, Value.int v2, Value.float 0, Value.float 0, Value.float 0, Value.float 0, Value.float 0] [Value.int x1] h1) := by
  rw [mj_den_eq, f245_49]
  exact zt_aload_n rfl rfl (zt_iconst rfl (zt_iconst rfl (zt_iload_n rfl rfl (zt_call0_1 rfl (mjkd205 _ _ _ _) (Nat.le_of_ble_eq_true rfl) rfl rfl))))
set_option maxRecDepth 100000 in
theorem g245_56 {E : mj_E} {d w c : Nat} {hi : Nat → Nat → Int32} {hl : Nat → Nat → Int64} (v1 : Int32) (v2 : Int32) (s0 : Int32) : mj_den mj_P E d 245 56 [Value.ref 205, Value.int v1, Value.int v2, Value.float 0, Value.float 0, Value.float 0, Value.float 0, Value.float 0] [Value.int s0] (mj_hw w c hi hl) = if ¬ v1 = 0 then mj_den mj_P E d 245 63 [Value.ref 205, Value.int v1, Value.int v2, Value.int s0, Value.float 0, Value.float 0, Value.float 0, Value.float 0] [] (mj_hw w c hi hl) else some (some (Value.int s0), (mj_hw w c hi hl)) := by
  rw [mj_den_eq, f245_56]
  exact zt_istore_n (Nat.le_of_ble_eq_true rfl) rfl rfl (zt_iload_n rfl rfl (zt_if_ne rfl rfl (zt_iload_n rfl rfl (zt_ireturn0))))
set_option maxRecDepth 100000 in
theorem g245_63 {E : mj_E} {d w c : Nat} {hi : Nat → Nat → Int32} {hl : Nat → Nat → Int64} (v1 : Int32) (v2 : Int32) (v3 : Int32) : mj_den mj_P E d 245 63 [Value.ref 205, Value.int v1, Value.int v2, Value.int v3, Value.float 0, Value.float 0, Value.float 0, Value.float 0] [] (mj_hw w c hi hl) = mj_den mj_P E d 245 72 [Value.ref 205, Value.int v1, Value.int v2, Value.int v3, Value.int (0 : Int32), Value.int (-1 : Int32), Value.int (0 : Int32), Value.float 0] [] (mj_hw w c hi hl) := by
  rw [mj_den_eq, f245_63]
  exact zt_iconst rfl (zt_istore (Nat.le_of_ble_eq_true rfl) rfl rfl (zt_iconst rfl (zt_istore (Nat.le_of_ble_eq_true rfl) rfl rfl (zt_iconst rfl (zt_istore (Nat.le_of_ble_eq_true rfl) rfl rfl (zt_end rfl))))))
set_option maxRecDepth 100000 in
theorem g245_72 {E : mj_E} {d w c : Nat} {hi : Nat → Nat → Int32} {hl : Nat → Nat → Int64} (v1 : Int32) (v2 : Int32) (v3 : Int32) (v4 : Int32) (v5 : Int32) (v6 : Int32) (u7 : Value) : mj_den mj_P E d 245 72 [Value.ref 205, Value.int v1, Value.int v2, Value.int v3, Value.int v4, Value.int v5, Value.int v6, u7] [] (mj_hw w c hi hl) = if (v1 - (10 : Int32)) < v6 then mj_den mj_P E d 245 162 [Value.ref 205, Value.int v1, Value.int v2, Value.int v3, Value.int v4, Value.int v5, Value.int v6, u7] [] (mj_hw w c hi hl) else mj_den mj_P E d 245 84 [Value.ref 205, Value.int v1, Value.int v2, Value.int v3, Value.int v4, Value.int v5, Value.int v6, Value.int (0 : Int32)] [] (mj_hw w c hi hl) := by
  rw [mj_den_eq, f245_72]
  exact zt_iload rfl rfl (zt_iload_n rfl rfl (zt_bipush rfl (zt_isub rfl (zt_icmp_gt rfl rfl (zt_iconst rfl (zt_istore (Nat.le_of_ble_eq_true rfl) rfl rfl (zt_end rfl)))))))
set_option maxRecDepth 100000 in
theorem g245_84 {E : mj_E} {d w c : Nat} {hi : Nat → Nat → Int32} {hl : Nat → Nat → Int64} (v1 : Int32) (v2 : Int32) (v3 : Int32) (v4 : Int32) (v5 : Int32) (v6 : Int32) (v7 : Int32) : mj_den mj_P E d 245 84 [Value.ref 205, Value.int v1, Value.int v2, Value.int v3, Value.int v4, Value.int v5, Value.int v6, Value.int v7] [] (mj_hw w c hi hl) = mj_bi (mj_dc mj_P E d 157 [Value.ref 205, Value.int (v2 &&& (v4 ^^^ (-1 : Int32))), Value.int v7] (mj_hw w c hi hl)) (fun x1 h1 => mj_den mj_P E d 245 96 [Value.ref 205, Value.int v1, Value.int v2, Value.int v3, Value.int v4, Value.int v5, Value.int v6, Value.int v7] [Value.int x1] h1) := by
  rw [mj_den_eq, f245_84]
  exact zt_aload_n rfl rfl (zt_iload_n rfl rfl (zt_iload rfl rfl (zt_iconst rfl (zt_ixor rfl (zt_iand rfl (zt_iload rfl rfl (zt_call0_1 rfl (mjkd205 _ _ _ _) (Nat.le_of_ble_eq_true rfl) rfl rfl)))))))
set_option maxRecDepth 100000 in
theorem g245_96 {E : mj_E} {d w c : Nat} {hi : Nat → Nat → Int32} {hl : Nat → Nat → Int64} (v1 : Int32) (v2 : Int32) (v3 : Int32) (v4 : Int32) (v5 : Int32) (v6 : Int32) (v7 : Int32) (s0 : Int32) : mj_den mj_P E d 245 96 [Value.ref 205, Value.int v1, Value.int v2, Value.int v3, Value.int v4, Value.int v5, Value.int v6, Value.int v7] [Value.int s0] (mj_hw w c hi hl) = if s0 = 0 then mj_den mj_P E d 245 113 [Value.ref 205, Value.int v1, Value.int v2, Value.int v3, Value.int v4, Value.int v5, Value.int v6, Value.int v7] [] (mj_hw w c hi hl) else mj_bi (mj_dc mj_P E d 242 [Value.ref 205, Value.int v4, Value.int v5, Value.int v7] (mj_hw w c hi hl)) (fun x1 h1 => mj_den mj_P E d 245 109 [Value.ref 205, Value.int v1, Value.int v2, Value.int v3, Value.int v4, Value.int v5, Value.int v6, Value.int v7] [Value.int x1] h1) := by
  rw [mj_den_eq, f245_96]
  exact zt_if_eq rfl rfl (zt_aload_n rfl rfl (zt_iload rfl rfl (zt_iload rfl rfl (zt_iload rfl rfl (zt_call0_1 rfl (mjkd205 _ _ _ _) (Nat.le_of_ble_eq_true rfl) rfl rfl)))))
set_option maxRecDepth 100000 in
theorem g245_109 {E : mj_E} {d w c : Nat} {hi : Nat → Nat → Int32} {hl : Nat → Nat → Int64} (v1 : Int32) (v2 : Int32) (v3 : Int32) (v4 : Int32) (v5 : Int32) (v6 : Int32) (v7 : Int32) (s0 : Int32) : mj_den mj_P E d 245 109 [Value.ref 205, Value.int v1, Value.int v2, Value.int v3, Value.int v4, Value.int v5, Value.int v6, Value.int v7] [Value.int s0] (mj_hw w c hi hl) = if s0 = v3 then mj_den mj_P E d 245 122 [Value.ref 205, Value.int v1, Value.int v2, Value.int v3, Value.int v4, Value.int v5, Value.int v6, Value.int v7] [] (mj_hw w c hi hl) else mj_den mj_P E d 245 113 [Value.ref 205, Value.int v1, Value.int v2, Value.int v3, Value.int v4, Value.int v5, Value.int v6, Value.int v7] [] (mj_hw w c hi hl) := by
  rw [mj_den_eq, f245_109]
  exact zt_iload_n rfl rfl (zt_icmp_eq rfl rfl (zt_end rfl))
set_option maxRecDepth 100000 in
theorem g245_113 {E : mj_E} {d w c : Nat} {hi : Nat → Nat → Int32} {hl : Nat → Nat → Int64} (v1 : Int32) (v2 : Int32) (v3 : Int32) (v4 : Int32) (v5 : Int32) (v6 : Int32) (v7 : Int32) : mj_den mj_P E d 245 113 [Value.ref 205, Value.int v1, Value.int v2, Value.int v3, Value.int v4, Value.int v5, Value.int v6, Value.int v7] [] (mj_hw w c hi hl) = mj_den mj_P E d 245 84 [Value.ref 205, Value.int v1, Value.int v2, Value.int v3, Value.int v4, Value.int v5, Value.int v6, Value.int (v7 + (1 : Int32))] [] (mj_hw w c hi hl) := by
  rw [mj_den_eq, f245_113]
  exact zt_iload rfl rfl (zt_iconst rfl (zt_iadd rfl (zt_istore (Nat.le_of_ble_eq_true rfl) rfl rfl (zt_goto rfl))))
set_option maxRecDepth 100000 in
theorem g245_122 {E : mj_E} {d w c : Nat} {hi : Nat → Nat → Int32} {hl : Nat → Nat → Int64} (v1 : Int32) (v2 : Int32) (v3 : Int32) (v4 : Int32) (v5 : Int32) (v6 : Int32) (v7 : Int32) : mj_den mj_P E d 245 122 [Value.ref 205, Value.int v1, Value.int v2, Value.int v3, Value.int v4, Value.int v5, Value.int v6, Value.int v7] [] (mj_hw w c hi hl) = if ¬ v5 = (-1 : Int32) then mj_den mj_P E d 245 133 [Value.ref 205, Value.int v1, Value.int v2, Value.int v3, Value.int v4, Value.int v5, Value.int v6, Value.int v7] [Value.int v3] (mj_hw w c hi hl) else mj_den mj_P E d 245 141 [Value.ref 205, Value.int v1, Value.int v2, Value.int v3, Value.int v4, Value.int v5, Value.int v6, Value.int v7] [Value.int (0 : Int32), Value.int v3] (mj_hw w c hi hl) := by
  rw [mj_den_eq, f245_122]
  exact zt_iload_n rfl rfl (zt_iload rfl rfl (zt_iconst rfl (zt_icmp_ne rfl rfl (zt_iconst rfl (zt_goto rfl)))))
set_option maxRecDepth 100000 in
theorem g245_133 {E : mj_E} {d w c : Nat} {hi : Nat → Nat → Int32} {hl : Nat → Nat → Int64} (v1 : Int32) (v2 : Int32) (v3 : Int32) (v4 : Int32) (v5 : Int32) (v6 : Int32) (v7 : Int32) (s0 : Int32) : mj_den mj_P E d 245 133 [Value.ref 205, Value.int v1, Value.int v2, Value.int v3, Value.int v4, Value.int v5, Value.int v6, Value.int v7] [Value.int s0] (mj_hw w c hi hl) = mj_bi (mj_dc mj_P E d 241 [Value.ref 205, Value.int v5, Value.int v7] (mj_hw w c hi hl)) (fun x1 h1 => mj_den mj_P E d 245 141 [Value.ref 205, Value.int v1, Value.int v2, Value.int v3, Value.int v4, Value.int v5, Value.int v6, Value.int v7] [Value.int x1, Value.int s0] h1) := by
  rw [mj_den_eq, f245_133]
  exact zt_aload_n rfl rfl (zt_iload rfl rfl (zt_iload rfl rfl (zt_call0_1 rfl (mjkd205 _ _ _ _) (Nat.le_of_ble_eq_true rfl) rfl rfl)))
set_option maxRecDepth 100000 in
theorem g245_141 {E : mj_E} {d w c : Nat} {hi : Nat → Nat → Int32} {hl : Nat → Nat → Int64} (v1 : Int32) (v2 : Int32) (v3 : Int32) (v4 : Int32) (v5 : Int32) (v6 : Int32) (v7 : Int32) (s0 : Int32) (s1 : Int32) : mj_den mj_P E d 245 141 [Value.ref 205, Value.int v1, Value.int v2, Value.int v3, Value.int v4, Value.int v5, Value.int v6, Value.int v7] [Value.int s0, Value.int s1] (mj_hw w c hi hl) = mj_den mj_P E d 245 72 [Value.ref 205, Value.int v1, Value.int v2, Value.int (s1 - s0), Value.int (v4 ||| ((1 : Int32) <<< (v7 &&& 31))), Value.int v7, Value.int (v6 + (1 : Int32)), Value.int v7] [] (mj_hw w c hi hl) := by
  rw [mj_den_eq, f245_141]
  exact zt_isub rfl (zt_istore_n (Nat.le_of_ble_eq_true rfl) rfl rfl (zt_iload rfl rfl (zt_iconst rfl (zt_iload rfl rfl (zt_ishl rfl (zt_ior rfl (zt_istore (Nat.le_of_ble_eq_true rfl) rfl rfl (zt_iload rfl rfl (zt_istore (Nat.le_of_ble_eq_true rfl) rfl rfl (zt_iinc rfl (Nat.le_of_ble_eq_true rfl) rfl rfl (zt_goto rfl)))))))))))
set_option maxRecDepth 100000 in
theorem g245_162 {E : mj_E} {d w c : Nat} {hi : Nat → Nat → Int32} {hl : Nat → Nat → Int64} (v1 : Int32) (v2 : Int32) (v3 : Int32) (v4 : Int32) (v5 : Int32) (v6 : Int32) (u7 : Value) : mj_den mj_P E d 245 162 [Value.ref 205, Value.int v1, Value.int v2, Value.int v3, Value.int v4, Value.int v5, Value.int v6, u7] [] (mj_hw w c hi hl) = some (some (Value.int v5), (mj_hw w c hi hl)) := by
  rw [mj_den_eq, f245_162]
  exact zt_iload rfl rfl (zt_ireturn0)
theorem xg245 (E : mj_E) (d : Nat) (a1 : Int32) (h : mj_H) : mj_dc mj_P E (d + 1) 245 [Value.ref 205, Value.int a1] h = mj_den mj_P E d 245 0 [Value.ref 205, Value.int a1, Value.float 0, Value.float 0, Value.float 0, Value.float 0, Value.float 0, Value.float 0] [] h := mj_dc_eq mj_P E d 245 [Value.ref 205, Value.int a1] h (Nat.le_of_ble_eq_true rfl)
set_option maxRecDepth 100000 in
theorem g250_0 {E : mj_E} {d w c : Nat} {hi : Nat → Nat → Int32} {hl : Nat → Nat → Int64} (v1 : Int32) : mj_den mj_P E d 250 0 [Value.ref 205, Value.int v1, Value.float 0, Value.float 0, Value.float 0] [] (mj_hw w c hi hl) = mj_den mj_P E d 250 2 [Value.ref 205, Value.int v1, Value.int v1, Value.float 0, Value.float 0] [] (mj_hw w c hi hl) := by
  rw [mj_den_eq, f250_0]
  exact zt_iload_n rfl rfl (zt_istore_n (Nat.le_of_ble_eq_true rfl) rfl rfl (zt_end rfl))
set_option maxRecDepth 100000 in
theorem g250_2 {E : mj_E} {d w c : Nat} {hi : Nat → Nat → Int32} {hl : Nat → Nat → Int64} (v1 : Int32) (v2 : Int32) (u3 : Value) (u4 : Value) : mj_den mj_P E d 250 2 [Value.ref 205, Value.int v1, Value.int v2, u3, u4] [] (mj_hw w c hi hl) = if v2 < 0 then mj_den mj_P E d 250 87 [Value.ref 205, Value.int v1, Value.int v2, u3, u4] [] (mj_hw w c hi hl) else if (v2 &&& (v1 ^^^ (-1 : Int32))) = 0 then mj_den mj_P E d 250 17 [Value.ref 205, Value.int v1, Value.int v2, u3, u4] [] (mj_hw w c hi hl) else mj_den mj_P E d 250 81 [Value.ref 205, Value.int v1, Value.int v2, u3, u4] [] (mj_hw w c hi hl) := by
  rw [mj_den_eq, f250_2]
  exact zt_iload_n rfl rfl (zt_if_lt rfl rfl (zt_iload_n rfl rfl (zt_iload_n rfl rfl (zt_iconst rfl (zt_ixor rfl (zt_iand rfl (zt_if_eq rfl rfl (zt_goto rfl))))))))
set_option maxRecDepth 100000 in
theorem g250_17 {E : mj_E} {d w c : Nat} {hi : Nat → Nat → Int32} {hl : Nat → Nat → Int64} (v1 : Int32) (v2 : Int32) (u3 : Value) (u4 : Value) : mj_den mj_P E d 250 17 [Value.ref 205, Value.int v1, Value.int v2, u3, u4] [] (mj_hw w c hi hl) = if ¬ v2 = v1 then mj_den mj_P E d 250 26 [Value.ref 205, Value.int v1, Value.int v2, u3, u4] [] (mj_hw w c hi hl) else mj_den mj_P E d 250 29 [Value.ref 205, Value.int v1, Value.int v2, u3, u4] [Value.int (0 : Int32)] (mj_hw w c hi hl) := by
  rw [mj_den_eq, f250_17]
  exact zt_iload_n rfl rfl (zt_iload_n rfl rfl (zt_icmp_ne rfl rfl (zt_iconst rfl (zt_goto rfl))))
set_option maxRecDepth 100000 in
theorem g250_26 {E : mj_E} {d w c : Nat} {hi : Nat → Nat → Int32} {hl : Nat → Nat → Int64} (v1 : Int32) (v2 : Int32) (u3 : Value) (u4 : Value) : mj_den mj_P E d 250 26 [Value.ref 205, Value.int v1, Value.int v2, u3, u4] [] (mj_hw w c hi hl) = mj_den mj_P E d 250 29 [Value.ref 205, Value.int v1, Value.int v2, u3, u4] [Value.int (100000000 : Int32)] (mj_hw w c hi hl) := by
  rw [mj_den_eq, f250_26]
  exact zt_ldc_w rfl (zt_end rfl)
set_option maxRecDepth 100000 in
theorem g250_29 {E : mj_E} {d w c : Nat} {hi : Nat → Nat → Int32} {hl : Nat → Nat → Int64} (v1 : Int32) (v2 : Int32) (u3 : Value) (u4 : Value) (s0 : Int32) : mj_den mj_P E d 250 29 [Value.ref 205, Value.int v1, Value.int v2, u3, u4] [Value.int s0] (mj_hw w c hi hl) = mj_den mj_P E d 250 33 [Value.ref 205, Value.int v1, Value.int v2, Value.int s0, Value.int (0 : Int32)] [] (mj_hw w c hi hl) := by
  rw [mj_den_eq, f250_29]
  exact zt_istore_n (Nat.le_of_ble_eq_true rfl) rfl rfl (zt_iconst rfl (zt_istore (Nat.le_of_ble_eq_true rfl) rfl rfl (zt_end rfl)))
set_option maxRecDepth 100000 in
theorem g250_33 {E : mj_E} {d w c : Nat} {hi : Nat → Nat → Int32} {hl : Nat → Nat → Int64} (v1 : Int32) (v2 : Int32) (v3 : Int32) (v4 : Int32) : mj_den mj_P E d 250 33 [Value.ref 205, Value.int v1, Value.int v2, Value.int v3, Value.int v4] [] (mj_hw w c hi hl) = if (10 : Int32) ≤ v4 then mj_den mj_P E d 250 74 [Value.ref 205, Value.int v1, Value.int v2, Value.int v3, Value.int v4] [] (mj_hw w c hi hl) else mj_bi (mj_dc mj_P E d 157 [Value.ref 205, Value.int (v1 &&& (v2 ^^^ (-1 : Int32))), Value.int v4] (mj_hw w c hi hl)) (fun x1 h1 => mj_den mj_P E d 250 51 [Value.ref 205, Value.int v1, Value.int v2, Value.int v3, Value.int v4] [Value.int x1] h1) := by
  rw [mj_den_eq, f250_33]
  exact zt_iload rfl rfl (zt_bipush rfl (zt_icmp_ge rfl rfl (zt_aload_n rfl rfl (zt_iload_n rfl rfl (zt_iload_n rfl rfl (zt_iconst rfl (zt_ixor rfl (zt_iand rfl (zt_iload rfl rfl (zt_call0_1 rfl (mjkd205 _ _ _ _) (Nat.le_of_ble_eq_true rfl) rfl rfl))))))))))
set_option maxRecDepth 100000 in
theorem g250_51 {E : mj_E} {d w c : Nat} {hi : Nat → Nat → Int32} {hl : Nat → Nat → Int64} (v1 : Int32) (v2 : Int32) (v3 : Int32) (v4 : Int32) (s0 : Int32) : mj_den mj_P E d 250 51 [Value.ref 205, Value.int v1, Value.int v2, Value.int v3, Value.int v4] [Value.int s0] (mj_hw w c hi hl) = if s0 = 0 then mj_den mj_P E d 250 68 [Value.ref 205, Value.int v1, Value.int v2, Value.int v3, Value.int v4] [] (mj_hw w c hi hl) else mj_bi (mj_dc mj_P E d 249 [Value.ref 205, Value.int v2, Value.int v4, Value.int v1] (mj_hw w c hi hl)) (fun x1 h1 => mj_den mj_P E d 250 64 [Value.ref 205, Value.int v1, Value.int v2, Value.int v3, Value.int v4] [Value.int x1, Value.int v3, Value.ref 205] h1) := by
  rw [mj_den_eq, f250_51]
  exact zt_if_eq rfl rfl (zt_aload_n rfl rfl (zt_iload_n rfl rfl (zt_aload_n rfl rfl (zt_iload_n rfl rfl (zt_iload rfl rfl (zt_iload_n rfl rfl (zt_call0_1 rfl (mjkd205 _ _ _ _) (Nat.le_of_ble_eq_true rfl) rfl rfl)))))))
set_option maxRecDepth 100000 in
theorem g250_64 {E : mj_E} {d w c : Nat} {hi : Nat → Nat → Int32} {hl : Nat → Nat → Int64} (v1 : Int32) (v2 : Int32) (v3 : Int32) (v4 : Int32) (s0 : Int32) (s1 : Int32) : mj_den mj_P E d 250 64 [Value.ref 205, Value.int v1, Value.int v2, Value.int v3, Value.int v4] [Value.int s0, Value.int s1, Value.ref 205] (mj_hw w c hi hl) = mj_bi (mj_dc mj_P E d 155 [Value.ref 205, Value.int s1, Value.int s0] (mj_hw w c hi hl)) (fun x1 h1 => mj_den mj_P E d 250 67 [Value.ref 205, Value.int v1, Value.int v2, Value.int v3, Value.int v4] [Value.int x1] h1) := by
  rw [mj_den_eq, f250_64]
  exact zt_call0_1 rfl (mjkd205 _ _ _ _) (Nat.le_of_ble_eq_true rfl) rfl rfl
set_option maxRecDepth 100000 in
theorem g250_67 {E : mj_E} {d w c : Nat} {hi : Nat → Nat → Int32} {hl : Nat → Nat → Int64} (v1 : Int32) (v2 : Int32) (v3 : Int32) (v4 : Int32) (s0 : Int32) : mj_den mj_P E d 250 67 [Value.ref 205, Value.int v1, Value.int v2, Value.int v3, Value.int v4] [Value.int s0] (mj_hw w c hi hl) = mj_den mj_P E d 250 68 [Value.ref 205, Value.int v1, Value.int v2, Value.int s0, Value.int v4] [] (mj_hw w c hi hl) := by
  rw [mj_den_eq, f250_67]
  exact zt_istore_n (Nat.le_of_ble_eq_true rfl) rfl rfl (zt_end rfl)
set_option maxRecDepth 100000 in
theorem g250_68 {E : mj_E} {d w c : Nat} {hi : Nat → Nat → Int32} {hl : Nat → Nat → Int64} (v1 : Int32) (v2 : Int32) (v3 : Int32) (v4 : Int32) : mj_den mj_P E d 250 68 [Value.ref 205, Value.int v1, Value.int v2, Value.int v3, Value.int v4] [] (mj_hw w c hi hl) = mj_den mj_P E d 250 33 [Value.ref 205, Value.int v1, Value.int v2, Value.int v3, Value.int (v4 + (1 : Int32))] [] (mj_hw w c hi hl) := by
  rw [mj_den_eq, f250_68]
  exact zt_iinc rfl (Nat.le_of_ble_eq_true rfl) rfl rfl (zt_goto rfl)
set_option maxRecDepth 100000 in
theorem g250_74 {E : mj_E} {d w c : Nat} {hi : Nat → Nat → Int32} {hl : Nat → Nat → Int64} (v1 : Int32) (v2 : Int32) (v3 : Int32) (v4 : Int32) : mj_den mj_P E d 250 74 [Value.ref 205, Value.int v1, Value.int v2, Value.int v3, Value.int v4] [] (mj_hw w c hi hl) = if 0 ≤ v2 ∧ (v2).toNatClampNeg < 1024 then mj_den mj_P E d 250 81 [Value.ref 205, Value.int v1, Value.int v2, Value.int v3, Value.int v4] [] (mj_hw w c (mj_u hi 231 ((v2).toNatClampNeg) v3) hl) else none := by
  rw [mj_den_eq, f250_74]
  exact zt_aload_n rfl rfl (zt_getr (mjkd205 _ _ _ _) (mjhr205_50 w c) rfl (zt_iload_n rfl rfl (zt_iload_n rfl rfl (zt_iast (mjkd231 _ _ _ _) (mjln231 _ _ _ _) rfl rfl (zt_end rfl)))))
set_option maxRecDepth 100000 in
theorem g250_81 {E : mj_E} {d w c : Nat} {hi : Nat → Nat → Int32} {hl : Nat → Nat → Int64} (v1 : Int32) (v2 : Int32) (u3 : Value) (u4 : Value) : mj_den mj_P E d 250 81 [Value.ref 205, Value.int v1, Value.int v2, u3, u4] [] (mj_hw w c hi hl) = mj_den mj_P E d 250 2 [Value.ref 205, Value.int v1, Value.int (v2 + (-1 : Int32)), u3, u4] [] (mj_hw w c hi hl) := by
  rw [mj_den_eq, f250_81]
  exact zt_iinc rfl (Nat.le_of_ble_eq_true rfl) rfl rfl (zt_goto rfl)
set_option maxRecDepth 100000 in
theorem g250_87 {E : mj_E} {d w c : Nat} {hi : Nat → Nat → Int32} {hl : Nat → Nat → Int64} (v1 : Int32) (v2 : Int32) (u3 : Value) (u4 : Value) : mj_den mj_P E d 250 87 [Value.ref 205, Value.int v1, Value.int v2, u3, u4] [] (mj_hw w c hi hl) = some (none, (mj_hw w c hi hl)) := by
  rw [mj_den_eq, f250_87]
  exact zt_return
theorem xg250 (E : mj_E) (d : Nat) (a1 : Int32) (h : mj_H) : mj_dc mj_P E (d + 1) 250 [Value.ref 205, Value.int a1] h = mj_den mj_P E d 250 0 [Value.ref 205, Value.int a1, Value.float 0, Value.float 0, Value.float 0] [] h := mj_dc_eq mj_P E d 250 [Value.ref 205, Value.int a1] h (Nat.le_of_ble_eq_true rfl)
set_option maxRecDepth 100000 in
theorem g269_0 {E : mj_E} {d w c : Nat} {hi : Nat → Nat → Int32} {hl : Nat → Nat → Int64} (v1 : Int32) : mj_den mj_P E d 269 0 [Value.ref 205, Value.int v1, Value.float 0, Value.float 0, Value.float 0] [] (mj_hw w c hi hl) = mj_den mj_P E d 269 4 [Value.ref 205, Value.int v1, Value.int (0 : Int32), Value.int (0 : Int32), Value.float 0] [] (mj_hw w c hi hl) := by
  rw [mj_den_eq, f269_0]
  exact zt_iconst rfl (zt_istore_n (Nat.le_of_ble_eq_true rfl) rfl rfl (zt_iconst rfl (zt_istore_n (Nat.le_of_ble_eq_true rfl) rfl rfl (zt_end rfl))))
set_option maxRecDepth 100000 in
theorem g269_4 {E : mj_E} {d w c : Nat} {hi : Nat → Nat → Int32} {hl : Nat → Nat → Int64} (v1 : Int32) (v2 : Int32) (v3 : Int32) (u4 : Value) : mj_den mj_P E d 269 4 [Value.ref 205, Value.int v1, Value.int v2, Value.int v3, u4] [] (mj_hw w c hi hl) = if (hi 205 6) ≤ v3 then mj_den mj_P E d 269 53 [Value.ref 205, Value.int v1, Value.int v2, Value.int v3, u4] [] (mj_hw w c hi hl) else mj_den mj_P E d 269 17 [Value.ref 205, Value.int v1, Value.int v2, Value.int v3, Value.int (v3 + (1 : Int32))] [] (mj_hw w c hi hl) := by
  rw [mj_den_eq, f269_4]
  exact zt_iload_n rfl rfl (zt_aload_n rfl rfl (zt_geti (mjkd205 _ _ _ _) rfl rfl (zt_icmp_ge rfl rfl (zt_iload_n rfl rfl (zt_iconst rfl (zt_iadd rfl (zt_istore (Nat.le_of_ble_eq_true rfl) rfl rfl (zt_end rfl))))))))
set_option maxRecDepth 100000 in
theorem g269_17 {E : mj_E} {d w c : Nat} {hi : Nat → Nat → Int32} {hl : Nat → Nat → Int64} (v1 : Int32) (v2 : Int32) (v3 : Int32) (v4 : Int32) : mj_den mj_P E d 269 17 [Value.ref 205, Value.int v1, Value.int v2, Value.int v3, Value.int v4] [] (mj_hw w c hi hl) = if (hi 205 6) ≤ v4 then mj_den mj_P E d 269 47 [Value.ref 205, Value.int v1, Value.int v2, Value.int v3, Value.int v4] [] (mj_hw w c hi hl) else mj_bi (mj_dc mj_P E d 268 [Value.ref 205, Value.int v3, Value.int v4, Value.int v1] (mj_hw w c hi hl)) (fun x1 h1 => mj_den mj_P E d 269 34 [Value.ref 205, Value.int v1, Value.int v2, Value.int v3, Value.int v4] [Value.int x1] h1) := by
  rw [mj_den_eq, f269_17]
  exact zt_iload rfl rfl (zt_aload_n rfl rfl (zt_geti (mjkd205 _ _ _ _) rfl rfl (zt_icmp_ge rfl rfl (zt_aload_n rfl rfl (zt_iload_n rfl rfl (zt_iload rfl rfl (zt_iload_n rfl rfl (zt_call0_1 rfl (mjkd205 _ _ _ _) (Nat.le_of_ble_eq_true rfl) rfl rfl))))))))
set_option maxRecDepth 100000 in
theorem g269_34 {E : mj_E} {d w c : Nat} {hi : Nat → Nat → Int32} {hl : Nat → Nat → Int64} (v1 : Int32) (v2 : Int32) (v3 : Int32) (v4 : Int32) (s0 : Int32) : mj_den mj_P E d 269 34 [Value.ref 205, Value.int v1, Value.int v2, Value.int v3, Value.int v4] [Value.int s0] (mj_hw w c hi hl) = if s0 = 0 then mj_den mj_P E d 269 41 [Value.ref 205, Value.int v1, Value.int v2, Value.int v3, Value.int v4] [] (mj_hw w c hi hl) else mj_den mj_P E d 269 41 [Value.ref 205, Value.int v1, Value.int (v2 + (1 : Int32)), Value.int v3, Value.int v4] [] (mj_hw w c hi hl) := by
  rw [mj_den_eq, f269_34]
  exact zt_if_eq rfl rfl (zt_iload_n rfl rfl (zt_iconst rfl (zt_iadd rfl (zt_istore_n (Nat.le_of_ble_eq_true rfl) rfl rfl (zt_end rfl)))))
set_option maxRecDepth 100000 in
theorem g269_41 {E : mj_E} {d w c : Nat} {hi : Nat → Nat → Int32} {hl : Nat → Nat → Int64} (v1 : Int32) (v2 : Int32) (v3 : Int32) (v4 : Int32) : mj_den mj_P E d 269 41 [Value.ref 205, Value.int v1, Value.int v2, Value.int v3, Value.int v4] [] (mj_hw w c hi hl) = mj_den mj_P E d 269 17 [Value.ref 205, Value.int v1, Value.int v2, Value.int v3, Value.int (v4 + (1 : Int32))] [] (mj_hw w c hi hl) := by
  rw [mj_den_eq, f269_41]
  exact zt_iinc rfl (Nat.le_of_ble_eq_true rfl) rfl rfl (zt_goto rfl)
set_option maxRecDepth 100000 in
theorem g269_47 {E : mj_E} {d w c : Nat} {hi : Nat → Nat → Int32} {hl : Nat → Nat → Int64} (v1 : Int32) (v2 : Int32) (v3 : Int32) (v4 : Int32) : mj_den mj_P E d 269 47 [Value.ref 205, Value.int v1, Value.int v2, Value.int v3, Value.int v4] [] (mj_hw w c hi hl) = mj_den mj_P E d 269 4 [Value.ref 205, Value.int v1, Value.int v2, Value.int (v3 + (1 : Int32)), Value.int v4] [] (mj_hw w c hi hl) := by
  rw [mj_den_eq, f269_47]
  exact zt_iinc rfl (Nat.le_of_ble_eq_true rfl) rfl rfl (zt_goto rfl)
set_option maxRecDepth 100000 in
theorem g269_53 {E : mj_E} {d w c : Nat} {hi : Nat → Nat → Int32} {hl : Nat → Nat → Int64} (v1 : Int32) (v2 : Int32) (v3 : Int32) (u4 : Value) : mj_den mj_P E d 269 53 [Value.ref 205, Value.int v1, Value.int v2, Value.int v3, u4] [] (mj_hw w c hi hl) = some (some (Value.int v2), (mj_hw w c hi hl)) := by
  rw [mj_den_eq, f269_53]
  exact zt_iload_n rfl rfl (zt_ireturn0)
theorem xg269 (E : mj_E) (d : Nat) (a1 : Int32) (h : mj_H) : mj_dc mj_P E (d + 1) 269 [Value.ref 205, Value.int a1] h = mj_den mj_P E d 269 0 [Value.ref 205, Value.int a1, Value.float 0, Value.float 0, Value.float 0] [] h := mj_dc_eq mj_P E d 269 [Value.ref 205, Value.int a1] h (Nat.le_of_ble_eq_true rfl)
set_option maxRecDepth 100000 in
theorem g273_0 {E : mj_E} {d w c : Nat} {hi : Nat → Nat → Int32} {hl : Nat → Nat → Int64} : mj_den mj_P E d 273 0 [Value.ref 205, Value.float 0, Value.float 0, Value.float 0] [] (mj_hw w c hi hl) = mj_den mj_P E d 273 9 [Value.ref 205, Value.int (((1 : Int32) <<< ((hi 205 54) &&& 31)) - (1 : Int32)), Value.float 0, Value.float 0] [] (mj_hw w c hi hl) := by
  rw [mj_den_eq, f273_0]
  exact zt_iconst rfl (zt_aload_n rfl rfl (zt_geti (mjkd205 _ _ _ _) rfl rfl (zt_ishl rfl (zt_iconst rfl (zt_isub rfl (zt_istore_n (Nat.le_of_ble_eq_true rfl) rfl rfl (zt_end rfl)))))))
set_option maxRecDepth 100000 in
theorem g273_9 {E : mj_E} {d w c : Nat} {hi : Nat → Nat → Int32} {hl : Nat → Nat → Int64} (v1 : Int32) (u2 : Value) (u3 : Value) : mj_den mj_P E d 273 9 [Value.ref 205, Value.int v1, u2, u3] [] (mj_hw w c hi hl) = if v1 < 0 then mj_den mj_P E d 273 65 [Value.ref 205, Value.int v1, u2, u3] [] (mj_hw w c hi hl) else mj_den mj_P E d 273 17 [Value.ref 205, Value.int v1, Value.int (0 : Int32), Value.int (0 : Int32)] [] (mj_hw w c hi hl) := by
  rw [mj_den_eq, f273_9]
  exact zt_iload_n rfl rfl (zt_if_lt rfl rfl (zt_iconst rfl (zt_istore_n (Nat.le_of_ble_eq_true rfl) rfl rfl (zt_iconst rfl (zt_istore_n (Nat.le_of_ble_eq_true rfl) rfl rfl (zt_end rfl))))))
set_option maxRecDepth 100000 in
theorem g273_17 {E : mj_E} {d w c : Nat} {hi : Nat → Nat → Int32} {hl : Nat → Nat → Int64} (v1 : Int32) (v2 : Int32) (v3 : Int32) : mj_den mj_P E d 273 17 [Value.ref 205, Value.int v1, Value.int v2, Value.int v3] [] (mj_hw w c hi hl) = if (hi 205 54) ≤ v3 then mj_den mj_P E d 273 52 [Value.ref 205, Value.int v1, Value.int v2, Value.int v3] [] (mj_hw w c hi hl) else mj_bi (mj_dc mj_P E d 157 [Value.ref 205, Value.int v1, Value.int v3] (mj_hw w c hi hl)) (fun x1 h1 => mj_den mj_P E d 273 31 [Value.ref 205, Value.int v1, Value.int v2, Value.int v3] [Value.int x1] h1) := by
  rw [mj_den_eq, f273_17]
  exact zt_iload_n rfl rfl (zt_aload_n rfl rfl (zt_geti (mjkd205 _ _ _ _) rfl rfl (zt_icmp_ge rfl rfl (zt_aload_n rfl rfl (zt_iload_n rfl rfl (zt_iload_n rfl rfl (zt_call0_1 rfl (mjkd205 _ _ _ _) (Nat.le_of_ble_eq_true rfl) rfl rfl)))))))
set_option maxRecDepth 100000 in
theorem g273_31 {E : mj_E} {d w c : Nat} {hi : Nat → Nat → Int32} {hl : Nat → Nat → Int64} (v1 : Int32) (v2 : Int32) (v3 : Int32) (s0 : Int32) : mj_den mj_P E d 273 31 [Value.ref 205, Value.int v1, Value.int v2, Value.int v3] [Value.int s0] (mj_hw w c hi hl) = if ¬ s0 = 0 then mj_den mj_P E d 273 46 [Value.ref 205, Value.int v1, Value.int v2, Value.int v3] [] (mj_hw w c hi hl) else mj_bi (mj_dc mj_P E d 272 [Value.ref 205, Value.int v1, Value.int v3] (mj_hw w c hi hl)) (fun x1 h1 => mj_den mj_P E d 273 42 [Value.ref 205, Value.int v1, Value.int v2, Value.int v3] [Value.int x1, Value.int v2, Value.ref 205] h1) := by
  rw [mj_den_eq, f273_31]
  exact zt_if_ne rfl rfl (zt_aload_n rfl rfl (zt_iload_n rfl rfl (zt_aload_n rfl rfl (zt_iload_n rfl rfl (zt_iload_n rfl rfl (zt_call0_1 rfl (mjkd205 _ _ _ _) (Nat.le_of_ble_eq_true rfl) rfl rfl))))))
set_option maxRecDepth 100000 in
theorem g273_42 {E : mj_E} {d w c : Nat} {hi : Nat → Nat → Int32} {hl : Nat → Nat → Int64} (v1 : Int32) (v2 : Int32) (v3 : Int32) (s0 : Int32) (s1 : Int32) : mj_den mj_P E d 273 42 [Value.ref 205, Value.int v1, Value.int v2, Value.int v3] [Value.int s0, Value.int s1, Value.ref 205] (mj_hw w c hi hl) = mj_bi (mj_dc mj_P E d 154 [Value.ref 205, Value.int s1, Value.int s0] (mj_hw w c hi hl)) (fun x1 h1 => mj_den mj_P E d 273 45 [Value.ref 205, Value.int v1, Value.int v2, Value.int v3] [Value.int x1] h1) := by
  rw [mj_den_eq, f273_42]
  exact zt_call0_1 rfl (mjkd205 _ _ _ _) (Nat.le_of_ble_eq_true rfl) rfl rfl
set_option maxRecDepth 100000 in
theorem g273_45 {E : mj_E} {d w c : Nat} {hi : Nat → Nat → Int32} {hl : Nat → Nat → Int64} (v1 : Int32) (v2 : Int32) (v3 : Int32) (s0 : Int32) : mj_den mj_P E d 273 45 [Value.ref 205, Value.int v1, Value.int v2, Value.int v3] [Value.int s0] (mj_hw w c hi hl) = mj_den mj_P E d 273 46 [Value.ref 205, Value.int v1, Value.int s0, Value.int v3] [] (mj_hw w c hi hl) := by
  rw [mj_den_eq, f273_45]
  exact zt_istore_n (Nat.le_of_ble_eq_true rfl) rfl rfl (zt_end rfl)
set_option maxRecDepth 100000 in
theorem g273_46 {E : mj_E} {d w c : Nat} {hi : Nat → Nat → Int32} {hl : Nat → Nat → Int64} (v1 : Int32) (v2 : Int32) (v3 : Int32) : mj_den mj_P E d 273 46 [Value.ref 205, Value.int v1, Value.int v2, Value.int v3] [] (mj_hw w c hi hl) = mj_den mj_P E d 273 17 [Value.ref 205, Value.int v1, Value.int v2, Value.int (v3 + (1 : Int32))] [] (mj_hw w c hi hl) := by
  rw [mj_den_eq, f273_46]
  exact zt_iinc rfl (Nat.le_of_ble_eq_true rfl) rfl rfl (zt_goto rfl)
set_option maxRecDepth 100000 in
theorem g273_52 {E : mj_E} {d w c : Nat} {hi : Nat → Nat → Int32} {hl : Nat → Nat → Int64} (v1 : Int32) (v2 : Int32) (v3 : Int32) : mj_den mj_P E d 273 52 [Value.ref 205, Value.int v1, Value.int v2, Value.int v3] [] (mj_hw w c hi hl) = if 0 ≤ v1 ∧ (v1).toNatClampNeg < 128 then mj_den mj_P E d 273 9 [Value.ref 205, Value.int (v1 + (-1 : Int32)), Value.int v2, Value.int v3] [] (mj_hw w c (mj_u hi 236 ((v1).toNatClampNeg) v2) hl) else none := by
  rw [mj_den_eq, f273_52]
  exact zt_aload_n rfl rfl (zt_getr (mjkd205 _ _ _ _) (mjhr205_57 w c) rfl (zt_iload_n rfl rfl (zt_iload_n rfl rfl (zt_iast (mjkd236 _ _ _ _) (mjln236 _ _ _ _) rfl rfl (zt_iinc rfl (Nat.le_of_ble_eq_true rfl) rfl rfl (zt_goto rfl))))))
set_option maxRecDepth 100000 in
theorem g273_65 {E : mj_E} {d w c : Nat} {hi : Nat → Nat → Int32} {hl : Nat → Nat → Int64} (v1 : Int32) (u2 : Value) (u3 : Value) : mj_den mj_P E d 273 65 [Value.ref 205, Value.int v1, u2, u3] [] (mj_hw w c hi hl) = some (none, (mj_hw w c hi hl)) := by
  rw [mj_den_eq, f273_65]
  exact zt_return
theorem xg273 (E : mj_E) (d : Nat) (h : mj_H) : mj_dc mj_P E (d + 1) 273 [Value.ref 205] h = mj_den mj_P E d 273 0 [Value.ref 205, Value.float 0, Value.float 0, Value.float 0] [] h := mj_dc_eq mj_P E d 273 [Value.ref 205] h (Nat.le_of_ble_eq_true rfl)
set_option maxRecDepth 100000 in
theorem g276_0 {E : mj_E} {d w c : Nat} {hi : Nat → Nat → Int32} {hl : Nat → Nat → Int64} : mj_den mj_P E d 276 0 [Value.ref 205, Value.float 0, Value.float 0, Value.float 0] [] (mj_hw w c hi hl) = mj_den mj_P E d 276 2 [Value.ref 205, Value.int (0 : Int32), Value.float 0, Value.float 0] [] (mj_hw w c hi hl) := by
  rw [mj_den_eq, f276_0]
  exact zt_iconst rfl (zt_istore_n (Nat.le_of_ble_eq_true rfl) rfl rfl (zt_end rfl))
set_option maxRecDepth 100000 in
theorem g276_2 {E : mj_E} {d w c : Nat} {hi : Nat → Nat → Int32} {hl : Nat → Nat → Int64} (v1 : Int32) (u2 : Value) (u3 : Value) : mj_den mj_P E d 276 2 [Value.ref 205, Value.int v1, u2, u3] [] (mj_hw w c hi hl) = if (hi 205 58) ≤ v1 then mj_den mj_P E d 276 85 [Value.ref 205, Value.int v1, u2, u3] [] (mj_hw w c hi hl) else mj_den mj_P E d 276 14 [Value.ref 205, Value.int v1, Value.int (0 : Int32), Value.int (0 : Int32)] [] (mj_hw w c hi hl) := by
  rw [mj_den_eq, f276_2]
  exact zt_iload_n rfl rfl (zt_aload_n rfl rfl (zt_geti (mjkd205 _ _ _ _) rfl rfl (zt_icmp_ge rfl rfl (zt_iconst rfl (zt_istore_n (Nat.le_of_ble_eq_true rfl) rfl rfl (zt_iconst rfl (zt_istore_n (Nat.le_of_ble_eq_true rfl) rfl rfl (zt_end rfl))))))))
set_option maxRecDepth 100000 in
theorem g276_14 {E : mj_E} {d w c : Nat} {hi : Nat → Nat → Int32} {hl : Nat → Nat → Int64} (v1 : Int32) (v2 : Int32) (v3 : Int32) : mj_den mj_P E d 276 14 [Value.ref 205, Value.int v1, Value.int v2, Value.int v3] [] (mj_hw w c hi hl) = if (hi 205 58) ≤ v3 then mj_den mj_P E d 276 67 [Value.ref 205, Value.int v1, Value.int v2, Value.int v3] [] (mj_hw w c hi hl) else if 0 ≤ v3 ∧ (v3).toNatClampNeg < 12 then if 0 ≤ v1 ∧ (v1).toNatClampNeg < 12 then if (hi 237 ((v3).toNatClampNeg)) < (hi 237 ((v1).toNatClampNeg)) then mj_den mj_P E d 276 57 [Value.ref 205, Value.int v1, Value.int v2, Value.int v3] [] (mj_hw w c hi hl) else if 0 ≤ v3 ∧ (v3).toNatClampNeg < 12 then if 0 ≤ v1 ∧ (v1).toNatClampNeg < 12 then if ¬ (hi 237 ((v3).toNatClampNeg)) = (hi 237 ((v1).toNatClampNeg)) then mj_den mj_P E d 276 61 [Value.ref 205, Value.int v1, Value.int v2, Value.int v3] [] (mj_hw w c hi hl) else if v1 ≤ v3 then mj_den mj_P E d 276 61 [Value.ref 205, Value.int v1, Value.int v2, Value.int v3] [] (mj_hw w c hi hl) else mj_den mj_P E d 276 57 [Value.ref 205, Value.int v1, Value.int v2, Value.int v3] [] (mj_hw w c hi hl) else none else none else none else none := by
  rw [mj_den_eq, f276_14]
  exact zt_iload_n rfl rfl (zt_aload_n rfl rfl (zt_geti (mjkd205 _ _ _ _) rfl rfl (zt_icmp_ge rfl rfl (zt_aload_n rfl rfl (zt_getr (mjkd205 _ _ _ _) (mjhr205_59 w c) rfl (zt_iload_n rfl rfl (zt_iald (mjkd237 _ _ _ _) (mjln237 _ _ _ _) rfl rfl (zt_aload_n rfl rfl (zt_getr (mjkd205 _ _ _ _) (mjhr205_59 w c) rfl (zt_iload_n rfl rfl (zt_iald (mjkd237 _ _ _ _) (mjln237 _ _ _ _) rfl rfl (zt_icmp_lt rfl rfl (zt_aload_n rfl rfl (zt_getr (mjkd205 _ _ _ _) (mjhr205_59 w c) rfl (zt_iload_n rfl rfl (zt_iald (mjkd237 _ _ _ _) (mjln237 _ _ _ _) rfl rfl (zt_aload_n rfl rfl (zt_getr (mjkd205 _ _ _ _) (mjhr205_59 w c) rfl (zt_iload_n rfl rfl (zt_iald (mjkd237 _ _ _ _) (mjln237 _ _ _ _) rfl rfl (zt_icmp_ne rfl rfl (zt_iload_n rfl rfl (zt_iload_n rfl rfl (zt_icmp_ge rfl rfl (zt_end rfl)))))))))))))))))))))))))
set_option maxRecDepth 100000 in
theorem g276_57 {E : mj_E} {d w c : Nat} {hi : Nat → Nat → Int32} {hl : Nat → Nat → Int64} (v1 : Int32) (v2 : Int32) (v3 : Int32) : mj_den mj_P E d 276 57 [Value.ref 205, Value.int v1, Value.int v2, Value.int v3] [] (mj_hw w c hi hl) = mj_den mj_P E d 276 61 [Value.ref 205, Value.int v1, Value.int (v2 + (1 : Int32)), Value.int v3] [] (mj_hw w c hi hl) := by
  rw [mj_den_eq, f276_57]
  exact zt_iload_n rfl rfl (zt_iconst rfl (zt_iadd rfl (zt_istore_n (Nat.le_of_ble_eq_true rfl) rfl rfl (zt_end rfl))))
set_option maxRecDepth 100000 in
theorem g276_61 {E : mj_E} {d w c : Nat} {hi : Nat → Nat → Int32} {hl : Nat → Nat → Int64} (v1 : Int32) (v2 : Int32) (v3 : Int32) : mj_den mj_P E d 276 61 [Value.ref 205, Value.int v1, Value.int v2, Value.int v3] [] (mj_hw w c hi hl) = mj_den mj_P E d 276 14 [Value.ref 205, Value.int v1, Value.int v2, Value.int (v3 + (1 : Int32))] [] (mj_hw w c hi hl) := by
  rw [mj_den_eq, f276_61]
  exact zt_iinc rfl (Nat.le_of_ble_eq_true rfl) rfl rfl (zt_goto rfl)
set_option maxRecDepth 100000 in
theorem g276_67 {E : mj_E} {d w c : Nat} {hi : Nat → Nat → Int32} {hl : Nat → Nat → Int64} (v1 : Int32) (v2 : Int32) (v3 : Int32) : mj_den mj_P E d 276 67 [Value.ref 205, Value.int v1, Value.int v2, Value.int v3] [] (mj_hw w c hi hl) = if 0 ≤ v1 ∧ (v1).toNatClampNeg < 12 then if 0 ≤ v2 ∧ (v2).toNatClampNeg < 12 then mj_den mj_P E d 276 2 [Value.ref 205, Value.int (v1 + (1 : Int32)), Value.int v2, Value.int v3] [] (mj_hw w c (mj_u hi 238 ((v2).toNatClampNeg) (hi 237 ((v1).toNatClampNeg))) hl) else none else none := by
  rw [mj_den_eq, f276_67]
  exact zt_aload_n rfl rfl (zt_getr (mjkd205 _ _ _ _) (mjhr205_60 w c) rfl (zt_iload_n rfl rfl (zt_aload_n rfl rfl (zt_getr (mjkd205 _ _ _ _) (mjhr205_59 w c) rfl (zt_iload_n rfl rfl (zt_iald (mjkd237 _ _ _ _) (mjln237 _ _ _ _) rfl rfl (zt_iast (mjkd238 _ _ _ _) (mjln238 _ _ _ _) rfl rfl (zt_iinc rfl (Nat.le_of_ble_eq_true rfl) rfl rfl (zt_goto rfl)))))))))
set_option maxRecDepth 100000 in
theorem g276_85 {E : mj_E} {d w c : Nat} {hi : Nat → Nat → Int32} {hl : Nat → Nat → Int64} (v1 : Int32) (u2 : Value) (u3 : Value) : mj_den mj_P E d 276 85 [Value.ref 205, Value.int v1, u2, u3] [] (mj_hw w c hi hl) = some (none, (mj_hw w c hi hl)) := by
  rw [mj_den_eq, f276_85]
  exact zt_return
theorem xg276 (E : mj_E) (d : Nat) (h : mj_H) : mj_dc mj_P E (d + 1) 276 [Value.ref 205] h = mj_den mj_P E d 276 0 [Value.ref 205, Value.float 0, Value.float 0, Value.float 0] [] h := mj_dc_eq mj_P E d 276 [Value.ref 205] h (Nat.le_of_ble_eq_true rfl)
set_option maxRecDepth 100000 in
theorem g277_0 {E : mj_E} {d w c : Nat} {hi : Nat → Nat → Int32} {hl : Nat → Nat → Int64} (v1 : Int32) : mj_den mj_P E d 277 0 [Value.ref 205, Value.int v1, Value.float 0, Value.float 0, Value.float 0] [] (mj_hw w c hi hl) = mj_den mj_P E d 277 2 [Value.ref 205, Value.int v1, Value.int (0 : Int32), Value.float 0, Value.float 0] [] (mj_hw w c hi hl) := by
  rw [mj_den_eq, f277_0]
  exact zt_iconst rfl (zt_istore_n (Nat.le_of_ble_eq_true rfl) rfl rfl (zt_end rfl))
set_option maxRecDepth 100000 in
theorem g277_2 {E : mj_E} {d w c : Nat} {hi : Nat → Nat → Int32} {hl : Nat → Nat → Int64} (v1 : Int32) (v2 : Int32) (u3 : Value) (u4 : Value) : mj_den mj_P E d 277 2 [Value.ref 205, Value.int v1, Value.int v2, u3, u4] [] (mj_hw w c hi hl) = if (hi 205 58) ≤ v2 then mj_den mj_P E d 277 107 [Value.ref 205, Value.int v1, Value.int v2, u3, u4] [] (mj_hw w c hi hl) else mj_bi (mj_dc mj_P E d 157 [Value.ref 205, Value.int v1, Value.int v2] (mj_hw w c hi hl)) (fun x1 h1 => mj_den mj_P E d 277 16 [Value.ref 205, Value.int v1, Value.int v2, u3, u4] [Value.int x1] h1) := by
  rw [mj_den_eq, f277_2]
  exact zt_iload_n rfl rfl (zt_aload_n rfl rfl (zt_geti (mjkd205 _ _ _ _) rfl rfl (zt_icmp_ge rfl rfl (zt_aload_n rfl rfl (zt_iload_n rfl rfl (zt_iload_n rfl rfl (zt_call0_1 rfl (mjkd205 _ _ _ _) (Nat.le_of_ble_eq_true rfl) rfl rfl)))))))
set_option maxRecDepth 100000 in
theorem g277_16 {E : mj_E} {d w c : Nat} {hi : Nat → Nat → Int32} {hl : Nat → Nat → Int64} (v1 : Int32) (v2 : Int32) (u3 : Value) (u4 : Value) (s0 : Int32) : mj_den mj_P E d 277 16 [Value.ref 205, Value.int v1, Value.int v2, u3, u4] [Value.int s0] (mj_hw w c hi hl) = if ¬ s0 = 0 then mj_den mj_P E d 277 22 [Value.ref 205, Value.int v1, Value.int v2, u3, u4] [] (mj_hw w c hi hl) else mj_den mj_P E d 277 101 [Value.ref 205, Value.int v1, Value.int v2, u3, u4] [] (mj_hw w c hi hl) := by
  rw [mj_den_eq, f277_16]
  exact zt_if_ne rfl rfl (zt_goto rfl)
set_option maxRecDepth 100000 in
theorem g277_22 {E : mj_E} {d w c : Nat} {hi : Nat → Nat → Int32} {hl : Nat → Nat → Int64} (v1 : Int32) (v2 : Int32) (u3 : Value) (u4 : Value) : mj_den mj_P E d 277 22 [Value.ref 205, Value.int v1, Value.int v2, u3, u4] [] (mj_hw w c hi hl) = mj_den mj_P E d 277 27 [Value.ref 205, Value.int v1, Value.int v2, Value.int (0 : Int32), Value.int (0 : Int32)] [] (mj_hw w c hi hl) := by
  rw [mj_den_eq, f277_22]
  exact zt_iconst rfl (zt_istore_n (Nat.le_of_ble_eq_true rfl) rfl rfl (zt_iconst rfl (zt_istore (Nat.le_of_ble_eq_true rfl) rfl rfl (zt_end rfl))))
set_option maxRecDepth 100000 in
theorem g277_27 {E : mj_E} {d w c : Nat} {hi : Nat → Nat → Int32} {hl : Nat → Nat → Int64} (v1 : Int32) (v2 : Int32) (v3 : Int32) (v4 : Int32) : mj_den mj_P E d 277 27 [Value.ref 205, Value.int v1, Value.int v2, Value.int v3, Value.int v4] [] (mj_hw w c hi hl) = if (hi 205 58) ≤ v4 then mj_den mj_P E d 277 95 [Value.ref 205, Value.int v1, Value.int v2, Value.int v3, Value.int v4] [] (mj_hw w c hi hl) else mj_bi (mj_dc mj_P E d 157 [Value.ref 205, Value.int v1, Value.int v4] (mj_hw w c hi hl)) (fun x1 h1 => mj_den mj_P E d 277 43 [Value.ref 205, Value.int v1, Value.int v2, Value.int v3, Value.int v4] [Value.int x1] h1) := by
  rw [mj_den_eq, f277_27]
  exact zt_iload rfl rfl (zt_aload_n rfl rfl (zt_geti (mjkd205 _ _ _ _) rfl rfl (zt_icmp_ge rfl rfl (zt_aload_n rfl rfl (zt_iload_n rfl rfl (zt_iload rfl rfl (zt_call0_1 rfl (mjkd205 _ _ _ _) (Nat.le_of_ble_eq_true rfl) rfl rfl)))))))
set_option maxRecDepth 100000 in
theorem g277_43 {E : mj_E} {d w c : Nat} {hi : Nat → Nat → Int32} {hl : Nat → Nat → Int64} (v1 : Int32) (v2 : Int32) (v3 : Int32) (v4 : Int32) (s0 : Int32) : mj_den mj_P E d 277 43 [Value.ref 205, Value.int v1, Value.int v2, Value.int v3, Value.int v4] [Value.int s0] (mj_hw w c hi hl) = if ¬ s0 = 0 then mj_den mj_P E d 277 49 [Value.ref 205, Value.int v1, Value.int v2, Value.int v3, Value.int v4] [] (mj_hw w c hi hl) else mj_den mj_P E d 277 89 [Value.ref 205, Value.int v1, Value.int v2, Value.int v3, Value.int v4] [] (mj_hw w c hi hl) := by
  rw [mj_den_eq, f277_43]
  exact zt_if_ne rfl rfl (zt_goto rfl)
set_option maxRecDepth 100000 in
theorem g277_49 {E : mj_E} {d w c : Nat} {hi : Nat → Nat → Int32} {hl : Nat → Nat → Int64} (v1 : Int32) (v2 : Int32) (v3 : Int32) (v4 : Int32) : mj_den mj_P E d 277 49 [Value.ref 205, Value.int v1, Value.int v2, Value.int v3, Value.int v4] [] (mj_hw w c hi hl) = if 0 ≤ v4 ∧ (v4).toNatClampNeg < 12 then if 0 ≤ v2 ∧ (v2).toNatClampNeg < 12 then if ¬ (hi 237 ((v4).toNatClampNeg)) = (hi 237 ((v2).toNatClampNeg)) then mj_den mj_P E d 277 69 [Value.ref 205, Value.int v1, Value.int v2, Value.int v3, Value.int v4] [] (mj_hw w c hi hl) else mj_den mj_P E d 277 69 [Value.ref 205, Value.int v1, Value.int v2, Value.int (v3 + (1 : Int32)), Value.int v4] [] (mj_hw w c hi hl) else none else none := by
  rw [mj_den_eq, f277_49]
  exact zt_aload_n rfl rfl (zt_getr (mjkd205 _ _ _ _) (mjhr205_59 w c) rfl (zt_iload rfl rfl (zt_iald (mjkd237 _ _ _ _) (mjln237 _ _ _ _) rfl rfl (zt_aload_n rfl rfl (zt_getr (mjkd205 _ _ _ _) (mjhr205_59 w c) rfl (zt_iload_n rfl rfl (zt_iald (mjkd237 _ _ _ _) (mjln237 _ _ _ _) rfl rfl (zt_icmp_ne rfl rfl (zt_iload_n rfl rfl (zt_iconst rfl (zt_iadd rfl (zt_istore_n (Nat.le_of_ble_eq_true rfl) rfl rfl (zt_end rfl)))))))))))))
set_option maxRecDepth 100000 in
theorem g277_69 {E : mj_E} {d w c : Nat} {hi : Nat → Nat → Int32} {hl : Nat → Nat → Int64} (v1 : Int32) (v2 : Int32) (v3 : Int32) (v4 : Int32) : mj_den mj_P E d 277 69 [Value.ref 205, Value.int v1, Value.int v2, Value.int v3, Value.int v4] [] (mj_hw w c hi hl) = if 0 ≤ v4 ∧ (v4).toNatClampNeg < 12 then if 0 ≤ v2 ∧ (v2).toNatClampNeg < 12 then if ¬ (hi 238 ((v4).toNatClampNeg)) = (hi 237 ((v2).toNatClampNeg)) then mj_den mj_P E d 277 89 [Value.ref 205, Value.int v1, Value.int v2, Value.int v3, Value.int v4] [] (mj_hw w c hi hl) else mj_den mj_P E d 277 89 [Value.ref 205, Value.int v1, Value.int v2, Value.int (v3 - (1 : Int32)), Value.int v4] [] (mj_hw w c hi hl) else none else none := by
  rw [mj_den_eq, f277_69]
  exact zt_aload_n rfl rfl (zt_getr (mjkd205 _ _ _ _) (mjhr205_60 w c) rfl (zt_iload rfl rfl (zt_iald (mjkd238 _ _ _ _) (mjln238 _ _ _ _) rfl rfl (zt_aload_n rfl rfl (zt_getr (mjkd205 _ _ _ _) (mjhr205_59 w c) rfl (zt_iload_n rfl rfl (zt_iald (mjkd237 _ _ _ _) (mjln237 _ _ _ _) rfl rfl (zt_icmp_ne rfl rfl (zt_iload_n rfl rfl (zt_iconst rfl (zt_isub rfl (zt_istore_n (Nat.le_of_ble_eq_true rfl) rfl rfl (zt_end rfl)))))))))))))
set_option maxRecDepth 100000 in
theorem g277_89 {E : mj_E} {d w c : Nat} {hi : Nat → Nat → Int32} {hl : Nat → Nat → Int64} (v1 : Int32) (v2 : Int32) (v3 : Int32) (v4 : Int32) : mj_den mj_P E d 277 89 [Value.ref 205, Value.int v1, Value.int v2, Value.int v3, Value.int v4] [] (mj_hw w c hi hl) = mj_den mj_P E d 277 27 [Value.ref 205, Value.int v1, Value.int v2, Value.int v3, Value.int (v4 + (1 : Int32))] [] (mj_hw w c hi hl) := by
  rw [mj_den_eq, f277_89]
  exact zt_iinc rfl (Nat.le_of_ble_eq_true rfl) rfl rfl (zt_goto rfl)
set_option maxRecDepth 100000 in
theorem g277_95 {E : mj_E} {d w c : Nat} {hi : Nat → Nat → Int32} {hl : Nat → Nat → Int64} (v1 : Int32) (v2 : Int32) (v3 : Int32) (v4 : Int32) : mj_den mj_P E d 277 95 [Value.ref 205, Value.int v1, Value.int v2, Value.int v3, Value.int v4] [] (mj_hw w c hi hl) = if v3 = 0 then mj_den mj_P E d 277 101 [Value.ref 205, Value.int v1, Value.int v2, Value.int v3, Value.int v4] [] (mj_hw w c hi hl) else if (0 : Int32) = 0 ∨ (0 : Int32) = 1 then some (some (Value.int (0 : Int32)), (mj_hw w c hi hl)) else none := by
  rw [mj_den_eq, f277_95]
  exact zt_iload_n rfl rfl (zt_if_eq rfl rfl (zt_iconst rfl (zt_ireturn1)))
set_option maxRecDepth 100000 in
theorem g277_101 {E : mj_E} {d w c : Nat} {hi : Nat → Nat → Int32} {hl : Nat → Nat → Int64} (v1 : Int32) (v2 : Int32) (u3 : Value) (u4 : Value) : mj_den mj_P E d 277 101 [Value.ref 205, Value.int v1, Value.int v2, u3, u4] [] (mj_hw w c hi hl) = mj_den mj_P E d 277 2 [Value.ref 205, Value.int v1, Value.int (v2 + (1 : Int32)), u3, u4] [] (mj_hw w c hi hl) := by
  rw [mj_den_eq, f277_101]
  exact zt_iinc rfl (Nat.le_of_ble_eq_true rfl) rfl rfl (zt_goto rfl)
set_option maxRecDepth 100000 in
theorem g277_107 {E : mj_E} {d w c : Nat} {hi : Nat → Nat → Int32} {hl : Nat → Nat → Int64} (v1 : Int32) (v2 : Int32) (u3 : Value) (u4 : Value) : mj_den mj_P E d 277 107 [Value.ref 205, Value.int v1, Value.int v2, u3, u4] [] (mj_hw w c hi hl) = if (1 : Int32) = 0 ∨ (1 : Int32) = 1 then some (some (Value.int (1 : Int32)), (mj_hw w c hi hl)) else none := by
  rw [mj_den_eq, f277_107]
  exact zt_iconst rfl (zt_ireturn1)
theorem xg277 (E : mj_E) (d : Nat) (a1 : Int32) (h : mj_H) : mj_dc mj_P E (d + 1) 277 [Value.ref 205, Value.int a1] h = mj_den mj_P E d 277 0 [Value.ref 205, Value.int a1, Value.float 0, Value.float 0, Value.float 0] [] h := mj_dc_eq mj_P E d 277 [Value.ref 205, Value.int a1] h (Nat.le_of_ble_eq_true rfl)
set_option maxRecDepth 100000 in
theorem g278_0 {E : mj_E} {d w c : Nat} {hi : Nat → Nat → Int32} {hl : Nat → Nat → Int64} : mj_den mj_P E d 278 0 [Value.ref 205, Value.float 0, Value.float 0, Value.float 0, Value.float 0] [] (mj_hw w c hi hl) = mj_bv (mj_dc mj_P E d 276 [Value.ref 205] (mj_hw w c hi hl)) (fun h1 => mj_den mj_P E d 278 4 [Value.ref 205, Value.float 0, Value.float 0, Value.float 0, Value.float 0] [] h1) := by
  rw [mj_den_eq, f278_0]
  exact zt_aload_n rfl rfl (zt_call0_0 rfl (mjkd205 _ _ _ _) (Nat.le_of_ble_eq_true rfl) rfl rfl)
set_option maxRecDepth 100000 in
theorem g278_4 {E : mj_E} {d w c : Nat} {hi : Nat → Nat → Int32} {hl : Nat → Nat → Int64} : mj_den mj_P E d 278 4 [Value.ref 205, Value.float 0, Value.float 0, Value.float 0, Value.float 0] [] (mj_hw w c hi hl) = mj_den mj_P E d 278 8 [Value.ref 205, Value.int (0 : Int32), Value.int (0 : Int32), Value.float 0, Value.float 0] [] (mj_hw w c hi hl) := by
  rw [mj_den_eq, f278_4]
  exact zt_iconst rfl (zt_istore_n (Nat.le_of_ble_eq_true rfl) rfl rfl (zt_iconst rfl (zt_istore_n (Nat.le_of_ble_eq_true rfl) rfl rfl (zt_end rfl))))
set_option maxRecDepth 100000 in
theorem g278_8 {E : mj_E} {d w c : Nat} {hi : Nat → Nat → Int32} {hl : Nat → Nat → Int64} (v1 : Int32) (v2 : Int32) : mj_den mj_P E d 278 8 [Value.ref 205, Value.int v1, Value.int v2, Value.float 0, Value.float 0] [] (mj_hw w c hi hl) = if (hi 205 58) ≤ v2 then mj_den mj_P E d 278 43 [Value.ref 205, Value.int v1, Value.int v2, Value.float 0, Value.float 0] [] (mj_hw w c hi hl) else if 0 ≤ v2 ∧ (v2).toNatClampNeg < 12 then if 0 ≤ v2 ∧ (v2).toNatClampNeg < 12 then if (hi 237 ((v2).toNatClampNeg)) = (hi 238 ((v2).toNatClampNeg)) then mj_den mj_P E d 278 37 [Value.ref 205, Value.int v1, Value.int v2, Value.float 0, Value.float 0] [] (mj_hw w c hi hl) else mj_den mj_P E d 278 37 [Value.ref 205, Value.int (v1 ||| ((1 : Int32) <<< (v2 &&& 31))), Value.int v2, Value.float 0, Value.float 0] [] (mj_hw w c hi hl) else none else none := by
  rw [mj_den_eq, f278_8]
  exact zt_iload_n rfl rfl (zt_aload_n rfl rfl (zt_geti (mjkd205 _ _ _ _) rfl rfl (zt_icmp_ge rfl rfl (zt_aload_n rfl rfl (zt_getr (mjkd205 _ _ _ _) (mjhr205_59 w c) rfl (zt_iload_n rfl rfl (zt_iald (mjkd237 _ _ _ _) (mjln237 _ _ _ _) rfl rfl (zt_aload_n rfl rfl (zt_getr (mjkd205 _ _ _ _) (mjhr205_60 w c) rfl (zt_iload_n rfl rfl (zt_iald (mjkd238 _ _ _ _) (mjln238 _ _ _ _) rfl rfl (zt_icmp_eq rfl rfl (zt_iload_n rfl rfl (zt_iconst rfl (zt_iload_n rfl rfl (zt_ishl rfl (zt_ior rfl (zt_istore_n (Nat.le_of_ble_eq_true rfl) rfl rfl (zt_end rfl)))))))))))))))))))
set_option maxRecDepth 100000 in
theorem g278_37 {E : mj_E} {d w c : Nat} {hi : Nat → Nat → Int32} {hl : Nat → Nat → Int64} (v1 : Int32) (v2 : Int32) : mj_den mj_P E d 278 37 [Value.ref 205, Value.int v1, Value.int v2, Value.float 0, Value.float 0] [] (mj_hw w c hi hl) = mj_den mj_P E d 278 8 [Value.ref 205, Value.int v1, Value.int (v2 + (1 : Int32)), Value.float 0, Value.float 0] [] (mj_hw w c hi hl) := by
  rw [mj_den_eq, f278_37]
  exact zt_iinc rfl (Nat.le_of_ble_eq_true rfl) rfl rfl (zt_goto rfl)
set_option maxRecDepth 100000 in
theorem g278_43 {E : mj_E} {d w c : Nat} {hi : Nat → Nat → Int32} {hl : Nat → Nat → Int64} (v1 : Int32) (v2 : Int32) : mj_den mj_P E d 278 43 [Value.ref 205, Value.int v1, Value.int v2, Value.float 0, Value.float 0] [] (mj_hw w c hi hl) = if 0 ≤ (0 : Int32) ∧ ((0 : Int32)).toNatClampNeg < 4096 then mj_den mj_P E d 278 52 [Value.ref 205, Value.int v1, Value.int (1 : Int32), Value.float 0, Value.float 0] [] (mj_hw w c (mj_u hi 239 (((0 : Int32)).toNatClampNeg) (0 : Int32)) hl) else none := by
  rw [mj_den_eq, f278_43]
  exact zt_aload_n rfl rfl (zt_getr (mjkd205 _ _ _ _) (mjhr205_61 w c) rfl (zt_iconst rfl (zt_iconst rfl (zt_iast (mjkd239 _ _ _ _) (mjln239 _ _ _ _) rfl rfl (zt_iconst rfl (zt_istore_n (Nat.le_of_ble_eq_true rfl) rfl rfl (zt_end rfl)))))))
set_option maxRecDepth 100000 in
theorem g278_52 {E : mj_E} {d w c : Nat} {hi : Nat → Nat → Int32} {hl : Nat → Nat → Int64} (v1 : Int32) (v2 : Int32) (u3 : Value) (u4 : Value) : mj_den mj_P E d 278 52 [Value.ref 205, Value.int v1, Value.int v2, u3, u4] [] (mj_hw w c hi hl) = if v1 < v2 then mj_den mj_P E d 278 144 [Value.ref 205, Value.int v1, Value.int v2, u3, u4] [] (mj_hw w c hi hl) else if (v2 &&& (v1 ^^^ (-1 : Int32))) = 0 then mj_den mj_P E d 278 68 [Value.ref 205, Value.int v1, Value.int v2, u3, u4] [] (mj_hw w c hi hl) else mj_den mj_P E d 278 138 [Value.ref 205, Value.int v1, Value.int v2, u3, u4] [] (mj_hw w c hi hl) := by
  rw [mj_den_eq, f278_52]
  exact zt_iload_n rfl rfl (zt_iload_n rfl rfl (zt_icmp_gt rfl rfl (zt_iload_n rfl rfl (zt_iload_n rfl rfl (zt_iconst rfl (zt_ixor rfl (zt_iand rfl (zt_if_eq rfl rfl (zt_goto rfl)))))))))
set_option maxRecDepth 100000 in
theorem g278_68 {E : mj_E} {d w c : Nat} {hi : Nat → Nat → Int32} {hl : Nat → Nat → Int64} (v1 : Int32) (v2 : Int32) (u3 : Value) (u4 : Value) : mj_den mj_P E d 278 68 [Value.ref 205, Value.int v1, Value.int v2, u3, u4] [] (mj_hw w c hi hl) = mj_den mj_P E d 278 73 [Value.ref 205, Value.int v1, Value.int v2, Value.int (0 : Int32), Value.int (0 : Int32)] [] (mj_hw w c hi hl) := by
  rw [mj_den_eq, f278_68]
  exact zt_iconst rfl (zt_istore_n (Nat.le_of_ble_eq_true rfl) rfl rfl (zt_iconst rfl (zt_istore (Nat.le_of_ble_eq_true rfl) rfl rfl (zt_end rfl))))
set_option maxRecDepth 100000 in
theorem g278_73 {E : mj_E} {d w c : Nat} {hi : Nat → Nat → Int32} {hl : Nat → Nat → Int64} (v1 : Int32) (v2 : Int32) (v3 : Int32) (v4 : Int32) : mj_den mj_P E d 278 73 [Value.ref 205, Value.int v1, Value.int v2, Value.int v3, Value.int v4] [] (mj_hw w c hi hl) = if (hi 205 58) ≤ v4 then mj_den mj_P E d 278 117 [Value.ref 205, Value.int v1, Value.int v2, Value.int v3, Value.int v4] [] (mj_hw w c hi hl) else mj_bi (mj_dc mj_P E d 157 [Value.ref 205, Value.int v2, Value.int v4] (mj_hw w c hi hl)) (fun x1 h1 => mj_den mj_P E d 278 89 [Value.ref 205, Value.int v1, Value.int v2, Value.int v3, Value.int v4] [Value.int x1] h1) := by
  rw [mj_den_eq, f278_73]
  exact zt_iload rfl rfl (zt_aload_n rfl rfl (zt_geti (mjkd205 _ _ _ _) rfl rfl (zt_icmp_ge rfl rfl (zt_aload_n rfl rfl (zt_iload_n rfl rfl (zt_iload rfl rfl (zt_call0_1 rfl (mjkd205 _ _ _ _) (Nat.le_of_ble_eq_true rfl) rfl rfl)))))))
set_option maxRecDepth 100000 in
theorem g278_89 {E : mj_E} {d w c : Nat} {hi : Nat → Nat → Int32} {hl : Nat → Nat → Int64} (v1 : Int32) (v2 : Int32) (v3 : Int32) (v4 : Int32) (s0 : Int32) : mj_den mj_P E d 278 89 [Value.ref 205, Value.int v1, Value.int v2, Value.int v3, Value.int v4] [Value.int s0] (mj_hw w c hi hl) = if s0 = 0 then mj_den mj_P E d 278 111 [Value.ref 205, Value.int v1, Value.int v2, Value.int v3, Value.int v4] [] (mj_hw w c hi hl) else if 0 ≤ (v2 &&& (((1 : Int32) <<< (v4 &&& 31)) ^^^ (-1 : Int32))) ∧ ((v2 &&& (((1 : Int32) <<< (v4 &&& 31)) ^^^ (-1 : Int32)))).toNatClampNeg < 4096 then mj_bi (mj_dc mj_P E d 154 [Value.ref 205, Value.int v3, Value.int (hi 239 (((v2 &&& (((1 : Int32) <<< (v4 &&& 31)) ^^^ (-1 : Int32)))).toNatClampNeg))] (mj_hw w c hi hl)) (fun x1 h1 => mj_den mj_P E d 278 110 [Value.ref 205, Value.int v1, Value.int v2, Value.int v3, Value.int v4] [Value.int x1] h1) else none := by
  rw [mj_den_eq, f278_89]
  exact zt_if_eq rfl rfl (zt_aload_n rfl rfl (zt_iload_n rfl rfl (zt_aload_n rfl rfl (zt_getr (mjkd205 _ _ _ _) (mjhr205_61 w c) rfl (zt_iload_n rfl rfl (zt_iconst rfl (zt_iload rfl rfl (zt_ishl rfl (zt_iconst rfl (zt_ixor rfl (zt_iand rfl (zt_iald (mjkd239 _ _ _ _) (mjln239 _ _ _ _) rfl rfl (zt_call0_1 rfl (mjkd205 _ _ _ _) (Nat.le_of_ble_eq_true rfl) rfl rfl)))))))))))))
set_option maxRecDepth 100000 in
theorem g278_110 {E : mj_E} {d w c : Nat} {hi : Nat → Nat → Int32} {hl : Nat → Nat → Int64} (v1 : Int32) (v2 : Int32) (v3 : Int32) (v4 : Int32) (s0 : Int32) : mj_den mj_P E d 278 110 [Value.ref 205, Value.int v1, Value.int v2, Value.int v3, Value.int v4] [Value.int s0] (mj_hw w c hi hl) = mj_den mj_P E d 278 111 [Value.ref 205, Value.int v1, Value.int v2, Value.int s0, Value.int v4] [] (mj_hw w c hi hl) := by
  rw [mj_den_eq, f278_110]
  exact zt_istore_n (Nat.le_of_ble_eq_true rfl) rfl rfl (zt_end rfl)
set_option maxRecDepth 100000 in
theorem g278_111 {E : mj_E} {d w c : Nat} {hi : Nat → Nat → Int32} {hl : Nat → Nat → Int64} (v1 : Int32) (v2 : Int32) (v3 : Int32) (v4 : Int32) : mj_den mj_P E d 278 111 [Value.ref 205, Value.int v1, Value.int v2, Value.int v3, Value.int v4] [] (mj_hw w c hi hl) = mj_den mj_P E d 278 73 [Value.ref 205, Value.int v1, Value.int v2, Value.int v3, Value.int (v4 + (1 : Int32))] [] (mj_hw w c hi hl) := by
  rw [mj_den_eq, f278_111]
  exact zt_iinc rfl (Nat.le_of_ble_eq_true rfl) rfl rfl (zt_goto rfl)
set_option maxRecDepth 100000 in
theorem g278_117 {E : mj_E} {d w c : Nat} {hi : Nat → Nat → Int32} {hl : Nat → Nat → Int64} (v1 : Int32) (v2 : Int32) (v3 : Int32) (v4 : Int32) : mj_den mj_P E d 278 117 [Value.ref 205, Value.int v1, Value.int v2, Value.int v3, Value.int v4] [] (mj_hw w c hi hl) = mj_bi (mj_dc mj_P E d 277 [Value.ref 205, Value.int v2] (mj_hw w c hi hl)) (fun x1 h1 => mj_den mj_P E d 278 128 [Value.ref 205, Value.int v1, Value.int v2, Value.int v3, Value.int v4] [Value.int x1, Value.int v3, Value.int v2, Value.ref 239] h1) := by
  rw [mj_den_eq, f278_117]
  exact zt_aload_n rfl rfl (zt_getr (mjkd205 _ _ _ _) (mjhr205_61 w c) rfl (zt_iload_n rfl rfl (zt_iload_n rfl rfl (zt_aload_n rfl rfl (zt_iload_n rfl rfl (zt_call0_1 rfl (mjkd205 _ _ _ _) (Nat.le_of_ble_eq_true rfl) rfl rfl))))))
set_option maxRecDepth 100000 in
theorem g278_128 {E : mj_E} {d w c : Nat} {hi : Nat → Nat → Int32} {hl : Nat → Nat → Int64} (v1 : Int32) (v2 : Int32) (v3 : Int32) (v4 : Int32) (s0 : Int32) (s1 : Int32) (s2 : Int32) : mj_den mj_P E d 278 128 [Value.ref 205, Value.int v1, Value.int v2, Value.int v3, Value.int v4] [Value.int s0, Value.int s1, Value.int s2, Value.ref 239] (mj_hw w c hi hl) = if s0 = 0 then mj_den mj_P E d 278 135 [Value.ref 205, Value.int v1, Value.int v2, Value.int v3, Value.int v4] [Value.int s1, Value.int s2, Value.ref 239] (mj_hw w c hi hl) else mj_den mj_P E d 278 136 [Value.ref 205, Value.int v1, Value.int v2, Value.int v3, Value.int v4] [Value.int (1 : Int32), Value.int s1, Value.int s2, Value.ref 239] (mj_hw w c hi hl) := by
  rw [mj_den_eq, f278_128]
  exact zt_if_eq rfl rfl (zt_iconst rfl (zt_goto rfl))
set_option maxRecDepth 100000 in
theorem g278_135 {E : mj_E} {d w c : Nat} {hi : Nat → Nat → Int32} {hl : Nat → Nat → Int64} (v1 : Int32) (v2 : Int32) (v3 : Int32) (v4 : Int32) (s0 : Int32) (s1 : Int32) : mj_den mj_P E d 278 135 [Value.ref 205, Value.int v1, Value.int v2, Value.int v3, Value.int v4] [Value.int s0, Value.int s1, Value.ref 239] (mj_hw w c hi hl) = mj_den mj_P E d 278 136 [Value.ref 205, Value.int v1, Value.int v2, Value.int v3, Value.int v4] [Value.int (0 : Int32), Value.int s0, Value.int s1, Value.ref 239] (mj_hw w c hi hl) := by
  rw [mj_den_eq, f278_135]
  exact zt_iconst rfl (zt_end rfl)
set_option maxRecDepth 100000 in
theorem g278_136 {E : mj_E} {d w c : Nat} {hi : Nat → Nat → Int32} {hl : Nat → Nat → Int64} (v1 : Int32) (v2 : Int32) (v3 : Int32) (v4 : Int32) (s0 : Int32) (s1 : Int32) (s2 : Int32) : mj_den mj_P E d 278 136 [Value.ref 205, Value.int v1, Value.int v2, Value.int v3, Value.int v4] [Value.int s0, Value.int s1, Value.int s2, Value.ref 239] (mj_hw w c hi hl) = if 0 ≤ s2 ∧ (s2).toNatClampNeg < 4096 then mj_den mj_P E d 278 138 [Value.ref 205, Value.int v1, Value.int v2, Value.int v3, Value.int v4] [] (mj_hw w c (mj_u hi 239 ((s2).toNatClampNeg) (s1 + s0)) hl) else none := by
  rw [mj_den_eq, f278_136]
  exact zt_iadd rfl (zt_iast (mjkd239 _ _ _ _) (mjln239 _ _ _ _) rfl rfl (zt_end rfl))
set_option maxRecDepth 100000 in
theorem g278_138 {E : mj_E} {d w c : Nat} {hi : Nat → Nat → Int32} {hl : Nat → Nat → Int64} (v1 : Int32) (v2 : Int32) (u3 : Value) (u4 : Value) : mj_den mj_P E d 278 138 [Value.ref 205, Value.int v1, Value.int v2, u3, u4] [] (mj_hw w c hi hl) = mj_den mj_P E d 278 52 [Value.ref 205, Value.int v1, Value.int (v2 + (1 : Int32)), u3, u4] [] (mj_hw w c hi hl) := by
  rw [mj_den_eq, f278_138]
  exact zt_iinc rfl (Nat.le_of_ble_eq_true rfl) rfl rfl (zt_goto rfl)
set_option maxRecDepth 100000 in
theorem g278_144 {E : mj_E} {d w c : Nat} {hi : Nat → Nat → Int32} {hl : Nat → Nat → Int64} (v1 : Int32) (v2 : Int32) (u3 : Value) (u4 : Value) : mj_den mj_P E d 278 144 [Value.ref 205, Value.int v1, Value.int v2, u3, u4] [] (mj_hw w c hi hl) = mj_bi (mj_dc mj_P E d 156 [Value.ref 205, Value.int v1] (mj_hw w c hi hl)) (fun x1 h1 => mj_den mj_P E d 278 149 [Value.ref 205, Value.int v1, Value.int v2, u3, u4] [Value.int x1] h1) := by
  rw [mj_den_eq, f278_144]
  exact zt_aload_n rfl rfl (zt_iload_n rfl rfl (zt_call0_1 rfl (mjkd205 _ _ _ _) (Nat.le_of_ble_eq_true rfl) rfl rfl))
set_option maxRecDepth 100000 in
theorem g278_149 {E : mj_E} {d w c : Nat} {hi : Nat → Nat → Int32} {hl : Nat → Nat → Int64} (v1 : Int32) (v2 : Int32) (u3 : Value) (u4 : Value) (s0 : Int32) : mj_den mj_P E d 278 149 [Value.ref 205, Value.int v1, Value.int v2, u3, u4] [Value.int s0] (mj_hw w c hi hl) = if 0 ≤ v1 ∧ (v1).toNatClampNeg < 4096 then some (some (Value.int (s0 - (hi 239 ((v1).toNatClampNeg)))), (mj_hw w c hi hl)) else none := by
  rw [mj_den_eq, f278_149]
  exact zt_aload_n rfl rfl (zt_getr (mjkd205 _ _ _ _) (mjhr205_61 w c) rfl (zt_iload_n rfl rfl (zt_iald (mjkd239 _ _ _ _) (mjln239 _ _ _ _) rfl rfl (zt_isub rfl (zt_ireturn0)))))
theorem xg278 (E : mj_E) (d : Nat) (h : mj_H) : mj_dc mj_P E (d + 1) 278 [Value.ref 205] h = mj_den mj_P E d 278 0 [Value.ref 205, Value.float 0, Value.float 0, Value.float 0, Value.float 0] [] h := mj_dc_eq mj_P E d 278 [Value.ref 205] h (Nat.le_of_ble_eq_true rfl)
set_option maxRecDepth 100000 in
theorem g279_0 {E : mj_E} {d w c : Nat} {hi : Nat → Nat → Int32} {hl : Nat → Nat → Int64} (v1 : Int32) : mj_den mj_P E d 279 0 [Value.ref 205, Value.int v1, Value.float 0, Value.float 0, Value.float 0] [] (mj_hw w c hi hl) = mj_bi (mj_dc mj_P E d 152 [Value.ref 205, Value.int v1, Value.int (0 : Int32), Value.int (1 : Int32)] (mj_hw w c (mj_u hi 205 0 (0 : Int32)) hl)) (fun x1 h1 => mj_den mj_P E d 279 12 [Value.ref 205, Value.int v1, Value.float 0, Value.float 0, Value.float 0] [Value.int x1] h1) := by
  rw [mj_den_eq, f279_0]
  exact zt_aload_n rfl rfl (zt_iconst rfl (zt_puti (mjkd205 _ _ _ _) rfl rfl (zt_aload_n rfl rfl (zt_iload_n rfl rfl (zt_iconst rfl (zt_iconst rfl (zt_call0_1 rfl (mjkd205 _ _ _ _) (Nat.le_of_ble_eq_true rfl) rfl rfl)))))))
set_option maxRecDepth 100000 in
theorem g279_12 {E : mj_E} {d w c : Nat} {hi : Nat → Nat → Int32} {hl : Nat → Nat → Int64} (v1 : Int32) (s0 : Int32) : mj_den mj_P E d 279 12 [Value.ref 205, Value.int v1, Value.float 0, Value.float 0, Value.float 0] [Value.int s0] (mj_hw w c hi hl) = if ¬ s0 = 0 then mj_den mj_P E d 279 17 [Value.ref 205, Value.int v1, Value.float 0, Value.float 0, Value.float 0] [] (mj_hw w c hi hl) else some (some (Value.int (-1 : Int32)), (mj_hw w c hi hl)) := by
  rw [mj_den_eq, f279_12]
  exact zt_if_ne rfl rfl (zt_iconst rfl (zt_ireturn0))
set_option maxRecDepth 100000 in
theorem g279_17 {E : mj_E} {d w c : Nat} {hi : Nat → Nat → Int32} {hl : Nat → Nat → Int64} (v1 : Int32) : mj_den mj_P E d 279 17 [Value.ref 205, Value.int v1, Value.float 0, Value.float 0, Value.float 0] [] (mj_hw w c hi hl) = if ¬ v1 = 0 then mj_den mj_P E d 279 26 [Value.ref 205, Value.int v1, Value.float 0, Value.float 0, Value.float 0] [] (mj_hw w c hi hl) else mj_bi (mj_dc mj_P E d 278 [Value.ref 205] (mj_hw w c hi hl)) (fun x1 h1 => mj_den mj_P E d 279 25 [Value.ref 205, Value.int v1, Value.float 0, Value.float 0, Value.float 0] [Value.int x1] h1) := by
  rw [mj_den_eq, f279_17]
  exact zt_iload_n rfl rfl (zt_if_ne rfl rfl (zt_aload_n rfl rfl (zt_call0_1 rfl (mjkd205 _ _ _ _) (Nat.le_of_ble_eq_true rfl) rfl rfl)))
set_option maxRecDepth 100000 in
theorem g279_25 {E : mj_E} {d w c : Nat} {hi : Nat → Nat → Int32} {hl : Nat → Nat → Int64} (v1 : Int32) (s0 : Int32) : mj_den mj_P E d 279 25 [Value.ref 205, Value.int v1, Value.float 0, Value.float 0, Value.float 0] [Value.int s0] (mj_hw w c hi hl) = some (some (Value.int s0), (mj_hw w c hi hl)) := by
  rw [mj_den_eq, f279_25]
  exact zt_ireturn0
set_option maxRecDepth 100000 in
theorem g279_26 {E : mj_E} {d w c : Nat} {hi : Nat → Nat → Int32} {hl : Nat → Nat → Int64} (v1 : Int32) : mj_den mj_P E d 279 26 [Value.ref 205, Value.int v1, Value.float 0, Value.float 0, Value.float 0] [] (mj_hw w c hi hl) = mj_den mj_P E d 279 30 [Value.ref 205, Value.int v1, Value.int (0 : Int32), Value.int (0 : Int32), Value.float 0] [] (mj_hw w c hi hl) := by
  rw [mj_den_eq, f279_26]
  exact zt_iconst rfl (zt_istore_n (Nat.le_of_ble_eq_true rfl) rfl rfl (zt_iconst rfl (zt_istore_n (Nat.le_of_ble_eq_true rfl) rfl rfl (zt_end rfl))))
set_option maxRecDepth 100000 in
theorem g279_30 {E : mj_E} {d w c : Nat} {hi : Nat → Nat → Int32} {hl : Nat → Nat → Int64} (v1 : Int32) (v2 : Int32) (v3 : Int32) (u4 : Value) : mj_den mj_P E d 279 30 [Value.ref 205, Value.int v1, Value.int v2, Value.int v3, u4] [] (mj_hw w c hi hl) = if (hi 205 58) ≤ v3 then mj_den mj_P E d 279 84 [Value.ref 205, Value.int v1, Value.int v2, Value.int v3, u4] [] (mj_hw w c hi hl) else mj_den mj_P E d 279 43 [Value.ref 205, Value.int v1, Value.int v2, Value.int v3, Value.int (v3 + (1 : Int32))] [] (mj_hw w c hi hl) := by
  rw [mj_den_eq, f279_30]
  exact zt_iload_n rfl rfl (zt_aload_n rfl rfl (zt_geti (mjkd205 _ _ _ _) rfl rfl (zt_icmp_ge rfl rfl (zt_iload_n rfl rfl (zt_iconst rfl (zt_iadd rfl (zt_istore (Nat.le_of_ble_eq_true rfl) rfl rfl (zt_end rfl))))))))
set_option maxRecDepth 100000 in
theorem g279_43 {E : mj_E} {d w c : Nat} {hi : Nat → Nat → Int32} {hl : Nat → Nat → Int64} (v1 : Int32) (v2 : Int32) (v3 : Int32) (v4 : Int32) : mj_den mj_P E d 279 43 [Value.ref 205, Value.int v1, Value.int v2, Value.int v3, Value.int v4] [] (mj_hw w c hi hl) = if (hi 205 58) ≤ v4 then mj_den mj_P E d 279 78 [Value.ref 205, Value.int v1, Value.int v2, Value.int v3, Value.int v4] [] (mj_hw w c hi hl) else if 0 ≤ v3 ∧ (v3).toNatClampNeg < 12 then if 0 ≤ v4 ∧ (v4).toNatClampNeg < 12 then if (hi 237 ((v3).toNatClampNeg)) ≤ (hi 237 ((v4).toNatClampNeg)) then mj_den mj_P E d 279 72 [Value.ref 205, Value.int v1, Value.int v2, Value.int v3, Value.int v4] [] (mj_hw w c hi hl) else mj_den mj_P E d 279 72 [Value.ref 205, Value.int v1, Value.int (v2 + (1 : Int32)), Value.int v3, Value.int v4] [] (mj_hw w c hi hl) else none else none := by
  rw [mj_den_eq, f279_43]
  exact zt_iload rfl rfl (zt_aload_n rfl rfl (zt_geti (mjkd205 _ _ _ _) rfl rfl (zt_icmp_ge rfl rfl (zt_aload_n rfl rfl (zt_getr (mjkd205 _ _ _ _) (mjhr205_59 w c) rfl (zt_iload_n rfl rfl (zt_iald (mjkd237 _ _ _ _) (mjln237 _ _ _ _) rfl rfl (zt_aload_n rfl rfl (zt_getr (mjkd205 _ _ _ _) (mjhr205_59 w c) rfl (zt_iload rfl rfl (zt_iald (mjkd237 _ _ _ _) (mjln237 _ _ _ _) rfl rfl (zt_icmp_le rfl rfl (zt_iload_n rfl rfl (zt_iconst rfl (zt_iadd rfl (zt_istore_n (Nat.le_of_ble_eq_true rfl) rfl rfl (zt_end rfl)))))))))))))))))
set_option maxRecDepth 100000 in
theorem g279_72 {E : mj_E} {d w c : Nat} {hi : Nat → Nat → Int32} {hl : Nat → Nat → Int64} (v1 : Int32) (v2 : Int32) (v3 : Int32) (v4 : Int32) : mj_den mj_P E d 279 72 [Value.ref 205, Value.int v1, Value.int v2, Value.int v3, Value.int v4] [] (mj_hw w c hi hl) = mj_den mj_P E d 279 43 [Value.ref 205, Value.int v1, Value.int v2, Value.int v3, Value.int (v4 + (1 : Int32))] [] (mj_hw w c hi hl) := by
  rw [mj_den_eq, f279_72]
  exact zt_iinc rfl (Nat.le_of_ble_eq_true rfl) rfl rfl (zt_goto rfl)
set_option maxRecDepth 100000 in
theorem g279_78 {E : mj_E} {d w c : Nat} {hi : Nat → Nat → Int32} {hl : Nat → Nat → Int64} (v1 : Int32) (v2 : Int32) (v3 : Int32) (v4 : Int32) : mj_den mj_P E d 279 78 [Value.ref 205, Value.int v1, Value.int v2, Value.int v3, Value.int v4] [] (mj_hw w c hi hl) = mj_den mj_P E d 279 30 [Value.ref 205, Value.int v1, Value.int v2, Value.int (v3 + (1 : Int32)), Value.int v4] [] (mj_hw w c hi hl) := by
  rw [mj_den_eq, f279_78]
  exact zt_iinc rfl (Nat.le_of_ble_eq_true rfl) rfl rfl (zt_goto rfl)
set_option maxRecDepth 100000 in
theorem g279_84 {E : mj_E} {d w c : Nat} {hi : Nat → Nat → Int32} {hl : Nat → Nat → Int64} (v1 : Int32) (v2 : Int32) (v3 : Int32) (u4 : Value) : mj_den mj_P E d 279 84 [Value.ref 205, Value.int v1, Value.int v2, Value.int v3, u4] [] (mj_hw w c hi hl) = some (some (Value.int v2), (mj_hw w c hi hl)) := by
  rw [mj_den_eq, f279_84]
  exact zt_iload_n rfl rfl (zt_ireturn0)
theorem xg279 (E : mj_E) (d : Nat) (a1 : Int32) (h : mj_H) : mj_dc mj_P E (d + 1) 279 [Value.ref 205, Value.int a1] h = mj_den mj_P E d 279 0 [Value.ref 205, Value.int a1, Value.float 0, Value.float 0, Value.float 0] [] h := mj_dc_eq mj_P E d 279 [Value.ref 205, Value.int a1] h (Nat.le_of_ble_eq_true rfl)
