set_option maxRecDepth 100000 in
theorem f139_0 : mj_find (mj_P 139).2.2.2.2 0 = [(.aload_n 0, 1, 0, []), (.getfield 61, 3, 0, [11, 8, 3, 648]), (.aload_n 0, 1, 0, []), (.getfield 12, 3, 0, [11, 0, 3, 640]), (.getfield 274, 3, 0, [10, 5, 3, 423]), (.invokevirtual 346, 3, 0, [0, 38, 4, 1, 0, 1283, 1284, 1285, 153, 1286])] := rfl
set_option maxRecDepth 100000 in
theorem q139_0 (E : mj_E) (d w c : Nat) (hi : Nat → Nat → Int32) (hl : Nat → Nat → Int64) (v1 : Int32) : mj_den mj_P E d 139 0 [Value.ref 0, Value.int v1] [] (mj_hw w c hi hl) = mj_bv (mj_dc mj_P E d 38 [Value.ref 194, Value.ref 34] (mj_hw w c hi hl)) (fun h1 => mj_den mj_P E d 139 14 [Value.ref 0, Value.int v1] [] h1) := by
  rw [mj_den_eq, f139_0]
  exact zt_aload_n rfl rfl (zt_getr (mjkd0 _ _ _ _) (mjhr0_8 w c) rfl (zt_aload_n rfl rfl (zt_getr (mjkd0 _ _ _ _) (mjhr0_0 w c) rfl (zt_getr (mjkd1 _ _ _ _) (mjhr1_5 w c) rfl (zt_call0_0 rfl (mjkd194 _ _ _ _) (Nat.le_of_ble_eq_true rfl) rfl rfl)))))
set_option maxRecDepth 100000 in
theorem f139_14 : mj_find (mj_P 139).2.2.2.2 14 = [(.aload_n 0, 1, 0, []), (.getfield 61, 3, 0, [11, 8, 3, 648]), (.iload_n 1, 1, 0, []), (.invokevirtual 271, 3, 0, [0, 27, 4, 1, 1, 1153, 1154, 1155, 153, 1156])] := rfl
set_option maxRecDepth 100000 in
theorem q139_14 (E : mj_E) (d w c : Nat) (hi : Nat → Nat → Int32) (hl : Nat → Nat → Int64) (v1 : Int32) : mj_den mj_P E d 139 14 [Value.ref 0, Value.int v1] [] (mj_hw w c hi hl) = mj_bi (mj_dc mj_P E d 27 [Value.ref 194, Value.int v1] (mj_hw w c hi hl)) (fun x1 h1 => mj_den mj_P E d 139 22 [Value.ref 0, Value.int v1] [Value.int x1] h1) := by
  rw [mj_den_eq, f139_14]
  exact zt_aload_n rfl rfl (zt_getr (mjkd0 _ _ _ _) (mjhr0_8 w c) rfl (zt_iload_n rfl rfl (zt_call0_1 rfl (mjkd194 _ _ _ _) (Nat.le_of_ble_eq_true rfl) rfl rfl)))
set_option maxRecDepth 100000 in
theorem f139_22 : mj_find (mj_P 139).2.2.2.2 22 = [(.ireturn, 1, 0, [0])] := rfl
set_option maxRecDepth 100000 in
theorem q139_22 (E : mj_E) (d w c : Nat) (hi : Nat → Nat → Int32) (hl : Nat → Nat → Int64) (v1 : Int32) (s0 : Int32) : mj_den mj_P E d 139 22 [Value.ref 0, Value.int v1] [Value.int s0] (mj_hw w c hi hl) = some (some (Value.int s0), (mj_hw w c hi hl)) := by
  rw [mj_den_eq, f139_22]
  exact zt_ireturn0
set_option maxRecDepth 100000 in
theorem f140_0 : mj_find (mj_P 140).2.2.2.2 0 = [(.aload_n 0, 1, 0, []), (.getfield 12, 3, 0, [11, 0, 3, 640]), (.getfield 274, 3, 0, [10, 5, 3, 423]), (.astore_n 2, 1, 0, []), (.iload_n 1, 1, 0, []), (.iconst (-1), 1, (-1), []), (.if_icmp .ne 10, 3, 0, [20]), (.aload_n 2, 1, 0, []), (.iconst 0, 1, 0, []), (.putfield 349, 3, 0, [9, 9, 0, 385]), (.iconst 0, 1, 0, []), (.ireturn, 1, 0, [0])] := rfl
set_option maxRecDepth 100000 in
theorem q140_0 (E : mj_E) (d w c : Nat) (hi : Nat → Nat → Int32) (hl : Nat → Nat → Int64) (v1 : Int32) : mj_den mj_P E d 140 0 [Value.ref 0, Value.int v1, Value.float 0] [] (mj_hw w c hi hl) = if ¬ v1 = (-1 : Int32) then mj_den mj_P E d 140 20 [Value.ref 0, Value.int v1, Value.ref 34] [] (mj_hw w c hi hl) else some (some (Value.int (0 : Int32)), (mj_hw w c (mj_u hi 34 9 (0 : Int32)) hl)) := by
  rw [mj_den_eq, f140_0]
  exact zt_aload_n rfl rfl (zt_getr (mjkd0 _ _ _ _) (mjhr0_0 w c) rfl (zt_getr (mjkd1 _ _ _ _) (mjhr1_5 w c) rfl (zt_astore_n (Nat.le_of_ble_eq_true rfl) rfl rfl (zt_iload_n rfl rfl (zt_iconst rfl (zt_icmp_ne rfl rfl (zt_aload_n rfl rfl (zt_iconst rfl (zt_puti (mjkd34 _ _ _ _) rfl rfl (zt_iconst rfl (zt_ireturn0)))))))))))
set_option maxRecDepth 100000 in
theorem f140_20 : mj_find (mj_P 140).2.2.2.2 20 = [(.iload_n 1, 1, 0, []), (.bipush 99, 2, 99, []), (.invokestatic 82, 3, 0, [1, 147, 0, 2, 1, 683, 684, 143, 685])] := rfl
set_option maxRecDepth 100000 in
theorem q140_20 (E : mj_E) (d w c : Nat) (hi : Nat → Nat → Int32) (hl : Nat → Nat → Int64) (v1 : Int32) : mj_den mj_P E d 140 20 [Value.ref 0, Value.int v1, Value.ref 34] [] (mj_hw w c hi hl) = mj_bi (mj_dc mj_P E d 147 [Value.int v1, Value.int (99 : Int32)] (mj_hw w c hi hl)) (fun x1 h1 => mj_den mj_P E d 140 26 [Value.ref 0, Value.int v1, Value.ref 34] [Value.int x1] h1) := by
  rw [mj_den_eq, f140_20]
  exact zt_iload_n rfl rfl (zt_bipush rfl (zt_call1_1 (Nat.le_of_ble_eq_true rfl) rfl (Nat.le_of_ble_eq_true rfl) rfl rfl))
set_option maxRecDepth 100000 in
theorem f140_26 : mj_find (mj_P 140).2.2.2.2 26 = [(.ifCond .eq 12, 3, 0, [38]), (.aload_n 2, 1, 0, []), (.getfield 349, 3, 0, [9, 9, 0, 385]), (.bipush 12, 2, 12, []), (.if_icmp .lt 5, 3, 0, [40])] := rfl
set_option maxRecDepth 100000 in
theorem q140_26 (E : mj_E) (d w c : Nat) (hi : Nat → Nat → Int32) (hl : Nat → Nat → Int64) (v1 : Int32) (s0 : Int32) : mj_den mj_P E d 140 26 [Value.ref 0, Value.int v1, Value.ref 34] [Value.int s0] (mj_hw w c hi hl) = if s0 = 0 then mj_den mj_P E d 140 38 [Value.ref 0, Value.int v1, Value.ref 34] [] (mj_hw w c hi hl) else if (hi 34 9) < (12 : Int32) then mj_den mj_P E d 140 40 [Value.ref 0, Value.int v1, Value.ref 34] [] (mj_hw w c hi hl) else mj_den mj_P E d 140 38 [Value.ref 0, Value.int v1, Value.ref 34] [] (mj_hw w c hi hl) := by
  rw [mj_den_eq, f140_26]
  exact zt_if_eq rfl rfl (zt_aload_n rfl rfl (zt_geti (mjkd34 _ _ _ _) rfl rfl (zt_bipush rfl (zt_icmp_lt rfl rfl (zt_end rfl)))))
set_option maxRecDepth 100000 in
theorem f140_38 : mj_find (mj_P 140).2.2.2.2 38 = [(.iconst (-1), 1, (-1), []), (.ireturn, 1, 0, [0])] := rfl
set_option maxRecDepth 100000 in
theorem q140_38 (E : mj_E) (d w c : Nat) (hi : Nat → Nat → Int32) (hl : Nat → Nat → Int64) (v1 : Int32) : mj_den mj_P E d 140 38 [Value.ref 0, Value.int v1, Value.ref 34] [] (mj_hw w c hi hl) = some (some (Value.int (-1 : Int32)), (mj_hw w c hi hl)) := by
  rw [mj_den_eq, f140_38]
  exact zt_iconst rfl (zt_ireturn0)
set_option maxRecDepth 100000 in
theorem f140_40 : mj_find (mj_P 140).2.2.2.2 40 = [(.aload_n 2, 1, 0, []), (.getfield 352, 3, 0, [9, 10, 3, 387]), (.aload_n 2, 1, 0, []), (.getfield 349, 3, 0, [9, 9, 0, 385]), (.iload_n 1, 1, 0, []), (.iastore, 1, 0, []), (.aload_n 2, 1, 0, []), (.dup, 1, 0, []), (.getfield 349, 3, 0, [9, 9, 0, 385]), (.iconst 1, 1, 1, []), (.iadd, 1, 0, []), (.putfield 349, 3, 0, [9, 9, 0, 385]), (.aload_n 2, 1, 0, []), (.getfield 349, 3, 0, [9, 9, 0, 385]), (.ireturn, 1, 0, [0])] := rfl
set_option maxRecDepth 100000 in
theorem q140_40 (E : mj_E) (d w c : Nat) (hi : Nat → Nat → Int32) (hl : Nat → Nat → Int64) (v1 : Int32) : mj_den mj_P E d 140 40 [Value.ref 0, Value.int v1, Value.ref 34] [] (mj_hw w c hi hl) = if 0 ≤ (hi 34 9) ∧ ((hi 34 9)).toNatClampNeg < 12 then some (some (Value.int ((hi 34 9) + (1 : Int32))), (mj_hw w c (mj_u (mj_u hi 41 (((hi 34 9)).toNatClampNeg) v1) 34 9 ((hi 34 9) + (1 : Int32))) hl)) else none := by
  rw [mj_den_eq, f140_40]
  exact zt_aload_n rfl rfl (zt_getr (mjkd34 _ _ _ _) (mjhr34_10 w c) rfl (zt_aload_n rfl rfl (zt_geti (mjkd34 _ _ _ _) rfl rfl (zt_iload_n rfl rfl (zt_iast (mjkd41 _ _ _ _) (mjln41 _ _ _ _) rfl rfl (zt_aload_n rfl rfl (zt_dupr rfl (zt_geti (mjkd34 _ _ _ _) rfl rfl (zt_iconst rfl (zt_iadd rfl (zt_puti (mjkd34 _ _ _ _) rfl rfl (zt_aload_n rfl rfl (zt_geti (mjkd34 _ _ _ _) rfl rfl (zt_ireturn0))))))))))))))
set_option maxRecDepth 100000 in
theorem f141_0 : mj_find (mj_P 141).2.2.2.2 0 = [(.iload_n 1, 1, 0, []), (.ifCond .ne 31, 3, 0, [32]), (.aload_n 0, 1, 0, []), (.getfield 54, 3, 0, [11, 7, 3, 647]), (.aload_n 0, 1, 0, []), (.getfield 12, 3, 0, [11, 0, 3, 640]), (.getfield 274, 3, 0, [10, 5, 3, 423]), (.getfield 352, 3, 0, [9, 10, 3, 387]), (.aload_n 0, 1, 0, []), (.getfield 12, 3, 0, [11, 0, 3, 640]), (.getfield 274, 3, 0, [10, 5, 3, 423]), (.getfield 349, 3, 0, [9, 9, 0, 385]), (.invokevirtual 355, 3, 0, [0, 95, 8, 2, 1, 1308, 1309, 1310, 152, 1311])] := rfl
set_option maxRecDepth 100000 in
theorem q141_0 (E : mj_E) (d w c : Nat) (hi : Nat → Nat → Int32) (hl : Nat → Nat → Int64) (v1 : Int32) : mj_den mj_P E d 141 0 [Value.ref 0, Value.int v1] [] (mj_hw w c hi hl) = if ¬ v1 = 0 then mj_den mj_P E d 141 32 [Value.ref 0, Value.int v1] [] (mj_hw w c hi hl) else mj_bi (mj_dc mj_P E d 95 [Value.ref 189, Value.ref 41, Value.int (hi 34 9)] (mj_hw w c hi hl)) (fun x1 h1 => mj_den mj_P E d 141 31 [Value.ref 0, Value.int v1] [Value.int x1] h1) := by
  rw [mj_den_eq, f141_0]
  exact zt_iload_n rfl rfl (zt_if_ne rfl rfl (zt_aload_n rfl rfl (zt_getr (mjkd0 _ _ _ _) (mjhr0_7 w c) rfl (zt_aload_n rfl rfl (zt_getr (mjkd0 _ _ _ _) (mjhr0_0 w c) rfl (zt_getr (mjkd1 _ _ _ _) (mjhr1_5 w c) rfl (zt_getr (mjkd34 _ _ _ _) (mjhr34_10 w c) rfl (zt_aload_n rfl rfl (zt_getr (mjkd0 _ _ _ _) (mjhr0_0 w c) rfl (zt_getr (mjkd1 _ _ _ _) (mjhr1_5 w c) rfl (zt_geti (mjkd34 _ _ _ _) rfl rfl (zt_call0_1 rfl (mjkd189 _ _ _ _) (Nat.le_of_ble_eq_true rfl) rfl rfl))))))))))))
set_option maxRecDepth 100000 in
theorem f141_31 : mj_find (mj_P 141).2.2.2.2 31 = [(.ireturn, 1, 0, [0])] := rfl
set_option maxRecDepth 100000 in
theorem q141_31 (E : mj_E) (d w c : Nat) (hi : Nat → Nat → Int32) (hl : Nat → Nat → Int64) (v1 : Int32) (s0 : Int32) : mj_den mj_P E d 141 31 [Value.ref 0, Value.int v1] [Value.int s0] (mj_hw w c hi hl) = some (some (Value.int s0), (mj_hw w c hi hl)) := by
  rw [mj_den_eq, f141_31]
  exact zt_ireturn0
set_option maxRecDepth 100000 in
theorem f141_32 : mj_find (mj_P 141).2.2.2.2 32 = [(.iload_n 1, 1, 0, []), (.iconst 1, 1, 1, []), (.if_icmp .ne 33, 3, 0, [67]), (.aload_n 0, 1, 0, []), (.getfield 68, 3, 0, [11, 9, 3, 649]), (.aload_n 0, 1, 0, []), (.getfield 12, 3, 0, [11, 0, 3, 640]), (.getfield 274, 3, 0, [10, 5, 3, 423]), (.getfield 352, 3, 0, [9, 10, 3, 387]), (.aload_n 0, 1, 0, []), (.getfield 12, 3, 0, [11, 0, 3, 640]), (.getfield 274, 3, 0, [10, 5, 3, 423]), (.getfield 349, 3, 0, [9, 9, 0, 385]), (.invokevirtual 359, 3, 0, [0, 10, 1, 2, 1, 1324, 1325, 1326, 154, 1327])] := rfl
set_option maxRecDepth 100000 in
theorem q141_32 (E : mj_E) (d w c : Nat) (hi : Nat → Nat → Int32) (hl : Nat → Nat → Int64) (v1 : Int32) : mj_den mj_P E d 141 32 [Value.ref 0, Value.int v1] [] (mj_hw w c hi hl) = if ¬ v1 = (1 : Int32) then mj_den mj_P E d 141 67 [Value.ref 0, Value.int v1] [] (mj_hw w c hi hl) else mj_bi (mj_dc mj_P E d 10 [Value.ref 202, Value.ref 41, Value.int (hi 34 9)] (mj_hw w c hi hl)) (fun x1 h1 => mj_den mj_P E d 141 64 [Value.ref 0, Value.int v1] [Value.int x1] h1) := by
  rw [mj_den_eq, f141_32]
  exact zt_iload_n rfl rfl (zt_iconst rfl (zt_icmp_ne rfl rfl (zt_aload_n rfl rfl (zt_getr (mjkd0 _ _ _ _) (mjhr0_9 w c) rfl (zt_aload_n rfl rfl (zt_getr (mjkd0 _ _ _ _) (mjhr0_0 w c) rfl (zt_getr (mjkd1 _ _ _ _) (mjhr1_5 w c) rfl (zt_getr (mjkd34 _ _ _ _) (mjhr34_10 w c) rfl (zt_aload_n rfl rfl (zt_getr (mjkd0 _ _ _ _) (mjhr0_0 w c) rfl (zt_getr (mjkd1 _ _ _ _) (mjhr1_5 w c) rfl (zt_geti (mjkd34 _ _ _ _) rfl rfl (zt_call0_1 rfl (mjkd202 _ _ _ _) (Nat.le_of_ble_eq_true rfl) rfl rfl)))))))))))))
set_option maxRecDepth 100000 in
theorem f141_64 : mj_find (mj_P 141).2.2.2.2 64 = [(.goto 4, 3, 0, [68])] := rfl
set_option maxRecDepth 100000 in
theorem q141_64 (E : mj_E) (d w c : Nat) (hi : Nat → Nat → Int32) (hl : Nat → Nat → Int64) (v1 : Int32) (s0 : Int32) : mj_den mj_P E d 141 64 [Value.ref 0, Value.int v1] [Value.int s0] (mj_hw w c hi hl) = mj_den mj_P E d 141 68 [Value.ref 0, Value.int v1] [Value.int s0] (mj_hw w c hi hl) := by
  rw [mj_den_eq, f141_64]
  exact zt_goto rfl
set_option maxRecDepth 100000 in
theorem f141_67 : mj_find (mj_P 141).2.2.2.2 67 = [(.iconst (-1), 1, (-1), [])] := rfl
set_option maxRecDepth 100000 in
theorem q141_67 (E : mj_E) (d w c : Nat) (hi : Nat → Nat → Int32) (hl : Nat → Nat → Int64) (v1 : Int32) : mj_den mj_P E d 141 67 [Value.ref 0, Value.int v1] [] (mj_hw w c hi hl) = mj_den mj_P E d 141 68 [Value.ref 0, Value.int v1] [Value.int (-1 : Int32)] (mj_hw w c hi hl) := by
  rw [mj_den_eq, f141_67]
  exact zt_iconst rfl (zt_end rfl)
set_option maxRecDepth 100000 in
theorem f141_68 : mj_find (mj_P 141).2.2.2.2 68 = [(.ireturn, 1, 0, [0])] := rfl
set_option maxRecDepth 100000 in
theorem q141_68 (E : mj_E) (d w c : Nat) (hi : Nat → Nat → Int32) (hl : Nat → Nat → Int64) (v1 : Int32) (s0 : Int32) : mj_den mj_P E d 141 68 [Value.ref 0, Value.int v1] [Value.int s0] (mj_hw w c hi hl) = some (some (Value.int s0), (mj_hw w c hi hl)) := by
  rw [mj_den_eq, f141_68]
  exact zt_ireturn0
set_option maxRecDepth 100000 in
theorem f142_0 : mj_find (mj_P 142).2.2.2.2 0 = [(.iload_n 1, 1, 0, []), (.iconst 1, 1, 1, []), (.invokestatic 82, 3, 0, [1, 147, 0, 2, 1, 683, 684, 143, 685])] := rfl
set_option maxRecDepth 100000 in
theorem q142_0 (E : mj_E) (d w c : Nat) (hi : Nat → Nat → Int32) (hl : Nat → Nat → Int64) (v1 : Int32) : mj_den mj_P E d 142 0 [Value.ref 0, Value.int v1, Value.float 0] [] (mj_hw w c hi hl) = mj_bi (mj_dc mj_P E d 147 [Value.int v1, Value.int (1 : Int32)] (mj_hw w c hi hl)) (fun x1 h1 => mj_den mj_P E d 142 5 [Value.ref 0, Value.int v1, Value.float 0] [Value.int x1] h1) := by
  rw [mj_den_eq, f142_0]
  exact zt_iload_n rfl rfl (zt_iconst rfl (zt_call1_1 (Nat.le_of_ble_eq_true rfl) rfl (Nat.le_of_ble_eq_true rfl) rfl rfl))
set_option maxRecDepth 100000 in
theorem f142_5 : mj_find (mj_P 142).2.2.2.2 5 = [(.ifCond .ne 5, 3, 0, [10]), (.iconst (-1), 1, (-1), []), (.ireturn, 1, 0, [0])] := rfl
set_option maxRecDepth 100000 in
theorem q142_5 (E : mj_E) (d w c : Nat) (hi : Nat → Nat → Int32) (hl : Nat → Nat → Int64) (v1 : Int32) (s0 : Int32) : mj_den mj_P E d 142 5 [Value.ref 0, Value.int v1, Value.float 0] [Value.int s0] (mj_hw w c hi hl) = if ¬ s0 = 0 then mj_den mj_P E d 142 10 [Value.ref 0, Value.int v1, Value.float 0] [] (mj_hw w c hi hl) else some (some (Value.int (-1 : Int32)), (mj_hw w c hi hl)) := by
  rw [mj_den_eq, f142_5]
  exact zt_if_ne rfl rfl (zt_iconst rfl (zt_ireturn0))
set_option maxRecDepth 100000 in
theorem f142_10 : mj_find (mj_P 142).2.2.2.2 10 = [(.aload_n 0, 1, 0, []), (.getfield 68, 3, 0, [11, 9, 3, 649]), (.aload_n 0, 1, 0, []), (.getfield 12, 3, 0, [11, 0, 3, 640]), (.getfield 72, 3, 0, [10, 0, 3, 412]), (.invokevirtual 362, 3, 0, [0, 13, 1, 1, 1, 1332, 1333, 1334, 154, 1335])] := rfl
set_option maxRecDepth 100000 in
theorem q142_10 (E : mj_E) (d w c : Nat) (hi : Nat → Nat → Int32) (hl : Nat → Nat → Int64) (v1 : Int32) : mj_den mj_P E d 142 10 [Value.ref 0, Value.int v1, Value.float 0] [] (mj_hw w c hi hl) = mj_bi (mj_dc mj_P E d 13 [Value.ref 202, Value.ref 2] (mj_hw w c hi hl)) (fun x1 h1 => mj_den mj_P E d 142 24 [Value.ref 0, Value.int v1, Value.float 0] [Value.int x1] h1) := by
  rw [mj_den_eq, f142_10]
  exact zt_aload_n rfl rfl (zt_getr (mjkd0 _ _ _ _) (mjhr0_9 w c) rfl (zt_aload_n rfl rfl (zt_getr (mjkd0 _ _ _ _) (mjhr0_0 w c) rfl (zt_getr (mjkd1 _ _ _ _) (mjhr1_0 w c) rfl (zt_call0_1 rfl (mjkd202 _ _ _ _) (Nat.le_of_ble_eq_true rfl) rfl rfl)))))
set_option maxRecDepth 100000 in
theorem f142_24 : mj_find (mj_P 142).2.2.2.2 24 = [(.istore_n 2, 1, 0, []), (.iload_n 1, 1, 0, []), (.ifCond .eq 8, 3, 0, [34]), (.iload_n 2, 1, 0, []), (.iconst (-1), 1, (-1), []), (.if_icmp .ne 5, 3, 0, [36])] := rfl
set_option maxRecDepth 100000 in
theorem q142_24 (E : mj_E) (d w c : Nat) (hi : Nat → Nat → Int32) (hl : Nat → Nat → Int64) (v1 : Int32) (s0 : Int32) : mj_den mj_P E d 142 24 [Value.ref 0, Value.int v1, Value.float 0] [Value.int s0] (mj_hw w c hi hl) = if v1 = 0 then mj_den mj_P E d 142 34 [Value.ref 0, Value.int v1, Value.int s0] [] (mj_hw w c hi hl) else if ¬ s0 = (-1 : Int32) then mj_den mj_P E d 142 36 [Value.ref 0, Value.int v1, Value.int s0] [] (mj_hw w c hi hl) else mj_den mj_P E d 142 34 [Value.ref 0, Value.int v1, Value.int s0] [] (mj_hw w c hi hl) := by
  rw [mj_den_eq, f142_24]
  exact zt_istore_n (Nat.le_of_ble_eq_true rfl) rfl rfl (zt_iload_n rfl rfl (zt_if_eq rfl rfl (zt_iload_n rfl rfl (zt_iconst rfl (zt_icmp_ne rfl rfl (zt_end rfl))))))
set_option maxRecDepth 100000 in
theorem f142_34 : mj_find (mj_P 142).2.2.2.2 34 = [(.iload_n 2, 1, 0, []), (.ireturn, 1, 0, [0])] := rfl
set_option maxRecDepth 100000 in
theorem q142_34 (E : mj_E) (d w c : Nat) (hi : Nat → Nat → Int32) (hl : Nat → Nat → Int64) (v1 : Int32) (v2 : Int32) : mj_den mj_P E d 142 34 [Value.ref 0, Value.int v1, Value.int v2] [] (mj_hw w c hi hl) = some (some (Value.int v2), (mj_hw w c hi hl)) := by
  rw [mj_den_eq, f142_34]
  exact zt_iload_n rfl rfl (zt_ireturn0)
set_option maxRecDepth 100000 in
theorem f142_36 : mj_find (mj_P 142).2.2.2.2 36 = [(.aload_n 0, 1, 0, []), (.getfield 68, 3, 0, [11, 9, 3, 649]), (.aload_n 0, 1, 0, []), (.getfield 12, 3, 0, [11, 0, 3, 640]), (.getfield 72, 3, 0, [10, 0, 3, 412]), (.iload_n 2, 1, 0, []), (.invokevirtual 366, 3, 0, [0, 14, 1, 2, 1, 1350, 1337, 1338, 154, 1339])] := rfl
set_option maxRecDepth 100000 in
theorem q142_36 (E : mj_E) (d w c : Nat) (hi : Nat → Nat → Int32) (hl : Nat → Nat → Int64) (v1 : Int32) (v2 : Int32) : mj_den mj_P E d 142 36 [Value.ref 0, Value.int v1, Value.int v2] [] (mj_hw w c hi hl) = mj_bi (mj_dc mj_P E d 14 [Value.ref 202, Value.ref 2, Value.int v2] (mj_hw w c hi hl)) (fun x1 h1 => mj_den mj_P E d 142 51 [Value.ref 0, Value.int v1, Value.int v2] [Value.int x1] h1) := by
  rw [mj_den_eq, f142_36]
  exact zt_aload_n rfl rfl (zt_getr (mjkd0 _ _ _ _) (mjhr0_9 w c) rfl (zt_aload_n rfl rfl (zt_getr (mjkd0 _ _ _ _) (mjhr0_0 w c) rfl (zt_getr (mjkd1 _ _ _ _) (mjhr1_0 w c) rfl (zt_iload_n rfl rfl (zt_call0_1 rfl (mjkd202 _ _ _ _) (Nat.le_of_ble_eq_true rfl) rfl rfl))))))
set_option maxRecDepth 100000 in
theorem f142_51 : mj_find (mj_P 142).2.2.2.2 51 = [(.ireturn, 1, 0, [0])] := rfl
set_option maxRecDepth 100000 in
theorem q142_51 (E : mj_E) (d w c : Nat) (hi : Nat → Nat → Int32) (hl : Nat → Nat → Int64) (v1 : Int32) (v2 : Int32) (s0 : Int32) : mj_den mj_P E d 142 51 [Value.ref 0, Value.int v1, Value.int v2] [Value.int s0] (mj_hw w c hi hl) = some (some (Value.int s0), (mj_hw w c hi hl)) := by
  rw [mj_den_eq, f142_51]
  exact zt_ireturn0
set_option maxRecDepth 100000 in
theorem f143_0 : mj_find (mj_P 143).2.2.2.2 0 = [(.aload_n 0, 1, 0, []), (.getfield 12, 3, 0, [11, 0, 3, 640]), (.getfield 72, 3, 0, [10, 0, 3, 412]), (.astore_n 2, 1, 0, []), (.iload_n 1, 1, 0, []), (.iconst 2, 1, 2, []), (.invokestatic 82, 3, 0, [1, 147, 0, 2, 1, 683, 684, 143, 685])] := rfl
set_option maxRecDepth 100000 in
theorem q143_0 (E : mj_E) (d w c : Nat) (hi : Nat → Nat → Int32) (hl : Nat → Nat → Int64) (v1 : Int32) : mj_den mj_P E d 143 0 [Value.ref 0, Value.int v1, Value.float 0, Value.float 0] [] (mj_hw w c hi hl) = mj_bi (mj_dc mj_P E d 147 [Value.int v1, Value.int (2 : Int32)] (mj_hw w c hi hl)) (fun x1 h1 => mj_den mj_P E d 143 13 [Value.ref 0, Value.int v1, Value.ref 2, Value.float 0] [Value.int x1] h1) := by
  rw [mj_den_eq, f143_0]
  exact zt_aload_n rfl rfl (zt_getr (mjkd0 _ _ _ _) (mjhr0_0 w c) rfl (zt_getr (mjkd1 _ _ _ _) (mjhr1_0 w c) rfl (zt_astore_n (Nat.le_of_ble_eq_true rfl) rfl rfl (zt_iload_n rfl rfl (zt_iconst rfl (zt_call1_1 (Nat.le_of_ble_eq_true rfl) rfl (Nat.le_of_ble_eq_true rfl) rfl rfl))))))
set_option maxRecDepth 100000 in
theorem f143_13 : mj_find (mj_P 143).2.2.2.2 13 = [(.ifCond .eq 10, 3, 0, [23]), (.aload_n 2, 1, 0, []), (.getfield 86, 3, 0, [7, 0, 0, 187]), (.ifCond .ne 5, 3, 0, [25])] := rfl
set_option maxRecDepth 100000 in
theorem q143_13 (E : mj_E) (d w c : Nat) (hi : Nat → Nat → Int32) (hl : Nat → Nat → Int64) (v1 : Int32) (s0 : Int32) : mj_den mj_P E d 143 13 [Value.ref 0, Value.int v1, Value.ref 2, Value.float 0] [Value.int s0] (mj_hw w c hi hl) = if s0 = 0 then mj_den mj_P E d 143 23 [Value.ref 0, Value.int v1, Value.ref 2, Value.float 0] [] (mj_hw w c hi hl) else if ¬ (hi 2 0) = 0 then mj_den mj_P E d 143 25 [Value.ref 0, Value.int v1, Value.ref 2, Value.float 0] [] (mj_hw w c hi hl) else mj_den mj_P E d 143 23 [Value.ref 0, Value.int v1, Value.ref 2, Value.float 0] [] (mj_hw w c hi hl) := by
  rw [mj_den_eq, f143_13]
  exact zt_if_eq rfl rfl (zt_aload_n rfl rfl (zt_geti (mjkd2 _ _ _ _) rfl rfl (zt_if_ne rfl rfl (zt_end rfl))))
set_option maxRecDepth 100000 in
theorem f143_23 : mj_find (mj_P 143).2.2.2.2 23 = [(.iconst (-1), 1, (-1), []), (.ireturn, 1, 0, [0])] := rfl
set_option maxRecDepth 100000 in
theorem q143_23 (E : mj_E) (d w c : Nat) (hi : Nat → Nat → Int32) (hl : Nat → Nat → Int64) (v1 : Int32) : mj_den mj_P E d 143 23 [Value.ref 0, Value.int v1, Value.ref 2, Value.float 0] [] (mj_hw w c hi hl) = some (some (Value.int (-1 : Int32)), (mj_hw w c hi hl)) := by
  rw [mj_den_eq, f143_23]
  exact zt_iconst rfl (zt_ireturn0)
set_option maxRecDepth 100000 in
theorem f143_25 : mj_find (mj_P 143).2.2.2.2 25 = [(.iload_n 1, 1, 0, []), (.iconst 2, 1, 2, []), (.if_icmp .ne 19, 3, 0, [46]), (.aload_n 0, 1, 0, []), (.getfield 68, 3, 0, [11, 9, 3, 649]), (.aload_n 2, 1, 0, []), (.getfield 111, 3, 0, [7, 7, 3, 208]), (.aload_n 2, 1, 0, []), (.getfield 86, 3, 0, [7, 0, 0, 187]), (.invokevirtual 369, 3, 0, [0, 15, 1, 2, 1, 1355, 1356, 1357, 154, 1358])] := rfl
set_option maxRecDepth 100000 in
theorem q143_25 (E : mj_E) (d w c : Nat) (hi : Nat → Nat → Int32) (hl : Nat → Nat → Int64) (v1 : Int32) : mj_den mj_P E d 143 25 [Value.ref 0, Value.int v1, Value.ref 2, Value.float 0] [] (mj_hw w c hi hl) = if ¬ v1 = (2 : Int32) then mj_den mj_P E d 143 46 [Value.ref 0, Value.int v1, Value.ref 2, Value.float 0] [] (mj_hw w c hi hl) else mj_bi (mj_dc mj_P E d 15 [Value.ref 202, Value.ref 3, Value.int (hi 2 0)] (mj_hw w c hi hl)) (fun x1 h1 => mj_den mj_P E d 143 45 [Value.ref 0, Value.int v1, Value.ref 2, Value.float 0] [Value.int x1] h1) := by
  rw [mj_den_eq, f143_25]
  exact zt_iload_n rfl rfl (zt_iconst rfl (zt_icmp_ne rfl rfl (zt_aload_n rfl rfl (zt_getr (mjkd0 _ _ _ _) (mjhr0_9 w c) rfl (zt_aload_n rfl rfl (zt_getr (mjkd2 _ _ _ _) (mjhr2_7 w c) rfl (zt_aload_n rfl rfl (zt_geti (mjkd2 _ _ _ _) rfl rfl (zt_call0_1 rfl (mjkd202 _ _ _ _) (Nat.le_of_ble_eq_true rfl) rfl rfl)))))))))
set_option maxRecDepth 100000 in
theorem f143_45 : mj_find (mj_P 143).2.2.2.2 45 = [(.ireturn, 1, 0, [0])] := rfl
set_option maxRecDepth 100000 in
theorem q143_45 (E : mj_E) (d w c : Nat) (hi : Nat → Nat → Int32) (hl : Nat → Nat → Int64) (v1 : Int32) (s0 : Int32) : mj_den mj_P E d 143 45 [Value.ref 0, Value.int v1, Value.ref 2, Value.float 0] [Value.int s0] (mj_hw w c hi hl) = some (some (Value.int s0), (mj_hw w c hi hl)) := by
  rw [mj_den_eq, f143_45]
  exact zt_ireturn0
set_option maxRecDepth 100000 in
theorem f143_46 : mj_find (mj_P 143).2.2.2.2 46 = [(.aload_n 2, 1, 0, []), (.invokevirtual 372, 3, 0, [0, 82, 7, 0, 1, 1360, 1361, 1362, 145, 1363])] := rfl
set_option maxRecDepth 100000 in
theorem q143_46 (E : mj_E) (d w c : Nat) (hi : Nat → Nat → Int32) (hl : Nat → Nat → Int64) (v1 : Int32) : mj_den mj_P E d 143 46 [Value.ref 0, Value.int v1, Value.ref 2, Value.float 0] [] (mj_hw w c hi hl) = mj_bi (mj_dc mj_P E d 82 [Value.ref 2] (mj_hw w c hi hl)) (fun x1 h1 => mj_den mj_P E d 143 50 [Value.ref 0, Value.int v1, Value.ref 2, Value.float 0] [Value.int x1] h1) := by
  rw [mj_den_eq, f143_46]
  exact zt_aload_n rfl rfl (zt_call0_1 rfl (mjkd2 _ _ _ _) (Nat.le_of_ble_eq_true rfl) rfl rfl)
set_option maxRecDepth 100000 in
theorem f143_50 : mj_find (mj_P 143).2.2.2.2 50 = [(.istore_n 3, 1, 0, []), (.iload_n 1, 1, 0, []), (.ifCond .ne 7, 3, 0, [59]), (.iload_n 3, 1, 0, []), (.goto 8, 3, 0, [64])] := rfl
set_option maxRecDepth 100000 in
theorem q143_50 (E : mj_E) (d w c : Nat) (hi : Nat → Nat → Int32) (hl : Nat → Nat → Int64) (v1 : Int32) (s0 : Int32) : mj_den mj_P E d 143 50 [Value.ref 0, Value.int v1, Value.ref 2, Value.float 0] [Value.int s0] (mj_hw w c hi hl) = if ¬ v1 = 0 then mj_den mj_P E d 143 59 [Value.ref 0, Value.int v1, Value.ref 2, Value.int s0] [] (mj_hw w c hi hl) else mj_den mj_P E d 143 64 [Value.ref 0, Value.int v1, Value.ref 2, Value.int s0] [Value.int s0] (mj_hw w c hi hl) := by
  rw [mj_den_eq, f143_50]
  exact zt_istore_n (Nat.le_of_ble_eq_true rfl) rfl rfl (zt_iload_n rfl rfl (zt_if_ne rfl rfl (zt_iload_n rfl rfl (zt_goto rfl))))
set_option maxRecDepth 100000 in
theorem f143_59 : mj_find (mj_P 143).2.2.2.2 59 = [(.aload_n 2, 1, 0, []), (.iload_n 3, 1, 0, []), (.invokevirtual 375, 3, 0, [0, 81, 7, 1, 1, 1369, 1365, 1366, 145, 1367])] := rfl
set_option maxRecDepth 100000 in
theorem q143_59 (E : mj_E) (d w c : Nat) (hi : Nat → Nat → Int32) (hl : Nat → Nat → Int64) (v1 : Int32) (v3 : Int32) : mj_den mj_P E d 143 59 [Value.ref 0, Value.int v1, Value.ref 2, Value.int v3] [] (mj_hw w c hi hl) = mj_bi (mj_dc mj_P E d 81 [Value.ref 2, Value.int v3] (mj_hw w c hi hl)) (fun x1 h1 => mj_den mj_P E d 143 64 [Value.ref 0, Value.int v1, Value.ref 2, Value.int v3] [Value.int x1] h1) := by
  rw [mj_den_eq, f143_59]
  exact zt_aload_n rfl rfl (zt_iload_n rfl rfl (zt_call0_1 rfl (mjkd2 _ _ _ _) (Nat.le_of_ble_eq_true rfl) rfl rfl))
set_option maxRecDepth 100000 in
theorem f143_64 : mj_find (mj_P 143).2.2.2.2 64 = [(.ireturn, 1, 0, [0])] := rfl
set_option maxRecDepth 100000 in
theorem q143_64 (E : mj_E) (d w c : Nat) (hi : Nat → Nat → Int32) (hl : Nat → Nat → Int64) (v1 : Int32) (v3 : Int32) (s0 : Int32) : mj_den mj_P E d 143 64 [Value.ref 0, Value.int v1, Value.ref 2, Value.int v3] [Value.int s0] (mj_hw w c hi hl) = some (some (Value.int s0), (mj_hw w c hi hl)) := by
  rw [mj_den_eq, f143_64]
  exact zt_ireturn0
set_option maxRecDepth 100000 in
theorem f144_0 : mj_find (mj_P 144).2.2.2.2 0 = [(.aload_n 0, 1, 0, []), (.getfield 26, 3, 0, [11, 3, 3, 643]), (.aload_n 0, 1, 0, []), (.getfield 12, 3, 0, [11, 0, 3, 640]), (.getfield 72, 3, 0, [10, 0, 3, 412]), (.invokevirtual 378, 3, 0, [0, 44, 5, 1, 1, 1374, 1375, 1376, 149, 1377])] := rfl
set_option maxRecDepth 100000 in
theorem q144_0 (E : mj_E) (d w c : Nat) (hi : Nat → Nat → Int32) (hl : Nat → Nat → Int64) : mj_den mj_P E d 144 0 [Value.ref 0] [] (mj_hw w c hi hl) = mj_bi (mj_dc mj_P E d 44 [Value.ref 91, Value.ref 2] (mj_hw w c hi hl)) (fun x1 h1 => mj_den mj_P E d 144 14 [Value.ref 0] [Value.int x1] h1) := by
  rw [mj_den_eq, f144_0]
  exact zt_aload_n rfl rfl (zt_getr (mjkd0 _ _ _ _) (mjhr0_3 w c) rfl (zt_aload_n rfl rfl (zt_getr (mjkd0 _ _ _ _) (mjhr0_0 w c) rfl (zt_getr (mjkd1 _ _ _ _) (mjhr1_0 w c) rfl (zt_call0_1 rfl (mjkd91 _ _ _ _) (Nat.le_of_ble_eq_true rfl) rfl rfl)))))
set_option maxRecDepth 100000 in
theorem f144_14 : mj_find (mj_P 144).2.2.2.2 14 = [(.ireturn, 1, 0, [1])] := rfl
set_option maxRecDepth 100000 in
theorem q144_14 (E : mj_E) (d w c : Nat) (hi : Nat → Nat → Int32) (hl : Nat → Nat → Int64) (s0 : Int32) : mj_den mj_P E d 144 14 [Value.ref 0] [Value.int s0] (mj_hw w c hi hl) = if s0 = 0 ∨ s0 = 1 then some (some (Value.int s0), (mj_hw w c hi hl)) else none := by
  rw [mj_den_eq, f144_14]
  exact zt_ireturn1
set_option maxRecDepth 100000 in
theorem f145_0 : mj_find (mj_P 145).2.2.2.2 0 = [(.iload_n 1, 1, 0, []), (.ifCond .eq 21, 3, 0, [22]), (.aload_n 0, 1, 0, []), (.getfield 16, 3, 0, [11, 1, 3, 641]), (.aload_n 0, 1, 0, []), (.getfield 12, 3, 0, [11, 0, 3, 640]), (.invokevirtual 382, 3, 0, [0, 105, 10, 1, 0, 1382, 1383, 1384, 144, 1385])] := rfl
set_option maxRecDepth 100000 in
theorem q145_0 (E : mj_E) (d w c : Nat) (hi : Nat → Nat → Int32) (hl : Nat → Nat → Int64) (v1 : Int32) : mj_den mj_P E d 145 0 [Value.ref 0, Value.int v1] [] (mj_hw w c hi hl) = if v1 = 0 then mj_den mj_P E d 145 22 [Value.ref 0, Value.int v1] [] (mj_hw w c hi hl) else mj_bv (mj_dc mj_P E d 105 [Value.ref 46, Value.ref 1] (mj_hw w c hi hl)) (fun h1 => mj_den mj_P E d 145 15 [Value.ref 0, Value.int v1] [] h1) := by
  rw [mj_den_eq, f145_0]
  exact zt_iload_n rfl rfl (zt_if_eq rfl rfl (zt_aload_n rfl rfl (zt_getr (mjkd0 _ _ _ _) (mjhr0_1 w c) rfl (zt_aload_n rfl rfl (zt_getr (mjkd0 _ _ _ _) (mjhr0_0 w c) rfl (zt_call0_0 rfl (mjkd46 _ _ _ _) (Nat.le_of_ble_eq_true rfl) rfl rfl))))))
set_option maxRecDepth 100000 in
theorem f145_15 : mj_find (mj_P 145).2.2.2.2 15 = [(.aload_n 0, 1, 0, []), (.iconst 1, 1, 1, []), (.putfield 19, 3, 0, [11, 2, 1, 642]), (.iconst 1, 1, 1, []), (.ireturn, 1, 0, [1])] := rfl
set_option maxRecDepth 100000 in
theorem q145_15 (E : mj_E) (d w c : Nat) (hi : Nat → Nat → Int32) (hl : Nat → Nat → Int64) (v1 : Int32) : mj_den mj_P E d 145 15 [Value.ref 0, Value.int v1] [] (mj_hw w c hi hl) = if (1 : Int32) = 0 ∨ (1 : Int32) = 1 then if (1 : Int32) = 0 ∨ (1 : Int32) = 1 then some (some (Value.int (1 : Int32)), (mj_hw w c (mj_u hi 0 2 (1 : Int32)) hl)) else none else none := by
  rw [mj_den_eq, f145_15]
  exact zt_aload_n rfl rfl (zt_iconst rfl (zt_putz (mjkd0 _ _ _ _) rfl rfl (zt_iconst rfl (zt_ireturn1))))
set_option maxRecDepth 100000 in
theorem f145_22 : mj_find (mj_P 145).2.2.2.2 22 = [(.aload_n 0, 1, 0, []), (.getfield 19, 3, 0, [11, 2, 1, 642]), (.ifCond .ne 5, 3, 0, [31]), (.iconst 0, 1, 0, []), (.ireturn, 1, 0, [1])] := rfl
set_option maxRecDepth 100000 in
theorem q145_22 (E : mj_E) (d w c : Nat) (hi : Nat → Nat → Int32) (hl : Nat → Nat → Int64) (v1 : Int32) : mj_den mj_P E d 145 22 [Value.ref 0, Value.int v1] [] (mj_hw w c hi hl) = if ¬ (hi 0 2) = 0 then mj_den mj_P E d 145 31 [Value.ref 0, Value.int v1] [] (mj_hw w c hi hl) else if (0 : Int32) = 0 ∨ (0 : Int32) = 1 then some (some (Value.int (0 : Int32)), (mj_hw w c hi hl)) else none := by
  rw [mj_den_eq, f145_22]
  exact zt_aload_n rfl rfl (zt_getz (mjkd0 _ _ _ _) rfl rfl (zt_if_ne rfl rfl (zt_iconst rfl (zt_ireturn1))))
set_option maxRecDepth 100000 in
theorem f145_31 : mj_find (mj_P 145).2.2.2.2 31 = [(.aload_n 0, 1, 0, []), (.getfield 12, 3, 0, [11, 0, 3, 640]), (.aload_n 0, 1, 0, []), (.getfield 16, 3, 0, [11, 1, 3, 641]), (.invokevirtual 382, 3, 0, [0, 105, 10, 1, 0, 1382, 1383, 1384, 144, 1385])] := rfl
set_option maxRecDepth 100000 in
theorem q145_31 (E : mj_E) (d w c : Nat) (hi : Nat → Nat → Int32) (hl : Nat → Nat → Int64) (v1 : Int32) : mj_den mj_P E d 145 31 [Value.ref 0, Value.int v1] [] (mj_hw w c hi hl) = mj_bv (mj_dc mj_P E d 105 [Value.ref 1, Value.ref 46] (mj_hw w c hi hl)) (fun h1 => mj_den mj_P E d 145 42 [Value.ref 0, Value.int v1] [] h1) := by
  rw [mj_den_eq, f145_31]
  exact zt_aload_n rfl rfl (zt_getr (mjkd0 _ _ _ _) (mjhr0_0 w c) rfl (zt_aload_n rfl rfl (zt_getr (mjkd0 _ _ _ _) (mjhr0_1 w c) rfl (zt_call0_0 rfl (mjkd1 _ _ _ _) (Nat.le_of_ble_eq_true rfl) rfl rfl))))
set_option maxRecDepth 100000 in
theorem f145_42 : mj_find (mj_P 145).2.2.2.2 42 = [(.aload_n 0, 1, 0, []), (.getfield 26, 3, 0, [11, 3, 3, 643]), (.invokevirtual 79, 3, 0, [0, 45, 5, 0, 0, 675, 676, 677, 149, 678])] := rfl
set_option maxRecDepth 100000 in
theorem q145_42 (E : mj_E) (d w c : Nat) (hi : Nat → Nat → Int32) (hl : Nat → Nat → Int64) (v1 : Int32) : mj_den mj_P E d 145 42 [Value.ref 0, Value.int v1] [] (mj_hw w c hi hl) = mj_bv (mj_dc mj_P E d 45 [Value.ref 91] (mj_hw w c hi hl)) (fun h1 => mj_den mj_P E d 145 49 [Value.ref 0, Value.int v1] [] h1) := by
  rw [mj_den_eq, f145_42]
  exact zt_aload_n rfl rfl (zt_getr (mjkd0 _ _ _ _) (mjhr0_3 w c) rfl (zt_call0_0 rfl (mjkd91 _ _ _ _) (Nat.le_of_ble_eq_true rfl) rfl rfl))
set_option maxRecDepth 100000 in
theorem f145_49 : mj_find (mj_P 145).2.2.2.2 49 = [(.iconst 1, 1, 1, []), (.ireturn, 1, 0, [1])] := rfl
set_option maxRecDepth 100000 in
theorem q145_49 (E : mj_E) (d w c : Nat) (hi : Nat → Nat → Int32) (hl : Nat → Nat → Int64) (v1 : Int32) : mj_den mj_P E d 145 49 [Value.ref 0, Value.int v1] [] (mj_hw w c hi hl) = if (1 : Int32) = 0 ∨ (1 : Int32) = 1 then some (some (Value.int (1 : Int32)), (mj_hw w c hi hl)) else none := by
  rw [mj_den_eq, f145_49]
  exact zt_iconst rfl (zt_ireturn1)
set_option maxRecDepth 100000 in
theorem f146_0 : mj_find (mj_P 146).2.2.2.2 0 = [(.aload_n 0, 1, 0, []), (.getfield 12, 3, 0, [11, 0, 3, 640]), (.getfield 72, 3, 0, [10, 0, 3, 412]), (.astore_n 2, 1, 0, []), (.iload_n 1, 1, 0, []), (.tableswitch 175 0 13 #[71, 76, 81, 86, 91, 96, 108, 113, 118, 123, 134, 145, 156, 167], 71, 0, [184, 80, 85, 90, 95, 100, 105, 117, 122, 127, 132, 143, 154, 165, 176])] := rfl
set_option maxRecDepth 100000 in
theorem q146_0 (E : mj_E) (d w c : Nat) (hi : Nat → Nat → Int32) (hl : Nat → Nat → Int64) (v1 : Int32) : mj_den mj_P E d 146 0 [Value.ref 0, Value.int v1, Value.float 0] [] (mj_hw w c hi hl) = mj_den mj_P E d 146 (mj_sw v1 (0 : Int32) 184 [80, 85, 90, 95, 100, 105, 117, 122, 127, 132, 143, 154, 165, 176]) [Value.ref 0, Value.int v1, Value.ref 2] [] (mj_hw w c hi hl) := by
  rw [mj_den_eq, f146_0]
  exact zt_aload_n rfl rfl (zt_getr (mjkd0 _ _ _ _) (mjhr0_0 w c) rfl (zt_getr (mjkd1 _ _ _ _) (mjhr1_0 w c) rfl (zt_astore_n (Nat.le_of_ble_eq_true rfl) rfl rfl (zt_iload_n rfl rfl (zt_sw rfl)))))
set_option maxRecDepth 100000 in
theorem f146_80 : mj_find (mj_P 146).2.2.2.2 80 = [(.aload_n 2, 1, 0, []), (.getfield 86, 3, 0, [7, 0, 0, 187]), (.ireturn, 1, 0, [0])] := rfl
set_option maxRecDepth 100000 in
theorem q146_80 (E : mj_E) (d w c : Nat) (hi : Nat → Nat → Int32) (hl : Nat → Nat → Int64) (v1 : Int32) : mj_den mj_P E d 146 80 [Value.ref 0, Value.int v1, Value.ref 2] [] (mj_hw w c hi hl) = some (some (Value.int (hi 2 0)), (mj_hw w c hi hl)) := by
  rw [mj_den_eq, f146_80]
  exact zt_aload_n rfl rfl (zt_geti (mjkd2 _ _ _ _) rfl rfl (zt_ireturn0))
set_option maxRecDepth 100000 in
theorem f146_85 : mj_find (mj_P 146).2.2.2.2 85 = [(.aload_n 2, 1, 0, []), (.getfield 93, 3, 0, [7, 1, 0, 190]), (.ireturn, 1, 0, [0])] := rfl
set_option maxRecDepth 100000 in
theorem q146_85 (E : mj_E) (d w c : Nat) (hi : Nat → Nat → Int32) (hl : Nat → Nat → Int64) (v1 : Int32) : mj_den mj_P E d 146 85 [Value.ref 0, Value.int v1, Value.ref 2] [] (mj_hw w c hi hl) = some (some (Value.int (hi 2 1)), (mj_hw w c hi hl)) := by
  rw [mj_den_eq, f146_85]
  exact zt_aload_n rfl rfl (zt_geti (mjkd2 _ _ _ _) rfl rfl (zt_ireturn0))
set_option maxRecDepth 100000 in
theorem f146_90 : mj_find (mj_P 146).2.2.2.2 90 = [(.aload_n 2, 1, 0, []), (.getfield 143, 3, 0, [7, 2, 0, 193]), (.ireturn, 1, 0, [0])] := rfl
set_option maxRecDepth 100000 in
theorem q146_90 (E : mj_E) (d w c : Nat) (hi : Nat → Nat → Int32) (hl : Nat → Nat → Int64) (v1 : Int32) : mj_den mj_P E d 146 90 [Value.ref 0, Value.int v1, Value.ref 2] [] (mj_hw w c hi hl) = some (some (Value.int (hi 2 2)), (mj_hw w c hi hl)) := by
  rw [mj_den_eq, f146_90]
  exact zt_aload_n rfl rfl (zt_geti (mjkd2 _ _ _ _) rfl rfl (zt_ireturn0))
set_option maxRecDepth 100000 in
theorem f146_95 : mj_find (mj_P 146).2.2.2.2 95 = [(.aload_n 2, 1, 0, []), (.getfield 385, 3, 0, [7, 3, 0, 197]), (.ireturn, 1, 0, [0])] := rfl
set_option maxRecDepth 100000 in
theorem q146_95 (E : mj_E) (d w c : Nat) (hi : Nat → Nat → Int32) (hl : Nat → Nat → Int64) (v1 : Int32) : mj_den mj_P E d 146 95 [Value.ref 0, Value.int v1, Value.ref 2] [] (mj_hw w c hi hl) = some (some (Value.int (hi 2 3)), (mj_hw w c hi hl)) := by
  rw [mj_den_eq, f146_95]
  exact zt_aload_n rfl rfl (zt_geti (mjkd2 _ _ _ _) rfl rfl (zt_ireturn0))
set_option maxRecDepth 100000 in
theorem f146_100 : mj_find (mj_P 146).2.2.2.2 100 = [(.aload_n 2, 1, 0, []), (.getfield 388, 3, 0, [7, 4, 0, 200]), (.ireturn, 1, 0, [0])] := rfl
set_option maxRecDepth 100000 in
theorem q146_100 (E : mj_E) (d w c : Nat) (hi : Nat → Nat → Int32) (hl : Nat → Nat → Int64) (v1 : Int32) : mj_den mj_P E d 146 100 [Value.ref 0, Value.int v1, Value.ref 2] [] (mj_hw w c hi hl) = some (some (Value.int (hi 2 4)), (mj_hw w c hi hl)) := by
  rw [mj_den_eq, f146_100]
  exact zt_aload_n rfl rfl (zt_geti (mjkd2 _ _ _ _) rfl rfl (zt_ireturn0))
set_option maxRecDepth 100000 in
theorem f146_105 : mj_find (mj_P 146).2.2.2.2 105 = [(.aload_n 2, 1, 0, []), (.invokevirtual 391, 3, 0, [0, 75, 7, 0, 1, 1399, 1400, 1401, 145, 1402])] := rfl
set_option maxRecDepth 100000 in
theorem q146_105 (E : mj_E) (d w c : Nat) (hi : Nat → Nat → Int32) (hl : Nat → Nat → Int64) (v1 : Int32) : mj_den mj_P E d 146 105 [Value.ref 0, Value.int v1, Value.ref 2] [] (mj_hw w c hi hl) = mj_bi (mj_dc mj_P E d 75 [Value.ref 2] (mj_hw w c hi hl)) (fun x1 h1 => mj_den mj_P E d 146 109 [Value.ref 0, Value.int v1, Value.ref 2] [Value.int x1] h1) := by
  rw [mj_den_eq, f146_105]
  exact zt_aload_n rfl rfl (zt_call0_1 rfl (mjkd2 _ _ _ _) (Nat.le_of_ble_eq_true rfl) rfl rfl)
set_option maxRecDepth 100000 in
theorem f146_109 : mj_find (mj_P 146).2.2.2.2 109 = [(.aload_n 2, 1, 0, []), (.invokevirtual 257, 3, 0, [0, 76, 7, 0, 1, 1096, 1097, 1098, 145, 1099])] := rfl
set_option maxRecDepth 100000 in
theorem q146_109 (E : mj_E) (d w c : Nat) (hi : Nat → Nat → Int32) (hl : Nat → Nat → Int64) (v1 : Int32) (s0 : Int32) : mj_den mj_P E d 146 109 [Value.ref 0, Value.int v1, Value.ref 2] [Value.int s0] (mj_hw w c hi hl) = mj_bi (mj_dc mj_P E d 76 [Value.ref 2] (mj_hw w c hi hl)) (fun x1 h1 => mj_den mj_P E d 146 113 [Value.ref 0, Value.int v1, Value.ref 2] [Value.int x1, Value.int s0] h1) := by
  rw [mj_den_eq, f146_109]
  exact zt_aload_n rfl rfl (zt_call0_1 rfl (mjkd2 _ _ _ _) (Nat.le_of_ble_eq_true rfl) rfl rfl)
set_option maxRecDepth 100000 in
theorem f146_113 : mj_find (mj_P 146).2.2.2.2 113 = [(.iconst (-1), 1, (-1), []), (.ixor, 1, 0, []), (.iand, 1, 0, []), (.ireturn, 1, 0, [0])] := rfl
set_option maxRecDepth 100000 in
theorem q146_113 (E : mj_E) (d w c : Nat) (hi : Nat → Nat → Int32) (hl : Nat → Nat → Int64) (v1 : Int32) (s0 : Int32) (s1 : Int32) : mj_den mj_P E d 146 113 [Value.ref 0, Value.int v1, Value.ref 2] [Value.int s0, Value.int s1] (mj_hw w c hi hl) = some (some (Value.int (s1 &&& (s0 ^^^ (-1 : Int32)))), (mj_hw w c hi hl)) := by
  rw [mj_den_eq, f146_113]
  exact zt_iconst rfl (zt_ixor rfl (zt_iand rfl (zt_ireturn0)))
set_option maxRecDepth 100000 in
theorem f146_117 : mj_find (mj_P 146).2.2.2.2 117 = [(.aload_n 2, 1, 0, []), (.invokevirtual 394, 3, 0, [0, 78, 7, 0, 1, 1403, 1194, 1195, 145, 1196])] := rfl
set_option maxRecDepth 100000 in
theorem q146_117 (E : mj_E) (d w c : Nat) (hi : Nat → Nat → Int32) (hl : Nat → Nat → Int64) (v1 : Int32) : mj_den mj_P E d 146 117 [Value.ref 0, Value.int v1, Value.ref 2] [] (mj_hw w c hi hl) = mj_bi (mj_dc mj_P E d 78 [Value.ref 2] (mj_hw w c hi hl)) (fun x1 h1 => mj_den mj_P E d 146 121 [Value.ref 0, Value.int v1, Value.ref 2] [Value.int x1] h1) := by
  rw [mj_den_eq, f146_117]
  exact zt_aload_n rfl rfl (zt_call0_1 rfl (mjkd2 _ _ _ _) (Nat.le_of_ble_eq_true rfl) rfl rfl)
set_option maxRecDepth 100000 in
theorem f146_121 : mj_find (mj_P 146).2.2.2.2 121 = [(.ireturn, 1, 0, [0])] := rfl
set_option maxRecDepth 100000 in
theorem q146_121 (E : mj_E) (d w c : Nat) (hi : Nat → Nat → Int32) (hl : Nat → Nat → Int64) (v1 : Int32) (s0 : Int32) : mj_den mj_P E d 146 121 [Value.ref 0, Value.int v1, Value.ref 2] [Value.int s0] (mj_hw w c hi hl) = some (some (Value.int s0), (mj_hw w c hi hl)) := by
  rw [mj_den_eq, f146_121]
  exact zt_ireturn0
set_option maxRecDepth 100000 in
theorem f146_122 : mj_find (mj_P 146).2.2.2.2 122 = [(.aload_n 2, 1, 0, []), (.getfield 234, 3, 0, [7, 6, 0, 205]), (.ireturn, 1, 0, [0])] := rfl
set_option maxRecDepth 100000 in
theorem q146_122 (E : mj_E) (d w c : Nat) (hi : Nat → Nat → Int32) (hl : Nat → Nat → Int64) (v1 : Int32) : mj_den mj_P E d 146 122 [Value.ref 0, Value.int v1, Value.ref 2] [] (mj_hw w c hi hl) = some (some (Value.int (hi 2 6)), (mj_hw w c hi hl)) := by
  rw [mj_den_eq, f146_122]
  exact zt_aload_n rfl rfl (zt_geti (mjkd2 _ _ _ _) rfl rfl (zt_ireturn0))
set_option maxRecDepth 100000 in
theorem f146_127 : mj_find (mj_P 146).2.2.2.2 127 = [(.aload_n 2, 1, 0, []), (.getfield 75, 3, 0, [7, 5, 0, 202]), (.ireturn, 1, 0, [0])] := rfl
set_option maxRecDepth 100000 in
theorem q146_127 (E : mj_E) (d w c : Nat) (hi : Nat → Nat → Int32) (hl : Nat → Nat → Int64) (v1 : Int32) : mj_den mj_P E d 146 127 [Value.ref 0, Value.int v1, Value.ref 2] [] (mj_hw w c hi hl) = some (some (Value.int (hi 2 5)), (mj_hw w c hi hl)) := by
  rw [mj_den_eq, f146_127]
  exact zt_aload_n rfl rfl (zt_geti (mjkd2 _ _ _ _) rfl rfl (zt_ireturn0))
set_option maxRecDepth 100000 in
theorem f146_132 : mj_find (mj_P 146).2.2.2.2 132 = [(.aload_n 0, 1, 0, []), (.getfield 12, 3, 0, [11, 0, 3, 640]), (.getfield 182, 3, 0, [10, 1, 3, 415]), (.getfield 193, 3, 0, [2, 0, 0, 283]), (.ireturn, 1, 0, [0])] := rfl
set_option maxRecDepth 100000 in
theorem q146_132 (E : mj_E) (d w c : Nat) (hi : Nat → Nat → Int32) (hl : Nat → Nat → Int64) (v1 : Int32) : mj_den mj_P E d 146 132 [Value.ref 0, Value.int v1, Value.ref 2] [] (mj_hw w c hi hl) = some (some (Value.int (hi 13 0)), (mj_hw w c hi hl)) := by
  rw [mj_den_eq, f146_132]
  exact zt_aload_n rfl rfl (zt_getr (mjkd0 _ _ _ _) (mjhr0_0 w c) rfl (zt_getr (mjkd1 _ _ _ _) (mjhr1_1 w c) rfl (zt_geti (mjkd13 _ _ _ _) rfl rfl (zt_ireturn0))))
set_option maxRecDepth 100000 in
theorem f146_143 : mj_find (mj_P 146).2.2.2.2 143 = [(.aload_n 0, 1, 0, []), (.getfield 12, 3, 0, [11, 0, 3, 640]), (.getfield 397, 3, 0, [10, 2, 3, 417]), (.getfield 150, 3, 0, [3, 0, 0, 330]), (.ireturn, 1, 0, [0])] := rfl
set_option maxRecDepth 100000 in
theorem q146_143 (E : mj_E) (d w c : Nat) (hi : Nat → Nat → Int32) (hl : Nat → Nat → Int64) (v1 : Int32) : mj_den mj_P E d 146 143 [Value.ref 0, Value.int v1, Value.ref 2] [] (mj_hw w c hi hl) = some (some (Value.int (hi 22 0)), (mj_hw w c hi hl)) := by
  rw [mj_den_eq, f146_143]
  exact zt_aload_n rfl rfl (zt_getr (mjkd0 _ _ _ _) (mjhr0_0 w c) rfl (zt_getr (mjkd1 _ _ _ _) (mjhr1_2 w c) rfl (zt_geti (mjkd22 _ _ _ _) rfl rfl (zt_ireturn0))))
set_option maxRecDepth 100000 in
theorem f146_154 : mj_find (mj_P 146).2.2.2.2 154 = [(.aload_n 0, 1, 0, []), (.getfield 12, 3, 0, [11, 0, 3, 640]), (.getfield 260, 3, 0, [10, 3, 3, 419]), (.getfield 150, 3, 0, [3, 0, 0, 330]), (.ireturn, 1, 0, [0])] := rfl
set_option maxRecDepth 100000 in
theorem q146_154 (E : mj_E) (d w c : Nat) (hi : Nat → Nat → Int32) (hl : Nat → Nat → Int64) (v1 : Int32) : mj_den mj_P E d 146 154 [Value.ref 0, Value.int v1, Value.ref 2] [] (mj_hw w c hi hl) = some (some (Value.int (hi 26 0)), (mj_hw w c hi hl)) := by
  rw [mj_den_eq, f146_154]
  exact zt_aload_n rfl rfl (zt_getr (mjkd0 _ _ _ _) (mjhr0_0 w c) rfl (zt_getr (mjkd1 _ _ _ _) (mjhr1_3 w c) rfl (zt_geti (mjkd26 _ _ _ _) rfl rfl (zt_ireturn0))))
set_option maxRecDepth 100000 in
theorem f146_165 : mj_find (mj_P 146).2.2.2.2 165 = [(.aload_n 0, 1, 0, []), (.getfield 12, 3, 0, [11, 0, 3, 640]), (.getfield 146, 3, 0, [10, 4, 3, 421]), (.getfield 150, 3, 0, [3, 0, 0, 330]), (.ireturn, 1, 0, [0])] := rfl
set_option maxRecDepth 100000 in
theorem q146_165 (E : mj_E) (d w c : Nat) (hi : Nat → Nat → Int32) (hl : Nat → Nat → Int64) (v1 : Int32) : mj_den mj_P E d 146 165 [Value.ref 0, Value.int v1, Value.ref 2] [] (mj_hw w c hi hl) = some (some (Value.int (hi 30 0)), (mj_hw w c hi hl)) := by
  rw [mj_den_eq, f146_165]
  exact zt_aload_n rfl rfl (zt_getr (mjkd0 _ _ _ _) (mjhr0_0 w c) rfl (zt_getr (mjkd1 _ _ _ _) (mjhr1_4 w c) rfl (zt_geti (mjkd30 _ _ _ _) rfl rfl (zt_ireturn0))))
set_option maxRecDepth 100000 in
theorem f146_176 : mj_find (mj_P 146).2.2.2.2 176 = [(.aload_n 0, 1, 0, []), (.getfield 26, 3, 0, [11, 3, 3, 643]), (.getfield 400, 3, 0, [5, 0, 0, 463]), (.ireturn, 1, 0, [0])] := rfl
set_option maxRecDepth 100000 in
theorem q146_176 (E : mj_E) (d w c : Nat) (hi : Nat → Nat → Int32) (hl : Nat → Nat → Int64) (v1 : Int32) : mj_den mj_P E d 146 176 [Value.ref 0, Value.int v1, Value.ref 2] [] (mj_hw w c hi hl) = some (some (Value.int (hi 91 0)), (mj_hw w c hi hl)) := by
  rw [mj_den_eq, f146_176]
  exact zt_aload_n rfl rfl (zt_getr (mjkd0 _ _ _ _) (mjhr0_3 w c) rfl (zt_geti (mjkd91 _ _ _ _) rfl rfl (zt_ireturn0)))
set_option maxRecDepth 100000 in
theorem f146_184 : mj_find (mj_P 146).2.2.2.2 184 = [(.iconst (-1), 1, (-1), []), (.ireturn, 1, 0, [0])] := rfl
set_option maxRecDepth 100000 in
theorem q146_184 (E : mj_E) (d w c : Nat) (hi : Nat → Nat → Int32) (hl : Nat → Nat → Int64) (v1 : Int32) : mj_den mj_P E d 146 184 [Value.ref 0, Value.int v1, Value.ref 2] [] (mj_hw w c hi hl) = some (some (Value.int (-1 : Int32)), (mj_hw w c hi hl)) := by
  rw [mj_den_eq, f146_184]
  exact zt_iconst rfl (zt_ireturn0)
set_option maxRecDepth 100000 in
theorem f147_0 : mj_find (mj_P 147).2.2.2.2 0 = [(.iload_n 0, 1, 0, []), (.ifCond .lt 12, 3, 0, [13]), (.iload_n 0, 1, 0, []), (.iload_n 1, 1, 0, []), (.if_icmp .gt 7, 3, 0, [13]), (.iconst 1, 1, 1, []), (.goto 4, 3, 0, [14])] := rfl
set_option maxRecDepth 100000 in
theorem q147_0 (E : mj_E) (d w c : Nat) (hi : Nat → Nat → Int32) (hl : Nat → Nat → Int64) (v0 : Int32) (v1 : Int32) : mj_den mj_P E d 147 0 [Value.int v0, Value.int v1] [] (mj_hw w c hi hl) = if v0 < 0 then mj_den mj_P E d 147 13 [Value.int v0, Value.int v1] [] (mj_hw w c hi hl) else if v1 < v0 then mj_den mj_P E d 147 13 [Value.int v0, Value.int v1] [] (mj_hw w c hi hl) else mj_den mj_P E d 147 14 [Value.int v0, Value.int v1] [Value.int (1 : Int32)] (mj_hw w c hi hl) := by
  rw [mj_den_eq, f147_0]
  exact zt_iload_n rfl rfl (zt_if_lt rfl rfl (zt_iload_n rfl rfl (zt_iload_n rfl rfl (zt_icmp_gt rfl rfl (zt_iconst rfl (zt_goto rfl))))))
set_option maxRecDepth 100000 in
theorem f147_13 : mj_find (mj_P 147).2.2.2.2 13 = [(.iconst 0, 1, 0, [])] := rfl
set_option maxRecDepth 100000 in
theorem q147_13 (E : mj_E) (d w c : Nat) (hi : Nat → Nat → Int32) (hl : Nat → Nat → Int64) (v0 : Int32) (v1 : Int32) : mj_den mj_P E d 147 13 [Value.int v0, Value.int v1] [] (mj_hw w c hi hl) = mj_den mj_P E d 147 14 [Value.int v0, Value.int v1] [Value.int (0 : Int32)] (mj_hw w c hi hl) := by
  rw [mj_den_eq, f147_13]
  exact zt_iconst rfl (zt_end rfl)
set_option maxRecDepth 100000 in
theorem f147_14 : mj_find (mj_P 147).2.2.2.2 14 = [(.ireturn, 1, 0, [1])] := rfl
set_option maxRecDepth 100000 in
theorem q147_14 (E : mj_E) (d w c : Nat) (hi : Nat → Nat → Int32) (hl : Nat → Nat → Int64) (v0 : Int32) (v1 : Int32) (s0 : Int32) : mj_den mj_P E d 147 14 [Value.int v0, Value.int v1] [Value.int s0] (mj_hw w c hi hl) = if s0 = 0 ∨ s0 = 1 then some (some (Value.int s0), (mj_hw w c hi hl)) else none := by
  rw [mj_den_eq, f147_14]
  exact zt_ireturn1
set_option maxRecDepth 100000 in
theorem f148_0 : mj_find (mj_P 148).2.2.2.2 0 = [(.iload_n 0, 1, 0, []), (.iload_n 1, 1, 0, []), (.ishr, 1, 0, []), (.iconst 1, 1, 1, []), (.iand, 1, 0, []), (.ifCond .eq 7, 3, 0, [12]), (.iconst 1, 1, 1, []), (.goto 4, 3, 0, [13])] := rfl
set_option maxRecDepth 100000 in
theorem q148_0 (E : mj_E) (d w c : Nat) (hi : Nat → Nat → Int32) (hl : Nat → Nat → Int64) (v0 : Int32) (v1 : Int32) : mj_den mj_P E d 148 0 [Value.int v0, Value.int v1] [] (mj_hw w c hi hl) = if ((v0 >>> (v1 &&& 31)) &&& (1 : Int32)) = 0 then mj_den mj_P E d 148 12 [Value.int v0, Value.int v1] [] (mj_hw w c hi hl) else mj_den mj_P E d 148 13 [Value.int v0, Value.int v1] [Value.int (1 : Int32)] (mj_hw w c hi hl) := by
  rw [mj_den_eq, f148_0]
  exact zt_iload_n rfl rfl (zt_iload_n rfl rfl (zt_ishr rfl (zt_iconst rfl (zt_iand rfl (zt_if_eq rfl rfl (zt_iconst rfl (zt_goto rfl)))))))
set_option maxRecDepth 100000 in
theorem f148_12 : mj_find (mj_P 148).2.2.2.2 12 = [(.iconst 0, 1, 0, [])] := rfl
set_option maxRecDepth 100000 in
theorem q148_12 (E : mj_E) (d w c : Nat) (hi : Nat → Nat → Int32) (hl : Nat → Nat → Int64) (v0 : Int32) (v1 : Int32) : mj_den mj_P E d 148 12 [Value.int v0, Value.int v1] [] (mj_hw w c hi hl) = mj_den mj_P E d 148 13 [Value.int v0, Value.int v1] [Value.int (0 : Int32)] (mj_hw w c hi hl) := by
  rw [mj_den_eq, f148_12]
  exact zt_iconst rfl (zt_end rfl)
set_option maxRecDepth 100000 in
theorem f148_13 : mj_find (mj_P 148).2.2.2.2 13 = [(.ireturn, 1, 0, [1])] := rfl
set_option maxRecDepth 100000 in
theorem q148_13 (E : mj_E) (d w c : Nat) (hi : Nat → Nat → Int32) (hl : Nat → Nat → Int64) (v0 : Int32) (v1 : Int32) (s0 : Int32) : mj_den mj_P E d 148 13 [Value.int v0, Value.int v1] [Value.int s0] (mj_hw w c hi hl) = if s0 = 0 ∨ s0 = 1 then some (some (Value.int s0), (mj_hw w c hi hl)) else none := by
  rw [mj_den_eq, f148_13]
  exact zt_ireturn1
set_option maxRecDepth 100000 in
theorem f149_0 : mj_find (mj_P 149).2.2.2.2 0 = [(.aload_n 0, 1, 0, []), (.iconst 0, 1, 0, []), (.aload_n 1, 1, 0, []), (.iconst 0, 1, 0, []), (.aload_n 0, 1, 0, []), (.arraylength, 1, 0, []), (.aload_n 1, 1, 0, []), (.arraylength, 1, 0, []), (.invokestatic 401, 3, 0, [1, 296, 0, 2, 1, 727, 728, 157, 729])] := rfl
set_option maxRecDepth 100000 in
theorem q149_0 (E : mj_E) (d w c : Nat) (hi : Nat → Nat → Int32) (hl : Nat → Nat → Int64) : mj_den mj_P E d 149 0 [Value.ref 3, Value.ref 178] [] (mj_hw w c hi hl) = mj_bi (mj_dc mj_P E d 296 [Value.int (Int32.ofNat 10), Value.int (Int32.ofNat 10)] (mj_hw w c hi hl)) (fun x1 h1 => mj_den mj_P E d 149 11 [Value.ref 3, Value.ref 178] [Value.int x1, Value.int (0 : Int32), Value.ref 178, Value.int (0 : Int32), Value.ref 3] h1) := by
  rw [mj_den_eq, f149_0]
  exact zt_aload_n rfl rfl (zt_iconst rfl (zt_aload_n rfl rfl (zt_iconst rfl (zt_aload_n rfl rfl (zt_alen (q := 100) (mjkd3 _ _ _ _) (by decide) (mjln3 _ _ _ _) rfl (zt_aload_n rfl rfl (zt_alen (q := 100) (mjkd178 _ _ _ _) (by decide) (mjln178 _ _ _ _) rfl (zt_call1_1 (Nat.le_of_ble_eq_true rfl) rfl (Nat.le_of_ble_eq_true rfl) rfl rfl))))))))
set_option maxRecDepth 100000 in
theorem q149_0_1 (E : mj_E) (d w c : Nat) (hi : Nat → Nat → Int32) (hl : Nat → Nat → Int64) : mj_den mj_P E d 149 0 [Value.ref 4, Value.ref 179] [] (mj_hw w c hi hl) = mj_bi (mj_dc mj_P E d 296 [Value.int (Int32.ofNat 10), Value.int (Int32.ofNat 10)] (mj_hw w c hi hl)) (fun x1 h1 => mj_den mj_P E d 149 11 [Value.ref 4, Value.ref 179] [Value.int x1, Value.int (0 : Int32), Value.ref 179, Value.int (0 : Int32), Value.ref 4] h1) := by
  rw [mj_den_eq, f149_0]
  exact zt_aload_n rfl rfl (zt_iconst rfl (zt_aload_n rfl rfl (zt_iconst rfl (zt_aload_n rfl rfl (zt_alen (q := 100) (mjkd4 _ _ _ _) (by decide) (mjln4 _ _ _ _) rfl (zt_aload_n rfl rfl (zt_alen (q := 100) (mjkd179 _ _ _ _) (by decide) (mjln179 _ _ _ _) rfl (zt_call1_1 (Nat.le_of_ble_eq_true rfl) rfl (Nat.le_of_ble_eq_true rfl) rfl rfl))))))))
set_option maxRecDepth 100000 in
theorem q149_0_10 (E : mj_E) (d w c : Nat) (hi : Nat → Nat → Int32) (hl : Nat → Nat → Int64) : mj_den mj_P E d 149 0 [Value.ref 3, Value.ref 48] [] (mj_hw w c hi hl) = mj_bi (mj_dc mj_P E d 296 [Value.int (Int32.ofNat 10), Value.int (Int32.ofNat 10)] (mj_hw w c hi hl)) (fun x1 h1 => mj_den mj_P E d 149 11 [Value.ref 3, Value.ref 48] [Value.int x1, Value.int (0 : Int32), Value.ref 48, Value.int (0 : Int32), Value.ref 3] h1) := by
  rw [mj_den_eq, f149_0]
  exact zt_aload_n rfl rfl (zt_iconst rfl (zt_aload_n rfl rfl (zt_iconst rfl (zt_aload_n rfl rfl (zt_alen (q := 100) (mjkd3 _ _ _ _) (by decide) (mjln3 _ _ _ _) rfl (zt_aload_n rfl rfl (zt_alen (q := 100) (mjkd48 _ _ _ _) (by decide) (mjln48 _ _ _ _) rfl (zt_call1_1 (Nat.le_of_ble_eq_true rfl) rfl (Nat.le_of_ble_eq_true rfl) rfl rfl))))))))
set_option maxRecDepth 100000 in
theorem q149_0_11 (E : mj_E) (d w c : Nat) (hi : Nat → Nat → Int32) (hl : Nat → Nat → Int64) : mj_den mj_P E d 149 0 [Value.ref 4, Value.ref 49] [] (mj_hw w c hi hl) = mj_bi (mj_dc mj_P E d 296 [Value.int (Int32.ofNat 10), Value.int (Int32.ofNat 10)] (mj_hw w c hi hl)) (fun x1 h1 => mj_den mj_P E d 149 11 [Value.ref 4, Value.ref 49] [Value.int x1, Value.int (0 : Int32), Value.ref 49, Value.int (0 : Int32), Value.ref 4] h1) := by
  rw [mj_den_eq, f149_0]
  exact zt_aload_n rfl rfl (zt_iconst rfl (zt_aload_n rfl rfl (zt_iconst rfl (zt_aload_n rfl rfl (zt_alen (q := 100) (mjkd4 _ _ _ _) (by decide) (mjln4 _ _ _ _) rfl (zt_aload_n rfl rfl (zt_alen (q := 100) (mjkd49 _ _ _ _) (by decide) (mjln49 _ _ _ _) rfl (zt_call1_1 (Nat.le_of_ble_eq_true rfl) rfl (Nat.le_of_ble_eq_true rfl) rfl rfl))))))))
set_option maxRecDepth 100000 in
theorem q149_0_12 (E : mj_E) (d w c : Nat) (hi : Nat → Nat → Int32) (hl : Nat → Nat → Int64) : mj_den mj_P E d 149 0 [Value.ref 5, Value.ref 50] [] (mj_hw w c hi hl) = mj_bi (mj_dc mj_P E d 296 [Value.int (Int32.ofNat 10), Value.int (Int32.ofNat 10)] (mj_hw w c hi hl)) (fun x1 h1 => mj_den mj_P E d 149 11 [Value.ref 5, Value.ref 50] [Value.int x1, Value.int (0 : Int32), Value.ref 50, Value.int (0 : Int32), Value.ref 5] h1) := by
  rw [mj_den_eq, f149_0]
  exact zt_aload_n rfl rfl (zt_iconst rfl (zt_aload_n rfl rfl (zt_iconst rfl (zt_aload_n rfl rfl (zt_alen (q := 100) (mjkd5 _ _ _ _) (by decide) (mjln5 _ _ _ _) rfl (zt_aload_n rfl rfl (zt_alen (q := 100) (mjkd50 _ _ _ _) (by decide) (mjln50 _ _ _ _) rfl (zt_call1_1 (Nat.le_of_ble_eq_true rfl) rfl (Nat.le_of_ble_eq_true rfl) rfl rfl))))))))
set_option maxRecDepth 100000 in
theorem q149_0_13 (E : mj_E) (d w c : Nat) (hi : Nat → Nat → Int32) (hl : Nat → Nat → Int64) : mj_den mj_P E d 149 0 [Value.ref 6, Value.ref 51] [] (mj_hw w c hi hl) = mj_bi (mj_dc mj_P E d 296 [Value.int (Int32.ofNat 10), Value.int (Int32.ofNat 10)] (mj_hw w c hi hl)) (fun x1 h1 => mj_den mj_P E d 149 11 [Value.ref 6, Value.ref 51] [Value.int x1, Value.int (0 : Int32), Value.ref 51, Value.int (0 : Int32), Value.ref 6] h1) := by
  rw [mj_den_eq, f149_0]
  exact zt_aload_n rfl rfl (zt_iconst rfl (zt_aload_n rfl rfl (zt_iconst rfl (zt_aload_n rfl rfl (zt_alen (q := 100) (mjkd6 _ _ _ _) (by decide) (mjln6 _ _ _ _) rfl (zt_aload_n rfl rfl (zt_alen (q := 100) (mjkd51 _ _ _ _) (by decide) (mjln51 _ _ _ _) rfl (zt_call1_1 (Nat.le_of_ble_eq_true rfl) rfl (Nat.le_of_ble_eq_true rfl) rfl rfl))))))))
set_option maxRecDepth 100000 in
theorem q149_0_14 (E : mj_E) (d w c : Nat) (hi : Nat → Nat → Int32) (hl : Nat → Nat → Int64) : mj_den mj_P E d 149 0 [Value.ref 7, Value.ref 52] [] (mj_hw w c hi hl) = mj_bi (mj_dc mj_P E d 296 [Value.int (Int32.ofNat 10), Value.int (Int32.ofNat 10)] (mj_hw w c hi hl)) (fun x1 h1 => mj_den mj_P E d 149 11 [Value.ref 7, Value.ref 52] [Value.int x1, Value.int (0 : Int32), Value.ref 52, Value.int (0 : Int32), Value.ref 7] h1) := by
  rw [mj_den_eq, f149_0]
  exact zt_aload_n rfl rfl (zt_iconst rfl (zt_aload_n rfl rfl (zt_iconst rfl (zt_aload_n rfl rfl (zt_alen (q := 100) (mjkd7 _ _ _ _) (by decide) (mjln7 _ _ _ _) rfl (zt_aload_n rfl rfl (zt_alen (q := 100) (mjkd52 _ _ _ _) (by decide) (mjln52 _ _ _ _) rfl (zt_call1_1 (Nat.le_of_ble_eq_true rfl) rfl (Nat.le_of_ble_eq_true rfl) rfl rfl))))))))
set_option maxRecDepth 100000 in
theorem q149_0_15 (E : mj_E) (d w c : Nat) (hi : Nat → Nat → Int32) (hl : Nat → Nat → Int64) : mj_den mj_P E d 149 0 [Value.ref 8, Value.ref 53] [] (mj_hw w c hi hl) = mj_bi (mj_dc mj_P E d 296 [Value.int (Int32.ofNat 10), Value.int (Int32.ofNat 10)] (mj_hw w c hi hl)) (fun x1 h1 => mj_den mj_P E d 149 11 [Value.ref 8, Value.ref 53] [Value.int x1, Value.int (0 : Int32), Value.ref 53, Value.int (0 : Int32), Value.ref 8] h1) := by
  rw [mj_den_eq, f149_0]
  exact zt_aload_n rfl rfl (zt_iconst rfl (zt_aload_n rfl rfl (zt_iconst rfl (zt_aload_n rfl rfl (zt_alen (q := 100) (mjkd8 _ _ _ _) (by decide) (mjln8 _ _ _ _) rfl (zt_aload_n rfl rfl (zt_alen (q := 100) (mjkd53 _ _ _ _) (by decide) (mjln53 _ _ _ _) rfl (zt_call1_1 (Nat.le_of_ble_eq_true rfl) rfl (Nat.le_of_ble_eq_true rfl) rfl rfl))))))))
set_option maxRecDepth 100000 in
theorem q149_0_16 (E : mj_E) (d w c : Nat) (hi : Nat → Nat → Int32) (hl : Nat → Nat → Int64) : mj_den mj_P E d 149 0 [Value.ref 9, Value.ref 54] [] (mj_hw w c hi hl) = mj_bi (mj_dc mj_P E d 296 [Value.int (Int32.ofNat 10), Value.int (Int32.ofNat 10)] (mj_hw w c hi hl)) (fun x1 h1 => mj_den mj_P E d 149 11 [Value.ref 9, Value.ref 54] [Value.int x1, Value.int (0 : Int32), Value.ref 54, Value.int (0 : Int32), Value.ref 9] h1) := by
  rw [mj_den_eq, f149_0]
  exact zt_aload_n rfl rfl (zt_iconst rfl (zt_aload_n rfl rfl (zt_iconst rfl (zt_aload_n rfl rfl (zt_alen (q := 100) (mjkd9 _ _ _ _) (by decide) (mjln9 _ _ _ _) rfl (zt_aload_n rfl rfl (zt_alen (q := 100) (mjkd54 _ _ _ _) (by decide) (mjln54 _ _ _ _) rfl (zt_call1_1 (Nat.le_of_ble_eq_true rfl) rfl (Nat.le_of_ble_eq_true rfl) rfl rfl))))))))
set_option maxRecDepth 100000 in
theorem q149_0_17 (E : mj_E) (d w c : Nat) (hi : Nat → Nat → Int32) (hl : Nat → Nat → Int64) : mj_den mj_P E d 149 0 [Value.ref 10, Value.ref 55] [] (mj_hw w c hi hl) = mj_bi (mj_dc mj_P E d 296 [Value.int (Int32.ofNat 12), Value.int (Int32.ofNat 12)] (mj_hw w c hi hl)) (fun x1 h1 => mj_den mj_P E d 149 11 [Value.ref 10, Value.ref 55] [Value.int x1, Value.int (0 : Int32), Value.ref 55, Value.int (0 : Int32), Value.ref 10] h1) := by
  rw [mj_den_eq, f149_0]
  exact zt_aload_n rfl rfl (zt_iconst rfl (zt_aload_n rfl rfl (zt_iconst rfl (zt_aload_n rfl rfl (zt_alen (q := 100) (mjkd10 _ _ _ _) (by decide) (mjln10 _ _ _ _) rfl (zt_aload_n rfl rfl (zt_alen (q := 100) (mjkd55 _ _ _ _) (by decide) (mjln55 _ _ _ _) rfl (zt_call1_1 (Nat.le_of_ble_eq_true rfl) rfl (Nat.le_of_ble_eq_true rfl) rfl rfl))))))))
set_option maxRecDepth 100000 in
theorem q149_0_18 (E : mj_E) (d w c : Nat) (hi : Nat → Nat → Int32) (hl : Nat → Nat → Int64) : mj_den mj_P E d 149 0 [Value.ref 11, Value.ref 56] [] (mj_hw w c hi hl) = mj_bi (mj_dc mj_P E d 296 [Value.int (Int32.ofNat 12), Value.int (Int32.ofNat 12)] (mj_hw w c hi hl)) (fun x1 h1 => mj_den mj_P E d 149 11 [Value.ref 11, Value.ref 56] [Value.int x1, Value.int (0 : Int32), Value.ref 56, Value.int (0 : Int32), Value.ref 11] h1) := by
  rw [mj_den_eq, f149_0]
  exact zt_aload_n rfl rfl (zt_iconst rfl (zt_aload_n rfl rfl (zt_iconst rfl (zt_aload_n rfl rfl (zt_alen (q := 100) (mjkd11 _ _ _ _) (by decide) (mjln11 _ _ _ _) rfl (zt_aload_n rfl rfl (zt_alen (q := 100) (mjkd56 _ _ _ _) (by decide) (mjln56 _ _ _ _) rfl (zt_call1_1 (Nat.le_of_ble_eq_true rfl) rfl (Nat.le_of_ble_eq_true rfl) rfl rfl))))))))
set_option maxRecDepth 100000 in
theorem q149_0_19 (E : mj_E) (d w c : Nat) (hi : Nat → Nat → Int32) (hl : Nat → Nat → Int64) : mj_den mj_P E d 149 0 [Value.ref 12, Value.ref 57] [] (mj_hw w c hi hl) = mj_bi (mj_dc mj_P E d 296 [Value.int (Int32.ofNat 12), Value.int (Int32.ofNat 12)] (mj_hw w c hi hl)) (fun x1 h1 => mj_den mj_P E d 149 11 [Value.ref 12, Value.ref 57] [Value.int x1, Value.int (0 : Int32), Value.ref 57, Value.int (0 : Int32), Value.ref 12] h1) := by
  rw [mj_den_eq, f149_0]
  exact zt_aload_n rfl rfl (zt_iconst rfl (zt_aload_n rfl rfl (zt_iconst rfl (zt_aload_n rfl rfl (zt_alen (q := 100) (mjkd12 _ _ _ _) (by decide) (mjln12 _ _ _ _) rfl (zt_aload_n rfl rfl (zt_alen (q := 100) (mjkd57 _ _ _ _) (by decide) (mjln57 _ _ _ _) rfl (zt_call1_1 (Nat.le_of_ble_eq_true rfl) rfl (Nat.le_of_ble_eq_true rfl) rfl rfl))))))))
set_option maxRecDepth 100000 in
theorem q149_0_2 (E : mj_E) (d w c : Nat) (hi : Nat → Nat → Int32) (hl : Nat → Nat → Int64) : mj_den mj_P E d 149 0 [Value.ref 5, Value.ref 180] [] (mj_hw w c hi hl) = mj_bi (mj_dc mj_P E d 296 [Value.int (Int32.ofNat 10), Value.int (Int32.ofNat 10)] (mj_hw w c hi hl)) (fun x1 h1 => mj_den mj_P E d 149 11 [Value.ref 5, Value.ref 180] [Value.int x1, Value.int (0 : Int32), Value.ref 180, Value.int (0 : Int32), Value.ref 5] h1) := by
  rw [mj_den_eq, f149_0]
  exact zt_aload_n rfl rfl (zt_iconst rfl (zt_aload_n rfl rfl (zt_iconst rfl (zt_aload_n rfl rfl (zt_alen (q := 100) (mjkd5 _ _ _ _) (by decide) (mjln5 _ _ _ _) rfl (zt_aload_n rfl rfl (zt_alen (q := 100) (mjkd180 _ _ _ _) (by decide) (mjln180 _ _ _ _) rfl (zt_call1_1 (Nat.le_of_ble_eq_true rfl) rfl (Nat.le_of_ble_eq_true rfl) rfl rfl))))))))
set_option maxRecDepth 100000 in
theorem q149_0_20 (E : mj_E) (d w c : Nat) (hi : Nat → Nat → Int32) (hl : Nat → Nat → Int64) : mj_den mj_P E d 149 0 [Value.ref 14, Value.ref 59] [] (mj_hw w c hi hl) = mj_bi (mj_dc mj_P E d 296 [Value.int (Int32.ofNat 16), Value.int (Int32.ofNat 16)] (mj_hw w c hi hl)) (fun x1 h1 => mj_den mj_P E d 149 11 [Value.ref 14, Value.ref 59] [Value.int x1, Value.int (0 : Int32), Value.ref 59, Value.int (0 : Int32), Value.ref 14] h1) := by
  rw [mj_den_eq, f149_0]
  exact zt_aload_n rfl rfl (zt_iconst rfl (zt_aload_n rfl rfl (zt_iconst rfl (zt_aload_n rfl rfl (zt_alen (q := 100) (mjkd14 _ _ _ _) (by decide) (mjln14 _ _ _ _) rfl (zt_aload_n rfl rfl (zt_alen (q := 100) (mjkd59 _ _ _ _) (by decide) (mjln59 _ _ _ _) rfl (zt_call1_1 (Nat.le_of_ble_eq_true rfl) rfl (Nat.le_of_ble_eq_true rfl) rfl rfl))))))))
set_option maxRecDepth 100000 in
theorem q149_0_21 (E : mj_E) (d w c : Nat) (hi : Nat → Nat → Int32) (hl : Nat → Nat → Int64) : mj_den mj_P E d 149 0 [Value.ref 15, Value.ref 60] [] (mj_hw w c hi hl) = mj_bi (mj_dc mj_P E d 296 [Value.int (Int32.ofNat 16), Value.int (Int32.ofNat 16)] (mj_hw w c hi hl)) (fun x1 h1 => mj_den mj_P E d 149 11 [Value.ref 15, Value.ref 60] [Value.int x1, Value.int (0 : Int32), Value.ref 60, Value.int (0 : Int32), Value.ref 15] h1) := by
  rw [mj_den_eq, f149_0]
  exact zt_aload_n rfl rfl (zt_iconst rfl (zt_aload_n rfl rfl (zt_iconst rfl (zt_aload_n rfl rfl (zt_alen (q := 100) (mjkd15 _ _ _ _) (by decide) (mjln15 _ _ _ _) rfl (zt_aload_n rfl rfl (zt_alen (q := 100) (mjkd60 _ _ _ _) (by decide) (mjln60 _ _ _ _) rfl (zt_call1_1 (Nat.le_of_ble_eq_true rfl) rfl (Nat.le_of_ble_eq_true rfl) rfl rfl))))))))
set_option maxRecDepth 100000 in
theorem q149_0_22 (E : mj_E) (d w c : Nat) (hi : Nat → Nat → Int32) (hl : Nat → Nat → Int64) : mj_den mj_P E d 149 0 [Value.ref 16, Value.ref 61] [] (mj_hw w c hi hl) = mj_bi (mj_dc mj_P E d 296 [Value.int (Int32.ofNat 16), Value.int (Int32.ofNat 16)] (mj_hw w c hi hl)) (fun x1 h1 => mj_den mj_P E d 149 11 [Value.ref 16, Value.ref 61] [Value.int x1, Value.int (0 : Int32), Value.ref 61, Value.int (0 : Int32), Value.ref 16] h1) := by
  rw [mj_den_eq, f149_0]
  exact zt_aload_n rfl rfl (zt_iconst rfl (zt_aload_n rfl rfl (zt_iconst rfl (zt_aload_n rfl rfl (zt_alen (q := 100) (mjkd16 _ _ _ _) (by decide) (mjln16 _ _ _ _) rfl (zt_aload_n rfl rfl (zt_alen (q := 100) (mjkd61 _ _ _ _) (by decide) (mjln61 _ _ _ _) rfl (zt_call1_1 (Nat.le_of_ble_eq_true rfl) rfl (Nat.le_of_ble_eq_true rfl) rfl rfl))))))))
set_option maxRecDepth 100000 in
theorem q149_0_23 (E : mj_E) (d w c : Nat) (hi : Nat → Nat → Int32) (hl : Nat → Nat → Int64) : mj_den mj_P E d 149 0 [Value.ref 17, Value.ref 62] [] (mj_hw w c hi hl) = mj_bi (mj_dc mj_P E d 296 [Value.int (Int32.ofNat 16), Value.int (Int32.ofNat 16)] (mj_hw w c hi hl)) (fun x1 h1 => mj_den mj_P E d 149 11 [Value.ref 17, Value.ref 62] [Value.int x1, Value.int (0 : Int32), Value.ref 62, Value.int (0 : Int32), Value.ref 17] h1) := by
  rw [mj_den_eq, f149_0]
  exact zt_aload_n rfl rfl (zt_iconst rfl (zt_aload_n rfl rfl (zt_iconst rfl (zt_aload_n rfl rfl (zt_alen (q := 100) (mjkd17 _ _ _ _) (by decide) (mjln17 _ _ _ _) rfl (zt_aload_n rfl rfl (zt_alen (q := 100) (mjkd62 _ _ _ _) (by decide) (mjln62 _ _ _ _) rfl (zt_call1_1 (Nat.le_of_ble_eq_true rfl) rfl (Nat.le_of_ble_eq_true rfl) rfl rfl))))))))
set_option maxRecDepth 100000 in
theorem q149_0_24 (E : mj_E) (d w c : Nat) (hi : Nat → Nat → Int32) (hl : Nat → Nat → Int64) : mj_den mj_P E d 149 0 [Value.ref 18, Value.ref 63] [] (mj_hw w c hi hl) = mj_bi (mj_dc mj_P E d 296 [Value.int (Int32.ofNat 400), Value.int (Int32.ofNat 400)] (mj_hw w c hi hl)) (fun x1 h1 => mj_den mj_P E d 149 11 [Value.ref 18, Value.ref 63] [Value.int x1, Value.int (0 : Int32), Value.ref 63, Value.int (0 : Int32), Value.ref 18] h1) := by
  rw [mj_den_eq, f149_0]
  exact zt_aload_n rfl rfl (zt_iconst rfl (zt_aload_n rfl rfl (zt_iconst rfl (zt_aload_n rfl rfl (zt_alen (q := 100) (mjkd18 _ _ _ _) (by decide) (mjln18 _ _ _ _) rfl (zt_aload_n rfl rfl (zt_alen (q := 100) (mjkd63 _ _ _ _) (by decide) (mjln63 _ _ _ _) rfl (zt_call1_1 (Nat.le_of_ble_eq_true rfl) rfl (Nat.le_of_ble_eq_true rfl) rfl rfl))))))))
set_option maxRecDepth 100000 in
theorem q149_0_25 (E : mj_E) (d w c : Nat) (hi : Nat → Nat → Int32) (hl : Nat → Nat → Int64) : mj_den mj_P E d 149 0 [Value.ref 19, Value.ref 64] [] (mj_hw w c hi hl) = mj_bi (mj_dc mj_P E d 296 [Value.int (Int32.ofNat 400), Value.int (Int32.ofNat 400)] (mj_hw w c hi hl)) (fun x1 h1 => mj_den mj_P E d 149 11 [Value.ref 19, Value.ref 64] [Value.int x1, Value.int (0 : Int32), Value.ref 64, Value.int (0 : Int32), Value.ref 19] h1) := by
  rw [mj_den_eq, f149_0]
  exact zt_aload_n rfl rfl (zt_iconst rfl (zt_aload_n rfl rfl (zt_iconst rfl (zt_aload_n rfl rfl (zt_alen (q := 100) (mjkd19 _ _ _ _) (by decide) (mjln19 _ _ _ _) rfl (zt_aload_n rfl rfl (zt_alen (q := 100) (mjkd64 _ _ _ _) (by decide) (mjln64 _ _ _ _) rfl (zt_call1_1 (Nat.le_of_ble_eq_true rfl) rfl (Nat.le_of_ble_eq_true rfl) rfl rfl))))))))
set_option maxRecDepth 100000 in
theorem q149_0_26 (E : mj_E) (d w c : Nat) (hi : Nat → Nat → Int32) (hl : Nat → Nat → Int64) : mj_den mj_P E d 149 0 [Value.ref 23, Value.ref 68] [] (mj_hw w c hi hl) = mj_bi (mj_dc mj_P E d 296 [Value.int (Int32.ofNat 16), Value.int (Int32.ofNat 16)] (mj_hw w c hi hl)) (fun x1 h1 => mj_den mj_P E d 149 11 [Value.ref 23, Value.ref 68] [Value.int x1, Value.int (0 : Int32), Value.ref 68, Value.int (0 : Int32), Value.ref 23] h1) := by
  rw [mj_den_eq, f149_0]
  exact zt_aload_n rfl rfl (zt_iconst rfl (zt_aload_n rfl rfl (zt_iconst rfl (zt_aload_n rfl rfl (zt_alen (q := 100) (mjkd23 _ _ _ _) (by decide) (mjln23 _ _ _ _) rfl (zt_aload_n rfl rfl (zt_alen (q := 100) (mjkd68 _ _ _ _) (by decide) (mjln68 _ _ _ _) rfl (zt_call1_1 (Nat.le_of_ble_eq_true rfl) rfl (Nat.le_of_ble_eq_true rfl) rfl rfl))))))))
set_option maxRecDepth 100000 in
theorem q149_0_27 (E : mj_E) (d w c : Nat) (hi : Nat → Nat → Int32) (hl : Nat → Nat → Int64) : mj_den mj_P E d 149 0 [Value.ref 24, Value.ref 69] [] (mj_hw w c hi hl) = mj_bi (mj_dc mj_P E d 296 [Value.int (Int32.ofNat 16), Value.int (Int32.ofNat 16)] (mj_hw w c hi hl)) (fun x1 h1 => mj_den mj_P E d 149 11 [Value.ref 24, Value.ref 69] [Value.int x1, Value.int (0 : Int32), Value.ref 69, Value.int (0 : Int32), Value.ref 24] h1) := by
  rw [mj_den_eq, f149_0]
  exact zt_aload_n rfl rfl (zt_iconst rfl (zt_aload_n rfl rfl (zt_iconst rfl (zt_aload_n rfl rfl (zt_alen (q := 100) (mjkd24 _ _ _ _) (by decide) (mjln24 _ _ _ _) rfl (zt_aload_n rfl rfl (zt_alen (q := 100) (mjkd69 _ _ _ _) (by decide) (mjln69 _ _ _ _) rfl (zt_call1_1 (Nat.le_of_ble_eq_true rfl) rfl (Nat.le_of_ble_eq_true rfl) rfl rfl))))))))
set_option maxRecDepth 100000 in
theorem q149_0_28 (E : mj_E) (d w c : Nat) (hi : Nat → Nat → Int32) (hl : Nat → Nat → Int64) : mj_den mj_P E d 149 0 [Value.ref 25, Value.ref 70] [] (mj_hw w c hi hl) = mj_bi (mj_dc mj_P E d 296 [Value.int (Int32.ofNat 16), Value.int (Int32.ofNat 16)] (mj_hw w c hi hl)) (fun x1 h1 => mj_den mj_P E d 149 11 [Value.ref 25, Value.ref 70] [Value.int x1, Value.int (0 : Int32), Value.ref 70, Value.int (0 : Int32), Value.ref 25] h1) := by
  rw [mj_den_eq, f149_0]
  exact zt_aload_n rfl rfl (zt_iconst rfl (zt_aload_n rfl rfl (zt_iconst rfl (zt_aload_n rfl rfl (zt_alen (q := 100) (mjkd25 _ _ _ _) (by decide) (mjln25 _ _ _ _) rfl (zt_aload_n rfl rfl (zt_alen (q := 100) (mjkd70 _ _ _ _) (by decide) (mjln70 _ _ _ _) rfl (zt_call1_1 (Nat.le_of_ble_eq_true rfl) rfl (Nat.le_of_ble_eq_true rfl) rfl rfl))))))))
set_option maxRecDepth 100000 in
theorem q149_0_29 (E : mj_E) (d w c : Nat) (hi : Nat → Nat → Int32) (hl : Nat → Nat → Int64) : mj_den mj_P E d 149 0 [Value.ref 27, Value.ref 72] [] (mj_hw w c hi hl) = mj_bi (mj_dc mj_P E d 296 [Value.int (Int32.ofNat 16), Value.int (Int32.ofNat 16)] (mj_hw w c hi hl)) (fun x1 h1 => mj_den mj_P E d 149 11 [Value.ref 27, Value.ref 72] [Value.int x1, Value.int (0 : Int32), Value.ref 72, Value.int (0 : Int32), Value.ref 27] h1) := by
  rw [mj_den_eq, f149_0]
  exact zt_aload_n rfl rfl (zt_iconst rfl (zt_aload_n rfl rfl (zt_iconst rfl (zt_aload_n rfl rfl (zt_alen (q := 100) (mjkd27 _ _ _ _) (by decide) (mjln27 _ _ _ _) rfl (zt_aload_n rfl rfl (zt_alen (q := 100) (mjkd72 _ _ _ _) (by decide) (mjln72 _ _ _ _) rfl (zt_call1_1 (Nat.le_of_ble_eq_true rfl) rfl (Nat.le_of_ble_eq_true rfl) rfl rfl))))))))
set_option maxRecDepth 100000 in
theorem q149_0_3 (E : mj_E) (d w c : Nat) (hi : Nat → Nat → Int32) (hl : Nat → Nat → Int64) : mj_den mj_P E d 149 0 [Value.ref 6, Value.ref 181] [] (mj_hw w c hi hl) = mj_bi (mj_dc mj_P E d 296 [Value.int (Int32.ofNat 10), Value.int (Int32.ofNat 10)] (mj_hw w c hi hl)) (fun x1 h1 => mj_den mj_P E d 149 11 [Value.ref 6, Value.ref 181] [Value.int x1, Value.int (0 : Int32), Value.ref 181, Value.int (0 : Int32), Value.ref 6] h1) := by
  rw [mj_den_eq, f149_0]
  exact zt_aload_n rfl rfl (zt_iconst rfl (zt_aload_n rfl rfl (zt_iconst rfl (zt_aload_n rfl rfl (zt_alen (q := 100) (mjkd6 _ _ _ _) (by decide) (mjln6 _ _ _ _) rfl (zt_aload_n rfl rfl (zt_alen (q := 100) (mjkd181 _ _ _ _) (by decide) (mjln181 _ _ _ _) rfl (zt_call1_1 (Nat.le_of_ble_eq_true rfl) rfl (Nat.le_of_ble_eq_true rfl) rfl rfl))))))))
set_option maxRecDepth 100000 in
theorem q149_0_30 (E : mj_E) (d w c : Nat) (hi : Nat → Nat → Int32) (hl : Nat → Nat → Int64) : mj_den mj_P E d 149 0 [Value.ref 28, Value.ref 73] [] (mj_hw w c hi hl) = mj_bi (mj_dc mj_P E d 296 [Value.int (Int32.ofNat 16), Value.int (Int32.ofNat 16)] (mj_hw w c hi hl)) (fun x1 h1 => mj_den mj_P E d 149 11 [Value.ref 28, Value.ref 73] [Value.int x1, Value.int (0 : Int32), Value.ref 73, Value.int (0 : Int32), Value.ref 28] h1) := by
  rw [mj_den_eq, f149_0]
  exact zt_aload_n rfl rfl (zt_iconst rfl (zt_aload_n rfl rfl (zt_iconst rfl (zt_aload_n rfl rfl (zt_alen (q := 100) (mjkd28 _ _ _ _) (by decide) (mjln28 _ _ _ _) rfl (zt_aload_n rfl rfl (zt_alen (q := 100) (mjkd73 _ _ _ _) (by decide) (mjln73 _ _ _ _) rfl (zt_call1_1 (Nat.le_of_ble_eq_true rfl) rfl (Nat.le_of_ble_eq_true rfl) rfl rfl))))))))
set_option maxRecDepth 100000 in
theorem q149_0_31 (E : mj_E) (d w c : Nat) (hi : Nat → Nat → Int32) (hl : Nat → Nat → Int64) : mj_den mj_P E d 149 0 [Value.ref 29, Value.ref 74] [] (mj_hw w c hi hl) = mj_bi (mj_dc mj_P E d 296 [Value.int (Int32.ofNat 16), Value.int (Int32.ofNat 16)] (mj_hw w c hi hl)) (fun x1 h1 => mj_den mj_P E d 149 11 [Value.ref 29, Value.ref 74] [Value.int x1, Value.int (0 : Int32), Value.ref 74, Value.int (0 : Int32), Value.ref 29] h1) := by
  rw [mj_den_eq, f149_0]
  exact zt_aload_n rfl rfl (zt_iconst rfl (zt_aload_n rfl rfl (zt_iconst rfl (zt_aload_n rfl rfl (zt_alen (q := 100) (mjkd29 _ _ _ _) (by decide) (mjln29 _ _ _ _) rfl (zt_aload_n rfl rfl (zt_alen (q := 100) (mjkd74 _ _ _ _) (by decide) (mjln74 _ _ _ _) rfl (zt_call1_1 (Nat.le_of_ble_eq_true rfl) rfl (Nat.le_of_ble_eq_true rfl) rfl rfl))))))))
set_option maxRecDepth 100000 in
theorem q149_0_32 (E : mj_E) (d w c : Nat) (hi : Nat → Nat → Int32) (hl : Nat → Nat → Int64) : mj_den mj_P E d 149 0 [Value.ref 31, Value.ref 76] [] (mj_hw w c hi hl) = mj_bi (mj_dc mj_P E d 296 [Value.int (Int32.ofNat 16), Value.int (Int32.ofNat 16)] (mj_hw w c hi hl)) (fun x1 h1 => mj_den mj_P E d 149 11 [Value.ref 31, Value.ref 76] [Value.int x1, Value.int (0 : Int32), Value.ref 76, Value.int (0 : Int32), Value.ref 31] h1) := by
  rw [mj_den_eq, f149_0]
  exact zt_aload_n rfl rfl (zt_iconst rfl (zt_aload_n rfl rfl (zt_iconst rfl (zt_aload_n rfl rfl (zt_alen (q := 100) (mjkd31 _ _ _ _) (by decide) (mjln31 _ _ _ _) rfl (zt_aload_n rfl rfl (zt_alen (q := 100) (mjkd76 _ _ _ _) (by decide) (mjln76 _ _ _ _) rfl (zt_call1_1 (Nat.le_of_ble_eq_true rfl) rfl (Nat.le_of_ble_eq_true rfl) rfl rfl))))))))
set_option maxRecDepth 100000 in
theorem q149_0_33 (E : mj_E) (d w c : Nat) (hi : Nat → Nat → Int32) (hl : Nat → Nat → Int64) : mj_den mj_P E d 149 0 [Value.ref 32, Value.ref 77] [] (mj_hw w c hi hl) = mj_bi (mj_dc mj_P E d 296 [Value.int (Int32.ofNat 16), Value.int (Int32.ofNat 16)] (mj_hw w c hi hl)) (fun x1 h1 => mj_den mj_P E d 149 11 [Value.ref 32, Value.ref 77] [Value.int x1, Value.int (0 : Int32), Value.ref 77, Value.int (0 : Int32), Value.ref 32] h1) := by
  rw [mj_den_eq, f149_0]
  exact zt_aload_n rfl rfl (zt_iconst rfl (zt_aload_n rfl rfl (zt_iconst rfl (zt_aload_n rfl rfl (zt_alen (q := 100) (mjkd32 _ _ _ _) (by decide) (mjln32 _ _ _ _) rfl (zt_aload_n rfl rfl (zt_alen (q := 100) (mjkd77 _ _ _ _) (by decide) (mjln77 _ _ _ _) rfl (zt_call1_1 (Nat.le_of_ble_eq_true rfl) rfl (Nat.le_of_ble_eq_true rfl) rfl rfl))))))))
set_option maxRecDepth 100000 in
theorem q149_0_34 (E : mj_E) (d w c : Nat) (hi : Nat → Nat → Int32) (hl : Nat → Nat → Int64) : mj_den mj_P E d 149 0 [Value.ref 33, Value.ref 78] [] (mj_hw w c hi hl) = mj_bi (mj_dc mj_P E d 296 [Value.int (Int32.ofNat 16), Value.int (Int32.ofNat 16)] (mj_hw w c hi hl)) (fun x1 h1 => mj_den mj_P E d 149 11 [Value.ref 33, Value.ref 78] [Value.int x1, Value.int (0 : Int32), Value.ref 78, Value.int (0 : Int32), Value.ref 33] h1) := by
  rw [mj_den_eq, f149_0]
  exact zt_aload_n rfl rfl (zt_iconst rfl (zt_aload_n rfl rfl (zt_iconst rfl (zt_aload_n rfl rfl (zt_alen (q := 100) (mjkd33 _ _ _ _) (by decide) (mjln33 _ _ _ _) rfl (zt_aload_n rfl rfl (zt_alen (q := 100) (mjkd78 _ _ _ _) (by decide) (mjln78 _ _ _ _) rfl (zt_call1_1 (Nat.le_of_ble_eq_true rfl) rfl (Nat.le_of_ble_eq_true rfl) rfl rfl))))))))
set_option maxRecDepth 100000 in
theorem q149_0_35 (E : mj_E) (d w c : Nat) (hi : Nat → Nat → Int32) (hl : Nat → Nat → Int64) : mj_den mj_P E d 149 0 [Value.ref 35, Value.ref 80] [] (mj_hw w c hi hl) = mj_bi (mj_dc mj_P E d 296 [Value.int (Int32.ofNat 16), Value.int (Int32.ofNat 16)] (mj_hw w c hi hl)) (fun x1 h1 => mj_den mj_P E d 149 11 [Value.ref 35, Value.ref 80] [Value.int x1, Value.int (0 : Int32), Value.ref 80, Value.int (0 : Int32), Value.ref 35] h1) := by
  rw [mj_den_eq, f149_0]
  exact zt_aload_n rfl rfl (zt_iconst rfl (zt_aload_n rfl rfl (zt_iconst rfl (zt_aload_n rfl rfl (zt_alen (q := 100) (mjkd35 _ _ _ _) (by decide) (mjln35 _ _ _ _) rfl (zt_aload_n rfl rfl (zt_alen (q := 100) (mjkd80 _ _ _ _) (by decide) (mjln80 _ _ _ _) rfl (zt_call1_1 (Nat.le_of_ble_eq_true rfl) rfl (Nat.le_of_ble_eq_true rfl) rfl rfl))))))))
set_option maxRecDepth 100000 in
theorem q149_0_36 (E : mj_E) (d w c : Nat) (hi : Nat → Nat → Int32) (hl : Nat → Nat → Int64) : mj_den mj_P E d 149 0 [Value.ref 36, Value.ref 81] [] (mj_hw w c hi hl) = mj_bi (mj_dc mj_P E d 296 [Value.int (Int32.ofNat 16), Value.int (Int32.ofNat 16)] (mj_hw w c hi hl)) (fun x1 h1 => mj_den mj_P E d 149 11 [Value.ref 36, Value.ref 81] [Value.int x1, Value.int (0 : Int32), Value.ref 81, Value.int (0 : Int32), Value.ref 36] h1) := by
  rw [mj_den_eq, f149_0]
  exact zt_aload_n rfl rfl (zt_iconst rfl (zt_aload_n rfl rfl (zt_iconst rfl (zt_aload_n rfl rfl (zt_alen (q := 100) (mjkd36 _ _ _ _) (by decide) (mjln36 _ _ _ _) rfl (zt_aload_n rfl rfl (zt_alen (q := 100) (mjkd81 _ _ _ _) (by decide) (mjln81 _ _ _ _) rfl (zt_call1_1 (Nat.le_of_ble_eq_true rfl) rfl (Nat.le_of_ble_eq_true rfl) rfl rfl))))))))
set_option maxRecDepth 100000 in
theorem q149_0_37 (E : mj_E) (d w c : Nat) (hi : Nat → Nat → Int32) (hl : Nat → Nat → Int64) : mj_den mj_P E d 149 0 [Value.ref 37, Value.ref 82] [] (mj_hw w c hi hl) = mj_bi (mj_dc mj_P E d 296 [Value.int (Int32.ofNat 6), Value.int (Int32.ofNat 6)] (mj_hw w c hi hl)) (fun x1 h1 => mj_den mj_P E d 149 11 [Value.ref 37, Value.ref 82] [Value.int x1, Value.int (0 : Int32), Value.ref 82, Value.int (0 : Int32), Value.ref 37] h1) := by
  rw [mj_den_eq, f149_0]
  exact zt_aload_n rfl rfl (zt_iconst rfl (zt_aload_n rfl rfl (zt_iconst rfl (zt_aload_n rfl rfl (zt_alen (q := 100) (mjkd37 _ _ _ _) (by decide) (mjln37 _ _ _ _) rfl (zt_aload_n rfl rfl (zt_alen (q := 100) (mjkd82 _ _ _ _) (by decide) (mjln82 _ _ _ _) rfl (zt_call1_1 (Nat.le_of_ble_eq_true rfl) rfl (Nat.le_of_ble_eq_true rfl) rfl rfl))))))))
set_option maxRecDepth 100000 in
theorem q149_0_38 (E : mj_E) (d w c : Nat) (hi : Nat → Nat → Int32) (hl : Nat → Nat → Int64) : mj_den mj_P E d 149 0 [Value.ref 38, Value.ref 83] [] (mj_hw w c hi hl) = mj_bi (mj_dc mj_P E d 296 [Value.int (Int32.ofNat 8), Value.int (Int32.ofNat 8)] (mj_hw w c hi hl)) (fun x1 h1 => mj_den mj_P E d 149 11 [Value.ref 38, Value.ref 83] [Value.int x1, Value.int (0 : Int32), Value.ref 83, Value.int (0 : Int32), Value.ref 38] h1) := by
  rw [mj_den_eq, f149_0]
  exact zt_aload_n rfl rfl (zt_iconst rfl (zt_aload_n rfl rfl (zt_iconst rfl (zt_aload_n rfl rfl (zt_alen (q := 100) (mjkd38 _ _ _ _) (by decide) (mjln38 _ _ _ _) rfl (zt_aload_n rfl rfl (zt_alen (q := 100) (mjkd83 _ _ _ _) (by decide) (mjln83 _ _ _ _) rfl (zt_call1_1 (Nat.le_of_ble_eq_true rfl) rfl (Nat.le_of_ble_eq_true rfl) rfl rfl))))))))
set_option maxRecDepth 100000 in
theorem q149_0_39 (E : mj_E) (d w c : Nat) (hi : Nat → Nat → Int32) (hl : Nat → Nat → Int64) : mj_den mj_P E d 149 0 [Value.ref 39, Value.ref 84] [] (mj_hw w c hi hl) = mj_bi (mj_dc mj_P E d 296 [Value.int (Int32.ofNat 7), Value.int (Int32.ofNat 7)] (mj_hw w c hi hl)) (fun x1 h1 => mj_den mj_P E d 149 11 [Value.ref 39, Value.ref 84] [Value.int x1, Value.int (0 : Int32), Value.ref 84, Value.int (0 : Int32), Value.ref 39] h1) := by
  rw [mj_den_eq, f149_0]
  exact zt_aload_n rfl rfl (zt_iconst rfl (zt_aload_n rfl rfl (zt_iconst rfl (zt_aload_n rfl rfl (zt_alen (q := 100) (mjkd39 _ _ _ _) (by decide) (mjln39 _ _ _ _) rfl (zt_aload_n rfl rfl (zt_alen (q := 100) (mjkd84 _ _ _ _) (by decide) (mjln84 _ _ _ _) rfl (zt_call1_1 (Nat.le_of_ble_eq_true rfl) rfl (Nat.le_of_ble_eq_true rfl) rfl rfl))))))))
set_option maxRecDepth 100000 in
theorem q149_0_4 (E : mj_E) (d w c : Nat) (hi : Nat → Nat → Int32) (hl : Nat → Nat → Int64) : mj_den mj_P E d 149 0 [Value.ref 7, Value.ref 182] [] (mj_hw w c hi hl) = mj_bi (mj_dc mj_P E d 296 [Value.int (Int32.ofNat 10), Value.int (Int32.ofNat 10)] (mj_hw w c hi hl)) (fun x1 h1 => mj_den mj_P E d 149 11 [Value.ref 7, Value.ref 182] [Value.int x1, Value.int (0 : Int32), Value.ref 182, Value.int (0 : Int32), Value.ref 7] h1) := by
  rw [mj_den_eq, f149_0]
  exact zt_aload_n rfl rfl (zt_iconst rfl (zt_aload_n rfl rfl (zt_iconst rfl (zt_aload_n rfl rfl (zt_alen (q := 100) (mjkd7 _ _ _ _) (by decide) (mjln7 _ _ _ _) rfl (zt_aload_n rfl rfl (zt_alen (q := 100) (mjkd182 _ _ _ _) (by decide) (mjln182 _ _ _ _) rfl (zt_call1_1 (Nat.le_of_ble_eq_true rfl) rfl (Nat.le_of_ble_eq_true rfl) rfl rfl))))))))
set_option maxRecDepth 100000 in
theorem q149_0_40 (E : mj_E) (d w c : Nat) (hi : Nat → Nat → Int32) (hl : Nat → Nat → Int64) : mj_den mj_P E d 149 0 [Value.ref 40, Value.ref 85] [] (mj_hw w c hi hl) = mj_bi (mj_dc mj_P E d 296 [Value.int (Int32.ofNat 7), Value.int (Int32.ofNat 7)] (mj_hw w c hi hl)) (fun x1 h1 => mj_den mj_P E d 149 11 [Value.ref 40, Value.ref 85] [Value.int x1, Value.int (0 : Int32), Value.ref 85, Value.int (0 : Int32), Value.ref 40] h1) := by
  rw [mj_den_eq, f149_0]
  exact zt_aload_n rfl rfl (zt_iconst rfl (zt_aload_n rfl rfl (zt_iconst rfl (zt_aload_n rfl rfl (zt_alen (q := 100) (mjkd40 _ _ _ _) (by decide) (mjln40 _ _ _ _) rfl (zt_aload_n rfl rfl (zt_alen (q := 100) (mjkd85 _ _ _ _) (by decide) (mjln85 _ _ _ _) rfl (zt_call1_1 (Nat.le_of_ble_eq_true rfl) rfl (Nat.le_of_ble_eq_true rfl) rfl rfl))))))))
set_option maxRecDepth 100000 in
theorem q149_0_41 (E : mj_E) (d w c : Nat) (hi : Nat → Nat → Int32) (hl : Nat → Nat → Int64) : mj_den mj_P E d 149 0 [Value.ref 41, Value.ref 86] [] (mj_hw w c hi hl) = mj_bi (mj_dc mj_P E d 296 [Value.int (Int32.ofNat 12), Value.int (Int32.ofNat 12)] (mj_hw w c hi hl)) (fun x1 h1 => mj_den mj_P E d 149 11 [Value.ref 41, Value.ref 86] [Value.int x1, Value.int (0 : Int32), Value.ref 86, Value.int (0 : Int32), Value.ref 41] h1) := by
  rw [mj_den_eq, f149_0]
  exact zt_aload_n rfl rfl (zt_iconst rfl (zt_aload_n rfl rfl (zt_iconst rfl (zt_aload_n rfl rfl (zt_alen (q := 100) (mjkd41 _ _ _ _) (by decide) (mjln41 _ _ _ _) rfl (zt_aload_n rfl rfl (zt_alen (q := 100) (mjkd86 _ _ _ _) (by decide) (mjln86 _ _ _ _) rfl (zt_call1_1 (Nat.le_of_ble_eq_true rfl) rfl (Nat.le_of_ble_eq_true rfl) rfl rfl))))))))
set_option maxRecDepth 100000 in
theorem q149_0_42 (E : mj_E) (d w c : Nat) (hi : Nat → Nat → Int32) (hl : Nat → Nat → Int64) : mj_den mj_P E d 149 0 [Value.ref 42, Value.ref 87] [] (mj_hw w c hi hl) = mj_bi (mj_dc mj_P E d 296 [Value.int (Int32.ofNat 150), Value.int (Int32.ofNat 150)] (mj_hw w c hi hl)) (fun x1 h1 => mj_den mj_P E d 149 11 [Value.ref 42, Value.ref 87] [Value.int x1, Value.int (0 : Int32), Value.ref 87, Value.int (0 : Int32), Value.ref 42] h1) := by
  rw [mj_den_eq, f149_0]
  exact zt_aload_n rfl rfl (zt_iconst rfl (zt_aload_n rfl rfl (zt_iconst rfl (zt_aload_n rfl rfl (zt_alen (q := 100) (mjkd42 _ _ _ _) (by decide) (mjln42 _ _ _ _) rfl (zt_aload_n rfl rfl (zt_alen (q := 100) (mjkd87 _ _ _ _) (by decide) (mjln87 _ _ _ _) rfl (zt_call1_1 (Nat.le_of_ble_eq_true rfl) rfl (Nat.le_of_ble_eq_true rfl) rfl rfl))))))))
set_option maxRecDepth 100000 in
theorem q149_0_43 (E : mj_E) (d w c : Nat) (hi : Nat → Nat → Int32) (hl : Nat → Nat → Int64) : mj_den mj_P E d 149 0 [Value.ref 43, Value.ref 88] [] (mj_hw w c hi hl) = mj_bi (mj_dc mj_P E d 296 [Value.int (Int32.ofNat 150), Value.int (Int32.ofNat 150)] (mj_hw w c hi hl)) (fun x1 h1 => mj_den mj_P E d 149 11 [Value.ref 43, Value.ref 88] [Value.int x1, Value.int (0 : Int32), Value.ref 88, Value.int (0 : Int32), Value.ref 43] h1) := by
  rw [mj_den_eq, f149_0]
  exact zt_aload_n rfl rfl (zt_iconst rfl (zt_aload_n rfl rfl (zt_iconst rfl (zt_aload_n rfl rfl (zt_alen (q := 100) (mjkd43 _ _ _ _) (by decide) (mjln43 _ _ _ _) rfl (zt_aload_n rfl rfl (zt_alen (q := 100) (mjkd88 _ _ _ _) (by decide) (mjln88 _ _ _ _) rfl (zt_call1_1 (Nat.le_of_ble_eq_true rfl) rfl (Nat.le_of_ble_eq_true rfl) rfl rfl))))))))
set_option maxRecDepth 100000 in
theorem q149_0_44 (E : mj_E) (d w c : Nat) (hi : Nat → Nat → Int32) (hl : Nat → Nat → Int64) : mj_den mj_P E d 149 0 [Value.ref 44, Value.ref 89] [] (mj_hw w c hi hl) = mj_bi (mj_dc mj_P E d 296 [Value.int (Int32.ofNat 150), Value.int (Int32.ofNat 150)] (mj_hw w c hi hl)) (fun x1 h1 => mj_den mj_P E d 149 11 [Value.ref 44, Value.ref 89] [Value.int x1, Value.int (0 : Int32), Value.ref 89, Value.int (0 : Int32), Value.ref 44] h1) := by
  rw [mj_den_eq, f149_0]
  exact zt_aload_n rfl rfl (zt_iconst rfl (zt_aload_n rfl rfl (zt_iconst rfl (zt_aload_n rfl rfl (zt_alen (q := 100) (mjkd44 _ _ _ _) (by decide) (mjln44 _ _ _ _) rfl (zt_aload_n rfl rfl (zt_alen (q := 100) (mjkd89 _ _ _ _) (by decide) (mjln89 _ _ _ _) rfl (zt_call1_1 (Nat.le_of_ble_eq_true rfl) rfl (Nat.le_of_ble_eq_true rfl) rfl rfl))))))))
set_option maxRecDepth 100000 in
theorem q149_0_45 (E : mj_E) (d w c : Nat) (hi : Nat → Nat → Int32) (hl : Nat → Nat → Int64) : mj_den mj_P E d 149 0 [Value.ref 45, Value.ref 90] [] (mj_hw w c hi hl) = mj_bi (mj_dc mj_P E d 296 [Value.int (Int32.ofNat 150), Value.int (Int32.ofNat 150)] (mj_hw w c hi hl)) (fun x1 h1 => mj_den mj_P E d 149 11 [Value.ref 45, Value.ref 90] [Value.int x1, Value.int (0 : Int32), Value.ref 90, Value.int (0 : Int32), Value.ref 45] h1) := by
  rw [mj_den_eq, f149_0]
  exact zt_aload_n rfl rfl (zt_iconst rfl (zt_aload_n rfl rfl (zt_iconst rfl (zt_aload_n rfl rfl (zt_alen (q := 100) (mjkd45 _ _ _ _) (by decide) (mjln45 _ _ _ _) rfl (zt_aload_n rfl rfl (zt_alen (q := 100) (mjkd90 _ _ _ _) (by decide) (mjln90 _ _ _ _) rfl (zt_call1_1 (Nat.le_of_ble_eq_true rfl) rfl (Nat.le_of_ble_eq_true rfl) rfl rfl))))))))
set_option maxRecDepth 100000 in
theorem q149_0_46 (E : mj_E) (d w c : Nat) (hi : Nat → Nat → Int32) (hl : Nat → Nat → Int64) : mj_den mj_P E d 149 0 [Value.ref 48, Value.ref 3] [] (mj_hw w c hi hl) = mj_bi (mj_dc mj_P E d 296 [Value.int (Int32.ofNat 10), Value.int (Int32.ofNat 10)] (mj_hw w c hi hl)) (fun x1 h1 => mj_den mj_P E d 149 11 [Value.ref 48, Value.ref 3] [Value.int x1, Value.int (0 : Int32), Value.ref 3, Value.int (0 : Int32), Value.ref 48] h1) := by
  rw [mj_den_eq, f149_0]
  exact zt_aload_n rfl rfl (zt_iconst rfl (zt_aload_n rfl rfl (zt_iconst rfl (zt_aload_n rfl rfl (zt_alen (q := 100) (mjkd48 _ _ _ _) (by decide) (mjln48 _ _ _ _) rfl (zt_aload_n rfl rfl (zt_alen (q := 100) (mjkd3 _ _ _ _) (by decide) (mjln3 _ _ _ _) rfl (zt_call1_1 (Nat.le_of_ble_eq_true rfl) rfl (Nat.le_of_ble_eq_true rfl) rfl rfl))))))))
set_option maxRecDepth 100000 in
theorem q149_0_47 (E : mj_E) (d w c : Nat) (hi : Nat → Nat → Int32) (hl : Nat → Nat → Int64) : mj_den mj_P E d 149 0 [Value.ref 49, Value.ref 4] [] (mj_hw w c hi hl) = mj_bi (mj_dc mj_P E d 296 [Value.int (Int32.ofNat 10), Value.int (Int32.ofNat 10)] (mj_hw w c hi hl)) (fun x1 h1 => mj_den mj_P E d 149 11 [Value.ref 49, Value.ref 4] [Value.int x1, Value.int (0 : Int32), Value.ref 4, Value.int (0 : Int32), Value.ref 49] h1) := by
  rw [mj_den_eq, f149_0]
  exact zt_aload_n rfl rfl (zt_iconst rfl (zt_aload_n rfl rfl (zt_iconst rfl (zt_aload_n rfl rfl (zt_alen (q := 100) (mjkd49 _ _ _ _) (by decide) (mjln49 _ _ _ _) rfl (zt_aload_n rfl rfl (zt_alen (q := 100) (mjkd4 _ _ _ _) (by decide) (mjln4 _ _ _ _) rfl (zt_call1_1 (Nat.le_of_ble_eq_true rfl) rfl (Nat.le_of_ble_eq_true rfl) rfl rfl))))))))
set_option maxRecDepth 100000 in
theorem q149_0_48 (E : mj_E) (d w c : Nat) (hi : Nat → Nat → Int32) (hl : Nat → Nat → Int64) : mj_den mj_P E d 149 0 [Value.ref 50, Value.ref 5] [] (mj_hw w c hi hl) = mj_bi (mj_dc mj_P E d 296 [Value.int (Int32.ofNat 10), Value.int (Int32.ofNat 10)] (mj_hw w c hi hl)) (fun x1 h1 => mj_den mj_P E d 149 11 [Value.ref 50, Value.ref 5] [Value.int x1, Value.int (0 : Int32), Value.ref 5, Value.int (0 : Int32), Value.ref 50] h1) := by
  rw [mj_den_eq, f149_0]
  exact zt_aload_n rfl rfl (zt_iconst rfl (zt_aload_n rfl rfl (zt_iconst rfl (zt_aload_n rfl rfl (zt_alen (q := 100) (mjkd50 _ _ _ _) (by decide) (mjln50 _ _ _ _) rfl (zt_aload_n rfl rfl (zt_alen (q := 100) (mjkd5 _ _ _ _) (by decide) (mjln5 _ _ _ _) rfl (zt_call1_1 (Nat.le_of_ble_eq_true rfl) rfl (Nat.le_of_ble_eq_true rfl) rfl rfl))))))))
set_option maxRecDepth 100000 in
theorem q149_0_49 (E : mj_E) (d w c : Nat) (hi : Nat → Nat → Int32) (hl : Nat → Nat → Int64) : mj_den mj_P E d 149 0 [Value.ref 51, Value.ref 6] [] (mj_hw w c hi hl) = mj_bi (mj_dc mj_P E d 296 [Value.int (Int32.ofNat 10), Value.int (Int32.ofNat 10)] (mj_hw w c hi hl)) (fun x1 h1 => mj_den mj_P E d 149 11 [Value.ref 51, Value.ref 6] [Value.int x1, Value.int (0 : Int32), Value.ref 6, Value.int (0 : Int32), Value.ref 51] h1) := by
  rw [mj_den_eq, f149_0]
  exact zt_aload_n rfl rfl (zt_iconst rfl (zt_aload_n rfl rfl (zt_iconst rfl (zt_aload_n rfl rfl (zt_alen (q := 100) (mjkd51 _ _ _ _) (by decide) (mjln51 _ _ _ _) rfl (zt_aload_n rfl rfl (zt_alen (q := 100) (mjkd6 _ _ _ _) (by decide) (mjln6 _ _ _ _) rfl (zt_call1_1 (Nat.le_of_ble_eq_true rfl) rfl (Nat.le_of_ble_eq_true rfl) rfl rfl))))))))
set_option maxRecDepth 100000 in
theorem q149_0_5 (E : mj_E) (d w c : Nat) (hi : Nat → Nat → Int32) (hl : Nat → Nat → Int64) : mj_den mj_P E d 149 0 [Value.ref 8, Value.ref 183] [] (mj_hw w c hi hl) = mj_bi (mj_dc mj_P E d 296 [Value.int (Int32.ofNat 10), Value.int (Int32.ofNat 10)] (mj_hw w c hi hl)) (fun x1 h1 => mj_den mj_P E d 149 11 [Value.ref 8, Value.ref 183] [Value.int x1, Value.int (0 : Int32), Value.ref 183, Value.int (0 : Int32), Value.ref 8] h1) := by
  rw [mj_den_eq, f149_0]
  exact zt_aload_n rfl rfl (zt_iconst rfl (zt_aload_n rfl rfl (zt_iconst rfl (zt_aload_n rfl rfl (zt_alen (q := 100) (mjkd8 _ _ _ _) (by decide) (mjln8 _ _ _ _) rfl (zt_aload_n rfl rfl (zt_alen (q := 100) (mjkd183 _ _ _ _) (by decide) (mjln183 _ _ _ _) rfl (zt_call1_1 (Nat.le_of_ble_eq_true rfl) rfl (Nat.le_of_ble_eq_true rfl) rfl rfl))))))))
set_option maxRecDepth 100000 in
theorem q149_0_50 (E : mj_E) (d w c : Nat) (hi : Nat → Nat → Int32) (hl : Nat → Nat → Int64) : mj_den mj_P E d 149 0 [Value.ref 52, Value.ref 7] [] (mj_hw w c hi hl) = mj_bi (mj_dc mj_P E d 296 [Value.int (Int32.ofNat 10), Value.int (Int32.ofNat 10)] (mj_hw w c hi hl)) (fun x1 h1 => mj_den mj_P E d 149 11 [Value.ref 52, Value.ref 7] [Value.int x1, Value.int (0 : Int32), Value.ref 7, Value.int (0 : Int32), Value.ref 52] h1) := by
  rw [mj_den_eq, f149_0]
  exact zt_aload_n rfl rfl (zt_iconst rfl (zt_aload_n rfl rfl (zt_iconst rfl (zt_aload_n rfl rfl (zt_alen (q := 100) (mjkd52 _ _ _ _) (by decide) (mjln52 _ _ _ _) rfl (zt_aload_n rfl rfl (zt_alen (q := 100) (mjkd7 _ _ _ _) (by decide) (mjln7 _ _ _ _) rfl (zt_call1_1 (Nat.le_of_ble_eq_true rfl) rfl (Nat.le_of_ble_eq_true rfl) rfl rfl))))))))
set_option maxRecDepth 100000 in
theorem q149_0_51 (E : mj_E) (d w c : Nat) (hi : Nat → Nat → Int32) (hl : Nat → Nat → Int64) : mj_den mj_P E d 149 0 [Value.ref 53, Value.ref 8] [] (mj_hw w c hi hl) = mj_bi (mj_dc mj_P E d 296 [Value.int (Int32.ofNat 10), Value.int (Int32.ofNat 10)] (mj_hw w c hi hl)) (fun x1 h1 => mj_den mj_P E d 149 11 [Value.ref 53, Value.ref 8] [Value.int x1, Value.int (0 : Int32), Value.ref 8, Value.int (0 : Int32), Value.ref 53] h1) := by
  rw [mj_den_eq, f149_0]
  exact zt_aload_n rfl rfl (zt_iconst rfl (zt_aload_n rfl rfl (zt_iconst rfl (zt_aload_n rfl rfl (zt_alen (q := 100) (mjkd53 _ _ _ _) (by decide) (mjln53 _ _ _ _) rfl (zt_aload_n rfl rfl (zt_alen (q := 100) (mjkd8 _ _ _ _) (by decide) (mjln8 _ _ _ _) rfl (zt_call1_1 (Nat.le_of_ble_eq_true rfl) rfl (Nat.le_of_ble_eq_true rfl) rfl rfl))))))))
set_option maxRecDepth 100000 in
theorem q149_0_52 (E : mj_E) (d w c : Nat) (hi : Nat → Nat → Int32) (hl : Nat → Nat → Int64) : mj_den mj_P E d 149 0 [Value.ref 54, Value.ref 9] [] (mj_hw w c hi hl) = mj_bi (mj_dc mj_P E d 296 [Value.int (Int32.ofNat 10), Value.int (Int32.ofNat 10)] (mj_hw w c hi hl)) (fun x1 h1 => mj_den mj_P E d 149 11 [Value.ref 54, Value.ref 9] [Value.int x1, Value.int (0 : Int32), Value.ref 9, Value.int (0 : Int32), Value.ref 54] h1) := by
  rw [mj_den_eq, f149_0]
  exact zt_aload_n rfl rfl (zt_iconst rfl (zt_aload_n rfl rfl (zt_iconst rfl (zt_aload_n rfl rfl (zt_alen (q := 100) (mjkd54 _ _ _ _) (by decide) (mjln54 _ _ _ _) rfl (zt_aload_n rfl rfl (zt_alen (q := 100) (mjkd9 _ _ _ _) (by decide) (mjln9 _ _ _ _) rfl (zt_call1_1 (Nat.le_of_ble_eq_true rfl) rfl (Nat.le_of_ble_eq_true rfl) rfl rfl))))))))
set_option maxRecDepth 100000 in
theorem q149_0_53 (E : mj_E) (d w c : Nat) (hi : Nat → Nat → Int32) (hl : Nat → Nat → Int64) : mj_den mj_P E d 149 0 [Value.ref 55, Value.ref 10] [] (mj_hw w c hi hl) = mj_bi (mj_dc mj_P E d 296 [Value.int (Int32.ofNat 12), Value.int (Int32.ofNat 12)] (mj_hw w c hi hl)) (fun x1 h1 => mj_den mj_P E d 149 11 [Value.ref 55, Value.ref 10] [Value.int x1, Value.int (0 : Int32), Value.ref 10, Value.int (0 : Int32), Value.ref 55] h1) := by
  rw [mj_den_eq, f149_0]
  exact zt_aload_n rfl rfl (zt_iconst rfl (zt_aload_n rfl rfl (zt_iconst rfl (zt_aload_n rfl rfl (zt_alen (q := 100) (mjkd55 _ _ _ _) (by decide) (mjln55 _ _ _ _) rfl (zt_aload_n rfl rfl (zt_alen (q := 100) (mjkd10 _ _ _ _) (by decide) (mjln10 _ _ _ _) rfl (zt_call1_1 (Nat.le_of_ble_eq_true rfl) rfl (Nat.le_of_ble_eq_true rfl) rfl rfl))))))))
set_option maxRecDepth 100000 in
theorem q149_0_54 (E : mj_E) (d w c : Nat) (hi : Nat → Nat → Int32) (hl : Nat → Nat → Int64) : mj_den mj_P E d 149 0 [Value.ref 56, Value.ref 11] [] (mj_hw w c hi hl) = mj_bi (mj_dc mj_P E d 296 [Value.int (Int32.ofNat 12), Value.int (Int32.ofNat 12)] (mj_hw w c hi hl)) (fun x1 h1 => mj_den mj_P E d 149 11 [Value.ref 56, Value.ref 11] [Value.int x1, Value.int (0 : Int32), Value.ref 11, Value.int (0 : Int32), Value.ref 56] h1) := by
  rw [mj_den_eq, f149_0]
  exact zt_aload_n rfl rfl (zt_iconst rfl (zt_aload_n rfl rfl (zt_iconst rfl (zt_aload_n rfl rfl (zt_alen (q := 100) (mjkd56 _ _ _ _) (by decide) (mjln56 _ _ _ _) rfl (zt_aload_n rfl rfl (zt_alen (q := 100) (mjkd11 _ _ _ _) (by decide) (mjln11 _ _ _ _) rfl (zt_call1_1 (Nat.le_of_ble_eq_true rfl) rfl (Nat.le_of_ble_eq_true rfl) rfl rfl))))))))
set_option maxRecDepth 100000 in
theorem q149_0_55 (E : mj_E) (d w c : Nat) (hi : Nat → Nat → Int32) (hl : Nat → Nat → Int64) : mj_den mj_P E d 149 0 [Value.ref 57, Value.ref 12] [] (mj_hw w c hi hl) = mj_bi (mj_dc mj_P E d 296 [Value.int (Int32.ofNat 12), Value.int (Int32.ofNat 12)] (mj_hw w c hi hl)) (fun x1 h1 => mj_den mj_P E d 149 11 [Value.ref 57, Value.ref 12] [Value.int x1, Value.int (0 : Int32), Value.ref 12, Value.int (0 : Int32), Value.ref 57] h1) := by
  rw [mj_den_eq, f149_0]
  exact zt_aload_n rfl rfl (zt_iconst rfl (zt_aload_n rfl rfl (zt_iconst rfl (zt_aload_n rfl rfl (zt_alen (q := 100) (mjkd57 _ _ _ _) (by decide) (mjln57 _ _ _ _) rfl (zt_aload_n rfl rfl (zt_alen (q := 100) (mjkd12 _ _ _ _) (by decide) (mjln12 _ _ _ _) rfl (zt_call1_1 (Nat.le_of_ble_eq_true rfl) rfl (Nat.le_of_ble_eq_true rfl) rfl rfl))))))))
set_option maxRecDepth 100000 in
theorem q149_0_56 (E : mj_E) (d w c : Nat) (hi : Nat → Nat → Int32) (hl : Nat → Nat → Int64) : mj_den mj_P E d 149 0 [Value.ref 59, Value.ref 14] [] (mj_hw w c hi hl) = mj_bi (mj_dc mj_P E d 296 [Value.int (Int32.ofNat 16), Value.int (Int32.ofNat 16)] (mj_hw w c hi hl)) (fun x1 h1 => mj_den mj_P E d 149 11 [Value.ref 59, Value.ref 14] [Value.int x1, Value.int (0 : Int32), Value.ref 14, Value.int (0 : Int32), Value.ref 59] h1) := by
  rw [mj_den_eq, f149_0]
  exact zt_aload_n rfl rfl (zt_iconst rfl (zt_aload_n rfl rfl (zt_iconst rfl (zt_aload_n rfl rfl (zt_alen (q := 100) (mjkd59 _ _ _ _) (by decide) (mjln59 _ _ _ _) rfl (zt_aload_n rfl rfl (zt_alen (q := 100) (mjkd14 _ _ _ _) (by decide) (mjln14 _ _ _ _) rfl (zt_call1_1 (Nat.le_of_ble_eq_true rfl) rfl (Nat.le_of_ble_eq_true rfl) rfl rfl))))))))
set_option maxRecDepth 100000 in
theorem q149_0_57 (E : mj_E) (d w c : Nat) (hi : Nat → Nat → Int32) (hl : Nat → Nat → Int64) : mj_den mj_P E d 149 0 [Value.ref 60, Value.ref 15] [] (mj_hw w c hi hl) = mj_bi (mj_dc mj_P E d 296 [Value.int (Int32.ofNat 16), Value.int (Int32.ofNat 16)] (mj_hw w c hi hl)) (fun x1 h1 => mj_den mj_P E d 149 11 [Value.ref 60, Value.ref 15] [Value.int x1, Value.int (0 : Int32), Value.ref 15, Value.int (0 : Int32), Value.ref 60] h1) := by
  rw [mj_den_eq, f149_0]
  exact zt_aload_n rfl rfl (zt_iconst rfl (zt_aload_n rfl rfl (zt_iconst rfl (zt_aload_n rfl rfl (zt_alen (q := 100) (mjkd60 _ _ _ _) (by decide) (mjln60 _ _ _ _) rfl (zt_aload_n rfl rfl (zt_alen (q := 100) (mjkd15 _ _ _ _) (by decide) (mjln15 _ _ _ _) rfl (zt_call1_1 (Nat.le_of_ble_eq_true rfl) rfl (Nat.le_of_ble_eq_true rfl) rfl rfl))))))))
set_option maxRecDepth 100000 in
theorem q149_0_58 (E : mj_E) (d w c : Nat) (hi : Nat → Nat → Int32) (hl : Nat → Nat → Int64) : mj_den mj_P E d 149 0 [Value.ref 61, Value.ref 16] [] (mj_hw w c hi hl) = mj_bi (mj_dc mj_P E d 296 [Value.int (Int32.ofNat 16), Value.int (Int32.ofNat 16)] (mj_hw w c hi hl)) (fun x1 h1 => mj_den mj_P E d 149 11 [Value.ref 61, Value.ref 16] [Value.int x1, Value.int (0 : Int32), Value.ref 16, Value.int (0 : Int32), Value.ref 61] h1) := by
  rw [mj_den_eq, f149_0]
  exact zt_aload_n rfl rfl (zt_iconst rfl (zt_aload_n rfl rfl (zt_iconst rfl (zt_aload_n rfl rfl (zt_alen (q := 100) (mjkd61 _ _ _ _) (by decide) (mjln61 _ _ _ _) rfl (zt_aload_n rfl rfl (zt_alen (q := 100) (mjkd16 _ _ _ _) (by decide) (mjln16 _ _ _ _) rfl (zt_call1_1 (Nat.le_of_ble_eq_true rfl) rfl (Nat.le_of_ble_eq_true rfl) rfl rfl))))))))
set_option maxRecDepth 100000 in
theorem q149_0_59 (E : mj_E) (d w c : Nat) (hi : Nat → Nat → Int32) (hl : Nat → Nat → Int64) : mj_den mj_P E d 149 0 [Value.ref 62, Value.ref 17] [] (mj_hw w c hi hl) = mj_bi (mj_dc mj_P E d 296 [Value.int (Int32.ofNat 16), Value.int (Int32.ofNat 16)] (mj_hw w c hi hl)) (fun x1 h1 => mj_den mj_P E d 149 11 [Value.ref 62, Value.ref 17] [Value.int x1, Value.int (0 : Int32), Value.ref 17, Value.int (0 : Int32), Value.ref 62] h1) := by
  rw [mj_den_eq, f149_0]
  exact zt_aload_n rfl rfl (zt_iconst rfl (zt_aload_n rfl rfl (zt_iconst rfl (zt_aload_n rfl rfl (zt_alen (q := 100) (mjkd62 _ _ _ _) (by decide) (mjln62 _ _ _ _) rfl (zt_aload_n rfl rfl (zt_alen (q := 100) (mjkd17 _ _ _ _) (by decide) (mjln17 _ _ _ _) rfl (zt_call1_1 (Nat.le_of_ble_eq_true rfl) rfl (Nat.le_of_ble_eq_true rfl) rfl rfl))))))))
set_option maxRecDepth 100000 in
theorem q149_0_6 (E : mj_E) (d w c : Nat) (hi : Nat → Nat → Int32) (hl : Nat → Nat → Int64) : mj_den mj_P E d 149 0 [Value.ref 9, Value.ref 184] [] (mj_hw w c hi hl) = mj_bi (mj_dc mj_P E d 296 [Value.int (Int32.ofNat 10), Value.int (Int32.ofNat 10)] (mj_hw w c hi hl)) (fun x1 h1 => mj_den mj_P E d 149 11 [Value.ref 9, Value.ref 184] [Value.int x1, Value.int (0 : Int32), Value.ref 184, Value.int (0 : Int32), Value.ref 9] h1) := by
  rw [mj_den_eq, f149_0]
  exact zt_aload_n rfl rfl (zt_iconst rfl (zt_aload_n rfl rfl (zt_iconst rfl (zt_aload_n rfl rfl (zt_alen (q := 100) (mjkd9 _ _ _ _) (by decide) (mjln9 _ _ _ _) rfl (zt_aload_n rfl rfl (zt_alen (q := 100) (mjkd184 _ _ _ _) (by decide) (mjln184 _ _ _ _) rfl (zt_call1_1 (Nat.le_of_ble_eq_true rfl) rfl (Nat.le_of_ble_eq_true rfl) rfl rfl))))))))
set_option maxRecDepth 100000 in
theorem q149_0_60 (E : mj_E) (d w c : Nat) (hi : Nat → Nat → Int32) (hl : Nat → Nat → Int64) : mj_den mj_P E d 149 0 [Value.ref 63, Value.ref 18] [] (mj_hw w c hi hl) = mj_bi (mj_dc mj_P E d 296 [Value.int (Int32.ofNat 400), Value.int (Int32.ofNat 400)] (mj_hw w c hi hl)) (fun x1 h1 => mj_den mj_P E d 149 11 [Value.ref 63, Value.ref 18] [Value.int x1, Value.int (0 : Int32), Value.ref 18, Value.int (0 : Int32), Value.ref 63] h1) := by
  rw [mj_den_eq, f149_0]
  exact zt_aload_n rfl rfl (zt_iconst rfl (zt_aload_n rfl rfl (zt_iconst rfl (zt_aload_n rfl rfl (zt_alen (q := 100) (mjkd63 _ _ _ _) (by decide) (mjln63 _ _ _ _) rfl (zt_aload_n rfl rfl (zt_alen (q := 100) (mjkd18 _ _ _ _) (by decide) (mjln18 _ _ _ _) rfl (zt_call1_1 (Nat.le_of_ble_eq_true rfl) rfl (Nat.le_of_ble_eq_true rfl) rfl rfl))))))))
set_option maxRecDepth 100000 in
theorem q149_0_61 (E : mj_E) (d w c : Nat) (hi : Nat → Nat → Int32) (hl : Nat → Nat → Int64) : mj_den mj_P E d 149 0 [Value.ref 64, Value.ref 19] [] (mj_hw w c hi hl) = mj_bi (mj_dc mj_P E d 296 [Value.int (Int32.ofNat 400), Value.int (Int32.ofNat 400)] (mj_hw w c hi hl)) (fun x1 h1 => mj_den mj_P E d 149 11 [Value.ref 64, Value.ref 19] [Value.int x1, Value.int (0 : Int32), Value.ref 19, Value.int (0 : Int32), Value.ref 64] h1) := by
  rw [mj_den_eq, f149_0]
  exact zt_aload_n rfl rfl (zt_iconst rfl (zt_aload_n rfl rfl (zt_iconst rfl (zt_aload_n rfl rfl (zt_alen (q := 100) (mjkd64 _ _ _ _) (by decide) (mjln64 _ _ _ _) rfl (zt_aload_n rfl rfl (zt_alen (q := 100) (mjkd19 _ _ _ _) (by decide) (mjln19 _ _ _ _) rfl (zt_call1_1 (Nat.le_of_ble_eq_true rfl) rfl (Nat.le_of_ble_eq_true rfl) rfl rfl))))))))
set_option maxRecDepth 100000 in
theorem q149_0_62 (E : mj_E) (d w c : Nat) (hi : Nat → Nat → Int32) (hl : Nat → Nat → Int64) : mj_den mj_P E d 149 0 [Value.ref 68, Value.ref 23] [] (mj_hw w c hi hl) = mj_bi (mj_dc mj_P E d 296 [Value.int (Int32.ofNat 16), Value.int (Int32.ofNat 16)] (mj_hw w c hi hl)) (fun x1 h1 => mj_den mj_P E d 149 11 [Value.ref 68, Value.ref 23] [Value.int x1, Value.int (0 : Int32), Value.ref 23, Value.int (0 : Int32), Value.ref 68] h1) := by
  rw [mj_den_eq, f149_0]
  exact zt_aload_n rfl rfl (zt_iconst rfl (zt_aload_n rfl rfl (zt_iconst rfl (zt_aload_n rfl rfl (zt_alen (q := 100) (mjkd68 _ _ _ _) (by decide) (mjln68 _ _ _ _) rfl (zt_aload_n rfl rfl (zt_alen (q := 100) (mjkd23 _ _ _ _) (by decide) (mjln23 _ _ _ _) rfl (zt_call1_1 (Nat.le_of_ble_eq_true rfl) rfl (Nat.le_of_ble_eq_true rfl) rfl rfl))))))))
set_option maxRecDepth 100000 in
theorem q149_0_63 (E : mj_E) (d w c : Nat) (hi : Nat → Nat → Int32) (hl : Nat → Nat → Int64) : mj_den mj_P E d 149 0 [Value.ref 69, Value.ref 24] [] (mj_hw w c hi hl) = mj_bi (mj_dc mj_P E d 296 [Value.int (Int32.ofNat 16), Value.int (Int32.ofNat 16)] (mj_hw w c hi hl)) (fun x1 h1 => mj_den mj_P E d 149 11 [Value.ref 69, Value.ref 24] [Value.int x1, Value.int (0 : Int32), Value.ref 24, Value.int (0 : Int32), Value.ref 69] h1) := by
  rw [mj_den_eq, f149_0]
  exact zt_aload_n rfl rfl (zt_iconst rfl (zt_aload_n rfl rfl (zt_iconst rfl (zt_aload_n rfl rfl (zt_alen (q := 100) (mjkd69 _ _ _ _) (by decide) (mjln69 _ _ _ _) rfl (zt_aload_n rfl rfl (zt_alen (q := 100) (mjkd24 _ _ _ _) (by decide) (mjln24 _ _ _ _) rfl (zt_call1_1 (Nat.le_of_ble_eq_true rfl) rfl (Nat.le_of_ble_eq_true rfl) rfl rfl))))))))
set_option maxRecDepth 100000 in
theorem q149_0_64 (E : mj_E) (d w c : Nat) (hi : Nat → Nat → Int32) (hl : Nat → Nat → Int64) : mj_den mj_P E d 149 0 [Value.ref 70, Value.ref 25] [] (mj_hw w c hi hl) = mj_bi (mj_dc mj_P E d 296 [Value.int (Int32.ofNat 16), Value.int (Int32.ofNat 16)] (mj_hw w c hi hl)) (fun x1 h1 => mj_den mj_P E d 149 11 [Value.ref 70, Value.ref 25] [Value.int x1, Value.int (0 : Int32), Value.ref 25, Value.int (0 : Int32), Value.ref 70] h1) := by
  rw [mj_den_eq, f149_0]
  exact zt_aload_n rfl rfl (zt_iconst rfl (zt_aload_n rfl rfl (zt_iconst rfl (zt_aload_n rfl rfl (zt_alen (q := 100) (mjkd70 _ _ _ _) (by decide) (mjln70 _ _ _ _) rfl (zt_aload_n rfl rfl (zt_alen (q := 100) (mjkd25 _ _ _ _) (by decide) (mjln25 _ _ _ _) rfl (zt_call1_1 (Nat.le_of_ble_eq_true rfl) rfl (Nat.le_of_ble_eq_true rfl) rfl rfl))))))))
set_option maxRecDepth 100000 in
theorem q149_0_65 (E : mj_E) (d w c : Nat) (hi : Nat → Nat → Int32) (hl : Nat → Nat → Int64) : mj_den mj_P E d 149 0 [Value.ref 72, Value.ref 27] [] (mj_hw w c hi hl) = mj_bi (mj_dc mj_P E d 296 [Value.int (Int32.ofNat 16), Value.int (Int32.ofNat 16)] (mj_hw w c hi hl)) (fun x1 h1 => mj_den mj_P E d 149 11 [Value.ref 72, Value.ref 27] [Value.int x1, Value.int (0 : Int32), Value.ref 27, Value.int (0 : Int32), Value.ref 72] h1) := by
  rw [mj_den_eq, f149_0]
  exact zt_aload_n rfl rfl (zt_iconst rfl (zt_aload_n rfl rfl (zt_iconst rfl (zt_aload_n rfl rfl (zt_alen (q := 100) (mjkd72 _ _ _ _) (by decide) (mjln72 _ _ _ _) rfl (zt_aload_n rfl rfl (zt_alen (q := 100) (mjkd27 _ _ _ _) (by decide) (mjln27 _ _ _ _) rfl (zt_call1_1 (Nat.le_of_ble_eq_true rfl) rfl (Nat.le_of_ble_eq_true rfl) rfl rfl))))))))
set_option maxRecDepth 100000 in
theorem q149_0_66 (E : mj_E) (d w c : Nat) (hi : Nat → Nat → Int32) (hl : Nat → Nat → Int64) : mj_den mj_P E d 149 0 [Value.ref 73, Value.ref 28] [] (mj_hw w c hi hl) = mj_bi (mj_dc mj_P E d 296 [Value.int (Int32.ofNat 16), Value.int (Int32.ofNat 16)] (mj_hw w c hi hl)) (fun x1 h1 => mj_den mj_P E d 149 11 [Value.ref 73, Value.ref 28] [Value.int x1, Value.int (0 : Int32), Value.ref 28, Value.int (0 : Int32), Value.ref 73] h1) := by
  rw [mj_den_eq, f149_0]
  exact zt_aload_n rfl rfl (zt_iconst rfl (zt_aload_n rfl rfl (zt_iconst rfl (zt_aload_n rfl rfl (zt_alen (q := 100) (mjkd73 _ _ _ _) (by decide) (mjln73 _ _ _ _) rfl (zt_aload_n rfl rfl (zt_alen (q := 100) (mjkd28 _ _ _ _) (by decide) (mjln28 _ _ _ _) rfl (zt_call1_1 (Nat.le_of_ble_eq_true rfl) rfl (Nat.le_of_ble_eq_true rfl) rfl rfl))))))))
set_option maxRecDepth 100000 in
theorem q149_0_67 (E : mj_E) (d w c : Nat) (hi : Nat → Nat → Int32) (hl : Nat → Nat → Int64) : mj_den mj_P E d 149 0 [Value.ref 74, Value.ref 29] [] (mj_hw w c hi hl) = mj_bi (mj_dc mj_P E d 296 [Value.int (Int32.ofNat 16), Value.int (Int32.ofNat 16)] (mj_hw w c hi hl)) (fun x1 h1 => mj_den mj_P E d 149 11 [Value.ref 74, Value.ref 29] [Value.int x1, Value.int (0 : Int32), Value.ref 29, Value.int (0 : Int32), Value.ref 74] h1) := by
  rw [mj_den_eq, f149_0]
  exact zt_aload_n rfl rfl (zt_iconst rfl (zt_aload_n rfl rfl (zt_iconst rfl (zt_aload_n rfl rfl (zt_alen (q := 100) (mjkd74 _ _ _ _) (by decide) (mjln74 _ _ _ _) rfl (zt_aload_n rfl rfl (zt_alen (q := 100) (mjkd29 _ _ _ _) (by decide) (mjln29 _ _ _ _) rfl (zt_call1_1 (Nat.le_of_ble_eq_true rfl) rfl (Nat.le_of_ble_eq_true rfl) rfl rfl))))))))
set_option maxRecDepth 100000 in
theorem q149_0_68 (E : mj_E) (d w c : Nat) (hi : Nat → Nat → Int32) (hl : Nat → Nat → Int64) : mj_den mj_P E d 149 0 [Value.ref 76, Value.ref 31] [] (mj_hw w c hi hl) = mj_bi (mj_dc mj_P E d 296 [Value.int (Int32.ofNat 16), Value.int (Int32.ofNat 16)] (mj_hw w c hi hl)) (fun x1 h1 => mj_den mj_P E d 149 11 [Value.ref 76, Value.ref 31] [Value.int x1, Value.int (0 : Int32), Value.ref 31, Value.int (0 : Int32), Value.ref 76] h1) := by
  rw [mj_den_eq, f149_0]
  exact zt_aload_n rfl rfl (zt_iconst rfl (zt_aload_n rfl rfl (zt_iconst rfl (zt_aload_n rfl rfl (zt_alen (q := 100) (mjkd76 _ _ _ _) (by decide) (mjln76 _ _ _ _) rfl (zt_aload_n rfl rfl (zt_alen (q := 100) (mjkd31 _ _ _ _) (by decide) (mjln31 _ _ _ _) rfl (zt_call1_1 (Nat.le_of_ble_eq_true rfl) rfl (Nat.le_of_ble_eq_true rfl) rfl rfl))))))))
set_option maxRecDepth 100000 in
theorem q149_0_69 (E : mj_E) (d w c : Nat) (hi : Nat → Nat → Int32) (hl : Nat → Nat → Int64) : mj_den mj_P E d 149 0 [Value.ref 77, Value.ref 32] [] (mj_hw w c hi hl) = mj_bi (mj_dc mj_P E d 296 [Value.int (Int32.ofNat 16), Value.int (Int32.ofNat 16)] (mj_hw w c hi hl)) (fun x1 h1 => mj_den mj_P E d 149 11 [Value.ref 77, Value.ref 32] [Value.int x1, Value.int (0 : Int32), Value.ref 32, Value.int (0 : Int32), Value.ref 77] h1) := by
  rw [mj_den_eq, f149_0]
  exact zt_aload_n rfl rfl (zt_iconst rfl (zt_aload_n rfl rfl (zt_iconst rfl (zt_aload_n rfl rfl (zt_alen (q := 100) (mjkd77 _ _ _ _) (by decide) (mjln77 _ _ _ _) rfl (zt_aload_n rfl rfl (zt_alen (q := 100) (mjkd32 _ _ _ _) (by decide) (mjln32 _ _ _ _) rfl (zt_call1_1 (Nat.le_of_ble_eq_true rfl) rfl (Nat.le_of_ble_eq_true rfl) rfl rfl))))))))
set_option maxRecDepth 100000 in
theorem q149_0_7 (E : mj_E) (d w c : Nat) (hi : Nat → Nat → Int32) (hl : Nat → Nat → Int64) : mj_den mj_P E d 149 0 [Value.ref 10, Value.ref 185] [] (mj_hw w c hi hl) = mj_bi (mj_dc mj_P E d 296 [Value.int (Int32.ofNat 12), Value.int (Int32.ofNat 12)] (mj_hw w c hi hl)) (fun x1 h1 => mj_den mj_P E d 149 11 [Value.ref 10, Value.ref 185] [Value.int x1, Value.int (0 : Int32), Value.ref 185, Value.int (0 : Int32), Value.ref 10] h1) := by
  rw [mj_den_eq, f149_0]
  exact zt_aload_n rfl rfl (zt_iconst rfl (zt_aload_n rfl rfl (zt_iconst rfl (zt_aload_n rfl rfl (zt_alen (q := 100) (mjkd10 _ _ _ _) (by decide) (mjln10 _ _ _ _) rfl (zt_aload_n rfl rfl (zt_alen (q := 100) (mjkd185 _ _ _ _) (by decide) (mjln185 _ _ _ _) rfl (zt_call1_1 (Nat.le_of_ble_eq_true rfl) rfl (Nat.le_of_ble_eq_true rfl) rfl rfl))))))))
set_option maxRecDepth 100000 in
theorem q149_0_70 (E : mj_E) (d w c : Nat) (hi : Nat → Nat → Int32) (hl : Nat → Nat → Int64) : mj_den mj_P E d 149 0 [Value.ref 78, Value.ref 33] [] (mj_hw w c hi hl) = mj_bi (mj_dc mj_P E d 296 [Value.int (Int32.ofNat 16), Value.int (Int32.ofNat 16)] (mj_hw w c hi hl)) (fun x1 h1 => mj_den mj_P E d 149 11 [Value.ref 78, Value.ref 33] [Value.int x1, Value.int (0 : Int32), Value.ref 33, Value.int (0 : Int32), Value.ref 78] h1) := by
  rw [mj_den_eq, f149_0]
  exact zt_aload_n rfl rfl (zt_iconst rfl (zt_aload_n rfl rfl (zt_iconst rfl (zt_aload_n rfl rfl (zt_alen (q := 100) (mjkd78 _ _ _ _) (by decide) (mjln78 _ _ _ _) rfl (zt_aload_n rfl rfl (zt_alen (q := 100) (mjkd33 _ _ _ _) (by decide) (mjln33 _ _ _ _) rfl (zt_call1_1 (Nat.le_of_ble_eq_true rfl) rfl (Nat.le_of_ble_eq_true rfl) rfl rfl))))))))
set_option maxRecDepth 100000 in
theorem q149_0_71 (E : mj_E) (d w c : Nat) (hi : Nat → Nat → Int32) (hl : Nat → Nat → Int64) : mj_den mj_P E d 149 0 [Value.ref 80, Value.ref 35] [] (mj_hw w c hi hl) = mj_bi (mj_dc mj_P E d 296 [Value.int (Int32.ofNat 16), Value.int (Int32.ofNat 16)] (mj_hw w c hi hl)) (fun x1 h1 => mj_den mj_P E d 149 11 [Value.ref 80, Value.ref 35] [Value.int x1, Value.int (0 : Int32), Value.ref 35, Value.int (0 : Int32), Value.ref 80] h1) := by
  rw [mj_den_eq, f149_0]
  exact zt_aload_n rfl rfl (zt_iconst rfl (zt_aload_n rfl rfl (zt_iconst rfl (zt_aload_n rfl rfl (zt_alen (q := 100) (mjkd80 _ _ _ _) (by decide) (mjln80 _ _ _ _) rfl (zt_aload_n rfl rfl (zt_alen (q := 100) (mjkd35 _ _ _ _) (by decide) (mjln35 _ _ _ _) rfl (zt_call1_1 (Nat.le_of_ble_eq_true rfl) rfl (Nat.le_of_ble_eq_true rfl) rfl rfl))))))))
set_option maxRecDepth 100000 in
theorem q149_0_72 (E : mj_E) (d w c : Nat) (hi : Nat → Nat → Int32) (hl : Nat → Nat → Int64) : mj_den mj_P E d 149 0 [Value.ref 81, Value.ref 36] [] (mj_hw w c hi hl) = mj_bi (mj_dc mj_P E d 296 [Value.int (Int32.ofNat 16), Value.int (Int32.ofNat 16)] (mj_hw w c hi hl)) (fun x1 h1 => mj_den mj_P E d 149 11 [Value.ref 81, Value.ref 36] [Value.int x1, Value.int (0 : Int32), Value.ref 36, Value.int (0 : Int32), Value.ref 81] h1) := by
  rw [mj_den_eq, f149_0]
  exact zt_aload_n rfl rfl (zt_iconst rfl (zt_aload_n rfl rfl (zt_iconst rfl (zt_aload_n rfl rfl (zt_alen (q := 100) (mjkd81 _ _ _ _) (by decide) (mjln81 _ _ _ _) rfl (zt_aload_n rfl rfl (zt_alen (q := 100) (mjkd36 _ _ _ _) (by decide) (mjln36 _ _ _ _) rfl (zt_call1_1 (Nat.le_of_ble_eq_true rfl) rfl (Nat.le_of_ble_eq_true rfl) rfl rfl))))))))
set_option maxRecDepth 100000 in
theorem q149_0_73 (E : mj_E) (d w c : Nat) (hi : Nat → Nat → Int32) (hl : Nat → Nat → Int64) : mj_den mj_P E d 149 0 [Value.ref 82, Value.ref 37] [] (mj_hw w c hi hl) = mj_bi (mj_dc mj_P E d 296 [Value.int (Int32.ofNat 6), Value.int (Int32.ofNat 6)] (mj_hw w c hi hl)) (fun x1 h1 => mj_den mj_P E d 149 11 [Value.ref 82, Value.ref 37] [Value.int x1, Value.int (0 : Int32), Value.ref 37, Value.int (0 : Int32), Value.ref 82] h1) := by
  rw [mj_den_eq, f149_0]
  exact zt_aload_n rfl rfl (zt_iconst rfl (zt_aload_n rfl rfl (zt_iconst rfl (zt_aload_n rfl rfl (zt_alen (q := 100) (mjkd82 _ _ _ _) (by decide) (mjln82 _ _ _ _) rfl (zt_aload_n rfl rfl (zt_alen (q := 100) (mjkd37 _ _ _ _) (by decide) (mjln37 _ _ _ _) rfl (zt_call1_1 (Nat.le_of_ble_eq_true rfl) rfl (Nat.le_of_ble_eq_true rfl) rfl rfl))))))))
set_option maxRecDepth 100000 in
theorem q149_0_74 (E : mj_E) (d w c : Nat) (hi : Nat → Nat → Int32) (hl : Nat → Nat → Int64) : mj_den mj_P E d 149 0 [Value.ref 83, Value.ref 38] [] (mj_hw w c hi hl) = mj_bi (mj_dc mj_P E d 296 [Value.int (Int32.ofNat 8), Value.int (Int32.ofNat 8)] (mj_hw w c hi hl)) (fun x1 h1 => mj_den mj_P E d 149 11 [Value.ref 83, Value.ref 38] [Value.int x1, Value.int (0 : Int32), Value.ref 38, Value.int (0 : Int32), Value.ref 83] h1) := by
  rw [mj_den_eq, f149_0]
  exact zt_aload_n rfl rfl (zt_iconst rfl (zt_aload_n rfl rfl (zt_iconst rfl (zt_aload_n rfl rfl (zt_alen (q := 100) (mjkd83 _ _ _ _) (by decide) (mjln83 _ _ _ _) rfl (zt_aload_n rfl rfl (zt_alen (q := 100) (mjkd38 _ _ _ _) (by decide) (mjln38 _ _ _ _) rfl (zt_call1_1 (Nat.le_of_ble_eq_true rfl) rfl (Nat.le_of_ble_eq_true rfl) rfl rfl))))))))
set_option maxRecDepth 100000 in
theorem q149_0_75 (E : mj_E) (d w c : Nat) (hi : Nat → Nat → Int32) (hl : Nat → Nat → Int64) : mj_den mj_P E d 149 0 [Value.ref 84, Value.ref 39] [] (mj_hw w c hi hl) = mj_bi (mj_dc mj_P E d 296 [Value.int (Int32.ofNat 7), Value.int (Int32.ofNat 7)] (mj_hw w c hi hl)) (fun x1 h1 => mj_den mj_P E d 149 11 [Value.ref 84, Value.ref 39] [Value.int x1, Value.int (0 : Int32), Value.ref 39, Value.int (0 : Int32), Value.ref 84] h1) := by
  rw [mj_den_eq, f149_0]
  exact zt_aload_n rfl rfl (zt_iconst rfl (zt_aload_n rfl rfl (zt_iconst rfl (zt_aload_n rfl rfl (zt_alen (q := 100) (mjkd84 _ _ _ _) (by decide) (mjln84 _ _ _ _) rfl (zt_aload_n rfl rfl (zt_alen (q := 100) (mjkd39 _ _ _ _) (by decide) (mjln39 _ _ _ _) rfl (zt_call1_1 (Nat.le_of_ble_eq_true rfl) rfl (Nat.le_of_ble_eq_true rfl) rfl rfl))))))))
set_option maxRecDepth 100000 in
theorem q149_0_76 (E : mj_E) (d w c : Nat) (hi : Nat → Nat → Int32) (hl : Nat → Nat → Int64) : mj_den mj_P E d 149 0 [Value.ref 85, Value.ref 40] [] (mj_hw w c hi hl) = mj_bi (mj_dc mj_P E d 296 [Value.int (Int32.ofNat 7), Value.int (Int32.ofNat 7)] (mj_hw w c hi hl)) (fun x1 h1 => mj_den mj_P E d 149 11 [Value.ref 85, Value.ref 40] [Value.int x1, Value.int (0 : Int32), Value.ref 40, Value.int (0 : Int32), Value.ref 85] h1) := by
  rw [mj_den_eq, f149_0]
  exact zt_aload_n rfl rfl (zt_iconst rfl (zt_aload_n rfl rfl (zt_iconst rfl (zt_aload_n rfl rfl (zt_alen (q := 100) (mjkd85 _ _ _ _) (by decide) (mjln85 _ _ _ _) rfl (zt_aload_n rfl rfl (zt_alen (q := 100) (mjkd40 _ _ _ _) (by decide) (mjln40 _ _ _ _) rfl (zt_call1_1 (Nat.le_of_ble_eq_true rfl) rfl (Nat.le_of_ble_eq_true rfl) rfl rfl))))))))
set_option maxRecDepth 100000 in
theorem q149_0_77 (E : mj_E) (d w c : Nat) (hi : Nat → Nat → Int32) (hl : Nat → Nat → Int64) : mj_den mj_P E d 149 0 [Value.ref 86, Value.ref 41] [] (mj_hw w c hi hl) = mj_bi (mj_dc mj_P E d 296 [Value.int (Int32.ofNat 12), Value.int (Int32.ofNat 12)] (mj_hw w c hi hl)) (fun x1 h1 => mj_den mj_P E d 149 11 [Value.ref 86, Value.ref 41] [Value.int x1, Value.int (0 : Int32), Value.ref 41, Value.int (0 : Int32), Value.ref 86] h1) := by
  rw [mj_den_eq, f149_0]
  exact zt_aload_n rfl rfl (zt_iconst rfl (zt_aload_n rfl rfl (zt_iconst rfl (zt_aload_n rfl rfl (zt_alen (q := 100) (mjkd86 _ _ _ _) (by decide) (mjln86 _ _ _ _) rfl (zt_aload_n rfl rfl (zt_alen (q := 100) (mjkd41 _ _ _ _) (by decide) (mjln41 _ _ _ _) rfl (zt_call1_1 (Nat.le_of_ble_eq_true rfl) rfl (Nat.le_of_ble_eq_true rfl) rfl rfl))))))))
set_option maxRecDepth 100000 in
theorem q149_0_78 (E : mj_E) (d w c : Nat) (hi : Nat → Nat → Int32) (hl : Nat → Nat → Int64) : mj_den mj_P E d 149 0 [Value.ref 87, Value.ref 42] [] (mj_hw w c hi hl) = mj_bi (mj_dc mj_P E d 296 [Value.int (Int32.ofNat 150), Value.int (Int32.ofNat 150)] (mj_hw w c hi hl)) (fun x1 h1 => mj_den mj_P E d 149 11 [Value.ref 87, Value.ref 42] [Value.int x1, Value.int (0 : Int32), Value.ref 42, Value.int (0 : Int32), Value.ref 87] h1) := by
  rw [mj_den_eq, f149_0]
  exact zt_aload_n rfl rfl (zt_iconst rfl (zt_aload_n rfl rfl (zt_iconst rfl (zt_aload_n rfl rfl (zt_alen (q := 100) (mjkd87 _ _ _ _) (by decide) (mjln87 _ _ _ _) rfl (zt_aload_n rfl rfl (zt_alen (q := 100) (mjkd42 _ _ _ _) (by decide) (mjln42 _ _ _ _) rfl (zt_call1_1 (Nat.le_of_ble_eq_true rfl) rfl (Nat.le_of_ble_eq_true rfl) rfl rfl))))))))
set_option maxRecDepth 100000 in
theorem q149_0_79 (E : mj_E) (d w c : Nat) (hi : Nat → Nat → Int32) (hl : Nat → Nat → Int64) : mj_den mj_P E d 149 0 [Value.ref 88, Value.ref 43] [] (mj_hw w c hi hl) = mj_bi (mj_dc mj_P E d 296 [Value.int (Int32.ofNat 150), Value.int (Int32.ofNat 150)] (mj_hw w c hi hl)) (fun x1 h1 => mj_den mj_P E d 149 11 [Value.ref 88, Value.ref 43] [Value.int x1, Value.int (0 : Int32), Value.ref 43, Value.int (0 : Int32), Value.ref 88] h1) := by
  rw [mj_den_eq, f149_0]
  exact zt_aload_n rfl rfl (zt_iconst rfl (zt_aload_n rfl rfl (zt_iconst rfl (zt_aload_n rfl rfl (zt_alen (q := 100) (mjkd88 _ _ _ _) (by decide) (mjln88 _ _ _ _) rfl (zt_aload_n rfl rfl (zt_alen (q := 100) (mjkd43 _ _ _ _) (by decide) (mjln43 _ _ _ _) rfl (zt_call1_1 (Nat.le_of_ble_eq_true rfl) rfl (Nat.le_of_ble_eq_true rfl) rfl rfl))))))))
set_option maxRecDepth 100000 in
theorem q149_0_8 (E : mj_E) (d w c : Nat) (hi : Nat → Nat → Int32) (hl : Nat → Nat → Int64) : mj_den mj_P E d 149 0 [Value.ref 11, Value.ref 186] [] (mj_hw w c hi hl) = mj_bi (mj_dc mj_P E d 296 [Value.int (Int32.ofNat 12), Value.int (Int32.ofNat 12)] (mj_hw w c hi hl)) (fun x1 h1 => mj_den mj_P E d 149 11 [Value.ref 11, Value.ref 186] [Value.int x1, Value.int (0 : Int32), Value.ref 186, Value.int (0 : Int32), Value.ref 11] h1) := by
  rw [mj_den_eq, f149_0]
  exact zt_aload_n rfl rfl (zt_iconst rfl (zt_aload_n rfl rfl (zt_iconst rfl (zt_aload_n rfl rfl (zt_alen (q := 100) (mjkd11 _ _ _ _) (by decide) (mjln11 _ _ _ _) rfl (zt_aload_n rfl rfl (zt_alen (q := 100) (mjkd186 _ _ _ _) (by decide) (mjln186 _ _ _ _) rfl (zt_call1_1 (Nat.le_of_ble_eq_true rfl) rfl (Nat.le_of_ble_eq_true rfl) rfl rfl))))))))
set_option maxRecDepth 100000 in
theorem q149_0_80 (E : mj_E) (d w c : Nat) (hi : Nat → Nat → Int32) (hl : Nat → Nat → Int64) : mj_den mj_P E d 149 0 [Value.ref 89, Value.ref 44] [] (mj_hw w c hi hl) = mj_bi (mj_dc mj_P E d 296 [Value.int (Int32.ofNat 150), Value.int (Int32.ofNat 150)] (mj_hw w c hi hl)) (fun x1 h1 => mj_den mj_P E d 149 11 [Value.ref 89, Value.ref 44] [Value.int x1, Value.int (0 : Int32), Value.ref 44, Value.int (0 : Int32), Value.ref 89] h1) := by
  rw [mj_den_eq, f149_0]
  exact zt_aload_n rfl rfl (zt_iconst rfl (zt_aload_n rfl rfl (zt_iconst rfl (zt_aload_n rfl rfl (zt_alen (q := 100) (mjkd89 _ _ _ _) (by decide) (mjln89 _ _ _ _) rfl (zt_aload_n rfl rfl (zt_alen (q := 100) (mjkd44 _ _ _ _) (by decide) (mjln44 _ _ _ _) rfl (zt_call1_1 (Nat.le_of_ble_eq_true rfl) rfl (Nat.le_of_ble_eq_true rfl) rfl rfl))))))))
set_option maxRecDepth 100000 in
theorem q149_0_81 (E : mj_E) (d w c : Nat) (hi : Nat → Nat → Int32) (hl : Nat → Nat → Int64) : mj_den mj_P E d 149 0 [Value.ref 90, Value.ref 45] [] (mj_hw w c hi hl) = mj_bi (mj_dc mj_P E d 296 [Value.int (Int32.ofNat 150), Value.int (Int32.ofNat 150)] (mj_hw w c hi hl)) (fun x1 h1 => mj_den mj_P E d 149 11 [Value.ref 90, Value.ref 45] [Value.int x1, Value.int (0 : Int32), Value.ref 45, Value.int (0 : Int32), Value.ref 90] h1) := by
  rw [mj_den_eq, f149_0]
  exact zt_aload_n rfl rfl (zt_iconst rfl (zt_aload_n rfl rfl (zt_iconst rfl (zt_aload_n rfl rfl (zt_alen (q := 100) (mjkd90 _ _ _ _) (by decide) (mjln90 _ _ _ _) rfl (zt_aload_n rfl rfl (zt_alen (q := 100) (mjkd45 _ _ _ _) (by decide) (mjln45 _ _ _ _) rfl (zt_call1_1 (Nat.le_of_ble_eq_true rfl) rfl (Nat.le_of_ble_eq_true rfl) rfl rfl))))))))
set_option maxRecDepth 100000 in
theorem q149_0_82 (E : mj_E) (d w c : Nat) (hi : Nat → Nat → Int32) (hl : Nat → Nat → Int64) : mj_den mj_P E d 149 0 [Value.ref 161, Value.ref 14] [] (mj_hw w c hi hl) = mj_bi (mj_dc mj_P E d 296 [Value.int (Int32.ofNat 16), Value.int (Int32.ofNat 16)] (mj_hw w c hi hl)) (fun x1 h1 => mj_den mj_P E d 149 11 [Value.ref 161, Value.ref 14] [Value.int x1, Value.int (0 : Int32), Value.ref 14, Value.int (0 : Int32), Value.ref 161] h1) := by
  rw [mj_den_eq, f149_0]
  exact zt_aload_n rfl rfl (zt_iconst rfl (zt_aload_n rfl rfl (zt_iconst rfl (zt_aload_n rfl rfl (zt_alen (q := 100) (mjkd161 _ _ _ _) (by decide) (mjln161 _ _ _ _) rfl (zt_aload_n rfl rfl (zt_alen (q := 100) (mjkd14 _ _ _ _) (by decide) (mjln14 _ _ _ _) rfl (zt_call1_1 (Nat.le_of_ble_eq_true rfl) rfl (Nat.le_of_ble_eq_true rfl) rfl rfl))))))))
set_option maxRecDepth 100000 in
theorem q149_0_83 (E : mj_E) (d w c : Nat) (hi : Nat → Nat → Int32) (hl : Nat → Nat → Int64) : mj_den mj_P E d 149 0 [Value.ref 162, Value.ref 15] [] (mj_hw w c hi hl) = mj_bi (mj_dc mj_P E d 296 [Value.int (Int32.ofNat 16), Value.int (Int32.ofNat 16)] (mj_hw w c hi hl)) (fun x1 h1 => mj_den mj_P E d 149 11 [Value.ref 162, Value.ref 15] [Value.int x1, Value.int (0 : Int32), Value.ref 15, Value.int (0 : Int32), Value.ref 162] h1) := by
  rw [mj_den_eq, f149_0]
  exact zt_aload_n rfl rfl (zt_iconst rfl (zt_aload_n rfl rfl (zt_iconst rfl (zt_aload_n rfl rfl (zt_alen (q := 100) (mjkd162 _ _ _ _) (by decide) (mjln162 _ _ _ _) rfl (zt_aload_n rfl rfl (zt_alen (q := 100) (mjkd15 _ _ _ _) (by decide) (mjln15 _ _ _ _) rfl (zt_call1_1 (Nat.le_of_ble_eq_true rfl) rfl (Nat.le_of_ble_eq_true rfl) rfl rfl))))))))
set_option maxRecDepth 100000 in
theorem q149_0_84 (E : mj_E) (d w c : Nat) (hi : Nat → Nat → Int32) (hl : Nat → Nat → Int64) : mj_den mj_P E d 149 0 [Value.ref 163, Value.ref 16] [] (mj_hw w c hi hl) = mj_bi (mj_dc mj_P E d 296 [Value.int (Int32.ofNat 16), Value.int (Int32.ofNat 16)] (mj_hw w c hi hl)) (fun x1 h1 => mj_den mj_P E d 149 11 [Value.ref 163, Value.ref 16] [Value.int x1, Value.int (0 : Int32), Value.ref 16, Value.int (0 : Int32), Value.ref 163] h1) := by
  rw [mj_den_eq, f149_0]
  exact zt_aload_n rfl rfl (zt_iconst rfl (zt_aload_n rfl rfl (zt_iconst rfl (zt_aload_n rfl rfl (zt_alen (q := 100) (mjkd163 _ _ _ _) (by decide) (mjln163 _ _ _ _) rfl (zt_aload_n rfl rfl (zt_alen (q := 100) (mjkd16 _ _ _ _) (by decide) (mjln16 _ _ _ _) rfl (zt_call1_1 (Nat.le_of_ble_eq_true rfl) rfl (Nat.le_of_ble_eq_true rfl) rfl rfl))))))))
set_option maxRecDepth 100000 in
theorem q149_0_85 (E : mj_E) (d w c : Nat) (hi : Nat → Nat → Int32) (hl : Nat → Nat → Int64) : mj_den mj_P E d 149 0 [Value.ref 164, Value.ref 17] [] (mj_hw w c hi hl) = mj_bi (mj_dc mj_P E d 296 [Value.int (Int32.ofNat 16), Value.int (Int32.ofNat 16)] (mj_hw w c hi hl)) (fun x1 h1 => mj_den mj_P E d 149 11 [Value.ref 164, Value.ref 17] [Value.int x1, Value.int (0 : Int32), Value.ref 17, Value.int (0 : Int32), Value.ref 164] h1) := by
  rw [mj_den_eq, f149_0]
  exact zt_aload_n rfl rfl (zt_iconst rfl (zt_aload_n rfl rfl (zt_iconst rfl (zt_aload_n rfl rfl (zt_alen (q := 100) (mjkd164 _ _ _ _) (by decide) (mjln164 _ _ _ _) rfl (zt_aload_n rfl rfl (zt_alen (q := 100) (mjkd17 _ _ _ _) (by decide) (mjln17 _ _ _ _) rfl (zt_call1_1 (Nat.le_of_ble_eq_true rfl) rfl (Nat.le_of_ble_eq_true rfl) rfl rfl))))))))
set_option maxRecDepth 100000 in
theorem q149_0_86 (E : mj_E) (d w c : Nat) (hi : Nat → Nat → Int32) (hl : Nat → Nat → Int64) : mj_den mj_P E d 149 0 [Value.ref 165, Value.ref 18] [] (mj_hw w c hi hl) = mj_bi (mj_dc mj_P E d 296 [Value.int (Int32.ofNat 400), Value.int (Int32.ofNat 400)] (mj_hw w c hi hl)) (fun x1 h1 => mj_den mj_P E d 149 11 [Value.ref 165, Value.ref 18] [Value.int x1, Value.int (0 : Int32), Value.ref 18, Value.int (0 : Int32), Value.ref 165] h1) := by
  rw [mj_den_eq, f149_0]
  exact zt_aload_n rfl rfl (zt_iconst rfl (zt_aload_n rfl rfl (zt_iconst rfl (zt_aload_n rfl rfl (zt_alen (q := 100) (mjkd165 _ _ _ _) (by decide) (mjln165 _ _ _ _) rfl (zt_aload_n rfl rfl (zt_alen (q := 100) (mjkd18 _ _ _ _) (by decide) (mjln18 _ _ _ _) rfl (zt_call1_1 (Nat.le_of_ble_eq_true rfl) rfl (Nat.le_of_ble_eq_true rfl) rfl rfl))))))))
set_option maxRecDepth 100000 in
theorem q149_0_87 (E : mj_E) (d w c : Nat) (hi : Nat → Nat → Int32) (hl : Nat → Nat → Int64) : mj_den mj_P E d 149 0 [Value.ref 166, Value.ref 19] [] (mj_hw w c hi hl) = mj_bi (mj_dc mj_P E d 296 [Value.int (Int32.ofNat 400), Value.int (Int32.ofNat 400)] (mj_hw w c hi hl)) (fun x1 h1 => mj_den mj_P E d 149 11 [Value.ref 166, Value.ref 19] [Value.int x1, Value.int (0 : Int32), Value.ref 19, Value.int (0 : Int32), Value.ref 166] h1) := by
  rw [mj_den_eq, f149_0]
  exact zt_aload_n rfl rfl (zt_iconst rfl (zt_aload_n rfl rfl (zt_iconst rfl (zt_aload_n rfl rfl (zt_alen (q := 100) (mjkd166 _ _ _ _) (by decide) (mjln166 _ _ _ _) rfl (zt_aload_n rfl rfl (zt_alen (q := 100) (mjkd19 _ _ _ _) (by decide) (mjln19 _ _ _ _) rfl (zt_call1_1 (Nat.le_of_ble_eq_true rfl) rfl (Nat.le_of_ble_eq_true rfl) rfl rfl))))))))
set_option maxRecDepth 100000 in
theorem q149_0_88 (E : mj_E) (d w c : Nat) (hi : Nat → Nat → Int32) (hl : Nat → Nat → Int64) : mj_den mj_P E d 149 0 [Value.ref 170, Value.ref 31] [] (mj_hw w c hi hl) = mj_bi (mj_dc mj_P E d 296 [Value.int (Int32.ofNat 16), Value.int (Int32.ofNat 16)] (mj_hw w c hi hl)) (fun x1 h1 => mj_den mj_P E d 149 11 [Value.ref 170, Value.ref 31] [Value.int x1, Value.int (0 : Int32), Value.ref 31, Value.int (0 : Int32), Value.ref 170] h1) := by
  rw [mj_den_eq, f149_0]
  exact zt_aload_n rfl rfl (zt_iconst rfl (zt_aload_n rfl rfl (zt_iconst rfl (zt_aload_n rfl rfl (zt_alen (q := 100) (mjkd170 _ _ _ _) (by decide) (mjln170 _ _ _ _) rfl (zt_aload_n rfl rfl (zt_alen (q := 100) (mjkd31 _ _ _ _) (by decide) (mjln31 _ _ _ _) rfl (zt_call1_1 (Nat.le_of_ble_eq_true rfl) rfl (Nat.le_of_ble_eq_true rfl) rfl rfl))))))))
set_option maxRecDepth 100000 in
theorem q149_0_89 (E : mj_E) (d w c : Nat) (hi : Nat → Nat → Int32) (hl : Nat → Nat → Int64) : mj_den mj_P E d 149 0 [Value.ref 171, Value.ref 32] [] (mj_hw w c hi hl) = mj_bi (mj_dc mj_P E d 296 [Value.int (Int32.ofNat 16), Value.int (Int32.ofNat 16)] (mj_hw w c hi hl)) (fun x1 h1 => mj_den mj_P E d 149 11 [Value.ref 171, Value.ref 32] [Value.int x1, Value.int (0 : Int32), Value.ref 32, Value.int (0 : Int32), Value.ref 171] h1) := by
  rw [mj_den_eq, f149_0]
  exact zt_aload_n rfl rfl (zt_iconst rfl (zt_aload_n rfl rfl (zt_iconst rfl (zt_aload_n rfl rfl (zt_alen (q := 100) (mjkd171 _ _ _ _) (by decide) (mjln171 _ _ _ _) rfl (zt_aload_n rfl rfl (zt_alen (q := 100) (mjkd32 _ _ _ _) (by decide) (mjln32 _ _ _ _) rfl (zt_call1_1 (Nat.le_of_ble_eq_true rfl) rfl (Nat.le_of_ble_eq_true rfl) rfl rfl))))))))
set_option maxRecDepth 100000 in
theorem q149_0_9 (E : mj_E) (d w c : Nat) (hi : Nat → Nat → Int32) (hl : Nat → Nat → Int64) : mj_den mj_P E d 149 0 [Value.ref 12, Value.ref 187] [] (mj_hw w c hi hl) = mj_bi (mj_dc mj_P E d 296 [Value.int (Int32.ofNat 12), Value.int (Int32.ofNat 12)] (mj_hw w c hi hl)) (fun x1 h1 => mj_den mj_P E d 149 11 [Value.ref 12, Value.ref 187] [Value.int x1, Value.int (0 : Int32), Value.ref 187, Value.int (0 : Int32), Value.ref 12] h1) := by
  rw [mj_den_eq, f149_0]
  exact zt_aload_n rfl rfl (zt_iconst rfl (zt_aload_n rfl rfl (zt_iconst rfl (zt_aload_n rfl rfl (zt_alen (q := 100) (mjkd12 _ _ _ _) (by decide) (mjln12 _ _ _ _) rfl (zt_aload_n rfl rfl (zt_alen (q := 100) (mjkd187 _ _ _ _) (by decide) (mjln187 _ _ _ _) rfl (zt_call1_1 (Nat.le_of_ble_eq_true rfl) rfl (Nat.le_of_ble_eq_true rfl) rfl rfl))))))))
set_option maxRecDepth 100000 in
theorem q149_0_90 (E : mj_E) (d w c : Nat) (hi : Nat → Nat → Int32) (hl : Nat → Nat → Int64) : mj_den mj_P E d 149 0 [Value.ref 172, Value.ref 33] [] (mj_hw w c hi hl) = mj_bi (mj_dc mj_P E d 296 [Value.int (Int32.ofNat 16), Value.int (Int32.ofNat 16)] (mj_hw w c hi hl)) (fun x1 h1 => mj_den mj_P E d 149 11 [Value.ref 172, Value.ref 33] [Value.int x1, Value.int (0 : Int32), Value.ref 33, Value.int (0 : Int32), Value.ref 172] h1) := by
  rw [mj_den_eq, f149_0]
  exact zt_aload_n rfl rfl (zt_iconst rfl (zt_aload_n rfl rfl (zt_iconst rfl (zt_aload_n rfl rfl (zt_alen (q := 100) (mjkd172 _ _ _ _) (by decide) (mjln172 _ _ _ _) rfl (zt_aload_n rfl rfl (zt_alen (q := 100) (mjkd33 _ _ _ _) (by decide) (mjln33 _ _ _ _) rfl (zt_call1_1 (Nat.le_of_ble_eq_true rfl) rfl (Nat.le_of_ble_eq_true rfl) rfl rfl))))))))
set_option maxRecDepth 100000 in
theorem q149_0_91 (E : mj_E) (d w c : Nat) (hi : Nat → Nat → Int32) (hl : Nat → Nat → Int64) : mj_den mj_P E d 149 0 [Value.ref 170, Value.ref 27] [] (mj_hw w c hi hl) = mj_bi (mj_dc mj_P E d 296 [Value.int (Int32.ofNat 16), Value.int (Int32.ofNat 16)] (mj_hw w c hi hl)) (fun x1 h1 => mj_den mj_P E d 149 11 [Value.ref 170, Value.ref 27] [Value.int x1, Value.int (0 : Int32), Value.ref 27, Value.int (0 : Int32), Value.ref 170] h1) := by
  rw [mj_den_eq, f149_0]
  exact zt_aload_n rfl rfl (zt_iconst rfl (zt_aload_n rfl rfl (zt_iconst rfl (zt_aload_n rfl rfl (zt_alen (q := 100) (mjkd170 _ _ _ _) (by decide) (mjln170 _ _ _ _) rfl (zt_aload_n rfl rfl (zt_alen (q := 100) (mjkd27 _ _ _ _) (by decide) (mjln27 _ _ _ _) rfl (zt_call1_1 (Nat.le_of_ble_eq_true rfl) rfl (Nat.le_of_ble_eq_true rfl) rfl rfl))))))))
set_option maxRecDepth 100000 in
theorem q149_0_92 (E : mj_E) (d w c : Nat) (hi : Nat → Nat → Int32) (hl : Nat → Nat → Int64) : mj_den mj_P E d 149 0 [Value.ref 171, Value.ref 28] [] (mj_hw w c hi hl) = mj_bi (mj_dc mj_P E d 296 [Value.int (Int32.ofNat 16), Value.int (Int32.ofNat 16)] (mj_hw w c hi hl)) (fun x1 h1 => mj_den mj_P E d 149 11 [Value.ref 171, Value.ref 28] [Value.int x1, Value.int (0 : Int32), Value.ref 28, Value.int (0 : Int32), Value.ref 171] h1) := by
  rw [mj_den_eq, f149_0]
  exact zt_aload_n rfl rfl (zt_iconst rfl (zt_aload_n rfl rfl (zt_iconst rfl (zt_aload_n rfl rfl (zt_alen (q := 100) (mjkd171 _ _ _ _) (by decide) (mjln171 _ _ _ _) rfl (zt_aload_n rfl rfl (zt_alen (q := 100) (mjkd28 _ _ _ _) (by decide) (mjln28 _ _ _ _) rfl (zt_call1_1 (Nat.le_of_ble_eq_true rfl) rfl (Nat.le_of_ble_eq_true rfl) rfl rfl))))))))
set_option maxRecDepth 100000 in
theorem q149_0_93 (E : mj_E) (d w c : Nat) (hi : Nat → Nat → Int32) (hl : Nat → Nat → Int64) : mj_den mj_P E d 149 0 [Value.ref 172, Value.ref 29] [] (mj_hw w c hi hl) = mj_bi (mj_dc mj_P E d 296 [Value.int (Int32.ofNat 16), Value.int (Int32.ofNat 16)] (mj_hw w c hi hl)) (fun x1 h1 => mj_den mj_P E d 149 11 [Value.ref 172, Value.ref 29] [Value.int x1, Value.int (0 : Int32), Value.ref 29, Value.int (0 : Int32), Value.ref 172] h1) := by
  rw [mj_den_eq, f149_0]
  exact zt_aload_n rfl rfl (zt_iconst rfl (zt_aload_n rfl rfl (zt_iconst rfl (zt_aload_n rfl rfl (zt_alen (q := 100) (mjkd172 _ _ _ _) (by decide) (mjln172 _ _ _ _) rfl (zt_aload_n rfl rfl (zt_alen (q := 100) (mjkd29 _ _ _ _) (by decide) (mjln29 _ _ _ _) rfl (zt_call1_1 (Nat.le_of_ble_eq_true rfl) rfl (Nat.le_of_ble_eq_true rfl) rfl rfl))))))))
set_option maxRecDepth 100000 in
theorem q149_0_94 (E : mj_E) (d w c : Nat) (hi : Nat → Nat → Int32) (hl : Nat → Nat → Int64) : mj_den mj_P E d 149 0 [Value.ref 170, Value.ref 23] [] (mj_hw w c hi hl) = mj_bi (mj_dc mj_P E d 296 [Value.int (Int32.ofNat 16), Value.int (Int32.ofNat 16)] (mj_hw w c hi hl)) (fun x1 h1 => mj_den mj_P E d 149 11 [Value.ref 170, Value.ref 23] [Value.int x1, Value.int (0 : Int32), Value.ref 23, Value.int (0 : Int32), Value.ref 170] h1) := by
  rw [mj_den_eq, f149_0]
  exact zt_aload_n rfl rfl (zt_iconst rfl (zt_aload_n rfl rfl (zt_iconst rfl (zt_aload_n rfl rfl (zt_alen (q := 100) (mjkd170 _ _ _ _) (by decide) (mjln170 _ _ _ _) rfl (zt_aload_n rfl rfl (zt_alen (q := 100) (mjkd23 _ _ _ _) (by decide) (mjln23 _ _ _ _) rfl (zt_call1_1 (Nat.le_of_ble_eq_true rfl) rfl (Nat.le_of_ble_eq_true rfl) rfl rfl))))))))
set_option maxRecDepth 100000 in
theorem q149_0_95 (E : mj_E) (d w c : Nat) (hi : Nat → Nat → Int32) (hl : Nat → Nat → Int64) : mj_den mj_P E d 149 0 [Value.ref 171, Value.ref 24] [] (mj_hw w c hi hl) = mj_bi (mj_dc mj_P E d 296 [Value.int (Int32.ofNat 16), Value.int (Int32.ofNat 16)] (mj_hw w c hi hl)) (fun x1 h1 => mj_den mj_P E d 149 11 [Value.ref 171, Value.ref 24] [Value.int x1, Value.int (0 : Int32), Value.ref 24, Value.int (0 : Int32), Value.ref 171] h1) := by
  rw [mj_den_eq, f149_0]
  exact zt_aload_n rfl rfl (zt_iconst rfl (zt_aload_n rfl rfl (zt_iconst rfl (zt_aload_n rfl rfl (zt_alen (q := 100) (mjkd171 _ _ _ _) (by decide) (mjln171 _ _ _ _) rfl (zt_aload_n rfl rfl (zt_alen (q := 100) (mjkd24 _ _ _ _) (by decide) (mjln24 _ _ _ _) rfl (zt_call1_1 (Nat.le_of_ble_eq_true rfl) rfl (Nat.le_of_ble_eq_true rfl) rfl rfl))))))))
set_option maxRecDepth 100000 in
theorem q149_0_96 (E : mj_E) (d w c : Nat) (hi : Nat → Nat → Int32) (hl : Nat → Nat → Int64) : mj_den mj_P E d 149 0 [Value.ref 172, Value.ref 25] [] (mj_hw w c hi hl) = mj_bi (mj_dc mj_P E d 296 [Value.int (Int32.ofNat 16), Value.int (Int32.ofNat 16)] (mj_hw w c hi hl)) (fun x1 h1 => mj_den mj_P E d 149 11 [Value.ref 172, Value.ref 25] [Value.int x1, Value.int (0 : Int32), Value.ref 25, Value.int (0 : Int32), Value.ref 172] h1) := by
  rw [mj_den_eq, f149_0]
  exact zt_aload_n rfl rfl (zt_iconst rfl (zt_aload_n rfl rfl (zt_iconst rfl (zt_aload_n rfl rfl (zt_alen (q := 100) (mjkd172 _ _ _ _) (by decide) (mjln172 _ _ _ _) rfl (zt_aload_n rfl rfl (zt_alen (q := 100) (mjkd25 _ _ _ _) (by decide) (mjln25 _ _ _ _) rfl (zt_call1_1 (Nat.le_of_ble_eq_true rfl) rfl (Nat.le_of_ble_eq_true rfl) rfl rfl))))))))
set_option maxRecDepth 100000 in
theorem f149_11 : mj_find (mj_P 149).2.2.2.2 11 = [(.invokestatic 406, 3, 0, [4, 730]), (.return_, 1, 0, [])] := rfl
set_option maxRecDepth 100000 in
theorem q149_11 (E : mj_E) (d w c : Nat) (hi : Nat → Nat → Int32) (hl : Nat → Nat → Int64) (s0 : Int32) (s1 : Int32) (s3 : Int32) : mj_den mj_P E d 149 11 [Value.ref 3, Value.ref 178] [Value.int s0, Value.int s1, Value.ref 178, Value.int s3, Value.ref 3] (mj_hw w c hi hl) = if 0 ≤ s3 ∧ 0 ≤ s1 ∧ 0 ≤ s0 ∧ (s3).toNatClampNeg + (s0).toNatClampNeg ≤ 10 ∧ (s1).toNatClampNeg + (s0).toNatClampNeg ≤ 10 then some (none, (mj_hw w c (mj_ur hi 178 (fun k => if (s1).toNatClampNeg ≤ k ∧ k < (s1).toNatClampNeg + (s0).toNatClampNeg then hi 3 ((s3).toNatClampNeg + (k - (s1).toNatClampNeg)) else hi 178 k)) hl)) else none := by
  rw [mj_den_eq, f149_11]
  exact zt_copy (mjkd3 _ _ _ _) (mjkd178 _ _ _ _) (Nat.le_of_ble_eq_true rfl) (mjln3 _ _ _ _) (mjln178 _ _ _ _) rfl rfl (zt_return)
set_option maxRecDepth 100000 in
theorem q149_11_1 (E : mj_E) (d w c : Nat) (hi : Nat → Nat → Int32) (hl : Nat → Nat → Int64) (s0 : Int32) (s1 : Int32) (s3 : Int32) : mj_den mj_P E d 149 11 [Value.ref 4, Value.ref 179] [Value.int s0, Value.int s1, Value.ref 179, Value.int s3, Value.ref 4] (mj_hw w c hi hl) = if 0 ≤ s3 ∧ 0 ≤ s1 ∧ 0 ≤ s0 ∧ (s3).toNatClampNeg + (s0).toNatClampNeg ≤ 10 ∧ (s1).toNatClampNeg + (s0).toNatClampNeg ≤ 10 then some (none, (mj_hw w c (mj_ur hi 179 (fun k => if (s1).toNatClampNeg ≤ k ∧ k < (s1).toNatClampNeg + (s0).toNatClampNeg then hi 4 ((s3).toNatClampNeg + (k - (s1).toNatClampNeg)) else hi 179 k)) hl)) else none := by
  rw [mj_den_eq, f149_11]
  exact zt_copy (mjkd4 _ _ _ _) (mjkd179 _ _ _ _) (Nat.le_of_ble_eq_true rfl) (mjln4 _ _ _ _) (mjln179 _ _ _ _) rfl rfl (zt_return)
set_option maxRecDepth 100000 in
theorem q149_11_10 (E : mj_E) (d w c : Nat) (hi : Nat → Nat → Int32) (hl : Nat → Nat → Int64) (s0 : Int32) (s1 : Int32) (s3 : Int32) : mj_den mj_P E d 149 11 [Value.ref 3, Value.ref 48] [Value.int s0, Value.int s1, Value.ref 48, Value.int s3, Value.ref 3] (mj_hw w c hi hl) = if 0 ≤ s3 ∧ 0 ≤ s1 ∧ 0 ≤ s0 ∧ (s3).toNatClampNeg + (s0).toNatClampNeg ≤ 10 ∧ (s1).toNatClampNeg + (s0).toNatClampNeg ≤ 10 then some (none, (mj_hw w c (mj_ur hi 48 (fun k => if (s1).toNatClampNeg ≤ k ∧ k < (s1).toNatClampNeg + (s0).toNatClampNeg then hi 3 ((s3).toNatClampNeg + (k - (s1).toNatClampNeg)) else hi 48 k)) hl)) else none := by
  rw [mj_den_eq, f149_11]
  exact zt_copy (mjkd3 _ _ _ _) (mjkd48 _ _ _ _) (Nat.le_of_ble_eq_true rfl) (mjln3 _ _ _ _) (mjln48 _ _ _ _) rfl rfl (zt_return)
set_option maxRecDepth 100000 in
theorem q149_11_11 (E : mj_E) (d w c : Nat) (hi : Nat → Nat → Int32) (hl : Nat → Nat → Int64) (s0 : Int32) (s1 : Int32) (s3 : Int32) : mj_den mj_P E d 149 11 [Value.ref 4, Value.ref 49] [Value.int s0, Value.int s1, Value.ref 49, Value.int s3, Value.ref 4] (mj_hw w c hi hl) = if 0 ≤ s3 ∧ 0 ≤ s1 ∧ 0 ≤ s0 ∧ (s3).toNatClampNeg + (s0).toNatClampNeg ≤ 10 ∧ (s1).toNatClampNeg + (s0).toNatClampNeg ≤ 10 then some (none, (mj_hw w c (mj_ur hi 49 (fun k => if (s1).toNatClampNeg ≤ k ∧ k < (s1).toNatClampNeg + (s0).toNatClampNeg then hi 4 ((s3).toNatClampNeg + (k - (s1).toNatClampNeg)) else hi 49 k)) hl)) else none := by
  rw [mj_den_eq, f149_11]
  exact zt_copy (mjkd4 _ _ _ _) (mjkd49 _ _ _ _) (Nat.le_of_ble_eq_true rfl) (mjln4 _ _ _ _) (mjln49 _ _ _ _) rfl rfl (zt_return)
set_option maxRecDepth 100000 in
theorem q149_11_12 (E : mj_E) (d w c : Nat) (hi : Nat → Nat → Int32) (hl : Nat → Nat → Int64) (s0 : Int32) (s1 : Int32) (s3 : Int32) : mj_den mj_P E d 149 11 [Value.ref 5, Value.ref 50] [Value.int s0, Value.int s1, Value.ref 50, Value.int s3, Value.ref 5] (mj_hw w c hi hl) = if 0 ≤ s3 ∧ 0 ≤ s1 ∧ 0 ≤ s0 ∧ (s3).toNatClampNeg + (s0).toNatClampNeg ≤ 10 ∧ (s1).toNatClampNeg + (s0).toNatClampNeg ≤ 10 then some (none, (mj_hw w c (mj_ur hi 50 (fun k => if (s1).toNatClampNeg ≤ k ∧ k < (s1).toNatClampNeg + (s0).toNatClampNeg then hi 5 ((s3).toNatClampNeg + (k - (s1).toNatClampNeg)) else hi 50 k)) hl)) else none := by
  rw [mj_den_eq, f149_11]
  exact zt_copy (mjkd5 _ _ _ _) (mjkd50 _ _ _ _) (Nat.le_of_ble_eq_true rfl) (mjln5 _ _ _ _) (mjln50 _ _ _ _) rfl rfl (zt_return)
set_option maxRecDepth 100000 in
theorem q149_11_13 (E : mj_E) (d w c : Nat) (hi : Nat → Nat → Int32) (hl : Nat → Nat → Int64) (s0 : Int32) (s1 : Int32) (s3 : Int32) : mj_den mj_P E d 149 11 [Value.ref 6, Value.ref 51] [Value.int s0, Value.int s1, Value.ref 51, Value.int s3, Value.ref 6] (mj_hw w c hi hl) = if 0 ≤ s3 ∧ 0 ≤ s1 ∧ 0 ≤ s0 ∧ (s3).toNatClampNeg + (s0).toNatClampNeg ≤ 10 ∧ (s1).toNatClampNeg + (s0).toNatClampNeg ≤ 10 then some (none, (mj_hw w c (mj_ur hi 51 (fun k => if (s1).toNatClampNeg ≤ k ∧ k < (s1).toNatClampNeg + (s0).toNatClampNeg then hi 6 ((s3).toNatClampNeg + (k - (s1).toNatClampNeg)) else hi 51 k)) hl)) else none := by
  rw [mj_den_eq, f149_11]
  exact zt_copy (mjkd6 _ _ _ _) (mjkd51 _ _ _ _) (Nat.le_of_ble_eq_true rfl) (mjln6 _ _ _ _) (mjln51 _ _ _ _) rfl rfl (zt_return)
set_option maxRecDepth 100000 in
theorem q149_11_14 (E : mj_E) (d w c : Nat) (hi : Nat → Nat → Int32) (hl : Nat → Nat → Int64) (s0 : Int32) (s1 : Int32) (s3 : Int32) : mj_den mj_P E d 149 11 [Value.ref 7, Value.ref 52] [Value.int s0, Value.int s1, Value.ref 52, Value.int s3, Value.ref 7] (mj_hw w c hi hl) = if 0 ≤ s3 ∧ 0 ≤ s1 ∧ 0 ≤ s0 ∧ (s3).toNatClampNeg + (s0).toNatClampNeg ≤ 10 ∧ (s1).toNatClampNeg + (s0).toNatClampNeg ≤ 10 then some (none, (mj_hw w c (mj_ur hi 52 (fun k => if (s1).toNatClampNeg ≤ k ∧ k < (s1).toNatClampNeg + (s0).toNatClampNeg then hi 7 ((s3).toNatClampNeg + (k - (s1).toNatClampNeg)) else hi 52 k)) hl)) else none := by
  rw [mj_den_eq, f149_11]
  exact zt_copy (mjkd7 _ _ _ _) (mjkd52 _ _ _ _) (Nat.le_of_ble_eq_true rfl) (mjln7 _ _ _ _) (mjln52 _ _ _ _) rfl rfl (zt_return)
set_option maxRecDepth 100000 in
theorem q149_11_15 (E : mj_E) (d w c : Nat) (hi : Nat → Nat → Int32) (hl : Nat → Nat → Int64) (s0 : Int32) (s1 : Int32) (s3 : Int32) : mj_den mj_P E d 149 11 [Value.ref 8, Value.ref 53] [Value.int s0, Value.int s1, Value.ref 53, Value.int s3, Value.ref 8] (mj_hw w c hi hl) = if 0 ≤ s3 ∧ 0 ≤ s1 ∧ 0 ≤ s0 ∧ (s3).toNatClampNeg + (s0).toNatClampNeg ≤ 10 ∧ (s1).toNatClampNeg + (s0).toNatClampNeg ≤ 10 then some (none, (mj_hw w c (mj_ur hi 53 (fun k => if (s1).toNatClampNeg ≤ k ∧ k < (s1).toNatClampNeg + (s0).toNatClampNeg then hi 8 ((s3).toNatClampNeg + (k - (s1).toNatClampNeg)) else hi 53 k)) hl)) else none := by
  rw [mj_den_eq, f149_11]
  exact zt_copy (mjkd8 _ _ _ _) (mjkd53 _ _ _ _) (Nat.le_of_ble_eq_true rfl) (mjln8 _ _ _ _) (mjln53 _ _ _ _) rfl rfl (zt_return)
set_option maxRecDepth 100000 in
theorem q149_11_16 (E : mj_E) (d w c : Nat) (hi : Nat → Nat → Int32) (hl : Nat → Nat → Int64) (s0 : Int32) (s1 : Int32) (s3 : Int32) : mj_den mj_P E d 149 11 [Value.ref 9, Value.ref 54] [Value.int s0, Value.int s1, Value.ref 54, Value.int s3, Value.ref 9] (mj_hw w c hi hl) = if 0 ≤ s3 ∧ 0 ≤ s1 ∧ 0 ≤ s0 ∧ (s3).toNatClampNeg + (s0).toNatClampNeg ≤ 10 ∧ (s1).toNatClampNeg + (s0).toNatClampNeg ≤ 10 then some (none, (mj_hw w c (mj_ur hi 54 (fun k => if (s1).toNatClampNeg ≤ k ∧ k < (s1).toNatClampNeg + (s0).toNatClampNeg then hi 9 ((s3).toNatClampNeg + (k - (s1).toNatClampNeg)) else hi 54 k)) hl)) else none := by
  rw [mj_den_eq, f149_11]
  exact zt_copy (mjkd9 _ _ _ _) (mjkd54 _ _ _ _) (Nat.le_of_ble_eq_true rfl) (mjln9 _ _ _ _) (mjln54 _ _ _ _) rfl rfl (zt_return)
set_option maxRecDepth 100000 in
theorem q149_11_17 (E : mj_E) (d w c : Nat) (hi : Nat → Nat → Int32) (hl : Nat → Nat → Int64) (s0 : Int32) (s1 : Int32) (s3 : Int32) : mj_den mj_P E d 149 11 [Value.ref 10, Value.ref 55] [Value.int s0, Value.int s1, Value.ref 55, Value.int s3, Value.ref 10] (mj_hw w c hi hl) = if 0 ≤ s3 ∧ 0 ≤ s1 ∧ 0 ≤ s0 ∧ (s3).toNatClampNeg + (s0).toNatClampNeg ≤ 12 ∧ (s1).toNatClampNeg + (s0).toNatClampNeg ≤ 12 then some (none, (mj_hw w c (mj_ur hi 55 (fun k => if (s1).toNatClampNeg ≤ k ∧ k < (s1).toNatClampNeg + (s0).toNatClampNeg then hi 10 ((s3).toNatClampNeg + (k - (s1).toNatClampNeg)) else hi 55 k)) hl)) else none := by
  rw [mj_den_eq, f149_11]
  exact zt_copy (mjkd10 _ _ _ _) (mjkd55 _ _ _ _) (Nat.le_of_ble_eq_true rfl) (mjln10 _ _ _ _) (mjln55 _ _ _ _) rfl rfl (zt_return)
set_option maxRecDepth 100000 in
theorem q149_11_18 (E : mj_E) (d w c : Nat) (hi : Nat → Nat → Int32) (hl : Nat → Nat → Int64) (s0 : Int32) (s1 : Int32) (s3 : Int32) : mj_den mj_P E d 149 11 [Value.ref 11, Value.ref 56] [Value.int s0, Value.int s1, Value.ref 56, Value.int s3, Value.ref 11] (mj_hw w c hi hl) = if 0 ≤ s3 ∧ 0 ≤ s1 ∧ 0 ≤ s0 ∧ (s3).toNatClampNeg + (s0).toNatClampNeg ≤ 12 ∧ (s1).toNatClampNeg + (s0).toNatClampNeg ≤ 12 then some (none, (mj_hw w c (mj_ur hi 56 (fun k => if (s1).toNatClampNeg ≤ k ∧ k < (s1).toNatClampNeg + (s0).toNatClampNeg then hi 11 ((s3).toNatClampNeg + (k - (s1).toNatClampNeg)) else hi 56 k)) hl)) else none := by
  rw [mj_den_eq, f149_11]
  exact zt_copy (mjkd11 _ _ _ _) (mjkd56 _ _ _ _) (Nat.le_of_ble_eq_true rfl) (mjln11 _ _ _ _) (mjln56 _ _ _ _) rfl rfl (zt_return)
set_option maxRecDepth 100000 in
theorem q149_11_19 (E : mj_E) (d w c : Nat) (hi : Nat → Nat → Int32) (hl : Nat → Nat → Int64) (s0 : Int32) (s1 : Int32) (s3 : Int32) : mj_den mj_P E d 149 11 [Value.ref 12, Value.ref 57] [Value.int s0, Value.int s1, Value.ref 57, Value.int s3, Value.ref 12] (mj_hw w c hi hl) = if 0 ≤ s3 ∧ 0 ≤ s1 ∧ 0 ≤ s0 ∧ (s3).toNatClampNeg + (s0).toNatClampNeg ≤ 12 ∧ (s1).toNatClampNeg + (s0).toNatClampNeg ≤ 12 then some (none, (mj_hw w c (mj_ur hi 57 (fun k => if (s1).toNatClampNeg ≤ k ∧ k < (s1).toNatClampNeg + (s0).toNatClampNeg then hi 12 ((s3).toNatClampNeg + (k - (s1).toNatClampNeg)) else hi 57 k)) hl)) else none := by
  rw [mj_den_eq, f149_11]
  exact zt_copy (mjkd12 _ _ _ _) (mjkd57 _ _ _ _) (Nat.le_of_ble_eq_true rfl) (mjln12 _ _ _ _) (mjln57 _ _ _ _) rfl rfl (zt_return)
set_option maxRecDepth 100000 in
theorem q149_11_2 (E : mj_E) (d w c : Nat) (hi : Nat → Nat → Int32) (hl : Nat → Nat → Int64) (s0 : Int32) (s1 : Int32) (s3 : Int32) : mj_den mj_P E d 149 11 [Value.ref 5, Value.ref 180] [Value.int s0, Value.int s1, Value.ref 180, Value.int s3, Value.ref 5] (mj_hw w c hi hl) = if 0 ≤ s3 ∧ 0 ≤ s1 ∧ 0 ≤ s0 ∧ (s3).toNatClampNeg + (s0).toNatClampNeg ≤ 10 ∧ (s1).toNatClampNeg + (s0).toNatClampNeg ≤ 10 then some (none, (mj_hw w c (mj_ur hi 180 (fun k => if (s1).toNatClampNeg ≤ k ∧ k < (s1).toNatClampNeg + (s0).toNatClampNeg then hi 5 ((s3).toNatClampNeg + (k - (s1).toNatClampNeg)) else hi 180 k)) hl)) else none := by
  rw [mj_den_eq, f149_11]
  exact zt_copy (mjkd5 _ _ _ _) (mjkd180 _ _ _ _) (Nat.le_of_ble_eq_true rfl) (mjln5 _ _ _ _) (mjln180 _ _ _ _) rfl rfl (zt_return)
set_option maxRecDepth 100000 in
theorem q149_11_20 (E : mj_E) (d w c : Nat) (hi : Nat → Nat → Int32) (hl : Nat → Nat → Int64) (s0 : Int32) (s1 : Int32) (s3 : Int32) : mj_den mj_P E d 149 11 [Value.ref 14, Value.ref 59] [Value.int s0, Value.int s1, Value.ref 59, Value.int s3, Value.ref 14] (mj_hw w c hi hl) = if 0 ≤ s3 ∧ 0 ≤ s1 ∧ 0 ≤ s0 ∧ (s3).toNatClampNeg + (s0).toNatClampNeg ≤ 16 ∧ (s1).toNatClampNeg + (s0).toNatClampNeg ≤ 16 then some (none, (mj_hw w c (mj_ur hi 59 (fun k => if (s1).toNatClampNeg ≤ k ∧ k < (s1).toNatClampNeg + (s0).toNatClampNeg then hi 14 ((s3).toNatClampNeg + (k - (s1).toNatClampNeg)) else hi 59 k)) hl)) else none := by
  rw [mj_den_eq, f149_11]
  exact zt_copy (mjkd14 _ _ _ _) (mjkd59 _ _ _ _) (Nat.le_of_ble_eq_true rfl) (mjln14 _ _ _ _) (mjln59 _ _ _ _) rfl rfl (zt_return)
set_option maxRecDepth 100000 in
theorem q149_11_21 (E : mj_E) (d w c : Nat) (hi : Nat → Nat → Int32) (hl : Nat → Nat → Int64) (s0 : Int32) (s1 : Int32) (s3 : Int32) : mj_den mj_P E d 149 11 [Value.ref 15, Value.ref 60] [Value.int s0, Value.int s1, Value.ref 60, Value.int s3, Value.ref 15] (mj_hw w c hi hl) = if 0 ≤ s3 ∧ 0 ≤ s1 ∧ 0 ≤ s0 ∧ (s3).toNatClampNeg + (s0).toNatClampNeg ≤ 16 ∧ (s1).toNatClampNeg + (s0).toNatClampNeg ≤ 16 then some (none, (mj_hw w c (mj_ur hi 60 (fun k => if (s1).toNatClampNeg ≤ k ∧ k < (s1).toNatClampNeg + (s0).toNatClampNeg then hi 15 ((s3).toNatClampNeg + (k - (s1).toNatClampNeg)) else hi 60 k)) hl)) else none := by
  rw [mj_den_eq, f149_11]
  exact zt_copy (mjkd15 _ _ _ _) (mjkd60 _ _ _ _) (Nat.le_of_ble_eq_true rfl) (mjln15 _ _ _ _) (mjln60 _ _ _ _) rfl rfl (zt_return)
set_option maxRecDepth 100000 in
theorem q149_11_22 (E : mj_E) (d w c : Nat) (hi : Nat → Nat → Int32) (hl : Nat → Nat → Int64) (s0 : Int32) (s1 : Int32) (s3 : Int32) : mj_den mj_P E d 149 11 [Value.ref 16, Value.ref 61] [Value.int s0, Value.int s1, Value.ref 61, Value.int s3, Value.ref 16] (mj_hw w c hi hl) = if 0 ≤ s3 ∧ 0 ≤ s1 ∧ 0 ≤ s0 ∧ (s3).toNatClampNeg + (s0).toNatClampNeg ≤ 16 ∧ (s1).toNatClampNeg + (s0).toNatClampNeg ≤ 16 then some (none, (mj_hw w c (mj_ur hi 61 (fun k => if (s1).toNatClampNeg ≤ k ∧ k < (s1).toNatClampNeg + (s0).toNatClampNeg then hi 16 ((s3).toNatClampNeg + (k - (s1).toNatClampNeg)) else hi 61 k)) hl)) else none := by
  rw [mj_den_eq, f149_11]
  exact zt_copy (mjkd16 _ _ _ _) (mjkd61 _ _ _ _) (Nat.le_of_ble_eq_true rfl) (mjln16 _ _ _ _) (mjln61 _ _ _ _) rfl rfl (zt_return)
set_option maxRecDepth 100000 in
theorem q149_11_23 (E : mj_E) (d w c : Nat) (hi : Nat → Nat → Int32) (hl : Nat → Nat → Int64) (s0 : Int32) (s1 : Int32) (s3 : Int32) : mj_den mj_P E d 149 11 [Value.ref 17, Value.ref 62] [Value.int s0, Value.int s1, Value.ref 62, Value.int s3, Value.ref 17] (mj_hw w c hi hl) = if 0 ≤ s3 ∧ 0 ≤ s1 ∧ 0 ≤ s0 ∧ (s3).toNatClampNeg + (s0).toNatClampNeg ≤ 16 ∧ (s1).toNatClampNeg + (s0).toNatClampNeg ≤ 16 then some (none, (mj_hw w c (mj_ur hi 62 (fun k => if (s1).toNatClampNeg ≤ k ∧ k < (s1).toNatClampNeg + (s0).toNatClampNeg then hi 17 ((s3).toNatClampNeg + (k - (s1).toNatClampNeg)) else hi 62 k)) hl)) else none := by
  rw [mj_den_eq, f149_11]
  exact zt_copy (mjkd17 _ _ _ _) (mjkd62 _ _ _ _) (Nat.le_of_ble_eq_true rfl) (mjln17 _ _ _ _) (mjln62 _ _ _ _) rfl rfl (zt_return)
set_option maxRecDepth 100000 in
theorem q149_11_24 (E : mj_E) (d w c : Nat) (hi : Nat → Nat → Int32) (hl : Nat → Nat → Int64) (s0 : Int32) (s1 : Int32) (s3 : Int32) : mj_den mj_P E d 149 11 [Value.ref 18, Value.ref 63] [Value.int s0, Value.int s1, Value.ref 63, Value.int s3, Value.ref 18] (mj_hw w c hi hl) = if 0 ≤ s3 ∧ 0 ≤ s1 ∧ 0 ≤ s0 ∧ (s3).toNatClampNeg + (s0).toNatClampNeg ≤ 400 ∧ (s1).toNatClampNeg + (s0).toNatClampNeg ≤ 400 then some (none, (mj_hw w c (mj_ur hi 63 (fun k => if (s1).toNatClampNeg ≤ k ∧ k < (s1).toNatClampNeg + (s0).toNatClampNeg then hi 18 ((s3).toNatClampNeg + (k - (s1).toNatClampNeg)) else hi 63 k)) hl)) else none := by
  rw [mj_den_eq, f149_11]
  exact zt_copy (mjkd18 _ _ _ _) (mjkd63 _ _ _ _) (Nat.le_of_ble_eq_true rfl) (mjln18 _ _ _ _) (mjln63 _ _ _ _) rfl rfl (zt_return)
set_option maxRecDepth 100000 in
theorem q149_11_25 (E : mj_E) (d w c : Nat) (hi : Nat → Nat → Int32) (hl : Nat → Nat → Int64) (s0 : Int32) (s1 : Int32) (s3 : Int32) : mj_den mj_P E d 149 11 [Value.ref 19, Value.ref 64] [Value.int s0, Value.int s1, Value.ref 64, Value.int s3, Value.ref 19] (mj_hw w c hi hl) = if 0 ≤ s3 ∧ 0 ≤ s1 ∧ 0 ≤ s0 ∧ (s3).toNatClampNeg + (s0).toNatClampNeg ≤ 400 ∧ (s1).toNatClampNeg + (s0).toNatClampNeg ≤ 400 then some (none, (mj_hw w c (mj_ur hi 64 (fun k => if (s1).toNatClampNeg ≤ k ∧ k < (s1).toNatClampNeg + (s0).toNatClampNeg then hi 19 ((s3).toNatClampNeg + (k - (s1).toNatClampNeg)) else hi 64 k)) hl)) else none := by
  rw [mj_den_eq, f149_11]
  exact zt_copy (mjkd19 _ _ _ _) (mjkd64 _ _ _ _) (Nat.le_of_ble_eq_true rfl) (mjln19 _ _ _ _) (mjln64 _ _ _ _) rfl rfl (zt_return)
set_option maxRecDepth 100000 in
theorem q149_11_26 (E : mj_E) (d w c : Nat) (hi : Nat → Nat → Int32) (hl : Nat → Nat → Int64) (s0 : Int32) (s1 : Int32) (s3 : Int32) : mj_den mj_P E d 149 11 [Value.ref 23, Value.ref 68] [Value.int s0, Value.int s1, Value.ref 68, Value.int s3, Value.ref 23] (mj_hw w c hi hl) = if 0 ≤ s3 ∧ 0 ≤ s1 ∧ 0 ≤ s0 ∧ (s3).toNatClampNeg + (s0).toNatClampNeg ≤ 16 ∧ (s1).toNatClampNeg + (s0).toNatClampNeg ≤ 16 then some (none, (mj_hw w c (mj_ur hi 68 (fun k => if (s1).toNatClampNeg ≤ k ∧ k < (s1).toNatClampNeg + (s0).toNatClampNeg then hi 23 ((s3).toNatClampNeg + (k - (s1).toNatClampNeg)) else hi 68 k)) hl)) else none := by
  rw [mj_den_eq, f149_11]
  exact zt_copy (mjkd23 _ _ _ _) (mjkd68 _ _ _ _) (Nat.le_of_ble_eq_true rfl) (mjln23 _ _ _ _) (mjln68 _ _ _ _) rfl rfl (zt_return)
set_option maxRecDepth 100000 in
theorem q149_11_27 (E : mj_E) (d w c : Nat) (hi : Nat → Nat → Int32) (hl : Nat → Nat → Int64) (s0 : Int32) (s1 : Int32) (s3 : Int32) : mj_den mj_P E d 149 11 [Value.ref 24, Value.ref 69] [Value.int s0, Value.int s1, Value.ref 69, Value.int s3, Value.ref 24] (mj_hw w c hi hl) = if 0 ≤ s3 ∧ 0 ≤ s1 ∧ 0 ≤ s0 ∧ (s3).toNatClampNeg + (s0).toNatClampNeg ≤ 16 ∧ (s1).toNatClampNeg + (s0).toNatClampNeg ≤ 16 then some (none, (mj_hw w c (mj_ur hi 69 (fun k => if (s1).toNatClampNeg ≤ k ∧ k < (s1).toNatClampNeg + (s0).toNatClampNeg then hi 24 ((s3).toNatClampNeg + (k - (s1).toNatClampNeg)) else hi 69 k)) hl)) else none := by
  rw [mj_den_eq, f149_11]
  exact zt_copy (mjkd24 _ _ _ _) (mjkd69 _ _ _ _) (Nat.le_of_ble_eq_true rfl) (mjln24 _ _ _ _) (mjln69 _ _ _ _) rfl rfl (zt_return)
set_option maxRecDepth 100000 in
theorem q149_11_28 (E : mj_E) (d w c : Nat) (hi : Nat → Nat → Int32) (hl : Nat → Nat → Int64) (s0 : Int32) (s1 : Int32) (s3 : Int32) : mj_den mj_P E d 149 11 [Value.ref 25, Value.ref 70] [Value.int s0, Value.int s1, Value.ref 70, Value.int s3, Value.ref 25] (mj_hw w c hi hl) = if 0 ≤ s3 ∧ 0 ≤ s1 ∧ 0 ≤ s0 ∧ (s3).toNatClampNeg + (s0).toNatClampNeg ≤ 16 ∧ (s1).toNatClampNeg + (s0).toNatClampNeg ≤ 16 then some (none, (mj_hw w c (mj_ur hi 70 (fun k => if (s1).toNatClampNeg ≤ k ∧ k < (s1).toNatClampNeg + (s0).toNatClampNeg then hi 25 ((s3).toNatClampNeg + (k - (s1).toNatClampNeg)) else hi 70 k)) hl)) else none := by
  rw [mj_den_eq, f149_11]
  exact zt_copy (mjkd25 _ _ _ _) (mjkd70 _ _ _ _) (Nat.le_of_ble_eq_true rfl) (mjln25 _ _ _ _) (mjln70 _ _ _ _) rfl rfl (zt_return)
set_option maxRecDepth 100000 in
theorem q149_11_29 (E : mj_E) (d w c : Nat) (hi : Nat → Nat → Int32) (hl : Nat → Nat → Int64) (s0 : Int32) (s1 : Int32) (s3 : Int32) : mj_den mj_P E d 149 11 [Value.ref 27, Value.ref 72] [Value.int s0, Value.int s1, Value.ref 72, Value.int s3, Value.ref 27] (mj_hw w c hi hl) = if 0 ≤ s3 ∧ 0 ≤ s1 ∧ 0 ≤ s0 ∧ (s3).toNatClampNeg + (s0).toNatClampNeg ≤ 16 ∧ (s1).toNatClampNeg + (s0).toNatClampNeg ≤ 16 then some (none, (mj_hw w c (mj_ur hi 72 (fun k => if (s1).toNatClampNeg ≤ k ∧ k < (s1).toNatClampNeg + (s0).toNatClampNeg then hi 27 ((s3).toNatClampNeg + (k - (s1).toNatClampNeg)) else hi 72 k)) hl)) else none := by
  rw [mj_den_eq, f149_11]
  exact zt_copy (mjkd27 _ _ _ _) (mjkd72 _ _ _ _) (Nat.le_of_ble_eq_true rfl) (mjln27 _ _ _ _) (mjln72 _ _ _ _) rfl rfl (zt_return)
set_option maxRecDepth 100000 in
theorem q149_11_3 (E : mj_E) (d w c : Nat) (hi : Nat → Nat → Int32) (hl : Nat → Nat → Int64) (s0 : Int32) (s1 : Int32) (s3 : Int32) : mj_den mj_P E d 149 11 [Value.ref 6, Value.ref 181] [Value.int s0, Value.int s1, Value.ref 181, Value.int s3, Value.ref 6] (mj_hw w c hi hl) = if 0 ≤ s3 ∧ 0 ≤ s1 ∧ 0 ≤ s0 ∧ (s3).toNatClampNeg + (s0).toNatClampNeg ≤ 10 ∧ (s1).toNatClampNeg + (s0).toNatClampNeg ≤ 10 then some (none, (mj_hw w c (mj_ur hi 181 (fun k => if (s1).toNatClampNeg ≤ k ∧ k < (s1).toNatClampNeg + (s0).toNatClampNeg then hi 6 ((s3).toNatClampNeg + (k - (s1).toNatClampNeg)) else hi 181 k)) hl)) else none := by
  rw [mj_den_eq, f149_11]
  exact zt_copy (mjkd6 _ _ _ _) (mjkd181 _ _ _ _) (Nat.le_of_ble_eq_true rfl) (mjln6 _ _ _ _) (mjln181 _ _ _ _) rfl rfl (zt_return)
set_option maxRecDepth 100000 in
theorem q149_11_30 (E : mj_E) (d w c : Nat) (hi : Nat → Nat → Int32) (hl : Nat → Nat → Int64) (s0 : Int32) (s1 : Int32) (s3 : Int32) : mj_den mj_P E d 149 11 [Value.ref 28, Value.ref 73] [Value.int s0, Value.int s1, Value.ref 73, Value.int s3, Value.ref 28] (mj_hw w c hi hl) = if 0 ≤ s3 ∧ 0 ≤ s1 ∧ 0 ≤ s0 ∧ (s3).toNatClampNeg + (s0).toNatClampNeg ≤ 16 ∧ (s1).toNatClampNeg + (s0).toNatClampNeg ≤ 16 then some (none, (mj_hw w c (mj_ur hi 73 (fun k => if (s1).toNatClampNeg ≤ k ∧ k < (s1).toNatClampNeg + (s0).toNatClampNeg then hi 28 ((s3).toNatClampNeg + (k - (s1).toNatClampNeg)) else hi 73 k)) hl)) else none := by
  rw [mj_den_eq, f149_11]
  exact zt_copy (mjkd28 _ _ _ _) (mjkd73 _ _ _ _) (Nat.le_of_ble_eq_true rfl) (mjln28 _ _ _ _) (mjln73 _ _ _ _) rfl rfl (zt_return)
set_option maxRecDepth 100000 in
theorem q149_11_31 (E : mj_E) (d w c : Nat) (hi : Nat → Nat → Int32) (hl : Nat → Nat → Int64) (s0 : Int32) (s1 : Int32) (s3 : Int32) : mj_den mj_P E d 149 11 [Value.ref 29, Value.ref 74] [Value.int s0, Value.int s1, Value.ref 74, Value.int s3, Value.ref 29] (mj_hw w c hi hl) = if 0 ≤ s3 ∧ 0 ≤ s1 ∧ 0 ≤ s0 ∧ (s3).toNatClampNeg + (s0).toNatClampNeg ≤ 16 ∧ (s1).toNatClampNeg + (s0).toNatClampNeg ≤ 16 then some (none, (mj_hw w c (mj_ur hi 74 (fun k => if (s1).toNatClampNeg ≤ k ∧ k < (s1).toNatClampNeg + (s0).toNatClampNeg then hi 29 ((s3).toNatClampNeg + (k - (s1).toNatClampNeg)) else hi 74 k)) hl)) else none := by
  rw [mj_den_eq, f149_11]
  exact zt_copy (mjkd29 _ _ _ _) (mjkd74 _ _ _ _) (Nat.le_of_ble_eq_true rfl) (mjln29 _ _ _ _) (mjln74 _ _ _ _) rfl rfl (zt_return)
set_option maxRecDepth 100000 in
theorem q149_11_32 (E : mj_E) (d w c : Nat) (hi : Nat → Nat → Int32) (hl : Nat → Nat → Int64) (s0 : Int32) (s1 : Int32) (s3 : Int32) : mj_den mj_P E d 149 11 [Value.ref 31, Value.ref 76] [Value.int s0, Value.int s1, Value.ref 76, Value.int s3, Value.ref 31] (mj_hw w c hi hl) = if 0 ≤ s3 ∧ 0 ≤ s1 ∧ 0 ≤ s0 ∧ (s3).toNatClampNeg + (s0).toNatClampNeg ≤ 16 ∧ (s1).toNatClampNeg + (s0).toNatClampNeg ≤ 16 then some (none, (mj_hw w c (mj_ur hi 76 (fun k => if (s1).toNatClampNeg ≤ k ∧ k < (s1).toNatClampNeg + (s0).toNatClampNeg then hi 31 ((s3).toNatClampNeg + (k - (s1).toNatClampNeg)) else hi 76 k)) hl)) else none := by
  rw [mj_den_eq, f149_11]
  exact zt_copy (mjkd31 _ _ _ _) (mjkd76 _ _ _ _) (Nat.le_of_ble_eq_true rfl) (mjln31 _ _ _ _) (mjln76 _ _ _ _) rfl rfl (zt_return)
set_option maxRecDepth 100000 in
theorem q149_11_33 (E : mj_E) (d w c : Nat) (hi : Nat → Nat → Int32) (hl : Nat → Nat → Int64) (s0 : Int32) (s1 : Int32) (s3 : Int32) : mj_den mj_P E d 149 11 [Value.ref 32, Value.ref 77] [Value.int s0, Value.int s1, Value.ref 77, Value.int s3, Value.ref 32] (mj_hw w c hi hl) = if 0 ≤ s3 ∧ 0 ≤ s1 ∧ 0 ≤ s0 ∧ (s3).toNatClampNeg + (s0).toNatClampNeg ≤ 16 ∧ (s1).toNatClampNeg + (s0).toNatClampNeg ≤ 16 then some (none, (mj_hw w c (mj_ur hi 77 (fun k => if (s1).toNatClampNeg ≤ k ∧ k < (s1).toNatClampNeg + (s0).toNatClampNeg then hi 32 ((s3).toNatClampNeg + (k - (s1).toNatClampNeg)) else hi 77 k)) hl)) else none := by
  rw [mj_den_eq, f149_11]
  exact zt_copy (mjkd32 _ _ _ _) (mjkd77 _ _ _ _) (Nat.le_of_ble_eq_true rfl) (mjln32 _ _ _ _) (mjln77 _ _ _ _) rfl rfl (zt_return)
set_option maxRecDepth 100000 in
theorem q149_11_34 (E : mj_E) (d w c : Nat) (hi : Nat → Nat → Int32) (hl : Nat → Nat → Int64) (s0 : Int32) (s1 : Int32) (s3 : Int32) : mj_den mj_P E d 149 11 [Value.ref 33, Value.ref 78] [Value.int s0, Value.int s1, Value.ref 78, Value.int s3, Value.ref 33] (mj_hw w c hi hl) = if 0 ≤ s3 ∧ 0 ≤ s1 ∧ 0 ≤ s0 ∧ (s3).toNatClampNeg + (s0).toNatClampNeg ≤ 16 ∧ (s1).toNatClampNeg + (s0).toNatClampNeg ≤ 16 then some (none, (mj_hw w c (mj_ur hi 78 (fun k => if (s1).toNatClampNeg ≤ k ∧ k < (s1).toNatClampNeg + (s0).toNatClampNeg then hi 33 ((s3).toNatClampNeg + (k - (s1).toNatClampNeg)) else hi 78 k)) hl)) else none := by
  rw [mj_den_eq, f149_11]
  exact zt_copy (mjkd33 _ _ _ _) (mjkd78 _ _ _ _) (Nat.le_of_ble_eq_true rfl) (mjln33 _ _ _ _) (mjln78 _ _ _ _) rfl rfl (zt_return)
set_option maxRecDepth 100000 in
theorem q149_11_35 (E : mj_E) (d w c : Nat) (hi : Nat → Nat → Int32) (hl : Nat → Nat → Int64) (s0 : Int32) (s1 : Int32) (s3 : Int32) : mj_den mj_P E d 149 11 [Value.ref 35, Value.ref 80] [Value.int s0, Value.int s1, Value.ref 80, Value.int s3, Value.ref 35] (mj_hw w c hi hl) = if 0 ≤ s3 ∧ 0 ≤ s1 ∧ 0 ≤ s0 ∧ (s3).toNatClampNeg + (s0).toNatClampNeg ≤ 16 ∧ (s1).toNatClampNeg + (s0).toNatClampNeg ≤ 16 then some (none, (mj_hw w c (mj_ur hi 80 (fun k => if (s1).toNatClampNeg ≤ k ∧ k < (s1).toNatClampNeg + (s0).toNatClampNeg then hi 35 ((s3).toNatClampNeg + (k - (s1).toNatClampNeg)) else hi 80 k)) hl)) else none := by
  rw [mj_den_eq, f149_11]
  exact zt_copy (mjkd35 _ _ _ _) (mjkd80 _ _ _ _) (Nat.le_of_ble_eq_true rfl) (mjln35 _ _ _ _) (mjln80 _ _ _ _) rfl rfl (zt_return)
set_option maxRecDepth 100000 in
theorem q149_11_36 (E : mj_E) (d w c : Nat) (hi : Nat → Nat → Int32) (hl : Nat → Nat → Int64) (s0 : Int32) (s1 : Int32) (s3 : Int32) : mj_den mj_P E d 149 11 [Value.ref 36, Value.ref 81] [Value.int s0, Value.int s1, Value.ref 81, Value.int s3, Value.ref 36] (mj_hw w c hi hl) = if 0 ≤ s3 ∧ 0 ≤ s1 ∧ 0 ≤ s0 ∧ (s3).toNatClampNeg + (s0).toNatClampNeg ≤ 16 ∧ (s1).toNatClampNeg + (s0).toNatClampNeg ≤ 16 then some (none, (mj_hw w c (mj_ur hi 81 (fun k => if (s1).toNatClampNeg ≤ k ∧ k < (s1).toNatClampNeg + (s0).toNatClampNeg then hi 36 ((s3).toNatClampNeg + (k - (s1).toNatClampNeg)) else hi 81 k)) hl)) else none := by
  rw [mj_den_eq, f149_11]
  exact zt_copy (mjkd36 _ _ _ _) (mjkd81 _ _ _ _) (Nat.le_of_ble_eq_true rfl) (mjln36 _ _ _ _) (mjln81 _ _ _ _) rfl rfl (zt_return)
set_option maxRecDepth 100000 in
theorem q149_11_37 (E : mj_E) (d w c : Nat) (hi : Nat → Nat → Int32) (hl : Nat → Nat → Int64) (s0 : Int32) (s1 : Int32) (s3 : Int32) : mj_den mj_P E d 149 11 [Value.ref 37, Value.ref 82] [Value.int s0, Value.int s1, Value.ref 82, Value.int s3, Value.ref 37] (mj_hw w c hi hl) = if 0 ≤ s3 ∧ 0 ≤ s1 ∧ 0 ≤ s0 ∧ (s3).toNatClampNeg + (s0).toNatClampNeg ≤ 6 ∧ (s1).toNatClampNeg + (s0).toNatClampNeg ≤ 6 then some (none, (mj_hw w c (mj_ur hi 82 (fun k => if (s1).toNatClampNeg ≤ k ∧ k < (s1).toNatClampNeg + (s0).toNatClampNeg then hi 37 ((s3).toNatClampNeg + (k - (s1).toNatClampNeg)) else hi 82 k)) hl)) else none := by
  rw [mj_den_eq, f149_11]
  exact zt_copy (mjkd37 _ _ _ _) (mjkd82 _ _ _ _) (Nat.le_of_ble_eq_true rfl) (mjln37 _ _ _ _) (mjln82 _ _ _ _) rfl rfl (zt_return)
set_option maxRecDepth 100000 in
theorem q149_11_38 (E : mj_E) (d w c : Nat) (hi : Nat → Nat → Int32) (hl : Nat → Nat → Int64) (s0 : Int32) (s1 : Int32) (s3 : Int32) : mj_den mj_P E d 149 11 [Value.ref 38, Value.ref 83] [Value.int s0, Value.int s1, Value.ref 83, Value.int s3, Value.ref 38] (mj_hw w c hi hl) = if 0 ≤ s3 ∧ 0 ≤ s1 ∧ 0 ≤ s0 ∧ (s3).toNatClampNeg + (s0).toNatClampNeg ≤ 8 ∧ (s1).toNatClampNeg + (s0).toNatClampNeg ≤ 8 then some (none, (mj_hw w c (mj_ur hi 83 (fun k => if (s1).toNatClampNeg ≤ k ∧ k < (s1).toNatClampNeg + (s0).toNatClampNeg then hi 38 ((s3).toNatClampNeg + (k - (s1).toNatClampNeg)) else hi 83 k)) hl)) else none := by
  rw [mj_den_eq, f149_11]
  exact zt_copy (mjkd38 _ _ _ _) (mjkd83 _ _ _ _) (Nat.le_of_ble_eq_true rfl) (mjln38 _ _ _ _) (mjln83 _ _ _ _) rfl rfl (zt_return)
set_option maxRecDepth 100000 in
theorem q149_11_39 (E : mj_E) (d w c : Nat) (hi : Nat → Nat → Int32) (hl : Nat → Nat → Int64) (s0 : Int32) (s1 : Int32) (s3 : Int32) : mj_den mj_P E d 149 11 [Value.ref 39, Value.ref 84] [Value.int s0, Value.int s1, Value.ref 84, Value.int s3, Value.ref 39] (mj_hw w c hi hl) = if 0 ≤ s3 ∧ 0 ≤ s1 ∧ 0 ≤ s0 ∧ (s3).toNatClampNeg + (s0).toNatClampNeg ≤ 7 ∧ (s1).toNatClampNeg + (s0).toNatClampNeg ≤ 7 then some (none, (mj_hw w c (mj_ur hi 84 (fun k => if (s1).toNatClampNeg ≤ k ∧ k < (s1).toNatClampNeg + (s0).toNatClampNeg then hi 39 ((s3).toNatClampNeg + (k - (s1).toNatClampNeg)) else hi 84 k)) hl)) else none := by
  rw [mj_den_eq, f149_11]
  exact zt_copy (mjkd39 _ _ _ _) (mjkd84 _ _ _ _) (Nat.le_of_ble_eq_true rfl) (mjln39 _ _ _ _) (mjln84 _ _ _ _) rfl rfl (zt_return)
set_option maxRecDepth 100000 in
theorem q149_11_4 (E : mj_E) (d w c : Nat) (hi : Nat → Nat → Int32) (hl : Nat → Nat → Int64) (s0 : Int32) (s1 : Int32) (s3 : Int32) : mj_den mj_P E d 149 11 [Value.ref 7, Value.ref 182] [Value.int s0, Value.int s1, Value.ref 182, Value.int s3, Value.ref 7] (mj_hw w c hi hl) = if 0 ≤ s3 ∧ 0 ≤ s1 ∧ 0 ≤ s0 ∧ (s3).toNatClampNeg + (s0).toNatClampNeg ≤ 10 ∧ (s1).toNatClampNeg + (s0).toNatClampNeg ≤ 10 then some (none, (mj_hw w c (mj_ur hi 182 (fun k => if (s1).toNatClampNeg ≤ k ∧ k < (s1).toNatClampNeg + (s0).toNatClampNeg then hi 7 ((s3).toNatClampNeg + (k - (s1).toNatClampNeg)) else hi 182 k)) hl)) else none := by
  rw [mj_den_eq, f149_11]
  exact zt_copy (mjkd7 _ _ _ _) (mjkd182 _ _ _ _) (Nat.le_of_ble_eq_true rfl) (mjln7 _ _ _ _) (mjln182 _ _ _ _) rfl rfl (zt_return)
set_option maxRecDepth 100000 in
theorem q149_11_40 (E : mj_E) (d w c : Nat) (hi : Nat → Nat → Int32) (hl : Nat → Nat → Int64) (s0 : Int32) (s1 : Int32) (s3 : Int32) : mj_den mj_P E d 149 11 [Value.ref 40, Value.ref 85] [Value.int s0, Value.int s1, Value.ref 85, Value.int s3, Value.ref 40] (mj_hw w c hi hl) = if 0 ≤ s3 ∧ 0 ≤ s1 ∧ 0 ≤ s0 ∧ (s3).toNatClampNeg + (s0).toNatClampNeg ≤ 7 ∧ (s1).toNatClampNeg + (s0).toNatClampNeg ≤ 7 then some (none, (mj_hw w c (mj_ur hi 85 (fun k => if (s1).toNatClampNeg ≤ k ∧ k < (s1).toNatClampNeg + (s0).toNatClampNeg then hi 40 ((s3).toNatClampNeg + (k - (s1).toNatClampNeg)) else hi 85 k)) hl)) else none := by
  rw [mj_den_eq, f149_11]
  exact zt_copy (mjkd40 _ _ _ _) (mjkd85 _ _ _ _) (Nat.le_of_ble_eq_true rfl) (mjln40 _ _ _ _) (mjln85 _ _ _ _) rfl rfl (zt_return)
set_option maxRecDepth 100000 in
theorem q149_11_41 (E : mj_E) (d w c : Nat) (hi : Nat → Nat → Int32) (hl : Nat → Nat → Int64) (s0 : Int32) (s1 : Int32) (s3 : Int32) : mj_den mj_P E d 149 11 [Value.ref 41, Value.ref 86] [Value.int s0, Value.int s1, Value.ref 86, Value.int s3, Value.ref 41] (mj_hw w c hi hl) = if 0 ≤ s3 ∧ 0 ≤ s1 ∧ 0 ≤ s0 ∧ (s3).toNatClampNeg + (s0).toNatClampNeg ≤ 12 ∧ (s1).toNatClampNeg + (s0).toNatClampNeg ≤ 12 then some (none, (mj_hw w c (mj_ur hi 86 (fun k => if (s1).toNatClampNeg ≤ k ∧ k < (s1).toNatClampNeg + (s0).toNatClampNeg then hi 41 ((s3).toNatClampNeg + (k - (s1).toNatClampNeg)) else hi 86 k)) hl)) else none := by
  rw [mj_den_eq, f149_11]
  exact zt_copy (mjkd41 _ _ _ _) (mjkd86 _ _ _ _) (Nat.le_of_ble_eq_true rfl) (mjln41 _ _ _ _) (mjln86 _ _ _ _) rfl rfl (zt_return)
set_option maxRecDepth 100000 in
theorem q149_11_42 (E : mj_E) (d w c : Nat) (hi : Nat → Nat → Int32) (hl : Nat → Nat → Int64) (s0 : Int32) (s1 : Int32) (s3 : Int32) : mj_den mj_P E d 149 11 [Value.ref 42, Value.ref 87] [Value.int s0, Value.int s1, Value.ref 87, Value.int s3, Value.ref 42] (mj_hw w c hi hl) = if 0 ≤ s3 ∧ 0 ≤ s1 ∧ 0 ≤ s0 ∧ (s3).toNatClampNeg + (s0).toNatClampNeg ≤ 150 ∧ (s1).toNatClampNeg + (s0).toNatClampNeg ≤ 150 then some (none, (mj_hw w c (mj_ur hi 87 (fun k => if (s1).toNatClampNeg ≤ k ∧ k < (s1).toNatClampNeg + (s0).toNatClampNeg then hi 42 ((s3).toNatClampNeg + (k - (s1).toNatClampNeg)) else hi 87 k)) hl)) else none := by
  rw [mj_den_eq, f149_11]
  exact zt_copy (mjkd42 _ _ _ _) (mjkd87 _ _ _ _) (Nat.le_of_ble_eq_true rfl) (mjln42 _ _ _ _) (mjln87 _ _ _ _) rfl rfl (zt_return)
set_option maxRecDepth 100000 in
theorem q149_11_43 (E : mj_E) (d w c : Nat) (hi : Nat → Nat → Int32) (hl : Nat → Nat → Int64) (s0 : Int32) (s1 : Int32) (s3 : Int32) : mj_den mj_P E d 149 11 [Value.ref 43, Value.ref 88] [Value.int s0, Value.int s1, Value.ref 88, Value.int s3, Value.ref 43] (mj_hw w c hi hl) = if 0 ≤ s3 ∧ 0 ≤ s1 ∧ 0 ≤ s0 ∧ (s3).toNatClampNeg + (s0).toNatClampNeg ≤ 150 ∧ (s1).toNatClampNeg + (s0).toNatClampNeg ≤ 150 then some (none, (mj_hw w c (mj_ur hi 88 (fun k => if (s1).toNatClampNeg ≤ k ∧ k < (s1).toNatClampNeg + (s0).toNatClampNeg then hi 43 ((s3).toNatClampNeg + (k - (s1).toNatClampNeg)) else hi 88 k)) hl)) else none := by
  rw [mj_den_eq, f149_11]
  exact zt_copy (mjkd43 _ _ _ _) (mjkd88 _ _ _ _) (Nat.le_of_ble_eq_true rfl) (mjln43 _ _ _ _) (mjln88 _ _ _ _) rfl rfl (zt_return)
set_option maxRecDepth 100000 in
theorem q149_11_44 (E : mj_E) (d w c : Nat) (hi : Nat → Nat → Int32) (hl : Nat → Nat → Int64) (s0 : Int32) (s1 : Int32) (s3 : Int32) : mj_den mj_P E d 149 11 [Value.ref 44, Value.ref 89] [Value.int s0, Value.int s1, Value.ref 89, Value.int s3, Value.ref 44] (mj_hw w c hi hl) = if 0 ≤ s3 ∧ 0 ≤ s1 ∧ 0 ≤ s0 ∧ (s3).toNatClampNeg + (s0).toNatClampNeg ≤ 150 ∧ (s1).toNatClampNeg + (s0).toNatClampNeg ≤ 150 then some (none, (mj_hw w c (mj_ur hi 89 (fun k => if (s1).toNatClampNeg ≤ k ∧ k < (s1).toNatClampNeg + (s0).toNatClampNeg then hi 44 ((s3).toNatClampNeg + (k - (s1).toNatClampNeg)) else hi 89 k)) hl)) else none := by
  rw [mj_den_eq, f149_11]
  exact zt_copy (mjkd44 _ _ _ _) (mjkd89 _ _ _ _) (Nat.le_of_ble_eq_true rfl) (mjln44 _ _ _ _) (mjln89 _ _ _ _) rfl rfl (zt_return)
set_option maxRecDepth 100000 in
theorem q149_11_45 (E : mj_E) (d w c : Nat) (hi : Nat → Nat → Int32) (hl : Nat → Nat → Int64) (s0 : Int32) (s1 : Int32) (s3 : Int32) : mj_den mj_P E d 149 11 [Value.ref 45, Value.ref 90] [Value.int s0, Value.int s1, Value.ref 90, Value.int s3, Value.ref 45] (mj_hw w c hi hl) = if 0 ≤ s3 ∧ 0 ≤ s1 ∧ 0 ≤ s0 ∧ (s3).toNatClampNeg + (s0).toNatClampNeg ≤ 150 ∧ (s1).toNatClampNeg + (s0).toNatClampNeg ≤ 150 then some (none, (mj_hw w c (mj_ur hi 90 (fun k => if (s1).toNatClampNeg ≤ k ∧ k < (s1).toNatClampNeg + (s0).toNatClampNeg then hi 45 ((s3).toNatClampNeg + (k - (s1).toNatClampNeg)) else hi 90 k)) hl)) else none := by
  rw [mj_den_eq, f149_11]
  exact zt_copy (mjkd45 _ _ _ _) (mjkd90 _ _ _ _) (Nat.le_of_ble_eq_true rfl) (mjln45 _ _ _ _) (mjln90 _ _ _ _) rfl rfl (zt_return)
set_option maxRecDepth 100000 in
theorem q149_11_46 (E : mj_E) (d w c : Nat) (hi : Nat → Nat → Int32) (hl : Nat → Nat → Int64) (s0 : Int32) (s1 : Int32) (s3 : Int32) : mj_den mj_P E d 149 11 [Value.ref 48, Value.ref 3] [Value.int s0, Value.int s1, Value.ref 3, Value.int s3, Value.ref 48] (mj_hw w c hi hl) = if 0 ≤ s3 ∧ 0 ≤ s1 ∧ 0 ≤ s0 ∧ (s3).toNatClampNeg + (s0).toNatClampNeg ≤ 10 ∧ (s1).toNatClampNeg + (s0).toNatClampNeg ≤ 10 then some (none, (mj_hw w c (mj_ur hi 3 (fun k => if (s1).toNatClampNeg ≤ k ∧ k < (s1).toNatClampNeg + (s0).toNatClampNeg then hi 48 ((s3).toNatClampNeg + (k - (s1).toNatClampNeg)) else hi 3 k)) hl)) else none := by
  rw [mj_den_eq, f149_11]
  exact zt_copy (mjkd48 _ _ _ _) (mjkd3 _ _ _ _) (Nat.le_of_ble_eq_true rfl) (mjln48 _ _ _ _) (mjln3 _ _ _ _) rfl rfl (zt_return)
set_option maxRecDepth 100000 in
theorem q149_11_47 (E : mj_E) (d w c : Nat) (hi : Nat → Nat → Int32) (hl : Nat → Nat → Int64) (s0 : Int32) (s1 : Int32) (s3 : Int32) : mj_den mj_P E d 149 11 [Value.ref 49, Value.ref 4] [Value.int s0, Value.int s1, Value.ref 4, Value.int s3, Value.ref 49] (mj_hw w c hi hl) = if 0 ≤ s3 ∧ 0 ≤ s1 ∧ 0 ≤ s0 ∧ (s3).toNatClampNeg + (s0).toNatClampNeg ≤ 10 ∧ (s1).toNatClampNeg + (s0).toNatClampNeg ≤ 10 then some (none, (mj_hw w c (mj_ur hi 4 (fun k => if (s1).toNatClampNeg ≤ k ∧ k < (s1).toNatClampNeg + (s0).toNatClampNeg then hi 49 ((s3).toNatClampNeg + (k - (s1).toNatClampNeg)) else hi 4 k)) hl)) else none := by
  rw [mj_den_eq, f149_11]
  exact zt_copy (mjkd49 _ _ _ _) (mjkd4 _ _ _ _) (Nat.le_of_ble_eq_true rfl) (mjln49 _ _ _ _) (mjln4 _ _ _ _) rfl rfl (zt_return)
set_option maxRecDepth 100000 in
theorem q149_11_48 (E : mj_E) (d w c : Nat) (hi : Nat → Nat → Int32) (hl : Nat → Nat → Int64) (s0 : Int32) (s1 : Int32) (s3 : Int32) : mj_den mj_P E d 149 11 [Value.ref 50, Value.ref 5] [Value.int s0, Value.int s1, Value.ref 5, Value.int s3, Value.ref 50] (mj_hw w c hi hl) = if 0 ≤ s3 ∧ 0 ≤ s1 ∧ 0 ≤ s0 ∧ (s3).toNatClampNeg + (s0).toNatClampNeg ≤ 10 ∧ (s1).toNatClampNeg + (s0).toNatClampNeg ≤ 10 then some (none, (mj_hw w c (mj_ur hi 5 (fun k => if (s1).toNatClampNeg ≤ k ∧ k < (s1).toNatClampNeg + (s0).toNatClampNeg then hi 50 ((s3).toNatClampNeg + (k - (s1).toNatClampNeg)) else hi 5 k)) hl)) else none := by
  rw [mj_den_eq, f149_11]
  exact zt_copy (mjkd50 _ _ _ _) (mjkd5 _ _ _ _) (Nat.le_of_ble_eq_true rfl) (mjln50 _ _ _ _) (mjln5 _ _ _ _) rfl rfl (zt_return)
set_option maxRecDepth 100000 in
theorem q149_11_49 (E : mj_E) (d w c : Nat) (hi : Nat → Nat → Int32) (hl : Nat → Nat → Int64) (s0 : Int32) (s1 : Int32) (s3 : Int32) : mj_den mj_P E d 149 11 [Value.ref 51, Value.ref 6] [Value.int s0, Value.int s1, Value.ref 6, Value.int s3, Value.ref 51] (mj_hw w c hi hl) = if 0 ≤ s3 ∧ 0 ≤ s1 ∧ 0 ≤ s0 ∧ (s3).toNatClampNeg + (s0).toNatClampNeg ≤ 10 ∧ (s1).toNatClampNeg + (s0).toNatClampNeg ≤ 10 then some (none, (mj_hw w c (mj_ur hi 6 (fun k => if (s1).toNatClampNeg ≤ k ∧ k < (s1).toNatClampNeg + (s0).toNatClampNeg then hi 51 ((s3).toNatClampNeg + (k - (s1).toNatClampNeg)) else hi 6 k)) hl)) else none := by
  rw [mj_den_eq, f149_11]
  exact zt_copy (mjkd51 _ _ _ _) (mjkd6 _ _ _ _) (Nat.le_of_ble_eq_true rfl) (mjln51 _ _ _ _) (mjln6 _ _ _ _) rfl rfl (zt_return)
set_option maxRecDepth 100000 in
theorem q149_11_5 (E : mj_E) (d w c : Nat) (hi : Nat → Nat → Int32) (hl : Nat → Nat → Int64) (s0 : Int32) (s1 : Int32) (s3 : Int32) : mj_den mj_P E d 149 11 [Value.ref 8, Value.ref 183] [Value.int s0, Value.int s1, Value.ref 183, Value.int s3, Value.ref 8] (mj_hw w c hi hl) = if 0 ≤ s3 ∧ 0 ≤ s1 ∧ 0 ≤ s0 ∧ (s3).toNatClampNeg + (s0).toNatClampNeg ≤ 10 ∧ (s1).toNatClampNeg + (s0).toNatClampNeg ≤ 10 then some (none, (mj_hw w c (mj_ur hi 183 (fun k => if (s1).toNatClampNeg ≤ k ∧ k < (s1).toNatClampNeg + (s0).toNatClampNeg then hi 8 ((s3).toNatClampNeg + (k - (s1).toNatClampNeg)) else hi 183 k)) hl)) else none := by
  rw [mj_den_eq, f149_11]
  exact zt_copy (mjkd8 _ _ _ _) (mjkd183 _ _ _ _) (Nat.le_of_ble_eq_true rfl) (mjln8 _ _ _ _) (mjln183 _ _ _ _) rfl rfl (zt_return)
set_option maxRecDepth 100000 in
theorem q149_11_50 (E : mj_E) (d w c : Nat) (hi : Nat → Nat → Int32) (hl : Nat → Nat → Int64) (s0 : Int32) (s1 : Int32) (s3 : Int32) : mj_den mj_P E d 149 11 [Value.ref 52, Value.ref 7] [Value.int s0, Value.int s1, Value.ref 7, Value.int s3, Value.ref 52] (mj_hw w c hi hl) = if 0 ≤ s3 ∧ 0 ≤ s1 ∧ 0 ≤ s0 ∧ (s3).toNatClampNeg + (s0).toNatClampNeg ≤ 10 ∧ (s1).toNatClampNeg + (s0).toNatClampNeg ≤ 10 then some (none, (mj_hw w c (mj_ur hi 7 (fun k => if (s1).toNatClampNeg ≤ k ∧ k < (s1).toNatClampNeg + (s0).toNatClampNeg then hi 52 ((s3).toNatClampNeg + (k - (s1).toNatClampNeg)) else hi 7 k)) hl)) else none := by
  rw [mj_den_eq, f149_11]
  exact zt_copy (mjkd52 _ _ _ _) (mjkd7 _ _ _ _) (Nat.le_of_ble_eq_true rfl) (mjln52 _ _ _ _) (mjln7 _ _ _ _) rfl rfl (zt_return)
set_option maxRecDepth 100000 in
theorem q149_11_51 (E : mj_E) (d w c : Nat) (hi : Nat → Nat → Int32) (hl : Nat → Nat → Int64) (s0 : Int32) (s1 : Int32) (s3 : Int32) : mj_den mj_P E d 149 11 [Value.ref 53, Value.ref 8] [Value.int s0, Value.int s1, Value.ref 8, Value.int s3, Value.ref 53] (mj_hw w c hi hl) = if 0 ≤ s3 ∧ 0 ≤ s1 ∧ 0 ≤ s0 ∧ (s3).toNatClampNeg + (s0).toNatClampNeg ≤ 10 ∧ (s1).toNatClampNeg + (s0).toNatClampNeg ≤ 10 then some (none, (mj_hw w c (mj_ur hi 8 (fun k => if (s1).toNatClampNeg ≤ k ∧ k < (s1).toNatClampNeg + (s0).toNatClampNeg then hi 53 ((s3).toNatClampNeg + (k - (s1).toNatClampNeg)) else hi 8 k)) hl)) else none := by
  rw [mj_den_eq, f149_11]
  exact zt_copy (mjkd53 _ _ _ _) (mjkd8 _ _ _ _) (Nat.le_of_ble_eq_true rfl) (mjln53 _ _ _ _) (mjln8 _ _ _ _) rfl rfl (zt_return)
set_option maxRecDepth 100000 in
theorem q149_11_52 (E : mj_E) (d w c : Nat) (hi : Nat → Nat → Int32) (hl : Nat → Nat → Int64) (s0 : Int32) (s1 : Int32) (s3 : Int32) : mj_den mj_P E d 149 11 [Value.ref 54, Value.ref 9] [Value.int s0, Value.int s1, Value.ref 9, Value.int s3, Value.ref 54] (mj_hw w c hi hl) = if 0 ≤ s3 ∧ 0 ≤ s1 ∧ 0 ≤ s0 ∧ (s3).toNatClampNeg + (s0).toNatClampNeg ≤ 10 ∧ (s1).toNatClampNeg + (s0).toNatClampNeg ≤ 10 then some (none, (mj_hw w c (mj_ur hi 9 (fun k => if (s1).toNatClampNeg ≤ k ∧ k < (s1).toNatClampNeg + (s0).toNatClampNeg then hi 54 ((s3).toNatClampNeg + (k - (s1).toNatClampNeg)) else hi 9 k)) hl)) else none := by
  rw [mj_den_eq, f149_11]
  exact zt_copy (mjkd54 _ _ _ _) (mjkd9 _ _ _ _) (Nat.le_of_ble_eq_true rfl) (mjln54 _ _ _ _) (mjln9 _ _ _ _) rfl rfl (zt_return)
set_option maxRecDepth 100000 in
theorem q149_11_53 (E : mj_E) (d w c : Nat) (hi : Nat → Nat → Int32) (hl : Nat → Nat → Int64) (s0 : Int32) (s1 : Int32) (s3 : Int32) : mj_den mj_P E d 149 11 [Value.ref 55, Value.ref 10] [Value.int s0, Value.int s1, Value.ref 10, Value.int s3, Value.ref 55] (mj_hw w c hi hl) = if 0 ≤ s3 ∧ 0 ≤ s1 ∧ 0 ≤ s0 ∧ (s3).toNatClampNeg + (s0).toNatClampNeg ≤ 12 ∧ (s1).toNatClampNeg + (s0).toNatClampNeg ≤ 12 then some (none, (mj_hw w c (mj_ur hi 10 (fun k => if (s1).toNatClampNeg ≤ k ∧ k < (s1).toNatClampNeg + (s0).toNatClampNeg then hi 55 ((s3).toNatClampNeg + (k - (s1).toNatClampNeg)) else hi 10 k)) hl)) else none := by
  rw [mj_den_eq, f149_11]
  exact zt_copy (mjkd55 _ _ _ _) (mjkd10 _ _ _ _) (Nat.le_of_ble_eq_true rfl) (mjln55 _ _ _ _) (mjln10 _ _ _ _) rfl rfl (zt_return)
set_option maxRecDepth 100000 in
theorem q149_11_54 (E : mj_E) (d w c : Nat) (hi : Nat → Nat → Int32) (hl : Nat → Nat → Int64) (s0 : Int32) (s1 : Int32) (s3 : Int32) : mj_den mj_P E d 149 11 [Value.ref 56, Value.ref 11] [Value.int s0, Value.int s1, Value.ref 11, Value.int s3, Value.ref 56] (mj_hw w c hi hl) = if 0 ≤ s3 ∧ 0 ≤ s1 ∧ 0 ≤ s0 ∧ (s3).toNatClampNeg + (s0).toNatClampNeg ≤ 12 ∧ (s1).toNatClampNeg + (s0).toNatClampNeg ≤ 12 then some (none, (mj_hw w c (mj_ur hi 11 (fun k => if (s1).toNatClampNeg ≤ k ∧ k < (s1).toNatClampNeg + (s0).toNatClampNeg then hi 56 ((s3).toNatClampNeg + (k - (s1).toNatClampNeg)) else hi 11 k)) hl)) else none := by
  rw [mj_den_eq, f149_11]
  exact zt_copy (mjkd56 _ _ _ _) (mjkd11 _ _ _ _) (Nat.le_of_ble_eq_true rfl) (mjln56 _ _ _ _) (mjln11 _ _ _ _) rfl rfl (zt_return)
set_option maxRecDepth 100000 in
theorem q149_11_55 (E : mj_E) (d w c : Nat) (hi : Nat → Nat → Int32) (hl : Nat → Nat → Int64) (s0 : Int32) (s1 : Int32) (s3 : Int32) : mj_den mj_P E d 149 11 [Value.ref 57, Value.ref 12] [Value.int s0, Value.int s1, Value.ref 12, Value.int s3, Value.ref 57] (mj_hw w c hi hl) = if 0 ≤ s3 ∧ 0 ≤ s1 ∧ 0 ≤ s0 ∧ (s3).toNatClampNeg + (s0).toNatClampNeg ≤ 12 ∧ (s1).toNatClampNeg + (s0).toNatClampNeg ≤ 12 then some (none, (mj_hw w c (mj_ur hi 12 (fun k => if (s1).toNatClampNeg ≤ k ∧ k < (s1).toNatClampNeg + (s0).toNatClampNeg then hi 57 ((s3).toNatClampNeg + (k - (s1).toNatClampNeg)) else hi 12 k)) hl)) else none := by
  rw [mj_den_eq, f149_11]
  exact zt_copy (mjkd57 _ _ _ _) (mjkd12 _ _ _ _) (Nat.le_of_ble_eq_true rfl) (mjln57 _ _ _ _) (mjln12 _ _ _ _) rfl rfl (zt_return)
set_option maxRecDepth 100000 in
theorem q149_11_56 (E : mj_E) (d w c : Nat) (hi : Nat → Nat → Int32) (hl : Nat → Nat → Int64) (s0 : Int32) (s1 : Int32) (s3 : Int32) : mj_den mj_P E d 149 11 [Value.ref 59, Value.ref 14] [Value.int s0, Value.int s1, Value.ref 14, Value.int s3, Value.ref 59] (mj_hw w c hi hl) = if 0 ≤ s3 ∧ 0 ≤ s1 ∧ 0 ≤ s0 ∧ (s3).toNatClampNeg + (s0).toNatClampNeg ≤ 16 ∧ (s1).toNatClampNeg + (s0).toNatClampNeg ≤ 16 then some (none, (mj_hw w c (mj_ur hi 14 (fun k => if (s1).toNatClampNeg ≤ k ∧ k < (s1).toNatClampNeg + (s0).toNatClampNeg then hi 59 ((s3).toNatClampNeg + (k - (s1).toNatClampNeg)) else hi 14 k)) hl)) else none := by
  rw [mj_den_eq, f149_11]
  exact zt_copy (mjkd59 _ _ _ _) (mjkd14 _ _ _ _) (Nat.le_of_ble_eq_true rfl) (mjln59 _ _ _ _) (mjln14 _ _ _ _) rfl rfl (zt_return)
set_option maxRecDepth 100000 in
theorem q149_11_57 (E : mj_E) (d w c : Nat) (hi : Nat → Nat → Int32) (hl : Nat → Nat → Int64) (s0 : Int32) (s1 : Int32) (s3 : Int32) : mj_den mj_P E d 149 11 [Value.ref 60, Value.ref 15] [Value.int s0, Value.int s1, Value.ref 15, Value.int s3, Value.ref 60] (mj_hw w c hi hl) = if 0 ≤ s3 ∧ 0 ≤ s1 ∧ 0 ≤ s0 ∧ (s3).toNatClampNeg + (s0).toNatClampNeg ≤ 16 ∧ (s1).toNatClampNeg + (s0).toNatClampNeg ≤ 16 then some (none, (mj_hw w c (mj_ur hi 15 (fun k => if (s1).toNatClampNeg ≤ k ∧ k < (s1).toNatClampNeg + (s0).toNatClampNeg then hi 60 ((s3).toNatClampNeg + (k - (s1).toNatClampNeg)) else hi 15 k)) hl)) else none := by
  rw [mj_den_eq, f149_11]
  exact zt_copy (mjkd60 _ _ _ _) (mjkd15 _ _ _ _) (Nat.le_of_ble_eq_true rfl) (mjln60 _ _ _ _) (mjln15 _ _ _ _) rfl rfl (zt_return)
set_option maxRecDepth 100000 in
theorem q149_11_58 (E : mj_E) (d w c : Nat) (hi : Nat → Nat → Int32) (hl : Nat → Nat → Int64) (s0 : Int32) (s1 : Int32) (s3 : Int32) : mj_den mj_P E d 149 11 [Value.ref 61, Value.ref 16] [Value.int s0, Value.int s1, Value.ref 16, Value.int s3, Value.ref 61] (mj_hw w c hi hl) = if 0 ≤ s3 ∧ 0 ≤ s1 ∧ 0 ≤ s0 ∧ (s3).toNatClampNeg + (s0).toNatClampNeg ≤ 16 ∧ (s1).toNatClampNeg + (s0).toNatClampNeg ≤ 16 then some (none, (mj_hw w c (mj_ur hi 16 (fun k => if (s1).toNatClampNeg ≤ k ∧ k < (s1).toNatClampNeg + (s0).toNatClampNeg then hi 61 ((s3).toNatClampNeg + (k - (s1).toNatClampNeg)) else hi 16 k)) hl)) else none := by
  rw [mj_den_eq, f149_11]
  exact zt_copy (mjkd61 _ _ _ _) (mjkd16 _ _ _ _) (Nat.le_of_ble_eq_true rfl) (mjln61 _ _ _ _) (mjln16 _ _ _ _) rfl rfl (zt_return)
set_option maxRecDepth 100000 in
theorem q149_11_59 (E : mj_E) (d w c : Nat) (hi : Nat → Nat → Int32) (hl : Nat → Nat → Int64) (s0 : Int32) (s1 : Int32) (s3 : Int32) : mj_den mj_P E d 149 11 [Value.ref 62, Value.ref 17] [Value.int s0, Value.int s1, Value.ref 17, Value.int s3, Value.ref 62] (mj_hw w c hi hl) = if 0 ≤ s3 ∧ 0 ≤ s1 ∧ 0 ≤ s0 ∧ (s3).toNatClampNeg + (s0).toNatClampNeg ≤ 16 ∧ (s1).toNatClampNeg + (s0).toNatClampNeg ≤ 16 then some (none, (mj_hw w c (mj_ur hi 17 (fun k => if (s1).toNatClampNeg ≤ k ∧ k < (s1).toNatClampNeg + (s0).toNatClampNeg then hi 62 ((s3).toNatClampNeg + (k - (s1).toNatClampNeg)) else hi 17 k)) hl)) else none := by
  rw [mj_den_eq, f149_11]
  exact zt_copy (mjkd62 _ _ _ _) (mjkd17 _ _ _ _) (Nat.le_of_ble_eq_true rfl) (mjln62 _ _ _ _) (mjln17 _ _ _ _) rfl rfl (zt_return)
set_option maxRecDepth 100000 in
theorem q149_11_6 (E : mj_E) (d w c : Nat) (hi : Nat → Nat → Int32) (hl : Nat → Nat → Int64) (s0 : Int32) (s1 : Int32) (s3 : Int32) : mj_den mj_P E d 149 11 [Value.ref 9, Value.ref 184] [Value.int s0, Value.int s1, Value.ref 184, Value.int s3, Value.ref 9] (mj_hw w c hi hl) = if 0 ≤ s3 ∧ 0 ≤ s1 ∧ 0 ≤ s0 ∧ (s3).toNatClampNeg + (s0).toNatClampNeg ≤ 10 ∧ (s1).toNatClampNeg + (s0).toNatClampNeg ≤ 10 then some (none, (mj_hw w c (mj_ur hi 184 (fun k => if (s1).toNatClampNeg ≤ k ∧ k < (s1).toNatClampNeg + (s0).toNatClampNeg then hi 9 ((s3).toNatClampNeg + (k - (s1).toNatClampNeg)) else hi 184 k)) hl)) else none := by
  rw [mj_den_eq, f149_11]
  exact zt_copy (mjkd9 _ _ _ _) (mjkd184 _ _ _ _) (Nat.le_of_ble_eq_true rfl) (mjln9 _ _ _ _) (mjln184 _ _ _ _) rfl rfl (zt_return)
set_option maxRecDepth 100000 in
theorem q149_11_60 (E : mj_E) (d w c : Nat) (hi : Nat → Nat → Int32) (hl : Nat → Nat → Int64) (s0 : Int32) (s1 : Int32) (s3 : Int32) : mj_den mj_P E d 149 11 [Value.ref 63, Value.ref 18] [Value.int s0, Value.int s1, Value.ref 18, Value.int s3, Value.ref 63] (mj_hw w c hi hl) = if 0 ≤ s3 ∧ 0 ≤ s1 ∧ 0 ≤ s0 ∧ (s3).toNatClampNeg + (s0).toNatClampNeg ≤ 400 ∧ (s1).toNatClampNeg + (s0).toNatClampNeg ≤ 400 then some (none, (mj_hw w c (mj_ur hi 18 (fun k => if (s1).toNatClampNeg ≤ k ∧ k < (s1).toNatClampNeg + (s0).toNatClampNeg then hi 63 ((s3).toNatClampNeg + (k - (s1).toNatClampNeg)) else hi 18 k)) hl)) else none := by
  rw [mj_den_eq, f149_11]
  exact zt_copy (mjkd63 _ _ _ _) (mjkd18 _ _ _ _) (Nat.le_of_ble_eq_true rfl) (mjln63 _ _ _ _) (mjln18 _ _ _ _) rfl rfl (zt_return)
set_option maxRecDepth 100000 in
theorem q149_11_61 (E : mj_E) (d w c : Nat) (hi : Nat → Nat → Int32) (hl : Nat → Nat → Int64) (s0 : Int32) (s1 : Int32) (s3 : Int32) : mj_den mj_P E d 149 11 [Value.ref 64, Value.ref 19] [Value.int s0, Value.int s1, Value.ref 19, Value.int s3, Value.ref 64] (mj_hw w c hi hl) = if 0 ≤ s3 ∧ 0 ≤ s1 ∧ 0 ≤ s0 ∧ (s3).toNatClampNeg + (s0).toNatClampNeg ≤ 400 ∧ (s1).toNatClampNeg + (s0).toNatClampNeg ≤ 400 then some (none, (mj_hw w c (mj_ur hi 19 (fun k => if (s1).toNatClampNeg ≤ k ∧ k < (s1).toNatClampNeg + (s0).toNatClampNeg then hi 64 ((s3).toNatClampNeg + (k - (s1).toNatClampNeg)) else hi 19 k)) hl)) else none := by
  rw [mj_den_eq, f149_11]
  exact zt_copy (mjkd64 _ _ _ _) (mjkd19 _ _ _ _) (Nat.le_of_ble_eq_true rfl) (mjln64 _ _ _ _) (mjln19 _ _ _ _) rfl rfl (zt_return)
set_option maxRecDepth 100000 in
theorem q149_11_62 (E : mj_E) (d w c : Nat) (hi : Nat → Nat → Int32) (hl : Nat → Nat → Int64) (s0 : Int32) (s1 : Int32) (s3 : Int32) : mj_den mj_P E d 149 11 [Value.ref 68, Value.ref 23] [Value.int s0, Value.int s1, Value.ref 23, Value.int s3, Value.ref 68] (mj_hw w c hi hl) = if 0 ≤ s3 ∧ 0 ≤ s1 ∧ 0 ≤ s0 ∧ (s3).toNatClampNeg + (s0).toNatClampNeg ≤ 16 ∧ (s1).toNatClampNeg + (s0).toNatClampNeg ≤ 16 then some (none, (mj_hw w c (mj_ur hi 23 (fun k => if (s1).toNatClampNeg ≤ k ∧ k < (s1).toNatClampNeg + (s0).toNatClampNeg then hi 68 ((s3).toNatClampNeg + (k - (s1).toNatClampNeg)) else hi 23 k)) hl)) else none := by
  rw [mj_den_eq, f149_11]
  exact zt_copy (mjkd68 _ _ _ _) (mjkd23 _ _ _ _) (Nat.le_of_ble_eq_true rfl) (mjln68 _ _ _ _) (mjln23 _ _ _ _) rfl rfl (zt_return)
set_option maxRecDepth 100000 in
theorem q149_11_63 (E : mj_E) (d w c : Nat) (hi : Nat → Nat → Int32) (hl : Nat → Nat → Int64) (s0 : Int32) (s1 : Int32) (s3 : Int32) : mj_den mj_P E d 149 11 [Value.ref 69, Value.ref 24] [Value.int s0, Value.int s1, Value.ref 24, Value.int s3, Value.ref 69] (mj_hw w c hi hl) = if 0 ≤ s3 ∧ 0 ≤ s1 ∧ 0 ≤ s0 ∧ (s3).toNatClampNeg + (s0).toNatClampNeg ≤ 16 ∧ (s1).toNatClampNeg + (s0).toNatClampNeg ≤ 16 then some (none, (mj_hw w c (mj_ur hi 24 (fun k => if (s1).toNatClampNeg ≤ k ∧ k < (s1).toNatClampNeg + (s0).toNatClampNeg then hi 69 ((s3).toNatClampNeg + (k - (s1).toNatClampNeg)) else hi 24 k)) hl)) else none := by
  rw [mj_den_eq, f149_11]
  exact zt_copy (mjkd69 _ _ _ _) (mjkd24 _ _ _ _) (Nat.le_of_ble_eq_true rfl) (mjln69 _ _ _ _) (mjln24 _ _ _ _) rfl rfl (zt_return)
set_option maxRecDepth 100000 in
theorem q149_11_64 (E : mj_E) (d w c : Nat) (hi : Nat → Nat → Int32) (hl : Nat → Nat → Int64) (s0 : Int32) (s1 : Int32) (s3 : Int32) : mj_den mj_P E d 149 11 [Value.ref 70, Value.ref 25] [Value.int s0, Value.int s1, Value.ref 25, Value.int s3, Value.ref 70] (mj_hw w c hi hl) = if 0 ≤ s3 ∧ 0 ≤ s1 ∧ 0 ≤ s0 ∧ (s3).toNatClampNeg + (s0).toNatClampNeg ≤ 16 ∧ (s1).toNatClampNeg + (s0).toNatClampNeg ≤ 16 then some (none, (mj_hw w c (mj_ur hi 25 (fun k => if (s1).toNatClampNeg ≤ k ∧ k < (s1).toNatClampNeg + (s0).toNatClampNeg then hi 70 ((s3).toNatClampNeg + (k - (s1).toNatClampNeg)) else hi 25 k)) hl)) else none := by
  rw [mj_den_eq, f149_11]
  exact zt_copy (mjkd70 _ _ _ _) (mjkd25 _ _ _ _) (Nat.le_of_ble_eq_true rfl) (mjln70 _ _ _ _) (mjln25 _ _ _ _) rfl rfl (zt_return)
set_option maxRecDepth 100000 in
theorem q149_11_65 (E : mj_E) (d w c : Nat) (hi : Nat → Nat → Int32) (hl : Nat → Nat → Int64) (s0 : Int32) (s1 : Int32) (s3 : Int32) : mj_den mj_P E d 149 11 [Value.ref 72, Value.ref 27] [Value.int s0, Value.int s1, Value.ref 27, Value.int s3, Value.ref 72] (mj_hw w c hi hl) = if 0 ≤ s3 ∧ 0 ≤ s1 ∧ 0 ≤ s0 ∧ (s3).toNatClampNeg + (s0).toNatClampNeg ≤ 16 ∧ (s1).toNatClampNeg + (s0).toNatClampNeg ≤ 16 then some (none, (mj_hw w c (mj_ur hi 27 (fun k => if (s1).toNatClampNeg ≤ k ∧ k < (s1).toNatClampNeg + (s0).toNatClampNeg then hi 72 ((s3).toNatClampNeg + (k - (s1).toNatClampNeg)) else hi 27 k)) hl)) else none := by
  rw [mj_den_eq, f149_11]
  exact zt_copy (mjkd72 _ _ _ _) (mjkd27 _ _ _ _) (Nat.le_of_ble_eq_true rfl) (mjln72 _ _ _ _) (mjln27 _ _ _ _) rfl rfl (zt_return)
set_option maxRecDepth 100000 in
theorem q149_11_66 (E : mj_E) (d w c : Nat) (hi : Nat → Nat → Int32) (hl : Nat → Nat → Int64) (s0 : Int32) (s1 : Int32) (s3 : Int32) : mj_den mj_P E d 149 11 [Value.ref 73, Value.ref 28] [Value.int s0, Value.int s1, Value.ref 28, Value.int s3, Value.ref 73] (mj_hw w c hi hl) = if 0 ≤ s3 ∧ 0 ≤ s1 ∧ 0 ≤ s0 ∧ (s3).toNatClampNeg + (s0).toNatClampNeg ≤ 16 ∧ (s1).toNatClampNeg + (s0).toNatClampNeg ≤ 16 then some (none, (mj_hw w c (mj_ur hi 28 (fun k => if (s1).toNatClampNeg ≤ k ∧ k < (s1).toNatClampNeg + (s0).toNatClampNeg then hi 73 ((s3).toNatClampNeg + (k - (s1).toNatClampNeg)) else hi 28 k)) hl)) else none := by
  rw [mj_den_eq, f149_11]
  exact zt_copy (mjkd73 _ _ _ _) (mjkd28 _ _ _ _) (Nat.le_of_ble_eq_true rfl) (mjln73 _ _ _ _) (mjln28 _ _ _ _) rfl rfl (zt_return)
set_option maxRecDepth 100000 in
theorem q149_11_67 (E : mj_E) (d w c : Nat) (hi : Nat → Nat → Int32) (hl : Nat → Nat → Int64) (s0 : Int32) (s1 : Int32) (s3 : Int32) : mj_den mj_P E d 149 11 [Value.ref 74, Value.ref 29] [Value.int s0, Value.int s1, Value.ref 29, Value.int s3, Value.ref 74] (mj_hw w c hi hl) = if 0 ≤ s3 ∧ 0 ≤ s1 ∧ 0 ≤ s0 ∧ (s3).toNatClampNeg + (s0).toNatClampNeg ≤ 16 ∧ (s1).toNatClampNeg + (s0).toNatClampNeg ≤ 16 then some (none, (mj_hw w c (mj_ur hi 29 (fun k => if (s1).toNatClampNeg ≤ k ∧ k < (s1).toNatClampNeg + (s0).toNatClampNeg then hi 74 ((s3).toNatClampNeg + (k - (s1).toNatClampNeg)) else hi 29 k)) hl)) else none := by
  rw [mj_den_eq, f149_11]
  exact zt_copy (mjkd74 _ _ _ _) (mjkd29 _ _ _ _) (Nat.le_of_ble_eq_true rfl) (mjln74 _ _ _ _) (mjln29 _ _ _ _) rfl rfl (zt_return)
set_option maxRecDepth 100000 in
theorem q149_11_68 (E : mj_E) (d w c : Nat) (hi : Nat → Nat → Int32) (hl : Nat → Nat → Int64) (s0 : Int32) (s1 : Int32) (s3 : Int32) : mj_den mj_P E d 149 11 [Value.ref 76, Value.ref 31] [Value.int s0, Value.int s1, Value.ref 31, Value.int s3, Value.ref 76] (mj_hw w c hi hl) = if 0 ≤ s3 ∧ 0 ≤ s1 ∧ 0 ≤ s0 ∧ (s3).toNatClampNeg + (s0).toNatClampNeg ≤ 16 ∧ (s1).toNatClampNeg + (s0).toNatClampNeg ≤ 16 then some (none, (mj_hw w c (mj_ur hi 31 (fun k => if (s1).toNatClampNeg ≤ k ∧ k < (s1).toNatClampNeg + (s0).toNatClampNeg then hi 76 ((s3).toNatClampNeg + (k - (s1).toNatClampNeg)) else hi 31 k)) hl)) else none := by
  rw [mj_den_eq, f149_11]
  exact zt_copy (mjkd76 _ _ _ _) (mjkd31 _ _ _ _) (Nat.le_of_ble_eq_true rfl) (mjln76 _ _ _ _) (mjln31 _ _ _ _) rfl rfl (zt_return)
set_option maxRecDepth 100000 in
theorem q149_11_69 (E : mj_E) (d w c : Nat) (hi : Nat → Nat → Int32) (hl : Nat → Nat → Int64) (s0 : Int32) (s1 : Int32) (s3 : Int32) : mj_den mj_P E d 149 11 [Value.ref 77, Value.ref 32] [Value.int s0, Value.int s1, Value.ref 32, Value.int s3, Value.ref 77] (mj_hw w c hi hl) = if 0 ≤ s3 ∧ 0 ≤ s1 ∧ 0 ≤ s0 ∧ (s3).toNatClampNeg + (s0).toNatClampNeg ≤ 16 ∧ (s1).toNatClampNeg + (s0).toNatClampNeg ≤ 16 then some (none, (mj_hw w c (mj_ur hi 32 (fun k => if (s1).toNatClampNeg ≤ k ∧ k < (s1).toNatClampNeg + (s0).toNatClampNeg then hi 77 ((s3).toNatClampNeg + (k - (s1).toNatClampNeg)) else hi 32 k)) hl)) else none := by
  rw [mj_den_eq, f149_11]
  exact zt_copy (mjkd77 _ _ _ _) (mjkd32 _ _ _ _) (Nat.le_of_ble_eq_true rfl) (mjln77 _ _ _ _) (mjln32 _ _ _ _) rfl rfl (zt_return)
set_option maxRecDepth 100000 in
theorem q149_11_7 (E : mj_E) (d w c : Nat) (hi : Nat → Nat → Int32) (hl : Nat → Nat → Int64) (s0 : Int32) (s1 : Int32) (s3 : Int32) : mj_den mj_P E d 149 11 [Value.ref 10, Value.ref 185] [Value.int s0, Value.int s1, Value.ref 185, Value.int s3, Value.ref 10] (mj_hw w c hi hl) = if 0 ≤ s3 ∧ 0 ≤ s1 ∧ 0 ≤ s0 ∧ (s3).toNatClampNeg + (s0).toNatClampNeg ≤ 12 ∧ (s1).toNatClampNeg + (s0).toNatClampNeg ≤ 12 then some (none, (mj_hw w c (mj_ur hi 185 (fun k => if (s1).toNatClampNeg ≤ k ∧ k < (s1).toNatClampNeg + (s0).toNatClampNeg then hi 10 ((s3).toNatClampNeg + (k - (s1).toNatClampNeg)) else hi 185 k)) hl)) else none := by
  rw [mj_den_eq, f149_11]
  exact zt_copy (mjkd10 _ _ _ _) (mjkd185 _ _ _ _) (Nat.le_of_ble_eq_true rfl) (mjln10 _ _ _ _) (mjln185 _ _ _ _) rfl rfl (zt_return)
set_option maxRecDepth 100000 in
theorem q149_11_70 (E : mj_E) (d w c : Nat) (hi : Nat → Nat → Int32) (hl : Nat → Nat → Int64) (s0 : Int32) (s1 : Int32) (s3 : Int32) : mj_den mj_P E d 149 11 [Value.ref 78, Value.ref 33] [Value.int s0, Value.int s1, Value.ref 33, Value.int s3, Value.ref 78] (mj_hw w c hi hl) = if 0 ≤ s3 ∧ 0 ≤ s1 ∧ 0 ≤ s0 ∧ (s3).toNatClampNeg + (s0).toNatClampNeg ≤ 16 ∧ (s1).toNatClampNeg + (s0).toNatClampNeg ≤ 16 then some (none, (mj_hw w c (mj_ur hi 33 (fun k => if (s1).toNatClampNeg ≤ k ∧ k < (s1).toNatClampNeg + (s0).toNatClampNeg then hi 78 ((s3).toNatClampNeg + (k - (s1).toNatClampNeg)) else hi 33 k)) hl)) else none := by
  rw [mj_den_eq, f149_11]
  exact zt_copy (mjkd78 _ _ _ _) (mjkd33 _ _ _ _) (Nat.le_of_ble_eq_true rfl) (mjln78 _ _ _ _) (mjln33 _ _ _ _) rfl rfl (zt_return)
set_option maxRecDepth 100000 in
theorem q149_11_71 (E : mj_E) (d w c : Nat) (hi : Nat → Nat → Int32) (hl : Nat → Nat → Int64) (s0 : Int32) (s1 : Int32) (s3 : Int32) : mj_den mj_P E d 149 11 [Value.ref 80, Value.ref 35] [Value.int s0, Value.int s1, Value.ref 35, Value.int s3, Value.ref 80] (mj_hw w c hi hl) = if 0 ≤ s3 ∧ 0 ≤ s1 ∧ 0 ≤ s0 ∧ (s3).toNatClampNeg + (s0).toNatClampNeg ≤ 16 ∧ (s1).toNatClampNeg + (s0).toNatClampNeg ≤ 16 then some (none, (mj_hw w c (mj_ur hi 35 (fun k => if (s1).toNatClampNeg ≤ k ∧ k < (s1).toNatClampNeg + (s0).toNatClampNeg then hi 80 ((s3).toNatClampNeg + (k - (s1).toNatClampNeg)) else hi 35 k)) hl)) else none := by
  rw [mj_den_eq, f149_11]
  exact zt_copy (mjkd80 _ _ _ _) (mjkd35 _ _ _ _) (Nat.le_of_ble_eq_true rfl) (mjln80 _ _ _ _) (mjln35 _ _ _ _) rfl rfl (zt_return)
set_option maxRecDepth 100000 in
theorem q149_11_72 (E : mj_E) (d w c : Nat) (hi : Nat → Nat → Int32) (hl : Nat → Nat → Int64) (s0 : Int32) (s1 : Int32) (s3 : Int32) : mj_den mj_P E d 149 11 [Value.ref 81, Value.ref 36] [Value.int s0, Value.int s1, Value.ref 36, Value.int s3, Value.ref 81] (mj_hw w c hi hl) = if 0 ≤ s3 ∧ 0 ≤ s1 ∧ 0 ≤ s0 ∧ (s3).toNatClampNeg + (s0).toNatClampNeg ≤ 16 ∧ (s1).toNatClampNeg + (s0).toNatClampNeg ≤ 16 then some (none, (mj_hw w c (mj_ur hi 36 (fun k => if (s1).toNatClampNeg ≤ k ∧ k < (s1).toNatClampNeg + (s0).toNatClampNeg then hi 81 ((s3).toNatClampNeg + (k - (s1).toNatClampNeg)) else hi 36 k)) hl)) else none := by
  rw [mj_den_eq, f149_11]
  exact zt_copy (mjkd81 _ _ _ _) (mjkd36 _ _ _ _) (Nat.le_of_ble_eq_true rfl) (mjln81 _ _ _ _) (mjln36 _ _ _ _) rfl rfl (zt_return)
set_option maxRecDepth 100000 in
theorem q149_11_73 (E : mj_E) (d w c : Nat) (hi : Nat → Nat → Int32) (hl : Nat → Nat → Int64) (s0 : Int32) (s1 : Int32) (s3 : Int32) : mj_den mj_P E d 149 11 [Value.ref 82, Value.ref 37] [Value.int s0, Value.int s1, Value.ref 37, Value.int s3, Value.ref 82] (mj_hw w c hi hl) = if 0 ≤ s3 ∧ 0 ≤ s1 ∧ 0 ≤ s0 ∧ (s3).toNatClampNeg + (s0).toNatClampNeg ≤ 6 ∧ (s1).toNatClampNeg + (s0).toNatClampNeg ≤ 6 then some (none, (mj_hw w c (mj_ur hi 37 (fun k => if (s1).toNatClampNeg ≤ k ∧ k < (s1).toNatClampNeg + (s0).toNatClampNeg then hi 82 ((s3).toNatClampNeg + (k - (s1).toNatClampNeg)) else hi 37 k)) hl)) else none := by
  rw [mj_den_eq, f149_11]
  exact zt_copy (mjkd82 _ _ _ _) (mjkd37 _ _ _ _) (Nat.le_of_ble_eq_true rfl) (mjln82 _ _ _ _) (mjln37 _ _ _ _) rfl rfl (zt_return)
set_option maxRecDepth 100000 in
theorem q149_11_74 (E : mj_E) (d w c : Nat) (hi : Nat → Nat → Int32) (hl : Nat → Nat → Int64) (s0 : Int32) (s1 : Int32) (s3 : Int32) : mj_den mj_P E d 149 11 [Value.ref 83, Value.ref 38] [Value.int s0, Value.int s1, Value.ref 38, Value.int s3, Value.ref 83] (mj_hw w c hi hl) = if 0 ≤ s3 ∧ 0 ≤ s1 ∧ 0 ≤ s0 ∧ (s3).toNatClampNeg + (s0).toNatClampNeg ≤ 8 ∧ (s1).toNatClampNeg + (s0).toNatClampNeg ≤ 8 then some (none, (mj_hw w c (mj_ur hi 38 (fun k => if (s1).toNatClampNeg ≤ k ∧ k < (s1).toNatClampNeg + (s0).toNatClampNeg then hi 83 ((s3).toNatClampNeg + (k - (s1).toNatClampNeg)) else hi 38 k)) hl)) else none := by
  rw [mj_den_eq, f149_11]
  exact zt_copy (mjkd83 _ _ _ _) (mjkd38 _ _ _ _) (Nat.le_of_ble_eq_true rfl) (mjln83 _ _ _ _) (mjln38 _ _ _ _) rfl rfl (zt_return)
set_option maxRecDepth 100000 in
theorem q149_11_75 (E : mj_E) (d w c : Nat) (hi : Nat → Nat → Int32) (hl : Nat → Nat → Int64) (s0 : Int32) (s1 : Int32) (s3 : Int32) : mj_den mj_P E d 149 11 [Value.ref 84, Value.ref 39] [Value.int s0, Value.int s1, Value.ref 39, Value.int s3, Value.ref 84] (mj_hw w c hi hl) = if 0 ≤ s3 ∧ 0 ≤ s1 ∧ 0 ≤ s0 ∧ (s3).toNatClampNeg + (s0).toNatClampNeg ≤ 7 ∧ (s1).toNatClampNeg + (s0).toNatClampNeg ≤ 7 then some (none, (mj_hw w c (mj_ur hi 39 (fun k => if (s1).toNatClampNeg ≤ k ∧ k < (s1).toNatClampNeg + (s0).toNatClampNeg then hi 84 ((s3).toNatClampNeg + (k - (s1).toNatClampNeg)) else hi 39 k)) hl)) else none := by
  rw [mj_den_eq, f149_11]
  exact zt_copy (mjkd84 _ _ _ _) (mjkd39 _ _ _ _) (Nat.le_of_ble_eq_true rfl) (mjln84 _ _ _ _) (mjln39 _ _ _ _) rfl rfl (zt_return)
set_option maxRecDepth 100000 in
theorem q149_11_76 (E : mj_E) (d w c : Nat) (hi : Nat → Nat → Int32) (hl : Nat → Nat → Int64) (s0 : Int32) (s1 : Int32) (s3 : Int32) : mj_den mj_P E d 149 11 [Value.ref 85, Value.ref 40] [Value.int s0, Value.int s1, Value.ref 40, Value.int s3, Value.ref 85] (mj_hw w c hi hl) = if 0 ≤ s3 ∧ 0 ≤ s1 ∧ 0 ≤ s0 ∧ (s3).toNatClampNeg + (s0).toNatClampNeg ≤ 7 ∧ (s1).toNatClampNeg + (s0).toNatClampNeg ≤ 7 then some (none, (mj_hw w c (mj_ur hi 40 (fun k => if (s1).toNatClampNeg ≤ k ∧ k < (s1).toNatClampNeg + (s0).toNatClampNeg then hi 85 ((s3).toNatClampNeg + (k - (s1).toNatClampNeg)) else hi 40 k)) hl)) else none := by
  rw [mj_den_eq, f149_11]
  exact zt_copy (mjkd85 _ _ _ _) (mjkd40 _ _ _ _) (Nat.le_of_ble_eq_true rfl) (mjln85 _ _ _ _) (mjln40 _ _ _ _) rfl rfl (zt_return)
set_option maxRecDepth 100000 in
theorem q149_11_77 (E : mj_E) (d w c : Nat) (hi : Nat → Nat → Int32) (hl : Nat → Nat → Int64) (s0 : Int32) (s1 : Int32) (s3 : Int32) : mj_den mj_P E d 149 11 [Value.ref 86, Value.ref 41] [Value.int s0, Value.int s1, Value.ref 41, Value.int s3, Value.ref 86] (mj_hw w c hi hl) = if 0 ≤ s3 ∧ 0 ≤ s1 ∧ 0 ≤ s0 ∧ (s3).toNatClampNeg + (s0).toNatClampNeg ≤ 12 ∧ (s1).toNatClampNeg + (s0).toNatClampNeg ≤ 12 then some (none, (mj_hw w c (mj_ur hi 41 (fun k => if (s1).toNatClampNeg ≤ k ∧ k < (s1).toNatClampNeg + (s0).toNatClampNeg then hi 86 ((s3).toNatClampNeg + (k - (s1).toNatClampNeg)) else hi 41 k)) hl)) else none := by
  rw [mj_den_eq, f149_11]
  exact zt_copy (mjkd86 _ _ _ _) (mjkd41 _ _ _ _) (Nat.le_of_ble_eq_true rfl) (mjln86 _ _ _ _) (mjln41 _ _ _ _) rfl rfl (zt_return)
set_option maxRecDepth 100000 in
theorem q149_11_78 (E : mj_E) (d w c : Nat) (hi : Nat → Nat → Int32) (hl : Nat → Nat → Int64) (s0 : Int32) (s1 : Int32) (s3 : Int32) : mj_den mj_P E d 149 11 [Value.ref 87, Value.ref 42] [Value.int s0, Value.int s1, Value.ref 42, Value.int s3, Value.ref 87] (mj_hw w c hi hl) = if 0 ≤ s3 ∧ 0 ≤ s1 ∧ 0 ≤ s0 ∧ (s3).toNatClampNeg + (s0).toNatClampNeg ≤ 150 ∧ (s1).toNatClampNeg + (s0).toNatClampNeg ≤ 150 then some (none, (mj_hw w c (mj_ur hi 42 (fun k => if (s1).toNatClampNeg ≤ k ∧ k < (s1).toNatClampNeg + (s0).toNatClampNeg then hi 87 ((s3).toNatClampNeg + (k - (s1).toNatClampNeg)) else hi 42 k)) hl)) else none := by
  rw [mj_den_eq, f149_11]
  exact zt_copy (mjkd87 _ _ _ _) (mjkd42 _ _ _ _) (Nat.le_of_ble_eq_true rfl) (mjln87 _ _ _ _) (mjln42 _ _ _ _) rfl rfl (zt_return)
set_option maxRecDepth 100000 in
theorem q149_11_79 (E : mj_E) (d w c : Nat) (hi : Nat → Nat → Int32) (hl : Nat → Nat → Int64) (s0 : Int32) (s1 : Int32) (s3 : Int32) : mj_den mj_P E d 149 11 [Value.ref 88, Value.ref 43] [Value.int s0, Value.int s1, Value.ref 43, Value.int s3, Value.ref 88] (mj_hw w c hi hl) = if 0 ≤ s3 ∧ 0 ≤ s1 ∧ 0 ≤ s0 ∧ (s3).toNatClampNeg + (s0).toNatClampNeg ≤ 150 ∧ (s1).toNatClampNeg + (s0).toNatClampNeg ≤ 150 then some (none, (mj_hw w c (mj_ur hi 43 (fun k => if (s1).toNatClampNeg ≤ k ∧ k < (s1).toNatClampNeg + (s0).toNatClampNeg then hi 88 ((s3).toNatClampNeg + (k - (s1).toNatClampNeg)) else hi 43 k)) hl)) else none := by
  rw [mj_den_eq, f149_11]
  exact zt_copy (mjkd88 _ _ _ _) (mjkd43 _ _ _ _) (Nat.le_of_ble_eq_true rfl) (mjln88 _ _ _ _) (mjln43 _ _ _ _) rfl rfl (zt_return)
set_option maxRecDepth 100000 in
theorem q149_11_8 (E : mj_E) (d w c : Nat) (hi : Nat → Nat → Int32) (hl : Nat → Nat → Int64) (s0 : Int32) (s1 : Int32) (s3 : Int32) : mj_den mj_P E d 149 11 [Value.ref 11, Value.ref 186] [Value.int s0, Value.int s1, Value.ref 186, Value.int s3, Value.ref 11] (mj_hw w c hi hl) = if 0 ≤ s3 ∧ 0 ≤ s1 ∧ 0 ≤ s0 ∧ (s3).toNatClampNeg + (s0).toNatClampNeg ≤ 12 ∧ (s1).toNatClampNeg + (s0).toNatClampNeg ≤ 12 then some (none, (mj_hw w c (mj_ur hi 186 (fun k => if (s1).toNatClampNeg ≤ k ∧ k < (s1).toNatClampNeg + (s0).toNatClampNeg then hi 11 ((s3).toNatClampNeg + (k - (s1).toNatClampNeg)) else hi 186 k)) hl)) else none := by
  rw [mj_den_eq, f149_11]
  exact zt_copy (mjkd11 _ _ _ _) (mjkd186 _ _ _ _) (Nat.le_of_ble_eq_true rfl) (mjln11 _ _ _ _) (mjln186 _ _ _ _) rfl rfl (zt_return)
set_option maxRecDepth 100000 in
theorem q149_11_80 (E : mj_E) (d w c : Nat) (hi : Nat → Nat → Int32) (hl : Nat → Nat → Int64) (s0 : Int32) (s1 : Int32) (s3 : Int32) : mj_den mj_P E d 149 11 [Value.ref 89, Value.ref 44] [Value.int s0, Value.int s1, Value.ref 44, Value.int s3, Value.ref 89] (mj_hw w c hi hl) = if 0 ≤ s3 ∧ 0 ≤ s1 ∧ 0 ≤ s0 ∧ (s3).toNatClampNeg + (s0).toNatClampNeg ≤ 150 ∧ (s1).toNatClampNeg + (s0).toNatClampNeg ≤ 150 then some (none, (mj_hw w c (mj_ur hi 44 (fun k => if (s1).toNatClampNeg ≤ k ∧ k < (s1).toNatClampNeg + (s0).toNatClampNeg then hi 89 ((s3).toNatClampNeg + (k - (s1).toNatClampNeg)) else hi 44 k)) hl)) else none := by
  rw [mj_den_eq, f149_11]
  exact zt_copy (mjkd89 _ _ _ _) (mjkd44 _ _ _ _) (Nat.le_of_ble_eq_true rfl) (mjln89 _ _ _ _) (mjln44 _ _ _ _) rfl rfl (zt_return)
set_option maxRecDepth 100000 in
theorem q149_11_81 (E : mj_E) (d w c : Nat) (hi : Nat → Nat → Int32) (hl : Nat → Nat → Int64) (s0 : Int32) (s1 : Int32) (s3 : Int32) : mj_den mj_P E d 149 11 [Value.ref 90, Value.ref 45] [Value.int s0, Value.int s1, Value.ref 45, Value.int s3, Value.ref 90] (mj_hw w c hi hl) = if 0 ≤ s3 ∧ 0 ≤ s1 ∧ 0 ≤ s0 ∧ (s3).toNatClampNeg + (s0).toNatClampNeg ≤ 150 ∧ (s1).toNatClampNeg + (s0).toNatClampNeg ≤ 150 then some (none, (mj_hw w c (mj_ur hi 45 (fun k => if (s1).toNatClampNeg ≤ k ∧ k < (s1).toNatClampNeg + (s0).toNatClampNeg then hi 90 ((s3).toNatClampNeg + (k - (s1).toNatClampNeg)) else hi 45 k)) hl)) else none := by
  rw [mj_den_eq, f149_11]
  exact zt_copy (mjkd90 _ _ _ _) (mjkd45 _ _ _ _) (Nat.le_of_ble_eq_true rfl) (mjln90 _ _ _ _) (mjln45 _ _ _ _) rfl rfl (zt_return)
set_option maxRecDepth 100000 in
theorem q149_11_82 (E : mj_E) (d w c : Nat) (hi : Nat → Nat → Int32) (hl : Nat → Nat → Int64) (s0 : Int32) (s1 : Int32) (s3 : Int32) : mj_den mj_P E d 149 11 [Value.ref 161, Value.ref 14] [Value.int s0, Value.int s1, Value.ref 14, Value.int s3, Value.ref 161] (mj_hw w c hi hl) = if 0 ≤ s3 ∧ 0 ≤ s1 ∧ 0 ≤ s0 ∧ (s3).toNatClampNeg + (s0).toNatClampNeg ≤ 16 ∧ (s1).toNatClampNeg + (s0).toNatClampNeg ≤ 16 then some (none, (mj_hw w c (mj_ur hi 14 (fun k => if (s1).toNatClampNeg ≤ k ∧ k < (s1).toNatClampNeg + (s0).toNatClampNeg then hi 161 ((s3).toNatClampNeg + (k - (s1).toNatClampNeg)) else hi 14 k)) hl)) else none := by
  rw [mj_den_eq, f149_11]
  exact zt_copy (mjkd161 _ _ _ _) (mjkd14 _ _ _ _) (Nat.le_of_ble_eq_true rfl) (mjln161 _ _ _ _) (mjln14 _ _ _ _) rfl rfl (zt_return)
set_option maxRecDepth 100000 in
theorem q149_11_83 (E : mj_E) (d w c : Nat) (hi : Nat → Nat → Int32) (hl : Nat → Nat → Int64) (s0 : Int32) (s1 : Int32) (s3 : Int32) : mj_den mj_P E d 149 11 [Value.ref 162, Value.ref 15] [Value.int s0, Value.int s1, Value.ref 15, Value.int s3, Value.ref 162] (mj_hw w c hi hl) = if 0 ≤ s3 ∧ 0 ≤ s1 ∧ 0 ≤ s0 ∧ (s3).toNatClampNeg + (s0).toNatClampNeg ≤ 16 ∧ (s1).toNatClampNeg + (s0).toNatClampNeg ≤ 16 then some (none, (mj_hw w c (mj_ur hi 15 (fun k => if (s1).toNatClampNeg ≤ k ∧ k < (s1).toNatClampNeg + (s0).toNatClampNeg then hi 162 ((s3).toNatClampNeg + (k - (s1).toNatClampNeg)) else hi 15 k)) hl)) else none := by
  rw [mj_den_eq, f149_11]
  exact zt_copy (mjkd162 _ _ _ _) (mjkd15 _ _ _ _) (Nat.le_of_ble_eq_true rfl) (mjln162 _ _ _ _) (mjln15 _ _ _ _) rfl rfl (zt_return)
set_option maxRecDepth 100000 in
theorem q149_11_84 (E : mj_E) (d w c : Nat) (hi : Nat → Nat → Int32) (hl : Nat → Nat → Int64) (s0 : Int32) (s1 : Int32) (s3 : Int32) : mj_den mj_P E d 149 11 [Value.ref 163, Value.ref 16] [Value.int s0, Value.int s1, Value.ref 16, Value.int s3, Value.ref 163] (mj_hw w c hi hl) = if 0 ≤ s3 ∧ 0 ≤ s1 ∧ 0 ≤ s0 ∧ (s3).toNatClampNeg + (s0).toNatClampNeg ≤ 16 ∧ (s1).toNatClampNeg + (s0).toNatClampNeg ≤ 16 then some (none, (mj_hw w c (mj_ur hi 16 (fun k => if (s1).toNatClampNeg ≤ k ∧ k < (s1).toNatClampNeg + (s0).toNatClampNeg then hi 163 ((s3).toNatClampNeg + (k - (s1).toNatClampNeg)) else hi 16 k)) hl)) else none := by
  rw [mj_den_eq, f149_11]
  exact zt_copy (mjkd163 _ _ _ _) (mjkd16 _ _ _ _) (Nat.le_of_ble_eq_true rfl) (mjln163 _ _ _ _) (mjln16 _ _ _ _) rfl rfl (zt_return)
set_option maxRecDepth 100000 in
theorem q149_11_85 (E : mj_E) (d w c : Nat) (hi : Nat → Nat → Int32) (hl : Nat → Nat → Int64) (s0 : Int32) (s1 : Int32) (s3 : Int32) : mj_den mj_P E d 149 11 [Value.ref 164, Value.ref 17] [Value.int s0, Value.int s1, Value.ref 17, Value.int s3, Value.ref 164] (mj_hw w c hi hl) = if 0 ≤ s3 ∧ 0 ≤ s1 ∧ 0 ≤ s0 ∧ (s3).toNatClampNeg + (s0).toNatClampNeg ≤ 16 ∧ (s1).toNatClampNeg + (s0).toNatClampNeg ≤ 16 then some (none, (mj_hw w c (mj_ur hi 17 (fun k => if (s1).toNatClampNeg ≤ k ∧ k < (s1).toNatClampNeg + (s0).toNatClampNeg then hi 164 ((s3).toNatClampNeg + (k - (s1).toNatClampNeg)) else hi 17 k)) hl)) else none := by
  rw [mj_den_eq, f149_11]
  exact zt_copy (mjkd164 _ _ _ _) (mjkd17 _ _ _ _) (Nat.le_of_ble_eq_true rfl) (mjln164 _ _ _ _) (mjln17 _ _ _ _) rfl rfl (zt_return)
set_option maxRecDepth 100000 in
theorem q149_11_86 (E : mj_E) (d w c : Nat) (hi : Nat → Nat → Int32) (hl : Nat → Nat → Int64) (s0 : Int32) (s1 : Int32) (s3 : Int32) : mj_den mj_P E d 149 11 [Value.ref 165, Value.ref 18] [Value.int s0, Value.int s1, Value.ref 18, Value.int s3, Value.ref 165] (mj_hw w c hi hl) = if 0 ≤ s3 ∧ 0 ≤ s1 ∧ 0 ≤ s0 ∧ (s3).toNatClampNeg + (s0).toNatClampNeg ≤ 400 ∧ (s1).toNatClampNeg + (s0).toNatClampNeg ≤ 400 then some (none, (mj_hw w c (mj_ur hi 18 (fun k => if (s1).toNatClampNeg ≤ k ∧ k < (s1).toNatClampNeg + (s0).toNatClampNeg then hi 165 ((s3).toNatClampNeg + (k - (s1).toNatClampNeg)) else hi 18 k)) hl)) else none := by
  rw [mj_den_eq, f149_11]
  exact zt_copy (mjkd165 _ _ _ _) (mjkd18 _ _ _ _) (Nat.le_of_ble_eq_true rfl) (mjln165 _ _ _ _) (mjln18 _ _ _ _) rfl rfl (zt_return)
set_option maxRecDepth 100000 in
theorem q149_11_87 (E : mj_E) (d w c : Nat) (hi : Nat → Nat → Int32) (hl : Nat → Nat → Int64) (s0 : Int32) (s1 : Int32) (s3 : Int32) : mj_den mj_P E d 149 11 [Value.ref 166, Value.ref 19] [Value.int s0, Value.int s1, Value.ref 19, Value.int s3, Value.ref 166] (mj_hw w c hi hl) = if 0 ≤ s3 ∧ 0 ≤ s1 ∧ 0 ≤ s0 ∧ (s3).toNatClampNeg + (s0).toNatClampNeg ≤ 400 ∧ (s1).toNatClampNeg + (s0).toNatClampNeg ≤ 400 then some (none, (mj_hw w c (mj_ur hi 19 (fun k => if (s1).toNatClampNeg ≤ k ∧ k < (s1).toNatClampNeg + (s0).toNatClampNeg then hi 166 ((s3).toNatClampNeg + (k - (s1).toNatClampNeg)) else hi 19 k)) hl)) else none := by
  rw [mj_den_eq, f149_11]
  exact zt_copy (mjkd166 _ _ _ _) (mjkd19 _ _ _ _) (Nat.le_of_ble_eq_true rfl) (mjln166 _ _ _ _) (mjln19 _ _ _ _) rfl rfl (zt_return)
set_option maxRecDepth 100000 in
theorem q149_11_88 (E : mj_E) (d w c : Nat) (hi : Nat → Nat → Int32) (hl : Nat → Nat → Int64) (s0 : Int32) (s1 : Int32) (s3 : Int32) : mj_den mj_P E d 149 11 [Value.ref 170, Value.ref 31] [Value.int s0, Value.int s1, Value.ref 31, Value.int s3, Value.ref 170] (mj_hw w c hi hl) = if 0 ≤ s3 ∧ 0 ≤ s1 ∧ 0 ≤ s0 ∧ (s3).toNatClampNeg + (s0).toNatClampNeg ≤ 16 ∧ (s1).toNatClampNeg + (s0).toNatClampNeg ≤ 16 then some (none, (mj_hw w c (mj_ur hi 31 (fun k => if (s1).toNatClampNeg ≤ k ∧ k < (s1).toNatClampNeg + (s0).toNatClampNeg then hi 170 ((s3).toNatClampNeg + (k - (s1).toNatClampNeg)) else hi 31 k)) hl)) else none := by
  rw [mj_den_eq, f149_11]
  exact zt_copy (mjkd170 _ _ _ _) (mjkd31 _ _ _ _) (Nat.le_of_ble_eq_true rfl) (mjln170 _ _ _ _) (mjln31 _ _ _ _) rfl rfl (zt_return)
set_option maxRecDepth 100000 in
theorem q149_11_89 (E : mj_E) (d w c : Nat) (hi : Nat → Nat → Int32) (hl : Nat → Nat → Int64) (s0 : Int32) (s1 : Int32) (s3 : Int32) : mj_den mj_P E d 149 11 [Value.ref 171, Value.ref 32] [Value.int s0, Value.int s1, Value.ref 32, Value.int s3, Value.ref 171] (mj_hw w c hi hl) = if 0 ≤ s3 ∧ 0 ≤ s1 ∧ 0 ≤ s0 ∧ (s3).toNatClampNeg + (s0).toNatClampNeg ≤ 16 ∧ (s1).toNatClampNeg + (s0).toNatClampNeg ≤ 16 then some (none, (mj_hw w c (mj_ur hi 32 (fun k => if (s1).toNatClampNeg ≤ k ∧ k < (s1).toNatClampNeg + (s0).toNatClampNeg then hi 171 ((s3).toNatClampNeg + (k - (s1).toNatClampNeg)) else hi 32 k)) hl)) else none := by
  rw [mj_den_eq, f149_11]
  exact zt_copy (mjkd171 _ _ _ _) (mjkd32 _ _ _ _) (Nat.le_of_ble_eq_true rfl) (mjln171 _ _ _ _) (mjln32 _ _ _ _) rfl rfl (zt_return)
set_option maxRecDepth 100000 in
theorem q149_11_9 (E : mj_E) (d w c : Nat) (hi : Nat → Nat → Int32) (hl : Nat → Nat → Int64) (s0 : Int32) (s1 : Int32) (s3 : Int32) : mj_den mj_P E d 149 11 [Value.ref 12, Value.ref 187] [Value.int s0, Value.int s1, Value.ref 187, Value.int s3, Value.ref 12] (mj_hw w c hi hl) = if 0 ≤ s3 ∧ 0 ≤ s1 ∧ 0 ≤ s0 ∧ (s3).toNatClampNeg + (s0).toNatClampNeg ≤ 12 ∧ (s1).toNatClampNeg + (s0).toNatClampNeg ≤ 12 then some (none, (mj_hw w c (mj_ur hi 187 (fun k => if (s1).toNatClampNeg ≤ k ∧ k < (s1).toNatClampNeg + (s0).toNatClampNeg then hi 12 ((s3).toNatClampNeg + (k - (s1).toNatClampNeg)) else hi 187 k)) hl)) else none := by
  rw [mj_den_eq, f149_11]
  exact zt_copy (mjkd12 _ _ _ _) (mjkd187 _ _ _ _) (Nat.le_of_ble_eq_true rfl) (mjln12 _ _ _ _) (mjln187 _ _ _ _) rfl rfl (zt_return)
set_option maxRecDepth 100000 in
theorem q149_11_90 (E : mj_E) (d w c : Nat) (hi : Nat → Nat → Int32) (hl : Nat → Nat → Int64) (s0 : Int32) (s1 : Int32) (s3 : Int32) : mj_den mj_P E d 149 11 [Value.ref 172, Value.ref 33] [Value.int s0, Value.int s1, Value.ref 33, Value.int s3, Value.ref 172] (mj_hw w c hi hl) = if 0 ≤ s3 ∧ 0 ≤ s1 ∧ 0 ≤ s0 ∧ (s3).toNatClampNeg + (s0).toNatClampNeg ≤ 16 ∧ (s1).toNatClampNeg + (s0).toNatClampNeg ≤ 16 then some (none, (mj_hw w c (mj_ur hi 33 (fun k => if (s1).toNatClampNeg ≤ k ∧ k < (s1).toNatClampNeg + (s0).toNatClampNeg then hi 172 ((s3).toNatClampNeg + (k - (s1).toNatClampNeg)) else hi 33 k)) hl)) else none := by
  rw [mj_den_eq, f149_11]
  exact zt_copy (mjkd172 _ _ _ _) (mjkd33 _ _ _ _) (Nat.le_of_ble_eq_true rfl) (mjln172 _ _ _ _) (mjln33 _ _ _ _) rfl rfl (zt_return)
set_option maxRecDepth 100000 in
theorem q149_11_91 (E : mj_E) (d w c : Nat) (hi : Nat → Nat → Int32) (hl : Nat → Nat → Int64) (s0 : Int32) (s1 : Int32) (s3 : Int32) : mj_den mj_P E d 149 11 [Value.ref 170, Value.ref 27] [Value.int s0, Value.int s1, Value.ref 27, Value.int s3, Value.ref 170] (mj_hw w c hi hl) = if 0 ≤ s3 ∧ 0 ≤ s1 ∧ 0 ≤ s0 ∧ (s3).toNatClampNeg + (s0).toNatClampNeg ≤ 16 ∧ (s1).toNatClampNeg + (s0).toNatClampNeg ≤ 16 then some (none, (mj_hw w c (mj_ur hi 27 (fun k => if (s1).toNatClampNeg ≤ k ∧ k < (s1).toNatClampNeg + (s0).toNatClampNeg then hi 170 ((s3).toNatClampNeg + (k - (s1).toNatClampNeg)) else hi 27 k)) hl)) else none := by
  rw [mj_den_eq, f149_11]
  exact zt_copy (mjkd170 _ _ _ _) (mjkd27 _ _ _ _) (Nat.le_of_ble_eq_true rfl) (mjln170 _ _ _ _) (mjln27 _ _ _ _) rfl rfl (zt_return)
set_option maxRecDepth 100000 in
theorem q149_11_92 (E : mj_E) (d w c : Nat) (hi : Nat → Nat → Int32) (hl : Nat → Nat → Int64) (s0 : Int32) (s1 : Int32) (s3 : Int32) : mj_den mj_P E d 149 11 [Value.ref 171, Value.ref 28] [Value.int s0, Value.int s1, Value.ref 28, Value.int s3, Value.ref 171] (mj_hw w c hi hl) = if 0 ≤ s3 ∧ 0 ≤ s1 ∧ 0 ≤ s0 ∧ (s3).toNatClampNeg + (s0).toNatClampNeg ≤ 16 ∧ (s1).toNatClampNeg + (s0).toNatClampNeg ≤ 16 then some (none, (mj_hw w c (mj_ur hi 28 (fun k => if (s1).toNatClampNeg ≤ k ∧ k < (s1).toNatClampNeg + (s0).toNatClampNeg then hi 171 ((s3).toNatClampNeg + (k - (s1).toNatClampNeg)) else hi 28 k)) hl)) else none := by
  rw [mj_den_eq, f149_11]
  exact zt_copy (mjkd171 _ _ _ _) (mjkd28 _ _ _ _) (Nat.le_of_ble_eq_true rfl) (mjln171 _ _ _ _) (mjln28 _ _ _ _) rfl rfl (zt_return)
set_option maxRecDepth 100000 in
theorem q149_11_93 (E : mj_E) (d w c : Nat) (hi : Nat → Nat → Int32) (hl : Nat → Nat → Int64) (s0 : Int32) (s1 : Int32) (s3 : Int32) : mj_den mj_P E d 149 11 [Value.ref 172, Value.ref 29] [Value.int s0, Value.int s1, Value.ref 29, Value.int s3, Value.ref 172] (mj_hw w c hi hl) = if 0 ≤ s3 ∧ 0 ≤ s1 ∧ 0 ≤ s0 ∧ (s3).toNatClampNeg + (s0).toNatClampNeg ≤ 16 ∧ (s1).toNatClampNeg + (s0).toNatClampNeg ≤ 16 then some (none, (mj_hw w c (mj_ur hi 29 (fun k => if (s1).toNatClampNeg ≤ k ∧ k < (s1).toNatClampNeg + (s0).toNatClampNeg then hi 172 ((s3).toNatClampNeg + (k - (s1).toNatClampNeg)) else hi 29 k)) hl)) else none := by
  rw [mj_den_eq, f149_11]
  exact zt_copy (mjkd172 _ _ _ _) (mjkd29 _ _ _ _) (Nat.le_of_ble_eq_true rfl) (mjln172 _ _ _ _) (mjln29 _ _ _ _) rfl rfl (zt_return)
set_option maxRecDepth 100000 in
theorem q149_11_94 (E : mj_E) (d w c : Nat) (hi : Nat → Nat → Int32) (hl : Nat → Nat → Int64) (s0 : Int32) (s1 : Int32) (s3 : Int32) : mj_den mj_P E d 149 11 [Value.ref 170, Value.ref 23] [Value.int s0, Value.int s1, Value.ref 23, Value.int s3, Value.ref 170] (mj_hw w c hi hl) = if 0 ≤ s3 ∧ 0 ≤ s1 ∧ 0 ≤ s0 ∧ (s3).toNatClampNeg + (s0).toNatClampNeg ≤ 16 ∧ (s1).toNatClampNeg + (s0).toNatClampNeg ≤ 16 then some (none, (mj_hw w c (mj_ur hi 23 (fun k => if (s1).toNatClampNeg ≤ k ∧ k < (s1).toNatClampNeg + (s0).toNatClampNeg then hi 170 ((s3).toNatClampNeg + (k - (s1).toNatClampNeg)) else hi 23 k)) hl)) else none := by
  rw [mj_den_eq, f149_11]
  exact zt_copy (mjkd170 _ _ _ _) (mjkd23 _ _ _ _) (Nat.le_of_ble_eq_true rfl) (mjln170 _ _ _ _) (mjln23 _ _ _ _) rfl rfl (zt_return)
set_option maxRecDepth 100000 in
theorem q149_11_95 (E : mj_E) (d w c : Nat) (hi : Nat → Nat → Int32) (hl : Nat → Nat → Int64) (s0 : Int32) (s1 : Int32) (s3 : Int32) : mj_den mj_P E d 149 11 [Value.ref 171, Value.ref 24] [Value.int s0, Value.int s1, Value.ref 24, Value.int s3, Value.ref 171] (mj_hw w c hi hl) = if 0 ≤ s3 ∧ 0 ≤ s1 ∧ 0 ≤ s0 ∧ (s3).toNatClampNeg + (s0).toNatClampNeg ≤ 16 ∧ (s1).toNatClampNeg + (s0).toNatClampNeg ≤ 16 then some (none, (mj_hw w c (mj_ur hi 24 (fun k => if (s1).toNatClampNeg ≤ k ∧ k < (s1).toNatClampNeg + (s0).toNatClampNeg then hi 171 ((s3).toNatClampNeg + (k - (s1).toNatClampNeg)) else hi 24 k)) hl)) else none := by
  rw [mj_den_eq, f149_11]
  exact zt_copy (mjkd171 _ _ _ _) (mjkd24 _ _ _ _) (Nat.le_of_ble_eq_true rfl) (mjln171 _ _ _ _) (mjln24 _ _ _ _) rfl rfl (zt_return)
set_option maxRecDepth 100000 in
theorem q149_11_96 (E : mj_E) (d w c : Nat) (hi : Nat → Nat → Int32) (hl : Nat → Nat → Int64) (s0 : Int32) (s1 : Int32) (s3 : Int32) : mj_den mj_P E d 149 11 [Value.ref 172, Value.ref 25] [Value.int s0, Value.int s1, Value.ref 25, Value.int s3, Value.ref 172] (mj_hw w c hi hl) = if 0 ≤ s3 ∧ 0 ≤ s1 ∧ 0 ≤ s0 ∧ (s3).toNatClampNeg + (s0).toNatClampNeg ≤ 16 ∧ (s1).toNatClampNeg + (s0).toNatClampNeg ≤ 16 then some (none, (mj_hw w c (mj_ur hi 25 (fun k => if (s1).toNatClampNeg ≤ k ∧ k < (s1).toNatClampNeg + (s0).toNatClampNeg then hi 172 ((s3).toNatClampNeg + (k - (s1).toNatClampNeg)) else hi 25 k)) hl)) else none := by
  rw [mj_den_eq, f149_11]
  exact zt_copy (mjkd172 _ _ _ _) (mjkd25 _ _ _ _) (Nat.le_of_ble_eq_true rfl) (mjln172 _ _ _ _) (mjln25 _ _ _ _) rfl rfl (zt_return)
