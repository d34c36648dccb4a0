set_option maxRecDepth 100000 in
theorem f27_0 : mj_find (mj_P 27).2.2.2.2 0 = [(.iload_n 1, 1, 0, []), (.ifCond .ne 8, 3, 0, [9]), (.aload_n 0, 1, 0, []), (.getfield 15, 3, 0, [4, 1, 0, 596]), (.ireturn, 1, 0, [0])] := rfl
set_option maxRecDepth 100000 in
theorem q27_0 (E : mj_E) (d w c : Nat) (hi : Nat → Nat → Int32) (hl : Nat → Nat → Int64) (v1 : Int32) : mj_den mj_P E d 27 0 [Value.ref 194, Value.int v1] [] (mj_hw w c hi hl) = if ¬ v1 = 0 then mj_den mj_P E d 27 9 [Value.ref 194, Value.int v1] [] (mj_hw w c hi hl) else some (some (Value.int (hi 194 1)), (mj_hw w c hi hl)) := by
  rw [mj_den_eq, f27_0]
  exact zt_iload_n rfl rfl (zt_if_ne rfl rfl (zt_aload_n rfl rfl (zt_geti (mjkd194 _ _ _ _) rfl rfl (zt_ireturn0))))
set_option maxRecDepth 100000 in
theorem f27_9 : mj_find (mj_P 27).2.2.2.2 9 = [(.iload_n 1, 1, 0, []), (.bipush 10, 2, 10, []), (.if_icmp .lt 35, 3, 0, [47]), (.iload_n 1, 1, 0, []), (.bipush 10, 2, 10, []), (.isub, 1, 0, []), (.aload_n 0, 1, 0, []), (.getfield 9, 3, 0, [4, 0, 0, 595]), (.if_icmp .ge 24, 3, 0, [47]), (.iload_n 1, 1, 0, []), (.bipush 10, 2, 10, []), (.isub, 1, 0, []), (.bipush 10, 2, 10, []), (.if_icmp .ge 15, 3, 0, [47]), (.aload_n 0, 1, 0, []), (.getfield 18, 3, 0, [4, 2, 3, 597]), (.iload_n 1, 1, 0, []), (.bipush 10, 2, 10, []), (.isub, 1, 0, []), (.iaload, 1, 0, []), (.goto 4, 3, 0, [48])] := rfl
set_option maxRecDepth 100000 in
theorem q27_9 (E : mj_E) (d w c : Nat) (hi : Nat → Nat → Int32) (hl : Nat → Nat → Int64) (v1 : Int32) : mj_den mj_P E d 27 9 [Value.ref 194, Value.int v1] [] (mj_hw w c hi hl) = if v1 < (10 : Int32) then mj_den mj_P E d 27 47 [Value.ref 194, Value.int v1] [] (mj_hw w c hi hl) else if (hi 194 0) ≤ (v1 - (10 : Int32)) then mj_den mj_P E d 27 47 [Value.ref 194, Value.int v1] [] (mj_hw w c hi hl) else if (10 : Int32) ≤ (v1 - (10 : Int32)) then mj_den mj_P E d 27 47 [Value.ref 194, Value.int v1] [] (mj_hw w c hi hl) else if 0 ≤ (v1 - (10 : Int32)) ∧ ((v1 - (10 : Int32))).toNatClampNeg < 10 then mj_den mj_P E d 27 48 [Value.ref 194, Value.int v1] [Value.int (hi 195 (((v1 - (10 : Int32))).toNatClampNeg))] (mj_hw w c hi hl) else none := by
  rw [mj_den_eq, f27_9]
  exact zt_iload_n rfl rfl (zt_bipush rfl (zt_icmp_lt rfl rfl (zt_iload_n rfl rfl (zt_bipush rfl (zt_isub rfl (zt_aload_n rfl rfl (zt_geti (mjkd194 _ _ _ _) rfl rfl (zt_icmp_ge rfl rfl (zt_iload_n rfl rfl (zt_bipush rfl (zt_isub rfl (zt_bipush rfl (zt_icmp_ge rfl rfl (zt_aload_n rfl rfl (zt_getr (mjkd194 _ _ _ _) (mjhr194_2 w c) rfl (zt_iload_n rfl rfl (zt_bipush rfl (zt_isub rfl (zt_iald (mjkd195 _ _ _ _) (mjln195 _ _ _ _) rfl rfl (zt_goto rfl))))))))))))))))))))
set_option maxRecDepth 100000 in
theorem f27_47 : mj_find (mj_P 27).2.2.2.2 47 = [(.iconst (-1), 1, (-1), [])] := rfl
set_option maxRecDepth 100000 in
theorem q27_47 (E : mj_E) (d w c : Nat) (hi : Nat → Nat → Int32) (hl : Nat → Nat → Int64) (v1 : Int32) : mj_den mj_P E d 27 47 [Value.ref 194, Value.int v1] [] (mj_hw w c hi hl) = mj_den mj_P E d 27 48 [Value.ref 194, Value.int v1] [Value.int (-1 : Int32)] (mj_hw w c hi hl) := by
  rw [mj_den_eq, f27_47]
  exact zt_iconst rfl (zt_end rfl)
set_option maxRecDepth 100000 in
theorem f27_48 : mj_find (mj_P 27).2.2.2.2 48 = [(.ireturn, 1, 0, [0])] := rfl
set_option maxRecDepth 100000 in
theorem q27_48 (E : mj_E) (d w c : Nat) (hi : Nat → Nat → Int32) (hl : Nat → Nat → Int64) (v1 : Int32) (s0 : Int32) : mj_den mj_P E d 27 48 [Value.ref 194, Value.int v1] [Value.int s0] (mj_hw w c hi hl) = some (some (Value.int s0), (mj_hw w c hi hl)) := by
  rw [mj_den_eq, f27_48]
  exact zt_ireturn0
set_option maxRecDepth 100000 in
theorem f28_0 : mj_find (mj_P 28).2.2.2.2 0 = [(.aload_n 0, 1, 0, []), (.iconst 0, 1, 0, []), (.putfield 9, 3, 0, [4, 0, 0, 595]), (.iconst 0, 1, 0, []), (.istore_n 2, 1, 0, [])] := rfl
set_option maxRecDepth 100000 in
theorem q28_0 (E : mj_E) (d w c : Nat) (hi : Nat → Nat → Int32) (hl : Nat → Nat → Int64) (v1 : Int32) : mj_den mj_P E d 28 0 [Value.ref 194, Value.int v1, Value.float 0] [] (mj_hw w c hi hl) = mj_den mj_P E d 28 7 [Value.ref 194, Value.int v1, Value.int (0 : Int32)] [] (mj_hw w c (mj_u hi 194 0 (0 : Int32)) hl) := by
  rw [mj_den_eq, f28_0]
  exact zt_aload_n rfl rfl (zt_iconst rfl (zt_puti (mjkd194 _ _ _ _) rfl rfl (zt_iconst rfl (zt_istore_n (Nat.le_of_ble_eq_true rfl) rfl rfl (zt_end rfl)))))
set_option maxRecDepth 100000 in
theorem f28_7 : mj_find (mj_P 28).2.2.2.2 7 = [(.iload_n 2, 1, 0, []), (.bipush 10, 2, 10, []), (.if_icmp .ge 37, 3, 0, [47]), (.iload_n 1, 1, 0, []), (.iload_n 2, 1, 0, []), (.invokestatic 40, 3, 0, [6, 148, 0, 2, 1, 1135, 758, 143, 759])] := rfl
set_option maxRecDepth 100000 in
theorem q28_7 (E : mj_E) (d w c : Nat) (hi : Nat → Nat → Int32) (hl : Nat → Nat → Int64) (v1 : Int32) (v2 : Int32) : mj_den mj_P E d 28 7 [Value.ref 194, Value.int v1, Value.int v2] [] (mj_hw w c hi hl) = if (10 : Int32) ≤ v2 then mj_den mj_P E d 28 47 [Value.ref 194, Value.int v1, Value.int v2] [] (mj_hw w c hi hl) else mj_bi (mj_dc mj_P E d 148 [Value.int v1, Value.int v2] (mj_hw w c hi hl)) (fun x1 h1 => mj_den mj_P E d 28 18 [Value.ref 194, Value.int v1, Value.int v2] [Value.int x1] h1) := by
  rw [mj_den_eq, f28_7]
  exact zt_iload_n rfl rfl (zt_bipush rfl (zt_icmp_ge rfl rfl (zt_iload_n rfl rfl (zt_iload_n rfl rfl (zt_call6_1 (Nat.le_of_ble_eq_true rfl) rfl (Nat.le_of_ble_eq_true rfl) rfl rfl)))))
set_option maxRecDepth 100000 in
theorem f28_18 : mj_find (mj_P 28).2.2.2.2 18 = [(.ifCond .eq 23, 3, 0, [41]), (.aload_n 0, 1, 0, []), (.getfield 22, 3, 0, [4, 3, 3, 598]), (.aload_n 0, 1, 0, []), (.getfield 9, 3, 0, [4, 0, 0, 595]), (.iload_n 2, 1, 0, []), (.iastore, 1, 0, []), (.aload_n 0, 1, 0, []), (.dup, 1, 0, []), (.getfield 9, 3, 0, [4, 0, 0, 595]), (.iconst 1, 1, 1, []), (.iadd, 1, 0, []), (.putfield 9, 3, 0, [4, 0, 0, 595])] := rfl
set_option maxRecDepth 100000 in
theorem q28_18 (E : mj_E) (d w c : Nat) (hi : Nat → Nat → Int32) (hl : Nat → Nat → Int64) (v1 : Int32) (v2 : Int32) (s0 : Int32) : mj_den mj_P E d 28 18 [Value.ref 194, Value.int v1, Value.int v2] [Value.int s0] (mj_hw w c hi hl) = if s0 = 0 then mj_den mj_P E d 28 41 [Value.ref 194, Value.int v1, Value.int v2] [] (mj_hw w c hi hl) else if 0 ≤ (hi 194 0) ∧ ((hi 194 0)).toNatClampNeg < 10 then mj_den mj_P E d 28 41 [Value.ref 194, Value.int v1, Value.int v2] [] (mj_hw w c (mj_u (mj_u hi 196 (((hi 194 0)).toNatClampNeg) v2) 194 0 ((hi 194 0) + (1 : Int32))) hl) else none := by
  rw [mj_den_eq, f28_18]
  exact zt_if_eq rfl rfl (zt_aload_n rfl rfl (zt_getr (mjkd194 _ _ _ _) (mjhr194_3 w c) rfl (zt_aload_n rfl rfl (zt_geti (mjkd194 _ _ _ _) rfl rfl (zt_iload_n rfl rfl (zt_iast (mjkd196 _ _ _ _) (mjln196 _ _ _ _) rfl rfl (zt_aload_n rfl rfl (zt_dupr rfl (zt_geti (mjkd194 _ _ _ _) rfl rfl (zt_iconst rfl (zt_iadd rfl (zt_puti (mjkd194 _ _ _ _) rfl rfl (zt_end rfl)))))))))))))
set_option maxRecDepth 100000 in
theorem f28_41 : mj_find (mj_P 28).2.2.2.2 41 = [(.iinc 2 1, 3, 1, []), (.goto (-37), 3, 0, [7])] := rfl
set_option maxRecDepth 100000 in
theorem q28_41 (E : mj_E) (d w c : Nat) (hi : Nat → Nat → Int32) (hl : Nat → Nat → Int64) (v1 : Int32) (v2 : Int32) : mj_den mj_P E d 28 41 [Value.ref 194, Value.int v1, Value.int v2] [] (mj_hw w c hi hl) = mj_den mj_P E d 28 7 [Value.ref 194, Value.int v1, Value.int (v2 + (1 : Int32))] [] (mj_hw w c hi hl) := by
  rw [mj_den_eq, f28_41]
  exact zt_iinc rfl (Nat.le_of_ble_eq_true rfl) rfl rfl (zt_goto rfl)
set_option maxRecDepth 100000 in
theorem f28_47 : mj_find (mj_P 28).2.2.2.2 47 = [(.return_, 1, 0, [])] := rfl
set_option maxRecDepth 100000 in
theorem q28_47 (E : mj_E) (d w c : Nat) (hi : Nat → Nat → Int32) (hl : Nat → Nat → Int64) (v1 : Int32) (v2 : Int32) : mj_den mj_P E d 28 47 [Value.ref 194, Value.int v1, Value.int v2] [] (mj_hw w c hi hl) = some (none, (mj_hw w c hi hl)) := by
  rw [mj_den_eq, f28_47]
  exact zt_return
set_option maxRecDepth 100000 in
theorem f29_0 : mj_find (mj_P 29).2.2.2.2 0 = [(.iload_n 0, 1, 0, []), (.iconst 1, 1, 1, []), (.iload_n 1, 1, 0, []), (.ishl, 1, 0, []), (.iconst 1, 1, 1, []), (.isub, 1, 0, []), (.iand, 1, 0, []), (.invokestatic 44, 3, 0, [1, 293, 0, 1, 1, 1144, 744, 155, 745])] := rfl
set_option maxRecDepth 100000 in
theorem q29_0 (E : mj_E) (d w c : Nat) (hi : Nat → Nat → Int32) (hl : Nat → Nat → Int64) (v0 : Int32) (v1 : Int32) : mj_den mj_P E d 29 0 [Value.int v0, Value.int v1] [] (mj_hw w c hi hl) = mj_bi (mj_dc mj_P E d 293 [Value.int (v0 &&& (((1 : Int32) <<< (v1 &&& 31)) - (1 : Int32)))] (mj_hw w c hi hl)) (fun x1 h1 => mj_den mj_P E d 29 10 [Value.int v0, Value.int v1] [Value.int x1] h1) := by
  rw [mj_den_eq, f29_0]
  exact zt_iload_n rfl rfl (zt_iconst rfl (zt_iload_n rfl rfl (zt_ishl rfl (zt_iconst rfl (zt_isub rfl (zt_iand rfl (zt_call1_1 (Nat.le_of_ble_eq_true rfl) rfl (Nat.le_of_ble_eq_true rfl) rfl rfl)))))))
set_option maxRecDepth 100000 in
theorem f29_10 : mj_find (mj_P 29).2.2.2.2 10 = [(.ireturn, 1, 0, [0])] := rfl
set_option maxRecDepth 100000 in
theorem q29_10 (E : mj_E) (d w c : Nat) (hi : Nat → Nat → Int32) (hl : Nat → Nat → Int64) (v0 : Int32) (v1 : Int32) (s0 : Int32) : mj_den mj_P E d 29 10 [Value.int v0, Value.int v1] [Value.int s0] (mj_hw w c hi hl) = some (some (Value.int s0), (mj_hw w c hi hl)) := by
  rw [mj_den_eq, f29_10]
  exact zt_ireturn0
set_option maxRecDepth 100000 in
theorem f30_0 : mj_find (mj_P 30).2.2.2.2 0 = [(.aload_n 0, 1, 0, []), (.iload_n 1, 1, 0, []), (.invokevirtual 50, 3, 0, [0, 28, 4, 1, 0, 1131, 1133, 27, 153, 1134])] := rfl
set_option maxRecDepth 100000 in
theorem q30_0 (E : mj_E) (d w c : Nat) (hi : Nat → Nat → Int32) (hl : Nat → Nat → Int64) (v1 : Int32) : mj_den mj_P E d 30 0 [Value.ref 194, Value.int v1, Value.ref 26, Value.float 0, Value.float 0, Value.float 0, Value.float 0, Value.float 0] [] (mj_hw w c hi hl) = mj_bv (mj_dc mj_P E d 28 [Value.ref 194, Value.int v1] (mj_hw w c hi hl)) (fun h1 => mj_den mj_P E d 30 5 [Value.ref 194, Value.int v1, Value.ref 26, Value.float 0, Value.float 0, Value.float 0, Value.float 0, Value.float 0] [] h1) := by
  rw [mj_den_eq, f30_0]
  exact zt_aload_n rfl rfl (zt_iload_n rfl rfl (zt_call0_0 rfl (mjkd194 _ _ _ _) (Nat.le_of_ble_eq_true rfl) rfl rfl))
set_option maxRecDepth 100000 in
theorem f30_5 : mj_find (mj_P 30).2.2.2.2 5 = [(.aload_n 0, 1, 0, []), (.aload_n 0, 1, 0, []), (.getfield 9, 3, 0, [4, 0, 0, 595]), (.bipush 8, 2, 8, []), (.invokestatic 54, 3, 0, [1, 296, 0, 2, 1, 1136, 728, 157, 729])] := rfl
set_option maxRecDepth 100000 in
theorem q30_5 (E : mj_E) (d w c : Nat) (hi : Nat → Nat → Int32) (hl : Nat → Nat → Int64) (v1 : Int32) : mj_den mj_P E d 30 5 [Value.ref 194, Value.int v1, Value.ref 26, Value.float 0, Value.float 0, Value.float 0, Value.float 0, Value.float 0] [] (mj_hw w c hi hl) = mj_bi (mj_dc mj_P E d 296 [Value.int (hi 194 0), Value.int (8 : Int32)] (mj_hw w c hi hl)) (fun x1 h1 => mj_den mj_P E d 30 15 [Value.ref 194, Value.int v1, Value.ref 26, Value.float 0, Value.float 0, Value.float 0, Value.float 0, Value.float 0] [Value.int x1, Value.ref 194] h1) := by
  rw [mj_den_eq, f30_5]
  exact zt_aload_n rfl rfl (zt_aload_n rfl rfl (zt_geti (mjkd194 _ _ _ _) rfl rfl (zt_bipush rfl (zt_call1_1 (Nat.le_of_ble_eq_true rfl) rfl (Nat.le_of_ble_eq_true rfl) rfl rfl))))
set_option maxRecDepth 100000 in
theorem f30_15 : mj_find (mj_P 30).2.2.2.2 15 = [(.putfield 9, 3, 0, [4, 0, 0, 595]), (.aload_n 0, 1, 0, []), (.iconst 0, 1, 0, []), (.putfield 15, 3, 0, [4, 1, 0, 596]), (.aload_n 0, 1, 0, []), (.iload_n 1, 1, 0, []), (.aload_n 2, 1, 0, []), (.invokevirtual 60, 3, 0, [0, 31, 4, 2, 0, 1137, 1139, 28, 153, 1140])] := rfl
set_option maxRecDepth 100000 in
theorem q30_15 (E : mj_E) (d w c : Nat) (hi : Nat → Nat → Int32) (hl : Nat → Nat → Int64) (v1 : Int32) (s0 : Int32) : mj_den mj_P E d 30 15 [Value.ref 194, Value.int v1, Value.ref 26, Value.float 0, Value.float 0, Value.float 0, Value.float 0, Value.float 0] [Value.int s0, Value.ref 194] (mj_hw w c hi hl) = mj_bv (mj_dc mj_P E d 31 [Value.ref 194, Value.int v1, Value.ref 26] (mj_hw w c (mj_u (mj_u hi 194 0 s0) 194 1 (0 : Int32)) hl)) (fun h1 => mj_den mj_P E d 30 29 [Value.ref 194, Value.int v1, Value.ref 26, Value.float 0, Value.float 0, Value.float 0, Value.float 0, Value.float 0] [] h1) := by
  rw [mj_den_eq, f30_15]
  exact zt_puti (mjkd194 _ _ _ _) rfl rfl (zt_aload_n rfl rfl (zt_iconst rfl (zt_puti (mjkd194 _ _ _ _) rfl rfl (zt_aload_n rfl rfl (zt_iload_n rfl rfl (zt_aload_n rfl rfl (zt_call0_0 rfl (mjkd194 _ _ _ _) (Nat.le_of_ble_eq_true rfl) rfl rfl)))))))
set_option maxRecDepth 100000 in
theorem f30_29 : mj_find (mj_P 30).2.2.2.2 29 = [(.iconst 1, 1, 1, []), (.aload_n 0, 1, 0, []), (.getfield 9, 3, 0, [4, 0, 0, 595]), (.ishl, 1, 0, []), (.iconst 1, 1, 1, []), (.isub, 1, 0, []), (.istore_n 3, 1, 0, []), (.iload_n 3, 1, 0, []), (.istore 4, 2, 0, [])] := rfl
set_option maxRecDepth 100000 in
theorem q30_29 (E : mj_E) (d w c : Nat) (hi : Nat → Nat → Int32) (hl : Nat → Nat → Int64) (v1 : Int32) : mj_den mj_P E d 30 29 [Value.ref 194, Value.int v1, Value.ref 26, Value.float 0, Value.float 0, Value.float 0, Value.float 0, Value.float 0] [] (mj_hw w c hi hl) = mj_den mj_P E d 30 41 [Value.ref 194, Value.int v1, Value.ref 26, Value.int (((1 : Int32) <<< ((hi 194 0) &&& 31)) - (1 : Int32)), Value.int (((1 : Int32) <<< ((hi 194 0) &&& 31)) - (1 : Int32)), Value.float 0, Value.float 0, Value.float 0] [] (mj_hw w c hi hl) := by
  rw [mj_den_eq, f30_29]
  exact zt_iconst rfl (zt_aload_n rfl rfl (zt_geti (mjkd194 _ _ _ _) rfl rfl (zt_ishl rfl (zt_iconst rfl (zt_isub rfl (zt_istore_n (Nat.le_of_ble_eq_true rfl) rfl rfl (zt_iload_n rfl rfl (zt_istore (Nat.le_of_ble_eq_true rfl) rfl rfl (zt_end rfl)))))))))
set_option maxRecDepth 100000 in
theorem f30_41 : mj_find (mj_P 30).2.2.2.2 41 = [(.iload 4, 2, 0, []), (.ifCond .le 80, 3, 0, [123]), (.iconst 0, 1, 0, []), (.istore 5, 2, 0, [])] := rfl
set_option maxRecDepth 100000 in
theorem q30_41 (E : mj_E) (d w c : Nat) (hi : Nat → Nat → Int32) (hl : Nat → Nat → Int64) (v1 : Int32) (v3 : Int32) (v4 : Int32) : mj_den mj_P E d 30 41 [Value.ref 194, Value.int v1, Value.ref 26, Value.int v3, Value.int v4, Value.float 0, Value.float 0, Value.float 0] [] (mj_hw w c hi hl) = if v4 ≤ 0 then mj_den mj_P E d 30 123 [Value.ref 194, Value.int v1, Value.ref 26, Value.int v3, Value.int v4, Value.float 0, Value.float 0, Value.float 0] [] (mj_hw w c hi hl) else mj_den mj_P E d 30 49 [Value.ref 194, Value.int v1, Value.ref 26, Value.int v3, Value.int v4, Value.int (0 : Int32), Value.float 0, Value.float 0] [] (mj_hw w c hi hl) := by
  rw [mj_den_eq, f30_41]
  exact zt_iload rfl rfl (zt_if_le rfl rfl (zt_iconst rfl (zt_istore (Nat.le_of_ble_eq_true rfl) rfl rfl (zt_end rfl))))
set_option maxRecDepth 100000 in
theorem q30_41_1 (E : mj_E) (d w c : Nat) (hi : Nat → Nat → Int32) (hl : Nat → Nat → Int64) (v1 : Int32) (v3 : Int32) (v4 : Int32) (v5 : Int32) (v6 : Int32) : mj_den mj_P E d 30 41 [Value.ref 194, Value.int v1, Value.ref 26, Value.int v3, Value.int v4, Value.int v5, Value.int v6, Value.float 0] [] (mj_hw w c hi hl) = if v4 ≤ 0 then mj_den mj_P E d 30 123 [Value.ref 194, Value.int v1, Value.ref 26, Value.int v3, Value.int v4, Value.int v5, Value.int v6, Value.float 0] [] (mj_hw w c hi hl) else mj_den mj_P E d 30 49 [Value.ref 194, Value.int v1, Value.ref 26, Value.int v3, Value.int v4, Value.int (0 : Int32), Value.int v6, Value.float 0] [] (mj_hw w c hi hl) := by
  rw [mj_den_eq, f30_41]
  exact zt_iload rfl rfl (zt_if_le rfl rfl (zt_iconst rfl (zt_istore (Nat.le_of_ble_eq_true rfl) rfl rfl (zt_end rfl))))
set_option maxRecDepth 100000 in
theorem q30_41_2 (E : mj_E) (d w c : Nat) (hi : Nat → Nat → Int32) (hl : Nat → Nat → Int64) (v1 : Int32) (v3 : Int32) (v4 : Int32) (v5 : Int32) : mj_den mj_P E d 30 41 [Value.ref 194, Value.int v1, Value.ref 26, Value.int v3, Value.int v4, Value.int v5, Value.float 0, Value.float 0] [] (mj_hw w c hi hl) = if v4 ≤ 0 then mj_den mj_P E d 30 123 [Value.ref 194, Value.int v1, Value.ref 26, Value.int v3, Value.int v4, Value.int v5, Value.float 0, Value.float 0] [] (mj_hw w c hi hl) else mj_den mj_P E d 30 49 [Value.ref 194, Value.int v1, Value.ref 26, Value.int v3, Value.int v4, Value.int (0 : Int32), Value.float 0, Value.float 0] [] (mj_hw w c hi hl) := by
  rw [mj_den_eq, f30_41]
  exact zt_iload rfl rfl (zt_if_le rfl rfl (zt_iconst rfl (zt_istore (Nat.le_of_ble_eq_true rfl) rfl rfl (zt_end rfl))))
set_option maxRecDepth 100000 in
theorem f30_49 : mj_find (mj_P 30).2.2.2.2 49 = [(.iload 5, 2, 0, []), (.aload_n 0, 1, 0, []), (.getfield 9, 3, 0, [4, 0, 0, 595]), (.if_icmp .ge 62, 3, 0, [117]), (.iload 4, 2, 0, []), (.iload 5, 2, 0, []), (.invokestatic 40, 3, 0, [6, 148, 0, 2, 1, 1135, 758, 143, 759])] := rfl
set_option maxRecDepth 100000 in
theorem q30_49 (E : mj_E) (d w c : Nat) (hi : Nat → Nat → Int32) (hl : Nat → Nat → Int64) (v1 : Int32) (v3 : Int32) (v4 : Int32) (v5 : Int32) : mj_den mj_P E d 30 49 [Value.ref 194, Value.int v1, Value.ref 26, Value.int v3, Value.int v4, Value.int v5, Value.float 0, Value.float 0] [] (mj_hw w c hi hl) = if (hi 194 0) ≤ v5 then mj_den mj_P E d 30 117 [Value.ref 194, Value.int v1, Value.ref 26, Value.int v3, Value.int v4, Value.int v5, Value.float 0, Value.float 0] [] (mj_hw w c hi hl) else mj_bi (mj_dc mj_P E d 148 [Value.int v4, Value.int v5] (mj_hw w c hi hl)) (fun x1 h1 => mj_den mj_P E d 30 65 [Value.ref 194, Value.int v1, Value.ref 26, Value.int v3, Value.int v4, Value.int v5, Value.float 0, Value.float 0] [Value.int x1] h1) := by
  rw [mj_den_eq, f30_49]
  exact zt_iload rfl rfl (zt_aload_n rfl rfl (zt_geti (mjkd194 _ _ _ _) rfl rfl (zt_icmp_ge rfl rfl (zt_iload rfl rfl (zt_iload rfl rfl (zt_call6_1 (Nat.le_of_ble_eq_true rfl) rfl (Nat.le_of_ble_eq_true rfl) rfl rfl))))))
set_option maxRecDepth 100000 in
theorem q30_49_1 (E : mj_E) (d w c : Nat) (hi : Nat → Nat → Int32) (hl : Nat → Nat → Int64) (v1 : Int32) (v3 : Int32) (v4 : Int32) (v5 : Int32) (v6 : Int32) : mj_den mj_P E d 30 49 [Value.ref 194, Value.int v1, Value.ref 26, Value.int v3, Value.int v4, Value.int v5, Value.int v6, Value.float 0] [] (mj_hw w c hi hl) = if (hi 194 0) ≤ v5 then mj_den mj_P E d 30 117 [Value.ref 194, Value.int v1, Value.ref 26, Value.int v3, Value.int v4, Value.int v5, Value.int v6, Value.float 0] [] (mj_hw w c hi hl) else mj_bi (mj_dc mj_P E d 148 [Value.int v4, Value.int v5] (mj_hw w c hi hl)) (fun x1 h1 => mj_den mj_P E d 30 65 [Value.ref 194, Value.int v1, Value.ref 26, Value.int v3, Value.int v4, Value.int v5, Value.int v6, Value.float 0] [Value.int x1] h1) := by
  rw [mj_den_eq, f30_49]
  exact zt_iload rfl rfl (zt_aload_n rfl rfl (zt_geti (mjkd194 _ _ _ _) rfl rfl (zt_icmp_ge rfl rfl (zt_iload rfl rfl (zt_iload rfl rfl (zt_call6_1 (Nat.le_of_ble_eq_true rfl) rfl (Nat.le_of_ble_eq_true rfl) rfl rfl))))))
set_option maxRecDepth 100000 in
theorem f30_65 : mj_find (mj_P 30).2.2.2.2 65 = [(.ifCond .eq 46, 3, 0, [111]), (.aload_n 0, 1, 0, []), (.iload 4, 2, 0, []), (.iload 5, 2, 0, []), (.invokevirtual 64, 3, 0, [0, 33, 4, 2, 1, 1145, 1147, 29, 153, 1148])] := rfl
set_option maxRecDepth 100000 in
theorem q30_65 (E : mj_E) (d w c : Nat) (hi : Nat → Nat → Int32) (hl : Nat → Nat → Int64) (v1 : Int32) (v3 : Int32) (v4 : Int32) (v5 : Int32) (s0 : Int32) : mj_den mj_P E d 30 65 [Value.ref 194, Value.int v1, Value.ref 26, Value.int v3, Value.int v4, Value.int v5, Value.float 0, Value.float 0] [Value.int s0] (mj_hw w c hi hl) = if s0 = 0 then mj_den mj_P E d 30 111 [Value.ref 194, Value.int v1, Value.ref 26, Value.int v3, Value.int v4, Value.int v5, Value.float 0, Value.float 0] [] (mj_hw w c hi hl) else mj_bi (mj_dc mj_P E d 33 [Value.ref 194, Value.int v4, Value.int v5] (mj_hw w c hi hl)) (fun x1 h1 => mj_den mj_P E d 30 76 [Value.ref 194, Value.int v1, Value.ref 26, Value.int v3, Value.int v4, Value.int v5, Value.float 0, Value.float 0] [Value.int x1] h1) := by
  rw [mj_den_eq, f30_65]
  exact zt_if_eq rfl rfl (zt_aload_n rfl rfl (zt_iload rfl rfl (zt_iload rfl rfl (zt_call0_1 rfl (mjkd194 _ _ _ _) (Nat.le_of_ble_eq_true rfl) rfl rfl))))
set_option maxRecDepth 100000 in
theorem q30_65_1 (E : mj_E) (d w c : Nat) (hi : Nat → Nat → Int32) (hl : Nat → Nat → Int64) (v1 : Int32) (v3 : Int32) (v4 : Int32) (v5 : Int32) (v6 : Int32) (s0 : Int32) : mj_den mj_P E d 30 65 [Value.ref 194, Value.int v1, Value.ref 26, Value.int v3, Value.int v4, Value.int v5, Value.int v6, Value.float 0] [Value.int s0] (mj_hw w c hi hl) = if s0 = 0 then mj_den mj_P E d 30 111 [Value.ref 194, Value.int v1, Value.ref 26, Value.int v3, Value.int v4, Value.int v5, Value.int v6, Value.float 0] [] (mj_hw w c hi hl) else mj_bi (mj_dc mj_P E d 33 [Value.ref 194, Value.int v4, Value.int v5] (mj_hw w c hi hl)) (fun x1 h1 => mj_den mj_P E d 30 76 [Value.ref 194, Value.int v1, Value.ref 26, Value.int v3, Value.int v4, Value.int v5, Value.int v6, Value.float 0] [Value.int x1] h1) := by
  rw [mj_den_eq, f30_65]
  exact zt_if_eq rfl rfl (zt_aload_n rfl rfl (zt_iload rfl rfl (zt_iload rfl rfl (zt_call0_1 rfl (mjkd194 _ _ _ _) (Nat.le_of_ble_eq_true rfl) rfl rfl))))
set_option maxRecDepth 100000 in
theorem f30_76 : mj_find (mj_P 30).2.2.2.2 76 = [(.istore 6, 2, 0, []), (.aload_n 0, 1, 0, []), (.getfield 37, 3, 0, [4, 8, 3, 603]), (.iload 4, 2, 0, []), (.bipush 8, 2, 8, []), (.imul, 1, 0, []), (.iload 5, 2, 0, []), (.iadd, 1, 0, []), (.iload 6, 2, 0, []), (.iconst (-1), 1, (-1), []), (.if_icmp .ne 7, 3, 0, [100]), (.iconst 0, 1, 0, []), (.goto 13, 3, 0, [110])] := rfl
set_option maxRecDepth 100000 in
theorem q30_76 (E : mj_E) (d w c : Nat) (hi : Nat → Nat → Int32) (hl : Nat → Nat → Int64) (v1 : Int32) (v3 : Int32) (v4 : Int32) (v5 : Int32) (s0 : Int32) : mj_den mj_P E d 30 76 [Value.ref 194, Value.int v1, Value.ref 26, Value.int v3, Value.int v4, Value.int v5, Value.float 0, Value.float 0] [Value.int s0] (mj_hw w c hi hl) = if ¬ s0 = (-1 : Int32) then mj_den mj_P E d 30 100 [Value.ref 194, Value.int v1, Value.ref 26, Value.int v3, Value.int v4, Value.int v5, Value.int s0, Value.float 0] [Value.int ((v4 * (8 : Int32)) + v5), Value.ref 201] (mj_hw w c hi hl) else mj_den mj_P E d 30 110 [Value.ref 194, Value.int v1, Value.ref 26, Value.int v3, Value.int v4, Value.int v5, Value.int s0, Value.float 0] [Value.int (0 : Int32), Value.int ((v4 * (8 : Int32)) + v5), Value.ref 201] (mj_hw w c hi hl) := by
  rw [mj_den_eq, f30_76]
  exact zt_istore (Nat.le_of_ble_eq_true rfl) rfl rfl (zt_aload_n rfl rfl (zt_getr (mjkd194 _ _ _ _) (mjhr194_8 w c) rfl (zt_iload rfl rfl (zt_bipush rfl (zt_imul rfl (zt_iload rfl rfl (zt_iadd rfl (zt_iload rfl rfl (zt_iconst rfl (zt_icmp_ne rfl rfl (zt_iconst rfl (zt_goto rfl))))))))))))
set_option maxRecDepth 100000 in
theorem q30_76_1 (E : mj_E) (d w c : Nat) (hi : Nat → Nat → Int32) (hl : Nat → Nat → Int64) (v1 : Int32) (v3 : Int32) (v4 : Int32) (v5 : Int32) (v6 : Int32) (s0 : Int32) : mj_den mj_P E d 30 76 [Value.ref 194, Value.int v1, Value.ref 26, Value.int v3, Value.int v4, Value.int v5, Value.int v6, Value.float 0] [Value.int s0] (mj_hw w c hi hl) = if ¬ s0 = (-1 : Int32) then mj_den mj_P E d 30 100 [Value.ref 194, Value.int v1, Value.ref 26, Value.int v3, Value.int v4, Value.int v5, Value.int s0, Value.float 0] [Value.int ((v4 * (8 : Int32)) + v5), Value.ref 201] (mj_hw w c hi hl) else mj_den mj_P E d 30 110 [Value.ref 194, Value.int v1, Value.ref 26, Value.int v3, Value.int v4, Value.int v5, Value.int s0, Value.float 0] [Value.int (0 : Int32), Value.int ((v4 * (8 : Int32)) + v5), Value.ref 201] (mj_hw w c hi hl) := by
  rw [mj_den_eq, f30_76]
  exact zt_istore (Nat.le_of_ble_eq_true rfl) rfl rfl (zt_aload_n rfl rfl (zt_getr (mjkd194 _ _ _ _) (mjhr194_8 w c) rfl (zt_iload rfl rfl (zt_bipush rfl (zt_imul rfl (zt_iload rfl rfl (zt_iadd rfl (zt_iload rfl rfl (zt_iconst rfl (zt_icmp_ne rfl rfl (zt_iconst rfl (zt_goto rfl))))))))))))
set_option maxRecDepth 100000 in
theorem f30_100 : mj_find (mj_P 30).2.2.2.2 100 = [(.aload_n 0, 1, 0, []), (.iload 4, 2, 0, []), (.iload 5, 2, 0, []), (.iload 6, 2, 0, []), (.invokevirtual 67, 3, 0, [0, 32, 4, 3, 1, 1149, 1151, 30, 153, 1152])] := rfl
set_option maxRecDepth 100000 in
theorem q30_100 (E : mj_E) (d w c : Nat) (hi : Nat → Nat → Int32) (hl : Nat → Nat → Int64) (v1 : Int32) (v3 : Int32) (v4 : Int32) (v5 : Int32) (v6 : Int32) (s0 : Int32) : mj_den mj_P E d 30 100 [Value.ref 194, Value.int v1, Value.ref 26, Value.int v3, Value.int v4, Value.int v5, Value.int v6, Value.float 0] [Value.int s0, Value.ref 201] (mj_hw w c hi hl) = mj_bi (mj_dc mj_P E d 32 [Value.ref 194, Value.int v4, Value.int v5, Value.int v6] (mj_hw w c hi hl)) (fun x1 h1 => mj_den mj_P E d 30 110 [Value.ref 194, Value.int v1, Value.ref 26, Value.int v3, Value.int v4, Value.int v5, Value.int v6, Value.float 0] [Value.int x1, Value.int s0, Value.ref 201] h1) := by
  rw [mj_den_eq, f30_100]
  exact zt_aload_n rfl rfl (zt_iload rfl rfl (zt_iload rfl rfl (zt_iload rfl rfl (zt_call0_1 rfl (mjkd194 _ _ _ _) (Nat.le_of_ble_eq_true rfl) rfl rfl))))
set_option maxRecDepth 100000 in
theorem f30_110 : mj_find (mj_P 30).2.2.2.2 110 = [(.iastore, 1, 0, [])] := rfl
set_option maxRecDepth 100000 in
theorem q30_110 (E : mj_E) (d w c : Nat) (hi : Nat → Nat → Int32) (hl : Nat → Nat → Int64) (v1 : Int32) (v3 : Int32) (v4 : Int32) (v5 : Int32) (v6 : Int32) (s0 : Int32) (s1 : Int32) : mj_den mj_P E d 30 110 [Value.ref 194, Value.int v1, Value.ref 26, Value.int v3, Value.int v4, Value.int v5, Value.int v6, Value.float 0] [Value.int s0, Value.int s1, Value.ref 201] (mj_hw w c hi hl) = if 0 ≤ s1 ∧ (s1).toNatClampNeg < 2048 then mj_den mj_P E d 30 111 [Value.ref 194, Value.int v1, Value.ref 26, Value.int v3, Value.int v4, Value.int v5, Value.int v6, Value.float 0] [] (mj_hw w c (mj_u hi 201 ((s1).toNatClampNeg) s0) hl) else none := by
  rw [mj_den_eq, f30_110]
  exact zt_iast (mjkd201 _ _ _ _) (mjln201 _ _ _ _) rfl rfl (zt_end rfl)
set_option maxRecDepth 100000 in
theorem f30_111 : mj_find (mj_P 30).2.2.2.2 111 = [(.iinc 5 1, 3, 1, []), (.goto (-65), 3, 0, [49])] := rfl
set_option maxRecDepth 100000 in
theorem q30_111 (E : mj_E) (d w c : Nat) (hi : Nat → Nat → Int32) (hl : Nat → Nat → Int64) (v1 : Int32) (v3 : Int32) (v4 : Int32) (v5 : Int32) (v6 : Int32) : mj_den mj_P E d 30 111 [Value.ref 194, Value.int v1, Value.ref 26, Value.int v3, Value.int v4, Value.int v5, Value.int v6, Value.float 0] [] (mj_hw w c hi hl) = mj_den mj_P E d 30 49 [Value.ref 194, Value.int v1, Value.ref 26, Value.int v3, Value.int v4, Value.int (v5 + (1 : Int32)), Value.int v6, Value.float 0] [] (mj_hw w c hi hl) := by
  rw [mj_den_eq, f30_111]
  exact zt_iinc rfl (Nat.le_of_ble_eq_true rfl) rfl rfl (zt_goto rfl)
set_option maxRecDepth 100000 in
theorem q30_111_1 (E : mj_E) (d w c : Nat) (hi : Nat → Nat → Int32) (hl : Nat → Nat → Int64) (v1 : Int32) (v3 : Int32) (v4 : Int32) (v5 : Int32) : mj_den mj_P E d 30 111 [Value.ref 194, Value.int v1, Value.ref 26, Value.int v3, Value.int v4, Value.int v5, Value.float 0, Value.float 0] [] (mj_hw w c hi hl) = mj_den mj_P E d 30 49 [Value.ref 194, Value.int v1, Value.ref 26, Value.int v3, Value.int v4, Value.int (v5 + (1 : Int32)), Value.float 0, Value.float 0] [] (mj_hw w c hi hl) := by
  rw [mj_den_eq, f30_111]
  exact zt_iinc rfl (Nat.le_of_ble_eq_true rfl) rfl rfl (zt_goto rfl)
set_option maxRecDepth 100000 in
theorem f30_117 : mj_find (mj_P 30).2.2.2.2 117 = [(.iinc 4 (-1), 3, (-1), []), (.goto (-79), 3, 0, [41])] := rfl
set_option maxRecDepth 100000 in
theorem q30_117 (E : mj_E) (d w c : Nat) (hi : Nat → Nat → Int32) (hl : Nat → Nat → Int64) (v1 : Int32) (v3 : Int32) (v4 : Int32) (v5 : Int32) (v6 : Int32) : mj_den mj_P E d 30 117 [Value.ref 194, Value.int v1, Value.ref 26, Value.int v3, Value.int v4, Value.int v5, Value.int v6, Value.float 0] [] (mj_hw w c hi hl) = mj_den mj_P E d 30 41 [Value.ref 194, Value.int v1, Value.ref 26, Value.int v3, Value.int (v4 + (-1 : Int32)), Value.int v5, Value.int v6, Value.float 0] [] (mj_hw w c hi hl) := by
  rw [mj_den_eq, f30_117]
  exact zt_iinc rfl (Nat.le_of_ble_eq_true rfl) rfl rfl (zt_goto rfl)
set_option maxRecDepth 100000 in
theorem q30_117_1 (E : mj_E) (d w c : Nat) (hi : Nat → Nat → Int32) (hl : Nat → Nat → Int64) (v1 : Int32) (v3 : Int32) (v4 : Int32) (v5 : Int32) : mj_den mj_P E d 30 117 [Value.ref 194, Value.int v1, Value.ref 26, Value.int v3, Value.int v4, Value.int v5, Value.float 0, Value.float 0] [] (mj_hw w c hi hl) = mj_den mj_P E d 30 41 [Value.ref 194, Value.int v1, Value.ref 26, Value.int v3, Value.int (v4 + (-1 : Int32)), Value.int v5, Value.float 0, Value.float 0] [] (mj_hw w c hi hl) := by
  rw [mj_den_eq, f30_117]
  exact zt_iinc rfl (Nat.le_of_ble_eq_true rfl) rfl rfl (zt_goto rfl)
set_option maxRecDepth 100000 in
theorem f30_123 : mj_find (mj_P 30).2.2.2.2 123 = [(.iconst 0, 1, 0, []), (.istore 4, 2, 0, []), (.iconst (-1), 1, (-1), []), (.istore 5, 2, 0, []), (.iconst 0, 1, 0, []), (.istore 6, 2, 0, [])] := rfl
set_option maxRecDepth 100000 in
theorem q30_123 (E : mj_E) (d w c : Nat) (hi : Nat → Nat → Int32) (hl : Nat → Nat → Int64) (v1 : Int32) (v3 : Int32) (v4 : Int32) (v5 : Int32) (v6 : Int32) : mj_den mj_P E d 30 123 [Value.ref 194, Value.int v1, Value.ref 26, Value.int v3, Value.int v4, Value.int v5, Value.int v6, Value.float 0] [] (mj_hw w c hi hl) = mj_den mj_P E d 30 132 [Value.ref 194, Value.int v1, Value.ref 26, Value.int v3, Value.int (0 : Int32), Value.int (-1 : Int32), Value.int (0 : Int32), Value.float 0] [] (mj_hw w c hi hl) := by
  rw [mj_den_eq, f30_123]
  exact zt_iconst rfl (zt_istore (Nat.le_of_ble_eq_true rfl) rfl rfl (zt_iconst rfl (zt_istore (Nat.le_of_ble_eq_true rfl) rfl rfl (zt_iconst rfl (zt_istore (Nat.le_of_ble_eq_true rfl) rfl rfl (zt_end rfl))))))
set_option maxRecDepth 100000 in
theorem q30_123_1 (E : mj_E) (d w c : Nat) (hi : Nat → Nat → Int32) (hl : Nat → Nat → Int64) (v1 : Int32) (v3 : Int32) (v4 : Int32) (v5 : Int32) : mj_den mj_P E d 30 123 [Value.ref 194, Value.int v1, Value.ref 26, Value.int v3, Value.int v4, Value.int v5, Value.float 0, Value.float 0] [] (mj_hw w c hi hl) = mj_den mj_P E d 30 132 [Value.ref 194, Value.int v1, Value.ref 26, Value.int v3, Value.int (0 : Int32), Value.int (-1 : Int32), Value.int (0 : Int32), Value.float 0] [] (mj_hw w c hi hl) := by
  rw [mj_den_eq, f30_123]
  exact zt_iconst rfl (zt_istore (Nat.le_of_ble_eq_true rfl) rfl rfl (zt_iconst rfl (zt_istore (Nat.le_of_ble_eq_true rfl) rfl rfl (zt_iconst rfl (zt_istore (Nat.le_of_ble_eq_true rfl) rfl rfl (zt_end rfl))))))
set_option maxRecDepth 100000 in
theorem q30_123_2 (E : mj_E) (d w c : Nat) (hi : Nat → Nat → Int32) (hl : Nat → Nat → Int64) (v1 : Int32) (v3 : Int32) (v4 : Int32) : mj_den mj_P E d 30 123 [Value.ref 194, Value.int v1, Value.ref 26, Value.int v3, Value.int v4, Value.float 0, Value.float 0, Value.float 0] [] (mj_hw w c hi hl) = mj_den mj_P E d 30 132 [Value.ref 194, Value.int v1, Value.ref 26, Value.int v3, Value.int (0 : Int32), Value.int (-1 : Int32), Value.int (0 : Int32), Value.float 0] [] (mj_hw w c hi hl) := by
  rw [mj_den_eq, f30_123]
  exact zt_iconst rfl (zt_istore (Nat.le_of_ble_eq_true rfl) rfl rfl (zt_iconst rfl (zt_istore (Nat.le_of_ble_eq_true rfl) rfl rfl (zt_iconst rfl (zt_istore (Nat.le_of_ble_eq_true rfl) rfl rfl (zt_end rfl))))))
set_option maxRecDepth 100000 in
theorem f30_132 : mj_find (mj_P 30).2.2.2.2 132 = [(.iload 6, 2, 0, []), (.aload_n 0, 1, 0, []), (.getfield 9, 3, 0, [4, 0, 0, 595]), (.if_icmp .ge 72, 3, 0, [210]), (.aload_n 0, 1, 0, []), (.iload 4, 2, 0, []), (.iload 5, 2, 0, []), (.invokevirtual 64, 3, 0, [0, 33, 4, 2, 1, 1145, 1147, 29, 153, 1148])] := rfl
set_option maxRecDepth 100000 in
theorem q30_132 (E : mj_E) (d w c : Nat) (hi : Nat → Nat → Int32) (hl : Nat → Nat → Int64) (v1 : Int32) (v3 : Int32) (v4 : Int32) (v5 : Int32) (v6 : Int32) : mj_den mj_P E d 30 132 [Value.ref 194, Value.int v1, Value.ref 26, Value.int v3, Value.int v4, Value.int v5, Value.int v6, Value.float 0] [] (mj_hw w c hi hl) = if (hi 194 0) ≤ v6 then mj_den mj_P E d 30 210 [Value.ref 194, Value.int v1, Value.ref 26, Value.int v3, Value.int v4, Value.int v5, Value.int v6, Value.float 0] [] (mj_hw w c hi hl) else mj_bi (mj_dc mj_P E d 33 [Value.ref 194, Value.int v4, Value.int v5] (mj_hw w c hi hl)) (fun x1 h1 => mj_den mj_P E d 30 149 [Value.ref 194, Value.int v1, Value.ref 26, Value.int v3, Value.int v4, Value.int v5, Value.int v6, Value.float 0] [Value.int x1] h1) := by
  rw [mj_den_eq, f30_132]
  exact zt_iload rfl rfl (zt_aload_n rfl rfl (zt_geti (mjkd194 _ _ _ _) rfl rfl (zt_icmp_ge rfl rfl (zt_aload_n rfl rfl (zt_iload rfl rfl (zt_iload rfl rfl (zt_call0_1 rfl (mjkd194 _ _ _ _) (Nat.le_of_ble_eq_true rfl) rfl rfl)))))))
set_option maxRecDepth 100000 in
theorem q30_132_1 (E : mj_E) (d w c : Nat) (hi : Nat → Nat → Int32) (hl : Nat → Nat → Int64) (v1 : Int32) (v3 : Int32) (v4 : Int32) (v5 : Int32) (v6 : Int32) (v7 : Int32) : mj_den mj_P E d 30 132 [Value.ref 194, Value.int v1, Value.ref 26, Value.int v3, Value.int v4, Value.int v5, Value.int v6, Value.int v7] [] (mj_hw w c hi hl) = if (hi 194 0) ≤ v6 then mj_den mj_P E d 30 210 [Value.ref 194, Value.int v1, Value.ref 26, Value.int v3, Value.int v4, Value.int v5, Value.int v6, Value.int v7] [] (mj_hw w c hi hl) else mj_bi (mj_dc mj_P E d 33 [Value.ref 194, Value.int v4, Value.int v5] (mj_hw w c hi hl)) (fun x1 h1 => mj_den mj_P E d 30 149 [Value.ref 194, Value.int v1, Value.ref 26, Value.int v3, Value.int v4, Value.int v5, Value.int v6, Value.int v7] [Value.int x1] h1) := by
  rw [mj_den_eq, f30_132]
  exact zt_iload rfl rfl (zt_aload_n rfl rfl (zt_geti (mjkd194 _ _ _ _) rfl rfl (zt_icmp_ge rfl rfl (zt_aload_n rfl rfl (zt_iload rfl rfl (zt_iload rfl rfl (zt_call0_1 rfl (mjkd194 _ _ _ _) (Nat.le_of_ble_eq_true rfl) rfl rfl)))))))
set_option maxRecDepth 100000 in
theorem f30_149 : mj_find (mj_P 30).2.2.2.2 149 = [(.istore 7, 2, 0, []), (.iload 7, 2, 0, []), (.iconst (-1), 1, (-1), []), (.if_icmp .ne 4, 3, 0, [158]), (.return_, 1, 0, [])] := rfl
set_option maxRecDepth 100000 in
theorem q30_149 (E : mj_E) (d w c : Nat) (hi : Nat → Nat → Int32) (hl : Nat → Nat → Int64) (v1 : Int32) (v3 : Int32) (v4 : Int32) (v5 : Int32) (v6 : Int32) (s0 : Int32) : mj_den mj_P E d 30 149 [Value.ref 194, Value.int v1, Value.ref 26, Value.int v3, Value.int v4, Value.int v5, Value.int v6, Value.float 0] [Value.int s0] (mj_hw w c hi hl) = if ¬ s0 = (-1 : Int32) then mj_den mj_P E d 30 158 [Value.ref 194, Value.int v1, Value.ref 26, Value.int v3, Value.int v4, Value.int v5, Value.int v6, Value.int s0] [] (mj_hw w c hi hl) else some (none, (mj_hw w c hi hl)) := by
  rw [mj_den_eq, f30_149]
  exact zt_istore (Nat.le_of_ble_eq_true rfl) rfl rfl (zt_iload rfl rfl (zt_iconst rfl (zt_icmp_ne rfl rfl (zt_return))))
set_option maxRecDepth 100000 in
theorem q30_149_1 (E : mj_E) (d w c : Nat) (hi : Nat → Nat → Int32) (hl : Nat → Nat → Int64) (v1 : Int32) (v3 : Int32) (v4 : Int32) (v5 : Int32) (v6 : Int32) (v7 : Int32) (s0 : Int32) : mj_den mj_P E d 30 149 [Value.ref 194, Value.int v1, Value.ref 26, Value.int v3, Value.int v4, Value.int v5, Value.int v6, Value.int v7] [Value.int s0] (mj_hw w c hi hl) = if ¬ s0 = (-1 : Int32) then mj_den mj_P E d 30 158 [Value.ref 194, Value.int v1, Value.ref 26, Value.int v3, Value.int v4, Value.int v5, Value.int v6, Value.int s0] [] (mj_hw w c hi hl) else some (none, (mj_hw w c hi hl)) := by
  rw [mj_den_eq, f30_149]
  exact zt_istore (Nat.le_of_ble_eq_true rfl) rfl rfl (zt_iload rfl rfl (zt_iconst rfl (zt_icmp_ne rfl rfl (zt_return))))
set_option maxRecDepth 100000 in
theorem f30_158 : mj_find (mj_P 30).2.2.2.2 158 = [(.iload 6, 2, 0, []), (.ifCond .ne 17, 3, 0, [177]), (.aload_n 0, 1, 0, []), (.aload_n 0, 1, 0, []), (.iload 4, 2, 0, []), (.iload 5, 2, 0, []), (.iload 7, 2, 0, []), (.invokevirtual 67, 3, 0, [0, 32, 4, 3, 1, 1149, 1151, 30, 153, 1152])] := rfl
set_option maxRecDepth 100000 in
theorem q30_158 (E : mj_E) (d w c : Nat) (hi : Nat → Nat → Int32) (hl : Nat → Nat → Int64) (v1 : Int32) (v3 : Int32) (v4 : Int32) (v5 : Int32) (v6 : Int32) (v7 : Int32) : mj_den mj_P E d 30 158 [Value.ref 194, Value.int v1, Value.ref 26, Value.int v3, Value.int v4, Value.int v5, Value.int v6, Value.int v7] [] (mj_hw w c hi hl) = if ¬ v6 = 0 then mj_den mj_P E d 30 177 [Value.ref 194, Value.int v1, Value.ref 26, Value.int v3, Value.int v4, Value.int v5, Value.int v6, Value.int v7] [] (mj_hw w c hi hl) else mj_bi (mj_dc mj_P E d 32 [Value.ref 194, Value.int v4, Value.int v5, Value.int v7] (mj_hw w c hi hl)) (fun x1 h1 => mj_den mj_P E d 30 174 [Value.ref 194, Value.int v1, Value.ref 26, Value.int v3, Value.int v4, Value.int v5, Value.int v6, Value.int v7] [Value.int x1, Value.ref 194] h1) := by
  rw [mj_den_eq, f30_158]
  exact zt_iload rfl rfl (zt_if_ne rfl rfl (zt_aload_n rfl rfl (zt_aload_n rfl rfl (zt_iload rfl rfl (zt_iload rfl rfl (zt_iload rfl rfl (zt_call0_1 rfl (mjkd194 _ _ _ _) (Nat.le_of_ble_eq_true rfl) rfl rfl)))))))
set_option maxRecDepth 100000 in
theorem f30_174 : mj_find (mj_P 30).2.2.2.2 174 = [(.putfield 15, 3, 0, [4, 1, 0, 596])] := rfl
set_option maxRecDepth 100000 in
theorem q30_174 (E : mj_E) (d w c : Nat) (hi : Nat → Nat → Int32) (hl : Nat → Nat → Int64) (v1 : Int32) (v3 : Int32) (v4 : Int32) (v5 : Int32) (v6 : Int32) (v7 : Int32) (s0 : Int32) : mj_den mj_P E d 30 174 [Value.ref 194, Value.int v1, Value.ref 26, Value.int v3, Value.int v4, Value.int v5, Value.int v6, Value.int v7] [Value.int s0, Value.ref 194] (mj_hw w c hi hl) = mj_den mj_P E d 30 177 [Value.ref 194, Value.int v1, Value.ref 26, Value.int v3, Value.int v4, Value.int v5, Value.int v6, Value.int v7] [] (mj_hw w c (mj_u hi 194 1 s0) hl) := by
  rw [mj_den_eq, f30_174]
  exact zt_puti (mjkd194 _ _ _ _) rfl rfl (zt_end rfl)
set_option maxRecDepth 100000 in
theorem f30_177 : mj_find (mj_P 30).2.2.2.2 177 = [(.aload_n 0, 1, 0, []), (.getfield 18, 3, 0, [4, 2, 3, 597]), (.iload 6, 2, 0, []), (.aload_n 0, 1, 0, []), (.getfield 22, 3, 0, [4, 3, 3, 598]), (.iload 7, 2, 0, []), (.iaload, 1, 0, []), (.iastore, 1, 0, []), (.iload 4, 2, 0, []), (.iconst 1, 1, 1, []), (.iload 7, 2, 0, []), (.ishl, 1, 0, []), (.ior, 1, 0, []), (.istore 4, 2, 0, []), (.iload 7, 2, 0, []), (.istore 5, 2, 0, []), (.iinc 6 1, 3, 1, []), (.goto (-75), 3, 0, [132])] := rfl
set_option maxRecDepth 100000 in
theorem q30_177 (E : mj_E) (d w c : Nat) (hi : Nat → Nat → Int32) (hl : Nat → Nat → Int64) (v1 : Int32) (v3 : Int32) (v4 : Int32) (v5 : Int32) (v6 : Int32) (v7 : Int32) : mj_den mj_P E d 30 177 [Value.ref 194, Value.int v1, Value.ref 26, Value.int v3, Value.int v4, Value.int v5, Value.int v6, Value.int v7] [] (mj_hw w c hi hl) = if 0 ≤ v7 ∧ (v7).toNatClampNeg < 10 then if 0 ≤ v6 ∧ (v6).toNatClampNeg < 10 then mj_den mj_P E d 30 132 [Value.ref 194, Value.int v1, Value.ref 26, Value.int v3, Value.int (v4 ||| ((1 : Int32) <<< (v7 &&& 31))), Value.int v7, Value.int (v6 + (1 : Int32)), Value.int v7] [] (mj_hw w c (mj_u hi 195 ((v6).toNatClampNeg) (hi 196 ((v7).toNatClampNeg))) hl) else none else none := by
  rw [mj_den_eq, f30_177]
  exact zt_aload_n rfl rfl (zt_getr (mjkd194 _ _ _ _) (mjhr194_2 w c) rfl (zt_iload rfl rfl (zt_aload_n rfl rfl (zt_getr (mjkd194 _ _ _ _) (mjhr194_3 w c) rfl (zt_iload rfl rfl (zt_iald (mjkd196 _ _ _ _) (mjln196 _ _ _ _) rfl rfl (zt_iast (mjkd195 _ _ _ _) (mjln195 _ _ _ _) rfl rfl (zt_iload rfl rfl (zt_iconst rfl (zt_iload rfl rfl (zt_ishl rfl (zt_ior rfl (zt_istore (Nat.le_of_ble_eq_true rfl) rfl rfl (zt_iload rfl rfl (zt_istore (Nat.le_of_ble_eq_true rfl) rfl rfl (zt_iinc rfl (Nat.le_of_ble_eq_true rfl) rfl rfl (zt_goto rfl)))))))))))))))))
set_option maxRecDepth 100000 in
theorem f30_210 : mj_find (mj_P 30).2.2.2.2 210 = [(.return_, 1, 0, [])] := rfl
set_option maxRecDepth 100000 in
theorem q30_210 (E : mj_E) (d w c : Nat) (hi : Nat → Nat → Int32) (hl : Nat → Nat → Int64) (v1 : Int32) (v3 : Int32) (v4 : Int32) (v5 : Int32) (v6 : Int32) (v7 : Int32) : mj_den mj_P E d 30 210 [Value.ref 194, Value.int v1, Value.ref 26, Value.int v3, Value.int v4, Value.int v5, Value.int v6, Value.int v7] [] (mj_hw w c hi hl) = some (none, (mj_hw w c hi hl)) := by
  rw [mj_den_eq, f30_210]
  exact zt_return
set_option maxRecDepth 100000 in
theorem q30_210_1 (E : mj_E) (d w c : Nat) (hi : Nat → Nat → Int32) (hl : Nat → Nat → Int64) (v1 : Int32) (v3 : Int32) (v4 : Int32) (v5 : Int32) (v6 : Int32) : mj_den mj_P E d 30 210 [Value.ref 194, Value.int v1, Value.ref 26, Value.int v3, Value.int v4, Value.int v5, Value.int v6, Value.float 0] [] (mj_hw w c hi hl) = some (none, (mj_hw w c hi hl)) := by
  rw [mj_den_eq, f30_210]
  exact zt_return
set_option maxRecDepth 100000 in
theorem f31_0 : mj_find (mj_P 31).2.2.2.2 0 = [(.iconst 0, 1, 0, []), (.istore_n 3, 1, 0, [])] := rfl
set_option maxRecDepth 100000 in
theorem q31_0 (E : mj_E) (d w c : Nat) (hi : Nat → Nat → Int32) (hl : Nat → Nat → Int64) (v1 : Int32) : mj_den mj_P E d 31 0 [Value.ref 194, Value.int v1, Value.ref 26, Value.float 0, Value.float 0, Value.float 0, Value.float 0] [] (mj_hw w c hi hl) = mj_den mj_P E d 31 2 [Value.ref 194, Value.int v1, Value.ref 26, Value.int (0 : Int32), Value.float 0, Value.float 0, Value.float 0] [] (mj_hw w c hi hl) := by
  rw [mj_den_eq, f31_0]
  exact zt_iconst rfl (zt_istore_n (Nat.le_of_ble_eq_true rfl) rfl rfl (zt_end rfl))
set_option maxRecDepth 100000 in
theorem f31_2 : mj_find (mj_P 31).2.2.2.2 2 = [(.iload_n 3, 1, 0, []), (.aload_n 0, 1, 0, []), (.getfield 28, 3, 0, [4, 5, 3, 600]), (.arraylength, 1, 0, []), (.if_icmp .ge 16, 3, 0, [24]), (.aload_n 0, 1, 0, []), (.getfield 28, 3, 0, [4, 5, 3, 600]), (.iload_n 3, 1, 0, []), (.iconst 0, 1, 0, []), (.iastore, 1, 0, []), (.iinc 3 1, 3, 1, []), (.goto (-19), 3, 0, [2])] := rfl
set_option maxRecDepth 100000 in
theorem q31_2 (E : mj_E) (d w c : Nat) (hi : Nat → Nat → Int32) (hl : Nat → Nat → Int64) (v1 : Int32) (v3 : Int32) : mj_den mj_P E d 31 2 [Value.ref 194, Value.int v1, Value.ref 26, Value.int v3, Value.float 0, Value.float 0, Value.float 0] [] (mj_hw w c hi hl) = if (Int32.ofNat 64) ≤ v3 then mj_den mj_P E d 31 24 [Value.ref 194, Value.int v1, Value.ref 26, Value.int v3, Value.float 0, Value.float 0, Value.float 0] [] (mj_hw w c hi hl) else if 0 ≤ v3 ∧ (v3).toNatClampNeg < 64 then mj_den mj_P E d 31 2 [Value.ref 194, Value.int v1, Value.ref 26, Value.int (v3 + (1 : Int32)), Value.float 0, Value.float 0, Value.float 0] [] (mj_hw w c (mj_u hi 198 ((v3).toNatClampNeg) (0 : Int32)) hl) else none := by
  rw [mj_den_eq, f31_2]
  exact zt_iload_n rfl rfl (zt_aload_n rfl rfl (zt_getr (mjkd194 _ _ _ _) (mjhr194_5 w c) rfl (zt_alen (q := 100) (mjkd198 _ _ _ _) (by decide) (mjln198 _ _ _ _) rfl (zt_icmp_ge rfl rfl (zt_aload_n rfl rfl (zt_getr (mjkd194 _ _ _ _) (mjhr194_5 w c) rfl (zt_iload_n rfl rfl (zt_iconst rfl (zt_iast (mjkd198 _ _ _ _) (mjln198 _ _ _ _) rfl rfl (zt_iinc rfl (Nat.le_of_ble_eq_true rfl) rfl rfl (zt_goto rfl)))))))))))
set_option maxRecDepth 100000 in
theorem f31_24 : mj_find (mj_P 31).2.2.2.2 24 = [(.iconst 0, 1, 0, []), (.istore_n 3, 1, 0, [])] := rfl
set_option maxRecDepth 100000 in
theorem q31_24 (E : mj_E) (d w c : Nat) (hi : Nat → Nat → Int32) (hl : Nat → Nat → Int64) (v1 : Int32) (v3 : Int32) : mj_den mj_P E d 31 24 [Value.ref 194, Value.int v1, Value.ref 26, Value.int v3, Value.float 0, Value.float 0, Value.float 0] [] (mj_hw w c hi hl) = mj_den mj_P E d 31 26 [Value.ref 194, Value.int v1, Value.ref 26, Value.int (0 : Int32), Value.float 0, Value.float 0, Value.float 0] [] (mj_hw w c hi hl) := by
  rw [mj_den_eq, f31_24]
  exact zt_iconst rfl (zt_istore_n (Nat.le_of_ble_eq_true rfl) rfl rfl (zt_end rfl))
set_option maxRecDepth 100000 in
theorem f31_26 : mj_find (mj_P 31).2.2.2.2 26 = [(.iload_n 3, 1, 0, []), (.aload_n 2, 1, 0, []), (.getfield 71, 3, 0, [3, 0, 0, 328]), (.if_icmp .ge 85, 3, 0, [116]), (.iload_n 3, 1, 0, []), (.bipush 16, 2, 16, []), (.if_icmp .ge 79, 3, 0, [116]), (.aload_n 2, 1, 0, []), (.getfield 76, 3, 0, [3, 2, 3, 335]), (.iload_n 3, 1, 0, []), (.iaload, 1, 0, []), (.istore 4, 2, 0, []), (.aload_n 2, 1, 0, []), (.getfield 79, 3, 0, [3, 3, 3, 340]), (.iload_n 3, 1, 0, []), (.iaload, 1, 0, []), (.istore 5, 2, 0, []), (.iload_n 1, 1, 0, []), (.iload 4, 2, 0, []), (.invokestatic 82, 3, 0, [1, 29, 0, 2, 1, 1141, 1142, 153, 1143])] := rfl
set_option maxRecDepth 100000 in
theorem q31_26 (E : mj_E) (d w c : Nat) (hi : Nat → Nat → Int32) (hl : Nat → Nat → Int64) (v1 : Int32) (v3 : Int32) : mj_den mj_P E d 31 26 [Value.ref 194, Value.int v1, Value.ref 26, Value.int v3, Value.float 0, Value.float 0, Value.float 0] [] (mj_hw w c hi hl) = if (hi 26 0) ≤ v3 then mj_den mj_P E d 31 116 [Value.ref 194, Value.int v1, Value.ref 26, Value.int v3, Value.float 0, Value.float 0, Value.float 0] [] (mj_hw w c hi hl) else if (16 : Int32) ≤ v3 then mj_den mj_P E d 31 116 [Value.ref 194, Value.int v1, Value.ref 26, Value.int v3, Value.float 0, Value.float 0, Value.float 0] [] (mj_hw w c hi hl) else if 0 ≤ v3 ∧ (v3).toNatClampNeg < 16 then if 0 ≤ v3 ∧ (v3).toNatClampNeg < 16 then mj_bi (mj_dc mj_P E d 29 [Value.int v1, Value.int (hi 28 ((v3).toNatClampNeg))] (mj_hw w c hi hl)) (fun x1 h1 => mj_den mj_P E d 31 62 [Value.ref 194, Value.int v1, Value.ref 26, Value.int v3, Value.int (hi 28 ((v3).toNatClampNeg)), Value.int (hi 29 ((v3).toNatClampNeg)), Value.float 0] [Value.int x1] h1) else none else none := by
  rw [mj_den_eq, f31_26]
  exact zt_iload_n rfl rfl (zt_aload_n rfl rfl (zt_geti (mjkd26 _ _ _ _) rfl rfl (zt_icmp_ge rfl rfl (zt_iload_n rfl rfl (zt_bipush rfl (zt_icmp_ge rfl rfl (zt_aload_n rfl rfl (zt_getr (mjkd26 _ _ _ _) (mjhr26_2 w c) rfl (zt_iload_n rfl rfl (zt_iald (mjkd28 _ _ _ _) (mjln28 _ _ _ _) rfl rfl (zt_istore (Nat.le_of_ble_eq_true rfl) rfl rfl (zt_aload_n rfl rfl (zt_getr (mjkd26 _ _ _ _) (mjhr26_3 w c) rfl (zt_iload_n rfl rfl (zt_iald (mjkd29 _ _ _ _) (mjln29 _ _ _ _) rfl rfl (zt_istore (Nat.le_of_ble_eq_true rfl) rfl rfl (zt_iload_n rfl rfl (zt_iload rfl rfl (zt_call1_1 (Nat.le_of_ble_eq_true rfl) rfl (Nat.le_of_ble_eq_true rfl) rfl rfl)))))))))))))))))))
set_option maxRecDepth 100000 in
theorem q31_26_1 (E : mj_E) (d w c : Nat) (hi : Nat → Nat → Int32) (hl : Nat → Nat → Int64) (v1 : Int32) (v3 : Int32) (v4 : Int32) (v5 : Int32) (v6 : Int32) : mj_den mj_P E d 31 26 [Value.ref 194, Value.int v1, Value.ref 26, Value.int v3, Value.int v4, Value.int v5, Value.int v6] [] (mj_hw w c hi hl) = if (hi 26 0) ≤ v3 then mj_den mj_P E d 31 116 [Value.ref 194, Value.int v1, Value.ref 26, Value.int v3, Value.int v4, Value.int v5, Value.int v6] [] (mj_hw w c hi hl) else if (16 : Int32) ≤ v3 then mj_den mj_P E d 31 116 [Value.ref 194, Value.int v1, Value.ref 26, Value.int v3, Value.int v4, Value.int v5, Value.int v6] [] (mj_hw w c hi hl) else if 0 ≤ v3 ∧ (v3).toNatClampNeg < 16 then if 0 ≤ v3 ∧ (v3).toNatClampNeg < 16 then mj_bi (mj_dc mj_P E d 29 [Value.int v1, Value.int (hi 28 ((v3).toNatClampNeg))] (mj_hw w c hi hl)) (fun x1 h1 => mj_den mj_P E d 31 62 [Value.ref 194, Value.int v1, Value.ref 26, Value.int v3, Value.int (hi 28 ((v3).toNatClampNeg)), Value.int (hi 29 ((v3).toNatClampNeg)), Value.int v6] [Value.int x1] h1) else none else none := by
  rw [mj_den_eq, f31_26]
  exact zt_iload_n rfl rfl (zt_aload_n rfl rfl (zt_geti (mjkd26 _ _ _ _) rfl rfl (zt_icmp_ge rfl rfl (zt_iload_n rfl rfl (zt_bipush rfl (zt_icmp_ge rfl rfl (zt_aload_n rfl rfl (zt_getr (mjkd26 _ _ _ _) (mjhr26_2 w c) rfl (zt_iload_n rfl rfl (zt_iald (mjkd28 _ _ _ _) (mjln28 _ _ _ _) rfl rfl (zt_istore (Nat.le_of_ble_eq_true rfl) rfl rfl (zt_aload_n rfl rfl (zt_getr (mjkd26 _ _ _ _) (mjhr26_3 w c) rfl (zt_iload_n rfl rfl (zt_iald (mjkd29 _ _ _ _) (mjln29 _ _ _ _) rfl rfl (zt_istore (Nat.le_of_ble_eq_true rfl) rfl rfl (zt_iload_n rfl rfl (zt_iload rfl rfl (zt_call1_1 (Nat.le_of_ble_eq_true rfl) rfl (Nat.le_of_ble_eq_true rfl) rfl rfl)))))))))))))))))))
set_option maxRecDepth 100000 in
theorem f31_62 : mj_find (mj_P 31).2.2.2.2 62 = [(.bipush 8, 2, 8, []), (.imul, 1, 0, []), (.iload_n 1, 1, 0, []), (.iload 5, 2, 0, []), (.invokestatic 82, 3, 0, [1, 29, 0, 2, 1, 1141, 1142, 153, 1143])] := rfl
set_option maxRecDepth 100000 in
theorem q31_62 (E : mj_E) (d w c : Nat) (hi : Nat → Nat → Int32) (hl : Nat → Nat → Int64) (v1 : Int32) (v3 : Int32) (v4 : Int32) (v5 : Int32) (s0 : Int32) : mj_den mj_P E d 31 62 [Value.ref 194, Value.int v1, Value.ref 26, Value.int v3, Value.int v4, Value.int v5, Value.float 0] [Value.int s0] (mj_hw w c hi hl) = mj_bi (mj_dc mj_P E d 29 [Value.int v1, Value.int v5] (mj_hw w c hi hl)) (fun x1 h1 => mj_den mj_P E d 31 71 [Value.ref 194, Value.int v1, Value.ref 26, Value.int v3, Value.int v4, Value.int v5, Value.float 0] [Value.int x1, Value.int (s0 * (8 : Int32))] h1) := by
  rw [mj_den_eq, f31_62]
  exact zt_bipush rfl (zt_imul rfl (zt_iload_n rfl rfl (zt_iload rfl rfl (zt_call1_1 (Nat.le_of_ble_eq_true rfl) rfl (Nat.le_of_ble_eq_true rfl) rfl rfl))))
set_option maxRecDepth 100000 in
theorem q31_62_1 (E : mj_E) (d w c : Nat) (hi : Nat → Nat → Int32) (hl : Nat → Nat → Int64) (v1 : Int32) (v3 : Int32) (v4 : Int32) (v5 : Int32) (v6 : Int32) (s0 : Int32) : mj_den mj_P E d 31 62 [Value.ref 194, Value.int v1, Value.ref 26, Value.int v3, Value.int v4, Value.int v5, Value.int v6] [Value.int s0] (mj_hw w c hi hl) = mj_bi (mj_dc mj_P E d 29 [Value.int v1, Value.int v5] (mj_hw w c hi hl)) (fun x1 h1 => mj_den mj_P E d 31 71 [Value.ref 194, Value.int v1, Value.ref 26, Value.int v3, Value.int v4, Value.int v5, Value.int v6] [Value.int x1, Value.int (s0 * (8 : Int32))] h1) := by
  rw [mj_den_eq, f31_62]
  exact zt_bipush rfl (zt_imul rfl (zt_iload_n rfl rfl (zt_iload rfl rfl (zt_call1_1 (Nat.le_of_ble_eq_true rfl) rfl (Nat.le_of_ble_eq_true rfl) rfl rfl))))
set_option maxRecDepth 100000 in
theorem f31_71 : mj_find (mj_P 31).2.2.2.2 71 = [(.iadd, 1, 0, []), (.istore 6, 2, 0, []), (.iload_n 1, 1, 0, []), (.iload 4, 2, 0, []), (.invokestatic 40, 3, 0, [6, 148, 0, 2, 1, 1135, 758, 143, 759])] := rfl
set_option maxRecDepth 100000 in
theorem q31_71 (E : mj_E) (d w c : Nat) (hi : Nat → Nat → Int32) (hl : Nat → Nat → Int64) (v1 : Int32) (v3 : Int32) (v4 : Int32) (v5 : Int32) (s0 : Int32) (s1 : Int32) : mj_den mj_P E d 31 71 [Value.ref 194, Value.int v1, Value.ref 26, Value.int v3, Value.int v4, Value.int v5, Value.float 0] [Value.int s0, Value.int s1] (mj_hw w c hi hl) = mj_bi (mj_dc mj_P E d 148 [Value.int v1, Value.int v4] (mj_hw w c hi hl)) (fun x1 h1 => mj_den mj_P E d 31 80 [Value.ref 194, Value.int v1, Value.ref 26, Value.int v3, Value.int v4, Value.int v5, Value.int (s1 + s0)] [Value.int x1] h1) := by
  rw [mj_den_eq, f31_71]
  exact zt_iadd rfl (zt_istore (Nat.le_of_ble_eq_true rfl) rfl rfl (zt_iload_n rfl rfl (zt_iload rfl rfl (zt_call6_1 (Nat.le_of_ble_eq_true rfl) rfl (Nat.le_of_ble_eq_true rfl) rfl rfl))))
set_option maxRecDepth 100000 in
theorem q31_71_1 (E : mj_E) (d w c : Nat) (hi : Nat → Nat → Int32) (hl : Nat → Nat → Int64) (v1 : Int32) (v3 : Int32) (v4 : Int32) (v5 : Int32) (v6 : Int32) (s0 : Int32) (s1 : Int32) : mj_den mj_P E d 31 71 [Value.ref 194, Value.int v1, Value.ref 26, Value.int v3, Value.int v4, Value.int v5, Value.int v6] [Value.int s0, Value.int s1] (mj_hw w c hi hl) = mj_bi (mj_dc mj_P E d 148 [Value.int v1, Value.int v4] (mj_hw w c hi hl)) (fun x1 h1 => mj_den mj_P E d 31 80 [Value.ref 194, Value.int v1, Value.ref 26, Value.int v3, Value.int v4, Value.int v5, Value.int (s1 + s0)] [Value.int x1] h1) := by
  rw [mj_den_eq, f31_71]
  exact zt_iadd rfl (zt_istore (Nat.le_of_ble_eq_true rfl) rfl rfl (zt_iload_n rfl rfl (zt_iload rfl rfl (zt_call6_1 (Nat.le_of_ble_eq_true rfl) rfl (Nat.le_of_ble_eq_true rfl) rfl rfl))))
set_option maxRecDepth 100000 in
theorem f31_80 : mj_find (mj_P 31).2.2.2.2 80 = [(.ifCond .eq 30, 3, 0, [110]), (.iload_n 1, 1, 0, []), (.iload 5, 2, 0, []), (.invokestatic 40, 3, 0, [6, 148, 0, 2, 1, 1135, 758, 143, 759])] := rfl
set_option maxRecDepth 100000 in
theorem q31_80 (E : mj_E) (d w c : Nat) (hi : Nat → Nat → Int32) (hl : Nat → Nat → Int64) (v1 : Int32) (v3 : Int32) (v4 : Int32) (v5 : Int32) (v6 : Int32) (s0 : Int32) : mj_den mj_P E d 31 80 [Value.ref 194, Value.int v1, Value.ref 26, Value.int v3, Value.int v4, Value.int v5, Value.int v6] [Value.int s0] (mj_hw w c hi hl) = if s0 = 0 then mj_den mj_P E d 31 110 [Value.ref 194, Value.int v1, Value.ref 26, Value.int v3, Value.int v4, Value.int v5, Value.int v6] [] (mj_hw w c hi hl) else mj_bi (mj_dc mj_P E d 148 [Value.int v1, Value.int v5] (mj_hw w c hi hl)) (fun x1 h1 => mj_den mj_P E d 31 89 [Value.ref 194, Value.int v1, Value.ref 26, Value.int v3, Value.int v4, Value.int v5, Value.int v6] [Value.int x1] h1) := by
  rw [mj_den_eq, f31_80]
  exact zt_if_eq rfl rfl (zt_iload_n rfl rfl (zt_iload rfl rfl (zt_call6_1 (Nat.le_of_ble_eq_true rfl) rfl (Nat.le_of_ble_eq_true rfl) rfl rfl)))
set_option maxRecDepth 100000 in
theorem f31_89 : mj_find (mj_P 31).2.2.2.2 89 = [(.ifCond .eq 21, 3, 0, [110]), (.iload 6, 2, 0, []), (.aload_n 0, 1, 0, []), (.getfield 28, 3, 0, [4, 5, 3, 600]), (.arraylength, 1, 0, []), (.if_icmp .ge 11, 3, 0, [110]), (.aload_n 0, 1, 0, []), (.getfield 28, 3, 0, [4, 5, 3, 600]), (.iload 6, 2, 0, []), (.iconst 1, 1, 1, []), (.iastore, 1, 0, [])] := rfl
set_option maxRecDepth 100000 in
theorem q31_89 (E : mj_E) (d w c : Nat) (hi : Nat → Nat → Int32) (hl : Nat → Nat → Int64) (v1 : Int32) (v3 : Int32) (v4 : Int32) (v5 : Int32) (v6 : Int32) (s0 : Int32) : mj_den mj_P E d 31 89 [Value.ref 194, Value.int v1, Value.ref 26, Value.int v3, Value.int v4, Value.int v5, Value.int v6] [Value.int s0] (mj_hw w c hi hl) = if s0 = 0 then mj_den mj_P E d 31 110 [Value.ref 194, Value.int v1, Value.ref 26, Value.int v3, Value.int v4, Value.int v5, Value.int v6] [] (mj_hw w c hi hl) else if (Int32.ofNat 64) ≤ v6 then mj_den mj_P E d 31 110 [Value.ref 194, Value.int v1, Value.ref 26, Value.int v3, Value.int v4, Value.int v5, Value.int v6] [] (mj_hw w c hi hl) else if 0 ≤ v6 ∧ (v6).toNatClampNeg < 64 then mj_den mj_P E d 31 110 [Value.ref 194, Value.int v1, Value.ref 26, Value.int v3, Value.int v4, Value.int v5, Value.int v6] [] (mj_hw w c (mj_u hi 198 ((v6).toNatClampNeg) (1 : Int32)) hl) else none := by
  rw [mj_den_eq, f31_89]
  exact zt_if_eq rfl rfl (zt_iload rfl rfl (zt_aload_n rfl rfl (zt_getr (mjkd194 _ _ _ _) (mjhr194_5 w c) rfl (zt_alen (q := 100) (mjkd198 _ _ _ _) (by decide) (mjln198 _ _ _ _) rfl (zt_icmp_ge rfl rfl (zt_aload_n rfl rfl (zt_getr (mjkd194 _ _ _ _) (mjhr194_5 w c) rfl (zt_iload rfl rfl (zt_iconst rfl (zt_iast (mjkd198 _ _ _ _) (mjln198 _ _ _ _) rfl rfl (zt_end rfl)))))))))))
set_option maxRecDepth 100000 in
theorem f31_110 : mj_find (mj_P 31).2.2.2.2 110 = [(.iinc 3 1, 3, 1, []), (.goto (-87), 3, 0, [26])] := rfl
set_option maxRecDepth 100000 in
theorem q31_110 (E : mj_E) (d w c : Nat) (hi : Nat → Nat → Int32) (hl : Nat → Nat → Int64) (v1 : Int32) (v3 : Int32) (v4 : Int32) (v5 : Int32) (v6 : Int32) : mj_den mj_P E d 31 110 [Value.ref 194, Value.int v1, Value.ref 26, Value.int v3, Value.int v4, Value.int v5, Value.int v6] [] (mj_hw w c hi hl) = mj_den mj_P E d 31 26 [Value.ref 194, Value.int v1, Value.ref 26, Value.int (v3 + (1 : Int32)), Value.int v4, Value.int v5, Value.int v6] [] (mj_hw w c hi hl) := by
  rw [mj_den_eq, f31_110]
  exact zt_iinc rfl (Nat.le_of_ble_eq_true rfl) rfl rfl (zt_goto rfl)
set_option maxRecDepth 100000 in
theorem f31_116 : mj_find (mj_P 31).2.2.2.2 116 = [(.return_, 1, 0, [])] := rfl
set_option maxRecDepth 100000 in
theorem q31_116 (E : mj_E) (d w c : Nat) (hi : Nat → Nat → Int32) (hl : Nat → Nat → Int64) (v1 : Int32) (v3 : Int32) (v4 : Int32) (v5 : Int32) (v6 : Int32) : mj_den mj_P E d 31 116 [Value.ref 194, Value.int v1, Value.ref 26, Value.int v3, Value.int v4, Value.int v5, Value.int v6] [] (mj_hw w c hi hl) = some (none, (mj_hw w c hi hl)) := by
  rw [mj_den_eq, f31_116]
  exact zt_return
set_option maxRecDepth 100000 in
theorem q31_116_1 (E : mj_E) (d w c : Nat) (hi : Nat → Nat → Int32) (hl : Nat → Nat → Int64) (v1 : Int32) (v3 : Int32) : mj_den mj_P E d 31 116 [Value.ref 194, Value.int v1, Value.ref 26, Value.int v3, Value.float 0, Value.float 0, Value.float 0] [] (mj_hw w c hi hl) = some (none, (mj_hw w c hi hl)) := by
  rw [mj_den_eq, f31_116]
  exact zt_return
set_option maxRecDepth 100000 in
theorem f32_0 : mj_find (mj_P 32).2.2.2.2 0 = [(.iload_n 2, 1, 0, []), (.iconst (-1), 1, (-1), []), (.if_icmp .ne 7, 3, 0, [9]), (.iconst 0, 1, 0, []), (.goto 26, 3, 0, [32])] := rfl
set_option maxRecDepth 100000 in
theorem q32_0 (E : mj_E) (d w c : Nat) (hi : Nat → Nat → Int32) (hl : Nat → Nat → Int64) (v1 : Int32) (v2 : Int32) (v3 : Int32) : mj_den mj_P E d 32 0 [Value.ref 194, Value.int v1, Value.int v2, Value.int v3, Value.float 0] [] (mj_hw w c hi hl) = if ¬ v2 = (-1 : Int32) then mj_den mj_P E d 32 9 [Value.ref 194, Value.int v1, Value.int v2, Value.int v3, Value.float 0] [] (mj_hw w c hi hl) else mj_den mj_P E d 32 32 [Value.ref 194, Value.int v1, Value.int v2, Value.int v3, Value.float 0] [Value.int (0 : Int32)] (mj_hw w c hi hl) := by
  rw [mj_den_eq, f32_0]
  exact zt_iload_n rfl rfl (zt_iconst rfl (zt_icmp_ne rfl rfl (zt_iconst rfl (zt_goto rfl))))
set_option maxRecDepth 100000 in
theorem f32_9 : mj_find (mj_P 32).2.2.2.2 9 = [(.aload_n 0, 1, 0, []), (.getfield 28, 3, 0, [4, 5, 3, 600]), (.iload_n 2, 1, 0, []), (.bipush 8, 2, 8, []), (.imul, 1, 0, []), (.iload_n 3, 1, 0, []), (.iadd, 1, 0, []), (.iaload, 1, 0, []), (.aload_n 0, 1, 0, []), (.getfield 28, 3, 0, [4, 5, 3, 600]), (.iload_n 3, 1, 0, []), (.bipush 8, 2, 8, []), (.imul, 1, 0, []), (.iload_n 2, 1, 0, []), (.iadd, 1, 0, []), (.iaload, 1, 0, []), (.iadd, 1, 0, [])] := rfl
set_option maxRecDepth 100000 in
theorem q32_9 (E : mj_E) (d w c : Nat) (hi : Nat → Nat → Int32) (hl : Nat → Nat → Int64) (v1 : Int32) (v2 : Int32) (v3 : Int32) : mj_den mj_P E d 32 9 [Value.ref 194, Value.int v1, Value.int v2, Value.int v3, Value.float 0] [] (mj_hw w c hi hl) = if 0 ≤ ((v2 * (8 : Int32)) + v3) ∧ (((v2 * (8 : Int32)) + v3)).toNatClampNeg < 64 then if 0 ≤ ((v3 * (8 : Int32)) + v2) ∧ (((v3 * (8 : Int32)) + v2)).toNatClampNeg < 64 then mj_den mj_P E d 32 32 [Value.ref 194, Value.int v1, Value.int v2, Value.int v3, Value.float 0] [Value.int ((hi 198 ((((v2 * (8 : Int32)) + v3)).toNatClampNeg)) + (hi 198 ((((v3 * (8 : Int32)) + v2)).toNatClampNeg)))] (mj_hw w c hi hl) else none else none := by
  rw [mj_den_eq, f32_9]
  exact zt_aload_n rfl rfl (zt_getr (mjkd194 _ _ _ _) (mjhr194_5 w c) rfl (zt_iload_n rfl rfl (zt_bipush rfl (zt_imul rfl (zt_iload_n rfl rfl (zt_iadd rfl (zt_iald (mjkd198 _ _ _ _) (mjln198 _ _ _ _) rfl rfl (zt_aload_n rfl rfl (zt_getr (mjkd194 _ _ _ _) (mjhr194_5 w c) rfl (zt_iload_n rfl rfl (zt_bipush rfl (zt_imul rfl (zt_iload_n rfl rfl (zt_iadd rfl (zt_iald (mjkd198 _ _ _ _) (mjln198 _ _ _ _) rfl rfl (zt_iadd rfl (zt_end rfl)))))))))))))))))
set_option maxRecDepth 100000 in
theorem f32_32 : mj_find (mj_P 32).2.2.2.2 32 = [(.istore 4, 2, 0, []), (.iload 4, 2, 0, []), (.aload_n 0, 1, 0, []), (.getfield 37, 3, 0, [4, 8, 3, 603]), (.iload_n 1, 1, 0, []), (.iconst 1, 1, 1, []), (.iload_n 3, 1, 0, []), (.ishl, 1, 0, []), (.ior, 1, 0, []), (.bipush 8, 2, 8, []), (.imul, 1, 0, []), (.iload_n 3, 1, 0, []), (.iadd, 1, 0, []), (.iaload, 1, 0, []), (.iadd, 1, 0, []), (.ireturn, 1, 0, [0])] := rfl
set_option maxRecDepth 100000 in
theorem q32_32 (E : mj_E) (d w c : Nat) (hi : Nat → Nat → Int32) (hl : Nat → Nat → Int64) (v1 : Int32) (v2 : Int32) (v3 : Int32) (s0 : Int32) : mj_den mj_P E d 32 32 [Value.ref 194, Value.int v1, Value.int v2, Value.int v3, Value.float 0] [Value.int s0] (mj_hw w c hi hl) = if 0 ≤ (((v1 ||| ((1 : Int32) <<< (v3 &&& 31))) * (8 : Int32)) + v3) ∧ ((((v1 ||| ((1 : Int32) <<< (v3 &&& 31))) * (8 : Int32)) + v3)).toNatClampNeg < 2048 then some (some (Value.int (s0 + (hi 201 (((((v1 ||| ((1 : Int32) <<< (v3 &&& 31))) * (8 : Int32)) + v3)).toNatClampNeg)))), (mj_hw w c hi hl)) else none := by
  rw [mj_den_eq, f32_32]
  exact zt_istore (Nat.le_of_ble_eq_true rfl) rfl rfl (zt_iload rfl rfl (zt_aload_n rfl rfl (zt_getr (mjkd194 _ _ _ _) (mjhr194_8 w c) rfl (zt_iload_n rfl rfl (zt_iconst rfl (zt_iload_n rfl rfl (zt_ishl rfl (zt_ior rfl (zt_bipush rfl (zt_imul rfl (zt_iload_n rfl rfl (zt_iadd rfl (zt_iald (mjkd201 _ _ _ _) (mjln201 _ _ _ _) rfl rfl (zt_iadd rfl (zt_ireturn0)))))))))))))))
set_option maxRecDepth 100000 in
theorem f33_0 : mj_find (mj_P 33).2.2.2.2 0 = [(.iconst (-1), 1, (-1), []), (.istore_n 3, 1, 0, []), (.iconst 0, 1, 0, []), (.istore 4, 2, 0, []), (.iconst 0, 1, 0, []), (.istore 5, 2, 0, [])] := rfl
set_option maxRecDepth 100000 in
theorem q33_0 (E : mj_E) (d w c : Nat) (hi : Nat → Nat → Int32) (hl : Nat → Nat → Int64) (v1 : Int32) (v2 : Int32) : mj_den mj_P E d 33 0 [Value.ref 194, Value.int v1, Value.int v2, Value.float 0, Value.float 0, Value.float 0, Value.float 0] [] (mj_hw w c hi hl) = mj_den mj_P E d 33 8 [Value.ref 194, Value.int v1, Value.int v2, Value.int (-1 : Int32), Value.int (0 : Int32), Value.int (0 : Int32), Value.float 0] [] (mj_hw w c hi hl) := by
  rw [mj_den_eq, f33_0]
  exact zt_iconst rfl (zt_istore_n (Nat.le_of_ble_eq_true rfl) rfl rfl (zt_iconst rfl (zt_istore (Nat.le_of_ble_eq_true rfl) rfl rfl (zt_iconst rfl (zt_istore (Nat.le_of_ble_eq_true rfl) rfl rfl (zt_end rfl))))))
set_option maxRecDepth 100000 in
theorem f33_8 : mj_find (mj_P 33).2.2.2.2 8 = [(.iload 5, 2, 0, []), (.aload_n 0, 1, 0, []), (.getfield 9, 3, 0, [4, 0, 0, 595]), (.if_icmp .ge 47, 3, 0, [61]), (.iload_n 1, 1, 0, []), (.iload 5, 2, 0, []), (.invokestatic 40, 3, 0, [6, 148, 0, 2, 1, 1135, 758, 143, 759])] := rfl
set_option maxRecDepth 100000 in
theorem q33_8 (E : mj_E) (d w c : Nat) (hi : Nat → Nat → Int32) (hl : Nat → Nat → Int64) (v1 : Int32) (v2 : Int32) (v3 : Int32) (v4 : Int32) (v5 : Int32) : mj_den mj_P E d 33 8 [Value.ref 194, Value.int v1, Value.int v2, Value.int v3, Value.int v4, Value.int v5, Value.float 0] [] (mj_hw w c hi hl) = if (hi 194 0) ≤ v5 then mj_den mj_P E d 33 61 [Value.ref 194, Value.int v1, Value.int v2, Value.int v3, Value.int v4, Value.int v5, Value.float 0] [] (mj_hw w c hi hl) else mj_bi (mj_dc mj_P E d 148 [Value.int v1, Value.int v5] (mj_hw w c hi hl)) (fun x1 h1 => mj_den mj_P E d 33 23 [Value.ref 194, Value.int v1, Value.int v2, Value.int v3, Value.int v4, Value.int v5, Value.float 0] [Value.int x1] h1) := by
  rw [mj_den_eq, f33_8]
  exact zt_iload rfl rfl (zt_aload_n rfl rfl (zt_geti (mjkd194 _ _ _ _) rfl rfl (zt_icmp_ge rfl rfl (zt_iload_n rfl rfl (zt_iload rfl rfl (zt_call6_1 (Nat.le_of_ble_eq_true rfl) rfl (Nat.le_of_ble_eq_true rfl) rfl rfl))))))
set_option maxRecDepth 100000 in
theorem q33_8_1 (E : mj_E) (d w c : Nat) (hi : Nat → Nat → Int32) (hl : Nat → Nat → Int64) (v1 : Int32) (v2 : Int32) (v3 : Int32) (v4 : Int32) (v5 : Int32) (v6 : Int32) : mj_den mj_P E d 33 8 [Value.ref 194, Value.int v1, Value.int v2, Value.int v3, Value.int v4, Value.int v5, Value.int v6] [] (mj_hw w c hi hl) = if (hi 194 0) ≤ v5 then mj_den mj_P E d 33 61 [Value.ref 194, Value.int v1, Value.int v2, Value.int v3, Value.int v4, Value.int v5, Value.int v6] [] (mj_hw w c hi hl) else mj_bi (mj_dc mj_P E d 148 [Value.int v1, Value.int v5] (mj_hw w c hi hl)) (fun x1 h1 => mj_den mj_P E d 33 23 [Value.ref 194, Value.int v1, Value.int v2, Value.int v3, Value.int v4, Value.int v5, Value.int v6] [Value.int x1] h1) := by
  rw [mj_den_eq, f33_8]
  exact zt_iload rfl rfl (zt_aload_n rfl rfl (zt_geti (mjkd194 _ _ _ _) rfl rfl (zt_icmp_ge rfl rfl (zt_iload_n rfl rfl (zt_iload rfl rfl (zt_call6_1 (Nat.le_of_ble_eq_true rfl) rfl (Nat.le_of_ble_eq_true rfl) rfl rfl))))))
set_option maxRecDepth 100000 in
theorem f33_23 : mj_find (mj_P 33).2.2.2.2 23 = [(.ifCond .ne 32, 3, 0, [55]), (.aload_n 0, 1, 0, []), (.iload_n 1, 1, 0, []), (.iload_n 2, 1, 0, []), (.iload 5, 2, 0, []), (.invokevirtual 67, 3, 0, [0, 32, 4, 3, 1, 1149, 1151, 30, 153, 1152])] := rfl
set_option maxRecDepth 100000 in
theorem q33_23 (E : mj_E) (d w c : Nat) (hi : Nat → Nat → Int32) (hl : Nat → Nat → Int64) (v1 : Int32) (v2 : Int32) (v3 : Int32) (v4 : Int32) (v5 : Int32) (s0 : Int32) : mj_den mj_P E d 33 23 [Value.ref 194, Value.int v1, Value.int v2, Value.int v3, Value.int v4, Value.int v5, Value.float 0] [Value.int s0] (mj_hw w c hi hl) = if ¬ s0 = 0 then mj_den mj_P E d 33 55 [Value.ref 194, Value.int v1, Value.int v2, Value.int v3, Value.int v4, Value.int v5, Value.float 0] [] (mj_hw w c hi hl) else mj_bi (mj_dc mj_P E d 32 [Value.ref 194, Value.int v1, Value.int v2, Value.int v5] (mj_hw w c hi hl)) (fun x1 h1 => mj_den mj_P E d 33 34 [Value.ref 194, Value.int v1, Value.int v2, Value.int v3, Value.int v4, Value.int v5, Value.float 0] [Value.int x1] h1) := by
  rw [mj_den_eq, f33_23]
  exact zt_if_ne rfl rfl (zt_aload_n rfl rfl (zt_iload_n rfl rfl (zt_iload_n rfl rfl (zt_iload rfl rfl (zt_call0_1 rfl (mjkd194 _ _ _ _) (Nat.le_of_ble_eq_true rfl) rfl rfl)))))
set_option maxRecDepth 100000 in
theorem q33_23_1 (E : mj_E) (d w c : Nat) (hi : Nat → Nat → Int32) (hl : Nat → Nat → Int64) (v1 : Int32) (v2 : Int32) (v3 : Int32) (v4 : Int32) (v5 : Int32) (v6 : Int32) (s0 : Int32) : mj_den mj_P E d 33 23 [Value.ref 194, Value.int v1, Value.int v2, Value.int v3, Value.int v4, Value.int v5, Value.int v6] [Value.int s0] (mj_hw w c hi hl) = if ¬ s0 = 0 then mj_den mj_P E d 33 55 [Value.ref 194, Value.int v1, Value.int v2, Value.int v3, Value.int v4, Value.int v5, Value.int v6] [] (mj_hw w c hi hl) else mj_bi (mj_dc mj_P E d 32 [Value.ref 194, Value.int v1, Value.int v2, Value.int v5] (mj_hw w c hi hl)) (fun x1 h1 => mj_den mj_P E d 33 34 [Value.ref 194, Value.int v1, Value.int v2, Value.int v3, Value.int v4, Value.int v5, Value.int v6] [Value.int x1] h1) := by
  rw [mj_den_eq, f33_23]
  exact zt_if_ne rfl rfl (zt_aload_n rfl rfl (zt_iload_n rfl rfl (zt_iload_n rfl rfl (zt_iload rfl rfl (zt_call0_1 rfl (mjkd194 _ _ _ _) (Nat.le_of_ble_eq_true rfl) rfl rfl)))))
set_option maxRecDepth 100000 in
theorem f33_34 : mj_find (mj_P 33).2.2.2.2 34 = [(.istore 6, 2, 0, []), (.iload_n 3, 1, 0, []), (.iconst (-1), 1, (-1), []), (.if_icmp .eq 10, 3, 0, [48]), (.iload 6, 2, 0, []), (.iload 4, 2, 0, []), (.if_icmp .ge 10, 3, 0, [55])] := rfl
set_option maxRecDepth 100000 in
theorem q33_34 (E : mj_E) (d w c : Nat) (hi : Nat → Nat → Int32) (hl : Nat → Nat → Int64) (v1 : Int32) (v2 : Int32) (v3 : Int32) (v4 : Int32) (v5 : Int32) (s0 : Int32) : mj_den mj_P E d 33 34 [Value.ref 194, Value.int v1, Value.int v2, Value.int v3, Value.int v4, Value.int v5, Value.float 0] [Value.int s0] (mj_hw w c hi hl) = if v3 = (-1 : Int32) then mj_den mj_P E d 33 48 [Value.ref 194, Value.int v1, Value.int v2, Value.int v3, Value.int v4, Value.int v5, Value.int s0] [] (mj_hw w c hi hl) else if v4 ≤ s0 then mj_den mj_P E d 33 55 [Value.ref 194, Value.int v1, Value.int v2, Value.int v3, Value.int v4, Value.int v5, Value.int s0] [] (mj_hw w c hi hl) else mj_den mj_P E d 33 48 [Value.ref 194, Value.int v1, Value.int v2, Value.int v3, Value.int v4, Value.int v5, Value.int s0] [] (mj_hw w c hi hl) := by
  rw [mj_den_eq, f33_34]
  exact zt_istore (Nat.le_of_ble_eq_true rfl) rfl rfl (zt_iload_n rfl rfl (zt_iconst rfl (zt_icmp_eq rfl rfl (zt_iload rfl rfl (zt_iload rfl rfl (zt_icmp_ge rfl rfl (zt_end rfl)))))))
set_option maxRecDepth 100000 in
theorem q33_34_1 (E : mj_E) (d w c : Nat) (hi : Nat → Nat → Int32) (hl : Nat → Nat → Int64) (v1 : Int32) (v2 : Int32) (v3 : Int32) (v4 : Int32) (v5 : Int32) (v6 : Int32) (s0 : Int32) : mj_den mj_P E d 33 34 [Value.ref 194, Value.int v1, Value.int v2, Value.int v3, Value.int v4, Value.int v5, Value.int v6] [Value.int s0] (mj_hw w c hi hl) = if v3 = (-1 : Int32) then mj_den mj_P E d 33 48 [Value.ref 194, Value.int v1, Value.int v2, Value.int v3, Value.int v4, Value.int v5, Value.int s0] [] (mj_hw w c hi hl) else if v4 ≤ s0 then mj_den mj_P E d 33 55 [Value.ref 194, Value.int v1, Value.int v2, Value.int v3, Value.int v4, Value.int v5, Value.int s0] [] (mj_hw w c hi hl) else mj_den mj_P E d 33 48 [Value.ref 194, Value.int v1, Value.int v2, Value.int v3, Value.int v4, Value.int v5, Value.int s0] [] (mj_hw w c hi hl) := by
  rw [mj_den_eq, f33_34]
  exact zt_istore (Nat.le_of_ble_eq_true rfl) rfl rfl (zt_iload_n rfl rfl (zt_iconst rfl (zt_icmp_eq rfl rfl (zt_iload rfl rfl (zt_iload rfl rfl (zt_icmp_ge rfl rfl (zt_end rfl)))))))
set_option maxRecDepth 100000 in
theorem f33_48 : mj_find (mj_P 33).2.2.2.2 48 = [(.iload 5, 2, 0, []), (.istore_n 3, 1, 0, []), (.iload 6, 2, 0, []), (.istore 4, 2, 0, [])] := rfl
set_option maxRecDepth 100000 in
theorem q33_48 (E : mj_E) (d w c : Nat) (hi : Nat → Nat → Int32) (hl : Nat → Nat → Int64) (v1 : Int32) (v2 : Int32) (v3 : Int32) (v4 : Int32) (v5 : Int32) (v6 : Int32) : mj_den mj_P E d 33 48 [Value.ref 194, Value.int v1, Value.int v2, Value.int v3, Value.int v4, Value.int v5, Value.int v6] [] (mj_hw w c hi hl) = mj_den mj_P E d 33 55 [Value.ref 194, Value.int v1, Value.int v2, Value.int v5, Value.int v6, Value.int v5, Value.int v6] [] (mj_hw w c hi hl) := by
  rw [mj_den_eq, f33_48]
  exact zt_iload rfl rfl (zt_istore_n (Nat.le_of_ble_eq_true rfl) rfl rfl (zt_iload rfl rfl (zt_istore (Nat.le_of_ble_eq_true rfl) rfl rfl (zt_end rfl))))
set_option maxRecDepth 100000 in
theorem f33_55 : mj_find (mj_P 33).2.2.2.2 55 = [(.iinc 5 1, 3, 1, []), (.goto (-50), 3, 0, [8])] := rfl
set_option maxRecDepth 100000 in
theorem q33_55 (E : mj_E) (d w c : Nat) (hi : Nat → Nat → Int32) (hl : Nat → Nat → Int64) (v1 : Int32) (v2 : Int32) (v3 : Int32) (v4 : Int32) (v5 : Int32) (v6 : Int32) : mj_den mj_P E d 33 55 [Value.ref 194, Value.int v1, Value.int v2, Value.int v3, Value.int v4, Value.int v5, Value.int v6] [] (mj_hw w c hi hl) = mj_den mj_P E d 33 8 [Value.ref 194, Value.int v1, Value.int v2, Value.int v3, Value.int v4, Value.int (v5 + (1 : Int32)), Value.int v6] [] (mj_hw w c hi hl) := by
  rw [mj_den_eq, f33_55]
  exact zt_iinc rfl (Nat.le_of_ble_eq_true rfl) rfl rfl (zt_goto rfl)
set_option maxRecDepth 100000 in
theorem q33_55_1 (E : mj_E) (d w c : Nat) (hi : Nat → Nat → Int32) (hl : Nat → Nat → Int64) (v1 : Int32) (v2 : Int32) (v3 : Int32) (v4 : Int32) (v5 : Int32) : mj_den mj_P E d 33 55 [Value.ref 194, Value.int v1, Value.int v2, Value.int v3, Value.int v4, Value.int v5, Value.float 0] [] (mj_hw w c hi hl) = mj_den mj_P E d 33 8 [Value.ref 194, Value.int v1, Value.int v2, Value.int v3, Value.int v4, Value.int (v5 + (1 : Int32)), Value.float 0] [] (mj_hw w c hi hl) := by
  rw [mj_den_eq, f33_55]
  exact zt_iinc rfl (Nat.le_of_ble_eq_true rfl) rfl rfl (zt_goto rfl)
set_option maxRecDepth 100000 in
theorem f33_61 : mj_find (mj_P 33).2.2.2.2 61 = [(.iload_n 3, 1, 0, []), (.ireturn, 1, 0, [0])] := rfl
set_option maxRecDepth 100000 in
theorem q33_61 (E : mj_E) (d w c : Nat) (hi : Nat → Nat → Int32) (hl : Nat → Nat → Int64) (v1 : Int32) (v2 : Int32) (v3 : Int32) (v4 : Int32) (v5 : Int32) (v6 : Int32) : mj_den mj_P E d 33 61 [Value.ref 194, Value.int v1, Value.int v2, Value.int v3, Value.int v4, Value.int v5, Value.int v6] [] (mj_hw w c hi hl) = some (some (Value.int v3), (mj_hw w c hi hl)) := by
  rw [mj_den_eq, f33_61]
  exact zt_iload_n rfl rfl (zt_ireturn0)
set_option maxRecDepth 100000 in
theorem q33_61_1 (E : mj_E) (d w c : Nat) (hi : Nat → Nat → Int32) (hl : Nat → Nat → Int64) (v1 : Int32) (v2 : Int32) (v3 : Int32) (v4 : Int32) (v5 : Int32) : mj_den mj_P E d 33 61 [Value.ref 194, Value.int v1, Value.int v2, Value.int v3, Value.int v4, Value.int v5, Value.float 0] [] (mj_hw w c hi hl) = some (some (Value.int v3), (mj_hw w c hi hl)) := by
  rw [mj_den_eq, f33_61]
  exact zt_iload_n rfl rfl (zt_ireturn0)
set_option maxRecDepth 100000 in
theorem f34_0 : mj_find (mj_P 34).2.2.2.2 0 = [(.aload_n 0, 1, 0, []), (.aload_n 1, 1, 0, []), (.invokevirtual 85, 3, 0, [0, 35, 4, 1, 1, 1169, 1171, 31, 153, 1172])] := rfl
set_option maxRecDepth 100000 in
theorem q34_0 (E : mj_E) (d w c : Nat) (hi : Nat → Nat → Int32) (hl : Nat → Nat → Int64) : mj_den mj_P E d 34 0 [Value.ref 194, Value.ref 34, Value.float 0, Value.float 0, Value.float 0, Value.float 0, Value.float 0] [] (mj_hw w c hi hl) = mj_bi (mj_dc mj_P E d 35 [Value.ref 194, Value.ref 34] (mj_hw w c hi hl)) (fun x1 h1 => mj_den mj_P E d 34 5 [Value.ref 194, Value.ref 34, Value.float 0, Value.float 0, Value.float 0, Value.float 0, Value.float 0] [Value.int x1] h1) := by
  rw [mj_den_eq, f34_0]
  exact zt_aload_n rfl rfl (zt_aload_n rfl rfl (zt_call0_1 rfl (mjkd194 _ _ _ _) (Nat.le_of_ble_eq_true rfl) rfl rfl))
set_option maxRecDepth 100000 in
theorem f34_5 : mj_find (mj_P 34).2.2.2.2 5 = [(.istore_n 2, 1, 0, []), (.iconst 1, 1, 1, []), (.aload_n 0, 1, 0, []), (.getfield 9, 3, 0, [4, 0, 0, 595]), (.ishl, 1, 0, []), (.iconst 1, 1, 1, []), (.isub, 1, 0, []), (.istore_n 3, 1, 0, []), (.aload_n 0, 1, 0, []), (.getfield 37, 3, 0, [4, 8, 3, 603]), (.iload_n 3, 1, 0, []), (.iconst 0, 1, 0, []), (.iastore, 1, 0, []), (.iload_n 3, 1, 0, []), (.iconst 1, 1, 1, []), (.isub, 1, 0, []), (.istore 4, 2, 0, [])] := rfl
set_option maxRecDepth 100000 in
theorem q34_5 (E : mj_E) (d w c : Nat) (hi : Nat → Nat → Int32) (hl : Nat → Nat → Int64) (s0 : Int32) : mj_den mj_P E d 34 5 [Value.ref 194, Value.ref 34, Value.float 0, Value.float 0, Value.float 0, Value.float 0, Value.float 0] [Value.int s0] (mj_hw w c hi hl) = if 0 ≤ (((1 : Int32) <<< ((hi 194 0) &&& 31)) - (1 : Int32)) ∧ ((((1 : Int32) <<< ((hi 194 0) &&& 31)) - (1 : Int32))).toNatClampNeg < 2048 then mj_den mj_P E d 34 27 [Value.ref 194, Value.ref 34, Value.int s0, Value.int (((1 : Int32) <<< ((hi 194 0) &&& 31)) - (1 : Int32)), Value.int ((((1 : Int32) <<< ((hi 194 0) &&& 31)) - (1 : Int32)) - (1 : Int32)), Value.float 0, Value.float 0] [] (mj_hw w c (mj_u hi 201 (((((1 : Int32) <<< ((hi 194 0) &&& 31)) - (1 : Int32))).toNatClampNeg) (0 : Int32)) hl) else none := by
  rw [mj_den_eq, f34_5]
  exact zt_istore_n (Nat.le_of_ble_eq_true rfl) rfl rfl (zt_iconst rfl (zt_aload_n rfl rfl (zt_geti (mjkd194 _ _ _ _) rfl rfl (zt_ishl rfl (zt_iconst rfl (zt_isub rfl (zt_istore_n (Nat.le_of_ble_eq_true rfl) rfl rfl (zt_aload_n rfl rfl (zt_getr (mjkd194 _ _ _ _) (mjhr194_8 w c) rfl (zt_iload_n rfl rfl (zt_iconst rfl (zt_iast (mjkd201 _ _ _ _) (mjln201 _ _ _ _) rfl rfl (zt_iload_n rfl rfl (zt_iconst rfl (zt_isub rfl (zt_istore (Nat.le_of_ble_eq_true rfl) rfl rfl (zt_end rfl)))))))))))))))))
set_option maxRecDepth 100000 in
theorem f34_27 : mj_find (mj_P 34).2.2.2.2 27 = [(.iload 4, 2, 0, []), (.ifCond .lt 61, 3, 0, [90]), (.aload_n 0, 1, 0, []), (.iload_n 2, 1, 0, []), (.iload 4, 2, 0, []), (.invokevirtual 89, 3, 0, [0, 36, 4, 2, 0, 1173, 1175, 32, 153, 1176])] := rfl
set_option maxRecDepth 100000 in
theorem q34_27 (E : mj_E) (d w c : Nat) (hi : Nat → Nat → Int32) (hl : Nat → Nat → Int64) (v2 : Int32) (v3 : Int32) (v4 : Int32) : mj_den mj_P E d 34 27 [Value.ref 194, Value.ref 34, Value.int v2, Value.int v3, Value.int v4, Value.float 0, Value.float 0] [] (mj_hw w c hi hl) = if v4 < 0 then mj_den mj_P E d 34 90 [Value.ref 194, Value.ref 34, Value.int v2, Value.int v3, Value.int v4, Value.float 0, Value.float 0] [] (mj_hw w c hi hl) else mj_bv (mj_dc mj_P E d 36 [Value.ref 194, Value.int v2, Value.int v4] (mj_hw w c hi hl)) (fun h1 => mj_den mj_P E d 34 39 [Value.ref 194, Value.ref 34, Value.int v2, Value.int v3, Value.int v4, Value.float 0, Value.float 0] [] h1) := by
  rw [mj_den_eq, f34_27]
  exact zt_iload rfl rfl (zt_if_lt rfl rfl (zt_aload_n rfl rfl (zt_iload_n rfl rfl (zt_iload rfl rfl (zt_call0_0 rfl (mjkd194 _ _ _ _) (Nat.le_of_ble_eq_true rfl) rfl rfl)))))
set_option maxRecDepth 100000 in
theorem q34_27_1 (E : mj_E) (d w c : Nat) (hi : Nat → Nat → Int32) (hl : Nat → Nat → Int64) (v2 : Int32) (v3 : Int32) (v4 : Int32) (v5 : Int32) : mj_den mj_P E d 34 27 [Value.ref 194, Value.ref 34, Value.int v2, Value.int v3, Value.int v4, Value.int v5, Value.float 0] [] (mj_hw w c hi hl) = if v4 < 0 then mj_den mj_P E d 34 90 [Value.ref 194, Value.ref 34, Value.int v2, Value.int v3, Value.int v4, Value.int v5, Value.float 0] [] (mj_hw w c hi hl) else mj_bv (mj_dc mj_P E d 36 [Value.ref 194, Value.int v2, Value.int v4] (mj_hw w c hi hl)) (fun h1 => mj_den mj_P E d 34 39 [Value.ref 194, Value.ref 34, Value.int v2, Value.int v3, Value.int v4, Value.int v5, Value.float 0] [] h1) := by
  rw [mj_den_eq, f34_27]
  exact zt_iload rfl rfl (zt_if_lt rfl rfl (zt_aload_n rfl rfl (zt_iload_n rfl rfl (zt_iload rfl rfl (zt_call0_0 rfl (mjkd194 _ _ _ _) (Nat.le_of_ble_eq_true rfl) rfl rfl)))))
set_option maxRecDepth 100000 in
theorem f34_39 : mj_find (mj_P 34).2.2.2.2 39 = [(.aload_n 0, 1, 0, []), (.iload 4, 2, 0, []), (.invokevirtual 93, 3, 0, [0, 37, 4, 1, 1, 1177, 1179, 33, 153, 1180])] := rfl
set_option maxRecDepth 100000 in
theorem q34_39 (E : mj_E) (d w c : Nat) (hi : Nat → Nat → Int32) (hl : Nat → Nat → Int64) (v2 : Int32) (v3 : Int32) (v4 : Int32) : mj_den mj_P E d 34 39 [Value.ref 194, Value.ref 34, Value.int v2, Value.int v3, Value.int v4, Value.float 0, Value.float 0] [] (mj_hw w c hi hl) = mj_bi (mj_dc mj_P E d 37 [Value.ref 194, Value.int v4] (mj_hw w c hi hl)) (fun x1 h1 => mj_den mj_P E d 34 45 [Value.ref 194, Value.ref 34, Value.int v2, Value.int v3, Value.int v4, Value.float 0, Value.float 0] [Value.int x1] h1) := by
  rw [mj_den_eq, f34_39]
  exact zt_aload_n rfl rfl (zt_iload rfl rfl (zt_call0_1 rfl (mjkd194 _ _ _ _) (Nat.le_of_ble_eq_true rfl) rfl rfl))
set_option maxRecDepth 100000 in
theorem q34_39_1 (E : mj_E) (d w c : Nat) (hi : Nat → Nat → Int32) (hl : Nat → Nat → Int64) (v2 : Int32) (v3 : Int32) (v4 : Int32) (v5 : Int32) : mj_den mj_P E d 34 39 [Value.ref 194, Value.ref 34, Value.int v2, Value.int v3, Value.int v4, Value.int v5, Value.float 0] [] (mj_hw w c hi hl) = mj_bi (mj_dc mj_P E d 37 [Value.ref 194, Value.int v4] (mj_hw w c hi hl)) (fun x1 h1 => mj_den mj_P E d 34 45 [Value.ref 194, Value.ref 34, Value.int v2, Value.int v3, Value.int v4, Value.int v5, Value.float 0] [Value.int x1] h1) := by
  rw [mj_den_eq, f34_39]
  exact zt_aload_n rfl rfl (zt_iload rfl rfl (zt_call0_1 rfl (mjkd194 _ _ _ _) (Nat.le_of_ble_eq_true rfl) rfl rfl))
set_option maxRecDepth 100000 in
theorem f34_45 : mj_find (mj_P 34).2.2.2.2 45 = [(.istore 5, 2, 0, []), (.aload_n 0, 1, 0, []), (.getfield 37, 3, 0, [4, 8, 3, 603]), (.iload 4, 2, 0, []), (.iload 5, 2, 0, []), (.iconst (-1), 1, (-1), []), (.if_icmp .ne 7, 3, 0, [63]), (.iconst 0, 1, 0, []), (.goto 23, 3, 0, [83])] := rfl
set_option maxRecDepth 100000 in
theorem q34_45 (E : mj_E) (d w c : Nat) (hi : Nat → Nat → Int32) (hl : Nat → Nat → Int64) (v2 : Int32) (v3 : Int32) (v4 : Int32) (s0 : Int32) : mj_den mj_P E d 34 45 [Value.ref 194, Value.ref 34, Value.int v2, Value.int v3, Value.int v4, Value.float 0, Value.float 0] [Value.int s0] (mj_hw w c hi hl) = if ¬ s0 = (-1 : Int32) then mj_den mj_P E d 34 63 [Value.ref 194, Value.ref 34, Value.int v2, Value.int v3, Value.int v4, Value.int s0, Value.float 0] [Value.int v4, Value.ref 201] (mj_hw w c hi hl) else mj_den mj_P E d 34 83 [Value.ref 194, Value.ref 34, Value.int v2, Value.int v3, Value.int v4, Value.int s0, Value.float 0] [Value.int (0 : Int32), Value.int v4, Value.ref 201] (mj_hw w c hi hl) := by
  rw [mj_den_eq, f34_45]
  exact zt_istore (Nat.le_of_ble_eq_true rfl) rfl rfl (zt_aload_n rfl rfl (zt_getr (mjkd194 _ _ _ _) (mjhr194_8 w c) rfl (zt_iload rfl rfl (zt_iload rfl rfl (zt_iconst rfl (zt_icmp_ne rfl rfl (zt_iconst rfl (zt_goto rfl))))))))
set_option maxRecDepth 100000 in
theorem q34_45_1 (E : mj_E) (d w c : Nat) (hi : Nat → Nat → Int32) (hl : Nat → Nat → Int64) (v2 : Int32) (v3 : Int32) (v4 : Int32) (v5 : Int32) (s0 : Int32) : mj_den mj_P E d 34 45 [Value.ref 194, Value.ref 34, Value.int v2, Value.int v3, Value.int v4, Value.int v5, Value.float 0] [Value.int s0] (mj_hw w c hi hl) = if ¬ s0 = (-1 : Int32) then mj_den mj_P E d 34 63 [Value.ref 194, Value.ref 34, Value.int v2, Value.int v3, Value.int v4, Value.int s0, Value.float 0] [Value.int v4, Value.ref 201] (mj_hw w c hi hl) else mj_den mj_P E d 34 83 [Value.ref 194, Value.ref 34, Value.int v2, Value.int v3, Value.int v4, Value.int s0, Value.float 0] [Value.int (0 : Int32), Value.int v4, Value.ref 201] (mj_hw w c hi hl) := by
  rw [mj_den_eq, f34_45]
  exact zt_istore (Nat.le_of_ble_eq_true rfl) rfl rfl (zt_aload_n rfl rfl (zt_getr (mjkd194 _ _ _ _) (mjhr194_8 w c) rfl (zt_iload rfl rfl (zt_iload rfl rfl (zt_iconst rfl (zt_icmp_ne rfl rfl (zt_iconst rfl (zt_goto rfl))))))))
set_option maxRecDepth 100000 in
theorem f34_63 : mj_find (mj_P 34).2.2.2.2 63 = [(.aload_n 0, 1, 0, []), (.getfield 25, 3, 0, [4, 4, 3, 599]), (.iload 5, 2, 0, []), (.iaload, 1, 0, []), (.aload_n 0, 1, 0, []), (.getfield 37, 3, 0, [4, 8, 3, 603]), (.iload 4, 2, 0, []), (.iconst 1, 1, 1, []), (.iload 5, 2, 0, []), (.ishl, 1, 0, []), (.ior, 1, 0, []), (.iaload, 1, 0, []), (.iadd, 1, 0, [])] := rfl
set_option maxRecDepth 100000 in
theorem q34_63 (E : mj_E) (d w c : Nat) (hi : Nat → Nat → Int32) (hl : Nat → Nat → Int64) (v2 : Int32) (v3 : Int32) (v4 : Int32) (v5 : Int32) (s0 : Int32) : mj_den mj_P E d 34 63 [Value.ref 194, Value.ref 34, Value.int v2, Value.int v3, Value.int v4, Value.int v5, Value.float 0] [Value.int s0, Value.ref 201] (mj_hw w c hi hl) = if 0 ≤ v5 ∧ (v5).toNatClampNeg < 10 then if 0 ≤ (v4 ||| ((1 : Int32) <<< (v5 &&& 31))) ∧ ((v4 ||| ((1 : Int32) <<< (v5 &&& 31)))).toNatClampNeg < 2048 then mj_den mj_P E d 34 83 [Value.ref 194, Value.ref 34, Value.int v2, Value.int v3, Value.int v4, Value.int v5, Value.float 0] [Value.int ((hi 197 ((v5).toNatClampNeg)) + (hi 201 (((v4 ||| ((1 : Int32) <<< (v5 &&& 31)))).toNatClampNeg))), Value.int s0, Value.ref 201] (mj_hw w c hi hl) else none else none := by
  rw [mj_den_eq, f34_63]
  exact zt_aload_n rfl rfl (zt_getr (mjkd194 _ _ _ _) (mjhr194_4 w c) rfl (zt_iload rfl rfl (zt_iald (mjkd197 _ _ _ _) (mjln197 _ _ _ _) rfl rfl (zt_aload_n rfl rfl (zt_getr (mjkd194 _ _ _ _) (mjhr194_8 w c) rfl (zt_iload rfl rfl (zt_iconst rfl (zt_iload rfl rfl (zt_ishl rfl (zt_ior rfl (zt_iald (mjkd201 _ _ _ _) (mjln201 _ _ _ _) rfl rfl (zt_iadd rfl (zt_end rfl)))))))))))))
set_option maxRecDepth 100000 in
theorem f34_83 : mj_find (mj_P 34).2.2.2.2 83 = [(.iastore, 1, 0, []), (.iinc 4 (-1), 3, (-1), []), (.goto (-60), 3, 0, [27])] := rfl
set_option maxRecDepth 100000 in
theorem q34_83 (E : mj_E) (d w c : Nat) (hi : Nat → Nat → Int32) (hl : Nat → Nat → Int64) (v2 : Int32) (v3 : Int32) (v4 : Int32) (v5 : Int32) (s0 : Int32) (s1 : Int32) : mj_den mj_P E d 34 83 [Value.ref 194, Value.ref 34, Value.int v2, Value.int v3, Value.int v4, Value.int v5, Value.float 0] [Value.int s0, Value.int s1, Value.ref 201] (mj_hw w c hi hl) = if 0 ≤ s1 ∧ (s1).toNatClampNeg < 2048 then mj_den mj_P E d 34 27 [Value.ref 194, Value.ref 34, Value.int v2, Value.int v3, Value.int (v4 + (-1 : Int32)), Value.int v5, Value.float 0] [] (mj_hw w c (mj_u hi 201 ((s1).toNatClampNeg) s0) hl) else none := by
  rw [mj_den_eq, f34_83]
  exact zt_iast (mjkd201 _ _ _ _) (mjln201 _ _ _ _) rfl rfl (zt_iinc rfl (Nat.le_of_ble_eq_true rfl) rfl rfl (zt_goto rfl))
set_option maxRecDepth 100000 in
theorem f34_90 : mj_find (mj_P 34).2.2.2.2 90 = [(.aload_n 0, 1, 0, []), (.aload_n 0, 1, 0, []), (.getfield 37, 3, 0, [4, 8, 3, 603]), (.iconst 0, 1, 0, []), (.iaload, 1, 0, []), (.putfield 15, 3, 0, [4, 1, 0, 596]), (.iconst 0, 1, 0, []), (.istore 4, 2, 0, []), (.iconst 0, 1, 0, []), (.istore 5, 2, 0, [])] := rfl
set_option maxRecDepth 100000 in
theorem q34_90 (E : mj_E) (d w c : Nat) (hi : Nat → Nat → Int32) (hl : Nat → Nat → Int64) (v2 : Int32) (v3 : Int32) (v4 : Int32) (v5 : Int32) : mj_den mj_P E d 34 90 [Value.ref 194, Value.ref 34, Value.int v2, Value.int v3, Value.int v4, Value.int v5, Value.float 0] [] (mj_hw w c hi hl) = if 0 ≤ (0 : Int32) ∧ ((0 : Int32)).toNatClampNeg < 2048 then mj_den mj_P E d 34 106 [Value.ref 194, Value.ref 34, Value.int v2, Value.int v3, Value.int (0 : Int32), Value.int (0 : Int32), Value.float 0] [] (mj_hw w c (mj_u hi 194 1 (hi 201 (((0 : Int32)).toNatClampNeg))) hl) else none := by
  rw [mj_den_eq, f34_90]
  exact zt_aload_n rfl rfl (zt_aload_n rfl rfl (zt_getr (mjkd194 _ _ _ _) (mjhr194_8 w c) rfl (zt_iconst rfl (zt_iald (mjkd201 _ _ _ _) (mjln201 _ _ _ _) rfl rfl (zt_puti (mjkd194 _ _ _ _) rfl rfl (zt_iconst rfl (zt_istore (Nat.le_of_ble_eq_true rfl) rfl rfl (zt_iconst rfl (zt_istore (Nat.le_of_ble_eq_true rfl) rfl rfl (zt_end rfl))))))))))
set_option maxRecDepth 100000 in
theorem q34_90_1 (E : mj_E) (d w c : Nat) (hi : Nat → Nat → Int32) (hl : Nat → Nat → Int64) (v2 : Int32) (v3 : Int32) (v4 : Int32) : mj_den mj_P E d 34 90 [Value.ref 194, Value.ref 34, Value.int v2, Value.int v3, Value.int v4, Value.float 0, Value.float 0] [] (mj_hw w c hi hl) = if 0 ≤ (0 : Int32) ∧ ((0 : Int32)).toNatClampNeg < 2048 then mj_den mj_P E d 34 106 [Value.ref 194, Value.ref 34, Value.int v2, Value.int v3, Value.int (0 : Int32), Value.int (0 : Int32), Value.float 0] [] (mj_hw w c (mj_u hi 194 1 (hi 201 (((0 : Int32)).toNatClampNeg))) hl) else none := by
  rw [mj_den_eq, f34_90]
  exact zt_aload_n rfl rfl (zt_aload_n rfl rfl (zt_getr (mjkd194 _ _ _ _) (mjhr194_8 w c) rfl (zt_iconst rfl (zt_iald (mjkd201 _ _ _ _) (mjln201 _ _ _ _) rfl rfl (zt_puti (mjkd194 _ _ _ _) rfl rfl (zt_iconst rfl (zt_istore (Nat.le_of_ble_eq_true rfl) rfl rfl (zt_iconst rfl (zt_istore (Nat.le_of_ble_eq_true rfl) rfl rfl (zt_end rfl))))))))))
set_option maxRecDepth 100000 in
theorem f34_106 : mj_find (mj_P 34).2.2.2.2 106 = [(.iload 5, 2, 0, []), (.aload_n 0, 1, 0, []), (.getfield 9, 3, 0, [4, 0, 0, 595]), (.if_icmp .ge 54, 3, 0, [166]), (.aload_n 0, 1, 0, []), (.iload_n 2, 1, 0, []), (.iload 4, 2, 0, []), (.invokevirtual 89, 3, 0, [0, 36, 4, 2, 0, 1173, 1175, 32, 153, 1176])] := rfl
set_option maxRecDepth 100000 in
theorem q34_106 (E : mj_E) (d w c : Nat) (hi : Nat → Nat → Int32) (hl : Nat → Nat → Int64) (v2 : Int32) (v3 : Int32) (v4 : Int32) (v5 : Int32) : mj_den mj_P E d 34 106 [Value.ref 194, Value.ref 34, Value.int v2, Value.int v3, Value.int v4, Value.int v5, Value.float 0] [] (mj_hw w c hi hl) = if (hi 194 0) ≤ v5 then mj_den mj_P E d 34 166 [Value.ref 194, Value.ref 34, Value.int v2, Value.int v3, Value.int v4, Value.int v5, Value.float 0] [] (mj_hw w c hi hl) else mj_bv (mj_dc mj_P E d 36 [Value.ref 194, Value.int v2, Value.int v4] (mj_hw w c hi hl)) (fun h1 => mj_den mj_P E d 34 122 [Value.ref 194, Value.ref 34, Value.int v2, Value.int v3, Value.int v4, Value.int v5, Value.float 0] [] h1) := by
  rw [mj_den_eq, f34_106]
  exact zt_iload rfl rfl (zt_aload_n rfl rfl (zt_geti (mjkd194 _ _ _ _) rfl rfl (zt_icmp_ge rfl rfl (zt_aload_n rfl rfl (zt_iload_n rfl rfl (zt_iload rfl rfl (zt_call0_0 rfl (mjkd194 _ _ _ _) (Nat.le_of_ble_eq_true rfl) rfl rfl)))))))
set_option maxRecDepth 100000 in
theorem q34_106_1 (E : mj_E) (d w c : Nat) (hi : Nat → Nat → Int32) (hl : Nat → Nat → Int64) (v2 : Int32) (v3 : Int32) (v4 : Int32) (v5 : Int32) (v6 : Int32) : mj_den mj_P E d 34 106 [Value.ref 194, Value.ref 34, Value.int v2, Value.int v3, Value.int v4, Value.int v5, Value.int v6] [] (mj_hw w c hi hl) = if (hi 194 0) ≤ v5 then mj_den mj_P E d 34 166 [Value.ref 194, Value.ref 34, Value.int v2, Value.int v3, Value.int v4, Value.int v5, Value.int v6] [] (mj_hw w c hi hl) else mj_bv (mj_dc mj_P E d 36 [Value.ref 194, Value.int v2, Value.int v4] (mj_hw w c hi hl)) (fun h1 => mj_den mj_P E d 34 122 [Value.ref 194, Value.ref 34, Value.int v2, Value.int v3, Value.int v4, Value.int v5, Value.int v6] [] h1) := by
  rw [mj_den_eq, f34_106]
  exact zt_iload rfl rfl (zt_aload_n rfl rfl (zt_geti (mjkd194 _ _ _ _) rfl rfl (zt_icmp_ge rfl rfl (zt_aload_n rfl rfl (zt_iload_n rfl rfl (zt_iload rfl rfl (zt_call0_0 rfl (mjkd194 _ _ _ _) (Nat.le_of_ble_eq_true rfl) rfl rfl)))))))
set_option maxRecDepth 100000 in
theorem f34_122 : mj_find (mj_P 34).2.2.2.2 122 = [(.aload_n 0, 1, 0, []), (.iload 4, 2, 0, []), (.invokevirtual 93, 3, 0, [0, 37, 4, 1, 1, 1177, 1179, 33, 153, 1180])] := rfl
set_option maxRecDepth 100000 in
theorem q34_122 (E : mj_E) (d w c : Nat) (hi : Nat → Nat → Int32) (hl : Nat → Nat → Int64) (v2 : Int32) (v3 : Int32) (v4 : Int32) (v5 : Int32) : mj_den mj_P E d 34 122 [Value.ref 194, Value.ref 34, Value.int v2, Value.int v3, Value.int v4, Value.int v5, Value.float 0] [] (mj_hw w c hi hl) = mj_bi (mj_dc mj_P E d 37 [Value.ref 194, Value.int v4] (mj_hw w c hi hl)) (fun x1 h1 => mj_den mj_P E d 34 128 [Value.ref 194, Value.ref 34, Value.int v2, Value.int v3, Value.int v4, Value.int v5, Value.float 0] [Value.int x1] h1) := by
  rw [mj_den_eq, f34_122]
  exact zt_aload_n rfl rfl (zt_iload rfl rfl (zt_call0_1 rfl (mjkd194 _ _ _ _) (Nat.le_of_ble_eq_true rfl) rfl rfl))
set_option maxRecDepth 100000 in
theorem q34_122_1 (E : mj_E) (d w c : Nat) (hi : Nat → Nat → Int32) (hl : Nat → Nat → Int64) (v2 : Int32) (v3 : Int32) (v4 : Int32) (v5 : Int32) (v6 : Int32) : mj_den mj_P E d 34 122 [Value.ref 194, Value.ref 34, Value.int v2, Value.int v3, Value.int v4, Value.int v5, Value.int v6] [] (mj_hw w c hi hl) = mj_bi (mj_dc mj_P E d 37 [Value.ref 194, Value.int v4] (mj_hw w c hi hl)) (fun x1 h1 => mj_den mj_P E d 34 128 [Value.ref 194, Value.ref 34, Value.int v2, Value.int v3, Value.int v4, Value.int v5, Value.int v6] [Value.int x1] h1) := by
  rw [mj_den_eq, f34_122]
  exact zt_aload_n rfl rfl (zt_iload rfl rfl (zt_call0_1 rfl (mjkd194 _ _ _ _) (Nat.le_of_ble_eq_true rfl) rfl rfl))
set_option maxRecDepth 100000 in
theorem f34_128 : mj_find (mj_P 34).2.2.2.2 128 = [(.istore 6, 2, 0, []), (.iload 6, 2, 0, []), (.iconst (-1), 1, (-1), []), (.if_icmp .ne 4, 3, 0, [137]), (.return_, 1, 0, [])] := rfl
set_option maxRecDepth 100000 in
theorem q34_128 (E : mj_E) (d w c : Nat) (hi : Nat → Nat → Int32) (hl : Nat → Nat → Int64) (v2 : Int32) (v3 : Int32) (v4 : Int32) (v5 : Int32) (s0 : Int32) : mj_den mj_P E d 34 128 [Value.ref 194, Value.ref 34, Value.int v2, Value.int v3, Value.int v4, Value.int v5, Value.float 0] [Value.int s0] (mj_hw w c hi hl) = if ¬ s0 = (-1 : Int32) then mj_den mj_P E d 34 137 [Value.ref 194, Value.ref 34, Value.int v2, Value.int v3, Value.int v4, Value.int v5, Value.int s0] [] (mj_hw w c hi hl) else some (none, (mj_hw w c hi hl)) := by
  rw [mj_den_eq, f34_128]
  exact zt_istore (Nat.le_of_ble_eq_true rfl) rfl rfl (zt_iload rfl rfl (zt_iconst rfl (zt_icmp_ne rfl rfl (zt_return))))
set_option maxRecDepth 100000 in
theorem q34_128_1 (E : mj_E) (d w c : Nat) (hi : Nat → Nat → Int32) (hl : Nat → Nat → Int64) (v2 : Int32) (v3 : Int32) (v4 : Int32) (v5 : Int32) (v6 : Int32) (s0 : Int32) : mj_den mj_P E d 34 128 [Value.ref 194, Value.ref 34, Value.int v2, Value.int v3, Value.int v4, Value.int v5, Value.int v6] [Value.int s0] (mj_hw w c hi hl) = if ¬ s0 = (-1 : Int32) then mj_den mj_P E d 34 137 [Value.ref 194, Value.ref 34, Value.int v2, Value.int v3, Value.int v4, Value.int v5, Value.int s0] [] (mj_hw w c hi hl) else some (none, (mj_hw w c hi hl)) := by
  rw [mj_den_eq, f34_128]
  exact zt_istore (Nat.le_of_ble_eq_true rfl) rfl rfl (zt_iload rfl rfl (zt_iconst rfl (zt_icmp_ne rfl rfl (zt_return))))
set_option maxRecDepth 100000 in
theorem f34_137 : mj_find (mj_P 34).2.2.2.2 137 = [(.aload_n 0, 1, 0, []), (.getfield 18, 3, 0, [4, 2, 3, 597]), (.iload 5, 2, 0, []), (.aload_n 0, 1, 0, []), (.getfield 22, 3, 0, [4, 3, 3, 598]), (.iload 6, 2, 0, []), (.iaload, 1, 0, []), (.iastore, 1, 0, []), (.iload 4, 2, 0, []), (.iconst 1, 1, 1, []), (.iload 6, 2, 0, []), (.ishl, 1, 0, []), (.ior, 1, 0, []), (.istore 4, 2, 0, []), (.iinc 5 1, 3, 1, []), (.goto (-57), 3, 0, [106])] := rfl
set_option maxRecDepth 100000 in
theorem q34_137 (E : mj_E) (d w c : Nat) (hi : Nat → Nat → Int32) (hl : Nat → Nat → Int64) (v2 : Int32) (v3 : Int32) (v4 : Int32) (v5 : Int32) (v6 : Int32) : mj_den mj_P E d 34 137 [Value.ref 194, Value.ref 34, Value.int v2, Value.int v3, Value.int v4, Value.int v5, Value.int v6] [] (mj_hw w c hi hl) = if 0 ≤ v6 ∧ (v6).toNatClampNeg < 10 then if 0 ≤ v5 ∧ (v5).toNatClampNeg < 10 then mj_den mj_P E d 34 106 [Value.ref 194, Value.ref 34, Value.int v2, Value.int v3, Value.int (v4 ||| ((1 : Int32) <<< (v6 &&& 31))), Value.int (v5 + (1 : Int32)), Value.int v6] [] (mj_hw w c (mj_u hi 195 ((v5).toNatClampNeg) (hi 196 ((v6).toNatClampNeg))) hl) else none else none := by
  rw [mj_den_eq, f34_137]
  exact zt_aload_n rfl rfl (zt_getr (mjkd194 _ _ _ _) (mjhr194_2 w c) rfl (zt_iload rfl rfl (zt_aload_n rfl rfl (zt_getr (mjkd194 _ _ _ _) (mjhr194_3 w c) rfl (zt_iload rfl rfl (zt_iald (mjkd196 _ _ _ _) (mjln196 _ _ _ _) rfl rfl (zt_iast (mjkd195 _ _ _ _) (mjln195 _ _ _ _) rfl rfl (zt_iload rfl rfl (zt_iconst rfl (zt_iload rfl rfl (zt_ishl rfl (zt_ior rfl (zt_istore (Nat.le_of_ble_eq_true rfl) rfl rfl (zt_iinc rfl (Nat.le_of_ble_eq_true rfl) rfl rfl (zt_goto rfl)))))))))))))))
set_option maxRecDepth 100000 in
theorem f34_166 : mj_find (mj_P 34).2.2.2.2 166 = [(.return_, 1, 0, [])] := rfl
set_option maxRecDepth 100000 in
theorem q34_166 (E : mj_E) (d w c : Nat) (hi : Nat → Nat → Int32) (hl : Nat → Nat → Int64) (v2 : Int32) (v3 : Int32) (v4 : Int32) (v5 : Int32) (v6 : Int32) : mj_den mj_P E d 34 166 [Value.ref 194, Value.ref 34, Value.int v2, Value.int v3, Value.int v4, Value.int v5, Value.int v6] [] (mj_hw w c hi hl) = some (none, (mj_hw w c hi hl)) := by
  rw [mj_den_eq, f34_166]
  exact zt_return
set_option maxRecDepth 100000 in
theorem q34_166_1 (E : mj_E) (d w c : Nat) (hi : Nat → Nat → Int32) (hl : Nat → Nat → Int64) (v2 : Int32) (v3 : Int32) (v4 : Int32) (v5 : Int32) : mj_den mj_P E d 34 166 [Value.ref 194, Value.ref 34, Value.int v2, Value.int v3, Value.int v4, Value.int v5, Value.float 0] [] (mj_hw w c hi hl) = some (none, (mj_hw w c hi hl)) := by
  rw [mj_den_eq, f34_166]
  exact zt_return
set_option maxRecDepth 100000 in
theorem f35_0 : mj_find (mj_P 35).2.2.2.2 0 = [(.aload_n 1, 1, 0, []), (.getfield 96, 3, 0, [9, 0, 0, 359]), (.bipush 16, 2, 16, []), (.invokestatic 54, 3, 0, [1, 296, 0, 2, 1, 1136, 728, 157, 729])] := rfl
set_option maxRecDepth 100000 in
theorem q35_0 (E : mj_E) (d w c : Nat) (hi : Nat → Nat → Int32) (hl : Nat → Nat → Int64) : mj_den mj_P E d 35 0 [Value.ref 194, Value.ref 34, Value.float 0, Value.float 0, Value.float 0] [] (mj_hw w c hi hl) = mj_bi (mj_dc mj_P E d 296 [Value.int (hi 34 0), Value.int (16 : Int32)] (mj_hw w c hi hl)) (fun x1 h1 => mj_den mj_P E d 35 9 [Value.ref 194, Value.ref 34, Value.float 0, Value.float 0, Value.float 0] [Value.int x1] h1) := by
  rw [mj_den_eq, f35_0]
  exact zt_aload_n rfl rfl (zt_geti (mjkd34 _ _ _ _) rfl rfl (zt_bipush rfl (zt_call1_1 (Nat.le_of_ble_eq_true rfl) rfl (Nat.le_of_ble_eq_true rfl) rfl rfl)))
set_option maxRecDepth 100000 in
theorem f35_9 : mj_find (mj_P 35).2.2.2.2 9 = [(.istore_n 2, 1, 0, []), (.iconst 0, 1, 0, []), (.istore_n 3, 1, 0, []), (.iconst 0, 1, 0, []), (.istore 4, 2, 0, [])] := rfl
set_option maxRecDepth 100000 in
theorem q35_9 (E : mj_E) (d w c : Nat) (hi : Nat → Nat → Int32) (hl : Nat → Nat → Int64) (s0 : Int32) : mj_den mj_P E d 35 9 [Value.ref 194, Value.ref 34, Value.float 0, Value.float 0, Value.float 0] [Value.int s0] (mj_hw w c hi hl) = mj_den mj_P E d 35 15 [Value.ref 194, Value.ref 34, Value.int s0, Value.int (0 : Int32), Value.int (0 : Int32)] [] (mj_hw w c hi hl) := by
  rw [mj_den_eq, f35_9]
  exact zt_istore_n (Nat.le_of_ble_eq_true rfl) rfl rfl (zt_iconst rfl (zt_istore_n (Nat.le_of_ble_eq_true rfl) rfl rfl (zt_iconst rfl (zt_istore (Nat.le_of_ble_eq_true rfl) rfl rfl (zt_end rfl)))))
set_option maxRecDepth 100000 in
theorem f35_15 : mj_find (mj_P 35).2.2.2.2 15 = [(.iload 4, 2, 0, []), (.iload_n 2, 1, 0, []), (.if_icmp .ge 31, 3, 0, [49]), (.iload_n 3, 1, 0, []), (.iconst 1, 1, 1, []), (.aload_n 1, 1, 0, []), (.getfield 101, 3, 0, [9, 1, 3, 362]), (.iload 4, 2, 0, []), (.iaload, 1, 0, []), (.ishl, 1, 0, []), (.iconst 1, 1, 1, []), (.aload_n 1, 1, 0, []), (.getfield 104, 3, 0, [9, 2, 3, 365]), (.iload 4, 2, 0, []), (.iaload, 1, 0, []), (.ishl, 1, 0, []), (.ior, 1, 0, []), (.ior, 1, 0, []), (.istore_n 3, 1, 0, []), (.iinc 4 1, 3, 1, []), (.goto (-31), 3, 0, [15])] := rfl
set_option maxRecDepth 100000 in
theorem q35_15 (E : mj_E) (d w c : Nat) (hi : Nat → Nat → Int32) (hl : Nat → Nat → Int64) (v2 : Int32) (v3 : Int32) (v4 : Int32) : mj_den mj_P E d 35 15 [Value.ref 194, Value.ref 34, Value.int v2, Value.int v3, Value.int v4] [] (mj_hw w c hi hl) = if v2 ≤ v4 then mj_den mj_P E d 35 49 [Value.ref 194, Value.ref 34, Value.int v2, Value.int v3, Value.int v4] [] (mj_hw w c hi hl) else if 0 ≤ v4 ∧ (v4).toNatClampNeg < 16 then if 0 ≤ v4 ∧ (v4).toNatClampNeg < 16 then mj_den mj_P E d 35 15 [Value.ref 194, Value.ref 34, Value.int v2, Value.int (v3 ||| (((1 : Int32) <<< ((hi 35 ((v4).toNatClampNeg)) &&& 31)) ||| ((1 : Int32) <<< ((hi 36 ((v4).toNatClampNeg)) &&& 31)))), Value.int (v4 + (1 : Int32))] [] (mj_hw w c hi hl) else none else none := by
  rw [mj_den_eq, f35_15]
  exact zt_iload rfl rfl (zt_iload_n rfl rfl (zt_icmp_ge rfl rfl (zt_iload_n rfl rfl (zt_iconst rfl (zt_aload_n rfl rfl (zt_getr (mjkd34 _ _ _ _) (mjhr34_1 w c) rfl (zt_iload rfl rfl (zt_iald (mjkd35 _ _ _ _) (mjln35 _ _ _ _) rfl rfl (zt_ishl rfl (zt_iconst rfl (zt_aload_n rfl rfl (zt_getr (mjkd34 _ _ _ _) (mjhr34_2 w c) rfl (zt_iload rfl rfl (zt_iald (mjkd36 _ _ _ _) (mjln36 _ _ _ _) rfl rfl (zt_ishl rfl (zt_ior rfl (zt_ior rfl (zt_istore_n (Nat.le_of_ble_eq_true rfl) rfl rfl (zt_iinc rfl (Nat.le_of_ble_eq_true rfl) rfl rfl (zt_goto rfl))))))))))))))))))))
set_option maxRecDepth 100000 in
theorem f35_49 : mj_find (mj_P 35).2.2.2.2 49 = [(.aload_n 0, 1, 0, []), (.iload_n 3, 1, 0, []), (.invokevirtual 50, 3, 0, [0, 28, 4, 1, 0, 1131, 1133, 27, 153, 1134])] := rfl
set_option maxRecDepth 100000 in
theorem q35_49 (E : mj_E) (d w c : Nat) (hi : Nat → Nat → Int32) (hl : Nat → Nat → Int64) (v2 : Int32) (v3 : Int32) (v4 : Int32) : mj_den mj_P E d 35 49 [Value.ref 194, Value.ref 34, Value.int v2, Value.int v3, Value.int v4] [] (mj_hw w c hi hl) = mj_bv (mj_dc mj_P E d 28 [Value.ref 194, Value.int v3] (mj_hw w c hi hl)) (fun h1 => mj_den mj_P E d 35 54 [Value.ref 194, Value.ref 34, Value.int v2, Value.int v3, Value.int v4] [] h1) := by
  rw [mj_den_eq, f35_49]
  exact zt_aload_n rfl rfl (zt_iload_n rfl rfl (zt_call0_0 rfl (mjkd194 _ _ _ _) (Nat.le_of_ble_eq_true rfl) rfl rfl))
set_option maxRecDepth 100000 in
theorem f35_54 : mj_find (mj_P 35).2.2.2.2 54 = [(.iconst 0, 1, 0, []), (.istore 4, 2, 0, [])] := rfl
set_option maxRecDepth 100000 in
theorem q35_54 (E : mj_E) (d w c : Nat) (hi : Nat → Nat → Int32) (hl : Nat → Nat → Int64) (v2 : Int32) (v3 : Int32) (v4 : Int32) : mj_den mj_P E d 35 54 [Value.ref 194, Value.ref 34, Value.int v2, Value.int v3, Value.int v4] [] (mj_hw w c hi hl) = mj_den mj_P E d 35 57 [Value.ref 194, Value.ref 34, Value.int v2, Value.int v3, Value.int (0 : Int32)] [] (mj_hw w c hi hl) := by
  rw [mj_den_eq, f35_54]
  exact zt_iconst rfl (zt_istore (Nat.le_of_ble_eq_true rfl) rfl rfl (zt_end rfl))
set_option maxRecDepth 100000 in
theorem f35_57 : mj_find (mj_P 35).2.2.2.2 57 = [(.iload 4, 2, 0, []), (.iload_n 2, 1, 0, []), (.if_icmp .ge 45, 3, 0, [105]), (.aload_n 0, 1, 0, []), (.getfield 31, 3, 0, [4, 6, 3, 601]), (.iload 4, 2, 0, []), (.iload_n 3, 1, 0, []), (.aload_n 1, 1, 0, []), (.getfield 101, 3, 0, [9, 1, 3, 362]), (.iload 4, 2, 0, []), (.iaload, 1, 0, []), (.invokestatic 82, 3, 0, [1, 29, 0, 2, 1, 1141, 1142, 153, 1143])] := rfl
set_option maxRecDepth 100000 in
theorem q35_57 (E : mj_E) (d w c : Nat) (hi : Nat → Nat → Int32) (hl : Nat → Nat → Int64) (v2 : Int32) (v3 : Int32) (v4 : Int32) : mj_den mj_P E d 35 57 [Value.ref 194, Value.ref 34, Value.int v2, Value.int v3, Value.int v4] [] (mj_hw w c hi hl) = if v2 ≤ v4 then mj_den mj_P E d 35 105 [Value.ref 194, Value.ref 34, Value.int v2, Value.int v3, Value.int v4] [] (mj_hw w c hi hl) else if 0 ≤ v4 ∧ (v4).toNatClampNeg < 16 then mj_bi (mj_dc mj_P E d 29 [Value.int v3, Value.int (hi 35 ((v4).toNatClampNeg))] (mj_hw w c hi hl)) (fun x1 h1 => mj_den mj_P E d 35 80 [Value.ref 194, Value.ref 34, Value.int v2, Value.int v3, Value.int v4] [Value.int x1, Value.int v4, Value.ref 199] h1) else none := by
  rw [mj_den_eq, f35_57]
  exact zt_iload rfl rfl (zt_iload_n rfl rfl (zt_icmp_ge rfl rfl (zt_aload_n rfl rfl (zt_getr (mjkd194 _ _ _ _) (mjhr194_6 w c) rfl (zt_iload rfl rfl (zt_iload_n rfl rfl (zt_aload_n rfl rfl (zt_getr (mjkd34 _ _ _ _) (mjhr34_1 w c) rfl (zt_iload rfl rfl (zt_iald (mjkd35 _ _ _ _) (mjln35 _ _ _ _) rfl rfl (zt_call1_1 (Nat.le_of_ble_eq_true rfl) rfl (Nat.le_of_ble_eq_true rfl) rfl rfl)))))))))))
set_option maxRecDepth 100000 in
theorem f35_80 : mj_find (mj_P 35).2.2.2.2 80 = [(.iastore, 1, 0, []), (.aload_n 0, 1, 0, []), (.getfield 34, 3, 0, [4, 7, 3, 602]), (.iload 4, 2, 0, []), (.iload_n 3, 1, 0, []), (.aload_n 1, 1, 0, []), (.getfield 104, 3, 0, [9, 2, 3, 365]), (.iload 4, 2, 0, []), (.iaload, 1, 0, []), (.invokestatic 82, 3, 0, [1, 29, 0, 2, 1, 1141, 1142, 153, 1143])] := rfl
set_option maxRecDepth 100000 in
theorem q35_80 (E : mj_E) (d w c : Nat) (hi : Nat → Nat → Int32) (hl : Nat → Nat → Int64) (v2 : Int32) (v3 : Int32) (v4 : Int32) (s0 : Int32) (s1 : Int32) : mj_den mj_P E d 35 80 [Value.ref 194, Value.ref 34, Value.int v2, Value.int v3, Value.int v4] [Value.int s0, Value.int s1, Value.ref 199] (mj_hw w c hi hl) = if 0 ≤ s1 ∧ (s1).toNatClampNeg < 16 then if 0 ≤ v4 ∧ (v4).toNatClampNeg < 16 then mj_bi (mj_dc mj_P E d 29 [Value.int v3, Value.int (hi 36 ((v4).toNatClampNeg))] (mj_hw w c (mj_u hi 199 ((s1).toNatClampNeg) s0) hl)) (fun x1 h1 => mj_den mj_P E d 35 98 [Value.ref 194, Value.ref 34, Value.int v2, Value.int v3, Value.int v4] [Value.int x1, Value.int v4, Value.ref 200] h1) else none else none := by
  rw [mj_den_eq, f35_80]
  exact zt_iast (mjkd199 _ _ _ _) (mjln199 _ _ _ _) rfl rfl (zt_aload_n rfl rfl (zt_getr (mjkd194 _ _ _ _) (mjhr194_7 w c) rfl (zt_iload rfl rfl (zt_iload_n rfl rfl (zt_aload_n rfl rfl (zt_getr (mjkd34 _ _ _ _) (mjhr34_2 w c) rfl (zt_iload rfl rfl (zt_iald (mjkd36 _ _ _ _) (mjln36 _ _ _ _) rfl rfl (zt_call1_1 (Nat.le_of_ble_eq_true rfl) rfl (Nat.le_of_ble_eq_true rfl) rfl rfl)))))))))
set_option maxRecDepth 100000 in
theorem f35_98 : mj_find (mj_P 35).2.2.2.2 98 = [(.iastore, 1, 0, []), (.iinc 4 1, 3, 1, []), (.goto (-45), 3, 0, [57])] := rfl
set_option maxRecDepth 100000 in
theorem q35_98 (E : mj_E) (d w c : Nat) (hi : Nat → Nat → Int32) (hl : Nat → Nat → Int64) (v2 : Int32) (v3 : Int32) (v4 : Int32) (s0 : Int32) (s1 : Int32) : mj_den mj_P E d 35 98 [Value.ref 194, Value.ref 34, Value.int v2, Value.int v3, Value.int v4] [Value.int s0, Value.int s1, Value.ref 200] (mj_hw w c hi hl) = if 0 ≤ s1 ∧ (s1).toNatClampNeg < 16 then mj_den mj_P E d 35 57 [Value.ref 194, Value.ref 34, Value.int v2, Value.int v3, Value.int (v4 + (1 : Int32))] [] (mj_hw w c (mj_u hi 200 ((s1).toNatClampNeg) s0) hl) else none := by
  rw [mj_den_eq, f35_98]
  exact zt_iast (mjkd200 _ _ _ _) (mjln200 _ _ _ _) rfl rfl (zt_iinc rfl (Nat.le_of_ble_eq_true rfl) rfl rfl (zt_goto rfl))
set_option maxRecDepth 100000 in
theorem f35_105 : mj_find (mj_P 35).2.2.2.2 105 = [(.iload_n 2, 1, 0, []), (.ireturn, 1, 0, [0])] := rfl
set_option maxRecDepth 100000 in
theorem q35_105 (E : mj_E) (d w c : Nat) (hi : Nat → Nat → Int32) (hl : Nat → Nat → Int64) (v2 : Int32) (v3 : Int32) (v4 : Int32) : mj_den mj_P E d 35 105 [Value.ref 194, Value.ref 34, Value.int v2, Value.int v3, Value.int v4] [] (mj_hw w c hi hl) = some (some (Value.int v2), (mj_hw w c hi hl)) := by
  rw [mj_den_eq, f35_105]
  exact zt_iload_n rfl rfl (zt_ireturn0)
set_option maxRecDepth 100000 in
theorem f36_0 : mj_find (mj_P 36).2.2.2.2 0 = [(.iconst 0, 1, 0, []), (.istore_n 3, 1, 0, [])] := rfl
set_option maxRecDepth 100000 in
theorem q36_0 (E : mj_E) (d w c : Nat) (hi : Nat → Nat → Int32) (hl : Nat → Nat → Int64) (v1 : Int32) (v2 : Int32) : mj_den mj_P E d 36 0 [Value.ref 194, Value.int v1, Value.int v2, Value.float 0] [] (mj_hw w c hi hl) = mj_den mj_P E d 36 2 [Value.ref 194, Value.int v1, Value.int v2, Value.int (0 : Int32)] [] (mj_hw w c hi hl) := by
  rw [mj_den_eq, f36_0]
  exact zt_iconst rfl (zt_istore_n (Nat.le_of_ble_eq_true rfl) rfl rfl (zt_end rfl))
set_option maxRecDepth 100000 in
theorem f36_2 : mj_find (mj_P 36).2.2.2.2 2 = [(.iload_n 3, 1, 0, []), (.aload_n 0, 1, 0, []), (.getfield 9, 3, 0, [4, 0, 0, 595]), (.if_icmp .ge 16, 3, 0, [23]), (.aload_n 0, 1, 0, []), (.getfield 25, 3, 0, [4, 4, 3, 599]), (.iload_n 3, 1, 0, []), (.iconst 0, 1, 0, []), (.iastore, 1, 0, []), (.iinc 3 1, 3, 1, []), (.goto (-18), 3, 0, [2])] := rfl
set_option maxRecDepth 100000 in
theorem q36_2 (E : mj_E) (d w c : Nat) (hi : Nat → Nat → Int32) (hl : Nat → Nat → Int64) (v1 : Int32) (v2 : Int32) (v3 : Int32) : mj_den mj_P E d 36 2 [Value.ref 194, Value.int v1, Value.int v2, Value.int v3] [] (mj_hw w c hi hl) = if (hi 194 0) ≤ v3 then mj_den mj_P E d 36 23 [Value.ref 194, Value.int v1, Value.int v2, Value.int v3] [] (mj_hw w c hi hl) else if 0 ≤ v3 ∧ (v3).toNatClampNeg < 10 then mj_den mj_P E d 36 2 [Value.ref 194, Value.int v1, Value.int v2, Value.int (v3 + (1 : Int32))] [] (mj_hw w c (mj_u hi 197 ((v3).toNatClampNeg) (0 : Int32)) hl) else none := by
  rw [mj_den_eq, f36_2]
  exact zt_iload_n rfl rfl (zt_aload_n rfl rfl (zt_geti (mjkd194 _ _ _ _) rfl rfl (zt_icmp_ge rfl rfl (zt_aload_n rfl rfl (zt_getr (mjkd194 _ _ _ _) (mjhr194_4 w c) rfl (zt_iload_n rfl rfl (zt_iconst rfl (zt_iast (mjkd197 _ _ _ _) (mjln197 _ _ _ _) rfl rfl (zt_iinc rfl (Nat.le_of_ble_eq_true rfl) rfl rfl (zt_goto rfl))))))))))
set_option maxRecDepth 100000 in
theorem f36_23 : mj_find (mj_P 36).2.2.2.2 23 = [(.iconst 0, 1, 0, []), (.istore_n 3, 1, 0, [])] := rfl
set_option maxRecDepth 100000 in
theorem q36_23 (E : mj_E) (d w c : Nat) (hi : Nat → Nat → Int32) (hl : Nat → Nat → Int64) (v1 : Int32) (v2 : Int32) (v3 : Int32) : mj_den mj_P E d 36 23 [Value.ref 194, Value.int v1, Value.int v2, Value.int v3] [] (mj_hw w c hi hl) = mj_den mj_P E d 36 25 [Value.ref 194, Value.int v1, Value.int v2, Value.int (0 : Int32)] [] (mj_hw w c hi hl) := by
  rw [mj_den_eq, f36_23]
  exact zt_iconst rfl (zt_istore_n (Nat.le_of_ble_eq_true rfl) rfl rfl (zt_end rfl))
set_option maxRecDepth 100000 in
theorem f36_25 : mj_find (mj_P 36).2.2.2.2 25 = [(.iload_n 3, 1, 0, []), (.iload_n 1, 1, 0, []), (.if_icmp .ge 48, 3, 0, [75]), (.iload_n 2, 1, 0, []), (.aload_n 0, 1, 0, []), (.getfield 31, 3, 0, [4, 6, 3, 601]), (.iload_n 3, 1, 0, []), (.iaload, 1, 0, []), (.invokestatic 40, 3, 0, [6, 148, 0, 2, 1, 1135, 758, 143, 759])] := rfl
set_option maxRecDepth 100000 in
theorem q36_25 (E : mj_E) (d w c : Nat) (hi : Nat → Nat → Int32) (hl : Nat → Nat → Int64) (v1 : Int32) (v2 : Int32) (v3 : Int32) : mj_den mj_P E d 36 25 [Value.ref 194, Value.int v1, Value.int v2, Value.int v3] [] (mj_hw w c hi hl) = if v1 ≤ v3 then mj_den mj_P E d 36 75 [Value.ref 194, Value.int v1, Value.int v2, Value.int v3] [] (mj_hw w c hi hl) else if 0 ≤ v3 ∧ (v3).toNatClampNeg < 16 then mj_bi (mj_dc mj_P E d 148 [Value.int v2, Value.int (hi 199 ((v3).toNatClampNeg))] (mj_hw w c hi hl)) (fun x1 h1 => mj_den mj_P E d 36 40 [Value.ref 194, Value.int v1, Value.int v2, Value.int v3] [Value.int x1] h1) else none := by
  rw [mj_den_eq, f36_25]
  exact zt_iload_n rfl rfl (zt_iload_n rfl rfl (zt_icmp_ge rfl rfl (zt_iload_n rfl rfl (zt_aload_n rfl rfl (zt_getr (mjkd194 _ _ _ _) (mjhr194_6 w c) rfl (zt_iload_n rfl rfl (zt_iald (mjkd199 _ _ _ _) (mjln199 _ _ _ _) rfl rfl (zt_call6_1 (Nat.le_of_ble_eq_true rfl) rfl (Nat.le_of_ble_eq_true rfl) rfl rfl))))))))
set_option maxRecDepth 100000 in
theorem f36_40 : mj_find (mj_P 36).2.2.2.2 40 = [(.ifCond .ne 29, 3, 0, [69]), (.aload_n 0, 1, 0, []), (.getfield 34, 3, 0, [4, 7, 3, 602]), (.iload_n 3, 1, 0, []), (.iaload, 1, 0, []), (.bipush 10, 2, 10, []), (.if_icmp .ge 18, 3, 0, [69]), (.aload_n 0, 1, 0, []), (.getfield 25, 3, 0, [4, 4, 3, 599]), (.aload_n 0, 1, 0, []), (.getfield 34, 3, 0, [4, 7, 3, 602]), (.iload_n 3, 1, 0, []), (.iaload, 1, 0, []), (.dup2, 1, 0, []), (.iaload, 1, 0, []), (.iconst 1, 1, 1, []), (.iadd, 1, 0, []), (.iastore, 1, 0, [])] := rfl
set_option maxRecDepth 100000 in
theorem q36_40 (E : mj_E) (d w c : Nat) (hi : Nat → Nat → Int32) (hl : Nat → Nat → Int64) (v1 : Int32) (v2 : Int32) (v3 : Int32) (s0 : Int32) : mj_den mj_P E d 36 40 [Value.ref 194, Value.int v1, Value.int v2, Value.int v3] [Value.int s0] (mj_hw w c hi hl) = if ¬ s0 = 0 then mj_den mj_P E d 36 69 [Value.ref 194, Value.int v1, Value.int v2, Value.int v3] [] (mj_hw w c hi hl) else if 0 ≤ v3 ∧ (v3).toNatClampNeg < 16 then if (10 : Int32) ≤ (hi 200 ((v3).toNatClampNeg)) then mj_den mj_P E d 36 69 [Value.ref 194, Value.int v1, Value.int v2, Value.int v3] [] (mj_hw w c hi hl) else if 0 ≤ v3 ∧ (v3).toNatClampNeg < 16 then if 0 ≤ (hi 200 ((v3).toNatClampNeg)) ∧ ((hi 200 ((v3).toNatClampNeg))).toNatClampNeg < 10 then if 0 ≤ (hi 200 ((v3).toNatClampNeg)) ∧ ((hi 200 ((v3).toNatClampNeg))).toNatClampNeg < 10 then mj_den mj_P E d 36 69 [Value.ref 194, Value.int v1, Value.int v2, Value.int v3] [] (mj_hw w c (mj_u hi 197 (((hi 200 ((v3).toNatClampNeg))).toNatClampNeg) ((hi 197 (((hi 200 ((v3).toNatClampNeg))).toNatClampNeg)) + (1 : Int32))) hl) else none else none else none else none := by
  rw [mj_den_eq, f36_40]
  exact zt_if_ne rfl rfl (zt_aload_n rfl rfl (zt_getr (mjkd194 _ _ _ _) (mjhr194_7 w c) rfl (zt_iload_n rfl rfl (zt_iald (mjkd200 _ _ _ _) (mjln200 _ _ _ _) rfl rfl (zt_bipush rfl (zt_icmp_ge rfl rfl (zt_aload_n rfl rfl (zt_getr (mjkd194 _ _ _ _) (mjhr194_4 w c) rfl (zt_aload_n rfl rfl (zt_getr (mjkd194 _ _ _ _) (mjhr194_7 w c) rfl (zt_iload_n rfl rfl (zt_iald (mjkd200 _ _ _ _) (mjln200 _ _ _ _) rfl rfl (zt_dup2r rfl (zt_iald (mjkd197 _ _ _ _) (mjln197 _ _ _ _) rfl rfl (zt_iconst rfl (zt_iadd rfl (zt_iast (mjkd197 _ _ _ _) (mjln197 _ _ _ _) rfl rfl (zt_end rfl))))))))))))))))))
set_option maxRecDepth 100000 in
theorem f36_69 : mj_find (mj_P 36).2.2.2.2 69 = [(.iinc 3 1, 3, 1, []), (.goto (-47), 3, 0, [25])] := rfl
set_option maxRecDepth 100000 in
theorem q36_69 (E : mj_E) (d w c : Nat) (hi : Nat → Nat → Int32) (hl : Nat → Nat → Int64) (v1 : Int32) (v2 : Int32) (v3 : Int32) : mj_den mj_P E d 36 69 [Value.ref 194, Value.int v1, Value.int v2, Value.int v3] [] (mj_hw w c hi hl) = mj_den mj_P E d 36 25 [Value.ref 194, Value.int v1, Value.int v2, Value.int (v3 + (1 : Int32))] [] (mj_hw w c hi hl) := by
  rw [mj_den_eq, f36_69]
  exact zt_iinc rfl (Nat.le_of_ble_eq_true rfl) rfl rfl (zt_goto rfl)
set_option maxRecDepth 100000 in
theorem f36_75 : mj_find (mj_P 36).2.2.2.2 75 = [(.return_, 1, 0, [])] := rfl
set_option maxRecDepth 100000 in
theorem q36_75 (E : mj_E) (d w c : Nat) (hi : Nat → Nat → Int32) (hl : Nat → Nat → Int64) (v1 : Int32) (v2 : Int32) (v3 : Int32) : mj_den mj_P E d 36 75 [Value.ref 194, Value.int v1, Value.int v2, Value.int v3] [] (mj_hw w c hi hl) = some (none, (mj_hw w c hi hl)) := by
  rw [mj_den_eq, f36_75]
  exact zt_return
set_option maxRecDepth 100000 in
theorem f37_0 : mj_find (mj_P 37).2.2.2.2 0 = [(.iconst (-1), 1, (-1), []), (.istore_n 2, 1, 0, []), (.iconst 0, 1, 0, []), (.istore_n 3, 1, 0, []), (.iconst 0, 1, 0, []), (.istore 4, 2, 0, [])] := rfl
set_option maxRecDepth 100000 in
theorem q37_0 (E : mj_E) (d w c : Nat) (hi : Nat → Nat → Int32) (hl : Nat → Nat → Int64) (v1 : Int32) : mj_den mj_P E d 37 0 [Value.ref 194, Value.int v1, Value.float 0, Value.float 0, Value.float 0, Value.float 0] [] (mj_hw w c hi hl) = mj_den mj_P E d 37 7 [Value.ref 194, Value.int v1, Value.int (-1 : Int32), Value.int (0 : Int32), Value.int (0 : Int32), Value.float 0] [] (mj_hw w c hi hl) := by
  rw [mj_den_eq, f37_0]
  exact zt_iconst rfl (zt_istore_n (Nat.le_of_ble_eq_true rfl) rfl rfl (zt_iconst rfl (zt_istore_n (Nat.le_of_ble_eq_true rfl) rfl rfl (zt_iconst rfl (zt_istore (Nat.le_of_ble_eq_true rfl) rfl rfl (zt_end rfl))))))
set_option maxRecDepth 100000 in
theorem f37_7 : mj_find (mj_P 37).2.2.2.2 7 = [(.iload 4, 2, 0, []), (.aload_n 0, 1, 0, []), (.getfield 9, 3, 0, [4, 0, 0, 595]), (.if_icmp .ge 56, 3, 0, [69]), (.iload_n 1, 1, 0, []), (.iload 4, 2, 0, []), (.invokestatic 40, 3, 0, [6, 148, 0, 2, 1, 1135, 758, 143, 759])] := rfl
set_option maxRecDepth 100000 in
theorem q37_7 (E : mj_E) (d w c : Nat) (hi : Nat → Nat → Int32) (hl : Nat → Nat → Int64) (v1 : Int32) (v2 : Int32) (v3 : Int32) (v4 : Int32) : mj_den mj_P E d 37 7 [Value.ref 194, Value.int v1, Value.int v2, Value.int v3, Value.int v4, Value.float 0] [] (mj_hw w c hi hl) = if (hi 194 0) ≤ v4 then mj_den mj_P E d 37 69 [Value.ref 194, Value.int v1, Value.int v2, Value.int v3, Value.int v4, Value.float 0] [] (mj_hw w c hi hl) else mj_bi (mj_dc mj_P E d 148 [Value.int v1, Value.int v4] (mj_hw w c hi hl)) (fun x1 h1 => mj_den mj_P E d 37 22 [Value.ref 194, Value.int v1, Value.int v2, Value.int v3, Value.int v4, Value.float 0] [Value.int x1] h1) := by
  rw [mj_den_eq, f37_7]
  exact zt_iload rfl rfl (zt_aload_n rfl rfl (zt_geti (mjkd194 _ _ _ _) rfl rfl (zt_icmp_ge rfl rfl (zt_iload_n rfl rfl (zt_iload rfl rfl (zt_call6_1 (Nat.le_of_ble_eq_true rfl) rfl (Nat.le_of_ble_eq_true rfl) rfl rfl))))))
set_option maxRecDepth 100000 in
theorem q37_7_1 (E : mj_E) (d w c : Nat) (hi : Nat → Nat → Int32) (hl : Nat → Nat → Int64) (v1 : Int32) (v2 : Int32) (v3 : Int32) (v4 : Int32) (v5 : Int32) : mj_den mj_P E d 37 7 [Value.ref 194, Value.int v1, Value.int v2, Value.int v3, Value.int v4, Value.int v5] [] (mj_hw w c hi hl) = if (hi 194 0) ≤ v4 then mj_den mj_P E d 37 69 [Value.ref 194, Value.int v1, Value.int v2, Value.int v3, Value.int v4, Value.int v5] [] (mj_hw w c hi hl) else mj_bi (mj_dc mj_P E d 148 [Value.int v1, Value.int v4] (mj_hw w c hi hl)) (fun x1 h1 => mj_den mj_P E d 37 22 [Value.ref 194, Value.int v1, Value.int v2, Value.int v3, Value.int v4, Value.int v5] [Value.int x1] h1) := by
  rw [mj_den_eq, f37_7]
  exact zt_iload rfl rfl (zt_aload_n rfl rfl (zt_geti (mjkd194 _ _ _ _) rfl rfl (zt_icmp_ge rfl rfl (zt_iload_n rfl rfl (zt_iload rfl rfl (zt_call6_1 (Nat.le_of_ble_eq_true rfl) rfl (Nat.le_of_ble_eq_true rfl) rfl rfl))))))
set_option maxRecDepth 100000 in
theorem f37_22 : mj_find (mj_P 37).2.2.2.2 22 = [(.ifCond .ne 41, 3, 0, [63]), (.aload_n 0, 1, 0, []), (.getfield 25, 3, 0, [4, 4, 3, 599]), (.iload 4, 2, 0, []), (.iaload, 1, 0, []), (.aload_n 0, 1, 0, []), (.getfield 37, 3, 0, [4, 8, 3, 603]), (.iload_n 1, 1, 0, []), (.iconst 1, 1, 1, []), (.iload 4, 2, 0, []), (.ishl, 1, 0, []), (.ior, 1, 0, []), (.iaload, 1, 0, []), (.iadd, 1, 0, []), (.istore 5, 2, 0, []), (.iload_n 2, 1, 0, []), (.iconst (-1), 1, (-1), []), (.if_icmp .eq 9, 3, 0, [57]), (.iload 5, 2, 0, []), (.iload_n 3, 1, 0, []), (.if_icmp .ge 9, 3, 0, [63])] := rfl
set_option maxRecDepth 100000 in
theorem q37_22 (E : mj_E) (d w c : Nat) (hi : Nat → Nat → Int32) (hl : Nat → Nat → Int64) (v1 : Int32) (v2 : Int32) (v3 : Int32) (v4 : Int32) (s0 : Int32) : mj_den mj_P E d 37 22 [Value.ref 194, Value.int v1, Value.int v2, Value.int v3, Value.int v4, Value.float 0] [Value.int s0] (mj_hw w c hi hl) = if ¬ s0 = 0 then mj_den mj_P E d 37 63 [Value.ref 194, Value.int v1, Value.int v2, Value.int v3, Value.int v4, Value.float 0] [] (mj_hw w c hi hl) else if 0 ≤ v4 ∧ (v4).toNatClampNeg < 10 then if 0 ≤ (v1 ||| ((1 : Int32) <<< (v4 &&& 31))) ∧ ((v1 ||| ((1 : Int32) <<< (v4 &&& 31)))).toNatClampNeg < 2048 then if v2 = (-1 : Int32) then mj_den mj_P E d 37 57 [Value.ref 194, Value.int v1, Value.int v2, Value.int v3, Value.int v4, Value.int ((hi 197 ((v4).toNatClampNeg)) + (hi 201 (((v1 ||| ((1 : Int32) <<< (v4 &&& 31)))).toNatClampNeg)))] [] (mj_hw w c hi hl) else if v3 ≤ ((hi 197 ((v4).toNatClampNeg)) + (hi 201 (((v1 ||| ((1 : Int32) <<< (v4 &&& 31)))).toNatClampNeg))) then mj_den mj_P E d 37 63 [Value.ref 194, Value.int v1, Value.int v2, Value.int v3, Value.int v4, Value.int ((hi 197 ((v4).toNatClampNeg)) + (hi 201 (((v1 ||| ((1 : Int32) <<< (v4 &&& 31)))).toNatClampNeg)))] [] (mj_hw w c hi hl) else mj_den mj_P E d 37 57 [Value.ref 194, Value.int v1, Value.int v2, Value.int v3, Value.int v4, Value.int ((hi 197 ((v4).toNatClampNeg)) + (hi 201 (((v1 ||| ((1 : Int32) <<< (v4 &&& 31)))).toNatClampNeg)))] [] (mj_hw w c hi hl) else none else none := by
  rw [mj_den_eq, f37_22]
  exact zt_if_ne rfl rfl (zt_aload_n rfl rfl (zt_getr (mjkd194 _ _ _ _) (mjhr194_4 w c) rfl (zt_iload rfl rfl (zt_iald (mjkd197 _ _ _ _) (mjln197 _ _ _ _) rfl rfl (zt_aload_n rfl rfl (zt_getr (mjkd194 _ _ _ _) (mjhr194_8 w c) rfl (zt_iload_n rfl rfl (zt_iconst rfl (zt_iload rfl rfl (zt_ishl rfl (zt_ior rfl (zt_iald (mjkd201 _ _ _ _) (mjln201 _ _ _ _) rfl rfl (zt_iadd rfl (zt_istore (Nat.le_of_ble_eq_true rfl) rfl rfl (zt_iload_n rfl rfl (zt_iconst rfl (zt_icmp_eq rfl rfl (zt_iload rfl rfl (zt_iload_n rfl rfl (zt_icmp_ge rfl rfl (zt_end rfl)))))))))))))))))))))
set_option maxRecDepth 100000 in
theorem q37_22_1 (E : mj_E) (d w c : Nat) (hi : Nat → Nat → Int32) (hl : Nat → Nat → Int64) (v1 : Int32) (v2 : Int32) (v3 : Int32) (v4 : Int32) (v5 : Int32) (s0 : Int32) : mj_den mj_P E d 37 22 [Value.ref 194, Value.int v1, Value.int v2, Value.int v3, Value.int v4, Value.int v5] [Value.int s0] (mj_hw w c hi hl) = if ¬ s0 = 0 then mj_den mj_P E d 37 63 [Value.ref 194, Value.int v1, Value.int v2, Value.int v3, Value.int v4, Value.int v5] [] (mj_hw w c hi hl) else if 0 ≤ v4 ∧ (v4).toNatClampNeg < 10 then if 0 ≤ (v1 ||| ((1 : Int32) <<< (v4 &&& 31))) ∧ ((v1 ||| ((1 : Int32) <<< (v4 &&& 31)))).toNatClampNeg < 2048 then if v2 = (-1 : Int32) then mj_den mj_P E d 37 57 [Value.ref 194, Value.int v1, Value.int v2, Value.int v3, Value.int v4, Value.int ((hi 197 ((v4).toNatClampNeg)) + (hi 201 (((v1 ||| ((1 : Int32) <<< (v4 &&& 31)))).toNatClampNeg)))] [] (mj_hw w c hi hl) else if v3 ≤ ((hi 197 ((v4).toNatClampNeg)) + (hi 201 (((v1 ||| ((1 : Int32) <<< (v4 &&& 31)))).toNatClampNeg))) then mj_den mj_P E d 37 63 [Value.ref 194, Value.int v1, Value.int v2, Value.int v3, Value.int v4, Value.int ((hi 197 ((v4).toNatClampNeg)) + (hi 201 (((v1 ||| ((1 : Int32) <<< (v4 &&& 31)))).toNatClampNeg)))] [] (mj_hw w c hi hl) else mj_den mj_P E d 37 57 [Value.ref 194, Value.int v1, Value.int v2, Value.int v3, Value.int v4, Value.int ((hi 197 ((v4).toNatClampNeg)) + (hi 201 (((v1 ||| ((1 : Int32) <<< (v4 &&& 31)))).toNatClampNeg)))] [] (mj_hw w c hi hl) else none else none := by
  rw [mj_den_eq, f37_22]
  exact zt_if_ne rfl rfl (zt_aload_n rfl rfl (zt_getr (mjkd194 _ _ _ _) (mjhr194_4 w c) rfl (zt_iload rfl rfl (zt_iald (mjkd197 _ _ _ _) (mjln197 _ _ _ _) rfl rfl (zt_aload_n rfl rfl (zt_getr (mjkd194 _ _ _ _) (mjhr194_8 w c) rfl (zt_iload_n rfl rfl (zt_iconst rfl (zt_iload rfl rfl (zt_ishl rfl (zt_ior rfl (zt_iald (mjkd201 _ _ _ _) (mjln201 _ _ _ _) rfl rfl (zt_iadd rfl (zt_istore (Nat.le_of_ble_eq_true rfl) rfl rfl (zt_iload_n rfl rfl (zt_iconst rfl (zt_icmp_eq rfl rfl (zt_iload rfl rfl (zt_iload_n rfl rfl (zt_icmp_ge rfl rfl (zt_end rfl)))))))))))))))))))))
set_option maxRecDepth 100000 in
theorem f37_57 : mj_find (mj_P 37).2.2.2.2 57 = [(.iload 4, 2, 0, []), (.istore_n 2, 1, 0, []), (.iload 5, 2, 0, []), (.istore_n 3, 1, 0, [])] := rfl
set_option maxRecDepth 100000 in
theorem q37_57 (E : mj_E) (d w c : Nat) (hi : Nat → Nat → Int32) (hl : Nat → Nat → Int64) (v1 : Int32) (v2 : Int32) (v3 : Int32) (v4 : Int32) (v5 : Int32) : mj_den mj_P E d 37 57 [Value.ref 194, Value.int v1, Value.int v2, Value.int v3, Value.int v4, Value.int v5] [] (mj_hw w c hi hl) = mj_den mj_P E d 37 63 [Value.ref 194, Value.int v1, Value.int v4, Value.int v5, Value.int v4, Value.int v5] [] (mj_hw w c hi hl) := by
  rw [mj_den_eq, f37_57]
  exact zt_iload rfl rfl (zt_istore_n (Nat.le_of_ble_eq_true rfl) rfl rfl (zt_iload rfl rfl (zt_istore_n (Nat.le_of_ble_eq_true rfl) rfl rfl (zt_end rfl))))
set_option maxRecDepth 100000 in
theorem f37_63 : mj_find (mj_P 37).2.2.2.2 63 = [(.iinc 4 1, 3, 1, []), (.goto (-59), 3, 0, [7])] := rfl
set_option maxRecDepth 100000 in
theorem q37_63 (E : mj_E) (d w c : Nat) (hi : Nat → Nat → Int32) (hl : Nat → Nat → Int64) (v1 : Int32) (v2 : Int32) (v3 : Int32) (v4 : Int32) (v5 : Int32) : mj_den mj_P E d 37 63 [Value.ref 194, Value.int v1, Value.int v2, Value.int v3, Value.int v4, Value.int v5] [] (mj_hw w c hi hl) = mj_den mj_P E d 37 7 [Value.ref 194, Value.int v1, Value.int v2, Value.int v3, Value.int (v4 + (1 : Int32)), Value.int v5] [] (mj_hw w c hi hl) := by
  rw [mj_den_eq, f37_63]
  exact zt_iinc rfl (Nat.le_of_ble_eq_true rfl) rfl rfl (zt_goto rfl)
set_option maxRecDepth 100000 in
theorem q37_63_1 (E : mj_E) (d w c : Nat) (hi : Nat → Nat → Int32) (hl : Nat → Nat → Int64) (v1 : Int32) (v2 : Int32) (v3 : Int32) (v4 : Int32) : mj_den mj_P E d 37 63 [Value.ref 194, Value.int v1, Value.int v2, Value.int v3, Value.int v4, Value.float 0] [] (mj_hw w c hi hl) = mj_den mj_P E d 37 7 [Value.ref 194, Value.int v1, Value.int v2, Value.int v3, Value.int (v4 + (1 : Int32)), Value.float 0] [] (mj_hw w c hi hl) := by
  rw [mj_den_eq, f37_63]
  exact zt_iinc rfl (Nat.le_of_ble_eq_true rfl) rfl rfl (zt_goto rfl)
set_option maxRecDepth 100000 in
theorem f37_69 : mj_find (mj_P 37).2.2.2.2 69 = [(.iload_n 2, 1, 0, []), (.ireturn, 1, 0, [0])] := rfl
set_option maxRecDepth 100000 in
theorem q37_69 (E : mj_E) (d w c : Nat) (hi : Nat → Nat → Int32) (hl : Nat → Nat → Int64) (v1 : Int32) (v2 : Int32) (v3 : Int32) (v4 : Int32) (v5 : Int32) : mj_den mj_P E d 37 69 [Value.ref 194, Value.int v1, Value.int v2, Value.int v3, Value.int v4, Value.int v5] [] (mj_hw w c hi hl) = some (some (Value.int v2), (mj_hw w c hi hl)) := by
  rw [mj_den_eq, f37_69]
  exact zt_iload_n rfl rfl (zt_ireturn0)
set_option maxRecDepth 100000 in
theorem q37_69_1 (E : mj_E) (d w c : Nat) (hi : Nat → Nat → Int32) (hl : Nat → Nat → Int64) (v1 : Int32) (v2 : Int32) (v3 : Int32) (v4 : Int32) : mj_den mj_P E d 37 69 [Value.ref 194, Value.int v1, Value.int v2, Value.int v3, Value.int v4, Value.float 0] [] (mj_hw w c hi hl) = some (some (Value.int v2), (mj_hw w c hi hl)) := by
  rw [mj_den_eq, f37_69]
  exact zt_iload_n rfl rfl (zt_ireturn0)
set_option maxRecDepth 100000 in
theorem f38_0 : mj_find (mj_P 38).2.2.2.2 0 = [(.aload_n 0, 1, 0, []), (.iconst 0, 1, 0, []), (.aload_n 1, 1, 0, []), (.getfield 107, 3, 0, [9, 6, 0, 376]), (.bipush 7, 2, 7, []), (.invokestatic 54, 3, 0, [1, 296, 0, 2, 1, 1136, 728, 157, 729])] := rfl
set_option maxRecDepth 100000 in
theorem q38_0 (E : mj_E) (d w c : Nat) (hi : Nat → Nat → Int32) (hl : Nat → Nat → Int64) : mj_den mj_P E d 38 0 [Value.ref 194, Value.ref 34, Value.float 0, Value.float 0, Value.float 0, Value.float 0] [] (mj_hw w c hi hl) = mj_bi (mj_dc mj_P E d 296 [Value.int (hi 34 6), Value.int (7 : Int32)] (mj_hw w c hi hl)) (fun x1 h1 => mj_den mj_P E d 38 11 [Value.ref 194, Value.ref 34, Value.float 0, Value.float 0, Value.float 0, Value.float 0] [Value.int x1, Value.int (0 : Int32), Value.ref 194] h1) := by
  rw [mj_den_eq, f38_0]
  exact zt_aload_n rfl rfl (zt_iconst rfl (zt_aload_n rfl rfl (zt_geti (mjkd34 _ _ _ _) rfl rfl (zt_bipush rfl (zt_call1_1 (Nat.le_of_ble_eq_true rfl) rfl (Nat.le_of_ble_eq_true rfl) rfl rfl)))))
set_option maxRecDepth 100000 in
theorem f38_11 : mj_find (mj_P 38).2.2.2.2 11 = [(.invokestatic 110, 3, 0, [1, 295, 0, 2, 1, 1287, 782, 157, 783])] := rfl
set_option maxRecDepth 100000 in
theorem q38_11 (E : mj_E) (d w c : Nat) (hi : Nat → Nat → Int32) (hl : Nat → Nat → Int64) (s0 : Int32) (s1 : Int32) : mj_den mj_P E d 38 11 [Value.ref 194, Value.ref 34, Value.float 0, Value.float 0, Value.float 0, Value.float 0] [Value.int s0, Value.int s1, Value.ref 194] (mj_hw w c hi hl) = mj_bi (mj_dc mj_P E d 295 [Value.int s1, Value.int s0] (mj_hw w c hi hl)) (fun x1 h1 => mj_den mj_P E d 38 14 [Value.ref 194, Value.ref 34, Value.float 0, Value.float 0, Value.float 0, Value.float 0] [Value.int x1, Value.ref 194] h1) := by
  rw [mj_den_eq, f38_11]
  exact zt_call1_1 (Nat.le_of_ble_eq_true rfl) rfl (Nat.le_of_ble_eq_true rfl) rfl rfl
set_option maxRecDepth 100000 in
theorem f38_14 : mj_find (mj_P 38).2.2.2.2 14 = [(.putfield 9, 3, 0, [4, 0, 0, 595]), (.iconst 1, 1, 1, []), (.aload_n 0, 1, 0, []), (.getfield 9, 3, 0, [4, 0, 0, 595]), (.ishl, 1, 0, []), (.iconst 1, 1, 1, []), (.isub, 1, 0, []), (.istore_n 2, 1, 0, []), (.aload_n 0, 1, 0, []), (.getfield 37, 3, 0, [4, 8, 3, 603]), (.iload_n 2, 1, 0, []), (.iconst 0, 1, 0, []), (.iastore, 1, 0, []), (.iload_n 2, 1, 0, []), (.iconst 1, 1, 1, []), (.isub, 1, 0, []), (.istore_n 3, 1, 0, [])] := rfl
set_option maxRecDepth 100000 in
theorem q38_14 (E : mj_E) (d w c : Nat) (hi : Nat → Nat → Int32) (hl : Nat → Nat → Int64) (s0 : Int32) : mj_den mj_P E d 38 14 [Value.ref 194, Value.ref 34, Value.float 0, Value.float 0, Value.float 0, Value.float 0] [Value.int s0, Value.ref 194] (mj_hw w c hi hl) = if 0 ≤ (((1 : Int32) <<< (s0 &&& 31)) - (1 : Int32)) ∧ ((((1 : Int32) <<< (s0 &&& 31)) - (1 : Int32))).toNatClampNeg < 2048 then mj_den mj_P E d 38 37 [Value.ref 194, Value.ref 34, Value.int (((1 : Int32) <<< (s0 &&& 31)) - (1 : Int32)), Value.int ((((1 : Int32) <<< (s0 &&& 31)) - (1 : Int32)) - (1 : Int32)), Value.float 0, Value.float 0] [] (mj_hw w c (mj_u (mj_u hi 194 0 s0) 201 (((((1 : Int32) <<< (s0 &&& 31)) - (1 : Int32))).toNatClampNeg) (0 : Int32)) hl) else none := by
  rw [mj_den_eq, f38_14]
  exact zt_puti (mjkd194 _ _ _ _) rfl rfl (zt_iconst rfl (zt_aload_n rfl rfl (zt_geti (mjkd194 _ _ _ _) rfl rfl (zt_ishl rfl (zt_iconst rfl (zt_isub rfl (zt_istore_n (Nat.le_of_ble_eq_true rfl) rfl rfl (zt_aload_n rfl rfl (zt_getr (mjkd194 _ _ _ _) (mjhr194_8 w c) rfl (zt_iload_n rfl rfl (zt_iconst rfl (zt_iast (mjkd201 _ _ _ _) (mjln201 _ _ _ _) rfl rfl (zt_iload_n rfl rfl (zt_iconst rfl (zt_isub rfl (zt_istore_n (Nat.le_of_ble_eq_true rfl) rfl rfl (zt_end rfl)))))))))))))))))
set_option maxRecDepth 100000 in
theorem f38_37 : mj_find (mj_P 38).2.2.2.2 37 = [(.iload_n 3, 1, 0, []), (.ifCond .lt 53, 3, 0, [91]), (.aload_n 0, 1, 0, []), (.aload_n 1, 1, 0, []), (.iload_n 3, 1, 0, []), (.invokevirtual 113, 3, 0, [0, 39, 4, 2, 1, 1288, 1290, 35, 153, 1291])] := rfl
set_option maxRecDepth 100000 in
theorem q38_37 (E : mj_E) (d w c : Nat) (hi : Nat → Nat → Int32) (hl : Nat → Nat → Int64) (v2 : Int32) (v3 : Int32) : mj_den mj_P E d 38 37 [Value.ref 194, Value.ref 34, Value.int v2, Value.int v3, Value.float 0, Value.float 0] [] (mj_hw w c hi hl) = if v3 < 0 then mj_den mj_P E d 38 91 [Value.ref 194, Value.ref 34, Value.int v2, Value.int v3, Value.float 0, Value.float 0] [] (mj_hw w c hi hl) else mj_bi (mj_dc mj_P E d 39 [Value.ref 194, Value.ref 34, Value.int v3] (mj_hw w c hi hl)) (fun x1 h1 => mj_den mj_P E d 38 47 [Value.ref 194, Value.ref 34, Value.int v2, Value.int v3, Value.float 0, Value.float 0] [Value.int x1] h1) := by
  rw [mj_den_eq, f38_37]
  exact zt_iload_n rfl rfl (zt_if_lt rfl rfl (zt_aload_n rfl rfl (zt_aload_n rfl rfl (zt_iload_n rfl rfl (zt_call0_1 rfl (mjkd194 _ _ _ _) (Nat.le_of_ble_eq_true rfl) rfl rfl)))))
set_option maxRecDepth 100000 in
theorem q38_37_1 (E : mj_E) (d w c : Nat) (hi : Nat → Nat → Int32) (hl : Nat → Nat → Int64) (v2 : Int32) (v3 : Int32) (v4 : Int32) (v5 : Int32) : mj_den mj_P E d 38 37 [Value.ref 194, Value.ref 34, Value.int v2, Value.int v3, Value.int v4, Value.int v5] [] (mj_hw w c hi hl) = if v3 < 0 then mj_den mj_P E d 38 91 [Value.ref 194, Value.ref 34, Value.int v2, Value.int v3, Value.int v4, Value.int v5] [] (mj_hw w c hi hl) else mj_bi (mj_dc mj_P E d 39 [Value.ref 194, Value.ref 34, Value.int v3] (mj_hw w c hi hl)) (fun x1 h1 => mj_den mj_P E d 38 47 [Value.ref 194, Value.ref 34, Value.int v2, Value.int v3, Value.int v4, Value.int v5] [Value.int x1] h1) := by
  rw [mj_den_eq, f38_37]
  exact zt_iload_n rfl rfl (zt_if_lt rfl rfl (zt_aload_n rfl rfl (zt_aload_n rfl rfl (zt_iload_n rfl rfl (zt_call0_1 rfl (mjkd194 _ _ _ _) (Nat.le_of_ble_eq_true rfl) rfl rfl)))))
set_option maxRecDepth 100000 in
theorem f38_47 : mj_find (mj_P 38).2.2.2.2 47 = [(.istore 4, 2, 0, []), (.aload_n 0, 1, 0, []), (.aload_n 1, 1, 0, []), (.iload_n 3, 1, 0, []), (.iload 4, 2, 0, []), (.invokevirtual 117, 3, 0, [0, 41, 4, 3, 1, 1292, 1294, 36, 153, 1295])] := rfl
set_option maxRecDepth 100000 in
theorem q38_47 (E : mj_E) (d w c : Nat) (hi : Nat → Nat → Int32) (hl : Nat → Nat → Int64) (v2 : Int32) (v3 : Int32) (s0 : Int32) : mj_den mj_P E d 38 47 [Value.ref 194, Value.ref 34, Value.int v2, Value.int v3, Value.float 0, Value.float 0] [Value.int s0] (mj_hw w c hi hl) = mj_bi (mj_dc mj_P E d 41 [Value.ref 194, Value.ref 34, Value.int v3, Value.int s0] (mj_hw w c hi hl)) (fun x1 h1 => mj_den mj_P E d 38 57 [Value.ref 194, Value.ref 34, Value.int v2, Value.int v3, Value.int s0, Value.float 0] [Value.int x1] h1) := by
  rw [mj_den_eq, f38_47]
  exact zt_istore (Nat.le_of_ble_eq_true rfl) rfl rfl (zt_aload_n rfl rfl (zt_aload_n rfl rfl (zt_iload_n rfl rfl (zt_iload rfl rfl (zt_call0_1 rfl (mjkd194 _ _ _ _) (Nat.le_of_ble_eq_true rfl) rfl rfl)))))
set_option maxRecDepth 100000 in
theorem q38_47_1 (E : mj_E) (d w c : Nat) (hi : Nat → Nat → Int32) (hl : Nat → Nat → Int64) (v2 : Int32) (v3 : Int32) (v4 : Int32) (v5 : Int32) (s0 : Int32) : mj_den mj_P E d 38 47 [Value.ref 194, Value.ref 34, Value.int v2, Value.int v3, Value.int v4, Value.int v5] [Value.int s0] (mj_hw w c hi hl) = mj_bi (mj_dc mj_P E d 41 [Value.ref 194, Value.ref 34, Value.int v3, Value.int s0] (mj_hw w c hi hl)) (fun x1 h1 => mj_den mj_P E d 38 57 [Value.ref 194, Value.ref 34, Value.int v2, Value.int v3, Value.int s0, Value.int v5] [Value.int x1] h1) := by
  rw [mj_den_eq, f38_47]
  exact zt_istore (Nat.le_of_ble_eq_true rfl) rfl rfl (zt_aload_n rfl rfl (zt_aload_n rfl rfl (zt_iload_n rfl rfl (zt_iload rfl rfl (zt_call0_1 rfl (mjkd194 _ _ _ _) (Nat.le_of_ble_eq_true rfl) rfl rfl)))))
set_option maxRecDepth 100000 in
theorem f38_57 : mj_find (mj_P 38).2.2.2.2 57 = [(.istore 5, 2, 0, []), (.aload_n 0, 1, 0, []), (.getfield 37, 3, 0, [4, 8, 3, 603]), (.iload_n 3, 1, 0, []), (.iload 5, 2, 0, []), (.iconst (-1), 1, (-1), []), (.if_icmp .ne 7, 3, 0, [74]), (.iconst 0, 1, 0, []), (.goto 13, 3, 0, [84])] := rfl
set_option maxRecDepth 100000 in
theorem q38_57 (E : mj_E) (d w c : Nat) (hi : Nat → Nat → Int32) (hl : Nat → Nat → Int64) (v2 : Int32) (v3 : Int32) (v4 : Int32) (s0 : Int32) : mj_den mj_P E d 38 57 [Value.ref 194, Value.ref 34, Value.int v2, Value.int v3, Value.int v4, Value.float 0] [Value.int s0] (mj_hw w c hi hl) = if ¬ s0 = (-1 : Int32) then mj_den mj_P E d 38 74 [Value.ref 194, Value.ref 34, Value.int v2, Value.int v3, Value.int v4, Value.int s0] [Value.int v3, Value.ref 201] (mj_hw w c hi hl) else mj_den mj_P E d 38 84 [Value.ref 194, Value.ref 34, Value.int v2, Value.int v3, Value.int v4, Value.int s0] [Value.int (0 : Int32), Value.int v3, Value.ref 201] (mj_hw w c hi hl) := by
  rw [mj_den_eq, f38_57]
  exact zt_istore (Nat.le_of_ble_eq_true rfl) rfl rfl (zt_aload_n rfl rfl (zt_getr (mjkd194 _ _ _ _) (mjhr194_8 w c) rfl (zt_iload_n rfl rfl (zt_iload rfl rfl (zt_iconst rfl (zt_icmp_ne rfl rfl (zt_iconst rfl (zt_goto rfl))))))))
set_option maxRecDepth 100000 in
theorem q38_57_1 (E : mj_E) (d w c : Nat) (hi : Nat → Nat → Int32) (hl : Nat → Nat → Int64) (v2 : Int32) (v3 : Int32) (v4 : Int32) (v5 : Int32) (s0 : Int32) : mj_den mj_P E d 38 57 [Value.ref 194, Value.ref 34, Value.int v2, Value.int v3, Value.int v4, Value.int v5] [Value.int s0] (mj_hw w c hi hl) = if ¬ s0 = (-1 : Int32) then mj_den mj_P E d 38 74 [Value.ref 194, Value.ref 34, Value.int v2, Value.int v3, Value.int v4, Value.int s0] [Value.int v3, Value.ref 201] (mj_hw w c hi hl) else mj_den mj_P E d 38 84 [Value.ref 194, Value.ref 34, Value.int v2, Value.int v3, Value.int v4, Value.int s0] [Value.int (0 : Int32), Value.int v3, Value.ref 201] (mj_hw w c hi hl) := by
  rw [mj_den_eq, f38_57]
  exact zt_istore (Nat.le_of_ble_eq_true rfl) rfl rfl (zt_aload_n rfl rfl (zt_getr (mjkd194 _ _ _ _) (mjhr194_8 w c) rfl (zt_iload_n rfl rfl (zt_iload rfl rfl (zt_iconst rfl (zt_icmp_ne rfl rfl (zt_iconst rfl (zt_goto rfl))))))))
set_option maxRecDepth 100000 in
theorem f38_74 : mj_find (mj_P 38).2.2.2.2 74 = [(.aload_n 0, 1, 0, []), (.aload_n 1, 1, 0, []), (.iload_n 3, 1, 0, []), (.iload 4, 2, 0, []), (.iload 5, 2, 0, []), (.invokevirtual 121, 3, 0, [0, 40, 4, 4, 1, 1296, 1298, 37, 153, 1299])] := rfl
set_option maxRecDepth 100000 in
theorem q38_74 (E : mj_E) (d w c : Nat) (hi : Nat → Nat → Int32) (hl : Nat → Nat → Int64) (v2 : Int32) (v3 : Int32) (v4 : Int32) (v5 : Int32) (s0 : Int32) : mj_den mj_P E d 38 74 [Value.ref 194, Value.ref 34, Value.int v2, Value.int v3, Value.int v4, Value.int v5] [Value.int s0, Value.ref 201] (mj_hw w c hi hl) = mj_bi (mj_dc mj_P E d 40 [Value.ref 194, Value.ref 34, Value.int v3, Value.int v4, Value.int v5] (mj_hw w c hi hl)) (fun x1 h1 => mj_den mj_P E d 38 84 [Value.ref 194, Value.ref 34, Value.int v2, Value.int v3, Value.int v4, Value.int v5] [Value.int x1, Value.int s0, Value.ref 201] h1) := by
  rw [mj_den_eq, f38_74]
  exact zt_aload_n rfl rfl (zt_aload_n rfl rfl (zt_iload_n rfl rfl (zt_iload rfl rfl (zt_iload rfl rfl (zt_call0_1 rfl (mjkd194 _ _ _ _) (Nat.le_of_ble_eq_true rfl) rfl rfl)))))
set_option maxRecDepth 100000 in
theorem f38_84 : mj_find (mj_P 38).2.2.2.2 84 = [(.iastore, 1, 0, []), (.iinc 3 (-1), 3, (-1), []), (.goto (-51), 3, 0, [37])] := rfl
set_option maxRecDepth 100000 in
theorem q38_84 (E : mj_E) (d w c : Nat) (hi : Nat → Nat → Int32) (hl : Nat → Nat → Int64) (v2 : Int32) (v3 : Int32) (v4 : Int32) (v5 : Int32) (s0 : Int32) (s1 : Int32) : mj_den mj_P E d 38 84 [Value.ref 194, Value.ref 34, Value.int v2, Value.int v3, Value.int v4, Value.int v5] [Value.int s0, Value.int s1, Value.ref 201] (mj_hw w c hi hl) = if 0 ≤ s1 ∧ (s1).toNatClampNeg < 2048 then mj_den mj_P E d 38 37 [Value.ref 194, Value.ref 34, Value.int v2, Value.int (v3 + (-1 : Int32)), Value.int v4, Value.int v5] [] (mj_hw w c (mj_u hi 201 ((s1).toNatClampNeg) s0) hl) else none := by
  rw [mj_den_eq, f38_84]
  exact zt_iast (mjkd201 _ _ _ _) (mjln201 _ _ _ _) rfl rfl (zt_iinc rfl (Nat.le_of_ble_eq_true rfl) rfl rfl (zt_goto rfl))
set_option maxRecDepth 100000 in
theorem f38_91 : mj_find (mj_P 38).2.2.2.2 91 = [(.aload_n 0, 1, 0, []), (.aload_n 0, 1, 0, []), (.getfield 37, 3, 0, [4, 8, 3, 603]), (.iconst 0, 1, 0, []), (.iaload, 1, 0, []), (.putfield 15, 3, 0, [4, 1, 0, 596]), (.iconst 0, 1, 0, []), (.istore_n 3, 1, 0, []), (.iconst 0, 1, 0, []), (.istore 4, 2, 0, [])] := rfl
set_option maxRecDepth 100000 in
theorem q38_91 (E : mj_E) (d w c : Nat) (hi : Nat → Nat → Int32) (hl : Nat → Nat → Int64) (v2 : Int32) (v3 : Int32) (v4 : Int32) (v5 : Int32) : mj_den mj_P E d 38 91 [Value.ref 194, Value.ref 34, Value.int v2, Value.int v3, Value.int v4, Value.int v5] [] (mj_hw w c hi hl) = if 0 ≤ (0 : Int32) ∧ ((0 : Int32)).toNatClampNeg < 2048 then mj_den mj_P E d 38 106 [Value.ref 194, Value.ref 34, Value.int v2, Value.int (0 : Int32), Value.int (0 : Int32), Value.int v5] [] (mj_hw w c (mj_u hi 194 1 (hi 201 (((0 : Int32)).toNatClampNeg))) hl) else none := by
  rw [mj_den_eq, f38_91]
  exact zt_aload_n rfl rfl (zt_aload_n rfl rfl (zt_getr (mjkd194 _ _ _ _) (mjhr194_8 w c) rfl (zt_iconst rfl (zt_iald (mjkd201 _ _ _ _) (mjln201 _ _ _ _) rfl rfl (zt_puti (mjkd194 _ _ _ _) rfl rfl (zt_iconst rfl (zt_istore_n (Nat.le_of_ble_eq_true rfl) rfl rfl (zt_iconst rfl (zt_istore (Nat.le_of_ble_eq_true rfl) rfl rfl (zt_end rfl))))))))))
set_option maxRecDepth 100000 in
theorem q38_91_1 (E : mj_E) (d w c : Nat) (hi : Nat → Nat → Int32) (hl : Nat → Nat → Int64) (v2 : Int32) (v3 : Int32) : mj_den mj_P E d 38 91 [Value.ref 194, Value.ref 34, Value.int v2, Value.int v3, Value.float 0, Value.float 0] [] (mj_hw w c hi hl) = if 0 ≤ (0 : Int32) ∧ ((0 : Int32)).toNatClampNeg < 2048 then mj_den mj_P E d 38 106 [Value.ref 194, Value.ref 34, Value.int v2, Value.int (0 : Int32), Value.int (0 : Int32), Value.float 0] [] (mj_hw w c (mj_u hi 194 1 (hi 201 (((0 : Int32)).toNatClampNeg))) hl) else none := by
  rw [mj_den_eq, f38_91]
  exact zt_aload_n rfl rfl (zt_aload_n rfl rfl (zt_getr (mjkd194 _ _ _ _) (mjhr194_8 w c) rfl (zt_iconst rfl (zt_iald (mjkd201 _ _ _ _) (mjln201 _ _ _ _) rfl rfl (zt_puti (mjkd194 _ _ _ _) rfl rfl (zt_iconst rfl (zt_istore_n (Nat.le_of_ble_eq_true rfl) rfl rfl (zt_iconst rfl (zt_istore (Nat.le_of_ble_eq_true rfl) rfl rfl (zt_end rfl))))))))))
set_option maxRecDepth 100000 in
theorem f38_106 : mj_find (mj_P 38).2.2.2.2 106 = [(.iload 4, 2, 0, []), (.aload_n 0, 1, 0, []), (.getfield 9, 3, 0, [4, 0, 0, 595]), (.if_icmp .ge 46, 3, 0, [158]), (.aload_n 0, 1, 0, []), (.aload_n 1, 1, 0, []), (.iload_n 3, 1, 0, []), (.aload_n 0, 1, 0, []), (.aload_n 1, 1, 0, []), (.iload_n 3, 1, 0, []), (.invokevirtual 113, 3, 0, [0, 39, 4, 2, 1, 1288, 1290, 35, 153, 1291])] := rfl
set_option maxRecDepth 100000 in
theorem q38_106 (E : mj_E) (d w c : Nat) (hi : Nat → Nat → Int32) (hl : Nat → Nat → Int64) (v2 : Int32) (v3 : Int32) (v4 : Int32) (v5 : Int32) : mj_den mj_P E d 38 106 [Value.ref 194, Value.ref 34, Value.int v2, Value.int v3, Value.int v4, Value.int v5] [] (mj_hw w c hi hl) = if (hi 194 0) ≤ v4 then mj_den mj_P E d 38 158 [Value.ref 194, Value.ref 34, Value.int v2, Value.int v3, Value.int v4, Value.int v5] [] (mj_hw w c hi hl) else mj_bi (mj_dc mj_P E d 39 [Value.ref 194, Value.ref 34, Value.int v3] (mj_hw w c hi hl)) (fun x1 h1 => mj_den mj_P E d 38 124 [Value.ref 194, Value.ref 34, Value.int v2, Value.int v3, Value.int v4, Value.int v5] [Value.int x1, Value.int v3, Value.ref 34, Value.ref 194] h1) := by
  rw [mj_den_eq, f38_106]
  exact zt_iload rfl rfl (zt_aload_n rfl rfl (zt_geti (mjkd194 _ _ _ _) rfl rfl (zt_icmp_ge rfl rfl (zt_aload_n rfl rfl (zt_aload_n rfl rfl (zt_iload_n rfl rfl (zt_aload_n rfl rfl (zt_aload_n rfl rfl (zt_iload_n rfl rfl (zt_call0_1 rfl (mjkd194 _ _ _ _) (Nat.le_of_ble_eq_true rfl) rfl rfl))))))))))
set_option maxRecDepth 100000 in
theorem q38_106_1 (E : mj_E) (d w c : Nat) (hi : Nat → Nat → Int32) (hl : Nat → Nat → Int64) (v2 : Int32) (v3 : Int32) (v4 : Int32) : mj_den mj_P E d 38 106 [Value.ref 194, Value.ref 34, Value.int v2, Value.int v3, Value.int v4, Value.float 0] [] (mj_hw w c hi hl) = if (hi 194 0) ≤ v4 then mj_den mj_P E d 38 158 [Value.ref 194, Value.ref 34, Value.int v2, Value.int v3, Value.int v4, Value.float 0] [] (mj_hw w c hi hl) else mj_bi (mj_dc mj_P E d 39 [Value.ref 194, Value.ref 34, Value.int v3] (mj_hw w c hi hl)) (fun x1 h1 => mj_den mj_P E d 38 124 [Value.ref 194, Value.ref 34, Value.int v2, Value.int v3, Value.int v4, Value.float 0] [Value.int x1, Value.int v3, Value.ref 34, Value.ref 194] h1) := by
  rw [mj_den_eq, f38_106]
  exact zt_iload rfl rfl (zt_aload_n rfl rfl (zt_geti (mjkd194 _ _ _ _) rfl rfl (zt_icmp_ge rfl rfl (zt_aload_n rfl rfl (zt_aload_n rfl rfl (zt_iload_n rfl rfl (zt_aload_n rfl rfl (zt_aload_n rfl rfl (zt_iload_n rfl rfl (zt_call0_1 rfl (mjkd194 _ _ _ _) (Nat.le_of_ble_eq_true rfl) rfl rfl))))))))))
set_option maxRecDepth 100000 in
theorem f38_124 : mj_find (mj_P 38).2.2.2.2 124 = [(.invokevirtual 117, 3, 0, [0, 41, 4, 3, 1, 1292, 1294, 36, 153, 1295])] := rfl
set_option maxRecDepth 100000 in
theorem q38_124 (E : mj_E) (d w c : Nat) (hi : Nat → Nat → Int32) (hl : Nat → Nat → Int64) (v2 : Int32) (v3 : Int32) (v4 : Int32) (v5 : Int32) (s0 : Int32) (s1 : Int32) : mj_den mj_P E d 38 124 [Value.ref 194, Value.ref 34, Value.int v2, Value.int v3, Value.int v4, Value.int v5] [Value.int s0, Value.int s1, Value.ref 34, Value.ref 194] (mj_hw w c hi hl) = mj_bi (mj_dc mj_P E d 41 [Value.ref 194, Value.ref 34, Value.int s1, Value.int s0] (mj_hw w c hi hl)) (fun x1 h1 => mj_den mj_P E d 38 127 [Value.ref 194, Value.ref 34, Value.int v2, Value.int v3, Value.int v4, Value.int v5] [Value.int x1] h1) := by
  rw [mj_den_eq, f38_124]
  exact zt_call0_1 rfl (mjkd194 _ _ _ _) (Nat.le_of_ble_eq_true rfl) rfl rfl
set_option maxRecDepth 100000 in
theorem q38_124_1 (E : mj_E) (d w c : Nat) (hi : Nat → Nat → Int32) (hl : Nat → Nat → Int64) (v2 : Int32) (v3 : Int32) (v4 : Int32) (s0 : Int32) (s1 : Int32) : mj_den mj_P E d 38 124 [Value.ref 194, Value.ref 34, Value.int v2, Value.int v3, Value.int v4, Value.float 0] [Value.int s0, Value.int s1, Value.ref 34, Value.ref 194] (mj_hw w c hi hl) = mj_bi (mj_dc mj_P E d 41 [Value.ref 194, Value.ref 34, Value.int s1, Value.int s0] (mj_hw w c hi hl)) (fun x1 h1 => mj_den mj_P E d 38 127 [Value.ref 194, Value.ref 34, Value.int v2, Value.int v3, Value.int v4, Value.float 0] [Value.int x1] h1) := by
  rw [mj_den_eq, f38_124]
  exact zt_call0_1 rfl (mjkd194 _ _ _ _) (Nat.le_of_ble_eq_true rfl) rfl rfl
set_option maxRecDepth 100000 in
theorem f38_127 : mj_find (mj_P 38).2.2.2.2 127 = [(.istore 5, 2, 0, []), (.iload 5, 2, 0, []), (.iconst (-1), 1, (-1), []), (.if_icmp .ne 4, 3, 0, [136]), (.return_, 1, 0, [])] := rfl
set_option maxRecDepth 100000 in
theorem q38_127 (E : mj_E) (d w c : Nat) (hi : Nat → Nat → Int32) (hl : Nat → Nat → Int64) (v2 : Int32) (v3 : Int32) (v4 : Int32) (v5 : Int32) (s0 : Int32) : mj_den mj_P E d 38 127 [Value.ref 194, Value.ref 34, Value.int v2, Value.int v3, Value.int v4, Value.int v5] [Value.int s0] (mj_hw w c hi hl) = if ¬ s0 = (-1 : Int32) then mj_den mj_P E d 38 136 [Value.ref 194, Value.ref 34, Value.int v2, Value.int v3, Value.int v4, Value.int s0] [] (mj_hw w c hi hl) else some (none, (mj_hw w c hi hl)) := by
  rw [mj_den_eq, f38_127]
  exact zt_istore (Nat.le_of_ble_eq_true rfl) rfl rfl (zt_iload rfl rfl (zt_iconst rfl (zt_icmp_ne rfl rfl (zt_return))))
set_option maxRecDepth 100000 in
theorem q38_127_1 (E : mj_E) (d w c : Nat) (hi : Nat → Nat → Int32) (hl : Nat → Nat → Int64) (v2 : Int32) (v3 : Int32) (v4 : Int32) (s0 : Int32) : mj_den mj_P E d 38 127 [Value.ref 194, Value.ref 34, Value.int v2, Value.int v3, Value.int v4, Value.float 0] [Value.int s0] (mj_hw w c hi hl) = if ¬ s0 = (-1 : Int32) then mj_den mj_P E d 38 136 [Value.ref 194, Value.ref 34, Value.int v2, Value.int v3, Value.int v4, Value.int s0] [] (mj_hw w c hi hl) else some (none, (mj_hw w c hi hl)) := by
  rw [mj_den_eq, f38_127]
  exact zt_istore (Nat.le_of_ble_eq_true rfl) rfl rfl (zt_iload rfl rfl (zt_iconst rfl (zt_icmp_ne rfl rfl (zt_return))))
set_option maxRecDepth 100000 in
theorem f38_136 : mj_find (mj_P 38).2.2.2.2 136 = [(.aload_n 0, 1, 0, []), (.getfield 18, 3, 0, [4, 2, 3, 597]), (.iload 4, 2, 0, []), (.iload 5, 2, 0, []), (.iastore, 1, 0, []), (.iload_n 3, 1, 0, []), (.iconst 1, 1, 1, []), (.iload 5, 2, 0, []), (.ishl, 1, 0, []), (.ior, 1, 0, []), (.istore_n 3, 1, 0, []), (.iinc 4 1, 3, 1, []), (.goto (-49), 3, 0, [106])] := rfl
set_option maxRecDepth 100000 in
theorem q38_136 (E : mj_E) (d w c : Nat) (hi : Nat → Nat → Int32) (hl : Nat → Nat → Int64) (v2 : Int32) (v3 : Int32) (v4 : Int32) (v5 : Int32) : mj_den mj_P E d 38 136 [Value.ref 194, Value.ref 34, Value.int v2, Value.int v3, Value.int v4, Value.int v5] [] (mj_hw w c hi hl) = if 0 ≤ v4 ∧ (v4).toNatClampNeg < 10 then mj_den mj_P E d 38 106 [Value.ref 194, Value.ref 34, Value.int v2, Value.int (v3 ||| ((1 : Int32) <<< (v5 &&& 31))), Value.int (v4 + (1 : Int32)), Value.int v5] [] (mj_hw w c (mj_u hi 195 ((v4).toNatClampNeg) v5) hl) else none := by
  rw [mj_den_eq, f38_136]
  exact zt_aload_n rfl rfl (zt_getr (mjkd194 _ _ _ _) (mjhr194_2 w c) rfl (zt_iload rfl rfl (zt_iload rfl rfl (zt_iast (mjkd195 _ _ _ _) (mjln195 _ _ _ _) rfl rfl (zt_iload_n rfl rfl (zt_iconst rfl (zt_iload rfl rfl (zt_ishl rfl (zt_ior rfl (zt_istore_n (Nat.le_of_ble_eq_true rfl) rfl rfl (zt_iinc rfl (Nat.le_of_ble_eq_true rfl) rfl rfl (zt_goto rfl))))))))))))
set_option maxRecDepth 100000 in
theorem f38_158 : mj_find (mj_P 38).2.2.2.2 158 = [(.return_, 1, 0, [])] := rfl
set_option maxRecDepth 100000 in
theorem q38_158 (E : mj_E) (d w c : Nat) (hi : Nat → Nat → Int32) (hl : Nat → Nat → Int64) (v2 : Int32) (v3 : Int32) (v4 : Int32) (v5 : Int32) : mj_den mj_P E d 38 158 [Value.ref 194, Value.ref 34, Value.int v2, Value.int v3, Value.int v4, Value.int v5] [] (mj_hw w c hi hl) = some (none, (mj_hw w c hi hl)) := by
  rw [mj_den_eq, f38_158]
  exact zt_return
set_option maxRecDepth 100000 in
theorem q38_158_1 (E : mj_E) (d w c : Nat) (hi : Nat → Nat → Int32) (hl : Nat → Nat → Int64) (v2 : Int32) (v3 : Int32) (v4 : Int32) : mj_den mj_P E d 38 158 [Value.ref 194, Value.ref 34, Value.int v2, Value.int v3, Value.int v4, Value.float 0] [] (mj_hw w c hi hl) = some (none, (mj_hw w c hi hl)) := by
  rw [mj_den_eq, f38_158]
  exact zt_return
set_option maxRecDepth 100000 in
theorem f39_0 : mj_find (mj_P 39).2.2.2.2 0 = [(.iconst 0, 1, 0, []), (.istore_n 3, 1, 0, []), (.iconst 0, 1, 0, []), (.istore 4, 2, 0, [])] := rfl
set_option maxRecDepth 100000 in
theorem q39_0 (E : mj_E) (d w c : Nat) (hi : Nat → Nat → Int32) (hl : Nat → Nat → Int64) (v2 : Int32) : mj_den mj_P E d 39 0 [Value.ref 194, Value.ref 34, Value.int v2, Value.float 0, Value.float 0] [] (mj_hw w c hi hl) = mj_den mj_P E d 39 5 [Value.ref 194, Value.ref 34, Value.int v2, Value.int (0 : Int32), Value.int (0 : Int32)] [] (mj_hw w c hi hl) := by
  rw [mj_den_eq, f39_0]
  exact zt_iconst rfl (zt_istore_n (Nat.le_of_ble_eq_true rfl) rfl rfl (zt_iconst rfl (zt_istore (Nat.le_of_ble_eq_true rfl) rfl rfl (zt_end rfl))))
set_option maxRecDepth 100000 in
theorem f39_5 : mj_find (mj_P 39).2.2.2.2 5 = [(.iload 4, 2, 0, []), (.aload_n 0, 1, 0, []), (.getfield 9, 3, 0, [4, 0, 0, 595]), (.if_icmp .ge 35, 3, 0, [46]), (.iload 4, 2, 0, []), (.bipush 7, 2, 7, []), (.if_icmp .ge 28, 3, 0, [46]), (.iload_n 2, 1, 0, []), (.iload 4, 2, 0, []), (.invokestatic 40, 3, 0, [6, 148, 0, 2, 1, 1135, 758, 143, 759])] := rfl
set_option maxRecDepth 100000 in
theorem q39_5 (E : mj_E) (d w c : Nat) (hi : Nat → Nat → Int32) (hl : Nat → Nat → Int64) (v2 : Int32) (v3 : Int32) (v4 : Int32) : mj_den mj_P E d 39 5 [Value.ref 194, Value.ref 34, Value.int v2, Value.int v3, Value.int v4] [] (mj_hw w c hi hl) = if (hi 194 0) ≤ v4 then mj_den mj_P E d 39 46 [Value.ref 194, Value.ref 34, Value.int v2, Value.int v3, Value.int v4] [] (mj_hw w c hi hl) else if (7 : Int32) ≤ v4 then mj_den mj_P E d 39 46 [Value.ref 194, Value.ref 34, Value.int v2, Value.int v3, Value.int v4] [] (mj_hw w c hi hl) else mj_bi (mj_dc mj_P E d 148 [Value.int v2, Value.int v4] (mj_hw w c hi hl)) (fun x1 h1 => mj_den mj_P E d 39 27 [Value.ref 194, Value.ref 34, Value.int v2, Value.int v3, Value.int v4] [Value.int x1] h1) := by
  rw [mj_den_eq, f39_5]
  exact zt_iload rfl rfl (zt_aload_n rfl rfl (zt_geti (mjkd194 _ _ _ _) rfl rfl (zt_icmp_ge rfl rfl (zt_iload rfl rfl (zt_bipush rfl (zt_icmp_ge rfl rfl (zt_iload_n rfl rfl (zt_iload rfl rfl (zt_call6_1 (Nat.le_of_ble_eq_true rfl) rfl (Nat.le_of_ble_eq_true rfl) rfl rfl)))))))))
set_option maxRecDepth 100000 in
theorem f39_27 : mj_find (mj_P 39).2.2.2.2 27 = [(.ifCond .eq 13, 3, 0, [40]), (.iload_n 3, 1, 0, []), (.aload_n 1, 1, 0, []), (.getfield 125, 3, 0, [9, 8, 3, 382]), (.iload 4, 2, 0, []), (.iaload, 1, 0, []), (.iadd, 1, 0, []), (.istore_n 3, 1, 0, [])] := rfl
set_option maxRecDepth 100000 in
theorem q39_27 (E : mj_E) (d w c : Nat) (hi : Nat → Nat → Int32) (hl : Nat → Nat → Int64) (v2 : Int32) (v3 : Int32) (v4 : Int32) (s0 : Int32) : mj_den mj_P E d 39 27 [Value.ref 194, Value.ref 34, Value.int v2, Value.int v3, Value.int v4] [Value.int s0] (mj_hw w c hi hl) = if s0 = 0 then mj_den mj_P E d 39 40 [Value.ref 194, Value.ref 34, Value.int v2, Value.int v3, Value.int v4] [] (mj_hw w c hi hl) else if 0 ≤ v4 ∧ (v4).toNatClampNeg < 7 then mj_den mj_P E d 39 40 [Value.ref 194, Value.ref 34, Value.int v2, Value.int (v3 + (hi 40 ((v4).toNatClampNeg))), Value.int v4] [] (mj_hw w c hi hl) else none := by
  rw [mj_den_eq, f39_27]
  exact zt_if_eq rfl rfl (zt_iload_n rfl rfl (zt_aload_n rfl rfl (zt_getr (mjkd34 _ _ _ _) (mjhr34_8 w c) rfl (zt_iload rfl rfl (zt_iald (mjkd40 _ _ _ _) (mjln40 _ _ _ _) rfl rfl (zt_iadd rfl (zt_istore_n (Nat.le_of_ble_eq_true rfl) rfl rfl (zt_end rfl))))))))
set_option maxRecDepth 100000 in
theorem f39_40 : mj_find (mj_P 39).2.2.2.2 40 = [(.iinc 4 1, 3, 1, []), (.goto (-38), 3, 0, [5])] := rfl
set_option maxRecDepth 100000 in
theorem q39_40 (E : mj_E) (d w c : Nat) (hi : Nat → Nat → Int32) (hl : Nat → Nat → Int64) (v2 : Int32) (v3 : Int32) (v4 : Int32) : mj_den mj_P E d 39 40 [Value.ref 194, Value.ref 34, Value.int v2, Value.int v3, Value.int v4] [] (mj_hw w c hi hl) = mj_den mj_P E d 39 5 [Value.ref 194, Value.ref 34, Value.int v2, Value.int v3, Value.int (v4 + (1 : Int32))] [] (mj_hw w c hi hl) := by
  rw [mj_den_eq, f39_40]
  exact zt_iinc rfl (Nat.le_of_ble_eq_true rfl) rfl rfl (zt_goto rfl)
set_option maxRecDepth 100000 in
theorem f39_46 : mj_find (mj_P 39).2.2.2.2 46 = [(.iload_n 3, 1, 0, []), (.ireturn, 1, 0, [0])] := rfl
set_option maxRecDepth 100000 in
theorem q39_46 (E : mj_E) (d w c : Nat) (hi : Nat → Nat → Int32) (hl : Nat → Nat → Int64) (v2 : Int32) (v3 : Int32) (v4 : Int32) : mj_den mj_P E d 39 46 [Value.ref 194, Value.ref 34, Value.int v2, Value.int v3, Value.int v4] [] (mj_hw w c hi hl) = some (some (Value.int v3), (mj_hw w c hi hl)) := by
  rw [mj_den_eq, f39_46]
  exact zt_iload_n rfl rfl (zt_ireturn0)
set_option maxRecDepth 100000 in
theorem f40_0 : mj_find (mj_P 40).2.2.2.2 0 = [(.iconst 0, 1, 0, []), (.aload_n 1, 1, 0, []), (.getfield 128, 3, 0, [9, 7, 3, 379]), (.iload 4, 2, 0, []), (.iaload, 1, 0, []), (.iload_n 3, 1, 0, []), (.isub, 1, 0, []), (.invokestatic 110, 3, 0, [1, 295, 0, 2, 1, 1287, 782, 157, 783])] := rfl
set_option maxRecDepth 100000 in
theorem q40_0 (E : mj_E) (d w c : Nat) (hi : Nat → Nat → Int32) (hl : Nat → Nat → Int64) (v2 : Int32) (v3 : Int32) (v4 : Int32) : mj_den mj_P E d 40 0 [Value.ref 194, Value.ref 34, Value.int v2, Value.int v3, Value.int v4] [] (mj_hw w c hi hl) = if 0 ≤ v4 ∧ (v4).toNatClampNeg < 7 then mj_bi (mj_dc mj_P E d 295 [Value.int (0 : Int32), Value.int ((hi 39 ((v4).toNatClampNeg)) - v3)] (mj_hw w c hi hl)) (fun x1 h1 => mj_den mj_P E d 40 13 [Value.ref 194, Value.ref 34, Value.int v2, Value.int v3, Value.int v4] [Value.int x1] h1) else none := by
  rw [mj_den_eq, f40_0]
  exact zt_iconst rfl (zt_aload_n rfl rfl (zt_getr (mjkd34 _ _ _ _) (mjhr34_7 w c) rfl (zt_iload rfl rfl (zt_iald (mjkd39 _ _ _ _) (mjln39 _ _ _ _) rfl rfl (zt_iload_n rfl rfl (zt_isub rfl (zt_call1_1 (Nat.le_of_ble_eq_true rfl) rfl (Nat.le_of_ble_eq_true rfl) rfl rfl)))))))
set_option maxRecDepth 100000 in
theorem f40_13 : mj_find (mj_P 40).2.2.2.2 13 = [(.aload_n 0, 1, 0, []), (.getfield 37, 3, 0, [4, 8, 3, 603]), (.iload_n 2, 1, 0, []), (.iconst 1, 1, 1, []), (.iload 4, 2, 0, []), (.ishl, 1, 0, []), (.ior, 1, 0, []), (.iaload, 1, 0, []), (.iadd, 1, 0, []), (.ireturn, 1, 0, [0])] := rfl
set_option maxRecDepth 100000 in
theorem q40_13 (E : mj_E) (d w c : Nat) (hi : Nat → Nat → Int32) (hl : Nat → Nat → Int64) (v2 : Int32) (v3 : Int32) (v4 : Int32) (s0 : Int32) : mj_den mj_P E d 40 13 [Value.ref 194, Value.ref 34, Value.int v2, Value.int v3, Value.int v4] [Value.int s0] (mj_hw w c hi hl) = if 0 ≤ (v2 ||| ((1 : Int32) <<< (v4 &&& 31))) ∧ ((v2 ||| ((1 : Int32) <<< (v4 &&& 31)))).toNatClampNeg < 2048 then some (some (Value.int (s0 + (hi 201 (((v2 ||| ((1 : Int32) <<< (v4 &&& 31)))).toNatClampNeg)))), (mj_hw w c hi hl)) else none := by
  rw [mj_den_eq, f40_13]
  exact zt_aload_n rfl rfl (zt_getr (mjkd194 _ _ _ _) (mjhr194_8 w c) rfl (zt_iload_n rfl rfl (zt_iconst rfl (zt_iload rfl rfl (zt_ishl rfl (zt_ior rfl (zt_iald (mjkd201 _ _ _ _) (mjln201 _ _ _ _) rfl rfl (zt_iadd rfl (zt_ireturn0)))))))))
set_option maxRecDepth 100000 in
theorem f41_0 : mj_find (mj_P 41).2.2.2.2 0 = [(.iconst (-1), 1, (-1), []), (.istore 4, 2, 0, []), (.iconst 0, 1, 0, []), (.istore 5, 2, 0, []), (.iconst 0, 1, 0, []), (.istore 6, 2, 0, [])] := rfl
set_option maxRecDepth 100000 in
theorem q41_0 (E : mj_E) (d w c : Nat) (hi : Nat → Nat → Int32) (hl : Nat → Nat → Int64) (v2 : Int32) (v3 : Int32) : mj_den mj_P E d 41 0 [Value.ref 194, Value.ref 34, Value.int v2, Value.int v3, Value.float 0, Value.float 0, Value.float 0, Value.float 0] [] (mj_hw w c hi hl) = mj_den mj_P E d 41 9 [Value.ref 194, Value.ref 34, Value.int v2, Value.int v3, Value.int (-1 : Int32), Value.int (0 : Int32), Value.int (0 : Int32), Value.float 0] [] (mj_hw w c hi hl) := by
  rw [mj_den_eq, f41_0]
  exact zt_iconst rfl (zt_istore (Nat.le_of_ble_eq_true rfl) rfl rfl (zt_iconst rfl (zt_istore (Nat.le_of_ble_eq_true rfl) rfl rfl (zt_iconst rfl (zt_istore (Nat.le_of_ble_eq_true rfl) rfl rfl (zt_end rfl))))))
set_option maxRecDepth 100000 in
theorem f41_9 : mj_find (mj_P 41).2.2.2.2 9 = [(.iload 6, 2, 0, []), (.aload_n 0, 1, 0, []), (.getfield 9, 3, 0, [4, 0, 0, 595]), (.if_icmp .ge 57, 3, 0, [72]), (.iload 6, 2, 0, []), (.bipush 7, 2, 7, []), (.if_icmp .ge 50, 3, 0, [72]), (.iload_n 2, 1, 0, []), (.iload 6, 2, 0, []), (.invokestatic 40, 3, 0, [6, 148, 0, 2, 1, 1135, 758, 143, 759])] := rfl
set_option maxRecDepth 100000 in
theorem q41_9 (E : mj_E) (d w c : Nat) (hi : Nat → Nat → Int32) (hl : Nat → Nat → Int64) (v2 : Int32) (v3 : Int32) (v4 : Int32) (v5 : Int32) (v6 : Int32) : mj_den mj_P E d 41 9 [Value.ref 194, Value.ref 34, Value.int v2, Value.int v3, Value.int v4, Value.int v5, Value.int v6, Value.float 0] [] (mj_hw w c hi hl) = if (hi 194 0) ≤ v6 then mj_den mj_P E d 41 72 [Value.ref 194, Value.ref 34, Value.int v2, Value.int v3, Value.int v4, Value.int v5, Value.int v6, Value.float 0] [] (mj_hw w c hi hl) else if (7 : Int32) ≤ v6 then mj_den mj_P E d 41 72 [Value.ref 194, Value.ref 34, Value.int v2, Value.int v3, Value.int v4, Value.int v5, Value.int v6, Value.float 0] [] (mj_hw w c hi hl) else mj_bi (mj_dc mj_P E d 148 [Value.int v2, Value.int v6] (mj_hw w c hi hl)) (fun x1 h1 => mj_den mj_P E d 41 31 [Value.ref 194, Value.ref 34, Value.int v2, Value.int v3, Value.int v4, Value.int v5, Value.int v6, Value.float 0] [Value.int x1] h1) := by
  rw [mj_den_eq, f41_9]
  exact zt_iload rfl rfl (zt_aload_n rfl rfl (zt_geti (mjkd194 _ _ _ _) rfl rfl (zt_icmp_ge rfl rfl (zt_iload rfl rfl (zt_bipush rfl (zt_icmp_ge rfl rfl (zt_iload_n rfl rfl (zt_iload rfl rfl (zt_call6_1 (Nat.le_of_ble_eq_true rfl) rfl (Nat.le_of_ble_eq_true rfl) rfl rfl)))))))))
set_option maxRecDepth 100000 in
theorem q41_9_1 (E : mj_E) (d w c : Nat) (hi : Nat → Nat → Int32) (hl : Nat → Nat → Int64) (v2 : Int32) (v3 : Int32) (v4 : Int32) (v5 : Int32) (v6 : Int32) (v7 : Int32) : mj_den mj_P E d 41 9 [Value.ref 194, Value.ref 34, Value.int v2, Value.int v3, Value.int v4, Value.int v5, Value.int v6, Value.int v7] [] (mj_hw w c hi hl) = if (hi 194 0) ≤ v6 then mj_den mj_P E d 41 72 [Value.ref 194, Value.ref 34, Value.int v2, Value.int v3, Value.int v4, Value.int v5, Value.int v6, Value.int v7] [] (mj_hw w c hi hl) else if (7 : Int32) ≤ v6 then mj_den mj_P E d 41 72 [Value.ref 194, Value.ref 34, Value.int v2, Value.int v3, Value.int v4, Value.int v5, Value.int v6, Value.int v7] [] (mj_hw w c hi hl) else mj_bi (mj_dc mj_P E d 148 [Value.int v2, Value.int v6] (mj_hw w c hi hl)) (fun x1 h1 => mj_den mj_P E d 41 31 [Value.ref 194, Value.ref 34, Value.int v2, Value.int v3, Value.int v4, Value.int v5, Value.int v6, Value.int v7] [Value.int x1] h1) := by
  rw [mj_den_eq, f41_9]
  exact zt_iload rfl rfl (zt_aload_n rfl rfl (zt_geti (mjkd194 _ _ _ _) rfl rfl (zt_icmp_ge rfl rfl (zt_iload rfl rfl (zt_bipush rfl (zt_icmp_ge rfl rfl (zt_iload_n rfl rfl (zt_iload rfl rfl (zt_call6_1 (Nat.le_of_ble_eq_true rfl) rfl (Nat.le_of_ble_eq_true rfl) rfl rfl)))))))))
set_option maxRecDepth 100000 in
theorem f41_31 : mj_find (mj_P 41).2.2.2.2 31 = [(.ifCond .ne 35, 3, 0, [66]), (.aload_n 0, 1, 0, []), (.aload_n 1, 1, 0, []), (.iload_n 2, 1, 0, []), (.iload_n 3, 1, 0, []), (.iload 6, 2, 0, []), (.invokevirtual 121, 3, 0, [0, 40, 4, 4, 1, 1296, 1298, 37, 153, 1299])] := rfl
set_option maxRecDepth 100000 in
theorem q41_31 (E : mj_E) (d w c : Nat) (hi : Nat → Nat → Int32) (hl : Nat → Nat → Int64) (v2 : Int32) (v3 : Int32) (v4 : Int32) (v5 : Int32) (v6 : Int32) (s0 : Int32) : mj_den mj_P E d 41 31 [Value.ref 194, Value.ref 34, Value.int v2, Value.int v3, Value.int v4, Value.int v5, Value.int v6, Value.float 0] [Value.int s0] (mj_hw w c hi hl) = if ¬ s0 = 0 then mj_den mj_P E d 41 66 [Value.ref 194, Value.ref 34, Value.int v2, Value.int v3, Value.int v4, Value.int v5, Value.int v6, Value.float 0] [] (mj_hw w c hi hl) else mj_bi (mj_dc mj_P E d 40 [Value.ref 194, Value.ref 34, Value.int v2, Value.int v3, Value.int v6] (mj_hw w c hi hl)) (fun x1 h1 => mj_den mj_P E d 41 43 [Value.ref 194, Value.ref 34, Value.int v2, Value.int v3, Value.int v4, Value.int v5, Value.int v6, Value.float 0] [Value.int x1] h1) := by
  rw [mj_den_eq, f41_31]
  exact zt_if_ne rfl rfl (zt_aload_n rfl rfl (zt_aload_n rfl rfl (zt_iload_n rfl rfl (zt_iload_n rfl rfl (zt_iload rfl rfl (zt_call0_1 rfl (mjkd194 _ _ _ _) (Nat.le_of_ble_eq_true rfl) rfl rfl))))))
set_option maxRecDepth 100000 in
theorem q41_31_1 (E : mj_E) (d w c : Nat) (hi : Nat → Nat → Int32) (hl : Nat → Nat → Int64) (v2 : Int32) (v3 : Int32) (v4 : Int32) (v5 : Int32) (v6 : Int32) (v7 : Int32) (s0 : Int32) : mj_den mj_P E d 41 31 [Value.ref 194, Value.ref 34, Value.int v2, Value.int v3, Value.int v4, Value.int v5, Value.int v6, Value.int v7] [Value.int s0] (mj_hw w c hi hl) = if ¬ s0 = 0 then mj_den mj_P E d 41 66 [Value.ref 194, Value.ref 34, Value.int v2, Value.int v3, Value.int v4, Value.int v5, Value.int v6, Value.int v7] [] (mj_hw w c hi hl) else mj_bi (mj_dc mj_P E d 40 [Value.ref 194, Value.ref 34, Value.int v2, Value.int v3, Value.int v6] (mj_hw w c hi hl)) (fun x1 h1 => mj_den mj_P E d 41 43 [Value.ref 194, Value.ref 34, Value.int v2, Value.int v3, Value.int v4, Value.int v5, Value.int v6, Value.int v7] [Value.int x1] h1) := by
  rw [mj_den_eq, f41_31]
  exact zt_if_ne rfl rfl (zt_aload_n rfl rfl (zt_aload_n rfl rfl (zt_iload_n rfl rfl (zt_iload_n rfl rfl (zt_iload rfl rfl (zt_call0_1 rfl (mjkd194 _ _ _ _) (Nat.le_of_ble_eq_true rfl) rfl rfl))))))
set_option maxRecDepth 100000 in
theorem f41_43 : mj_find (mj_P 41).2.2.2.2 43 = [(.istore 7, 2, 0, []), (.iload 4, 2, 0, []), (.iconst (-1), 1, (-1), []), (.if_icmp .eq 10, 3, 0, [58]), (.iload 7, 2, 0, []), (.iload 5, 2, 0, []), (.if_icmp .le 11, 3, 0, [66])] := rfl
set_option maxRecDepth 100000 in
theorem q41_43 (E : mj_E) (d w c : Nat) (hi : Nat → Nat → Int32) (hl : Nat → Nat → Int64) (v2 : Int32) (v3 : Int32) (v4 : Int32) (v5 : Int32) (v6 : Int32) (s0 : Int32) : mj_den mj_P E d 41 43 [Value.ref 194, Value.ref 34, Value.int v2, Value.int v3, Value.int v4, Value.int v5, Value.int v6, Value.float 0] [Value.int s0] (mj_hw w c hi hl) = if v4 = (-1 : Int32) then mj_den mj_P E d 41 58 [Value.ref 194, Value.ref 34, Value.int v2, Value.int v3, Value.int v4, Value.int v5, Value.int v6, Value.int s0] [] (mj_hw w c hi hl) else if s0 ≤ v5 then mj_den mj_P E d 41 66 [Value.ref 194, Value.ref 34, Value.int v2, Value.int v3, Value.int v4, Value.int v5, Value.int v6, Value.int s0] [] (mj_hw w c hi hl) else mj_den mj_P E d 41 58 [Value.ref 194, Value.ref 34, Value.int v2, Value.int v3, Value.int v4, Value.int v5, Value.int v6, Value.int s0] [] (mj_hw w c hi hl) := by
  rw [mj_den_eq, f41_43]
  exact zt_istore (Nat.le_of_ble_eq_true rfl) rfl rfl (zt_iload rfl rfl (zt_iconst rfl (zt_icmp_eq rfl rfl (zt_iload rfl rfl (zt_iload rfl rfl (zt_icmp_le rfl rfl (zt_end rfl)))))))
set_option maxRecDepth 100000 in
theorem q41_43_1 (E : mj_E) (d w c : Nat) (hi : Nat → Nat → Int32) (hl : Nat → Nat → Int64) (v2 : Int32) (v3 : Int32) (v4 : Int32) (v5 : Int32) (v6 : Int32) (v7 : Int32) (s0 : Int32) : mj_den mj_P E d 41 43 [Value.ref 194, Value.ref 34, Value.int v2, Value.int v3, Value.int v4, Value.int v5, Value.int v6, Value.int v7] [Value.int s0] (mj_hw w c hi hl) = if v4 = (-1 : Int32) then mj_den mj_P E d 41 58 [Value.ref 194, Value.ref 34, Value.int v2, Value.int v3, Value.int v4, Value.int v5, Value.int v6, Value.int s0] [] (mj_hw w c hi hl) else if s0 ≤ v5 then mj_den mj_P E d 41 66 [Value.ref 194, Value.ref 34, Value.int v2, Value.int v3, Value.int v4, Value.int v5, Value.int v6, Value.int s0] [] (mj_hw w c hi hl) else mj_den mj_P E d 41 58 [Value.ref 194, Value.ref 34, Value.int v2, Value.int v3, Value.int v4, Value.int v5, Value.int v6, Value.int s0] [] (mj_hw w c hi hl) := by
  rw [mj_den_eq, f41_43]
  exact zt_istore (Nat.le_of_ble_eq_true rfl) rfl rfl (zt_iload rfl rfl (zt_iconst rfl (zt_icmp_eq rfl rfl (zt_iload rfl rfl (zt_iload rfl rfl (zt_icmp_le rfl rfl (zt_end rfl)))))))
set_option maxRecDepth 100000 in
theorem f41_58 : mj_find (mj_P 41).2.2.2.2 58 = [(.iload 6, 2, 0, []), (.istore 4, 2, 0, []), (.iload 7, 2, 0, []), (.istore 5, 2, 0, [])] := rfl
set_option maxRecDepth 100000 in
theorem q41_58 (E : mj_E) (d w c : Nat) (hi : Nat → Nat → Int32) (hl : Nat → Nat → Int64) (v2 : Int32) (v3 : Int32) (v4 : Int32) (v5 : Int32) (v6 : Int32) (v7 : Int32) : mj_den mj_P E d 41 58 [Value.ref 194, Value.ref 34, Value.int v2, Value.int v3, Value.int v4, Value.int v5, Value.int v6, Value.int v7] [] (mj_hw w c hi hl) = mj_den mj_P E d 41 66 [Value.ref 194, Value.ref 34, Value.int v2, Value.int v3, Value.int v6, Value.int v7, Value.int v6, Value.int v7] [] (mj_hw w c hi hl) := by
  rw [mj_den_eq, f41_58]
  exact zt_iload rfl rfl (zt_istore (Nat.le_of_ble_eq_true rfl) rfl rfl (zt_iload rfl rfl (zt_istore (Nat.le_of_ble_eq_true rfl) rfl rfl (zt_end rfl))))
set_option maxRecDepth 100000 in
theorem f41_66 : mj_find (mj_P 41).2.2.2.2 66 = [(.iinc 6 1, 3, 1, []), (.goto (-60), 3, 0, [9])] := rfl
set_option maxRecDepth 100000 in
theorem q41_66 (E : mj_E) (d w c : Nat) (hi : Nat → Nat → Int32) (hl : Nat → Nat → Int64) (v2 : Int32) (v3 : Int32) (v4 : Int32) (v5 : Int32) (v6 : Int32) (v7 : Int32) : mj_den mj_P E d 41 66 [Value.ref 194, Value.ref 34, Value.int v2, Value.int v3, Value.int v4, Value.int v5, Value.int v6, Value.int v7] [] (mj_hw w c hi hl) = mj_den mj_P E d 41 9 [Value.ref 194, Value.ref 34, Value.int v2, Value.int v3, Value.int v4, Value.int v5, Value.int (v6 + (1 : Int32)), Value.int v7] [] (mj_hw w c hi hl) := by
  rw [mj_den_eq, f41_66]
  exact zt_iinc rfl (Nat.le_of_ble_eq_true rfl) rfl rfl (zt_goto rfl)
set_option maxRecDepth 100000 in
theorem q41_66_1 (E : mj_E) (d w c : Nat) (hi : Nat → Nat → Int32) (hl : Nat → Nat → Int64) (v2 : Int32) (v3 : Int32) (v4 : Int32) (v5 : Int32) (v6 : Int32) : mj_den mj_P E d 41 66 [Value.ref 194, Value.ref 34, Value.int v2, Value.int v3, Value.int v4, Value.int v5, Value.int v6, Value.float 0] [] (mj_hw w c hi hl) = mj_den mj_P E d 41 9 [Value.ref 194, Value.ref 34, Value.int v2, Value.int v3, Value.int v4, Value.int v5, Value.int (v6 + (1 : Int32)), Value.float 0] [] (mj_hw w c hi hl) := by
  rw [mj_den_eq, f41_66]
  exact zt_iinc rfl (Nat.le_of_ble_eq_true rfl) rfl rfl (zt_goto rfl)
set_option maxRecDepth 100000 in
theorem f41_72 : mj_find (mj_P 41).2.2.2.2 72 = [(.iload 4, 2, 0, []), (.ireturn, 1, 0, [0])] := rfl
set_option maxRecDepth 100000 in
theorem q41_72 (E : mj_E) (d w c : Nat) (hi : Nat → Nat → Int32) (hl : Nat → Nat → Int64) (v2 : Int32) (v3 : Int32) (v4 : Int32) (v5 : Int32) (v6 : Int32) (v7 : Int32) : mj_den mj_P E d 41 72 [Value.ref 194, Value.ref 34, Value.int v2, Value.int v3, Value.int v4, Value.int v5, Value.int v6, Value.int v7] [] (mj_hw w c hi hl) = some (some (Value.int v4), (mj_hw w c hi hl)) := by
  rw [mj_den_eq, f41_72]
  exact zt_iload rfl rfl (zt_ireturn0)
set_option maxRecDepth 100000 in
theorem q41_72_1 (E : mj_E) (d w c : Nat) (hi : Nat → Nat → Int32) (hl : Nat → Nat → Int64) (v2 : Int32) (v3 : Int32) (v4 : Int32) (v5 : Int32) (v6 : Int32) : mj_den mj_P E d 41 72 [Value.ref 194, Value.ref 34, Value.int v2, Value.int v3, Value.int v4, Value.int v5, Value.int v6, Value.float 0] [] (mj_hw w c hi hl) = some (some (Value.int v4), (mj_hw w c hi hl)) := by
  rw [mj_den_eq, f41_72]
  exact zt_iload rfl rfl (zt_ireturn0)
set_option maxRecDepth 100000 in
theorem f44_0 : mj_find (mj_P 44).2.2.2.2 0 = [(.aload_n 0, 1, 0, []), (.getfield 15, 3, 0, [5, 1, 0, 464]), (.ifCond .ne 7, 3, 0, [11]), (.iconst 5, 1, 5, []), (.goto 9, 3, 0, [17])] := rfl
set_option maxRecDepth 100000 in
theorem q44_0 (E : mj_E) (d w c : Nat) (hi : Nat → Nat → Int32) (hl : Nat → Nat → Int64) : mj_den mj_P E d 44 0 [Value.ref 91, Value.ref 2, Value.float 0] [] (mj_hw w c hi hl) = if ¬ (hi 91 1) = 0 then mj_den mj_P E d 44 11 [Value.ref 91, Value.ref 2, Value.float 0] [] (mj_hw w c hi hl) else mj_den mj_P E d 44 17 [Value.ref 91, Value.ref 2, Value.float 0] [Value.int (5 : Int32)] (mj_hw w c hi hl) := by
  rw [mj_den_eq, f44_0]
  exact zt_aload_n rfl rfl (zt_geti (mjkd91 _ _ _ _) rfl rfl (zt_if_ne rfl rfl (zt_iconst rfl (zt_goto rfl))))
set_option maxRecDepth 100000 in
theorem f44_11 : mj_find (mj_P 44).2.2.2.2 11 = [(.aload_n 0, 1, 0, []), (.getfield 15, 3, 0, [5, 1, 0, 464]), (.iconst 1, 1, 1, []), (.isub, 1, 0, [])] := rfl
set_option maxRecDepth 100000 in
theorem q44_11 (E : mj_E) (d w c : Nat) (hi : Nat → Nat → Int32) (hl : Nat → Nat → Int64) : mj_den mj_P E d 44 11 [Value.ref 91, Value.ref 2, Value.float 0] [] (mj_hw w c hi hl) = mj_den mj_P E d 44 17 [Value.ref 91, Value.ref 2, Value.float 0] [Value.int ((hi 91 1) - (1 : Int32))] (mj_hw w c hi hl) := by
  rw [mj_den_eq, f44_11]
  exact zt_aload_n rfl rfl (zt_geti (mjkd91 _ _ _ _) rfl rfl (zt_iconst rfl (zt_isub rfl (zt_end rfl))))
