set_option maxRecDepth 100000 in
theorem f96_0 : mj_find (mj_P 96).2.2.2.2 0 = [(.aload_n 0, 1, 0, []), (.getfield 22, 3, 0, [8, 3, 3, 572]), (.aload_n 1, 1, 0, []), (.iload_n 2, 1, 0, []), (.invokestatic 106, 3, 0, [6, 150, 0, 3, 0, 1317, 1318, 143, 1319])] := rfl
set_option maxRecDepth 100000 in
theorem q96_0 (E : mj_E) (d w c : Nat) (hi : Nat → Nat → Int32) (hl : Nat → Nat → Int64) (v2 : Int32) : mj_den mj_P E d 96 0 [Value.ref 189, Value.ref 41, Value.int v2, Value.float 0] [] (mj_hw w c hi hl) = mj_bv (mj_dc mj_P E d 150 [Value.ref 193, Value.ref 41, Value.int v2] (mj_hw w c hi hl)) (fun h1 => mj_den mj_P E d 96 9 [Value.ref 189, Value.ref 41, Value.int v2, Value.float 0] [] h1) := by
  rw [mj_den_eq, f96_0]
  exact zt_aload_n rfl rfl (zt_getr (mjkd189 _ _ _ _) (mjhr189_3 w c) rfl (zt_aload_n rfl rfl (zt_iload_n rfl rfl (zt_call6_0 (Nat.le_of_ble_eq_true rfl) rfl (Nat.le_of_ble_eq_true rfl) rfl rfl))))
set_option maxRecDepth 100000 in
theorem f96_9 : mj_find (mj_P 96).2.2.2.2 9 = [(.iconst 0, 1, 0, []), (.istore_n 3, 1, 0, [])] := rfl
set_option maxRecDepth 100000 in
theorem q96_9 (E : mj_E) (d w c : Nat) (hi : Nat → Nat → Int32) (hl : Nat → Nat → Int64) (v2 : Int32) : mj_den mj_P E d 96 9 [Value.ref 189, Value.ref 41, Value.int v2, Value.float 0] [] (mj_hw w c hi hl) = mj_den mj_P E d 96 11 [Value.ref 189, Value.ref 41, Value.int v2, Value.int (0 : Int32)] [] (mj_hw w c hi hl) := by
  rw [mj_den_eq, f96_9]
  exact zt_iconst rfl (zt_istore_n (Nat.le_of_ble_eq_true rfl) rfl rfl (zt_end rfl))
set_option maxRecDepth 100000 in
theorem f96_11 : mj_find (mj_P 96).2.2.2.2 11 = [(.iload_n 3, 1, 0, []), (.iload_n 2, 1, 0, []), (.if_icmp .ge 35, 3, 0, [48]), (.aload_n 0, 1, 0, []), (.getfield 19, 3, 0, [8, 2, 3, 571]), (.iload_n 3, 1, 0, []), (.aload_n 0, 1, 0, []), (.aload_n 0, 1, 0, []), (.getfield 22, 3, 0, [8, 3, 3, 572]), (.iload_n 3, 1, 0, []), (.iaload, 1, 0, []), (.iload_n 2, 1, 0, []), (.invokevirtual 110, 3, 0, [0, 97, 8, 2, 2, 1320, 1322, 39, 152, 1323])] := rfl
set_option maxRecDepth 100000 in
theorem q96_11 (E : mj_E) (d w c : Nat) (hi : Nat → Nat → Int32) (hl : Nat → Nat → Int64) (v2 : Int32) (v3 : Int32) : mj_den mj_P E d 96 11 [Value.ref 189, Value.ref 41, Value.int v2, Value.int v3] [] (mj_hw w c hi hl) = if v2 ≤ v3 then mj_den mj_P E d 96 48 [Value.ref 189, Value.ref 41, Value.int v2, Value.int v3] [] (mj_hw w c hi hl) else if 0 ≤ v3 ∧ (v3).toNatClampNeg < 12 then mj_bj (mj_dc mj_P E d 97 [Value.ref 189, Value.int (hi 193 ((v3).toNatClampNeg)), Value.int v2] (mj_hw w c hi hl)) (fun x1 h1 => mj_den mj_P E d 96 32 [Value.ref 189, Value.ref 41, Value.int v2, Value.int v3] [Value.long x1, Value.int v3, Value.ref 192] h1) else none := by
  rw [mj_den_eq, f96_11]
  exact zt_iload_n rfl rfl (zt_iload_n rfl rfl (zt_icmp_ge rfl rfl (zt_aload_n rfl rfl (zt_getr (mjkd189 _ _ _ _) (mjhr189_2 w c) rfl (zt_iload_n rfl rfl (zt_aload_n rfl rfl (zt_aload_n rfl rfl (zt_getr (mjkd189 _ _ _ _) (mjhr189_3 w c) rfl (zt_iload_n rfl rfl (zt_iald (mjkd193 _ _ _ _) (mjln193 _ _ _ _) rfl rfl (zt_iload_n rfl rfl (zt_call0_2 rfl (mjkd189 _ _ _ _) (Nat.le_of_ble_eq_true rfl) rfl rfl))))))))))))
set_option maxRecDepth 100000 in
theorem f96_32 : mj_find (mj_P 96).2.2.2.2 32 = [(.aload_n 0, 1, 0, []), (.aload_n 1, 1, 0, []), (.iload_n 3, 1, 0, []), (.iaload, 1, 0, []), (.iload_n 2, 1, 0, []), (.invokevirtual 110, 3, 0, [0, 97, 8, 2, 2, 1320, 1322, 39, 152, 1323])] := rfl
set_option maxRecDepth 100000 in
theorem q96_32 (E : mj_E) (d w c : Nat) (hi : Nat → Nat → Int32) (hl : Nat → Nat → Int64) (v2 : Int32) (v3 : Int32) (s0 : Int64) (s1 : Int32) : mj_den mj_P E d 96 32 [Value.ref 189, Value.ref 41, Value.int v2, Value.int v3] [Value.long s0, Value.int s1, Value.ref 192] (mj_hw w c hi hl) = if 0 ≤ v3 ∧ (v3).toNatClampNeg < 12 then mj_bj (mj_dc mj_P E d 97 [Value.ref 189, Value.int (hi 41 ((v3).toNatClampNeg)), Value.int v2] (mj_hw w c hi hl)) (fun x1 h1 => mj_den mj_P E d 96 40 [Value.ref 189, Value.ref 41, Value.int v2, Value.int v3] [Value.long x1, Value.long s0, Value.int s1, Value.ref 192] h1) else none := by
  rw [mj_den_eq, f96_32]
  exact zt_aload_n rfl rfl (zt_aload_n rfl rfl (zt_iload_n rfl rfl (zt_iald (mjkd41 _ _ _ _) (mjln41 _ _ _ _) rfl rfl (zt_iload_n rfl rfl (zt_call0_2 rfl (mjkd189 _ _ _ _) (Nat.le_of_ble_eq_true rfl) rfl rfl)))))
set_option maxRecDepth 100000 in
theorem f96_40 : mj_find (mj_P 96).2.2.2.2 40 = [(.lsub, 1, 0, []), (.lastore, 1, 0, []), (.iinc 3 1, 3, 1, []), (.goto (-34), 3, 0, [11])] := rfl
set_option maxRecDepth 100000 in
theorem q96_40 (E : mj_E) (d w c : Nat) (hi : Nat → Nat → Int32) (hl : Nat → Nat → Int64) (v2 : Int32) (v3 : Int32) (s0 : Int64) (s1 : Int64) (s2 : Int32) : mj_den mj_P E d 96 40 [Value.ref 189, Value.ref 41, Value.int v2, Value.int v3] [Value.long s0, Value.long s1, Value.int s2, Value.ref 192] (mj_hw w c hi hl) = if 0 ≤ s2 ∧ (s2).toNatClampNeg < 12 then mj_den mj_P E d 96 11 [Value.ref 189, Value.ref 41, Value.int v2, Value.int (v3 + (1 : Int32))] [] (mj_hw w c hi (mj_u hl 192 ((s2).toNatClampNeg) (s1 - s0))) else none := by
  rw [mj_den_eq, f96_40]
  exact zt_lsub rfl (zt_last (mjkd192 _ _ _ _) (mjln192 _ _ _ _) rfl rfl (zt_iinc rfl (Nat.le_of_ble_eq_true rfl) rfl rfl (zt_goto rfl)))
set_option maxRecDepth 100000 in
theorem f96_48 : mj_find (mj_P 96).2.2.2.2 48 = [(.return_, 1, 0, [])] := rfl
set_option maxRecDepth 100000 in
theorem q96_48 (E : mj_E) (d w c : Nat) (hi : Nat → Nat → Int32) (hl : Nat → Nat → Int64) (v2 : Int32) (v3 : Int32) : mj_den mj_P E d 96 48 [Value.ref 189, Value.ref 41, Value.int v2, Value.int v3] [] (mj_hw w c hi hl) = some (none, (mj_hw w c hi hl)) := by
  rw [mj_den_eq, f96_48]
  exact zt_return
set_option maxRecDepth 100000 in
theorem f97_0 : mj_find (mj_P 97).2.2.2.2 0 = [(.iconst 0, 1, 0, []), (.istore_n 3, 1, 0, [])] := rfl
set_option maxRecDepth 100000 in
theorem q97_0 (E : mj_E) (d w c : Nat) (hi : Nat → Nat → Int32) (hl : Nat → Nat → Int64) (v1 : Int32) (v2 : Int32) : mj_den mj_P E d 97 0 [Value.ref 189, Value.int v1, Value.int v2, Value.float 0] [] (mj_hw w c hi hl) = mj_den mj_P E d 97 2 [Value.ref 189, Value.int v1, Value.int v2, Value.int (0 : Int32)] [] (mj_hw w c hi hl) := by
  rw [mj_den_eq, f97_0]
  exact zt_iconst rfl (zt_istore_n (Nat.le_of_ble_eq_true rfl) rfl rfl (zt_end rfl))
set_option maxRecDepth 100000 in
theorem f97_2 : mj_find (mj_P 97).2.2.2.2 2 = [(.iload_n 3, 1, 0, []), (.iload_n 2, 1, 0, []), (.if_icmp .ge 25, 3, 0, [29]), (.aload_n 0, 1, 0, []), (.getfield 22, 3, 0, [8, 3, 3, 572]), (.iload_n 3, 1, 0, []), (.iaload, 1, 0, []), (.iload_n 1, 1, 0, []), (.if_icmp .ne 9, 3, 0, [23]), (.lconst 1, 1, 0, []), (.iconst 5, 1, 5, []), (.iload_n 3, 1, 0, []), (.imul, 1, 0, []), (.lshl, 1, 0, []), (.lreturn, 1, 0, [])] := rfl
set_option maxRecDepth 100000 in
theorem q97_2 (E : mj_E) (d w c : Nat) (hi : Nat → Nat → Int32) (hl : Nat → Nat → Int64) (v1 : Int32) (v2 : Int32) (v3 : Int32) : mj_den mj_P E d 97 2 [Value.ref 189, Value.int v1, Value.int v2, Value.int v3] [] (mj_hw w c hi hl) = if v2 ≤ v3 then mj_den mj_P E d 97 29 [Value.ref 189, Value.int v1, Value.int v2, Value.int v3] [] (mj_hw w c hi hl) else if 0 ≤ v3 ∧ (v3).toNatClampNeg < 12 then if ¬ (hi 193 ((v3).toNatClampNeg)) = v1 then mj_den mj_P E d 97 23 [Value.ref 189, Value.int v1, Value.int v2, Value.int v3] [] (mj_hw w c hi hl) else some (some (Value.long ((Int64.ofNat 1) <<< ((((5 : Int32) * v3)).toInt64 &&& 63))), (mj_hw w c hi hl)) else none := by
  rw [mj_den_eq, f97_2]
  exact zt_iload_n rfl rfl (zt_iload_n rfl rfl (zt_icmp_ge rfl rfl (zt_aload_n rfl rfl (zt_getr (mjkd189 _ _ _ _) (mjhr189_3 w c) rfl (zt_iload_n rfl rfl (zt_iald (mjkd193 _ _ _ _) (mjln193 _ _ _ _) rfl rfl (zt_iload_n rfl rfl (zt_icmp_ne rfl rfl (zt_lconst rfl rfl (zt_iconst rfl (zt_iload_n rfl rfl (zt_imul rfl (zt_lshl rfl (zt_lreturn))))))))))))))
set_option maxRecDepth 100000 in
theorem f97_23 : mj_find (mj_P 97).2.2.2.2 23 = [(.iinc 3 1, 3, 1, []), (.goto (-24), 3, 0, [2])] := rfl
set_option maxRecDepth 100000 in
theorem q97_23 (E : mj_E) (d w c : Nat) (hi : Nat → Nat → Int32) (hl : Nat → Nat → Int64) (v1 : Int32) (v2 : Int32) (v3 : Int32) : mj_den mj_P E d 97 23 [Value.ref 189, Value.int v1, Value.int v2, Value.int v3] [] (mj_hw w c hi hl) = mj_den mj_P E d 97 2 [Value.ref 189, Value.int v1, Value.int v2, Value.int (v3 + (1 : Int32))] [] (mj_hw w c hi hl) := by
  rw [mj_den_eq, f97_23]
  exact zt_iinc rfl (Nat.le_of_ble_eq_true rfl) rfl rfl (zt_goto rfl)
set_option maxRecDepth 100000 in
theorem f97_29 : mj_find (mj_P 97).2.2.2.2 29 = [(.lconst 0, 1, 0, []), (.lreturn, 1, 0, [])] := rfl
set_option maxRecDepth 100000 in
theorem q97_29 (E : mj_E) (d w c : Nat) (hi : Nat → Nat → Int32) (hl : Nat → Nat → Int64) (v1 : Int32) (v2 : Int32) (v3 : Int32) : mj_den mj_P E d 97 29 [Value.ref 189, Value.int v1, Value.int v2, Value.int v3] [] (mj_hw w c hi hl) = some (some (Value.long (Int64.ofNat 0)), (mj_hw w c hi hl)) := by
  rw [mj_den_eq, f97_29]
  exact zt_lconst rfl rfl (zt_lreturn)
set_option maxRecDepth 100000 in
theorem f99_0 : mj_find (mj_P 99).2.2.2.2 0 = [(.aload_n 0, 1, 0, []), (.aload_n 1, 1, 0, []), (.getfield 9, 3, 0, [9, 0, 0, 358]), (.putfield 9, 3, 0, [9, 0, 0, 358]), (.aload_n 1, 1, 0, []), (.getfield 15, 3, 0, [9, 1, 3, 361]), (.aload_n 0, 1, 0, []), (.getfield 15, 3, 0, [9, 1, 3, 361]), (.invokestatic 46, 3, 0, [6, 149, 0, 2, 0, 1393, 725, 143, 726])] := rfl
set_option maxRecDepth 100000 in
theorem q99_0 (E : mj_E) (d w c : Nat) (hi : Nat → Nat → Int32) (hl : Nat → Nat → Int64) : mj_den mj_P E d 99 0 [Value.ref 79, Value.ref 34] [] (mj_hw w c hi hl) = mj_bv (mj_dc mj_P E d 149 [Value.ref 35, Value.ref 80] (mj_hw w c (mj_u hi 79 0 (hi 34 0)) hl)) (fun h1 => mj_den mj_P E d 99 19 [Value.ref 79, Value.ref 34] [] h1) := by
  rw [mj_den_eq, f99_0]
  exact zt_aload_n rfl rfl (zt_aload_n rfl rfl (zt_geti (mjkd34 _ _ _ _) rfl rfl (zt_puti (mjkd79 _ _ _ _) rfl rfl (zt_aload_n rfl rfl (zt_getr (mjkd34 _ _ _ _) (mjhr34_1 w c) rfl (zt_aload_n rfl rfl (zt_getr (mjkd79 _ _ _ _) (mjhr79_1 w c) rfl (zt_call6_0 (Nat.le_of_ble_eq_true rfl) rfl (Nat.le_of_ble_eq_true rfl) rfl rfl))))))))
set_option maxRecDepth 100000 in
theorem q99_0_1 (E : mj_E) (d w c : Nat) (hi : Nat → Nat → Int32) (hl : Nat → Nat → Int64) : mj_den mj_P E d 99 0 [Value.ref 34, Value.ref 79] [] (mj_hw w c hi hl) = mj_bv (mj_dc mj_P E d 149 [Value.ref 80, Value.ref 35] (mj_hw w c (mj_u hi 34 0 (hi 79 0)) hl)) (fun h1 => mj_den mj_P E d 99 19 [Value.ref 34, Value.ref 79] [] h1) := by
  rw [mj_den_eq, f99_0]
  exact zt_aload_n rfl rfl (zt_aload_n rfl rfl (zt_geti (mjkd79 _ _ _ _) rfl rfl (zt_puti (mjkd34 _ _ _ _) rfl rfl (zt_aload_n rfl rfl (zt_getr (mjkd79 _ _ _ _) (mjhr79_1 w c) rfl (zt_aload_n rfl rfl (zt_getr (mjkd34 _ _ _ _) (mjhr34_1 w c) rfl (zt_call6_0 (Nat.le_of_ble_eq_true rfl) rfl (Nat.le_of_ble_eq_true rfl) rfl rfl))))))))
set_option maxRecDepth 100000 in
theorem f99_19 : mj_find (mj_P 99).2.2.2.2 19 = [(.aload_n 1, 1, 0, []), (.getfield 19, 3, 0, [9, 2, 3, 364]), (.aload_n 0, 1, 0, []), (.getfield 19, 3, 0, [9, 2, 3, 364]), (.invokestatic 46, 3, 0, [6, 149, 0, 2, 0, 1393, 725, 143, 726])] := rfl
set_option maxRecDepth 100000 in
theorem q99_19 (E : mj_E) (d w c : Nat) (hi : Nat → Nat → Int32) (hl : Nat → Nat → Int64) : mj_den mj_P E d 99 19 [Value.ref 79, Value.ref 34] [] (mj_hw w c hi hl) = mj_bv (mj_dc mj_P E d 149 [Value.ref 36, Value.ref 81] (mj_hw w c hi hl)) (fun h1 => mj_den mj_P E d 99 30 [Value.ref 79, Value.ref 34] [] h1) := by
  rw [mj_den_eq, f99_19]
  exact zt_aload_n rfl rfl (zt_getr (mjkd34 _ _ _ _) (mjhr34_2 w c) rfl (zt_aload_n rfl rfl (zt_getr (mjkd79 _ _ _ _) (mjhr79_2 w c) rfl (zt_call6_0 (Nat.le_of_ble_eq_true rfl) rfl (Nat.le_of_ble_eq_true rfl) rfl rfl))))
set_option maxRecDepth 100000 in
theorem q99_19_1 (E : mj_E) (d w c : Nat) (hi : Nat → Nat → Int32) (hl : Nat → Nat → Int64) : mj_den mj_P E d 99 19 [Value.ref 34, Value.ref 79] [] (mj_hw w c hi hl) = mj_bv (mj_dc mj_P E d 149 [Value.ref 81, Value.ref 36] (mj_hw w c hi hl)) (fun h1 => mj_den mj_P E d 99 30 [Value.ref 34, Value.ref 79] [] h1) := by
  rw [mj_den_eq, f99_19]
  exact zt_aload_n rfl rfl (zt_getr (mjkd79 _ _ _ _) (mjhr79_2 w c) rfl (zt_aload_n rfl rfl (zt_getr (mjkd34 _ _ _ _) (mjhr34_2 w c) rfl (zt_call6_0 (Nat.le_of_ble_eq_true rfl) rfl (Nat.le_of_ble_eq_true rfl) rfl rfl))))
set_option maxRecDepth 100000 in
theorem f99_30 : mj_find (mj_P 99).2.2.2.2 30 = [(.aload_n 0, 1, 0, []), (.aload_n 1, 1, 0, []), (.getfield 22, 3, 0, [9, 3, 0, 367]), (.putfield 22, 3, 0, [9, 3, 0, 367]), (.aload_n 1, 1, 0, []), (.getfield 25, 3, 0, [9, 4, 3, 370]), (.aload_n 0, 1, 0, []), (.getfield 25, 3, 0, [9, 4, 3, 370]), (.invokestatic 46, 3, 0, [6, 149, 0, 2, 0, 1393, 725, 143, 726])] := rfl
set_option maxRecDepth 100000 in
theorem q99_30 (E : mj_E) (d w c : Nat) (hi : Nat → Nat → Int32) (hl : Nat → Nat → Int64) : mj_den mj_P E d 99 30 [Value.ref 79, Value.ref 34] [] (mj_hw w c hi hl) = mj_bv (mj_dc mj_P E d 149 [Value.ref 37, Value.ref 82] (mj_hw w c (mj_u hi 79 3 (hi 34 3)) hl)) (fun h1 => mj_den mj_P E d 99 49 [Value.ref 79, Value.ref 34] [] h1) := by
  rw [mj_den_eq, f99_30]
  exact zt_aload_n rfl rfl (zt_aload_n rfl rfl (zt_geti (mjkd34 _ _ _ _) rfl rfl (zt_puti (mjkd79 _ _ _ _) rfl rfl (zt_aload_n rfl rfl (zt_getr (mjkd34 _ _ _ _) (mjhr34_4 w c) rfl (zt_aload_n rfl rfl (zt_getr (mjkd79 _ _ _ _) (mjhr79_4 w c) rfl (zt_call6_0 (Nat.le_of_ble_eq_true rfl) rfl (Nat.le_of_ble_eq_true rfl) rfl rfl))))))))
set_option maxRecDepth 100000 in
theorem q99_30_1 (E : mj_E) (d w c : Nat) (hi : Nat → Nat → Int32) (hl : Nat → Nat → Int64) : mj_den mj_P E d 99 30 [Value.ref 34, Value.ref 79] [] (mj_hw w c hi hl) = mj_bv (mj_dc mj_P E d 149 [Value.ref 82, Value.ref 37] (mj_hw w c (mj_u hi 34 3 (hi 79 3)) hl)) (fun h1 => mj_den mj_P E d 99 49 [Value.ref 34, Value.ref 79] [] h1) := by
  rw [mj_den_eq, f99_30]
  exact zt_aload_n rfl rfl (zt_aload_n rfl rfl (zt_geti (mjkd79 _ _ _ _) rfl rfl (zt_puti (mjkd34 _ _ _ _) rfl rfl (zt_aload_n rfl rfl (zt_getr (mjkd79 _ _ _ _) (mjhr79_4 w c) rfl (zt_aload_n rfl rfl (zt_getr (mjkd34 _ _ _ _) (mjhr34_4 w c) rfl (zt_call6_0 (Nat.le_of_ble_eq_true rfl) rfl (Nat.le_of_ble_eq_true rfl) rfl rfl))))))))
set_option maxRecDepth 100000 in
theorem f99_49 : mj_find (mj_P 99).2.2.2.2 49 = [(.aload_n 1, 1, 0, []), (.getfield 28, 3, 0, [9, 5, 3, 373]), (.aload_n 0, 1, 0, []), (.getfield 28, 3, 0, [9, 5, 3, 373]), (.invokestatic 46, 3, 0, [6, 149, 0, 2, 0, 1393, 725, 143, 726])] := rfl
set_option maxRecDepth 100000 in
theorem q99_49 (E : mj_E) (d w c : Nat) (hi : Nat → Nat → Int32) (hl : Nat → Nat → Int64) : mj_den mj_P E d 99 49 [Value.ref 79, Value.ref 34] [] (mj_hw w c hi hl) = mj_bv (mj_dc mj_P E d 149 [Value.ref 38, Value.ref 83] (mj_hw w c hi hl)) (fun h1 => mj_den mj_P E d 99 60 [Value.ref 79, Value.ref 34] [] h1) := by
  rw [mj_den_eq, f99_49]
  exact zt_aload_n rfl rfl (zt_getr (mjkd34 _ _ _ _) (mjhr34_5 w c) rfl (zt_aload_n rfl rfl (zt_getr (mjkd79 _ _ _ _) (mjhr79_5 w c) rfl (zt_call6_0 (Nat.le_of_ble_eq_true rfl) rfl (Nat.le_of_ble_eq_true rfl) rfl rfl))))
set_option maxRecDepth 100000 in
theorem q99_49_1 (E : mj_E) (d w c : Nat) (hi : Nat → Nat → Int32) (hl : Nat → Nat → Int64) : mj_den mj_P E d 99 49 [Value.ref 34, Value.ref 79] [] (mj_hw w c hi hl) = mj_bv (mj_dc mj_P E d 149 [Value.ref 83, Value.ref 38] (mj_hw w c hi hl)) (fun h1 => mj_den mj_P E d 99 60 [Value.ref 34, Value.ref 79] [] h1) := by
  rw [mj_den_eq, f99_49]
  exact zt_aload_n rfl rfl (zt_getr (mjkd79 _ _ _ _) (mjhr79_5 w c) rfl (zt_aload_n rfl rfl (zt_getr (mjkd34 _ _ _ _) (mjhr34_5 w c) rfl (zt_call6_0 (Nat.le_of_ble_eq_true rfl) rfl (Nat.le_of_ble_eq_true rfl) rfl rfl))))
set_option maxRecDepth 100000 in
theorem f99_60 : mj_find (mj_P 99).2.2.2.2 60 = [(.aload_n 0, 1, 0, []), (.aload_n 1, 1, 0, []), (.getfield 31, 3, 0, [9, 6, 0, 375]), (.putfield 31, 3, 0, [9, 6, 0, 375]), (.aload_n 1, 1, 0, []), (.getfield 34, 3, 0, [9, 7, 3, 378]), (.aload_n 0, 1, 0, []), (.getfield 34, 3, 0, [9, 7, 3, 378]), (.invokestatic 46, 3, 0, [6, 149, 0, 2, 0, 1393, 725, 143, 726])] := rfl
set_option maxRecDepth 100000 in
theorem q99_60 (E : mj_E) (d w c : Nat) (hi : Nat → Nat → Int32) (hl : Nat → Nat → Int64) : mj_den mj_P E d 99 60 [Value.ref 79, Value.ref 34] [] (mj_hw w c hi hl) = mj_bv (mj_dc mj_P E d 149 [Value.ref 39, Value.ref 84] (mj_hw w c (mj_u hi 79 6 (hi 34 6)) hl)) (fun h1 => mj_den mj_P E d 99 79 [Value.ref 79, Value.ref 34] [] h1) := by
  rw [mj_den_eq, f99_60]
  exact zt_aload_n rfl rfl (zt_aload_n rfl rfl (zt_geti (mjkd34 _ _ _ _) rfl rfl (zt_puti (mjkd79 _ _ _ _) rfl rfl (zt_aload_n rfl rfl (zt_getr (mjkd34 _ _ _ _) (mjhr34_7 w c) rfl (zt_aload_n rfl rfl (zt_getr (mjkd79 _ _ _ _) (mjhr79_7 w c) rfl (zt_call6_0 (Nat.le_of_ble_eq_true rfl) rfl (Nat.le_of_ble_eq_true rfl) rfl rfl))))))))
set_option maxRecDepth 100000 in
theorem q99_60_1 (E : mj_E) (d w c : Nat) (hi : Nat → Nat → Int32) (hl : Nat → Nat → Int64) : mj_den mj_P E d 99 60 [Value.ref 34, Value.ref 79] [] (mj_hw w c hi hl) = mj_bv (mj_dc mj_P E d 149 [Value.ref 84, Value.ref 39] (mj_hw w c (mj_u hi 34 6 (hi 79 6)) hl)) (fun h1 => mj_den mj_P E d 99 79 [Value.ref 34, Value.ref 79] [] h1) := by
  rw [mj_den_eq, f99_60]
  exact zt_aload_n rfl rfl (zt_aload_n rfl rfl (zt_geti (mjkd79 _ _ _ _) rfl rfl (zt_puti (mjkd34 _ _ _ _) rfl rfl (zt_aload_n rfl rfl (zt_getr (mjkd79 _ _ _ _) (mjhr79_7 w c) rfl (zt_aload_n rfl rfl (zt_getr (mjkd34 _ _ _ _) (mjhr34_7 w c) rfl (zt_call6_0 (Nat.le_of_ble_eq_true rfl) rfl (Nat.le_of_ble_eq_true rfl) rfl rfl))))))))
set_option maxRecDepth 100000 in
theorem f99_79 : mj_find (mj_P 99).2.2.2.2 79 = [(.aload_n 1, 1, 0, []), (.getfield 37, 3, 0, [9, 8, 3, 381]), (.aload_n 0, 1, 0, []), (.getfield 37, 3, 0, [9, 8, 3, 381]), (.invokestatic 46, 3, 0, [6, 149, 0, 2, 0, 1393, 725, 143, 726])] := rfl
set_option maxRecDepth 100000 in
theorem q99_79 (E : mj_E) (d w c : Nat) (hi : Nat → Nat → Int32) (hl : Nat → Nat → Int64) : mj_den mj_P E d 99 79 [Value.ref 79, Value.ref 34] [] (mj_hw w c hi hl) = mj_bv (mj_dc mj_P E d 149 [Value.ref 40, Value.ref 85] (mj_hw w c hi hl)) (fun h1 => mj_den mj_P E d 99 90 [Value.ref 79, Value.ref 34] [] h1) := by
  rw [mj_den_eq, f99_79]
  exact zt_aload_n rfl rfl (zt_getr (mjkd34 _ _ _ _) (mjhr34_8 w c) rfl (zt_aload_n rfl rfl (zt_getr (mjkd79 _ _ _ _) (mjhr79_8 w c) rfl (zt_call6_0 (Nat.le_of_ble_eq_true rfl) rfl (Nat.le_of_ble_eq_true rfl) rfl rfl))))
set_option maxRecDepth 100000 in
theorem q99_79_1 (E : mj_E) (d w c : Nat) (hi : Nat → Nat → Int32) (hl : Nat → Nat → Int64) : mj_den mj_P E d 99 79 [Value.ref 34, Value.ref 79] [] (mj_hw w c hi hl) = mj_bv (mj_dc mj_P E d 149 [Value.ref 85, Value.ref 40] (mj_hw w c hi hl)) (fun h1 => mj_den mj_P E d 99 90 [Value.ref 34, Value.ref 79] [] h1) := by
  rw [mj_den_eq, f99_79]
  exact zt_aload_n rfl rfl (zt_getr (mjkd79 _ _ _ _) (mjhr79_8 w c) rfl (zt_aload_n rfl rfl (zt_getr (mjkd34 _ _ _ _) (mjhr34_8 w c) rfl (zt_call6_0 (Nat.le_of_ble_eq_true rfl) rfl (Nat.le_of_ble_eq_true rfl) rfl rfl))))
set_option maxRecDepth 100000 in
theorem f99_90 : mj_find (mj_P 99).2.2.2.2 90 = [(.aload_n 0, 1, 0, []), (.aload_n 1, 1, 0, []), (.getfield 40, 3, 0, [9, 9, 0, 384]), (.putfield 40, 3, 0, [9, 9, 0, 384]), (.aload_n 1, 1, 0, []), (.getfield 43, 3, 0, [9, 10, 3, 386]), (.aload_n 0, 1, 0, []), (.getfield 43, 3, 0, [9, 10, 3, 386]), (.invokestatic 46, 3, 0, [6, 149, 0, 2, 0, 1393, 725, 143, 726])] := rfl
set_option maxRecDepth 100000 in
theorem q99_90 (E : mj_E) (d w c : Nat) (hi : Nat → Nat → Int32) (hl : Nat → Nat → Int64) : mj_den mj_P E d 99 90 [Value.ref 79, Value.ref 34] [] (mj_hw w c hi hl) = mj_bv (mj_dc mj_P E d 149 [Value.ref 41, Value.ref 86] (mj_hw w c (mj_u hi 79 9 (hi 34 9)) hl)) (fun h1 => mj_den mj_P E d 99 109 [Value.ref 79, Value.ref 34] [] h1) := by
  rw [mj_den_eq, f99_90]
  exact zt_aload_n rfl rfl (zt_aload_n rfl rfl (zt_geti (mjkd34 _ _ _ _) rfl rfl (zt_puti (mjkd79 _ _ _ _) rfl rfl (zt_aload_n rfl rfl (zt_getr (mjkd34 _ _ _ _) (mjhr34_10 w c) rfl (zt_aload_n rfl rfl (zt_getr (mjkd79 _ _ _ _) (mjhr79_10 w c) rfl (zt_call6_0 (Nat.le_of_ble_eq_true rfl) rfl (Nat.le_of_ble_eq_true rfl) rfl rfl))))))))
set_option maxRecDepth 100000 in
theorem q99_90_1 (E : mj_E) (d w c : Nat) (hi : Nat → Nat → Int32) (hl : Nat → Nat → Int64) : mj_den mj_P E d 99 90 [Value.ref 34, Value.ref 79] [] (mj_hw w c hi hl) = mj_bv (mj_dc mj_P E d 149 [Value.ref 86, Value.ref 41] (mj_hw w c (mj_u hi 34 9 (hi 79 9)) hl)) (fun h1 => mj_den mj_P E d 99 109 [Value.ref 34, Value.ref 79] [] h1) := by
  rw [mj_den_eq, f99_90]
  exact zt_aload_n rfl rfl (zt_aload_n rfl rfl (zt_geti (mjkd79 _ _ _ _) rfl rfl (zt_puti (mjkd34 _ _ _ _) rfl rfl (zt_aload_n rfl rfl (zt_getr (mjkd79 _ _ _ _) (mjhr79_10 w c) rfl (zt_aload_n rfl rfl (zt_getr (mjkd34 _ _ _ _) (mjhr34_10 w c) rfl (zt_call6_0 (Nat.le_of_ble_eq_true rfl) rfl (Nat.le_of_ble_eq_true rfl) rfl rfl))))))))
set_option maxRecDepth 100000 in
theorem f99_109 : mj_find (mj_P 99).2.2.2.2 109 = [(.return_, 1, 0, [])] := rfl
set_option maxRecDepth 100000 in
theorem q99_109 (E : mj_E) (d w c : Nat) (hi : Nat → Nat → Int32) (hl : Nat → Nat → Int64) : mj_den mj_P E d 99 109 [Value.ref 79, Value.ref 34] [] (mj_hw w c hi hl) = some (none, (mj_hw w c hi hl)) := by
  rw [mj_den_eq, f99_109]
  exact zt_return
set_option maxRecDepth 100000 in
theorem q99_109_1 (E : mj_E) (d w c : Nat) (hi : Nat → Nat → Int32) (hl : Nat → Nat → Int64) : mj_den mj_P E d 99 109 [Value.ref 34, Value.ref 79] [] (mj_hw w c hi hl) = some (none, (mj_hw w c hi hl)) := by
  rw [mj_den_eq, f99_109]
  exact zt_return
set_option maxRecDepth 100000 in
theorem f101_0 : mj_find (mj_P 101).2.2.2.2 0 = [(.aload_n 0, 1, 0, []), (.getfield 12, 3, 0, [10, 0, 3, 411]), (.getfield 58, 3, 0, [7, 6, 0, 204]), (.istore 4, 2, 0, []), (.iload 4, 2, 0, []), (.ifCond .lt 11, 3, 0, [22]), (.iload 4, 2, 0, []), (.sipush 150, 3, 150, []), (.if_icmp .lt 4, 3, 0, [23])] := rfl
set_option maxRecDepth 100000 in
theorem q101_0 (E : mj_E) (d w c : Nat) (hi : Nat → Nat → Int32) (hl : Nat → Nat → Int64) (v1 : Int32) (v2 : Int32) (v3 : Int32) : mj_den mj_P E d 101 0 [Value.ref 1, Value.int v1, Value.int v2, Value.int v3, Value.float 0] [] (mj_hw w c hi hl) = if (hi 2 6) < 0 then mj_den mj_P E d 101 22 [Value.ref 1, Value.int v1, Value.int v2, Value.int v3, Value.int (hi 2 6)] [] (mj_hw w c hi hl) else if (hi 2 6) < (150 : Int32) then mj_den mj_P E d 101 23 [Value.ref 1, Value.int v1, Value.int v2, Value.int v3, Value.int (hi 2 6)] [] (mj_hw w c hi hl) else mj_den mj_P E d 101 22 [Value.ref 1, Value.int v1, Value.int v2, Value.int v3, Value.int (hi 2 6)] [] (mj_hw w c hi hl) := by
  rw [mj_den_eq, f101_0]
  exact zt_aload_n rfl rfl (zt_getr (mjkd1 _ _ _ _) (mjhr1_0 w c) rfl (zt_geti (mjkd2 _ _ _ _) rfl rfl (zt_istore (Nat.le_of_ble_eq_true rfl) rfl rfl (zt_iload rfl rfl (zt_if_lt rfl rfl (zt_iload rfl rfl (zt_sipush rfl (zt_icmp_lt rfl rfl (zt_end rfl)))))))))
set_option maxRecDepth 100000 in
theorem f101_22 : mj_find (mj_P 101).2.2.2.2 22 = [(.return_, 1, 0, [])] := rfl
set_option maxRecDepth 100000 in
theorem q101_22 (E : mj_E) (d w c : Nat) (hi : Nat → Nat → Int32) (hl : Nat → Nat → Int64) (v1 : Int32) (v2 : Int32) (v3 : Int32) (v4 : Int32) : mj_den mj_P E d 101 22 [Value.ref 1, Value.int v1, Value.int v2, Value.int v3, Value.int v4] [] (mj_hw w c hi hl) = some (none, (mj_hw w c hi hl)) := by
  rw [mj_den_eq, f101_22]
  exact zt_return
set_option maxRecDepth 100000 in
theorem f101_23 : mj_find (mj_P 101).2.2.2.2 23 = [(.aload_n 0, 1, 0, []), (.getfield 45, 3, 0, [10, 6, 3, 424]), (.iload 4, 2, 0, []), (.aload_n 0, 1, 0, []), (.getfield 12, 3, 0, [10, 0, 3, 411]), (.getfield 62, 3, 0, [7, 3, 0, 195]), (.iastore, 1, 0, []), (.aload_n 0, 1, 0, []), (.getfield 49, 3, 0, [10, 7, 3, 426]), (.iload 4, 2, 0, []), (.iload_n 1, 1, 0, []), (.iastore, 1, 0, []), (.aload_n 0, 1, 0, []), (.getfield 52, 3, 0, [10, 8, 3, 428]), (.iload 4, 2, 0, []), (.iload_n 2, 1, 0, []), (.iastore, 1, 0, []), (.aload_n 0, 1, 0, []), (.getfield 55, 3, 0, [10, 9, 3, 430]), (.iload 4, 2, 0, []), (.iload_n 3, 1, 0, []), (.iastore, 1, 0, []), (.aload_n 0, 1, 0, []), (.getfield 12, 3, 0, [10, 0, 3, 411]), (.dup, 1, 0, []), (.getfield 58, 3, 0, [7, 6, 0, 204]), (.iconst 1, 1, 1, []), (.iadd, 1, 0, []), (.putfield 58, 3, 0, [7, 6, 0, 204]), (.return_, 1, 0, [])] := rfl
set_option maxRecDepth 100000 in
theorem q101_23 (E : mj_E) (d w c : Nat) (hi : Nat → Nat → Int32) (hl : Nat → Nat → Int64) (v1 : Int32) (v2 : Int32) (v3 : Int32) (v4 : Int32) : mj_den mj_P E d 101 23 [Value.ref 1, Value.int v1, Value.int v2, Value.int v3, Value.int v4] [] (mj_hw w c hi hl) = if 0 ≤ v4 ∧ (v4).toNatClampNeg < 150 then if 0 ≤ v4 ∧ (v4).toNatClampNeg < 150 then if 0 ≤ v4 ∧ (v4).toNatClampNeg < 150 then if 0 ≤ v4 ∧ (v4).toNatClampNeg < 150 then some (none, (mj_hw w c (mj_u (mj_u (mj_u (mj_u (mj_u hi 42 ((v4).toNatClampNeg) (hi 2 3)) 43 ((v4).toNatClampNeg) v1) 44 ((v4).toNatClampNeg) v2) 45 ((v4).toNatClampNeg) v3) 2 6 ((hi 2 6) + (1 : Int32))) hl)) else none else none else none else none := by
  rw [mj_den_eq, f101_23]
  exact zt_aload_n rfl rfl (zt_getr (mjkd1 _ _ _ _) (mjhr1_6 w c) rfl (zt_iload rfl rfl (zt_aload_n rfl rfl (zt_getr (mjkd1 _ _ _ _) (mjhr1_0 w c) rfl (zt_geti (mjkd2 _ _ _ _) rfl rfl (zt_iast (mjkd42 _ _ _ _) (mjln42 _ _ _ _) rfl rfl (zt_aload_n rfl rfl (zt_getr (mjkd1 _ _ _ _) (mjhr1_7 w c) rfl (zt_iload rfl rfl (zt_iload_n rfl rfl (zt_iast (mjkd43 _ _ _ _) (mjln43 _ _ _ _) rfl rfl (zt_aload_n rfl rfl (zt_getr (mjkd1 _ _ _ _) (mjhr1_8 w c) rfl (zt_iload rfl rfl (zt_iload_n rfl rfl (zt_iast (mjkd44 _ _ _ _) (mjln44 _ _ _ _) rfl rfl (zt_aload_n rfl rfl (zt_getr (mjkd1 _ _ _ _) (mjhr1_9 w c) rfl (zt_iload rfl rfl (zt_iload_n rfl rfl (zt_iast (mjkd45 _ _ _ _) (mjln45 _ _ _ _) rfl rfl (zt_aload_n rfl rfl (zt_getr (mjkd1 _ _ _ _) (mjhr1_0 w c) rfl (zt_dupr rfl (zt_geti (mjkd2 _ _ _ _) rfl rfl (zt_iconst rfl (zt_iadd rfl (zt_puti (mjkd2 _ _ _ _) rfl rfl (zt_return)))))))))))))))))))))))))))))
set_option maxRecDepth 100000 in
theorem f102_0 : mj_find (mj_P 102).2.2.2.2 0 = [(.iload_n 1, 1, 0, []), (.iconst 1, 1, 1, []), (.if_icmp .ne 8, 3, 0, [10]), (.aload_n 0, 1, 0, []), (.getfield 28, 3, 0, [10, 2, 3, 416]), (.areturn, 1, 0, [])] := rfl
set_option maxRecDepth 100000 in
theorem q102_0 (E : mj_E) (d w c : Nat) (hi : Nat → Nat → Int32) (hl : Nat → Nat → Int64) (v1 : Int32) : mj_den mj_P E d 102 0 [Value.ref 1, Value.int v1] [] (mj_hw w c hi hl) = if ¬ v1 = (1 : Int32) then mj_den mj_P E d 102 10 [Value.ref 1, Value.int v1] [] (mj_hw w c hi hl) else some (some (Value.ref 22), (mj_hw w c hi hl)) := by
  rw [mj_den_eq, f102_0]
  exact zt_iload_n rfl rfl (zt_iconst rfl (zt_icmp_ne rfl rfl (zt_aload_n rfl rfl (zt_getr (mjkd1 _ _ _ _) (mjhr1_2 w c) rfl (zt_areturn)))))
set_option maxRecDepth 100000 in
theorem f102_10 : mj_find (mj_P 102).2.2.2.2 10 = [(.iload_n 1, 1, 0, []), (.iconst 2, 1, 2, []), (.if_icmp .ne 10, 3, 0, [22]), (.aload_n 0, 1, 0, []), (.getfield 32, 3, 0, [10, 3, 3, 418]), (.goto 7, 3, 0, [26])] := rfl
set_option maxRecDepth 100000 in
theorem q102_10 (E : mj_E) (d w c : Nat) (hi : Nat → Nat → Int32) (hl : Nat → Nat → Int64) (v1 : Int32) : mj_den mj_P E d 102 10 [Value.ref 1, Value.int v1] [] (mj_hw w c hi hl) = if ¬ v1 = (2 : Int32) then mj_den mj_P E d 102 22 [Value.ref 1, Value.int v1] [] (mj_hw w c hi hl) else mj_den mj_P E d 102 26 [Value.ref 1, Value.int v1] [Value.ref 26] (mj_hw w c hi hl) := by
  rw [mj_den_eq, f102_10]
  exact zt_iload_n rfl rfl (zt_iconst rfl (zt_icmp_ne rfl rfl (zt_aload_n rfl rfl (zt_getr (mjkd1 _ _ _ _) (mjhr1_3 w c) rfl (zt_goto rfl)))))
set_option maxRecDepth 100000 in
theorem f102_22 : mj_find (mj_P 102).2.2.2.2 22 = [(.aload_n 0, 1, 0, []), (.getfield 35, 3, 0, [10, 4, 3, 420])] := rfl
set_option maxRecDepth 100000 in
theorem q102_22 (E : mj_E) (d w c : Nat) (hi : Nat → Nat → Int32) (hl : Nat → Nat → Int64) (v1 : Int32) : mj_den mj_P E d 102 22 [Value.ref 1, Value.int v1] [] (mj_hw w c hi hl) = mj_den mj_P E d 102 26 [Value.ref 1, Value.int v1] [Value.ref 30] (mj_hw w c hi hl) := by
  rw [mj_den_eq, f102_22]
  exact zt_aload_n rfl rfl (zt_getr (mjkd1 _ _ _ _) (mjhr1_4 w c) rfl (zt_end rfl))
set_option maxRecDepth 100000 in
theorem f102_26 : mj_find (mj_P 102).2.2.2.2 26 = [(.areturn, 1, 0, [])] := rfl
set_option maxRecDepth 100000 in
theorem q102_26 (E : mj_E) (d w c : Nat) (hi : Nat → Nat → Int32) (hl : Nat → Nat → Int64) (v1 : Int32) : mj_den mj_P E d 102 26 [Value.ref 1, Value.int v1] [Value.ref 26] (mj_hw w c hi hl) = some (some (Value.ref 26), (mj_hw w c hi hl)) := by
  rw [mj_den_eq, f102_26]
  exact zt_areturn
set_option maxRecDepth 100000 in
theorem q102_26_1 (E : mj_E) (d w c : Nat) (hi : Nat → Nat → Int32) (hl : Nat → Nat → Int64) (v1 : Int32) : mj_den mj_P E d 102 26 [Value.ref 1, Value.int v1] [Value.ref 30] (mj_hw w c hi hl) = some (some (Value.ref 30), (mj_hw w c hi hl)) := by
  rw [mj_den_eq, f102_26]
  exact zt_areturn
set_option maxRecDepth 100000 in
theorem f103_0 : mj_find (mj_P 103).2.2.2.2 0 = [(.iconst 0, 1, 0, []), (.istore_n 2, 1, 0, []), (.iconst 0, 1, 0, []), (.istore_n 3, 1, 0, [])] := rfl
set_option maxRecDepth 100000 in
theorem q103_0 (E : mj_E) (d w c : Nat) (hi : Nat → Nat → Int32) (hl : Nat → Nat → Int64) (v1 : Int32) : mj_den mj_P E d 103 0 [Value.ref 1, Value.int v1, Value.float 0, Value.float 0, Value.float 0] [] (mj_hw w c hi hl) = mj_den mj_P E d 103 4 [Value.ref 1, Value.int v1, Value.int (0 : Int32), Value.int (0 : Int32), Value.float 0] [] (mj_hw w c hi hl) := by
  rw [mj_den_eq, f103_0]
  exact zt_iconst rfl (zt_istore_n (Nat.le_of_ble_eq_true rfl) rfl rfl (zt_iconst rfl (zt_istore_n (Nat.le_of_ble_eq_true rfl) rfl rfl (zt_end rfl))))
set_option maxRecDepth 100000 in
theorem f103_4 : mj_find (mj_P 103).2.2.2.2 4 = [(.iload_n 3, 1, 0, []), (.aload_n 0, 1, 0, []), (.getfield 28, 3, 0, [10, 2, 3, 416]), (.getfield 65, 3, 0, [3, 0, 0, 327]), (.if_icmp .ge 27, 3, 0, [39]), (.iload_n 3, 1, 0, []), (.bipush 16, 2, 16, []), (.if_icmp .ge 21, 3, 0, [39]), (.iload_n 2, 1, 0, []), (.aload_n 0, 1, 0, []), (.getfield 28, 3, 0, [10, 2, 3, 416]), (.getfield 68, 3, 0, [3, 3, 3, 339]), (.iload_n 3, 1, 0, []), (.iaload, 1, 0, []), (.iadd, 1, 0, []), (.istore_n 2, 1, 0, []), (.iinc 3 1, 3, 1, []), (.goto (-32), 3, 0, [4])] := rfl
set_option maxRecDepth 100000 in
theorem q103_4 (E : mj_E) (d w c : Nat) (hi : Nat → Nat → Int32) (hl : Nat → Nat → Int64) (v1 : Int32) (v2 : Int32) (v3 : Int32) : mj_den mj_P E d 103 4 [Value.ref 1, Value.int v1, Value.int v2, Value.int v3, Value.float 0] [] (mj_hw w c hi hl) = if (hi 22 0) ≤ v3 then mj_den mj_P E d 103 39 [Value.ref 1, Value.int v1, Value.int v2, Value.int v3, Value.float 0] [] (mj_hw w c hi hl) else if (16 : Int32) ≤ v3 then mj_den mj_P E d 103 39 [Value.ref 1, Value.int v1, Value.int v2, Value.int v3, Value.float 0] [] (mj_hw w c hi hl) else if 0 ≤ v3 ∧ (v3).toNatClampNeg < 16 then mj_den mj_P E d 103 4 [Value.ref 1, Value.int v1, Value.int (v2 + (hi 25 ((v3).toNatClampNeg))), Value.int (v3 + (1 : Int32)), Value.float 0] [] (mj_hw w c hi hl) else none := by
  rw [mj_den_eq, f103_4]
  exact zt_iload_n rfl rfl (zt_aload_n rfl rfl (zt_getr (mjkd1 _ _ _ _) (mjhr1_2 w c) rfl (zt_geti (mjkd22 _ _ _ _) rfl rfl (zt_icmp_ge rfl rfl (zt_iload_n rfl rfl (zt_bipush rfl (zt_icmp_ge rfl rfl (zt_iload_n rfl rfl (zt_aload_n rfl rfl (zt_getr (mjkd1 _ _ _ _) (mjhr1_2 w c) rfl (zt_getr (mjkd22 _ _ _ _) (mjhr22_3 w c) rfl (zt_iload_n rfl rfl (zt_iald (mjkd25 _ _ _ _) (mjln25 _ _ _ _) rfl rfl (zt_iadd rfl (zt_istore_n (Nat.le_of_ble_eq_true rfl) rfl rfl (zt_iinc rfl (Nat.le_of_ble_eq_true rfl) rfl rfl (zt_goto rfl)))))))))))))))))
set_option maxRecDepth 100000 in
theorem f103_39 : mj_find (mj_P 103).2.2.2.2 39 = [(.iload_n 2, 1, 0, []), (.ifCond .le 9, 3, 0, [49]), (.iload_n 1, 1, 0, []), (.iload_n 2, 1, 0, []), (.irem, 1, 0, []), (.goto 4, 3, 0, [50])] := rfl
set_option maxRecDepth 100000 in
theorem q103_39 (E : mj_E) (d w c : Nat) (hi : Nat → Nat → Int32) (hl : Nat → Nat → Int64) (v1 : Int32) (v2 : Int32) (v3 : Int32) : mj_den mj_P E d 103 39 [Value.ref 1, Value.int v1, Value.int v2, Value.int v3, Value.float 0] [] (mj_hw w c hi hl) = if v2 ≤ 0 then mj_den mj_P E d 103 49 [Value.ref 1, Value.int v1, Value.int v2, Value.int v3, Value.float 0] [] (mj_hw w c hi hl) else if v2 = 0 then none else mj_den mj_P E d 103 50 [Value.ref 1, Value.int v1, Value.int v2, Value.int v3, Value.float 0] [Value.int (mj_rem v1 v2)] (mj_hw w c hi hl) := by
  rw [mj_den_eq, f103_39]
  exact zt_iload_n rfl rfl (zt_if_le rfl rfl (zt_iload_n rfl rfl (zt_iload_n rfl rfl (zt_irem  rfl (zt_goto rfl)))))
set_option maxRecDepth 100000 in
theorem f103_49 : mj_find (mj_P 103).2.2.2.2 49 = [(.iconst 0, 1, 0, [])] := rfl
set_option maxRecDepth 100000 in
theorem q103_49 (E : mj_E) (d w c : Nat) (hi : Nat → Nat → Int32) (hl : Nat → Nat → Int64) (v1 : Int32) (v2 : Int32) (v3 : Int32) : mj_den mj_P E d 103 49 [Value.ref 1, Value.int v1, Value.int v2, Value.int v3, Value.float 0] [] (mj_hw w c hi hl) = mj_den mj_P E d 103 50 [Value.ref 1, Value.int v1, Value.int v2, Value.int v3, Value.float 0] [Value.int (0 : Int32)] (mj_hw w c hi hl) := by
  rw [mj_den_eq, f103_49]
  exact zt_iconst rfl (zt_end rfl)
set_option maxRecDepth 100000 in
theorem f103_50 : mj_find (mj_P 103).2.2.2.2 50 = [(.istore_n 3, 1, 0, []), (.iconst 0, 1, 0, []), (.istore 4, 2, 0, [])] := rfl
set_option maxRecDepth 100000 in
theorem q103_50 (E : mj_E) (d w c : Nat) (hi : Nat → Nat → Int32) (hl : Nat → Nat → Int64) (v1 : Int32) (v2 : Int32) (v3 : Int32) (s0 : Int32) : mj_den mj_P E d 103 50 [Value.ref 1, Value.int v1, Value.int v2, Value.int v3, Value.float 0] [Value.int s0] (mj_hw w c hi hl) = mj_den mj_P E d 103 54 [Value.ref 1, Value.int v1, Value.int v2, Value.int s0, Value.int (0 : Int32)] [] (mj_hw w c hi hl) := by
  rw [mj_den_eq, f103_50]
  exact zt_istore_n (Nat.le_of_ble_eq_true rfl) rfl rfl (zt_iconst rfl (zt_istore (Nat.le_of_ble_eq_true rfl) rfl rfl (zt_end rfl)))
set_option maxRecDepth 100000 in
theorem f103_54 : mj_find (mj_P 103).2.2.2.2 54 = [(.iload 4, 2, 0, []), (.aload_n 0, 1, 0, []), (.getfield 28, 3, 0, [10, 2, 3, 416]), (.getfield 65, 3, 0, [3, 0, 0, 327]), (.if_icmp .ge 54, 3, 0, [117]), (.iload 4, 2, 0, []), (.bipush 16, 2, 16, []), (.if_icmp .ge 47, 3, 0, [117]), (.iload_n 3, 1, 0, []), (.aload_n 0, 1, 0, []), (.getfield 28, 3, 0, [10, 2, 3, 416]), (.getfield 68, 3, 0, [3, 3, 3, 339]), (.iload 4, 2, 0, []), (.iaload, 1, 0, []), (.if_icmp .ge 14, 3, 0, [98]), (.aload_n 0, 1, 0, []), (.getfield 28, 3, 0, [10, 2, 3, 416]), (.getfield 71, 3, 0, [3, 2, 3, 334]), (.iload 4, 2, 0, []), (.iaload, 1, 0, []), (.ireturn, 1, 0, [0])] := rfl
set_option maxRecDepth 100000 in
theorem q103_54 (E : mj_E) (d w c : Nat) (hi : Nat → Nat → Int32) (hl : Nat → Nat → Int64) (v1 : Int32) (v2 : Int32) (v3 : Int32) (v4 : Int32) : mj_den mj_P E d 103 54 [Value.ref 1, Value.int v1, Value.int v2, Value.int v3, Value.int v4] [] (mj_hw w c hi hl) = if (hi 22 0) ≤ v4 then mj_den mj_P E d 103 117 [Value.ref 1, Value.int v1, Value.int v2, Value.int v3, Value.int v4] [] (mj_hw w c hi hl) else if (16 : Int32) ≤ v4 then mj_den mj_P E d 103 117 [Value.ref 1, Value.int v1, Value.int v2, Value.int v3, Value.int v4] [] (mj_hw w c hi hl) else if 0 ≤ v4 ∧ (v4).toNatClampNeg < 16 then if (hi 25 ((v4).toNatClampNeg)) ≤ v3 then mj_den mj_P E d 103 98 [Value.ref 1, Value.int v1, Value.int v2, Value.int v3, Value.int v4] [] (mj_hw w c hi hl) else if 0 ≤ v4 ∧ (v4).toNatClampNeg < 16 then some (some (Value.int (hi 24 ((v4).toNatClampNeg))), (mj_hw w c hi hl)) else none else none := by
  rw [mj_den_eq, f103_54]
  exact zt_iload rfl rfl (zt_aload_n rfl rfl (zt_getr (mjkd1 _ _ _ _) (mjhr1_2 w c) rfl (zt_geti (mjkd22 _ _ _ _) rfl rfl (zt_icmp_ge rfl rfl (zt_iload rfl rfl (zt_bipush rfl (zt_icmp_ge rfl rfl (zt_iload_n rfl rfl (zt_aload_n rfl rfl (zt_getr (mjkd1 _ _ _ _) (mjhr1_2 w c) rfl (zt_getr (mjkd22 _ _ _ _) (mjhr22_3 w c) rfl (zt_iload rfl rfl (zt_iald (mjkd25 _ _ _ _) (mjln25 _ _ _ _) rfl rfl (zt_icmp_ge rfl rfl (zt_aload_n rfl rfl (zt_getr (mjkd1 _ _ _ _) (mjhr1_2 w c) rfl (zt_getr (mjkd22 _ _ _ _) (mjhr22_2 w c) rfl (zt_iload rfl rfl (zt_iald (mjkd24 _ _ _ _) (mjln24 _ _ _ _) rfl rfl (zt_ireturn0))))))))))))))))))))
set_option maxRecDepth 100000 in
theorem f103_98 : mj_find (mj_P 103).2.2.2.2 98 = [(.iload_n 3, 1, 0, []), (.aload_n 0, 1, 0, []), (.getfield 28, 3, 0, [10, 2, 3, 416]), (.getfield 68, 3, 0, [3, 3, 3, 339]), (.iload 4, 2, 0, []), (.iaload, 1, 0, []), (.isub, 1, 0, []), (.istore_n 3, 1, 0, []), (.iinc 4 1, 3, 1, []), (.goto (-60), 3, 0, [54])] := rfl
set_option maxRecDepth 100000 in
theorem q103_98 (E : mj_E) (d w c : Nat) (hi : Nat → Nat → Int32) (hl : Nat → Nat → Int64) (v1 : Int32) (v2 : Int32) (v3 : Int32) (v4 : Int32) : mj_den mj_P E d 103 98 [Value.ref 1, Value.int v1, Value.int v2, Value.int v3, Value.int v4] [] (mj_hw w c hi hl) = if 0 ≤ v4 ∧ (v4).toNatClampNeg < 16 then mj_den mj_P E d 103 54 [Value.ref 1, Value.int v1, Value.int v2, Value.int (v3 - (hi 25 ((v4).toNatClampNeg))), Value.int (v4 + (1 : Int32))] [] (mj_hw w c hi hl) else none := by
  rw [mj_den_eq, f103_98]
  exact zt_iload_n rfl rfl (zt_aload_n rfl rfl (zt_getr (mjkd1 _ _ _ _) (mjhr1_2 w c) rfl (zt_getr (mjkd22 _ _ _ _) (mjhr22_3 w c) rfl (zt_iload rfl rfl (zt_iald (mjkd25 _ _ _ _) (mjln25 _ _ _ _) rfl rfl (zt_isub rfl (zt_istore_n (Nat.le_of_ble_eq_true rfl) rfl rfl (zt_iinc rfl (Nat.le_of_ble_eq_true rfl) rfl rfl (zt_goto rfl)))))))))
set_option maxRecDepth 100000 in
theorem f103_117 : mj_find (mj_P 103).2.2.2.2 117 = [(.iconst 0, 1, 0, []), (.ireturn, 1, 0, [0])] := rfl
set_option maxRecDepth 100000 in
theorem q103_117 (E : mj_E) (d w c : Nat) (hi : Nat → Nat → Int32) (hl : Nat → Nat → Int64) (v1 : Int32) (v2 : Int32) (v3 : Int32) (v4 : Int32) : mj_den mj_P E d 103 117 [Value.ref 1, Value.int v1, Value.int v2, Value.int v3, Value.int v4] [] (mj_hw w c hi hl) = some (some (Value.int (0 : Int32)), (mj_hw w c hi hl)) := by
  rw [mj_den_eq, f103_117]
  exact zt_iconst rfl (zt_ireturn0)
set_option maxRecDepth 100000 in
theorem f104_0 : mj_find (mj_P 104).2.2.2.2 0 = [(.iconst 0, 1, 0, []), (.istore_n 2, 1, 0, []), (.iconst 0, 1, 0, []), (.istore_n 3, 1, 0, [])] := rfl
set_option maxRecDepth 100000 in
theorem q104_0 (E : mj_E) (d w c : Nat) (hi : Nat → Nat → Int32) (hl : Nat → Nat → Int64) (v1 : Int32) : mj_den mj_P E d 104 0 [Value.ref 1, Value.int v1, Value.float 0, Value.float 0] [] (mj_hw w c hi hl) = mj_den mj_P E d 104 4 [Value.ref 1, Value.int v1, Value.int (0 : Int32), Value.int (0 : Int32)] [] (mj_hw w c hi hl) := by
  rw [mj_den_eq, f104_0]
  exact zt_iconst rfl (zt_istore_n (Nat.le_of_ble_eq_true rfl) rfl rfl (zt_iconst rfl (zt_istore_n (Nat.le_of_ble_eq_true rfl) rfl rfl (zt_end rfl))))
set_option maxRecDepth 100000 in
theorem f104_4 : mj_find (mj_P 104).2.2.2.2 4 = [(.iload_n 3, 1, 0, []), (.aload_n 0, 1, 0, []), (.getfield 32, 3, 0, [10, 3, 3, 418]), (.getfield 65, 3, 0, [3, 0, 0, 327]), (.if_icmp .ge 45, 3, 0, [57]), (.iload_n 3, 1, 0, []), (.bipush 16, 2, 16, []), (.if_icmp .ge 39, 3, 0, [57]), (.iload_n 1, 1, 0, []), (.aload_n 0, 1, 0, []), (.getfield 32, 3, 0, [10, 3, 3, 418]), (.getfield 71, 3, 0, [3, 2, 3, 334]), (.iload_n 3, 1, 0, []), (.iaload, 1, 0, []), (.invokestatic 74, 3, 0, [6, 148, 0, 2, 1, 802, 758, 143, 759])] := rfl
set_option maxRecDepth 100000 in
theorem q104_4 (E : mj_E) (d w c : Nat) (hi : Nat → Nat → Int32) (hl : Nat → Nat → Int64) (v1 : Int32) (v2 : Int32) (v3 : Int32) : mj_den mj_P E d 104 4 [Value.ref 1, Value.int v1, Value.int v2, Value.int v3] [] (mj_hw w c hi hl) = if (hi 26 0) ≤ v3 then mj_den mj_P E d 104 57 [Value.ref 1, Value.int v1, Value.int v2, Value.int v3] [] (mj_hw w c hi hl) else if (16 : Int32) ≤ v3 then mj_den mj_P E d 104 57 [Value.ref 1, Value.int v1, Value.int v2, Value.int v3] [] (mj_hw w c hi hl) else if 0 ≤ v3 ∧ (v3).toNatClampNeg < 16 then mj_bi (mj_dc mj_P E d 148 [Value.int v1, Value.int (hi 28 ((v3).toNatClampNeg))] (mj_hw w c hi hl)) (fun x1 h1 => mj_den mj_P E d 104 34 [Value.ref 1, Value.int v1, Value.int v2, Value.int v3] [Value.int x1] h1) else none := by
  rw [mj_den_eq, f104_4]
  exact zt_iload_n rfl rfl (zt_aload_n rfl rfl (zt_getr (mjkd1 _ _ _ _) (mjhr1_3 w c) rfl (zt_geti (mjkd26 _ _ _ _) rfl rfl (zt_icmp_ge rfl rfl (zt_iload_n rfl rfl (zt_bipush rfl (zt_icmp_ge rfl rfl (zt_iload_n rfl rfl (zt_aload_n rfl rfl (zt_getr (mjkd1 _ _ _ _) (mjhr1_3 w c) rfl (zt_getr (mjkd26 _ _ _ _) (mjhr26_2 w c) rfl (zt_iload_n rfl rfl (zt_iald (mjkd28 _ _ _ _) (mjln28 _ _ _ _) rfl rfl (zt_call6_1 (Nat.le_of_ble_eq_true rfl) rfl (Nat.le_of_ble_eq_true rfl) rfl rfl))))))))))))))
set_option maxRecDepth 100000 in
theorem f104_34 : mj_find (mj_P 104).2.2.2.2 34 = [(.ifCond .eq 17, 3, 0, [51]), (.iload_n 2, 1, 0, []), (.iconst 1, 1, 1, []), (.aload_n 0, 1, 0, []), (.getfield 32, 3, 0, [10, 3, 3, 418]), (.getfield 68, 3, 0, [3, 3, 3, 339]), (.iload_n 3, 1, 0, []), (.iaload, 1, 0, []), (.ishl, 1, 0, []), (.ior, 1, 0, []), (.istore_n 2, 1, 0, [])] := rfl
set_option maxRecDepth 100000 in
theorem q104_34 (E : mj_E) (d w c : Nat) (hi : Nat → Nat → Int32) (hl : Nat → Nat → Int64) (v1 : Int32) (v2 : Int32) (v3 : Int32) (s0 : Int32) : mj_den mj_P E d 104 34 [Value.ref 1, Value.int v1, Value.int v2, Value.int v3] [Value.int s0] (mj_hw w c hi hl) = if s0 = 0 then mj_den mj_P E d 104 51 [Value.ref 1, Value.int v1, Value.int v2, Value.int v3] [] (mj_hw w c hi hl) else if 0 ≤ v3 ∧ (v3).toNatClampNeg < 16 then mj_den mj_P E d 104 51 [Value.ref 1, Value.int v1, Value.int (v2 ||| ((1 : Int32) <<< ((hi 29 ((v3).toNatClampNeg)) &&& 31))), Value.int v3] [] (mj_hw w c hi hl) else none := by
  rw [mj_den_eq, f104_34]
  exact zt_if_eq rfl rfl (zt_iload_n rfl rfl (zt_iconst rfl (zt_aload_n rfl rfl (zt_getr (mjkd1 _ _ _ _) (mjhr1_3 w c) rfl (zt_getr (mjkd26 _ _ _ _) (mjhr26_3 w c) rfl (zt_iload_n rfl rfl (zt_iald (mjkd29 _ _ _ _) (mjln29 _ _ _ _) rfl rfl (zt_ishl rfl (zt_ior rfl (zt_istore_n (Nat.le_of_ble_eq_true rfl) rfl rfl (zt_end rfl)))))))))))
set_option maxRecDepth 100000 in
theorem f104_51 : mj_find (mj_P 104).2.2.2.2 51 = [(.iinc 3 1, 3, 1, []), (.goto (-50), 3, 0, [4])] := rfl
set_option maxRecDepth 100000 in
theorem q104_51 (E : mj_E) (d w c : Nat) (hi : Nat → Nat → Int32) (hl : Nat → Nat → Int64) (v1 : Int32) (v2 : Int32) (v3 : Int32) : mj_den mj_P E d 104 51 [Value.ref 1, Value.int v1, Value.int v2, Value.int v3] [] (mj_hw w c hi hl) = mj_den mj_P E d 104 4 [Value.ref 1, Value.int v1, Value.int v2, Value.int (v3 + (1 : Int32))] [] (mj_hw w c hi hl) := by
  rw [mj_den_eq, f104_51]
  exact zt_iinc rfl (Nat.le_of_ble_eq_true rfl) rfl rfl (zt_goto rfl)
set_option maxRecDepth 100000 in
theorem f104_57 : mj_find (mj_P 104).2.2.2.2 57 = [(.iload_n 2, 1, 0, []), (.ireturn, 1, 0, [0])] := rfl
set_option maxRecDepth 100000 in
theorem q104_57 (E : mj_E) (d w c : Nat) (hi : Nat → Nat → Int32) (hl : Nat → Nat → Int64) (v1 : Int32) (v2 : Int32) (v3 : Int32) : mj_den mj_P E d 104 57 [Value.ref 1, Value.int v1, Value.int v2, Value.int v3] [] (mj_hw w c hi hl) = some (some (Value.int v2), (mj_hw w c hi hl)) := by
  rw [mj_den_eq, f104_57]
  exact zt_iload_n rfl rfl (zt_ireturn0)
set_option maxRecDepth 100000 in
theorem f105_0 : mj_find (mj_P 105).2.2.2.2 0 = [(.aload_n 0, 1, 0, []), (.getfield 12, 3, 0, [10, 0, 3, 411]), (.aload_n 1, 1, 0, []), (.getfield 12, 3, 0, [10, 0, 3, 411]), (.invokevirtual 78, 3, 0, [0, 83, 7, 1, 0, 1386, 721, 722, 145, 723])] := rfl
set_option maxRecDepth 100000 in
theorem q105_0 (E : mj_E) (d w c : Nat) (hi : Nat → Nat → Int32) (hl : Nat → Nat → Int64) : mj_den mj_P E d 105 0 [Value.ref 46, Value.ref 1] [] (mj_hw w c hi hl) = mj_bv (mj_dc mj_P E d 83 [Value.ref 47, Value.ref 2] (mj_hw w c hi hl)) (fun h1 => mj_den mj_P E d 105 11 [Value.ref 46, Value.ref 1] [] h1) := by
  rw [mj_den_eq, f105_0]
  exact zt_aload_n rfl rfl (zt_getr (mjkd46 _ _ _ _) (mjhr46_0 w c) rfl (zt_aload_n rfl rfl (zt_getr (mjkd1 _ _ _ _) (mjhr1_0 w c) rfl (zt_call0_0 rfl (mjkd47 _ _ _ _) (Nat.le_of_ble_eq_true rfl) rfl rfl))))
set_option maxRecDepth 100000 in
theorem q105_0_1 (E : mj_E) (d w c : Nat) (hi : Nat → Nat → Int32) (hl : Nat → Nat → Int64) : mj_den mj_P E d 105 0 [Value.ref 1, Value.ref 46] [] (mj_hw w c hi hl) = mj_bv (mj_dc mj_P E d 83 [Value.ref 2, Value.ref 47] (mj_hw w c hi hl)) (fun h1 => mj_den mj_P E d 105 11 [Value.ref 1, Value.ref 46] [] h1) := by
  rw [mj_den_eq, f105_0]
  exact zt_aload_n rfl rfl (zt_getr (mjkd1 _ _ _ _) (mjhr1_0 w c) rfl (zt_aload_n rfl rfl (zt_getr (mjkd46 _ _ _ _) (mjhr46_0 w c) rfl (zt_call0_0 rfl (mjkd2 _ _ _ _) (Nat.le_of_ble_eq_true rfl) rfl rfl))))
set_option maxRecDepth 100000 in
theorem f105_11 : mj_find (mj_P 105).2.2.2.2 11 = [(.aload_n 0, 1, 0, []), (.getfield 21, 3, 0, [10, 1, 3, 413]), (.aload_n 1, 1, 0, []), (.getfield 21, 3, 0, [10, 1, 3, 413]), (.invokevirtual 82, 3, 0, [0, 22, 2, 1, 0, 1387, 1041, 1042, 146, 1043])] := rfl
set_option maxRecDepth 100000 in
theorem q105_11 (E : mj_E) (d w c : Nat) (hi : Nat → Nat → Int32) (hl : Nat → Nat → Int64) : mj_den mj_P E d 105 11 [Value.ref 46, Value.ref 1] [] (mj_hw w c hi hl) = mj_bv (mj_dc mj_P E d 22 [Value.ref 58, Value.ref 13] (mj_hw w c hi hl)) (fun h1 => mj_den mj_P E d 105 22 [Value.ref 46, Value.ref 1] [] h1) := by
  rw [mj_den_eq, f105_11]
  exact zt_aload_n rfl rfl (zt_getr (mjkd46 _ _ _ _) (mjhr46_1 w c) rfl (zt_aload_n rfl rfl (zt_getr (mjkd1 _ _ _ _) (mjhr1_1 w c) rfl (zt_call0_0 rfl (mjkd58 _ _ _ _) (Nat.le_of_ble_eq_true rfl) rfl rfl))))
set_option maxRecDepth 100000 in
theorem q105_11_1 (E : mj_E) (d w c : Nat) (hi : Nat → Nat → Int32) (hl : Nat → Nat → Int64) : mj_den mj_P E d 105 11 [Value.ref 1, Value.ref 46] [] (mj_hw w c hi hl) = mj_bv (mj_dc mj_P E d 22 [Value.ref 13, Value.ref 58] (mj_hw w c hi hl)) (fun h1 => mj_den mj_P E d 105 22 [Value.ref 1, Value.ref 46] [] h1) := by
  rw [mj_den_eq, f105_11]
  exact zt_aload_n rfl rfl (zt_getr (mjkd1 _ _ _ _) (mjhr1_1 w c) rfl (zt_aload_n rfl rfl (zt_getr (mjkd46 _ _ _ _) (mjhr46_1 w c) rfl (zt_call0_0 rfl (mjkd13 _ _ _ _) (Nat.le_of_ble_eq_true rfl) rfl rfl))))
set_option maxRecDepth 100000 in
theorem f105_22 : mj_find (mj_P 105).2.2.2.2 22 = [(.aload_n 0, 1, 0, []), (.getfield 28, 3, 0, [10, 2, 3, 416]), (.aload_n 1, 1, 0, []), (.getfield 28, 3, 0, [10, 2, 3, 416]), (.invokevirtual 85, 3, 0, [0, 25, 3, 1, 0, 1388, 1050, 1051, 147, 1052])] := rfl
set_option maxRecDepth 100000 in
theorem q105_22 (E : mj_E) (d w c : Nat) (hi : Nat → Nat → Int32) (hl : Nat → Nat → Int64) : mj_den mj_P E d 105 22 [Value.ref 46, Value.ref 1] [] (mj_hw w c hi hl) = mj_bv (mj_dc mj_P E d 25 [Value.ref 67, Value.ref 22] (mj_hw w c hi hl)) (fun h1 => mj_den mj_P E d 105 33 [Value.ref 46, Value.ref 1] [] h1) := by
  rw [mj_den_eq, f105_22]
  exact zt_aload_n rfl rfl (zt_getr (mjkd46 _ _ _ _) (mjhr46_2 w c) rfl (zt_aload_n rfl rfl (zt_getr (mjkd1 _ _ _ _) (mjhr1_2 w c) rfl (zt_call0_0 rfl (mjkd67 _ _ _ _) (Nat.le_of_ble_eq_true rfl) rfl rfl))))
set_option maxRecDepth 100000 in
theorem q105_22_1 (E : mj_E) (d w c : Nat) (hi : Nat → Nat → Int32) (hl : Nat → Nat → Int64) : mj_den mj_P E d 105 22 [Value.ref 1, Value.ref 46] [] (mj_hw w c hi hl) = mj_bv (mj_dc mj_P E d 25 [Value.ref 22, Value.ref 67] (mj_hw w c hi hl)) (fun h1 => mj_den mj_P E d 105 33 [Value.ref 1, Value.ref 46] [] h1) := by
  rw [mj_den_eq, f105_22]
  exact zt_aload_n rfl rfl (zt_getr (mjkd1 _ _ _ _) (mjhr1_2 w c) rfl (zt_aload_n rfl rfl (zt_getr (mjkd46 _ _ _ _) (mjhr46_2 w c) rfl (zt_call0_0 rfl (mjkd22 _ _ _ _) (Nat.le_of_ble_eq_true rfl) rfl rfl))))
set_option maxRecDepth 100000 in
theorem f105_33 : mj_find (mj_P 105).2.2.2.2 33 = [(.aload_n 0, 1, 0, []), (.getfield 32, 3, 0, [10, 3, 3, 418]), (.aload_n 1, 1, 0, []), (.getfield 32, 3, 0, [10, 3, 3, 418]), (.invokevirtual 85, 3, 0, [0, 25, 3, 1, 0, 1388, 1050, 1051, 147, 1052])] := rfl
set_option maxRecDepth 100000 in
theorem q105_33 (E : mj_E) (d w c : Nat) (hi : Nat → Nat → Int32) (hl : Nat → Nat → Int64) : mj_den mj_P E d 105 33 [Value.ref 46, Value.ref 1] [] (mj_hw w c hi hl) = mj_bv (mj_dc mj_P E d 25 [Value.ref 71, Value.ref 26] (mj_hw w c hi hl)) (fun h1 => mj_den mj_P E d 105 44 [Value.ref 46, Value.ref 1] [] h1) := by
  rw [mj_den_eq, f105_33]
  exact zt_aload_n rfl rfl (zt_getr (mjkd46 _ _ _ _) (mjhr46_3 w c) rfl (zt_aload_n rfl rfl (zt_getr (mjkd1 _ _ _ _) (mjhr1_3 w c) rfl (zt_call0_0 rfl (mjkd71 _ _ _ _) (Nat.le_of_ble_eq_true rfl) rfl rfl))))
set_option maxRecDepth 100000 in
theorem q105_33_1 (E : mj_E) (d w c : Nat) (hi : Nat → Nat → Int32) (hl : Nat → Nat → Int64) : mj_den mj_P E d 105 33 [Value.ref 1, Value.ref 46] [] (mj_hw w c hi hl) = mj_bv (mj_dc mj_P E d 25 [Value.ref 26, Value.ref 71] (mj_hw w c hi hl)) (fun h1 => mj_den mj_P E d 105 44 [Value.ref 1, Value.ref 46] [] h1) := by
  rw [mj_den_eq, f105_33]
  exact zt_aload_n rfl rfl (zt_getr (mjkd1 _ _ _ _) (mjhr1_3 w c) rfl (zt_aload_n rfl rfl (zt_getr (mjkd46 _ _ _ _) (mjhr46_3 w c) rfl (zt_call0_0 rfl (mjkd26 _ _ _ _) (Nat.le_of_ble_eq_true rfl) rfl rfl))))
set_option maxRecDepth 100000 in
theorem f105_44 : mj_find (mj_P 105).2.2.2.2 44 = [(.aload_n 0, 1, 0, []), (.getfield 35, 3, 0, [10, 4, 3, 420]), (.aload_n 1, 1, 0, []), (.getfield 35, 3, 0, [10, 4, 3, 420]), (.invokevirtual 85, 3, 0, [0, 25, 3, 1, 0, 1388, 1050, 1051, 147, 1052])] := rfl
set_option maxRecDepth 100000 in
theorem q105_44 (E : mj_E) (d w c : Nat) (hi : Nat → Nat → Int32) (hl : Nat → Nat → Int64) : mj_den mj_P E d 105 44 [Value.ref 46, Value.ref 1] [] (mj_hw w c hi hl) = mj_bv (mj_dc mj_P E d 25 [Value.ref 75, Value.ref 30] (mj_hw w c hi hl)) (fun h1 => mj_den mj_P E d 105 55 [Value.ref 46, Value.ref 1] [] h1) := by
  rw [mj_den_eq, f105_44]
  exact zt_aload_n rfl rfl (zt_getr (mjkd46 _ _ _ _) (mjhr46_4 w c) rfl (zt_aload_n rfl rfl (zt_getr (mjkd1 _ _ _ _) (mjhr1_4 w c) rfl (zt_call0_0 rfl (mjkd75 _ _ _ _) (Nat.le_of_ble_eq_true rfl) rfl rfl))))
set_option maxRecDepth 100000 in
theorem q105_44_1 (E : mj_E) (d w c : Nat) (hi : Nat → Nat → Int32) (hl : Nat → Nat → Int64) : mj_den mj_P E d 105 44 [Value.ref 1, Value.ref 46] [] (mj_hw w c hi hl) = mj_bv (mj_dc mj_P E d 25 [Value.ref 30, Value.ref 75] (mj_hw w c hi hl)) (fun h1 => mj_den mj_P E d 105 55 [Value.ref 1, Value.ref 46] [] h1) := by
  rw [mj_den_eq, f105_44]
  exact zt_aload_n rfl rfl (zt_getr (mjkd1 _ _ _ _) (mjhr1_4 w c) rfl (zt_aload_n rfl rfl (zt_getr (mjkd46 _ _ _ _) (mjhr46_4 w c) rfl (zt_call0_0 rfl (mjkd30 _ _ _ _) (Nat.le_of_ble_eq_true rfl) rfl rfl))))
set_option maxRecDepth 100000 in
theorem f105_55 : mj_find (mj_P 105).2.2.2.2 55 = [(.aload_n 0, 1, 0, []), (.getfield 41, 3, 0, [10, 5, 3, 422]), (.aload_n 1, 1, 0, []), (.getfield 41, 3, 0, [10, 5, 3, 422]), (.invokevirtual 88, 3, 0, [0, 99, 9, 1, 0, 1389, 1390, 1391, 148, 1392])] := rfl
set_option maxRecDepth 100000 in
theorem q105_55 (E : mj_E) (d w c : Nat) (hi : Nat → Nat → Int32) (hl : Nat → Nat → Int64) : mj_den mj_P E d 105 55 [Value.ref 46, Value.ref 1] [] (mj_hw w c hi hl) = mj_bv (mj_dc mj_P E d 99 [Value.ref 79, Value.ref 34] (mj_hw w c hi hl)) (fun h1 => mj_den mj_P E d 105 66 [Value.ref 46, Value.ref 1] [] h1) := by
  rw [mj_den_eq, f105_55]
  exact zt_aload_n rfl rfl (zt_getr (mjkd46 _ _ _ _) (mjhr46_5 w c) rfl (zt_aload_n rfl rfl (zt_getr (mjkd1 _ _ _ _) (mjhr1_5 w c) rfl (zt_call0_0 rfl (mjkd79 _ _ _ _) (Nat.le_of_ble_eq_true rfl) rfl rfl))))
set_option maxRecDepth 100000 in
theorem q105_55_1 (E : mj_E) (d w c : Nat) (hi : Nat → Nat → Int32) (hl : Nat → Nat → Int64) : mj_den mj_P E d 105 55 [Value.ref 1, Value.ref 46] [] (mj_hw w c hi hl) = mj_bv (mj_dc mj_P E d 99 [Value.ref 34, Value.ref 79] (mj_hw w c hi hl)) (fun h1 => mj_den mj_P E d 105 66 [Value.ref 1, Value.ref 46] [] h1) := by
  rw [mj_den_eq, f105_55]
  exact zt_aload_n rfl rfl (zt_getr (mjkd1 _ _ _ _) (mjhr1_5 w c) rfl (zt_aload_n rfl rfl (zt_getr (mjkd46 _ _ _ _) (mjhr46_5 w c) rfl (zt_call0_0 rfl (mjkd34 _ _ _ _) (Nat.le_of_ble_eq_true rfl) rfl rfl))))
set_option maxRecDepth 100000 in
theorem f105_66 : mj_find (mj_P 105).2.2.2.2 66 = [(.aload_n 1, 1, 0, []), (.getfield 45, 3, 0, [10, 6, 3, 424]), (.aload_n 0, 1, 0, []), (.getfield 45, 3, 0, [10, 6, 3, 424]), (.invokestatic 91, 3, 0, [6, 149, 0, 2, 0, 1394, 725, 143, 726])] := rfl
set_option maxRecDepth 100000 in
theorem q105_66 (E : mj_E) (d w c : Nat) (hi : Nat → Nat → Int32) (hl : Nat → Nat → Int64) : mj_den mj_P E d 105 66 [Value.ref 46, Value.ref 1] [] (mj_hw w c hi hl) = mj_bv (mj_dc mj_P E d 149 [Value.ref 42, Value.ref 87] (mj_hw w c hi hl)) (fun h1 => mj_den mj_P E d 105 77 [Value.ref 46, Value.ref 1] [] h1) := by
  rw [mj_den_eq, f105_66]
  exact zt_aload_n rfl rfl (zt_getr (mjkd1 _ _ _ _) (mjhr1_6 w c) rfl (zt_aload_n rfl rfl (zt_getr (mjkd46 _ _ _ _) (mjhr46_6 w c) rfl (zt_call6_0 (Nat.le_of_ble_eq_true rfl) rfl (Nat.le_of_ble_eq_true rfl) rfl rfl))))
set_option maxRecDepth 100000 in
theorem q105_66_1 (E : mj_E) (d w c : Nat) (hi : Nat → Nat → Int32) (hl : Nat → Nat → Int64) : mj_den mj_P E d 105 66 [Value.ref 1, Value.ref 46] [] (mj_hw w c hi hl) = mj_bv (mj_dc mj_P E d 149 [Value.ref 87, Value.ref 42] (mj_hw w c hi hl)) (fun h1 => mj_den mj_P E d 105 77 [Value.ref 1, Value.ref 46] [] h1) := by
  rw [mj_den_eq, f105_66]
  exact zt_aload_n rfl rfl (zt_getr (mjkd46 _ _ _ _) (mjhr46_6 w c) rfl (zt_aload_n rfl rfl (zt_getr (mjkd1 _ _ _ _) (mjhr1_6 w c) rfl (zt_call6_0 (Nat.le_of_ble_eq_true rfl) rfl (Nat.le_of_ble_eq_true rfl) rfl rfl))))
set_option maxRecDepth 100000 in
theorem f105_77 : mj_find (mj_P 105).2.2.2.2 77 = [(.aload_n 1, 1, 0, []), (.getfield 49, 3, 0, [10, 7, 3, 426]), (.aload_n 0, 1, 0, []), (.getfield 49, 3, 0, [10, 7, 3, 426]), (.invokestatic 91, 3, 0, [6, 149, 0, 2, 0, 1394, 725, 143, 726])] := rfl
set_option maxRecDepth 100000 in
theorem q105_77 (E : mj_E) (d w c : Nat) (hi : Nat → Nat → Int32) (hl : Nat → Nat → Int64) : mj_den mj_P E d 105 77 [Value.ref 46, Value.ref 1] [] (mj_hw w c hi hl) = mj_bv (mj_dc mj_P E d 149 [Value.ref 43, Value.ref 88] (mj_hw w c hi hl)) (fun h1 => mj_den mj_P E d 105 88 [Value.ref 46, Value.ref 1] [] h1) := by
  rw [mj_den_eq, f105_77]
  exact zt_aload_n rfl rfl (zt_getr (mjkd1 _ _ _ _) (mjhr1_7 w c) rfl (zt_aload_n rfl rfl (zt_getr (mjkd46 _ _ _ _) (mjhr46_7 w c) rfl (zt_call6_0 (Nat.le_of_ble_eq_true rfl) rfl (Nat.le_of_ble_eq_true rfl) rfl rfl))))
set_option maxRecDepth 100000 in
theorem q105_77_1 (E : mj_E) (d w c : Nat) (hi : Nat → Nat → Int32) (hl : Nat → Nat → Int64) : mj_den mj_P E d 105 77 [Value.ref 1, Value.ref 46] [] (mj_hw w c hi hl) = mj_bv (mj_dc mj_P E d 149 [Value.ref 88, Value.ref 43] (mj_hw w c hi hl)) (fun h1 => mj_den mj_P E d 105 88 [Value.ref 1, Value.ref 46] [] h1) := by
  rw [mj_den_eq, f105_77]
  exact zt_aload_n rfl rfl (zt_getr (mjkd46 _ _ _ _) (mjhr46_7 w c) rfl (zt_aload_n rfl rfl (zt_getr (mjkd1 _ _ _ _) (mjhr1_7 w c) rfl (zt_call6_0 (Nat.le_of_ble_eq_true rfl) rfl (Nat.le_of_ble_eq_true rfl) rfl rfl))))
set_option maxRecDepth 100000 in
theorem f105_88 : mj_find (mj_P 105).2.2.2.2 88 = [(.aload_n 1, 1, 0, []), (.getfield 52, 3, 0, [10, 8, 3, 428]), (.aload_n 0, 1, 0, []), (.getfield 52, 3, 0, [10, 8, 3, 428]), (.invokestatic 91, 3, 0, [6, 149, 0, 2, 0, 1394, 725, 143, 726])] := rfl
set_option maxRecDepth 100000 in
theorem q105_88 (E : mj_E) (d w c : Nat) (hi : Nat → Nat → Int32) (hl : Nat → Nat → Int64) : mj_den mj_P E d 105 88 [Value.ref 46, Value.ref 1] [] (mj_hw w c hi hl) = mj_bv (mj_dc mj_P E d 149 [Value.ref 44, Value.ref 89] (mj_hw w c hi hl)) (fun h1 => mj_den mj_P E d 105 99 [Value.ref 46, Value.ref 1] [] h1) := by
  rw [mj_den_eq, f105_88]
  exact zt_aload_n rfl rfl (zt_getr (mjkd1 _ _ _ _) (mjhr1_8 w c) rfl (zt_aload_n rfl rfl (zt_getr (mjkd46 _ _ _ _) (mjhr46_8 w c) rfl (zt_call6_0 (Nat.le_of_ble_eq_true rfl) rfl (Nat.le_of_ble_eq_true rfl) rfl rfl))))
set_option maxRecDepth 100000 in
theorem q105_88_1 (E : mj_E) (d w c : Nat) (hi : Nat → Nat → Int32) (hl : Nat → Nat → Int64) : mj_den mj_P E d 105 88 [Value.ref 1, Value.ref 46] [] (mj_hw w c hi hl) = mj_bv (mj_dc mj_P E d 149 [Value.ref 89, Value.ref 44] (mj_hw w c hi hl)) (fun h1 => mj_den mj_P E d 105 99 [Value.ref 1, Value.ref 46] [] h1) := by
  rw [mj_den_eq, f105_88]
  exact zt_aload_n rfl rfl (zt_getr (mjkd46 _ _ _ _) (mjhr46_8 w c) rfl (zt_aload_n rfl rfl (zt_getr (mjkd1 _ _ _ _) (mjhr1_8 w c) rfl (zt_call6_0 (Nat.le_of_ble_eq_true rfl) rfl (Nat.le_of_ble_eq_true rfl) rfl rfl))))
set_option maxRecDepth 100000 in
theorem f105_99 : mj_find (mj_P 105).2.2.2.2 99 = [(.aload_n 1, 1, 0, []), (.getfield 55, 3, 0, [10, 9, 3, 430]), (.aload_n 0, 1, 0, []), (.getfield 55, 3, 0, [10, 9, 3, 430]), (.invokestatic 91, 3, 0, [6, 149, 0, 2, 0, 1394, 725, 143, 726])] := rfl
set_option maxRecDepth 100000 in
theorem q105_99 (E : mj_E) (d w c : Nat) (hi : Nat → Nat → Int32) (hl : Nat → Nat → Int64) : mj_den mj_P E d 105 99 [Value.ref 46, Value.ref 1] [] (mj_hw w c hi hl) = mj_bv (mj_dc mj_P E d 149 [Value.ref 45, Value.ref 90] (mj_hw w c hi hl)) (fun h1 => mj_den mj_P E d 105 110 [Value.ref 46, Value.ref 1] [] h1) := by
  rw [mj_den_eq, f105_99]
  exact zt_aload_n rfl rfl (zt_getr (mjkd1 _ _ _ _) (mjhr1_9 w c) rfl (zt_aload_n rfl rfl (zt_getr (mjkd46 _ _ _ _) (mjhr46_9 w c) rfl (zt_call6_0 (Nat.le_of_ble_eq_true rfl) rfl (Nat.le_of_ble_eq_true rfl) rfl rfl))))
set_option maxRecDepth 100000 in
theorem q105_99_1 (E : mj_E) (d w c : Nat) (hi : Nat → Nat → Int32) (hl : Nat → Nat → Int64) : mj_den mj_P E d 105 99 [Value.ref 1, Value.ref 46] [] (mj_hw w c hi hl) = mj_bv (mj_dc mj_P E d 149 [Value.ref 90, Value.ref 45] (mj_hw w c hi hl)) (fun h1 => mj_den mj_P E d 105 110 [Value.ref 1, Value.ref 46] [] h1) := by
  rw [mj_den_eq, f105_99]
  exact zt_aload_n rfl rfl (zt_getr (mjkd46 _ _ _ _) (mjhr46_9 w c) rfl (zt_aload_n rfl rfl (zt_getr (mjkd1 _ _ _ _) (mjhr1_9 w c) rfl (zt_call6_0 (Nat.le_of_ble_eq_true rfl) rfl (Nat.le_of_ble_eq_true rfl) rfl rfl))))
set_option maxRecDepth 100000 in
theorem f105_110 : mj_find (mj_P 105).2.2.2.2 110 = [(.return_, 1, 0, [])] := rfl
set_option maxRecDepth 100000 in
theorem q105_110 (E : mj_E) (d w c : Nat) (hi : Nat → Nat → Int32) (hl : Nat → Nat → Int64) : mj_den mj_P E d 105 110 [Value.ref 46, Value.ref 1] [] (mj_hw w c hi hl) = some (none, (mj_hw w c hi hl)) := by
  rw [mj_den_eq, f105_110]
  exact zt_return
set_option maxRecDepth 100000 in
theorem q105_110_1 (E : mj_E) (d w c : Nat) (hi : Nat → Nat → Int32) (hl : Nat → Nat → Int64) : mj_den mj_P E d 105 110 [Value.ref 1, Value.ref 46] [] (mj_hw w c hi hl) = some (none, (mj_hw w c hi hl)) := by
  rw [mj_den_eq, f105_110]
  exact zt_return
set_option maxRecDepth 100000 in
theorem f107_0 : mj_find (mj_P 107).2.2.2.2 0 = [(.aload_n 0, 1, 0, []), (.getfield 12, 3, 0, [11, 0, 3, 640]), (.getfield 72, 3, 0, [10, 0, 3, 412]), (.getfield 75, 3, 0, [7, 5, 0, 202]), (.istore_n 2, 1, 0, []), (.aload_n 0, 1, 0, []), (.getfield 12, 3, 0, [11, 0, 3, 640]), (.getfield 72, 3, 0, [10, 0, 3, 412]), (.iload_n 1, 1, 0, []), (.putfield 75, 3, 0, [7, 5, 0, 202]), (.aload_n 0, 1, 0, []), (.getfield 26, 3, 0, [11, 3, 3, 643]), (.invokevirtual 79, 3, 0, [0, 45, 5, 0, 0, 675, 676, 677, 149, 678])] := rfl
set_option maxRecDepth 100000 in
theorem q107_0 (E : mj_E) (d w c : Nat) (hi : Nat → Nat → Int32) (hl : Nat → Nat → Int64) (v1 : Int32) : mj_den mj_P E d 107 0 [Value.ref 0, Value.int v1, Value.float 0] [] (mj_hw w c hi hl) = mj_bv (mj_dc mj_P E d 45 [Value.ref 91] (mj_hw w c (mj_u hi 2 5 v1) hl)) (fun h1 => mj_den mj_P E d 107 29 [Value.ref 0, Value.int v1, Value.int (hi 2 5)] [] h1) := by
  rw [mj_den_eq, f107_0]
  exact zt_aload_n rfl rfl (zt_getr (mjkd0 _ _ _ _) (mjhr0_0 w c) rfl (zt_getr (mjkd1 _ _ _ _) (mjhr1_0 w c) rfl (zt_geti (mjkd2 _ _ _ _) rfl rfl (zt_istore_n (Nat.le_of_ble_eq_true rfl) rfl rfl (zt_aload_n rfl rfl (zt_getr (mjkd0 _ _ _ _) (mjhr0_0 w c) rfl (zt_getr (mjkd1 _ _ _ _) (mjhr1_0 w c) rfl (zt_iload_n rfl rfl (zt_puti (mjkd2 _ _ _ _) rfl rfl (zt_aload_n rfl rfl (zt_getr (mjkd0 _ _ _ _) (mjhr0_3 w c) rfl (zt_call0_0 rfl (mjkd91 _ _ _ _) (Nat.le_of_ble_eq_true rfl) rfl rfl))))))))))))
set_option maxRecDepth 100000 in
theorem f107_29 : mj_find (mj_P 107).2.2.2.2 29 = [(.iload_n 2, 1, 0, []), (.ireturn, 1, 0, [0])] := rfl
set_option maxRecDepth 100000 in
theorem q107_29 (E : mj_E) (d w c : Nat) (hi : Nat → Nat → Int32) (hl : Nat → Nat → Int64) (v1 : Int32) (v2 : Int32) : mj_den mj_P E d 107 29 [Value.ref 0, Value.int v1, Value.int v2] [] (mj_hw w c hi hl) = some (some (Value.int v2), (mj_hw w c hi hl)) := by
  rw [mj_den_eq, f107_29]
  exact zt_iload_n rfl rfl (zt_ireturn0)
set_option maxRecDepth 100000 in
theorem f108_0 : mj_find (mj_P 108).2.2.2.2 0 = [(.iload_n 1, 1, 0, []), (.bipush 99, 2, 99, []), (.invokestatic 82, 3, 0, [1, 147, 0, 2, 1, 683, 684, 143, 685])] := rfl
set_option maxRecDepth 100000 in
theorem q108_0 (E : mj_E) (d w c : Nat) (hi : Nat → Nat → Int32) (hl : Nat → Nat → Int64) (v1 : Int32) (v2 : Int32) (v3 : Int32) (v4 : Int32) : mj_den mj_P E d 108 0 [Value.ref 0, Value.int v1, Value.int v2, Value.int v3, Value.int v4, Value.float 0] [] (mj_hw w c hi hl) = mj_bi (mj_dc mj_P E d 147 [Value.int v1, Value.int (99 : Int32)] (mj_hw w c hi hl)) (fun x1 h1 => mj_den mj_P E d 108 6 [Value.ref 0, Value.int v1, Value.int v2, Value.int v3, Value.int v4, Value.float 0] [Value.int x1] h1) := by
  rw [mj_den_eq, f108_0]
  exact zt_iload_n rfl rfl (zt_bipush rfl (zt_call1_1 (Nat.le_of_ble_eq_true rfl) rfl (Nat.le_of_ble_eq_true rfl) rfl rfl))
set_option maxRecDepth 100000 in
theorem f108_6 : mj_find (mj_P 108).2.2.2.2 6 = [(.ifCond .eq 26, 3, 0, [32]), (.iload_n 2, 1, 0, []), (.bipush 9, 2, 9, []), (.invokestatic 82, 3, 0, [1, 147, 0, 2, 1, 683, 684, 143, 685])] := rfl
set_option maxRecDepth 100000 in
theorem q108_6 (E : mj_E) (d w c : Nat) (hi : Nat → Nat → Int32) (hl : Nat → Nat → Int64) (v1 : Int32) (v2 : Int32) (v3 : Int32) (v4 : Int32) (s0 : Int32) : mj_den mj_P E d 108 6 [Value.ref 0, Value.int v1, Value.int v2, Value.int v3, Value.int v4, Value.float 0] [Value.int s0] (mj_hw w c hi hl) = if s0 = 0 then mj_den mj_P E d 108 32 [Value.ref 0, Value.int v1, Value.int v2, Value.int v3, Value.int v4, Value.float 0] [] (mj_hw w c hi hl) else mj_bi (mj_dc mj_P E d 147 [Value.int v2, Value.int (9 : Int32)] (mj_hw w c hi hl)) (fun x1 h1 => mj_den mj_P E d 108 15 [Value.ref 0, Value.int v1, Value.int v2, Value.int v3, Value.int v4, Value.float 0] [Value.int x1] h1) := by
  rw [mj_den_eq, f108_6]
  exact zt_if_eq rfl rfl (zt_iload_n rfl rfl (zt_bipush rfl (zt_call1_1 (Nat.le_of_ble_eq_true rfl) rfl (Nat.le_of_ble_eq_true rfl) rfl rfl)))
set_option maxRecDepth 100000 in
theorem f108_15 : mj_find (mj_P 108).2.2.2.2 15 = [(.ifCond .eq 17, 3, 0, [32]), (.iload_n 3, 1, 0, []), (.sipush 9999, 3, 9999, []), (.invokestatic 82, 3, 0, [1, 147, 0, 2, 1, 683, 684, 143, 685])] := rfl
set_option maxRecDepth 100000 in
theorem q108_15 (E : mj_E) (d w c : Nat) (hi : Nat → Nat → Int32) (hl : Nat → Nat → Int64) (v1 : Int32) (v2 : Int32) (v3 : Int32) (v4 : Int32) (s0 : Int32) : mj_den mj_P E d 108 15 [Value.ref 0, Value.int v1, Value.int v2, Value.int v3, Value.int v4, Value.float 0] [Value.int s0] (mj_hw w c hi hl) = if s0 = 0 then mj_den mj_P E d 108 32 [Value.ref 0, Value.int v1, Value.int v2, Value.int v3, Value.int v4, Value.float 0] [] (mj_hw w c hi hl) else mj_bi (mj_dc mj_P E d 147 [Value.int v3, Value.int (9999 : Int32)] (mj_hw w c hi hl)) (fun x1 h1 => mj_den mj_P E d 108 25 [Value.ref 0, Value.int v1, Value.int v2, Value.int v3, Value.int v4, Value.float 0] [Value.int x1] h1) := by
  rw [mj_den_eq, f108_15]
  exact zt_if_eq rfl rfl (zt_iload_n rfl rfl (zt_sipush rfl (zt_call1_1 (Nat.le_of_ble_eq_true rfl) rfl (Nat.le_of_ble_eq_true rfl) rfl rfl)))
set_option maxRecDepth 100000 in
theorem f108_25 : mj_find (mj_P 108).2.2.2.2 25 = [(.ifCond .eq 7, 3, 0, [32]), (.iconst 1, 1, 1, []), (.goto 4, 3, 0, [33])] := rfl
set_option maxRecDepth 100000 in
theorem q108_25 (E : mj_E) (d w c : Nat) (hi : Nat → Nat → Int32) (hl : Nat → Nat → Int64) (v1 : Int32) (v2 : Int32) (v3 : Int32) (v4 : Int32) (s0 : Int32) : mj_den mj_P E d 108 25 [Value.ref 0, Value.int v1, Value.int v2, Value.int v3, Value.int v4, Value.float 0] [Value.int s0] (mj_hw w c hi hl) = if s0 = 0 then mj_den mj_P E d 108 32 [Value.ref 0, Value.int v1, Value.int v2, Value.int v3, Value.int v4, Value.float 0] [] (mj_hw w c hi hl) else mj_den mj_P E d 108 33 [Value.ref 0, Value.int v1, Value.int v2, Value.int v3, Value.int v4, Value.float 0] [Value.int (1 : Int32)] (mj_hw w c hi hl) := by
  rw [mj_den_eq, f108_25]
  exact zt_if_eq rfl rfl (zt_iconst rfl (zt_goto rfl))
set_option maxRecDepth 100000 in
theorem f108_32 : mj_find (mj_P 108).2.2.2.2 32 = [(.iconst 0, 1, 0, [])] := rfl
set_option maxRecDepth 100000 in
theorem q108_32 (E : mj_E) (d w c : Nat) (hi : Nat → Nat → Int32) (hl : Nat → Nat → Int64) (v1 : Int32) (v2 : Int32) (v3 : Int32) (v4 : Int32) : mj_den mj_P E d 108 32 [Value.ref 0, Value.int v1, Value.int v2, Value.int v3, Value.int v4, Value.float 0] [] (mj_hw w c hi hl) = mj_den mj_P E d 108 33 [Value.ref 0, Value.int v1, Value.int v2, Value.int v3, Value.int v4, Value.float 0] [Value.int (0 : Int32)] (mj_hw w c hi hl) := by
  rw [mj_den_eq, f108_32]
  exact zt_iconst rfl (zt_end rfl)
set_option maxRecDepth 100000 in
theorem f108_33 : mj_find (mj_P 108).2.2.2.2 33 = [(.istore 5, 2, 0, []), (.iload 5, 2, 0, []), (.ifCond .eq 18, 3, 0, [55]), (.aload_n 0, 1, 0, []), (.getfield 12, 3, 0, [11, 0, 3, 640]), (.getfield 72, 3, 0, [10, 0, 3, 412]), (.getfield 86, 3, 0, [7, 0, 0, 187]), (.bipush 10, 2, 10, []), (.if_icmp .lt 5, 3, 0, [57])] := rfl
set_option maxRecDepth 100000 in
theorem q108_33 (E : mj_E) (d w c : Nat) (hi : Nat → Nat → Int32) (hl : Nat → Nat → Int64) (v1 : Int32) (v2 : Int32) (v3 : Int32) (v4 : Int32) (s0 : Int32) : mj_den mj_P E d 108 33 [Value.ref 0, Value.int v1, Value.int v2, Value.int v3, Value.int v4, Value.float 0] [Value.int s0] (mj_hw w c hi hl) = if s0 = 0 then mj_den mj_P E d 108 55 [Value.ref 0, Value.int v1, Value.int v2, Value.int v3, Value.int v4, Value.int s0] [] (mj_hw w c hi hl) else if (hi 2 0) < (10 : Int32) then mj_den mj_P E d 108 57 [Value.ref 0, Value.int v1, Value.int v2, Value.int v3, Value.int v4, Value.int s0] [] (mj_hw w c hi hl) else mj_den mj_P E d 108 55 [Value.ref 0, Value.int v1, Value.int v2, Value.int v3, Value.int v4, Value.int s0] [] (mj_hw w c hi hl) := by
  rw [mj_den_eq, f108_33]
  exact zt_istore (Nat.le_of_ble_eq_true rfl) rfl rfl (zt_iload rfl rfl (zt_if_eq rfl rfl (zt_aload_n rfl rfl (zt_getr (mjkd0 _ _ _ _) (mjhr0_0 w c) rfl (zt_getr (mjkd1 _ _ _ _) (mjhr1_0 w c) rfl (zt_geti (mjkd2 _ _ _ _) rfl rfl (zt_bipush rfl (zt_icmp_lt rfl rfl (zt_end rfl)))))))))
set_option maxRecDepth 100000 in
theorem f108_55 : mj_find (mj_P 108).2.2.2.2 55 = [(.iconst (-1), 1, (-1), []), (.ireturn, 1, 0, [0])] := rfl
set_option maxRecDepth 100000 in
theorem q108_55 (E : mj_E) (d w c : Nat) (hi : Nat → Nat → Int32) (hl : Nat → Nat → Int64) (v1 : Int32) (v2 : Int32) (v3 : Int32) (v4 : Int32) (v5 : Int32) : mj_den mj_P E d 108 55 [Value.ref 0, Value.int v1, Value.int v2, Value.int v3, Value.int v4, Value.int v5] [] (mj_hw w c hi hl) = some (some (Value.int (-1 : Int32)), (mj_hw w c hi hl)) := by
  rw [mj_den_eq, f108_55]
  exact zt_iconst rfl (zt_ireturn0)
set_option maxRecDepth 100000 in
theorem f108_57 : mj_find (mj_P 108).2.2.2.2 57 = [(.aload_n 0, 1, 0, []), (.getfield 26, 3, 0, [11, 3, 3, 643]), (.invokevirtual 79, 3, 0, [0, 45, 5, 0, 0, 675, 676, 677, 149, 678])] := rfl
set_option maxRecDepth 100000 in
theorem q108_57 (E : mj_E) (d w c : Nat) (hi : Nat → Nat → Int32) (hl : Nat → Nat → Int64) (v1 : Int32) (v2 : Int32) (v3 : Int32) (v4 : Int32) (v5 : Int32) : mj_den mj_P E d 108 57 [Value.ref 0, Value.int v1, Value.int v2, Value.int v3, Value.int v4, Value.int v5] [] (mj_hw w c hi hl) = mj_bv (mj_dc mj_P E d 45 [Value.ref 91] (mj_hw w c hi hl)) (fun h1 => mj_den mj_P E d 108 64 [Value.ref 0, Value.int v1, Value.int v2, Value.int v3, Value.int v4, Value.int v5] [] h1) := by
  rw [mj_den_eq, f108_57]
  exact zt_aload_n rfl rfl (zt_getr (mjkd0 _ _ _ _) (mjhr0_3 w c) rfl (zt_call0_0 rfl (mjkd91 _ _ _ _) (Nat.le_of_ble_eq_true rfl) rfl rfl))
set_option maxRecDepth 100000 in
theorem f108_64 : mj_find (mj_P 108).2.2.2.2 64 = [(.aload_n 0, 1, 0, []), (.getfield 12, 3, 0, [11, 0, 3, 640]), (.getfield 72, 3, 0, [10, 0, 3, 412]), (.iload_n 1, 1, 0, []), (.iload_n 2, 1, 0, []), (.iload_n 3, 1, 0, []), (.iload 4, 2, 0, []), (.ifCond .eq 7, 3, 0, [83]), (.iconst 1, 1, 1, []), (.goto 4, 3, 0, [84])] := rfl
set_option maxRecDepth 100000 in
theorem q108_64 (E : mj_E) (d w c : Nat) (hi : Nat → Nat → Int32) (hl : Nat → Nat → Int64) (v1 : Int32) (v2 : Int32) (v3 : Int32) (v4 : Int32) (v5 : Int32) : mj_den mj_P E d 108 64 [Value.ref 0, Value.int v1, Value.int v2, Value.int v3, Value.int v4, Value.int v5] [] (mj_hw w c hi hl) = if v4 = 0 then mj_den mj_P E d 108 83 [Value.ref 0, Value.int v1, Value.int v2, Value.int v3, Value.int v4, Value.int v5] [Value.int v3, Value.int v2, Value.int v1, Value.ref 2] (mj_hw w c hi hl) else mj_den mj_P E d 108 84 [Value.ref 0, Value.int v1, Value.int v2, Value.int v3, Value.int v4, Value.int v5] [Value.int (1 : Int32), Value.int v3, Value.int v2, Value.int v1, Value.ref 2] (mj_hw w c hi hl) := by
  rw [mj_den_eq, f108_64]
  exact zt_aload_n rfl rfl (zt_getr (mjkd0 _ _ _ _) (mjhr0_0 w c) rfl (zt_getr (mjkd1 _ _ _ _) (mjhr1_0 w c) rfl (zt_iload_n rfl rfl (zt_iload_n rfl rfl (zt_iload_n rfl rfl (zt_iload rfl rfl (zt_if_eq rfl rfl (zt_iconst rfl (zt_goto rfl)))))))))
set_option maxRecDepth 100000 in
theorem f108_83 : mj_find (mj_P 108).2.2.2.2 83 = [(.iconst 0, 1, 0, [])] := rfl
set_option maxRecDepth 100000 in
theorem q108_83 (E : mj_E) (d w c : Nat) (hi : Nat → Nat → Int32) (hl : Nat → Nat → Int64) (v1 : Int32) (v2 : Int32) (v3 : Int32) (v4 : Int32) (v5 : Int32) (s0 : Int32) (s1 : Int32) (s2 : Int32) : mj_den mj_P E d 108 83 [Value.ref 0, Value.int v1, Value.int v2, Value.int v3, Value.int v4, Value.int v5] [Value.int s0, Value.int s1, Value.int s2, Value.ref 2] (mj_hw w c hi hl) = mj_den mj_P E d 108 84 [Value.ref 0, Value.int v1, Value.int v2, Value.int v3, Value.int v4, Value.int v5] [Value.int (0 : Int32), Value.int s0, Value.int s1, Value.int s2, Value.ref 2] (mj_hw w c hi hl) := by
  rw [mj_den_eq, f108_83]
  exact zt_iconst rfl (zt_end rfl)
set_option maxRecDepth 100000 in
theorem f108_84 : mj_find (mj_P 108).2.2.2.2 84 = [(.invokevirtual 89, 3, 0, [0, 72, 7, 4, 1, 686, 687, 688, 145, 689])] := rfl
set_option maxRecDepth 100000 in
theorem q108_84 (E : mj_E) (d w c : Nat) (hi : Nat → Nat → Int32) (hl : Nat → Nat → Int64) (v1 : Int32) (v2 : Int32) (v3 : Int32) (v4 : Int32) (v5 : Int32) (s0 : Int32) (s1 : Int32) (s2 : Int32) (s3 : Int32) : mj_den mj_P E d 108 84 [Value.ref 0, Value.int v1, Value.int v2, Value.int v3, Value.int v4, Value.int v5] [Value.int s0, Value.int s1, Value.int s2, Value.int s3, Value.ref 2] (mj_hw w c hi hl) = mj_bi (mj_dc mj_P E d 72 [Value.ref 2, Value.int s3, Value.int s2, Value.int s1, Value.int s0] (mj_hw w c hi hl)) (fun x1 h1 => mj_den mj_P E d 108 87 [Value.ref 0, Value.int v1, Value.int v2, Value.int v3, Value.int v4, Value.int v5] [Value.int x1] h1) := by
  rw [mj_den_eq, f108_84]
  exact zt_call0_1 rfl (mjkd2 _ _ _ _) (Nat.le_of_ble_eq_true rfl) rfl rfl
set_option maxRecDepth 100000 in
theorem f108_87 : mj_find (mj_P 108).2.2.2.2 87 = [(.ireturn, 1, 0, [0])] := rfl
set_option maxRecDepth 100000 in
theorem q108_87 (E : mj_E) (d w c : Nat) (hi : Nat → Nat → Int32) (hl : Nat → Nat → Int64) (v1 : Int32) (v2 : Int32) (v3 : Int32) (v4 : Int32) (v5 : Int32) (s0 : Int32) : mj_den mj_P E d 108 87 [Value.ref 0, Value.int v1, Value.int v2, Value.int v3, Value.int v4, Value.int v5] [Value.int s0] (mj_hw w c hi hl) = some (some (Value.int s0), (mj_hw w c hi hl)) := by
  rw [mj_den_eq, f108_87]
  exact zt_ireturn0
set_option maxRecDepth 100000 in
theorem f109_0 : mj_find (mj_P 109).2.2.2.2 0 = [(.iload_n 1, 1, 0, []), (.iconst 5, 1, 5, []), (.invokestatic 82, 3, 0, [1, 147, 0, 2, 1, 683, 684, 143, 685])] := rfl
set_option maxRecDepth 100000 in
theorem q109_0 (E : mj_E) (d w c : Nat) (hi : Nat → Nat → Int32) (hl : Nat → Nat → Int64) (v1 : Int32) (v2 : Int32) : mj_den mj_P E d 109 0 [Value.ref 0, Value.int v1, Value.int v2] [] (mj_hw w c hi hl) = mj_bi (mj_dc mj_P E d 147 [Value.int v1, Value.int (5 : Int32)] (mj_hw w c hi hl)) (fun x1 h1 => mj_den mj_P E d 109 5 [Value.ref 0, Value.int v1, Value.int v2] [Value.int x1] h1) := by
  rw [mj_den_eq, f109_0]
  exact zt_iload_n rfl rfl (zt_iconst rfl (zt_call1_1 (Nat.le_of_ble_eq_true rfl) rfl (Nat.le_of_ble_eq_true rfl) rfl rfl))
set_option maxRecDepth 100000 in
theorem f109_5 : mj_find (mj_P 109).2.2.2.2 5 = [(.ifCond .eq 28, 3, 0, [33]), (.iload_n 2, 1, 0, []), (.sipush 999, 3, 999, []), (.invokestatic 82, 3, 0, [1, 147, 0, 2, 1, 683, 684, 143, 685])] := rfl
set_option maxRecDepth 100000 in
theorem q109_5 (E : mj_E) (d w c : Nat) (hi : Nat → Nat → Int32) (hl : Nat → Nat → Int64) (v1 : Int32) (v2 : Int32) (s0 : Int32) : mj_den mj_P E d 109 5 [Value.ref 0, Value.int v1, Value.int v2] [Value.int s0] (mj_hw w c hi hl) = if s0 = 0 then mj_den mj_P E d 109 33 [Value.ref 0, Value.int v1, Value.int v2] [] (mj_hw w c hi hl) else mj_bi (mj_dc mj_P E d 147 [Value.int v2, Value.int (999 : Int32)] (mj_hw w c hi hl)) (fun x1 h1 => mj_den mj_P E d 109 15 [Value.ref 0, Value.int v1, Value.int v2] [Value.int x1] h1) := by
  rw [mj_den_eq, f109_5]
  exact zt_if_eq rfl rfl (zt_iload_n rfl rfl (zt_sipush rfl (zt_call1_1 (Nat.le_of_ble_eq_true rfl) rfl (Nat.le_of_ble_eq_true rfl) rfl rfl)))
set_option maxRecDepth 100000 in
theorem f109_15 : mj_find (mj_P 109).2.2.2.2 15 = [(.ifCond .eq 18, 3, 0, [33]), (.aload_n 0, 1, 0, []), (.getfield 12, 3, 0, [11, 0, 3, 640]), (.getfield 72, 3, 0, [10, 0, 3, 412]), (.getfield 93, 3, 0, [7, 1, 0, 190]), (.bipush 12, 2, 12, []), (.if_icmp .lt 5, 3, 0, [35])] := rfl
set_option maxRecDepth 100000 in
theorem q109_15 (E : mj_E) (d w c : Nat) (hi : Nat → Nat → Int32) (hl : Nat → Nat → Int64) (v1 : Int32) (v2 : Int32) (s0 : Int32) : mj_den mj_P E d 109 15 [Value.ref 0, Value.int v1, Value.int v2] [Value.int s0] (mj_hw w c hi hl) = if s0 = 0 then mj_den mj_P E d 109 33 [Value.ref 0, Value.int v1, Value.int v2] [] (mj_hw w c hi hl) else if (hi 2 1) < (12 : Int32) then mj_den mj_P E d 109 35 [Value.ref 0, Value.int v1, Value.int v2] [] (mj_hw w c hi hl) else mj_den mj_P E d 109 33 [Value.ref 0, Value.int v1, Value.int v2] [] (mj_hw w c hi hl) := by
  rw [mj_den_eq, f109_15]
  exact zt_if_eq rfl rfl (zt_aload_n rfl rfl (zt_getr (mjkd0 _ _ _ _) (mjhr0_0 w c) rfl (zt_getr (mjkd1 _ _ _ _) (mjhr1_0 w c) rfl (zt_geti (mjkd2 _ _ _ _) rfl rfl (zt_bipush rfl (zt_icmp_lt rfl rfl (zt_end rfl)))))))
set_option maxRecDepth 100000 in
theorem f109_33 : mj_find (mj_P 109).2.2.2.2 33 = [(.iconst (-1), 1, (-1), []), (.ireturn, 1, 0, [0])] := rfl
set_option maxRecDepth 100000 in
theorem q109_33 (E : mj_E) (d w c : Nat) (hi : Nat → Nat → Int32) (hl : Nat → Nat → Int64) (v1 : Int32) (v2 : Int32) : mj_den mj_P E d 109 33 [Value.ref 0, Value.int v1, Value.int v2] [] (mj_hw w c hi hl) = some (some (Value.int (-1 : Int32)), (mj_hw w c hi hl)) := by
  rw [mj_den_eq, f109_33]
  exact zt_iconst rfl (zt_ireturn0)
set_option maxRecDepth 100000 in
theorem f109_35 : mj_find (mj_P 109).2.2.2.2 35 = [(.aload_n 0, 1, 0, []), (.getfield 26, 3, 0, [11, 3, 3, 643]), (.invokevirtual 79, 3, 0, [0, 45, 5, 0, 0, 675, 676, 677, 149, 678])] := rfl
set_option maxRecDepth 100000 in
theorem q109_35 (E : mj_E) (d w c : Nat) (hi : Nat → Nat → Int32) (hl : Nat → Nat → Int64) (v1 : Int32) (v2 : Int32) : mj_den mj_P E d 109 35 [Value.ref 0, Value.int v1, Value.int v2] [] (mj_hw w c hi hl) = mj_bv (mj_dc mj_P E d 45 [Value.ref 91] (mj_hw w c hi hl)) (fun h1 => mj_den mj_P E d 109 42 [Value.ref 0, Value.int v1, Value.int v2] [] h1) := by
  rw [mj_den_eq, f109_35]
  exact zt_aload_n rfl rfl (zt_getr (mjkd0 _ _ _ _) (mjhr0_3 w c) rfl (zt_call0_0 rfl (mjkd91 _ _ _ _) (Nat.le_of_ble_eq_true rfl) rfl rfl))
set_option maxRecDepth 100000 in
theorem f109_42 : mj_find (mj_P 109).2.2.2.2 42 = [(.aload_n 0, 1, 0, []), (.getfield 12, 3, 0, [11, 0, 3, 640]), (.getfield 72, 3, 0, [10, 0, 3, 412]), (.iload_n 1, 1, 0, []), (.iload_n 2, 1, 0, []), (.invokevirtual 96, 3, 0, [0, 73, 7, 2, 1, 694, 695, 696, 145, 697])] := rfl
set_option maxRecDepth 100000 in
theorem q109_42 (E : mj_E) (d w c : Nat) (hi : Nat → Nat → Int32) (hl : Nat → Nat → Int64) (v1 : Int32) (v2 : Int32) : mj_den mj_P E d 109 42 [Value.ref 0, Value.int v1, Value.int v2] [] (mj_hw w c hi hl) = mj_bi (mj_dc mj_P E d 73 [Value.ref 2, Value.int v1, Value.int v2] (mj_hw w c hi hl)) (fun x1 h1 => mj_den mj_P E d 109 54 [Value.ref 0, Value.int v1, Value.int v2] [Value.int x1] h1) := by
  rw [mj_den_eq, f109_42]
  exact zt_aload_n rfl rfl (zt_getr (mjkd0 _ _ _ _) (mjhr0_0 w c) rfl (zt_getr (mjkd1 _ _ _ _) (mjhr1_0 w c) rfl (zt_iload_n rfl rfl (zt_iload_n rfl rfl (zt_call0_1 rfl (mjkd2 _ _ _ _) (Nat.le_of_ble_eq_true rfl) rfl rfl)))))
set_option maxRecDepth 100000 in
theorem f109_54 : mj_find (mj_P 109).2.2.2.2 54 = [(.ireturn, 1, 0, [0])] := rfl
set_option maxRecDepth 100000 in
theorem q109_54 (E : mj_E) (d w c : Nat) (hi : Nat → Nat → Int32) (hl : Nat → Nat → Int64) (v1 : Int32) (v2 : Int32) (s0 : Int32) : mj_den mj_P E d 109 54 [Value.ref 0, Value.int v1, Value.int v2] [Value.int s0] (mj_hw w c hi hl) = some (some (Value.int s0), (mj_hw w c hi hl)) := by
  rw [mj_den_eq, f109_54]
  exact zt_ireturn0
set_option maxRecDepth 100000 in
theorem f110_0 : mj_find (mj_P 110).2.2.2.2 0 = [(.aload_n 0, 1, 0, []), (.getfield 12, 3, 0, [11, 0, 3, 640]), (.getfield 72, 3, 0, [10, 0, 3, 412]), (.astore 4, 2, 0, []), (.iload_n 1, 1, 0, []), (.getstatic 100, 3, 0, [0, 702, 0]), (.arraylength, 1, 0, []), (.iconst 1, 1, 1, []), (.isub, 1, 0, []), (.invokestatic 82, 3, 0, [1, 147, 0, 2, 1, 683, 684, 143, 685])] := rfl
set_option maxRecDepth 100000 in
theorem q110_0 (E : mj_E) (d w c : Nat) (hi : Nat → Nat → Int32) (hl : Nat → Nat → Int64) (v1 : Int32) (v2 : Int32) (v3 : Int32) : mj_den mj_P E d 110 0 [Value.ref 0, Value.int v1, Value.int v2, Value.int v3, Value.float 0] [] (mj_hw w c hi hl) = if (E 1).1 ≤ 65536 then mj_bi (mj_dc mj_P E d 147 [Value.int v1, Value.int ((Int32.ofNat (E 1).1) - (1 : Int32))] (mj_hw w c hi hl)) (fun x1 h1 => mj_den mj_P E d 110 19 [Value.ref 0, Value.int v1, Value.int v2, Value.int v3, Value.ref 2] [Value.int x1] h1) else none := by
  rw [mj_den_eq, f110_0]
  exact zt_aload_n rfl rfl (zt_getr (mjkd0 _ _ _ _) (mjhr0_0 w c) rfl (zt_getr (mjkd1 _ _ _ _) (mjhr1_0 w c) rfl (zt_astore (Nat.le_of_ble_eq_true rfl) rfl rfl (zt_iload_n rfl rfl (zt_getstatic0 rfl (zt_alenc (by decide) rfl (zt_iconst rfl (zt_isub rfl (zt_call1_1 (Nat.le_of_ble_eq_true rfl) rfl (Nat.le_of_ble_eq_true rfl) rfl rfl)))))))))
set_option maxRecDepth 100000 in
theorem f110_19 : mj_find (mj_P 110).2.2.2.2 19 = [(.ifCond .eq 15, 3, 0, [34]), (.iload_n 3, 1, 0, []), (.getstatic 100, 3, 0, [0, 702, 0]), (.iload_n 1, 1, 0, []), (.iaload, 1, 0, []), (.invokestatic 82, 3, 0, [1, 147, 0, 2, 1, 683, 684, 143, 685])] := rfl
set_option maxRecDepth 100000 in
theorem q110_19 (E : mj_E) (d w c : Nat) (hi : Nat → Nat → Int32) (hl : Nat → Nat → Int64) (v1 : Int32) (v2 : Int32) (v3 : Int32) (s0 : Int32) : mj_den mj_P E d 110 19 [Value.ref 0, Value.int v1, Value.int v2, Value.int v3, Value.ref 2] [Value.int s0] (mj_hw w c hi hl) = if s0 = 0 then mj_den mj_P E d 110 34 [Value.ref 0, Value.int v1, Value.int v2, Value.int v3, Value.ref 2] [] (mj_hw w c hi hl) else if (E 1).1 ≤ 65536 then (if 0 ≤ v1 ∧ (v1).toNatClampNeg < (E 1).1 then mj_bi (mj_dc mj_P E d 147 [Value.int v3, Value.int ((E 1).2 (v1).toNatClampNeg)] (mj_hw w c hi hl)) (fun x1 h1 => mj_den mj_P E d 110 31 [Value.ref 0, Value.int v1, Value.int v2, Value.int v3, Value.ref 2] [Value.int x1] h1) else none) else none := by
  rw [mj_den_eq, f110_19]
  exact zt_if_eq rfl rfl (zt_iload_n rfl rfl (zt_getstatic0 rfl (zt_iload_n rfl rfl (zt_ialc (Nat.le_of_ble_eq_true rfl) rfl (zt_call1_1 (Nat.le_of_ble_eq_true rfl) rfl (Nat.le_of_ble_eq_true rfl) rfl rfl)))))
set_option maxRecDepth 100000 in
theorem f110_31 : mj_find (mj_P 110).2.2.2.2 31 = [(.ifCond .ne 5, 3, 0, [36])] := rfl
set_option maxRecDepth 100000 in
theorem q110_31 (E : mj_E) (d w c : Nat) (hi : Nat → Nat → Int32) (hl : Nat → Nat → Int64) (v1 : Int32) (v2 : Int32) (v3 : Int32) (s0 : Int32) : mj_den mj_P E d 110 31 [Value.ref 0, Value.int v1, Value.int v2, Value.int v3, Value.ref 2] [Value.int s0] (mj_hw w c hi hl) = if ¬ s0 = 0 then mj_den mj_P E d 110 36 [Value.ref 0, Value.int v1, Value.int v2, Value.int v3, Value.ref 2] [] (mj_hw w c hi hl) else mj_den mj_P E d 110 34 [Value.ref 0, Value.int v1, Value.int v2, Value.int v3, Value.ref 2] [] (mj_hw w c hi hl) := by
  rw [mj_den_eq, f110_31]
  exact zt_if_ne rfl rfl (zt_end rfl)
set_option maxRecDepth 100000 in
theorem f110_34 : mj_find (mj_P 110).2.2.2.2 34 = [(.iconst 0, 1, 0, []), (.ireturn, 1, 0, [1])] := rfl
set_option maxRecDepth 100000 in
theorem q110_34 (E : mj_E) (d w c : Nat) (hi : Nat → Nat → Int32) (hl : Nat → Nat → Int64) (v1 : Int32) (v2 : Int32) (v3 : Int32) : mj_den mj_P E d 110 34 [Value.ref 0, Value.int v1, Value.int v2, Value.int v3, Value.ref 2] [] (mj_hw w c hi hl) = if (0 : Int32) = 0 ∨ (0 : Int32) = 1 then some (some (Value.int (0 : Int32)), (mj_hw w c hi hl)) else none := by
  rw [mj_den_eq, f110_34]
  exact zt_iconst rfl (zt_ireturn1)
set_option maxRecDepth 100000 in
theorem f110_36 : mj_find (mj_P 110).2.2.2.2 36 = [(.iload_n 1, 1, 0, []), (.iconst 3, 1, 3, []), (.if_icmp .ge 15, 3, 0, [53]), (.aload 4, 2, 0, []), (.iload_n 2, 1, 0, []), (.invokevirtual 104, 3, 0, [0, 70, 7, 1, 1, 704, 705, 706, 145, 707])] := rfl
set_option maxRecDepth 100000 in
theorem q110_36 (E : mj_E) (d w c : Nat) (hi : Nat → Nat → Int32) (hl : Nat → Nat → Int64) (v1 : Int32) (v2 : Int32) (v3 : Int32) : mj_den mj_P E d 110 36 [Value.ref 0, Value.int v1, Value.int v2, Value.int v3, Value.ref 2] [] (mj_hw w c hi hl) = if (3 : Int32) ≤ v1 then mj_den mj_P E d 110 53 [Value.ref 0, Value.int v1, Value.int v2, Value.int v3, Value.ref 2] [] (mj_hw w c hi hl) else mj_bi (mj_dc mj_P E d 70 [Value.ref 2, Value.int v2] (mj_hw w c hi hl)) (fun x1 h1 => mj_den mj_P E d 110 47 [Value.ref 0, Value.int v1, Value.int v2, Value.int v3, Value.ref 2] [Value.int x1] h1) := by
  rw [mj_den_eq, f110_36]
  exact zt_iload_n rfl rfl (zt_iconst rfl (zt_icmp_ge rfl rfl (zt_aload rfl rfl (zt_iload_n rfl rfl (zt_call0_1 rfl (mjkd2 _ _ _ _) (Nat.le_of_ble_eq_true rfl) rfl rfl)))))
set_option maxRecDepth 100000 in
theorem f110_47 : mj_find (mj_P 110).2.2.2.2 47 = [(.ifCond .ne 17, 3, 0, [64]), (.goto 12, 3, 0, [62])] := rfl
set_option maxRecDepth 100000 in
theorem q110_47 (E : mj_E) (d w c : Nat) (hi : Nat → Nat → Int32) (hl : Nat → Nat → Int64) (v1 : Int32) (v2 : Int32) (v3 : Int32) (s0 : Int32) : mj_den mj_P E d 110 47 [Value.ref 0, Value.int v1, Value.int v2, Value.int v3, Value.ref 2] [Value.int s0] (mj_hw w c hi hl) = if ¬ s0 = 0 then mj_den mj_P E d 110 64 [Value.ref 0, Value.int v1, Value.int v2, Value.int v3, Value.ref 2] [] (mj_hw w c hi hl) else mj_den mj_P E d 110 62 [Value.ref 0, Value.int v1, Value.int v2, Value.int v3, Value.ref 2] [] (mj_hw w c hi hl) := by
  rw [mj_den_eq, f110_47]
  exact zt_if_ne rfl rfl (zt_goto rfl)
set_option maxRecDepth 100000 in
theorem f110_53 : mj_find (mj_P 110).2.2.2.2 53 = [(.aload 4, 2, 0, []), (.iload_n 2, 1, 0, []), (.invokevirtual 108, 3, 0, [0, 71, 7, 1, 1, 708, 709, 710, 145, 711])] := rfl
set_option maxRecDepth 100000 in
theorem q110_53 (E : mj_E) (d w c : Nat) (hi : Nat → Nat → Int32) (hl : Nat → Nat → Int64) (v1 : Int32) (v2 : Int32) (v3 : Int32) : mj_den mj_P E d 110 53 [Value.ref 0, Value.int v1, Value.int v2, Value.int v3, Value.ref 2] [] (mj_hw w c hi hl) = mj_bi (mj_dc mj_P E d 71 [Value.ref 2, Value.int v2] (mj_hw w c hi hl)) (fun x1 h1 => mj_den mj_P E d 110 59 [Value.ref 0, Value.int v1, Value.int v2, Value.int v3, Value.ref 2] [Value.int x1] h1) := by
  rw [mj_den_eq, f110_53]
  exact zt_aload rfl rfl (zt_iload_n rfl rfl (zt_call0_1 rfl (mjkd2 _ _ _ _) (Nat.le_of_ble_eq_true rfl) rfl rfl))
set_option maxRecDepth 100000 in
theorem f110_59 : mj_find (mj_P 110).2.2.2.2 59 = [(.ifCond .ne 5, 3, 0, [64])] := rfl
set_option maxRecDepth 100000 in
theorem q110_59 (E : mj_E) (d w c : Nat) (hi : Nat → Nat → Int32) (hl : Nat → Nat → Int64) (v1 : Int32) (v2 : Int32) (v3 : Int32) (s0 : Int32) : mj_den mj_P E d 110 59 [Value.ref 0, Value.int v1, Value.int v2, Value.int v3, Value.ref 2] [Value.int s0] (mj_hw w c hi hl) = if ¬ s0 = 0 then mj_den mj_P E d 110 64 [Value.ref 0, Value.int v1, Value.int v2, Value.int v3, Value.ref 2] [] (mj_hw w c hi hl) else mj_den mj_P E d 110 62 [Value.ref 0, Value.int v1, Value.int v2, Value.int v3, Value.ref 2] [] (mj_hw w c hi hl) := by
  rw [mj_den_eq, f110_59]
  exact zt_if_ne rfl rfl (zt_end rfl)
set_option maxRecDepth 100000 in
theorem f110_62 : mj_find (mj_P 110).2.2.2.2 62 = [(.iconst 0, 1, 0, []), (.ireturn, 1, 0, [1])] := rfl
set_option maxRecDepth 100000 in
theorem q110_62 (E : mj_E) (d w c : Nat) (hi : Nat → Nat → Int32) (hl : Nat → Nat → Int64) (v1 : Int32) (v2 : Int32) (v3 : Int32) : mj_den mj_P E d 110 62 [Value.ref 0, Value.int v1, Value.int v2, Value.int v3, Value.ref 2] [] (mj_hw w c hi hl) = if (0 : Int32) = 0 ∨ (0 : Int32) = 1 then some (some (Value.int (0 : Int32)), (mj_hw w c hi hl)) else none := by
  rw [mj_den_eq, f110_62]
  exact zt_iconst rfl (zt_ireturn1)
set_option maxRecDepth 100000 in
theorem f110_64 : mj_find (mj_P 110).2.2.2.2 64 = [(.iload_n 1, 1, 0, []), (.tableswitch 75 0 3 #[31, 42, 53, 64], 31, 0, [140, 96, 107, 118, 129])] := rfl
set_option maxRecDepth 100000 in
theorem q110_64 (E : mj_E) (d w c : Nat) (hi : Nat → Nat → Int32) (hl : Nat → Nat → Int64) (v1 : Int32) (v2 : Int32) (v3 : Int32) : mj_den mj_P E d 110 64 [Value.ref 0, Value.int v1, Value.int v2, Value.int v3, Value.ref 2] [] (mj_hw w c hi hl) = mj_den mj_P E d 110 (mj_sw v1 (0 : Int32) 140 [96, 107, 118, 129]) [Value.ref 0, Value.int v1, Value.int v2, Value.int v3, Value.ref 2] [] (mj_hw w c hi hl) := by
  rw [mj_den_eq, f110_64]
  exact zt_iload_n rfl rfl (zt_sw rfl)
set_option maxRecDepth 100000 in
theorem f110_96 : mj_find (mj_P 110).2.2.2.2 96 = [(.aload 4, 2, 0, []), (.getfield 111, 3, 0, [7, 7, 3, 208]), (.iload_n 2, 1, 0, []), (.iload_n 3, 1, 0, []), (.iastore, 1, 0, []), (.goto 44, 3, 0, [148])] := rfl
set_option maxRecDepth 100000 in
theorem q110_96 (E : mj_E) (d w c : Nat) (hi : Nat → Nat → Int32) (hl : Nat → Nat → Int64) (v1 : Int32) (v2 : Int32) (v3 : Int32) : mj_den mj_P E d 110 96 [Value.ref 0, Value.int v1, Value.int v2, Value.int v3, Value.ref 2] [] (mj_hw w c hi hl) = if 0 ≤ v2 ∧ (v2).toNatClampNeg < 10 then mj_den mj_P E d 110 148 [Value.ref 0, Value.int v1, Value.int v2, Value.int v3, Value.ref 2] [] (mj_hw w c (mj_u hi 3 ((v2).toNatClampNeg) v3) hl) else none := by
  rw [mj_den_eq, f110_96]
  exact zt_aload rfl rfl (zt_getr (mjkd2 _ _ _ _) (mjhr2_7 w c) rfl (zt_iload_n rfl rfl (zt_iload_n rfl rfl (zt_iast (mjkd3 _ _ _ _) (mjln3 _ _ _ _) rfl rfl (zt_goto rfl)))))
set_option maxRecDepth 100000 in
theorem f110_107 : mj_find (mj_P 110).2.2.2.2 107 = [(.aload 4, 2, 0, []), (.getfield 114, 3, 0, [7, 8, 3, 212]), (.iload_n 2, 1, 0, []), (.iload_n 3, 1, 0, []), (.iastore, 1, 0, []), (.goto 33, 3, 0, [148])] := rfl
set_option maxRecDepth 100000 in
theorem q110_107 (E : mj_E) (d w c : Nat) (hi : Nat → Nat → Int32) (hl : Nat → Nat → Int64) (v1 : Int32) (v2 : Int32) (v3 : Int32) : mj_den mj_P E d 110 107 [Value.ref 0, Value.int v1, Value.int v2, Value.int v3, Value.ref 2] [] (mj_hw w c hi hl) = if 0 ≤ v2 ∧ (v2).toNatClampNeg < 10 then mj_den mj_P E d 110 148 [Value.ref 0, Value.int v1, Value.int v2, Value.int v3, Value.ref 2] [] (mj_hw w c (mj_u hi 4 ((v2).toNatClampNeg) v3) hl) else none := by
  rw [mj_den_eq, f110_107]
  exact zt_aload rfl rfl (zt_getr (mjkd2 _ _ _ _) (mjhr2_8 w c) rfl (zt_iload_n rfl rfl (zt_iload_n rfl rfl (zt_iast (mjkd4 _ _ _ _) (mjln4 _ _ _ _) rfl rfl (zt_goto rfl)))))
set_option maxRecDepth 100000 in
theorem f110_118 : mj_find (mj_P 110).2.2.2.2 118 = [(.aload 4, 2, 0, []), (.getfield 117, 3, 0, [7, 9, 3, 215]), (.iload_n 2, 1, 0, []), (.iload_n 3, 1, 0, []), (.iastore, 1, 0, []), (.goto 22, 3, 0, [148])] := rfl
set_option maxRecDepth 100000 in
theorem q110_118 (E : mj_E) (d w c : Nat) (hi : Nat → Nat → Int32) (hl : Nat → Nat → Int64) (v1 : Int32) (v2 : Int32) (v3 : Int32) : mj_den mj_P E d 110 118 [Value.ref 0, Value.int v1, Value.int v2, Value.int v3, Value.ref 2] [] (mj_hw w c hi hl) = if 0 ≤ v2 ∧ (v2).toNatClampNeg < 10 then mj_den mj_P E d 110 148 [Value.ref 0, Value.int v1, Value.int v2, Value.int v3, Value.ref 2] [] (mj_hw w c (mj_u hi 5 ((v2).toNatClampNeg) v3) hl) else none := by
  rw [mj_den_eq, f110_118]
  exact zt_aload rfl rfl (zt_getr (mjkd2 _ _ _ _) (mjhr2_9 w c) rfl (zt_iload_n rfl rfl (zt_iload_n rfl rfl (zt_iast (mjkd5 _ _ _ _) (mjln5 _ _ _ _) rfl rfl (zt_goto rfl)))))
set_option maxRecDepth 100000 in
theorem f110_129 : mj_find (mj_P 110).2.2.2.2 129 = [(.aload 4, 2, 0, []), (.getfield 120, 3, 0, [7, 15, 3, 234]), (.iload_n 2, 1, 0, []), (.iload_n 3, 1, 0, []), (.iastore, 1, 0, []), (.goto 11, 3, 0, [148])] := rfl
set_option maxRecDepth 100000 in
theorem q110_129 (E : mj_E) (d w c : Nat) (hi : Nat → Nat → Int32) (hl : Nat → Nat → Int64) (v1 : Int32) (v2 : Int32) (v3 : Int32) : mj_den mj_P E d 110 129 [Value.ref 0, Value.int v1, Value.int v2, Value.int v3, Value.ref 2] [] (mj_hw w c hi hl) = if 0 ≤ v2 ∧ (v2).toNatClampNeg < 12 then mj_den mj_P E d 110 148 [Value.ref 0, Value.int v1, Value.int v2, Value.int v3, Value.ref 2] [] (mj_hw w c (mj_u hi 11 ((v2).toNatClampNeg) v3) hl) else none := by
  rw [mj_den_eq, f110_129]
  exact zt_aload rfl rfl (zt_getr (mjkd2 _ _ _ _) (mjhr2_15 w c) rfl (zt_iload_n rfl rfl (zt_iload_n rfl rfl (zt_iast (mjkd11 _ _ _ _) (mjln11 _ _ _ _) rfl rfl (zt_goto rfl)))))
set_option maxRecDepth 100000 in
theorem f110_140 : mj_find (mj_P 110).2.2.2.2 140 = [(.aload 4, 2, 0, []), (.getfield 123, 3, 0, [7, 14, 3, 231]), (.iload_n 2, 1, 0, []), (.iload_n 3, 1, 0, []), (.iastore, 1, 0, [])] := rfl
set_option maxRecDepth 100000 in
theorem q110_140 (E : mj_E) (d w c : Nat) (hi : Nat → Nat → Int32) (hl : Nat → Nat → Int64) (v1 : Int32) (v2 : Int32) (v3 : Int32) : mj_den mj_P E d 110 140 [Value.ref 0, Value.int v1, Value.int v2, Value.int v3, Value.ref 2] [] (mj_hw w c hi hl) = if 0 ≤ v2 ∧ (v2).toNatClampNeg < 12 then mj_den mj_P E d 110 148 [Value.ref 0, Value.int v1, Value.int v2, Value.int v3, Value.ref 2] [] (mj_hw w c (mj_u hi 10 ((v2).toNatClampNeg) v3) hl) else none := by
  rw [mj_den_eq, f110_140]
  exact zt_aload rfl rfl (zt_getr (mjkd2 _ _ _ _) (mjhr2_14 w c) rfl (zt_iload_n rfl rfl (zt_iload_n rfl rfl (zt_iast (mjkd10 _ _ _ _) (mjln10 _ _ _ _) rfl rfl (zt_end rfl)))))
set_option maxRecDepth 100000 in
theorem f110_148 : mj_find (mj_P 110).2.2.2.2 148 = [(.aload_n 0, 1, 0, []), (.getfield 26, 3, 0, [11, 3, 3, 643]), (.invokevirtual 79, 3, 0, [0, 45, 5, 0, 0, 675, 676, 677, 149, 678])] := rfl
set_option maxRecDepth 100000 in
theorem q110_148 (E : mj_E) (d w c : Nat) (hi : Nat → Nat → Int32) (hl : Nat → Nat → Int64) (v1 : Int32) (v2 : Int32) (v3 : Int32) : mj_den mj_P E d 110 148 [Value.ref 0, Value.int v1, Value.int v2, Value.int v3, Value.ref 2] [] (mj_hw w c hi hl) = mj_bv (mj_dc mj_P E d 45 [Value.ref 91] (mj_hw w c hi hl)) (fun h1 => mj_den mj_P E d 110 155 [Value.ref 0, Value.int v1, Value.int v2, Value.int v3, Value.ref 2] [] h1) := by
  rw [mj_den_eq, f110_148]
  exact zt_aload_n rfl rfl (zt_getr (mjkd0 _ _ _ _) (mjhr0_3 w c) rfl (zt_call0_0 rfl (mjkd91 _ _ _ _) (Nat.le_of_ble_eq_true rfl) rfl rfl))
set_option maxRecDepth 100000 in
theorem f110_155 : mj_find (mj_P 110).2.2.2.2 155 = [(.iconst 1, 1, 1, []), (.ireturn, 1, 0, [1])] := rfl
set_option maxRecDepth 100000 in
theorem q110_155 (E : mj_E) (d w c : Nat) (hi : Nat → Nat → Int32) (hl : Nat → Nat → Int64) (v1 : Int32) (v2 : Int32) (v3 : Int32) : mj_den mj_P E d 110 155 [Value.ref 0, Value.int v1, Value.int v2, Value.int v3, Value.ref 2] [] (mj_hw w c hi hl) = if (1 : Int32) = 0 ∨ (1 : Int32) = 1 then some (some (Value.int (1 : Int32)), (mj_hw w c hi hl)) else none := by
  rw [mj_den_eq, f110_155]
  exact zt_iconst rfl (zt_ireturn1)
set_option maxRecDepth 100000 in
theorem f111_0 : mj_find (mj_P 111).2.2.2.2 0 = [(.aload_n 0, 1, 0, []), (.getfield 12, 3, 0, [11, 0, 3, 640]), (.getfield 72, 3, 0, [10, 0, 3, 412]), (.iload_n 1, 1, 0, []), (.invokevirtual 108, 3, 0, [0, 71, 7, 1, 1, 708, 709, 710, 145, 711])] := rfl
set_option maxRecDepth 100000 in
theorem q111_0 (E : mj_E) (d w c : Nat) (hi : Nat → Nat → Int32) (hl : Nat → Nat → Int64) (v1 : Int32) : mj_den mj_P E d 111 0 [Value.ref 0, Value.int v1] [] (mj_hw w c hi hl) = mj_bi (mj_dc mj_P E d 71 [Value.ref 2, Value.int v1] (mj_hw w c hi hl)) (fun x1 h1 => mj_den mj_P E d 111 11 [Value.ref 0, Value.int v1] [Value.int x1] h1) := by
  rw [mj_den_eq, f111_0]
  exact zt_aload_n rfl rfl (zt_getr (mjkd0 _ _ _ _) (mjhr0_0 w c) rfl (zt_getr (mjkd1 _ _ _ _) (mjhr1_0 w c) rfl (zt_iload_n rfl rfl (zt_call0_1 rfl (mjkd2 _ _ _ _) (Nat.le_of_ble_eq_true rfl) rfl rfl))))
set_option maxRecDepth 100000 in
theorem f111_11 : mj_find (mj_P 111).2.2.2.2 11 = [(.ifCond .eq 19, 3, 0, [30]), (.aload_n 0, 1, 0, []), (.getfield 12, 3, 0, [11, 0, 3, 640]), (.getfield 72, 3, 0, [10, 0, 3, 412]), (.getfield 126, 3, 0, [7, 16, 3, 238]), (.iload_n 1, 1, 0, []), (.iaload, 1, 0, []), (.iconst (-1), 1, (-1), []), (.if_icmp .eq 6, 3, 0, [33])] := rfl
set_option maxRecDepth 100000 in
theorem q111_11 (E : mj_E) (d w c : Nat) (hi : Nat → Nat → Int32) (hl : Nat → Nat → Int64) (v1 : Int32) (s0 : Int32) : mj_den mj_P E d 111 11 [Value.ref 0, Value.int v1] [Value.int s0] (mj_hw w c hi hl) = if s0 = 0 then mj_den mj_P E d 111 30 [Value.ref 0, Value.int v1] [] (mj_hw w c hi hl) else if 0 ≤ v1 ∧ (v1).toNatClampNeg < 12 then if (hi 12 ((v1).toNatClampNeg)) = (-1 : Int32) then mj_den mj_P E d 111 33 [Value.ref 0, Value.int v1] [] (mj_hw w c hi hl) else mj_den mj_P E d 111 30 [Value.ref 0, Value.int v1] [] (mj_hw w c hi hl) else none := by
  rw [mj_den_eq, f111_11]
  exact zt_if_eq rfl rfl (zt_aload_n rfl rfl (zt_getr (mjkd0 _ _ _ _) (mjhr0_0 w c) rfl (zt_getr (mjkd1 _ _ _ _) (mjhr1_0 w c) rfl (zt_getr (mjkd2 _ _ _ _) (mjhr2_16 w c) rfl (zt_iload_n rfl rfl (zt_iald (mjkd12 _ _ _ _) (mjln12 _ _ _ _) rfl rfl (zt_iconst rfl (zt_icmp_eq rfl rfl (zt_end rfl)))))))))
set_option maxRecDepth 100000 in
theorem f111_30 : mj_find (mj_P 111).2.2.2.2 30 = [(.bipush (-2), 2, (-2), []), (.ireturn, 1, 0, [0])] := rfl
set_option maxRecDepth 100000 in
theorem q111_30 (E : mj_E) (d w c : Nat) (hi : Nat → Nat → Int32) (hl : Nat → Nat → Int64) (v1 : Int32) : mj_den mj_P E d 111 30 [Value.ref 0, Value.int v1] [] (mj_hw w c hi hl) = some (some (Value.int (-2 : Int32)), (mj_hw w c hi hl)) := by
  rw [mj_den_eq, f111_30]
  exact zt_bipush rfl (zt_ireturn0)
set_option maxRecDepth 100000 in
theorem f111_33 : mj_find (mj_P 111).2.2.2.2 33 = [(.aload_n 0, 1, 0, []), (.getfield 26, 3, 0, [11, 3, 3, 643]), (.aload_n 0, 1, 0, []), (.getfield 12, 3, 0, [11, 0, 3, 640]), (.getfield 72, 3, 0, [10, 0, 3, 412]), (.invokevirtual 129, 3, 0, [0, 43, 5, 1, 0, 716, 717, 718, 149, 719])] := rfl
set_option maxRecDepth 100000 in
theorem q111_33 (E : mj_E) (d w c : Nat) (hi : Nat → Nat → Int32) (hl : Nat → Nat → Int64) (v1 : Int32) : mj_den mj_P E d 111 33 [Value.ref 0, Value.int v1] [] (mj_hw w c hi hl) = mj_bv (mj_dc mj_P E d 43 [Value.ref 91, Value.ref 2] (mj_hw w c hi hl)) (fun h1 => mj_den mj_P E d 111 47 [Value.ref 0, Value.int v1] [] h1) := by
  rw [mj_den_eq, f111_33]
  exact zt_aload_n rfl rfl (zt_getr (mjkd0 _ _ _ _) (mjhr0_3 w c) rfl (zt_aload_n rfl rfl (zt_getr (mjkd0 _ _ _ _) (mjhr0_0 w c) rfl (zt_getr (mjkd1 _ _ _ _) (mjhr1_0 w c) rfl (zt_call0_0 rfl (mjkd91 _ _ _ _) (Nat.le_of_ble_eq_true rfl) rfl rfl)))))
set_option maxRecDepth 100000 in
theorem f111_47 : mj_find (mj_P 111).2.2.2.2 47 = [(.aload_n 0, 1, 0, []), (.getfield 47, 3, 0, [11, 6, 3, 646]), (.aload_n 0, 1, 0, []), (.getfield 12, 3, 0, [11, 0, 3, 640]), (.aload_n 0, 1, 0, []), (.getfield 12, 3, 0, [11, 0, 3, 640]), (.getfield 72, 3, 0, [10, 0, 3, 412]), (.iload_n 1, 1, 0, []), (.iconst 0, 1, 0, []), (.invokevirtual 133, 3, 0, [0, 1, 0, 4, 0, 734, 735, 736, 151, 737])] := rfl
set_option maxRecDepth 100000 in
theorem q111_47 (E : mj_E) (d w c : Nat) (hi : Nat → Nat → Int32) (hl : Nat → Nat → Int64) (v1 : Int32) : mj_den mj_P E d 111 47 [Value.ref 0, Value.int v1] [] (mj_hw w c hi hl) = mj_bv (mj_dc mj_P E d 1 [Value.ref 188, Value.ref 1, Value.ref 2, Value.int v1, Value.int (0 : Int32)] (mj_hw w c hi hl)) (fun h1 => mj_den mj_P E d 111 67 [Value.ref 0, Value.int v1] [] h1) := by
  rw [mj_den_eq, f111_47]
  exact zt_aload_n rfl rfl (zt_getr (mjkd0 _ _ _ _) (mjhr0_6 w c) rfl (zt_aload_n rfl rfl (zt_getr (mjkd0 _ _ _ _) (mjhr0_0 w c) rfl (zt_aload_n rfl rfl (zt_getr (mjkd0 _ _ _ _) (mjhr0_0 w c) rfl (zt_getr (mjkd1 _ _ _ _) (mjhr1_0 w c) rfl (zt_iload_n rfl rfl (zt_iconst rfl (zt_call0_0 rfl (mjkd188 _ _ _ _) (Nat.le_of_ble_eq_true rfl) rfl rfl)))))))))
set_option maxRecDepth 100000 in
theorem f111_67 : mj_find (mj_P 111).2.2.2.2 67 = [(.aload_n 0, 1, 0, []), (.getfield 47, 3, 0, [11, 6, 3, 646]), (.getfield 137, 3, 0, [0, 0, 0, 551]), (.ireturn, 1, 0, [0])] := rfl
set_option maxRecDepth 100000 in
theorem q111_67 (E : mj_E) (d w c : Nat) (hi : Nat → Nat → Int32) (hl : Nat → Nat → Int64) (v1 : Int32) : mj_den mj_P E d 111 67 [Value.ref 0, Value.int v1] [] (mj_hw w c hi hl) = some (some (Value.int (hi 188 0)), (mj_hw w c hi hl)) := by
  rw [mj_den_eq, f111_67]
  exact zt_aload_n rfl rfl (zt_getr (mjkd0 _ _ _ _) (mjhr0_6 w c) rfl (zt_geti (mjkd188 _ _ _ _) rfl rfl (zt_ireturn0)))
set_option maxRecDepth 100000 in
theorem f112_0 : mj_find (mj_P 112).2.2.2.2 0 = [(.aload_n 0, 1, 0, []), (.getfield 12, 3, 0, [11, 0, 3, 640]), (.getfield 72, 3, 0, [10, 0, 3, 412]), (.astore_n 3, 1, 0, []), (.iload_n 1, 1, 0, []), (.ifCond .eq 8, 3, 0, [17]), (.iload_n 1, 1, 0, []), (.iconst 1, 1, 1, []), (.if_icmp .ne 53, 3, 0, [67])] := rfl
set_option maxRecDepth 100000 in
theorem q112_0 (E : mj_E) (d w c : Nat) (hi : Nat → Nat → Int32) (hl : Nat → Nat → Int64) (v1 : Int32) (v2 : Int32) : mj_den mj_P E d 112 0 [Value.ref 0, Value.int v1, Value.int v2, Value.float 0, Value.float 0] [] (mj_hw w c hi hl) = if v1 = 0 then mj_den mj_P E d 112 17 [Value.ref 0, Value.int v1, Value.int v2, Value.ref 2, Value.float 0] [] (mj_hw w c hi hl) else if ¬ v1 = (1 : Int32) then mj_den mj_P E d 112 67 [Value.ref 0, Value.int v1, Value.int v2, Value.ref 2, Value.float 0] [] (mj_hw w c hi hl) else mj_den mj_P E d 112 17 [Value.ref 0, Value.int v1, Value.int v2, Value.ref 2, Value.float 0] [] (mj_hw w c hi hl) := by
  rw [mj_den_eq, f112_0]
  exact zt_aload_n rfl rfl (zt_getr (mjkd0 _ _ _ _) (mjhr0_0 w c) rfl (zt_getr (mjkd1 _ _ _ _) (mjhr1_0 w c) rfl (zt_astore_n (Nat.le_of_ble_eq_true rfl) rfl rfl (zt_iload_n rfl rfl (zt_if_eq rfl rfl (zt_iload_n rfl rfl (zt_iconst rfl (zt_icmp_ne rfl rfl (zt_end rfl)))))))))
set_option maxRecDepth 100000 in
theorem f112_17 : mj_find (mj_P 112).2.2.2.2 17 = [(.iload_n 1, 1, 0, []), (.ifCond .ne 7, 3, 0, [25]), (.iconst 1, 1, 1, []), (.goto 4, 3, 0, [26])] := rfl
set_option maxRecDepth 100000 in
theorem q112_17 (E : mj_E) (d w c : Nat) (hi : Nat → Nat → Int32) (hl : Nat → Nat → Int64) (v1 : Int32) (v2 : Int32) : mj_den mj_P E d 112 17 [Value.ref 0, Value.int v1, Value.int v2, Value.ref 2, Value.float 0] [] (mj_hw w c hi hl) = if ¬ v1 = 0 then mj_den mj_P E d 112 25 [Value.ref 0, Value.int v1, Value.int v2, Value.ref 2, Value.float 0] [] (mj_hw w c hi hl) else mj_den mj_P E d 112 26 [Value.ref 0, Value.int v1, Value.int v2, Value.ref 2, Value.float 0] [Value.int (1 : Int32)] (mj_hw w c hi hl) := by
  rw [mj_den_eq, f112_17]
  exact zt_iload_n rfl rfl (zt_if_ne rfl rfl (zt_iconst rfl (zt_goto rfl)))
set_option maxRecDepth 100000 in
theorem f112_25 : mj_find (mj_P 112).2.2.2.2 25 = [(.iconst 0, 1, 0, [])] := rfl
set_option maxRecDepth 100000 in
theorem q112_25 (E : mj_E) (d w c : Nat) (hi : Nat → Nat → Int32) (hl : Nat → Nat → Int64) (v1 : Int32) (v2 : Int32) : mj_den mj_P E d 112 25 [Value.ref 0, Value.int v1, Value.int v2, Value.ref 2, Value.float 0] [] (mj_hw w c hi hl) = mj_den mj_P E d 112 26 [Value.ref 0, Value.int v1, Value.int v2, Value.ref 2, Value.float 0] [Value.int (0 : Int32)] (mj_hw w c hi hl) := by
  rw [mj_den_eq, f112_25]
  exact zt_iconst rfl (zt_end rfl)
set_option maxRecDepth 100000 in
theorem f112_26 : mj_find (mj_P 112).2.2.2.2 26 = [(.istore 4, 2, 0, []), (.aload_n 3, 1, 0, []), (.iload_n 2, 1, 0, []), (.invokevirtual 104, 3, 0, [0, 70, 7, 1, 1, 704, 705, 706, 145, 707])] := rfl
set_option maxRecDepth 100000 in
theorem q112_26 (E : mj_E) (d w c : Nat) (hi : Nat → Nat → Int32) (hl : Nat → Nat → Int64) (v1 : Int32) (v2 : Int32) (s0 : Int32) : mj_den mj_P E d 112 26 [Value.ref 0, Value.int v1, Value.int v2, Value.ref 2, Value.float 0] [Value.int s0] (mj_hw w c hi hl) = mj_bi (mj_dc mj_P E d 70 [Value.ref 2, Value.int v2] (mj_hw w c hi hl)) (fun x1 h1 => mj_den mj_P E d 112 33 [Value.ref 0, Value.int v1, Value.int v2, Value.ref 2, Value.int s0] [Value.int x1] h1) := by
  rw [mj_den_eq, f112_26]
  exact zt_istore (Nat.le_of_ble_eq_true rfl) rfl rfl (zt_aload_n rfl rfl (zt_iload_n rfl rfl (zt_call0_1 rfl (mjkd2 _ _ _ _) (Nat.le_of_ble_eq_true rfl) rfl rfl)))
set_option maxRecDepth 100000 in
theorem f112_33 : mj_find (mj_P 112).2.2.2.2 33 = [(.ifCond .eq 14, 3, 0, [47]), (.aload_n 3, 1, 0, []), (.getfield 140, 3, 0, [7, 11, 3, 220]), (.iload_n 2, 1, 0, []), (.iaload, 1, 0, []), (.iload 4, 2, 0, []), (.if_icmp .ne 5, 3, 0, [49])] := rfl
set_option maxRecDepth 100000 in
theorem q112_33 (E : mj_E) (d w c : Nat) (hi : Nat → Nat → Int32) (hl : Nat → Nat → Int64) (v1 : Int32) (v2 : Int32) (v4 : Int32) (s0 : Int32) : mj_den mj_P E d 112 33 [Value.ref 0, Value.int v1, Value.int v2, Value.ref 2, Value.int v4] [Value.int s0] (mj_hw w c hi hl) = if s0 = 0 then mj_den mj_P E d 112 47 [Value.ref 0, Value.int v1, Value.int v2, Value.ref 2, Value.int v4] [] (mj_hw w c hi hl) else if 0 ≤ v2 ∧ (v2).toNatClampNeg < 10 then if ¬ (hi 7 ((v2).toNatClampNeg)) = v4 then mj_den mj_P E d 112 49 [Value.ref 0, Value.int v1, Value.int v2, Value.ref 2, Value.int v4] [] (mj_hw w c hi hl) else mj_den mj_P E d 112 47 [Value.ref 0, Value.int v1, Value.int v2, Value.ref 2, Value.int v4] [] (mj_hw w c hi hl) else none := by
  rw [mj_den_eq, f112_33]
  exact zt_if_eq rfl rfl (zt_aload_n rfl rfl (zt_getr (mjkd2 _ _ _ _) (mjhr2_11 w c) rfl (zt_iload_n rfl rfl (zt_iald (mjkd7 _ _ _ _) (mjln7 _ _ _ _) rfl rfl (zt_iload rfl rfl (zt_icmp_ne rfl rfl (zt_end rfl)))))))
set_option maxRecDepth 100000 in
theorem f112_47 : mj_find (mj_P 112).2.2.2.2 47 = [(.iconst 0, 1, 0, []), (.ireturn, 1, 0, [1])] := rfl
set_option maxRecDepth 100000 in
theorem q112_47 (E : mj_E) (d w c : Nat) (hi : Nat → Nat → Int32) (hl : Nat → Nat → Int64) (v1 : Int32) (v2 : Int32) (v4 : Int32) : mj_den mj_P E d 112 47 [Value.ref 0, Value.int v1, Value.int v2, Value.ref 2, Value.int v4] [] (mj_hw w c hi hl) = if (0 : Int32) = 0 ∨ (0 : Int32) = 1 then some (some (Value.int (0 : Int32)), (mj_hw w c hi hl)) else none := by
  rw [mj_den_eq, f112_47]
  exact zt_iconst rfl (zt_ireturn1)
set_option maxRecDepth 100000 in
theorem f112_49 : mj_find (mj_P 112).2.2.2.2 49 = [(.aload_n 0, 1, 0, []), (.getfield 26, 3, 0, [11, 3, 3, 643]), (.aload_n 3, 1, 0, []), (.invokevirtual 129, 3, 0, [0, 43, 5, 1, 0, 716, 717, 718, 149, 719])] := rfl
set_option maxRecDepth 100000 in
theorem q112_49 (E : mj_E) (d w c : Nat) (hi : Nat → Nat → Int32) (hl : Nat → Nat → Int64) (v1 : Int32) (v2 : Int32) (v4 : Int32) : mj_den mj_P E d 112 49 [Value.ref 0, Value.int v1, Value.int v2, Value.ref 2, Value.int v4] [] (mj_hw w c hi hl) = mj_bv (mj_dc mj_P E d 43 [Value.ref 91, Value.ref 2] (mj_hw w c hi hl)) (fun h1 => mj_den mj_P E d 112 57 [Value.ref 0, Value.int v1, Value.int v2, Value.ref 2, Value.int v4] [] h1) := by
  rw [mj_den_eq, f112_49]
  exact zt_aload_n rfl rfl (zt_getr (mjkd0 _ _ _ _) (mjhr0_3 w c) rfl (zt_aload_n rfl rfl (zt_call0_0 rfl (mjkd91 _ _ _ _) (Nat.le_of_ble_eq_true rfl) rfl rfl)))
set_option maxRecDepth 100000 in
theorem f112_57 : mj_find (mj_P 112).2.2.2.2 57 = [(.aload_n 3, 1, 0, []), (.getfield 140, 3, 0, [7, 11, 3, 220]), (.iload_n 2, 1, 0, []), (.iload 4, 2, 0, []), (.iastore, 1, 0, []), (.iconst 1, 1, 1, []), (.ireturn, 1, 0, [1])] := rfl
set_option maxRecDepth 100000 in
theorem q112_57 (E : mj_E) (d w c : Nat) (hi : Nat → Nat → Int32) (hl : Nat → Nat → Int64) (v1 : Int32) (v2 : Int32) (v4 : Int32) : mj_den mj_P E d 112 57 [Value.ref 0, Value.int v1, Value.int v2, Value.ref 2, Value.int v4] [] (mj_hw w c hi hl) = if 0 ≤ v2 ∧ (v2).toNatClampNeg < 10 then if (1 : Int32) = 0 ∨ (1 : Int32) = 1 then some (some (Value.int (1 : Int32)), (mj_hw w c (mj_u hi 7 ((v2).toNatClampNeg) v4) hl)) else none else none := by
  rw [mj_den_eq, f112_57]
  exact zt_aload_n rfl rfl (zt_getr (mjkd2 _ _ _ _) (mjhr2_11 w c) rfl (zt_iload_n rfl rfl (zt_iload rfl rfl (zt_iast (mjkd7 _ _ _ _) (mjln7 _ _ _ _) rfl rfl (zt_iconst rfl (zt_ireturn1))))))
set_option maxRecDepth 100000 in
theorem f112_67 : mj_find (mj_P 112).2.2.2.2 67 = [(.iload_n 1, 1, 0, []), (.iconst 2, 1, 2, []), (.if_icmp .ne 7, 3, 0, [76]), (.iconst 1, 1, 1, []), (.goto 4, 3, 0, [77])] := rfl
set_option maxRecDepth 100000 in
theorem q112_67 (E : mj_E) (d w c : Nat) (hi : Nat → Nat → Int32) (hl : Nat → Nat → Int64) (v1 : Int32) (v2 : Int32) : mj_den mj_P E d 112 67 [Value.ref 0, Value.int v1, Value.int v2, Value.ref 2, Value.float 0] [] (mj_hw w c hi hl) = if ¬ v1 = (2 : Int32) then mj_den mj_P E d 112 76 [Value.ref 0, Value.int v1, Value.int v2, Value.ref 2, Value.float 0] [] (mj_hw w c hi hl) else mj_den mj_P E d 112 77 [Value.ref 0, Value.int v1, Value.int v2, Value.ref 2, Value.float 0] [Value.int (1 : Int32)] (mj_hw w c hi hl) := by
  rw [mj_den_eq, f112_67]
  exact zt_iload_n rfl rfl (zt_iconst rfl (zt_icmp_ne rfl rfl (zt_iconst rfl (zt_goto rfl))))
set_option maxRecDepth 100000 in
theorem f112_76 : mj_find (mj_P 112).2.2.2.2 76 = [(.iconst 0, 1, 0, [])] := rfl
set_option maxRecDepth 100000 in
theorem q112_76 (E : mj_E) (d w c : Nat) (hi : Nat → Nat → Int32) (hl : Nat → Nat → Int64) (v1 : Int32) (v2 : Int32) : mj_den mj_P E d 112 76 [Value.ref 0, Value.int v1, Value.int v2, Value.ref 2, Value.float 0] [] (mj_hw w c hi hl) = mj_den mj_P E d 112 77 [Value.ref 0, Value.int v1, Value.int v2, Value.ref 2, Value.float 0] [Value.int (0 : Int32)] (mj_hw w c hi hl) := by
  rw [mj_den_eq, f112_76]
  exact zt_iconst rfl (zt_end rfl)
set_option maxRecDepth 100000 in
theorem f112_77 : mj_find (mj_P 112).2.2.2.2 77 = [(.istore 4, 2, 0, []), (.iload_n 1, 1, 0, []), (.iconst 2, 1, 2, []), (.if_icmp .eq 8, 3, 0, [89]), (.iload_n 1, 1, 0, []), (.iconst 3, 1, 3, []), (.if_icmp .ne 12, 3, 0, [98])] := rfl
set_option maxRecDepth 100000 in
theorem q112_77 (E : mj_E) (d w c : Nat) (hi : Nat → Nat → Int32) (hl : Nat → Nat → Int64) (v1 : Int32) (v2 : Int32) (s0 : Int32) : mj_den mj_P E d 112 77 [Value.ref 0, Value.int v1, Value.int v2, Value.ref 2, Value.float 0] [Value.int s0] (mj_hw w c hi hl) = if v1 = (2 : Int32) then mj_den mj_P E d 112 89 [Value.ref 0, Value.int v1, Value.int v2, Value.ref 2, Value.int s0] [] (mj_hw w c hi hl) else if ¬ v1 = (3 : Int32) then mj_den mj_P E d 112 98 [Value.ref 0, Value.int v1, Value.int v2, Value.ref 2, Value.int s0] [] (mj_hw w c hi hl) else mj_den mj_P E d 112 89 [Value.ref 0, Value.int v1, Value.int v2, Value.ref 2, Value.int s0] [] (mj_hw w c hi hl) := by
  rw [mj_den_eq, f112_77]
  exact zt_istore (Nat.le_of_ble_eq_true rfl) rfl rfl (zt_iload_n rfl rfl (zt_iconst rfl (zt_icmp_eq rfl rfl (zt_iload_n rfl rfl (zt_iconst rfl (zt_icmp_ne rfl rfl (zt_end rfl)))))))
set_option maxRecDepth 100000 in
theorem f112_89 : mj_find (mj_P 112).2.2.2.2 89 = [(.aload_n 3, 1, 0, []), (.getfield 143, 3, 0, [7, 2, 0, 193]), (.iload 4, 2, 0, []), (.if_icmp .ne 5, 3, 0, [100])] := rfl
set_option maxRecDepth 100000 in
theorem q112_89 (E : mj_E) (d w c : Nat) (hi : Nat → Nat → Int32) (hl : Nat → Nat → Int64) (v1 : Int32) (v2 : Int32) (v4 : Int32) : mj_den mj_P E d 112 89 [Value.ref 0, Value.int v1, Value.int v2, Value.ref 2, Value.int v4] [] (mj_hw w c hi hl) = if ¬ (hi 2 2) = v4 then mj_den mj_P E d 112 100 [Value.ref 0, Value.int v1, Value.int v2, Value.ref 2, Value.int v4] [] (mj_hw w c hi hl) else mj_den mj_P E d 112 98 [Value.ref 0, Value.int v1, Value.int v2, Value.ref 2, Value.int v4] [] (mj_hw w c hi hl) := by
  rw [mj_den_eq, f112_89]
  exact zt_aload_n rfl rfl (zt_geti (mjkd2 _ _ _ _) rfl rfl (zt_iload rfl rfl (zt_icmp_ne rfl rfl (zt_end rfl))))
set_option maxRecDepth 100000 in
theorem f112_98 : mj_find (mj_P 112).2.2.2.2 98 = [(.iconst 0, 1, 0, []), (.ireturn, 1, 0, [1])] := rfl
set_option maxRecDepth 100000 in
theorem q112_98 (E : mj_E) (d w c : Nat) (hi : Nat → Nat → Int32) (hl : Nat → Nat → Int64) (v1 : Int32) (v2 : Int32) (v4 : Int32) : mj_den mj_P E d 112 98 [Value.ref 0, Value.int v1, Value.int v2, Value.ref 2, Value.int v4] [] (mj_hw w c hi hl) = if (0 : Int32) = 0 ∨ (0 : Int32) = 1 then some (some (Value.int (0 : Int32)), (mj_hw w c hi hl)) else none := by
  rw [mj_den_eq, f112_98]
  exact zt_iconst rfl (zt_ireturn1)
set_option maxRecDepth 100000 in
theorem f112_100 : mj_find (mj_P 112).2.2.2.2 100 = [(.aload_n 0, 1, 0, []), (.getfield 26, 3, 0, [11, 3, 3, 643]), (.aload_n 3, 1, 0, []), (.invokevirtual 129, 3, 0, [0, 43, 5, 1, 0, 716, 717, 718, 149, 719])] := rfl
set_option maxRecDepth 100000 in
theorem q112_100 (E : mj_E) (d w c : Nat) (hi : Nat → Nat → Int32) (hl : Nat → Nat → Int64) (v1 : Int32) (v2 : Int32) (v4 : Int32) : mj_den mj_P E d 112 100 [Value.ref 0, Value.int v1, Value.int v2, Value.ref 2, Value.int v4] [] (mj_hw w c hi hl) = mj_bv (mj_dc mj_P E d 43 [Value.ref 91, Value.ref 2] (mj_hw w c hi hl)) (fun h1 => mj_den mj_P E d 112 108 [Value.ref 0, Value.int v1, Value.int v2, Value.ref 2, Value.int v4] [] h1) := by
  rw [mj_den_eq, f112_100]
  exact zt_aload_n rfl rfl (zt_getr (mjkd0 _ _ _ _) (mjhr0_3 w c) rfl (zt_aload_n rfl rfl (zt_call0_0 rfl (mjkd91 _ _ _ _) (Nat.le_of_ble_eq_true rfl) rfl rfl)))
set_option maxRecDepth 100000 in
theorem f112_108 : mj_find (mj_P 112).2.2.2.2 108 = [(.aload_n 3, 1, 0, []), (.iload 4, 2, 0, []), (.putfield 143, 3, 0, [7, 2, 0, 193]), (.iconst 1, 1, 1, []), (.ireturn, 1, 0, [1])] := rfl
set_option maxRecDepth 100000 in
theorem q112_108 (E : mj_E) (d w c : Nat) (hi : Nat → Nat → Int32) (hl : Nat → Nat → Int64) (v1 : Int32) (v2 : Int32) (v4 : Int32) : mj_den mj_P E d 112 108 [Value.ref 0, Value.int v1, Value.int v2, Value.ref 2, Value.int v4] [] (mj_hw w c hi hl) = if (1 : Int32) = 0 ∨ (1 : Int32) = 1 then some (some (Value.int (1 : Int32)), (mj_hw w c (mj_u hi 2 2 v4) hl)) else none := by
  rw [mj_den_eq, f112_108]
  exact zt_aload_n rfl rfl (zt_iload rfl rfl (zt_puti (mjkd2 _ _ _ _) rfl rfl (zt_iconst rfl (zt_ireturn1))))
set_option maxRecDepth 100000 in
theorem f113_0 : mj_find (mj_P 113).2.2.2.2 0 = [(.aload_n 0, 1, 0, []), (.getfield 26, 3, 0, [11, 3, 3, 643]), (.aload_n 0, 1, 0, []), (.getfield 12, 3, 0, [11, 0, 3, 640]), (.getfield 72, 3, 0, [10, 0, 3, 412]), (.invokevirtual 129, 3, 0, [0, 43, 5, 1, 0, 716, 717, 718, 149, 719])] := rfl
set_option maxRecDepth 100000 in
theorem q113_0 (E : mj_E) (d w c : Nat) (hi : Nat → Nat → Int32) (hl : Nat → Nat → Int64) : mj_den mj_P E d 113 0 [Value.ref 0, Value.float 0, Value.float 0] [] (mj_hw w c hi hl) = mj_bv (mj_dc mj_P E d 43 [Value.ref 91, Value.ref 2] (mj_hw w c hi hl)) (fun h1 => mj_den mj_P E d 113 14 [Value.ref 0, Value.float 0, Value.float 0] [] h1) := by
  rw [mj_den_eq, f113_0]
  exact zt_aload_n rfl rfl (zt_getr (mjkd0 _ _ _ _) (mjhr0_3 w c) rfl (zt_aload_n rfl rfl (zt_getr (mjkd0 _ _ _ _) (mjhr0_0 w c) rfl (zt_getr (mjkd1 _ _ _ _) (mjhr1_0 w c) rfl (zt_call0_0 rfl (mjkd91 _ _ _ _) (Nat.le_of_ble_eq_true rfl) rfl rfl)))))
set_option maxRecDepth 100000 in
theorem f113_14 : mj_find (mj_P 113).2.2.2.2 14 = [(.iconst 0, 1, 0, []), (.istore_n 1, 1, 0, []), (.iconst 0, 1, 0, []), (.istore_n 2, 1, 0, [])] := rfl
set_option maxRecDepth 100000 in
theorem q113_14 (E : mj_E) (d w c : Nat) (hi : Nat → Nat → Int32) (hl : Nat → Nat → Int64) : mj_den mj_P E d 113 14 [Value.ref 0, Value.float 0, Value.float 0] [] (mj_hw w c hi hl) = mj_den mj_P E d 113 18 [Value.ref 0, Value.int (0 : Int32), Value.int (0 : Int32)] [] (mj_hw w c hi hl) := by
  rw [mj_den_eq, f113_14]
  exact zt_iconst rfl (zt_istore_n (Nat.le_of_ble_eq_true rfl) rfl rfl (zt_iconst rfl (zt_istore_n (Nat.le_of_ble_eq_true rfl) rfl rfl (zt_end rfl))))
set_option maxRecDepth 100000 in
theorem f113_18 : mj_find (mj_P 113).2.2.2.2 18 = [(.iload_n 2, 1, 0, []), (.aload_n 0, 1, 0, []), (.getfield 12, 3, 0, [11, 0, 3, 640]), (.getfield 146, 3, 0, [10, 4, 3, 421]), (.getfield 150, 3, 0, [3, 0, 0, 330]), (.if_icmp .ge 61, 3, 0, [90]), (.iload_n 2, 1, 0, []), (.bipush 16, 2, 16, []), (.if_icmp .ge 55, 3, 0, [90]), (.aload_n 0, 1, 0, []), (.aload_n 0, 1, 0, []), (.getfield 12, 3, 0, [11, 0, 3, 640]), (.getfield 146, 3, 0, [10, 4, 3, 421]), (.getfield 155, 3, 0, [3, 1, 3, 332]), (.iload_n 2, 1, 0, []), (.iaload, 1, 0, []), (.aload_n 0, 1, 0, []), (.getfield 12, 3, 0, [11, 0, 3, 640]), (.getfield 146, 3, 0, [10, 4, 3, 421]), (.getfield 156, 3, 0, [3, 2, 3, 337]), (.iload_n 2, 1, 0, []), (.iaload, 1, 0, []), (.aload_n 0, 1, 0, []), (.getfield 12, 3, 0, [11, 0, 3, 640]), (.getfield 146, 3, 0, [10, 4, 3, 421]), (.getfield 159, 3, 0, [3, 3, 3, 342]), (.iload_n 2, 1, 0, []), (.iaload, 1, 0, []), (.invokevirtual 162, 3, 0, [0, 114, 11, 3, 1, 823, 825, 5, 143, 826])] := rfl
set_option maxRecDepth 100000 in
theorem q113_18 (E : mj_E) (d w c : Nat) (hi : Nat → Nat → Int32) (hl : Nat → Nat → Int64) (v1 : Int32) (v2 : Int32) : mj_den mj_P E d 113 18 [Value.ref 0, Value.int v1, Value.int v2] [] (mj_hw w c hi hl) = if (hi 30 0) ≤ v2 then mj_den mj_P E d 113 90 [Value.ref 0, Value.int v1, Value.int v2] [] (mj_hw w c hi hl) else if (16 : Int32) ≤ v2 then mj_den mj_P E d 113 90 [Value.ref 0, Value.int v1, Value.int v2] [] (mj_hw w c hi hl) else if 0 ≤ v2 ∧ (v2).toNatClampNeg < 16 then if 0 ≤ v2 ∧ (v2).toNatClampNeg < 16 then if 0 ≤ v2 ∧ (v2).toNatClampNeg < 16 then mj_bi (mj_dc mj_P E d 114 [Value.ref 0, Value.int (hi 31 ((v2).toNatClampNeg)), Value.int (hi 32 ((v2).toNatClampNeg)), Value.int (hi 33 ((v2).toNatClampNeg))] (mj_hw w c hi hl)) (fun x1 h1 => mj_den mj_P E d 113 78 [Value.ref 0, Value.int v1, Value.int v2] [Value.int x1] h1) else none else none else none := by
  rw [mj_den_eq, f113_18]
  exact zt_iload_n rfl rfl (zt_aload_n rfl rfl (zt_getr (mjkd0 _ _ _ _) (mjhr0_0 w c) rfl (zt_getr (mjkd1 _ _ _ _) (mjhr1_4 w c) rfl (zt_geti (mjkd30 _ _ _ _) rfl rfl (zt_icmp_ge rfl rfl (zt_iload_n rfl rfl (zt_bipush rfl (zt_icmp_ge rfl rfl (zt_aload_n rfl rfl (zt_aload_n rfl rfl (zt_getr (mjkd0 _ _ _ _) (mjhr0_0 w c) rfl (zt_getr (mjkd1 _ _ _ _) (mjhr1_4 w c) rfl (zt_getr (mjkd30 _ _ _ _) (mjhr30_1 w c) rfl (zt_iload_n rfl rfl (zt_iald (mjkd31 _ _ _ _) (mjln31 _ _ _ _) rfl rfl (zt_aload_n rfl rfl (zt_getr (mjkd0 _ _ _ _) (mjhr0_0 w c) rfl (zt_getr (mjkd1 _ _ _ _) (mjhr1_4 w c) rfl (zt_getr (mjkd30 _ _ _ _) (mjhr30_2 w c) rfl (zt_iload_n rfl rfl (zt_iald (mjkd32 _ _ _ _) (mjln32 _ _ _ _) rfl rfl (zt_aload_n rfl rfl (zt_getr (mjkd0 _ _ _ _) (mjhr0_0 w c) rfl (zt_getr (mjkd1 _ _ _ _) (mjhr1_4 w c) rfl (zt_getr (mjkd30 _ _ _ _) (mjhr30_3 w c) rfl (zt_iload_n rfl rfl (zt_iald (mjkd33 _ _ _ _) (mjln33 _ _ _ _) rfl rfl (zt_call0_1 rfl (mjkd0 _ _ _ _) (Nat.le_of_ble_eq_true rfl) rfl rfl))))))))))))))))))))))))))))
set_option maxRecDepth 100000 in
theorem f113_78 : mj_find (mj_P 113).2.2.2.2 78 = [(.ifCond .eq 6, 3, 0, [84]), (.iinc 1 1, 3, 1, [])] := rfl
set_option maxRecDepth 100000 in
theorem q113_78 (E : mj_E) (d w c : Nat) (hi : Nat → Nat → Int32) (hl : Nat → Nat → Int64) (v1 : Int32) (v2 : Int32) (s0 : Int32) : mj_den mj_P E d 113 78 [Value.ref 0, Value.int v1, Value.int v2] [Value.int s0] (mj_hw w c hi hl) = if s0 = 0 then mj_den mj_P E d 113 84 [Value.ref 0, Value.int v1, Value.int v2] [] (mj_hw w c hi hl) else mj_den mj_P E d 113 84 [Value.ref 0, Value.int (v1 + (1 : Int32)), Value.int v2] [] (mj_hw w c hi hl) := by
  rw [mj_den_eq, f113_78]
  exact zt_if_eq rfl rfl (zt_iinc rfl (Nat.le_of_ble_eq_true rfl) rfl rfl (zt_end rfl))
set_option maxRecDepth 100000 in
theorem f113_84 : mj_find (mj_P 113).2.2.2.2 84 = [(.iinc 2 1, 3, 1, []), (.goto (-69), 3, 0, [18])] := rfl
set_option maxRecDepth 100000 in
theorem q113_84 (E : mj_E) (d w c : Nat) (hi : Nat → Nat → Int32) (hl : Nat → Nat → Int64) (v1 : Int32) (v2 : Int32) : mj_den mj_P E d 113 84 [Value.ref 0, Value.int v1, Value.int v2] [] (mj_hw w c hi hl) = mj_den mj_P E d 113 18 [Value.ref 0, Value.int v1, Value.int (v2 + (1 : Int32))] [] (mj_hw w c hi hl) := by
  rw [mj_den_eq, f113_84]
  exact zt_iinc rfl (Nat.le_of_ble_eq_true rfl) rfl rfl (zt_goto rfl)
set_option maxRecDepth 100000 in
theorem f113_90 : mj_find (mj_P 113).2.2.2.2 90 = [(.iload_n 1, 1, 0, []), (.ireturn, 1, 0, [0])] := rfl
set_option maxRecDepth 100000 in
theorem q113_90 (E : mj_E) (d w c : Nat) (hi : Nat → Nat → Int32) (hl : Nat → Nat → Int64) (v1 : Int32) (v2 : Int32) : mj_den mj_P E d 113 90 [Value.ref 0, Value.int v1, Value.int v2] [] (mj_hw w c hi hl) = some (some (Value.int v1), (mj_hw w c hi hl)) := by
  rw [mj_den_eq, f113_90]
  exact zt_iload_n rfl rfl (zt_ireturn0)
set_option maxRecDepth 100000 in
theorem f114_0 : mj_find (mj_P 114).2.2.2.2 0 = [(.aload_n 0, 1, 0, []), (.getfield 12, 3, 0, [11, 0, 3, 640]), (.getfield 72, 3, 0, [10, 0, 3, 412]), (.astore 4, 2, 0, []), (.iload_n 1, 1, 0, []), (.ifCond .eq 31, 3, 0, [41]), (.aload 4, 2, 0, []), (.iload_n 2, 1, 0, []), (.invokevirtual 104, 3, 0, [0, 70, 7, 1, 1, 704, 705, 706, 145, 707])] := rfl
set_option maxRecDepth 100000 in
theorem q114_0 (E : mj_E) (d w c : Nat) (hi : Nat → Nat → Int32) (hl : Nat → Nat → Int64) (v1 : Int32) (v2 : Int32) (v3 : Int32) : mj_den mj_P E d 114 0 [Value.ref 0, Value.int v1, Value.int v2, Value.int v3, Value.float 0] [] (mj_hw w c hi hl) = if v1 = 0 then mj_den mj_P E d 114 41 [Value.ref 0, Value.int v1, Value.int v2, Value.int v3, Value.ref 2] [] (mj_hw w c hi hl) else mj_bi (mj_dc mj_P E d 70 [Value.ref 2, Value.int v2] (mj_hw w c hi hl)) (fun x1 h1 => mj_den mj_P E d 114 19 [Value.ref 0, Value.int v1, Value.int v2, Value.int v3, Value.ref 2] [Value.int x1] h1) := by
  rw [mj_den_eq, f114_0]
  exact zt_aload_n rfl rfl (zt_getr (mjkd0 _ _ _ _) (mjhr0_0 w c) rfl (zt_getr (mjkd1 _ _ _ _) (mjhr1_0 w c) rfl (zt_astore (Nat.le_of_ble_eq_true rfl) rfl rfl (zt_iload_n rfl rfl (zt_if_eq rfl rfl (zt_aload rfl rfl (zt_iload_n rfl rfl (zt_call0_1 rfl (mjkd2 _ _ _ _) (Nat.le_of_ble_eq_true rfl) rfl rfl))))))))
set_option maxRecDepth 100000 in
theorem f114_19 : mj_find (mj_P 114).2.2.2.2 19 = [(.ifCond .eq 20, 3, 0, [39]), (.aload 4, 2, 0, []), (.getfield 140, 3, 0, [7, 11, 3, 220]), (.iload_n 2, 1, 0, []), (.iload_n 1, 1, 0, []), (.iconst 1, 1, 1, []), (.if_icmp .ne 7, 3, 0, [37]), (.iconst 1, 1, 1, []), (.goto 4, 3, 0, [38])] := rfl
set_option maxRecDepth 100000 in
theorem q114_19 (E : mj_E) (d w c : Nat) (hi : Nat → Nat → Int32) (hl : Nat → Nat → Int64) (v1 : Int32) (v2 : Int32) (v3 : Int32) (s0 : Int32) : mj_den mj_P E d 114 19 [Value.ref 0, Value.int v1, Value.int v2, Value.int v3, Value.ref 2] [Value.int s0] (mj_hw w c hi hl) = if s0 = 0 then mj_den mj_P E d 114 39 [Value.ref 0, Value.int v1, Value.int v2, Value.int v3, Value.ref 2] [] (mj_hw w c hi hl) else if ¬ v1 = (1 : Int32) then mj_den mj_P E d 114 37 [Value.ref 0, Value.int v1, Value.int v2, Value.int v3, Value.ref 2] [Value.int v2, Value.ref 7] (mj_hw w c hi hl) else mj_den mj_P E d 114 38 [Value.ref 0, Value.int v1, Value.int v2, Value.int v3, Value.ref 2] [Value.int (1 : Int32), Value.int v2, Value.ref 7] (mj_hw w c hi hl) := by
  rw [mj_den_eq, f114_19]
  exact zt_if_eq rfl rfl (zt_aload rfl rfl (zt_getr (mjkd2 _ _ _ _) (mjhr2_11 w c) rfl (zt_iload_n rfl rfl (zt_iload_n rfl rfl (zt_iconst rfl (zt_icmp_ne rfl rfl (zt_iconst rfl (zt_goto rfl))))))))
set_option maxRecDepth 100000 in
theorem f114_37 : mj_find (mj_P 114).2.2.2.2 37 = [(.iconst 0, 1, 0, [])] := rfl
set_option maxRecDepth 100000 in
theorem q114_37 (E : mj_E) (d w c : Nat) (hi : Nat → Nat → Int32) (hl : Nat → Nat → Int64) (v1 : Int32) (v2 : Int32) (v3 : Int32) (s0 : Int32) : mj_den mj_P E d 114 37 [Value.ref 0, Value.int v1, Value.int v2, Value.int v3, Value.ref 2] [Value.int s0, Value.ref 7] (mj_hw w c hi hl) = mj_den mj_P E d 114 38 [Value.ref 0, Value.int v1, Value.int v2, Value.int v3, Value.ref 2] [Value.int (0 : Int32), Value.int s0, Value.ref 7] (mj_hw w c hi hl) := by
  rw [mj_den_eq, f114_37]
  exact zt_iconst rfl (zt_end rfl)
set_option maxRecDepth 100000 in
theorem f114_38 : mj_find (mj_P 114).2.2.2.2 38 = [(.iastore, 1, 0, [])] := rfl
set_option maxRecDepth 100000 in
theorem q114_38 (E : mj_E) (d w c : Nat) (hi : Nat → Nat → Int32) (hl : Nat → Nat → Int64) (v1 : Int32) (v2 : Int32) (v3 : Int32) (s0 : Int32) (s1 : Int32) : mj_den mj_P E d 114 38 [Value.ref 0, Value.int v1, Value.int v2, Value.int v3, Value.ref 2] [Value.int s0, Value.int s1, Value.ref 7] (mj_hw w c hi hl) = if 0 ≤ s1 ∧ (s1).toNatClampNeg < 10 then mj_den mj_P E d 114 39 [Value.ref 0, Value.int v1, Value.int v2, Value.int v3, Value.ref 2] [] (mj_hw w c (mj_u hi 7 ((s1).toNatClampNeg) s0) hl) else none := by
  rw [mj_den_eq, f114_38]
  exact zt_iast (mjkd7 _ _ _ _) (mjln7 _ _ _ _) rfl rfl (zt_end rfl)
set_option maxRecDepth 100000 in
theorem f114_39 : mj_find (mj_P 114).2.2.2.2 39 = [(.iconst 0, 1, 0, []), (.ireturn, 1, 0, [1])] := rfl
set_option maxRecDepth 100000 in
theorem q114_39 (E : mj_E) (d w c : Nat) (hi : Nat → Nat → Int32) (hl : Nat → Nat → Int64) (v1 : Int32) (v2 : Int32) (v3 : Int32) : mj_den mj_P E d 114 39 [Value.ref 0, Value.int v1, Value.int v2, Value.int v3, Value.ref 2] [] (mj_hw w c hi hl) = if (0 : Int32) = 0 ∨ (0 : Int32) = 1 then some (some (Value.int (0 : Int32)), (mj_hw w c hi hl)) else none := by
  rw [mj_den_eq, f114_39]
  exact zt_iconst rfl (zt_ireturn1)
set_option maxRecDepth 100000 in
theorem f114_41 : mj_find (mj_P 114).2.2.2.2 41 = [(.iload_n 3, 1, 0, []), (.iconst 3, 1, 3, []), (.if_icmp .eq 8, 3, 0, [51]), (.iload_n 3, 1, 0, []), (.iconst 4, 1, 4, []), (.if_icmp .ne 18, 3, 0, [66])] := rfl
set_option maxRecDepth 100000 in
theorem q114_41 (E : mj_E) (d w c : Nat) (hi : Nat → Nat → Int32) (hl : Nat → Nat → Int64) (v1 : Int32) (v2 : Int32) (v3 : Int32) : mj_den mj_P E d 114 41 [Value.ref 0, Value.int v1, Value.int v2, Value.int v3, Value.ref 2] [] (mj_hw w c hi hl) = if v3 = (3 : Int32) then mj_den mj_P E d 114 51 [Value.ref 0, Value.int v1, Value.int v2, Value.int v3, Value.ref 2] [] (mj_hw w c hi hl) else if ¬ v3 = (4 : Int32) then mj_den mj_P E d 114 66 [Value.ref 0, Value.int v1, Value.int v2, Value.int v3, Value.ref 2] [] (mj_hw w c hi hl) else mj_den mj_P E d 114 51 [Value.ref 0, Value.int v1, Value.int v2, Value.int v3, Value.ref 2] [] (mj_hw w c hi hl) := by
  rw [mj_den_eq, f114_41]
  exact zt_iload_n rfl rfl (zt_iconst rfl (zt_icmp_eq rfl rfl (zt_iload_n rfl rfl (zt_iconst rfl (zt_icmp_ne rfl rfl (zt_end rfl))))))
set_option maxRecDepth 100000 in
theorem f114_51 : mj_find (mj_P 114).2.2.2.2 51 = [(.aload 4, 2, 0, []), (.iload_n 3, 1, 0, []), (.iconst 3, 1, 3, []), (.if_icmp .ne 7, 3, 0, [62]), (.iconst 1, 1, 1, []), (.goto 4, 3, 0, [63])] := rfl
set_option maxRecDepth 100000 in
theorem q114_51 (E : mj_E) (d w c : Nat) (hi : Nat → Nat → Int32) (hl : Nat → Nat → Int64) (v1 : Int32) (v2 : Int32) (v3 : Int32) : mj_den mj_P E d 114 51 [Value.ref 0, Value.int v1, Value.int v2, Value.int v3, Value.ref 2] [] (mj_hw w c hi hl) = if ¬ v3 = (3 : Int32) then mj_den mj_P E d 114 62 [Value.ref 0, Value.int v1, Value.int v2, Value.int v3, Value.ref 2] [Value.ref 2] (mj_hw w c hi hl) else mj_den mj_P E d 114 63 [Value.ref 0, Value.int v1, Value.int v2, Value.int v3, Value.ref 2] [Value.int (1 : Int32), Value.ref 2] (mj_hw w c hi hl) := by
  rw [mj_den_eq, f114_51]
  exact zt_aload rfl rfl (zt_iload_n rfl rfl (zt_iconst rfl (zt_icmp_ne rfl rfl (zt_iconst rfl (zt_goto rfl)))))
set_option maxRecDepth 100000 in
theorem f114_62 : mj_find (mj_P 114).2.2.2.2 62 = [(.iconst 0, 1, 0, [])] := rfl
set_option maxRecDepth 100000 in
theorem q114_62 (E : mj_E) (d w c : Nat) (hi : Nat → Nat → Int32) (hl : Nat → Nat → Int64) (v1 : Int32) (v2 : Int32) (v3 : Int32) : mj_den mj_P E d 114 62 [Value.ref 0, Value.int v1, Value.int v2, Value.int v3, Value.ref 2] [Value.ref 2] (mj_hw w c hi hl) = mj_den mj_P E d 114 63 [Value.ref 0, Value.int v1, Value.int v2, Value.int v3, Value.ref 2] [Value.int (0 : Int32), Value.ref 2] (mj_hw w c hi hl) := by
  rw [mj_den_eq, f114_62]
  exact zt_iconst rfl (zt_end rfl)
set_option maxRecDepth 100000 in
theorem f114_63 : mj_find (mj_P 114).2.2.2.2 63 = [(.putfield 143, 3, 0, [7, 2, 0, 193])] := rfl
set_option maxRecDepth 100000 in
theorem q114_63 (E : mj_E) (d w c : Nat) (hi : Nat → Nat → Int32) (hl : Nat → Nat → Int64) (v1 : Int32) (v2 : Int32) (v3 : Int32) (s0 : Int32) : mj_den mj_P E d 114 63 [Value.ref 0, Value.int v1, Value.int v2, Value.int v3, Value.ref 2] [Value.int s0, Value.ref 2] (mj_hw w c hi hl) = mj_den mj_P E d 114 66 [Value.ref 0, Value.int v1, Value.int v2, Value.int v3, Value.ref 2] [] (mj_hw w c (mj_u hi 2 2 s0) hl) := by
  rw [mj_den_eq, f114_63]
  exact zt_puti (mjkd2 _ _ _ _) rfl rfl (zt_end rfl)
set_option maxRecDepth 100000 in
theorem f114_66 : mj_find (mj_P 114).2.2.2.2 66 = [(.aload 4, 2, 0, []), (.iload_n 2, 1, 0, []), (.invokevirtual 108, 3, 0, [0, 71, 7, 1, 1, 708, 709, 710, 145, 711])] := rfl
set_option maxRecDepth 100000 in
theorem q114_66 (E : mj_E) (d w c : Nat) (hi : Nat → Nat → Int32) (hl : Nat → Nat → Int64) (v1 : Int32) (v2 : Int32) (v3 : Int32) : mj_den mj_P E d 114 66 [Value.ref 0, Value.int v1, Value.int v2, Value.int v3, Value.ref 2] [] (mj_hw w c hi hl) = mj_bi (mj_dc mj_P E d 71 [Value.ref 2, Value.int v2] (mj_hw w c hi hl)) (fun x1 h1 => mj_den mj_P E d 114 72 [Value.ref 0, Value.int v1, Value.int v2, Value.int v3, Value.ref 2] [Value.int x1] h1) := by
  rw [mj_den_eq, f114_66]
  exact zt_aload rfl rfl (zt_iload_n rfl rfl (zt_call0_1 rfl (mjkd2 _ _ _ _) (Nat.le_of_ble_eq_true rfl) rfl rfl))
set_option maxRecDepth 100000 in
theorem f114_72 : mj_find (mj_P 114).2.2.2.2 72 = [(.ifCond .eq 14, 3, 0, [86]), (.aload 4, 2, 0, []), (.getfield 126, 3, 0, [7, 16, 3, 238]), (.iload_n 2, 1, 0, []), (.iaload, 1, 0, []), (.iconst (-1), 1, (-1), []), (.if_icmp .eq 5, 3, 0, [88])] := rfl
set_option maxRecDepth 100000 in
theorem q114_72 (E : mj_E) (d w c : Nat) (hi : Nat → Nat → Int32) (hl : Nat → Nat → Int64) (v1 : Int32) (v2 : Int32) (v3 : Int32) (s0 : Int32) : mj_den mj_P E d 114 72 [Value.ref 0, Value.int v1, Value.int v2, Value.int v3, Value.ref 2] [Value.int s0] (mj_hw w c hi hl) = if s0 = 0 then mj_den mj_P E d 114 86 [Value.ref 0, Value.int v1, Value.int v2, Value.int v3, Value.ref 2] [] (mj_hw w c hi hl) else if 0 ≤ v2 ∧ (v2).toNatClampNeg < 12 then if (hi 12 ((v2).toNatClampNeg)) = (-1 : Int32) then mj_den mj_P E d 114 88 [Value.ref 0, Value.int v1, Value.int v2, Value.int v3, Value.ref 2] [] (mj_hw w c hi hl) else mj_den mj_P E d 114 86 [Value.ref 0, Value.int v1, Value.int v2, Value.int v3, Value.ref 2] [] (mj_hw w c hi hl) else none := by
  rw [mj_den_eq, f114_72]
  exact zt_if_eq rfl rfl (zt_aload rfl rfl (zt_getr (mjkd2 _ _ _ _) (mjhr2_16 w c) rfl (zt_iload_n rfl rfl (zt_iald (mjkd12 _ _ _ _) (mjln12 _ _ _ _) rfl rfl (zt_iconst rfl (zt_icmp_eq rfl rfl (zt_end rfl)))))))
set_option maxRecDepth 100000 in
theorem f114_86 : mj_find (mj_P 114).2.2.2.2 86 = [(.iconst 0, 1, 0, []), (.ireturn, 1, 0, [1])] := rfl
set_option maxRecDepth 100000 in
theorem q114_86 (E : mj_E) (d w c : Nat) (hi : Nat → Nat → Int32) (hl : Nat → Nat → Int64) (v1 : Int32) (v2 : Int32) (v3 : Int32) : mj_den mj_P E d 114 86 [Value.ref 0, Value.int v1, Value.int v2, Value.int v3, Value.ref 2] [] (mj_hw w c hi hl) = if (0 : Int32) = 0 ∨ (0 : Int32) = 1 then some (some (Value.int (0 : Int32)), (mj_hw w c hi hl)) else none := by
  rw [mj_den_eq, f114_86]
  exact zt_iconst rfl (zt_ireturn1)
set_option maxRecDepth 100000 in
theorem f114_88 : mj_find (mj_P 114).2.2.2.2 88 = [(.aload_n 0, 1, 0, []), (.getfield 47, 3, 0, [11, 6, 3, 646]), (.aload_n 0, 1, 0, []), (.getfield 12, 3, 0, [11, 0, 3, 640]), (.aload 4, 2, 0, []), (.iload_n 2, 1, 0, []), (.iconst 0, 1, 0, []), (.invokevirtual 133, 3, 0, [0, 1, 0, 4, 0, 734, 735, 736, 151, 737])] := rfl
set_option maxRecDepth 100000 in
theorem q114_88 (E : mj_E) (d w c : Nat) (hi : Nat → Nat → Int32) (hl : Nat → Nat → Int64) (v1 : Int32) (v2 : Int32) (v3 : Int32) : mj_den mj_P E d 114 88 [Value.ref 0, Value.int v1, Value.int v2, Value.int v3, Value.ref 2] [] (mj_hw w c hi hl) = mj_bv (mj_dc mj_P E d 1 [Value.ref 188, Value.ref 1, Value.ref 2, Value.int v2, Value.int (0 : Int32)] (mj_hw w c hi hl)) (fun h1 => mj_den mj_P E d 114 103 [Value.ref 0, Value.int v1, Value.int v2, Value.int v3, Value.ref 2] [] h1) := by
  rw [mj_den_eq, f114_88]
  exact zt_aload_n rfl rfl (zt_getr (mjkd0 _ _ _ _) (mjhr0_6 w c) rfl (zt_aload_n rfl rfl (zt_getr (mjkd0 _ _ _ _) (mjhr0_0 w c) rfl (zt_aload rfl rfl (zt_iload_n rfl rfl (zt_iconst rfl (zt_call0_0 rfl (mjkd188 _ _ _ _) (Nat.le_of_ble_eq_true rfl) rfl rfl)))))))
set_option maxRecDepth 100000 in
theorem f114_103 : mj_find (mj_P 114).2.2.2.2 103 = [(.aload_n 0, 1, 0, []), (.getfield 47, 3, 0, [11, 6, 3, 646]), (.getfield 137, 3, 0, [0, 0, 0, 551]), (.iconst (-1), 1, (-1), []), (.if_icmp .eq 7, 3, 0, [118]), (.iconst 1, 1, 1, []), (.goto 4, 3, 0, [119])] := rfl
set_option maxRecDepth 100000 in
theorem q114_103 (E : mj_E) (d w c : Nat) (hi : Nat → Nat → Int32) (hl : Nat → Nat → Int64) (v1 : Int32) (v2 : Int32) (v3 : Int32) : mj_den mj_P E d 114 103 [Value.ref 0, Value.int v1, Value.int v2, Value.int v3, Value.ref 2] [] (mj_hw w c hi hl) = if (hi 188 0) = (-1 : Int32) then mj_den mj_P E d 114 118 [Value.ref 0, Value.int v1, Value.int v2, Value.int v3, Value.ref 2] [] (mj_hw w c hi hl) else mj_den mj_P E d 114 119 [Value.ref 0, Value.int v1, Value.int v2, Value.int v3, Value.ref 2] [Value.int (1 : Int32)] (mj_hw w c hi hl) := by
  rw [mj_den_eq, f114_103]
  exact zt_aload_n rfl rfl (zt_getr (mjkd0 _ _ _ _) (mjhr0_6 w c) rfl (zt_geti (mjkd188 _ _ _ _) rfl rfl (zt_iconst rfl (zt_icmp_eq rfl rfl (zt_iconst rfl (zt_goto rfl))))))
set_option maxRecDepth 100000 in
theorem f114_118 : mj_find (mj_P 114).2.2.2.2 118 = [(.iconst 0, 1, 0, [])] := rfl
set_option maxRecDepth 100000 in
theorem q114_118 (E : mj_E) (d w c : Nat) (hi : Nat → Nat → Int32) (hl : Nat → Nat → Int64) (v1 : Int32) (v2 : Int32) (v3 : Int32) : mj_den mj_P E d 114 118 [Value.ref 0, Value.int v1, Value.int v2, Value.int v3, Value.ref 2] [] (mj_hw w c hi hl) = mj_den mj_P E d 114 119 [Value.ref 0, Value.int v1, Value.int v2, Value.int v3, Value.ref 2] [Value.int (0 : Int32)] (mj_hw w c hi hl) := by
  rw [mj_den_eq, f114_118]
  exact zt_iconst rfl (zt_end rfl)
set_option maxRecDepth 100000 in
theorem f114_119 : mj_find (mj_P 114).2.2.2.2 119 = [(.ireturn, 1, 0, [1])] := rfl
set_option maxRecDepth 100000 in
theorem q114_119 (E : mj_E) (d w c : Nat) (hi : Nat → Nat → Int32) (hl : Nat → Nat → Int64) (v1 : Int32) (v2 : Int32) (v3 : Int32) (s0 : Int32) : mj_den mj_P E d 114 119 [Value.ref 0, Value.int v1, Value.int v2, Value.int v3, Value.ref 2] [Value.int s0] (mj_hw w c hi hl) = if s0 = 0 ∨ s0 = 1 then some (some (Value.int s0), (mj_hw w c hi hl)) else none := by
  rw [mj_den_eq, f114_119]
  exact zt_ireturn1
set_option maxRecDepth 100000 in
theorem f115_0 : mj_find (mj_P 115).2.2.2.2 0 = [(.aload_n 0, 1, 0, []), (.getfield 33, 3, 0, [11, 4, 3, 644]), (.getfield 166, 3, 0, [6, 0, 0, 485]), (.bipush 20, 2, 20, []), (.iadd, 1, 0, []), (.sipush 400, 3, 400, []), (.if_icmp .le 5, 3, 0, [18]), (.iconst (-1), 1, (-1), []), (.ireturn, 1, 0, [0])] := rfl
set_option maxRecDepth 100000 in
theorem q115_0 (E : mj_E) (d w c : Nat) (hi : Nat → Nat → Int32) (hl : Nat → Nat → Int64) (v1 : Int32) (v2 : Int32) (v3 : Int32) (v4 : Int32) (v5 : Int32) : mj_den mj_P E d 115 0 [Value.ref 0, Value.int v1, Value.int v2, Value.int v3, Value.int v4, Value.int v5] [] (mj_hw w c hi hl) = if ((hi 159 0) + (20 : Int32)) ≤ (400 : Int32) then mj_den mj_P E d 115 18 [Value.ref 0, Value.int v1, Value.int v2, Value.int v3, Value.int v4, Value.int v5] [] (mj_hw w c hi hl) else some (some (Value.int (-1 : Int32)), (mj_hw w c hi hl)) := by
  rw [mj_den_eq, f115_0]
  exact zt_aload_n rfl rfl (zt_getr (mjkd0 _ _ _ _) (mjhr0_4 w c) rfl (zt_geti (mjkd159 _ _ _ _) rfl rfl (zt_bipush rfl (zt_iadd rfl (zt_sipush rfl (zt_icmp_le rfl rfl (zt_iconst rfl (zt_ireturn0))))))))
set_option maxRecDepth 100000 in
theorem f115_18 : mj_find (mj_P 115).2.2.2.2 18 = [(.aload_n 0, 1, 0, []), (.getfield 33, 3, 0, [11, 4, 3, 644]), (.iload_n 1, 1, 0, []), (.invokevirtual 169, 3, 0, [0, 47, 6, 1, 0, 831, 832, 833, 150, 834])] := rfl
set_option maxRecDepth 100000 in
theorem q115_18 (E : mj_E) (d w c : Nat) (hi : Nat → Nat → Int32) (hl : Nat → Nat → Int64) (v1 : Int32) (v2 : Int32) (v3 : Int32) (v4 : Int32) (v5 : Int32) : mj_den mj_P E d 115 18 [Value.ref 0, Value.int v1, Value.int v2, Value.int v3, Value.int v4, Value.int v5] [] (mj_hw w c hi hl) = mj_bv (mj_dc mj_P E d 47 [Value.ref 159, Value.int v1] (mj_hw w c hi hl)) (fun h1 => mj_den mj_P E d 115 26 [Value.ref 0, Value.int v1, Value.int v2, Value.int v3, Value.int v4, Value.int v5] [] h1) := by
  rw [mj_den_eq, f115_18]
  exact zt_aload_n rfl rfl (zt_getr (mjkd0 _ _ _ _) (mjhr0_4 w c) rfl (zt_iload_n rfl rfl (zt_call0_0 rfl (mjkd159 _ _ _ _) (Nat.le_of_ble_eq_true rfl) rfl rfl)))
set_option maxRecDepth 100000 in
theorem f115_26 : mj_find (mj_P 115).2.2.2.2 26 = [(.aload_n 0, 1, 0, []), (.getfield 33, 3, 0, [11, 4, 3, 644]), (.iload_n 2, 1, 0, []), (.invokevirtual 169, 3, 0, [0, 47, 6, 1, 0, 831, 832, 833, 150, 834])] := rfl
set_option maxRecDepth 100000 in
theorem q115_26 (E : mj_E) (d w c : Nat) (hi : Nat → Nat → Int32) (hl : Nat → Nat → Int64) (v1 : Int32) (v2 : Int32) (v3 : Int32) (v4 : Int32) (v5 : Int32) : mj_den mj_P E d 115 26 [Value.ref 0, Value.int v1, Value.int v2, Value.int v3, Value.int v4, Value.int v5] [] (mj_hw w c hi hl) = mj_bv (mj_dc mj_P E d 47 [Value.ref 159, Value.int v2] (mj_hw w c hi hl)) (fun h1 => mj_den mj_P E d 115 34 [Value.ref 0, Value.int v1, Value.int v2, Value.int v3, Value.int v4, Value.int v5] [] h1) := by
  rw [mj_den_eq, f115_26]
  exact zt_aload_n rfl rfl (zt_getr (mjkd0 _ _ _ _) (mjhr0_4 w c) rfl (zt_iload_n rfl rfl (zt_call0_0 rfl (mjkd159 _ _ _ _) (Nat.le_of_ble_eq_true rfl) rfl rfl)))
set_option maxRecDepth 100000 in
theorem f115_34 : mj_find (mj_P 115).2.2.2.2 34 = [(.aload_n 0, 1, 0, []), (.getfield 33, 3, 0, [11, 4, 3, 644]), (.iload_n 3, 1, 0, []), (.invokevirtual 169, 3, 0, [0, 47, 6, 1, 0, 831, 832, 833, 150, 834])] := rfl
set_option maxRecDepth 100000 in
theorem q115_34 (E : mj_E) (d w c : Nat) (hi : Nat → Nat → Int32) (hl : Nat → Nat → Int64) (v1 : Int32) (v2 : Int32) (v3 : Int32) (v4 : Int32) (v5 : Int32) : mj_den mj_P E d 115 34 [Value.ref 0, Value.int v1, Value.int v2, Value.int v3, Value.int v4, Value.int v5] [] (mj_hw w c hi hl) = mj_bv (mj_dc mj_P E d 47 [Value.ref 159, Value.int v3] (mj_hw w c hi hl)) (fun h1 => mj_den mj_P E d 115 42 [Value.ref 0, Value.int v1, Value.int v2, Value.int v3, Value.int v4, Value.int v5] [] h1) := by
  rw [mj_den_eq, f115_34]
  exact zt_aload_n rfl rfl (zt_getr (mjkd0 _ _ _ _) (mjhr0_4 w c) rfl (zt_iload_n rfl rfl (zt_call0_0 rfl (mjkd159 _ _ _ _) (Nat.le_of_ble_eq_true rfl) rfl rfl)))
set_option maxRecDepth 100000 in
theorem f115_42 : mj_find (mj_P 115).2.2.2.2 42 = [(.aload_n 0, 1, 0, []), (.getfield 33, 3, 0, [11, 4, 3, 644]), (.iload 4, 2, 0, []), (.invokevirtual 169, 3, 0, [0, 47, 6, 1, 0, 831, 832, 833, 150, 834])] := rfl
set_option maxRecDepth 100000 in
theorem q115_42 (E : mj_E) (d w c : Nat) (hi : Nat → Nat → Int32) (hl : Nat → Nat → Int64) (v1 : Int32) (v2 : Int32) (v3 : Int32) (v4 : Int32) (v5 : Int32) : mj_den mj_P E d 115 42 [Value.ref 0, Value.int v1, Value.int v2, Value.int v3, Value.int v4, Value.int v5] [] (mj_hw w c hi hl) = mj_bv (mj_dc mj_P E d 47 [Value.ref 159, Value.int v4] (mj_hw w c hi hl)) (fun h1 => mj_den mj_P E d 115 51 [Value.ref 0, Value.int v1, Value.int v2, Value.int v3, Value.int v4, Value.int v5] [] h1) := by
  rw [mj_den_eq, f115_42]
  exact zt_aload_n rfl rfl (zt_getr (mjkd0 _ _ _ _) (mjhr0_4 w c) rfl (zt_iload rfl rfl (zt_call0_0 rfl (mjkd159 _ _ _ _) (Nat.le_of_ble_eq_true rfl) rfl rfl)))
set_option maxRecDepth 100000 in
theorem f115_51 : mj_find (mj_P 115).2.2.2.2 51 = [(.aload_n 0, 1, 0, []), (.getfield 33, 3, 0, [11, 4, 3, 644]), (.iload 5, 2, 0, []), (.invokevirtual 169, 3, 0, [0, 47, 6, 1, 0, 831, 832, 833, 150, 834])] := rfl
set_option maxRecDepth 100000 in
theorem q115_51 (E : mj_E) (d w c : Nat) (hi : Nat → Nat → Int32) (hl : Nat → Nat → Int64) (v1 : Int32) (v2 : Int32) (v3 : Int32) (v4 : Int32) (v5 : Int32) : mj_den mj_P E d 115 51 [Value.ref 0, Value.int v1, Value.int v2, Value.int v3, Value.int v4, Value.int v5] [] (mj_hw w c hi hl) = mj_bv (mj_dc mj_P E d 47 [Value.ref 159, Value.int v5] (mj_hw w c hi hl)) (fun h1 => mj_den mj_P E d 115 60 [Value.ref 0, Value.int v1, Value.int v2, Value.int v3, Value.int v4, Value.int v5] [] h1) := by
  rw [mj_den_eq, f115_51]
  exact zt_aload_n rfl rfl (zt_getr (mjkd0 _ _ _ _) (mjhr0_4 w c) rfl (zt_iload rfl rfl (zt_call0_0 rfl (mjkd159 _ _ _ _) (Nat.le_of_ble_eq_true rfl) rfl rfl)))
set_option maxRecDepth 100000 in
theorem f115_60 : mj_find (mj_P 115).2.2.2.2 60 = [(.aload_n 0, 1, 0, []), (.getfield 33, 3, 0, [11, 4, 3, 644]), (.getfield 166, 3, 0, [6, 0, 0, 485]), (.ireturn, 1, 0, [0])] := rfl
set_option maxRecDepth 100000 in
theorem q115_60 (E : mj_E) (d w c : Nat) (hi : Nat → Nat → Int32) (hl : Nat → Nat → Int64) (v1 : Int32) (v2 : Int32) (v3 : Int32) (v4 : Int32) (v5 : Int32) : mj_den mj_P E d 115 60 [Value.ref 0, Value.int v1, Value.int v2, Value.int v3, Value.int v4, Value.int v5] [] (mj_hw w c hi hl) = some (some (Value.int (hi 159 0)), (mj_hw w c hi hl)) := by
  rw [mj_den_eq, f115_60]
  exact zt_aload_n rfl rfl (zt_getr (mjkd0 _ _ _ _) (mjhr0_4 w c) rfl (zt_geti (mjkd159 _ _ _ _) rfl rfl (zt_ireturn0)))
set_option maxRecDepth 100000 in
theorem f116_0 : mj_find (mj_P 116).2.2.2.2 0 = [(.iload_n 1, 1, 0, []), (.aload_n 0, 1, 0, []), (.getfield 33, 3, 0, [11, 4, 3, 644]), (.getfield 166, 3, 0, [6, 0, 0, 485]), (.invokestatic 82, 3, 0, [1, 147, 0, 2, 1, 683, 684, 143, 685])] := rfl
set_option maxRecDepth 100000 in
theorem q116_0 (E : mj_E) (d w c : Nat) (hi : Nat → Nat → Int32) (hl : Nat → Nat → Int64) (v1 : Int32) : mj_den mj_P E d 116 0 [Value.ref 0, Value.int v1] [] (mj_hw w c hi hl) = mj_bi (mj_dc mj_P E d 147 [Value.int v1, Value.int (hi 159 0)] (mj_hw w c hi hl)) (fun x1 h1 => mj_den mj_P E d 116 11 [Value.ref 0, Value.int v1] [Value.int x1] h1) := by
  rw [mj_den_eq, f116_0]
  exact zt_iload_n rfl rfl (zt_aload_n rfl rfl (zt_getr (mjkd0 _ _ _ _) (mjhr0_4 w c) rfl (zt_geti (mjkd159 _ _ _ _) rfl rfl (zt_call1_1 (Nat.le_of_ble_eq_true rfl) rfl (Nat.le_of_ble_eq_true rfl) rfl rfl))))
set_option maxRecDepth 100000 in
theorem f116_11 : mj_find (mj_P 116).2.2.2.2 11 = [(.ifCond .ne 5, 3, 0, [16]), (.iconst 0, 1, 0, []), (.ireturn, 1, 0, [1])] := rfl
set_option maxRecDepth 100000 in
theorem q116_11 (E : mj_E) (d w c : Nat) (hi : Nat → Nat → Int32) (hl : Nat → Nat → Int64) (v1 : Int32) (s0 : Int32) : mj_den mj_P E d 116 11 [Value.ref 0, Value.int v1] [Value.int s0] (mj_hw w c hi hl) = if ¬ s0 = 0 then mj_den mj_P E d 116 16 [Value.ref 0, Value.int v1] [] (mj_hw w c hi hl) else if (0 : Int32) = 0 ∨ (0 : Int32) = 1 then some (some (Value.int (0 : Int32)), (mj_hw w c hi hl)) else none := by
  rw [mj_den_eq, f116_11]
  exact zt_if_ne rfl rfl (zt_iconst rfl (zt_ireturn1))
set_option maxRecDepth 100000 in
theorem f116_16 : mj_find (mj_P 116).2.2.2.2 16 = [(.aload_n 0, 1, 0, []), (.getfield 33, 3, 0, [11, 4, 3, 644]), (.iload_n 1, 1, 0, []), (.putfield 166, 3, 0, [6, 0, 0, 485]), (.iconst 1, 1, 1, []), (.ireturn, 1, 0, [1])] := rfl
set_option maxRecDepth 100000 in
theorem q116_16 (E : mj_E) (d w c : Nat) (hi : Nat → Nat → Int32) (hl : Nat → Nat → Int64) (v1 : Int32) : mj_den mj_P E d 116 16 [Value.ref 0, Value.int v1] [] (mj_hw w c hi hl) = if (1 : Int32) = 0 ∨ (1 : Int32) = 1 then some (some (Value.int (1 : Int32)), (mj_hw w c (mj_u hi 159 0 v1) hl)) else none := by
  rw [mj_den_eq, f116_16]
  exact zt_aload_n rfl rfl (zt_getr (mjkd0 _ _ _ _) (mjhr0_4 w c) rfl (zt_iload_n rfl rfl (zt_puti (mjkd159 _ _ _ _) rfl rfl (zt_iconst rfl (zt_ireturn1)))))
set_option maxRecDepth 100000 in
theorem f117_0 : mj_find (mj_P 117).2.2.2.2 0 = [(.aload_n 0, 1, 0, []), (.getfield 33, 3, 0, [11, 4, 3, 644]), (.iconst 0, 1, 0, []), (.putfield 173, 3, 0, [6, 1, 0, 487]), (.aload_n 0, 1, 0, []), (.getfield 33, 3, 0, [11, 4, 3, 644]), (.iconst (-1), 1, (-1), []), (.putfield 176, 3, 0, [6, 2, 0, 489]), (.iload_n 1, 1, 0, []), (.iconst 3, 1, 3, []), (.invokestatic 82, 3, 0, [1, 147, 0, 2, 1, 683, 684, 143, 685])] := rfl
set_option maxRecDepth 100000 in
theorem q117_0 (E : mj_E) (d w c : Nat) (hi : Nat → Nat → Int32) (hl : Nat → Nat → Int64) (v1 : Int32) : mj_den mj_P E d 117 0 [Value.ref 0, Value.int v1, Value.float 0, Value.float 0] [] (mj_hw w c hi hl) = mj_bi (mj_dc mj_P E d 147 [Value.int v1, Value.int (3 : Int32)] (mj_hw w c (mj_u (mj_u hi 159 1 (0 : Int32)) 159 2 (-1 : Int32)) hl)) (fun x1 h1 => mj_den mj_P E d 117 21 [Value.ref 0, Value.int v1, Value.float 0, Value.float 0] [Value.int x1] h1) := by
  rw [mj_den_eq, f117_0]
  exact zt_aload_n rfl rfl (zt_getr (mjkd0 _ _ _ _) (mjhr0_4 w c) rfl (zt_iconst rfl (zt_puti (mjkd159 _ _ _ _) rfl rfl (zt_aload_n rfl rfl (zt_getr (mjkd0 _ _ _ _) (mjhr0_4 w c) rfl (zt_iconst rfl (zt_puti (mjkd159 _ _ _ _) rfl rfl (zt_iload_n rfl rfl (zt_iconst rfl (zt_call1_1 (Nat.le_of_ble_eq_true rfl) rfl (Nat.le_of_ble_eq_true rfl) rfl rfl))))))))))
set_option maxRecDepth 100000 in
theorem f117_21 : mj_find (mj_P 117).2.2.2.2 21 = [(.ifCond .eq 38, 3, 0, [59]), (.aload_n 0, 1, 0, []), (.getfield 33, 3, 0, [11, 4, 3, 644]), (.iload_n 1, 1, 0, []), (.aload_n 0, 1, 0, []), (.getfield 12, 3, 0, [11, 0, 3, 640]), (.getfield 72, 3, 0, [10, 0, 3, 412]), (.getfield 86, 3, 0, [7, 0, 0, 187]), (.aload_n 0, 1, 0, []), (.getfield 12, 3, 0, [11, 0, 3, 640]), (.getfield 72, 3, 0, [10, 0, 3, 412]), (.getfield 93, 3, 0, [7, 1, 0, 190]), (.invokevirtual 179, 3, 0, [0, 48, 6, 3, 1, 843, 844, 845, 150, 846])] := rfl
set_option maxRecDepth 100000 in
theorem q117_21 (E : mj_E) (d w c : Nat) (hi : Nat → Nat → Int32) (hl : Nat → Nat → Int64) (v1 : Int32) (s0 : Int32) : mj_den mj_P E d 117 21 [Value.ref 0, Value.int v1, Value.float 0, Value.float 0] [Value.int s0] (mj_hw w c hi hl) = if s0 = 0 then mj_den mj_P E d 117 59 [Value.ref 0, Value.int v1, Value.float 0, Value.float 0] [] (mj_hw w c hi hl) else mj_bi (mj_dc mj_P E d 48 [Value.ref 159, Value.int v1, Value.int (hi 2 0), Value.int (hi 2 1)] (mj_hw w c hi hl)) (fun x1 h1 => mj_den mj_P E d 117 52 [Value.ref 0, Value.int v1, Value.float 0, Value.float 0] [Value.int x1] h1) := by
  rw [mj_den_eq, f117_21]
  exact zt_if_eq rfl rfl (zt_aload_n rfl rfl (zt_getr (mjkd0 _ _ _ _) (mjhr0_4 w c) rfl (zt_iload_n rfl rfl (zt_aload_n rfl rfl (zt_getr (mjkd0 _ _ _ _) (mjhr0_0 w c) rfl (zt_getr (mjkd1 _ _ _ _) (mjhr1_0 w c) rfl (zt_geti (mjkd2 _ _ _ _) rfl rfl (zt_aload_n rfl rfl (zt_getr (mjkd0 _ _ _ _) (mjhr0_0 w c) rfl (zt_getr (mjkd1 _ _ _ _) (mjhr1_0 w c) rfl (zt_geti (mjkd2 _ _ _ _) rfl rfl (zt_call0_1 rfl (mjkd159 _ _ _ _) (Nat.le_of_ble_eq_true rfl) rfl rfl))))))))))))
set_option maxRecDepth 100000 in
theorem f117_52 : mj_find (mj_P 117).2.2.2.2 52 = [(.ifCond .eq 7, 3, 0, [59]), (.iconst 1, 1, 1, []), (.goto 4, 3, 0, [60])] := rfl
set_option maxRecDepth 100000 in
theorem q117_52 (E : mj_E) (d w c : Nat) (hi : Nat → Nat → Int32) (hl : Nat → Nat → Int64) (v1 : Int32) (s0 : Int32) : mj_den mj_P E d 117 52 [Value.ref 0, Value.int v1, Value.float 0, Value.float 0] [Value.int s0] (mj_hw w c hi hl) = if s0 = 0 then mj_den mj_P E d 117 59 [Value.ref 0, Value.int v1, Value.float 0, Value.float 0] [] (mj_hw w c hi hl) else mj_den mj_P E d 117 60 [Value.ref 0, Value.int v1, Value.float 0, Value.float 0] [Value.int (1 : Int32)] (mj_hw w c hi hl) := by
  rw [mj_den_eq, f117_52]
  exact zt_if_eq rfl rfl (zt_iconst rfl (zt_goto rfl))
set_option maxRecDepth 100000 in
theorem f117_59 : mj_find (mj_P 117).2.2.2.2 59 = [(.iconst 0, 1, 0, [])] := rfl
set_option maxRecDepth 100000 in
theorem q117_59 (E : mj_E) (d w c : Nat) (hi : Nat → Nat → Int32) (hl : Nat → Nat → Int64) (v1 : Int32) : mj_den mj_P E d 117 59 [Value.ref 0, Value.int v1, Value.float 0, Value.float 0] [] (mj_hw w c hi hl) = mj_den mj_P E d 117 60 [Value.ref 0, Value.int v1, Value.float 0, Value.float 0] [Value.int (0 : Int32)] (mj_hw w c hi hl) := by
  rw [mj_den_eq, f117_59]
  exact zt_iconst rfl (zt_end rfl)
set_option maxRecDepth 100000 in
theorem f117_60 : mj_find (mj_P 117).2.2.2.2 60 = [(.istore_n 2, 1, 0, []), (.aload_n 0, 1, 0, []), (.getfield 33, 3, 0, [11, 4, 3, 644]), (.iconst 0, 1, 0, []), (.putfield 166, 3, 0, [6, 0, 0, 485]), (.iload_n 2, 1, 0, []), (.ifCond .ne 5, 3, 0, [75]), (.iconst (-1), 1, (-1), []), (.ireturn, 1, 0, [0])] := rfl
set_option maxRecDepth 100000 in
theorem q117_60 (E : mj_E) (d w c : Nat) (hi : Nat → Nat → Int32) (hl : Nat → Nat → Int64) (v1 : Int32) (s0 : Int32) : mj_den mj_P E d 117 60 [Value.ref 0, Value.int v1, Value.float 0, Value.float 0] [Value.int s0] (mj_hw w c hi hl) = if ¬ s0 = 0 then mj_den mj_P E d 117 75 [Value.ref 0, Value.int v1, Value.int s0, Value.float 0] [] (mj_hw w c (mj_u hi 159 0 (0 : Int32)) hl) else some (some (Value.int (-1 : Int32)), (mj_hw w c (mj_u hi 159 0 (0 : Int32)) hl)) := by
  rw [mj_den_eq, f117_60]
  exact zt_istore_n (Nat.le_of_ble_eq_true rfl) rfl rfl (zt_aload_n rfl rfl (zt_getr (mjkd0 _ _ _ _) (mjhr0_4 w c) rfl (zt_iconst rfl (zt_puti (mjkd159 _ _ _ _) rfl rfl (zt_iload_n rfl rfl (zt_if_ne rfl rfl (zt_iconst rfl (zt_ireturn0))))))))
set_option maxRecDepth 100000 in
theorem f117_75 : mj_find (mj_P 117).2.2.2.2 75 = [(.iload_n 1, 1, 0, []), (.ifCond .ne 31, 3, 0, [107]), (.aload_n 0, 1, 0, []), (.getfield 12, 3, 0, [11, 0, 3, 640]), (.getfield 182, 3, 0, [10, 1, 3, 415]), (.aload_n 0, 1, 0, []), (.getfield 33, 3, 0, [11, 4, 3, 644]), (.getfield 186, 3, 0, [6, 3, 3, 491]), (.invokevirtual 187, 3, 0, [0, 22, 2, 1, 0, 1040, 1041, 1042, 146, 1043])] := rfl
set_option maxRecDepth 100000 in
theorem q117_75 (E : mj_E) (d w c : Nat) (hi : Nat → Nat → Int32) (hl : Nat → Nat → Int64) (v1 : Int32) (v2 : Int32) : mj_den mj_P E d 117 75 [Value.ref 0, Value.int v1, Value.int v2, Value.float 0] [] (mj_hw w c hi hl) = if ¬ v1 = 0 then mj_den mj_P E d 117 107 [Value.ref 0, Value.int v1, Value.int v2, Value.float 0] [] (mj_hw w c hi hl) else mj_bv (mj_dc mj_P E d 22 [Value.ref 13, Value.ref 160] (mj_hw w c hi hl)) (fun h1 => mj_den mj_P E d 117 96 [Value.ref 0, Value.int v1, Value.int v2, Value.float 0] [] h1) := by
  rw [mj_den_eq, f117_75]
  exact zt_iload_n rfl rfl (zt_if_ne rfl rfl (zt_aload_n rfl rfl (zt_getr (mjkd0 _ _ _ _) (mjhr0_0 w c) rfl (zt_getr (mjkd1 _ _ _ _) (mjhr1_1 w c) rfl (zt_aload_n rfl rfl (zt_getr (mjkd0 _ _ _ _) (mjhr0_4 w c) rfl (zt_getr (mjkd159 _ _ _ _) (mjhr159_3 w c) rfl (zt_call0_0 rfl (mjkd13 _ _ _ _) (Nat.le_of_ble_eq_true rfl) rfl rfl))))))))
set_option maxRecDepth 100000 in
theorem f117_96 : mj_find (mj_P 117).2.2.2.2 96 = [(.aload_n 0, 1, 0, []), (.getfield 12, 3, 0, [11, 0, 3, 640]), (.getfield 182, 3, 0, [10, 1, 3, 415]), (.getfield 193, 3, 0, [2, 0, 0, 283]), (.ireturn, 1, 0, [0])] := rfl
set_option maxRecDepth 100000 in
theorem q117_96 (E : mj_E) (d w c : Nat) (hi : Nat → Nat → Int32) (hl : Nat → Nat → Int64) (v1 : Int32) (v2 : Int32) : mj_den mj_P E d 117 96 [Value.ref 0, Value.int v1, Value.int v2, Value.float 0] [] (mj_hw w c hi hl) = some (some (Value.int (hi 13 0)), (mj_hw w c hi hl)) := by
  rw [mj_den_eq, f117_96]
  exact zt_aload_n rfl rfl (zt_getr (mjkd0 _ _ _ _) (mjhr0_0 w c) rfl (zt_getr (mjkd1 _ _ _ _) (mjhr1_1 w c) rfl (zt_geti (mjkd13 _ _ _ _) rfl rfl (zt_ireturn0))))
set_option maxRecDepth 100000 in
theorem f117_107 : mj_find (mj_P 117).2.2.2.2 107 = [(.iload_n 1, 1, 0, []), (.iconst 1, 1, 1, []), (.if_icmp .eq 10, 3, 0, [119]), (.aload_n 0, 1, 0, []), (.getfield 26, 3, 0, [11, 3, 3, 643]), (.invokevirtual 79, 3, 0, [0, 45, 5, 0, 0, 675, 676, 677, 149, 678])] := rfl
set_option maxRecDepth 100000 in
theorem q117_107 (E : mj_E) (d w c : Nat) (hi : Nat → Nat → Int32) (hl : Nat → Nat → Int64) (v1 : Int32) (v2 : Int32) : mj_den mj_P E d 117 107 [Value.ref 0, Value.int v1, Value.int v2, Value.float 0] [] (mj_hw w c hi hl) = if v1 = (1 : Int32) then mj_den mj_P E d 117 119 [Value.ref 0, Value.int v1, Value.int v2, Value.float 0] [] (mj_hw w c hi hl) else mj_bv (mj_dc mj_P E d 45 [Value.ref 91] (mj_hw w c hi hl)) (fun h1 => mj_den mj_P E d 117 119 [Value.ref 0, Value.int v1, Value.int v2, Value.float 0] [] h1) := by
  rw [mj_den_eq, f117_107]
  exact zt_iload_n rfl rfl (zt_iconst rfl (zt_icmp_eq rfl rfl (zt_aload_n rfl rfl (zt_getr (mjkd0 _ _ _ _) (mjhr0_3 w c) rfl (zt_call0_0 rfl (mjkd91 _ _ _ _) (Nat.le_of_ble_eq_true rfl) rfl rfl)))))
set_option maxRecDepth 100000 in
theorem f117_119 : mj_find (mj_P 117).2.2.2.2 119 = [(.aload_n 0, 1, 0, []), (.getfield 12, 3, 0, [11, 0, 3, 640]), (.iload_n 1, 1, 0, []), (.invokevirtual 196, 3, 0, [0, 102, 10, 1, 3, 1045, 1046, 1047, 144, 1048])] := rfl
set_option maxRecDepth 100000 in
theorem q117_119 (E : mj_E) (d w c : Nat) (hi : Nat → Nat → Int32) (hl : Nat → Nat → Int64) (v1 : Int32) (v2 : Int32) : mj_den mj_P E d 117 119 [Value.ref 0, Value.int v1, Value.int v2, Value.float 0] [] (mj_hw w c hi hl) = mj_br (mj_dc mj_P E d 102 [Value.ref 1, Value.int v1] (mj_hw w c hi hl)) (fun x1 h1 => mj_den mj_P E d 117 127 [Value.ref 0, Value.int v1, Value.int v2, Value.float 0] [Value.ref x1] h1) := by
  rw [mj_den_eq, f117_119]
  exact zt_aload_n rfl rfl (zt_getr (mjkd0 _ _ _ _) (mjhr0_0 w c) rfl (zt_iload_n rfl rfl (zt_call0_3 rfl (mjkd1 _ _ _ _) (Nat.le_of_ble_eq_true rfl) rfl rfl)))
set_option maxRecDepth 100000 in
theorem f117_127 : mj_find (mj_P 117).2.2.2.2 127 = [(.astore_n 3, 1, 0, []), (.aload_n 3, 1, 0, []), (.aload_n 0, 1, 0, []), (.getfield 33, 3, 0, [11, 4, 3, 644]), (.getfield 200, 3, 0, [6, 4, 3, 493]), (.invokevirtual 202, 3, 0, [0, 25, 3, 1, 0, 1049, 1050, 1051, 147, 1052])] := rfl
set_option maxRecDepth 100000 in
theorem q117_127 (E : mj_E) (d w c : Nat) (hi : Nat → Nat → Int32) (hl : Nat → Nat → Int64) (v1 : Int32) (v2 : Int32) : mj_den mj_P E d 117 127 [Value.ref 0, Value.int v1, Value.int v2, Value.float 0] [Value.ref 30] (mj_hw w c hi hl) = mj_bv (mj_dc mj_P E d 25 [Value.ref 30, Value.ref 169] (mj_hw w c hi hl)) (fun h1 => mj_den mj_P E d 117 139 [Value.ref 0, Value.int v1, Value.int v2, Value.ref 30] [] h1) := by
  rw [mj_den_eq, f117_127]
  exact zt_astore_n (Nat.le_of_ble_eq_true rfl) rfl rfl (zt_aload_n rfl rfl (zt_aload_n rfl rfl (zt_getr (mjkd0 _ _ _ _) (mjhr0_4 w c) rfl (zt_getr (mjkd159 _ _ _ _) (mjhr159_4 w c) rfl (zt_call0_0 rfl (mjkd30 _ _ _ _) (Nat.le_of_ble_eq_true rfl) rfl rfl)))))
set_option maxRecDepth 100000 in
theorem q117_127_1 (E : mj_E) (d w c : Nat) (hi : Nat → Nat → Int32) (hl : Nat → Nat → Int64) (v1 : Int32) (v2 : Int32) : mj_den mj_P E d 117 127 [Value.ref 0, Value.int v1, Value.int v2, Value.float 0] [Value.ref 26] (mj_hw w c hi hl) = mj_bv (mj_dc mj_P E d 25 [Value.ref 26, Value.ref 169] (mj_hw w c hi hl)) (fun h1 => mj_den mj_P E d 117 139 [Value.ref 0, Value.int v1, Value.int v2, Value.ref 26] [] h1) := by
  rw [mj_den_eq, f117_127]
  exact zt_astore_n (Nat.le_of_ble_eq_true rfl) rfl rfl (zt_aload_n rfl rfl (zt_aload_n rfl rfl (zt_getr (mjkd0 _ _ _ _) (mjhr0_4 w c) rfl (zt_getr (mjkd159 _ _ _ _) (mjhr159_4 w c) rfl (zt_call0_0 rfl (mjkd26 _ _ _ _) (Nat.le_of_ble_eq_true rfl) rfl rfl)))))
set_option maxRecDepth 100000 in
theorem q117_127_2 (E : mj_E) (d w c : Nat) (hi : Nat → Nat → Int32) (hl : Nat → Nat → Int64) (v1 : Int32) (v2 : Int32) : mj_den mj_P E d 117 127 [Value.ref 0, Value.int v1, Value.int v2, Value.float 0] [Value.ref 22] (mj_hw w c hi hl) = mj_bv (mj_dc mj_P E d 25 [Value.ref 22, Value.ref 169] (mj_hw w c hi hl)) (fun h1 => mj_den mj_P E d 117 139 [Value.ref 0, Value.int v1, Value.int v2, Value.ref 22] [] h1) := by
  rw [mj_den_eq, f117_127]
  exact zt_astore_n (Nat.le_of_ble_eq_true rfl) rfl rfl (zt_aload_n rfl rfl (zt_aload_n rfl rfl (zt_getr (mjkd0 _ _ _ _) (mjhr0_4 w c) rfl (zt_getr (mjkd159 _ _ _ _) (mjhr159_4 w c) rfl (zt_call0_0 rfl (mjkd22 _ _ _ _) (Nat.le_of_ble_eq_true rfl) rfl rfl)))))
set_option maxRecDepth 100000 in
theorem f117_139 : mj_find (mj_P 117).2.2.2.2 139 = [(.aload_n 3, 1, 0, []), (.getfield 150, 3, 0, [3, 0, 0, 330]), (.ireturn, 1, 0, [0])] := rfl
set_option maxRecDepth 100000 in
theorem q117_139 (E : mj_E) (d w c : Nat) (hi : Nat → Nat → Int32) (hl : Nat → Nat → Int64) (v1 : Int32) (v2 : Int32) : mj_den mj_P E d 117 139 [Value.ref 0, Value.int v1, Value.int v2, Value.ref 30] [] (mj_hw w c hi hl) = some (some (Value.int (hi 30 0)), (mj_hw w c hi hl)) := by
  rw [mj_den_eq, f117_139]
  exact zt_aload_n rfl rfl (zt_geti (mjkd30 _ _ _ _) rfl rfl (zt_ireturn0))
set_option maxRecDepth 100000 in
theorem q117_139_1 (E : mj_E) (d w c : Nat) (hi : Nat → Nat → Int32) (hl : Nat → Nat → Int64) (v1 : Int32) (v2 : Int32) : mj_den mj_P E d 117 139 [Value.ref 0, Value.int v1, Value.int v2, Value.ref 26] [] (mj_hw w c hi hl) = some (some (Value.int (hi 26 0)), (mj_hw w c hi hl)) := by
  rw [mj_den_eq, f117_139]
  exact zt_aload_n rfl rfl (zt_geti (mjkd26 _ _ _ _) rfl rfl (zt_ireturn0))
set_option maxRecDepth 100000 in
theorem q117_139_2 (E : mj_E) (d w c : Nat) (hi : Nat → Nat → Int32) (hl : Nat → Nat → Int64) (v1 : Int32) (v2 : Int32) : mj_den mj_P E d 117 139 [Value.ref 0, Value.int v1, Value.int v2, Value.ref 22] [] (mj_hw w c hi hl) = some (some (Value.int (hi 22 0)), (mj_hw w c hi hl)) := by
  rw [mj_den_eq, f117_139]
  exact zt_aload_n rfl rfl (zt_geti (mjkd22 _ _ _ _) rfl rfl (zt_ireturn0))
