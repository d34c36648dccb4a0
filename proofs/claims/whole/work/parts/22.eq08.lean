set_option maxRecDepth 100000 in
theorem f118_0 : mj_find (mj_P 118).2.2.2.2 0 = [(.iload_n 1, 1, 0, []), (.ifCond .ne 11, 3, 0, [12]), (.aload_n 0, 1, 0, []), (.getfield 33, 3, 0, [11, 4, 3, 644]), (.getfield 173, 3, 0, [6, 1, 0, 487]), (.ireturn, 1, 0, [0])] := rfl
set_option maxRecDepth 100000 in
theorem q118_0 (E : mj_E) (d w c : Nat) (hi : Nat → Nat → Int32) (hl : Nat → Nat → Int64) (v1 : Int32) : mj_den mj_P E d 118 0 [Value.ref 0, Value.int v1] [] (mj_hw w c hi hl) = if ¬ v1 = 0 then mj_den mj_P E d 118 12 [Value.ref 0, Value.int v1] [] (mj_hw w c hi hl) else some (some (Value.int (hi 159 1)), (mj_hw w c hi hl)) := by
  rw [mj_den_eq, f118_0]
  exact zt_iload_n rfl rfl (zt_if_ne rfl rfl (zt_aload_n rfl rfl (zt_getr (mjkd0 _ _ _ _) (mjhr0_4 w c) rfl (zt_geti (mjkd159 _ _ _ _) rfl rfl (zt_ireturn0)))))
set_option maxRecDepth 100000 in
theorem f118_12 : mj_find (mj_P 118).2.2.2.2 12 = [(.iload_n 1, 1, 0, []), (.iconst 1, 1, 1, []), (.if_icmp .ne 13, 3, 0, [27]), (.aload_n 0, 1, 0, []), (.getfield 33, 3, 0, [11, 4, 3, 644]), (.getfield 176, 3, 0, [6, 2, 0, 489]), (.goto 4, 3, 0, [28])] := rfl
set_option maxRecDepth 100000 in
theorem q118_12 (E : mj_E) (d w c : Nat) (hi : Nat → Nat → Int32) (hl : Nat → Nat → Int64) (v1 : Int32) : mj_den mj_P E d 118 12 [Value.ref 0, Value.int v1] [] (mj_hw w c hi hl) = if ¬ v1 = (1 : Int32) then mj_den mj_P E d 118 27 [Value.ref 0, Value.int v1] [] (mj_hw w c hi hl) else mj_den mj_P E d 118 28 [Value.ref 0, Value.int v1] [Value.int (hi 159 2)] (mj_hw w c hi hl) := by
  rw [mj_den_eq, f118_12]
  exact zt_iload_n rfl rfl (zt_iconst rfl (zt_icmp_ne rfl rfl (zt_aload_n rfl rfl (zt_getr (mjkd0 _ _ _ _) (mjhr0_4 w c) rfl (zt_geti (mjkd159 _ _ _ _) rfl rfl (zt_goto rfl))))))
set_option maxRecDepth 100000 in
theorem f118_27 : mj_find (mj_P 118).2.2.2.2 27 = [(.iconst (-1), 1, (-1), [])] := rfl
set_option maxRecDepth 100000 in
theorem q118_27 (E : mj_E) (d w c : Nat) (hi : Nat → Nat → Int32) (hl : Nat → Nat → Int64) (v1 : Int32) : mj_den mj_P E d 118 27 [Value.ref 0, Value.int v1] [] (mj_hw w c hi hl) = mj_den mj_P E d 118 28 [Value.ref 0, Value.int v1] [Value.int (-1 : Int32)] (mj_hw w c hi hl) := by
  rw [mj_den_eq, f118_27]
  exact zt_iconst rfl (zt_end rfl)
set_option maxRecDepth 100000 in
theorem f118_28 : mj_find (mj_P 118).2.2.2.2 28 = [(.ireturn, 1, 0, [0])] := rfl
set_option maxRecDepth 100000 in
theorem q118_28 (E : mj_E) (d w c : Nat) (hi : Nat → Nat → Int32) (hl : Nat → Nat → Int64) (v1 : Int32) (s0 : Int32) : mj_den mj_P E d 118 28 [Value.ref 0, Value.int v1] [Value.int s0] (mj_hw w c hi hl) = some (some (Value.int s0), (mj_hw w c hi hl)) := by
  rw [mj_den_eq, f118_28]
  exact zt_ireturn0
set_option maxRecDepth 100000 in
theorem f119_0 : mj_find (mj_P 119).2.2.2.2 0 = [(.aload_n 0, 1, 0, []), (.getfield 12, 3, 0, [11, 0, 3, 640]), (.getfield 72, 3, 0, [10, 0, 3, 412]), (.astore_n 3, 1, 0, []), (.aload_n 3, 1, 0, []), (.iload_n 1, 1, 0, []), (.invokevirtual 104, 3, 0, [0, 70, 7, 1, 1, 704, 705, 706, 145, 707])] := rfl
set_option maxRecDepth 100000 in
theorem q119_0 (E : mj_E) (d w c : Nat) (hi : Nat → Nat → Int32) (hl : Nat → Nat → Int64) (v1 : Int32) (v2 : Int32) : mj_den mj_P E d 119 0 [Value.ref 0, Value.int v1, Value.int v2, Value.float 0] [] (mj_hw w c hi hl) = mj_bi (mj_dc mj_P E d 70 [Value.ref 2, Value.int v1] (mj_hw w c hi hl)) (fun x1 h1 => mj_den mj_P E d 119 13 [Value.ref 0, Value.int v1, Value.int v2, Value.ref 2] [Value.int x1] h1) := by
  rw [mj_den_eq, f119_0]
  exact zt_aload_n rfl rfl (zt_getr (mjkd0 _ _ _ _) (mjhr0_0 w c) rfl (zt_getr (mjkd1 _ _ _ _) (mjhr1_0 w c) rfl (zt_astore_n (Nat.le_of_ble_eq_true rfl) rfl rfl (zt_aload_n rfl rfl (zt_iload_n rfl rfl (zt_call0_1 rfl (mjkd2 _ _ _ _) (Nat.le_of_ble_eq_true rfl) rfl rfl))))))
set_option maxRecDepth 100000 in
theorem f119_13 : mj_find (mj_P 119).2.2.2.2 13 = [(.ifCond .ne 5, 3, 0, [18]), (.iconst (-1), 1, (-1), []), (.ireturn, 1, 0, [0])] := rfl
set_option maxRecDepth 100000 in
theorem q119_13 (E : mj_E) (d w c : Nat) (hi : Nat → Nat → Int32) (hl : Nat → Nat → Int64) (v1 : Int32) (v2 : Int32) (s0 : Int32) : mj_den mj_P E d 119 13 [Value.ref 0, Value.int v1, Value.int v2, Value.ref 2] [Value.int s0] (mj_hw w c hi hl) = if ¬ s0 = 0 then mj_den mj_P E d 119 18 [Value.ref 0, Value.int v1, Value.int v2, Value.ref 2] [] (mj_hw w c hi hl) else some (some (Value.int (-1 : Int32)), (mj_hw w c hi hl)) := by
  rw [mj_den_eq, f119_13]
  exact zt_if_ne rfl rfl (zt_iconst rfl (zt_ireturn0))
set_option maxRecDepth 100000 in
theorem f119_18 : mj_find (mj_P 119).2.2.2.2 18 = [(.iload_n 2, 1, 0, []), (.tableswitch 105 0 7 #[45, 52, 59, 66, 73, 80, 87, 94], 45, 0, [124, 64, 71, 78, 85, 92, 99, 106, 113])] := rfl
set_option maxRecDepth 100000 in
theorem q119_18 (E : mj_E) (d w c : Nat) (hi : Nat → Nat → Int32) (hl : Nat → Nat → Int64) (v1 : Int32) (v2 : Int32) : mj_den mj_P E d 119 18 [Value.ref 0, Value.int v1, Value.int v2, Value.ref 2] [] (mj_hw w c hi hl) = mj_den mj_P E d 119 (mj_sw v2 (0 : Int32) 124 [64, 71, 78, 85, 92, 99, 106, 113]) [Value.ref 0, Value.int v1, Value.int v2, Value.ref 2] [] (mj_hw w c hi hl) := by
  rw [mj_den_eq, f119_18]
  exact zt_iload_n rfl rfl (zt_sw rfl)
set_option maxRecDepth 100000 in
theorem f119_64 : mj_find (mj_P 119).2.2.2.2 64 = [(.aload_n 3, 1, 0, []), (.getfield 111, 3, 0, [7, 7, 3, 208]), (.iload_n 1, 1, 0, []), (.iaload, 1, 0, []), (.ireturn, 1, 0, [0])] := rfl
set_option maxRecDepth 100000 in
theorem q119_64 (E : mj_E) (d w c : Nat) (hi : Nat → Nat → Int32) (hl : Nat → Nat → Int64) (v1 : Int32) (v2 : Int32) : mj_den mj_P E d 119 64 [Value.ref 0, Value.int v1, Value.int v2, Value.ref 2] [] (mj_hw w c hi hl) = if 0 ≤ v1 ∧ (v1).toNatClampNeg < 10 then some (some (Value.int (hi 3 ((v1).toNatClampNeg))), (mj_hw w c hi hl)) else none := by
  rw [mj_den_eq, f119_64]
  exact zt_aload_n rfl rfl (zt_getr (mjkd2 _ _ _ _) (mjhr2_7 w c) rfl (zt_iload_n rfl rfl (zt_iald (mjkd3 _ _ _ _) (mjln3 _ _ _ _) rfl rfl (zt_ireturn0))))
set_option maxRecDepth 100000 in
theorem f119_71 : mj_find (mj_P 119).2.2.2.2 71 = [(.aload_n 3, 1, 0, []), (.getfield 114, 3, 0, [7, 8, 3, 212]), (.iload_n 1, 1, 0, []), (.iaload, 1, 0, []), (.ireturn, 1, 0, [0])] := rfl
set_option maxRecDepth 100000 in
theorem q119_71 (E : mj_E) (d w c : Nat) (hi : Nat → Nat → Int32) (hl : Nat → Nat → Int64) (v1 : Int32) (v2 : Int32) : mj_den mj_P E d 119 71 [Value.ref 0, Value.int v1, Value.int v2, Value.ref 2] [] (mj_hw w c hi hl) = if 0 ≤ v1 ∧ (v1).toNatClampNeg < 10 then some (some (Value.int (hi 4 ((v1).toNatClampNeg))), (mj_hw w c hi hl)) else none := by
  rw [mj_den_eq, f119_71]
  exact zt_aload_n rfl rfl (zt_getr (mjkd2 _ _ _ _) (mjhr2_8 w c) rfl (zt_iload_n rfl rfl (zt_iald (mjkd4 _ _ _ _) (mjln4 _ _ _ _) rfl rfl (zt_ireturn0))))
set_option maxRecDepth 100000 in
theorem f119_78 : mj_find (mj_P 119).2.2.2.2 78 = [(.aload_n 3, 1, 0, []), (.getfield 117, 3, 0, [7, 9, 3, 215]), (.iload_n 1, 1, 0, []), (.iaload, 1, 0, []), (.ireturn, 1, 0, [0])] := rfl
set_option maxRecDepth 100000 in
theorem q119_78 (E : mj_E) (d w c : Nat) (hi : Nat → Nat → Int32) (hl : Nat → Nat → Int64) (v1 : Int32) (v2 : Int32) : mj_den mj_P E d 119 78 [Value.ref 0, Value.int v1, Value.int v2, Value.ref 2] [] (mj_hw w c hi hl) = if 0 ≤ v1 ∧ (v1).toNatClampNeg < 10 then some (some (Value.int (hi 5 ((v1).toNatClampNeg))), (mj_hw w c hi hl)) else none := by
  rw [mj_den_eq, f119_78]
  exact zt_aload_n rfl rfl (zt_getr (mjkd2 _ _ _ _) (mjhr2_9 w c) rfl (zt_iload_n rfl rfl (zt_iald (mjkd5 _ _ _ _) (mjln5 _ _ _ _) rfl rfl (zt_ireturn0))))
set_option maxRecDepth 100000 in
theorem f119_85 : mj_find (mj_P 119).2.2.2.2 85 = [(.aload_n 3, 1, 0, []), (.getfield 205, 3, 0, [7, 10, 3, 218]), (.iload_n 1, 1, 0, []), (.iaload, 1, 0, []), (.ireturn, 1, 0, [0])] := rfl
set_option maxRecDepth 100000 in
theorem q119_85 (E : mj_E) (d w c : Nat) (hi : Nat → Nat → Int32) (hl : Nat → Nat → Int64) (v1 : Int32) (v2 : Int32) : mj_den mj_P E d 119 85 [Value.ref 0, Value.int v1, Value.int v2, Value.ref 2] [] (mj_hw w c hi hl) = if 0 ≤ v1 ∧ (v1).toNatClampNeg < 10 then some (some (Value.int (hi 6 ((v1).toNatClampNeg))), (mj_hw w c hi hl)) else none := by
  rw [mj_den_eq, f119_85]
  exact zt_aload_n rfl rfl (zt_getr (mjkd2 _ _ _ _) (mjhr2_10 w c) rfl (zt_iload_n rfl rfl (zt_iald (mjkd6 _ _ _ _) (mjln6 _ _ _ _) rfl rfl (zt_ireturn0))))
set_option maxRecDepth 100000 in
theorem f119_92 : mj_find (mj_P 119).2.2.2.2 92 = [(.aload_n 3, 1, 0, []), (.getfield 140, 3, 0, [7, 11, 3, 220]), (.iload_n 1, 1, 0, []), (.iaload, 1, 0, []), (.ireturn, 1, 0, [0])] := rfl
set_option maxRecDepth 100000 in
theorem q119_92 (E : mj_E) (d w c : Nat) (hi : Nat → Nat → Int32) (hl : Nat → Nat → Int64) (v1 : Int32) (v2 : Int32) : mj_den mj_P E d 119 92 [Value.ref 0, Value.int v1, Value.int v2, Value.ref 2] [] (mj_hw w c hi hl) = if 0 ≤ v1 ∧ (v1).toNatClampNeg < 10 then some (some (Value.int (hi 7 ((v1).toNatClampNeg))), (mj_hw w c hi hl)) else none := by
  rw [mj_den_eq, f119_92]
  exact zt_aload_n rfl rfl (zt_getr (mjkd2 _ _ _ _) (mjhr2_11 w c) rfl (zt_iload_n rfl rfl (zt_iald (mjkd7 _ _ _ _) (mjln7 _ _ _ _) rfl rfl (zt_ireturn0))))
set_option maxRecDepth 100000 in
theorem f119_99 : mj_find (mj_P 119).2.2.2.2 99 = [(.aload_n 3, 1, 0, []), (.getfield 208, 3, 0, [7, 12, 3, 224]), (.iload_n 1, 1, 0, []), (.iaload, 1, 0, []), (.ireturn, 1, 0, [0])] := rfl
set_option maxRecDepth 100000 in
theorem q119_99 (E : mj_E) (d w c : Nat) (hi : Nat → Nat → Int32) (hl : Nat → Nat → Int64) (v1 : Int32) (v2 : Int32) : mj_den mj_P E d 119 99 [Value.ref 0, Value.int v1, Value.int v2, Value.ref 2] [] (mj_hw w c hi hl) = if 0 ≤ v1 ∧ (v1).toNatClampNeg < 10 then some (some (Value.int (hi 8 ((v1).toNatClampNeg))), (mj_hw w c hi hl)) else none := by
  rw [mj_den_eq, f119_99]
  exact zt_aload_n rfl rfl (zt_getr (mjkd2 _ _ _ _) (mjhr2_12 w c) rfl (zt_iload_n rfl rfl (zt_iald (mjkd8 _ _ _ _) (mjln8 _ _ _ _) rfl rfl (zt_ireturn0))))
set_option maxRecDepth 100000 in
theorem f119_106 : mj_find (mj_P 119).2.2.2.2 106 = [(.aload_n 3, 1, 0, []), (.getfield 211, 3, 0, [7, 13, 3, 228]), (.iload_n 1, 1, 0, []), (.iaload, 1, 0, []), (.ireturn, 1, 0, [0])] := rfl
set_option maxRecDepth 100000 in
theorem q119_106 (E : mj_E) (d w c : Nat) (hi : Nat → Nat → Int32) (hl : Nat → Nat → Int64) (v1 : Int32) (v2 : Int32) : mj_den mj_P E d 119 106 [Value.ref 0, Value.int v1, Value.int v2, Value.ref 2] [] (mj_hw w c hi hl) = if 0 ≤ v1 ∧ (v1).toNatClampNeg < 10 then some (some (Value.int (hi 9 ((v1).toNatClampNeg))), (mj_hw w c hi hl)) else none := by
  rw [mj_den_eq, f119_106]
  exact zt_aload_n rfl rfl (zt_getr (mjkd2 _ _ _ _) (mjhr2_13 w c) rfl (zt_iload_n rfl rfl (zt_iald (mjkd9 _ _ _ _) (mjln9 _ _ _ _) rfl rfl (zt_ireturn0))))
set_option maxRecDepth 100000 in
theorem f119_113 : mj_find (mj_P 119).2.2.2.2 113 = [(.aload_n 0, 1, 0, []), (.getfield 12, 3, 0, [11, 0, 3, 640]), (.iconst 1, 1, 1, []), (.iload_n 1, 1, 0, []), (.ishl, 1, 0, []), (.invokevirtual 214, 3, 0, [0, 104, 10, 1, 1, 1062, 799, 800, 144, 801])] := rfl
set_option maxRecDepth 100000 in
theorem q119_113 (E : mj_E) (d w c : Nat) (hi : Nat → Nat → Int32) (hl : Nat → Nat → Int64) (v1 : Int32) (v2 : Int32) : mj_den mj_P E d 119 113 [Value.ref 0, Value.int v1, Value.int v2, Value.ref 2] [] (mj_hw w c hi hl) = mj_bi (mj_dc mj_P E d 104 [Value.ref 1, Value.int ((1 : Int32) <<< (v1 &&& 31))] (mj_hw w c hi hl)) (fun x1 h1 => mj_den mj_P E d 119 123 [Value.ref 0, Value.int v1, Value.int v2, Value.ref 2] [Value.int x1] h1) := by
  rw [mj_den_eq, f119_113]
  exact zt_aload_n rfl rfl (zt_getr (mjkd0 _ _ _ _) (mjhr0_0 w c) rfl (zt_iconst rfl (zt_iload_n rfl rfl (zt_ishl rfl (zt_call0_1 rfl (mjkd1 _ _ _ _) (Nat.le_of_ble_eq_true rfl) rfl rfl)))))
set_option maxRecDepth 100000 in
theorem f119_123 : mj_find (mj_P 119).2.2.2.2 123 = [(.ireturn, 1, 0, [0])] := rfl
set_option maxRecDepth 100000 in
theorem q119_123 (E : mj_E) (d w c : Nat) (hi : Nat → Nat → Int32) (hl : Nat → Nat → Int64) (v1 : Int32) (v2 : Int32) (s0 : Int32) : mj_den mj_P E d 119 123 [Value.ref 0, Value.int v1, Value.int v2, Value.ref 2] [Value.int s0] (mj_hw w c hi hl) = some (some (Value.int s0), (mj_hw w c hi hl)) := by
  rw [mj_den_eq, f119_123]
  exact zt_ireturn0
set_option maxRecDepth 100000 in
theorem f119_124 : mj_find (mj_P 119).2.2.2.2 124 = [(.iconst (-1), 1, (-1), []), (.ireturn, 1, 0, [0])] := rfl
set_option maxRecDepth 100000 in
theorem q119_124 (E : mj_E) (d w c : Nat) (hi : Nat → Nat → Int32) (hl : Nat → Nat → Int64) (v1 : Int32) (v2 : Int32) : mj_den mj_P E d 119 124 [Value.ref 0, Value.int v1, Value.int v2, Value.ref 2] [] (mj_hw w c hi hl) = some (some (Value.int (-1 : Int32)), (mj_hw w c hi hl)) := by
  rw [mj_den_eq, f119_124]
  exact zt_iconst rfl (zt_ireturn0)
set_option maxRecDepth 100000 in
theorem f120_0 : mj_find (mj_P 120).2.2.2.2 0 = [(.aload_n 0, 1, 0, []), (.getfield 12, 3, 0, [11, 0, 3, 640]), (.getfield 72, 3, 0, [10, 0, 3, 412]), (.astore_n 3, 1, 0, []), (.aload_n 3, 1, 0, []), (.iload_n 1, 1, 0, []), (.invokevirtual 108, 3, 0, [0, 71, 7, 1, 1, 708, 709, 710, 145, 711])] := rfl
set_option maxRecDepth 100000 in
theorem q120_0 (E : mj_E) (d w c : Nat) (hi : Nat → Nat → Int32) (hl : Nat → Nat → Int64) (v1 : Int32) (v2 : Int32) : mj_den mj_P E d 120 0 [Value.ref 0, Value.int v1, Value.int v2, Value.float 0] [] (mj_hw w c hi hl) = mj_bi (mj_dc mj_P E d 71 [Value.ref 2, Value.int v1] (mj_hw w c hi hl)) (fun x1 h1 => mj_den mj_P E d 120 13 [Value.ref 0, Value.int v1, Value.int v2, Value.ref 2] [Value.int x1] h1) := by
  rw [mj_den_eq, f120_0]
  exact zt_aload_n rfl rfl (zt_getr (mjkd0 _ _ _ _) (mjhr0_0 w c) rfl (zt_getr (mjkd1 _ _ _ _) (mjhr1_0 w c) rfl (zt_astore_n (Nat.le_of_ble_eq_true rfl) rfl rfl (zt_aload_n rfl rfl (zt_iload_n rfl rfl (zt_call0_1 rfl (mjkd2 _ _ _ _) (Nat.le_of_ble_eq_true rfl) rfl rfl))))))
set_option maxRecDepth 100000 in
theorem f120_13 : mj_find (mj_P 120).2.2.2.2 13 = [(.ifCond .ne 6, 3, 0, [19]), (.bipush (-2), 2, (-2), []), (.ireturn, 1, 0, [0])] := rfl
set_option maxRecDepth 100000 in
theorem q120_13 (E : mj_E) (d w c : Nat) (hi : Nat → Nat → Int32) (hl : Nat → Nat → Int64) (v1 : Int32) (v2 : Int32) (s0 : Int32) : mj_den mj_P E d 120 13 [Value.ref 0, Value.int v1, Value.int v2, Value.ref 2] [Value.int s0] (mj_hw w c hi hl) = if ¬ s0 = 0 then mj_den mj_P E d 120 19 [Value.ref 0, Value.int v1, Value.int v2, Value.ref 2] [] (mj_hw w c hi hl) else some (some (Value.int (-2 : Int32)), (mj_hw w c hi hl)) := by
  rw [mj_den_eq, f120_13]
  exact zt_if_ne rfl rfl (zt_bipush rfl (zt_ireturn0))
set_option maxRecDepth 100000 in
theorem f120_19 : mj_find (mj_P 120).2.2.2.2 19 = [(.iload_n 2, 1, 0, []), (.tableswitch 49 0 2 #[28, 35, 42], 28, 0, [69, 48, 55, 62])] := rfl
set_option maxRecDepth 100000 in
theorem q120_19 (E : mj_E) (d w c : Nat) (hi : Nat → Nat → Int32) (hl : Nat → Nat → Int64) (v1 : Int32) (v2 : Int32) : mj_den mj_P E d 120 19 [Value.ref 0, Value.int v1, Value.int v2, Value.ref 2] [] (mj_hw w c hi hl) = mj_den mj_P E d 120 (mj_sw v2 (0 : Int32) 69 [48, 55, 62]) [Value.ref 0, Value.int v1, Value.int v2, Value.ref 2] [] (mj_hw w c hi hl) := by
  rw [mj_den_eq, f120_19]
  exact zt_iload_n rfl rfl (zt_sw rfl)
set_option maxRecDepth 100000 in
theorem f120_48 : mj_find (mj_P 120).2.2.2.2 48 = [(.aload_n 3, 1, 0, []), (.getfield 123, 3, 0, [7, 14, 3, 231]), (.iload_n 1, 1, 0, []), (.iaload, 1, 0, []), (.ireturn, 1, 0, [0])] := rfl
set_option maxRecDepth 100000 in
theorem q120_48 (E : mj_E) (d w c : Nat) (hi : Nat → Nat → Int32) (hl : Nat → Nat → Int64) (v1 : Int32) (v2 : Int32) : mj_den mj_P E d 120 48 [Value.ref 0, Value.int v1, Value.int v2, Value.ref 2] [] (mj_hw w c hi hl) = if 0 ≤ v1 ∧ (v1).toNatClampNeg < 12 then some (some (Value.int (hi 10 ((v1).toNatClampNeg))), (mj_hw w c hi hl)) else none := by
  rw [mj_den_eq, f120_48]
  exact zt_aload_n rfl rfl (zt_getr (mjkd2 _ _ _ _) (mjhr2_14 w c) rfl (zt_iload_n rfl rfl (zt_iald (mjkd10 _ _ _ _) (mjln10 _ _ _ _) rfl rfl (zt_ireturn0))))
set_option maxRecDepth 100000 in
theorem f120_55 : mj_find (mj_P 120).2.2.2.2 55 = [(.aload_n 3, 1, 0, []), (.getfield 120, 3, 0, [7, 15, 3, 234]), (.iload_n 1, 1, 0, []), (.iaload, 1, 0, []), (.ireturn, 1, 0, [0])] := rfl
set_option maxRecDepth 100000 in
theorem q120_55 (E : mj_E) (d w c : Nat) (hi : Nat → Nat → Int32) (hl : Nat → Nat → Int64) (v1 : Int32) (v2 : Int32) : mj_den mj_P E d 120 55 [Value.ref 0, Value.int v1, Value.int v2, Value.ref 2] [] (mj_hw w c hi hl) = if 0 ≤ v1 ∧ (v1).toNatClampNeg < 12 then some (some (Value.int (hi 11 ((v1).toNatClampNeg))), (mj_hw w c hi hl)) else none := by
  rw [mj_den_eq, f120_55]
  exact zt_aload_n rfl rfl (zt_getr (mjkd2 _ _ _ _) (mjhr2_15 w c) rfl (zt_iload_n rfl rfl (zt_iald (mjkd11 _ _ _ _) (mjln11 _ _ _ _) rfl rfl (zt_ireturn0))))
set_option maxRecDepth 100000 in
theorem f120_62 : mj_find (mj_P 120).2.2.2.2 62 = [(.aload_n 3, 1, 0, []), (.getfield 126, 3, 0, [7, 16, 3, 238]), (.iload_n 1, 1, 0, []), (.iaload, 1, 0, []), (.ireturn, 1, 0, [0])] := rfl
set_option maxRecDepth 100000 in
theorem q120_62 (E : mj_E) (d w c : Nat) (hi : Nat → Nat → Int32) (hl : Nat → Nat → Int64) (v1 : Int32) (v2 : Int32) : mj_den mj_P E d 120 62 [Value.ref 0, Value.int v1, Value.int v2, Value.ref 2] [] (mj_hw w c hi hl) = if 0 ≤ v1 ∧ (v1).toNatClampNeg < 12 then some (some (Value.int (hi 12 ((v1).toNatClampNeg))), (mj_hw w c hi hl)) else none := by
  rw [mj_den_eq, f120_62]
  exact zt_aload_n rfl rfl (zt_getr (mjkd2 _ _ _ _) (mjhr2_16 w c) rfl (zt_iload_n rfl rfl (zt_iald (mjkd12 _ _ _ _) (mjln12 _ _ _ _) rfl rfl (zt_ireturn0))))
set_option maxRecDepth 100000 in
theorem f120_69 : mj_find (mj_P 120).2.2.2.2 69 = [(.bipush (-2), 2, (-2), []), (.ireturn, 1, 0, [0])] := rfl
set_option maxRecDepth 100000 in
theorem q120_69 (E : mj_E) (d w c : Nat) (hi : Nat → Nat → Int32) (hl : Nat → Nat → Int64) (v1 : Int32) (v2 : Int32) : mj_den mj_P E d 120 69 [Value.ref 0, Value.int v1, Value.int v2, Value.ref 2] [] (mj_hw w c hi hl) = some (some (Value.int (-2 : Int32)), (mj_hw w c hi hl)) := by
  rw [mj_den_eq, f120_69]
  exact zt_bipush rfl (zt_ireturn0)
set_option maxRecDepth 100000 in
theorem f121_0 : mj_find (mj_P 121).2.2.2.2 0 = [(.aload_n 0, 1, 0, []), (.getfield 12, 3, 0, [11, 0, 3, 640]), (.getfield 72, 3, 0, [10, 0, 3, 412]), (.astore 4, 2, 0, []), (.aload 4, 2, 0, []), (.iload_n 1, 1, 0, []), (.invokevirtual 104, 3, 0, [0, 70, 7, 1, 1, 704, 705, 706, 145, 707])] := rfl
set_option maxRecDepth 100000 in
theorem q121_0 (E : mj_E) (d w c : Nat) (hi : Nat → Nat → Int32) (hl : Nat → Nat → Int64) (v1 : Int32) (v2 : Int32) (v3 : Int32) : mj_den mj_P E d 121 0 [Value.ref 0, Value.int v1, Value.int v2, Value.int v3, Value.float 0] [] (mj_hw w c hi hl) = mj_bi (mj_dc mj_P E d 70 [Value.ref 2, Value.int v1] (mj_hw w c hi hl)) (fun x1 h1 => mj_den mj_P E d 121 15 [Value.ref 0, Value.int v1, Value.int v2, Value.int v3, Value.ref 2] [Value.int x1] h1) := by
  rw [mj_den_eq, f121_0]
  exact zt_aload_n rfl rfl (zt_getr (mjkd0 _ _ _ _) (mjhr0_0 w c) rfl (zt_getr (mjkd1 _ _ _ _) (mjhr1_0 w c) rfl (zt_astore (Nat.le_of_ble_eq_true rfl) rfl rfl (zt_aload rfl rfl (zt_iload_n rfl rfl (zt_call0_1 rfl (mjkd2 _ _ _ _) (Nat.le_of_ble_eq_true rfl) rfl rfl))))))
set_option maxRecDepth 100000 in
theorem f121_15 : mj_find (mj_P 121).2.2.2.2 15 = [(.ifCond .eq 21, 3, 0, [36]), (.aload 4, 2, 0, []), (.iload_n 2, 1, 0, []), (.invokevirtual 108, 3, 0, [0, 71, 7, 1, 1, 708, 709, 710, 145, 711])] := rfl
set_option maxRecDepth 100000 in
theorem q121_15 (E : mj_E) (d w c : Nat) (hi : Nat → Nat → Int32) (hl : Nat → Nat → Int64) (v1 : Int32) (v2 : Int32) (v3 : Int32) (s0 : Int32) : mj_den mj_P E d 121 15 [Value.ref 0, Value.int v1, Value.int v2, Value.int v3, Value.ref 2] [Value.int s0] (mj_hw w c hi hl) = if s0 = 0 then mj_den mj_P E d 121 36 [Value.ref 0, Value.int v1, Value.int v2, Value.int v3, Value.ref 2] [] (mj_hw w c hi hl) else mj_bi (mj_dc mj_P E d 71 [Value.ref 2, Value.int v2] (mj_hw w c hi hl)) (fun x1 h1 => mj_den mj_P E d 121 24 [Value.ref 0, Value.int v1, Value.int v2, Value.int v3, Value.ref 2] [Value.int x1] h1) := by
  rw [mj_den_eq, f121_15]
  exact zt_if_eq rfl rfl (zt_aload rfl rfl (zt_iload_n rfl rfl (zt_call0_1 rfl (mjkd2 _ _ _ _) (Nat.le_of_ble_eq_true rfl) rfl rfl)))
set_option maxRecDepth 100000 in
theorem f121_24 : mj_find (mj_P 121).2.2.2.2 24 = [(.ifCond .eq 12, 3, 0, [36]), (.iload_n 3, 1, 0, []), (.bipush 7, 2, 7, []), (.invokestatic 82, 3, 0, [1, 147, 0, 2, 1, 683, 684, 143, 685])] := rfl
set_option maxRecDepth 100000 in
theorem q121_24 (E : mj_E) (d w c : Nat) (hi : Nat → Nat → Int32) (hl : Nat → Nat → Int64) (v1 : Int32) (v2 : Int32) (v3 : Int32) (s0 : Int32) : mj_den mj_P E d 121 24 [Value.ref 0, Value.int v1, Value.int v2, Value.int v3, Value.ref 2] [Value.int s0] (mj_hw w c hi hl) = if s0 = 0 then mj_den mj_P E d 121 36 [Value.ref 0, Value.int v1, Value.int v2, Value.int v3, Value.ref 2] [] (mj_hw w c hi hl) else mj_bi (mj_dc mj_P E d 147 [Value.int v3, Value.int (7 : Int32)] (mj_hw w c hi hl)) (fun x1 h1 => mj_den mj_P E d 121 33 [Value.ref 0, Value.int v1, Value.int v2, Value.int v3, Value.ref 2] [Value.int x1] h1) := by
  rw [mj_den_eq, f121_24]
  exact zt_if_eq rfl rfl (zt_iload_n rfl rfl (zt_bipush rfl (zt_call1_1 (Nat.le_of_ble_eq_true rfl) rfl (Nat.le_of_ble_eq_true rfl) rfl rfl)))
set_option maxRecDepth 100000 in
theorem f121_33 : mj_find (mj_P 121).2.2.2.2 33 = [(.ifCond .ne 5, 3, 0, [38])] := rfl
set_option maxRecDepth 100000 in
theorem q121_33 (E : mj_E) (d w c : Nat) (hi : Nat → Nat → Int32) (hl : Nat → Nat → Int64) (v1 : Int32) (v2 : Int32) (v3 : Int32) (s0 : Int32) : mj_den mj_P E d 121 33 [Value.ref 0, Value.int v1, Value.int v2, Value.int v3, Value.ref 2] [Value.int s0] (mj_hw w c hi hl) = if ¬ s0 = 0 then mj_den mj_P E d 121 38 [Value.ref 0, Value.int v1, Value.int v2, Value.int v3, Value.ref 2] [] (mj_hw w c hi hl) else mj_den mj_P E d 121 36 [Value.ref 0, Value.int v1, Value.int v2, Value.int v3, Value.ref 2] [] (mj_hw w c hi hl) := by
  rw [mj_den_eq, f121_33]
  exact zt_if_ne rfl rfl (zt_end rfl)
set_option maxRecDepth 100000 in
theorem f121_36 : mj_find (mj_P 121).2.2.2.2 36 = [(.iconst (-1), 1, (-1), []), (.ireturn, 1, 0, [0])] := rfl
set_option maxRecDepth 100000 in
theorem q121_36 (E : mj_E) (d w c : Nat) (hi : Nat → Nat → Int32) (hl : Nat → Nat → Int64) (v1 : Int32) (v2 : Int32) (v3 : Int32) : mj_den mj_P E d 121 36 [Value.ref 0, Value.int v1, Value.int v2, Value.int v3, Value.ref 2] [] (mj_hw w c hi hl) = some (some (Value.int (-1 : Int32)), (mj_hw w c hi hl)) := by
  rw [mj_den_eq, f121_36]
  exact zt_iconst rfl (zt_ireturn0)
set_option maxRecDepth 100000 in
theorem f121_38 : mj_find (mj_P 121).2.2.2.2 38 = [(.aload_n 0, 1, 0, []), (.getfield 12, 3, 0, [11, 0, 3, 640]), (.getfield 182, 3, 0, [10, 1, 3, 415]), (.aload 4, 2, 0, []), (.iconst 0, 1, 0, []), (.iload_n 1, 1, 0, []), (.iload_n 2, 1, 0, []), (.iload_n 3, 1, 0, []), (.iconst 0, 1, 0, []), (.aload 4, 2, 0, []), (.invokevirtual 218, 3, 0, [0, 77, 7, 0, 1, 1071, 739, 740, 145, 741])] := rfl
set_option maxRecDepth 100000 in
theorem q121_38 (E : mj_E) (d w c : Nat) (hi : Nat → Nat → Int32) (hl : Nat → Nat → Int64) (v1 : Int32) (v2 : Int32) (v3 : Int32) : mj_den mj_P E d 121 38 [Value.ref 0, Value.int v1, Value.int v2, Value.int v3, Value.ref 2] [] (mj_hw w c hi hl) = mj_bi (mj_dc mj_P E d 77 [Value.ref 2] (mj_hw w c hi hl)) (fun x1 h1 => mj_den mj_P E d 121 57 [Value.ref 0, Value.int v1, Value.int v2, Value.int v3, Value.ref 2] [Value.int x1, Value.int (0 : Int32), Value.int v3, Value.int v2, Value.int v1, Value.int (0 : Int32), Value.ref 2, Value.ref 13] h1) := by
  rw [mj_den_eq, f121_38]
  exact zt_aload_n rfl rfl (zt_getr (mjkd0 _ _ _ _) (mjhr0_0 w c) rfl (zt_getr (mjkd1 _ _ _ _) (mjhr1_1 w c) rfl (zt_aload rfl rfl (zt_iconst rfl (zt_iload_n rfl rfl (zt_iload_n rfl rfl (zt_iload_n rfl rfl (zt_iconst rfl (zt_aload rfl rfl (zt_call0_1 rfl (mjkd2 _ _ _ _) (Nat.le_of_ble_eq_true rfl) rfl rfl))))))))))
set_option maxRecDepth 100000 in
theorem f121_57 : mj_find (mj_P 121).2.2.2.2 57 = [(.invokestatic 222, 3, 0, [1, 293, 0, 1, 1, 1072, 744, 155, 745])] := rfl
set_option maxRecDepth 100000 in
theorem q121_57 (E : mj_E) (d w c : Nat) (hi : Nat → Nat → Int32) (hl : Nat → Nat → Int64) (v1 : Int32) (v2 : Int32) (v3 : Int32) (s0 : Int32) (s1 : Int32) (s2 : Int32) (s3 : Int32) (s4 : Int32) (s5 : Int32) : mj_den mj_P E d 121 57 [Value.ref 0, Value.int v1, Value.int v2, Value.int v3, Value.ref 2] [Value.int s0, Value.int s1, Value.int s2, Value.int s3, Value.int s4, Value.int s5, Value.ref 2, Value.ref 13] (mj_hw w c hi hl) = mj_bi (mj_dc mj_P E d 293 [Value.int s0] (mj_hw w c hi hl)) (fun x1 h1 => mj_den mj_P E d 121 60 [Value.ref 0, Value.int v1, Value.int v2, Value.int v3, Value.ref 2] [Value.int x1, Value.int s1, Value.int s2, Value.int s3, Value.int s4, Value.int s5, Value.ref 2, Value.ref 13] h1) := by
  rw [mj_den_eq, f121_57]
  exact zt_call1_1 (Nat.le_of_ble_eq_true rfl) rfl (Nat.le_of_ble_eq_true rfl) rfl rfl
set_option maxRecDepth 100000 in
theorem f121_60 : mj_find (mj_P 121).2.2.2.2 60 = [(.invokevirtual 227, 3, 0, [0, 18, 2, 7, 1, 1073, 761, 762, 146, 763])] := rfl
set_option maxRecDepth 100000 in
theorem q121_60 (E : mj_E) (d w c : Nat) (hi : Nat → Nat → Int32) (hl : Nat → Nat → Int64) (v1 : Int32) (v2 : Int32) (v3 : Int32) (s0 : Int32) (s1 : Int32) (s2 : Int32) (s3 : Int32) (s4 : Int32) (s5 : Int32) : mj_den mj_P E d 121 60 [Value.ref 0, Value.int v1, Value.int v2, Value.int v3, Value.ref 2] [Value.int s0, Value.int s1, Value.int s2, Value.int s3, Value.int s4, Value.int s5, Value.ref 2, Value.ref 13] (mj_hw w c hi hl) = mj_bi (mj_dc mj_P E d 18 [Value.ref 13, Value.ref 2, Value.int s5, Value.int s4, Value.int s3, Value.int s2, Value.int s1, Value.int s0] (mj_hw w c hi hl)) (fun x1 h1 => mj_den mj_P E d 121 63 [Value.ref 0, Value.int v1, Value.int v2, Value.int v3, Value.ref 2] [Value.int x1] h1) := by
  rw [mj_den_eq, f121_60]
  exact zt_call0_1 rfl (mjkd13 _ _ _ _) (Nat.le_of_ble_eq_true rfl) rfl rfl
set_option maxRecDepth 100000 in
theorem f121_63 : mj_find (mj_P 121).2.2.2.2 63 = [(.ireturn, 1, 0, [0])] := rfl
set_option maxRecDepth 100000 in
theorem q121_63 (E : mj_E) (d w c : Nat) (hi : Nat → Nat → Int32) (hl : Nat → Nat → Int64) (v1 : Int32) (v2 : Int32) (v3 : Int32) (s0 : Int32) : mj_den mj_P E d 121 63 [Value.ref 0, Value.int v1, Value.int v2, Value.int v3, Value.ref 2] [Value.int s0] (mj_hw w c hi hl) = some (some (Value.int s0), (mj_hw w c hi hl)) := by
  rw [mj_den_eq, f121_63]
  exact zt_ireturn0
set_option maxRecDepth 100000 in
theorem f122_0 : mj_find (mj_P 122).2.2.2.2 0 = [(.iload_n 1, 1, 0, []), (.sipush 199, 3, 199, []), (.invokestatic 82, 3, 0, [1, 147, 0, 2, 1, 683, 684, 143, 685])] := rfl
set_option maxRecDepth 100000 in
theorem q122_0 (E : mj_E) (d w c : Nat) (hi : Nat → Nat → Int32) (hl : Nat → Nat → Int64) (v1 : Int32) : mj_den mj_P E d 122 0 [Value.ref 0, Value.int v1] [] (mj_hw w c hi hl) = mj_bi (mj_dc mj_P E d 147 [Value.int v1, Value.int (199 : Int32)] (mj_hw w c hi hl)) (fun x1 h1 => mj_den mj_P E d 122 7 [Value.ref 0, Value.int v1] [Value.int x1] h1) := by
  rw [mj_den_eq, f122_0]
  exact zt_iload_n rfl rfl (zt_sipush rfl (zt_call1_1 (Nat.le_of_ble_eq_true rfl) rfl (Nat.le_of_ble_eq_true rfl) rfl rfl))
set_option maxRecDepth 100000 in
theorem f122_7 : mj_find (mj_P 122).2.2.2.2 7 = [(.ifCond .eq 14, 3, 0, [21]), (.aload_n 0, 1, 0, []), (.getfield 12, 3, 0, [11, 0, 3, 640]), (.iload_n 1, 1, 0, []), (.invokevirtual 231, 3, 0, [0, 103, 10, 1, 1, 1078, 750, 751, 144, 752])] := rfl
set_option maxRecDepth 100000 in
theorem q122_7 (E : mj_E) (d w c : Nat) (hi : Nat → Nat → Int32) (hl : Nat → Nat → Int64) (v1 : Int32) (s0 : Int32) : mj_den mj_P E d 122 7 [Value.ref 0, Value.int v1] [Value.int s0] (mj_hw w c hi hl) = if s0 = 0 then mj_den mj_P E d 122 21 [Value.ref 0, Value.int v1] [] (mj_hw w c hi hl) else mj_bi (mj_dc mj_P E d 103 [Value.ref 1, Value.int v1] (mj_hw w c hi hl)) (fun x1 h1 => mj_den mj_P E d 122 18 [Value.ref 0, Value.int v1] [Value.int x1] h1) := by
  rw [mj_den_eq, f122_7]
  exact zt_if_eq rfl rfl (zt_aload_n rfl rfl (zt_getr (mjkd0 _ _ _ _) (mjhr0_0 w c) rfl (zt_iload_n rfl rfl (zt_call0_1 rfl (mjkd1 _ _ _ _) (Nat.le_of_ble_eq_true rfl) rfl rfl))))
set_option maxRecDepth 100000 in
theorem f122_18 : mj_find (mj_P 122).2.2.2.2 18 = [(.goto 4, 3, 0, [22])] := rfl
set_option maxRecDepth 100000 in
theorem q122_18 (E : mj_E) (d w c : Nat) (hi : Nat → Nat → Int32) (hl : Nat → Nat → Int64) (v1 : Int32) (s0 : Int32) : mj_den mj_P E d 122 18 [Value.ref 0, Value.int v1] [Value.int s0] (mj_hw w c hi hl) = mj_den mj_P E d 122 22 [Value.ref 0, Value.int v1] [Value.int s0] (mj_hw w c hi hl) := by
  rw [mj_den_eq, f122_18]
  exact zt_goto rfl
set_option maxRecDepth 100000 in
theorem f122_21 : mj_find (mj_P 122).2.2.2.2 21 = [(.iconst (-1), 1, (-1), [])] := rfl
set_option maxRecDepth 100000 in
theorem q122_21 (E : mj_E) (d w c : Nat) (hi : Nat → Nat → Int32) (hl : Nat → Nat → Int64) (v1 : Int32) : mj_den mj_P E d 122 21 [Value.ref 0, Value.int v1] [] (mj_hw w c hi hl) = mj_den mj_P E d 122 22 [Value.ref 0, Value.int v1] [Value.int (-1 : Int32)] (mj_hw w c hi hl) := by
  rw [mj_den_eq, f122_21]
  exact zt_iconst rfl (zt_end rfl)
set_option maxRecDepth 100000 in
theorem f122_22 : mj_find (mj_P 122).2.2.2.2 22 = [(.ireturn, 1, 0, [0])] := rfl
set_option maxRecDepth 100000 in
theorem q122_22 (E : mj_E) (d w c : Nat) (hi : Nat → Nat → Int32) (hl : Nat → Nat → Int64) (v1 : Int32) (s0 : Int32) : mj_den mj_P E d 122 22 [Value.ref 0, Value.int v1] [Value.int s0] (mj_hw w c hi hl) = some (some (Value.int s0), (mj_hw w c hi hl)) := by
  rw [mj_den_eq, f122_22]
  exact zt_ireturn0
set_option maxRecDepth 100000 in
theorem f123_0 : mj_find (mj_P 123).2.2.2.2 0 = [(.iload_n 1, 1, 0, []), (.ifCond .lt 24, 3, 0, [25]), (.iload_n 1, 1, 0, []), (.aload_n 0, 1, 0, []), (.getfield 12, 3, 0, [11, 0, 3, 640]), (.getfield 72, 3, 0, [10, 0, 3, 412]), (.getfield 234, 3, 0, [7, 6, 0, 205]), (.if_icmp .ge 10, 3, 0, [25]), (.iload_n 1, 1, 0, []), (.sipush 150, 3, 150, []), (.if_icmp .lt 5, 3, 0, [27])] := rfl
set_option maxRecDepth 100000 in
theorem q123_0 (E : mj_E) (d w c : Nat) (hi : Nat → Nat → Int32) (hl : Nat → Nat → Int64) (v1 : Int32) (v2 : Int32) : mj_den mj_P E d 123 0 [Value.ref 0, Value.int v1, Value.int v2] [] (mj_hw w c hi hl) = if v1 < 0 then mj_den mj_P E d 123 25 [Value.ref 0, Value.int v1, Value.int v2] [] (mj_hw w c hi hl) else if (hi 2 6) ≤ v1 then mj_den mj_P E d 123 25 [Value.ref 0, Value.int v1, Value.int v2] [] (mj_hw w c hi hl) else if v1 < (150 : Int32) then mj_den mj_P E d 123 27 [Value.ref 0, Value.int v1, Value.int v2] [] (mj_hw w c hi hl) else mj_den mj_P E d 123 25 [Value.ref 0, Value.int v1, Value.int v2] [] (mj_hw w c hi hl) := by
  rw [mj_den_eq, f123_0]
  exact zt_iload_n rfl rfl (zt_if_lt rfl rfl (zt_iload_n rfl rfl (zt_aload_n rfl rfl (zt_getr (mjkd0 _ _ _ _) (mjhr0_0 w c) rfl (zt_getr (mjkd1 _ _ _ _) (mjhr1_0 w c) rfl (zt_geti (mjkd2 _ _ _ _) rfl rfl (zt_icmp_ge rfl rfl (zt_iload_n rfl rfl (zt_sipush rfl (zt_icmp_lt rfl rfl (zt_end rfl)))))))))))
set_option maxRecDepth 100000 in
theorem f123_25 : mj_find (mj_P 123).2.2.2.2 25 = [(.iconst (-1), 1, (-1), []), (.ireturn, 1, 0, [0])] := rfl
set_option maxRecDepth 100000 in
theorem q123_25 (E : mj_E) (d w c : Nat) (hi : Nat → Nat → Int32) (hl : Nat → Nat → Int64) (v1 : Int32) (v2 : Int32) : mj_den mj_P E d 123 25 [Value.ref 0, Value.int v1, Value.int v2] [] (mj_hw w c hi hl) = some (some (Value.int (-1 : Int32)), (mj_hw w c hi hl)) := by
  rw [mj_den_eq, f123_25]
  exact zt_iconst rfl (zt_ireturn0)
set_option maxRecDepth 100000 in
theorem f123_27 : mj_find (mj_P 123).2.2.2.2 27 = [(.iload_n 2, 1, 0, []), (.tableswitch 72 0 3 #[32, 42, 52, 62], 32, 0, [100, 60, 70, 80, 90])] := rfl
set_option maxRecDepth 100000 in
theorem q123_27 (E : mj_E) (d w c : Nat) (hi : Nat → Nat → Int32) (hl : Nat → Nat → Int64) (v1 : Int32) (v2 : Int32) : mj_den mj_P E d 123 27 [Value.ref 0, Value.int v1, Value.int v2] [] (mj_hw w c hi hl) = mj_den mj_P E d 123 (mj_sw v2 (0 : Int32) 100 [60, 70, 80, 90]) [Value.ref 0, Value.int v1, Value.int v2] [] (mj_hw w c hi hl) := by
  rw [mj_den_eq, f123_27]
  exact zt_iload_n rfl rfl (zt_sw rfl)
set_option maxRecDepth 100000 in
theorem f123_60 : mj_find (mj_P 123).2.2.2.2 60 = [(.aload_n 0, 1, 0, []), (.getfield 12, 3, 0, [11, 0, 3, 640]), (.getfield 237, 3, 0, [10, 6, 3, 425]), (.iload_n 1, 1, 0, []), (.iaload, 1, 0, []), (.ireturn, 1, 0, [0])] := rfl
set_option maxRecDepth 100000 in
theorem q123_60 (E : mj_E) (d w c : Nat) (hi : Nat → Nat → Int32) (hl : Nat → Nat → Int64) (v1 : Int32) (v2 : Int32) : mj_den mj_P E d 123 60 [Value.ref 0, Value.int v1, Value.int v2] [] (mj_hw w c hi hl) = if 0 ≤ v1 ∧ (v1).toNatClampNeg < 150 then some (some (Value.int (hi 42 ((v1).toNatClampNeg))), (mj_hw w c hi hl)) else none := by
  rw [mj_den_eq, f123_60]
  exact zt_aload_n rfl rfl (zt_getr (mjkd0 _ _ _ _) (mjhr0_0 w c) rfl (zt_getr (mjkd1 _ _ _ _) (mjhr1_6 w c) rfl (zt_iload_n rfl rfl (zt_iald (mjkd42 _ _ _ _) (mjln42 _ _ _ _) rfl rfl (zt_ireturn0)))))
set_option maxRecDepth 100000 in
theorem f123_70 : mj_find (mj_P 123).2.2.2.2 70 = [(.aload_n 0, 1, 0, []), (.getfield 12, 3, 0, [11, 0, 3, 640]), (.getfield 240, 3, 0, [10, 7, 3, 427]), (.iload_n 1, 1, 0, []), (.iaload, 1, 0, []), (.ireturn, 1, 0, [0])] := rfl
set_option maxRecDepth 100000 in
theorem q123_70 (E : mj_E) (d w c : Nat) (hi : Nat → Nat → Int32) (hl : Nat → Nat → Int64) (v1 : Int32) (v2 : Int32) : mj_den mj_P E d 123 70 [Value.ref 0, Value.int v1, Value.int v2] [] (mj_hw w c hi hl) = if 0 ≤ v1 ∧ (v1).toNatClampNeg < 150 then some (some (Value.int (hi 43 ((v1).toNatClampNeg))), (mj_hw w c hi hl)) else none := by
  rw [mj_den_eq, f123_70]
  exact zt_aload_n rfl rfl (zt_getr (mjkd0 _ _ _ _) (mjhr0_0 w c) rfl (zt_getr (mjkd1 _ _ _ _) (mjhr1_7 w c) rfl (zt_iload_n rfl rfl (zt_iald (mjkd43 _ _ _ _) (mjln43 _ _ _ _) rfl rfl (zt_ireturn0)))))
set_option maxRecDepth 100000 in
theorem f123_80 : mj_find (mj_P 123).2.2.2.2 80 = [(.aload_n 0, 1, 0, []), (.getfield 12, 3, 0, [11, 0, 3, 640]), (.getfield 243, 3, 0, [10, 8, 3, 429]), (.iload_n 1, 1, 0, []), (.iaload, 1, 0, []), (.ireturn, 1, 0, [0])] := rfl
set_option maxRecDepth 100000 in
theorem q123_80 (E : mj_E) (d w c : Nat) (hi : Nat → Nat → Int32) (hl : Nat → Nat → Int64) (v1 : Int32) (v2 : Int32) : mj_den mj_P E d 123 80 [Value.ref 0, Value.int v1, Value.int v2] [] (mj_hw w c hi hl) = if 0 ≤ v1 ∧ (v1).toNatClampNeg < 150 then some (some (Value.int (hi 44 ((v1).toNatClampNeg))), (mj_hw w c hi hl)) else none := by
  rw [mj_den_eq, f123_80]
  exact zt_aload_n rfl rfl (zt_getr (mjkd0 _ _ _ _) (mjhr0_0 w c) rfl (zt_getr (mjkd1 _ _ _ _) (mjhr1_8 w c) rfl (zt_iload_n rfl rfl (zt_iald (mjkd44 _ _ _ _) (mjln44 _ _ _ _) rfl rfl (zt_ireturn0)))))
set_option maxRecDepth 100000 in
theorem f123_90 : mj_find (mj_P 123).2.2.2.2 90 = [(.aload_n 0, 1, 0, []), (.getfield 12, 3, 0, [11, 0, 3, 640]), (.getfield 246, 3, 0, [10, 9, 3, 431]), (.iload_n 1, 1, 0, []), (.iaload, 1, 0, []), (.ireturn, 1, 0, [0])] := rfl
set_option maxRecDepth 100000 in
theorem q123_90 (E : mj_E) (d w c : Nat) (hi : Nat → Nat → Int32) (hl : Nat → Nat → Int64) (v1 : Int32) (v2 : Int32) : mj_den mj_P E d 123 90 [Value.ref 0, Value.int v1, Value.int v2] [] (mj_hw w c hi hl) = if 0 ≤ v1 ∧ (v1).toNatClampNeg < 150 then some (some (Value.int (hi 45 ((v1).toNatClampNeg))), (mj_hw w c hi hl)) else none := by
  rw [mj_den_eq, f123_90]
  exact zt_aload_n rfl rfl (zt_getr (mjkd0 _ _ _ _) (mjhr0_0 w c) rfl (zt_getr (mjkd1 _ _ _ _) (mjhr1_9 w c) rfl (zt_iload_n rfl rfl (zt_iald (mjkd45 _ _ _ _) (mjln45 _ _ _ _) rfl rfl (zt_ireturn0)))))
set_option maxRecDepth 100000 in
theorem f123_100 : mj_find (mj_P 123).2.2.2.2 100 = [(.iconst (-1), 1, (-1), []), (.ireturn, 1, 0, [0])] := rfl
set_option maxRecDepth 100000 in
theorem q123_100 (E : mj_E) (d w c : Nat) (hi : Nat → Nat → Int32) (hl : Nat → Nat → Int64) (v1 : Int32) (v2 : Int32) : mj_den mj_P E d 123 100 [Value.ref 0, Value.int v1, Value.int v2] [] (mj_hw w c hi hl) = some (some (Value.int (-1 : Int32)), (mj_hw w c hi hl)) := by
  rw [mj_den_eq, f123_100]
  exact zt_iconst rfl (zt_ireturn0)
set_option maxRecDepth 100000 in
theorem f124_0 : mj_find (mj_P 124).2.2.2.2 0 = [(.aload_n 0, 1, 0, []), (.getfield 12, 3, 0, [11, 0, 3, 640]), (.getfield 72, 3, 0, [10, 0, 3, 412]), (.iload_n 1, 1, 0, []), (.invokevirtual 108, 3, 0, [0, 71, 7, 1, 1, 708, 709, 710, 145, 711])] := rfl
set_option maxRecDepth 100000 in
theorem q124_0 (E : mj_E) (d w c : Nat) (hi : Nat → Nat → Int32) (hl : Nat → Nat → Int64) (v1 : Int32) (v2 : Int32) : mj_den mj_P E d 124 0 [Value.ref 0, Value.int v1, Value.int v2] [] (mj_hw w c hi hl) = mj_bi (mj_dc mj_P E d 71 [Value.ref 2, Value.int v1] (mj_hw w c hi hl)) (fun x1 h1 => mj_den mj_P E d 124 11 [Value.ref 0, Value.int v1, Value.int v2] [Value.int x1] h1) := by
  rw [mj_den_eq, f124_0]
  exact zt_aload_n rfl rfl (zt_getr (mjkd0 _ _ _ _) (mjhr0_0 w c) rfl (zt_getr (mjkd1 _ _ _ _) (mjhr1_0 w c) rfl (zt_iload_n rfl rfl (zt_call0_1 rfl (mjkd2 _ _ _ _) (Nat.le_of_ble_eq_true rfl) rfl rfl))))
set_option maxRecDepth 100000 in
theorem f124_11 : mj_find (mj_P 124).2.2.2.2 11 = [(.ifCond .eq 11, 3, 0, [22]), (.iload_n 2, 1, 0, []), (.iconst 2, 1, 2, []), (.invokestatic 82, 3, 0, [1, 147, 0, 2, 1, 683, 684, 143, 685])] := rfl
set_option maxRecDepth 100000 in
theorem q124_11 (E : mj_E) (d w c : Nat) (hi : Nat → Nat → Int32) (hl : Nat → Nat → Int64) (v1 : Int32) (v2 : Int32) (s0 : Int32) : mj_den mj_P E d 124 11 [Value.ref 0, Value.int v1, Value.int v2] [Value.int s0] (mj_hw w c hi hl) = if s0 = 0 then mj_den mj_P E d 124 22 [Value.ref 0, Value.int v1, Value.int v2] [] (mj_hw w c hi hl) else mj_bi (mj_dc mj_P E d 147 [Value.int v2, Value.int (2 : Int32)] (mj_hw w c hi hl)) (fun x1 h1 => mj_den mj_P E d 124 19 [Value.ref 0, Value.int v1, Value.int v2] [Value.int x1] h1) := by
  rw [mj_den_eq, f124_11]
  exact zt_if_eq rfl rfl (zt_iload_n rfl rfl (zt_iconst rfl (zt_call1_1 (Nat.le_of_ble_eq_true rfl) rfl (Nat.le_of_ble_eq_true rfl) rfl rfl)))
set_option maxRecDepth 100000 in
theorem f124_19 : mj_find (mj_P 124).2.2.2.2 19 = [(.ifCond .ne 5, 3, 0, [24])] := rfl
set_option maxRecDepth 100000 in
theorem q124_19 (E : mj_E) (d w c : Nat) (hi : Nat → Nat → Int32) (hl : Nat → Nat → Int64) (v1 : Int32) (v2 : Int32) (s0 : Int32) : mj_den mj_P E d 124 19 [Value.ref 0, Value.int v1, Value.int v2] [Value.int s0] (mj_hw w c hi hl) = if ¬ s0 = 0 then mj_den mj_P E d 124 24 [Value.ref 0, Value.int v1, Value.int v2] [] (mj_hw w c hi hl) else mj_den mj_P E d 124 22 [Value.ref 0, Value.int v1, Value.int v2] [] (mj_hw w c hi hl) := by
  rw [mj_den_eq, f124_19]
  exact zt_if_ne rfl rfl (zt_end rfl)
set_option maxRecDepth 100000 in
theorem f124_22 : mj_find (mj_P 124).2.2.2.2 22 = [(.iconst (-1), 1, (-1), []), (.ireturn, 1, 0, [0])] := rfl
set_option maxRecDepth 100000 in
theorem q124_22 (E : mj_E) (d w c : Nat) (hi : Nat → Nat → Int32) (hl : Nat → Nat → Int64) (v1 : Int32) (v2 : Int32) : mj_den mj_P E d 124 22 [Value.ref 0, Value.int v1, Value.int v2] [] (mj_hw w c hi hl) = some (some (Value.int (-1 : Int32)), (mj_hw w c hi hl)) := by
  rw [mj_den_eq, f124_22]
  exact zt_iconst rfl (zt_ireturn0)
set_option maxRecDepth 100000 in
theorem f124_24 : mj_find (mj_P 124).2.2.2.2 24 = [(.aload_n 0, 1, 0, []), (.getfield 40, 3, 0, [11, 5, 3, 645]), (.aload_n 0, 1, 0, []), (.getfield 12, 3, 0, [11, 0, 3, 640]), (.getfield 72, 3, 0, [10, 0, 3, 412]), (.invokevirtual 249, 3, 0, [0, 83, 7, 1, 0, 1087, 721, 722, 145, 723])] := rfl
set_option maxRecDepth 100000 in
theorem q124_24 (E : mj_E) (d w c : Nat) (hi : Nat → Nat → Int32) (hl : Nat → Nat → Int64) (v1 : Int32) (v2 : Int32) : mj_den mj_P E d 124 24 [Value.ref 0, Value.int v1, Value.int v2] [] (mj_hw w c hi hl) = mj_bv (mj_dc mj_P E d 83 [Value.ref 177, Value.ref 2] (mj_hw w c hi hl)) (fun h1 => mj_den mj_P E d 124 38 [Value.ref 0, Value.int v1, Value.int v2] [] h1) := by
  rw [mj_den_eq, f124_24]
  exact zt_aload_n rfl rfl (zt_getr (mjkd0 _ _ _ _) (mjhr0_5 w c) rfl (zt_aload_n rfl rfl (zt_getr (mjkd0 _ _ _ _) (mjhr0_0 w c) rfl (zt_getr (mjkd1 _ _ _ _) (mjhr1_0 w c) rfl (zt_call0_0 rfl (mjkd177 _ _ _ _) (Nat.le_of_ble_eq_true rfl) rfl rfl)))))
set_option maxRecDepth 100000 in
theorem f124_38 : mj_find (mj_P 124).2.2.2.2 38 = [(.aload_n 0, 1, 0, []), (.getfield 47, 3, 0, [11, 6, 3, 646]), (.aload_n 0, 1, 0, []), (.getfield 12, 3, 0, [11, 0, 3, 640]), (.aload_n 0, 1, 0, []), (.getfield 40, 3, 0, [11, 5, 3, 645]), (.iload_n 1, 1, 0, []), (.iconst 1, 1, 1, []), (.invokevirtual 133, 3, 0, [0, 1, 0, 4, 0, 734, 735, 736, 151, 737])] := rfl
set_option maxRecDepth 100000 in
theorem q124_38 (E : mj_E) (d w c : Nat) (hi : Nat → Nat → Int32) (hl : Nat → Nat → Int64) (v1 : Int32) (v2 : Int32) : mj_den mj_P E d 124 38 [Value.ref 0, Value.int v1, Value.int v2] [] (mj_hw w c hi hl) = mj_bv (mj_dc mj_P E d 1 [Value.ref 188, Value.ref 1, Value.ref 177, Value.int v1, Value.int (1 : Int32)] (mj_hw w c hi hl)) (fun h1 => mj_den mj_P E d 124 55 [Value.ref 0, Value.int v1, Value.int v2] [] h1) := by
  rw [mj_den_eq, f124_38]
  exact zt_aload_n rfl rfl (zt_getr (mjkd0 _ _ _ _) (mjhr0_6 w c) rfl (zt_aload_n rfl rfl (zt_getr (mjkd0 _ _ _ _) (mjhr0_0 w c) rfl (zt_aload_n rfl rfl (zt_getr (mjkd0 _ _ _ _) (mjhr0_5 w c) rfl (zt_iload_n rfl rfl (zt_iconst rfl (zt_call0_0 rfl (mjkd188 _ _ _ _) (Nat.le_of_ble_eq_true rfl) rfl rfl))))))))
set_option maxRecDepth 100000 in
theorem f124_55 : mj_find (mj_P 124).2.2.2.2 55 = [(.aload_n 0, 1, 0, []), (.getfield 47, 3, 0, [11, 6, 3, 646]), (.getfield 137, 3, 0, [0, 0, 0, 551]), (.iconst (-1), 1, (-1), []), (.if_icmp .eq 7, 3, 0, [70]), (.iload_n 2, 1, 0, []), (.ifCond .ne 11, 3, 0, [78])] := rfl
set_option maxRecDepth 100000 in
theorem q124_55 (E : mj_E) (d w c : Nat) (hi : Nat → Nat → Int32) (hl : Nat → Nat → Int64) (v1 : Int32) (v2 : Int32) : mj_den mj_P E d 124 55 [Value.ref 0, Value.int v1, Value.int v2] [] (mj_hw w c hi hl) = if (hi 188 0) = (-1 : Int32) then mj_den mj_P E d 124 70 [Value.ref 0, Value.int v1, Value.int v2] [] (mj_hw w c hi hl) else if ¬ v2 = 0 then mj_den mj_P E d 124 78 [Value.ref 0, Value.int v1, Value.int v2] [] (mj_hw w c hi hl) else mj_den mj_P E d 124 70 [Value.ref 0, Value.int v1, Value.int v2] [] (mj_hw w c hi hl) := by
  rw [mj_den_eq, f124_55]
  exact zt_aload_n rfl rfl (zt_getr (mjkd0 _ _ _ _) (mjhr0_6 w c) rfl (zt_geti (mjkd188 _ _ _ _) rfl rfl (zt_iconst rfl (zt_icmp_eq rfl rfl (zt_iload_n rfl rfl (zt_if_ne rfl rfl (zt_end rfl)))))))
set_option maxRecDepth 100000 in
theorem f124_70 : mj_find (mj_P 124).2.2.2.2 70 = [(.aload_n 0, 1, 0, []), (.getfield 47, 3, 0, [11, 6, 3, 646]), (.getfield 137, 3, 0, [0, 0, 0, 551]), (.ireturn, 1, 0, [0])] := rfl
set_option maxRecDepth 100000 in
theorem q124_70 (E : mj_E) (d w c : Nat) (hi : Nat → Nat → Int32) (hl : Nat → Nat → Int64) (v1 : Int32) (v2 : Int32) : mj_den mj_P E d 124 70 [Value.ref 0, Value.int v1, Value.int v2] [] (mj_hw w c hi hl) = some (some (Value.int (hi 188 0)), (mj_hw w c hi hl)) := by
  rw [mj_den_eq, f124_70]
  exact zt_aload_n rfl rfl (zt_getr (mjkd0 _ _ _ _) (mjhr0_6 w c) rfl (zt_geti (mjkd188 _ _ _ _) rfl rfl (zt_ireturn0)))
set_option maxRecDepth 100000 in
theorem f124_78 : mj_find (mj_P 124).2.2.2.2 78 = [(.iload_n 2, 1, 0, []), (.iconst 1, 1, 1, []), (.if_icmp .ne 13, 3, 0, [93]), (.aload_n 0, 1, 0, []), (.getfield 47, 3, 0, [11, 6, 3, 646]), (.getfield 251, 3, 0, [0, 1, 0, 553]), (.goto 10, 3, 0, [100])] := rfl
set_option maxRecDepth 100000 in
theorem q124_78 (E : mj_E) (d w c : Nat) (hi : Nat → Nat → Int32) (hl : Nat → Nat → Int64) (v1 : Int32) (v2 : Int32) : mj_den mj_P E d 124 78 [Value.ref 0, Value.int v1, Value.int v2] [] (mj_hw w c hi hl) = if ¬ v2 = (1 : Int32) then mj_den mj_P E d 124 93 [Value.ref 0, Value.int v1, Value.int v2] [] (mj_hw w c hi hl) else mj_den mj_P E d 124 100 [Value.ref 0, Value.int v1, Value.int v2] [Value.int (hi 188 1)] (mj_hw w c hi hl) := by
  rw [mj_den_eq, f124_78]
  exact zt_iload_n rfl rfl (zt_iconst rfl (zt_icmp_ne rfl rfl (zt_aload_n rfl rfl (zt_getr (mjkd0 _ _ _ _) (mjhr0_6 w c) rfl (zt_geti (mjkd188 _ _ _ _) rfl rfl (zt_goto rfl))))))
set_option maxRecDepth 100000 in
theorem f124_93 : mj_find (mj_P 124).2.2.2.2 93 = [(.aload_n 0, 1, 0, []), (.getfield 47, 3, 0, [11, 6, 3, 646]), (.getfield 254, 3, 0, [0, 2, 0, 555])] := rfl
set_option maxRecDepth 100000 in
theorem q124_93 (E : mj_E) (d w c : Nat) (hi : Nat → Nat → Int32) (hl : Nat → Nat → Int64) (v1 : Int32) (v2 : Int32) : mj_den mj_P E d 124 93 [Value.ref 0, Value.int v1, Value.int v2] [] (mj_hw w c hi hl) = mj_den mj_P E d 124 100 [Value.ref 0, Value.int v1, Value.int v2] [Value.int (hi 188 2)] (mj_hw w c hi hl) := by
  rw [mj_den_eq, f124_93]
  exact zt_aload_n rfl rfl (zt_getr (mjkd0 _ _ _ _) (mjhr0_6 w c) rfl (zt_geti (mjkd188 _ _ _ _) rfl rfl (zt_end rfl)))
set_option maxRecDepth 100000 in
theorem f124_100 : mj_find (mj_P 124).2.2.2.2 100 = [(.ireturn, 1, 0, [0])] := rfl
set_option maxRecDepth 100000 in
theorem q124_100 (E : mj_E) (d w c : Nat) (hi : Nat → Nat → Int32) (hl : Nat → Nat → Int64) (v1 : Int32) (v2 : Int32) (s0 : Int32) : mj_den mj_P E d 124 100 [Value.ref 0, Value.int v1, Value.int v2] [Value.int s0] (mj_hw w c hi hl) = some (some (Value.int s0), (mj_hw w c hi hl)) := by
  rw [mj_den_eq, f124_100]
  exact zt_ireturn0
set_option maxRecDepth 100000 in
theorem f125_0 : mj_find (mj_P 125).2.2.2.2 0 = [(.aload_n 0, 1, 0, []), (.getfield 12, 3, 0, [11, 0, 3, 640]), (.getfield 72, 3, 0, [10, 0, 3, 412]), (.astore 4, 2, 0, []), (.aload 4, 2, 0, []), (.iload_n 1, 1, 0, []), (.invokevirtual 104, 3, 0, [0, 70, 7, 1, 1, 704, 705, 706, 145, 707])] := rfl
set_option maxRecDepth 100000 in
theorem q125_0 (E : mj_E) (d w c : Nat) (hi : Nat → Nat → Int32) (hl : Nat → Nat → Int64) (v1 : Int32) (v2 : Int32) (v3 : Int32) : mj_den mj_P E d 125 0 [Value.ref 0, Value.int v1, Value.int v2, Value.int v3, Value.float 0, Value.float 0, Value.float 0, Value.float 0, Value.float 0, Value.float 0] [] (mj_hw w c hi hl) = mj_bi (mj_dc mj_P E d 70 [Value.ref 2, Value.int v1] (mj_hw w c hi hl)) (fun x1 h1 => mj_den mj_P E d 125 15 [Value.ref 0, Value.int v1, Value.int v2, Value.int v3, Value.ref 2, Value.float 0, Value.float 0, Value.float 0, Value.float 0, Value.float 0] [Value.int x1] h1) := by
  rw [mj_den_eq, f125_0]
  exact zt_aload_n rfl rfl (zt_getr (mjkd0 _ _ _ _) (mjhr0_0 w c) rfl (zt_getr (mjkd1 _ _ _ _) (mjhr1_0 w c) rfl (zt_astore (Nat.le_of_ble_eq_true rfl) rfl rfl (zt_aload rfl rfl (zt_iload_n rfl rfl (zt_call0_1 rfl (mjkd2 _ _ _ _) (Nat.le_of_ble_eq_true rfl) rfl rfl))))))
set_option maxRecDepth 100000 in
theorem f125_15 : mj_find (mj_P 125).2.2.2.2 15 = [(.ifCond .eq 20, 3, 0, [35]), (.aload 4, 2, 0, []), (.iload_n 2, 1, 0, []), (.invokevirtual 108, 3, 0, [0, 71, 7, 1, 1, 708, 709, 710, 145, 711])] := rfl
set_option maxRecDepth 100000 in
theorem q125_15 (E : mj_E) (d w c : Nat) (hi : Nat → Nat → Int32) (hl : Nat → Nat → Int64) (v1 : Int32) (v2 : Int32) (v3 : Int32) (s0 : Int32) : mj_den mj_P E d 125 15 [Value.ref 0, Value.int v1, Value.int v2, Value.int v3, Value.ref 2, Value.float 0, Value.float 0, Value.float 0, Value.float 0, Value.float 0] [Value.int s0] (mj_hw w c hi hl) = if s0 = 0 then mj_den mj_P E d 125 35 [Value.ref 0, Value.int v1, Value.int v2, Value.int v3, Value.ref 2, Value.float 0, Value.float 0, Value.float 0, Value.float 0, Value.float 0] [] (mj_hw w c hi hl) else mj_bi (mj_dc mj_P E d 71 [Value.ref 2, Value.int v2] (mj_hw w c hi hl)) (fun x1 h1 => mj_den mj_P E d 125 24 [Value.ref 0, Value.int v1, Value.int v2, Value.int v3, Value.ref 2, Value.float 0, Value.float 0, Value.float 0, Value.float 0, Value.float 0] [Value.int x1] h1) := by
  rw [mj_den_eq, f125_15]
  exact zt_if_eq rfl rfl (zt_aload rfl rfl (zt_iload_n rfl rfl (zt_call0_1 rfl (mjkd2 _ _ _ _) (Nat.le_of_ble_eq_true rfl) rfl rfl)))
set_option maxRecDepth 100000 in
theorem f125_24 : mj_find (mj_P 125).2.2.2.2 24 = [(.ifCond .eq 11, 3, 0, [35]), (.iload_n 3, 1, 0, []), (.iconst 1, 1, 1, []), (.invokestatic 82, 3, 0, [1, 147, 0, 2, 1, 683, 684, 143, 685])] := rfl
set_option maxRecDepth 100000 in
theorem q125_24 (E : mj_E) (d w c : Nat) (hi : Nat → Nat → Int32) (hl : Nat → Nat → Int64) (v1 : Int32) (v2 : Int32) (v3 : Int32) (s0 : Int32) : mj_den mj_P E d 125 24 [Value.ref 0, Value.int v1, Value.int v2, Value.int v3, Value.ref 2, Value.float 0, Value.float 0, Value.float 0, Value.float 0, Value.float 0] [Value.int s0] (mj_hw w c hi hl) = if s0 = 0 then mj_den mj_P E d 125 35 [Value.ref 0, Value.int v1, Value.int v2, Value.int v3, Value.ref 2, Value.float 0, Value.float 0, Value.float 0, Value.float 0, Value.float 0] [] (mj_hw w c hi hl) else mj_bi (mj_dc mj_P E d 147 [Value.int v3, Value.int (1 : Int32)] (mj_hw w c hi hl)) (fun x1 h1 => mj_den mj_P E d 125 32 [Value.ref 0, Value.int v1, Value.int v2, Value.int v3, Value.ref 2, Value.float 0, Value.float 0, Value.float 0, Value.float 0, Value.float 0] [Value.int x1] h1) := by
  rw [mj_den_eq, f125_24]
  exact zt_if_eq rfl rfl (zt_iload_n rfl rfl (zt_iconst rfl (zt_call1_1 (Nat.le_of_ble_eq_true rfl) rfl (Nat.le_of_ble_eq_true rfl) rfl rfl)))
set_option maxRecDepth 100000 in
theorem f125_32 : mj_find (mj_P 125).2.2.2.2 32 = [(.ifCond .ne 5, 3, 0, [37])] := rfl
set_option maxRecDepth 100000 in
theorem q125_32 (E : mj_E) (d w c : Nat) (hi : Nat → Nat → Int32) (hl : Nat → Nat → Int64) (v1 : Int32) (v2 : Int32) (v3 : Int32) (s0 : Int32) : mj_den mj_P E d 125 32 [Value.ref 0, Value.int v1, Value.int v2, Value.int v3, Value.ref 2, Value.float 0, Value.float 0, Value.float 0, Value.float 0, Value.float 0] [Value.int s0] (mj_hw w c hi hl) = if ¬ s0 = 0 then mj_den mj_P E d 125 37 [Value.ref 0, Value.int v1, Value.int v2, Value.int v3, Value.ref 2, Value.float 0, Value.float 0, Value.float 0, Value.float 0, Value.float 0] [] (mj_hw w c hi hl) else mj_den mj_P E d 125 35 [Value.ref 0, Value.int v1, Value.int v2, Value.int v3, Value.ref 2, Value.float 0, Value.float 0, Value.float 0, Value.float 0, Value.float 0] [] (mj_hw w c hi hl) := by
  rw [mj_den_eq, f125_32]
  exact zt_if_ne rfl rfl (zt_end rfl)
set_option maxRecDepth 100000 in
theorem f125_35 : mj_find (mj_P 125).2.2.2.2 35 = [(.iconst (-1), 1, (-1), []), (.ireturn, 1, 0, [0])] := rfl
set_option maxRecDepth 100000 in
theorem q125_35 (E : mj_E) (d w c : Nat) (hi : Nat → Nat → Int32) (hl : Nat → Nat → Int64) (v1 : Int32) (v2 : Int32) (v3 : Int32) : mj_den mj_P E d 125 35 [Value.ref 0, Value.int v1, Value.int v2, Value.int v3, Value.ref 2, Value.float 0, Value.float 0, Value.float 0, Value.float 0, Value.float 0] [] (mj_hw w c hi hl) = some (some (Value.int (-1 : Int32)), (mj_hw w c hi hl)) := by
  rw [mj_den_eq, f125_35]
  exact zt_iconst rfl (zt_ireturn0)
set_option maxRecDepth 100000 in
theorem f125_37 : mj_find (mj_P 125).2.2.2.2 37 = [(.aload 4, 2, 0, []), (.invokevirtual 218, 3, 0, [0, 77, 7, 0, 1, 1071, 739, 740, 145, 741])] := rfl
set_option maxRecDepth 100000 in
theorem q125_37 (E : mj_E) (d w c : Nat) (hi : Nat → Nat → Int32) (hl : Nat → Nat → Int64) (v1 : Int32) (v2 : Int32) (v3 : Int32) : mj_den mj_P E d 125 37 [Value.ref 0, Value.int v1, Value.int v2, Value.int v3, Value.ref 2, Value.float 0, Value.float 0, Value.float 0, Value.float 0, Value.float 0] [] (mj_hw w c hi hl) = mj_bi (mj_dc mj_P E d 77 [Value.ref 2] (mj_hw w c hi hl)) (fun x1 h1 => mj_den mj_P E d 125 42 [Value.ref 0, Value.int v1, Value.int v2, Value.int v3, Value.ref 2, Value.float 0, Value.float 0, Value.float 0, Value.float 0, Value.float 0] [Value.int x1] h1) := by
  rw [mj_den_eq, f125_37]
  exact zt_aload rfl rfl (zt_call0_1 rfl (mjkd2 _ _ _ _) (Nat.le_of_ble_eq_true rfl) rfl rfl)
set_option maxRecDepth 100000 in
theorem f125_42 : mj_find (mj_P 125).2.2.2.2 42 = [(.invokestatic 222, 3, 0, [1, 293, 0, 1, 1, 1072, 744, 155, 745])] := rfl
set_option maxRecDepth 100000 in
theorem q125_42 (E : mj_E) (d w c : Nat) (hi : Nat → Nat → Int32) (hl : Nat → Nat → Int64) (v1 : Int32) (v2 : Int32) (v3 : Int32) (s0 : Int32) : mj_den mj_P E d 125 42 [Value.ref 0, Value.int v1, Value.int v2, Value.int v3, Value.ref 2, Value.float 0, Value.float 0, Value.float 0, Value.float 0, Value.float 0] [Value.int s0] (mj_hw w c hi hl) = mj_bi (mj_dc mj_P E d 293 [Value.int s0] (mj_hw w c hi hl)) (fun x1 h1 => mj_den mj_P E d 125 45 [Value.ref 0, Value.int v1, Value.int v2, Value.int v3, Value.ref 2, Value.float 0, Value.float 0, Value.float 0, Value.float 0, Value.float 0] [Value.int x1] h1) := by
  rw [mj_den_eq, f125_42]
  exact zt_call1_1 (Nat.le_of_ble_eq_true rfl) rfl (Nat.le_of_ble_eq_true rfl) rfl rfl
set_option maxRecDepth 100000 in
theorem f125_45 : mj_find (mj_P 125).2.2.2.2 45 = [(.istore 5, 2, 0, []), (.iconst 0, 1, 0, []), (.istore 6, 2, 0, []), (.iconst (-1), 1, (-1), []), (.istore 7, 2, 0, []), (.iconst 0, 1, 0, []), (.istore 8, 2, 0, [])] := rfl
set_option maxRecDepth 100000 in
theorem q125_45 (E : mj_E) (d w c : Nat) (hi : Nat → Nat → Int32) (hl : Nat → Nat → Int64) (v1 : Int32) (v2 : Int32) (v3 : Int32) (s0 : Int32) : mj_den mj_P E d 125 45 [Value.ref 0, Value.int v1, Value.int v2, Value.int v3, Value.ref 2, Value.float 0, Value.float 0, Value.float 0, Value.float 0, Value.float 0] [Value.int s0] (mj_hw w c hi hl) = mj_den mj_P E d 125 56 [Value.ref 0, Value.int v1, Value.int v2, Value.int v3, Value.ref 2, Value.int s0, Value.int (0 : Int32), Value.int (-1 : Int32), Value.int (0 : Int32), Value.float 0] [] (mj_hw w c hi hl) := by
  rw [mj_den_eq, f125_45]
  exact zt_istore (Nat.le_of_ble_eq_true rfl) rfl rfl (zt_iconst rfl (zt_istore (Nat.le_of_ble_eq_true rfl) rfl rfl (zt_iconst rfl (zt_istore (Nat.le_of_ble_eq_true rfl) rfl rfl (zt_iconst rfl (zt_istore (Nat.le_of_ble_eq_true rfl) rfl rfl (zt_end rfl)))))))
set_option maxRecDepth 100000 in
theorem f125_56 : mj_find (mj_P 125).2.2.2.2 56 = [(.iload 8, 2, 0, []), (.bipush 8, 2, 8, []), (.if_icmp .ge 46, 3, 0, [106]), (.aload_n 0, 1, 0, []), (.getfield 12, 3, 0, [11, 0, 3, 640]), (.getfield 182, 3, 0, [10, 1, 3, 415]), (.aload 4, 2, 0, []), (.iconst 0, 1, 0, []), (.iload_n 1, 1, 0, []), (.iload_n 2, 1, 0, []), (.iload 8, 2, 0, []), (.iconst 0, 1, 0, []), (.iload 5, 2, 0, []), (.invokevirtual 227, 3, 0, [0, 18, 2, 7, 1, 1073, 761, 762, 146, 763])] := rfl
set_option maxRecDepth 100000 in
theorem q125_56 (E : mj_E) (d w c : Nat) (hi : Nat → Nat → Int32) (hl : Nat → Nat → Int64) (v1 : Int32) (v2 : Int32) (v3 : Int32) (v5 : Int32) (v6 : Int32) (v7 : Int32) (v8 : Int32) : mj_den mj_P E d 125 56 [Value.ref 0, Value.int v1, Value.int v2, Value.int v3, Value.ref 2, Value.int v5, Value.int v6, Value.int v7, Value.int v8, Value.float 0] [] (mj_hw w c hi hl) = if (8 : Int32) ≤ v8 then mj_den mj_P E d 125 106 [Value.ref 0, Value.int v1, Value.int v2, Value.int v3, Value.ref 2, Value.int v5, Value.int v6, Value.int v7, Value.int v8, Value.float 0] [] (mj_hw w c hi hl) else mj_bi (mj_dc mj_P E d 18 [Value.ref 13, Value.ref 2, Value.int (0 : Int32), Value.int v1, Value.int v2, Value.int v8, Value.int (0 : Int32), Value.int v5] (mj_hw w c hi hl)) (fun x1 h1 => mj_den mj_P E d 125 83 [Value.ref 0, Value.int v1, Value.int v2, Value.int v3, Value.ref 2, Value.int v5, Value.int v6, Value.int v7, Value.int v8, Value.float 0] [Value.int x1] h1) := by
  rw [mj_den_eq, f125_56]
  exact zt_iload rfl rfl (zt_bipush rfl (zt_icmp_ge rfl rfl (zt_aload_n rfl rfl (zt_getr (mjkd0 _ _ _ _) (mjhr0_0 w c) rfl (zt_getr (mjkd1 _ _ _ _) (mjhr1_1 w c) rfl (zt_aload rfl rfl (zt_iconst rfl (zt_iload_n rfl rfl (zt_iload_n rfl rfl (zt_iload rfl rfl (zt_iconst rfl (zt_iload rfl rfl (zt_call0_1 rfl (mjkd13 _ _ _ _) (Nat.le_of_ble_eq_true rfl) rfl rfl)))))))))))))
set_option maxRecDepth 100000 in
theorem q125_56_1 (E : mj_E) (d w c : Nat) (hi : Nat → Nat → Int32) (hl : Nat → Nat → Int64) (v1 : Int32) (v2 : Int32) (v3 : Int32) (v5 : Int32) (v6 : Int32) (v7 : Int32) (v8 : Int32) (v9 : Int32) : mj_den mj_P E d 125 56 [Value.ref 0, Value.int v1, Value.int v2, Value.int v3, Value.ref 2, Value.int v5, Value.int v6, Value.int v7, Value.int v8, Value.int v9] [] (mj_hw w c hi hl) = if (8 : Int32) ≤ v8 then mj_den mj_P E d 125 106 [Value.ref 0, Value.int v1, Value.int v2, Value.int v3, Value.ref 2, Value.int v5, Value.int v6, Value.int v7, Value.int v8, Value.int v9] [] (mj_hw w c hi hl) else mj_bi (mj_dc mj_P E d 18 [Value.ref 13, Value.ref 2, Value.int (0 : Int32), Value.int v1, Value.int v2, Value.int v8, Value.int (0 : Int32), Value.int v5] (mj_hw w c hi hl)) (fun x1 h1 => mj_den mj_P E d 125 83 [Value.ref 0, Value.int v1, Value.int v2, Value.int v3, Value.ref 2, Value.int v5, Value.int v6, Value.int v7, Value.int v8, Value.int v9] [Value.int x1] h1) := by
  rw [mj_den_eq, f125_56]
  exact zt_iload rfl rfl (zt_bipush rfl (zt_icmp_ge rfl rfl (zt_aload_n rfl rfl (zt_getr (mjkd0 _ _ _ _) (mjhr0_0 w c) rfl (zt_getr (mjkd1 _ _ _ _) (mjhr1_1 w c) rfl (zt_aload rfl rfl (zt_iconst rfl (zt_iload_n rfl rfl (zt_iload_n rfl rfl (zt_iload rfl rfl (zt_iconst rfl (zt_iload rfl rfl (zt_call0_1 rfl (mjkd13 _ _ _ _) (Nat.le_of_ble_eq_true rfl) rfl rfl)))))))))))))
set_option maxRecDepth 100000 in
theorem f125_83 : mj_find (mj_P 125).2.2.2.2 83 = [(.istore 9, 2, 0, []), (.iload 9, 2, 0, []), (.iload 7, 2, 0, []), (.if_icmp .le 11, 3, 0, [100]), (.iload 9, 2, 0, []), (.istore 7, 2, 0, []), (.iload 8, 2, 0, []), (.istore 6, 2, 0, [])] := rfl
set_option maxRecDepth 100000 in
theorem q125_83 (E : mj_E) (d w c : Nat) (hi : Nat → Nat → Int32) (hl : Nat → Nat → Int64) (v1 : Int32) (v2 : Int32) (v3 : Int32) (v5 : Int32) (v6 : Int32) (v7 : Int32) (v8 : Int32) (s0 : Int32) : mj_den mj_P E d 125 83 [Value.ref 0, Value.int v1, Value.int v2, Value.int v3, Value.ref 2, Value.int v5, Value.int v6, Value.int v7, Value.int v8, Value.float 0] [Value.int s0] (mj_hw w c hi hl) = if s0 ≤ v7 then mj_den mj_P E d 125 100 [Value.ref 0, Value.int v1, Value.int v2, Value.int v3, Value.ref 2, Value.int v5, Value.int v6, Value.int v7, Value.int v8, Value.int s0] [] (mj_hw w c hi hl) else mj_den mj_P E d 125 100 [Value.ref 0, Value.int v1, Value.int v2, Value.int v3, Value.ref 2, Value.int v5, Value.int v8, Value.int s0, Value.int v8, Value.int s0] [] (mj_hw w c hi hl) := by
  rw [mj_den_eq, f125_83]
  exact zt_istore (Nat.le_of_ble_eq_true rfl) rfl rfl (zt_iload rfl rfl (zt_iload rfl rfl (zt_icmp_le rfl rfl (zt_iload rfl rfl (zt_istore (Nat.le_of_ble_eq_true rfl) rfl rfl (zt_iload rfl rfl (zt_istore (Nat.le_of_ble_eq_true rfl) rfl rfl (zt_end rfl))))))))
set_option maxRecDepth 100000 in
theorem q125_83_1 (E : mj_E) (d w c : Nat) (hi : Nat → Nat → Int32) (hl : Nat → Nat → Int64) (v1 : Int32) (v2 : Int32) (v3 : Int32) (v5 : Int32) (v6 : Int32) (v7 : Int32) (v8 : Int32) (v9 : Int32) (s0 : Int32) : mj_den mj_P E d 125 83 [Value.ref 0, Value.int v1, Value.int v2, Value.int v3, Value.ref 2, Value.int v5, Value.int v6, Value.int v7, Value.int v8, Value.int v9] [Value.int s0] (mj_hw w c hi hl) = if s0 ≤ v7 then mj_den mj_P E d 125 100 [Value.ref 0, Value.int v1, Value.int v2, Value.int v3, Value.ref 2, Value.int v5, Value.int v6, Value.int v7, Value.int v8, Value.int s0] [] (mj_hw w c hi hl) else mj_den mj_P E d 125 100 [Value.ref 0, Value.int v1, Value.int v2, Value.int v3, Value.ref 2, Value.int v5, Value.int v8, Value.int s0, Value.int v8, Value.int s0] [] (mj_hw w c hi hl) := by
  rw [mj_den_eq, f125_83]
  exact zt_istore (Nat.le_of_ble_eq_true rfl) rfl rfl (zt_iload rfl rfl (zt_iload rfl rfl (zt_icmp_le rfl rfl (zt_iload rfl rfl (zt_istore (Nat.le_of_ble_eq_true rfl) rfl rfl (zt_iload rfl rfl (zt_istore (Nat.le_of_ble_eq_true rfl) rfl rfl (zt_end rfl))))))))
set_option maxRecDepth 100000 in
theorem f125_100 : mj_find (mj_P 125).2.2.2.2 100 = [(.iinc 8 1, 3, 1, []), (.goto (-47), 3, 0, [56])] := rfl
set_option maxRecDepth 100000 in
theorem q125_100 (E : mj_E) (d w c : Nat) (hi : Nat → Nat → Int32) (hl : Nat → Nat → Int64) (v1 : Int32) (v2 : Int32) (v3 : Int32) (v5 : Int32) (v6 : Int32) (v7 : Int32) (v8 : Int32) (v9 : Int32) : mj_den mj_P E d 125 100 [Value.ref 0, Value.int v1, Value.int v2, Value.int v3, Value.ref 2, Value.int v5, Value.int v6, Value.int v7, Value.int v8, Value.int v9] [] (mj_hw w c hi hl) = mj_den mj_P E d 125 56 [Value.ref 0, Value.int v1, Value.int v2, Value.int v3, Value.ref 2, Value.int v5, Value.int v6, Value.int v7, Value.int (v8 + (1 : Int32)), Value.int v9] [] (mj_hw w c hi hl) := by
  rw [mj_den_eq, f125_100]
  exact zt_iinc rfl (Nat.le_of_ble_eq_true rfl) rfl rfl (zt_goto rfl)
set_option maxRecDepth 100000 in
theorem f125_106 : mj_find (mj_P 125).2.2.2.2 106 = [(.iload_n 3, 1, 0, []), (.ifCond .ne 8, 3, 0, [115]), (.iload 6, 2, 0, []), (.goto 5, 3, 0, [117])] := rfl
set_option maxRecDepth 100000 in
theorem q125_106 (E : mj_E) (d w c : Nat) (hi : Nat → Nat → Int32) (hl : Nat → Nat → Int64) (v1 : Int32) (v2 : Int32) (v3 : Int32) (v5 : Int32) (v6 : Int32) (v7 : Int32) (v8 : Int32) (v9 : Int32) : mj_den mj_P E d 125 106 [Value.ref 0, Value.int v1, Value.int v2, Value.int v3, Value.ref 2, Value.int v5, Value.int v6, Value.int v7, Value.int v8, Value.int v9] [] (mj_hw w c hi hl) = if ¬ v3 = 0 then mj_den mj_P E d 125 115 [Value.ref 0, Value.int v1, Value.int v2, Value.int v3, Value.ref 2, Value.int v5, Value.int v6, Value.int v7, Value.int v8, Value.int v9] [] (mj_hw w c hi hl) else mj_den mj_P E d 125 117 [Value.ref 0, Value.int v1, Value.int v2, Value.int v3, Value.ref 2, Value.int v5, Value.int v6, Value.int v7, Value.int v8, Value.int v9] [Value.int v6] (mj_hw w c hi hl) := by
  rw [mj_den_eq, f125_106]
  exact zt_iload_n rfl rfl (zt_if_ne rfl rfl (zt_iload rfl rfl (zt_goto rfl)))
set_option maxRecDepth 100000 in
theorem q125_106_1 (E : mj_E) (d w c : Nat) (hi : Nat → Nat → Int32) (hl : Nat → Nat → Int64) (v1 : Int32) (v2 : Int32) (v3 : Int32) (v5 : Int32) (v6 : Int32) (v7 : Int32) (v8 : Int32) : mj_den mj_P E d 125 106 [Value.ref 0, Value.int v1, Value.int v2, Value.int v3, Value.ref 2, Value.int v5, Value.int v6, Value.int v7, Value.int v8, Value.float 0] [] (mj_hw w c hi hl) = if ¬ v3 = 0 then mj_den mj_P E d 125 115 [Value.ref 0, Value.int v1, Value.int v2, Value.int v3, Value.ref 2, Value.int v5, Value.int v6, Value.int v7, Value.int v8, Value.float 0] [] (mj_hw w c hi hl) else mj_den mj_P E d 125 117 [Value.ref 0, Value.int v1, Value.int v2, Value.int v3, Value.ref 2, Value.int v5, Value.int v6, Value.int v7, Value.int v8, Value.float 0] [Value.int v6] (mj_hw w c hi hl) := by
  rw [mj_den_eq, f125_106]
  exact zt_iload_n rfl rfl (zt_if_ne rfl rfl (zt_iload rfl rfl (zt_goto rfl)))
set_option maxRecDepth 100000 in
theorem f125_115 : mj_find (mj_P 125).2.2.2.2 115 = [(.iload 7, 2, 0, [])] := rfl
set_option maxRecDepth 100000 in
theorem q125_115 (E : mj_E) (d w c : Nat) (hi : Nat → Nat → Int32) (hl : Nat → Nat → Int64) (v1 : Int32) (v2 : Int32) (v3 : Int32) (v5 : Int32) (v6 : Int32) (v7 : Int32) (v8 : Int32) (v9 : Int32) : mj_den mj_P E d 125 115 [Value.ref 0, Value.int v1, Value.int v2, Value.int v3, Value.ref 2, Value.int v5, Value.int v6, Value.int v7, Value.int v8, Value.int v9] [] (mj_hw w c hi hl) = mj_den mj_P E d 125 117 [Value.ref 0, Value.int v1, Value.int v2, Value.int v3, Value.ref 2, Value.int v5, Value.int v6, Value.int v7, Value.int v8, Value.int v9] [Value.int v7] (mj_hw w c hi hl) := by
  rw [mj_den_eq, f125_115]
  exact zt_iload rfl rfl (zt_end rfl)
set_option maxRecDepth 100000 in
theorem q125_115_1 (E : mj_E) (d w c : Nat) (hi : Nat → Nat → Int32) (hl : Nat → Nat → Int64) (v1 : Int32) (v2 : Int32) (v3 : Int32) (v5 : Int32) (v6 : Int32) (v7 : Int32) (v8 : Int32) : mj_den mj_P E d 125 115 [Value.ref 0, Value.int v1, Value.int v2, Value.int v3, Value.ref 2, Value.int v5, Value.int v6, Value.int v7, Value.int v8, Value.float 0] [] (mj_hw w c hi hl) = mj_den mj_P E d 125 117 [Value.ref 0, Value.int v1, Value.int v2, Value.int v3, Value.ref 2, Value.int v5, Value.int v6, Value.int v7, Value.int v8, Value.float 0] [Value.int v7] (mj_hw w c hi hl) := by
  rw [mj_den_eq, f125_115]
  exact zt_iload rfl rfl (zt_end rfl)
set_option maxRecDepth 100000 in
theorem f125_117 : mj_find (mj_P 125).2.2.2.2 117 = [(.ireturn, 1, 0, [0])] := rfl
set_option maxRecDepth 100000 in
theorem q125_117 (E : mj_E) (d w c : Nat) (hi : Nat → Nat → Int32) (hl : Nat → Nat → Int64) (v1 : Int32) (v2 : Int32) (v3 : Int32) (v5 : Int32) (v6 : Int32) (v7 : Int32) (v8 : Int32) (v9 : Int32) (s0 : Int32) : mj_den mj_P E d 125 117 [Value.ref 0, Value.int v1, Value.int v2, Value.int v3, Value.ref 2, Value.int v5, Value.int v6, Value.int v7, Value.int v8, Value.int v9] [Value.int s0] (mj_hw w c hi hl) = some (some (Value.int s0), (mj_hw w c hi hl)) := by
  rw [mj_den_eq, f125_117]
  exact zt_ireturn0
set_option maxRecDepth 100000 in
theorem q125_117_1 (E : mj_E) (d w c : Nat) (hi : Nat → Nat → Int32) (hl : Nat → Nat → Int64) (v1 : Int32) (v2 : Int32) (v3 : Int32) (v5 : Int32) (v6 : Int32) (v7 : Int32) (v8 : Int32) (s0 : Int32) : mj_den mj_P E d 125 117 [Value.ref 0, Value.int v1, Value.int v2, Value.int v3, Value.ref 2, Value.int v5, Value.int v6, Value.int v7, Value.int v8, Value.float 0] [Value.int s0] (mj_hw w c hi hl) = some (some (Value.int s0), (mj_hw w c hi hl)) := by
  rw [mj_den_eq, f125_117]
  exact zt_ireturn0
set_option maxRecDepth 100000 in
theorem f126_0 : mj_find (mj_P 126).2.2.2.2 0 = [(.iload_n 1, 1, 0, []), (.iconst 1, 1, 1, []), (.invokestatic 82, 3, 0, [1, 147, 0, 2, 1, 683, 684, 143, 685])] := rfl
set_option maxRecDepth 100000 in
theorem q126_0 (E : mj_E) (d w c : Nat) (hi : Nat → Nat → Int32) (hl : Nat → Nat → Int64) (v1 : Int32) : mj_den mj_P E d 126 0 [Value.ref 0, Value.int v1, Value.float 0] [] (mj_hw w c hi hl) = mj_bi (mj_dc mj_P E d 147 [Value.int v1, Value.int (1 : Int32)] (mj_hw w c hi hl)) (fun x1 h1 => mj_den mj_P E d 126 5 [Value.ref 0, Value.int v1, Value.float 0] [Value.int x1] h1) := by
  rw [mj_den_eq, f126_0]
  exact zt_iload_n rfl rfl (zt_iconst rfl (zt_call1_1 (Nat.le_of_ble_eq_true rfl) rfl (Nat.le_of_ble_eq_true rfl) rfl rfl))
set_option maxRecDepth 100000 in
theorem f126_5 : mj_find (mj_P 126).2.2.2.2 5 = [(.ifCond .ne 5, 3, 0, [10]), (.iconst (-1), 1, (-1), []), (.ireturn, 1, 0, [0])] := rfl
set_option maxRecDepth 100000 in
theorem q126_5 (E : mj_E) (d w c : Nat) (hi : Nat → Nat → Int32) (hl : Nat → Nat → Int64) (v1 : Int32) (s0 : Int32) : mj_den mj_P E d 126 5 [Value.ref 0, Value.int v1, Value.float 0] [Value.int s0] (mj_hw w c hi hl) = if ¬ s0 = 0 then mj_den mj_P E d 126 10 [Value.ref 0, Value.int v1, Value.float 0] [] (mj_hw w c hi hl) else some (some (Value.int (-1 : Int32)), (mj_hw w c hi hl)) := by
  rw [mj_den_eq, f126_5]
  exact zt_if_ne rfl rfl (zt_iconst rfl (zt_ireturn0))
set_option maxRecDepth 100000 in
theorem f126_10 : mj_find (mj_P 126).2.2.2.2 10 = [(.aload_n 0, 1, 0, []), (.getfield 54, 3, 0, [11, 7, 3, 647]), (.aload_n 0, 1, 0, []), (.getfield 12, 3, 0, [11, 0, 3, 640]), (.getfield 72, 3, 0, [10, 0, 3, 412]), (.invokevirtual 257, 3, 0, [0, 76, 7, 0, 1, 1096, 1097, 1098, 145, 1099])] := rfl
set_option maxRecDepth 100000 in
theorem q126_10 (E : mj_E) (d w c : Nat) (hi : Nat → Nat → Int32) (hl : Nat → Nat → Int64) (v1 : Int32) : mj_den mj_P E d 126 10 [Value.ref 0, Value.int v1, Value.float 0] [] (mj_hw w c hi hl) = mj_bi (mj_dc mj_P E d 76 [Value.ref 2] (mj_hw w c hi hl)) (fun x1 h1 => mj_den mj_P E d 126 24 [Value.ref 0, Value.int v1, Value.float 0] [Value.int x1, Value.ref 189] h1) := by
  rw [mj_den_eq, f126_10]
  exact zt_aload_n rfl rfl (zt_getr (mjkd0 _ _ _ _) (mjhr0_7 w c) rfl (zt_aload_n rfl rfl (zt_getr (mjkd0 _ _ _ _) (mjhr0_0 w c) rfl (zt_getr (mjkd1 _ _ _ _) (mjhr1_0 w c) rfl (zt_call0_1 rfl (mjkd2 _ _ _ _) (Nat.le_of_ble_eq_true rfl) rfl rfl)))))
set_option maxRecDepth 100000 in
theorem f126_24 : mj_find (mj_P 126).2.2.2.2 24 = [(.aload_n 0, 1, 0, []), (.getfield 12, 3, 0, [11, 0, 3, 640]), (.getfield 260, 3, 0, [10, 3, 3, 419]), (.invokevirtual 263, 3, 0, [0, 87, 8, 2, 1, 1100, 1101, 1102, 152, 1103])] := rfl
set_option maxRecDepth 100000 in
theorem q126_24 (E : mj_E) (d w c : Nat) (hi : Nat → Nat → Int32) (hl : Nat → Nat → Int64) (v1 : Int32) (s0 : Int32) : mj_den mj_P E d 126 24 [Value.ref 0, Value.int v1, Value.float 0] [Value.int s0, Value.ref 189] (mj_hw w c hi hl) = mj_bi (mj_dc mj_P E d 87 [Value.ref 189, Value.int s0, Value.ref 26] (mj_hw w c hi hl)) (fun x1 h1 => mj_den mj_P E d 126 34 [Value.ref 0, Value.int v1, Value.float 0] [Value.int x1] h1) := by
  rw [mj_den_eq, f126_24]
  exact zt_aload_n rfl rfl (zt_getr (mjkd0 _ _ _ _) (mjhr0_0 w c) rfl (zt_getr (mjkd1 _ _ _ _) (mjhr1_3 w c) rfl (zt_call0_1 rfl (mjkd189 _ _ _ _) (Nat.le_of_ble_eq_true rfl) rfl rfl)))
set_option maxRecDepth 100000 in
theorem f126_34 : mj_find (mj_P 126).2.2.2.2 34 = [(.istore_n 2, 1, 0, []), (.iload_n 1, 1, 0, []), (.ifCond .ne 10, 3, 0, [46]), (.iload_n 2, 1, 0, []), (.invokestatic 222, 3, 0, [1, 293, 0, 1, 1, 1072, 744, 155, 745])] := rfl
set_option maxRecDepth 100000 in
theorem q126_34 (E : mj_E) (d w c : Nat) (hi : Nat → Nat → Int32) (hl : Nat → Nat → Int64) (v1 : Int32) (s0 : Int32) : mj_den mj_P E d 126 34 [Value.ref 0, Value.int v1, Value.float 0] [Value.int s0] (mj_hw w c hi hl) = if ¬ v1 = 0 then mj_den mj_P E d 126 46 [Value.ref 0, Value.int v1, Value.int s0] [] (mj_hw w c hi hl) else mj_bi (mj_dc mj_P E d 293 [Value.int s0] (mj_hw w c hi hl)) (fun x1 h1 => mj_den mj_P E d 126 43 [Value.ref 0, Value.int v1, Value.int s0] [Value.int x1] h1) := by
  rw [mj_den_eq, f126_34]
  exact zt_istore_n (Nat.le_of_ble_eq_true rfl) rfl rfl (zt_iload_n rfl rfl (zt_if_ne rfl rfl (zt_iload_n rfl rfl (zt_call1_1 (Nat.le_of_ble_eq_true rfl) rfl (Nat.le_of_ble_eq_true rfl) rfl rfl))))
set_option maxRecDepth 100000 in
theorem f126_43 : mj_find (mj_P 126).2.2.2.2 43 = [(.goto 4, 3, 0, [47])] := rfl
set_option maxRecDepth 100000 in
theorem q126_43 (E : mj_E) (d w c : Nat) (hi : Nat → Nat → Int32) (hl : Nat → Nat → Int64) (v1 : Int32) (v2 : Int32) (s0 : Int32) : mj_den mj_P E d 126 43 [Value.ref 0, Value.int v1, Value.int v2] [Value.int s0] (mj_hw w c hi hl) = mj_den mj_P E d 126 47 [Value.ref 0, Value.int v1, Value.int v2] [Value.int s0] (mj_hw w c hi hl) := by
  rw [mj_den_eq, f126_43]
  exact zt_goto rfl
set_option maxRecDepth 100000 in
theorem f126_46 : mj_find (mj_P 126).2.2.2.2 46 = [(.iload_n 2, 1, 0, [])] := rfl
set_option maxRecDepth 100000 in
theorem q126_46 (E : mj_E) (d w c : Nat) (hi : Nat → Nat → Int32) (hl : Nat → Nat → Int64) (v1 : Int32) (v2 : Int32) : mj_den mj_P E d 126 46 [Value.ref 0, Value.int v1, Value.int v2] [] (mj_hw w c hi hl) = mj_den mj_P E d 126 47 [Value.ref 0, Value.int v1, Value.int v2] [Value.int v2] (mj_hw w c hi hl) := by
  rw [mj_den_eq, f126_46]
  exact zt_iload_n rfl rfl (zt_end rfl)
set_option maxRecDepth 100000 in
theorem f126_47 : mj_find (mj_P 126).2.2.2.2 47 = [(.ireturn, 1, 0, [0])] := rfl
set_option maxRecDepth 100000 in
theorem q126_47 (E : mj_E) (d w c : Nat) (hi : Nat → Nat → Int32) (hl : Nat → Nat → Int64) (v1 : Int32) (v2 : Int32) (s0 : Int32) : mj_den mj_P E d 126 47 [Value.ref 0, Value.int v1, Value.int v2] [Value.int s0] (mj_hw w c hi hl) = some (some (Value.int s0), (mj_hw w c hi hl)) := by
  rw [mj_den_eq, f126_47]
  exact zt_ireturn0
set_option maxRecDepth 100000 in
theorem f127_0 : mj_find (mj_P 127).2.2.2.2 0 = [(.aload_n 0, 1, 0, []), (.getfield 12, 3, 0, [11, 0, 3, 640]), (.getfield 72, 3, 0, [10, 0, 3, 412]), (.invokevirtual 257, 3, 0, [0, 76, 7, 0, 1, 1096, 1097, 1098, 145, 1099])] := rfl
set_option maxRecDepth 100000 in
theorem q127_0 (E : mj_E) (d w c : Nat) (hi : Nat → Nat → Int32) (hl : Nat → Nat → Int64) (v1 : Int32) : mj_den mj_P E d 127 0 [Value.ref 0, Value.int v1, Value.float 0] [] (mj_hw w c hi hl) = mj_bi (mj_dc mj_P E d 76 [Value.ref 2] (mj_hw w c hi hl)) (fun x1 h1 => mj_den mj_P E d 127 10 [Value.ref 0, Value.int v1, Value.float 0] [Value.int x1] h1) := by
  rw [mj_den_eq, f127_0]
  exact zt_aload_n rfl rfl (zt_getr (mjkd0 _ _ _ _) (mjhr0_0 w c) rfl (zt_getr (mjkd1 _ _ _ _) (mjhr1_0 w c) rfl (zt_call0_1 rfl (mjkd2 _ _ _ _) (Nat.le_of_ble_eq_true rfl) rfl rfl)))
set_option maxRecDepth 100000 in
theorem f127_10 : mj_find (mj_P 127).2.2.2.2 10 = [(.istore_n 2, 1, 0, []), (.iload_n 2, 1, 0, []), (.invokestatic 222, 3, 0, [1, 293, 0, 1, 1, 1072, 744, 155, 745])] := rfl
set_option maxRecDepth 100000 in
theorem q127_10 (E : mj_E) (d w c : Nat) (hi : Nat → Nat → Int32) (hl : Nat → Nat → Int64) (v1 : Int32) (s0 : Int32) : mj_den mj_P E d 127 10 [Value.ref 0, Value.int v1, Value.float 0] [Value.int s0] (mj_hw w c hi hl) = mj_bi (mj_dc mj_P E d 293 [Value.int s0] (mj_hw w c hi hl)) (fun x1 h1 => mj_den mj_P E d 127 15 [Value.ref 0, Value.int v1, Value.int s0] [Value.int x1] h1) := by
  rw [mj_den_eq, f127_10]
  exact zt_istore_n (Nat.le_of_ble_eq_true rfl) rfl rfl (zt_iload_n rfl rfl (zt_call1_1 (Nat.le_of_ble_eq_true rfl) rfl (Nat.le_of_ble_eq_true rfl) rfl rfl))
set_option maxRecDepth 100000 in
theorem f127_15 : mj_find (mj_P 127).2.2.2.2 15 = [(.bipush 8, 2, 8, []), (.if_icmp .le 5, 3, 0, [22]), (.iconst (-1), 1, (-1), []), (.ireturn, 1, 0, [0])] := rfl
set_option maxRecDepth 100000 in
theorem q127_15 (E : mj_E) (d w c : Nat) (hi : Nat → Nat → Int32) (hl : Nat → Nat → Int64) (v1 : Int32) (v2 : Int32) (s0 : Int32) : mj_den mj_P E d 127 15 [Value.ref 0, Value.int v1, Value.int v2] [Value.int s0] (mj_hw w c hi hl) = if s0 ≤ (8 : Int32) then mj_den mj_P E d 127 22 [Value.ref 0, Value.int v1, Value.int v2] [] (mj_hw w c hi hl) else some (some (Value.int (-1 : Int32)), (mj_hw w c hi hl)) := by
  rw [mj_den_eq, f127_15]
  exact zt_bipush rfl (zt_icmp_le rfl rfl (zt_iconst rfl (zt_ireturn0)))
set_option maxRecDepth 100000 in
theorem f127_22 : mj_find (mj_P 127).2.2.2.2 22 = [(.aload_n 0, 1, 0, []), (.getfield 61, 3, 0, [11, 8, 3, 648]), (.iload_n 2, 1, 0, []), (.aload_n 0, 1, 0, []), (.getfield 12, 3, 0, [11, 0, 3, 640]), (.getfield 260, 3, 0, [10, 3, 3, 419]), (.invokevirtual 267, 3, 0, [0, 30, 4, 2, 0, 1127, 1128, 1129, 153, 1130])] := rfl
set_option maxRecDepth 100000 in
theorem q127_22 (E : mj_E) (d w c : Nat) (hi : Nat → Nat → Int32) (hl : Nat → Nat → Int64) (v1 : Int32) (v2 : Int32) : mj_den mj_P E d 127 22 [Value.ref 0, Value.int v1, Value.int v2] [] (mj_hw w c hi hl) = mj_bv (mj_dc mj_P E d 30 [Value.ref 194, Value.int v2, Value.ref 26] (mj_hw w c hi hl)) (fun h1 => mj_den mj_P E d 127 37 [Value.ref 0, Value.int v1, Value.int v2] [] h1) := by
  rw [mj_den_eq, f127_22]
  exact zt_aload_n rfl rfl (zt_getr (mjkd0 _ _ _ _) (mjhr0_8 w c) rfl (zt_iload_n rfl rfl (zt_aload_n rfl rfl (zt_getr (mjkd0 _ _ _ _) (mjhr0_0 w c) rfl (zt_getr (mjkd1 _ _ _ _) (mjhr1_3 w c) rfl (zt_call0_0 rfl (mjkd194 _ _ _ _) (Nat.le_of_ble_eq_true rfl) rfl rfl))))))
set_option maxRecDepth 100000 in
theorem f127_37 : mj_find (mj_P 127).2.2.2.2 37 = [(.aload_n 0, 1, 0, []), (.getfield 61, 3, 0, [11, 8, 3, 648]), (.iload_n 1, 1, 0, []), (.invokevirtual 271, 3, 0, [0, 27, 4, 1, 1, 1153, 1154, 1155, 153, 1156])] := rfl
set_option maxRecDepth 100000 in
theorem q127_37 (E : mj_E) (d w c : Nat) (hi : Nat → Nat → Int32) (hl : Nat → Nat → Int64) (v1 : Int32) (v2 : Int32) : mj_den mj_P E d 127 37 [Value.ref 0, Value.int v1, Value.int v2] [] (mj_hw w c hi hl) = mj_bi (mj_dc mj_P E d 27 [Value.ref 194, Value.int v1] (mj_hw w c hi hl)) (fun x1 h1 => mj_den mj_P E d 127 45 [Value.ref 0, Value.int v1, Value.int v2] [Value.int x1] h1) := by
  rw [mj_den_eq, f127_37]
  exact zt_aload_n rfl rfl (zt_getr (mjkd0 _ _ _ _) (mjhr0_8 w c) rfl (zt_iload_n rfl rfl (zt_call0_1 rfl (mjkd194 _ _ _ _) (Nat.le_of_ble_eq_true rfl) rfl rfl)))
set_option maxRecDepth 100000 in
theorem f127_45 : mj_find (mj_P 127).2.2.2.2 45 = [(.ireturn, 1, 0, [0])] := rfl
set_option maxRecDepth 100000 in
theorem q127_45 (E : mj_E) (d w c : Nat) (hi : Nat → Nat → Int32) (hl : Nat → Nat → Int64) (v1 : Int32) (v2 : Int32) (s0 : Int32) : mj_den mj_P E d 127 45 [Value.ref 0, Value.int v1, Value.int v2] [Value.int s0] (mj_hw w c hi hl) = some (some (Value.int s0), (mj_hw w c hi hl)) := by
  rw [mj_den_eq, f127_45]
  exact zt_ireturn0
set_option maxRecDepth 100000 in
theorem f128_0 : mj_find (mj_P 128).2.2.2.2 0 = [(.aload_n 0, 1, 0, []), (.getfield 12, 3, 0, [11, 0, 3, 640]), (.getfield 274, 3, 0, [10, 5, 3, 423]), (.astore_n 3, 1, 0, []), (.iload_n 1, 1, 0, []), (.iconst (-1), 1, (-1), []), (.if_icmp .ne 10, 3, 0, [20]), (.aload_n 3, 1, 0, []), (.iconst 0, 1, 0, []), (.putfield 278, 3, 0, [9, 0, 0, 360]), (.iconst 0, 1, 0, []), (.ireturn, 1, 0, [0])] := rfl
set_option maxRecDepth 100000 in
theorem q128_0 (E : mj_E) (d w c : Nat) (hi : Nat → Nat → Int32) (hl : Nat → Nat → Int64) (v1 : Int32) (v2 : Int32) : mj_den mj_P E d 128 0 [Value.ref 0, Value.int v1, Value.int v2, Value.float 0, Value.float 0] [] (mj_hw w c hi hl) = if ¬ v1 = (-1 : Int32) then mj_den mj_P E d 128 20 [Value.ref 0, Value.int v1, Value.int v2, Value.ref 34, Value.float 0] [] (mj_hw w c hi hl) else some (some (Value.int (0 : Int32)), (mj_hw w c (mj_u hi 34 0 (0 : Int32)) hl)) := by
  rw [mj_den_eq, f128_0]
  exact zt_aload_n rfl rfl (zt_getr (mjkd0 _ _ _ _) (mjhr0_0 w c) rfl (zt_getr (mjkd1 _ _ _ _) (mjhr1_5 w c) rfl (zt_astore_n (Nat.le_of_ble_eq_true rfl) rfl rfl (zt_iload_n rfl rfl (zt_iconst rfl (zt_icmp_ne rfl rfl (zt_aload_n rfl rfl (zt_iconst rfl (zt_puti (mjkd34 _ _ _ _) rfl rfl (zt_iconst rfl (zt_ireturn0)))))))))))
set_option maxRecDepth 100000 in
theorem f128_20 : mj_find (mj_P 128).2.2.2.2 20 = [(.aload_n 0, 1, 0, []), (.getfield 12, 3, 0, [11, 0, 3, 640]), (.getfield 72, 3, 0, [10, 0, 3, 412]), (.astore 4, 2, 0, []), (.aload 4, 2, 0, []), (.iload_n 1, 1, 0, []), (.invokevirtual 104, 3, 0, [0, 70, 7, 1, 1, 704, 705, 706, 145, 707])] := rfl
set_option maxRecDepth 100000 in
theorem q128_20 (E : mj_E) (d w c : Nat) (hi : Nat → Nat → Int32) (hl : Nat → Nat → Int64) (v1 : Int32) (v2 : Int32) : mj_den mj_P E d 128 20 [Value.ref 0, Value.int v1, Value.int v2, Value.ref 34, Value.float 0] [] (mj_hw w c hi hl) = mj_bi (mj_dc mj_P E d 70 [Value.ref 2, Value.int v1] (mj_hw w c hi hl)) (fun x1 h1 => mj_den mj_P E d 128 35 [Value.ref 0, Value.int v1, Value.int v2, Value.ref 34, Value.ref 2] [Value.int x1] h1) := by
  rw [mj_den_eq, f128_20]
  exact zt_aload_n rfl rfl (zt_getr (mjkd0 _ _ _ _) (mjhr0_0 w c) rfl (zt_getr (mjkd1 _ _ _ _) (mjhr1_0 w c) rfl (zt_astore (Nat.le_of_ble_eq_true rfl) rfl rfl (zt_aload rfl rfl (zt_iload_n rfl rfl (zt_call0_1 rfl (mjkd2 _ _ _ _) (Nat.le_of_ble_eq_true rfl) rfl rfl))))))
set_option maxRecDepth 100000 in
theorem f128_35 : mj_find (mj_P 128).2.2.2.2 35 = [(.ifCond .eq 26, 3, 0, [61]), (.aload 4, 2, 0, []), (.iload_n 2, 1, 0, []), (.invokevirtual 104, 3, 0, [0, 70, 7, 1, 1, 704, 705, 706, 145, 707])] := rfl
set_option maxRecDepth 100000 in
theorem q128_35 (E : mj_E) (d w c : Nat) (hi : Nat → Nat → Int32) (hl : Nat → Nat → Int64) (v1 : Int32) (v2 : Int32) (s0 : Int32) : mj_den mj_P E d 128 35 [Value.ref 0, Value.int v1, Value.int v2, Value.ref 34, Value.ref 2] [Value.int s0] (mj_hw w c hi hl) = if s0 = 0 then mj_den mj_P E d 128 61 [Value.ref 0, Value.int v1, Value.int v2, Value.ref 34, Value.ref 2] [] (mj_hw w c hi hl) else mj_bi (mj_dc mj_P E d 70 [Value.ref 2, Value.int v2] (mj_hw w c hi hl)) (fun x1 h1 => mj_den mj_P E d 128 44 [Value.ref 0, Value.int v1, Value.int v2, Value.ref 34, Value.ref 2] [Value.int x1] h1) := by
  rw [mj_den_eq, f128_35]
  exact zt_if_eq rfl rfl (zt_aload rfl rfl (zt_iload_n rfl rfl (zt_call0_1 rfl (mjkd2 _ _ _ _) (Nat.le_of_ble_eq_true rfl) rfl rfl)))
set_option maxRecDepth 100000 in
theorem f128_44 : mj_find (mj_P 128).2.2.2.2 44 = [(.ifCond .eq 17, 3, 0, [61]), (.iload_n 1, 1, 0, []), (.iload_n 2, 1, 0, []), (.if_icmp .eq 12, 3, 0, [61]), (.aload_n 3, 1, 0, []), (.getfield 278, 3, 0, [9, 0, 0, 360]), (.bipush 16, 2, 16, []), (.if_icmp .lt 5, 3, 0, [63])] := rfl
set_option maxRecDepth 100000 in
theorem q128_44 (E : mj_E) (d w c : Nat) (hi : Nat → Nat → Int32) (hl : Nat → Nat → Int64) (v1 : Int32) (v2 : Int32) (s0 : Int32) : mj_den mj_P E d 128 44 [Value.ref 0, Value.int v1, Value.int v2, Value.ref 34, Value.ref 2] [Value.int s0] (mj_hw w c hi hl) = if s0 = 0 then mj_den mj_P E d 128 61 [Value.ref 0, Value.int v1, Value.int v2, Value.ref 34, Value.ref 2] [] (mj_hw w c hi hl) else if v1 = v2 then mj_den mj_P E d 128 61 [Value.ref 0, Value.int v1, Value.int v2, Value.ref 34, Value.ref 2] [] (mj_hw w c hi hl) else if (hi 34 0) < (16 : Int32) then mj_den mj_P E d 128 63 [Value.ref 0, Value.int v1, Value.int v2, Value.ref 34, Value.ref 2] [] (mj_hw w c hi hl) else mj_den mj_P E d 128 61 [Value.ref 0, Value.int v1, Value.int v2, Value.ref 34, Value.ref 2] [] (mj_hw w c hi hl) := by
  rw [mj_den_eq, f128_44]
  exact zt_if_eq rfl rfl (zt_iload_n rfl rfl (zt_iload_n rfl rfl (zt_icmp_eq rfl rfl (zt_aload_n rfl rfl (zt_geti (mjkd34 _ _ _ _) rfl rfl (zt_bipush rfl (zt_icmp_lt rfl rfl (zt_end rfl))))))))
set_option maxRecDepth 100000 in
theorem f128_61 : mj_find (mj_P 128).2.2.2.2 61 = [(.iconst (-1), 1, (-1), []), (.ireturn, 1, 0, [0])] := rfl
set_option maxRecDepth 100000 in
theorem q128_61 (E : mj_E) (d w c : Nat) (hi : Nat → Nat → Int32) (hl : Nat → Nat → Int64) (v1 : Int32) (v2 : Int32) : mj_den mj_P E d 128 61 [Value.ref 0, Value.int v1, Value.int v2, Value.ref 34, Value.ref 2] [] (mj_hw w c hi hl) = some (some (Value.int (-1 : Int32)), (mj_hw w c hi hl)) := by
  rw [mj_den_eq, f128_61]
  exact zt_iconst rfl (zt_ireturn0)
set_option maxRecDepth 100000 in
theorem f128_63 : mj_find (mj_P 128).2.2.2.2 63 = [(.aload_n 3, 1, 0, []), (.getfield 283, 3, 0, [9, 1, 3, 363]), (.aload_n 3, 1, 0, []), (.getfield 278, 3, 0, [9, 0, 0, 360]), (.iload_n 1, 1, 0, []), (.iastore, 1, 0, []), (.aload_n 3, 1, 0, []), (.getfield 286, 3, 0, [9, 2, 3, 366]), (.aload_n 3, 1, 0, []), (.getfield 278, 3, 0, [9, 0, 0, 360]), (.iload_n 2, 1, 0, []), (.iastore, 1, 0, []), (.aload_n 3, 1, 0, []), (.dup, 1, 0, []), (.getfield 278, 3, 0, [9, 0, 0, 360]), (.iconst 1, 1, 1, []), (.iadd, 1, 0, []), (.putfield 278, 3, 0, [9, 0, 0, 360]), (.aload_n 3, 1, 0, []), (.getfield 278, 3, 0, [9, 0, 0, 360]), (.ireturn, 1, 0, [0])] := rfl
set_option maxRecDepth 100000 in
theorem q128_63 (E : mj_E) (d w c : Nat) (hi : Nat → Nat → Int32) (hl : Nat → Nat → Int64) (v1 : Int32) (v2 : Int32) : mj_den mj_P E d 128 63 [Value.ref 0, Value.int v1, Value.int v2, Value.ref 34, Value.ref 2] [] (mj_hw w c hi hl) = if 0 ≤ (hi 34 0) ∧ ((hi 34 0)).toNatClampNeg < 16 then if 0 ≤ (hi 34 0) ∧ ((hi 34 0)).toNatClampNeg < 16 then some (some (Value.int ((hi 34 0) + (1 : Int32))), (mj_hw w c (mj_u (mj_u (mj_u hi 35 (((hi 34 0)).toNatClampNeg) v1) 36 (((hi 34 0)).toNatClampNeg) v2) 34 0 ((hi 34 0) + (1 : Int32))) hl)) else none else none := by
  rw [mj_den_eq, f128_63]
  exact zt_aload_n rfl rfl (zt_getr (mjkd34 _ _ _ _) (mjhr34_1 w c) rfl (zt_aload_n rfl rfl (zt_geti (mjkd34 _ _ _ _) rfl rfl (zt_iload_n rfl rfl (zt_iast (mjkd35 _ _ _ _) (mjln35 _ _ _ _) rfl rfl (zt_aload_n rfl rfl (zt_getr (mjkd34 _ _ _ _) (mjhr34_2 w c) rfl (zt_aload_n rfl rfl (zt_geti (mjkd34 _ _ _ _) rfl rfl (zt_iload_n rfl rfl (zt_iast (mjkd36 _ _ _ _) (mjln36 _ _ _ _) rfl rfl (zt_aload_n rfl rfl (zt_dupr rfl (zt_geti (mjkd34 _ _ _ _) rfl rfl (zt_iconst rfl (zt_iadd rfl (zt_puti (mjkd34 _ _ _ _) rfl rfl (zt_aload_n rfl rfl (zt_geti (mjkd34 _ _ _ _) rfl rfl (zt_ireturn0))))))))))))))))))))
set_option maxRecDepth 100000 in
theorem f129_0 : mj_find (mj_P 129).2.2.2.2 0 = [(.aload_n 0, 1, 0, []), (.getfield 61, 3, 0, [11, 8, 3, 648]), (.aload_n 0, 1, 0, []), (.getfield 12, 3, 0, [11, 0, 3, 640]), (.getfield 274, 3, 0, [10, 5, 3, 423]), (.invokevirtual 289, 3, 0, [0, 34, 4, 1, 0, 1165, 1166, 1167, 153, 1168])] := rfl
set_option maxRecDepth 100000 in
theorem q129_0 (E : mj_E) (d w c : Nat) (hi : Nat → Nat → Int32) (hl : Nat → Nat → Int64) (v1 : Int32) : mj_den mj_P E d 129 0 [Value.ref 0, Value.int v1] [] (mj_hw w c hi hl) = mj_bv (mj_dc mj_P E d 34 [Value.ref 194, Value.ref 34] (mj_hw w c hi hl)) (fun h1 => mj_den mj_P E d 129 14 [Value.ref 0, Value.int v1] [] h1) := by
  rw [mj_den_eq, f129_0]
  exact zt_aload_n rfl rfl (zt_getr (mjkd0 _ _ _ _) (mjhr0_8 w c) rfl (zt_aload_n rfl rfl (zt_getr (mjkd0 _ _ _ _) (mjhr0_0 w c) rfl (zt_getr (mjkd1 _ _ _ _) (mjhr1_5 w c) rfl (zt_call0_0 rfl (mjkd194 _ _ _ _) (Nat.le_of_ble_eq_true rfl) rfl rfl)))))
set_option maxRecDepth 100000 in
theorem f129_14 : mj_find (mj_P 129).2.2.2.2 14 = [(.aload_n 0, 1, 0, []), (.getfield 61, 3, 0, [11, 8, 3, 648]), (.iload_n 1, 1, 0, []), (.invokevirtual 271, 3, 0, [0, 27, 4, 1, 1, 1153, 1154, 1155, 153, 1156])] := rfl
set_option maxRecDepth 100000 in
theorem q129_14 (E : mj_E) (d w c : Nat) (hi : Nat → Nat → Int32) (hl : Nat → Nat → Int64) (v1 : Int32) : mj_den mj_P E d 129 14 [Value.ref 0, Value.int v1] [] (mj_hw w c hi hl) = mj_bi (mj_dc mj_P E d 27 [Value.ref 194, Value.int v1] (mj_hw w c hi hl)) (fun x1 h1 => mj_den mj_P E d 129 22 [Value.ref 0, Value.int v1] [Value.int x1] h1) := by
  rw [mj_den_eq, f129_14]
  exact zt_aload_n rfl rfl (zt_getr (mjkd0 _ _ _ _) (mjhr0_8 w c) rfl (zt_iload_n rfl rfl (zt_call0_1 rfl (mjkd194 _ _ _ _) (Nat.le_of_ble_eq_true rfl) rfl rfl)))
set_option maxRecDepth 100000 in
theorem f129_22 : mj_find (mj_P 129).2.2.2.2 22 = [(.ireturn, 1, 0, [0])] := rfl
set_option maxRecDepth 100000 in
theorem q129_22 (E : mj_E) (d w c : Nat) (hi : Nat → Nat → Int32) (hl : Nat → Nat → Int64) (v1 : Int32) (s0 : Int32) : mj_den mj_P E d 129 22 [Value.ref 0, Value.int v1] [Value.int s0] (mj_hw w c hi hl) = some (some (Value.int s0), (mj_hw w c hi hl)) := by
  rw [mj_den_eq, f129_22]
  exact zt_ireturn0
set_option maxRecDepth 100000 in
theorem f130_0 : mj_find (mj_P 130).2.2.2.2 0 = [(.iload_n 1, 1, 0, []), (.iconst 1, 1, 1, []), (.if_icmp .lt 18, 3, 0, [20]), (.iload_n 1, 1, 0, []), (.sipush 9999, 3, 9999, []), (.if_icmp .gt 11, 3, 0, [20]), (.iload_n 2, 1, 0, []), (.iconst 1, 1, 1, []), (.invokestatic 82, 3, 0, [1, 147, 0, 2, 1, 683, 684, 143, 685])] := rfl
set_option maxRecDepth 100000 in
theorem q130_0 (E : mj_E) (d w c : Nat) (hi : Nat → Nat → Int32) (hl : Nat → Nat → Int64) (v1 : Int32) (v2 : Int32) : mj_den mj_P E d 130 0 [Value.ref 0, Value.int v1, Value.int v2, Value.float 0] [] (mj_hw w c hi hl) = if v1 < (1 : Int32) then mj_den mj_P E d 130 20 [Value.ref 0, Value.int v1, Value.int v2, Value.float 0] [] (mj_hw w c hi hl) else if (9999 : Int32) < v1 then mj_den mj_P E d 130 20 [Value.ref 0, Value.int v1, Value.int v2, Value.float 0] [] (mj_hw w c hi hl) else mj_bi (mj_dc mj_P E d 147 [Value.int v2, Value.int (1 : Int32)] (mj_hw w c hi hl)) (fun x1 h1 => mj_den mj_P E d 130 17 [Value.ref 0, Value.int v1, Value.int v2, Value.float 0] [Value.int x1] h1) := by
  rw [mj_den_eq, f130_0]
  exact zt_iload_n rfl rfl (zt_iconst rfl (zt_icmp_lt rfl rfl (zt_iload_n rfl rfl (zt_sipush rfl (zt_icmp_gt rfl rfl (zt_iload_n rfl rfl (zt_iconst rfl (zt_call1_1 (Nat.le_of_ble_eq_true rfl) rfl (Nat.le_of_ble_eq_true rfl) rfl rfl))))))))
set_option maxRecDepth 100000 in
theorem f130_17 : mj_find (mj_P 130).2.2.2.2 17 = [(.ifCond .ne 5, 3, 0, [22])] := rfl
set_option maxRecDepth 100000 in
theorem q130_17 (E : mj_E) (d w c : Nat) (hi : Nat → Nat → Int32) (hl : Nat → Nat → Int64) (v1 : Int32) (v2 : Int32) (s0 : Int32) : mj_den mj_P E d 130 17 [Value.ref 0, Value.int v1, Value.int v2, Value.float 0] [Value.int s0] (mj_hw w c hi hl) = if ¬ s0 = 0 then mj_den mj_P E d 130 22 [Value.ref 0, Value.int v1, Value.int v2, Value.float 0] [] (mj_hw w c hi hl) else mj_den mj_P E d 130 20 [Value.ref 0, Value.int v1, Value.int v2, Value.float 0] [] (mj_hw w c hi hl) := by
  rw [mj_den_eq, f130_17]
  exact zt_if_ne rfl rfl (zt_end rfl)
set_option maxRecDepth 100000 in
theorem f130_20 : mj_find (mj_P 130).2.2.2.2 20 = [(.iconst (-1), 1, (-1), []), (.ireturn, 1, 0, [0])] := rfl
set_option maxRecDepth 100000 in
theorem q130_20 (E : mj_E) (d w c : Nat) (hi : Nat → Nat → Int32) (hl : Nat → Nat → Int64) (v1 : Int32) (v2 : Int32) : mj_den mj_P E d 130 20 [Value.ref 0, Value.int v1, Value.int v2, Value.float 0] [] (mj_hw w c hi hl) = some (some (Value.int (-1 : Int32)), (mj_hw w c hi hl)) := by
  rw [mj_den_eq, f130_20]
  exact zt_iconst rfl (zt_ireturn0)
set_option maxRecDepth 100000 in
theorem f130_22 : mj_find (mj_P 130).2.2.2.2 22 = [(.aload_n 0, 1, 0, []), (.getfield 54, 3, 0, [11, 7, 3, 647]), (.aload_n 0, 1, 0, []), (.getfield 12, 3, 0, [11, 0, 3, 640]), (.getfield 72, 3, 0, [10, 0, 3, 412]), (.iload_n 1, 1, 0, []), (.invokevirtual 293, 3, 0, [0, 94, 8, 2, 1, 1185, 1186, 1187, 152, 1188])] := rfl
set_option maxRecDepth 100000 in
theorem q130_22 (E : mj_E) (d w c : Nat) (hi : Nat → Nat → Int32) (hl : Nat → Nat → Int64) (v1 : Int32) (v2 : Int32) : mj_den mj_P E d 130 22 [Value.ref 0, Value.int v1, Value.int v2, Value.float 0] [] (mj_hw w c hi hl) = mj_bi (mj_dc mj_P E d 94 [Value.ref 189, Value.ref 2, Value.int v1] (mj_hw w c hi hl)) (fun x1 h1 => mj_den mj_P E d 130 37 [Value.ref 0, Value.int v1, Value.int v2, Value.float 0] [Value.int x1] h1) := by
  rw [mj_den_eq, f130_22]
  exact zt_aload_n rfl rfl (zt_getr (mjkd0 _ _ _ _) (mjhr0_7 w c) rfl (zt_aload_n rfl rfl (zt_getr (mjkd0 _ _ _ _) (mjhr0_0 w c) rfl (zt_getr (mjkd1 _ _ _ _) (mjhr1_0 w c) rfl (zt_iload_n rfl rfl (zt_call0_1 rfl (mjkd189 _ _ _ _) (Nat.le_of_ble_eq_true rfl) rfl rfl))))))
set_option maxRecDepth 100000 in
theorem f130_37 : mj_find (mj_P 130).2.2.2.2 37 = [(.istore_n 3, 1, 0, []), (.iload_n 2, 1, 0, []), (.ifCond .ne 17, 3, 0, [56]), (.aload_n 0, 1, 0, []), (.getfield 12, 3, 0, [11, 0, 3, 640]), (.getfield 72, 3, 0, [10, 0, 3, 412]), (.iload_n 3, 1, 0, []), (.invokevirtual 297, 3, 0, [0, 80, 7, 1, 1, 1198, 1199, 1200, 145, 1201])] := rfl
set_option maxRecDepth 100000 in
theorem q130_37 (E : mj_E) (d w c : Nat) (hi : Nat → Nat → Int32) (hl : Nat → Nat → Int64) (v1 : Int32) (v2 : Int32) (s0 : Int32) : mj_den mj_P E d 130 37 [Value.ref 0, Value.int v1, Value.int v2, Value.float 0] [Value.int s0] (mj_hw w c hi hl) = if ¬ v2 = 0 then mj_den mj_P E d 130 56 [Value.ref 0, Value.int v1, Value.int v2, Value.int s0] [] (mj_hw w c hi hl) else mj_bi (mj_dc mj_P E d 80 [Value.ref 2, Value.int s0] (mj_hw w c hi hl)) (fun x1 h1 => mj_den mj_P E d 130 53 [Value.ref 0, Value.int v1, Value.int v2, Value.int s0] [Value.int x1] h1) := by
  rw [mj_den_eq, f130_37]
  exact zt_istore_n (Nat.le_of_ble_eq_true rfl) rfl rfl (zt_iload_n rfl rfl (zt_if_ne rfl rfl (zt_aload_n rfl rfl (zt_getr (mjkd0 _ _ _ _) (mjhr0_0 w c) rfl (zt_getr (mjkd1 _ _ _ _) (mjhr1_0 w c) rfl (zt_iload_n rfl rfl (zt_call0_1 rfl (mjkd2 _ _ _ _) (Nat.le_of_ble_eq_true rfl) rfl rfl)))))))
set_option maxRecDepth 100000 in
theorem f130_53 : mj_find (mj_P 130).2.2.2.2 53 = [(.goto 4, 3, 0, [57])] := rfl
set_option maxRecDepth 100000 in
theorem q130_53 (E : mj_E) (d w c : Nat) (hi : Nat → Nat → Int32) (hl : Nat → Nat → Int64) (v1 : Int32) (v2 : Int32) (v3 : Int32) (s0 : Int32) : mj_den mj_P E d 130 53 [Value.ref 0, Value.int v1, Value.int v2, Value.int v3] [Value.int s0] (mj_hw w c hi hl) = mj_den mj_P E d 130 57 [Value.ref 0, Value.int v1, Value.int v2, Value.int v3] [Value.int s0] (mj_hw w c hi hl) := by
  rw [mj_den_eq, f130_53]
  exact zt_goto rfl
set_option maxRecDepth 100000 in
theorem f130_56 : mj_find (mj_P 130).2.2.2.2 56 = [(.iload_n 3, 1, 0, [])] := rfl
set_option maxRecDepth 100000 in
theorem q130_56 (E : mj_E) (d w c : Nat) (hi : Nat → Nat → Int32) (hl : Nat → Nat → Int64) (v1 : Int32) (v2 : Int32) (v3 : Int32) : mj_den mj_P E d 130 56 [Value.ref 0, Value.int v1, Value.int v2, Value.int v3] [] (mj_hw w c hi hl) = mj_den mj_P E d 130 57 [Value.ref 0, Value.int v1, Value.int v2, Value.int v3] [Value.int v3] (mj_hw w c hi hl) := by
  rw [mj_den_eq, f130_56]
  exact zt_iload_n rfl rfl (zt_end rfl)
set_option maxRecDepth 100000 in
theorem f130_57 : mj_find (mj_P 130).2.2.2.2 57 = [(.ireturn, 1, 0, [0])] := rfl
set_option maxRecDepth 100000 in
theorem q130_57 (E : mj_E) (d w c : Nat) (hi : Nat → Nat → Int32) (hl : Nat → Nat → Int64) (v1 : Int32) (v2 : Int32) (v3 : Int32) (s0 : Int32) : mj_den mj_P E d 130 57 [Value.ref 0, Value.int v1, Value.int v2, Value.int v3] [Value.int s0] (mj_hw w c hi hl) = some (some (Value.int s0), (mj_hw w c hi hl)) := by
  rw [mj_den_eq, f130_57]
  exact zt_ireturn0
set_option maxRecDepth 100000 in
theorem f131_0 : mj_find (mj_P 131).2.2.2.2 0 = [(.aload_n 0, 1, 0, []), (.getfield 12, 3, 0, [11, 0, 3, 640]), (.getfield 274, 3, 0, [10, 5, 3, 423]), (.astore_n 2, 1, 0, []), (.iload_n 1, 1, 0, []), (.iconst (-1), 1, (-1), []), (.if_icmp .ne 10, 3, 0, [20]), (.aload_n 2, 1, 0, []), (.iconst 0, 1, 0, []), (.putfield 300, 3, 0, [9, 3, 0, 369]), (.iconst 0, 1, 0, []), (.ireturn, 1, 0, [0])] := rfl
set_option maxRecDepth 100000 in
theorem q131_0 (E : mj_E) (d w c : Nat) (hi : Nat → Nat → Int32) (hl : Nat → Nat → Int64) (v1 : Int32) : mj_den mj_P E d 131 0 [Value.ref 0, Value.int v1, Value.float 0] [] (mj_hw w c hi hl) = if ¬ v1 = (-1 : Int32) then mj_den mj_P E d 131 20 [Value.ref 0, Value.int v1, Value.ref 34] [] (mj_hw w c hi hl) else some (some (Value.int (0 : Int32)), (mj_hw w c (mj_u hi 34 3 (0 : Int32)) hl)) := by
  rw [mj_den_eq, f131_0]
  exact zt_aload_n rfl rfl (zt_getr (mjkd0 _ _ _ _) (mjhr0_0 w c) rfl (zt_getr (mjkd1 _ _ _ _) (mjhr1_5 w c) rfl (zt_astore_n (Nat.le_of_ble_eq_true rfl) rfl rfl (zt_iload_n rfl rfl (zt_iconst rfl (zt_icmp_ne rfl rfl (zt_aload_n rfl rfl (zt_iconst rfl (zt_puti (mjkd34 _ _ _ _) rfl rfl (zt_iconst rfl (zt_ireturn0)))))))))))
set_option maxRecDepth 100000 in
theorem f131_20 : mj_find (mj_P 131).2.2.2.2 20 = [(.iload_n 1, 1, 0, []), (.sipush 999, 3, 999, []), (.invokestatic 82, 3, 0, [1, 147, 0, 2, 1, 683, 684, 143, 685])] := rfl
set_option maxRecDepth 100000 in
theorem q131_20 (E : mj_E) (d w c : Nat) (hi : Nat → Nat → Int32) (hl : Nat → Nat → Int64) (v1 : Int32) : mj_den mj_P E d 131 20 [Value.ref 0, Value.int v1, Value.ref 34] [] (mj_hw w c hi hl) = mj_bi (mj_dc mj_P E d 147 [Value.int v1, Value.int (999 : Int32)] (mj_hw w c hi hl)) (fun x1 h1 => mj_den mj_P E d 131 27 [Value.ref 0, Value.int v1, Value.ref 34] [Value.int x1] h1) := by
  rw [mj_den_eq, f131_20]
  exact zt_iload_n rfl rfl (zt_sipush rfl (zt_call1_1 (Nat.le_of_ble_eq_true rfl) rfl (Nat.le_of_ble_eq_true rfl) rfl rfl))
set_option maxRecDepth 100000 in
theorem f131_27 : mj_find (mj_P 131).2.2.2.2 27 = [(.ifCond .eq 12, 3, 0, [39]), (.aload_n 2, 1, 0, []), (.getfield 300, 3, 0, [9, 3, 0, 369]), (.bipush 6, 2, 6, []), (.if_icmp .lt 5, 3, 0, [41])] := rfl
set_option maxRecDepth 100000 in
theorem q131_27 (E : mj_E) (d w c : Nat) (hi : Nat → Nat → Int32) (hl : Nat → Nat → Int64) (v1 : Int32) (s0 : Int32) : mj_den mj_P E d 131 27 [Value.ref 0, Value.int v1, Value.ref 34] [Value.int s0] (mj_hw w c hi hl) = if s0 = 0 then mj_den mj_P E d 131 39 [Value.ref 0, Value.int v1, Value.ref 34] [] (mj_hw w c hi hl) else if (hi 34 3) < (6 : Int32) then mj_den mj_P E d 131 41 [Value.ref 0, Value.int v1, Value.ref 34] [] (mj_hw w c hi hl) else mj_den mj_P E d 131 39 [Value.ref 0, Value.int v1, Value.ref 34] [] (mj_hw w c hi hl) := by
  rw [mj_den_eq, f131_27]
  exact zt_if_eq rfl rfl (zt_aload_n rfl rfl (zt_geti (mjkd34 _ _ _ _) rfl rfl (zt_bipush rfl (zt_icmp_lt rfl rfl (zt_end rfl)))))
set_option maxRecDepth 100000 in
theorem f131_39 : mj_find (mj_P 131).2.2.2.2 39 = [(.iconst (-1), 1, (-1), []), (.ireturn, 1, 0, [0])] := rfl
set_option maxRecDepth 100000 in
theorem q131_39 (E : mj_E) (d w c : Nat) (hi : Nat → Nat → Int32) (hl : Nat → Nat → Int64) (v1 : Int32) : mj_den mj_P E d 131 39 [Value.ref 0, Value.int v1, Value.ref 34] [] (mj_hw w c hi hl) = some (some (Value.int (-1 : Int32)), (mj_hw w c hi hl)) := by
  rw [mj_den_eq, f131_39]
  exact zt_iconst rfl (zt_ireturn0)
set_option maxRecDepth 100000 in
theorem f131_41 : mj_find (mj_P 131).2.2.2.2 41 = [(.aload_n 2, 1, 0, []), (.getfield 303, 3, 0, [9, 4, 3, 372]), (.aload_n 2, 1, 0, []), (.getfield 300, 3, 0, [9, 3, 0, 369]), (.iload_n 1, 1, 0, []), (.iastore, 1, 0, []), (.aload_n 2, 1, 0, []), (.dup, 1, 0, []), (.getfield 300, 3, 0, [9, 3, 0, 369]), (.iconst 1, 1, 1, []), (.iadd, 1, 0, []), (.putfield 300, 3, 0, [9, 3, 0, 369]), (.aload_n 2, 1, 0, []), (.getfield 300, 3, 0, [9, 3, 0, 369]), (.ireturn, 1, 0, [0])] := rfl
set_option maxRecDepth 100000 in
theorem q131_41 (E : mj_E) (d w c : Nat) (hi : Nat → Nat → Int32) (hl : Nat → Nat → Int64) (v1 : Int32) : mj_den mj_P E d 131 41 [Value.ref 0, Value.int v1, Value.ref 34] [] (mj_hw w c hi hl) = if 0 ≤ (hi 34 3) ∧ ((hi 34 3)).toNatClampNeg < 6 then some (some (Value.int ((hi 34 3) + (1 : Int32))), (mj_hw w c (mj_u (mj_u hi 37 (((hi 34 3)).toNatClampNeg) v1) 34 3 ((hi 34 3) + (1 : Int32))) hl)) else none := by
  rw [mj_den_eq, f131_41]
  exact zt_aload_n rfl rfl (zt_getr (mjkd34 _ _ _ _) (mjhr34_4 w c) rfl (zt_aload_n rfl rfl (zt_geti (mjkd34 _ _ _ _) rfl rfl (zt_iload_n rfl rfl (zt_iast (mjkd37 _ _ _ _) (mjln37 _ _ _ _) rfl rfl (zt_aload_n rfl rfl (zt_dupr rfl (zt_geti (mjkd34 _ _ _ _) rfl rfl (zt_iconst rfl (zt_iadd rfl (zt_puti (mjkd34 _ _ _ _) rfl rfl (zt_aload_n rfl rfl (zt_geti (mjkd34 _ _ _ _) rfl rfl (zt_ireturn0))))))))))))))
set_option maxRecDepth 100000 in
theorem f132_0 : mj_find (mj_P 132).2.2.2.2 0 = [(.aload_n 0, 1, 0, []), (.getfield 12, 3, 0, [11, 0, 3, 640]), (.getfield 274, 3, 0, [10, 5, 3, 423]), (.astore_n 3, 1, 0, []), (.iload_n 1, 1, 0, []), (.sipush 9999, 3, 9999, []), (.invokestatic 82, 3, 0, [1, 147, 0, 2, 1, 683, 684, 143, 685])] := rfl
set_option maxRecDepth 100000 in
theorem q132_0 (E : mj_E) (d w c : Nat) (hi : Nat → Nat → Int32) (hl : Nat → Nat → Int64) (v1 : Int32) (v2 : Int32) : mj_den mj_P E d 132 0 [Value.ref 0, Value.int v1, Value.int v2, Value.float 0, Value.float 0, Value.float 0] [] (mj_hw w c hi hl) = mj_bi (mj_dc mj_P E d 147 [Value.int v1, Value.int (9999 : Int32)] (mj_hw w c hi hl)) (fun x1 h1 => mj_den mj_P E d 132 15 [Value.ref 0, Value.int v1, Value.int v2, Value.ref 34, Value.float 0, Value.float 0] [Value.int x1] h1) := by
  rw [mj_den_eq, f132_0]
  exact zt_aload_n rfl rfl (zt_getr (mjkd0 _ _ _ _) (mjhr0_0 w c) rfl (zt_getr (mjkd1 _ _ _ _) (mjhr1_5 w c) rfl (zt_astore_n (Nat.le_of_ble_eq_true rfl) rfl rfl (zt_iload_n rfl rfl (zt_sipush rfl (zt_call1_1 (Nat.le_of_ble_eq_true rfl) rfl (Nat.le_of_ble_eq_true rfl) rfl rfl))))))
set_option maxRecDepth 100000 in
theorem f132_15 : mj_find (mj_P 132).2.2.2.2 15 = [(.ifCond .eq 23, 3, 0, [38]), (.iload_n 2, 1, 0, []), (.iconst (-1), 1, (-1), []), (.if_icmp .lt 18, 3, 0, [38]), (.iload_n 2, 1, 0, []), (.aload_n 3, 1, 0, []), (.getfield 300, 3, 0, [9, 3, 0, 369]), (.if_icmp .ge 10, 3, 0, [38]), (.aload_n 3, 1, 0, []), (.getfield 300, 3, 0, [9, 3, 0, 369]), (.ifCond .ne 5, 3, 0, [40])] := rfl
set_option maxRecDepth 100000 in
theorem q132_15 (E : mj_E) (d w c : Nat) (hi : Nat → Nat → Int32) (hl : Nat → Nat → Int64) (v1 : Int32) (v2 : Int32) (s0 : Int32) : mj_den mj_P E d 132 15 [Value.ref 0, Value.int v1, Value.int v2, Value.ref 34, Value.float 0, Value.float 0] [Value.int s0] (mj_hw w c hi hl) = if s0 = 0 then mj_den mj_P E d 132 38 [Value.ref 0, Value.int v1, Value.int v2, Value.ref 34, Value.float 0, Value.float 0] [] (mj_hw w c hi hl) else if v2 < (-1 : Int32) then mj_den mj_P E d 132 38 [Value.ref 0, Value.int v1, Value.int v2, Value.ref 34, Value.float 0, Value.float 0] [] (mj_hw w c hi hl) else if (hi 34 3) ≤ v2 then mj_den mj_P E d 132 38 [Value.ref 0, Value.int v1, Value.int v2, Value.ref 34, Value.float 0, Value.float 0] [] (mj_hw w c hi hl) else if ¬ (hi 34 3) = 0 then mj_den mj_P E d 132 40 [Value.ref 0, Value.int v1, Value.int v2, Value.ref 34, Value.float 0, Value.float 0] [] (mj_hw w c hi hl) else mj_den mj_P E d 132 38 [Value.ref 0, Value.int v1, Value.int v2, Value.ref 34, Value.float 0, Value.float 0] [] (mj_hw w c hi hl) := by
  rw [mj_den_eq, f132_15]
  exact zt_if_eq rfl rfl (zt_iload_n rfl rfl (zt_iconst rfl (zt_icmp_lt rfl rfl (zt_iload_n rfl rfl (zt_aload_n rfl rfl (zt_geti (mjkd34 _ _ _ _) rfl rfl (zt_icmp_ge rfl rfl (zt_aload_n rfl rfl (zt_geti (mjkd34 _ _ _ _) rfl rfl (zt_if_ne rfl rfl (zt_end rfl)))))))))))
set_option maxRecDepth 100000 in
theorem f132_38 : mj_find (mj_P 132).2.2.2.2 38 = [(.iconst (-1), 1, (-1), []), (.ireturn, 1, 0, [0])] := rfl
set_option maxRecDepth 100000 in
theorem q132_38 (E : mj_E) (d w c : Nat) (hi : Nat → Nat → Int32) (hl : Nat → Nat → Int64) (v1 : Int32) (v2 : Int32) : mj_den mj_P E d 132 38 [Value.ref 0, Value.int v1, Value.int v2, Value.ref 34, Value.float 0, Value.float 0] [] (mj_hw w c hi hl) = some (some (Value.int (-1 : Int32)), (mj_hw w c hi hl)) := by
  rw [mj_den_eq, f132_38]
  exact zt_iconst rfl (zt_ireturn0)
set_option maxRecDepth 100000 in
theorem f132_40 : mj_find (mj_P 132).2.2.2.2 40 = [(.iload_n 2, 1, 0, []), (.iconst (-1), 1, (-1), []), (.if_icmp .eq 14, 3, 0, [56]), (.aload_n 0, 1, 0, []), (.getfield 68, 3, 0, [11, 9, 3, 649]), (.aload_n 3, 1, 0, []), (.iload_n 1, 1, 0, []), (.iload_n 2, 1, 0, []), (.invokevirtual 306, 3, 0, [0, 6, 1, 3, 1, 1210, 1211, 1212, 154, 1213])] := rfl
set_option maxRecDepth 100000 in
theorem q132_40 (E : mj_E) (d w c : Nat) (hi : Nat → Nat → Int32) (hl : Nat → Nat → Int64) (v1 : Int32) (v2 : Int32) : mj_den mj_P E d 132 40 [Value.ref 0, Value.int v1, Value.int v2, Value.ref 34, Value.float 0, Value.float 0] [] (mj_hw w c hi hl) = if v2 = (-1 : Int32) then mj_den mj_P E d 132 56 [Value.ref 0, Value.int v1, Value.int v2, Value.ref 34, Value.float 0, Value.float 0] [] (mj_hw w c hi hl) else mj_bi (mj_dc mj_P E d 6 [Value.ref 202, Value.ref 34, Value.int v1, Value.int v2] (mj_hw w c hi hl)) (fun x1 h1 => mj_den mj_P E d 132 55 [Value.ref 0, Value.int v1, Value.int v2, Value.ref 34, Value.float 0, Value.float 0] [Value.int x1] h1) := by
  rw [mj_den_eq, f132_40]
  exact zt_iload_n rfl rfl (zt_iconst rfl (zt_icmp_eq rfl rfl (zt_aload_n rfl rfl (zt_getr (mjkd0 _ _ _ _) (mjhr0_9 w c) rfl (zt_aload_n rfl rfl (zt_iload_n rfl rfl (zt_iload_n rfl rfl (zt_call0_1 rfl (mjkd202 _ _ _ _) (Nat.le_of_ble_eq_true rfl) rfl rfl))))))))
set_option maxRecDepth 100000 in
theorem f132_55 : mj_find (mj_P 132).2.2.2.2 55 = [(.ireturn, 1, 0, [0])] := rfl
set_option maxRecDepth 100000 in
theorem q132_55 (E : mj_E) (d w c : Nat) (hi : Nat → Nat → Int32) (hl : Nat → Nat → Int64) (v1 : Int32) (v2 : Int32) (s0 : Int32) : mj_den mj_P E d 132 55 [Value.ref 0, Value.int v1, Value.int v2, Value.ref 34, Value.float 0, Value.float 0] [Value.int s0] (mj_hw w c hi hl) = some (some (Value.int s0), (mj_hw w c hi hl)) := by
  rw [mj_den_eq, f132_55]
  exact zt_ireturn0
set_option maxRecDepth 100000 in
theorem f132_56 : mj_find (mj_P 132).2.2.2.2 56 = [(.iload_n 1, 1, 0, []), (.istore 4, 2, 0, []), (.iconst 0, 1, 0, []), (.istore 5, 2, 0, [])] := rfl
set_option maxRecDepth 100000 in
theorem q132_56 (E : mj_E) (d w c : Nat) (hi : Nat → Nat → Int32) (hl : Nat → Nat → Int64) (v1 : Int32) (v2 : Int32) : mj_den mj_P E d 132 56 [Value.ref 0, Value.int v1, Value.int v2, Value.ref 34, Value.float 0, Value.float 0] [] (mj_hw w c hi hl) = mj_den mj_P E d 132 62 [Value.ref 0, Value.int v1, Value.int v2, Value.ref 34, Value.int v1, Value.int (0 : Int32)] [] (mj_hw w c hi hl) := by
  rw [mj_den_eq, f132_56]
  exact zt_iload_n rfl rfl (zt_istore (Nat.le_of_ble_eq_true rfl) rfl rfl (zt_iconst rfl (zt_istore (Nat.le_of_ble_eq_true rfl) rfl rfl (zt_end rfl))))
set_option maxRecDepth 100000 in
theorem f132_62 : mj_find (mj_P 132).2.2.2.2 62 = [(.iload 5, 2, 0, []), (.aload_n 3, 1, 0, []), (.getfield 300, 3, 0, [9, 3, 0, 369]), (.if_icmp .ge 25, 3, 0, [93]), (.iload 4, 2, 0, []), (.aload_n 0, 1, 0, []), (.getfield 68, 3, 0, [11, 9, 3, 649]), (.aload_n 3, 1, 0, []), (.iload_n 1, 1, 0, []), (.iload 5, 2, 0, []), (.invokevirtual 306, 3, 0, [0, 6, 1, 3, 1, 1210, 1211, 1212, 154, 1213])] := rfl
set_option maxRecDepth 100000 in
theorem q132_62 (E : mj_E) (d w c : Nat) (hi : Nat → Nat → Int32) (hl : Nat → Nat → Int64) (v1 : Int32) (v2 : Int32) (v4 : Int32) (v5 : Int32) : mj_den mj_P E d 132 62 [Value.ref 0, Value.int v1, Value.int v2, Value.ref 34, Value.int v4, Value.int v5] [] (mj_hw w c hi hl) = if (hi 34 3) ≤ v5 then mj_den mj_P E d 132 93 [Value.ref 0, Value.int v1, Value.int v2, Value.ref 34, Value.int v4, Value.int v5] [] (mj_hw w c hi hl) else mj_bi (mj_dc mj_P E d 6 [Value.ref 202, Value.ref 34, Value.int v1, Value.int v5] (mj_hw w c hi hl)) (fun x1 h1 => mj_den mj_P E d 132 84 [Value.ref 0, Value.int v1, Value.int v2, Value.ref 34, Value.int v4, Value.int v5] [Value.int x1, Value.int v4] h1) := by
  rw [mj_den_eq, f132_62]
  exact zt_iload rfl rfl (zt_aload_n rfl rfl (zt_geti (mjkd34 _ _ _ _) rfl rfl (zt_icmp_ge rfl rfl (zt_iload rfl rfl (zt_aload_n rfl rfl (zt_getr (mjkd0 _ _ _ _) (mjhr0_9 w c) rfl (zt_aload_n rfl rfl (zt_iload_n rfl rfl (zt_iload rfl rfl (zt_call0_1 rfl (mjkd202 _ _ _ _) (Nat.le_of_ble_eq_true rfl) rfl rfl))))))))))
set_option maxRecDepth 100000 in
theorem f132_84 : mj_find (mj_P 132).2.2.2.2 84 = [(.isub, 1, 0, []), (.istore 4, 2, 0, []), (.iinc 5 1, 3, 1, []), (.goto (-28), 3, 0, [62])] := rfl
set_option maxRecDepth 100000 in
theorem q132_84 (E : mj_E) (d w c : Nat) (hi : Nat → Nat → Int32) (hl : Nat → Nat → Int64) (v1 : Int32) (v2 : Int32) (v4 : Int32) (v5 : Int32) (s0 : Int32) (s1 : Int32) : mj_den mj_P E d 132 84 [Value.ref 0, Value.int v1, Value.int v2, Value.ref 34, Value.int v4, Value.int v5] [Value.int s0, Value.int s1] (mj_hw w c hi hl) = mj_den mj_P E d 132 62 [Value.ref 0, Value.int v1, Value.int v2, Value.ref 34, Value.int (s1 - s0), Value.int (v5 + (1 : Int32))] [] (mj_hw w c hi hl) := by
  rw [mj_den_eq, f132_84]
  exact zt_isub rfl (zt_istore (Nat.le_of_ble_eq_true rfl) rfl rfl (zt_iinc rfl (Nat.le_of_ble_eq_true rfl) rfl rfl (zt_goto rfl)))
set_option maxRecDepth 100000 in
theorem f132_93 : mj_find (mj_P 132).2.2.2.2 93 = [(.iload 4, 2, 0, []), (.ireturn, 1, 0, [0])] := rfl
set_option maxRecDepth 100000 in
theorem q132_93 (E : mj_E) (d w c : Nat) (hi : Nat → Nat → Int32) (hl : Nat → Nat → Int64) (v1 : Int32) (v2 : Int32) (v4 : Int32) (v5 : Int32) : mj_den mj_P E d 132 93 [Value.ref 0, Value.int v1, Value.int v2, Value.ref 34, Value.int v4, Value.int v5] [] (mj_hw w c hi hl) = some (some (Value.int v4), (mj_hw w c hi hl)) := by
  rw [mj_den_eq, f132_93]
  exact zt_iload rfl rfl (zt_ireturn0)
set_option maxRecDepth 100000 in
theorem f133_0 : mj_find (mj_P 133).2.2.2.2 0 = [(.iload_n 1, 1, 0, []), (.sipush 1000, 3, 1000, []), (.invokestatic 82, 3, 0, [1, 147, 0, 2, 1, 683, 684, 143, 685])] := rfl
set_option maxRecDepth 100000 in
theorem q133_0 (E : mj_E) (d w c : Nat) (hi : Nat → Nat → Int32) (hl : Nat → Nat → Int64) (v1 : Int32) (v2 : Int32) (v3 : Int32) : mj_den mj_P E d 133 0 [Value.ref 0, Value.int v1, Value.int v2, Value.int v3] [] (mj_hw w c hi hl) = mj_bi (mj_dc mj_P E d 147 [Value.int v1, Value.int (1000 : Int32)] (mj_hw w c hi hl)) (fun x1 h1 => mj_den mj_P E d 133 7 [Value.ref 0, Value.int v1, Value.int v2, Value.int v3] [Value.int x1] h1) := by
  rw [mj_den_eq, f133_0]
  exact zt_iload_n rfl rfl (zt_sipush rfl (zt_call1_1 (Nat.le_of_ble_eq_true rfl) rfl (Nat.le_of_ble_eq_true rfl) rfl rfl))
set_option maxRecDepth 100000 in
theorem f133_7 : mj_find (mj_P 133).2.2.2.2 7 = [(.ifCond .eq 23, 3, 0, [30]), (.iload_n 2, 1, 0, []), (.bipush 20, 2, 20, []), (.invokestatic 82, 3, 0, [1, 147, 0, 2, 1, 683, 684, 143, 685])] := rfl
set_option maxRecDepth 100000 in
theorem q133_7 (E : mj_E) (d w c : Nat) (hi : Nat → Nat → Int32) (hl : Nat → Nat → Int64) (v1 : Int32) (v2 : Int32) (v3 : Int32) (s0 : Int32) : mj_den mj_P E d 133 7 [Value.ref 0, Value.int v1, Value.int v2, Value.int v3] [Value.int s0] (mj_hw w c hi hl) = if s0 = 0 then mj_den mj_P E d 133 30 [Value.ref 0, Value.int v1, Value.int v2, Value.int v3] [] (mj_hw w c hi hl) else mj_bi (mj_dc mj_P E d 147 [Value.int v2, Value.int (20 : Int32)] (mj_hw w c hi hl)) (fun x1 h1 => mj_den mj_P E d 133 16 [Value.ref 0, Value.int v1, Value.int v2, Value.int v3] [Value.int x1] h1) := by
  rw [mj_den_eq, f133_7]
  exact zt_if_eq rfl rfl (zt_iload_n rfl rfl (zt_bipush rfl (zt_call1_1 (Nat.le_of_ble_eq_true rfl) rfl (Nat.le_of_ble_eq_true rfl) rfl rfl)))
set_option maxRecDepth 100000 in
theorem f133_16 : mj_find (mj_P 133).2.2.2.2 16 = [(.ifCond .eq 14, 3, 0, [30]), (.iload_n 3, 1, 0, []), (.iload_n 2, 1, 0, []), (.if_icmp .lt 9, 3, 0, [30]), (.iload_n 3, 1, 0, []), (.bipush 40, 2, 40, []), (.if_icmp .le 5, 3, 0, [32])] := rfl
set_option maxRecDepth 100000 in
theorem q133_16 (E : mj_E) (d w c : Nat) (hi : Nat → Nat → Int32) (hl : Nat → Nat → Int64) (v1 : Int32) (v2 : Int32) (v3 : Int32) (s0 : Int32) : mj_den mj_P E d 133 16 [Value.ref 0, Value.int v1, Value.int v2, Value.int v3] [Value.int s0] (mj_hw w c hi hl) = if s0 = 0 then mj_den mj_P E d 133 30 [Value.ref 0, Value.int v1, Value.int v2, Value.int v3] [] (mj_hw w c hi hl) else if v3 < v2 then mj_den mj_P E d 133 30 [Value.ref 0, Value.int v1, Value.int v2, Value.int v3] [] (mj_hw w c hi hl) else if v3 ≤ (40 : Int32) then mj_den mj_P E d 133 32 [Value.ref 0, Value.int v1, Value.int v2, Value.int v3] [] (mj_hw w c hi hl) else mj_den mj_P E d 133 30 [Value.ref 0, Value.int v1, Value.int v2, Value.int v3] [] (mj_hw w c hi hl) := by
  rw [mj_den_eq, f133_16]
  exact zt_if_eq rfl rfl (zt_iload_n rfl rfl (zt_iload_n rfl rfl (zt_icmp_lt rfl rfl (zt_iload_n rfl rfl (zt_bipush rfl (zt_icmp_le rfl rfl (zt_end rfl)))))))
set_option maxRecDepth 100000 in
theorem f133_30 : mj_find (mj_P 133).2.2.2.2 30 = [(.iconst (-1), 1, (-1), []), (.ireturn, 1, 0, [0])] := rfl
set_option maxRecDepth 100000 in
theorem q133_30 (E : mj_E) (d w c : Nat) (hi : Nat → Nat → Int32) (hl : Nat → Nat → Int64) (v1 : Int32) (v2 : Int32) (v3 : Int32) : mj_den mj_P E d 133 30 [Value.ref 0, Value.int v1, Value.int v2, Value.int v3] [] (mj_hw w c hi hl) = some (some (Value.int (-1 : Int32)), (mj_hw w c hi hl)) := by
  rw [mj_den_eq, f133_30]
  exact zt_iconst rfl (zt_ireturn0)
set_option maxRecDepth 100000 in
theorem f133_32 : mj_find (mj_P 133).2.2.2.2 32 = [(.aload_n 0, 1, 0, []), (.getfield 68, 3, 0, [11, 9, 3, 649]), (.iload_n 1, 1, 0, []), (.sipush 1000, 3, 1000, []), (.imul, 1, 0, []), (.iload_n 2, 1, 0, []), (.iload_n 3, 1, 0, []), (.iload_n 2, 1, 0, []), (.isub, 1, 0, []), (.invokevirtual 310, 3, 0, [0, 8, 1, 3, 1, 1225, 1226, 1227, 154, 1228])] := rfl
set_option maxRecDepth 100000 in
theorem q133_32 (E : mj_E) (d w c : Nat) (hi : Nat → Nat → Int32) (hl : Nat → Nat → Int64) (v1 : Int32) (v2 : Int32) (v3 : Int32) : mj_den mj_P E d 133 32 [Value.ref 0, Value.int v1, Value.int v2, Value.int v3] [] (mj_hw w c hi hl) = mj_bi (mj_dc mj_P E d 8 [Value.ref 202, Value.int (v1 * (1000 : Int32)), Value.int v2, Value.int (v3 - v2)] (mj_hw w c hi hl)) (fun x1 h1 => mj_den mj_P E d 133 48 [Value.ref 0, Value.int v1, Value.int v2, Value.int v3] [Value.int x1] h1) := by
  rw [mj_den_eq, f133_32]
  exact zt_aload_n rfl rfl (zt_getr (mjkd0 _ _ _ _) (mjhr0_9 w c) rfl (zt_iload_n rfl rfl (zt_sipush rfl (zt_imul rfl (zt_iload_n rfl rfl (zt_iload_n rfl rfl (zt_iload_n rfl rfl (zt_isub rfl (zt_call0_1 rfl (mjkd202 _ _ _ _) (Nat.le_of_ble_eq_true rfl) rfl rfl)))))))))
set_option maxRecDepth 100000 in
theorem f133_48 : mj_find (mj_P 133).2.2.2.2 48 = [(.ireturn, 1, 0, [0])] := rfl
set_option maxRecDepth 100000 in
theorem q133_48 (E : mj_E) (d w c : Nat) (hi : Nat → Nat → Int32) (hl : Nat → Nat → Int64) (v1 : Int32) (v2 : Int32) (v3 : Int32) (s0 : Int32) : mj_den mj_P E d 133 48 [Value.ref 0, Value.int v1, Value.int v2, Value.int v3] [Value.int s0] (mj_hw w c hi hl) = some (some (Value.int s0), (mj_hw w c hi hl)) := by
  rw [mj_den_eq, f133_48]
  exact zt_ireturn0
set_option maxRecDepth 100000 in
theorem f134_0 : mj_find (mj_P 134).2.2.2.2 0 = [(.iload_n 1, 1, 0, []), (.iconst 1, 1, 1, []), (.if_icmp .lt 10, 3, 0, [12]), (.iload_n 1, 1, 0, []), (.ldc_w 314, 3, 1000000, [0, 1237]), (.if_icmp .lt 5, 3, 0, [14])] := rfl
set_option maxRecDepth 100000 in
theorem q134_0 (E : mj_E) (d w c : Nat) (hi : Nat → Nat → Int32) (hl : Nat → Nat → Int64) (v1 : Int32) : mj_den mj_P E d 134 0 [Value.ref 0, Value.int v1, Value.float 0, Value.float 0] [] (mj_hw w c hi hl) = if v1 < (1 : Int32) then mj_den mj_P E d 134 12 [Value.ref 0, Value.int v1, Value.float 0, Value.float 0] [] (mj_hw w c hi hl) else if v1 < (1000000 : Int32) then mj_den mj_P E d 134 14 [Value.ref 0, Value.int v1, Value.float 0, Value.float 0] [] (mj_hw w c hi hl) else mj_den mj_P E d 134 12 [Value.ref 0, Value.int v1, Value.float 0, Value.float 0] [] (mj_hw w c hi hl) := by
  rw [mj_den_eq, f134_0]
  exact zt_iload_n rfl rfl (zt_iconst rfl (zt_icmp_lt rfl rfl (zt_iload_n rfl rfl (zt_ldc_w rfl (zt_icmp_lt rfl rfl (zt_end rfl))))))
set_option maxRecDepth 100000 in
theorem f134_12 : mj_find (mj_P 134).2.2.2.2 12 = [(.iconst (-1), 1, (-1), []), (.ireturn, 1, 0, [0])] := rfl
set_option maxRecDepth 100000 in
theorem q134_12 (E : mj_E) (d w c : Nat) (hi : Nat → Nat → Int32) (hl : Nat → Nat → Int64) (v1 : Int32) : mj_den mj_P E d 134 12 [Value.ref 0, Value.int v1, Value.float 0, Value.float 0] [] (mj_hw w c hi hl) = some (some (Value.int (-1 : Int32)), (mj_hw w c hi hl)) := by
  rw [mj_den_eq, f134_12]
  exact zt_iconst rfl (zt_ireturn0)
set_option maxRecDepth 100000 in
theorem f134_14 : mj_find (mj_P 134).2.2.2.2 14 = [(.ldc_w 315, 3, 500000, [0, 1238]), (.istore_n 2, 1, 0, []), (.iconst 1, 1, 1, []), (.istore_n 3, 1, 0, [])] := rfl
set_option maxRecDepth 100000 in
theorem q134_14 (E : mj_E) (d w c : Nat) (hi : Nat → Nat → Int32) (hl : Nat → Nat → Int64) (v1 : Int32) : mj_den mj_P E d 134 14 [Value.ref 0, Value.int v1, Value.float 0, Value.float 0] [] (mj_hw w c hi hl) = mj_den mj_P E d 134 20 [Value.ref 0, Value.int v1, Value.int (500000 : Int32), Value.int (1 : Int32)] [] (mj_hw w c hi hl) := by
  rw [mj_den_eq, f134_14]
  exact zt_ldc_w rfl (zt_istore_n (Nat.le_of_ble_eq_true rfl) rfl rfl (zt_iconst rfl (zt_istore_n (Nat.le_of_ble_eq_true rfl) rfl rfl (zt_end rfl))))
set_option maxRecDepth 100000 in
theorem f134_20 : mj_find (mj_P 134).2.2.2.2 20 = [(.iload_n 3, 1, 0, []), (.bipush 40, 2, 40, []), (.if_icmp .gt 27, 3, 0, [50]), (.aload_n 0, 1, 0, []), (.getfield 68, 3, 0, [11, 9, 3, 649]), (.iload_n 2, 1, 0, []), (.iconst 0, 1, 0, []), (.iconst 1, 1, 1, []), (.invokevirtual 310, 3, 0, [0, 8, 1, 3, 1, 1225, 1226, 1227, 154, 1228])] := rfl
set_option maxRecDepth 100000 in
theorem q134_20 (E : mj_E) (d w c : Nat) (hi : Nat → Nat → Int32) (hl : Nat → Nat → Int64) (v1 : Int32) (v2 : Int32) (v3 : Int32) : mj_den mj_P E d 134 20 [Value.ref 0, Value.int v1, Value.int v2, Value.int v3] [] (mj_hw w c hi hl) = if (40 : Int32) < v3 then mj_den mj_P E d 134 50 [Value.ref 0, Value.int v1, Value.int v2, Value.int v3] [] (mj_hw w c hi hl) else mj_bi (mj_dc mj_P E d 8 [Value.ref 202, Value.int v2, Value.int (0 : Int32), Value.int (1 : Int32)] (mj_hw w c hi hl)) (fun x1 h1 => mj_den mj_P E d 134 36 [Value.ref 0, Value.int v1, Value.int v2, Value.int v3] [Value.int x1] h1) := by
  rw [mj_den_eq, f134_20]
  exact zt_iload_n rfl rfl (zt_bipush rfl (zt_icmp_gt rfl rfl (zt_aload_n rfl rfl (zt_getr (mjkd0 _ _ _ _) (mjhr0_9 w c) rfl (zt_iload_n rfl rfl (zt_iconst rfl (zt_iconst rfl (zt_call0_1 rfl (mjkd202 _ _ _ _) (Nat.le_of_ble_eq_true rfl) rfl rfl))))))))
set_option maxRecDepth 100000 in
theorem f134_36 : mj_find (mj_P 134).2.2.2.2 36 = [(.istore_n 2, 1, 0, []), (.iload_n 2, 1, 0, []), (.iload_n 1, 1, 0, []), (.if_icmp .ge 5, 3, 0, [44]), (.iload_n 3, 1, 0, []), (.ireturn, 1, 0, [0])] := rfl
set_option maxRecDepth 100000 in
theorem q134_36 (E : mj_E) (d w c : Nat) (hi : Nat → Nat → Int32) (hl : Nat → Nat → Int64) (v1 : Int32) (v2 : Int32) (v3 : Int32) (s0 : Int32) : mj_den mj_P E d 134 36 [Value.ref 0, Value.int v1, Value.int v2, Value.int v3] [Value.int s0] (mj_hw w c hi hl) = if v1 ≤ s0 then mj_den mj_P E d 134 44 [Value.ref 0, Value.int v1, Value.int s0, Value.int v3] [] (mj_hw w c hi hl) else some (some (Value.int v3), (mj_hw w c hi hl)) := by
  rw [mj_den_eq, f134_36]
  exact zt_istore_n (Nat.le_of_ble_eq_true rfl) rfl rfl (zt_iload_n rfl rfl (zt_iload_n rfl rfl (zt_icmp_ge rfl rfl (zt_iload_n rfl rfl (zt_ireturn0)))))
set_option maxRecDepth 100000 in
theorem f134_44 : mj_find (mj_P 134).2.2.2.2 44 = [(.iinc 3 1, 3, 1, []), (.goto (-27), 3, 0, [20])] := rfl
set_option maxRecDepth 100000 in
theorem q134_44 (E : mj_E) (d w c : Nat) (hi : Nat → Nat → Int32) (hl : Nat → Nat → Int64) (v1 : Int32) (v2 : Int32) (v3 : Int32) : mj_den mj_P E d 134 44 [Value.ref 0, Value.int v1, Value.int v2, Value.int v3] [] (mj_hw w c hi hl) = mj_den mj_P E d 134 20 [Value.ref 0, Value.int v1, Value.int v2, Value.int (v3 + (1 : Int32))] [] (mj_hw w c hi hl) := by
  rw [mj_den_eq, f134_44]
  exact zt_iinc rfl (Nat.le_of_ble_eq_true rfl) rfl rfl (zt_goto rfl)
set_option maxRecDepth 100000 in
theorem f134_50 : mj_find (mj_P 134).2.2.2.2 50 = [(.iconst (-1), 1, (-1), []), (.ireturn, 1, 0, [0])] := rfl
set_option maxRecDepth 100000 in
theorem q134_50 (E : mj_E) (d w c : Nat) (hi : Nat → Nat → Int32) (hl : Nat → Nat → Int64) (v1 : Int32) (v2 : Int32) (v3 : Int32) : mj_den mj_P E d 134 50 [Value.ref 0, Value.int v1, Value.int v2, Value.int v3] [] (mj_hw w c hi hl) = some (some (Value.int (-1 : Int32)), (mj_hw w c hi hl)) := by
  rw [mj_den_eq, f134_50]
  exact zt_iconst rfl (zt_ireturn0)
set_option maxRecDepth 100000 in
theorem f135_0 : mj_find (mj_P 135).2.2.2.2 0 = [(.iload_n 1, 1, 0, []), (.bipush 7, 2, 7, []), (.invokestatic 82, 3, 0, [1, 147, 0, 2, 1, 683, 684, 143, 685])] := rfl
set_option maxRecDepth 100000 in
theorem q135_0 (E : mj_E) (d w c : Nat) (hi : Nat → Nat → Int32) (hl : Nat → Nat → Int64) (v1 : Int32) (v2 : Int32) : mj_den mj_P E d 135 0 [Value.ref 0, Value.int v1, Value.int v2] [] (mj_hw w c hi hl) = mj_bi (mj_dc mj_P E d 147 [Value.int v1, Value.int (7 : Int32)] (mj_hw w c hi hl)) (fun x1 h1 => mj_den mj_P E d 135 6 [Value.ref 0, Value.int v1, Value.int v2] [Value.int x1] h1) := by
  rw [mj_den_eq, f135_0]
  exact zt_iload_n rfl rfl (zt_bipush rfl (zt_call1_1 (Nat.le_of_ble_eq_true rfl) rfl (Nat.le_of_ble_eq_true rfl) rfl rfl))
set_option maxRecDepth 100000 in
theorem f135_6 : mj_find (mj_P 135).2.2.2.2 6 = [(.ifCond .eq 13, 3, 0, [19]), (.iload_n 2, 1, 0, []), (.sipush 1023, 3, 1023, []), (.invokestatic 82, 3, 0, [1, 147, 0, 2, 1, 683, 684, 143, 685])] := rfl
set_option maxRecDepth 100000 in
theorem q135_6 (E : mj_E) (d w c : Nat) (hi : Nat → Nat → Int32) (hl : Nat → Nat → Int64) (v1 : Int32) (v2 : Int32) (s0 : Int32) : mj_den mj_P E d 135 6 [Value.ref 0, Value.int v1, Value.int v2] [Value.int s0] (mj_hw w c hi hl) = if s0 = 0 then mj_den mj_P E d 135 19 [Value.ref 0, Value.int v1, Value.int v2] [] (mj_hw w c hi hl) else mj_bi (mj_dc mj_P E d 147 [Value.int v2, Value.int (1023 : Int32)] (mj_hw w c hi hl)) (fun x1 h1 => mj_den mj_P E d 135 16 [Value.ref 0, Value.int v1, Value.int v2] [Value.int x1] h1) := by
  rw [mj_den_eq, f135_6]
  exact zt_if_eq rfl rfl (zt_iload_n rfl rfl (zt_sipush rfl (zt_call1_1 (Nat.le_of_ble_eq_true rfl) rfl (Nat.le_of_ble_eq_true rfl) rfl rfl)))
set_option maxRecDepth 100000 in
theorem f135_16 : mj_find (mj_P 135).2.2.2.2 16 = [(.ifCond .ne 5, 3, 0, [21])] := rfl
set_option maxRecDepth 100000 in
theorem q135_16 (E : mj_E) (d w c : Nat) (hi : Nat → Nat → Int32) (hl : Nat → Nat → Int64) (v1 : Int32) (v2 : Int32) (s0 : Int32) : mj_den mj_P E d 135 16 [Value.ref 0, Value.int v1, Value.int v2] [Value.int s0] (mj_hw w c hi hl) = if ¬ s0 = 0 then mj_den mj_P E d 135 21 [Value.ref 0, Value.int v1, Value.int v2] [] (mj_hw w c hi hl) else mj_den mj_P E d 135 19 [Value.ref 0, Value.int v1, Value.int v2] [] (mj_hw w c hi hl) := by
  rw [mj_den_eq, f135_16]
  exact zt_if_ne rfl rfl (zt_end rfl)
set_option maxRecDepth 100000 in
theorem f135_19 : mj_find (mj_P 135).2.2.2.2 19 = [(.iconst 0, 1, 0, []), (.ireturn, 1, 0, [1])] := rfl
set_option maxRecDepth 100000 in
theorem q135_19 (E : mj_E) (d w c : Nat) (hi : Nat → Nat → Int32) (hl : Nat → Nat → Int64) (v1 : Int32) (v2 : Int32) : mj_den mj_P E d 135 19 [Value.ref 0, Value.int v1, Value.int v2] [] (mj_hw w c hi hl) = if (0 : Int32) = 0 ∨ (0 : Int32) = 1 then some (some (Value.int (0 : Int32)), (mj_hw w c hi hl)) else none := by
  rw [mj_den_eq, f135_19]
  exact zt_iconst rfl (zt_ireturn1)
set_option maxRecDepth 100000 in
theorem f135_21 : mj_find (mj_P 135).2.2.2.2 21 = [(.aload_n 0, 1, 0, []), (.getfield 12, 3, 0, [11, 0, 3, 640]), (.getfield 274, 3, 0, [10, 5, 3, 423]), (.getfield 316, 3, 0, [9, 5, 3, 374]), (.iload_n 1, 1, 0, []), (.iload_n 2, 1, 0, []), (.iastore, 1, 0, []), (.iconst 1, 1, 1, []), (.ireturn, 1, 0, [1])] := rfl
set_option maxRecDepth 100000 in
theorem q135_21 (E : mj_E) (d w c : Nat) (hi : Nat → Nat → Int32) (hl : Nat → Nat → Int64) (v1 : Int32) (v2 : Int32) : mj_den mj_P E d 135 21 [Value.ref 0, Value.int v1, Value.int v2] [] (mj_hw w c hi hl) = if 0 ≤ v1 ∧ (v1).toNatClampNeg < 8 then if (1 : Int32) = 0 ∨ (1 : Int32) = 1 then some (some (Value.int (1 : Int32)), (mj_hw w c (mj_u hi 38 ((v1).toNatClampNeg) v2) hl)) else none else none := by
  rw [mj_den_eq, f135_21]
  exact zt_aload_n rfl rfl (zt_getr (mjkd0 _ _ _ _) (mjhr0_0 w c) rfl (zt_getr (mjkd1 _ _ _ _) (mjhr1_5 w c) rfl (zt_getr (mjkd34 _ _ _ _) (mjhr34_5 w c) rfl (zt_iload_n rfl rfl (zt_iload_n rfl rfl (zt_iast (mjkd38 _ _ _ _) (mjln38 _ _ _ _) rfl rfl (zt_iconst rfl (zt_ireturn1))))))))
set_option maxRecDepth 100000 in
theorem f136_0 : mj_find (mj_P 136).2.2.2.2 0 = [(.iload_n 1, 1, 0, []), (.iconst 1, 1, 1, []), (.invokestatic 82, 3, 0, [1, 147, 0, 2, 1, 683, 684, 143, 685])] := rfl
set_option maxRecDepth 100000 in
theorem q136_0 (E : mj_E) (d w c : Nat) (hi : Nat → Nat → Int32) (hl : Nat → Nat → Int64) (v1 : Int32) : mj_den mj_P E d 136 0 [Value.ref 0, Value.int v1, Value.float 0] [] (mj_hw w c hi hl) = mj_bi (mj_dc mj_P E d 147 [Value.int v1, Value.int (1 : Int32)] (mj_hw w c hi hl)) (fun x1 h1 => mj_den mj_P E d 136 5 [Value.ref 0, Value.int v1, Value.float 0] [Value.int x1] h1) := by
  rw [mj_den_eq, f136_0]
  exact zt_iload_n rfl rfl (zt_iconst rfl (zt_call1_1 (Nat.le_of_ble_eq_true rfl) rfl (Nat.le_of_ble_eq_true rfl) rfl rfl))
set_option maxRecDepth 100000 in
theorem f136_5 : mj_find (mj_P 136).2.2.2.2 5 = [(.ifCond .ne 5, 3, 0, [10]), (.iconst (-1), 1, (-1), []), (.ireturn, 1, 0, [0])] := rfl
set_option maxRecDepth 100000 in
theorem q136_5 (E : mj_E) (d w c : Nat) (hi : Nat → Nat → Int32) (hl : Nat → Nat → Int64) (v1 : Int32) (s0 : Int32) : mj_den mj_P E d 136 5 [Value.ref 0, Value.int v1, Value.float 0] [Value.int s0] (mj_hw w c hi hl) = if ¬ s0 = 0 then mj_den mj_P E d 136 10 [Value.ref 0, Value.int v1, Value.float 0] [] (mj_hw w c hi hl) else some (some (Value.int (-1 : Int32)), (mj_hw w c hi hl)) := by
  rw [mj_den_eq, f136_5]
  exact zt_if_ne rfl rfl (zt_iconst rfl (zt_ireturn0))
set_option maxRecDepth 100000 in
theorem f136_10 : mj_find (mj_P 136).2.2.2.2 10 = [(.aload_n 0, 1, 0, []), (.getfield 54, 3, 0, [11, 7, 3, 647]), (.aload_n 0, 1, 0, []), (.getfield 12, 3, 0, [11, 0, 3, 640]), (.getfield 72, 3, 0, [10, 0, 3, 412]), (.invokevirtual 257, 3, 0, [0, 76, 7, 0, 1, 1096, 1097, 1098, 145, 1099])] := rfl
set_option maxRecDepth 100000 in
theorem q136_10 (E : mj_E) (d w c : Nat) (hi : Nat → Nat → Int32) (hl : Nat → Nat → Int64) (v1 : Int32) : mj_den mj_P E d 136 10 [Value.ref 0, Value.int v1, Value.float 0] [] (mj_hw w c hi hl) = mj_bi (mj_dc mj_P E d 76 [Value.ref 2] (mj_hw w c hi hl)) (fun x1 h1 => mj_den mj_P E d 136 24 [Value.ref 0, Value.int v1, Value.float 0] [Value.int x1, Value.ref 189] h1) := by
  rw [mj_den_eq, f136_10]
  exact zt_aload_n rfl rfl (zt_getr (mjkd0 _ _ _ _) (mjhr0_7 w c) rfl (zt_aload_n rfl rfl (zt_getr (mjkd0 _ _ _ _) (mjhr0_0 w c) rfl (zt_getr (mjkd1 _ _ _ _) (mjhr1_0 w c) rfl (zt_call0_1 rfl (mjkd2 _ _ _ _) (Nat.le_of_ble_eq_true rfl) rfl rfl)))))
set_option maxRecDepth 100000 in
theorem f136_24 : mj_find (mj_P 136).2.2.2.2 24 = [(.aload_n 0, 1, 0, []), (.getfield 12, 3, 0, [11, 0, 3, 640]), (.getfield 274, 3, 0, [10, 5, 3, 423]), (.getfield 316, 3, 0, [9, 5, 3, 374]), (.invokevirtual 319, 3, 0, [0, 88, 8, 2, 1, 1247, 1248, 1249, 152, 1250])] := rfl
set_option maxRecDepth 100000 in
theorem q136_24 (E : mj_E) (d w c : Nat) (hi : Nat → Nat → Int32) (hl : Nat → Nat → Int64) (v1 : Int32) (s0 : Int32) : mj_den mj_P E d 136 24 [Value.ref 0, Value.int v1, Value.float 0] [Value.int s0, Value.ref 189] (mj_hw w c hi hl) = mj_bi (mj_dc mj_P E d 88 [Value.ref 189, Value.int s0, Value.ref 38] (mj_hw w c hi hl)) (fun x1 h1 => mj_den mj_P E d 136 37 [Value.ref 0, Value.int v1, Value.float 0] [Value.int x1] h1) := by
  rw [mj_den_eq, f136_24]
  exact zt_aload_n rfl rfl (zt_getr (mjkd0 _ _ _ _) (mjhr0_0 w c) rfl (zt_getr (mjkd1 _ _ _ _) (mjhr1_5 w c) rfl (zt_getr (mjkd34 _ _ _ _) (mjhr34_5 w c) rfl (zt_call0_1 rfl (mjkd189 _ _ _ _) (Nat.le_of_ble_eq_true rfl) rfl rfl))))
set_option maxRecDepth 100000 in
theorem f136_37 : mj_find (mj_P 136).2.2.2.2 37 = [(.istore_n 2, 1, 0, []), (.iload_n 1, 1, 0, []), (.ifCond .ne 15, 3, 0, [54]), (.iload_n 2, 1, 0, []), (.iconst (-1), 1, (-1), []), (.if_icmp .eq 10, 3, 0, [54]), (.iload_n 2, 1, 0, []), (.invokestatic 222, 3, 0, [1, 293, 0, 1, 1, 1072, 744, 155, 745])] := rfl
set_option maxRecDepth 100000 in
theorem q136_37 (E : mj_E) (d w c : Nat) (hi : Nat → Nat → Int32) (hl : Nat → Nat → Int64) (v1 : Int32) (s0 : Int32) : mj_den mj_P E d 136 37 [Value.ref 0, Value.int v1, Value.float 0] [Value.int s0] (mj_hw w c hi hl) = if ¬ v1 = 0 then mj_den mj_P E d 136 54 [Value.ref 0, Value.int v1, Value.int s0] [] (mj_hw w c hi hl) else if s0 = (-1 : Int32) then mj_den mj_P E d 136 54 [Value.ref 0, Value.int v1, Value.int s0] [] (mj_hw w c hi hl) else mj_bi (mj_dc mj_P E d 293 [Value.int s0] (mj_hw w c hi hl)) (fun x1 h1 => mj_den mj_P E d 136 51 [Value.ref 0, Value.int v1, Value.int s0] [Value.int x1] h1) := by
  rw [mj_den_eq, f136_37]
  exact zt_istore_n (Nat.le_of_ble_eq_true rfl) rfl rfl (zt_iload_n rfl rfl (zt_if_ne rfl rfl (zt_iload_n rfl rfl (zt_iconst rfl (zt_icmp_eq rfl rfl (zt_iload_n rfl rfl (zt_call1_1 (Nat.le_of_ble_eq_true rfl) rfl (Nat.le_of_ble_eq_true rfl) rfl rfl)))))))
set_option maxRecDepth 100000 in
theorem f136_51 : mj_find (mj_P 136).2.2.2.2 51 = [(.goto 4, 3, 0, [55])] := rfl
set_option maxRecDepth 100000 in
theorem q136_51 (E : mj_E) (d w c : Nat) (hi : Nat → Nat → Int32) (hl : Nat → Nat → Int64) (v1 : Int32) (v2 : Int32) (s0 : Int32) : mj_den mj_P E d 136 51 [Value.ref 0, Value.int v1, Value.int v2] [Value.int s0] (mj_hw w c hi hl) = mj_den mj_P E d 136 55 [Value.ref 0, Value.int v1, Value.int v2] [Value.int s0] (mj_hw w c hi hl) := by
  rw [mj_den_eq, f136_51]
  exact zt_goto rfl
set_option maxRecDepth 100000 in
theorem f136_54 : mj_find (mj_P 136).2.2.2.2 54 = [(.iload_n 2, 1, 0, [])] := rfl
set_option maxRecDepth 100000 in
theorem q136_54 (E : mj_E) (d w c : Nat) (hi : Nat → Nat → Int32) (hl : Nat → Nat → Int64) (v1 : Int32) (v2 : Int32) : mj_den mj_P E d 136 54 [Value.ref 0, Value.int v1, Value.int v2] [] (mj_hw w c hi hl) = mj_den mj_P E d 136 55 [Value.ref 0, Value.int v1, Value.int v2] [Value.int v2] (mj_hw w c hi hl) := by
  rw [mj_den_eq, f136_54]
  exact zt_iload_n rfl rfl (zt_end rfl)
set_option maxRecDepth 100000 in
theorem f136_55 : mj_find (mj_P 136).2.2.2.2 55 = [(.ireturn, 1, 0, [0])] := rfl
set_option maxRecDepth 100000 in
theorem q136_55 (E : mj_E) (d w c : Nat) (hi : Nat → Nat → Int32) (hl : Nat → Nat → Int64) (v1 : Int32) (v2 : Int32) (s0 : Int32) : mj_den mj_P E d 136 55 [Value.ref 0, Value.int v1, Value.int v2] [Value.int s0] (mj_hw w c hi hl) = some (some (Value.int s0), (mj_hw w c hi hl)) := by
  rw [mj_den_eq, f136_55]
  exact zt_ireturn0
set_option maxRecDepth 100000 in
theorem f137_0 : mj_find (mj_P 137).2.2.2.2 0 = [(.sipush 255, 3, 255, []), (.istore_n 2, 1, 0, []), (.iload_n 1, 1, 0, []), (.iconst (-1), 1, (-1), []), (.if_icmp .eq 13, 3, 0, [19]), (.iload_n 1, 1, 0, []), (.iload_n 2, 1, 0, []), (.invokestatic 82, 3, 0, [1, 147, 0, 2, 1, 683, 684, 143, 685])] := rfl
set_option maxRecDepth 100000 in
theorem q137_0 (E : mj_E) (d w c : Nat) (hi : Nat → Nat → Int32) (hl : Nat → Nat → Int64) (v1 : Int32) : mj_den mj_P E d 137 0 [Value.ref 0, Value.int v1, Value.float 0] [] (mj_hw w c hi hl) = if v1 = (-1 : Int32) then mj_den mj_P E d 137 19 [Value.ref 0, Value.int v1, Value.int (255 : Int32)] [] (mj_hw w c hi hl) else mj_bi (mj_dc mj_P E d 147 [Value.int v1, Value.int (255 : Int32)] (mj_hw w c hi hl)) (fun x1 h1 => mj_den mj_P E d 137 14 [Value.ref 0, Value.int v1, Value.int (255 : Int32)] [Value.int x1] h1) := by
  rw [mj_den_eq, f137_0]
  exact zt_sipush rfl (zt_istore_n (Nat.le_of_ble_eq_true rfl) rfl rfl (zt_iload_n rfl rfl (zt_iconst rfl (zt_icmp_eq rfl rfl (zt_iload_n rfl rfl (zt_iload_n rfl rfl (zt_call1_1 (Nat.le_of_ble_eq_true rfl) rfl (Nat.le_of_ble_eq_true rfl) rfl rfl)))))))
set_option maxRecDepth 100000 in
theorem f137_14 : mj_find (mj_P 137).2.2.2.2 14 = [(.ifCond .ne 5, 3, 0, [19]), (.iconst (-1), 1, (-1), []), (.ireturn, 1, 0, [0])] := rfl
set_option maxRecDepth 100000 in
theorem q137_14 (E : mj_E) (d w c : Nat) (hi : Nat → Nat → Int32) (hl : Nat → Nat → Int64) (v1 : Int32) (v2 : Int32) (s0 : Int32) : mj_den mj_P E d 137 14 [Value.ref 0, Value.int v1, Value.int v2] [Value.int s0] (mj_hw w c hi hl) = if ¬ s0 = 0 then mj_den mj_P E d 137 19 [Value.ref 0, Value.int v1, Value.int v2] [] (mj_hw w c hi hl) else some (some (Value.int (-1 : Int32)), (mj_hw w c hi hl)) := by
  rw [mj_den_eq, f137_14]
  exact zt_if_ne rfl rfl (zt_iconst rfl (zt_ireturn0))
set_option maxRecDepth 100000 in
theorem f137_19 : mj_find (mj_P 137).2.2.2.2 19 = [(.aload_n 0, 1, 0, []), (.getfield 54, 3, 0, [11, 7, 3, 647]), (.aload_n 0, 1, 0, []), (.getfield 12, 3, 0, [11, 0, 3, 640]), (.getfield 72, 3, 0, [10, 0, 3, 412]), (.getfield 86, 3, 0, [7, 0, 0, 187]), (.aload_n 0, 1, 0, []), (.getfield 12, 3, 0, [11, 0, 3, 640]), (.getfield 274, 3, 0, [10, 5, 3, 423]), (.getfield 316, 3, 0, [9, 5, 3, 374]), (.invokevirtual 323, 3, 0, [0, 91, 8, 2, 0, 1255, 1256, 1257, 152, 1258])] := rfl
set_option maxRecDepth 100000 in
theorem q137_19 (E : mj_E) (d w c : Nat) (hi : Nat → Nat → Int32) (hl : Nat → Nat → Int64) (v1 : Int32) (v2 : Int32) : mj_den mj_P E d 137 19 [Value.ref 0, Value.int v1, Value.int v2] [] (mj_hw w c hi hl) = mj_bv (mj_dc mj_P E d 91 [Value.ref 189, Value.int (hi 2 0), Value.ref 38] (mj_hw w c hi hl)) (fun h1 => mj_den mj_P E d 137 46 [Value.ref 0, Value.int v1, Value.int v2] [] h1) := by
  rw [mj_den_eq, f137_19]
  exact zt_aload_n rfl rfl (zt_getr (mjkd0 _ _ _ _) (mjhr0_7 w c) rfl (zt_aload_n rfl rfl (zt_getr (mjkd0 _ _ _ _) (mjhr0_0 w c) rfl (zt_getr (mjkd1 _ _ _ _) (mjhr1_0 w c) rfl (zt_geti (mjkd2 _ _ _ _) rfl rfl (zt_aload_n rfl rfl (zt_getr (mjkd0 _ _ _ _) (mjhr0_0 w c) rfl (zt_getr (mjkd1 _ _ _ _) (mjhr1_5 w c) rfl (zt_getr (mjkd34 _ _ _ _) (mjhr34_5 w c) rfl (zt_call0_0 rfl (mjkd189 _ _ _ _) (Nat.le_of_ble_eq_true rfl) rfl rfl))))))))))
set_option maxRecDepth 100000 in
theorem f137_46 : mj_find (mj_P 137).2.2.2.2 46 = [(.iload_n 1, 1, 0, []), (.iconst (-1), 1, (-1), []), (.if_icmp .ne 13, 3, 0, [61]), (.aload_n 0, 1, 0, []), (.getfield 54, 3, 0, [11, 7, 3, 647]), (.invokevirtual 327, 3, 0, [0, 93, 8, 0, 1, 1259, 1260, 1261, 152, 1262])] := rfl
set_option maxRecDepth 100000 in
theorem q137_46 (E : mj_E) (d w c : Nat) (hi : Nat → Nat → Int32) (hl : Nat → Nat → Int64) (v1 : Int32) (v2 : Int32) : mj_den mj_P E d 137 46 [Value.ref 0, Value.int v1, Value.int v2] [] (mj_hw w c hi hl) = if ¬ v1 = (-1 : Int32) then mj_den mj_P E d 137 61 [Value.ref 0, Value.int v1, Value.int v2] [] (mj_hw w c hi hl) else mj_bi (mj_dc mj_P E d 93 [Value.ref 189] (mj_hw w c hi hl)) (fun x1 h1 => mj_den mj_P E d 137 58 [Value.ref 0, Value.int v1, Value.int v2] [Value.int x1] h1) := by
  rw [mj_den_eq, f137_46]
  exact zt_iload_n rfl rfl (zt_iconst rfl (zt_icmp_ne rfl rfl (zt_aload_n rfl rfl (zt_getr (mjkd0 _ _ _ _) (mjhr0_7 w c) rfl (zt_call0_1 rfl (mjkd189 _ _ _ _) (Nat.le_of_ble_eq_true rfl) rfl rfl)))))
set_option maxRecDepth 100000 in
theorem f137_58 : mj_find (mj_P 137).2.2.2.2 58 = [(.goto 14, 3, 0, [72])] := rfl
set_option maxRecDepth 100000 in
theorem q137_58 (E : mj_E) (d w c : Nat) (hi : Nat → Nat → Int32) (hl : Nat → Nat → Int64) (v1 : Int32) (v2 : Int32) (s0 : Int32) : mj_den mj_P E d 137 58 [Value.ref 0, Value.int v1, Value.int v2] [Value.int s0] (mj_hw w c hi hl) = mj_den mj_P E d 137 72 [Value.ref 0, Value.int v1, Value.int v2] [Value.int s0] (mj_hw w c hi hl) := by
  rw [mj_den_eq, f137_58]
  exact zt_goto rfl
set_option maxRecDepth 100000 in
theorem f137_61 : mj_find (mj_P 137).2.2.2.2 61 = [(.aload_n 0, 1, 0, []), (.getfield 54, 3, 0, [11, 7, 3, 647]), (.iload_n 1, 1, 0, []), (.invokevirtual 330, 3, 0, [0, 92, 8, 1, 2, 1268, 1264, 1265, 152, 1266])] := rfl
set_option maxRecDepth 100000 in
theorem q137_61 (E : mj_E) (d w c : Nat) (hi : Nat → Nat → Int32) (hl : Nat → Nat → Int64) (v1 : Int32) (v2 : Int32) : mj_den mj_P E d 137 61 [Value.ref 0, Value.int v1, Value.int v2] [] (mj_hw w c hi hl) = mj_bj (mj_dc mj_P E d 92 [Value.ref 189, Value.int v1] (mj_hw w c hi hl)) (fun x1 h1 => mj_den mj_P E d 137 69 [Value.ref 0, Value.int v1, Value.int v2] [Value.long x1] h1) := by
  rw [mj_den_eq, f137_61]
  exact zt_aload_n rfl rfl (zt_getr (mjkd0 _ _ _ _) (mjhr0_7 w c) rfl (zt_iload_n rfl rfl (zt_call0_2 rfl (mjkd189 _ _ _ _) (Nat.le_of_ble_eq_true rfl) rfl rfl)))
set_option maxRecDepth 100000 in
theorem f137_69 : mj_find (mj_P 137).2.2.2.2 69 = [(.invokestatic 334, 3, 0, [1, 294, 0, 1, 1, 1269, 1270, 164, 1271])] := rfl
set_option maxRecDepth 100000 in
theorem q137_69 (E : mj_E) (d w c : Nat) (hi : Nat → Nat → Int32) (hl : Nat → Nat → Int64) (v1 : Int32) (v2 : Int32) (s0 : Int64) : mj_den mj_P E d 137 69 [Value.ref 0, Value.int v1, Value.int v2] [Value.long s0] (mj_hw w c hi hl) = mj_bi (mj_dc mj_P E d 294 [Value.long s0] (mj_hw w c hi hl)) (fun x1 h1 => mj_den mj_P E d 137 72 [Value.ref 0, Value.int v1, Value.int v2] [Value.int x1] h1) := by
  rw [mj_den_eq, f137_69]
  exact zt_call1_1 (Nat.le_of_ble_eq_true rfl) rfl (Nat.le_of_ble_eq_true rfl) rfl rfl
set_option maxRecDepth 100000 in
theorem f137_72 : mj_find (mj_P 137).2.2.2.2 72 = [(.ireturn, 1, 0, [0])] := rfl
set_option maxRecDepth 100000 in
theorem q137_72 (E : mj_E) (d w c : Nat) (hi : Nat → Nat → Int32) (hl : Nat → Nat → Int64) (v1 : Int32) (v2 : Int32) (s0 : Int32) : mj_den mj_P E d 137 72 [Value.ref 0, Value.int v1, Value.int v2] [Value.int s0] (mj_hw w c hi hl) = some (some (Value.int s0), (mj_hw w c hi hl)) := by
  rw [mj_den_eq, f137_72]
  exact zt_ireturn0
set_option maxRecDepth 100000 in
theorem f138_0 : mj_find (mj_P 138).2.2.2.2 0 = [(.aload_n 0, 1, 0, []), (.getfield 12, 3, 0, [11, 0, 3, 640]), (.getfield 274, 3, 0, [10, 5, 3, 423]), (.astore_n 3, 1, 0, []), (.iload_n 1, 1, 0, []), (.iconst (-1), 1, (-1), []), (.if_icmp .ne 10, 3, 0, [20]), (.aload_n 3, 1, 0, []), (.iconst 0, 1, 0, []), (.putfield 339, 3, 0, [9, 6, 0, 377]), (.iconst 0, 1, 0, []), (.ireturn, 1, 0, [0])] := rfl
set_option maxRecDepth 100000 in
theorem q138_0 (E : mj_E) (d w c : Nat) (hi : Nat → Nat → Int32) (hl : Nat → Nat → Int64) (v1 : Int32) (v2 : Int32) : mj_den mj_P E d 138 0 [Value.ref 0, Value.int v1, Value.int v2, Value.float 0] [] (mj_hw w c hi hl) = if ¬ v1 = (-1 : Int32) then mj_den mj_P E d 138 20 [Value.ref 0, Value.int v1, Value.int v2, Value.ref 34] [] (mj_hw w c hi hl) else some (some (Value.int (0 : Int32)), (mj_hw w c (mj_u hi 34 6 (0 : Int32)) hl)) := by
  rw [mj_den_eq, f138_0]
  exact zt_aload_n rfl rfl (zt_getr (mjkd0 _ _ _ _) (mjhr0_0 w c) rfl (zt_getr (mjkd1 _ _ _ _) (mjhr1_5 w c) rfl (zt_astore_n (Nat.le_of_ble_eq_true rfl) rfl rfl (zt_iload_n rfl rfl (zt_iconst rfl (zt_icmp_ne rfl rfl (zt_aload_n rfl rfl (zt_iconst rfl (zt_puti (mjkd34 _ _ _ _) rfl rfl (zt_iconst rfl (zt_ireturn0)))))))))))
set_option maxRecDepth 100000 in
theorem f138_20 : mj_find (mj_P 138).2.2.2.2 20 = [(.iload_n 1, 1, 0, []), (.bipush 99, 2, 99, []), (.invokestatic 82, 3, 0, [1, 147, 0, 2, 1, 683, 684, 143, 685])] := rfl
set_option maxRecDepth 100000 in
theorem q138_20 (E : mj_E) (d w c : Nat) (hi : Nat → Nat → Int32) (hl : Nat → Nat → Int64) (v1 : Int32) (v2 : Int32) : mj_den mj_P E d 138 20 [Value.ref 0, Value.int v1, Value.int v2, Value.ref 34] [] (mj_hw w c hi hl) = mj_bi (mj_dc mj_P E d 147 [Value.int v1, Value.int (99 : Int32)] (mj_hw w c hi hl)) (fun x1 h1 => mj_den mj_P E d 138 26 [Value.ref 0, Value.int v1, Value.int v2, Value.ref 34] [Value.int x1] h1) := by
  rw [mj_den_eq, f138_20]
  exact zt_iload_n rfl rfl (zt_bipush rfl (zt_call1_1 (Nat.le_of_ble_eq_true rfl) rfl (Nat.le_of_ble_eq_true rfl) rfl rfl))
set_option maxRecDepth 100000 in
theorem f138_26 : mj_find (mj_P 138).2.2.2.2 26 = [(.ifCond .eq 21, 3, 0, [47]), (.iload_n 2, 1, 0, []), (.bipush 9, 2, 9, []), (.invokestatic 82, 3, 0, [1, 147, 0, 2, 1, 683, 684, 143, 685])] := rfl
set_option maxRecDepth 100000 in
theorem q138_26 (E : mj_E) (d w c : Nat) (hi : Nat → Nat → Int32) (hl : Nat → Nat → Int64) (v1 : Int32) (v2 : Int32) (s0 : Int32) : mj_den mj_P E d 138 26 [Value.ref 0, Value.int v1, Value.int v2, Value.ref 34] [Value.int s0] (mj_hw w c hi hl) = if s0 = 0 then mj_den mj_P E d 138 47 [Value.ref 0, Value.int v1, Value.int v2, Value.ref 34] [] (mj_hw w c hi hl) else mj_bi (mj_dc mj_P E d 147 [Value.int v2, Value.int (9 : Int32)] (mj_hw w c hi hl)) (fun x1 h1 => mj_den mj_P E d 138 35 [Value.ref 0, Value.int v1, Value.int v2, Value.ref 34] [Value.int x1] h1) := by
  rw [mj_den_eq, f138_26]
  exact zt_if_eq rfl rfl (zt_iload_n rfl rfl (zt_bipush rfl (zt_call1_1 (Nat.le_of_ble_eq_true rfl) rfl (Nat.le_of_ble_eq_true rfl) rfl rfl)))
set_option maxRecDepth 100000 in
theorem f138_35 : mj_find (mj_P 138).2.2.2.2 35 = [(.ifCond .eq 12, 3, 0, [47]), (.aload_n 3, 1, 0, []), (.getfield 339, 3, 0, [9, 6, 0, 377]), (.bipush 7, 2, 7, []), (.if_icmp .lt 5, 3, 0, [49])] := rfl
set_option maxRecDepth 100000 in
theorem q138_35 (E : mj_E) (d w c : Nat) (hi : Nat → Nat → Int32) (hl : Nat → Nat → Int64) (v1 : Int32) (v2 : Int32) (s0 : Int32) : mj_den mj_P E d 138 35 [Value.ref 0, Value.int v1, Value.int v2, Value.ref 34] [Value.int s0] (mj_hw w c hi hl) = if s0 = 0 then mj_den mj_P E d 138 47 [Value.ref 0, Value.int v1, Value.int v2, Value.ref 34] [] (mj_hw w c hi hl) else if (hi 34 6) < (7 : Int32) then mj_den mj_P E d 138 49 [Value.ref 0, Value.int v1, Value.int v2, Value.ref 34] [] (mj_hw w c hi hl) else mj_den mj_P E d 138 47 [Value.ref 0, Value.int v1, Value.int v2, Value.ref 34] [] (mj_hw w c hi hl) := by
  rw [mj_den_eq, f138_35]
  exact zt_if_eq rfl rfl (zt_aload_n rfl rfl (zt_geti (mjkd34 _ _ _ _) rfl rfl (zt_bipush rfl (zt_icmp_lt rfl rfl (zt_end rfl)))))
set_option maxRecDepth 100000 in
theorem f138_47 : mj_find (mj_P 138).2.2.2.2 47 = [(.iconst (-1), 1, (-1), []), (.ireturn, 1, 0, [0])] := rfl
set_option maxRecDepth 100000 in
theorem q138_47 (E : mj_E) (d w c : Nat) (hi : Nat → Nat → Int32) (hl : Nat → Nat → Int64) (v1 : Int32) (v2 : Int32) : mj_den mj_P E d 138 47 [Value.ref 0, Value.int v1, Value.int v2, Value.ref 34] [] (mj_hw w c hi hl) = some (some (Value.int (-1 : Int32)), (mj_hw w c hi hl)) := by
  rw [mj_den_eq, f138_47]
  exact zt_iconst rfl (zt_ireturn0)
set_option maxRecDepth 100000 in
theorem f138_49 : mj_find (mj_P 138).2.2.2.2 49 = [(.aload_n 3, 1, 0, []), (.getfield 342, 3, 0, [9, 7, 3, 380]), (.aload_n 3, 1, 0, []), (.getfield 339, 3, 0, [9, 6, 0, 377]), (.iload_n 1, 1, 0, []), (.iastore, 1, 0, []), (.aload_n 3, 1, 0, []), (.getfield 343, 3, 0, [9, 8, 3, 383]), (.aload_n 3, 1, 0, []), (.getfield 339, 3, 0, [9, 6, 0, 377]), (.iload_n 2, 1, 0, []), (.iastore, 1, 0, []), (.aload_n 3, 1, 0, []), (.dup, 1, 0, []), (.getfield 339, 3, 0, [9, 6, 0, 377]), (.iconst 1, 1, 1, []), (.iadd, 1, 0, []), (.putfield 339, 3, 0, [9, 6, 0, 377]), (.aload_n 3, 1, 0, []), (.getfield 339, 3, 0, [9, 6, 0, 377]), (.ireturn, 1, 0, [0])] := rfl
set_option maxRecDepth 100000 in
theorem q138_49 (E : mj_E) (d w c : Nat) (hi : Nat → Nat → Int32) (hl : Nat → Nat → Int64) (v1 : Int32) (v2 : Int32) : mj_den mj_P E d 138 49 [Value.ref 0, Value.int v1, Value.int v2, Value.ref 34] [] (mj_hw w c hi hl) = if 0 ≤ (hi 34 6) ∧ ((hi 34 6)).toNatClampNeg < 7 then if 0 ≤ (hi 34 6) ∧ ((hi 34 6)).toNatClampNeg < 7 then some (some (Value.int ((hi 34 6) + (1 : Int32))), (mj_hw w c (mj_u (mj_u (mj_u hi 39 (((hi 34 6)).toNatClampNeg) v1) 40 (((hi 34 6)).toNatClampNeg) v2) 34 6 ((hi 34 6) + (1 : Int32))) hl)) else none else none := by
  rw [mj_den_eq, f138_49]
  exact zt_aload_n rfl rfl (zt_getr (mjkd34 _ _ _ _) (mjhr34_7 w c) rfl (zt_aload_n rfl rfl (zt_geti (mjkd34 _ _ _ _) rfl rfl (zt_iload_n rfl rfl (zt_iast (mjkd39 _ _ _ _) (mjln39 _ _ _ _) rfl rfl (zt_aload_n rfl rfl (zt_getr (mjkd34 _ _ _ _) (mjhr34_8 w c) rfl (zt_aload_n rfl rfl (zt_geti (mjkd34 _ _ _ _) rfl rfl (zt_iload_n rfl rfl (zt_iast (mjkd40 _ _ _ _) (mjln40 _ _ _ _) rfl rfl (zt_aload_n rfl rfl (zt_dupr rfl (zt_geti (mjkd34 _ _ _ _) rfl rfl (zt_iconst rfl (zt_iadd rfl (zt_puti (mjkd34 _ _ _ _) rfl rfl (zt_aload_n rfl rfl (zt_geti (mjkd34 _ _ _ _) rfl rfl (zt_ireturn0))))))))))))))))))))
