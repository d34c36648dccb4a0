set_option maxRecDepth 100000 in
theorem f289_0 : mj_find (mj_P 289).2.2.2.2 0 = [(.aload_n 0, 1, 0, []), (.iconst 0, 1, 0, []), (.putfield 122, 3, 0, [12, 0, 0, 1410]), (.iload_n 1, 1, 0, []), (.ifCond .ne 12, 3, 0, [18]), (.aload_n 0, 1, 0, []), (.getfield 518, 3, 0, [12, 64, 1, 1474]), (.ifCond .ne 5, 3, 0, [18]), (.iconst 0, 1, 0, []), (.ireturn, 1, 0, [1])] := rfl
set_option maxRecDepth 100000 in
theorem q289_0 (E : mj_E) (d w c : Nat) (hi : Nat → Nat → Int32) (hl : Nat → Nat → Int64) (v1 : Int32) : mj_den mj_P E d 289 0 [Value.ref 205, Value.int v1, Value.float 0] [] (mj_hw w c hi hl) = if ¬ v1 = 0 then mj_den mj_P E d 289 18 [Value.ref 205, Value.int v1, Value.float 0] [] (mj_hw w c (mj_u hi 205 0 (0 : Int32)) hl) else if ¬ (hi 205 64) = 0 then mj_den mj_P E d 289 18 [Value.ref 205, Value.int v1, Value.float 0] [] (mj_hw w c (mj_u hi 205 0 (0 : Int32)) hl) else if (0 : Int32) = 0 ∨ (0 : Int32) = 1 then some (some (Value.int (0 : Int32)), (mj_hw w c (mj_u hi 205 0 (0 : Int32)) hl)) else none := by
  rw [mj_den_eq, f289_0]
  exact zt_aload_n rfl rfl (zt_iconst rfl (zt_puti (mjkd205 _ _ _ _) rfl rfl (zt_iload_n rfl rfl (zt_if_ne rfl rfl (zt_aload_n rfl rfl (zt_getz (mjkd205 _ _ _ _) rfl rfl (zt_if_ne rfl rfl (zt_iconst rfl (zt_ireturn1)))))))))
set_option maxRecDepth 100000 in
theorem f289_18 : mj_find (mj_P 289).2.2.2.2 18 = [(.aload_n 0, 1, 0, []), (.iload_n 1, 1, 0, []), (.putfield 512, 3, 0, [12, 63, 1, 1473]), (.aload_n 0, 1, 0, []), (.iconst 1, 1, 1, []), (.putfield 518, 3, 0, [12, 64, 1, 1474]), (.aload_n 0, 1, 0, []), (.iconst 0, 1, 0, []), (.putfield 509, 3, 0, [12, 65, 0, 1475]), (.iconst 0, 1, 0, []), (.istore_n 2, 1, 0, [])] := rfl
set_option maxRecDepth 100000 in
theorem q289_18 (E : mj_E) (d w c : Nat) (hi : Nat → Nat → Int32) (hl : Nat → Nat → Int64) (v1 : Int32) : mj_den mj_P E d 289 18 [Value.ref 205, Value.int v1, Value.float 0] [] (mj_hw w c hi hl) = if v1 = 0 ∨ v1 = 1 then if (1 : Int32) = 0 ∨ (1 : Int32) = 1 then mj_den mj_P E d 289 35 [Value.ref 205, Value.int v1, Value.int (0 : Int32)] [] (mj_hw w c (mj_u (mj_u (mj_u hi 205 63 v1) 205 64 (1 : Int32)) 205 65 (0 : Int32)) hl) else none else none := by
  rw [mj_den_eq, f289_18]
  exact zt_aload_n rfl rfl (zt_iload_n rfl rfl (zt_putz (mjkd205 _ _ _ _) rfl rfl (zt_aload_n rfl rfl (zt_iconst rfl (zt_putz (mjkd205 _ _ _ _) rfl rfl (zt_aload_n rfl rfl (zt_iconst rfl (zt_puti (mjkd205 _ _ _ _) rfl rfl (zt_iconst rfl (zt_istore_n (Nat.le_of_ble_eq_true rfl) rfl rfl (zt_end rfl)))))))))))
set_option maxRecDepth 100000 in
theorem f289_35 : mj_find (mj_P 289).2.2.2.2 35 = [(.iload_n 2, 1, 0, []), (.bipush 57, 2, 57, []), (.if_icmp .ge 25, 3, 0, [63]), (.aload_n 0, 1, 0, []), (.getfield 7, 3, 0, [12, 1, 3, 1411]), (.iload_n 2, 1, 0, []), (.aload_n 0, 1, 0, []), (.aload_n 0, 1, 0, []), (.getfield 7, 3, 0, [12, 1, 3, 1411]), (.iload_n 2, 1, 0, []), (.iaload, 1, 0, []), (.invokevirtual 515, 3, 0, [0, 285, 12, 1, 1, 2153, 2155, 138, 156, 2156])] := rfl
set_option maxRecDepth 100000 in
theorem q289_35 (E : mj_E) (d w c : Nat) (hi : Nat → Nat → Int32) (hl : Nat → Nat → Int64) (v1 : Int32) (v2 : Int32) : mj_den mj_P E d 289 35 [Value.ref 205, Value.int v1, Value.int v2] [] (mj_hw w c hi hl) = if (57 : Int32) ≤ v2 then mj_den mj_P E d 289 63 [Value.ref 205, Value.int v1, Value.int v2] [] (mj_hw w c hi hl) else if 0 ≤ v2 ∧ (v2).toNatClampNeg < 57 then mj_bi (mj_dc mj_P E d 285 [Value.ref 205, Value.int (hi 206 ((v2).toNatClampNeg))] (mj_hw w c hi hl)) (fun x1 h1 => mj_den mj_P E d 289 56 [Value.ref 205, Value.int v1, Value.int v2] [Value.int x1, Value.int v2, Value.ref 206] h1) else none := by
  rw [mj_den_eq, f289_35]
  exact zt_iload_n rfl rfl (zt_bipush rfl (zt_icmp_ge rfl rfl (zt_aload_n rfl rfl (zt_getr (mjkd205 _ _ _ _) (mjhr205_1 w c) rfl (zt_iload_n rfl rfl (zt_aload_n rfl rfl (zt_aload_n rfl rfl (zt_getr (mjkd205 _ _ _ _) (mjhr205_1 w c) rfl (zt_iload_n rfl rfl (zt_iald (mjkd206 _ _ _ _) (mjln206 _ _ _ _) rfl rfl (zt_call0_1 rfl (mjkd205 _ _ _ _) (Nat.le_of_ble_eq_true rfl) rfl rfl)))))))))))
set_option maxRecDepth 100000 in
theorem f289_56 : mj_find (mj_P 289).2.2.2.2 56 = [(.iastore, 1, 0, []), (.iinc 2 1, 3, 1, []), (.goto (-25), 3, 0, [35])] := rfl
set_option maxRecDepth 100000 in
theorem q289_56 (E : mj_E) (d w c : Nat) (hi : Nat → Nat → Int32) (hl : Nat → Nat → Int64) (v1 : Int32) (v2 : Int32) (s0 : Int32) (s1 : Int32) : mj_den mj_P E d 289 56 [Value.ref 205, Value.int v1, Value.int v2] [Value.int s0, Value.int s1, Value.ref 206] (mj_hw w c hi hl) = if 0 ≤ s1 ∧ (s1).toNatClampNeg < 57 then mj_den mj_P E d 289 35 [Value.ref 205, Value.int v1, Value.int (v2 + (1 : Int32))] [] (mj_hw w c (mj_u hi 206 ((s1).toNatClampNeg) s0) hl) else none := by
  rw [mj_den_eq, f289_56]
  exact zt_iast (mjkd206 _ _ _ _) (mjln206 _ _ _ _) rfl rfl (zt_iinc rfl (Nat.le_of_ble_eq_true rfl) rfl rfl (zt_goto rfl))
set_option maxRecDepth 100000 in
theorem f289_63 : mj_find (mj_P 289).2.2.2.2 63 = [(.aload_n 0, 1, 0, []), (.invokevirtual 521, 3, 0, [0, 287, 12, 0, 0, 2157, 2159, 139, 156, 2160])] := rfl
set_option maxRecDepth 100000 in
theorem q289_63 (E : mj_E) (d w c : Nat) (hi : Nat → Nat → Int32) (hl : Nat → Nat → Int64) (v1 : Int32) (v2 : Int32) : mj_den mj_P E d 289 63 [Value.ref 205, Value.int v1, Value.int v2] [] (mj_hw w c hi hl) = mj_bv (mj_dc mj_P E d 287 [Value.ref 205] (mj_hw w c hi hl)) (fun h1 => mj_den mj_P E d 289 67 [Value.ref 205, Value.int v1, Value.int v2] [] h1) := by
  rw [mj_den_eq, f289_63]
  exact zt_aload_n rfl rfl (zt_call0_0 rfl (mjkd205 _ _ _ _) (Nat.le_of_ble_eq_true rfl) rfl rfl)
set_option maxRecDepth 100000 in
theorem f289_67 : mj_find (mj_P 289).2.2.2.2 67 = [(.aload_n 0, 1, 0, []), (.invokevirtual 524, 3, 0, [0, 288, 12, 0, 0, 2161, 2163, 140, 156, 2164])] := rfl
set_option maxRecDepth 100000 in
theorem q289_67 (E : mj_E) (d w c : Nat) (hi : Nat → Nat → Int32) (hl : Nat → Nat → Int64) (v1 : Int32) (v2 : Int32) : mj_den mj_P E d 289 67 [Value.ref 205, Value.int v1, Value.int v2] [] (mj_hw w c hi hl) = mj_bv (mj_dc mj_P E d 288 [Value.ref 205] (mj_hw w c hi hl)) (fun h1 => mj_den mj_P E d 289 71 [Value.ref 205, Value.int v1, Value.int v2] [] h1) := by
  rw [mj_den_eq, f289_67]
  exact zt_aload_n rfl rfl (zt_call0_0 rfl (mjkd205 _ _ _ _) (Nat.le_of_ble_eq_true rfl) rfl rfl)
set_option maxRecDepth 100000 in
theorem f289_71 : mj_find (mj_P 289).2.2.2.2 71 = [(.iconst 0, 1, 0, []), (.istore_n 2, 1, 0, [])] := rfl
set_option maxRecDepth 100000 in
theorem q289_71 (E : mj_E) (d w c : Nat) (hi : Nat → Nat → Int32) (hl : Nat → Nat → Int64) (v1 : Int32) (v2 : Int32) : mj_den mj_P E d 289 71 [Value.ref 205, Value.int v1, Value.int v2] [] (mj_hw w c hi hl) = mj_den mj_P E d 289 73 [Value.ref 205, Value.int v1, Value.int (0 : Int32)] [] (mj_hw w c hi hl) := by
  rw [mj_den_eq, f289_71]
  exact zt_iconst rfl (zt_istore_n (Nat.le_of_ble_eq_true rfl) rfl rfl (zt_end rfl))
set_option maxRecDepth 100000 in
theorem f289_73 : mj_find (mj_P 289).2.2.2.2 73 = [(.iload_n 2, 1, 0, []), (.sipush 600, 3, 600, []), (.if_icmp .ge 25, 3, 0, [102]), (.aload_n 0, 1, 0, []), (.getfield 31, 3, 0, [12, 12, 3, 1422]), (.iload_n 2, 1, 0, []), (.aload_n 0, 1, 0, []), (.aload_n 0, 1, 0, []), (.getfield 31, 3, 0, [12, 12, 3, 1422]), (.iload_n 2, 1, 0, []), (.iaload, 1, 0, []), (.invokevirtual 515, 3, 0, [0, 285, 12, 1, 1, 2153, 2155, 138, 156, 2156])] := rfl
set_option maxRecDepth 100000 in
theorem q289_73 (E : mj_E) (d w c : Nat) (hi : Nat → Nat → Int32) (hl : Nat → Nat → Int64) (v1 : Int32) (v2 : Int32) : mj_den mj_P E d 289 73 [Value.ref 205, Value.int v1, Value.int v2] [] (mj_hw w c hi hl) = if (600 : Int32) ≤ v2 then mj_den mj_P E d 289 102 [Value.ref 205, Value.int v1, Value.int v2] [] (mj_hw w c hi hl) else if 0 ≤ v2 ∧ (v2).toNatClampNeg < 600 then mj_bi (mj_dc mj_P E d 285 [Value.ref 205, Value.int (hi 213 ((v2).toNatClampNeg))] (mj_hw w c hi hl)) (fun x1 h1 => mj_den mj_P E d 289 95 [Value.ref 205, Value.int v1, Value.int v2] [Value.int x1, Value.int v2, Value.ref 213] h1) else none := by
  rw [mj_den_eq, f289_73]
  exact zt_iload_n rfl rfl (zt_sipush rfl (zt_icmp_ge rfl rfl (zt_aload_n rfl rfl (zt_getr (mjkd205 _ _ _ _) (mjhr205_12 w c) rfl (zt_iload_n rfl rfl (zt_aload_n rfl rfl (zt_aload_n rfl rfl (zt_getr (mjkd205 _ _ _ _) (mjhr205_12 w c) rfl (zt_iload_n rfl rfl (zt_iald (mjkd213 _ _ _ _) (mjln213 _ _ _ _) rfl rfl (zt_call0_1 rfl (mjkd205 _ _ _ _) (Nat.le_of_ble_eq_true rfl) rfl rfl)))))))))))
set_option maxRecDepth 100000 in
theorem f289_95 : mj_find (mj_P 289).2.2.2.2 95 = [(.iastore, 1, 0, []), (.iinc 2 1, 3, 1, []), (.goto (-26), 3, 0, [73])] := rfl
set_option maxRecDepth 100000 in
theorem q289_95 (E : mj_E) (d w c : Nat) (hi : Nat → Nat → Int32) (hl : Nat → Nat → Int64) (v1 : Int32) (v2 : Int32) (s0 : Int32) (s1 : Int32) : mj_den mj_P E d 289 95 [Value.ref 205, Value.int v1, Value.int v2] [Value.int s0, Value.int s1, Value.ref 213] (mj_hw w c hi hl) = if 0 ≤ s1 ∧ (s1).toNatClampNeg < 600 then mj_den mj_P E d 289 73 [Value.ref 205, Value.int v1, Value.int (v2 + (1 : Int32))] [] (mj_hw w c (mj_u hi 213 ((s1).toNatClampNeg) s0) hl) else none := by
  rw [mj_den_eq, f289_95]
  exact zt_iast (mjkd213 _ _ _ _) (mjln213 _ _ _ _) rfl rfl (zt_iinc rfl (Nat.le_of_ble_eq_true rfl) rfl rfl (zt_goto rfl))
set_option maxRecDepth 100000 in
theorem f289_102 : mj_find (mj_P 289).2.2.2.2 102 = [(.aload_n 0, 1, 0, []), (.invokevirtual 527, 3, 0, [0, 286, 12, 0, 0, 2165, 2167, 141, 156, 2168])] := rfl
set_option maxRecDepth 100000 in
theorem q289_102 (E : mj_E) (d w c : Nat) (hi : Nat → Nat → Int32) (hl : Nat → Nat → Int64) (v1 : Int32) (v2 : Int32) : mj_den mj_P E d 289 102 [Value.ref 205, Value.int v1, Value.int v2] [] (mj_hw w c hi hl) = mj_bv (mj_dc mj_P E d 286 [Value.ref 205] (mj_hw w c hi hl)) (fun h1 => mj_den mj_P E d 289 106 [Value.ref 205, Value.int v1, Value.int v2] [] h1) := by
  rw [mj_den_eq, f289_102]
  exact zt_aload_n rfl rfl (zt_call0_0 rfl (mjkd205 _ _ _ _) (Nat.le_of_ble_eq_true rfl) rfl rfl)
set_option maxRecDepth 100000 in
theorem f289_106 : mj_find (mj_P 289).2.2.2.2 106 = [(.iload_n 1, 1, 0, []), (.ifCond .ne 8, 3, 0, [115]), (.aload_n 0, 1, 0, []), (.iconst 0, 1, 0, []), (.putfield 125, 3, 0, [12, 3, 0, 1413])] := rfl
set_option maxRecDepth 100000 in
theorem q289_106 (E : mj_E) (d w c : Nat) (hi : Nat → Nat → Int32) (hl : Nat → Nat → Int64) (v1 : Int32) (v2 : Int32) : mj_den mj_P E d 289 106 [Value.ref 205, Value.int v1, Value.int v2] [] (mj_hw w c hi hl) = if ¬ v1 = 0 then mj_den mj_P E d 289 115 [Value.ref 205, Value.int v1, Value.int v2] [] (mj_hw w c hi hl) else mj_den mj_P E d 289 115 [Value.ref 205, Value.int v1, Value.int v2] [] (mj_hw w c (mj_u hi 205 3 (0 : Int32)) hl) := by
  rw [mj_den_eq, f289_106]
  exact zt_iload_n rfl rfl (zt_if_ne rfl rfl (zt_aload_n rfl rfl (zt_iconst rfl (zt_puti (mjkd205 _ _ _ _) rfl rfl (zt_end rfl)))))
set_option maxRecDepth 100000 in
theorem f289_115 : mj_find (mj_P 289).2.2.2.2 115 = [(.iconst 1, 1, 1, []), (.ireturn, 1, 0, [1])] := rfl
set_option maxRecDepth 100000 in
theorem q289_115 (E : mj_E) (d w c : Nat) (hi : Nat → Nat → Int32) (hl : Nat → Nat → Int64) (v1 : Int32) (v2 : Int32) : mj_den mj_P E d 289 115 [Value.ref 205, Value.int v1, Value.int v2] [] (mj_hw w c hi hl) = if (1 : Int32) = 0 ∨ (1 : Int32) = 1 then some (some (Value.int (1 : Int32)), (mj_hw w c hi hl)) else none := by
  rw [mj_den_eq, f289_115]
  exact zt_iconst rfl (zt_ireturn1)
set_option maxRecDepth 100000 in
theorem f290_0 : mj_find (mj_P 290).2.2.2.2 0 = [(.aload_n 0, 1, 0, []), (.iconst 0, 1, 0, []), (.putfield 122, 3, 0, [12, 0, 0, 1410]), (.iload_n 1, 1, 0, []), (.ifCond .ne 8, 3, 0, [14]), (.aload_n 0, 1, 0, []), (.getfield 134, 3, 0, [12, 6, 0, 1416]), (.ireturn, 1, 0, [0])] := rfl
set_option maxRecDepth 100000 in
theorem q290_0 (E : mj_E) (d w c : Nat) (hi : Nat → Nat → Int32) (hl : Nat → Nat → Int64) (v1 : Int32) : mj_den mj_P E d 290 0 [Value.ref 205, Value.int v1] [] (mj_hw w c hi hl) = if ¬ v1 = 0 then mj_den mj_P E d 290 14 [Value.ref 205, Value.int v1] [] (mj_hw w c (mj_u hi 205 0 (0 : Int32)) hl) else some (some (Value.int (hi 205 6)), (mj_hw w c (mj_u hi 205 0 (0 : Int32)) hl)) := by
  rw [mj_den_eq, f290_0]
  exact zt_aload_n rfl rfl (zt_iconst rfl (zt_puti (mjkd205 _ _ _ _) rfl rfl (zt_iload_n rfl rfl (zt_if_ne rfl rfl (zt_aload_n rfl rfl (zt_geti (mjkd205 _ _ _ _) rfl rfl (zt_ireturn0)))))))
set_option maxRecDepth 100000 in
theorem f290_14 : mj_find (mj_P 290).2.2.2.2 14 = [(.iload_n 1, 1, 0, []), (.iconst 1, 1, 1, []), (.if_icmp .ne 8, 3, 0, [24]), (.aload_n 0, 1, 0, []), (.getfield 137, 3, 0, [12, 7, 0, 1417]), (.ireturn, 1, 0, [0])] := rfl
set_option maxRecDepth 100000 in
theorem q290_14 (E : mj_E) (d w c : Nat) (hi : Nat → Nat → Int32) (hl : Nat → Nat → Int64) (v1 : Int32) : mj_den mj_P E d 290 14 [Value.ref 205, Value.int v1] [] (mj_hw w c hi hl) = if ¬ v1 = (1 : Int32) then mj_den mj_P E d 290 24 [Value.ref 205, Value.int v1] [] (mj_hw w c hi hl) else some (some (Value.int (hi 205 7)), (mj_hw w c hi hl)) := by
  rw [mj_den_eq, f290_14]
  exact zt_iload_n rfl rfl (zt_iconst rfl (zt_icmp_ne rfl rfl (zt_aload_n rfl rfl (zt_geti (mjkd205 _ _ _ _) rfl rfl (zt_ireturn0)))))
set_option maxRecDepth 100000 in
theorem f290_24 : mj_find (mj_P 290).2.2.2.2 24 = [(.iload_n 1, 1, 0, []), (.iconst 2, 1, 2, []), (.if_icmp .ne 10, 3, 0, [36]), (.aload_n 0, 1, 0, []), (.getfield 7, 3, 0, [12, 1, 3, 1411]), (.iconst 3, 1, 3, []), (.iaload, 1, 0, []), (.ireturn, 1, 0, [0])] := rfl
set_option maxRecDepth 100000 in
theorem q290_24 (E : mj_E) (d w c : Nat) (hi : Nat → Nat → Int32) (hl : Nat → Nat → Int64) (v1 : Int32) : mj_den mj_P E d 290 24 [Value.ref 205, Value.int v1] [] (mj_hw w c hi hl) = if ¬ v1 = (2 : Int32) then mj_den mj_P E d 290 36 [Value.ref 205, Value.int v1] [] (mj_hw w c hi hl) else if 0 ≤ (3 : Int32) ∧ ((3 : Int32)).toNatClampNeg < 57 then some (some (Value.int (hi 206 (((3 : Int32)).toNatClampNeg))), (mj_hw w c hi hl)) else none := by
  rw [mj_den_eq, f290_24]
  exact zt_iload_n rfl rfl (zt_iconst rfl (zt_icmp_ne rfl rfl (zt_aload_n rfl rfl (zt_getr (mjkd205 _ _ _ _) (mjhr205_1 w c) rfl (zt_iconst rfl (zt_iald (mjkd206 _ _ _ _) (mjln206 _ _ _ _) rfl rfl (zt_ireturn0)))))))
set_option maxRecDepth 100000 in
theorem f290_36 : mj_find (mj_P 290).2.2.2.2 36 = [(.iload_n 1, 1, 0, []), (.iconst 3, 1, 3, []), (.if_icmp .ne 10, 3, 0, [48]), (.aload_n 0, 1, 0, []), (.getfield 7, 3, 0, [12, 1, 3, 1411]), (.iconst 0, 1, 0, []), (.iaload, 1, 0, []), (.ireturn, 1, 0, [0])] := rfl
set_option maxRecDepth 100000 in
theorem q290_36 (E : mj_E) (d w c : Nat) (hi : Nat → Nat → Int32) (hl : Nat → Nat → Int64) (v1 : Int32) : mj_den mj_P E d 290 36 [Value.ref 205, Value.int v1] [] (mj_hw w c hi hl) = if ¬ v1 = (3 : Int32) then mj_den mj_P E d 290 48 [Value.ref 205, Value.int v1] [] (mj_hw w c hi hl) else if 0 ≤ (0 : Int32) ∧ ((0 : Int32)).toNatClampNeg < 57 then some (some (Value.int (hi 206 (((0 : Int32)).toNatClampNeg))), (mj_hw w c hi hl)) else none := by
  rw [mj_den_eq, f290_36]
  exact zt_iload_n rfl rfl (zt_iconst rfl (zt_icmp_ne rfl rfl (zt_aload_n rfl rfl (zt_getr (mjkd205 _ _ _ _) (mjhr205_1 w c) rfl (zt_iconst rfl (zt_iald (mjkd206 _ _ _ _) (mjln206 _ _ _ _) rfl rfl (zt_ireturn0)))))))
set_option maxRecDepth 100000 in
theorem f290_48 : mj_find (mj_P 290).2.2.2.2 48 = [(.iload_n 1, 1, 0, []), (.iconst 4, 1, 4, []), (.if_icmp .ne 10, 3, 0, [60]), (.aload_n 0, 1, 0, []), (.getfield 7, 3, 0, [12, 1, 3, 1411]), (.iconst 4, 1, 4, []), (.iaload, 1, 0, []), (.ireturn, 1, 0, [0])] := rfl
set_option maxRecDepth 100000 in
theorem q290_48 (E : mj_E) (d w c : Nat) (hi : Nat → Nat → Int32) (hl : Nat → Nat → Int64) (v1 : Int32) : mj_den mj_P E d 290 48 [Value.ref 205, Value.int v1] [] (mj_hw w c hi hl) = if ¬ v1 = (4 : Int32) then mj_den mj_P E d 290 60 [Value.ref 205, Value.int v1] [] (mj_hw w c hi hl) else if 0 ≤ (4 : Int32) ∧ ((4 : Int32)).toNatClampNeg < 57 then some (some (Value.int (hi 206 (((4 : Int32)).toNatClampNeg))), (mj_hw w c hi hl)) else none := by
  rw [mj_den_eq, f290_48]
  exact zt_iload_n rfl rfl (zt_iconst rfl (zt_icmp_ne rfl rfl (zt_aload_n rfl rfl (zt_getr (mjkd205 _ _ _ _) (mjhr205_1 w c) rfl (zt_iconst rfl (zt_iald (mjkd206 _ _ _ _) (mjln206 _ _ _ _) rfl rfl (zt_ireturn0)))))))
set_option maxRecDepth 100000 in
theorem f290_60 : mj_find (mj_P 290).2.2.2.2 60 = [(.iload_n 1, 1, 0, []), (.iconst 5, 1, 5, []), (.if_icmp .ne 19, 3, 0, [81]), (.iconst 1, 1, 1, []), (.aload_n 0, 1, 0, []), (.getfield 134, 3, 0, [12, 6, 0, 1416]), (.ishl, 1, 0, []), (.iconst 1, 1, 1, []), (.isub, 1, 0, []), (.aload_n 0, 1, 0, []), (.invokevirtual 407, 3, 0, [0, 168, 12, 0, 1, 1962, 1964, 109, 156, 1965])] := rfl
set_option maxRecDepth 100000 in
theorem q290_60 (E : mj_E) (d w c : Nat) (hi : Nat → Nat → Int32) (hl : Nat → Nat → Int64) (v1 : Int32) : mj_den mj_P E d 290 60 [Value.ref 205, Value.int v1] [] (mj_hw w c hi hl) = if ¬ v1 = (5 : Int32) then mj_den mj_P E d 290 81 [Value.ref 205, Value.int v1] [] (mj_hw w c hi hl) else mj_bi (mj_dc mj_P E d 168 [Value.ref 205] (mj_hw w c hi hl)) (fun x1 h1 => mj_den mj_P E d 290 77 [Value.ref 205, Value.int v1] [Value.int x1, Value.int (((1 : Int32) <<< ((hi 205 6) &&& 31)) - (1 : Int32))] h1) := by
  rw [mj_den_eq, f290_60]
  exact zt_iload_n rfl rfl (zt_iconst rfl (zt_icmp_ne rfl rfl (zt_iconst rfl (zt_aload_n rfl rfl (zt_geti (mjkd205 _ _ _ _) rfl rfl (zt_ishl rfl (zt_iconst rfl (zt_isub rfl (zt_aload_n rfl rfl (zt_call0_1 rfl (mjkd205 _ _ _ _) (Nat.le_of_ble_eq_true rfl) rfl rfl))))))))))
set_option maxRecDepth 100000 in
theorem f290_77 : mj_find (mj_P 290).2.2.2.2 77 = [(.iconst (-1), 1, (-1), []), (.ixor, 1, 0, []), (.iand, 1, 0, []), (.ireturn, 1, 0, [0])] := rfl
set_option maxRecDepth 100000 in
theorem q290_77 (E : mj_E) (d w c : Nat) (hi : Nat → Nat → Int32) (hl : Nat → Nat → Int64) (v1 : Int32) (s0 : Int32) (s1 : Int32) : mj_den mj_P E d 290 77 [Value.ref 205, Value.int v1] [Value.int s0, Value.int s1] (mj_hw w c hi hl) = some (some (Value.int (s1 &&& (s0 ^^^ (-1 : Int32)))), (mj_hw w c hi hl)) := by
  rw [mj_den_eq, f290_77]
  exact zt_iconst rfl (zt_ixor rfl (zt_iand rfl (zt_ireturn0)))
set_option maxRecDepth 100000 in
theorem f290_81 : mj_find (mj_P 290).2.2.2.2 81 = [(.iload_n 1, 1, 0, []), (.bipush 6, 2, 6, []), (.if_icmp .ne 8, 3, 0, [92]), (.aload_n 0, 1, 0, []), (.invokevirtual 441, 3, 0, [0, 252, 12, 0, 1, 2019, 2021, 119, 156, 2022])] := rfl
set_option maxRecDepth 100000 in
theorem q290_81 (E : mj_E) (d w c : Nat) (hi : Nat → Nat → Int32) (hl : Nat → Nat → Int64) (v1 : Int32) : mj_den mj_P E d 290 81 [Value.ref 205, Value.int v1] [] (mj_hw w c hi hl) = if ¬ v1 = (6 : Int32) then mj_den mj_P E d 290 92 [Value.ref 205, Value.int v1] [] (mj_hw w c hi hl) else mj_bi (mj_dc mj_P E d 252 [Value.ref 205] (mj_hw w c hi hl)) (fun x1 h1 => mj_den mj_P E d 290 91 [Value.ref 205, Value.int v1] [Value.int x1] h1) := by
  rw [mj_den_eq, f290_81]
  exact zt_iload_n rfl rfl (zt_bipush rfl (zt_icmp_ne rfl rfl (zt_aload_n rfl rfl (zt_call0_1 rfl (mjkd205 _ _ _ _) (Nat.le_of_ble_eq_true rfl) rfl rfl))))
set_option maxRecDepth 100000 in
theorem f290_91 : mj_find (mj_P 290).2.2.2.2 91 = [(.ireturn, 1, 0, [0])] := rfl
set_option maxRecDepth 100000 in
theorem q290_91 (E : mj_E) (d w c : Nat) (hi : Nat → Nat → Int32) (hl : Nat → Nat → Int64) (v1 : Int32) (s0 : Int32) : mj_den mj_P E d 290 91 [Value.ref 205, Value.int v1] [Value.int s0] (mj_hw w c hi hl) = some (some (Value.int s0), (mj_hw w c hi hl)) := by
  rw [mj_den_eq, f290_91]
  exact zt_ireturn0
set_option maxRecDepth 100000 in
theorem f290_92 : mj_find (mj_P 290).2.2.2.2 92 = [(.iload_n 1, 1, 0, []), (.bipush 7, 2, 7, []), (.if_icmp .ne 10, 3, 0, [105]), (.aload_n 0, 1, 0, []), (.getfield 7, 3, 0, [12, 1, 3, 1411]), (.iconst 2, 1, 2, []), (.iaload, 1, 0, []), (.ireturn, 1, 0, [0])] := rfl
set_option maxRecDepth 100000 in
theorem q290_92 (E : mj_E) (d w c : Nat) (hi : Nat → Nat → Int32) (hl : Nat → Nat → Int64) (v1 : Int32) : mj_den mj_P E d 290 92 [Value.ref 205, Value.int v1] [] (mj_hw w c hi hl) = if ¬ v1 = (7 : Int32) then mj_den mj_P E d 290 105 [Value.ref 205, Value.int v1] [] (mj_hw w c hi hl) else if 0 ≤ (2 : Int32) ∧ ((2 : Int32)).toNatClampNeg < 57 then some (some (Value.int (hi 206 (((2 : Int32)).toNatClampNeg))), (mj_hw w c hi hl)) else none := by
  rw [mj_den_eq, f290_92]
  exact zt_iload_n rfl rfl (zt_bipush rfl (zt_icmp_ne rfl rfl (zt_aload_n rfl rfl (zt_getr (mjkd205 _ _ _ _) (mjhr205_1 w c) rfl (zt_iconst rfl (zt_iald (mjkd206 _ _ _ _) (mjln206 _ _ _ _) rfl rfl (zt_ireturn0)))))))
set_option maxRecDepth 100000 in
theorem f290_105 : mj_find (mj_P 290).2.2.2.2 105 = [(.iload_n 1, 1, 0, []), (.bipush 8, 2, 8, []), (.if_icmp .ne 10, 3, 0, [118]), (.aload_n 0, 1, 0, []), (.getfield 7, 3, 0, [12, 1, 3, 1411]), (.iconst 1, 1, 1, []), (.iaload, 1, 0, []), (.ireturn, 1, 0, [0])] := rfl
set_option maxRecDepth 100000 in
theorem q290_105 (E : mj_E) (d w c : Nat) (hi : Nat → Nat → Int32) (hl : Nat → Nat → Int64) (v1 : Int32) : mj_den mj_P E d 290 105 [Value.ref 205, Value.int v1] [] (mj_hw w c hi hl) = if ¬ v1 = (8 : Int32) then mj_den mj_P E d 290 118 [Value.ref 205, Value.int v1] [] (mj_hw w c hi hl) else if 0 ≤ (1 : Int32) ∧ ((1 : Int32)).toNatClampNeg < 57 then some (some (Value.int (hi 206 (((1 : Int32)).toNatClampNeg))), (mj_hw w c hi hl)) else none := by
  rw [mj_den_eq, f290_105]
  exact zt_iload_n rfl rfl (zt_bipush rfl (zt_icmp_ne rfl rfl (zt_aload_n rfl rfl (zt_getr (mjkd205 _ _ _ _) (mjhr205_1 w c) rfl (zt_iconst rfl (zt_iald (mjkd206 _ _ _ _) (mjln206 _ _ _ _) rfl rfl (zt_ireturn0)))))))
set_option maxRecDepth 100000 in
theorem f290_118 : mj_find (mj_P 290).2.2.2.2 118 = [(.iload_n 1, 1, 0, []), (.bipush 9, 2, 9, []), (.if_icmp .ne 10, 3, 0, [131]), (.aload_n 0, 1, 0, []), (.getfield 40, 3, 0, [12, 20, 3, 1430]), (.iconst 0, 1, 0, []), (.iaload, 1, 0, []), (.ireturn, 1, 0, [0])] := rfl
set_option maxRecDepth 100000 in
theorem q290_118 (E : mj_E) (d w c : Nat) (hi : Nat → Nat → Int32) (hl : Nat → Nat → Int64) (v1 : Int32) : mj_den mj_P E d 290 118 [Value.ref 205, Value.int v1] [] (mj_hw w c hi hl) = if ¬ v1 = (9 : Int32) then mj_den mj_P E d 290 131 [Value.ref 205, Value.int v1] [] (mj_hw w c hi hl) else if 0 ≤ (0 : Int32) ∧ ((0 : Int32)).toNatClampNeg < 2 then some (some (Value.int (hi 216 (((0 : Int32)).toNatClampNeg))), (mj_hw w c hi hl)) else none := by
  rw [mj_den_eq, f290_118]
  exact zt_iload_n rfl rfl (zt_bipush rfl (zt_icmp_ne rfl rfl (zt_aload_n rfl rfl (zt_getr (mjkd205 _ _ _ _) (mjhr205_20 w c) rfl (zt_iconst rfl (zt_iald (mjkd216 _ _ _ _) (mjln216 _ _ _ _) rfl rfl (zt_ireturn0)))))))
set_option maxRecDepth 100000 in
theorem f290_131 : mj_find (mj_P 290).2.2.2.2 131 = [(.iload_n 1, 1, 0, []), (.bipush 10, 2, 10, []), (.if_icmp .ne 8, 3, 0, [142]), (.aload_n 0, 1, 0, []), (.getfield 287, 3, 0, [12, 36, 0, 1446]), (.ireturn, 1, 0, [0])] := rfl
set_option maxRecDepth 100000 in
theorem q290_131 (E : mj_E) (d w c : Nat) (hi : Nat → Nat → Int32) (hl : Nat → Nat → Int64) (v1 : Int32) : mj_den mj_P E d 290 131 [Value.ref 205, Value.int v1] [] (mj_hw w c hi hl) = if ¬ v1 = (10 : Int32) then mj_den mj_P E d 290 142 [Value.ref 205, Value.int v1] [] (mj_hw w c hi hl) else some (some (Value.int (hi 205 36)), (mj_hw w c hi hl)) := by
  rw [mj_den_eq, f290_131]
  exact zt_iload_n rfl rfl (zt_bipush rfl (zt_icmp_ne rfl rfl (zt_aload_n rfl rfl (zt_geti (mjkd205 _ _ _ _) rfl rfl (zt_ireturn0)))))
set_option maxRecDepth 100000 in
theorem f290_142 : mj_find (mj_P 290).2.2.2.2 142 = [(.iload_n 1, 1, 0, []), (.bipush 11, 2, 11, []), (.if_icmp .ne 8, 3, 0, [153]), (.aload_n 0, 1, 0, []), (.getfield 290, 3, 0, [12, 38, 0, 1448]), (.ireturn, 1, 0, [0])] := rfl
set_option maxRecDepth 100000 in
theorem q290_142 (E : mj_E) (d w c : Nat) (hi : Nat → Nat → Int32) (hl : Nat → Nat → Int64) (v1 : Int32) : mj_den mj_P E d 290 142 [Value.ref 205, Value.int v1] [] (mj_hw w c hi hl) = if ¬ v1 = (11 : Int32) then mj_den mj_P E d 290 153 [Value.ref 205, Value.int v1] [] (mj_hw w c hi hl) else some (some (Value.int (hi 205 38)), (mj_hw w c hi hl)) := by
  rw [mj_den_eq, f290_142]
  exact zt_iload_n rfl rfl (zt_bipush rfl (zt_icmp_ne rfl rfl (zt_aload_n rfl rfl (zt_geti (mjkd205 _ _ _ _) rfl rfl (zt_ireturn0)))))
set_option maxRecDepth 100000 in
theorem f290_153 : mj_find (mj_P 290).2.2.2.2 153 = [(.iload_n 1, 1, 0, []), (.bipush 12, 2, 12, []), (.if_icmp .ne 8, 3, 0, [164]), (.aload_n 0, 1, 0, []), (.getfield 293, 3, 0, [12, 40, 0, 1450]), (.ireturn, 1, 0, [0])] := rfl
set_option maxRecDepth 100000 in
theorem q290_153 (E : mj_E) (d w c : Nat) (hi : Nat → Nat → Int32) (hl : Nat → Nat → Int64) (v1 : Int32) : mj_den mj_P E d 290 153 [Value.ref 205, Value.int v1] [] (mj_hw w c hi hl) = if ¬ v1 = (12 : Int32) then mj_den mj_P E d 290 164 [Value.ref 205, Value.int v1] [] (mj_hw w c hi hl) else some (some (Value.int (hi 205 40)), (mj_hw w c hi hl)) := by
  rw [mj_den_eq, f290_153]
  exact zt_iload_n rfl rfl (zt_bipush rfl (zt_icmp_ne rfl rfl (zt_aload_n rfl rfl (zt_geti (mjkd205 _ _ _ _) rfl rfl (zt_ireturn0)))))
set_option maxRecDepth 100000 in
theorem f290_164 : mj_find (mj_P 290).2.2.2.2 164 = [(.iload_n 1, 1, 0, []), (.bipush 13, 2, 13, []), (.if_icmp .ne 10, 3, 0, [177]), (.aload_n 0, 1, 0, []), (.getfield 125, 3, 0, [12, 3, 0, 1413]), (.goto 4, 3, 0, [178])] := rfl
set_option maxRecDepth 100000 in
theorem q290_164 (E : mj_E) (d w c : Nat) (hi : Nat → Nat → Int32) (hl : Nat → Nat → Int64) (v1 : Int32) : mj_den mj_P E d 290 164 [Value.ref 205, Value.int v1] [] (mj_hw w c hi hl) = if ¬ v1 = (13 : Int32) then mj_den mj_P E d 290 177 [Value.ref 205, Value.int v1] [] (mj_hw w c hi hl) else mj_den mj_P E d 290 178 [Value.ref 205, Value.int v1] [Value.int (hi 205 3)] (mj_hw w c hi hl) := by
  rw [mj_den_eq, f290_164]
  exact zt_iload_n rfl rfl (zt_bipush rfl (zt_icmp_ne rfl rfl (zt_aload_n rfl rfl (zt_geti (mjkd205 _ _ _ _) rfl rfl (zt_goto rfl)))))
set_option maxRecDepth 100000 in
theorem f290_177 : mj_find (mj_P 290).2.2.2.2 177 = [(.iconst (-1), 1, (-1), [])] := rfl
set_option maxRecDepth 100000 in
theorem q290_177 (E : mj_E) (d w c : Nat) (hi : Nat → Nat → Int32) (hl : Nat → Nat → Int64) (v1 : Int32) : mj_den mj_P E d 290 177 [Value.ref 205, Value.int v1] [] (mj_hw w c hi hl) = mj_den mj_P E d 290 178 [Value.ref 205, Value.int v1] [Value.int (-1 : Int32)] (mj_hw w c hi hl) := by
  rw [mj_den_eq, f290_177]
  exact zt_iconst rfl (zt_end rfl)
set_option maxRecDepth 100000 in
theorem f290_178 : mj_find (mj_P 290).2.2.2.2 178 = [(.ireturn, 1, 0, [0])] := rfl
set_option maxRecDepth 100000 in
theorem q290_178 (E : mj_E) (d w c : Nat) (hi : Nat → Nat → Int32) (hl : Nat → Nat → Int64) (v1 : Int32) (s0 : Int32) : mj_den mj_P E d 290 178 [Value.ref 205, Value.int v1] [Value.int s0] (mj_hw w c hi hl) = some (some (Value.int s0), (mj_hw w c hi hl)) := by
  rw [mj_den_eq, f290_178]
  exact zt_ireturn0
set_option maxRecDepth 100000 in
theorem f291_0 : mj_find (mj_P 291).2.2.2.2 0 = [(.iload_n 0, 1, 0, []), (.ifCond .gt 14, 3, 0, [15]), (.iload_n 0, 1, 0, []), (.ifCond .ne 8, 3, 0, [13]), (.bipush 32, 2, 32, []), (.goto 4, 3, 0, [14])] := rfl
set_option maxRecDepth 100000 in
theorem q291_0 (E : mj_E) (d w c : Nat) (hi : Nat → Nat → Int32) (hl : Nat → Nat → Int64) (v0 : Int32) : mj_den mj_P E d 291 0 [Value.int v0, Value.float 0] [] (mj_hw w c hi hl) = if 0 < v0 then mj_den mj_P E d 291 15 [Value.int v0, Value.float 0] [] (mj_hw w c hi hl) else if ¬ v0 = 0 then mj_den mj_P E d 291 13 [Value.int v0, Value.float 0] [] (mj_hw w c hi hl) else mj_den mj_P E d 291 14 [Value.int v0, Value.float 0] [Value.int (32 : Int32)] (mj_hw w c hi hl) := by
  rw [mj_den_eq, f291_0]
  exact zt_iload_n rfl rfl (zt_if_gt rfl rfl (zt_iload_n rfl rfl (zt_if_ne rfl rfl (zt_bipush rfl (zt_goto rfl)))))
set_option maxRecDepth 100000 in
theorem f291_13 : mj_find (mj_P 291).2.2.2.2 13 = [(.iconst 0, 1, 0, [])] := rfl
set_option maxRecDepth 100000 in
theorem q291_13 (E : mj_E) (d w c : Nat) (hi : Nat → Nat → Int32) (hl : Nat → Nat → Int64) (v0 : Int32) : mj_den mj_P E d 291 13 [Value.int v0, Value.float 0] [] (mj_hw w c hi hl) = mj_den mj_P E d 291 14 [Value.int v0, Value.float 0] [Value.int (0 : Int32)] (mj_hw w c hi hl) := by
  rw [mj_den_eq, f291_13]
  exact zt_iconst rfl (zt_end rfl)
set_option maxRecDepth 100000 in
theorem f291_14 : mj_find (mj_P 291).2.2.2.2 14 = [(.ireturn, 1, 0, [0])] := rfl
set_option maxRecDepth 100000 in
theorem q291_14 (E : mj_E) (d w c : Nat) (hi : Nat → Nat → Int32) (hl : Nat → Nat → Int64) (v0 : Int32) (s0 : Int32) : mj_den mj_P E d 291 14 [Value.int v0, Value.float 0] [Value.int s0] (mj_hw w c hi hl) = some (some (Value.int s0), (mj_hw w c hi hl)) := by
  rw [mj_den_eq, f291_14]
  exact zt_ireturn0
set_option maxRecDepth 100000 in
theorem f291_15 : mj_find (mj_P 291).2.2.2.2 15 = [(.bipush 31, 2, 31, []), (.istore_n 1, 1, 0, []), (.iload_n 0, 1, 0, []), (.ldc_w 264, 3, 65536, [0, 632]), (.if_icmp .lt 11, 3, 0, [33]), (.iinc 1 (-16), 3, (-16), []), (.iload_n 0, 1, 0, []), (.bipush 16, 2, 16, []), (.iushr, 1, 0, []), (.istore_n 0, 1, 0, [])] := rfl
set_option maxRecDepth 100000 in
theorem q291_15 (E : mj_E) (d w c : Nat) (hi : Nat → Nat → Int32) (hl : Nat → Nat → Int64) (v0 : Int32) : mj_den mj_P E d 291 15 [Value.int v0, Value.float 0] [] (mj_hw w c hi hl) = if v0 < (65536 : Int32) then mj_den mj_P E d 291 33 [Value.int v0, Value.int (31 : Int32)] [] (mj_hw w c hi hl) else mj_den mj_P E d 291 33 [Value.int (mj_ush v0 (16 : Int32)), Value.int ((31 : Int32) + (-16 : Int32))] [] (mj_hw w c hi hl) := by
  rw [mj_den_eq, f291_15]
  exact zt_bipush rfl (zt_istore_n (Nat.le_of_ble_eq_true rfl) rfl rfl (zt_iload_n rfl rfl (zt_ldc_w rfl (zt_icmp_lt rfl rfl (zt_iinc rfl (Nat.le_of_ble_eq_true rfl) rfl rfl (zt_iload_n rfl rfl (zt_bipush rfl (zt_iushr rfl (zt_istore_n (Nat.le_of_ble_eq_true rfl) rfl rfl (zt_end rfl))))))))))
set_option maxRecDepth 100000 in
theorem f291_33 : mj_find (mj_P 291).2.2.2.2 33 = [(.iload_n 0, 1, 0, []), (.sipush 256, 3, 256, []), (.if_icmp .lt 11, 3, 0, [48]), (.iinc 1 (-8), 3, (-8), []), (.iload_n 0, 1, 0, []), (.bipush 8, 2, 8, []), (.iushr, 1, 0, []), (.istore_n 0, 1, 0, [])] := rfl
set_option maxRecDepth 100000 in
theorem q291_33 (E : mj_E) (d w c : Nat) (hi : Nat → Nat → Int32) (hl : Nat → Nat → Int64) (v0 : Int32) (v1 : Int32) : mj_den mj_P E d 291 33 [Value.int v0, Value.int v1] [] (mj_hw w c hi hl) = if v0 < (256 : Int32) then mj_den mj_P E d 291 48 [Value.int v0, Value.int v1] [] (mj_hw w c hi hl) else mj_den mj_P E d 291 48 [Value.int (mj_ush v0 (8 : Int32)), Value.int (v1 + (-8 : Int32))] [] (mj_hw w c hi hl) := by
  rw [mj_den_eq, f291_33]
  exact zt_iload_n rfl rfl (zt_sipush rfl (zt_icmp_lt rfl rfl (zt_iinc rfl (Nat.le_of_ble_eq_true rfl) rfl rfl (zt_iload_n rfl rfl (zt_bipush rfl (zt_iushr rfl (zt_istore_n (Nat.le_of_ble_eq_true rfl) rfl rfl (zt_end rfl))))))))
set_option maxRecDepth 100000 in
theorem f291_48 : mj_find (mj_P 291).2.2.2.2 48 = [(.iload_n 0, 1, 0, []), (.bipush 16, 2, 16, []), (.if_icmp .lt 10, 3, 0, [61]), (.iinc 1 (-4), 3, (-4), []), (.iload_n 0, 1, 0, []), (.iconst 4, 1, 4, []), (.iushr, 1, 0, []), (.istore_n 0, 1, 0, [])] := rfl
set_option maxRecDepth 100000 in
theorem q291_48 (E : mj_E) (d w c : Nat) (hi : Nat → Nat → Int32) (hl : Nat → Nat → Int64) (v0 : Int32) (v1 : Int32) : mj_den mj_P E d 291 48 [Value.int v0, Value.int v1] [] (mj_hw w c hi hl) = if v0 < (16 : Int32) then mj_den mj_P E d 291 61 [Value.int v0, Value.int v1] [] (mj_hw w c hi hl) else mj_den mj_P E d 291 61 [Value.int (mj_ush v0 (4 : Int32)), Value.int (v1 + (-4 : Int32))] [] (mj_hw w c hi hl) := by
  rw [mj_den_eq, f291_48]
  exact zt_iload_n rfl rfl (zt_bipush rfl (zt_icmp_lt rfl rfl (zt_iinc rfl (Nat.le_of_ble_eq_true rfl) rfl rfl (zt_iload_n rfl rfl (zt_iconst rfl (zt_iushr rfl (zt_istore_n (Nat.le_of_ble_eq_true rfl) rfl rfl (zt_end rfl))))))))
set_option maxRecDepth 100000 in
theorem f291_61 : mj_find (mj_P 291).2.2.2.2 61 = [(.iload_n 0, 1, 0, []), (.iconst 4, 1, 4, []), (.if_icmp .lt 10, 3, 0, [73]), (.iinc 1 (-2), 3, (-2), []), (.iload_n 0, 1, 0, []), (.iconst 2, 1, 2, []), (.iushr, 1, 0, []), (.istore_n 0, 1, 0, [])] := rfl
set_option maxRecDepth 100000 in
theorem q291_61 (E : mj_E) (d w c : Nat) (hi : Nat → Nat → Int32) (hl : Nat → Nat → Int64) (v0 : Int32) (v1 : Int32) : mj_den mj_P E d 291 61 [Value.int v0, Value.int v1] [] (mj_hw w c hi hl) = if v0 < (4 : Int32) then mj_den mj_P E d 291 73 [Value.int v0, Value.int v1] [] (mj_hw w c hi hl) else mj_den mj_P E d 291 73 [Value.int (mj_ush v0 (2 : Int32)), Value.int (v1 + (-2 : Int32))] [] (mj_hw w c hi hl) := by
  rw [mj_den_eq, f291_61]
  exact zt_iload_n rfl rfl (zt_iconst rfl (zt_icmp_lt rfl rfl (zt_iinc rfl (Nat.le_of_ble_eq_true rfl) rfl rfl (zt_iload_n rfl rfl (zt_iconst rfl (zt_iushr rfl (zt_istore_n (Nat.le_of_ble_eq_true rfl) rfl rfl (zt_end rfl))))))))
set_option maxRecDepth 100000 in
theorem f291_73 : mj_find (mj_P 291).2.2.2.2 73 = [(.iload_n 1, 1, 0, []), (.iload_n 0, 1, 0, []), (.iconst 1, 1, 1, []), (.iushr, 1, 0, []), (.isub, 1, 0, []), (.ireturn, 1, 0, [0])] := rfl
set_option maxRecDepth 100000 in
theorem q291_73 (E : mj_E) (d w c : Nat) (hi : Nat → Nat → Int32) (hl : Nat → Nat → Int64) (v0 : Int32) (v1 : Int32) : mj_den mj_P E d 291 73 [Value.int v0, Value.int v1] [] (mj_hw w c hi hl) = some (some (Value.int (v1 - (mj_ush v0 (1 : Int32)))), (mj_hw w c hi hl)) := by
  rw [mj_den_eq, f291_73]
  exact zt_iload_n rfl rfl (zt_iload_n rfl rfl (zt_iconst rfl (zt_iushr rfl (zt_isub rfl (zt_ireturn0)))))
set_option maxRecDepth 100000 in
theorem f292_0 : mj_find (mj_P 292).2.2.2.2 0 = [(.iload_n 0, 1, 0, []), (.iconst (-1), 1, (-1), []), (.ixor, 1, 0, []), (.iload_n 0, 1, 0, []), (.iconst 1, 1, 1, []), (.isub, 1, 0, []), (.iand, 1, 0, []), (.istore_n 0, 1, 0, []), (.iload_n 0, 1, 0, []), (.ifCond .gt 8, 3, 0, [17]), (.iload_n 0, 1, 0, []), (.bipush 32, 2, 32, []), (.iand, 1, 0, []), (.ireturn, 1, 0, [0])] := rfl
set_option maxRecDepth 100000 in
theorem q292_0 (E : mj_E) (d w c : Nat) (hi : Nat → Nat → Int32) (hl : Nat → Nat → Int64) (v0 : Int32) : mj_den mj_P E d 292 0 [Value.int v0, Value.float 0] [] (mj_hw w c hi hl) = if 0 < ((v0 ^^^ (-1 : Int32)) &&& (v0 - (1 : Int32))) then mj_den mj_P E d 292 17 [Value.int ((v0 ^^^ (-1 : Int32)) &&& (v0 - (1 : Int32))), Value.float 0] [] (mj_hw w c hi hl) else some (some (Value.int (((v0 ^^^ (-1 : Int32)) &&& (v0 - (1 : Int32))) &&& (32 : Int32))), (mj_hw w c hi hl)) := by
  rw [mj_den_eq, f292_0]
  exact zt_iload_n rfl rfl (zt_iconst rfl (zt_ixor rfl (zt_iload_n rfl rfl (zt_iconst rfl (zt_isub rfl (zt_iand rfl (zt_istore_n (Nat.le_of_ble_eq_true rfl) rfl rfl (zt_iload_n rfl rfl (zt_if_gt rfl rfl (zt_iload_n rfl rfl (zt_bipush rfl (zt_iand rfl (zt_ireturn0)))))))))))))
set_option maxRecDepth 100000 in
theorem f292_17 : mj_find (mj_P 292).2.2.2.2 17 = [(.iconst 1, 1, 1, []), (.istore_n 1, 1, 0, []), (.iload_n 0, 1, 0, []), (.ldc_w 264, 3, 65536, [0, 632]), (.if_icmp .le 11, 3, 0, [34]), (.iinc 1 16, 3, 16, []), (.iload_n 0, 1, 0, []), (.bipush 16, 2, 16, []), (.iushr, 1, 0, []), (.istore_n 0, 1, 0, [])] := rfl
set_option maxRecDepth 100000 in
theorem q292_17 (E : mj_E) (d w c : Nat) (hi : Nat → Nat → Int32) (hl : Nat → Nat → Int64) (v0 : Int32) : mj_den mj_P E d 292 17 [Value.int v0, Value.float 0] [] (mj_hw w c hi hl) = if v0 ≤ (65536 : Int32) then mj_den mj_P E d 292 34 [Value.int v0, Value.int (1 : Int32)] [] (mj_hw w c hi hl) else mj_den mj_P E d 292 34 [Value.int (mj_ush v0 (16 : Int32)), Value.int ((1 : Int32) + (16 : Int32))] [] (mj_hw w c hi hl) := by
  rw [mj_den_eq, f292_17]
  exact zt_iconst rfl (zt_istore_n (Nat.le_of_ble_eq_true rfl) rfl rfl (zt_iload_n rfl rfl (zt_ldc_w rfl (zt_icmp_le rfl rfl (zt_iinc rfl (Nat.le_of_ble_eq_true rfl) rfl rfl (zt_iload_n rfl rfl (zt_bipush rfl (zt_iushr rfl (zt_istore_n (Nat.le_of_ble_eq_true rfl) rfl rfl (zt_end rfl))))))))))
set_option maxRecDepth 100000 in
theorem f292_34 : mj_find (mj_P 292).2.2.2.2 34 = [(.iload_n 0, 1, 0, []), (.sipush 256, 3, 256, []), (.if_icmp .le 11, 3, 0, [49]), (.iinc 1 8, 3, 8, []), (.iload_n 0, 1, 0, []), (.bipush 8, 2, 8, []), (.iushr, 1, 0, []), (.istore_n 0, 1, 0, [])] := rfl
set_option maxRecDepth 100000 in
theorem q292_34 (E : mj_E) (d w c : Nat) (hi : Nat → Nat → Int32) (hl : Nat → Nat → Int64) (v0 : Int32) (v1 : Int32) : mj_den mj_P E d 292 34 [Value.int v0, Value.int v1] [] (mj_hw w c hi hl) = if v0 ≤ (256 : Int32) then mj_den mj_P E d 292 49 [Value.int v0, Value.int v1] [] (mj_hw w c hi hl) else mj_den mj_P E d 292 49 [Value.int (mj_ush v0 (8 : Int32)), Value.int (v1 + (8 : Int32))] [] (mj_hw w c hi hl) := by
  rw [mj_den_eq, f292_34]
  exact zt_iload_n rfl rfl (zt_sipush rfl (zt_icmp_le rfl rfl (zt_iinc rfl (Nat.le_of_ble_eq_true rfl) rfl rfl (zt_iload_n rfl rfl (zt_bipush rfl (zt_iushr rfl (zt_istore_n (Nat.le_of_ble_eq_true rfl) rfl rfl (zt_end rfl))))))))
set_option maxRecDepth 100000 in
theorem f292_49 : mj_find (mj_P 292).2.2.2.2 49 = [(.iload_n 0, 1, 0, []), (.bipush 16, 2, 16, []), (.if_icmp .le 10, 3, 0, [62]), (.iinc 1 4, 3, 4, []), (.iload_n 0, 1, 0, []), (.iconst 4, 1, 4, []), (.iushr, 1, 0, []), (.istore_n 0, 1, 0, [])] := rfl
set_option maxRecDepth 100000 in
theorem q292_49 (E : mj_E) (d w c : Nat) (hi : Nat → Nat → Int32) (hl : Nat → Nat → Int64) (v0 : Int32) (v1 : Int32) : mj_den mj_P E d 292 49 [Value.int v0, Value.int v1] [] (mj_hw w c hi hl) = if v0 ≤ (16 : Int32) then mj_den mj_P E d 292 62 [Value.int v0, Value.int v1] [] (mj_hw w c hi hl) else mj_den mj_P E d 292 62 [Value.int (mj_ush v0 (4 : Int32)), Value.int (v1 + (4 : Int32))] [] (mj_hw w c hi hl) := by
  rw [mj_den_eq, f292_49]
  exact zt_iload_n rfl rfl (zt_bipush rfl (zt_icmp_le rfl rfl (zt_iinc rfl (Nat.le_of_ble_eq_true rfl) rfl rfl (zt_iload_n rfl rfl (zt_iconst rfl (zt_iushr rfl (zt_istore_n (Nat.le_of_ble_eq_true rfl) rfl rfl (zt_end rfl))))))))
set_option maxRecDepth 100000 in
theorem f292_62 : mj_find (mj_P 292).2.2.2.2 62 = [(.iload_n 0, 1, 0, []), (.iconst 4, 1, 4, []), (.if_icmp .le 10, 3, 0, [74]), (.iinc 1 2, 3, 2, []), (.iload_n 0, 1, 0, []), (.iconst 2, 1, 2, []), (.iushr, 1, 0, []), (.istore_n 0, 1, 0, [])] := rfl
set_option maxRecDepth 100000 in
theorem q292_62 (E : mj_E) (d w c : Nat) (hi : Nat → Nat → Int32) (hl : Nat → Nat → Int64) (v0 : Int32) (v1 : Int32) : mj_den mj_P E d 292 62 [Value.int v0, Value.int v1] [] (mj_hw w c hi hl) = if v0 ≤ (4 : Int32) then mj_den mj_P E d 292 74 [Value.int v0, Value.int v1] [] (mj_hw w c hi hl) else mj_den mj_P E d 292 74 [Value.int (mj_ush v0 (2 : Int32)), Value.int (v1 + (2 : Int32))] [] (mj_hw w c hi hl) := by
  rw [mj_den_eq, f292_62]
  exact zt_iload_n rfl rfl (zt_iconst rfl (zt_icmp_le rfl rfl (zt_iinc rfl (Nat.le_of_ble_eq_true rfl) rfl rfl (zt_iload_n rfl rfl (zt_iconst rfl (zt_iushr rfl (zt_istore_n (Nat.le_of_ble_eq_true rfl) rfl rfl (zt_end rfl))))))))
set_option maxRecDepth 100000 in
theorem f292_74 : mj_find (mj_P 292).2.2.2.2 74 = [(.iload_n 1, 1, 0, []), (.iload_n 0, 1, 0, []), (.iconst 1, 1, 1, []), (.iushr, 1, 0, []), (.iadd, 1, 0, []), (.ireturn, 1, 0, [0])] := rfl
set_option maxRecDepth 100000 in
theorem q292_74 (E : mj_E) (d w c : Nat) (hi : Nat → Nat → Int32) (hl : Nat → Nat → Int64) (v0 : Int32) (v1 : Int32) : mj_den mj_P E d 292 74 [Value.int v0, Value.int v1] [] (mj_hw w c hi hl) = some (some (Value.int (v1 + (mj_ush v0 (1 : Int32)))), (mj_hw w c hi hl)) := by
  rw [mj_den_eq, f292_74]
  exact zt_iload_n rfl rfl (zt_iload_n rfl rfl (zt_iconst rfl (zt_iushr rfl (zt_iadd rfl (zt_ireturn0)))))
set_option maxRecDepth 100000 in
theorem f293_0 : mj_find (mj_P 293).2.2.2.2 0 = [(.iload_n 0, 1, 0, []), (.iload_n 0, 1, 0, []), (.iconst 1, 1, 1, []), (.iushr, 1, 0, []), (.ldc_w 265, 3, 1431655765, [0, 746]), (.iand, 1, 0, []), (.isub, 1, 0, []), (.istore_n 0, 1, 0, []), (.iload_n 0, 1, 0, []), (.ldc_w 266, 3, 858993459, [0, 747]), (.iand, 1, 0, []), (.iload_n 0, 1, 0, []), (.iconst 2, 1, 2, []), (.iushr, 1, 0, []), (.ldc_w 266, 3, 858993459, [0, 747]), (.iand, 1, 0, []), (.iadd, 1, 0, []), (.istore_n 0, 1, 0, []), (.iload_n 0, 1, 0, []), (.iload_n 0, 1, 0, []), (.iconst 4, 1, 4, []), (.iushr, 1, 0, []), (.iadd, 1, 0, []), (.ldc_w 267, 3, 252645135, [0, 748]), (.iand, 1, 0, []), (.istore_n 0, 1, 0, []), (.iload_n 0, 1, 0, []), (.iload_n 0, 1, 0, []), (.bipush 8, 2, 8, []), (.iushr, 1, 0, []), (.iadd, 1, 0, []), (.istore_n 0, 1, 0, []), (.iload_n 0, 1, 0, []), (.iload_n 0, 1, 0, []), (.bipush 16, 2, 16, []), (.iushr, 1, 0, []), (.iadd, 1, 0, []), (.istore_n 0, 1, 0, []), (.iload_n 0, 1, 0, []), (.bipush 63, 2, 63, []), (.iand, 1, 0, []), (.ireturn, 1, 0, [0])] := rfl
set_option maxRecDepth 100000 in
theorem q293_0 (E : mj_E) (d w c : Nat) (hi : Nat → Nat → Int32) (hl : Nat → Nat → Int64) (v0 : Int32) : mj_den mj_P E d 293 0 [Value.int v0] [] (mj_hw w c hi hl) = some (some (Value.int ((((((((v0 - ((mj_ush v0 (1 : Int32)) &&& (1431655765 : Int32))) &&& (858993459 : Int32)) + ((mj_ush (v0 - ((mj_ush v0 (1 : Int32)) &&& (1431655765 : Int32))) (2 : Int32)) &&& (858993459 : Int32))) + (mj_ush (((v0 - ((mj_ush v0 (1 : Int32)) &&& (1431655765 : Int32))) &&& (858993459 : Int32)) + ((mj_ush (v0 - ((mj_ush v0 (1 : Int32)) &&& (1431655765 : Int32))) (2 : Int32)) &&& (858993459 : Int32))) (4 : Int32))) &&& (252645135 : Int32)) + (mj_ush (((((v0 - ((mj_ush v0 (1 : Int32)) &&& (1431655765 : Int32))) &&& (858993459 : Int32)) + ((mj_ush (v0 - ((mj_ush v0 (1 : Int32)) &&& (1431655765 : Int32))) (2 : Int32)) &&& (858993459 : Int32))) + (mj_ush (((v0 - ((mj_ush v0 (1 : Int32)) &&& (1431655765 : Int32))) &&& (858993459 : Int32)) + ((mj_ush (v0 - ((mj_ush v0 (1 : Int32)) &&& (1431655765 : Int32))) (2 : Int32)) &&& (858993459 : Int32))) (4 : Int32))) &&& (252645135 : Int32)) (8 : Int32))) + (mj_ush ((((((v0 - ((mj_ush v0 (1 : Int32)) &&& (1431655765 : Int32))) &&& (858993459 : Int32)) + ((mj_ush (v0 - ((mj_ush v0 (1 : Int32)) &&& (1431655765 : Int32))) (2 : Int32)) &&& (858993459 : Int32))) + (mj_ush (((v0 - ((mj_ush v0 (1 : Int32)) &&& (1431655765 : Int32))) &&& (858993459 : Int32)) + ((mj_ush (v0 - ((mj_ush v0 (1 : Int32)) &&& (1431655765 : Int32))) (2 : Int32)) &&& (858993459 : Int32))) (4 : Int32))) &&& (252645135 : Int32)) + (mj_ush (((((v0 - ((mj_ush v0 (1 : Int32)) &&& (1431655765 : Int32))) &&& (858993459 : Int32)) + ((mj_ush (v0 - ((mj_ush v0 (1 : Int32)) &&& (1431655765 : Int32))) (2 : Int32)) &&& (858993459 : Int32))) + (mj_ush (((v0 - ((mj_ush v0 (1 : Int32)) &&& (1431655765 : Int32))) &&& (858993459 : Int32)) + ((mj_ush (v0 - ((mj_ush v0 (1 : Int32)) &&& (1431655765 : Int32))) (2 : Int32)) &&& (858993459 : Int32))) (4 : Int32))) &&& (252645135 : Int32)) (8 : Int32))) (16 : Int32))) &&& (63 : Int32))), (mj_hw w c hi hl)) := by
  rw [mj_den_eq, f293_0]
  exact zt_iload_n rfl rfl (zt_iload_n rfl rfl (zt_iconst rfl (zt_iushr rfl (zt_ldc_w rfl (zt_iand rfl (zt_isub rfl (zt_istore_n (Nat.le_of_ble_eq_true rfl) rfl rfl (zt_iload_n rfl rfl (zt_ldc_w rfl (zt_iand rfl (zt_iload_n rfl rfl (zt_iconst rfl (zt_iushr rfl (zt_ldc_w rfl (zt_iand rfl (zt_iadd rfl (zt_istore_n (Nat.le_of_ble_eq_true rfl) rfl rfl (zt_iload_n rfl rfl (zt_iload_n rfl rfl (zt_iconst rfl (zt_iushr rfl (zt_iadd rfl (zt_ldc_w rfl (zt_iand rfl (zt_istore_n (Nat.le_of_ble_eq_true rfl) rfl rfl (zt_iload_n rfl rfl (zt_iload_n rfl rfl (zt_bipush rfl (zt_iushr rfl (zt_iadd rfl (zt_istore_n (Nat.le_of_ble_eq_true rfl) rfl rfl (zt_iload_n rfl rfl (zt_iload_n rfl rfl (zt_bipush rfl (zt_iushr rfl (zt_iadd rfl (zt_istore_n (Nat.le_of_ble_eq_true rfl) rfl rfl (zt_iload_n rfl rfl (zt_bipush rfl (zt_iand rfl (zt_ireturn0)))))))))))))))))))))))))))))))))))))))))
set_option maxRecDepth 100000 in
theorem f294_0 : mj_find (mj_P 294).2.2.2.2 0 = [(.lload_n 0, 1, 0, []), (.lload_n 0, 1, 0, []), (.iconst 1, 1, 1, []), (.lushr, 1, 0, []), (.ldc2_w 314, 3, 0, [6148914691236517205, 1272]), (.land, 1, 0, []), (.lsub, 1, 0, []), (.lstore_n 0, 1, 0, []), (.lload_n 0, 1, 0, []), (.ldc2_w 316, 3, 0, [3689348814741910323, 1273]), (.land, 1, 0, []), (.lload_n 0, 1, 0, []), (.iconst 2, 1, 2, []), (.lushr, 1, 0, []), (.ldc2_w 316, 3, 0, [3689348814741910323, 1273]), (.land, 1, 0, []), (.ladd, 1, 0, []), (.lstore_n 0, 1, 0, []), (.lload_n 0, 1, 0, []), (.lload_n 0, 1, 0, []), (.iconst 4, 1, 4, []), (.lushr, 1, 0, []), (.ladd, 1, 0, []), (.ldc2_w 318, 3, 0, [1085102592571150095, 1274]), (.land, 1, 0, []), (.lstore_n 0, 1, 0, []), (.lload_n 0, 1, 0, []), (.lload_n 0, 1, 0, []), (.bipush 8, 2, 8, []), (.lushr, 1, 0, []), (.ladd, 1, 0, []), (.lstore_n 0, 1, 0, []), (.lload_n 0, 1, 0, []), (.lload_n 0, 1, 0, []), (.bipush 16, 2, 16, []), (.lushr, 1, 0, []), (.ladd, 1, 0, []), (.lstore_n 0, 1, 0, []), (.lload_n 0, 1, 0, []), (.lload_n 0, 1, 0, []), (.bipush 32, 2, 32, []), (.lushr, 1, 0, []), (.ladd, 1, 0, []), (.lstore_n 0, 1, 0, []), (.lload_n 0, 1, 0, []), (.l2i, 1, 0, []), (.bipush 127, 2, 127, []), (.iand, 1, 0, []), (.ireturn, 1, 0, [0])] := rfl
set_option maxRecDepth 100000 in
theorem q294_0 (E : mj_E) (d w c : Nat) (hi : Nat → Nat → Int32) (hl : Nat → Nat → Int64) (v0 : Int64) : mj_den mj_P E d 294 0 [Value.long v0, Value.float 0] [] (mj_hw w c hi hl) = some (some (Value.int ((((((((((v0 - ((mj_lush v0 (1 : Int32)) &&& (Int64.ofNat 6148914691236517205))) &&& (Int64.ofNat 3689348814741910323)) + ((mj_lush (v0 - ((mj_lush v0 (1 : Int32)) &&& (Int64.ofNat 6148914691236517205))) (2 : Int32)) &&& (Int64.ofNat 3689348814741910323))) + (mj_lush (((v0 - ((mj_lush v0 (1 : Int32)) &&& (Int64.ofNat 6148914691236517205))) &&& (Int64.ofNat 3689348814741910323)) + ((mj_lush (v0 - ((mj_lush v0 (1 : Int32)) &&& (Int64.ofNat 6148914691236517205))) (2 : Int32)) &&& (Int64.ofNat 3689348814741910323))) (4 : Int32))) &&& (Int64.ofNat 1085102592571150095)) + (mj_lush (((((v0 - ((mj_lush v0 (1 : Int32)) &&& (Int64.ofNat 6148914691236517205))) &&& (Int64.ofNat 3689348814741910323)) + ((mj_lush (v0 - ((mj_lush v0 (1 : Int32)) &&& (Int64.ofNat 6148914691236517205))) (2 : Int32)) &&& (Int64.ofNat 3689348814741910323))) + (mj_lush (((v0 - ((mj_lush v0 (1 : Int32)) &&& (Int64.ofNat 6148914691236517205))) &&& (Int64.ofNat 3689348814741910323)) + ((mj_lush (v0 - ((mj_lush v0 (1 : Int32)) &&& (Int64.ofNat 6148914691236517205))) (2 : Int32)) &&& (Int64.ofNat 3689348814741910323))) (4 : Int32))) &&& (Int64.ofNat 1085102592571150095)) (8 : Int32))) + (mj_lush ((((((v0 - ((mj_lush v0 (1 : Int32)) &&& (Int64.ofNat 6148914691236517205))) &&& (Int64.ofNat 3689348814741910323)) + ((mj_lush (v0 - ((mj_lush v0 (1 : Int32)) &&& (Int64.ofNat 6148914691236517205))) (2 : Int32)) &&& (Int64.ofNat 3689348814741910323))) + (mj_lush (((v0 - ((mj_lush v0 (1 : Int32)) &&& (Int64.ofNat 6148914691236517205))) &&& (Int64.ofNat 3689348814741910323)) + ((mj_lush (v0 - ((mj_lush v0 (1 : Int32)) &&& (Int64.ofNat 6148914691236517205))) (2 : Int32)) &&& (Int64.ofNat 3689348814741910323))) (4 : Int32))) &&& (Int64.ofNat 1085102592571150095)) + (mj_lush (((((v0 - ((mj_lush v0 (1 : Int32)) &&& (Int64.ofNat 6148914691236517205))) &&& (Int64.ofNat 3689348814741910323)) + ((mj_lush (v0 - ((mj_lush v0 (1 : Int32)) &&& (Int64.ofNat 6148914691236517205))) (2 : Int32)) &&& (Int64.ofNat 3689348814741910323))) + (mj_lush (((v0 - ((mj_lush v0 (1 : Int32)) &&& (Int64.ofNat 6148914691236517205))) &&& (Int64.ofNat 3689348814741910323)) + ((mj_lush (v0 - ((mj_lush v0 (1 : Int32)) &&& (Int64.ofNat 6148914691236517205))) (2 : Int32)) &&& (Int64.ofNat 3689348814741910323))) (4 : Int32))) &&& (Int64.ofNat 1085102592571150095)) (8 : Int32))) (16 : Int32))) + (mj_lush (((((((v0 - ((mj_lush v0 (1 : Int32)) &&& (Int64.ofNat 6148914691236517205))) &&& (Int64.ofNat 3689348814741910323)) + ((mj_lush (v0 - ((mj_lush v0 (1 : Int32)) &&& (Int64.ofNat 6148914691236517205))) (2 : Int32)) &&& (Int64.ofNat 3689348814741910323))) + (mj_lush (((v0 - ((mj_lush v0 (1 : Int32)) &&& (Int64.ofNat 6148914691236517205))) &&& (Int64.ofNat 3689348814741910323)) + ((mj_lush (v0 - ((mj_lush v0 (1 : Int32)) &&& (Int64.ofNat 6148914691236517205))) (2 : Int32)) &&& (Int64.ofNat 3689348814741910323))) (4 : Int32))) &&& (Int64.ofNat 1085102592571150095)) + (mj_lush (((((v0 - ((mj_lush v0 (1 : Int32)) &&& (Int64.ofNat 6148914691236517205))) &&& (Int64.ofNat 3689348814741910323)) + ((mj_lush (v0 - ((mj_lush v0 (1 : Int32)) &&& (Int64.ofNat 6148914691236517205))) (2 : Int32)) &&& (Int64.ofNat 3689348814741910323))) + (mj_lush (((v0 - ((mj_lush v0 (1 : Int32)) &&& (Int64.ofNat 6148914691236517205))) &&& (Int64.ofNat 3689348814741910323)) + ((mj_lush (v0 - ((mj_lush v0 (1 : Int32)) &&& (Int64.ofNat 6148914691236517205))) (2 : Int32)) &&& (Int64.ofNat 3689348814741910323))) (4 : Int32))) &&& (Int64.ofNat 1085102592571150095)) (8 : Int32))) + (mj_lush ((((((v0 - ((mj_lush v0 (1 : Int32)) &&& (Int64.ofNat 6148914691236517205))) &&& (Int64.ofNat 3689348814741910323)) + ((mj_lush (v0 - ((mj_lush v0 (1 : Int32)) &&& (Int64.ofNat 6148914691236517205))) (2 : Int32)) &&& (Int64.ofNat 3689348814741910323))) + (mj_lush (((v0 - ((mj_lush v0 (1 : Int32)) &&& (Int64.ofNat 6148914691236517205))) &&& (Int64.ofNat 3689348814741910323)) + ((mj_lush (v0 - ((mj_lush v0 (1 : Int32)) &&& (Int64.ofNat 6148914691236517205))) (2 : Int32)) &&& (Int64.ofNat 3689348814741910323))) (4 : Int32))) &&& (Int64.ofNat 1085102592571150095)) + (mj_lush (((((v0 - ((mj_lush v0 (1 : Int32)) &&& (Int64.ofNat 6148914691236517205))) &&& (Int64.ofNat 3689348814741910323)) + ((mj_lush (v0 - ((mj_lush v0 (1 : Int32)) &&& (Int64.ofNat 6148914691236517205))) (2 : Int32)) &&& (Int64.ofNat 3689348814741910323))) + (mj_lush (((v0 - ((mj_lush v0 (1 : Int32)) &&& (Int64.ofNat 6148914691236517205))) &&& (Int64.ofNat 3689348814741910323)) + ((mj_lush (v0 - ((mj_lush v0 (1 : Int32)) &&& (Int64.ofNat 6148914691236517205))) (2 : Int32)) &&& (Int64.ofNat 3689348814741910323))) (4 : Int32))) &&& (Int64.ofNat 1085102592571150095)) (8 : Int32))) (16 : Int32))) (32 : Int32))).toInt32) &&& (127 : Int32))), (mj_hw w c hi hl)) := by
  rw [mj_den_eq, f294_0]
  exact zt_lload_n rfl rfl (zt_lload_n rfl rfl (zt_iconst rfl (zt_lushr rfl (zt_ldc2_w rfl (zt_land rfl (zt_lsub rfl (zt_lstore_n (Nat.le_of_ble_eq_true rfl) rfl rfl (zt_lload_n rfl rfl (zt_ldc2_w rfl (zt_land rfl (zt_lload_n rfl rfl (zt_iconst rfl (zt_lushr rfl (zt_ldc2_w rfl (zt_land rfl (zt_ladd rfl (zt_lstore_n (Nat.le_of_ble_eq_true rfl) rfl rfl (zt_lload_n rfl rfl (zt_lload_n rfl rfl (zt_iconst rfl (zt_lushr rfl (zt_ladd rfl (zt_ldc2_w rfl (zt_land rfl (zt_lstore_n (Nat.le_of_ble_eq_true rfl) rfl rfl (zt_lload_n rfl rfl (zt_lload_n rfl rfl (zt_bipush rfl (zt_lushr rfl (zt_ladd rfl (zt_lstore_n (Nat.le_of_ble_eq_true rfl) rfl rfl (zt_lload_n rfl rfl (zt_lload_n rfl rfl (zt_bipush rfl (zt_lushr rfl (zt_ladd rfl (zt_lstore_n (Nat.le_of_ble_eq_true rfl) rfl rfl (zt_lload_n rfl rfl (zt_lload_n rfl rfl (zt_bipush rfl (zt_lushr rfl (zt_ladd rfl (zt_lstore_n (Nat.le_of_ble_eq_true rfl) rfl rfl (zt_lload_n rfl rfl (zt_l2i rfl (zt_bipush rfl (zt_iand rfl (zt_ireturn0))))))))))))))))))))))))))))))))))))))))))))))))
set_option maxRecDepth 100000 in
theorem f295_0 : mj_find (mj_P 295).2.2.2.2 0 = [(.iload_n 0, 1, 0, []), (.iload_n 1, 1, 0, []), (.if_icmp .lt 7, 3, 0, [9]), (.iload_n 0, 1, 0, []), (.goto 4, 3, 0, [10])] := rfl
set_option maxRecDepth 100000 in
theorem q295_0 (E : mj_E) (d w c : Nat) (hi : Nat → Nat → Int32) (hl : Nat → Nat → Int64) (v0 : Int32) (v1 : Int32) : mj_den mj_P E d 295 0 [Value.int v0, Value.int v1] [] (mj_hw w c hi hl) = if v0 < v1 then mj_den mj_P E d 295 9 [Value.int v0, Value.int v1] [] (mj_hw w c hi hl) else mj_den mj_P E d 295 10 [Value.int v0, Value.int v1] [Value.int v0] (mj_hw w c hi hl) := by
  rw [mj_den_eq, f295_0]
  exact zt_iload_n rfl rfl (zt_iload_n rfl rfl (zt_icmp_lt rfl rfl (zt_iload_n rfl rfl (zt_goto rfl))))
set_option maxRecDepth 100000 in
theorem f295_9 : mj_find (mj_P 295).2.2.2.2 9 = [(.iload_n 1, 1, 0, [])] := rfl
set_option maxRecDepth 100000 in
theorem q295_9 (E : mj_E) (d w c : Nat) (hi : Nat → Nat → Int32) (hl : Nat → Nat → Int64) (v0 : Int32) (v1 : Int32) : mj_den mj_P E d 295 9 [Value.int v0, Value.int v1] [] (mj_hw w c hi hl) = mj_den mj_P E d 295 10 [Value.int v0, Value.int v1] [Value.int v1] (mj_hw w c hi hl) := by
  rw [mj_den_eq, f295_9]
  exact zt_iload_n rfl rfl (zt_end rfl)
set_option maxRecDepth 100000 in
theorem f295_10 : mj_find (mj_P 295).2.2.2.2 10 = [(.ireturn, 1, 0, [0])] := rfl
set_option maxRecDepth 100000 in
theorem q295_10 (E : mj_E) (d w c : Nat) (hi : Nat → Nat → Int32) (hl : Nat → Nat → Int64) (v0 : Int32) (v1 : Int32) (s0 : Int32) : mj_den mj_P E d 295 10 [Value.int v0, Value.int v1] [Value.int s0] (mj_hw w c hi hl) = some (some (Value.int s0), (mj_hw w c hi hl)) := by
  rw [mj_den_eq, f295_10]
  exact zt_ireturn0
set_option maxRecDepth 100000 in
theorem f296_0 : mj_find (mj_P 296).2.2.2.2 0 = [(.iload_n 0, 1, 0, []), (.iload_n 1, 1, 0, []), (.if_icmp .gt 7, 3, 0, [9]), (.iload_n 0, 1, 0, []), (.goto 4, 3, 0, [10])] := rfl
set_option maxRecDepth 100000 in
theorem q296_0 (E : mj_E) (d w c : Nat) (hi : Nat → Nat → Int32) (hl : Nat → Nat → Int64) (v0 : Int32) (v1 : Int32) : mj_den mj_P E d 296 0 [Value.int v0, Value.int v1] [] (mj_hw w c hi hl) = if v1 < v0 then mj_den mj_P E d 296 9 [Value.int v0, Value.int v1] [] (mj_hw w c hi hl) else mj_den mj_P E d 296 10 [Value.int v0, Value.int v1] [Value.int v0] (mj_hw w c hi hl) := by
  rw [mj_den_eq, f296_0]
  exact zt_iload_n rfl rfl (zt_iload_n rfl rfl (zt_icmp_gt rfl rfl (zt_iload_n rfl rfl (zt_goto rfl))))
set_option maxRecDepth 100000 in
theorem f296_9 : mj_find (mj_P 296).2.2.2.2 9 = [(.iload_n 1, 1, 0, [])] := rfl
set_option maxRecDepth 100000 in
theorem q296_9 (E : mj_E) (d w c : Nat) (hi : Nat → Nat → Int32) (hl : Nat → Nat → Int64) (v0 : Int32) (v1 : Int32) : mj_den mj_P E d 296 9 [Value.int v0, Value.int v1] [] (mj_hw w c hi hl) = mj_den mj_P E d 296 10 [Value.int v0, Value.int v1] [Value.int v1] (mj_hw w c hi hl) := by
  rw [mj_den_eq, f296_9]
  exact zt_iload_n rfl rfl (zt_end rfl)
set_option maxRecDepth 100000 in
theorem f296_10 : mj_find (mj_P 296).2.2.2.2 10 = [(.ireturn, 1, 0, [0])] := rfl
set_option maxRecDepth 100000 in
theorem q296_10 (E : mj_E) (d w c : Nat) (hi : Nat → Nat → Int32) (hl : Nat → Nat → Int64) (v0 : Int32) (v1 : Int32) (s0 : Int32) : mj_den mj_P E d 296 10 [Value.int v0, Value.int v1] [Value.int s0] (mj_hw w c hi hl) = some (some (Value.int s0), (mj_hw w c hi hl)) := by
  rw [mj_den_eq, f296_10]
  exact zt_ireturn0
set_option maxRecDepth 100000 in
theorem f297_0 : mj_find (mj_P 297).2.2.2.2 0 = [(.aload_n 0, 1, 0, []), (.getfield 9, 3, 0, [0, 2173]), (.arraylength, 1, 0, []), (.aload_n 0, 1, 0, []), (.invokevirtual 335, 3, 0, [8, 301, 99, 0, 1, 869, 870, 871, 159, 872])] := rfl
set_option maxRecDepth 100000 in
theorem q297_0 (E : mj_E) (d w c : Nat) (hi : Nat → Nat → Int32) (hl : Nat → Nat → Int64) : mj_den mj_P E d 297 0 [Value.retAddr 6] [] (mj_hw w c hi hl) = if (E 11).1 ≤ 65536 then mj_bi (mj_dc mj_P E d 301 [Value.retAddr 6] (mj_hw w c hi hl)) (fun x1 h1 => mj_den mj_P E d 297 9 [Value.retAddr 6] [Value.int x1, Value.int (Int32.ofNat (E 11).1)] h1) else none := by
  rw [mj_den_eq, f297_0]
  exact zt_aloadc_n rfl (Nat.le_of_ble_eq_true rfl) rfl (zt_strv (Nat.le_of_ble_eq_true rfl) (Nat.le_of_ble_eq_true rfl) rfl (zt_alenc (by decide) rfl (zt_aloadc_n rfl (Nat.le_of_ble_eq_true rfl) rfl (zt_call8_1 rfl (Nat.le_of_ble_eq_true rfl) (Nat.le_of_ble_eq_true rfl) (Nat.le_of_ble_eq_true rfl) rfl rfl))))
set_option maxRecDepth 100000 in
theorem q297_0_1 (E : mj_E) (d w c : Nat) (hi : Nat → Nat → Int32) (hl : Nat → Nat → Int64) : mj_den mj_P E d 297 0 [Value.retAddr 5] [] (mj_hw w c hi hl) = if (E 10).1 ≤ 65536 then mj_bi (mj_dc mj_P E d 301 [Value.retAddr 5] (mj_hw w c hi hl)) (fun x1 h1 => mj_den mj_P E d 297 9 [Value.retAddr 5] [Value.int x1, Value.int (Int32.ofNat (E 10).1)] h1) else none := by
  rw [mj_den_eq, f297_0]
  exact zt_aloadc_n rfl (Nat.le_of_ble_eq_true rfl) rfl (zt_strv (Nat.le_of_ble_eq_true rfl) (Nat.le_of_ble_eq_true rfl) rfl (zt_alenc (by decide) rfl (zt_aloadc_n rfl (Nat.le_of_ble_eq_true rfl) rfl (zt_call8_1 rfl (Nat.le_of_ble_eq_true rfl) (Nat.le_of_ble_eq_true rfl) (Nat.le_of_ble_eq_true rfl) rfl rfl))))
set_option maxRecDepth 100000 in
theorem q297_0_2 (E : mj_E) (d w c : Nat) (hi : Nat → Nat → Int32) (hl : Nat → Nat → Int64) : mj_den mj_P E d 297 0 [Value.retAddr 4] [] (mj_hw w c hi hl) = if (E 9).1 ≤ 65536 then mj_bi (mj_dc mj_P E d 301 [Value.retAddr 4] (mj_hw w c hi hl)) (fun x1 h1 => mj_den mj_P E d 297 9 [Value.retAddr 4] [Value.int x1, Value.int (Int32.ofNat (E 9).1)] h1) else none := by
  rw [mj_den_eq, f297_0]
  exact zt_aloadc_n rfl (Nat.le_of_ble_eq_true rfl) rfl (zt_strv (Nat.le_of_ble_eq_true rfl) (Nat.le_of_ble_eq_true rfl) rfl (zt_alenc (by decide) rfl (zt_aloadc_n rfl (Nat.le_of_ble_eq_true rfl) rfl (zt_call8_1 rfl (Nat.le_of_ble_eq_true rfl) (Nat.le_of_ble_eq_true rfl) (Nat.le_of_ble_eq_true rfl) rfl rfl))))
set_option maxRecDepth 100000 in
theorem q297_0_3 (E : mj_E) (d w c : Nat) (hi : Nat → Nat → Int32) (hl : Nat → Nat → Int64) : mj_den mj_P E d 297 0 [Value.retAddr 3] [] (mj_hw w c hi hl) = if (E 8).1 ≤ 65536 then mj_bi (mj_dc mj_P E d 301 [Value.retAddr 3] (mj_hw w c hi hl)) (fun x1 h1 => mj_den mj_P E d 297 9 [Value.retAddr 3] [Value.int x1, Value.int (Int32.ofNat (E 8).1)] h1) else none := by
  rw [mj_den_eq, f297_0]
  exact zt_aloadc_n rfl (Nat.le_of_ble_eq_true rfl) rfl (zt_strv (Nat.le_of_ble_eq_true rfl) (Nat.le_of_ble_eq_true rfl) rfl (zt_alenc (by decide) rfl (zt_aloadc_n rfl (Nat.le_of_ble_eq_true rfl) rfl (zt_call8_1 rfl (Nat.le_of_ble_eq_true rfl) (Nat.le_of_ble_eq_true rfl) (Nat.le_of_ble_eq_true rfl) rfl rfl))))
set_option maxRecDepth 100000 in
theorem q297_0_4 (E : mj_E) (d w c : Nat) (hi : Nat → Nat → Int32) (hl : Nat → Nat → Int64) : mj_den mj_P E d 297 0 [Value.retAddr 7] [] (mj_hw w c hi hl) = if (E 12).1 ≤ 65536 then mj_bi (mj_dc mj_P E d 301 [Value.retAddr 7] (mj_hw w c hi hl)) (fun x1 h1 => mj_den mj_P E d 297 9 [Value.retAddr 7] [Value.int x1, Value.int (Int32.ofNat (E 12).1)] h1) else none := by
  rw [mj_den_eq, f297_0]
  exact zt_aloadc_n rfl (Nat.le_of_ble_eq_true rfl) rfl (zt_strv (Nat.le_of_ble_eq_true rfl) (Nat.le_of_ble_eq_true rfl) rfl (zt_alenc (by decide) rfl (zt_aloadc_n rfl (Nat.le_of_ble_eq_true rfl) rfl (zt_call8_1 rfl (Nat.le_of_ble_eq_true rfl) (Nat.le_of_ble_eq_true rfl) (Nat.le_of_ble_eq_true rfl) rfl rfl))))
set_option maxRecDepth 100000 in
theorem f297_9 : mj_find (mj_P 297).2.2.2.2 9 = [(.ishr, 1, 0, []), (.ireturn, 1, 0, [0])] := rfl
set_option maxRecDepth 100000 in
theorem q297_9 (E : mj_E) (d w c : Nat) (hi : Nat → Nat → Int32) (hl : Nat → Nat → Int64) (s0 : Int32) (s1 : Int32) : mj_den mj_P E d 297 9 [Value.retAddr 6] [Value.int s0, Value.int s1] (mj_hw w c hi hl) = some (some (Value.int (s1 >>> (s0 &&& 31))), (mj_hw w c hi hl)) := by
  rw [mj_den_eq, f297_9]
  exact zt_ishr rfl (zt_ireturn0)
set_option maxRecDepth 100000 in
theorem q297_9_1 (E : mj_E) (d w c : Nat) (hi : Nat → Nat → Int32) (hl : Nat → Nat → Int64) (s0 : Int32) (s1 : Int32) : mj_den mj_P E d 297 9 [Value.retAddr 5] [Value.int s0, Value.int s1] (mj_hw w c hi hl) = some (some (Value.int (s1 >>> (s0 &&& 31))), (mj_hw w c hi hl)) := by
  rw [mj_den_eq, f297_9]
  exact zt_ishr rfl (zt_ireturn0)
set_option maxRecDepth 100000 in
theorem q297_9_2 (E : mj_E) (d w c : Nat) (hi : Nat → Nat → Int32) (hl : Nat → Nat → Int64) (s0 : Int32) (s1 : Int32) : mj_den mj_P E d 297 9 [Value.retAddr 4] [Value.int s0, Value.int s1] (mj_hw w c hi hl) = some (some (Value.int (s1 >>> (s0 &&& 31))), (mj_hw w c hi hl)) := by
  rw [mj_den_eq, f297_9]
  exact zt_ishr rfl (zt_ireturn0)
set_option maxRecDepth 100000 in
theorem q297_9_3 (E : mj_E) (d w c : Nat) (hi : Nat → Nat → Int32) (hl : Nat → Nat → Int64) (s0 : Int32) (s1 : Int32) : mj_den mj_P E d 297 9 [Value.retAddr 3] [Value.int s0, Value.int s1] (mj_hw w c hi hl) = some (some (Value.int (s1 >>> (s0 &&& 31))), (mj_hw w c hi hl)) := by
  rw [mj_den_eq, f297_9]
  exact zt_ishr rfl (zt_ireturn0)
set_option maxRecDepth 100000 in
theorem q297_9_4 (E : mj_E) (d w c : Nat) (hi : Nat → Nat → Int32) (hl : Nat → Nat → Int64) (s0 : Int32) (s1 : Int32) : mj_den mj_P E d 297 9 [Value.retAddr 7] [Value.int s0, Value.int s1] (mj_hw w c hi hl) = some (some (Value.int (s1 >>> (s0 &&& 31))), (mj_hw w c hi hl)) := by
  rw [mj_den_eq, f297_9]
  exact zt_ishr rfl (zt_ireturn0)
set_option maxRecDepth 100000 in
theorem f298_0 : mj_find (mj_P 298).2.2.2.2 0 = [(.aload_n 0, 1, 0, []), (.invokevirtual 492, 3, 0, [8, 302, 99, 0, 1, 879, 880, 881, 159, 882])] := rfl
set_option maxRecDepth 100000 in
theorem q298_0 (E : mj_E) (d w c : Nat) (hi : Nat → Nat → Int32) (hl : Nat → Nat → Int64) (v1 : Int32) : mj_den mj_P E d 298 0 [Value.retAddr 6, Value.int v1] [] (mj_hw w c hi hl) = mj_bi (mj_dc mj_P E d 302 [Value.retAddr 6] (mj_hw w c hi hl)) (fun x1 h1 => mj_den mj_P E d 298 4 [Value.retAddr 6, Value.int v1] [Value.int x1] h1) := by
  rw [mj_den_eq, f298_0]
  exact zt_aloadc_n rfl (Nat.le_of_ble_eq_true rfl) rfl (zt_call8_1 rfl (Nat.le_of_ble_eq_true rfl) (Nat.le_of_ble_eq_true rfl) (Nat.le_of_ble_eq_true rfl) rfl rfl)
set_option maxRecDepth 100000 in
theorem q298_0_1 (E : mj_E) (d w c : Nat) (hi : Nat → Nat → Int32) (hl : Nat → Nat → Int64) (v1 : Int32) : mj_den mj_P E d 298 0 [Value.retAddr 5, Value.int v1] [] (mj_hw w c hi hl) = mj_bi (mj_dc mj_P E d 302 [Value.retAddr 5] (mj_hw w c hi hl)) (fun x1 h1 => mj_den mj_P E d 298 4 [Value.retAddr 5, Value.int v1] [Value.int x1] h1) := by
  rw [mj_den_eq, f298_0]
  exact zt_aloadc_n rfl (Nat.le_of_ble_eq_true rfl) rfl (zt_call8_1 rfl (Nat.le_of_ble_eq_true rfl) (Nat.le_of_ble_eq_true rfl) (Nat.le_of_ble_eq_true rfl) rfl rfl)
set_option maxRecDepth 100000 in
theorem q298_0_2 (E : mj_E) (d w c : Nat) (hi : Nat → Nat → Int32) (hl : Nat → Nat → Int64) (v1 : Int32) : mj_den mj_P E d 298 0 [Value.retAddr 4, Value.int v1] [] (mj_hw w c hi hl) = mj_bi (mj_dc mj_P E d 302 [Value.retAddr 4] (mj_hw w c hi hl)) (fun x1 h1 => mj_den mj_P E d 298 4 [Value.retAddr 4, Value.int v1] [Value.int x1] h1) := by
  rw [mj_den_eq, f298_0]
  exact zt_aloadc_n rfl (Nat.le_of_ble_eq_true rfl) rfl (zt_call8_1 rfl (Nat.le_of_ble_eq_true rfl) (Nat.le_of_ble_eq_true rfl) (Nat.le_of_ble_eq_true rfl) rfl rfl)
set_option maxRecDepth 100000 in
theorem q298_0_3 (E : mj_E) (d w c : Nat) (hi : Nat → Nat → Int32) (hl : Nat → Nat → Int64) (v1 : Int32) : mj_den mj_P E d 298 0 [Value.retAddr 3, Value.int v1] [] (mj_hw w c hi hl) = mj_bi (mj_dc mj_P E d 302 [Value.retAddr 3] (mj_hw w c hi hl)) (fun x1 h1 => mj_den mj_P E d 298 4 [Value.retAddr 3, Value.int v1] [Value.int x1] h1) := by
  rw [mj_den_eq, f298_0]
  exact zt_aloadc_n rfl (Nat.le_of_ble_eq_true rfl) rfl (zt_call8_1 rfl (Nat.le_of_ble_eq_true rfl) (Nat.le_of_ble_eq_true rfl) (Nat.le_of_ble_eq_true rfl) rfl rfl)
set_option maxRecDepth 100000 in
theorem f298_4 : mj_find (mj_P 298).2.2.2.2 4 = [(.ifCond .eq 12, 3, 0, [16]), (.aload_n 0, 1, 0, []), (.getfield 9, 3, 0, [0, 2173]), (.iload_n 1, 1, 0, []), (.invokestatic 495, 3, 0, [1, 305, 0, 2, 1, 883, 884, 160, 885])] := rfl
set_option maxRecDepth 100000 in
theorem q298_4 (E : mj_E) (d w c : Nat) (hi : Nat → Nat → Int32) (hl : Nat → Nat → Int64) (v1 : Int32) (s0 : Int32) : mj_den mj_P E d 298 4 [Value.retAddr 6, Value.int v1] [Value.int s0] (mj_hw w c hi hl) = if s0 = 0 then mj_den mj_P E d 298 16 [Value.retAddr 6, Value.int v1] [] (mj_hw w c hi hl) else mj_bi (mj_dc mj_P E d 305 [Value.retAddr 11, Value.int v1] (mj_hw w c hi hl)) (fun x1 h1 => mj_den mj_P E d 298 15 [Value.retAddr 6, Value.int v1] [Value.int x1] h1) := by
  rw [mj_den_eq, f298_4]
  exact zt_if_eq rfl rfl (zt_aloadc_n rfl (Nat.le_of_ble_eq_true rfl) rfl (zt_strv (Nat.le_of_ble_eq_true rfl) (Nat.le_of_ble_eq_true rfl) rfl (zt_iload_n rfl rfl (zt_call1_1 (Nat.le_of_ble_eq_true rfl) rfl (Nat.le_of_ble_eq_true rfl) rfl rfl))))
set_option maxRecDepth 100000 in
theorem q298_4_1 (E : mj_E) (d w c : Nat) (hi : Nat → Nat → Int32) (hl : Nat → Nat → Int64) (v1 : Int32) (s0 : Int32) : mj_den mj_P E d 298 4 [Value.retAddr 5, Value.int v1] [Value.int s0] (mj_hw w c hi hl) = if s0 = 0 then mj_den mj_P E d 298 16 [Value.retAddr 5, Value.int v1] [] (mj_hw w c hi hl) else mj_bi (mj_dc mj_P E d 305 [Value.retAddr 10, Value.int v1] (mj_hw w c hi hl)) (fun x1 h1 => mj_den mj_P E d 298 15 [Value.retAddr 5, Value.int v1] [Value.int x1] h1) := by
  rw [mj_den_eq, f298_4]
  exact zt_if_eq rfl rfl (zt_aloadc_n rfl (Nat.le_of_ble_eq_true rfl) rfl (zt_strv (Nat.le_of_ble_eq_true rfl) (Nat.le_of_ble_eq_true rfl) rfl (zt_iload_n rfl rfl (zt_call1_1 (Nat.le_of_ble_eq_true rfl) rfl (Nat.le_of_ble_eq_true rfl) rfl rfl))))
set_option maxRecDepth 100000 in
theorem q298_4_2 (E : mj_E) (d w c : Nat) (hi : Nat → Nat → Int32) (hl : Nat → Nat → Int64) (v1 : Int32) (s0 : Int32) : mj_den mj_P E d 298 4 [Value.retAddr 4, Value.int v1] [Value.int s0] (mj_hw w c hi hl) = if s0 = 0 then mj_den mj_P E d 298 16 [Value.retAddr 4, Value.int v1] [] (mj_hw w c hi hl) else mj_bi (mj_dc mj_P E d 305 [Value.retAddr 9, Value.int v1] (mj_hw w c hi hl)) (fun x1 h1 => mj_den mj_P E d 298 15 [Value.retAddr 4, Value.int v1] [Value.int x1] h1) := by
  rw [mj_den_eq, f298_4]
  exact zt_if_eq rfl rfl (zt_aloadc_n rfl (Nat.le_of_ble_eq_true rfl) rfl (zt_strv (Nat.le_of_ble_eq_true rfl) (Nat.le_of_ble_eq_true rfl) rfl (zt_iload_n rfl rfl (zt_call1_1 (Nat.le_of_ble_eq_true rfl) rfl (Nat.le_of_ble_eq_true rfl) rfl rfl))))
set_option maxRecDepth 100000 in
theorem q298_4_3 (E : mj_E) (d w c : Nat) (hi : Nat → Nat → Int32) (hl : Nat → Nat → Int64) (v1 : Int32) (s0 : Int32) : mj_den mj_P E d 298 4 [Value.retAddr 3, Value.int v1] [Value.int s0] (mj_hw w c hi hl) = if s0 = 0 then mj_den mj_P E d 298 16 [Value.retAddr 3, Value.int v1] [] (mj_hw w c hi hl) else mj_bi (mj_dc mj_P E d 305 [Value.retAddr 8, Value.int v1] (mj_hw w c hi hl)) (fun x1 h1 => mj_den mj_P E d 298 15 [Value.retAddr 3, Value.int v1] [Value.int x1] h1) := by
  rw [mj_den_eq, f298_4]
  exact zt_if_eq rfl rfl (zt_aloadc_n rfl (Nat.le_of_ble_eq_true rfl) rfl (zt_strv (Nat.le_of_ble_eq_true rfl) (Nat.le_of_ble_eq_true rfl) rfl (zt_iload_n rfl rfl (zt_call1_1 (Nat.le_of_ble_eq_true rfl) rfl (Nat.le_of_ble_eq_true rfl) rfl rfl))))
set_option maxRecDepth 100000 in
theorem f298_15 : mj_find (mj_P 298).2.2.2.2 15 = [(.ireturn, 1, 0, [2])] := rfl
set_option maxRecDepth 100000 in
theorem q298_15 (E : mj_E) (d w c : Nat) (hi : Nat → Nat → Int32) (hl : Nat → Nat → Int64) (v1 : Int32) (s0 : Int32) : mj_den mj_P E d 298 15 [Value.retAddr 6, Value.int v1] [Value.int s0] (mj_hw w c hi hl) = if narrow .char (Value.int s0) = Value.int s0 then some (some (Value.int s0), (mj_hw w c hi hl)) else none := by
  rw [mj_den_eq, f298_15]
  exact zt_ireturn2
set_option maxRecDepth 100000 in
theorem q298_15_1 (E : mj_E) (d w c : Nat) (hi : Nat → Nat → Int32) (hl : Nat → Nat → Int64) (v1 : Int32) (s0 : Int32) : mj_den mj_P E d 298 15 [Value.retAddr 5, Value.int v1] [Value.int s0] (mj_hw w c hi hl) = if narrow .char (Value.int s0) = Value.int s0 then some (some (Value.int s0), (mj_hw w c hi hl)) else none := by
  rw [mj_den_eq, f298_15]
  exact zt_ireturn2
set_option maxRecDepth 100000 in
theorem q298_15_2 (E : mj_E) (d w c : Nat) (hi : Nat → Nat → Int32) (hl : Nat → Nat → Int64) (v1 : Int32) (s0 : Int32) : mj_den mj_P E d 298 15 [Value.retAddr 4, Value.int v1] [Value.int s0] (mj_hw w c hi hl) = if narrow .char (Value.int s0) = Value.int s0 then some (some (Value.int s0), (mj_hw w c hi hl)) else none := by
  rw [mj_den_eq, f298_15]
  exact zt_ireturn2
set_option maxRecDepth 100000 in
theorem q298_15_3 (E : mj_E) (d w c : Nat) (hi : Nat → Nat → Int32) (hl : Nat → Nat → Int64) (v1 : Int32) (s0 : Int32) : mj_den mj_P E d 298 15 [Value.retAddr 3, Value.int v1] [Value.int s0] (mj_hw w c hi hl) = if narrow .char (Value.int s0) = Value.int s0 then some (some (Value.int s0), (mj_hw w c hi hl)) else none := by
  rw [mj_den_eq, f298_15]
  exact zt_ireturn2
set_option maxRecDepth 100000 in
theorem f299_0 : mj_find (mj_P 299).2.2.2.2 0 = [(.aload_n 0, 1, 0, []), (.iload_n 1, 1, 0, []), (.iconst 0, 1, 0, []), (.invokevirtual 633, 3, 0, [8, 300, 99, 2, 1, 925, 926, 927, 159, 928])] := rfl
set_option maxRecDepth 100000 in
theorem q299_0 (E : mj_E) (d w c : Nat) (hi : Nat → Nat → Int32) (hl : Nat → Nat → Int64) (v1 : Int32) : mj_den mj_P E d 299 0 [Value.retAddr 7, Value.int v1] [] (mj_hw w c hi hl) = mj_bi (mj_dc mj_P E d 300 [Value.retAddr 7, Value.int v1, Value.int (0 : Int32)] (mj_hw w c hi hl)) (fun x1 h1 => mj_den mj_P E d 299 6 [Value.retAddr 7, Value.int v1] [Value.int x1] h1) := by
  rw [mj_den_eq, f299_0]
  exact zt_aloadc_n rfl (Nat.le_of_ble_eq_true rfl) rfl (zt_iload_n rfl rfl (zt_iconst rfl (zt_call8_1 rfl (Nat.le_of_ble_eq_true rfl) (Nat.le_of_ble_eq_true rfl) (Nat.le_of_ble_eq_true rfl) rfl rfl)))
set_option maxRecDepth 100000 in
theorem f299_6 : mj_find (mj_P 299).2.2.2.2 6 = [(.ireturn, 1, 0, [0])] := rfl
set_option maxRecDepth 100000 in
theorem q299_6 (E : mj_E) (d w c : Nat) (hi : Nat → Nat → Int32) (hl : Nat → Nat → Int64) (v1 : Int32) (s0 : Int32) : mj_den mj_P E d 299 6 [Value.retAddr 7, Value.int v1] [Value.int s0] (mj_hw w c hi hl) = some (some (Value.int s0), (mj_hw w c hi hl)) := by
  rw [mj_den_eq, f299_6]
  exact zt_ireturn0
set_option maxRecDepth 100000 in
theorem f300_0 : mj_find (mj_P 300).2.2.2.2 0 = [(.aload_n 0, 1, 0, []), (.invokevirtual 492, 3, 0, [8, 302, 99, 0, 1, 879, 880, 881, 159, 882])] := rfl
set_option maxRecDepth 100000 in
theorem q300_0 (E : mj_E) (d w c : Nat) (hi : Nat → Nat → Int32) (hl : Nat → Nat → Int64) (v1 : Int32) (v2 : Int32) : mj_den mj_P E d 300 0 [Value.retAddr 7, Value.int v1, Value.int v2] [] (mj_hw w c hi hl) = mj_bi (mj_dc mj_P E d 302 [Value.retAddr 7] (mj_hw w c hi hl)) (fun x1 h1 => mj_den mj_P E d 300 4 [Value.retAddr 7, Value.int v1, Value.int v2] [Value.int x1] h1) := by
  rw [mj_den_eq, f300_0]
  exact zt_aloadc_n rfl (Nat.le_of_ble_eq_true rfl) rfl (zt_call8_1 rfl (Nat.le_of_ble_eq_true rfl) (Nat.le_of_ble_eq_true rfl) (Nat.le_of_ble_eq_true rfl) rfl rfl)
set_option maxRecDepth 100000 in
theorem f300_4 : mj_find (mj_P 300).2.2.2.2 4 = [(.ifCond .eq 19, 3, 0, [23]), (.aload_n 0, 1, 0, []), (.getfield 9, 3, 0, [0, 2173]), (.iload_n 1, 1, 0, []), (.iload_n 2, 1, 0, []), (.aload_n 0, 1, 0, []), (.invokevirtual 505, 3, 0, [8, 297, 99, 0, 1, 929, 866, 867, 159, 868])] := rfl
set_option maxRecDepth 100000 in
theorem q300_4 (E : mj_E) (d w c : Nat) (hi : Nat → Nat → Int32) (hl : Nat → Nat → Int64) (v1 : Int32) (v2 : Int32) (s0 : Int32) : mj_den mj_P E d 300 4 [Value.retAddr 7, Value.int v1, Value.int v2] [Value.int s0] (mj_hw w c hi hl) = if s0 = 0 then mj_den mj_P E d 300 23 [Value.retAddr 7, Value.int v1, Value.int v2] [] (mj_hw w c hi hl) else mj_bi (mj_dc mj_P E d 297 [Value.retAddr 7] (mj_hw w c hi hl)) (fun x1 h1 => mj_den mj_P E d 300 17 [Value.retAddr 7, Value.int v1, Value.int v2] [Value.int x1, Value.int v2, Value.int v1, Value.retAddr 12] h1) := by
  rw [mj_den_eq, f300_4]
  exact zt_if_eq rfl rfl (zt_aloadc_n rfl (Nat.le_of_ble_eq_true rfl) rfl (zt_strv (Nat.le_of_ble_eq_true rfl) (Nat.le_of_ble_eq_true rfl) rfl (zt_iload_n rfl rfl (zt_iload_n rfl rfl (zt_aloadc_n rfl (Nat.le_of_ble_eq_true rfl) rfl (zt_call8_1 rfl (Nat.le_of_ble_eq_true rfl) (Nat.le_of_ble_eq_true rfl) (Nat.le_of_ble_eq_true rfl) rfl rfl))))))
set_option maxRecDepth 100000 in
theorem f300_17 : mj_find (mj_P 300).2.2.2.2 17 = [(.invokestatic 637, 3, 0, [1, 307, 0, 4, 1, 930, 931, 160, 932])] := rfl
set_option maxRecDepth 100000 in
theorem q300_17 (E : mj_E) (d w c : Nat) (hi : Nat → Nat → Int32) (hl : Nat → Nat → Int64) (v1 : Int32) (v2 : Int32) (s0 : Int32) (s1 : Int32) (s2 : Int32) : mj_den mj_P E d 300 17 [Value.retAddr 7, Value.int v1, Value.int v2] [Value.int s0, Value.int s1, Value.int s2, Value.retAddr 12] (mj_hw w c hi hl) = mj_bi (mj_dc mj_P E d 307 [Value.retAddr 12, Value.int s2, Value.int s1, Value.int s0] (mj_hw w c hi hl)) (fun x1 h1 => mj_den mj_P E d 300 20 [Value.retAddr 7, Value.int v1, Value.int v2] [Value.int x1] h1) := by
  rw [mj_den_eq, f300_17]
  exact zt_call1_1 (Nat.le_of_ble_eq_true rfl) rfl (Nat.le_of_ble_eq_true rfl) rfl rfl
set_option maxRecDepth 100000 in
theorem f300_20 : mj_find (mj_P 300).2.2.2.2 20 = [(.goto 16, 3, 0, [36])] := rfl
set_option maxRecDepth 100000 in
theorem q300_20 (E : mj_E) (d w c : Nat) (hi : Nat → Nat → Int32) (hl : Nat → Nat → Int64) (v1 : Int32) (v2 : Int32) (s0 : Int32) : mj_den mj_P E d 300 20 [Value.retAddr 7, Value.int v1, Value.int v2] [Value.int s0] (mj_hw w c hi hl) = mj_den mj_P E d 300 36 [Value.retAddr 7, Value.int v1, Value.int v2] [Value.int s0] (mj_hw w c hi hl) := by
  rw [mj_den_eq, f300_20]
  exact zt_goto rfl
set_option maxRecDepth 100000 in
theorem f300_23 : mj_find (mj_P 300).2.2.2.2 23 = [(.aload_n 0, 1, 0, []), (.getfield 9, 3, 0, [0, 2173]), (.iload_n 1, 1, 0, []), (.iload_n 2, 1, 0, []), (.aload_n 0, 1, 0, []), (.invokevirtual 505, 3, 0, [8, 297, 99, 0, 1, 929, 866, 867, 159, 868])] := rfl
set_option maxRecDepth 100000 in
theorem q300_23 (E : mj_E) (d w c : Nat) (hi : Nat → Nat → Int32) (hl : Nat → Nat → Int64) (v1 : Int32) (v2 : Int32) : mj_den mj_P E d 300 23 [Value.retAddr 7, Value.int v1, Value.int v2] [] (mj_hw w c hi hl) = mj_bi (mj_dc mj_P E d 297 [Value.retAddr 7] (mj_hw w c hi hl)) (fun x1 h1 => mj_den mj_P E d 300 33 [Value.retAddr 7, Value.int v1, Value.int v2] [Value.int x1, Value.int v2, Value.int v1, Value.retAddr 12] h1) := by
  rw [mj_den_eq, f300_23]
  exact zt_aloadc_n rfl (Nat.le_of_ble_eq_true rfl) rfl (zt_strv (Nat.le_of_ble_eq_true rfl) (Nat.le_of_ble_eq_true rfl) rfl (zt_iload_n rfl rfl (zt_iload_n rfl rfl (zt_aloadc_n rfl (Nat.le_of_ble_eq_true rfl) rfl (zt_call8_1 rfl (Nat.le_of_ble_eq_true rfl) (Nat.le_of_ble_eq_true rfl) (Nat.le_of_ble_eq_true rfl) rfl rfl)))))
set_option maxRecDepth 100000 in
theorem f300_36 : mj_find (mj_P 300).2.2.2.2 36 = [(.ireturn, 1, 0, [0])] := rfl
set_option maxRecDepth 100000 in
theorem q300_36 (E : mj_E) (d w c : Nat) (hi : Nat → Nat → Int32) (hl : Nat → Nat → Int64) (v1 : Int32) (v2 : Int32) (s0 : Int32) : mj_den mj_P E d 300 36 [Value.retAddr 7, Value.int v1, Value.int v2] [Value.int s0] (mj_hw w c hi hl) = some (some (Value.int s0), (mj_hw w c hi hl)) := by
  rw [mj_den_eq, f300_36]
  exact zt_ireturn0
set_option maxRecDepth 100000 in
theorem f301_0 : mj_find (mj_P 301).2.2.2.2 0 = [(.getstatic 38, 3, 0, [2, 873, 0]), (.ifCond .eq 10, 3, 0, [13]), (.aload_n 0, 1, 0, []), (.getfield 15, 3, 0, [1, 2174]), (.goto 4, 3, 0, [14])] := rfl
set_option maxRecDepth 100000 in
theorem q301_0 (E : mj_E) (d w c : Nat) (hi : Nat → Nat → Int32) (hl : Nat → Nat → Int64) : mj_den mj_P E d 301 0 [Value.retAddr 6] [] (mj_hw w c hi hl) = if (1 : Int32) = 0 then mj_den mj_P E d 301 13 [Value.retAddr 6] [] (mj_hw w c hi hl) else mj_den mj_P E d 301 14 [Value.retAddr 6] [Value.int (0 : Int32)] (mj_hw w c hi hl) := by
  rw [mj_den_eq, f301_0]
  exact zt_getstatic2 rfl (zt_if_eq rfl rfl (zt_aloadc_n rfl (Nat.le_of_ble_eq_true rfl) rfl (zt_strc (Nat.le_of_ble_eq_true rfl) (Nat.le_of_ble_eq_true rfl) rfl (zt_goto rfl))))
set_option maxRecDepth 100000 in
theorem q301_0_1 (E : mj_E) (d w c : Nat) (hi : Nat → Nat → Int32) (hl : Nat → Nat → Int64) : mj_den mj_P E d 301 0 [Value.retAddr 5] [] (mj_hw w c hi hl) = if (1 : Int32) = 0 then mj_den mj_P E d 301 13 [Value.retAddr 5] [] (mj_hw w c hi hl) else mj_den mj_P E d 301 14 [Value.retAddr 5] [Value.int (0 : Int32)] (mj_hw w c hi hl) := by
  rw [mj_den_eq, f301_0]
  exact zt_getstatic2 rfl (zt_if_eq rfl rfl (zt_aloadc_n rfl (Nat.le_of_ble_eq_true rfl) rfl (zt_strc (Nat.le_of_ble_eq_true rfl) (Nat.le_of_ble_eq_true rfl) rfl (zt_goto rfl))))
set_option maxRecDepth 100000 in
theorem q301_0_2 (E : mj_E) (d w c : Nat) (hi : Nat → Nat → Int32) (hl : Nat → Nat → Int64) : mj_den mj_P E d 301 0 [Value.retAddr 4] [] (mj_hw w c hi hl) = if (1 : Int32) = 0 then mj_den mj_P E d 301 13 [Value.retAddr 4] [] (mj_hw w c hi hl) else mj_den mj_P E d 301 14 [Value.retAddr 4] [Value.int (0 : Int32)] (mj_hw w c hi hl) := by
  rw [mj_den_eq, f301_0]
  exact zt_getstatic2 rfl (zt_if_eq rfl rfl (zt_aloadc_n rfl (Nat.le_of_ble_eq_true rfl) rfl (zt_strc (Nat.le_of_ble_eq_true rfl) (Nat.le_of_ble_eq_true rfl) rfl (zt_goto rfl))))
set_option maxRecDepth 100000 in
theorem q301_0_3 (E : mj_E) (d w c : Nat) (hi : Nat → Nat → Int32) (hl : Nat → Nat → Int64) : mj_den mj_P E d 301 0 [Value.retAddr 3] [] (mj_hw w c hi hl) = if (1 : Int32) = 0 then mj_den mj_P E d 301 13 [Value.retAddr 3] [] (mj_hw w c hi hl) else mj_den mj_P E d 301 14 [Value.retAddr 3] [Value.int (0 : Int32)] (mj_hw w c hi hl) := by
  rw [mj_den_eq, f301_0]
  exact zt_getstatic2 rfl (zt_if_eq rfl rfl (zt_aloadc_n rfl (Nat.le_of_ble_eq_true rfl) rfl (zt_strc (Nat.le_of_ble_eq_true rfl) (Nat.le_of_ble_eq_true rfl) rfl (zt_goto rfl))))
set_option maxRecDepth 100000 in
theorem q301_0_4 (E : mj_E) (d w c : Nat) (hi : Nat → Nat → Int32) (hl : Nat → Nat → Int64) : mj_den mj_P E d 301 0 [Value.retAddr 7] [] (mj_hw w c hi hl) = if (1 : Int32) = 0 then mj_den mj_P E d 301 13 [Value.retAddr 7] [] (mj_hw w c hi hl) else mj_den mj_P E d 301 14 [Value.retAddr 7] [Value.int (0 : Int32)] (mj_hw w c hi hl) := by
  rw [mj_den_eq, f301_0]
  exact zt_getstatic2 rfl (zt_if_eq rfl rfl (zt_aloadc_n rfl (Nat.le_of_ble_eq_true rfl) rfl (zt_strc (Nat.le_of_ble_eq_true rfl) (Nat.le_of_ble_eq_true rfl) rfl (zt_goto rfl))))
set_option maxRecDepth 100000 in
theorem f301_13 : mj_find (mj_P 301).2.2.2.2 13 = [(.iconst 1, 1, 1, [])] := rfl
set_option maxRecDepth 100000 in
theorem q301_13 (E : mj_E) (d w c : Nat) (hi : Nat → Nat → Int32) (hl : Nat → Nat → Int64) : mj_den mj_P E d 301 13 [Value.retAddr 6] [] (mj_hw w c hi hl) = mj_den mj_P E d 301 14 [Value.retAddr 6] [Value.int (1 : Int32)] (mj_hw w c hi hl) := by
  rw [mj_den_eq, f301_13]
  exact zt_iconst rfl (zt_end rfl)
set_option maxRecDepth 100000 in
theorem q301_13_1 (E : mj_E) (d w c : Nat) (hi : Nat → Nat → Int32) (hl : Nat → Nat → Int64) : mj_den mj_P E d 301 13 [Value.retAddr 5] [] (mj_hw w c hi hl) = mj_den mj_P E d 301 14 [Value.retAddr 5] [Value.int (1 : Int32)] (mj_hw w c hi hl) := by
  rw [mj_den_eq, f301_13]
  exact zt_iconst rfl (zt_end rfl)
set_option maxRecDepth 100000 in
theorem q301_13_2 (E : mj_E) (d w c : Nat) (hi : Nat → Nat → Int32) (hl : Nat → Nat → Int64) : mj_den mj_P E d 301 13 [Value.retAddr 4] [] (mj_hw w c hi hl) = mj_den mj_P E d 301 14 [Value.retAddr 4] [Value.int (1 : Int32)] (mj_hw w c hi hl) := by
  rw [mj_den_eq, f301_13]
  exact zt_iconst rfl (zt_end rfl)
set_option maxRecDepth 100000 in
theorem q301_13_3 (E : mj_E) (d w c : Nat) (hi : Nat → Nat → Int32) (hl : Nat → Nat → Int64) : mj_den mj_P E d 301 13 [Value.retAddr 3] [] (mj_hw w c hi hl) = mj_den mj_P E d 301 14 [Value.retAddr 3] [Value.int (1 : Int32)] (mj_hw w c hi hl) := by
  rw [mj_den_eq, f301_13]
  exact zt_iconst rfl (zt_end rfl)
set_option maxRecDepth 100000 in
theorem q301_13_4 (E : mj_E) (d w c : Nat) (hi : Nat → Nat → Int32) (hl : Nat → Nat → Int64) : mj_den mj_P E d 301 13 [Value.retAddr 7] [] (mj_hw w c hi hl) = mj_den mj_P E d 301 14 [Value.retAddr 7] [Value.int (1 : Int32)] (mj_hw w c hi hl) := by
  rw [mj_den_eq, f301_13]
  exact zt_iconst rfl (zt_end rfl)
set_option maxRecDepth 100000 in
theorem f301_14 : mj_find (mj_P 301).2.2.2.2 14 = [(.ireturn, 1, 0, [3])] := rfl
set_option maxRecDepth 100000 in
theorem q301_14 (E : mj_E) (d w c : Nat) (hi : Nat → Nat → Int32) (hl : Nat → Nat → Int64) (s0 : Int32) : mj_den mj_P E d 301 14 [Value.retAddr 6] [Value.int s0] (mj_hw w c hi hl) = if narrow .byte (Value.int s0) = Value.int s0 then some (some (Value.int s0), (mj_hw w c hi hl)) else none := by
  rw [mj_den_eq, f301_14]
  exact zt_ireturn3
set_option maxRecDepth 100000 in
theorem q301_14_1 (E : mj_E) (d w c : Nat) (hi : Nat → Nat → Int32) (hl : Nat → Nat → Int64) (s0 : Int32) : mj_den mj_P E d 301 14 [Value.retAddr 5] [Value.int s0] (mj_hw w c hi hl) = if narrow .byte (Value.int s0) = Value.int s0 then some (some (Value.int s0), (mj_hw w c hi hl)) else none := by
  rw [mj_den_eq, f301_14]
  exact zt_ireturn3
set_option maxRecDepth 100000 in
theorem q301_14_2 (E : mj_E) (d w c : Nat) (hi : Nat → Nat → Int32) (hl : Nat → Nat → Int64) (s0 : Int32) : mj_den mj_P E d 301 14 [Value.retAddr 4] [Value.int s0] (mj_hw w c hi hl) = if narrow .byte (Value.int s0) = Value.int s0 then some (some (Value.int s0), (mj_hw w c hi hl)) else none := by
  rw [mj_den_eq, f301_14]
  exact zt_ireturn3
set_option maxRecDepth 100000 in
theorem q301_14_3 (E : mj_E) (d w c : Nat) (hi : Nat → Nat → Int32) (hl : Nat → Nat → Int64) (s0 : Int32) : mj_den mj_P E d 301 14 [Value.retAddr 3] [Value.int s0] (mj_hw w c hi hl) = if narrow .byte (Value.int s0) = Value.int s0 then some (some (Value.int s0), (mj_hw w c hi hl)) else none := by
  rw [mj_den_eq, f301_14]
  exact zt_ireturn3
set_option maxRecDepth 100000 in
theorem q301_14_4 (E : mj_E) (d w c : Nat) (hi : Nat → Nat → Int32) (hl : Nat → Nat → Int64) (s0 : Int32) : mj_den mj_P E d 301 14 [Value.retAddr 7] [Value.int s0] (mj_hw w c hi hl) = if narrow .byte (Value.int s0) = Value.int s0 then some (some (Value.int s0), (mj_hw w c hi hl)) else none := by
  rw [mj_den_eq, f301_14]
  exact zt_ireturn3
set_option maxRecDepth 100000 in
theorem f302_0 : mj_find (mj_P 302).2.2.2.2 0 = [(.getstatic 38, 3, 0, [2, 873, 0]), (.ifCond .eq 14, 3, 0, [17]), (.aload_n 0, 1, 0, []), (.getfield 15, 3, 0, [1, 2174]), (.ifCond .ne 7, 3, 0, [17]), (.iconst 1, 1, 1, []), (.goto 4, 3, 0, [18])] := rfl
set_option maxRecDepth 100000 in
theorem q302_0 (E : mj_E) (d w c : Nat) (hi : Nat → Nat → Int32) (hl : Nat → Nat → Int64) : mj_den mj_P E d 302 0 [Value.retAddr 6] [] (mj_hw w c hi hl) = if (1 : Int32) = 0 then mj_den mj_P E d 302 17 [Value.retAddr 6] [] (mj_hw w c hi hl) else if ¬ (0 : Int32) = 0 then mj_den mj_P E d 302 17 [Value.retAddr 6] [] (mj_hw w c hi hl) else mj_den mj_P E d 302 18 [Value.retAddr 6] [Value.int (1 : Int32)] (mj_hw w c hi hl) := by
  rw [mj_den_eq, f302_0]
  exact zt_getstatic2 rfl (zt_if_eq rfl rfl (zt_aloadc_n rfl (Nat.le_of_ble_eq_true rfl) rfl (zt_strc (Nat.le_of_ble_eq_true rfl) (Nat.le_of_ble_eq_true rfl) rfl (zt_if_ne rfl rfl (zt_iconst rfl (zt_goto rfl))))))
set_option maxRecDepth 100000 in
theorem q302_0_1 (E : mj_E) (d w c : Nat) (hi : Nat → Nat → Int32) (hl : Nat → Nat → Int64) : mj_den mj_P E d 302 0 [Value.retAddr 5] [] (mj_hw w c hi hl) = if (1 : Int32) = 0 then mj_den mj_P E d 302 17 [Value.retAddr 5] [] (mj_hw w c hi hl) else if ¬ (0 : Int32) = 0 then mj_den mj_P E d 302 17 [Value.retAddr 5] [] (mj_hw w c hi hl) else mj_den mj_P E d 302 18 [Value.retAddr 5] [Value.int (1 : Int32)] (mj_hw w c hi hl) := by
  rw [mj_den_eq, f302_0]
  exact zt_getstatic2 rfl (zt_if_eq rfl rfl (zt_aloadc_n rfl (Nat.le_of_ble_eq_true rfl) rfl (zt_strc (Nat.le_of_ble_eq_true rfl) (Nat.le_of_ble_eq_true rfl) rfl (zt_if_ne rfl rfl (zt_iconst rfl (zt_goto rfl))))))
set_option maxRecDepth 100000 in
theorem q302_0_2 (E : mj_E) (d w c : Nat) (hi : Nat → Nat → Int32) (hl : Nat → Nat → Int64) : mj_den mj_P E d 302 0 [Value.retAddr 4] [] (mj_hw w c hi hl) = if (1 : Int32) = 0 then mj_den mj_P E d 302 17 [Value.retAddr 4] [] (mj_hw w c hi hl) else if ¬ (0 : Int32) = 0 then mj_den mj_P E d 302 17 [Value.retAddr 4] [] (mj_hw w c hi hl) else mj_den mj_P E d 302 18 [Value.retAddr 4] [Value.int (1 : Int32)] (mj_hw w c hi hl) := by
  rw [mj_den_eq, f302_0]
  exact zt_getstatic2 rfl (zt_if_eq rfl rfl (zt_aloadc_n rfl (Nat.le_of_ble_eq_true rfl) rfl (zt_strc (Nat.le_of_ble_eq_true rfl) (Nat.le_of_ble_eq_true rfl) rfl (zt_if_ne rfl rfl (zt_iconst rfl (zt_goto rfl))))))
set_option maxRecDepth 100000 in
theorem q302_0_3 (E : mj_E) (d w c : Nat) (hi : Nat → Nat → Int32) (hl : Nat → Nat → Int64) : mj_den mj_P E d 302 0 [Value.retAddr 3] [] (mj_hw w c hi hl) = if (1 : Int32) = 0 then mj_den mj_P E d 302 17 [Value.retAddr 3] [] (mj_hw w c hi hl) else if ¬ (0 : Int32) = 0 then mj_den mj_P E d 302 17 [Value.retAddr 3] [] (mj_hw w c hi hl) else mj_den mj_P E d 302 18 [Value.retAddr 3] [Value.int (1 : Int32)] (mj_hw w c hi hl) := by
  rw [mj_den_eq, f302_0]
  exact zt_getstatic2 rfl (zt_if_eq rfl rfl (zt_aloadc_n rfl (Nat.le_of_ble_eq_true rfl) rfl (zt_strc (Nat.le_of_ble_eq_true rfl) (Nat.le_of_ble_eq_true rfl) rfl (zt_if_ne rfl rfl (zt_iconst rfl (zt_goto rfl))))))
set_option maxRecDepth 100000 in
theorem q302_0_4 (E : mj_E) (d w c : Nat) (hi : Nat → Nat → Int32) (hl : Nat → Nat → Int64) : mj_den mj_P E d 302 0 [Value.retAddr 7] [] (mj_hw w c hi hl) = if (1 : Int32) = 0 then mj_den mj_P E d 302 17 [Value.retAddr 7] [] (mj_hw w c hi hl) else if ¬ (0 : Int32) = 0 then mj_den mj_P E d 302 17 [Value.retAddr 7] [] (mj_hw w c hi hl) else mj_den mj_P E d 302 18 [Value.retAddr 7] [Value.int (1 : Int32)] (mj_hw w c hi hl) := by
  rw [mj_den_eq, f302_0]
  exact zt_getstatic2 rfl (zt_if_eq rfl rfl (zt_aloadc_n rfl (Nat.le_of_ble_eq_true rfl) rfl (zt_strc (Nat.le_of_ble_eq_true rfl) (Nat.le_of_ble_eq_true rfl) rfl (zt_if_ne rfl rfl (zt_iconst rfl (zt_goto rfl))))))
set_option maxRecDepth 100000 in
theorem f302_17 : mj_find (mj_P 302).2.2.2.2 17 = [(.iconst 0, 1, 0, [])] := rfl
set_option maxRecDepth 100000 in
theorem q302_17 (E : mj_E) (d w c : Nat) (hi : Nat → Nat → Int32) (hl : Nat → Nat → Int64) : mj_den mj_P E d 302 17 [Value.retAddr 6] [] (mj_hw w c hi hl) = mj_den mj_P E d 302 18 [Value.retAddr 6] [Value.int (0 : Int32)] (mj_hw w c hi hl) := by
  rw [mj_den_eq, f302_17]
  exact zt_iconst rfl (zt_end rfl)
set_option maxRecDepth 100000 in
theorem q302_17_1 (E : mj_E) (d w c : Nat) (hi : Nat → Nat → Int32) (hl : Nat → Nat → Int64) : mj_den mj_P E d 302 17 [Value.retAddr 5] [] (mj_hw w c hi hl) = mj_den mj_P E d 302 18 [Value.retAddr 5] [Value.int (0 : Int32)] (mj_hw w c hi hl) := by
  rw [mj_den_eq, f302_17]
  exact zt_iconst rfl (zt_end rfl)
set_option maxRecDepth 100000 in
theorem q302_17_2 (E : mj_E) (d w c : Nat) (hi : Nat → Nat → Int32) (hl : Nat → Nat → Int64) : mj_den mj_P E d 302 17 [Value.retAddr 4] [] (mj_hw w c hi hl) = mj_den mj_P E d 302 18 [Value.retAddr 4] [Value.int (0 : Int32)] (mj_hw w c hi hl) := by
  rw [mj_den_eq, f302_17]
  exact zt_iconst rfl (zt_end rfl)
set_option maxRecDepth 100000 in
theorem q302_17_3 (E : mj_E) (d w c : Nat) (hi : Nat → Nat → Int32) (hl : Nat → Nat → Int64) : mj_den mj_P E d 302 17 [Value.retAddr 3] [] (mj_hw w c hi hl) = mj_den mj_P E d 302 18 [Value.retAddr 3] [Value.int (0 : Int32)] (mj_hw w c hi hl) := by
  rw [mj_den_eq, f302_17]
  exact zt_iconst rfl (zt_end rfl)
set_option maxRecDepth 100000 in
theorem q302_17_4 (E : mj_E) (d w c : Nat) (hi : Nat → Nat → Int32) (hl : Nat → Nat → Int64) : mj_den mj_P E d 302 17 [Value.retAddr 7] [] (mj_hw w c hi hl) = mj_den mj_P E d 302 18 [Value.retAddr 7] [Value.int (0 : Int32)] (mj_hw w c hi hl) := by
  rw [mj_den_eq, f302_17]
  exact zt_iconst rfl (zt_end rfl)
set_option maxRecDepth 100000 in
theorem f302_18 : mj_find (mj_P 302).2.2.2.2 18 = [(.ireturn, 1, 0, [1])] := rfl
set_option maxRecDepth 100000 in
theorem q302_18 (E : mj_E) (d w c : Nat) (hi : Nat → Nat → Int32) (hl : Nat → Nat → Int64) (s0 : Int32) : mj_den mj_P E d 302 18 [Value.retAddr 6] [Value.int s0] (mj_hw w c hi hl) = if s0 = 0 ∨ s0 = 1 then some (some (Value.int s0), (mj_hw w c hi hl)) else none := by
  rw [mj_den_eq, f302_18]
  exact zt_ireturn1
set_option maxRecDepth 100000 in
theorem q302_18_1 (E : mj_E) (d w c : Nat) (hi : Nat → Nat → Int32) (hl : Nat → Nat → Int64) (s0 : Int32) : mj_den mj_P E d 302 18 [Value.retAddr 5] [Value.int s0] (mj_hw w c hi hl) = if s0 = 0 ∨ s0 = 1 then some (some (Value.int s0), (mj_hw w c hi hl)) else none := by
  rw [mj_den_eq, f302_18]
  exact zt_ireturn1
set_option maxRecDepth 100000 in
theorem q302_18_2 (E : mj_E) (d w c : Nat) (hi : Nat → Nat → Int32) (hl : Nat → Nat → Int64) (s0 : Int32) : mj_den mj_P E d 302 18 [Value.retAddr 4] [Value.int s0] (mj_hw w c hi hl) = if s0 = 0 ∨ s0 = 1 then some (some (Value.int s0), (mj_hw w c hi hl)) else none := by
  rw [mj_den_eq, f302_18]
  exact zt_ireturn1
set_option maxRecDepth 100000 in
theorem q302_18_3 (E : mj_E) (d w c : Nat) (hi : Nat → Nat → Int32) (hl : Nat → Nat → Int64) (s0 : Int32) : mj_den mj_P E d 302 18 [Value.retAddr 3] [Value.int s0] (mj_hw w c hi hl) = if s0 = 0 ∨ s0 = 1 then some (some (Value.int s0), (mj_hw w c hi hl)) else none := by
  rw [mj_den_eq, f302_18]
  exact zt_ireturn1
set_option maxRecDepth 100000 in
theorem q302_18_4 (E : mj_E) (d w c : Nat) (hi : Nat → Nat → Int32) (hl : Nat → Nat → Int64) (s0 : Int32) : mj_den mj_P E d 302 18 [Value.retAddr 7] [Value.int s0] (mj_hw w c hi hl) = if s0 = 0 ∨ s0 = 1 then some (some (Value.int s0), (mj_hw w c hi hl)) else none := by
  rw [mj_den_eq, f302_18]
  exact zt_ireturn1
set_option maxRecDepth 100000 in
theorem f303_0 : mj_find (mj_P 303).2.2.2.2 0 = [(.iload_n 0, 1, 0, []), (.iload_n 1, 1, 0, []), (.getstatic 1053, 3, 0, [3, 889, 0]), (.invokestatic 1059, 3, 0, [1, 309, 0, 3, 1, 891, 892, 161, 893])] := rfl
set_option maxRecDepth 100000 in
theorem q303_0 (E : mj_E) (d w c : Nat) (hi : Nat → Nat → Int32) (hl : Nat → Nat → Int64) (v0 : Int32) (v1 : Int32) : mj_den mj_P E d 303 0 [Value.int v0, Value.int v1] [] (mj_hw w c hi hl) = mj_bi (mj_dc mj_P E d 309 [Value.int v0, Value.int v1, Value.retAddr 13] (mj_hw w c hi hl)) (fun x1 h1 => mj_den mj_P E d 303 8 [Value.int v0, Value.int v1] [Value.int x1] h1) := by
  rw [mj_den_eq, f303_0]
  exact zt_iload_n rfl rfl (zt_iload_n rfl rfl (zt_getstatic3 rfl (zt_call1_1 (Nat.le_of_ble_eq_true rfl) rfl (Nat.le_of_ble_eq_true rfl) rfl rfl)))
set_option maxRecDepth 100000 in
theorem f303_8 : mj_find (mj_P 303).2.2.2.2 8 = [(.pop, 1, 0, []), (.return_, 1, 0, [])] := rfl
set_option maxRecDepth 100000 in
theorem q303_8 (E : mj_E) (d w c : Nat) (hi : Nat → Nat → Int32) (hl : Nat → Nat → Int64) (v0 : Int32) (v1 : Int32) (s0 : Int32) : mj_den mj_P E d 303 8 [Value.int v0, Value.int v1] [Value.int s0] (mj_hw w c hi hl) = some (none, (mj_hw w c hi hl)) := by
  rw [mj_den_eq, f303_8]
  exact zt_pop rfl (zt_return)
set_option maxRecDepth 100000 in
theorem f305_0 : mj_find (mj_P 305).2.2.2.2 0 = [(.iload_n 1, 1, 0, []), (.aload_n 0, 1, 0, []), (.arraylength, 1, 0, []), (.invokestatic 9, 3, 0, [1, 303, 0, 2, 0, 886, 887, 159, 888])] := rfl
set_option maxRecDepth 100000 in
theorem q305_0 (E : mj_E) (d w c : Nat) (hi : Nat → Nat → Int32) (hl : Nat → Nat → Int64) (v1 : Int32) : mj_den mj_P E d 305 0 [Value.retAddr 11, Value.int v1] [] (mj_hw w c hi hl) = if (E 11).1 ≤ 65536 then mj_bv (mj_dc mj_P E d 303 [Value.int v1, Value.int (Int32.ofNat (E 11).1)] (mj_hw w c hi hl)) (fun h1 => mj_den mj_P E d 305 6 [Value.retAddr 11, Value.int v1] [] h1) else none := by
  rw [mj_den_eq, f305_0]
  exact zt_iload_n rfl rfl (zt_aloadc_n rfl (Nat.le_of_ble_eq_true rfl) rfl (zt_alenc (by decide) rfl (zt_call1_0 (Nat.le_of_ble_eq_true rfl) rfl (Nat.le_of_ble_eq_true rfl) rfl rfl)))
set_option maxRecDepth 100000 in
theorem q305_0_1 (E : mj_E) (d w c : Nat) (hi : Nat → Nat → Int32) (hl : Nat → Nat → Int64) (v1 : Int32) : mj_den mj_P E d 305 0 [Value.retAddr 10, Value.int v1] [] (mj_hw w c hi hl) = if (E 10).1 ≤ 65536 then mj_bv (mj_dc mj_P E d 303 [Value.int v1, Value.int (Int32.ofNat (E 10).1)] (mj_hw w c hi hl)) (fun h1 => mj_den mj_P E d 305 6 [Value.retAddr 10, Value.int v1] [] h1) else none := by
  rw [mj_den_eq, f305_0]
  exact zt_iload_n rfl rfl (zt_aloadc_n rfl (Nat.le_of_ble_eq_true rfl) rfl (zt_alenc (by decide) rfl (zt_call1_0 (Nat.le_of_ble_eq_true rfl) rfl (Nat.le_of_ble_eq_true rfl) rfl rfl)))
set_option maxRecDepth 100000 in
theorem q305_0_2 (E : mj_E) (d w c : Nat) (hi : Nat → Nat → Int32) (hl : Nat → Nat → Int64) (v1 : Int32) : mj_den mj_P E d 305 0 [Value.retAddr 9, Value.int v1] [] (mj_hw w c hi hl) = if (E 9).1 ≤ 65536 then mj_bv (mj_dc mj_P E d 303 [Value.int v1, Value.int (Int32.ofNat (E 9).1)] (mj_hw w c hi hl)) (fun h1 => mj_den mj_P E d 305 6 [Value.retAddr 9, Value.int v1] [] h1) else none := by
  rw [mj_den_eq, f305_0]
  exact zt_iload_n rfl rfl (zt_aloadc_n rfl (Nat.le_of_ble_eq_true rfl) rfl (zt_alenc (by decide) rfl (zt_call1_0 (Nat.le_of_ble_eq_true rfl) rfl (Nat.le_of_ble_eq_true rfl) rfl rfl)))
set_option maxRecDepth 100000 in
theorem q305_0_3 (E : mj_E) (d w c : Nat) (hi : Nat → Nat → Int32) (hl : Nat → Nat → Int64) (v1 : Int32) : mj_den mj_P E d 305 0 [Value.retAddr 8, Value.int v1] [] (mj_hw w c hi hl) = if (E 8).1 ≤ 65536 then mj_bv (mj_dc mj_P E d 303 [Value.int v1, Value.int (Int32.ofNat (E 8).1)] (mj_hw w c hi hl)) (fun h1 => mj_den mj_P E d 305 6 [Value.retAddr 8, Value.int v1] [] h1) else none := by
  rw [mj_den_eq, f305_0]
  exact zt_iload_n rfl rfl (zt_aloadc_n rfl (Nat.le_of_ble_eq_true rfl) rfl (zt_alenc (by decide) rfl (zt_call1_0 (Nat.le_of_ble_eq_true rfl) rfl (Nat.le_of_ble_eq_true rfl) rfl rfl)))
set_option maxRecDepth 100000 in
theorem f305_6 : mj_find (mj_P 305).2.2.2.2 6 = [(.aload_n 0, 1, 0, []), (.iload_n 1, 1, 0, []), (.baload, 1, 0, []), (.sipush 255, 3, 255, []), (.iand, 1, 0, []), (.i2c, 1, 0, []), (.ireturn, 1, 0, [2])] := rfl
set_option maxRecDepth 100000 in
theorem q305_6 (E : mj_E) (d w c : Nat) (hi : Nat → Nat → Int32) (hl : Nat → Nat → Int64) (v1 : Int32) : mj_den mj_P E d 305 6 [Value.retAddr 11, Value.int v1] [] (mj_hw w c hi hl) = if (E 11).1 ≤ 65536 then (if 0 ≤ v1 ∧ (v1).toNatClampNeg < (E 11).1 then if narrow .char (Value.int (((((E 11).2 (v1).toNatClampNeg) &&& (255 : Int32)).toUInt32 % 65536).toInt32)) = Value.int (((((E 11).2 (v1).toNatClampNeg) &&& (255 : Int32)).toUInt32 % 65536).toInt32) then some (some (Value.int (((((E 11).2 (v1).toNatClampNeg) &&& (255 : Int32)).toUInt32 % 65536).toInt32)), (mj_hw w c hi hl)) else none else none) else none := by
  rw [mj_den_eq, f305_6]
  exact zt_aloadc_n rfl (Nat.le_of_ble_eq_true rfl) rfl (zt_iload_n rfl rfl (zt_balc (Nat.le_of_ble_eq_true rfl) (Nat.le_of_ble_eq_true rfl) rfl (zt_sipush rfl (zt_iand rfl (zt_i2c rfl (zt_ireturn2))))))
set_option maxRecDepth 100000 in
theorem q305_6_1 (E : mj_E) (d w c : Nat) (hi : Nat → Nat → Int32) (hl : Nat → Nat → Int64) (v1 : Int32) : mj_den mj_P E d 305 6 [Value.retAddr 10, Value.int v1] [] (mj_hw w c hi hl) = if (E 10).1 ≤ 65536 then (if 0 ≤ v1 ∧ (v1).toNatClampNeg < (E 10).1 then if narrow .char (Value.int (((((E 10).2 (v1).toNatClampNeg) &&& (255 : Int32)).toUInt32 % 65536).toInt32)) = Value.int (((((E 10).2 (v1).toNatClampNeg) &&& (255 : Int32)).toUInt32 % 65536).toInt32) then some (some (Value.int (((((E 10).2 (v1).toNatClampNeg) &&& (255 : Int32)).toUInt32 % 65536).toInt32)), (mj_hw w c hi hl)) else none else none) else none := by
  rw [mj_den_eq, f305_6]
  exact zt_aloadc_n rfl (Nat.le_of_ble_eq_true rfl) rfl (zt_iload_n rfl rfl (zt_balc (Nat.le_of_ble_eq_true rfl) (Nat.le_of_ble_eq_true rfl) rfl (zt_sipush rfl (zt_iand rfl (zt_i2c rfl (zt_ireturn2))))))
set_option maxRecDepth 100000 in
theorem q305_6_2 (E : mj_E) (d w c : Nat) (hi : Nat → Nat → Int32) (hl : Nat → Nat → Int64) (v1 : Int32) : mj_den mj_P E d 305 6 [Value.retAddr 9, Value.int v1] [] (mj_hw w c hi hl) = if (E 9).1 ≤ 65536 then (if 0 ≤ v1 ∧ (v1).toNatClampNeg < (E 9).1 then if narrow .char (Value.int (((((E 9).2 (v1).toNatClampNeg) &&& (255 : Int32)).toUInt32 % 65536).toInt32)) = Value.int (((((E 9).2 (v1).toNatClampNeg) &&& (255 : Int32)).toUInt32 % 65536).toInt32) then some (some (Value.int (((((E 9).2 (v1).toNatClampNeg) &&& (255 : Int32)).toUInt32 % 65536).toInt32)), (mj_hw w c hi hl)) else none else none) else none := by
  rw [mj_den_eq, f305_6]
  exact zt_aloadc_n rfl (Nat.le_of_ble_eq_true rfl) rfl (zt_iload_n rfl rfl (zt_balc (Nat.le_of_ble_eq_true rfl) (Nat.le_of_ble_eq_true rfl) rfl (zt_sipush rfl (zt_iand rfl (zt_i2c rfl (zt_ireturn2))))))
set_option maxRecDepth 100000 in
theorem q305_6_3 (E : mj_E) (d w c : Nat) (hi : Nat → Nat → Int32) (hl : Nat → Nat → Int64) (v1 : Int32) : mj_den mj_P E d 305 6 [Value.retAddr 8, Value.int v1] [] (mj_hw w c hi hl) = if (E 8).1 ≤ 65536 then (if 0 ≤ v1 ∧ (v1).toNatClampNeg < (E 8).1 then if narrow .char (Value.int (((((E 8).2 (v1).toNatClampNeg) &&& (255 : Int32)).toUInt32 % 65536).toInt32)) = Value.int (((((E 8).2 (v1).toNatClampNeg) &&& (255 : Int32)).toUInt32 % 65536).toInt32) then some (some (Value.int (((((E 8).2 (v1).toNatClampNeg) &&& (255 : Int32)).toUInt32 % 65536).toInt32)), (mj_hw w c hi hl)) else none else none) else none := by
  rw [mj_den_eq, f305_6]
  exact zt_aloadc_n rfl (Nat.le_of_ble_eq_true rfl) rfl (zt_iload_n rfl rfl (zt_balc (Nat.le_of_ble_eq_true rfl) (Nat.le_of_ble_eq_true rfl) rfl (zt_sipush rfl (zt_iand rfl (zt_i2c rfl (zt_ireturn2))))))
set_option maxRecDepth 100000 in
theorem f306_0 : mj_find (mj_P 306).2.2.2.2 0 = [(.iload_n 0, 1, 0, []), (.ifCond .lt 14, 3, 0, [15]), (.iload_n 0, 1, 0, []), (.sipush 255, 3, 255, []), (.if_icmp .gt 7, 3, 0, [15]), (.iconst 1, 1, 1, []), (.goto 4, 3, 0, [16])] := rfl
set_option maxRecDepth 100000 in
theorem q306_0 (E : mj_E) (d w c : Nat) (hi : Nat → Nat → Int32) (hl : Nat → Nat → Int64) (v0 : Int32) : mj_den mj_P E d 306 0 [Value.int v0] [] (mj_hw w c hi hl) = if v0 < 0 then mj_den mj_P E d 306 15 [Value.int v0] [] (mj_hw w c hi hl) else if (255 : Int32) < v0 then mj_den mj_P E d 306 15 [Value.int v0] [] (mj_hw w c hi hl) else mj_den mj_P E d 306 16 [Value.int v0] [Value.int (1 : Int32)] (mj_hw w c hi hl) := by
  rw [mj_den_eq, f306_0]
  exact zt_iload_n rfl rfl (zt_if_lt rfl rfl (zt_iload_n rfl rfl (zt_sipush rfl (zt_icmp_gt rfl rfl (zt_iconst rfl (zt_goto rfl))))))
set_option maxRecDepth 100000 in
theorem f306_15 : mj_find (mj_P 306).2.2.2.2 15 = [(.iconst 0, 1, 0, [])] := rfl
set_option maxRecDepth 100000 in
theorem q306_15 (E : mj_E) (d w c : Nat) (hi : Nat → Nat → Int32) (hl : Nat → Nat → Int64) (v0 : Int32) : mj_den mj_P E d 306 15 [Value.int v0] [] (mj_hw w c hi hl) = mj_den mj_P E d 306 16 [Value.int v0] [Value.int (0 : Int32)] (mj_hw w c hi hl) := by
  rw [mj_den_eq, f306_15]
  exact zt_iconst rfl (zt_end rfl)
set_option maxRecDepth 100000 in
theorem f306_16 : mj_find (mj_P 306).2.2.2.2 16 = [(.ireturn, 1, 0, [1])] := rfl
set_option maxRecDepth 100000 in
theorem q306_16 (E : mj_E) (d w c : Nat) (hi : Nat → Nat → Int32) (hl : Nat → Nat → Int64) (v0 : Int32) (s0 : Int32) : mj_den mj_P E d 306 16 [Value.int v0] [Value.int s0] (mj_hw w c hi hl) = if s0 = 0 ∨ s0 = 1 then some (some (Value.int s0), (mj_hw w c hi hl)) else none := by
  rw [mj_den_eq, f306_16]
  exact zt_ireturn1
set_option maxRecDepth 100000 in
theorem f307_0 : mj_find (mj_P 307).2.2.2.2 0 = [(.iload_n 1, 1, 0, []), (.invokestatic 88, 3, 0, [1, 306, 0, 1, 1, 933, 934, 160, 935])] := rfl
set_option maxRecDepth 100000 in
theorem q307_0 (E : mj_E) (d w c : Nat) (hi : Nat → Nat → Int32) (hl : Nat → Nat → Int64) (v1 : Int32) (v2 : Int32) (v3 : Int32) : mj_den mj_P E d 307 0 [Value.retAddr 12, Value.int v1, Value.int v2, Value.int v3] [] (mj_hw w c hi hl) = mj_bi (mj_dc mj_P E d 306 [Value.int v1] (mj_hw w c hi hl)) (fun x1 h1 => mj_den mj_P E d 307 4 [Value.retAddr 12, Value.int v1, Value.int v2, Value.int v3] [Value.int x1] h1) := by
  rw [mj_den_eq, f307_0]
  exact zt_iload_n rfl rfl (zt_call1_1 (Nat.le_of_ble_eq_true rfl) rfl (Nat.le_of_ble_eq_true rfl) rfl rfl)
set_option maxRecDepth 100000 in
theorem f307_4 : mj_find (mj_P 307).2.2.2.2 4 = [(.ifCond .ne 5, 3, 0, [9]), (.iconst (-1), 1, (-1), []), (.ireturn, 1, 0, [0])] := rfl
set_option maxRecDepth 100000 in
theorem q307_4 (E : mj_E) (d w c : Nat) (hi : Nat → Nat → Int32) (hl : Nat → Nat → Int64) (v1 : Int32) (v2 : Int32) (v3 : Int32) (s0 : Int32) : mj_den mj_P E d 307 4 [Value.retAddr 12, Value.int v1, Value.int v2, Value.int v3] [Value.int s0] (mj_hw w c hi hl) = if ¬ s0 = 0 then mj_den mj_P E d 307 9 [Value.retAddr 12, Value.int v1, Value.int v2, Value.int v3] [] (mj_hw w c hi hl) else some (some (Value.int (-1 : Int32)), (mj_hw w c hi hl)) := by
  rw [mj_den_eq, f307_4]
  exact zt_if_ne rfl rfl (zt_iconst rfl (zt_ireturn0))
set_option maxRecDepth 100000 in
theorem f307_9 : mj_find (mj_P 307).2.2.2.2 9 = [(.iload_n 2, 1, 0, []), (.iconst 0, 1, 0, []), (.invokestatic 92, 3, 0, [1, 295, 0, 2, 1, 936, 782, 157, 783])] := rfl
set_option maxRecDepth 100000 in
theorem q307_9 (E : mj_E) (d w c : Nat) (hi : Nat → Nat → Int32) (hl : Nat → Nat → Int64) (v1 : Int32) (v2 : Int32) (v3 : Int32) : mj_den mj_P E d 307 9 [Value.retAddr 12, Value.int v1, Value.int v2, Value.int v3] [] (mj_hw w c hi hl) = mj_bi (mj_dc mj_P E d 295 [Value.int v2, Value.int (0 : Int32)] (mj_hw w c hi hl)) (fun x1 h1 => mj_den mj_P E d 307 14 [Value.retAddr 12, Value.int v1, Value.int v2, Value.int v3] [Value.int x1] h1) := by
  rw [mj_den_eq, f307_9]
  exact zt_iload_n rfl rfl (zt_iconst rfl (zt_call1_1 (Nat.le_of_ble_eq_true rfl) rfl (Nat.le_of_ble_eq_true rfl) rfl rfl))
set_option maxRecDepth 100000 in
theorem f307_14 : mj_find (mj_P 307).2.2.2.2 14 = [(.istore_n 2, 1, 0, []), (.iload_n 3, 1, 0, []), (.aload_n 0, 1, 0, []), (.arraylength, 1, 0, []), (.invokestatic 38, 3, 0, [1, 296, 0, 2, 1, 937, 728, 157, 729])] := rfl
set_option maxRecDepth 100000 in
theorem q307_14 (E : mj_E) (d w c : Nat) (hi : Nat → Nat → Int32) (hl : Nat → Nat → Int64) (v1 : Int32) (v2 : Int32) (v3 : Int32) (s0 : Int32) : mj_den mj_P E d 307 14 [Value.retAddr 12, Value.int v1, Value.int v2, Value.int v3] [Value.int s0] (mj_hw w c hi hl) = if (E 12).1 ≤ 65536 then mj_bi (mj_dc mj_P E d 296 [Value.int v3, Value.int (Int32.ofNat (E 12).1)] (mj_hw w c hi hl)) (fun x1 h1 => mj_den mj_P E d 307 21 [Value.retAddr 12, Value.int v1, Value.int s0, Value.int v3] [Value.int x1] h1) else none := by
  rw [mj_den_eq, f307_14]
  exact zt_istore_n (Nat.le_of_ble_eq_true rfl) rfl rfl (zt_iload_n rfl rfl (zt_aloadc_n rfl (Nat.le_of_ble_eq_true rfl) rfl (zt_alenc (by decide) rfl (zt_call1_1 (Nat.le_of_ble_eq_true rfl) rfl (Nat.le_of_ble_eq_true rfl) rfl rfl))))
set_option maxRecDepth 100000 in
theorem f307_21 : mj_find (mj_P 307).2.2.2.2 21 = [(.istore_n 3, 1, 0, []), (.iload_n 2, 1, 0, []), (.iload_n 3, 1, 0, []), (.if_icmp .lt 5, 3, 0, [29]), (.iconst (-1), 1, (-1), []), (.ireturn, 1, 0, [0])] := rfl
set_option maxRecDepth 100000 in
theorem q307_21 (E : mj_E) (d w c : Nat) (hi : Nat → Nat → Int32) (hl : Nat → Nat → Int64) (v1 : Int32) (v2 : Int32) (v3 : Int32) (s0 : Int32) : mj_den mj_P E d 307 21 [Value.retAddr 12, Value.int v1, Value.int v2, Value.int v3] [Value.int s0] (mj_hw w c hi hl) = if v2 < s0 then mj_den mj_P E d 307 29 [Value.retAddr 12, Value.int v1, Value.int v2, Value.int s0] [] (mj_hw w c hi hl) else some (some (Value.int (-1 : Int32)), (mj_hw w c hi hl)) := by
  rw [mj_den_eq, f307_21]
  exact zt_istore_n (Nat.le_of_ble_eq_true rfl) rfl rfl (zt_iload_n rfl rfl (zt_iload_n rfl rfl (zt_icmp_lt rfl rfl (zt_iconst rfl (zt_ireturn0)))))
set_option maxRecDepth 100000 in
theorem f307_29 : mj_find (mj_P 307).2.2.2.2 29 = [(.aload_n 0, 1, 0, []), (.iload_n 1, 1, 0, []), (.iload_n 2, 1, 0, []), (.iload_n 3, 1, 0, []), (.invokestatic 95, 3, 0, [1, 308, 0, 4, 1, 938, 939, 160, 940])] := rfl
set_option maxRecDepth 100000 in
theorem q307_29 (E : mj_E) (d w c : Nat) (hi : Nat → Nat → Int32) (hl : Nat → Nat → Int64) (v1 : Int32) (v2 : Int32) (v3 : Int32) : mj_den mj_P E d 307 29 [Value.retAddr 12, Value.int v1, Value.int v2, Value.int v3] [] (mj_hw w c hi hl) = mj_bi (mj_dc mj_P E d 308 [Value.retAddr 12, Value.int v1, Value.int v2, Value.int v3] (mj_hw w c hi hl)) (fun x1 h1 => mj_den mj_P E d 307 36 [Value.retAddr 12, Value.int v1, Value.int v2, Value.int v3] [Value.int x1] h1) := by
  rw [mj_den_eq, f307_29]
  exact zt_aloadc_n rfl (Nat.le_of_ble_eq_true rfl) rfl (zt_iload_n rfl rfl (zt_iload_n rfl rfl (zt_iload_n rfl rfl (zt_call1_1 (Nat.le_of_ble_eq_true rfl) rfl (Nat.le_of_ble_eq_true rfl) rfl rfl))))
set_option maxRecDepth 100000 in
theorem f307_36 : mj_find (mj_P 307).2.2.2.2 36 = [(.ireturn, 1, 0, [0])] := rfl
set_option maxRecDepth 100000 in
theorem q307_36 (E : mj_E) (d w c : Nat) (hi : Nat → Nat → Int32) (hl : Nat → Nat → Int64) (v1 : Int32) (v2 : Int32) (v3 : Int32) (s0 : Int32) : mj_den mj_P E d 307 36 [Value.retAddr 12, Value.int v1, Value.int v2, Value.int v3] [Value.int s0] (mj_hw w c hi hl) = some (some (Value.int s0), (mj_hw w c hi hl)) := by
  rw [mj_den_eq, f307_36]
  exact zt_ireturn0
set_option maxRecDepth 100000 in
theorem f308_0 : mj_find (mj_P 308).2.2.2.2 0 = [(.iload_n 1, 1, 0, []), (.i2b, 1, 0, []), (.istore 4, 2, 0, []), (.iload_n 2, 1, 0, []), (.istore 5, 2, 0, [])] := rfl
set_option maxRecDepth 100000 in
theorem q308_0 (E : mj_E) (d w c : Nat) (hi : Nat → Nat → Int32) (hl : Nat → Nat → Int64) (v1 : Int32) (v2 : Int32) (v3 : Int32) : mj_den mj_P E d 308 0 [Value.retAddr 12, Value.int v1, Value.int v2, Value.int v3, Value.float 0, Value.float 0] [] (mj_hw w c hi hl) = mj_den mj_P E d 308 7 [Value.retAddr 12, Value.int v1, Value.int v2, Value.int v3, Value.int ((v1).toInt8.toInt32), Value.int v2] [] (mj_hw w c hi hl) := by
  rw [mj_den_eq, f308_0]
  exact zt_iload_n rfl rfl (zt_i2b rfl (zt_istore (Nat.le_of_ble_eq_true rfl) rfl rfl (zt_iload_n rfl rfl (zt_istore (Nat.le_of_ble_eq_true rfl) rfl rfl (zt_end rfl)))))
set_option maxRecDepth 100000 in
theorem f308_7 : mj_find (mj_P 308).2.2.2.2 7 = [(.iload 5, 2, 0, []), (.iload_n 3, 1, 0, []), (.if_icmp .ge 21, 3, 0, [31]), (.aload_n 0, 1, 0, []), (.iload 5, 2, 0, []), (.baload, 1, 0, []), (.iload 4, 2, 0, []), (.if_icmp .ne 6, 3, 0, [25]), (.iload 5, 2, 0, []), (.ireturn, 1, 0, [0])] := rfl
set_option maxRecDepth 100000 in
theorem q308_7 (E : mj_E) (d w c : Nat) (hi : Nat → Nat → Int32) (hl : Nat → Nat → Int64) (v1 : Int32) (v2 : Int32) (v3 : Int32) (v4 : Int32) (v5 : Int32) : mj_den mj_P E d 308 7 [Value.retAddr 12, Value.int v1, Value.int v2, Value.int v3, Value.int v4, Value.int v5] [] (mj_hw w c hi hl) = if v3 ≤ v5 then mj_den mj_P E d 308 31 [Value.retAddr 12, Value.int v1, Value.int v2, Value.int v3, Value.int v4, Value.int v5] [] (mj_hw w c hi hl) else if (E 12).1 ≤ 65536 then (if 0 ≤ v5 ∧ (v5).toNatClampNeg < (E 12).1 then if ¬ ((E 12).2 (v5).toNatClampNeg) = v4 then mj_den mj_P E d 308 25 [Value.retAddr 12, Value.int v1, Value.int v2, Value.int v3, Value.int v4, Value.int v5] [] (mj_hw w c hi hl) else some (some (Value.int v5), (mj_hw w c hi hl)) else none) else none := by
  rw [mj_den_eq, f308_7]
  exact zt_iload rfl rfl (zt_iload_n rfl rfl (zt_icmp_ge rfl rfl (zt_aloadc_n rfl (Nat.le_of_ble_eq_true rfl) rfl (zt_iload rfl rfl (zt_balc (Nat.le_of_ble_eq_true rfl) (Nat.le_of_ble_eq_true rfl) rfl (zt_iload rfl rfl (zt_icmp_ne rfl rfl (zt_iload rfl rfl (zt_ireturn0)))))))))
set_option maxRecDepth 100000 in
theorem f308_25 : mj_find (mj_P 308).2.2.2.2 25 = [(.iinc 5 1, 3, 1, []), (.goto (-21), 3, 0, [7])] := rfl
set_option maxRecDepth 100000 in
theorem q308_25 (E : mj_E) (d w c : Nat) (hi : Nat → Nat → Int32) (hl : Nat → Nat → Int64) (v1 : Int32) (v2 : Int32) (v3 : Int32) (v4 : Int32) (v5 : Int32) : mj_den mj_P E d 308 25 [Value.retAddr 12, Value.int v1, Value.int v2, Value.int v3, Value.int v4, Value.int v5] [] (mj_hw w c hi hl) = mj_den mj_P E d 308 7 [Value.retAddr 12, Value.int v1, Value.int v2, Value.int v3, Value.int v4, Value.int (v5 + (1 : Int32))] [] (mj_hw w c hi hl) := by
  rw [mj_den_eq, f308_25]
  exact zt_iinc rfl (Nat.le_of_ble_eq_true rfl) rfl rfl (zt_goto rfl)
set_option maxRecDepth 100000 in
theorem f308_31 : mj_find (mj_P 308).2.2.2.2 31 = [(.iconst (-1), 1, (-1), []), (.ireturn, 1, 0, [0])] := rfl
set_option maxRecDepth 100000 in
theorem q308_31 (E : mj_E) (d w c : Nat) (hi : Nat → Nat → Int32) (hl : Nat → Nat → Int64) (v1 : Int32) (v2 : Int32) (v3 : Int32) (v4 : Int32) (v5 : Int32) : mj_den mj_P E d 308 31 [Value.retAddr 12, Value.int v1, Value.int v2, Value.int v3, Value.int v4, Value.int v5] [] (mj_hw w c hi hl) = some (some (Value.int (-1 : Int32)), (mj_hw w c hi hl)) := by
  rw [mj_den_eq, f308_31]
  exact zt_iconst rfl (zt_ireturn0)
set_option maxRecDepth 100000 in
theorem f309_0 : mj_find (mj_P 309).2.2.2.2 0 = [(.iload_n 0, 1, 0, []), (.ifCond .lt 8, 3, 0, [9]), (.iload_n 0, 1, 0, []), (.iload_n 1, 1, 0, []), (.if_icmp .lt 10, 3, 0, [16])] := rfl
set_option maxRecDepth 100000 in
theorem q309_0 (E : mj_E) (d w c : Nat) (hi : Nat → Nat → Int32) (hl : Nat → Nat → Int64) (v0 : Int32) (v1 : Int32) : mj_den mj_P E d 309 0 [Value.int v0, Value.int v1, Value.retAddr 13] [] (mj_hw w c hi hl) = if v0 < 0 then mj_den mj_P E d 309 9 [Value.int v0, Value.int v1, Value.retAddr 13] [] (mj_hw w c hi hl) else if v0 < v1 then mj_den mj_P E d 309 16 [Value.int v0, Value.int v1, Value.retAddr 13] [] (mj_hw w c hi hl) else mj_den mj_P E d 309 9 [Value.int v0, Value.int v1, Value.retAddr 13] [] (mj_hw w c hi hl) := by
  rw [mj_den_eq, f309_0]
  exact zt_iload_n rfl rfl (zt_if_lt rfl rfl (zt_iload_n rfl rfl (zt_iload_n rfl rfl (zt_icmp_lt rfl rfl (zt_end rfl)))))
set_option maxRecDepth 100000 in
theorem f309_16 : mj_find (mj_P 309).2.2.2.2 16 = [(.iload_n 0, 1, 0, []), (.ireturn, 1, 0, [0])] := rfl
set_option maxRecDepth 100000 in
theorem q309_16 (E : mj_E) (d w c : Nat) (hi : Nat → Nat → Int32) (hl : Nat → Nat → Int64) (v0 : Int32) (v1 : Int32) : mj_den mj_P E d 309 16 [Value.int v0, Value.int v1, Value.retAddr 13] [] (mj_hw w c hi hl) = some (some (Value.int v0), (mj_hw w c hi hl)) := by
  rw [mj_den_eq, f309_16]
  exact zt_iload_n rfl rfl (zt_ireturn0)
set_option maxRecDepth 100000 in
theorem f311_18 : mj_find (mj_P 311).2.2.2.2 18 = [(.iload_n 3, 1, 0, []), (.aload_n 0, 1, 0, []), (.arraylength, 1, 0, []), (.bipush 6, 2, 6, []), (.isub, 1, 0, []), (.if_icmp .gt 1355, 3, 0, [1379]), (.aload_n 0, 1, 0, []), (.iload_n 3, 1, 0, []), (.iaload, 1, 0, []), (.bipush 63, 2, 63, []), (.iand, 1, 0, []), (.tableswitch 1340 0 38 #[171, 194, 263, 296, 339, 362, 395, 408, 471, 494, 517, 540, 573, 606, 649, 672, 705, 738, 781, 804, 827, 860, 883, 916, 939, 972, 1015, 1038, 1071, 1094, 1117, 1150, 1173, 1196, 1219, 1242, 1265, 1278, 1317], 171, 0, [1373, 204, 227, 296, 329, 372, 395, 428, 441, 504, 527, 550, 573, 606, 639, 682, 705, 738, 771, 814, 837, 860, 893, 916, 949, 972, 1005, 1048, 1071, 1104, 1127, 1150, 1183, 1206, 1229, 1252, 1275, 1298, 1311, 1350])] := rfl
set_option maxRecDepth 100000 in
theorem q311_18 (E : mj_E) (d w c : Nat) (hi : Nat → Nat → Int32) (hl : Nat → Nat → Int64) (v3 : Int32) : mj_den mj_P E d 311 18 [Value.retAddr 0, Value.ref 0, Value.ref 205, Value.int v3] [] (mj_hw w c hi hl) = if (E 0).1 ≤ 65536 then if ((Int32.ofNat (E 0).1) - (6 : Int32)) < v3 then mj_den mj_P E d 311 1379 [Value.retAddr 0, Value.ref 0, Value.ref 205, Value.int v3] [] (mj_hw w c hi hl) else if (E 0).1 ≤ 65536 then (if 0 ≤ v3 ∧ (v3).toNatClampNeg < (E 0).1 then mj_den mj_P E d 311 (mj_sw (((E 0).2 (v3).toNatClampNeg) &&& (63 : Int32)) (0 : Int32) 1373 [204, 227, 296, 329, 372, 395, 428, 441, 504, 527, 550, 573, 606, 639, 682, 705, 738, 771, 814, 837, 860, 893, 916, 949, 972, 1005, 1048, 1071, 1104, 1127, 1150, 1183, 1206, 1229, 1252, 1275, 1298, 1311, 1350]) [Value.retAddr 0, Value.ref 0, Value.ref 205, Value.int v3] [] (mj_hw w c hi hl) else none) else none else none := by
  rw [mj_den_eq, f311_18]
  exact zt_iload_n rfl rfl (zt_aloadc_n rfl (Nat.le_of_ble_eq_true rfl) rfl (zt_alenc (by decide) rfl (zt_bipush rfl (zt_isub rfl (zt_icmp_gt rfl rfl (zt_aloadc_n rfl (Nat.le_of_ble_eq_true rfl) rfl (zt_iload_n rfl rfl (zt_ialc (Nat.le_of_ble_eq_true rfl) rfl (zt_bipush rfl (zt_iand rfl (zt_sw rfl)))))))))))
set_option maxRecDepth 100000 in
theorem f311_204 : mj_find (mj_P 311).2.2.2.2 204 = [(.aload_n 1, 1, 0, []), (.aload_n 0, 1, 0, []), (.iload_n 3, 1, 0, []), (.iconst 1, 1, 1, []), (.iadd, 1, 0, []), (.iaload, 1, 0, []), (.invokevirtual 13, 3, 0, [0, 107, 11, 1, 1, 671, 672, 673, 143, 674])] := rfl
set_option maxRecDepth 100000 in
theorem q311_204 (E : mj_E) (d w c : Nat) (hi : Nat → Nat → Int32) (hl : Nat → Nat → Int64) (v3 : Int32) : mj_den mj_P E d 311 204 [Value.retAddr 0, Value.ref 0, Value.ref 205, Value.int v3] [] (mj_hw w c hi hl) = if (E 0).1 ≤ 65536 then (if 0 ≤ (v3 + (1 : Int32)) ∧ ((v3 + (1 : Int32))).toNatClampNeg < (E 0).1 then mj_bi (mj_dc mj_P E d 107 [Value.ref 0, Value.int ((E 0).2 ((v3 + (1 : Int32))).toNatClampNeg)] (mj_hw w c hi hl)) (fun x1 h1 => mj_den mj_P E d 311 213 [Value.retAddr 0, Value.ref 0, Value.ref 205, Value.int v3] [Value.int x1] h1) else none) else none := by
  rw [mj_den_eq, f311_204]
  exact zt_aload_n rfl rfl (zt_aloadc_n rfl (Nat.le_of_ble_eq_true rfl) rfl (zt_iload_n rfl rfl (zt_iconst rfl (zt_iadd rfl (zt_ialc (Nat.le_of_ble_eq_true rfl) rfl (zt_call0_1 rfl (mjkd0 _ _ _ _) (Nat.le_of_ble_eq_true rfl) rfl rfl))))))
set_option maxRecDepth 100000 in
theorem f311_213 : mj_find (mj_P 311).2.2.2.2 213 = [(.aload_n 2, 1, 0, []), (.aload_n 0, 1, 0, []), (.iload_n 3, 1, 0, []), (.iconst 1, 1, 1, []), (.iadd, 1, 0, []), (.iaload, 1, 0, []), (.invokevirtual 17, 3, 0, [0, 162, 12, 1, 1, 1616, 1617, 1618, 156, 1619])] := rfl
set_option maxRecDepth 100000 in
theorem q311_213 (E : mj_E) (d w c : Nat) (hi : Nat → Nat → Int32) (hl : Nat → Nat → Int64) (v3 : Int32) (s0 : Int32) : mj_den mj_P E d 311 213 [Value.retAddr 0, Value.ref 0, Value.ref 205, Value.int v3] [Value.int s0] (mj_hw w c hi hl) = if (E 0).1 ≤ 65536 then (if 0 ≤ (v3 + (1 : Int32)) ∧ ((v3 + (1 : Int32))).toNatClampNeg < (E 0).1 then mj_bi (mj_dc mj_P E d 162 [Value.ref 205, Value.int ((E 0).2 ((v3 + (1 : Int32))).toNatClampNeg)] (mj_hw w c hi hl)) (fun x1 h1 => mj_den mj_P E d 311 222 [Value.retAddr 0, Value.ref 0, Value.ref 205, Value.int v3] [Value.int x1, Value.int s0] h1) else none) else none := by
  rw [mj_den_eq, f311_213]
  exact zt_aload_n rfl rfl (zt_aloadc_n rfl (Nat.le_of_ble_eq_true rfl) rfl (zt_iload_n rfl rfl (zt_iconst rfl (zt_iadd rfl (zt_ialc (Nat.le_of_ble_eq_true rfl) rfl (zt_call0_1 rfl (mjkd205 _ _ _ _) (Nat.le_of_ble_eq_true rfl) rfl rfl))))))
set_option maxRecDepth 100000 in
theorem f311_222 : mj_find (mj_P 311).2.2.2.2 222 = [(.if_icmp .eq 1151, 3, 0, [1373]), (.iconst 0, 1, 0, []), (.ireturn, 1, 0, [1])] := rfl
set_option maxRecDepth 100000 in
theorem q311_222 (E : mj_E) (d w c : Nat) (hi : Nat → Nat → Int32) (hl : Nat → Nat → Int64) (v3 : Int32) (s0 : Int32) (s1 : Int32) : mj_den mj_P E d 311 222 [Value.retAddr 0, Value.ref 0, Value.ref 205, Value.int v3] [Value.int s0, Value.int s1] (mj_hw w c hi hl) = if s1 = s0 then mj_den mj_P E d 311 1373 [Value.retAddr 0, Value.ref 0, Value.ref 205, Value.int v3] [] (mj_hw w c hi hl) else if (0 : Int32) = 0 ∨ (0 : Int32) = 1 then some (some (Value.int (0 : Int32)), (mj_hw w c hi hl)) else none := by
  rw [mj_den_eq, f311_222]
  exact zt_icmp_eq rfl rfl (zt_iconst rfl (zt_ireturn1))
set_option maxRecDepth 100000 in
theorem f311_227 : mj_find (mj_P 311).2.2.2.2 227 = [(.aload_n 1, 1, 0, []), (.aload_n 0, 1, 0, []), (.iload_n 3, 1, 0, []), (.iconst 1, 1, 1, []), (.iadd, 1, 0, []), (.iaload, 1, 0, []), (.aload_n 0, 1, 0, []), (.iload_n 3, 1, 0, []), (.iconst 2, 1, 2, []), (.iadd, 1, 0, []), (.iaload, 1, 0, []), (.aload_n 0, 1, 0, []), (.iload_n 3, 1, 0, []), (.iconst 3, 1, 3, []), (.iadd, 1, 0, []), (.iaload, 1, 0, []), (.aload_n 0, 1, 0, []), (.iload_n 3, 1, 0, []), (.iconst 4, 1, 4, []), (.iadd, 1, 0, []), (.iaload, 1, 0, []), (.ifCond .eq 7, 3, 0, [255]), (.iconst 1, 1, 1, []), (.goto 4, 3, 0, [256])] := rfl
set_option maxRecDepth 100000 in
theorem q311_227 (E : mj_E) (d w c : Nat) (hi : Nat → Nat → Int32) (hl : Nat → Nat → Int64) (v3 : Int32) : mj_den mj_P E d 311 227 [Value.retAddr 0, Value.ref 0, Value.ref 205, Value.int v3] [] (mj_hw w c hi hl) = if (E 0).1 ≤ 65536 then (if 0 ≤ (v3 + (1 : Int32)) ∧ ((v3 + (1 : Int32))).toNatClampNeg < (E 0).1 then if (E 0).1 ≤ 65536 then (if 0 ≤ (v3 + (2 : Int32)) ∧ ((v3 + (2 : Int32))).toNatClampNeg < (E 0).1 then if (E 0).1 ≤ 65536 then (if 0 ≤ (v3 + (3 : Int32)) ∧ ((v3 + (3 : Int32))).toNatClampNeg < (E 0).1 then if (E 0).1 ≤ 65536 then (if 0 ≤ (v3 + (4 : Int32)) ∧ ((v3 + (4 : Int32))).toNatClampNeg < (E 0).1 then if ((E 0).2 ((v3 + (4 : Int32))).toNatClampNeg) = 0 then mj_den mj_P E d 311 255 [Value.retAddr 0, Value.ref 0, Value.ref 205, Value.int v3] [Value.int ((E 0).2 ((v3 + (3 : Int32))).toNatClampNeg), Value.int ((E 0).2 ((v3 + (2 : Int32))).toNatClampNeg), Value.int ((E 0).2 ((v3 + (1 : Int32))).toNatClampNeg), Value.ref 0] (mj_hw w c hi hl) else mj_den mj_P E d 311 256 [Value.retAddr 0, Value.ref 0, Value.ref 205, Value.int v3] [Value.int (1 : Int32), Value.int ((E 0).2 ((v3 + (3 : Int32))).toNatClampNeg), Value.int ((E 0).2 ((v3 + (2 : Int32))).toNatClampNeg), Value.int ((E 0).2 ((v3 + (1 : Int32))).toNatClampNeg), Value.ref 0] (mj_hw w c hi hl) else none) else none else none) else none else none) else none else none) else none := by
  rw [mj_den_eq, f311_227]
  exact zt_aload_n rfl rfl (zt_aloadc_n rfl (Nat.le_of_ble_eq_true rfl) rfl (zt_iload_n rfl rfl (zt_iconst rfl (zt_iadd rfl (zt_ialc (Nat.le_of_ble_eq_true rfl) rfl (zt_aloadc_n rfl (Nat.le_of_ble_eq_true rfl) rfl (zt_iload_n rfl rfl (zt_iconst rfl (zt_iadd rfl (zt_ialc (Nat.le_of_ble_eq_true rfl) rfl (zt_aloadc_n rfl (Nat.le_of_ble_eq_true rfl) rfl (zt_iload_n rfl rfl (zt_iconst rfl (zt_iadd rfl (zt_ialc (Nat.le_of_ble_eq_true rfl) rfl (zt_aloadc_n rfl (Nat.le_of_ble_eq_true rfl) rfl (zt_iload_n rfl rfl (zt_iconst rfl (zt_iadd rfl (zt_ialc (Nat.le_of_ble_eq_true rfl) rfl (zt_if_eq rfl rfl (zt_iconst rfl (zt_goto rfl)))))))))))))))))))))))
set_option maxRecDepth 100000 in
theorem f311_255 : mj_find (mj_P 311).2.2.2.2 255 = [(.iconst 0, 1, 0, [])] := rfl
set_option maxRecDepth 100000 in
theorem q311_255 (E : mj_E) (d w c : Nat) (hi : Nat → Nat → Int32) (hl : Nat → Nat → Int64) (v3 : Int32) (s0 : Int32) (s1 : Int32) (s2 : Int32) : mj_den mj_P E d 311 255 [Value.retAddr 0, Value.ref 0, Value.ref 205, Value.int v3] [Value.int s0, Value.int s1, Value.int s2, Value.ref 0] (mj_hw w c hi hl) = mj_den mj_P E d 311 256 [Value.retAddr 0, Value.ref 0, Value.ref 205, Value.int v3] [Value.int (0 : Int32), Value.int s0, Value.int s1, Value.int s2, Value.ref 0] (mj_hw w c hi hl) := by
  rw [mj_den_eq, f311_255]
  exact zt_iconst rfl (zt_end rfl)
set_option maxRecDepth 100000 in
theorem f311_256 : mj_find (mj_P 311).2.2.2.2 256 = [(.invokevirtual 18, 3, 0, [0, 108, 11, 4, 1, 679, 680, 681, 143, 682])] := rfl
set_option maxRecDepth 100000 in
theorem q311_256 (E : mj_E) (d w c : Nat) (hi : Nat → Nat → Int32) (hl : Nat → Nat → Int64) (v3 : Int32) (s0 : Int32) (s1 : Int32) (s2 : Int32) (s3 : Int32) : mj_den mj_P E d 311 256 [Value.retAddr 0, Value.ref 0, Value.ref 205, Value.int v3] [Value.int s0, Value.int s1, Value.int s2, Value.int s3, Value.ref 0] (mj_hw w c hi hl) = mj_bi (mj_dc mj_P E d 108 [Value.ref 0, Value.int s3, Value.int s2, Value.int s1, Value.int s0] (mj_hw w c hi hl)) (fun x1 h1 => mj_den mj_P E d 311 259 [Value.retAddr 0, Value.ref 0, Value.ref 205, Value.int v3] [Value.int x1] h1) := by
  rw [mj_den_eq, f311_256]
  exact zt_call0_1 rfl (mjkd0 _ _ _ _) (Nat.le_of_ble_eq_true rfl) rfl rfl
set_option maxRecDepth 100000 in
theorem f311_259 : mj_find (mj_P 311).2.2.2.2 259 = [(.aload_n 2, 1, 0, []), (.aload_n 0, 1, 0, []), (.iload_n 3, 1, 0, []), (.iconst 1, 1, 1, []), (.iadd, 1, 0, []), (.iaload, 1, 0, []), (.aload_n 0, 1, 0, []), (.iload_n 3, 1, 0, []), (.iconst 2, 1, 2, []), (.iadd, 1, 0, []), (.iaload, 1, 0, []), (.aload_n 0, 1, 0, []), (.iload_n 3, 1, 0, []), (.iconst 3, 1, 3, []), (.iadd, 1, 0, []), (.iaload, 1, 0, []), (.aload_n 0, 1, 0, []), (.iload_n 3, 1, 0, []), (.iconst 4, 1, 4, []), (.iadd, 1, 0, []), (.iaload, 1, 0, []), (.ifCond .eq 7, 3, 0, [287]), (.iconst 1, 1, 1, []), (.goto 4, 3, 0, [288])] := rfl
set_option maxRecDepth 100000 in
theorem q311_259 (E : mj_E) (d w c : Nat) (hi : Nat → Nat → Int32) (hl : Nat → Nat → Int64) (v3 : Int32) (s0 : Int32) : mj_den mj_P E d 311 259 [Value.retAddr 0, Value.ref 0, Value.ref 205, Value.int v3] [Value.int s0] (mj_hw w c hi hl) = if (E 0).1 ≤ 65536 then (if 0 ≤ (v3 + (1 : Int32)) ∧ ((v3 + (1 : Int32))).toNatClampNeg < (E 0).1 then if (E 0).1 ≤ 65536 then (if 0 ≤ (v3 + (2 : Int32)) ∧ ((v3 + (2 : Int32))).toNatClampNeg < (E 0).1 then if (E 0).1 ≤ 65536 then (if 0 ≤ (v3 + (3 : Int32)) ∧ ((v3 + (3 : Int32))).toNatClampNeg < (E 0).1 then if (E 0).1 ≤ 65536 then (if 0 ≤ (v3 + (4 : Int32)) ∧ ((v3 + (4 : Int32))).toNatClampNeg < (E 0).1 then if ((E 0).2 ((v3 + (4 : Int32))).toNatClampNeg) = 0 then mj_den mj_P E d 311 287 [Value.retAddr 0, Value.ref 0, Value.ref 205, Value.int v3] [Value.int ((E 0).2 ((v3 + (3 : Int32))).toNatClampNeg), Value.int ((E 0).2 ((v3 + (2 : Int32))).toNatClampNeg), Value.int ((E 0).2 ((v3 + (1 : Int32))).toNatClampNeg), Value.ref 205, Value.int s0] (mj_hw w c hi hl) else mj_den mj_P E d 311 288 [Value.retAddr 0, Value.ref 0, Value.ref 205, Value.int v3] [Value.int (1 : Int32), Value.int ((E 0).2 ((v3 + (3 : Int32))).toNatClampNeg), Value.int ((E 0).2 ((v3 + (2 : Int32))).toNatClampNeg), Value.int ((E 0).2 ((v3 + (1 : Int32))).toNatClampNeg), Value.ref 205, Value.int s0] (mj_hw w c hi hl) else none) else none else none) else none else none) else none else none) else none := by
  rw [mj_den_eq, f311_259]
  exact zt_aload_n rfl rfl (zt_aloadc_n rfl (Nat.le_of_ble_eq_true rfl) rfl (zt_iload_n rfl rfl (zt_iconst rfl (zt_iadd rfl (zt_ialc (Nat.le_of_ble_eq_true rfl) rfl (zt_aloadc_n rfl (Nat.le_of_ble_eq_true rfl) rfl (zt_iload_n rfl rfl (zt_iconst rfl (zt_iadd rfl (zt_ialc (Nat.le_of_ble_eq_true rfl) rfl (zt_aloadc_n rfl (Nat.le_of_ble_eq_true rfl) rfl (zt_iload_n rfl rfl (zt_iconst rfl (zt_iadd rfl (zt_ialc (Nat.le_of_ble_eq_true rfl) rfl (zt_aloadc_n rfl (Nat.le_of_ble_eq_true rfl) rfl (zt_iload_n rfl rfl (zt_iconst rfl (zt_iadd rfl (zt_ialc (Nat.le_of_ble_eq_true rfl) rfl (zt_if_eq rfl rfl (zt_iconst rfl (zt_goto rfl)))))))))))))))))))))))
set_option maxRecDepth 100000 in
theorem f311_287 : mj_find (mj_P 311).2.2.2.2 287 = [(.iconst 0, 1, 0, [])] := rfl
set_option maxRecDepth 100000 in
theorem q311_287 (E : mj_E) (d w c : Nat) (hi : Nat → Nat → Int32) (hl : Nat → Nat → Int64) (v3 : Int32) (s0 : Int32) (s1 : Int32) (s2 : Int32) (s4 : Int32) : mj_den mj_P E d 311 287 [Value.retAddr 0, Value.ref 0, Value.ref 205, Value.int v3] [Value.int s0, Value.int s1, Value.int s2, Value.ref 205, Value.int s4] (mj_hw w c hi hl) = mj_den mj_P E d 311 288 [Value.retAddr 0, Value.ref 0, Value.ref 205, Value.int v3] [Value.int (0 : Int32), Value.int s0, Value.int s1, Value.int s2, Value.ref 205, Value.int s4] (mj_hw w c hi hl) := by
  rw [mj_den_eq, f311_287]
  exact zt_iconst rfl (zt_end rfl)
set_option maxRecDepth 100000 in
theorem f311_288 : mj_find (mj_P 311).2.2.2.2 288 = [(.invokevirtual 22, 3, 0, [0, 170, 12, 4, 1, 1620, 1621, 1622, 156, 1623])] := rfl
set_option maxRecDepth 100000 in
theorem q311_288 (E : mj_E) (d w c : Nat) (hi : Nat → Nat → Int32) (hl : Nat → Nat → Int64) (v3 : Int32) (s0 : Int32) (s1 : Int32) (s2 : Int32) (s3 : Int32) (s5 : Int32) : mj_den mj_P E d 311 288 [Value.retAddr 0, Value.ref 0, Value.ref 205, Value.int v3] [Value.int s0, Value.int s1, Value.int s2, Value.int s3, Value.ref 205, Value.int s5] (mj_hw w c hi hl) = mj_bi (mj_dc mj_P E d 170 [Value.ref 205, Value.int s3, Value.int s2, Value.int s1, Value.int s0] (mj_hw w c hi hl)) (fun x1 h1 => mj_den mj_P E d 311 291 [Value.retAddr 0, Value.ref 0, Value.ref 205, Value.int v3] [Value.int x1, Value.int s5] h1) := by
  rw [mj_den_eq, f311_288]
  exact zt_call0_1 rfl (mjkd205 _ _ _ _) (Nat.le_of_ble_eq_true rfl) rfl rfl
set_option maxRecDepth 100000 in
theorem f311_291 : mj_find (mj_P 311).2.2.2.2 291 = [(.if_icmp .eq 1082, 3, 0, [1373]), (.iconst 0, 1, 0, []), (.ireturn, 1, 0, [1])] := rfl
set_option maxRecDepth 100000 in
theorem q311_291 (E : mj_E) (d w c : Nat) (hi : Nat → Nat → Int32) (hl : Nat → Nat → Int64) (v3 : Int32) (s0 : Int32) (s1 : Int32) : mj_den mj_P E d 311 291 [Value.retAddr 0, Value.ref 0, Value.ref 205, Value.int v3] [Value.int s0, Value.int s1] (mj_hw w c hi hl) = if s1 = s0 then mj_den mj_P E d 311 1373 [Value.retAddr 0, Value.ref 0, Value.ref 205, Value.int v3] [] (mj_hw w c hi hl) else if (0 : Int32) = 0 ∨ (0 : Int32) = 1 then some (some (Value.int (0 : Int32)), (mj_hw w c hi hl)) else none := by
  rw [mj_den_eq, f311_291]
  exact zt_icmp_eq rfl rfl (zt_iconst rfl (zt_ireturn1))
set_option maxRecDepth 100000 in
theorem f311_296 : mj_find (mj_P 311).2.2.2.2 296 = [(.aload_n 1, 1, 0, []), (.aload_n 0, 1, 0, []), (.iload_n 3, 1, 0, []), (.iconst 1, 1, 1, []), (.iadd, 1, 0, []), (.iaload, 1, 0, []), (.aload_n 0, 1, 0, []), (.iload_n 3, 1, 0, []), (.iconst 2, 1, 2, []), (.iadd, 1, 0, []), (.iaload, 1, 0, []), (.invokevirtual 23, 3, 0, [0, 109, 11, 2, 1, 690, 691, 692, 143, 693])] := rfl
set_option maxRecDepth 100000 in
theorem q311_296 (E : mj_E) (d w c : Nat) (hi : Nat → Nat → Int32) (hl : Nat → Nat → Int64) (v3 : Int32) : mj_den mj_P E d 311 296 [Value.retAddr 0, Value.ref 0, Value.ref 205, Value.int v3] [] (mj_hw w c hi hl) = if (E 0).1 ≤ 65536 then (if 0 ≤ (v3 + (1 : Int32)) ∧ ((v3 + (1 : Int32))).toNatClampNeg < (E 0).1 then if (E 0).1 ≤ 65536 then (if 0 ≤ (v3 + (2 : Int32)) ∧ ((v3 + (2 : Int32))).toNatClampNeg < (E 0).1 then mj_bi (mj_dc mj_P E d 109 [Value.ref 0, Value.int ((E 0).2 ((v3 + (1 : Int32))).toNatClampNeg), Value.int ((E 0).2 ((v3 + (2 : Int32))).toNatClampNeg)] (mj_hw w c hi hl)) (fun x1 h1 => mj_den mj_P E d 311 310 [Value.retAddr 0, Value.ref 0, Value.ref 205, Value.int v3] [Value.int x1] h1) else none) else none else none) else none := by
  rw [mj_den_eq, f311_296]
  exact zt_aload_n rfl rfl (zt_aloadc_n rfl (Nat.le_of_ble_eq_true rfl) rfl (zt_iload_n rfl rfl (zt_iconst rfl (zt_iadd rfl (zt_ialc (Nat.le_of_ble_eq_true rfl) rfl (zt_aloadc_n rfl (Nat.le_of_ble_eq_true rfl) rfl (zt_iload_n rfl rfl (zt_iconst rfl (zt_iadd rfl (zt_ialc (Nat.le_of_ble_eq_true rfl) rfl (zt_call0_1 rfl (mjkd0 _ _ _ _) (Nat.le_of_ble_eq_true rfl) rfl rfl)))))))))))
set_option maxRecDepth 100000 in
theorem f311_310 : mj_find (mj_P 311).2.2.2.2 310 = [(.aload_n 2, 1, 0, []), (.aload_n 0, 1, 0, []), (.iload_n 3, 1, 0, []), (.iconst 1, 1, 1, []), (.iadd, 1, 0, []), (.iaload, 1, 0, []), (.aload_n 0, 1, 0, []), (.iload_n 3, 1, 0, []), (.iconst 2, 1, 2, []), (.iadd, 1, 0, []), (.iaload, 1, 0, []), (.invokevirtual 27, 3, 0, [0, 171, 12, 2, 1, 1628, 1629, 1630, 156, 1631])] := rfl
set_option maxRecDepth 100000 in
theorem q311_310 (E : mj_E) (d w c : Nat) (hi : Nat → Nat → Int32) (hl : Nat → Nat → Int64) (v3 : Int32) (s0 : Int32) : mj_den mj_P E d 311 310 [Value.retAddr 0, Value.ref 0, Value.ref 205, Value.int v3] [Value.int s0] (mj_hw w c hi hl) = if (E 0).1 ≤ 65536 then (if 0 ≤ (v3 + (1 : Int32)) ∧ ((v3 + (1 : Int32))).toNatClampNeg < (E 0).1 then if (E 0).1 ≤ 65536 then (if 0 ≤ (v3 + (2 : Int32)) ∧ ((v3 + (2 : Int32))).toNatClampNeg < (E 0).1 then mj_bi (mj_dc mj_P E d 171 [Value.ref 205, Value.int ((E 0).2 ((v3 + (1 : Int32))).toNatClampNeg), Value.int ((E 0).2 ((v3 + (2 : Int32))).toNatClampNeg)] (mj_hw w c hi hl)) (fun x1 h1 => mj_den mj_P E d 311 324 [Value.retAddr 0, Value.ref 0, Value.ref 205, Value.int v3] [Value.int x1, Value.int s0] h1) else none) else none else none) else none := by
  rw [mj_den_eq, f311_310]
  exact zt_aload_n rfl rfl (zt_aloadc_n rfl (Nat.le_of_ble_eq_true rfl) rfl (zt_iload_n rfl rfl (zt_iconst rfl (zt_iadd rfl (zt_ialc (Nat.le_of_ble_eq_true rfl) rfl (zt_aloadc_n rfl (Nat.le_of_ble_eq_true rfl) rfl (zt_iload_n rfl rfl (zt_iconst rfl (zt_iadd rfl (zt_ialc (Nat.le_of_ble_eq_true rfl) rfl (zt_call0_1 rfl (mjkd205 _ _ _ _) (Nat.le_of_ble_eq_true rfl) rfl rfl)))))))))))
set_option maxRecDepth 100000 in
theorem f311_324 : mj_find (mj_P 311).2.2.2.2 324 = [(.if_icmp .eq 1049, 3, 0, [1373]), (.iconst 0, 1, 0, []), (.ireturn, 1, 0, [1])] := rfl
set_option maxRecDepth 100000 in
theorem q311_324 (E : mj_E) (d w c : Nat) (hi : Nat → Nat → Int32) (hl : Nat → Nat → Int64) (v3 : Int32) (s0 : Int32) (s1 : Int32) : mj_den mj_P E d 311 324 [Value.retAddr 0, Value.ref 0, Value.ref 205, Value.int v3] [Value.int s0, Value.int s1] (mj_hw w c hi hl) = if s1 = s0 then mj_den mj_P E d 311 1373 [Value.retAddr 0, Value.ref 0, Value.ref 205, Value.int v3] [] (mj_hw w c hi hl) else if (0 : Int32) = 0 ∨ (0 : Int32) = 1 then some (some (Value.int (0 : Int32)), (mj_hw w c hi hl)) else none := by
  rw [mj_den_eq, f311_324]
  exact zt_icmp_eq rfl rfl (zt_iconst rfl (zt_ireturn1))
set_option maxRecDepth 100000 in
theorem f311_329 : mj_find (mj_P 311).2.2.2.2 329 = [(.aload_n 1, 1, 0, []), (.aload_n 0, 1, 0, []), (.iload_n 3, 1, 0, []), (.iconst 1, 1, 1, []), (.iadd, 1, 0, []), (.iaload, 1, 0, []), (.aload_n 0, 1, 0, []), (.iload_n 3, 1, 0, []), (.iconst 2, 1, 2, []), (.iadd, 1, 0, []), (.iaload, 1, 0, []), (.aload_n 0, 1, 0, []), (.iload_n 3, 1, 0, []), (.iconst 3, 1, 3, []), (.iadd, 1, 0, []), (.iaload, 1, 0, []), (.invokevirtual 28, 3, 0, [0, 110, 11, 3, 1, 698, 699, 700, 143, 701])] := rfl
set_option maxRecDepth 100000 in
theorem q311_329 (E : mj_E) (d w c : Nat) (hi : Nat → Nat → Int32) (hl : Nat → Nat → Int64) (v3 : Int32) : mj_den mj_P E d 311 329 [Value.retAddr 0, Value.ref 0, Value.ref 205, Value.int v3] [] (mj_hw w c hi hl) = if (E 0).1 ≤ 65536 then (if 0 ≤ (v3 + (1 : Int32)) ∧ ((v3 + (1 : Int32))).toNatClampNeg < (E 0).1 then if (E 0).1 ≤ 65536 then (if 0 ≤ (v3 + (2 : Int32)) ∧ ((v3 + (2 : Int32))).toNatClampNeg < (E 0).1 then if (E 0).1 ≤ 65536 then (if 0 ≤ (v3 + (3 : Int32)) ∧ ((v3 + (3 : Int32))).toNatClampNeg < (E 0).1 then mj_bi (mj_dc mj_P E d 110 [Value.ref 0, Value.int ((E 0).2 ((v3 + (1 : Int32))).toNatClampNeg), Value.int ((E 0).2 ((v3 + (2 : Int32))).toNatClampNeg), Value.int ((E 0).2 ((v3 + (3 : Int32))).toNatClampNeg)] (mj_hw w c hi hl)) (fun x1 h1 => mj_den mj_P E d 311 348 [Value.retAddr 0, Value.ref 0, Value.ref 205, Value.int v3] [Value.int x1] h1) else none) else none else none) else none else none) else none := by
  rw [mj_den_eq, f311_329]
  exact zt_aload_n rfl rfl (zt_aloadc_n rfl (Nat.le_of_ble_eq_true rfl) rfl (zt_iload_n rfl rfl (zt_iconst rfl (zt_iadd rfl (zt_ialc (Nat.le_of_ble_eq_true rfl) rfl (zt_aloadc_n rfl (Nat.le_of_ble_eq_true rfl) rfl (zt_iload_n rfl rfl (zt_iconst rfl (zt_iadd rfl (zt_ialc (Nat.le_of_ble_eq_true rfl) rfl (zt_aloadc_n rfl (Nat.le_of_ble_eq_true rfl) rfl (zt_iload_n rfl rfl (zt_iconst rfl (zt_iadd rfl (zt_ialc (Nat.le_of_ble_eq_true rfl) rfl (zt_call0_1 rfl (mjkd0 _ _ _ _) (Nat.le_of_ble_eq_true rfl) rfl rfl))))))))))))))))
set_option maxRecDepth 100000 in
theorem f311_348 : mj_find (mj_P 311).2.2.2.2 348 = [(.aload_n 2, 1, 0, []), (.aload_n 0, 1, 0, []), (.iload_n 3, 1, 0, []), (.iconst 1, 1, 1, []), (.iadd, 1, 0, []), (.iaload, 1, 0, []), (.aload_n 0, 1, 0, []), (.iload_n 3, 1, 0, []), (.iconst 2, 1, 2, []), (.iadd, 1, 0, []), (.iaload, 1, 0, []), (.aload_n 0, 1, 0, []), (.iload_n 3, 1, 0, []), (.iconst 3, 1, 3, []), (.iadd, 1, 0, []), (.iaload, 1, 0, []), (.invokevirtual 32, 3, 0, [0, 173, 12, 3, 1, 1632, 1633, 1634, 156, 1635])] := rfl
set_option maxRecDepth 100000 in
theorem q311_348 (E : mj_E) (d w c : Nat) (hi : Nat → Nat → Int32) (hl : Nat → Nat → Int64) (v3 : Int32) (s0 : Int32) : mj_den mj_P E d 311 348 [Value.retAddr 0, Value.ref 0, Value.ref 205, Value.int v3] [Value.int s0] (mj_hw w c hi hl) = if (E 0).1 ≤ 65536 then (if 0 ≤ (v3 + (1 : Int32)) ∧ ((v3 + (1 : Int32))).toNatClampNeg < (E 0).1 then if (E 0).1 ≤ 65536 then (if 0 ≤ (v3 + (2 : Int32)) ∧ ((v3 + (2 : Int32))).toNatClampNeg < (E 0).1 then if (E 0).1 ≤ 65536 then (if 0 ≤ (v3 + (3 : Int32)) ∧ ((v3 + (3 : Int32))).toNatClampNeg < (E 0).1 then mj_bi (mj_dc mj_P E d 173 [Value.ref 205, Value.int ((E 0).2 ((v3 + (1 : Int32))).toNatClampNeg), Value.int ((E 0).2 ((v3 + (2 : Int32))).toNatClampNeg), Value.int ((E 0).2 ((v3 + (3 : Int32))).toNatClampNeg)] (mj_hw w c hi hl)) (fun x1 h1 => mj_den mj_P E d 311 367 [Value.retAddr 0, Value.ref 0, Value.ref 205, Value.int v3] [Value.int x1, Value.int s0] h1) else none) else none else none) else none else none) else none := by
  rw [mj_den_eq, f311_348]
  exact zt_aload_n rfl rfl (zt_aloadc_n rfl (Nat.le_of_ble_eq_true rfl) rfl (zt_iload_n rfl rfl (zt_iconst rfl (zt_iadd rfl (zt_ialc (Nat.le_of_ble_eq_true rfl) rfl (zt_aloadc_n rfl (Nat.le_of_ble_eq_true rfl) rfl (zt_iload_n rfl rfl (zt_iconst rfl (zt_iadd rfl (zt_ialc (Nat.le_of_ble_eq_true rfl) rfl (zt_aloadc_n rfl (Nat.le_of_ble_eq_true rfl) rfl (zt_iload_n rfl rfl (zt_iconst rfl (zt_iadd rfl (zt_ialc (Nat.le_of_ble_eq_true rfl) rfl (zt_call0_1 rfl (mjkd205 _ _ _ _) (Nat.le_of_ble_eq_true rfl) rfl rfl))))))))))))))))
set_option maxRecDepth 100000 in
theorem f311_367 : mj_find (mj_P 311).2.2.2.2 367 = [(.if_icmp .eq 1006, 3, 0, [1373]), (.iconst 0, 1, 0, []), (.ireturn, 1, 0, [1])] := rfl
set_option maxRecDepth 100000 in
theorem q311_367 (E : mj_E) (d w c : Nat) (hi : Nat → Nat → Int32) (hl : Nat → Nat → Int64) (v3 : Int32) (s0 : Int32) (s1 : Int32) : mj_den mj_P E d 311 367 [Value.retAddr 0, Value.ref 0, Value.ref 205, Value.int v3] [Value.int s0, Value.int s1] (mj_hw w c hi hl) = if s1 = s0 then mj_den mj_P E d 311 1373 [Value.retAddr 0, Value.ref 0, Value.ref 205, Value.int v3] [] (mj_hw w c hi hl) else if (0 : Int32) = 0 ∨ (0 : Int32) = 1 then some (some (Value.int (0 : Int32)), (mj_hw w c hi hl)) else none := by
  rw [mj_den_eq, f311_367]
  exact zt_icmp_eq rfl rfl (zt_iconst rfl (zt_ireturn1))
set_option maxRecDepth 100000 in
theorem f311_372 : mj_find (mj_P 311).2.2.2.2 372 = [(.aload_n 1, 1, 0, []), (.aload_n 0, 1, 0, []), (.iload_n 3, 1, 0, []), (.iconst 1, 1, 1, []), (.iadd, 1, 0, []), (.iaload, 1, 0, []), (.invokevirtual 33, 3, 0, [0, 111, 11, 1, 1, 712, 713, 714, 143, 715])] := rfl
set_option maxRecDepth 100000 in
theorem q311_372 (E : mj_E) (d w c : Nat) (hi : Nat → Nat → Int32) (hl : Nat → Nat → Int64) (v3 : Int32) : mj_den mj_P E d 311 372 [Value.retAddr 0, Value.ref 0, Value.ref 205, Value.int v3] [] (mj_hw w c hi hl) = if (E 0).1 ≤ 65536 then (if 0 ≤ (v3 + (1 : Int32)) ∧ ((v3 + (1 : Int32))).toNatClampNeg < (E 0).1 then mj_bi (mj_dc mj_P E d 111 [Value.ref 0, Value.int ((E 0).2 ((v3 + (1 : Int32))).toNatClampNeg)] (mj_hw w c hi hl)) (fun x1 h1 => mj_den mj_P E d 311 381 [Value.retAddr 0, Value.ref 0, Value.ref 205, Value.int v3] [Value.int x1] h1) else none) else none := by
  rw [mj_den_eq, f311_372]
  exact zt_aload_n rfl rfl (zt_aloadc_n rfl (Nat.le_of_ble_eq_true rfl) rfl (zt_iload_n rfl rfl (zt_iconst rfl (zt_iadd rfl (zt_ialc (Nat.le_of_ble_eq_true rfl) rfl (zt_call0_1 rfl (mjkd0 _ _ _ _) (Nat.le_of_ble_eq_true rfl) rfl rfl))))))
set_option maxRecDepth 100000 in
theorem f311_381 : mj_find (mj_P 311).2.2.2.2 381 = [(.aload_n 2, 1, 0, []), (.aload_n 0, 1, 0, []), (.iload_n 3, 1, 0, []), (.iconst 1, 1, 1, []), (.iadd, 1, 0, []), (.iaload, 1, 0, []), (.invokevirtual 36, 3, 0, [0, 227, 12, 1, 1, 1796, 1797, 1798, 156, 1799])] := rfl
set_option maxRecDepth 100000 in
theorem q311_381 (E : mj_E) (d w c : Nat) (hi : Nat → Nat → Int32) (hl : Nat → Nat → Int64) (v3 : Int32) (s0 : Int32) : mj_den mj_P E d 311 381 [Value.retAddr 0, Value.ref 0, Value.ref 205, Value.int v3] [Value.int s0] (mj_hw w c hi hl) = if (E 0).1 ≤ 65536 then (if 0 ≤ (v3 + (1 : Int32)) ∧ ((v3 + (1 : Int32))).toNatClampNeg < (E 0).1 then mj_bi (mj_dc mj_P E d 227 [Value.ref 205, Value.int ((E 0).2 ((v3 + (1 : Int32))).toNatClampNeg)] (mj_hw w c hi hl)) (fun x1 h1 => mj_den mj_P E d 311 390 [Value.retAddr 0, Value.ref 0, Value.ref 205, Value.int v3] [Value.int x1, Value.int s0] h1) else none) else none := by
  rw [mj_den_eq, f311_381]
  exact zt_aload_n rfl rfl (zt_aloadc_n rfl (Nat.le_of_ble_eq_true rfl) rfl (zt_iload_n rfl rfl (zt_iconst rfl (zt_iadd rfl (zt_ialc (Nat.le_of_ble_eq_true rfl) rfl (zt_call0_1 rfl (mjkd205 _ _ _ _) (Nat.le_of_ble_eq_true rfl) rfl rfl))))))
set_option maxRecDepth 100000 in
theorem f311_390 : mj_find (mj_P 311).2.2.2.2 390 = [(.if_icmp .eq 983, 3, 0, [1373]), (.iconst 0, 1, 0, []), (.ireturn, 1, 0, [1])] := rfl
set_option maxRecDepth 100000 in
theorem q311_390 (E : mj_E) (d w c : Nat) (hi : Nat → Nat → Int32) (hl : Nat → Nat → Int64) (v3 : Int32) (s0 : Int32) (s1 : Int32) : mj_den mj_P E d 311 390 [Value.retAddr 0, Value.ref 0, Value.ref 205, Value.int v3] [Value.int s0, Value.int s1] (mj_hw w c hi hl) = if s1 = s0 then mj_den mj_P E d 311 1373 [Value.retAddr 0, Value.ref 0, Value.ref 205, Value.int v3] [] (mj_hw w c hi hl) else if (0 : Int32) = 0 ∨ (0 : Int32) = 1 then some (some (Value.int (0 : Int32)), (mj_hw w c hi hl)) else none := by
  rw [mj_den_eq, f311_390]
  exact zt_icmp_eq rfl rfl (zt_iconst rfl (zt_ireturn1))
set_option maxRecDepth 100000 in
theorem f311_395 : mj_find (mj_P 311).2.2.2.2 395 = [(.aload_n 1, 1, 0, []), (.aload_n 0, 1, 0, []), (.iload_n 3, 1, 0, []), (.iconst 1, 1, 1, []), (.iadd, 1, 0, []), (.iaload, 1, 0, []), (.aload_n 0, 1, 0, []), (.iload_n 3, 1, 0, []), (.iconst 2, 1, 2, []), (.iadd, 1, 0, []), (.iaload, 1, 0, []), (.invokevirtual 37, 3, 0, [0, 112, 11, 2, 1, 815, 816, 817, 143, 818])] := rfl
set_option maxRecDepth 100000 in
theorem q311_395 (E : mj_E) (d w c : Nat) (hi : Nat → Nat → Int32) (hl : Nat → Nat → Int64) (v3 : Int32) : mj_den mj_P E d 311 395 [Value.retAddr 0, Value.ref 0, Value.ref 205, Value.int v3] [] (mj_hw w c hi hl) = if (E 0).1 ≤ 65536 then (if 0 ≤ (v3 + (1 : Int32)) ∧ ((v3 + (1 : Int32))).toNatClampNeg < (E 0).1 then if (E 0).1 ≤ 65536 then (if 0 ≤ (v3 + (2 : Int32)) ∧ ((v3 + (2 : Int32))).toNatClampNeg < (E 0).1 then mj_bi (mj_dc mj_P E d 112 [Value.ref 0, Value.int ((E 0).2 ((v3 + (1 : Int32))).toNatClampNeg), Value.int ((E 0).2 ((v3 + (2 : Int32))).toNatClampNeg)] (mj_hw w c hi hl)) (fun x1 h1 => mj_den mj_P E d 311 409 [Value.retAddr 0, Value.ref 0, Value.ref 205, Value.int v3] [Value.int x1] h1) else none) else none else none) else none := by
  rw [mj_den_eq, f311_395]
  exact zt_aload_n rfl rfl (zt_aloadc_n rfl (Nat.le_of_ble_eq_true rfl) rfl (zt_iload_n rfl rfl (zt_iconst rfl (zt_iadd rfl (zt_ialc (Nat.le_of_ble_eq_true rfl) rfl (zt_aloadc_n rfl (Nat.le_of_ble_eq_true rfl) rfl (zt_iload_n rfl rfl (zt_iconst rfl (zt_iadd rfl (zt_ialc (Nat.le_of_ble_eq_true rfl) rfl (zt_call0_1 rfl (mjkd0 _ _ _ _) (Nat.le_of_ble_eq_true rfl) rfl rfl)))))))))))
set_option maxRecDepth 100000 in
theorem f311_409 : mj_find (mj_P 311).2.2.2.2 409 = [(.aload_n 2, 1, 0, []), (.aload_n 0, 1, 0, []), (.iload_n 3, 1, 0, []), (.iconst 1, 1, 1, []), (.iadd, 1, 0, []), (.iaload, 1, 0, []), (.aload_n 0, 1, 0, []), (.iload_n 3, 1, 0, []), (.iconst 2, 1, 2, []), (.iadd, 1, 0, []), (.iaload, 1, 0, []), (.invokevirtual 41, 3, 0, [0, 229, 12, 2, 1, 1902, 1903, 1904, 156, 1905])] := rfl
set_option maxRecDepth 100000 in
theorem q311_409 (E : mj_E) (d w c : Nat) (hi : Nat → Nat → Int32) (hl : Nat → Nat → Int64) (v3 : Int32) (s0 : Int32) : mj_den mj_P E d 311 409 [Value.retAddr 0, Value.ref 0, Value.ref 205, Value.int v3] [Value.int s0] (mj_hw w c hi hl) = if (E 0).1 ≤ 65536 then (if 0 ≤ (v3 + (1 : Int32)) ∧ ((v3 + (1 : Int32))).toNatClampNeg < (E 0).1 then if (E 0).1 ≤ 65536 then (if 0 ≤ (v3 + (2 : Int32)) ∧ ((v3 + (2 : Int32))).toNatClampNeg < (E 0).1 then mj_bi (mj_dc mj_P E d 229 [Value.ref 205, Value.int ((E 0).2 ((v3 + (1 : Int32))).toNatClampNeg), Value.int ((E 0).2 ((v3 + (2 : Int32))).toNatClampNeg)] (mj_hw w c hi hl)) (fun x1 h1 => mj_den mj_P E d 311 423 [Value.retAddr 0, Value.ref 0, Value.ref 205, Value.int v3] [Value.int x1, Value.int s0] h1) else none) else none else none) else none := by
  rw [mj_den_eq, f311_409]
  exact zt_aload_n rfl rfl (zt_aloadc_n rfl (Nat.le_of_ble_eq_true rfl) rfl (zt_iload_n rfl rfl (zt_iconst rfl (zt_iadd rfl (zt_ialc (Nat.le_of_ble_eq_true rfl) rfl (zt_aloadc_n rfl (Nat.le_of_ble_eq_true rfl) rfl (zt_iload_n rfl rfl (zt_iconst rfl (zt_iadd rfl (zt_ialc (Nat.le_of_ble_eq_true rfl) rfl (zt_call0_1 rfl (mjkd205 _ _ _ _) (Nat.le_of_ble_eq_true rfl) rfl rfl)))))))))))
set_option maxRecDepth 100000 in
theorem f311_423 : mj_find (mj_P 311).2.2.2.2 423 = [(.if_icmp .eq 950, 3, 0, [1373]), (.iconst 0, 1, 0, []), (.ireturn, 1, 0, [1])] := rfl
set_option maxRecDepth 100000 in
theorem q311_423 (E : mj_E) (d w c : Nat) (hi : Nat → Nat → Int32) (hl : Nat → Nat → Int64) (v3 : Int32) (s0 : Int32) (s1 : Int32) : mj_den mj_P E d 311 423 [Value.retAddr 0, Value.ref 0, Value.ref 205, Value.int v3] [Value.int s0, Value.int s1] (mj_hw w c hi hl) = if s1 = s0 then mj_den mj_P E d 311 1373 [Value.retAddr 0, Value.ref 0, Value.ref 205, Value.int v3] [] (mj_hw w c hi hl) else if (0 : Int32) = 0 ∨ (0 : Int32) = 1 then some (some (Value.int (0 : Int32)), (mj_hw w c hi hl)) else none := by
  rw [mj_den_eq, f311_423]
  exact zt_icmp_eq rfl rfl (zt_iconst rfl (zt_ireturn1))
set_option maxRecDepth 100000 in
theorem f311_428 : mj_find (mj_P 311).2.2.2.2 428 = [(.aload_n 1, 1, 0, []), (.invokevirtual 42, 3, 0, [0, 113, 11, 0, 1, 819, 820, 821, 143, 822])] := rfl
set_option maxRecDepth 100000 in
theorem q311_428 (E : mj_E) (d w c : Nat) (hi : Nat → Nat → Int32) (hl : Nat → Nat → Int64) (v3 : Int32) : mj_den mj_P E d 311 428 [Value.retAddr 0, Value.ref 0, Value.ref 205, Value.int v3] [] (mj_hw w c hi hl) = mj_bi (mj_dc mj_P E d 113 [Value.ref 0] (mj_hw w c hi hl)) (fun x1 h1 => mj_den mj_P E d 311 432 [Value.retAddr 0, Value.ref 0, Value.ref 205, Value.int v3] [Value.int x1] h1) := by
  rw [mj_den_eq, f311_428]
  exact zt_aload_n rfl rfl (zt_call0_1 rfl (mjkd0 _ _ _ _) (Nat.le_of_ble_eq_true rfl) rfl rfl)
set_option maxRecDepth 100000 in
theorem f311_432 : mj_find (mj_P 311).2.2.2.2 432 = [(.aload_n 2, 1, 0, []), (.invokevirtual 46, 3, 0, [0, 231, 12, 0, 1, 1910, 1911, 1912, 156, 1913])] := rfl
set_option maxRecDepth 100000 in
theorem q311_432 (E : mj_E) (d w c : Nat) (hi : Nat → Nat → Int32) (hl : Nat → Nat → Int64) (v3 : Int32) (s0 : Int32) : mj_den mj_P E d 311 432 [Value.retAddr 0, Value.ref 0, Value.ref 205, Value.int v3] [Value.int s0] (mj_hw w c hi hl) = mj_bi (mj_dc mj_P E d 231 [Value.ref 205] (mj_hw w c hi hl)) (fun x1 h1 => mj_den mj_P E d 311 436 [Value.retAddr 0, Value.ref 0, Value.ref 205, Value.int v3] [Value.int x1, Value.int s0] h1) := by
  rw [mj_den_eq, f311_432]
  exact zt_aload_n rfl rfl (zt_call0_1 rfl (mjkd205 _ _ _ _) (Nat.le_of_ble_eq_true rfl) rfl rfl)
set_option maxRecDepth 100000 in
theorem f311_436 : mj_find (mj_P 311).2.2.2.2 436 = [(.if_icmp .eq 937, 3, 0, [1373]), (.iconst 0, 1, 0, []), (.ireturn, 1, 0, [1])] := rfl
set_option maxRecDepth 100000 in
theorem q311_436 (E : mj_E) (d w c : Nat) (hi : Nat → Nat → Int32) (hl : Nat → Nat → Int64) (v3 : Int32) (s0 : Int32) (s1 : Int32) : mj_den mj_P E d 311 436 [Value.retAddr 0, Value.ref 0, Value.ref 205, Value.int v3] [Value.int s0, Value.int s1] (mj_hw w c hi hl) = if s1 = s0 then mj_den mj_P E d 311 1373 [Value.retAddr 0, Value.ref 0, Value.ref 205, Value.int v3] [] (mj_hw w c hi hl) else if (0 : Int32) = 0 ∨ (0 : Int32) = 1 then some (some (Value.int (0 : Int32)), (mj_hw w c hi hl)) else none := by
  rw [mj_den_eq, f311_436]
  exact zt_icmp_eq rfl rfl (zt_iconst rfl (zt_ireturn1))
set_option maxRecDepth 100000 in
theorem f311_441 : mj_find (mj_P 311).2.2.2.2 441 = [(.aload_n 1, 1, 0, []), (.aload_n 0, 1, 0, []), (.iload_n 3, 1, 0, []), (.iconst 1, 1, 1, []), (.iadd, 1, 0, []), (.iaload, 1, 0, []), (.aload_n 0, 1, 0, []), (.iload_n 3, 1, 0, []), (.iconst 2, 1, 2, []), (.iadd, 1, 0, []), (.iaload, 1, 0, []), (.aload_n 0, 1, 0, []), (.iload_n 3, 1, 0, []), (.iconst 3, 1, 3, []), (.iadd, 1, 0, []), (.iaload, 1, 0, []), (.aload_n 0, 1, 0, []), (.iload_n 3, 1, 0, []), (.iconst 4, 1, 4, []), (.iadd, 1, 0, []), (.iaload, 1, 0, []), (.aload_n 0, 1, 0, []), (.iload_n 3, 1, 0, []), (.iconst 5, 1, 5, []), (.iadd, 1, 0, []), (.iaload, 1, 0, []), (.invokevirtual 47, 3, 0, [0, 115, 11, 5, 1, 827, 828, 829, 143, 830])] := rfl
set_option maxRecDepth 100000 in
theorem q311_441 (E : mj_E) (d w c : Nat) (hi : Nat → Nat → Int32) (hl : Nat → Nat → Int64) (v3 : Int32) : mj_den mj_P E d 311 441 [Value.retAddr 0, Value.ref 0, Value.ref 205, Value.int v3] [] (mj_hw w c hi hl) = if (E 0).1 ≤ 65536 then (if 0 ≤ (v3 + (1 : Int32)) ∧ ((v3 + (1 : Int32))).toNatClampNeg < (E 0).1 then if (E 0).1 ≤ 65536 then (if 0 ≤ (v3 + (2 : Int32)) ∧ ((v3 + (2 : Int32))).toNatClampNeg < (E 0).1 then if (E 0).1 ≤ 65536 then (if 0 ≤ (v3 + (3 : Int32)) ∧ ((v3 + (3 : Int32))).toNatClampNeg < (E 0).1 then if (E 0).1 ≤ 65536 then (if 0 ≤ (v3 + (4 : Int32)) ∧ ((v3 + (4 : Int32))).toNatClampNeg < (E 0).1 then if (E 0).1 ≤ 65536 then (if 0 ≤ (v3 + (5 : Int32)) ∧ ((v3 + (5 : Int32))).toNatClampNeg < (E 0).1 then mj_bi (mj_dc mj_P E d 115 [Value.ref 0, Value.int ((E 0).2 ((v3 + (1 : Int32))).toNatClampNeg), Value.int ((E 0).2 ((v3 + (2 : Int32))).toNatClampNeg), Value.int ((E 0).2 ((v3 + (3 : Int32))).toNatClampNeg), Value.int ((E 0).2 ((v3 + (4 : Int32))).toNatClampNeg), Value.int ((E 0).2 ((v3 + (5 : Int32))).toNatClampNeg)] (mj_hw w c hi hl)) (fun x1 h1 => mj_den mj_P E d 311 470 [Value.retAddr 0, Value.ref 0, Value.ref 205, Value.int v3] [Value.int x1] h1) else none) else none else none) else none else none) else none else none) else none else none) else none := by
  rw [mj_den_eq, f311_441]
  exact zt_aload_n rfl rfl (zt_aloadc_n rfl (Nat.le_of_ble_eq_true rfl) rfl (zt_iload_n rfl rfl (zt_iconst rfl (zt_iadd rfl (zt_ialc (Nat.le_of_ble_eq_true rfl) rfl (zt_aloadc_n rfl (Nat.le_of_ble_eq_true rfl) rfl (zt_iload_n rfl rfl (zt_iconst rfl (zt_iadd rfl (zt_ialc (Nat.le_of_ble_eq_true rfl) rfl (zt_aloadc_n rfl (Nat.le_of_ble_eq_true rfl) rfl (zt_iload_n rfl rfl (zt_iconst rfl (zt_iadd rfl (zt_ialc (Nat.le_of_ble_eq_true rfl) rfl (zt_aloadc_n rfl (Nat.le_of_ble_eq_true rfl) rfl (zt_iload_n rfl rfl (zt_iconst rfl (zt_iadd rfl (zt_ialc (Nat.le_of_ble_eq_true rfl) rfl (zt_aloadc_n rfl (Nat.le_of_ble_eq_true rfl) rfl (zt_iload_n rfl rfl (zt_iconst rfl (zt_iadd rfl (zt_ialc (Nat.le_of_ble_eq_true rfl) rfl (zt_call0_1 rfl (mjkd0 _ _ _ _) (Nat.le_of_ble_eq_true rfl) rfl rfl))))))))))))))))))))))))))
set_option maxRecDepth 100000 in
theorem f311_470 : mj_find (mj_P 311).2.2.2.2 470 = [(.aload_n 2, 1, 0, []), (.aload_n 0, 1, 0, []), (.iload_n 3, 1, 0, []), (.iconst 1, 1, 1, []), (.iadd, 1, 0, []), (.iaload, 1, 0, []), (.aload_n 0, 1, 0, []), (.iload_n 3, 1, 0, []), (.iconst 2, 1, 2, []), (.iadd, 1, 0, []), (.iaload, 1, 0, []), (.aload_n 0, 1, 0, []), (.iload_n 3, 1, 0, []), (.iconst 3, 1, 3, []), (.iadd, 1, 0, []), (.iaload, 1, 0, []), (.aload_n 0, 1, 0, []), (.iload_n 3, 1, 0, []), (.iconst 4, 1, 4, []), (.iadd, 1, 0, []), (.iaload, 1, 0, []), (.aload_n 0, 1, 0, []), (.iload_n 3, 1, 0, []), (.iconst 5, 1, 5, []), (.iadd, 1, 0, []), (.iaload, 1, 0, []), (.invokevirtual 51, 3, 0, [0, 175, 12, 5, 1, 1648, 1649, 1650, 156, 1651])] := rfl
set_option maxRecDepth 100000 in
theorem q311_470 (E : mj_E) (d w c : Nat) (hi : Nat → Nat → Int32) (hl : Nat → Nat → Int64) (v3 : Int32) (s0 : Int32) : mj_den mj_P E d 311 470 [Value.retAddr 0, Value.ref 0, Value.ref 205, Value.int v3] [Value.int s0] (mj_hw w c hi hl) = if (E 0).1 ≤ 65536 then (if 0 ≤ (v3 + (1 : Int32)) ∧ ((v3 + (1 : Int32))).toNatClampNeg < (E 0).1 then if (E 0).1 ≤ 65536 then (if 0 ≤ (v3 + (2 : Int32)) ∧ ((v3 + (2 : Int32))).toNatClampNeg < (E 0).1 then if (E 0).1 ≤ 65536 then (if 0 ≤ (v3 + (3 : Int32)) ∧ ((v3 + (3 : Int32))).toNatClampNeg < (E 0).1 then if (E 0).1 ≤ 65536 then (if 0 ≤ (v3 + (4 : Int32)) ∧ ((v3 + (4 : Int32))).toNatClampNeg < (E 0).1 then if (E 0).1 ≤ 65536 then (if 0 ≤ (v3 + (5 : Int32)) ∧ ((v3 + (5 : Int32))).toNatClampNeg < (E 0).1 then mj_bi (mj_dc mj_P E d 175 [Value.ref 205, Value.int ((E 0).2 ((v3 + (1 : Int32))).toNatClampNeg), Value.int ((E 0).2 ((v3 + (2 : Int32))).toNatClampNeg), Value.int ((E 0).2 ((v3 + (3 : Int32))).toNatClampNeg), Value.int ((E 0).2 ((v3 + (4 : Int32))).toNatClampNeg), Value.int ((E 0).2 ((v3 + (5 : Int32))).toNatClampNeg)] (mj_hw w c hi hl)) (fun x1 h1 => mj_den mj_P E d 311 499 [Value.retAddr 0, Value.ref 0, Value.ref 205, Value.int v3] [Value.int x1, Value.int s0] h1) else none) else none else none) else none else none) else none else none) else none else none) else none := by
  rw [mj_den_eq, f311_470]
  exact zt_aload_n rfl rfl (zt_aloadc_n rfl (Nat.le_of_ble_eq_true rfl) rfl (zt_iload_n rfl rfl (zt_iconst rfl (zt_iadd rfl (zt_ialc (Nat.le_of_ble_eq_true rfl) rfl (zt_aloadc_n rfl (Nat.le_of_ble_eq_true rfl) rfl (zt_iload_n rfl rfl (zt_iconst rfl (zt_iadd rfl (zt_ialc (Nat.le_of_ble_eq_true rfl) rfl (zt_aloadc_n rfl (Nat.le_of_ble_eq_true rfl) rfl (zt_iload_n rfl rfl (zt_iconst rfl (zt_iadd rfl (zt_ialc (Nat.le_of_ble_eq_true rfl) rfl (zt_aloadc_n rfl (Nat.le_of_ble_eq_true rfl) rfl (zt_iload_n rfl rfl (zt_iconst rfl (zt_iadd rfl (zt_ialc (Nat.le_of_ble_eq_true rfl) rfl (zt_aloadc_n rfl (Nat.le_of_ble_eq_true rfl) rfl (zt_iload_n rfl rfl (zt_iconst rfl (zt_iadd rfl (zt_ialc (Nat.le_of_ble_eq_true rfl) rfl (zt_call0_1 rfl (mjkd205 _ _ _ _) (Nat.le_of_ble_eq_true rfl) rfl rfl))))))))))))))))))))))))))
set_option maxRecDepth 100000 in
theorem f311_499 : mj_find (mj_P 311).2.2.2.2 499 = [(.if_icmp .eq 874, 3, 0, [1373]), (.iconst 0, 1, 0, []), (.ireturn, 1, 0, [1])] := rfl
set_option maxRecDepth 100000 in
theorem q311_499 (E : mj_E) (d w c : Nat) (hi : Nat → Nat → Int32) (hl : Nat → Nat → Int64) (v3 : Int32) (s0 : Int32) (s1 : Int32) : mj_den mj_P E d 311 499 [Value.retAddr 0, Value.ref 0, Value.ref 205, Value.int v3] [Value.int s0, Value.int s1] (mj_hw w c hi hl) = if s1 = s0 then mj_den mj_P E d 311 1373 [Value.retAddr 0, Value.ref 0, Value.ref 205, Value.int v3] [] (mj_hw w c hi hl) else if (0 : Int32) = 0 ∨ (0 : Int32) = 1 then some (some (Value.int (0 : Int32)), (mj_hw w c hi hl)) else none := by
  rw [mj_den_eq, f311_499]
  exact zt_icmp_eq rfl rfl (zt_iconst rfl (zt_ireturn1))
set_option maxRecDepth 100000 in
theorem f311_504 : mj_find (mj_P 311).2.2.2.2 504 = [(.aload_n 1, 1, 0, []), (.aload_n 0, 1, 0, []), (.iload_n 3, 1, 0, []), (.iconst 1, 1, 1, []), (.iadd, 1, 0, []), (.iaload, 1, 0, []), (.invokevirtual 52, 3, 0, [0, 116, 11, 1, 1, 835, 836, 837, 143, 838])] := rfl
set_option maxRecDepth 100000 in
theorem q311_504 (E : mj_E) (d w c : Nat) (hi : Nat → Nat → Int32) (hl : Nat → Nat → Int64) (v3 : Int32) : mj_den mj_P E d 311 504 [Value.retAddr 0, Value.ref 0, Value.ref 205, Value.int v3] [] (mj_hw w c hi hl) = if (E 0).1 ≤ 65536 then (if 0 ≤ (v3 + (1 : Int32)) ∧ ((v3 + (1 : Int32))).toNatClampNeg < (E 0).1 then mj_bi (mj_dc mj_P E d 116 [Value.ref 0, Value.int ((E 0).2 ((v3 + (1 : Int32))).toNatClampNeg)] (mj_hw w c hi hl)) (fun x1 h1 => mj_den mj_P E d 311 513 [Value.retAddr 0, Value.ref 0, Value.ref 205, Value.int v3] [Value.int x1] h1) else none) else none := by
  rw [mj_den_eq, f311_504]
  exact zt_aload_n rfl rfl (zt_aloadc_n rfl (Nat.le_of_ble_eq_true rfl) rfl (zt_iload_n rfl rfl (zt_iconst rfl (zt_iadd rfl (zt_ialc (Nat.le_of_ble_eq_true rfl) rfl (zt_call0_1 rfl (mjkd0 _ _ _ _) (Nat.le_of_ble_eq_true rfl) rfl rfl))))))
set_option maxRecDepth 100000 in
theorem f311_513 : mj_find (mj_P 311).2.2.2.2 513 = [(.aload_n 2, 1, 0, []), (.aload_n 0, 1, 0, []), (.iload_n 3, 1, 0, []), (.iconst 1, 1, 1, []), (.iadd, 1, 0, []), (.iaload, 1, 0, []), (.invokevirtual 56, 3, 0, [0, 176, 12, 1, 1, 1656, 1657, 1658, 156, 1659])] := rfl
set_option maxRecDepth 100000 in
theorem q311_513 (E : mj_E) (d w c : Nat) (hi : Nat → Nat → Int32) (hl : Nat → Nat → Int64) (v3 : Int32) (s0 : Int32) : mj_den mj_P E d 311 513 [Value.retAddr 0, Value.ref 0, Value.ref 205, Value.int v3] [Value.int s0] (mj_hw w c hi hl) = if (E 0).1 ≤ 65536 then (if 0 ≤ (v3 + (1 : Int32)) ∧ ((v3 + (1 : Int32))).toNatClampNeg < (E 0).1 then mj_bi (mj_dc mj_P E d 176 [Value.ref 205, Value.int ((E 0).2 ((v3 + (1 : Int32))).toNatClampNeg)] (mj_hw w c hi hl)) (fun x1 h1 => mj_den mj_P E d 311 522 [Value.retAddr 0, Value.ref 0, Value.ref 205, Value.int v3] [Value.int x1, Value.int s0] h1) else none) else none := by
  rw [mj_den_eq, f311_513]
  exact zt_aload_n rfl rfl (zt_aloadc_n rfl (Nat.le_of_ble_eq_true rfl) rfl (zt_iload_n rfl rfl (zt_iconst rfl (zt_iadd rfl (zt_ialc (Nat.le_of_ble_eq_true rfl) rfl (zt_call0_1 rfl (mjkd205 _ _ _ _) (Nat.le_of_ble_eq_true rfl) rfl rfl))))))
set_option maxRecDepth 100000 in
theorem f311_522 : mj_find (mj_P 311).2.2.2.2 522 = [(.if_icmp .eq 851, 3, 0, [1373]), (.iconst 0, 1, 0, []), (.ireturn, 1, 0, [1])] := rfl
set_option maxRecDepth 100000 in
theorem q311_522 (E : mj_E) (d w c : Nat) (hi : Nat → Nat → Int32) (hl : Nat → Nat → Int64) (v3 : Int32) (s0 : Int32) (s1 : Int32) : mj_den mj_P E d 311 522 [Value.retAddr 0, Value.ref 0, Value.ref 205, Value.int v3] [Value.int s0, Value.int s1] (mj_hw w c hi hl) = if s1 = s0 then mj_den mj_P E d 311 1373 [Value.retAddr 0, Value.ref 0, Value.ref 205, Value.int v3] [] (mj_hw w c hi hl) else if (0 : Int32) = 0 ∨ (0 : Int32) = 1 then some (some (Value.int (0 : Int32)), (mj_hw w c hi hl)) else none := by
  rw [mj_den_eq, f311_522]
  exact zt_icmp_eq rfl rfl (zt_iconst rfl (zt_ireturn1))
set_option maxRecDepth 100000 in
theorem f311_527 : mj_find (mj_P 311).2.2.2.2 527 = [(.aload_n 1, 1, 0, []), (.aload_n 0, 1, 0, []), (.iload_n 3, 1, 0, []), (.iconst 1, 1, 1, []), (.iadd, 1, 0, []), (.iaload, 1, 0, []), (.invokevirtual 57, 3, 0, [0, 117, 11, 1, 1, 839, 840, 841, 143, 842])] := rfl
set_option maxRecDepth 100000 in
theorem q311_527 (E : mj_E) (d w c : Nat) (hi : Nat → Nat → Int32) (hl : Nat → Nat → Int64) (v3 : Int32) : mj_den mj_P E d 311 527 [Value.retAddr 0, Value.ref 0, Value.ref 205, Value.int v3] [] (mj_hw w c hi hl) = if (E 0).1 ≤ 65536 then (if 0 ≤ (v3 + (1 : Int32)) ∧ ((v3 + (1 : Int32))).toNatClampNeg < (E 0).1 then mj_bi (mj_dc mj_P E d 117 [Value.ref 0, Value.int ((E 0).2 ((v3 + (1 : Int32))).toNatClampNeg)] (mj_hw w c hi hl)) (fun x1 h1 => mj_den mj_P E d 311 536 [Value.retAddr 0, Value.ref 0, Value.ref 205, Value.int v3] [Value.int x1] h1) else none) else none := by
  rw [mj_den_eq, f311_527]
  exact zt_aload_n rfl rfl (zt_aloadc_n rfl (Nat.le_of_ble_eq_true rfl) rfl (zt_iload_n rfl rfl (zt_iconst rfl (zt_iadd rfl (zt_ialc (Nat.le_of_ble_eq_true rfl) rfl (zt_call0_1 rfl (mjkd0 _ _ _ _) (Nat.le_of_ble_eq_true rfl) rfl rfl))))))
set_option maxRecDepth 100000 in
theorem f311_536 : mj_find (mj_P 311).2.2.2.2 536 = [(.aload_n 2, 1, 0, []), (.aload_n 0, 1, 0, []), (.iload_n 3, 1, 0, []), (.iconst 1, 1, 1, []), (.iadd, 1, 0, []), (.iaload, 1, 0, []), (.invokevirtual 60, 3, 0, [0, 209, 12, 1, 1, 1660, 1661, 1662, 156, 1663])] := rfl
set_option maxRecDepth 100000 in
theorem q311_536 (E : mj_E) (d w c : Nat) (hi : Nat → Nat → Int32) (hl : Nat → Nat → Int64) (v3 : Int32) (s0 : Int32) : mj_den mj_P E d 311 536 [Value.retAddr 0, Value.ref 0, Value.ref 205, Value.int v3] [Value.int s0] (mj_hw w c hi hl) = if (E 0).1 ≤ 65536 then (if 0 ≤ (v3 + (1 : Int32)) ∧ ((v3 + (1 : Int32))).toNatClampNeg < (E 0).1 then mj_bi (mj_dc mj_P E d 209 [Value.ref 205, Value.int ((E 0).2 ((v3 + (1 : Int32))).toNatClampNeg)] (mj_hw w c hi hl)) (fun x1 h1 => mj_den mj_P E d 311 545 [Value.retAddr 0, Value.ref 0, Value.ref 205, Value.int v3] [Value.int x1, Value.int s0] h1) else none) else none := by
  rw [mj_den_eq, f311_536]
  exact zt_aload_n rfl rfl (zt_aloadc_n rfl (Nat.le_of_ble_eq_true rfl) rfl (zt_iload_n rfl rfl (zt_iconst rfl (zt_iadd rfl (zt_ialc (Nat.le_of_ble_eq_true rfl) rfl (zt_call0_1 rfl (mjkd205 _ _ _ _) (Nat.le_of_ble_eq_true rfl) rfl rfl))))))
set_option maxRecDepth 100000 in
theorem f311_545 : mj_find (mj_P 311).2.2.2.2 545 = [(.if_icmp .eq 828, 3, 0, [1373]), (.iconst 0, 1, 0, []), (.ireturn, 1, 0, [1])] := rfl
set_option maxRecDepth 100000 in
theorem q311_545 (E : mj_E) (d w c : Nat) (hi : Nat → Nat → Int32) (hl : Nat → Nat → Int64) (v3 : Int32) (s0 : Int32) (s1 : Int32) : mj_den mj_P E d 311 545 [Value.retAddr 0, Value.ref 0, Value.ref 205, Value.int v3] [Value.int s0, Value.int s1] (mj_hw w c hi hl) = if s1 = s0 then mj_den mj_P E d 311 1373 [Value.retAddr 0, Value.ref 0, Value.ref 205, Value.int v3] [] (mj_hw w c hi hl) else if (0 : Int32) = 0 ∨ (0 : Int32) = 1 then some (some (Value.int (0 : Int32)), (mj_hw w c hi hl)) else none := by
  rw [mj_den_eq, f311_545]
  exact zt_icmp_eq rfl rfl (zt_iconst rfl (zt_ireturn1))
set_option maxRecDepth 100000 in
theorem f311_550 : mj_find (mj_P 311).2.2.2.2 550 = [(.aload_n 1, 1, 0, []), (.aload_n 0, 1, 0, []), (.iload_n 3, 1, 0, []), (.iconst 1, 1, 1, []), (.iadd, 1, 0, []), (.iaload, 1, 0, []), (.invokevirtual 61, 3, 0, [0, 118, 11, 1, 1, 1054, 1055, 1056, 143, 1057])] := rfl
set_option maxRecDepth 100000 in
theorem q311_550 (E : mj_E) (d w c : Nat) (hi : Nat → Nat → Int32) (hl : Nat → Nat → Int64) (v3 : Int32) : mj_den mj_P E d 311 550 [Value.retAddr 0, Value.ref 0, Value.ref 205, Value.int v3] [] (mj_hw w c hi hl) = if (E 0).1 ≤ 65536 then (if 0 ≤ (v3 + (1 : Int32)) ∧ ((v3 + (1 : Int32))).toNatClampNeg < (E 0).1 then mj_bi (mj_dc mj_P E d 118 [Value.ref 0, Value.int ((E 0).2 ((v3 + (1 : Int32))).toNatClampNeg)] (mj_hw w c hi hl)) (fun x1 h1 => mj_den mj_P E d 311 559 [Value.retAddr 0, Value.ref 0, Value.ref 205, Value.int v3] [Value.int x1] h1) else none) else none := by
  rw [mj_den_eq, f311_550]
  exact zt_aload_n rfl rfl (zt_aloadc_n rfl (Nat.le_of_ble_eq_true rfl) rfl (zt_iload_n rfl rfl (zt_iconst rfl (zt_iadd rfl (zt_ialc (Nat.le_of_ble_eq_true rfl) rfl (zt_call0_1 rfl (mjkd0 _ _ _ _) (Nat.le_of_ble_eq_true rfl) rfl rfl))))))
set_option maxRecDepth 100000 in
theorem f311_559 : mj_find (mj_P 311).2.2.2.2 559 = [(.aload_n 2, 1, 0, []), (.aload_n 0, 1, 0, []), (.iload_n 3, 1, 0, []), (.iconst 1, 1, 1, []), (.iadd, 1, 0, []), (.iaload, 1, 0, []), (.invokevirtual 64, 3, 0, [0, 210, 12, 1, 1, 1792, 1793, 1794, 156, 1795])] := rfl
set_option maxRecDepth 100000 in
theorem q311_559 (E : mj_E) (d w c : Nat) (hi : Nat → Nat → Int32) (hl : Nat → Nat → Int64) (v3 : Int32) (s0 : Int32) : mj_den mj_P E d 311 559 [Value.retAddr 0, Value.ref 0, Value.ref 205, Value.int v3] [Value.int s0] (mj_hw w c hi hl) = if (E 0).1 ≤ 65536 then (if 0 ≤ (v3 + (1 : Int32)) ∧ ((v3 + (1 : Int32))).toNatClampNeg < (E 0).1 then mj_bi (mj_dc mj_P E d 210 [Value.ref 205, Value.int ((E 0).2 ((v3 + (1 : Int32))).toNatClampNeg)] (mj_hw w c hi hl)) (fun x1 h1 => mj_den mj_P E d 311 568 [Value.retAddr 0, Value.ref 0, Value.ref 205, Value.int v3] [Value.int x1, Value.int s0] h1) else none) else none := by
  rw [mj_den_eq, f311_559]
  exact zt_aload_n rfl rfl (zt_aloadc_n rfl (Nat.le_of_ble_eq_true rfl) rfl (zt_iload_n rfl rfl (zt_iconst rfl (zt_iadd rfl (zt_ialc (Nat.le_of_ble_eq_true rfl) rfl (zt_call0_1 rfl (mjkd205 _ _ _ _) (Nat.le_of_ble_eq_true rfl) rfl rfl))))))
set_option maxRecDepth 100000 in
theorem f311_568 : mj_find (mj_P 311).2.2.2.2 568 = [(.if_icmp .eq 805, 3, 0, [1373]), (.iconst 0, 1, 0, []), (.ireturn, 1, 0, [1])] := rfl
set_option maxRecDepth 100000 in
theorem q311_568 (E : mj_E) (d w c : Nat) (hi : Nat → Nat → Int32) (hl : Nat → Nat → Int64) (v3 : Int32) (s0 : Int32) (s1 : Int32) : mj_den mj_P E d 311 568 [Value.retAddr 0, Value.ref 0, Value.ref 205, Value.int v3] [Value.int s0, Value.int s1] (mj_hw w c hi hl) = if s1 = s0 then mj_den mj_P E d 311 1373 [Value.retAddr 0, Value.ref 0, Value.ref 205, Value.int v3] [] (mj_hw w c hi hl) else if (0 : Int32) = 0 ∨ (0 : Int32) = 1 then some (some (Value.int (0 : Int32)), (mj_hw w c hi hl)) else none := by
  rw [mj_den_eq, f311_568]
  exact zt_icmp_eq rfl rfl (zt_iconst rfl (zt_ireturn1))
set_option maxRecDepth 100000 in
theorem f311_573 : mj_find (mj_P 311).2.2.2.2 573 = [(.aload_n 1, 1, 0, []), (.aload_n 0, 1, 0, []), (.iload_n 3, 1, 0, []), (.iconst 1, 1, 1, []), (.iadd, 1, 0, []), (.iaload, 1, 0, []), (.aload_n 0, 1, 0, []), (.iload_n 3, 1, 0, []), (.iconst 2, 1, 2, []), (.iadd, 1, 0, []), (.iaload, 1, 0, []), (.invokevirtual 65, 3, 0, [0, 119, 11, 2, 1, 1058, 1059, 1060, 143, 1061])] := rfl
set_option maxRecDepth 100000 in
theorem q311_573 (E : mj_E) (d w c : Nat) (hi : Nat → Nat → Int32) (hl : Nat → Nat → Int64) (v3 : Int32) : mj_den mj_P E d 311 573 [Value.retAddr 0, Value.ref 0, Value.ref 205, Value.int v3] [] (mj_hw w c hi hl) = if (E 0).1 ≤ 65536 then (if 0 ≤ (v3 + (1 : Int32)) ∧ ((v3 + (1 : Int32))).toNatClampNeg < (E 0).1 then if (E 0).1 ≤ 65536 then (if 0 ≤ (v3 + (2 : Int32)) ∧ ((v3 + (2 : Int32))).toNatClampNeg < (E 0).1 then mj_bi (mj_dc mj_P E d 119 [Value.ref 0, Value.int ((E 0).2 ((v3 + (1 : Int32))).toNatClampNeg), Value.int ((E 0).2 ((v3 + (2 : Int32))).toNatClampNeg)] (mj_hw w c hi hl)) (fun x1 h1 => mj_den mj_P E d 311 587 [Value.retAddr 0, Value.ref 0, Value.ref 205, Value.int v3] [Value.int x1] h1) else none) else none else none) else none := by
  rw [mj_den_eq, f311_573]
  exact zt_aload_n rfl rfl (zt_aloadc_n rfl (Nat.le_of_ble_eq_true rfl) rfl (zt_iload_n rfl rfl (zt_iconst rfl (zt_iadd rfl (zt_ialc (Nat.le_of_ble_eq_true rfl) rfl (zt_aloadc_n rfl (Nat.le_of_ble_eq_true rfl) rfl (zt_iload_n rfl rfl (zt_iconst rfl (zt_iadd rfl (zt_ialc (Nat.le_of_ble_eq_true rfl) rfl (zt_call0_1 rfl (mjkd0 _ _ _ _) (Nat.le_of_ble_eq_true rfl) rfl rfl)))))))))))
set_option maxRecDepth 100000 in
theorem f311_587 : mj_find (mj_P 311).2.2.2.2 587 = [(.aload_n 2, 1, 0, []), (.aload_n 0, 1, 0, []), (.iload_n 3, 1, 0, []), (.iconst 1, 1, 1, []), (.iadd, 1, 0, []), (.iaload, 1, 0, []), (.aload_n 0, 1, 0, []), (.iload_n 3, 1, 0, []), (.iconst 2, 1, 2, []), (.iadd, 1, 0, []), (.iaload, 1, 0, []), (.invokevirtual 68, 3, 0, [0, 232, 12, 2, 1, 1918, 1919, 1920, 156, 1921])] := rfl
set_option maxRecDepth 100000 in
theorem q311_587 (E : mj_E) (d w c : Nat) (hi : Nat → Nat → Int32) (hl : Nat → Nat → Int64) (v3 : Int32) (s0 : Int32) : mj_den mj_P E d 311 587 [Value.retAddr 0, Value.ref 0, Value.ref 205, Value.int v3] [Value.int s0] (mj_hw w c hi hl) = if (E 0).1 ≤ 65536 then (if 0 ≤ (v3 + (1 : Int32)) ∧ ((v3 + (1 : Int32))).toNatClampNeg < (E 0).1 then if (E 0).1 ≤ 65536 then (if 0 ≤ (v3 + (2 : Int32)) ∧ ((v3 + (2 : Int32))).toNatClampNeg < (E 0).1 then mj_bi (mj_dc mj_P E d 232 [Value.ref 205, Value.int ((E 0).2 ((v3 + (1 : Int32))).toNatClampNeg), Value.int ((E 0).2 ((v3 + (2 : Int32))).toNatClampNeg)] (mj_hw w c hi hl)) (fun x1 h1 => mj_den mj_P E d 311 601 [Value.retAddr 0, Value.ref 0, Value.ref 205, Value.int v3] [Value.int x1, Value.int s0] h1) else none) else none else none) else none := by
  rw [mj_den_eq, f311_587]
  exact zt_aload_n rfl rfl (zt_aloadc_n rfl (Nat.le_of_ble_eq_true rfl) rfl (zt_iload_n rfl rfl (zt_iconst rfl (zt_iadd rfl (zt_ialc (Nat.le_of_ble_eq_true rfl) rfl (zt_aloadc_n rfl (Nat.le_of_ble_eq_true rfl) rfl (zt_iload_n rfl rfl (zt_iconst rfl (zt_iadd rfl (zt_ialc (Nat.le_of_ble_eq_true rfl) rfl (zt_call0_1 rfl (mjkd205 _ _ _ _) (Nat.le_of_ble_eq_true rfl) rfl rfl)))))))))))
set_option maxRecDepth 100000 in
theorem f311_601 : mj_find (mj_P 311).2.2.2.2 601 = [(.if_icmp .eq 772, 3, 0, [1373]), (.iconst 0, 1, 0, []), (.ireturn, 1, 0, [1])] := rfl
set_option maxRecDepth 100000 in
theorem q311_601 (E : mj_E) (d w c : Nat) (hi : Nat → Nat → Int32) (hl : Nat → Nat → Int64) (v3 : Int32) (s0 : Int32) (s1 : Int32) : mj_den mj_P E d 311 601 [Value.retAddr 0, Value.ref 0, Value.ref 205, Value.int v3] [Value.int s0, Value.int s1] (mj_hw w c hi hl) = if s1 = s0 then mj_den mj_P E d 311 1373 [Value.retAddr 0, Value.ref 0, Value.ref 205, Value.int v3] [] (mj_hw w c hi hl) else if (0 : Int32) = 0 ∨ (0 : Int32) = 1 then some (some (Value.int (0 : Int32)), (mj_hw w c hi hl)) else none := by
  rw [mj_den_eq, f311_601]
  exact zt_icmp_eq rfl rfl (zt_iconst rfl (zt_ireturn1))
set_option maxRecDepth 100000 in
theorem f311_606 : mj_find (mj_P 311).2.2.2.2 606 = [(.aload_n 1, 1, 0, []), (.aload_n 0, 1, 0, []), (.iload_n 3, 1, 0, []), (.iconst 1, 1, 1, []), (.iadd, 1, 0, []), (.iaload, 1, 0, []), (.aload_n 0, 1, 0, []), (.iload_n 3, 1, 0, []), (.iconst 2, 1, 2, []), (.iadd, 1, 0, []), (.iaload, 1, 0, []), (.invokevirtual 69, 3, 0, [0, 120, 11, 2, 1, 1063, 1064, 1065, 143, 1066])] := rfl
set_option maxRecDepth 100000 in
theorem q311_606 (E : mj_E) (d w c : Nat) (hi : Nat → Nat → Int32) (hl : Nat → Nat → Int64) (v3 : Int32) : mj_den mj_P E d 311 606 [Value.retAddr 0, Value.ref 0, Value.ref 205, Value.int v3] [] (mj_hw w c hi hl) = if (E 0).1 ≤ 65536 then (if 0 ≤ (v3 + (1 : Int32)) ∧ ((v3 + (1 : Int32))).toNatClampNeg < (E 0).1 then if (E 0).1 ≤ 65536 then (if 0 ≤ (v3 + (2 : Int32)) ∧ ((v3 + (2 : Int32))).toNatClampNeg < (E 0).1 then mj_bi (mj_dc mj_P E d 120 [Value.ref 0, Value.int ((E 0).2 ((v3 + (1 : Int32))).toNatClampNeg), Value.int ((E 0).2 ((v3 + (2 : Int32))).toNatClampNeg)] (mj_hw w c hi hl)) (fun x1 h1 => mj_den mj_P E d 311 620 [Value.retAddr 0, Value.ref 0, Value.ref 205, Value.int v3] [Value.int x1] h1) else none) else none else none) else none := by
  rw [mj_den_eq, f311_606]
  exact zt_aload_n rfl rfl (zt_aloadc_n rfl (Nat.le_of_ble_eq_true rfl) rfl (zt_iload_n rfl rfl (zt_iconst rfl (zt_iadd rfl (zt_ialc (Nat.le_of_ble_eq_true rfl) rfl (zt_aloadc_n rfl (Nat.le_of_ble_eq_true rfl) rfl (zt_iload_n rfl rfl (zt_iconst rfl (zt_iadd rfl (zt_ialc (Nat.le_of_ble_eq_true rfl) rfl (zt_call0_1 rfl (mjkd0 _ _ _ _) (Nat.le_of_ble_eq_true rfl) rfl rfl)))))))))))
set_option maxRecDepth 100000 in
theorem f311_620 : mj_find (mj_P 311).2.2.2.2 620 = [(.aload_n 2, 1, 0, []), (.aload_n 0, 1, 0, []), (.iload_n 3, 1, 0, []), (.iconst 1, 1, 1, []), (.iadd, 1, 0, []), (.iaload, 1, 0, []), (.aload_n 0, 1, 0, []), (.iload_n 3, 1, 0, []), (.iconst 2, 1, 2, []), (.iadd, 1, 0, []), (.iaload, 1, 0, []), (.invokevirtual 72, 3, 0, [0, 233, 12, 2, 1, 1926, 1927, 1928, 156, 1929])] := rfl
set_option maxRecDepth 100000 in
theorem q311_620 (E : mj_E) (d w c : Nat) (hi : Nat → Nat → Int32) (hl : Nat → Nat → Int64) (v3 : Int32) (s0 : Int32) : mj_den mj_P E d 311 620 [Value.retAddr 0, Value.ref 0, Value.ref 205, Value.int v3] [Value.int s0] (mj_hw w c hi hl) = if (E 0).1 ≤ 65536 then (if 0 ≤ (v3 + (1 : Int32)) ∧ ((v3 + (1 : Int32))).toNatClampNeg < (E 0).1 then if (E 0).1 ≤ 65536 then (if 0 ≤ (v3 + (2 : Int32)) ∧ ((v3 + (2 : Int32))).toNatClampNeg < (E 0).1 then mj_bi (mj_dc mj_P E d 233 [Value.ref 205, Value.int ((E 0).2 ((v3 + (1 : Int32))).toNatClampNeg), Value.int ((E 0).2 ((v3 + (2 : Int32))).toNatClampNeg)] (mj_hw w c hi hl)) (fun x1 h1 => mj_den mj_P E d 311 634 [Value.retAddr 0, Value.ref 0, Value.ref 205, Value.int v3] [Value.int x1, Value.int s0] h1) else none) else none else none) else none := by
  rw [mj_den_eq, f311_620]
  exact zt_aload_n rfl rfl (zt_aloadc_n rfl (Nat.le_of_ble_eq_true rfl) rfl (zt_iload_n rfl rfl (zt_iconst rfl (zt_iadd rfl (zt_ialc (Nat.le_of_ble_eq_true rfl) rfl (zt_aloadc_n rfl (Nat.le_of_ble_eq_true rfl) rfl (zt_iload_n rfl rfl (zt_iconst rfl (zt_iadd rfl (zt_ialc (Nat.le_of_ble_eq_true rfl) rfl (zt_call0_1 rfl (mjkd205 _ _ _ _) (Nat.le_of_ble_eq_true rfl) rfl rfl)))))))))))
set_option maxRecDepth 100000 in
theorem f311_634 : mj_find (mj_P 311).2.2.2.2 634 = [(.if_icmp .eq 739, 3, 0, [1373]), (.iconst 0, 1, 0, []), (.ireturn, 1, 0, [1])] := rfl
set_option maxRecDepth 100000 in
theorem q311_634 (E : mj_E) (d w c : Nat) (hi : Nat → Nat → Int32) (hl : Nat → Nat → Int64) (v3 : Int32) (s0 : Int32) (s1 : Int32) : mj_den mj_P E d 311 634 [Value.retAddr 0, Value.ref 0, Value.ref 205, Value.int v3] [Value.int s0, Value.int s1] (mj_hw w c hi hl) = if s1 = s0 then mj_den mj_P E d 311 1373 [Value.retAddr 0, Value.ref 0, Value.ref 205, Value.int v3] [] (mj_hw w c hi hl) else if (0 : Int32) = 0 ∨ (0 : Int32) = 1 then some (some (Value.int (0 : Int32)), (mj_hw w c hi hl)) else none := by
  rw [mj_den_eq, f311_634]
  exact zt_icmp_eq rfl rfl (zt_iconst rfl (zt_ireturn1))
set_option maxRecDepth 100000 in
theorem f311_639 : mj_find (mj_P 311).2.2.2.2 639 = [(.aload_n 1, 1, 0, []), (.aload_n 0, 1, 0, []), (.iload_n 3, 1, 0, []), (.iconst 1, 1, 1, []), (.iadd, 1, 0, []), (.iaload, 1, 0, []), (.aload_n 0, 1, 0, []), (.iload_n 3, 1, 0, []), (.iconst 2, 1, 2, []), (.iadd, 1, 0, []), (.iaload, 1, 0, []), (.aload_n 0, 1, 0, []), (.iload_n 3, 1, 0, []), (.iconst 3, 1, 3, []), (.iadd, 1, 0, []), (.iaload, 1, 0, []), (.invokevirtual 73, 3, 0, [0, 121, 11, 3, 1, 1067, 1068, 1069, 143, 1070])] := rfl
set_option maxRecDepth 100000 in
theorem q311_639 (E : mj_E) (d w c : Nat) (hi : Nat → Nat → Int32) (hl : Nat → Nat → Int64) (v3 : Int32) : mj_den mj_P E d 311 639 [Value.retAddr 0, Value.ref 0, Value.ref 205, Value.int v3] [] (mj_hw w c hi hl) = if (E 0).1 ≤ 65536 then (if 0 ≤ (v3 + (1 : Int32)) ∧ ((v3 + (1 : Int32))).toNatClampNeg < (E 0).1 then if (E 0).1 ≤ 65536 then (if 0 ≤ (v3 + (2 : Int32)) ∧ ((v3 + (2 : Int32))).toNatClampNeg < (E 0).1 then if (E 0).1 ≤ 65536 then (if 0 ≤ (v3 + (3 : Int32)) ∧ ((v3 + (3 : Int32))).toNatClampNeg < (E 0).1 then mj_bi (mj_dc mj_P E d 121 [Value.ref 0, Value.int ((E 0).2 ((v3 + (1 : Int32))).toNatClampNeg), Value.int ((E 0).2 ((v3 + (2 : Int32))).toNatClampNeg), Value.int ((E 0).2 ((v3 + (3 : Int32))).toNatClampNeg)] (mj_hw w c hi hl)) (fun x1 h1 => mj_den mj_P E d 311 658 [Value.retAddr 0, Value.ref 0, Value.ref 205, Value.int v3] [Value.int x1] h1) else none) else none else none) else none else none) else none := by
  rw [mj_den_eq, f311_639]
  exact zt_aload_n rfl rfl (zt_aloadc_n rfl (Nat.le_of_ble_eq_true rfl) rfl (zt_iload_n rfl rfl (zt_iconst rfl (zt_iadd rfl (zt_ialc (Nat.le_of_ble_eq_true rfl) rfl (zt_aloadc_n rfl (Nat.le_of_ble_eq_true rfl) rfl (zt_iload_n rfl rfl (zt_iconst rfl (zt_iadd rfl (zt_ialc (Nat.le_of_ble_eq_true rfl) rfl (zt_aloadc_n rfl (Nat.le_of_ble_eq_true rfl) rfl (zt_iload_n rfl rfl (zt_iconst rfl (zt_iadd rfl (zt_ialc (Nat.le_of_ble_eq_true rfl) rfl (zt_call0_1 rfl (mjkd0 _ _ _ _) (Nat.le_of_ble_eq_true rfl) rfl rfl))))))))))))))))
set_option maxRecDepth 100000 in
theorem f311_658 : mj_find (mj_P 311).2.2.2.2 658 = [(.aload_n 2, 1, 0, []), (.aload_n 0, 1, 0, []), (.iload_n 3, 1, 0, []), (.iconst 1, 1, 1, []), (.iadd, 1, 0, []), (.iaload, 1, 0, []), (.aload_n 0, 1, 0, []), (.iload_n 3, 1, 0, []), (.iconst 2, 1, 2, []), (.iadd, 1, 0, []), (.iaload, 1, 0, []), (.aload_n 0, 1, 0, []), (.iload_n 3, 1, 0, []), (.iconst 3, 1, 3, []), (.iadd, 1, 0, []), (.iaload, 1, 0, []), (.invokevirtual 77, 3, 0, [0, 234, 12, 3, 1, 1930, 1931, 1932, 156, 1933])] := rfl
set_option maxRecDepth 100000 in
theorem q311_658 (E : mj_E) (d w c : Nat) (hi : Nat → Nat → Int32) (hl : Nat → Nat → Int64) (v3 : Int32) (s0 : Int32) : mj_den mj_P E d 311 658 [Value.retAddr 0, Value.ref 0, Value.ref 205, Value.int v3] [Value.int s0] (mj_hw w c hi hl) = if (E 0).1 ≤ 65536 then (if 0 ≤ (v3 + (1 : Int32)) ∧ ((v3 + (1 : Int32))).toNatClampNeg < (E 0).1 then if (E 0).1 ≤ 65536 then (if 0 ≤ (v3 + (2 : Int32)) ∧ ((v3 + (2 : Int32))).toNatClampNeg < (E 0).1 then if (E 0).1 ≤ 65536 then (if 0 ≤ (v3 + (3 : Int32)) ∧ ((v3 + (3 : Int32))).toNatClampNeg < (E 0).1 then mj_bi (mj_dc mj_P E d 234 [Value.ref 205, Value.int ((E 0).2 ((v3 + (1 : Int32))).toNatClampNeg), Value.int ((E 0).2 ((v3 + (2 : Int32))).toNatClampNeg), Value.int ((E 0).2 ((v3 + (3 : Int32))).toNatClampNeg)] (mj_hw w c hi hl)) (fun x1 h1 => mj_den mj_P E d 311 677 [Value.retAddr 0, Value.ref 0, Value.ref 205, Value.int v3] [Value.int x1, Value.int s0] h1) else none) else none else none) else none else none) else none := by
  rw [mj_den_eq, f311_658]
  exact zt_aload_n rfl rfl (zt_aloadc_n rfl (Nat.le_of_ble_eq_true rfl) rfl (zt_iload_n rfl rfl (zt_iconst rfl (zt_iadd rfl (zt_ialc (Nat.le_of_ble_eq_true rfl) rfl (zt_aloadc_n rfl (Nat.le_of_ble_eq_true rfl) rfl (zt_iload_n rfl rfl (zt_iconst rfl (zt_iadd rfl (zt_ialc (Nat.le_of_ble_eq_true rfl) rfl (zt_aloadc_n rfl (Nat.le_of_ble_eq_true rfl) rfl (zt_iload_n rfl rfl (zt_iconst rfl (zt_iadd rfl (zt_ialc (Nat.le_of_ble_eq_true rfl) rfl (zt_call0_1 rfl (mjkd205 _ _ _ _) (Nat.le_of_ble_eq_true rfl) rfl rfl))))))))))))))))
set_option maxRecDepth 100000 in
theorem f311_677 : mj_find (mj_P 311).2.2.2.2 677 = [(.if_icmp .eq 696, 3, 0, [1373]), (.iconst 0, 1, 0, []), (.ireturn, 1, 0, [1])] := rfl
set_option maxRecDepth 100000 in
theorem q311_677 (E : mj_E) (d w c : Nat) (hi : Nat → Nat → Int32) (hl : Nat → Nat → Int64) (v3 : Int32) (s0 : Int32) (s1 : Int32) : mj_den mj_P E d 311 677 [Value.retAddr 0, Value.ref 0, Value.ref 205, Value.int v3] [Value.int s0, Value.int s1] (mj_hw w c hi hl) = if s1 = s0 then mj_den mj_P E d 311 1373 [Value.retAddr 0, Value.ref 0, Value.ref 205, Value.int v3] [] (mj_hw w c hi hl) else if (0 : Int32) = 0 ∨ (0 : Int32) = 1 then some (some (Value.int (0 : Int32)), (mj_hw w c hi hl)) else none := by
  rw [mj_den_eq, f311_677]
  exact zt_icmp_eq rfl rfl (zt_iconst rfl (zt_ireturn1))
set_option maxRecDepth 100000 in
theorem f311_682 : mj_find (mj_P 311).2.2.2.2 682 = [(.aload_n 1, 1, 0, []), (.aload_n 0, 1, 0, []), (.iload_n 3, 1, 0, []), (.iconst 1, 1, 1, []), (.iadd, 1, 0, []), (.iaload, 1, 0, []), (.invokevirtual 78, 3, 0, [0, 122, 11, 1, 1, 1074, 1075, 1076, 143, 1077])] := rfl
set_option maxRecDepth 100000 in
theorem q311_682 (E : mj_E) (d w c : Nat) (hi : Nat → Nat → Int32) (hl : Nat → Nat → Int64) (v3 : Int32) : mj_den mj_P E d 311 682 [Value.retAddr 0, Value.ref 0, Value.ref 205, Value.int v3] [] (mj_hw w c hi hl) = if (E 0).1 ≤ 65536 then (if 0 ≤ (v3 + (1 : Int32)) ∧ ((v3 + (1 : Int32))).toNatClampNeg < (E 0).1 then mj_bi (mj_dc mj_P E d 122 [Value.ref 0, Value.int ((E 0).2 ((v3 + (1 : Int32))).toNatClampNeg)] (mj_hw w c hi hl)) (fun x1 h1 => mj_den mj_P E d 311 691 [Value.retAddr 0, Value.ref 0, Value.ref 205, Value.int v3] [Value.int x1] h1) else none) else none := by
  rw [mj_den_eq, f311_682]
  exact zt_aload_n rfl rfl (zt_aloadc_n rfl (Nat.le_of_ble_eq_true rfl) rfl (zt_iload_n rfl rfl (zt_iconst rfl (zt_iadd rfl (zt_ialc (Nat.le_of_ble_eq_true rfl) rfl (zt_call0_1 rfl (mjkd0 _ _ _ _) (Nat.le_of_ble_eq_true rfl) rfl rfl))))))
set_option maxRecDepth 100000 in
theorem f311_691 : mj_find (mj_P 311).2.2.2.2 691 = [(.aload_n 2, 1, 0, []), (.aload_n 0, 1, 0, []), (.iload_n 3, 1, 0, []), (.iconst 1, 1, 1, []), (.iadd, 1, 0, []), (.iaload, 1, 0, []), (.invokevirtual 81, 3, 0, [0, 235, 12, 1, 1, 1934, 1935, 1936, 156, 1937])] := rfl
set_option maxRecDepth 100000 in
theorem q311_691 (E : mj_E) (d w c : Nat) (hi : Nat → Nat → Int32) (hl : Nat → Nat → Int64) (v3 : Int32) (s0 : Int32) : mj_den mj_P E d 311 691 [Value.retAddr 0, Value.ref 0, Value.ref 205, Value.int v3] [Value.int s0] (mj_hw w c hi hl) = if (E 0).1 ≤ 65536 then (if 0 ≤ (v3 + (1 : Int32)) ∧ ((v3 + (1 : Int32))).toNatClampNeg < (E 0).1 then mj_bi (mj_dc mj_P E d 235 [Value.ref 205, Value.int ((E 0).2 ((v3 + (1 : Int32))).toNatClampNeg)] (mj_hw w c hi hl)) (fun x1 h1 => mj_den mj_P E d 311 700 [Value.retAddr 0, Value.ref 0, Value.ref 205, Value.int v3] [Value.int x1, Value.int s0] h1) else none) else none := by
  rw [mj_den_eq, f311_691]
  exact zt_aload_n rfl rfl (zt_aloadc_n rfl (Nat.le_of_ble_eq_true rfl) rfl (zt_iload_n rfl rfl (zt_iconst rfl (zt_iadd rfl (zt_ialc (Nat.le_of_ble_eq_true rfl) rfl (zt_call0_1 rfl (mjkd205 _ _ _ _) (Nat.le_of_ble_eq_true rfl) rfl rfl))))))
set_option maxRecDepth 100000 in
theorem f311_700 : mj_find (mj_P 311).2.2.2.2 700 = [(.if_icmp .eq 673, 3, 0, [1373]), (.iconst 0, 1, 0, []), (.ireturn, 1, 0, [1])] := rfl
set_option maxRecDepth 100000 in
theorem q311_700 (E : mj_E) (d w c : Nat) (hi : Nat → Nat → Int32) (hl : Nat → Nat → Int64) (v3 : Int32) (s0 : Int32) (s1 : Int32) : mj_den mj_P E d 311 700 [Value.retAddr 0, Value.ref 0, Value.ref 205, Value.int v3] [Value.int s0, Value.int s1] (mj_hw w c hi hl) = if s1 = s0 then mj_den mj_P E d 311 1373 [Value.retAddr 0, Value.ref 0, Value.ref 205, Value.int v3] [] (mj_hw w c hi hl) else if (0 : Int32) = 0 ∨ (0 : Int32) = 1 then some (some (Value.int (0 : Int32)), (mj_hw w c hi hl)) else none := by
  rw [mj_den_eq, f311_700]
  exact zt_icmp_eq rfl rfl (zt_iconst rfl (zt_ireturn1))
set_option maxRecDepth 100000 in
theorem f311_705 : mj_find (mj_P 311).2.2.2.2 705 = [(.aload_n 1, 1, 0, []), (.aload_n 0, 1, 0, []), (.iload_n 3, 1, 0, []), (.iconst 1, 1, 1, []), (.iadd, 1, 0, []), (.iaload, 1, 0, []), (.aload_n 0, 1, 0, []), (.iload_n 3, 1, 0, []), (.iconst 2, 1, 2, []), (.iadd, 1, 0, []), (.iaload, 1, 0, []), (.invokevirtual 82, 3, 0, [0, 123, 11, 2, 1, 1079, 1080, 1081, 143, 1082])] := rfl
set_option maxRecDepth 100000 in
theorem q311_705 (E : mj_E) (d w c : Nat) (hi : Nat → Nat → Int32) (hl : Nat → Nat → Int64) (v3 : Int32) : mj_den mj_P E d 311 705 [Value.retAddr 0, Value.ref 0, Value.ref 205, Value.int v3] [] (mj_hw w c hi hl) = if (E 0).1 ≤ 65536 then (if 0 ≤ (v3 + (1 : Int32)) ∧ ((v3 + (1 : Int32))).toNatClampNeg < (E 0).1 then if (E 0).1 ≤ 65536 then (if 0 ≤ (v3 + (2 : Int32)) ∧ ((v3 + (2 : Int32))).toNatClampNeg < (E 0).1 then mj_bi (mj_dc mj_P E d 123 [Value.ref 0, Value.int ((E 0).2 ((v3 + (1 : Int32))).toNatClampNeg), Value.int ((E 0).2 ((v3 + (2 : Int32))).toNatClampNeg)] (mj_hw w c hi hl)) (fun x1 h1 => mj_den mj_P E d 311 719 [Value.retAddr 0, Value.ref 0, Value.ref 205, Value.int v3] [Value.int x1] h1) else none) else none else none) else none := by
  rw [mj_den_eq, f311_705]
  exact zt_aload_n rfl rfl (zt_aloadc_n rfl (Nat.le_of_ble_eq_true rfl) rfl (zt_iload_n rfl rfl (zt_iconst rfl (zt_iadd rfl (zt_ialc (Nat.le_of_ble_eq_true rfl) rfl (zt_aloadc_n rfl (Nat.le_of_ble_eq_true rfl) rfl (zt_iload_n rfl rfl (zt_iconst rfl (zt_iadd rfl (zt_ialc (Nat.le_of_ble_eq_true rfl) rfl (zt_call0_1 rfl (mjkd0 _ _ _ _) (Nat.le_of_ble_eq_true rfl) rfl rfl)))))))))))
set_option maxRecDepth 100000 in
theorem f311_719 : mj_find (mj_P 311).2.2.2.2 719 = [(.aload_n 2, 1, 0, []), (.aload_n 0, 1, 0, []), (.iload_n 3, 1, 0, []), (.iconst 1, 1, 1, []), (.iadd, 1, 0, []), (.iaload, 1, 0, []), (.aload_n 0, 1, 0, []), (.iload_n 3, 1, 0, []), (.iconst 2, 1, 2, []), (.iadd, 1, 0, []), (.iaload, 1, 0, []), (.invokevirtual 85, 3, 0, [0, 236, 12, 2, 1, 1938, 1939, 1940, 156, 1941])] := rfl
set_option maxRecDepth 100000 in
theorem q311_719 (E : mj_E) (d w c : Nat) (hi : Nat → Nat → Int32) (hl : Nat → Nat → Int64) (v3 : Int32) (s0 : Int32) : mj_den mj_P E d 311 719 [Value.retAddr 0, Value.ref 0, Value.ref 205, Value.int v3] [Value.int s0] (mj_hw w c hi hl) = if (E 0).1 ≤ 65536 then (if 0 ≤ (v3 + (1 : Int32)) ∧ ((v3 + (1 : Int32))).toNatClampNeg < (E 0).1 then if (E 0).1 ≤ 65536 then (if 0 ≤ (v3 + (2 : Int32)) ∧ ((v3 + (2 : Int32))).toNatClampNeg < (E 0).1 then mj_bi (mj_dc mj_P E d 236 [Value.ref 205, Value.int ((E 0).2 ((v3 + (1 : Int32))).toNatClampNeg), Value.int ((E 0).2 ((v3 + (2 : Int32))).toNatClampNeg)] (mj_hw w c hi hl)) (fun x1 h1 => mj_den mj_P E d 311 733 [Value.retAddr 0, Value.ref 0, Value.ref 205, Value.int v3] [Value.int x1, Value.int s0] h1) else none) else none else none) else none := by
  rw [mj_den_eq, f311_719]
  exact zt_aload_n rfl rfl (zt_aloadc_n rfl (Nat.le_of_ble_eq_true rfl) rfl (zt_iload_n rfl rfl (zt_iconst rfl (zt_iadd rfl (zt_ialc (Nat.le_of_ble_eq_true rfl) rfl (zt_aloadc_n rfl (Nat.le_of_ble_eq_true rfl) rfl (zt_iload_n rfl rfl (zt_iconst rfl (zt_iadd rfl (zt_ialc (Nat.le_of_ble_eq_true rfl) rfl (zt_call0_1 rfl (mjkd205 _ _ _ _) (Nat.le_of_ble_eq_true rfl) rfl rfl)))))))))))
set_option maxRecDepth 100000 in
theorem f311_733 : mj_find (mj_P 311).2.2.2.2 733 = [(.if_icmp .eq 640, 3, 0, [1373]), (.iconst 0, 1, 0, []), (.ireturn, 1, 0, [1])] := rfl
set_option maxRecDepth 100000 in
theorem q311_733 (E : mj_E) (d w c : Nat) (hi : Nat → Nat → Int32) (hl : Nat → Nat → Int64) (v3 : Int32) (s0 : Int32) (s1 : Int32) : mj_den mj_P E d 311 733 [Value.retAddr 0, Value.ref 0, Value.ref 205, Value.int v3] [Value.int s0, Value.int s1] (mj_hw w c hi hl) = if s1 = s0 then mj_den mj_P E d 311 1373 [Value.retAddr 0, Value.ref 0, Value.ref 205, Value.int v3] [] (mj_hw w c hi hl) else if (0 : Int32) = 0 ∨ (0 : Int32) = 1 then some (some (Value.int (0 : Int32)), (mj_hw w c hi hl)) else none := by
  rw [mj_den_eq, f311_733]
  exact zt_icmp_eq rfl rfl (zt_iconst rfl (zt_ireturn1))
set_option maxRecDepth 100000 in
theorem f311_738 : mj_find (mj_P 311).2.2.2.2 738 = [(.aload_n 1, 1, 0, []), (.aload_n 0, 1, 0, []), (.iload_n 3, 1, 0, []), (.iconst 1, 1, 1, []), (.iadd, 1, 0, []), (.iaload, 1, 0, []), (.aload_n 0, 1, 0, []), (.iload_n 3, 1, 0, []), (.iconst 2, 1, 2, []), (.iadd, 1, 0, []), (.iaload, 1, 0, []), (.invokevirtual 86, 3, 0, [0, 124, 11, 2, 1, 1083, 1084, 1085, 143, 1086])] := rfl
set_option maxRecDepth 100000 in
theorem q311_738 (E : mj_E) (d w c : Nat) (hi : Nat → Nat → Int32) (hl : Nat → Nat → Int64) (v3 : Int32) : mj_den mj_P E d 311 738 [Value.retAddr 0, Value.ref 0, Value.ref 205, Value.int v3] [] (mj_hw w c hi hl) = if (E 0).1 ≤ 65536 then (if 0 ≤ (v3 + (1 : Int32)) ∧ ((v3 + (1 : Int32))).toNatClampNeg < (E 0).1 then if (E 0).1 ≤ 65536 then (if 0 ≤ (v3 + (2 : Int32)) ∧ ((v3 + (2 : Int32))).toNatClampNeg < (E 0).1 then mj_bi (mj_dc mj_P E d 124 [Value.ref 0, Value.int ((E 0).2 ((v3 + (1 : Int32))).toNatClampNeg), Value.int ((E 0).2 ((v3 + (2 : Int32))).toNatClampNeg)] (mj_hw w c hi hl)) (fun x1 h1 => mj_den mj_P E d 311 752 [Value.retAddr 0, Value.ref 0, Value.ref 205, Value.int v3] [Value.int x1] h1) else none) else none else none) else none := by
  rw [mj_den_eq, f311_738]
  exact zt_aload_n rfl rfl (zt_aloadc_n rfl (Nat.le_of_ble_eq_true rfl) rfl (zt_iload_n rfl rfl (zt_iconst rfl (zt_iadd rfl (zt_ialc (Nat.le_of_ble_eq_true rfl) rfl (zt_aloadc_n rfl (Nat.le_of_ble_eq_true rfl) rfl (zt_iload_n rfl rfl (zt_iconst rfl (zt_iadd rfl (zt_ialc (Nat.le_of_ble_eq_true rfl) rfl (zt_call0_1 rfl (mjkd0 _ _ _ _) (Nat.le_of_ble_eq_true rfl) rfl rfl)))))))))))
set_option maxRecDepth 100000 in
theorem f311_752 : mj_find (mj_P 311).2.2.2.2 752 = [(.aload_n 2, 1, 0, []), (.aload_n 0, 1, 0, []), (.iload_n 3, 1, 0, []), (.iconst 1, 1, 1, []), (.iadd, 1, 0, []), (.iaload, 1, 0, []), (.aload_n 0, 1, 0, []), (.iload_n 3, 1, 0, []), (.iconst 2, 1, 2, []), (.iadd, 1, 0, []), (.iaload, 1, 0, []), (.invokevirtual 89, 3, 0, [0, 237, 12, 2, 1, 1942, 1943, 1944, 156, 1945])] := rfl
set_option maxRecDepth 100000 in
theorem q311_752 (E : mj_E) (d w c : Nat) (hi : Nat → Nat → Int32) (hl : Nat → Nat → Int64) (v3 : Int32) (s0 : Int32) : mj_den mj_P E d 311 752 [Value.retAddr 0, Value.ref 0, Value.ref 205, Value.int v3] [Value.int s0] (mj_hw w c hi hl) = if (E 0).1 ≤ 65536 then (if 0 ≤ (v3 + (1 : Int32)) ∧ ((v3 + (1 : Int32))).toNatClampNeg < (E 0).1 then if (E 0).1 ≤ 65536 then (if 0 ≤ (v3 + (2 : Int32)) ∧ ((v3 + (2 : Int32))).toNatClampNeg < (E 0).1 then mj_bi (mj_dc mj_P E d 237 [Value.ref 205, Value.int ((E 0).2 ((v3 + (1 : Int32))).toNatClampNeg), Value.int ((E 0).2 ((v3 + (2 : Int32))).toNatClampNeg)] (mj_hw w c hi hl)) (fun x1 h1 => mj_den mj_P E d 311 766 [Value.retAddr 0, Value.ref 0, Value.ref 205, Value.int v3] [Value.int x1, Value.int s0] h1) else none) else none else none) else none := by
  rw [mj_den_eq, f311_752]
  exact zt_aload_n rfl rfl (zt_aloadc_n rfl (Nat.le_of_ble_eq_true rfl) rfl (zt_iload_n rfl rfl (zt_iconst rfl (zt_iadd rfl (zt_ialc (Nat.le_of_ble_eq_true rfl) rfl (zt_aloadc_n rfl (Nat.le_of_ble_eq_true rfl) rfl (zt_iload_n rfl rfl (zt_iconst rfl (zt_iadd rfl (zt_ialc (Nat.le_of_ble_eq_true rfl) rfl (zt_call0_1 rfl (mjkd205 _ _ _ _) (Nat.le_of_ble_eq_true rfl) rfl rfl)))))))))))
set_option maxRecDepth 100000 in
theorem f311_766 : mj_find (mj_P 311).2.2.2.2 766 = [(.if_icmp .eq 607, 3, 0, [1373]), (.iconst 0, 1, 0, []), (.ireturn, 1, 0, [1])] := rfl
set_option maxRecDepth 100000 in
theorem q311_766 (E : mj_E) (d w c : Nat) (hi : Nat → Nat → Int32) (hl : Nat → Nat → Int64) (v3 : Int32) (s0 : Int32) (s1 : Int32) : mj_den mj_P E d 311 766 [Value.retAddr 0, Value.ref 0, Value.ref 205, Value.int v3] [Value.int s0, Value.int s1] (mj_hw w c hi hl) = if s1 = s0 then mj_den mj_P E d 311 1373 [Value.retAddr 0, Value.ref 0, Value.ref 205, Value.int v3] [] (mj_hw w c hi hl) else if (0 : Int32) = 0 ∨ (0 : Int32) = 1 then some (some (Value.int (0 : Int32)), (mj_hw w c hi hl)) else none := by
  rw [mj_den_eq, f311_766]
  exact zt_icmp_eq rfl rfl (zt_iconst rfl (zt_ireturn1))
set_option maxRecDepth 100000 in
theorem f311_771 : mj_find (mj_P 311).2.2.2.2 771 = [(.aload_n 1, 1, 0, []), (.aload_n 0, 1, 0, []), (.iload_n 3, 1, 0, []), (.iconst 1, 1, 1, []), (.iadd, 1, 0, []), (.iaload, 1, 0, []), (.aload_n 0, 1, 0, []), (.iload_n 3, 1, 0, []), (.iconst 2, 1, 2, []), (.iadd, 1, 0, []), (.iaload, 1, 0, []), (.aload_n 0, 1, 0, []), (.iload_n 3, 1, 0, []), (.iconst 3, 1, 3, []), (.iadd, 1, 0, []), (.iaload, 1, 0, []), (.invokevirtual 90, 3, 0, [0, 125, 11, 3, 1, 1088, 1089, 1090, 143, 1091])] := rfl
set_option maxRecDepth 100000 in
theorem q311_771 (E : mj_E) (d w c : Nat) (hi : Nat → Nat → Int32) (hl : Nat → Nat → Int64) (v3 : Int32) : mj_den mj_P E d 311 771 [Value.retAddr 0, Value.ref 0, Value.ref 205, Value.int v3] [] (mj_hw w c hi hl) = if (E 0).1 ≤ 65536 then (if 0 ≤ (v3 + (1 : Int32)) ∧ ((v3 + (1 : Int32))).toNatClampNeg < (E 0).1 then if (E 0).1 ≤ 65536 then (if 0 ≤ (v3 + (2 : Int32)) ∧ ((v3 + (2 : Int32))).toNatClampNeg < (E 0).1 then if (E 0).1 ≤ 65536 then (if 0 ≤ (v3 + (3 : Int32)) ∧ ((v3 + (3 : Int32))).toNatClampNeg < (E 0).1 then mj_bi (mj_dc mj_P E d 125 [Value.ref 0, Value.int ((E 0).2 ((v3 + (1 : Int32))).toNatClampNeg), Value.int ((E 0).2 ((v3 + (2 : Int32))).toNatClampNeg), Value.int ((E 0).2 ((v3 + (3 : Int32))).toNatClampNeg)] (mj_hw w c hi hl)) (fun x1 h1 => mj_den mj_P E d 311 790 [Value.retAddr 0, Value.ref 0, Value.ref 205, Value.int v3] [Value.int x1] h1) else none) else none else none) else none else none) else none := by
  rw [mj_den_eq, f311_771]
  exact zt_aload_n rfl rfl (zt_aloadc_n rfl (Nat.le_of_ble_eq_true rfl) rfl (zt_iload_n rfl rfl (zt_iconst rfl (zt_iadd rfl (zt_ialc (Nat.le_of_ble_eq_true rfl) rfl (zt_aloadc_n rfl (Nat.le_of_ble_eq_true rfl) rfl (zt_iload_n rfl rfl (zt_iconst rfl (zt_iadd rfl (zt_ialc (Nat.le_of_ble_eq_true rfl) rfl (zt_aloadc_n rfl (Nat.le_of_ble_eq_true rfl) rfl (zt_iload_n rfl rfl (zt_iconst rfl (zt_iadd rfl (zt_ialc (Nat.le_of_ble_eq_true rfl) rfl (zt_call0_1 rfl (mjkd0 _ _ _ _) (Nat.le_of_ble_eq_true rfl) rfl rfl))))))))))))))))
set_option maxRecDepth 100000 in
theorem f311_790 : mj_find (mj_P 311).2.2.2.2 790 = [(.aload_n 2, 1, 0, []), (.aload_n 0, 1, 0, []), (.iload_n 3, 1, 0, []), (.iconst 1, 1, 1, []), (.iadd, 1, 0, []), (.iaload, 1, 0, []), (.aload_n 0, 1, 0, []), (.iload_n 3, 1, 0, []), (.iconst 2, 1, 2, []), (.iadd, 1, 0, []), (.iaload, 1, 0, []), (.aload_n 0, 1, 0, []), (.iload_n 3, 1, 0, []), (.iconst 3, 1, 3, []), (.iadd, 1, 0, []), (.iaload, 1, 0, []), (.invokevirtual 93, 3, 0, [0, 238, 12, 3, 1, 1954, 1955, 1956, 156, 1957])] := rfl
set_option maxRecDepth 100000 in
theorem q311_790 (E : mj_E) (d w c : Nat) (hi : Nat → Nat → Int32) (hl : Nat → Nat → Int64) (v3 : Int32) (s0 : Int32) : mj_den mj_P E d 311 790 [Value.retAddr 0, Value.ref 0, Value.ref 205, Value.int v3] [Value.int s0] (mj_hw w c hi hl) = if (E 0).1 ≤ 65536 then (if 0 ≤ (v3 + (1 : Int32)) ∧ ((v3 + (1 : Int32))).toNatClampNeg < (E 0).1 then if (E 0).1 ≤ 65536 then (if 0 ≤ (v3 + (2 : Int32)) ∧ ((v3 + (2 : Int32))).toNatClampNeg < (E 0).1 then if (E 0).1 ≤ 65536 then (if 0 ≤ (v3 + (3 : Int32)) ∧ ((v3 + (3 : Int32))).toNatClampNeg < (E 0).1 then mj_bi (mj_dc mj_P E d 238 [Value.ref 205, Value.int ((E 0).2 ((v3 + (1 : Int32))).toNatClampNeg), Value.int ((E 0).2 ((v3 + (2 : Int32))).toNatClampNeg), Value.int ((E 0).2 ((v3 + (3 : Int32))).toNatClampNeg)] (mj_hw w c hi hl)) (fun x1 h1 => mj_den mj_P E d 311 809 [Value.retAddr 0, Value.ref 0, Value.ref 205, Value.int v3] [Value.int x1, Value.int s0] h1) else none) else none else none) else none else none) else none := by
  rw [mj_den_eq, f311_790]
  exact zt_aload_n rfl rfl (zt_aloadc_n rfl (Nat.le_of_ble_eq_true rfl) rfl (zt_iload_n rfl rfl (zt_iconst rfl (zt_iadd rfl (zt_ialc (Nat.le_of_ble_eq_true rfl) rfl (zt_aloadc_n rfl (Nat.le_of_ble_eq_true rfl) rfl (zt_iload_n rfl rfl (zt_iconst rfl (zt_iadd rfl (zt_ialc (Nat.le_of_ble_eq_true rfl) rfl (zt_aloadc_n rfl (Nat.le_of_ble_eq_true rfl) rfl (zt_iload_n rfl rfl (zt_iconst rfl (zt_iadd rfl (zt_ialc (Nat.le_of_ble_eq_true rfl) rfl (zt_call0_1 rfl (mjkd205 _ _ _ _) (Nat.le_of_ble_eq_true rfl) rfl rfl))))))))))))))))
set_option maxRecDepth 100000 in
theorem f311_809 : mj_find (mj_P 311).2.2.2.2 809 = [(.if_icmp .eq 564, 3, 0, [1373]), (.iconst 0, 1, 0, []), (.ireturn, 1, 0, [1])] := rfl
set_option maxRecDepth 100000 in
theorem q311_809 (E : mj_E) (d w c : Nat) (hi : Nat → Nat → Int32) (hl : Nat → Nat → Int64) (v3 : Int32) (s0 : Int32) (s1 : Int32) : mj_den mj_P E d 311 809 [Value.retAddr 0, Value.ref 0, Value.ref 205, Value.int v3] [Value.int s0, Value.int s1] (mj_hw w c hi hl) = if s1 = s0 then mj_den mj_P E d 311 1373 [Value.retAddr 0, Value.ref 0, Value.ref 205, Value.int v3] [] (mj_hw w c hi hl) else if (0 : Int32) = 0 ∨ (0 : Int32) = 1 then some (some (Value.int (0 : Int32)), (mj_hw w c hi hl)) else none := by
  rw [mj_den_eq, f311_809]
  exact zt_icmp_eq rfl rfl (zt_iconst rfl (zt_ireturn1))
set_option maxRecDepth 100000 in
theorem f311_814 : mj_find (mj_P 311).2.2.2.2 814 = [(.aload_n 1, 1, 0, []), (.aload_n 0, 1, 0, []), (.iload_n 3, 1, 0, []), (.iconst 1, 1, 1, []), (.iadd, 1, 0, []), (.iaload, 1, 0, []), (.invokevirtual 94, 3, 0, [0, 126, 11, 1, 1, 1092, 1093, 1094, 143, 1095])] := rfl
set_option maxRecDepth 100000 in
theorem q311_814 (E : mj_E) (d w c : Nat) (hi : Nat → Nat → Int32) (hl : Nat → Nat → Int64) (v3 : Int32) : mj_den mj_P E d 311 814 [Value.retAddr 0, Value.ref 0, Value.ref 205, Value.int v3] [] (mj_hw w c hi hl) = if (E 0).1 ≤ 65536 then (if 0 ≤ (v3 + (1 : Int32)) ∧ ((v3 + (1 : Int32))).toNatClampNeg < (E 0).1 then mj_bi (mj_dc mj_P E d 126 [Value.ref 0, Value.int ((E 0).2 ((v3 + (1 : Int32))).toNatClampNeg)] (mj_hw w c hi hl)) (fun x1 h1 => mj_den mj_P E d 311 823 [Value.retAddr 0, Value.ref 0, Value.ref 205, Value.int v3] [Value.int x1] h1) else none) else none := by
  rw [mj_den_eq, f311_814]
  exact zt_aload_n rfl rfl (zt_aloadc_n rfl (Nat.le_of_ble_eq_true rfl) rfl (zt_iload_n rfl rfl (zt_iconst rfl (zt_iadd rfl (zt_ialc (Nat.le_of_ble_eq_true rfl) rfl (zt_call0_1 rfl (mjkd0 _ _ _ _) (Nat.le_of_ble_eq_true rfl) rfl rfl))))))
set_option maxRecDepth 100000 in
theorem f311_823 : mj_find (mj_P 311).2.2.2.2 823 = [(.aload_n 2, 1, 0, []), (.aload_n 0, 1, 0, []), (.iload_n 3, 1, 0, []), (.iconst 1, 1, 1, []), (.iadd, 1, 0, []), (.iaload, 1, 0, []), (.invokevirtual 97, 3, 0, [0, 240, 12, 1, 1, 1958, 1959, 1960, 156, 1961])] := rfl
set_option maxRecDepth 100000 in
theorem q311_823 (E : mj_E) (d w c : Nat) (hi : Nat → Nat → Int32) (hl : Nat → Nat → Int64) (v3 : Int32) (s0 : Int32) : mj_den mj_P E d 311 823 [Value.retAddr 0, Value.ref 0, Value.ref 205, Value.int v3] [Value.int s0] (mj_hw w c hi hl) = if (E 0).1 ≤ 65536 then (if 0 ≤ (v3 + (1 : Int32)) ∧ ((v3 + (1 : Int32))).toNatClampNeg < (E 0).1 then mj_bi (mj_dc mj_P E d 240 [Value.ref 205, Value.int ((E 0).2 ((v3 + (1 : Int32))).toNatClampNeg)] (mj_hw w c hi hl)) (fun x1 h1 => mj_den mj_P E d 311 832 [Value.retAddr 0, Value.ref 0, Value.ref 205, Value.int v3] [Value.int x1, Value.int s0] h1) else none) else none := by
  rw [mj_den_eq, f311_823]
  exact zt_aload_n rfl rfl (zt_aloadc_n rfl (Nat.le_of_ble_eq_true rfl) rfl (zt_iload_n rfl rfl (zt_iconst rfl (zt_iadd rfl (zt_ialc (Nat.le_of_ble_eq_true rfl) rfl (zt_call0_1 rfl (mjkd205 _ _ _ _) (Nat.le_of_ble_eq_true rfl) rfl rfl))))))
set_option maxRecDepth 100000 in
theorem f311_832 : mj_find (mj_P 311).2.2.2.2 832 = [(.if_icmp .eq 541, 3, 0, [1373]), (.iconst 0, 1, 0, []), (.ireturn, 1, 0, [1])] := rfl
set_option maxRecDepth 100000 in
theorem q311_832 (E : mj_E) (d w c : Nat) (hi : Nat → Nat → Int32) (hl : Nat → Nat → Int64) (v3 : Int32) (s0 : Int32) (s1 : Int32) : mj_den mj_P E d 311 832 [Value.retAddr 0, Value.ref 0, Value.ref 205, Value.int v3] [Value.int s0, Value.int s1] (mj_hw w c hi hl) = if s1 = s0 then mj_den mj_P E d 311 1373 [Value.retAddr 0, Value.ref 0, Value.ref 205, Value.int v3] [] (mj_hw w c hi hl) else if (0 : Int32) = 0 ∨ (0 : Int32) = 1 then some (some (Value.int (0 : Int32)), (mj_hw w c hi hl)) else none := by
  rw [mj_den_eq, f311_832]
  exact zt_icmp_eq rfl rfl (zt_iconst rfl (zt_ireturn1))
set_option maxRecDepth 100000 in
theorem f311_837 : mj_find (mj_P 311).2.2.2.2 837 = [(.aload_n 1, 1, 0, []), (.aload_n 0, 1, 0, []), (.iload_n 3, 1, 0, []), (.iconst 1, 1, 1, []), (.iadd, 1, 0, []), (.iaload, 1, 0, []), (.invokevirtual 98, 3, 0, [0, 127, 11, 1, 1, 1123, 1124, 1125, 143, 1126])] := rfl
set_option maxRecDepth 100000 in
theorem q311_837 (E : mj_E) (d w c : Nat) (hi : Nat → Nat → Int32) (hl : Nat → Nat → Int64) (v3 : Int32) : mj_den mj_P E d 311 837 [Value.retAddr 0, Value.ref 0, Value.ref 205, Value.int v3] [] (mj_hw w c hi hl) = if (E 0).1 ≤ 65536 then (if 0 ≤ (v3 + (1 : Int32)) ∧ ((v3 + (1 : Int32))).toNatClampNeg < (E 0).1 then mj_bi (mj_dc mj_P E d 127 [Value.ref 0, Value.int ((E 0).2 ((v3 + (1 : Int32))).toNatClampNeg)] (mj_hw w c hi hl)) (fun x1 h1 => mj_den mj_P E d 311 846 [Value.retAddr 0, Value.ref 0, Value.ref 205, Value.int v3] [Value.int x1] h1) else none) else none := by
  rw [mj_den_eq, f311_837]
  exact zt_aload_n rfl rfl (zt_aloadc_n rfl (Nat.le_of_ble_eq_true rfl) rfl (zt_iload_n rfl rfl (zt_iconst rfl (zt_iadd rfl (zt_ialc (Nat.le_of_ble_eq_true rfl) rfl (zt_call0_1 rfl (mjkd0 _ _ _ _) (Nat.le_of_ble_eq_true rfl) rfl rfl))))))
set_option maxRecDepth 100000 in
theorem f311_846 : mj_find (mj_P 311).2.2.2.2 846 = [(.aload_n 2, 1, 0, []), (.aload_n 0, 1, 0, []), (.iload_n 3, 1, 0, []), (.iconst 1, 1, 1, []), (.iadd, 1, 0, []), (.iaload, 1, 0, []), (.invokevirtual 101, 3, 0, [0, 245, 12, 1, 1, 1970, 1971, 1972, 156, 1973])] := rfl
set_option maxRecDepth 100000 in
theorem q311_846 (E : mj_E) (d w c : Nat) (hi : Nat → Nat → Int32) (hl : Nat → Nat → Int64) (v3 : Int32) (s0 : Int32) : mj_den mj_P E d 311 846 [Value.retAddr 0, Value.ref 0, Value.ref 205, Value.int v3] [Value.int s0] (mj_hw w c hi hl) = if (E 0).1 ≤ 65536 then (if 0 ≤ (v3 + (1 : Int32)) ∧ ((v3 + (1 : Int32))).toNatClampNeg < (E 0).1 then mj_bi (mj_dc mj_P E d 245 [Value.ref 205, Value.int ((E 0).2 ((v3 + (1 : Int32))).toNatClampNeg)] (mj_hw w c hi hl)) (fun x1 h1 => mj_den mj_P E d 311 855 [Value.retAddr 0, Value.ref 0, Value.ref 205, Value.int v3] [Value.int x1, Value.int s0] h1) else none) else none := by
  rw [mj_den_eq, f311_846]
  exact zt_aload_n rfl rfl (zt_aloadc_n rfl (Nat.le_of_ble_eq_true rfl) rfl (zt_iload_n rfl rfl (zt_iconst rfl (zt_iadd rfl (zt_ialc (Nat.le_of_ble_eq_true rfl) rfl (zt_call0_1 rfl (mjkd205 _ _ _ _) (Nat.le_of_ble_eq_true rfl) rfl rfl))))))
set_option maxRecDepth 100000 in
theorem f311_855 : mj_find (mj_P 311).2.2.2.2 855 = [(.if_icmp .eq 518, 3, 0, [1373]), (.iconst 0, 1, 0, []), (.ireturn, 1, 0, [1])] := rfl
set_option maxRecDepth 100000 in
theorem q311_855 (E : mj_E) (d w c : Nat) (hi : Nat → Nat → Int32) (hl : Nat → Nat → Int64) (v3 : Int32) (s0 : Int32) (s1 : Int32) : mj_den mj_P E d 311 855 [Value.retAddr 0, Value.ref 0, Value.ref 205, Value.int v3] [Value.int s0, Value.int s1] (mj_hw w c hi hl) = if s1 = s0 then mj_den mj_P E d 311 1373 [Value.retAddr 0, Value.ref 0, Value.ref 205, Value.int v3] [] (mj_hw w c hi hl) else if (0 : Int32) = 0 ∨ (0 : Int32) = 1 then some (some (Value.int (0 : Int32)), (mj_hw w c hi hl)) else none := by
  rw [mj_den_eq, f311_855]
  exact zt_icmp_eq rfl rfl (zt_iconst rfl (zt_ireturn1))
set_option maxRecDepth 100000 in
theorem f311_860 : mj_find (mj_P 311).2.2.2.2 860 = [(.aload_n 1, 1, 0, []), (.aload_n 0, 1, 0, []), (.iload_n 3, 1, 0, []), (.iconst 1, 1, 1, []), (.iadd, 1, 0, []), (.iaload, 1, 0, []), (.aload_n 0, 1, 0, []), (.iload_n 3, 1, 0, []), (.iconst 2, 1, 2, []), (.iadd, 1, 0, []), (.iaload, 1, 0, []), (.invokevirtual 102, 3, 0, [0, 128, 11, 2, 1, 1157, 1158, 1159, 143, 1160])] := rfl
set_option maxRecDepth 100000 in
theorem q311_860 (E : mj_E) (d w c : Nat) (hi : Nat → Nat → Int32) (hl : Nat → Nat → Int64) (v3 : Int32) : mj_den mj_P E d 311 860 [Value.retAddr 0, Value.ref 0, Value.ref 205, Value.int v3] [] (mj_hw w c hi hl) = if (E 0).1 ≤ 65536 then (if 0 ≤ (v3 + (1 : Int32)) ∧ ((v3 + (1 : Int32))).toNatClampNeg < (E 0).1 then if (E 0).1 ≤ 65536 then (if 0 ≤ (v3 + (2 : Int32)) ∧ ((v3 + (2 : Int32))).toNatClampNeg < (E 0).1 then mj_bi (mj_dc mj_P E d 128 [Value.ref 0, Value.int ((E 0).2 ((v3 + (1 : Int32))).toNatClampNeg), Value.int ((E 0).2 ((v3 + (2 : Int32))).toNatClampNeg)] (mj_hw w c hi hl)) (fun x1 h1 => mj_den mj_P E d 311 874 [Value.retAddr 0, Value.ref 0, Value.ref 205, Value.int v3] [Value.int x1] h1) else none) else none else none) else none := by
  rw [mj_den_eq, f311_860]
  exact zt_aload_n rfl rfl (zt_aloadc_n rfl (Nat.le_of_ble_eq_true rfl) rfl (zt_iload_n rfl rfl (zt_iconst rfl (zt_iadd rfl (zt_ialc (Nat.le_of_ble_eq_true rfl) rfl (zt_aloadc_n rfl (Nat.le_of_ble_eq_true rfl) rfl (zt_iload_n rfl rfl (zt_iconst rfl (zt_iadd rfl (zt_ialc (Nat.le_of_ble_eq_true rfl) rfl (zt_call0_1 rfl (mjkd0 _ _ _ _) (Nat.le_of_ble_eq_true rfl) rfl rfl)))))))))))
set_option maxRecDepth 100000 in
theorem f311_874 : mj_find (mj_P 311).2.2.2.2 874 = [(.aload_n 2, 1, 0, []), (.aload_n 0, 1, 0, []), (.iload_n 3, 1, 0, []), (.iconst 1, 1, 1, []), (.iadd, 1, 0, []), (.iaload, 1, 0, []), (.aload_n 0, 1, 0, []), (.iload_n 3, 1, 0, []), (.iconst 2, 1, 2, []), (.iadd, 1, 0, []), (.iaload, 1, 0, []), (.invokevirtual 105, 3, 0, [0, 246, 12, 2, 1, 1991, 1992, 1993, 156, 1994])] := rfl
set_option maxRecDepth 100000 in
theorem q311_874 (E : mj_E) (d w c : Nat) (hi : Nat → Nat → Int32) (hl : Nat → Nat → Int64) (v3 : Int32) (s0 : Int32) : mj_den mj_P E d 311 874 [Value.retAddr 0, Value.ref 0, Value.ref 205, Value.int v3] [Value.int s0] (mj_hw w c hi hl) = if (E 0).1 ≤ 65536 then (if 0 ≤ (v3 + (1 : Int32)) ∧ ((v3 + (1 : Int32))).toNatClampNeg < (E 0).1 then if (E 0).1 ≤ 65536 then (if 0 ≤ (v3 + (2 : Int32)) ∧ ((v3 + (2 : Int32))).toNatClampNeg < (E 0).1 then mj_bi (mj_dc mj_P E d 246 [Value.ref 205, Value.int ((E 0).2 ((v3 + (1 : Int32))).toNatClampNeg), Value.int ((E 0).2 ((v3 + (2 : Int32))).toNatClampNeg)] (mj_hw w c hi hl)) (fun x1 h1 => mj_den mj_P E d 311 888 [Value.retAddr 0, Value.ref 0, Value.ref 205, Value.int v3] [Value.int x1, Value.int s0] h1) else none) else none else none) else none := by
  rw [mj_den_eq, f311_874]
  exact zt_aload_n rfl rfl (zt_aloadc_n rfl (Nat.le_of_ble_eq_true rfl) rfl (zt_iload_n rfl rfl (zt_iconst rfl (zt_iadd rfl (zt_ialc (Nat.le_of_ble_eq_true rfl) rfl (zt_aloadc_n rfl (Nat.le_of_ble_eq_true rfl) rfl (zt_iload_n rfl rfl (zt_iconst rfl (zt_iadd rfl (zt_ialc (Nat.le_of_ble_eq_true rfl) rfl (zt_call0_1 rfl (mjkd205 _ _ _ _) (Nat.le_of_ble_eq_true rfl) rfl rfl)))))))))))
set_option maxRecDepth 100000 in
theorem f311_888 : mj_find (mj_P 311).2.2.2.2 888 = [(.if_icmp .eq 485, 3, 0, [1373]), (.iconst 0, 1, 0, []), (.ireturn, 1, 0, [1])] := rfl
set_option maxRecDepth 100000 in
theorem q311_888 (E : mj_E) (d w c : Nat) (hi : Nat → Nat → Int32) (hl : Nat → Nat → Int64) (v3 : Int32) (s0 : Int32) (s1 : Int32) : mj_den mj_P E d 311 888 [Value.retAddr 0, Value.ref 0, Value.ref 205, Value.int v3] [Value.int s0, Value.int s1] (mj_hw w c hi hl) = if s1 = s0 then mj_den mj_P E d 311 1373 [Value.retAddr 0, Value.ref 0, Value.ref 205, Value.int v3] [] (mj_hw w c hi hl) else if (0 : Int32) = 0 ∨ (0 : Int32) = 1 then some (some (Value.int (0 : Int32)), (mj_hw w c hi hl)) else none := by
  rw [mj_den_eq, f311_888]
  exact zt_icmp_eq rfl rfl (zt_iconst rfl (zt_ireturn1))
set_option maxRecDepth 100000 in
theorem f311_893 : mj_find (mj_P 311).2.2.2.2 893 = [(.aload_n 1, 1, 0, []), (.aload_n 0, 1, 0, []), (.iload_n 3, 1, 0, []), (.iconst 1, 1, 1, []), (.iadd, 1, 0, []), (.iaload, 1, 0, []), (.invokevirtual 106, 3, 0, [0, 129, 11, 1, 1, 1161, 1162, 1163, 143, 1164])] := rfl
set_option maxRecDepth 100000 in
theorem q311_893 (E : mj_E) (d w c : Nat) (hi : Nat → Nat → Int32) (hl : Nat → Nat → Int64) (v3 : Int32) : mj_den mj_P E d 311 893 [Value.retAddr 0, Value.ref 0, Value.ref 205, Value.int v3] [] (mj_hw w c hi hl) = if (E 0).1 ≤ 65536 then (if 0 ≤ (v3 + (1 : Int32)) ∧ ((v3 + (1 : Int32))).toNatClampNeg < (E 0).1 then mj_bi (mj_dc mj_P E d 129 [Value.ref 0, Value.int ((E 0).2 ((v3 + (1 : Int32))).toNatClampNeg)] (mj_hw w c hi hl)) (fun x1 h1 => mj_den mj_P E d 311 902 [Value.retAddr 0, Value.ref 0, Value.ref 205, Value.int v3] [Value.int x1] h1) else none) else none := by
  rw [mj_den_eq, f311_893]
  exact zt_aload_n rfl rfl (zt_aloadc_n rfl (Nat.le_of_ble_eq_true rfl) rfl (zt_iload_n rfl rfl (zt_iconst rfl (zt_iadd rfl (zt_ialc (Nat.le_of_ble_eq_true rfl) rfl (zt_call0_1 rfl (mjkd0 _ _ _ _) (Nat.le_of_ble_eq_true rfl) rfl rfl))))))
set_option maxRecDepth 100000 in
theorem f311_902 : mj_find (mj_P 311).2.2.2.2 902 = [(.aload_n 2, 1, 0, []), (.aload_n 0, 1, 0, []), (.iload_n 3, 1, 0, []), (.iconst 1, 1, 1, []), (.iadd, 1, 0, []), (.iaload, 1, 0, []), (.invokevirtual 109, 3, 0, [0, 251, 12, 1, 1, 1995, 1996, 1997, 156, 1998])] := rfl
set_option maxRecDepth 100000 in
theorem q311_902 (E : mj_E) (d w c : Nat) (hi : Nat → Nat → Int32) (hl : Nat → Nat → Int64) (v3 : Int32) (s0 : Int32) : mj_den mj_P E d 311 902 [Value.retAddr 0, Value.ref 0, Value.ref 205, Value.int v3] [Value.int s0] (mj_hw w c hi hl) = if (E 0).1 ≤ 65536 then (if 0 ≤ (v3 + (1 : Int32)) ∧ ((v3 + (1 : Int32))).toNatClampNeg < (E 0).1 then mj_bi (mj_dc mj_P E d 251 [Value.ref 205, Value.int ((E 0).2 ((v3 + (1 : Int32))).toNatClampNeg)] (mj_hw w c hi hl)) (fun x1 h1 => mj_den mj_P E d 311 911 [Value.retAddr 0, Value.ref 0, Value.ref 205, Value.int v3] [Value.int x1, Value.int s0] h1) else none) else none := by
  rw [mj_den_eq, f311_902]
  exact zt_aload_n rfl rfl (zt_aloadc_n rfl (Nat.le_of_ble_eq_true rfl) rfl (zt_iload_n rfl rfl (zt_iconst rfl (zt_iadd rfl (zt_ialc (Nat.le_of_ble_eq_true rfl) rfl (zt_call0_1 rfl (mjkd205 _ _ _ _) (Nat.le_of_ble_eq_true rfl) rfl rfl))))))
set_option maxRecDepth 100000 in
theorem f311_911 : mj_find (mj_P 311).2.2.2.2 911 = [(.if_icmp .eq 462, 3, 0, [1373]), (.iconst 0, 1, 0, []), (.ireturn, 1, 0, [1])] := rfl
set_option maxRecDepth 100000 in
theorem q311_911 (E : mj_E) (d w c : Nat) (hi : Nat → Nat → Int32) (hl : Nat → Nat → Int64) (v3 : Int32) (s0 : Int32) (s1 : Int32) : mj_den mj_P E d 311 911 [Value.retAddr 0, Value.ref 0, Value.ref 205, Value.int v3] [Value.int s0, Value.int s1] (mj_hw w c hi hl) = if s1 = s0 then mj_den mj_P E d 311 1373 [Value.retAddr 0, Value.ref 0, Value.ref 205, Value.int v3] [] (mj_hw w c hi hl) else if (0 : Int32) = 0 ∨ (0 : Int32) = 1 then some (some (Value.int (0 : Int32)), (mj_hw w c hi hl)) else none := by
  rw [mj_den_eq, f311_911]
  exact zt_icmp_eq rfl rfl (zt_iconst rfl (zt_ireturn1))
set_option maxRecDepth 100000 in
theorem f311_916 : mj_find (mj_P 311).2.2.2.2 916 = [(.aload_n 1, 1, 0, []), (.aload_n 0, 1, 0, []), (.iload_n 3, 1, 0, []), (.iconst 1, 1, 1, []), (.iadd, 1, 0, []), (.iaload, 1, 0, []), (.aload_n 0, 1, 0, []), (.iload_n 3, 1, 0, []), (.iconst 2, 1, 2, []), (.iadd, 1, 0, []), (.iaload, 1, 0, []), (.invokevirtual 110, 3, 0, [0, 130, 11, 2, 1, 1181, 1182, 1183, 143, 1184])] := rfl
set_option maxRecDepth 100000 in
theorem q311_916 (E : mj_E) (d w c : Nat) (hi : Nat → Nat → Int32) (hl : Nat → Nat → Int64) (v3 : Int32) : mj_den mj_P E d 311 916 [Value.retAddr 0, Value.ref 0, Value.ref 205, Value.int v3] [] (mj_hw w c hi hl) = if (E 0).1 ≤ 65536 then (if 0 ≤ (v3 + (1 : Int32)) ∧ ((v3 + (1 : Int32))).toNatClampNeg < (E 0).1 then if (E 0).1 ≤ 65536 then (if 0 ≤ (v3 + (2 : Int32)) ∧ ((v3 + (2 : Int32))).toNatClampNeg < (E 0).1 then mj_bi (mj_dc mj_P E d 130 [Value.ref 0, Value.int ((E 0).2 ((v3 + (1 : Int32))).toNatClampNeg), Value.int ((E 0).2 ((v3 + (2 : Int32))).toNatClampNeg)] (mj_hw w c hi hl)) (fun x1 h1 => mj_den mj_P E d 311 930 [Value.retAddr 0, Value.ref 0, Value.ref 205, Value.int v3] [Value.int x1] h1) else none) else none else none) else none := by
  rw [mj_den_eq, f311_916]
  exact zt_aload_n rfl rfl (zt_aloadc_n rfl (Nat.le_of_ble_eq_true rfl) rfl (zt_iload_n rfl rfl (zt_iconst rfl (zt_iadd rfl (zt_ialc (Nat.le_of_ble_eq_true rfl) rfl (zt_aloadc_n rfl (Nat.le_of_ble_eq_true rfl) rfl (zt_iload_n rfl rfl (zt_iconst rfl (zt_iadd rfl (zt_ialc (Nat.le_of_ble_eq_true rfl) rfl (zt_call0_1 rfl (mjkd0 _ _ _ _) (Nat.le_of_ble_eq_true rfl) rfl rfl)))))))))))
set_option maxRecDepth 100000 in
theorem f311_930 : mj_find (mj_P 311).2.2.2.2 930 = [(.aload_n 2, 1, 0, []), (.aload_n 0, 1, 0, []), (.iload_n 3, 1, 0, []), (.iconst 1, 1, 1, []), (.iadd, 1, 0, []), (.iaload, 1, 0, []), (.aload_n 0, 1, 0, []), (.iload_n 3, 1, 0, []), (.iconst 2, 1, 2, []), (.iadd, 1, 0, []), (.iaload, 1, 0, []), (.invokevirtual 113, 3, 0, [0, 254, 12, 2, 1, 2015, 2016, 2017, 156, 2018])] := rfl
set_option maxRecDepth 100000 in
theorem q311_930 (E : mj_E) (d w c : Nat) (hi : Nat → Nat → Int32) (hl : Nat → Nat → Int64) (v3 : Int32) (s0 : Int32) : mj_den mj_P E d 311 930 [Value.retAddr 0, Value.ref 0, Value.ref 205, Value.int v3] [Value.int s0] (mj_hw w c hi hl) = if (E 0).1 ≤ 65536 then (if 0 ≤ (v3 + (1 : Int32)) ∧ ((v3 + (1 : Int32))).toNatClampNeg < (E 0).1 then if (E 0).1 ≤ 65536 then (if 0 ≤ (v3 + (2 : Int32)) ∧ ((v3 + (2 : Int32))).toNatClampNeg < (E 0).1 then mj_bi (mj_dc mj_P E d 254 [Value.ref 205, Value.int ((E 0).2 ((v3 + (1 : Int32))).toNatClampNeg), Value.int ((E 0).2 ((v3 + (2 : Int32))).toNatClampNeg)] (mj_hw w c hi hl)) (fun x1 h1 => mj_den mj_P E d 311 944 [Value.retAddr 0, Value.ref 0, Value.ref 205, Value.int v3] [Value.int x1, Value.int s0] h1) else none) else none else none) else none := by
  rw [mj_den_eq, f311_930]
  exact zt_aload_n rfl rfl (zt_aloadc_n rfl (Nat.le_of_ble_eq_true rfl) rfl (zt_iload_n rfl rfl (zt_iconst rfl (zt_iadd rfl (zt_ialc (Nat.le_of_ble_eq_true rfl) rfl (zt_aloadc_n rfl (Nat.le_of_ble_eq_true rfl) rfl (zt_iload_n rfl rfl (zt_iconst rfl (zt_iadd rfl (zt_ialc (Nat.le_of_ble_eq_true rfl) rfl (zt_call0_1 rfl (mjkd205 _ _ _ _) (Nat.le_of_ble_eq_true rfl) rfl rfl)))))))))))
set_option maxRecDepth 100000 in
theorem f311_944 : mj_find (mj_P 311).2.2.2.2 944 = [(.if_icmp .eq 429, 3, 0, [1373]), (.iconst 0, 1, 0, []), (.ireturn, 1, 0, [1])] := rfl
set_option maxRecDepth 100000 in
theorem q311_944 (E : mj_E) (d w c : Nat) (hi : Nat → Nat → Int32) (hl : Nat → Nat → Int64) (v3 : Int32) (s0 : Int32) (s1 : Int32) : mj_den mj_P E d 311 944 [Value.retAddr 0, Value.ref 0, Value.ref 205, Value.int v3] [Value.int s0, Value.int s1] (mj_hw w c hi hl) = if s1 = s0 then mj_den mj_P E d 311 1373 [Value.retAddr 0, Value.ref 0, Value.ref 205, Value.int v3] [] (mj_hw w c hi hl) else if (0 : Int32) = 0 ∨ (0 : Int32) = 1 then some (some (Value.int (0 : Int32)), (mj_hw w c hi hl)) else none := by
  rw [mj_den_eq, f311_944]
  exact zt_icmp_eq rfl rfl (zt_iconst rfl (zt_ireturn1))
set_option maxRecDepth 100000 in
theorem f311_949 : mj_find (mj_P 311).2.2.2.2 949 = [(.aload_n 1, 1, 0, []), (.aload_n 0, 1, 0, []), (.iload_n 3, 1, 0, []), (.iconst 1, 1, 1, []), (.iadd, 1, 0, []), (.iaload, 1, 0, []), (.invokevirtual 114, 3, 0, [0, 131, 11, 1, 1, 1202, 1203, 1204, 143, 1205])] := rfl
set_option maxRecDepth 100000 in
theorem q311_949 (E : mj_E) (d w c : Nat) (hi : Nat → Nat → Int32) (hl : Nat → Nat → Int64) (v3 : Int32) : mj_den mj_P E d 311 949 [Value.retAddr 0, Value.ref 0, Value.ref 205, Value.int v3] [] (mj_hw w c hi hl) = if (E 0).1 ≤ 65536 then (if 0 ≤ (v3 + (1 : Int32)) ∧ ((v3 + (1 : Int32))).toNatClampNeg < (E 0).1 then mj_bi (mj_dc mj_P E d 131 [Value.ref 0, Value.int ((E 0).2 ((v3 + (1 : Int32))).toNatClampNeg)] (mj_hw w c hi hl)) (fun x1 h1 => mj_den mj_P E d 311 958 [Value.retAddr 0, Value.ref 0, Value.ref 205, Value.int v3] [Value.int x1] h1) else none) else none := by
  rw [mj_den_eq, f311_949]
  exact zt_aload_n rfl rfl (zt_aloadc_n rfl (Nat.le_of_ble_eq_true rfl) rfl (zt_iload_n rfl rfl (zt_iconst rfl (zt_iadd rfl (zt_ialc (Nat.le_of_ble_eq_true rfl) rfl (zt_call0_1 rfl (mjkd0 _ _ _ _) (Nat.le_of_ble_eq_true rfl) rfl rfl))))))
set_option maxRecDepth 100000 in
theorem f311_958 : mj_find (mj_P 311).2.2.2.2 958 = [(.aload_n 2, 1, 0, []), (.aload_n 0, 1, 0, []), (.iload_n 3, 1, 0, []), (.iconst 1, 1, 1, []), (.iadd, 1, 0, []), (.iaload, 1, 0, []), (.invokevirtual 117, 3, 0, [0, 255, 12, 1, 1, 2027, 2028, 2029, 156, 2030])] := rfl
set_option maxRecDepth 100000 in
theorem q311_958 (E : mj_E) (d w c : Nat) (hi : Nat → Nat → Int32) (hl : Nat → Nat → Int64) (v3 : Int32) (s0 : Int32) : mj_den mj_P E d 311 958 [Value.retAddr 0, Value.ref 0, Value.ref 205, Value.int v3] [Value.int s0] (mj_hw w c hi hl) = if (E 0).1 ≤ 65536 then (if 0 ≤ (v3 + (1 : Int32)) ∧ ((v3 + (1 : Int32))).toNatClampNeg < (E 0).1 then mj_bi (mj_dc mj_P E d 255 [Value.ref 205, Value.int ((E 0).2 ((v3 + (1 : Int32))).toNatClampNeg)] (mj_hw w c hi hl)) (fun x1 h1 => mj_den mj_P E d 311 967 [Value.retAddr 0, Value.ref 0, Value.ref 205, Value.int v3] [Value.int x1, Value.int s0] h1) else none) else none := by
  rw [mj_den_eq, f311_958]
  exact zt_aload_n rfl rfl (zt_aloadc_n rfl (Nat.le_of_ble_eq_true rfl) rfl (zt_iload_n rfl rfl (zt_iconst rfl (zt_iadd rfl (zt_ialc (Nat.le_of_ble_eq_true rfl) rfl (zt_call0_1 rfl (mjkd205 _ _ _ _) (Nat.le_of_ble_eq_true rfl) rfl rfl))))))
set_option maxRecDepth 100000 in
theorem f311_967 : mj_find (mj_P 311).2.2.2.2 967 = [(.if_icmp .eq 406, 3, 0, [1373]), (.iconst 0, 1, 0, []), (.ireturn, 1, 0, [1])] := rfl
set_option maxRecDepth 100000 in
theorem q311_967 (E : mj_E) (d w c : Nat) (hi : Nat → Nat → Int32) (hl : Nat → Nat → Int64) (v3 : Int32) (s0 : Int32) (s1 : Int32) : mj_den mj_P E d 311 967 [Value.retAddr 0, Value.ref 0, Value.ref 205, Value.int v3] [Value.int s0, Value.int s1] (mj_hw w c hi hl) = if s1 = s0 then mj_den mj_P E d 311 1373 [Value.retAddr 0, Value.ref 0, Value.ref 205, Value.int v3] [] (mj_hw w c hi hl) else if (0 : Int32) = 0 ∨ (0 : Int32) = 1 then some (some (Value.int (0 : Int32)), (mj_hw w c hi hl)) else none := by
  rw [mj_den_eq, f311_967]
  exact zt_icmp_eq rfl rfl (zt_iconst rfl (zt_ireturn1))
set_option maxRecDepth 100000 in
theorem f311_972 : mj_find (mj_P 311).2.2.2.2 972 = [(.aload_n 1, 1, 0, []), (.aload_n 0, 1, 0, []), (.iload_n 3, 1, 0, []), (.iconst 1, 1, 1, []), (.iadd, 1, 0, []), (.iaload, 1, 0, []), (.aload_n 0, 1, 0, []), (.iload_n 3, 1, 0, []), (.iconst 2, 1, 2, []), (.iadd, 1, 0, []), (.iaload, 1, 0, []), (.invokevirtual 118, 3, 0, [0, 132, 11, 2, 1, 1206, 1207, 1208, 143, 1209])] := rfl
set_option maxRecDepth 100000 in
theorem q311_972 (E : mj_E) (d w c : Nat) (hi : Nat → Nat → Int32) (hl : Nat → Nat → Int64) (v3 : Int32) : mj_den mj_P E d 311 972 [Value.retAddr 0, Value.ref 0, Value.ref 205, Value.int v3] [] (mj_hw w c hi hl) = if (E 0).1 ≤ 65536 then (if 0 ≤ (v3 + (1 : Int32)) ∧ ((v3 + (1 : Int32))).toNatClampNeg < (E 0).1 then if (E 0).1 ≤ 65536 then (if 0 ≤ (v3 + (2 : Int32)) ∧ ((v3 + (2 : Int32))).toNatClampNeg < (E 0).1 then mj_bi (mj_dc mj_P E d 132 [Value.ref 0, Value.int ((E 0).2 ((v3 + (1 : Int32))).toNatClampNeg), Value.int ((E 0).2 ((v3 + (2 : Int32))).toNatClampNeg)] (mj_hw w c hi hl)) (fun x1 h1 => mj_den mj_P E d 311 986 [Value.retAddr 0, Value.ref 0, Value.ref 205, Value.int v3] [Value.int x1] h1) else none) else none else none) else none := by
  rw [mj_den_eq, f311_972]
  exact zt_aload_n rfl rfl (zt_aloadc_n rfl (Nat.le_of_ble_eq_true rfl) rfl (zt_iload_n rfl rfl (zt_iconst rfl (zt_iadd rfl (zt_ialc (Nat.le_of_ble_eq_true rfl) rfl (zt_aloadc_n rfl (Nat.le_of_ble_eq_true rfl) rfl (zt_iload_n rfl rfl (zt_iconst rfl (zt_iadd rfl (zt_ialc (Nat.le_of_ble_eq_true rfl) rfl (zt_call0_1 rfl (mjkd0 _ _ _ _) (Nat.le_of_ble_eq_true rfl) rfl rfl)))))))))))
set_option maxRecDepth 100000 in
theorem f311_986 : mj_find (mj_P 311).2.2.2.2 986 = [(.aload_n 2, 1, 0, []), (.aload_n 0, 1, 0, []), (.iload_n 3, 1, 0, []), (.iconst 1, 1, 1, []), (.iadd, 1, 0, []), (.iaload, 1, 0, []), (.aload_n 0, 1, 0, []), (.iload_n 3, 1, 0, []), (.iconst 2, 1, 2, []), (.iadd, 1, 0, []), (.iaload, 1, 0, []), (.invokevirtual 121, 3, 0, [0, 259, 12, 2, 1, 2031, 2032, 2033, 156, 2034])] := rfl
set_option maxRecDepth 100000 in
theorem q311_986 (E : mj_E) (d w c : Nat) (hi : Nat → Nat → Int32) (hl : Nat → Nat → Int64) (v3 : Int32) (s0 : Int32) : mj_den mj_P E d 311 986 [Value.retAddr 0, Value.ref 0, Value.ref 205, Value.int v3] [Value.int s0] (mj_hw w c hi hl) = if (E 0).1 ≤ 65536 then (if 0 ≤ (v3 + (1 : Int32)) ∧ ((v3 + (1 : Int32))).toNatClampNeg < (E 0).1 then if (E 0).1 ≤ 65536 then (if 0 ≤ (v3 + (2 : Int32)) ∧ ((v3 + (2 : Int32))).toNatClampNeg < (E 0).1 then mj_bi (mj_dc mj_P E d 259 [Value.ref 205, Value.int ((E 0).2 ((v3 + (1 : Int32))).toNatClampNeg), Value.int ((E 0).2 ((v3 + (2 : Int32))).toNatClampNeg)] (mj_hw w c hi hl)) (fun x1 h1 => mj_den mj_P E d 311 1000 [Value.retAddr 0, Value.ref 0, Value.ref 205, Value.int v3] [Value.int x1, Value.int s0] h1) else none) else none else none) else none := by
  rw [mj_den_eq, f311_986]
  exact zt_aload_n rfl rfl (zt_aloadc_n rfl (Nat.le_of_ble_eq_true rfl) rfl (zt_iload_n rfl rfl (zt_iconst rfl (zt_iadd rfl (zt_ialc (Nat.le_of_ble_eq_true rfl) rfl (zt_aloadc_n rfl (Nat.le_of_ble_eq_true rfl) rfl (zt_iload_n rfl rfl (zt_iconst rfl (zt_iadd rfl (zt_ialc (Nat.le_of_ble_eq_true rfl) rfl (zt_call0_1 rfl (mjkd205 _ _ _ _) (Nat.le_of_ble_eq_true rfl) rfl rfl)))))))))))
set_option maxRecDepth 100000 in
theorem f311_1000 : mj_find (mj_P 311).2.2.2.2 1000 = [(.if_icmp .eq 373, 3, 0, [1373]), (.iconst 0, 1, 0, []), (.ireturn, 1, 0, [1])] := rfl
set_option maxRecDepth 100000 in
theorem q311_1000 (E : mj_E) (d w c : Nat) (hi : Nat → Nat → Int32) (hl : Nat → Nat → Int64) (v3 : Int32) (s0 : Int32) (s1 : Int32) : mj_den mj_P E d 311 1000 [Value.retAddr 0, Value.ref 0, Value.ref 205, Value.int v3] [Value.int s0, Value.int s1] (mj_hw w c hi hl) = if s1 = s0 then mj_den mj_P E d 311 1373 [Value.retAddr 0, Value.ref 0, Value.ref 205, Value.int v3] [] (mj_hw w c hi hl) else if (0 : Int32) = 0 ∨ (0 : Int32) = 1 then some (some (Value.int (0 : Int32)), (mj_hw w c hi hl)) else none := by
  rw [mj_den_eq, f311_1000]
  exact zt_icmp_eq rfl rfl (zt_iconst rfl (zt_ireturn1))
set_option maxRecDepth 100000 in
theorem f311_1005 : mj_find (mj_P 311).2.2.2.2 1005 = [(.aload_n 1, 1, 0, []), (.aload_n 0, 1, 0, []), (.iload_n 3, 1, 0, []), (.iconst 1, 1, 1, []), (.iadd, 1, 0, []), (.iaload, 1, 0, []), (.aload_n 0, 1, 0, []), (.iload_n 3, 1, 0, []), (.iconst 2, 1, 2, []), (.iadd, 1, 0, []), (.iaload, 1, 0, []), (.aload_n 0, 1, 0, []), (.iload_n 3, 1, 0, []), (.iconst 3, 1, 3, []), (.iadd, 1, 0, []), (.iaload, 1, 0, []), (.invokevirtual 122, 3, 0, [0, 133, 11, 3, 1, 1221, 1222, 1223, 143, 1224])] := rfl
set_option maxRecDepth 100000 in
theorem q311_1005 (E : mj_E) (d w c : Nat) (hi : Nat → Nat → Int32) (hl : Nat → Nat → Int64) (v3 : Int32) : mj_den mj_P E d 311 1005 [Value.retAddr 0, Value.ref 0, Value.ref 205, Value.int v3] [] (mj_hw w c hi hl) = if (E 0).1 ≤ 65536 then (if 0 ≤ (v3 + (1 : Int32)) ∧ ((v3 + (1 : Int32))).toNatClampNeg < (E 0).1 then if (E 0).1 ≤ 65536 then (if 0 ≤ (v3 + (2 : Int32)) ∧ ((v3 + (2 : Int32))).toNatClampNeg < (E 0).1 then if (E 0).1 ≤ 65536 then (if 0 ≤ (v3 + (3 : Int32)) ∧ ((v3 + (3 : Int32))).toNatClampNeg < (E 0).1 then mj_bi (mj_dc mj_P E d 133 [Value.ref 0, Value.int ((E 0).2 ((v3 + (1 : Int32))).toNatClampNeg), Value.int ((E 0).2 ((v3 + (2 : Int32))).toNatClampNeg), Value.int ((E 0).2 ((v3 + (3 : Int32))).toNatClampNeg)] (mj_hw w c hi hl)) (fun x1 h1 => mj_den mj_P E d 311 1024 [Value.retAddr 0, Value.ref 0, Value.ref 205, Value.int v3] [Value.int x1] h1) else none) else none else none) else none else none) else none := by
  rw [mj_den_eq, f311_1005]
  exact zt_aload_n rfl rfl (zt_aloadc_n rfl (Nat.le_of_ble_eq_true rfl) rfl (zt_iload_n rfl rfl (zt_iconst rfl (zt_iadd rfl (zt_ialc (Nat.le_of_ble_eq_true rfl) rfl (zt_aloadc_n rfl (Nat.le_of_ble_eq_true rfl) rfl (zt_iload_n rfl rfl (zt_iconst rfl (zt_iadd rfl (zt_ialc (Nat.le_of_ble_eq_true rfl) rfl (zt_aloadc_n rfl (Nat.le_of_ble_eq_true rfl) rfl (zt_iload_n rfl rfl (zt_iconst rfl (zt_iadd rfl (zt_ialc (Nat.le_of_ble_eq_true rfl) rfl (zt_call0_1 rfl (mjkd0 _ _ _ _) (Nat.le_of_ble_eq_true rfl) rfl rfl))))))))))))))))
set_option maxRecDepth 100000 in
theorem f311_1024 : mj_find (mj_P 311).2.2.2.2 1024 = [(.aload_n 2, 1, 0, []), (.aload_n 0, 1, 0, []), (.iload_n 3, 1, 0, []), (.iconst 1, 1, 1, []), (.iadd, 1, 0, []), (.iaload, 1, 0, []), (.aload_n 0, 1, 0, []), (.iload_n 3, 1, 0, []), (.iconst 2, 1, 2, []), (.iadd, 1, 0, []), (.iaload, 1, 0, []), (.aload_n 0, 1, 0, []), (.iload_n 3, 1, 0, []), (.iconst 3, 1, 3, []), (.iadd, 1, 0, []), (.iaload, 1, 0, []), (.invokevirtual 125, 3, 0, [0, 263, 12, 3, 1, 2047, 2048, 2049, 156, 2050])] := rfl
set_option maxRecDepth 100000 in
theorem q311_1024 (E : mj_E) (d w c : Nat) (hi : Nat → Nat → Int32) (hl : Nat → Nat → Int64) (v3 : Int32) (s0 : Int32) : mj_den mj_P E d 311 1024 [Value.retAddr 0, Value.ref 0, Value.ref 205, Value.int v3] [Value.int s0] (mj_hw w c hi hl) = if (E 0).1 ≤ 65536 then (if 0 ≤ (v3 + (1 : Int32)) ∧ ((v3 + (1 : Int32))).toNatClampNeg < (E 0).1 then if (E 0).1 ≤ 65536 then (if 0 ≤ (v3 + (2 : Int32)) ∧ ((v3 + (2 : Int32))).toNatClampNeg < (E 0).1 then if (E 0).1 ≤ 65536 then (if 0 ≤ (v3 + (3 : Int32)) ∧ ((v3 + (3 : Int32))).toNatClampNeg < (E 0).1 then mj_bi (mj_dc mj_P E d 263 [Value.ref 205, Value.int ((E 0).2 ((v3 + (1 : Int32))).toNatClampNeg), Value.int ((E 0).2 ((v3 + (2 : Int32))).toNatClampNeg), Value.int ((E 0).2 ((v3 + (3 : Int32))).toNatClampNeg)] (mj_hw w c hi hl)) (fun x1 h1 => mj_den mj_P E d 311 1043 [Value.retAddr 0, Value.ref 0, Value.ref 205, Value.int v3] [Value.int x1, Value.int s0] h1) else none) else none else none) else none else none) else none := by
  rw [mj_den_eq, f311_1024]
  exact zt_aload_n rfl rfl (zt_aloadc_n rfl (Nat.le_of_ble_eq_true rfl) rfl (zt_iload_n rfl rfl (zt_iconst rfl (zt_iadd rfl (zt_ialc (Nat.le_of_ble_eq_true rfl) rfl (zt_aloadc_n rfl (Nat.le_of_ble_eq_true rfl) rfl (zt_iload_n rfl rfl (zt_iconst rfl (zt_iadd rfl (zt_ialc (Nat.le_of_ble_eq_true rfl) rfl (zt_aloadc_n rfl (Nat.le_of_ble_eq_true rfl) rfl (zt_iload_n rfl rfl (zt_iconst rfl (zt_iadd rfl (zt_ialc (Nat.le_of_ble_eq_true rfl) rfl (zt_call0_1 rfl (mjkd205 _ _ _ _) (Nat.le_of_ble_eq_true rfl) rfl rfl))))))))))))))))
set_option maxRecDepth 100000 in
theorem f311_1043 : mj_find (mj_P 311).2.2.2.2 1043 = [(.if_icmp .eq 330, 3, 0, [1373]), (.iconst 0, 1, 0, []), (.ireturn, 1, 0, [1])] := rfl
set_option maxRecDepth 100000 in
theorem q311_1043 (E : mj_E) (d w c : Nat) (hi : Nat → Nat → Int32) (hl : Nat → Nat → Int64) (v3 : Int32) (s0 : Int32) (s1 : Int32) : mj_den mj_P E d 311 1043 [Value.retAddr 0, Value.ref 0, Value.ref 205, Value.int v3] [Value.int s0, Value.int s1] (mj_hw w c hi hl) = if s1 = s0 then mj_den mj_P E d 311 1373 [Value.retAddr 0, Value.ref 0, Value.ref 205, Value.int v3] [] (mj_hw w c hi hl) else if (0 : Int32) = 0 ∨ (0 : Int32) = 1 then some (some (Value.int (0 : Int32)), (mj_hw w c hi hl)) else none := by
  rw [mj_den_eq, f311_1043]
  exact zt_icmp_eq rfl rfl (zt_iconst rfl (zt_ireturn1))
set_option maxRecDepth 100000 in
theorem f311_1048 : mj_find (mj_P 311).2.2.2.2 1048 = [(.aload_n 1, 1, 0, []), (.aload_n 0, 1, 0, []), (.iload_n 3, 1, 0, []), (.iconst 1, 1, 1, []), (.iadd, 1, 0, []), (.iaload, 1, 0, []), (.invokevirtual 126, 3, 0, [0, 134, 11, 1, 1, 1233, 1234, 1235, 143, 1236])] := rfl
set_option maxRecDepth 100000 in
theorem q311_1048 (E : mj_E) (d w c : Nat) (hi : Nat → Nat → Int32) (hl : Nat → Nat → Int64) (v3 : Int32) : mj_den mj_P E d 311 1048 [Value.retAddr 0, Value.ref 0, Value.ref 205, Value.int v3] [] (mj_hw w c hi hl) = if (E 0).1 ≤ 65536 then (if 0 ≤ (v3 + (1 : Int32)) ∧ ((v3 + (1 : Int32))).toNatClampNeg < (E 0).1 then mj_bi (mj_dc mj_P E d 134 [Value.ref 0, Value.int ((E 0).2 ((v3 + (1 : Int32))).toNatClampNeg)] (mj_hw w c hi hl)) (fun x1 h1 => mj_den mj_P E d 311 1057 [Value.retAddr 0, Value.ref 0, Value.ref 205, Value.int v3] [Value.int x1] h1) else none) else none := by
  rw [mj_den_eq, f311_1048]
  exact zt_aload_n rfl rfl (zt_aloadc_n rfl (Nat.le_of_ble_eq_true rfl) rfl (zt_iload_n rfl rfl (zt_iconst rfl (zt_iadd rfl (zt_ialc (Nat.le_of_ble_eq_true rfl) rfl (zt_call0_1 rfl (mjkd0 _ _ _ _) (Nat.le_of_ble_eq_true rfl) rfl rfl))))))
set_option maxRecDepth 100000 in
theorem f311_1057 : mj_find (mj_P 311).2.2.2.2 1057 = [(.aload_n 2, 1, 0, []), (.aload_n 0, 1, 0, []), (.iload_n 3, 1, 0, []), (.iconst 1, 1, 1, []), (.iadd, 1, 0, []), (.iaload, 1, 0, []), (.invokevirtual 129, 3, 0, [0, 264, 12, 1, 1, 2064, 2065, 2066, 156, 2067])] := rfl
set_option maxRecDepth 100000 in
theorem q311_1057 (E : mj_E) (d w c : Nat) (hi : Nat → Nat → Int32) (hl : Nat → Nat → Int64) (v3 : Int32) (s0 : Int32) : mj_den mj_P E d 311 1057 [Value.retAddr 0, Value.ref 0, Value.ref 205, Value.int v3] [Value.int s0] (mj_hw w c hi hl) = if (E 0).1 ≤ 65536 then (if 0 ≤ (v3 + (1 : Int32)) ∧ ((v3 + (1 : Int32))).toNatClampNeg < (E 0).1 then mj_bi (mj_dc mj_P E d 264 [Value.ref 205, Value.int ((E 0).2 ((v3 + (1 : Int32))).toNatClampNeg)] (mj_hw w c hi hl)) (fun x1 h1 => mj_den mj_P E d 311 1066 [Value.retAddr 0, Value.ref 0, Value.ref 205, Value.int v3] [Value.int x1, Value.int s0] h1) else none) else none := by
  rw [mj_den_eq, f311_1057]
  exact zt_aload_n rfl rfl (zt_aloadc_n rfl (Nat.le_of_ble_eq_true rfl) rfl (zt_iload_n rfl rfl (zt_iconst rfl (zt_iadd rfl (zt_ialc (Nat.le_of_ble_eq_true rfl) rfl (zt_call0_1 rfl (mjkd205 _ _ _ _) (Nat.le_of_ble_eq_true rfl) rfl rfl))))))
set_option maxRecDepth 100000 in
theorem f311_1066 : mj_find (mj_P 311).2.2.2.2 1066 = [(.if_icmp .eq 307, 3, 0, [1373]), (.iconst 0, 1, 0, []), (.ireturn, 1, 0, [1])] := rfl
set_option maxRecDepth 100000 in
theorem q311_1066 (E : mj_E) (d w c : Nat) (hi : Nat → Nat → Int32) (hl : Nat → Nat → Int64) (v3 : Int32) (s0 : Int32) (s1 : Int32) : mj_den mj_P E d 311 1066 [Value.retAddr 0, Value.ref 0, Value.ref 205, Value.int v3] [Value.int s0, Value.int s1] (mj_hw w c hi hl) = if s1 = s0 then mj_den mj_P E d 311 1373 [Value.retAddr 0, Value.ref 0, Value.ref 205, Value.int v3] [] (mj_hw w c hi hl) else if (0 : Int32) = 0 ∨ (0 : Int32) = 1 then some (some (Value.int (0 : Int32)), (mj_hw w c hi hl)) else none := by
  rw [mj_den_eq, f311_1066]
  exact zt_icmp_eq rfl rfl (zt_iconst rfl (zt_ireturn1))
set_option maxRecDepth 100000 in
theorem f311_1071 : mj_find (mj_P 311).2.2.2.2 1071 = [(.aload_n 1, 1, 0, []), (.aload_n 0, 1, 0, []), (.iload_n 3, 1, 0, []), (.iconst 1, 1, 1, []), (.iadd, 1, 0, []), (.iaload, 1, 0, []), (.aload_n 0, 1, 0, []), (.iload_n 3, 1, 0, []), (.iconst 2, 1, 2, []), (.iadd, 1, 0, []), (.iaload, 1, 0, []), (.invokevirtual 130, 3, 0, [0, 135, 11, 2, 1, 1239, 1240, 1241, 143, 1242])] := rfl
set_option maxRecDepth 100000 in
theorem q311_1071 (E : mj_E) (d w c : Nat) (hi : Nat → Nat → Int32) (hl : Nat → Nat → Int64) (v3 : Int32) : mj_den mj_P E d 311 1071 [Value.retAddr 0, Value.ref 0, Value.ref 205, Value.int v3] [] (mj_hw w c hi hl) = if (E 0).1 ≤ 65536 then (if 0 ≤ (v3 + (1 : Int32)) ∧ ((v3 + (1 : Int32))).toNatClampNeg < (E 0).1 then if (E 0).1 ≤ 65536 then (if 0 ≤ (v3 + (2 : Int32)) ∧ ((v3 + (2 : Int32))).toNatClampNeg < (E 0).1 then mj_bi (mj_dc mj_P E d 135 [Value.ref 0, Value.int ((E 0).2 ((v3 + (1 : Int32))).toNatClampNeg), Value.int ((E 0).2 ((v3 + (2 : Int32))).toNatClampNeg)] (mj_hw w c hi hl)) (fun x1 h1 => mj_den mj_P E d 311 1085 [Value.retAddr 0, Value.ref 0, Value.ref 205, Value.int v3] [Value.int x1] h1) else none) else none else none) else none := by
  rw [mj_den_eq, f311_1071]
  exact zt_aload_n rfl rfl (zt_aloadc_n rfl (Nat.le_of_ble_eq_true rfl) rfl (zt_iload_n rfl rfl (zt_iconst rfl (zt_iadd rfl (zt_ialc (Nat.le_of_ble_eq_true rfl) rfl (zt_aloadc_n rfl (Nat.le_of_ble_eq_true rfl) rfl (zt_iload_n rfl rfl (zt_iconst rfl (zt_iadd rfl (zt_ialc (Nat.le_of_ble_eq_true rfl) rfl (zt_call0_1 rfl (mjkd0 _ _ _ _) (Nat.le_of_ble_eq_true rfl) rfl rfl)))))))))))
set_option maxRecDepth 100000 in
theorem f311_1085 : mj_find (mj_P 311).2.2.2.2 1085 = [(.aload_n 2, 1, 0, []), (.aload_n 0, 1, 0, []), (.iload_n 3, 1, 0, []), (.iconst 1, 1, 1, []), (.iadd, 1, 0, []), (.iaload, 1, 0, []), (.aload_n 0, 1, 0, []), (.iload_n 3, 1, 0, []), (.iconst 2, 1, 2, []), (.iadd, 1, 0, []), (.iaload, 1, 0, []), (.invokevirtual 133, 3, 0, [0, 265, 12, 2, 1, 2069, 2070, 2071, 156, 2072])] := rfl
set_option maxRecDepth 100000 in
theorem q311_1085 (E : mj_E) (d w c : Nat) (hi : Nat → Nat → Int32) (hl : Nat → Nat → Int64) (v3 : Int32) (s0 : Int32) : mj_den mj_P E d 311 1085 [Value.retAddr 0, Value.ref 0, Value.ref 205, Value.int v3] [Value.int s0] (mj_hw w c hi hl) = if (E 0).1 ≤ 65536 then (if 0 ≤ (v3 + (1 : Int32)) ∧ ((v3 + (1 : Int32))).toNatClampNeg < (E 0).1 then if (E 0).1 ≤ 65536 then (if 0 ≤ (v3 + (2 : Int32)) ∧ ((v3 + (2 : Int32))).toNatClampNeg < (E 0).1 then mj_bi (mj_dc mj_P E d 265 [Value.ref 205, Value.int ((E 0).2 ((v3 + (1 : Int32))).toNatClampNeg), Value.int ((E 0).2 ((v3 + (2 : Int32))).toNatClampNeg)] (mj_hw w c hi hl)) (fun x1 h1 => mj_den mj_P E d 311 1099 [Value.retAddr 0, Value.ref 0, Value.ref 205, Value.int v3] [Value.int x1, Value.int s0] h1) else none) else none else none) else none := by
  rw [mj_den_eq, f311_1085]
  exact zt_aload_n rfl rfl (zt_aloadc_n rfl (Nat.le_of_ble_eq_true rfl) rfl (zt_iload_n rfl rfl (zt_iconst rfl (zt_iadd rfl (zt_ialc (Nat.le_of_ble_eq_true rfl) rfl (zt_aloadc_n rfl (Nat.le_of_ble_eq_true rfl) rfl (zt_iload_n rfl rfl (zt_iconst rfl (zt_iadd rfl (zt_ialc (Nat.le_of_ble_eq_true rfl) rfl (zt_call0_1 rfl (mjkd205 _ _ _ _) (Nat.le_of_ble_eq_true rfl) rfl rfl)))))))))))
set_option maxRecDepth 100000 in
theorem f311_1099 : mj_find (mj_P 311).2.2.2.2 1099 = [(.if_icmp .eq 274, 3, 0, [1373]), (.iconst 0, 1, 0, []), (.ireturn, 1, 0, [1])] := rfl
set_option maxRecDepth 100000 in
theorem q311_1099 (E : mj_E) (d w c : Nat) (hi : Nat → Nat → Int32) (hl : Nat → Nat → Int64) (v3 : Int32) (s0 : Int32) (s1 : Int32) : mj_den mj_P E d 311 1099 [Value.retAddr 0, Value.ref 0, Value.ref 205, Value.int v3] [Value.int s0, Value.int s1] (mj_hw w c hi hl) = if s1 = s0 then mj_den mj_P E d 311 1373 [Value.retAddr 0, Value.ref 0, Value.ref 205, Value.int v3] [] (mj_hw w c hi hl) else if (0 : Int32) = 0 ∨ (0 : Int32) = 1 then some (some (Value.int (0 : Int32)), (mj_hw w c hi hl)) else none := by
  rw [mj_den_eq, f311_1099]
  exact zt_icmp_eq rfl rfl (zt_iconst rfl (zt_ireturn1))
set_option maxRecDepth 100000 in
theorem f311_1104 : mj_find (mj_P 311).2.2.2.2 1104 = [(.aload_n 1, 1, 0, []), (.aload_n 0, 1, 0, []), (.iload_n 3, 1, 0, []), (.iconst 1, 1, 1, []), (.iadd, 1, 0, []), (.iaload, 1, 0, []), (.invokevirtual 134, 3, 0, [0, 136, 11, 1, 1, 1243, 1244, 1245, 143, 1246])] := rfl
set_option maxRecDepth 100000 in
theorem q311_1104 (E : mj_E) (d w c : Nat) (hi : Nat → Nat → Int32) (hl : Nat → Nat → Int64) (v3 : Int32) : mj_den mj_P E d 311 1104 [Value.retAddr 0, Value.ref 0, Value.ref 205, Value.int v3] [] (mj_hw w c hi hl) = if (E 0).1 ≤ 65536 then (if 0 ≤ (v3 + (1 : Int32)) ∧ ((v3 + (1 : Int32))).toNatClampNeg < (E 0).1 then mj_bi (mj_dc mj_P E d 136 [Value.ref 0, Value.int ((E 0).2 ((v3 + (1 : Int32))).toNatClampNeg)] (mj_hw w c hi hl)) (fun x1 h1 => mj_den mj_P E d 311 1113 [Value.retAddr 0, Value.ref 0, Value.ref 205, Value.int v3] [Value.int x1] h1) else none) else none := by
  rw [mj_den_eq, f311_1104]
  exact zt_aload_n rfl rfl (zt_aloadc_n rfl (Nat.le_of_ble_eq_true rfl) rfl (zt_iload_n rfl rfl (zt_iconst rfl (zt_iadd rfl (zt_ialc (Nat.le_of_ble_eq_true rfl) rfl (zt_call0_1 rfl (mjkd0 _ _ _ _) (Nat.le_of_ble_eq_true rfl) rfl rfl))))))
set_option maxRecDepth 100000 in
theorem f311_1113 : mj_find (mj_P 311).2.2.2.2 1113 = [(.aload_n 2, 1, 0, []), (.aload_n 0, 1, 0, []), (.iload_n 3, 1, 0, []), (.iconst 1, 1, 1, []), (.iadd, 1, 0, []), (.iaload, 1, 0, []), (.invokevirtual 137, 3, 0, [0, 267, 12, 1, 1, 2073, 2074, 2075, 156, 2076])] := rfl
set_option maxRecDepth 100000 in
theorem q311_1113 (E : mj_E) (d w c : Nat) (hi : Nat → Nat → Int32) (hl : Nat → Nat → Int64) (v3 : Int32) (s0 : Int32) : mj_den mj_P E d 311 1113 [Value.retAddr 0, Value.ref 0, Value.ref 205, Value.int v3] [Value.int s0] (mj_hw w c hi hl) = if (E 0).1 ≤ 65536 then (if 0 ≤ (v3 + (1 : Int32)) ∧ ((v3 + (1 : Int32))).toNatClampNeg < (E 0).1 then mj_bi (mj_dc mj_P E d 267 [Value.ref 205, Value.int ((E 0).2 ((v3 + (1 : Int32))).toNatClampNeg)] (mj_hw w c hi hl)) (fun x1 h1 => mj_den mj_P E d 311 1122 [Value.retAddr 0, Value.ref 0, Value.ref 205, Value.int v3] [Value.int x1, Value.int s0] h1) else none) else none := by
  rw [mj_den_eq, f311_1113]
  exact zt_aload_n rfl rfl (zt_aloadc_n rfl (Nat.le_of_ble_eq_true rfl) rfl (zt_iload_n rfl rfl (zt_iconst rfl (zt_iadd rfl (zt_ialc (Nat.le_of_ble_eq_true rfl) rfl (zt_call0_1 rfl (mjkd205 _ _ _ _) (Nat.le_of_ble_eq_true rfl) rfl rfl))))))
set_option maxRecDepth 100000 in
theorem f311_1122 : mj_find (mj_P 311).2.2.2.2 1122 = [(.if_icmp .eq 251, 3, 0, [1373]), (.iconst 0, 1, 0, []), (.ireturn, 1, 0, [1])] := rfl
set_option maxRecDepth 100000 in
theorem q311_1122 (E : mj_E) (d w c : Nat) (hi : Nat → Nat → Int32) (hl : Nat → Nat → Int64) (v3 : Int32) (s0 : Int32) (s1 : Int32) : mj_den mj_P E d 311 1122 [Value.retAddr 0, Value.ref 0, Value.ref 205, Value.int v3] [Value.int s0, Value.int s1] (mj_hw w c hi hl) = if s1 = s0 then mj_den mj_P E d 311 1373 [Value.retAddr 0, Value.ref 0, Value.ref 205, Value.int v3] [] (mj_hw w c hi hl) else if (0 : Int32) = 0 ∨ (0 : Int32) = 1 then some (some (Value.int (0 : Int32)), (mj_hw w c hi hl)) else none := by
  rw [mj_den_eq, f311_1122]
  exact zt_icmp_eq rfl rfl (zt_iconst rfl (zt_ireturn1))
set_option maxRecDepth 100000 in
theorem f311_1127 : mj_find (mj_P 311).2.2.2.2 1127 = [(.aload_n 1, 1, 0, []), (.aload_n 0, 1, 0, []), (.iload_n 3, 1, 0, []), (.iconst 1, 1, 1, []), (.iadd, 1, 0, []), (.iaload, 1, 0, []), (.invokevirtual 138, 3, 0, [0, 137, 11, 1, 1, 1251, 1252, 1253, 143, 1254])] := rfl
set_option maxRecDepth 100000 in
theorem q311_1127 (E : mj_E) (d w c : Nat) (hi : Nat → Nat → Int32) (hl : Nat → Nat → Int64) (v3 : Int32) : mj_den mj_P E d 311 1127 [Value.retAddr 0, Value.ref 0, Value.ref 205, Value.int v3] [] (mj_hw w c hi hl) = if (E 0).1 ≤ 65536 then (if 0 ≤ (v3 + (1 : Int32)) ∧ ((v3 + (1 : Int32))).toNatClampNeg < (E 0).1 then mj_bi (mj_dc mj_P E d 137 [Value.ref 0, Value.int ((E 0).2 ((v3 + (1 : Int32))).toNatClampNeg)] (mj_hw w c hi hl)) (fun x1 h1 => mj_den mj_P E d 311 1136 [Value.retAddr 0, Value.ref 0, Value.ref 205, Value.int v3] [Value.int x1] h1) else none) else none := by
  rw [mj_den_eq, f311_1127]
  exact zt_aload_n rfl rfl (zt_aloadc_n rfl (Nat.le_of_ble_eq_true rfl) rfl (zt_iload_n rfl rfl (zt_iconst rfl (zt_iadd rfl (zt_ialc (Nat.le_of_ble_eq_true rfl) rfl (zt_call0_1 rfl (mjkd0 _ _ _ _) (Nat.le_of_ble_eq_true rfl) rfl rfl))))))
set_option maxRecDepth 100000 in
theorem f311_1136 : mj_find (mj_P 311).2.2.2.2 1136 = [(.aload_n 2, 1, 0, []), (.aload_n 0, 1, 0, []), (.iload_n 3, 1, 0, []), (.iconst 1, 1, 1, []), (.iadd, 1, 0, []), (.iaload, 1, 0, []), (.invokevirtual 141, 3, 0, [0, 270, 12, 1, 1, 2081, 2082, 2083, 156, 2084])] := rfl
set_option maxRecDepth 100000 in
theorem q311_1136 (E : mj_E) (d w c : Nat) (hi : Nat → Nat → Int32) (hl : Nat → Nat → Int64) (v3 : Int32) (s0 : Int32) : mj_den mj_P E d 311 1136 [Value.retAddr 0, Value.ref 0, Value.ref 205, Value.int v3] [Value.int s0] (mj_hw w c hi hl) = if (E 0).1 ≤ 65536 then (if 0 ≤ (v3 + (1 : Int32)) ∧ ((v3 + (1 : Int32))).toNatClampNeg < (E 0).1 then mj_bi (mj_dc mj_P E d 270 [Value.ref 205, Value.int ((E 0).2 ((v3 + (1 : Int32))).toNatClampNeg)] (mj_hw w c hi hl)) (fun x1 h1 => mj_den mj_P E d 311 1145 [Value.retAddr 0, Value.ref 0, Value.ref 205, Value.int v3] [Value.int x1, Value.int s0] h1) else none) else none := by
  rw [mj_den_eq, f311_1136]
  exact zt_aload_n rfl rfl (zt_aloadc_n rfl (Nat.le_of_ble_eq_true rfl) rfl (zt_iload_n rfl rfl (zt_iconst rfl (zt_iadd rfl (zt_ialc (Nat.le_of_ble_eq_true rfl) rfl (zt_call0_1 rfl (mjkd205 _ _ _ _) (Nat.le_of_ble_eq_true rfl) rfl rfl))))))
set_option maxRecDepth 100000 in
theorem f311_1145 : mj_find (mj_P 311).2.2.2.2 1145 = [(.if_icmp .eq 228, 3, 0, [1373]), (.iconst 0, 1, 0, []), (.ireturn, 1, 0, [1])] := rfl
set_option maxRecDepth 100000 in
theorem q311_1145 (E : mj_E) (d w c : Nat) (hi : Nat → Nat → Int32) (hl : Nat → Nat → Int64) (v3 : Int32) (s0 : Int32) (s1 : Int32) : mj_den mj_P E d 311 1145 [Value.retAddr 0, Value.ref 0, Value.ref 205, Value.int v3] [Value.int s0, Value.int s1] (mj_hw w c hi hl) = if s1 = s0 then mj_den mj_P E d 311 1373 [Value.retAddr 0, Value.ref 0, Value.ref 205, Value.int v3] [] (mj_hw w c hi hl) else if (0 : Int32) = 0 ∨ (0 : Int32) = 1 then some (some (Value.int (0 : Int32)), (mj_hw w c hi hl)) else none := by
  rw [mj_den_eq, f311_1145]
  exact zt_icmp_eq rfl rfl (zt_iconst rfl (zt_ireturn1))
set_option maxRecDepth 100000 in
theorem f311_1150 : mj_find (mj_P 311).2.2.2.2 1150 = [(.aload_n 1, 1, 0, []), (.aload_n 0, 1, 0, []), (.iload_n 3, 1, 0, []), (.iconst 1, 1, 1, []), (.iadd, 1, 0, []), (.iaload, 1, 0, []), (.aload_n 0, 1, 0, []), (.iload_n 3, 1, 0, []), (.iconst 2, 1, 2, []), (.iadd, 1, 0, []), (.iaload, 1, 0, []), (.invokevirtual 142, 3, 0, [0, 138, 11, 2, 1, 1275, 1276, 1277, 143, 1278])] := rfl
set_option maxRecDepth 100000 in
theorem q311_1150 (E : mj_E) (d w c : Nat) (hi : Nat → Nat → Int32) (hl : Nat → Nat → Int64) (v3 : Int32) : mj_den mj_P E d 311 1150 [Value.retAddr 0, Value.ref 0, Value.ref 205, Value.int v3] [] (mj_hw w c hi hl) = if (E 0).1 ≤ 65536 then (if 0 ≤ (v3 + (1 : Int32)) ∧ ((v3 + (1 : Int32))).toNatClampNeg < (E 0).1 then if (E 0).1 ≤ 65536 then (if 0 ≤ (v3 + (2 : Int32)) ∧ ((v3 + (2 : Int32))).toNatClampNeg < (E 0).1 then mj_bi (mj_dc mj_P E d 138 [Value.ref 0, Value.int ((E 0).2 ((v3 + (1 : Int32))).toNatClampNeg), Value.int ((E 0).2 ((v3 + (2 : Int32))).toNatClampNeg)] (mj_hw w c hi hl)) (fun x1 h1 => mj_den mj_P E d 311 1164 [Value.retAddr 0, Value.ref 0, Value.ref 205, Value.int v3] [Value.int x1] h1) else none) else none else none) else none := by
  rw [mj_den_eq, f311_1150]
  exact zt_aload_n rfl rfl (zt_aloadc_n rfl (Nat.le_of_ble_eq_true rfl) rfl (zt_iload_n rfl rfl (zt_iconst rfl (zt_iadd rfl (zt_ialc (Nat.le_of_ble_eq_true rfl) rfl (zt_aloadc_n rfl (Nat.le_of_ble_eq_true rfl) rfl (zt_iload_n rfl rfl (zt_iconst rfl (zt_iadd rfl (zt_ialc (Nat.le_of_ble_eq_true rfl) rfl (zt_call0_1 rfl (mjkd0 _ _ _ _) (Nat.le_of_ble_eq_true rfl) rfl rfl)))))))))))
set_option maxRecDepth 100000 in
theorem f311_1164 : mj_find (mj_P 311).2.2.2.2 1164 = [(.aload_n 2, 1, 0, []), (.aload_n 0, 1, 0, []), (.iload_n 3, 1, 0, []), (.iconst 1, 1, 1, []), (.iadd, 1, 0, []), (.iaload, 1, 0, []), (.aload_n 0, 1, 0, []), (.iload_n 3, 1, 0, []), (.iconst 2, 1, 2, []), (.iadd, 1, 0, []), (.iaload, 1, 0, []), (.invokevirtual 145, 3, 0, [0, 271, 12, 2, 1, 2093, 2094, 2095, 156, 2096])] := rfl
set_option maxRecDepth 100000 in
theorem q311_1164 (E : mj_E) (d w c : Nat) (hi : Nat → Nat → Int32) (hl : Nat → Nat → Int64) (v3 : Int32) (s0 : Int32) : mj_den mj_P E d 311 1164 [Value.retAddr 0, Value.ref 0, Value.ref 205, Value.int v3] [Value.int s0] (mj_hw w c hi hl) = if (E 0).1 ≤ 65536 then (if 0 ≤ (v3 + (1 : Int32)) ∧ ((v3 + (1 : Int32))).toNatClampNeg < (E 0).1 then if (E 0).1 ≤ 65536 then (if 0 ≤ (v3 + (2 : Int32)) ∧ ((v3 + (2 : Int32))).toNatClampNeg < (E 0).1 then mj_bi (mj_dc mj_P E d 271 [Value.ref 205, Value.int ((E 0).2 ((v3 + (1 : Int32))).toNatClampNeg), Value.int ((E 0).2 ((v3 + (2 : Int32))).toNatClampNeg)] (mj_hw w c hi hl)) (fun x1 h1 => mj_den mj_P E d 311 1178 [Value.retAddr 0, Value.ref 0, Value.ref 205, Value.int v3] [Value.int x1, Value.int s0] h1) else none) else none else none) else none := by
  rw [mj_den_eq, f311_1164]
  exact zt_aload_n rfl rfl (zt_aloadc_n rfl (Nat.le_of_ble_eq_true rfl) rfl (zt_iload_n rfl rfl (zt_iconst rfl (zt_iadd rfl (zt_ialc (Nat.le_of_ble_eq_true rfl) rfl (zt_aloadc_n rfl (Nat.le_of_ble_eq_true rfl) rfl (zt_iload_n rfl rfl (zt_iconst rfl (zt_iadd rfl (zt_ialc (Nat.le_of_ble_eq_true rfl) rfl (zt_call0_1 rfl (mjkd205 _ _ _ _) (Nat.le_of_ble_eq_true rfl) rfl rfl)))))))))))
set_option maxRecDepth 100000 in
theorem f311_1178 : mj_find (mj_P 311).2.2.2.2 1178 = [(.if_icmp .eq 195, 3, 0, [1373]), (.iconst 0, 1, 0, []), (.ireturn, 1, 0, [1])] := rfl
set_option maxRecDepth 100000 in
theorem q311_1178 (E : mj_E) (d w c : Nat) (hi : Nat → Nat → Int32) (hl : Nat → Nat → Int64) (v3 : Int32) (s0 : Int32) (s1 : Int32) : mj_den mj_P E d 311 1178 [Value.retAddr 0, Value.ref 0, Value.ref 205, Value.int v3] [Value.int s0, Value.int s1] (mj_hw w c hi hl) = if s1 = s0 then mj_den mj_P E d 311 1373 [Value.retAddr 0, Value.ref 0, Value.ref 205, Value.int v3] [] (mj_hw w c hi hl) else if (0 : Int32) = 0 ∨ (0 : Int32) = 1 then some (some (Value.int (0 : Int32)), (mj_hw w c hi hl)) else none := by
  rw [mj_den_eq, f311_1178]
  exact zt_icmp_eq rfl rfl (zt_iconst rfl (zt_ireturn1))
set_option maxRecDepth 100000 in
theorem f311_1183 : mj_find (mj_P 311).2.2.2.2 1183 = [(.aload_n 1, 1, 0, []), (.aload_n 0, 1, 0, []), (.iload_n 3, 1, 0, []), (.iconst 1, 1, 1, []), (.iadd, 1, 0, []), (.iaload, 1, 0, []), (.invokevirtual 146, 3, 0, [0, 139, 11, 1, 1, 1279, 1280, 1281, 143, 1282])] := rfl
set_option maxRecDepth 100000 in
theorem q311_1183 (E : mj_E) (d w c : Nat) (hi : Nat → Nat → Int32) (hl : Nat → Nat → Int64) (v3 : Int32) : mj_den mj_P E d 311 1183 [Value.retAddr 0, Value.ref 0, Value.ref 205, Value.int v3] [] (mj_hw w c hi hl) = if (E 0).1 ≤ 65536 then (if 0 ≤ (v3 + (1 : Int32)) ∧ ((v3 + (1 : Int32))).toNatClampNeg < (E 0).1 then mj_bi (mj_dc mj_P E d 139 [Value.ref 0, Value.int ((E 0).2 ((v3 + (1 : Int32))).toNatClampNeg)] (mj_hw w c hi hl)) (fun x1 h1 => mj_den mj_P E d 311 1192 [Value.retAddr 0, Value.ref 0, Value.ref 205, Value.int v3] [Value.int x1] h1) else none) else none := by
  rw [mj_den_eq, f311_1183]
  exact zt_aload_n rfl rfl (zt_aloadc_n rfl (Nat.le_of_ble_eq_true rfl) rfl (zt_iload_n rfl rfl (zt_iconst rfl (zt_iadd rfl (zt_ialc (Nat.le_of_ble_eq_true rfl) rfl (zt_call0_1 rfl (mjkd0 _ _ _ _) (Nat.le_of_ble_eq_true rfl) rfl rfl))))))
set_option maxRecDepth 100000 in
theorem f311_1192 : mj_find (mj_P 311).2.2.2.2 1192 = [(.aload_n 2, 1, 0, []), (.aload_n 0, 1, 0, []), (.iload_n 3, 1, 0, []), (.iconst 1, 1, 1, []), (.iadd, 1, 0, []), (.iaload, 1, 0, []), (.invokevirtual 149, 3, 0, [0, 274, 12, 1, 1, 2097, 2098, 2099, 156, 2100])] := rfl
set_option maxRecDepth 100000 in
theorem q311_1192 (E : mj_E) (d w c : Nat) (hi : Nat → Nat → Int32) (hl : Nat → Nat → Int64) (v3 : Int32) (s0 : Int32) : mj_den mj_P E d 311 1192 [Value.retAddr 0, Value.ref 0, Value.ref 205, Value.int v3] [Value.int s0] (mj_hw w c hi hl) = if (E 0).1 ≤ 65536 then (if 0 ≤ (v3 + (1 : Int32)) ∧ ((v3 + (1 : Int32))).toNatClampNeg < (E 0).1 then mj_bi (mj_dc mj_P E d 274 [Value.ref 205, Value.int ((E 0).2 ((v3 + (1 : Int32))).toNatClampNeg)] (mj_hw w c hi hl)) (fun x1 h1 => mj_den mj_P E d 311 1201 [Value.retAddr 0, Value.ref 0, Value.ref 205, Value.int v3] [Value.int x1, Value.int s0] h1) else none) else none := by
  rw [mj_den_eq, f311_1192]
  exact zt_aload_n rfl rfl (zt_aloadc_n rfl (Nat.le_of_ble_eq_true rfl) rfl (zt_iload_n rfl rfl (zt_iconst rfl (zt_iadd rfl (zt_ialc (Nat.le_of_ble_eq_true rfl) rfl (zt_call0_1 rfl (mjkd205 _ _ _ _) (Nat.le_of_ble_eq_true rfl) rfl rfl))))))
set_option maxRecDepth 100000 in
theorem f311_1201 : mj_find (mj_P 311).2.2.2.2 1201 = [(.if_icmp .eq 172, 3, 0, [1373]), (.iconst 0, 1, 0, []), (.ireturn, 1, 0, [1])] := rfl
set_option maxRecDepth 100000 in
theorem q311_1201 (E : mj_E) (d w c : Nat) (hi : Nat → Nat → Int32) (hl : Nat → Nat → Int64) (v3 : Int32) (s0 : Int32) (s1 : Int32) : mj_den mj_P E d 311 1201 [Value.retAddr 0, Value.ref 0, Value.ref 205, Value.int v3] [Value.int s0, Value.int s1] (mj_hw w c hi hl) = if s1 = s0 then mj_den mj_P E d 311 1373 [Value.retAddr 0, Value.ref 0, Value.ref 205, Value.int v3] [] (mj_hw w c hi hl) else if (0 : Int32) = 0 ∨ (0 : Int32) = 1 then some (some (Value.int (0 : Int32)), (mj_hw w c hi hl)) else none := by
  rw [mj_den_eq, f311_1201]
  exact zt_icmp_eq rfl rfl (zt_iconst rfl (zt_ireturn1))
set_option maxRecDepth 100000 in
theorem f311_1206 : mj_find (mj_P 311).2.2.2.2 1206 = [(.aload_n 1, 1, 0, []), (.aload_n 0, 1, 0, []), (.iload_n 3, 1, 0, []), (.iconst 1, 1, 1, []), (.iadd, 1, 0, []), (.iaload, 1, 0, []), (.invokevirtual 150, 3, 0, [0, 140, 11, 1, 1, 1300, 1301, 1302, 143, 1303])] := rfl
set_option maxRecDepth 100000 in
theorem q311_1206 (E : mj_E) (d w c : Nat) (hi : Nat → Nat → Int32) (hl : Nat → Nat → Int64) (v3 : Int32) : mj_den mj_P E d 311 1206 [Value.retAddr 0, Value.ref 0, Value.ref 205, Value.int v3] [] (mj_hw w c hi hl) = if (E 0).1 ≤ 65536 then (if 0 ≤ (v3 + (1 : Int32)) ∧ ((v3 + (1 : Int32))).toNatClampNeg < (E 0).1 then mj_bi (mj_dc mj_P E d 140 [Value.ref 0, Value.int ((E 0).2 ((v3 + (1 : Int32))).toNatClampNeg)] (mj_hw w c hi hl)) (fun x1 h1 => mj_den mj_P E d 311 1215 [Value.retAddr 0, Value.ref 0, Value.ref 205, Value.int v3] [Value.int x1] h1) else none) else none := by
  rw [mj_den_eq, f311_1206]
  exact zt_aload_n rfl rfl (zt_aloadc_n rfl (Nat.le_of_ble_eq_true rfl) rfl (zt_iload_n rfl rfl (zt_iconst rfl (zt_iadd rfl (zt_ialc (Nat.le_of_ble_eq_true rfl) rfl (zt_call0_1 rfl (mjkd0 _ _ _ _) (Nat.le_of_ble_eq_true rfl) rfl rfl))))))
set_option maxRecDepth 100000 in
theorem f311_1215 : mj_find (mj_P 311).2.2.2.2 1215 = [(.aload_n 2, 1, 0, []), (.aload_n 0, 1, 0, []), (.iload_n 3, 1, 0, []), (.iconst 1, 1, 1, []), (.iadd, 1, 0, []), (.iaload, 1, 0, []), (.invokevirtual 153, 3, 0, [0, 275, 12, 1, 1, 2109, 2110, 2111, 156, 2112])] := rfl
set_option maxRecDepth 100000 in
theorem q311_1215 (E : mj_E) (d w c : Nat) (hi : Nat → Nat → Int32) (hl : Nat → Nat → Int64) (v3 : Int32) (s0 : Int32) : mj_den mj_P E d 311 1215 [Value.retAddr 0, Value.ref 0, Value.ref 205, Value.int v3] [Value.int s0] (mj_hw w c hi hl) = if (E 0).1 ≤ 65536 then (if 0 ≤ (v3 + (1 : Int32)) ∧ ((v3 + (1 : Int32))).toNatClampNeg < (E 0).1 then mj_bi (mj_dc mj_P E d 275 [Value.ref 205, Value.int ((E 0).2 ((v3 + (1 : Int32))).toNatClampNeg)] (mj_hw w c hi hl)) (fun x1 h1 => mj_den mj_P E d 311 1224 [Value.retAddr 0, Value.ref 0, Value.ref 205, Value.int v3] [Value.int x1, Value.int s0] h1) else none) else none := by
  rw [mj_den_eq, f311_1215]
  exact zt_aload_n rfl rfl (zt_aloadc_n rfl (Nat.le_of_ble_eq_true rfl) rfl (zt_iload_n rfl rfl (zt_iconst rfl (zt_iadd rfl (zt_ialc (Nat.le_of_ble_eq_true rfl) rfl (zt_call0_1 rfl (mjkd205 _ _ _ _) (Nat.le_of_ble_eq_true rfl) rfl rfl))))))
set_option maxRecDepth 100000 in
theorem f311_1224 : mj_find (mj_P 311).2.2.2.2 1224 = [(.if_icmp .eq 149, 3, 0, [1373]), (.iconst 0, 1, 0, []), (.ireturn, 1, 0, [1])] := rfl
set_option maxRecDepth 100000 in
theorem q311_1224 (E : mj_E) (d w c : Nat) (hi : Nat → Nat → Int32) (hl : Nat → Nat → Int64) (v3 : Int32) (s0 : Int32) (s1 : Int32) : mj_den mj_P E d 311 1224 [Value.retAddr 0, Value.ref 0, Value.ref 205, Value.int v3] [Value.int s0, Value.int s1] (mj_hw w c hi hl) = if s1 = s0 then mj_den mj_P E d 311 1373 [Value.retAddr 0, Value.ref 0, Value.ref 205, Value.int v3] [] (mj_hw w c hi hl) else if (0 : Int32) = 0 ∨ (0 : Int32) = 1 then some (some (Value.int (0 : Int32)), (mj_hw w c hi hl)) else none := by
  rw [mj_den_eq, f311_1224]
  exact zt_icmp_eq rfl rfl (zt_iconst rfl (zt_ireturn1))
set_option maxRecDepth 100000 in
theorem f311_1229 : mj_find (mj_P 311).2.2.2.2 1229 = [(.aload_n 1, 1, 0, []), (.aload_n 0, 1, 0, []), (.iload_n 3, 1, 0, []), (.iconst 1, 1, 1, []), (.iadd, 1, 0, []), (.iaload, 1, 0, []), (.invokevirtual 154, 3, 0, [0, 141, 11, 1, 1, 1304, 1305, 1306, 143, 1307])] := rfl
set_option maxRecDepth 100000 in
theorem q311_1229 (E : mj_E) (d w c : Nat) (hi : Nat → Nat → Int32) (hl : Nat → Nat → Int64) (v3 : Int32) : mj_den mj_P E d 311 1229 [Value.retAddr 0, Value.ref 0, Value.ref 205, Value.int v3] [] (mj_hw w c hi hl) = if (E 0).1 ≤ 65536 then (if 0 ≤ (v3 + (1 : Int32)) ∧ ((v3 + (1 : Int32))).toNatClampNeg < (E 0).1 then mj_bi (mj_dc mj_P E d 141 [Value.ref 0, Value.int ((E 0).2 ((v3 + (1 : Int32))).toNatClampNeg)] (mj_hw w c hi hl)) (fun x1 h1 => mj_den mj_P E d 311 1238 [Value.retAddr 0, Value.ref 0, Value.ref 205, Value.int v3] [Value.int x1] h1) else none) else none := by
  rw [mj_den_eq, f311_1229]
  exact zt_aload_n rfl rfl (zt_aloadc_n rfl (Nat.le_of_ble_eq_true rfl) rfl (zt_iload_n rfl rfl (zt_iconst rfl (zt_iadd rfl (zt_ialc (Nat.le_of_ble_eq_true rfl) rfl (zt_call0_1 rfl (mjkd0 _ _ _ _) (Nat.le_of_ble_eq_true rfl) rfl rfl))))))
set_option maxRecDepth 100000 in
theorem f311_1238 : mj_find (mj_P 311).2.2.2.2 1238 = [(.aload_n 2, 1, 0, []), (.aload_n 0, 1, 0, []), (.iload_n 3, 1, 0, []), (.iconst 1, 1, 1, []), (.iadd, 1, 0, []), (.iaload, 1, 0, []), (.invokevirtual 157, 3, 0, [0, 279, 12, 1, 1, 2113, 2114, 2115, 156, 2116])] := rfl
set_option maxRecDepth 100000 in
theorem q311_1238 (E : mj_E) (d w c : Nat) (hi : Nat → Nat → Int32) (hl : Nat → Nat → Int64) (v3 : Int32) (s0 : Int32) : mj_den mj_P E d 311 1238 [Value.retAddr 0, Value.ref 0, Value.ref 205, Value.int v3] [Value.int s0] (mj_hw w c hi hl) = if (E 0).1 ≤ 65536 then (if 0 ≤ (v3 + (1 : Int32)) ∧ ((v3 + (1 : Int32))).toNatClampNeg < (E 0).1 then mj_bi (mj_dc mj_P E d 279 [Value.ref 205, Value.int ((E 0).2 ((v3 + (1 : Int32))).toNatClampNeg)] (mj_hw w c hi hl)) (fun x1 h1 => mj_den mj_P E d 311 1247 [Value.retAddr 0, Value.ref 0, Value.ref 205, Value.int v3] [Value.int x1, Value.int s0] h1) else none) else none := by
  rw [mj_den_eq, f311_1238]
  exact zt_aload_n rfl rfl (zt_aloadc_n rfl (Nat.le_of_ble_eq_true rfl) rfl (zt_iload_n rfl rfl (zt_iconst rfl (zt_iadd rfl (zt_ialc (Nat.le_of_ble_eq_true rfl) rfl (zt_call0_1 rfl (mjkd205 _ _ _ _) (Nat.le_of_ble_eq_true rfl) rfl rfl))))))
set_option maxRecDepth 100000 in
theorem f311_1247 : mj_find (mj_P 311).2.2.2.2 1247 = [(.if_icmp .eq 126, 3, 0, [1373]), (.iconst 0, 1, 0, []), (.ireturn, 1, 0, [1])] := rfl
set_option maxRecDepth 100000 in
theorem q311_1247 (E : mj_E) (d w c : Nat) (hi : Nat → Nat → Int32) (hl : Nat → Nat → Int64) (v3 : Int32) (s0 : Int32) (s1 : Int32) : mj_den mj_P E d 311 1247 [Value.retAddr 0, Value.ref 0, Value.ref 205, Value.int v3] [Value.int s0, Value.int s1] (mj_hw w c hi hl) = if s1 = s0 then mj_den mj_P E d 311 1373 [Value.retAddr 0, Value.ref 0, Value.ref 205, Value.int v3] [] (mj_hw w c hi hl) else if (0 : Int32) = 0 ∨ (0 : Int32) = 1 then some (some (Value.int (0 : Int32)), (mj_hw w c hi hl)) else none := by
  rw [mj_den_eq, f311_1247]
  exact zt_icmp_eq rfl rfl (zt_iconst rfl (zt_ireturn1))
set_option maxRecDepth 100000 in
theorem f311_1252 : mj_find (mj_P 311).2.2.2.2 1252 = [(.aload_n 1, 1, 0, []), (.aload_n 0, 1, 0, []), (.iload_n 3, 1, 0, []), (.iconst 1, 1, 1, []), (.iadd, 1, 0, []), (.iaload, 1, 0, []), (.invokevirtual 158, 3, 0, [0, 142, 11, 1, 1, 1328, 1329, 1330, 143, 1331])] := rfl
set_option maxRecDepth 100000 in
theorem q311_1252 (E : mj_E) (d w c : Nat) (hi : Nat → Nat → Int32) (hl : Nat → Nat → Int64) (v3 : Int32) : mj_den mj_P E d 311 1252 [Value.retAddr 0, Value.ref 0, Value.ref 205, Value.int v3] [] (mj_hw w c hi hl) = if (E 0).1 ≤ 65536 then (if 0 ≤ (v3 + (1 : Int32)) ∧ ((v3 + (1 : Int32))).toNatClampNeg < (E 0).1 then mj_bi (mj_dc mj_P E d 142 [Value.ref 0, Value.int ((E 0).2 ((v3 + (1 : Int32))).toNatClampNeg)] (mj_hw w c hi hl)) (fun x1 h1 => mj_den mj_P E d 311 1261 [Value.retAddr 0, Value.ref 0, Value.ref 205, Value.int v3] [Value.int x1] h1) else none) else none := by
  rw [mj_den_eq, f311_1252]
  exact zt_aload_n rfl rfl (zt_aloadc_n rfl (Nat.le_of_ble_eq_true rfl) rfl (zt_iload_n rfl rfl (zt_iconst rfl (zt_iadd rfl (zt_ialc (Nat.le_of_ble_eq_true rfl) rfl (zt_call0_1 rfl (mjkd0 _ _ _ _) (Nat.le_of_ble_eq_true rfl) rfl rfl))))))
set_option maxRecDepth 100000 in
theorem f311_1261 : mj_find (mj_P 311).2.2.2.2 1261 = [(.aload_n 2, 1, 0, []), (.aload_n 0, 1, 0, []), (.iload_n 3, 1, 0, []), (.iconst 1, 1, 1, []), (.iadd, 1, 0, []), (.iaload, 1, 0, []), (.invokevirtual 161, 3, 0, [0, 281, 12, 1, 1, 2129, 2130, 2131, 156, 2132])] := rfl
set_option maxRecDepth 100000 in
theorem q311_1261 (E : mj_E) (d w c : Nat) (hi : Nat → Nat → Int32) (hl : Nat → Nat → Int64) (v3 : Int32) (s0 : Int32) : mj_den mj_P E d 311 1261 [Value.retAddr 0, Value.ref 0, Value.ref 205, Value.int v3] [Value.int s0] (mj_hw w c hi hl) = if (E 0).1 ≤ 65536 then (if 0 ≤ (v3 + (1 : Int32)) ∧ ((v3 + (1 : Int32))).toNatClampNeg < (E 0).1 then mj_bi (mj_dc mj_P E d 281 [Value.ref 205, Value.int ((E 0).2 ((v3 + (1 : Int32))).toNatClampNeg)] (mj_hw w c hi hl)) (fun x1 h1 => mj_den mj_P E d 311 1270 [Value.retAddr 0, Value.ref 0, Value.ref 205, Value.int v3] [Value.int x1, Value.int s0] h1) else none) else none := by
  rw [mj_den_eq, f311_1261]
  exact zt_aload_n rfl rfl (zt_aloadc_n rfl (Nat.le_of_ble_eq_true rfl) rfl (zt_iload_n rfl rfl (zt_iconst rfl (zt_iadd rfl (zt_ialc (Nat.le_of_ble_eq_true rfl) rfl (zt_call0_1 rfl (mjkd205 _ _ _ _) (Nat.le_of_ble_eq_true rfl) rfl rfl))))))
set_option maxRecDepth 100000 in
theorem f311_1270 : mj_find (mj_P 311).2.2.2.2 1270 = [(.if_icmp .eq 103, 3, 0, [1373]), (.iconst 0, 1, 0, []), (.ireturn, 1, 0, [1])] := rfl
set_option maxRecDepth 100000 in
theorem q311_1270 (E : mj_E) (d w c : Nat) (hi : Nat → Nat → Int32) (hl : Nat → Nat → Int64) (v3 : Int32) (s0 : Int32) (s1 : Int32) : mj_den mj_P E d 311 1270 [Value.retAddr 0, Value.ref 0, Value.ref 205, Value.int v3] [Value.int s0, Value.int s1] (mj_hw w c hi hl) = if s1 = s0 then mj_den mj_P E d 311 1373 [Value.retAddr 0, Value.ref 0, Value.ref 205, Value.int v3] [] (mj_hw w c hi hl) else if (0 : Int32) = 0 ∨ (0 : Int32) = 1 then some (some (Value.int (0 : Int32)), (mj_hw w c hi hl)) else none := by
  rw [mj_den_eq, f311_1270]
  exact zt_icmp_eq rfl rfl (zt_iconst rfl (zt_ireturn1))
set_option maxRecDepth 100000 in
theorem f311_1275 : mj_find (mj_P 311).2.2.2.2 1275 = [(.aload_n 1, 1, 0, []), (.aload_n 0, 1, 0, []), (.iload_n 3, 1, 0, []), (.iconst 1, 1, 1, []), (.iadd, 1, 0, []), (.iaload, 1, 0, []), (.invokevirtual 162, 3, 0, [0, 143, 11, 1, 1, 1351, 1352, 1353, 143, 1354])] := rfl
set_option maxRecDepth 100000 in
theorem q311_1275 (E : mj_E) (d w c : Nat) (hi : Nat → Nat → Int32) (hl : Nat → Nat → Int64) (v3 : Int32) : mj_den mj_P E d 311 1275 [Value.retAddr 0, Value.ref 0, Value.ref 205, Value.int v3] [] (mj_hw w c hi hl) = if (E 0).1 ≤ 65536 then (if 0 ≤ (v3 + (1 : Int32)) ∧ ((v3 + (1 : Int32))).toNatClampNeg < (E 0).1 then mj_bi (mj_dc mj_P E d 143 [Value.ref 0, Value.int ((E 0).2 ((v3 + (1 : Int32))).toNatClampNeg)] (mj_hw w c hi hl)) (fun x1 h1 => mj_den mj_P E d 311 1284 [Value.retAddr 0, Value.ref 0, Value.ref 205, Value.int v3] [Value.int x1] h1) else none) else none := by
  rw [mj_den_eq, f311_1275]
  exact zt_aload_n rfl rfl (zt_aloadc_n rfl (Nat.le_of_ble_eq_true rfl) rfl (zt_iload_n rfl rfl (zt_iconst rfl (zt_iadd rfl (zt_ialc (Nat.le_of_ble_eq_true rfl) rfl (zt_call0_1 rfl (mjkd0 _ _ _ _) (Nat.le_of_ble_eq_true rfl) rfl rfl))))))
set_option maxRecDepth 100000 in
theorem f311_1284 : mj_find (mj_P 311).2.2.2.2 1284 = [(.aload_n 2, 1, 0, []), (.aload_n 0, 1, 0, []), (.iload_n 3, 1, 0, []), (.iconst 1, 1, 1, []), (.iadd, 1, 0, []), (.iaload, 1, 0, []), (.invokevirtual 165, 3, 0, [0, 284, 12, 1, 1, 2137, 2138, 2139, 156, 2140])] := rfl
set_option maxRecDepth 100000 in
theorem q311_1284 (E : mj_E) (d w c : Nat) (hi : Nat → Nat → Int32) (hl : Nat → Nat → Int64) (v3 : Int32) (s0 : Int32) : mj_den mj_P E d 311 1284 [Value.retAddr 0, Value.ref 0, Value.ref 205, Value.int v3] [Value.int s0] (mj_hw w c hi hl) = if (E 0).1 ≤ 65536 then (if 0 ≤ (v3 + (1 : Int32)) ∧ ((v3 + (1 : Int32))).toNatClampNeg < (E 0).1 then mj_bi (mj_dc mj_P E d 284 [Value.ref 205, Value.int ((E 0).2 ((v3 + (1 : Int32))).toNatClampNeg)] (mj_hw w c hi hl)) (fun x1 h1 => mj_den mj_P E d 311 1293 [Value.retAddr 0, Value.ref 0, Value.ref 205, Value.int v3] [Value.int x1, Value.int s0] h1) else none) else none := by
  rw [mj_den_eq, f311_1284]
  exact zt_aload_n rfl rfl (zt_aloadc_n rfl (Nat.le_of_ble_eq_true rfl) rfl (zt_iload_n rfl rfl (zt_iconst rfl (zt_iadd rfl (zt_ialc (Nat.le_of_ble_eq_true rfl) rfl (zt_call0_1 rfl (mjkd205 _ _ _ _) (Nat.le_of_ble_eq_true rfl) rfl rfl))))))
set_option maxRecDepth 100000 in
theorem f311_1293 : mj_find (mj_P 311).2.2.2.2 1293 = [(.if_icmp .eq 80, 3, 0, [1373]), (.iconst 0, 1, 0, []), (.ireturn, 1, 0, [1])] := rfl
set_option maxRecDepth 100000 in
theorem q311_1293 (E : mj_E) (d w c : Nat) (hi : Nat → Nat → Int32) (hl : Nat → Nat → Int64) (v3 : Int32) (s0 : Int32) (s1 : Int32) : mj_den mj_P E d 311 1293 [Value.retAddr 0, Value.ref 0, Value.ref 205, Value.int v3] [Value.int s0, Value.int s1] (mj_hw w c hi hl) = if s1 = s0 then mj_den mj_P E d 311 1373 [Value.retAddr 0, Value.ref 0, Value.ref 205, Value.int v3] [] (mj_hw w c hi hl) else if (0 : Int32) = 0 ∨ (0 : Int32) = 1 then some (some (Value.int (0 : Int32)), (mj_hw w c hi hl)) else none := by
  rw [mj_den_eq, f311_1293]
  exact zt_icmp_eq rfl rfl (zt_iconst rfl (zt_ireturn1))
set_option maxRecDepth 100000 in
theorem f311_1298 : mj_find (mj_P 311).2.2.2.2 1298 = [(.aload_n 1, 1, 0, []), (.invokevirtual 166, 3, 0, [0, 144, 11, 0, 1, 1370, 1371, 1372, 143, 1373])] := rfl
set_option maxRecDepth 100000 in
theorem q311_1298 (E : mj_E) (d w c : Nat) (hi : Nat → Nat → Int32) (hl : Nat → Nat → Int64) (v3 : Int32) : mj_den mj_P E d 311 1298 [Value.retAddr 0, Value.ref 0, Value.ref 205, Value.int v3] [] (mj_hw w c hi hl) = mj_bi (mj_dc mj_P E d 144 [Value.ref 0] (mj_hw w c hi hl)) (fun x1 h1 => mj_den mj_P E d 311 1302 [Value.retAddr 0, Value.ref 0, Value.ref 205, Value.int v3] [Value.int x1] h1) := by
  rw [mj_den_eq, f311_1298]
  exact zt_aload_n rfl rfl (zt_call0_1 rfl (mjkd0 _ _ _ _) (Nat.le_of_ble_eq_true rfl) rfl rfl)
set_option maxRecDepth 100000 in
theorem f311_1302 : mj_find (mj_P 311).2.2.2.2 1302 = [(.aload_n 2, 1, 0, []), (.invokevirtual 170, 3, 0, [0, 159, 12, 0, 1, 1612, 1613, 1614, 156, 1615])] := rfl
set_option maxRecDepth 100000 in
theorem q311_1302 (E : mj_E) (d w c : Nat) (hi : Nat → Nat → Int32) (hl : Nat → Nat → Int64) (v3 : Int32) (s0 : Int32) : mj_den mj_P E d 311 1302 [Value.retAddr 0, Value.ref 0, Value.ref 205, Value.int v3] [Value.int s0] (mj_hw w c hi hl) = mj_bi (mj_dc mj_P E d 159 [Value.ref 205] (mj_hw w c hi hl)) (fun x1 h1 => mj_den mj_P E d 311 1306 [Value.retAddr 0, Value.ref 0, Value.ref 205, Value.int v3] [Value.int x1, Value.int s0] h1) := by
  rw [mj_den_eq, f311_1302]
  exact zt_aload_n rfl rfl (zt_call0_1 rfl (mjkd205 _ _ _ _) (Nat.le_of_ble_eq_true rfl) rfl rfl)
set_option maxRecDepth 100000 in
theorem f311_1306 : mj_find (mj_P 311).2.2.2.2 1306 = [(.if_icmp .eq 67, 3, 0, [1373]), (.iconst 0, 1, 0, []), (.ireturn, 1, 0, [1])] := rfl
set_option maxRecDepth 100000 in
theorem q311_1306 (E : mj_E) (d w c : Nat) (hi : Nat → Nat → Int32) (hl : Nat → Nat → Int64) (v3 : Int32) (s0 : Int32) (s1 : Int32) : mj_den mj_P E d 311 1306 [Value.retAddr 0, Value.ref 0, Value.ref 205, Value.int v3] [Value.int s0, Value.int s1] (mj_hw w c hi hl) = if s1 = s0 then mj_den mj_P E d 311 1373 [Value.retAddr 0, Value.ref 0, Value.ref 205, Value.int v3] [] (mj_hw w c hi hl) else if (0 : Int32) = 0 ∨ (0 : Int32) = 1 then some (some (Value.int (0 : Int32)), (mj_hw w c hi hl)) else none := by
  rw [mj_den_eq, f311_1306]
  exact zt_icmp_eq rfl rfl (zt_iconst rfl (zt_ireturn1))
set_option maxRecDepth 100000 in
theorem f311_1311 : mj_find (mj_P 311).2.2.2.2 1311 = [(.aload_n 1, 1, 0, []), (.aload_n 0, 1, 0, []), (.iload_n 3, 1, 0, []), (.iconst 1, 1, 1, []), (.iadd, 1, 0, []), (.iaload, 1, 0, []), (.ifCond .eq 7, 3, 0, [1324]), (.iconst 1, 1, 1, []), (.goto 4, 3, 0, [1325])] := rfl
set_option maxRecDepth 100000 in
theorem q311_1311 (E : mj_E) (d w c : Nat) (hi : Nat → Nat → Int32) (hl : Nat → Nat → Int64) (v3 : Int32) : mj_den mj_P E d 311 1311 [Value.retAddr 0, Value.ref 0, Value.ref 205, Value.int v3] [] (mj_hw w c hi hl) = if (E 0).1 ≤ 65536 then (if 0 ≤ (v3 + (1 : Int32)) ∧ ((v3 + (1 : Int32))).toNatClampNeg < (E 0).1 then if ((E 0).2 ((v3 + (1 : Int32))).toNatClampNeg) = 0 then mj_den mj_P E d 311 1324 [Value.retAddr 0, Value.ref 0, Value.ref 205, Value.int v3] [Value.ref 0] (mj_hw w c hi hl) else mj_den mj_P E d 311 1325 [Value.retAddr 0, Value.ref 0, Value.ref 205, Value.int v3] [Value.int (1 : Int32), Value.ref 0] (mj_hw w c hi hl) else none) else none := by
  rw [mj_den_eq, f311_1311]
  exact zt_aload_n rfl rfl (zt_aloadc_n rfl (Nat.le_of_ble_eq_true rfl) rfl (zt_iload_n rfl rfl (zt_iconst rfl (zt_iadd rfl (zt_ialc (Nat.le_of_ble_eq_true rfl) rfl (zt_if_eq rfl rfl (zt_iconst rfl (zt_goto rfl))))))))
set_option maxRecDepth 100000 in
theorem f311_1324 : mj_find (mj_P 311).2.2.2.2 1324 = [(.iconst 0, 1, 0, [])] := rfl
set_option maxRecDepth 100000 in
theorem q311_1324 (E : mj_E) (d w c : Nat) (hi : Nat → Nat → Int32) (hl : Nat → Nat → Int64) (v3 : Int32) : mj_den mj_P E d 311 1324 [Value.retAddr 0, Value.ref 0, Value.ref 205, Value.int v3] [Value.ref 0] (mj_hw w c hi hl) = mj_den mj_P E d 311 1325 [Value.retAddr 0, Value.ref 0, Value.ref 205, Value.int v3] [Value.int (0 : Int32), Value.ref 0] (mj_hw w c hi hl) := by
  rw [mj_den_eq, f311_1324]
  exact zt_iconst rfl (zt_end rfl)
set_option maxRecDepth 100000 in
theorem f311_1325 : mj_find (mj_P 311).2.2.2.2 1325 = [(.invokevirtual 171, 3, 0, [0, 145, 11, 1, 1, 1378, 1379, 1380, 143, 1381])] := rfl
set_option maxRecDepth 100000 in
theorem q311_1325 (E : mj_E) (d w c : Nat) (hi : Nat → Nat → Int32) (hl : Nat → Nat → Int64) (v3 : Int32) (s0 : Int32) : mj_den mj_P E d 311 1325 [Value.retAddr 0, Value.ref 0, Value.ref 205, Value.int v3] [Value.int s0, Value.ref 0] (mj_hw w c hi hl) = mj_bi (mj_dc mj_P E d 145 [Value.ref 0, Value.int s0] (mj_hw w c hi hl)) (fun x1 h1 => mj_den mj_P E d 311 1328 [Value.retAddr 0, Value.ref 0, Value.ref 205, Value.int v3] [Value.int x1] h1) := by
  rw [mj_den_eq, f311_1325]
  exact zt_call0_1 rfl (mjkd0 _ _ _ _) (Nat.le_of_ble_eq_true rfl) rfl rfl
set_option maxRecDepth 100000 in
theorem f311_1328 : mj_find (mj_P 311).2.2.2.2 1328 = [(.aload_n 2, 1, 0, []), (.aload_n 0, 1, 0, []), (.iload_n 3, 1, 0, []), (.iconst 1, 1, 1, []), (.iadd, 1, 0, []), (.iaload, 1, 0, []), (.ifCond .eq 7, 3, 0, [1341]), (.iconst 1, 1, 1, []), (.goto 4, 3, 0, [1342])] := rfl
set_option maxRecDepth 100000 in
theorem q311_1328 (E : mj_E) (d w c : Nat) (hi : Nat → Nat → Int32) (hl : Nat → Nat → Int64) (v3 : Int32) (s0 : Int32) : mj_den mj_P E d 311 1328 [Value.retAddr 0, Value.ref 0, Value.ref 205, Value.int v3] [Value.int s0] (mj_hw w c hi hl) = if (E 0).1 ≤ 65536 then (if 0 ≤ (v3 + (1 : Int32)) ∧ ((v3 + (1 : Int32))).toNatClampNeg < (E 0).1 then if ((E 0).2 ((v3 + (1 : Int32))).toNatClampNeg) = 0 then mj_den mj_P E d 311 1341 [Value.retAddr 0, Value.ref 0, Value.ref 205, Value.int v3] [Value.ref 205, Value.int s0] (mj_hw w c hi hl) else mj_den mj_P E d 311 1342 [Value.retAddr 0, Value.ref 0, Value.ref 205, Value.int v3] [Value.int (1 : Int32), Value.ref 205, Value.int s0] (mj_hw w c hi hl) else none) else none := by
  rw [mj_den_eq, f311_1328]
  exact zt_aload_n rfl rfl (zt_aloadc_n rfl (Nat.le_of_ble_eq_true rfl) rfl (zt_iload_n rfl rfl (zt_iconst rfl (zt_iadd rfl (zt_ialc (Nat.le_of_ble_eq_true rfl) rfl (zt_if_eq rfl rfl (zt_iconst rfl (zt_goto rfl))))))))
set_option maxRecDepth 100000 in
theorem f311_1341 : mj_find (mj_P 311).2.2.2.2 1341 = [(.iconst 0, 1, 0, [])] := rfl
set_option maxRecDepth 100000 in
theorem q311_1341 (E : mj_E) (d w c : Nat) (hi : Nat → Nat → Int32) (hl : Nat → Nat → Int64) (v3 : Int32) (s1 : Int32) : mj_den mj_P E d 311 1341 [Value.retAddr 0, Value.ref 0, Value.ref 205, Value.int v3] [Value.ref 205, Value.int s1] (mj_hw w c hi hl) = mj_den mj_P E d 311 1342 [Value.retAddr 0, Value.ref 0, Value.ref 205, Value.int v3] [Value.int (0 : Int32), Value.ref 205, Value.int s1] (mj_hw w c hi hl) := by
  rw [mj_den_eq, f311_1341]
  exact zt_iconst rfl (zt_end rfl)
set_option maxRecDepth 100000 in
theorem f311_1342 : mj_find (mj_P 311).2.2.2.2 1342 = [(.invokevirtual 175, 3, 0, [0, 289, 12, 1, 1, 2149, 2150, 2151, 156, 2152])] := rfl
set_option maxRecDepth 100000 in
theorem q311_1342 (E : mj_E) (d w c : Nat) (hi : Nat → Nat → Int32) (hl : Nat → Nat → Int64) (v3 : Int32) (s0 : Int32) (s2 : Int32) : mj_den mj_P E d 311 1342 [Value.retAddr 0, Value.ref 0, Value.ref 205, Value.int v3] [Value.int s0, Value.ref 205, Value.int s2] (mj_hw w c hi hl) = mj_bi (mj_dc mj_P E d 289 [Value.ref 205, Value.int s0] (mj_hw w c hi hl)) (fun x1 h1 => mj_den mj_P E d 311 1345 [Value.retAddr 0, Value.ref 0, Value.ref 205, Value.int v3] [Value.int x1, Value.int s2] h1) := by
  rw [mj_den_eq, f311_1342]
  exact zt_call0_1 rfl (mjkd205 _ _ _ _) (Nat.le_of_ble_eq_true rfl) rfl rfl
set_option maxRecDepth 100000 in
theorem f311_1345 : mj_find (mj_P 311).2.2.2.2 1345 = [(.if_icmp .eq 28, 3, 0, [1373]), (.iconst 0, 1, 0, []), (.ireturn, 1, 0, [1])] := rfl
set_option maxRecDepth 100000 in
theorem q311_1345 (E : mj_E) (d w c : Nat) (hi : Nat → Nat → Int32) (hl : Nat → Nat → Int64) (v3 : Int32) (s0 : Int32) (s1 : Int32) : mj_den mj_P E d 311 1345 [Value.retAddr 0, Value.ref 0, Value.ref 205, Value.int v3] [Value.int s0, Value.int s1] (mj_hw w c hi hl) = if s1 = s0 then mj_den mj_P E d 311 1373 [Value.retAddr 0, Value.ref 0, Value.ref 205, Value.int v3] [] (mj_hw w c hi hl) else if (0 : Int32) = 0 ∨ (0 : Int32) = 1 then some (some (Value.int (0 : Int32)), (mj_hw w c hi hl)) else none := by
  rw [mj_den_eq, f311_1345]
  exact zt_icmp_eq rfl rfl (zt_iconst rfl (zt_ireturn1))
set_option maxRecDepth 100000 in
theorem f311_1350 : mj_find (mj_P 311).2.2.2.2 1350 = [(.aload_n 1, 1, 0, []), (.aload_n 0, 1, 0, []), (.iload_n 3, 1, 0, []), (.iconst 1, 1, 1, []), (.iadd, 1, 0, []), (.iaload, 1, 0, []), (.invokevirtual 176, 3, 0, [0, 146, 11, 1, 1, 1395, 1396, 1397, 143, 1398])] := rfl
set_option maxRecDepth 100000 in
theorem q311_1350 (E : mj_E) (d w c : Nat) (hi : Nat → Nat → Int32) (hl : Nat → Nat → Int64) (v3 : Int32) : mj_den mj_P E d 311 1350 [Value.retAddr 0, Value.ref 0, Value.ref 205, Value.int v3] [] (mj_hw w c hi hl) = if (E 0).1 ≤ 65536 then (if 0 ≤ (v3 + (1 : Int32)) ∧ ((v3 + (1 : Int32))).toNatClampNeg < (E 0).1 then mj_bi (mj_dc mj_P E d 146 [Value.ref 0, Value.int ((E 0).2 ((v3 + (1 : Int32))).toNatClampNeg)] (mj_hw w c hi hl)) (fun x1 h1 => mj_den mj_P E d 311 1359 [Value.retAddr 0, Value.ref 0, Value.ref 205, Value.int v3] [Value.int x1] h1) else none) else none := by
  rw [mj_den_eq, f311_1350]
  exact zt_aload_n rfl rfl (zt_aloadc_n rfl (Nat.le_of_ble_eq_true rfl) rfl (zt_iload_n rfl rfl (zt_iconst rfl (zt_iadd rfl (zt_ialc (Nat.le_of_ble_eq_true rfl) rfl (zt_call0_1 rfl (mjkd0 _ _ _ _) (Nat.le_of_ble_eq_true rfl) rfl rfl))))))
set_option maxRecDepth 100000 in
theorem f311_1359 : mj_find (mj_P 311).2.2.2.2 1359 = [(.aload_n 2, 1, 0, []), (.aload_n 0, 1, 0, []), (.iload_n 3, 1, 0, []), (.iconst 1, 1, 1, []), (.iadd, 1, 0, []), (.iaload, 1, 0, []), (.invokevirtual 179, 3, 0, [0, 290, 12, 1, 1, 2169, 2170, 2171, 156, 2172])] := rfl
set_option maxRecDepth 100000 in
theorem q311_1359 (E : mj_E) (d w c : Nat) (hi : Nat → Nat → Int32) (hl : Nat → Nat → Int64) (v3 : Int32) (s0 : Int32) : mj_den mj_P E d 311 1359 [Value.retAddr 0, Value.ref 0, Value.ref 205, Value.int v3] [Value.int s0] (mj_hw w c hi hl) = if (E 0).1 ≤ 65536 then (if 0 ≤ (v3 + (1 : Int32)) ∧ ((v3 + (1 : Int32))).toNatClampNeg < (E 0).1 then mj_bi (mj_dc mj_P E d 290 [Value.ref 205, Value.int ((E 0).2 ((v3 + (1 : Int32))).toNatClampNeg)] (mj_hw w c hi hl)) (fun x1 h1 => mj_den mj_P E d 311 1368 [Value.retAddr 0, Value.ref 0, Value.ref 205, Value.int v3] [Value.int x1, Value.int s0] h1) else none) else none := by
  rw [mj_den_eq, f311_1359]
  exact zt_aload_n rfl rfl (zt_aloadc_n rfl (Nat.le_of_ble_eq_true rfl) rfl (zt_iload_n rfl rfl (zt_iconst rfl (zt_iadd rfl (zt_ialc (Nat.le_of_ble_eq_true rfl) rfl (zt_call0_1 rfl (mjkd205 _ _ _ _) (Nat.le_of_ble_eq_true rfl) rfl rfl))))))
set_option maxRecDepth 100000 in
theorem f311_1368 : mj_find (mj_P 311).2.2.2.2 1368 = [(.if_icmp .eq 5, 3, 0, [1373]), (.iconst 0, 1, 0, []), (.ireturn, 1, 0, [1])] := rfl
set_option maxRecDepth 100000 in
theorem q311_1368 (E : mj_E) (d w c : Nat) (hi : Nat → Nat → Int32) (hl : Nat → Nat → Int64) (v3 : Int32) (s0 : Int32) (s1 : Int32) : mj_den mj_P E d 311 1368 [Value.retAddr 0, Value.ref 0, Value.ref 205, Value.int v3] [Value.int s0, Value.int s1] (mj_hw w c hi hl) = if s1 = s0 then mj_den mj_P E d 311 1373 [Value.retAddr 0, Value.ref 0, Value.ref 205, Value.int v3] [] (mj_hw w c hi hl) else if (0 : Int32) = 0 ∨ (0 : Int32) = 1 then some (some (Value.int (0 : Int32)), (mj_hw w c hi hl)) else none := by
  rw [mj_den_eq, f311_1368]
  exact zt_icmp_eq rfl rfl (zt_iconst rfl (zt_ireturn1))
set_option maxRecDepth 100000 in
theorem f311_1373 : mj_find (mj_P 311).2.2.2.2 1373 = [(.iinc 3 6, 3, 6, []), (.goto (-1358), 3, 0, [18])] := rfl
set_option maxRecDepth 100000 in
theorem q311_1373 (E : mj_E) (d w c : Nat) (hi : Nat → Nat → Int32) (hl : Nat → Nat → Int64) (v3 : Int32) : mj_den mj_P E d 311 1373 [Value.retAddr 0, Value.ref 0, Value.ref 205, Value.int v3] [] (mj_hw w c hi hl) = mj_den mj_P E d 311 18 [Value.retAddr 0, Value.ref 0, Value.ref 205, Value.int (v3 + (6 : Int32))] [] (mj_hw w c hi hl) := by
  rw [mj_den_eq, f311_1373]
  exact zt_iinc rfl (Nat.le_of_ble_eq_true rfl) rfl rfl (zt_goto rfl)
set_option maxRecDepth 100000 in
theorem f311_1379 : mj_find (mj_P 311).2.2.2.2 1379 = [(.iconst 1, 1, 1, []), (.ireturn, 1, 0, [1])] := rfl
set_option maxRecDepth 100000 in
theorem q311_1379 (E : mj_E) (d w c : Nat) (hi : Nat → Nat → Int32) (hl : Nat → Nat → Int64) (v3 : Int32) : mj_den mj_P E d 311 1379 [Value.retAddr 0, Value.ref 0, Value.ref 205, Value.int v3] [] (mj_hw w c hi hl) = if (1 : Int32) = 0 ∨ (1 : Int32) = 1 then some (some (Value.int (1 : Int32)), (mj_hw w c hi hl)) else none := by
  rw [mj_den_eq, f311_1379]
  exact zt_iconst rfl (zt_ireturn1)
