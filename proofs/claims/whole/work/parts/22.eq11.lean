set_option maxRecDepth 100000 in
theorem f183_0 : mj_find (mj_P 183).2.2.2.2 0 = [(.aload_n 0, 1, 0, []), (.iload_n 1, 1, 0, []), (.putfield 193, 3, 0, [12, 32, 0, 1442]), (.aload_n 0, 1, 0, []), (.aload_n 0, 1, 0, []), (.getfield 171, 3, 0, [12, 16, 0, 1426]), (.putfield 196, 3, 0, [12, 33, 0, 1443]), (.iconst (-1), 1, (-1), []), (.ireturn, 1, 0, [0])] := rfl
set_option maxRecDepth 100000 in
theorem q183_0 (E : mj_E) (d w c : Nat) (hi : Nat → Nat → Int32) (hl : Nat → Nat → Int64) (v1 : Int32) : mj_den mj_P E d 183 0 [Value.ref 205, Value.int v1] [] (mj_hw w c hi hl) = some (some (Value.int (-1 : Int32)), (mj_hw w c (mj_u (mj_u hi 205 32 v1) 205 33 (hi 205 16)) hl)) := by
  rw [mj_den_eq, f183_0]
  exact zt_aload_n rfl rfl (zt_iload_n rfl rfl (zt_puti (mjkd205 _ _ _ _) rfl rfl (zt_aload_n rfl rfl (zt_aload_n rfl rfl (zt_geti (mjkd205 _ _ _ _) rfl rfl (zt_puti (mjkd205 _ _ _ _) rfl rfl (zt_iconst rfl (zt_ireturn0))))))))
set_option maxRecDepth 100000 in
theorem f184_0 : mj_find (mj_P 184).2.2.2.2 0 = [(.aload_n 0, 1, 0, []), (.getfield 174, 3, 0, [12, 17, 0, 1427]), (.iconst 2, 1, 2, []), (.if_icmp .ne 15, 3, 0, [20]), (.aload_n 0, 1, 0, []), (.getfield 177, 3, 0, [12, 18, 0, 1428]), (.iload_n 1, 1, 0, []), (.if_icmp .ne 7, 3, 0, [20]), (.iconst 1, 1, 1, []), (.goto 4, 3, 0, [21])] := rfl
set_option maxRecDepth 100000 in
theorem q184_0 (E : mj_E) (d w c : Nat) (hi : Nat → Nat → Int32) (hl : Nat → Nat → Int64) (v1 : Int32) : mj_den mj_P E d 184 0 [Value.ref 205, Value.int v1] [] (mj_hw w c hi hl) = if ¬ (hi 205 17) = (2 : Int32) then mj_den mj_P E d 184 20 [Value.ref 205, Value.int v1] [] (mj_hw w c hi hl) else if ¬ (hi 205 18) = v1 then mj_den mj_P E d 184 20 [Value.ref 205, Value.int v1] [] (mj_hw w c hi hl) else mj_den mj_P E d 184 21 [Value.ref 205, Value.int v1] [Value.int (1 : Int32)] (mj_hw w c hi hl) := by
  rw [mj_den_eq, f184_0]
  exact zt_aload_n rfl rfl (zt_geti (mjkd205 _ _ _ _) rfl rfl (zt_iconst rfl (zt_icmp_ne rfl rfl (zt_aload_n rfl rfl (zt_geti (mjkd205 _ _ _ _) rfl rfl (zt_iload_n rfl rfl (zt_icmp_ne rfl rfl (zt_iconst rfl (zt_goto rfl)))))))))
set_option maxRecDepth 100000 in
theorem f184_20 : mj_find (mj_P 184).2.2.2.2 20 = [(.iconst 0, 1, 0, [])] := rfl
set_option maxRecDepth 100000 in
theorem q184_20 (E : mj_E) (d w c : Nat) (hi : Nat → Nat → Int32) (hl : Nat → Nat → Int64) (v1 : Int32) : mj_den mj_P E d 184 20 [Value.ref 205, Value.int v1] [] (mj_hw w c hi hl) = mj_den mj_P E d 184 21 [Value.ref 205, Value.int v1] [Value.int (0 : Int32)] (mj_hw w c hi hl) := by
  rw [mj_den_eq, f184_20]
  exact zt_iconst rfl (zt_end rfl)
set_option maxRecDepth 100000 in
theorem f184_21 : mj_find (mj_P 184).2.2.2.2 21 = [(.ireturn, 1, 0, [1])] := rfl
set_option maxRecDepth 100000 in
theorem q184_21 (E : mj_E) (d w c : Nat) (hi : Nat → Nat → Int32) (hl : Nat → Nat → Int64) (v1 : Int32) (s0 : Int32) : mj_den mj_P E d 184 21 [Value.ref 205, Value.int v1] [Value.int s0] (mj_hw w c hi hl) = if s0 = 0 ∨ s0 = 1 then some (some (Value.int s0), (mj_hw w c hi hl)) else none := by
  rw [mj_den_eq, f184_21]
  exact zt_ireturn1
set_option maxRecDepth 100000 in
theorem f185_0 : mj_find (mj_P 185).2.2.2.2 0 = [(.aload_n 0, 1, 0, []), (.getfield 174, 3, 0, [12, 17, 0, 1427]), (.iconst 4, 1, 4, []), (.if_icmp .ne 15, 3, 0, [20]), (.aload_n 0, 1, 0, []), (.getfield 177, 3, 0, [12, 18, 0, 1428]), (.iload_n 1, 1, 0, []), (.if_icmp .ne 7, 3, 0, [20]), (.iconst 1, 1, 1, []), (.goto 4, 3, 0, [21])] := rfl
set_option maxRecDepth 100000 in
theorem q185_0 (E : mj_E) (d w c : Nat) (hi : Nat → Nat → Int32) (hl : Nat → Nat → Int64) (v1 : Int32) : mj_den mj_P E d 185 0 [Value.ref 205, Value.int v1] [] (mj_hw w c hi hl) = if ¬ (hi 205 17) = (4 : Int32) then mj_den mj_P E d 185 20 [Value.ref 205, Value.int v1] [] (mj_hw w c hi hl) else if ¬ (hi 205 18) = v1 then mj_den mj_P E d 185 20 [Value.ref 205, Value.int v1] [] (mj_hw w c hi hl) else mj_den mj_P E d 185 21 [Value.ref 205, Value.int v1] [Value.int (1 : Int32)] (mj_hw w c hi hl) := by
  rw [mj_den_eq, f185_0]
  exact zt_aload_n rfl rfl (zt_geti (mjkd205 _ _ _ _) rfl rfl (zt_iconst rfl (zt_icmp_ne rfl rfl (zt_aload_n rfl rfl (zt_geti (mjkd205 _ _ _ _) rfl rfl (zt_iload_n rfl rfl (zt_icmp_ne rfl rfl (zt_iconst rfl (zt_goto rfl)))))))))
set_option maxRecDepth 100000 in
theorem f185_20 : mj_find (mj_P 185).2.2.2.2 20 = [(.iconst 0, 1, 0, [])] := rfl
set_option maxRecDepth 100000 in
theorem q185_20 (E : mj_E) (d w c : Nat) (hi : Nat → Nat → Int32) (hl : Nat → Nat → Int64) (v1 : Int32) : mj_den mj_P E d 185 20 [Value.ref 205, Value.int v1] [] (mj_hw w c hi hl) = mj_den mj_P E d 185 21 [Value.ref 205, Value.int v1] [Value.int (0 : Int32)] (mj_hw w c hi hl) := by
  rw [mj_den_eq, f185_20]
  exact zt_iconst rfl (zt_end rfl)
set_option maxRecDepth 100000 in
theorem f185_21 : mj_find (mj_P 185).2.2.2.2 21 = [(.ireturn, 1, 0, [1])] := rfl
set_option maxRecDepth 100000 in
theorem q185_21 (E : mj_E) (d w c : Nat) (hi : Nat → Nat → Int32) (hl : Nat → Nat → Int64) (v1 : Int32) (s0 : Int32) : mj_den mj_P E d 185 21 [Value.ref 205, Value.int v1] [Value.int s0] (mj_hw w c hi hl) = if s0 = 0 ∨ s0 = 1 then some (some (Value.int s0), (mj_hw w c hi hl)) else none := by
  rw [mj_den_eq, f185_21]
  exact zt_ireturn1
set_option maxRecDepth 100000 in
theorem f186_0 : mj_find (mj_P 186).2.2.2.2 0 = [(.aload_n 0, 1, 0, []), (.getfield 55, 3, 0, [12, 25, 3, 1435]), (.sipush 800, 3, 800, []), (.aload_n 0, 1, 0, []), (.getfield 199, 3, 0, [12, 28, 0, 1438]), (.iadd, 1, 0, []), (.iload_n 1, 1, 0, []), (.iastore, 1, 0, []), (.aload_n 0, 1, 0, []), (.getfield 58, 3, 0, [12, 26, 3, 1436]), (.sipush 800, 3, 800, []), (.aload_n 0, 1, 0, []), (.getfield 199, 3, 0, [12, 28, 0, 1438]), (.iadd, 1, 0, []), (.iload_n 2, 1, 0, []), (.iastore, 1, 0, []), (.aload_n 0, 1, 0, []), (.aload_n 0, 1, 0, []), (.getfield 199, 3, 0, [12, 28, 0, 1438]), (.iconst 1, 1, 1, []), (.iadd, 1, 0, []), (.putfield 199, 3, 0, [12, 28, 0, 1438]), (.return_, 1, 0, [])] := rfl
set_option maxRecDepth 100000 in
theorem q186_0 (E : mj_E) (d w c : Nat) (hi : Nat → Nat → Int32) (hl : Nat → Nat → Int64) (v1 : Int32) (v2 : Int32) : mj_den mj_P E d 186 0 [Value.ref 205, Value.int v1, Value.int v2] [] (mj_hw w c hi hl) = if 0 ≤ ((800 : Int32) + (hi 205 28)) ∧ (((800 : Int32) + (hi 205 28))).toNatClampNeg < 1200 then if 0 ≤ ((800 : Int32) + (hi 205 28)) ∧ (((800 : Int32) + (hi 205 28))).toNatClampNeg < 1200 then some (none, (mj_hw w c (mj_u (mj_u (mj_u hi 221 ((((800 : Int32) + (hi 205 28))).toNatClampNeg) v1) 222 ((((800 : Int32) + (hi 205 28))).toNatClampNeg) v2) 205 28 ((hi 205 28) + (1 : Int32))) hl)) else none else none := by
  rw [mj_den_eq, f186_0]
  exact zt_aload_n rfl rfl (zt_getr (mjkd205 _ _ _ _) (mjhr205_25 w c) rfl (zt_sipush rfl (zt_aload_n rfl rfl (zt_geti (mjkd205 _ _ _ _) rfl rfl (zt_iadd rfl (zt_iload_n rfl rfl (zt_iast (mjkd221 _ _ _ _) (mjln221 _ _ _ _) rfl rfl (zt_aload_n rfl rfl (zt_getr (mjkd205 _ _ _ _) (mjhr205_26 w c) rfl (zt_sipush rfl (zt_aload_n rfl rfl (zt_geti (mjkd205 _ _ _ _) rfl rfl (zt_iadd rfl (zt_iload_n rfl rfl (zt_iast (mjkd222 _ _ _ _) (mjln222 _ _ _ _) rfl rfl (zt_aload_n rfl rfl (zt_aload_n rfl rfl (zt_geti (mjkd205 _ _ _ _) rfl rfl (zt_iconst rfl (zt_iadd rfl (zt_puti (mjkd205 _ _ _ _) rfl rfl (zt_return))))))))))))))))))))))
set_option maxRecDepth 100000 in
theorem f187_0 : mj_find (mj_P 187).2.2.2.2 0 = [(.aload_n 0, 1, 0, []), (.iload_n 1, 1, 0, []), (.bipush 7, 2, 7, []), (.bipush 16, 2, 16, []), (.invokevirtual 144, 3, 0, [0, 152, 12, 3, 1, 1624, 1626, 42, 156, 1627])] := rfl
set_option maxRecDepth 100000 in
theorem q187_0 (E : mj_E) (d w c : Nat) (hi : Nat → Nat → Int32) (hl : Nat → Nat → Int64) (v1 : Int32) : mj_den mj_P E d 187 0 [Value.ref 205, Value.int v1] [] (mj_hw w c hi hl) = mj_bi (mj_dc mj_P E d 152 [Value.ref 205, Value.int v1, Value.int (7 : Int32), Value.int (16 : Int32)] (mj_hw w c hi hl)) (fun x1 h1 => mj_den mj_P E d 187 9 [Value.ref 205, Value.int v1] [Value.int x1] h1) := by
  rw [mj_den_eq, f187_0]
  exact zt_aload_n rfl rfl (zt_iload_n rfl rfl (zt_bipush rfl (zt_bipush rfl (zt_call0_1 rfl (mjkd205 _ _ _ _) (Nat.le_of_ble_eq_true rfl) rfl rfl))))
set_option maxRecDepth 100000 in
theorem f187_9 : mj_find (mj_P 187).2.2.2.2 9 = [(.ireturn, 1, 0, [1])] := rfl
set_option maxRecDepth 100000 in
theorem q187_9 (E : mj_E) (d w c : Nat) (hi : Nat → Nat → Int32) (hl : Nat → Nat → Int64) (v1 : Int32) (s0 : Int32) : mj_den mj_P E d 187 9 [Value.ref 205, Value.int v1] [Value.int s0] (mj_hw w c hi hl) = if s0 = 0 ∨ s0 = 1 then some (some (Value.int s0), (mj_hw w c hi hl)) else none := by
  rw [mj_den_eq, f187_9]
  exact zt_ireturn1
set_option maxRecDepth 100000 in
theorem f188_0 : mj_find (mj_P 188).2.2.2.2 0 = [(.aload_n 0, 1, 0, []), (.getfield 174, 3, 0, [12, 17, 0, 1427]), (.iconst 2, 1, 2, []), (.if_icmp .ne 18, 3, 0, [23]), (.aload_n 0, 1, 0, []), (.aload_n 0, 1, 0, []), (.getfield 177, 3, 0, [12, 18, 0, 1428]), (.invokevirtual 202, 3, 0, [0, 187, 12, 1, 1, 1760, 1762, 71, 156, 1763])] := rfl
set_option maxRecDepth 100000 in
theorem q188_0 (E : mj_E) (d w c : Nat) (hi : Nat → Nat → Int32) (hl : Nat → Nat → Int64) : mj_den mj_P E d 188 0 [Value.ref 205, Value.float 0] [] (mj_hw w c hi hl) = if ¬ (hi 205 17) = (2 : Int32) then mj_den mj_P E d 188 23 [Value.ref 205, Value.float 0] [] (mj_hw w c hi hl) else mj_bi (mj_dc mj_P E d 187 [Value.ref 205, Value.int (hi 205 18)] (mj_hw w c hi hl)) (fun x1 h1 => mj_den mj_P E d 188 16 [Value.ref 205, Value.float 0] [Value.int x1] h1) := by
  rw [mj_den_eq, f188_0]
  exact zt_aload_n rfl rfl (zt_geti (mjkd205 _ _ _ _) rfl rfl (zt_iconst rfl (zt_icmp_ne rfl rfl (zt_aload_n rfl rfl (zt_aload_n rfl rfl (zt_geti (mjkd205 _ _ _ _) rfl rfl (zt_call0_1 rfl (mjkd205 _ _ _ _) (Nat.le_of_ble_eq_true rfl) rfl rfl)))))))
set_option maxRecDepth 100000 in
theorem f188_16 : mj_find (mj_P 188).2.2.2.2 16 = [(.ifCond .eq 7, 3, 0, [23]), (.iconst 1, 1, 1, []), (.goto 4, 3, 0, [24])] := rfl
set_option maxRecDepth 100000 in
theorem q188_16 (E : mj_E) (d w c : Nat) (hi : Nat → Nat → Int32) (hl : Nat → Nat → Int64) (s0 : Int32) : mj_den mj_P E d 188 16 [Value.ref 205, Value.float 0] [Value.int s0] (mj_hw w c hi hl) = if s0 = 0 then mj_den mj_P E d 188 23 [Value.ref 205, Value.float 0] [] (mj_hw w c hi hl) else mj_den mj_P E d 188 24 [Value.ref 205, Value.float 0] [Value.int (1 : Int32)] (mj_hw w c hi hl) := by
  rw [mj_den_eq, f188_16]
  exact zt_if_eq rfl rfl (zt_iconst rfl (zt_goto rfl))
set_option maxRecDepth 100000 in
theorem f188_23 : mj_find (mj_P 188).2.2.2.2 23 = [(.iconst 0, 1, 0, [])] := rfl
set_option maxRecDepth 100000 in
theorem q188_23 (E : mj_E) (d w c : Nat) (hi : Nat → Nat → Int32) (hl : Nat → Nat → Int64) : mj_den mj_P E d 188 23 [Value.ref 205, Value.float 0] [] (mj_hw w c hi hl) = mj_den mj_P E d 188 24 [Value.ref 205, Value.float 0] [Value.int (0 : Int32)] (mj_hw w c hi hl) := by
  rw [mj_den_eq, f188_23]
  exact zt_iconst rfl (zt_end rfl)
set_option maxRecDepth 100000 in
theorem f188_24 : mj_find (mj_P 188).2.2.2.2 24 = [(.istore_n 1, 1, 0, []), (.iload_n 1, 1, 0, []), (.ifCond .ne 17, 3, 0, [43]), (.aload_n 0, 1, 0, []), (.getfield 174, 3, 0, [12, 17, 0, 1427]), (.iconst 3, 1, 3, []), (.if_icmp .eq 9, 3, 0, [43]), (.aload_n 0, 1, 0, []), (.iconst 1, 1, 1, []), (.invokevirtual 205, 3, 0, [0, 183, 12, 1, 1, 1700, 1702, 56, 156, 1703])] := rfl
set_option maxRecDepth 100000 in
theorem q188_24 (E : mj_E) (d w c : Nat) (hi : Nat → Nat → Int32) (hl : Nat → Nat → Int64) (s0 : Int32) : mj_den mj_P E d 188 24 [Value.ref 205, Value.float 0] [Value.int s0] (mj_hw w c hi hl) = if ¬ s0 = 0 then mj_den mj_P E d 188 43 [Value.ref 205, Value.int s0] [] (mj_hw w c hi hl) else if (hi 205 17) = (3 : Int32) then mj_den mj_P E d 188 43 [Value.ref 205, Value.int s0] [] (mj_hw w c hi hl) else mj_bi (mj_dc mj_P E d 183 [Value.ref 205, Value.int (1 : Int32)] (mj_hw w c hi hl)) (fun x1 h1 => mj_den mj_P E d 188 42 [Value.ref 205, Value.int s0] [Value.int x1] h1) := by
  rw [mj_den_eq, f188_24]
  exact zt_istore_n (Nat.le_of_ble_eq_true rfl) rfl rfl (zt_iload_n rfl rfl (zt_if_ne rfl rfl (zt_aload_n rfl rfl (zt_geti (mjkd205 _ _ _ _) rfl rfl (zt_iconst rfl (zt_icmp_eq rfl rfl (zt_aload_n rfl rfl (zt_iconst rfl (zt_call0_1 rfl (mjkd205 _ _ _ _) (Nat.le_of_ble_eq_true rfl) rfl rfl)))))))))
set_option maxRecDepth 100000 in
theorem f188_42 : mj_find (mj_P 188).2.2.2.2 42 = [(.ireturn, 1, 0, [0])] := rfl
set_option maxRecDepth 100000 in
theorem q188_42 (E : mj_E) (d w c : Nat) (hi : Nat → Nat → Int32) (hl : Nat → Nat → Int64) (v1 : Int32) (s0 : Int32) : mj_den mj_P E d 188 42 [Value.ref 205, Value.int v1] [Value.int s0] (mj_hw w c hi hl) = some (some (Value.int s0), (mj_hw w c hi hl)) := by
  rw [mj_den_eq, f188_42]
  exact zt_ireturn0
set_option maxRecDepth 100000 in
theorem f188_43 : mj_find (mj_P 188).2.2.2.2 43 = [(.aload_n 0, 1, 0, []), (.iload_n 1, 1, 0, []), (.ifCond .eq 7, 3, 0, [52]), (.iconst 1, 1, 1, []), (.goto 4, 3, 0, [53])] := rfl
set_option maxRecDepth 100000 in
theorem q188_43 (E : mj_E) (d w c : Nat) (hi : Nat → Nat → Int32) (hl : Nat → Nat → Int64) (v1 : Int32) : mj_den mj_P E d 188 43 [Value.ref 205, Value.int v1] [] (mj_hw w c hi hl) = if v1 = 0 then mj_den mj_P E d 188 52 [Value.ref 205, Value.int v1] [Value.ref 205] (mj_hw w c hi hl) else mj_den mj_P E d 188 53 [Value.ref 205, Value.int v1] [Value.int (1 : Int32), Value.ref 205] (mj_hw w c hi hl) := by
  rw [mj_den_eq, f188_43]
  exact zt_aload_n rfl rfl (zt_iload_n rfl rfl (zt_if_eq rfl rfl (zt_iconst rfl (zt_goto rfl))))
set_option maxRecDepth 100000 in
theorem f188_52 : mj_find (mj_P 188).2.2.2.2 52 = [(.iconst 0, 1, 0, [])] := rfl
set_option maxRecDepth 100000 in
theorem q188_52 (E : mj_E) (d w c : Nat) (hi : Nat → Nat → Int32) (hl : Nat → Nat → Int64) (v1 : Int32) : mj_den mj_P E d 188 52 [Value.ref 205, Value.int v1] [Value.ref 205] (mj_hw w c hi hl) = mj_den mj_P E d 188 53 [Value.ref 205, Value.int v1] [Value.int (0 : Int32), Value.ref 205] (mj_hw w c hi hl) := by
  rw [mj_den_eq, f188_52]
  exact zt_iconst rfl (zt_end rfl)
set_option maxRecDepth 100000 in
theorem f188_53 : mj_find (mj_P 188).2.2.2.2 53 = [(.iload_n 1, 1, 0, []), (.ifCond .eq 13, 3, 0, [67]), (.aload_n 0, 1, 0, []), (.getfield 177, 3, 0, [12, 18, 0, 1428]), (.bipush 7, 2, 7, []), (.isub, 1, 0, []), (.goto 7, 3, 0, [71])] := rfl
set_option maxRecDepth 100000 in
theorem q188_53 (E : mj_E) (d w c : Nat) (hi : Nat → Nat → Int32) (hl : Nat → Nat → Int64) (v1 : Int32) (s0 : Int32) : mj_den mj_P E d 188 53 [Value.ref 205, Value.int v1] [Value.int s0, Value.ref 205] (mj_hw w c hi hl) = if v1 = 0 then mj_den mj_P E d 188 67 [Value.ref 205, Value.int v1] [Value.int s0, Value.ref 205] (mj_hw w c hi hl) else mj_den mj_P E d 188 71 [Value.ref 205, Value.int v1] [Value.int ((hi 205 18) - (7 : Int32)), Value.int s0, Value.ref 205] (mj_hw w c hi hl) := by
  rw [mj_den_eq, f188_53]
  exact zt_iload_n rfl rfl (zt_if_eq rfl rfl (zt_aload_n rfl rfl (zt_geti (mjkd205 _ _ _ _) rfl rfl (zt_bipush rfl (zt_isub rfl (zt_goto rfl))))))
set_option maxRecDepth 100000 in
theorem f188_67 : mj_find (mj_P 188).2.2.2.2 67 = [(.aload_n 0, 1, 0, []), (.getfield 177, 3, 0, [12, 18, 0, 1428])] := rfl
set_option maxRecDepth 100000 in
theorem q188_67 (E : mj_E) (d w c : Nat) (hi : Nat → Nat → Int32) (hl : Nat → Nat → Int64) (v1 : Int32) (s0 : Int32) : mj_den mj_P E d 188 67 [Value.ref 205, Value.int v1] [Value.int s0, Value.ref 205] (mj_hw w c hi hl) = mj_den mj_P E d 188 71 [Value.ref 205, Value.int v1] [Value.int (hi 205 18), Value.int s0, Value.ref 205] (mj_hw w c hi hl) := by
  rw [mj_den_eq, f188_67]
  exact zt_aload_n rfl rfl (zt_geti (mjkd205 _ _ _ _) rfl rfl (zt_end rfl))
set_option maxRecDepth 100000 in
theorem f188_71 : mj_find (mj_P 188).2.2.2.2 71 = [(.invokevirtual 208, 3, 0, [0, 186, 12, 2, 0, 1764, 1766, 72, 156, 1767])] := rfl
set_option maxRecDepth 100000 in
theorem q188_71 (E : mj_E) (d w c : Nat) (hi : Nat → Nat → Int32) (hl : Nat → Nat → Int64) (v1 : Int32) (s0 : Int32) (s1 : Int32) : mj_den mj_P E d 188 71 [Value.ref 205, Value.int v1] [Value.int s0, Value.int s1, Value.ref 205] (mj_hw w c hi hl) = mj_bv (mj_dc mj_P E d 186 [Value.ref 205, Value.int s1, Value.int s0] (mj_hw w c hi hl)) (fun h1 => mj_den mj_P E d 188 74 [Value.ref 205, Value.int v1] [] h1) := by
  rw [mj_den_eq, f188_71]
  exact zt_call0_0 rfl (mjkd205 _ _ _ _) (Nat.le_of_ble_eq_true rfl) rfl rfl
set_option maxRecDepth 100000 in
theorem f188_74 : mj_find (mj_P 188).2.2.2.2 74 = [(.aload_n 0, 1, 0, []), (.invokevirtual 212, 3, 0, [0, 182, 12, 0, 0, 1668, 1670, 48, 156, 1671])] := rfl
set_option maxRecDepth 100000 in
theorem q188_74 (E : mj_E) (d w c : Nat) (hi : Nat → Nat → Int32) (hl : Nat → Nat → Int64) (v1 : Int32) : mj_den mj_P E d 188 74 [Value.ref 205, Value.int v1] [] (mj_hw w c hi hl) = mj_bv (mj_dc mj_P E d 182 [Value.ref 205] (mj_hw w c hi hl)) (fun h1 => mj_den mj_P E d 188 78 [Value.ref 205, Value.int v1] [] h1) := by
  rw [mj_den_eq, f188_74]
  exact zt_aload_n rfl rfl (zt_call0_0 rfl (mjkd205 _ _ _ _) (Nat.le_of_ble_eq_true rfl) rfl rfl)
set_option maxRecDepth 100000 in
theorem f188_78 : mj_find (mj_P 188).2.2.2.2 78 = [(.iconst 0, 1, 0, []), (.ireturn, 1, 0, [0])] := rfl
set_option maxRecDepth 100000 in
theorem q188_78 (E : mj_E) (d w c : Nat) (hi : Nat → Nat → Int32) (hl : Nat → Nat → Int64) (v1 : Int32) : mj_den mj_P E d 188 78 [Value.ref 205, Value.int v1] [] (mj_hw w c hi hl) = some (some (Value.int (0 : Int32)), (mj_hw w c hi hl)) := by
  rw [mj_den_eq, f188_78]
  exact zt_iconst rfl (zt_ireturn0)
set_option maxRecDepth 100000 in
theorem f189_0 : mj_find (mj_P 189).2.2.2.2 0 = [(.aload_n 0, 1, 0, []), (.invokevirtual 215, 3, 0, [0, 188, 12, 0, 1, 1756, 1758, 70, 156, 1759])] := rfl
set_option maxRecDepth 100000 in
theorem q189_0 (E : mj_E) (d w c : Nat) (hi : Nat → Nat → Int32) (hl : Nat → Nat → Int64) : mj_den mj_P E d 189 0 [Value.ref 205, Value.float 0] [] (mj_hw w c hi hl) = mj_bi (mj_dc mj_P E d 188 [Value.ref 205] (mj_hw w c hi hl)) (fun x1 h1 => mj_den mj_P E d 189 4 [Value.ref 205, Value.float 0] [Value.int x1] h1) := by
  rw [mj_den_eq, f189_0]
  exact zt_aload_n rfl rfl (zt_call0_1 rfl (mjkd205 _ _ _ _) (Nat.le_of_ble_eq_true rfl) rfl rfl)
set_option maxRecDepth 100000 in
theorem f189_4 : mj_find (mj_P 189).2.2.2.2 4 = [(.iconst (-1), 1, (-1), []), (.if_icmp .ne 5, 3, 0, [10]), (.iconst (-1), 1, (-1), []), (.ireturn, 1, 0, [0])] := rfl
set_option maxRecDepth 100000 in
theorem q189_4 (E : mj_E) (d w c : Nat) (hi : Nat → Nat → Int32) (hl : Nat → Nat → Int64) (s0 : Int32) : mj_den mj_P E d 189 4 [Value.ref 205, Value.float 0] [Value.int s0] (mj_hw w c hi hl) = if ¬ s0 = (-1 : Int32) then mj_den mj_P E d 189 10 [Value.ref 205, Value.float 0] [] (mj_hw w c hi hl) else some (some (Value.int (-1 : Int32)), (mj_hw w c hi hl)) := by
  rw [mj_den_eq, f189_4]
  exact zt_iconst rfl (zt_icmp_ne rfl rfl (zt_iconst rfl (zt_ireturn0)))
set_option maxRecDepth 100000 in
theorem f189_10 : mj_find (mj_P 189).2.2.2.2 10 = [(.aload_n 0, 1, 0, []), (.bipush 42, 2, 42, []), (.invokevirtual 219, 3, 0, [0, 185, 12, 1, 1, 1720, 1722, 61, 156, 1723])] := rfl
set_option maxRecDepth 100000 in
theorem q189_10 (E : mj_E) (d w c : Nat) (hi : Nat → Nat → Int32) (hl : Nat → Nat → Int64) : mj_den mj_P E d 189 10 [Value.ref 205, Value.float 0] [] (mj_hw w c hi hl) = mj_bi (mj_dc mj_P E d 185 [Value.ref 205, Value.int (42 : Int32)] (mj_hw w c hi hl)) (fun x1 h1 => mj_den mj_P E d 189 16 [Value.ref 205, Value.float 0] [Value.int x1] h1) := by
  rw [mj_den_eq, f189_10]
  exact zt_aload_n rfl rfl (zt_bipush rfl (zt_call0_1 rfl (mjkd205 _ _ _ _) (Nat.le_of_ble_eq_true rfl) rfl rfl))
set_option maxRecDepth 100000 in
theorem q189_10_1 (E : mj_E) (d w c : Nat) (hi : Nat → Nat → Int32) (hl : Nat → Nat → Int64) (v1 : Int32) : mj_den mj_P E d 189 10 [Value.ref 205, Value.int v1] [] (mj_hw w c hi hl) = mj_bi (mj_dc mj_P E d 185 [Value.ref 205, Value.int (42 : Int32)] (mj_hw w c hi hl)) (fun x1 h1 => mj_den mj_P E d 189 16 [Value.ref 205, Value.int v1] [Value.int x1] h1) := by
  rw [mj_den_eq, f189_10]
  exact zt_aload_n rfl rfl (zt_bipush rfl (zt_call0_1 rfl (mjkd205 _ _ _ _) (Nat.le_of_ble_eq_true rfl) rfl rfl))
set_option maxRecDepth 100000 in
theorem f189_16 : mj_find (mj_P 189).2.2.2.2 16 = [(.ifCond .ne 12, 3, 0, [28]), (.aload_n 0, 1, 0, []), (.bipush 47, 2, 47, []), (.invokevirtual 219, 3, 0, [0, 185, 12, 1, 1, 1720, 1722, 61, 156, 1723])] := rfl
set_option maxRecDepth 100000 in
theorem q189_16 (E : mj_E) (d w c : Nat) (hi : Nat → Nat → Int32) (hl : Nat → Nat → Int64) (s0 : Int32) : mj_den mj_P E d 189 16 [Value.ref 205, Value.float 0] [Value.int s0] (mj_hw w c hi hl) = if ¬ s0 = 0 then mj_den mj_P E d 189 28 [Value.ref 205, Value.float 0] [] (mj_hw w c hi hl) else mj_bi (mj_dc mj_P E d 185 [Value.ref 205, Value.int (47 : Int32)] (mj_hw w c hi hl)) (fun x1 h1 => mj_den mj_P E d 189 25 [Value.ref 205, Value.float 0] [Value.int x1] h1) := by
  rw [mj_den_eq, f189_16]
  exact zt_if_ne rfl rfl (zt_aload_n rfl rfl (zt_bipush rfl (zt_call0_1 rfl (mjkd205 _ _ _ _) (Nat.le_of_ble_eq_true rfl) rfl rfl)))
set_option maxRecDepth 100000 in
theorem q189_16_1 (E : mj_E) (d w c : Nat) (hi : Nat → Nat → Int32) (hl : Nat → Nat → Int64) (v1 : Int32) (s0 : Int32) : mj_den mj_P E d 189 16 [Value.ref 205, Value.int v1] [Value.int s0] (mj_hw w c hi hl) = if ¬ s0 = 0 then mj_den mj_P E d 189 28 [Value.ref 205, Value.int v1] [] (mj_hw w c hi hl) else mj_bi (mj_dc mj_P E d 185 [Value.ref 205, Value.int (47 : Int32)] (mj_hw w c hi hl)) (fun x1 h1 => mj_den mj_P E d 189 25 [Value.ref 205, Value.int v1] [Value.int x1] h1) := by
  rw [mj_den_eq, f189_16]
  exact zt_if_ne rfl rfl (zt_aload_n rfl rfl (zt_bipush rfl (zt_call0_1 rfl (mjkd205 _ _ _ _) (Nat.le_of_ble_eq_true rfl) rfl rfl)))
set_option maxRecDepth 100000 in
theorem f189_25 : mj_find (mj_P 189).2.2.2.2 25 = [(.ifCond .eq 76, 3, 0, [101])] := rfl
set_option maxRecDepth 100000 in
theorem q189_25 (E : mj_E) (d w c : Nat) (hi : Nat → Nat → Int32) (hl : Nat → Nat → Int64) (s0 : Int32) : mj_den mj_P E d 189 25 [Value.ref 205, Value.float 0] [Value.int s0] (mj_hw w c hi hl) = if s0 = 0 then mj_den mj_P E d 189 101 [Value.ref 205, Value.float 0] [] (mj_hw w c hi hl) else mj_den mj_P E d 189 28 [Value.ref 205, Value.float 0] [] (mj_hw w c hi hl) := by
  rw [mj_den_eq, f189_25]
  exact zt_if_eq rfl rfl (zt_end rfl)
set_option maxRecDepth 100000 in
theorem q189_25_1 (E : mj_E) (d w c : Nat) (hi : Nat → Nat → Int32) (hl : Nat → Nat → Int64) (v1 : Int32) (s0 : Int32) : mj_den mj_P E d 189 25 [Value.ref 205, Value.int v1] [Value.int s0] (mj_hw w c hi hl) = if s0 = 0 then mj_den mj_P E d 189 101 [Value.ref 205, Value.int v1] [] (mj_hw w c hi hl) else mj_den mj_P E d 189 28 [Value.ref 205, Value.int v1] [] (mj_hw w c hi hl) := by
  rw [mj_den_eq, f189_25]
  exact zt_if_eq rfl rfl (zt_end rfl)
set_option maxRecDepth 100000 in
theorem f189_28 : mj_find (mj_P 189).2.2.2.2 28 = [(.aload_n 0, 1, 0, []), (.bipush 42, 2, 42, []), (.invokevirtual 219, 3, 0, [0, 185, 12, 1, 1, 1720, 1722, 61, 156, 1723])] := rfl
set_option maxRecDepth 100000 in
theorem q189_28 (E : mj_E) (d w c : Nat) (hi : Nat → Nat → Int32) (hl : Nat → Nat → Int64) : mj_den mj_P E d 189 28 [Value.ref 205, Value.float 0] [] (mj_hw w c hi hl) = mj_bi (mj_dc mj_P E d 185 [Value.ref 205, Value.int (42 : Int32)] (mj_hw w c hi hl)) (fun x1 h1 => mj_den mj_P E d 189 34 [Value.ref 205, Value.float 0] [Value.int x1] h1) := by
  rw [mj_den_eq, f189_28]
  exact zt_aload_n rfl rfl (zt_bipush rfl (zt_call0_1 rfl (mjkd205 _ _ _ _) (Nat.le_of_ble_eq_true rfl) rfl rfl))
set_option maxRecDepth 100000 in
theorem q189_28_1 (E : mj_E) (d w c : Nat) (hi : Nat → Nat → Int32) (hl : Nat → Nat → Int64) (v1 : Int32) : mj_den mj_P E d 189 28 [Value.ref 205, Value.int v1] [] (mj_hw w c hi hl) = mj_bi (mj_dc mj_P E d 185 [Value.ref 205, Value.int (42 : Int32)] (mj_hw w c hi hl)) (fun x1 h1 => mj_den mj_P E d 189 34 [Value.ref 205, Value.int v1] [Value.int x1] h1) := by
  rw [mj_den_eq, f189_28]
  exact zt_aload_n rfl rfl (zt_bipush rfl (zt_call0_1 rfl (mjkd205 _ _ _ _) (Nat.le_of_ble_eq_true rfl) rfl rfl))
set_option maxRecDepth 100000 in
theorem f189_34 : mj_find (mj_P 189).2.2.2.2 34 = [(.istore_n 1, 1, 0, []), (.aload_n 0, 1, 0, []), (.invokevirtual 212, 3, 0, [0, 182, 12, 0, 0, 1668, 1670, 48, 156, 1671])] := rfl
set_option maxRecDepth 100000 in
theorem q189_34 (E : mj_E) (d w c : Nat) (hi : Nat → Nat → Int32) (hl : Nat → Nat → Int64) (s0 : Int32) : mj_den mj_P E d 189 34 [Value.ref 205, Value.float 0] [Value.int s0] (mj_hw w c hi hl) = mj_bv (mj_dc mj_P E d 182 [Value.ref 205] (mj_hw w c hi hl)) (fun h1 => mj_den mj_P E d 189 39 [Value.ref 205, Value.int s0] [] h1) := by
  rw [mj_den_eq, f189_34]
  exact zt_istore_n (Nat.le_of_ble_eq_true rfl) rfl rfl (zt_aload_n rfl rfl (zt_call0_0 rfl (mjkd205 _ _ _ _) (Nat.le_of_ble_eq_true rfl) rfl rfl))
set_option maxRecDepth 100000 in
theorem q189_34_1 (E : mj_E) (d w c : Nat) (hi : Nat → Nat → Int32) (hl : Nat → Nat → Int64) (v1 : Int32) (s0 : Int32) : mj_den mj_P E d 189 34 [Value.ref 205, Value.int v1] [Value.int s0] (mj_hw w c hi hl) = mj_bv (mj_dc mj_P E d 182 [Value.ref 205] (mj_hw w c hi hl)) (fun h1 => mj_den mj_P E d 189 39 [Value.ref 205, Value.int s0] [] h1) := by
  rw [mj_den_eq, f189_34]
  exact zt_istore_n (Nat.le_of_ble_eq_true rfl) rfl rfl (zt_aload_n rfl rfl (zt_call0_0 rfl (mjkd205 _ _ _ _) (Nat.le_of_ble_eq_true rfl) rfl rfl))
set_option maxRecDepth 100000 in
theorem f189_39 : mj_find (mj_P 189).2.2.2.2 39 = [(.iload_n 1, 1, 0, []), (.ifCond .ne 17, 3, 0, [57]), (.aload_n 0, 1, 0, []), (.getfield 174, 3, 0, [12, 17, 0, 1427]), (.iconst 3, 1, 3, []), (.if_icmp .eq 9, 3, 0, [57]), (.aload_n 0, 1, 0, []), (.iconst 1, 1, 1, []), (.invokevirtual 205, 3, 0, [0, 183, 12, 1, 1, 1700, 1702, 56, 156, 1703])] := rfl
set_option maxRecDepth 100000 in
theorem q189_39 (E : mj_E) (d w c : Nat) (hi : Nat → Nat → Int32) (hl : Nat → Nat → Int64) (v1 : Int32) : mj_den mj_P E d 189 39 [Value.ref 205, Value.int v1] [] (mj_hw w c hi hl) = if ¬ v1 = 0 then mj_den mj_P E d 189 57 [Value.ref 205, Value.int v1] [] (mj_hw w c hi hl) else if (hi 205 17) = (3 : Int32) then mj_den mj_P E d 189 57 [Value.ref 205, Value.int v1] [] (mj_hw w c hi hl) else mj_bi (mj_dc mj_P E d 183 [Value.ref 205, Value.int (1 : Int32)] (mj_hw w c hi hl)) (fun x1 h1 => mj_den mj_P E d 189 56 [Value.ref 205, Value.int v1] [Value.int x1] h1) := by
  rw [mj_den_eq, f189_39]
  exact zt_iload_n rfl rfl (zt_if_ne rfl rfl (zt_aload_n rfl rfl (zt_geti (mjkd205 _ _ _ _) rfl rfl (zt_iconst rfl (zt_icmp_eq rfl rfl (zt_aload_n rfl rfl (zt_iconst rfl (zt_call0_1 rfl (mjkd205 _ _ _ _) (Nat.le_of_ble_eq_true rfl) rfl rfl))))))))
set_option maxRecDepth 100000 in
theorem f189_56 : mj_find (mj_P 189).2.2.2.2 56 = [(.ireturn, 1, 0, [0])] := rfl
set_option maxRecDepth 100000 in
theorem q189_56 (E : mj_E) (d w c : Nat) (hi : Nat → Nat → Int32) (hl : Nat → Nat → Int64) (v1 : Int32) (s0 : Int32) : mj_den mj_P E d 189 56 [Value.ref 205, Value.int v1] [Value.int s0] (mj_hw w c hi hl) = some (some (Value.int s0), (mj_hw w c hi hl)) := by
  rw [mj_den_eq, f189_56]
  exact zt_ireturn0
set_option maxRecDepth 100000 in
theorem f189_57 : mj_find (mj_P 189).2.2.2.2 57 = [(.iload_n 1, 1, 0, []), (.ifCond .ne 16, 3, 0, [74]), (.aload_n 0, 1, 0, []), (.getfield 177, 3, 0, [12, 18, 0, 1428]), (.ifCond .ne 9, 3, 0, [74]), (.aload_n 0, 1, 0, []), (.iconst 2, 1, 2, []), (.invokevirtual 205, 3, 0, [0, 183, 12, 1, 1, 1700, 1702, 56, 156, 1703])] := rfl
set_option maxRecDepth 100000 in
theorem q189_57 (E : mj_E) (d w c : Nat) (hi : Nat → Nat → Int32) (hl : Nat → Nat → Int64) (v1 : Int32) : mj_den mj_P E d 189 57 [Value.ref 205, Value.int v1] [] (mj_hw w c hi hl) = if ¬ v1 = 0 then mj_den mj_P E d 189 74 [Value.ref 205, Value.int v1] [] (mj_hw w c hi hl) else if ¬ (hi 205 18) = 0 then mj_den mj_P E d 189 74 [Value.ref 205, Value.int v1] [] (mj_hw w c hi hl) else mj_bi (mj_dc mj_P E d 183 [Value.ref 205, Value.int (2 : Int32)] (mj_hw w c hi hl)) (fun x1 h1 => mj_den mj_P E d 189 73 [Value.ref 205, Value.int v1] [Value.int x1] h1) := by
  rw [mj_den_eq, f189_57]
  exact zt_iload_n rfl rfl (zt_if_ne rfl rfl (zt_aload_n rfl rfl (zt_geti (mjkd205 _ _ _ _) rfl rfl (zt_if_ne rfl rfl (zt_aload_n rfl rfl (zt_iconst rfl (zt_call0_1 rfl (mjkd205 _ _ _ _) (Nat.le_of_ble_eq_true rfl) rfl rfl)))))))
set_option maxRecDepth 100000 in
theorem f189_73 : mj_find (mj_P 189).2.2.2.2 73 = [(.ireturn, 1, 0, [0])] := rfl
set_option maxRecDepth 100000 in
theorem q189_73 (E : mj_E) (d w c : Nat) (hi : Nat → Nat → Int32) (hl : Nat → Nat → Int64) (v1 : Int32) (s0 : Int32) : mj_den mj_P E d 189 73 [Value.ref 205, Value.int v1] [Value.int s0] (mj_hw w c hi hl) = some (some (Value.int s0), (mj_hw w c hi hl)) := by
  rw [mj_den_eq, f189_73]
  exact zt_ireturn0
set_option maxRecDepth 100000 in
theorem f189_74 : mj_find (mj_P 189).2.2.2.2 74 = [(.aload_n 0, 1, 0, []), (.invokevirtual 215, 3, 0, [0, 188, 12, 0, 1, 1756, 1758, 70, 156, 1759])] := rfl
set_option maxRecDepth 100000 in
theorem q189_74 (E : mj_E) (d w c : Nat) (hi : Nat → Nat → Int32) (hl : Nat → Nat → Int64) (v1 : Int32) : mj_den mj_P E d 189 74 [Value.ref 205, Value.int v1] [] (mj_hw w c hi hl) = mj_bi (mj_dc mj_P E d 188 [Value.ref 205] (mj_hw w c hi hl)) (fun x1 h1 => mj_den mj_P E d 189 78 [Value.ref 205, Value.int v1] [Value.int x1] h1) := by
  rw [mj_den_eq, f189_74]
  exact zt_aload_n rfl rfl (zt_call0_1 rfl (mjkd205 _ _ _ _) (Nat.le_of_ble_eq_true rfl) rfl rfl)
set_option maxRecDepth 100000 in
theorem f189_78 : mj_find (mj_P 189).2.2.2.2 78 = [(.iconst (-1), 1, (-1), []), (.if_icmp .ne 5, 3, 0, [84]), (.iconst (-1), 1, (-1), []), (.ireturn, 1, 0, [0])] := rfl
set_option maxRecDepth 100000 in
theorem q189_78 (E : mj_E) (d w c : Nat) (hi : Nat → Nat → Int32) (hl : Nat → Nat → Int64) (v1 : Int32) (s0 : Int32) : mj_den mj_P E d 189 78 [Value.ref 205, Value.int v1] [Value.int s0] (mj_hw w c hi hl) = if ¬ s0 = (-1 : Int32) then mj_den mj_P E d 189 84 [Value.ref 205, Value.int v1] [] (mj_hw w c hi hl) else some (some (Value.int (-1 : Int32)), (mj_hw w c hi hl)) := by
  rw [mj_den_eq, f189_78]
  exact zt_iconst rfl (zt_icmp_ne rfl rfl (zt_iconst rfl (zt_ireturn0)))
set_option maxRecDepth 100000 in
theorem f189_84 : mj_find (mj_P 189).2.2.2.2 84 = [(.aload_n 0, 1, 0, []), (.iload_n 1, 1, 0, []), (.ifCond .eq 7, 3, 0, [93]), (.iconst 4, 1, 4, []), (.goto 4, 3, 0, [94])] := rfl
set_option maxRecDepth 100000 in
theorem q189_84 (E : mj_E) (d w c : Nat) (hi : Nat → Nat → Int32) (hl : Nat → Nat → Int64) (v1 : Int32) : mj_den mj_P E d 189 84 [Value.ref 205, Value.int v1] [] (mj_hw w c hi hl) = if v1 = 0 then mj_den mj_P E d 189 93 [Value.ref 205, Value.int v1] [Value.ref 205] (mj_hw w c hi hl) else mj_den mj_P E d 189 94 [Value.ref 205, Value.int v1] [Value.int (4 : Int32), Value.ref 205] (mj_hw w c hi hl) := by
  rw [mj_den_eq, f189_84]
  exact zt_aload_n rfl rfl (zt_iload_n rfl rfl (zt_if_eq rfl rfl (zt_iconst rfl (zt_goto rfl))))
set_option maxRecDepth 100000 in
theorem f189_93 : mj_find (mj_P 189).2.2.2.2 93 = [(.iconst 5, 1, 5, [])] := rfl
set_option maxRecDepth 100000 in
theorem q189_93 (E : mj_E) (d w c : Nat) (hi : Nat → Nat → Int32) (hl : Nat → Nat → Int64) (v1 : Int32) : mj_den mj_P E d 189 93 [Value.ref 205, Value.int v1] [Value.ref 205] (mj_hw w c hi hl) = mj_den mj_P E d 189 94 [Value.ref 205, Value.int v1] [Value.int (5 : Int32), Value.ref 205] (mj_hw w c hi hl) := by
  rw [mj_den_eq, f189_93]
  exact zt_iconst rfl (zt_end rfl)
set_option maxRecDepth 100000 in
theorem f189_94 : mj_find (mj_P 189).2.2.2.2 94 = [(.iconst 0, 1, 0, []), (.invokevirtual 208, 3, 0, [0, 186, 12, 2, 0, 1764, 1766, 72, 156, 1767])] := rfl
set_option maxRecDepth 100000 in
theorem q189_94 (E : mj_E) (d w c : Nat) (hi : Nat → Nat → Int32) (hl : Nat → Nat → Int64) (v1 : Int32) (s0 : Int32) : mj_den mj_P E d 189 94 [Value.ref 205, Value.int v1] [Value.int s0, Value.ref 205] (mj_hw w c hi hl) = mj_bv (mj_dc mj_P E d 186 [Value.ref 205, Value.int s0, Value.int (0 : Int32)] (mj_hw w c hi hl)) (fun h1 => mj_den mj_P E d 189 98 [Value.ref 205, Value.int v1] [] h1) := by
  rw [mj_den_eq, f189_94]
  exact zt_iconst rfl (zt_call0_0 rfl (mjkd205 _ _ _ _) (Nat.le_of_ble_eq_true rfl) rfl rfl)
set_option maxRecDepth 100000 in
theorem f189_98 : mj_find (mj_P 189).2.2.2.2 98 = [(.goto (-88), 3, 0, [10])] := rfl
set_option maxRecDepth 100000 in
theorem q189_98 (E : mj_E) (d w c : Nat) (hi : Nat → Nat → Int32) (hl : Nat → Nat → Int64) (v1 : Int32) : mj_den mj_P E d 189 98 [Value.ref 205, Value.int v1] [] (mj_hw w c hi hl) = mj_den mj_P E d 189 10 [Value.ref 205, Value.int v1] [] (mj_hw w c hi hl) := by
  rw [mj_den_eq, f189_98]
  exact zt_goto rfl
set_option maxRecDepth 100000 in
theorem f189_101 : mj_find (mj_P 189).2.2.2.2 101 = [(.iconst 0, 1, 0, []), (.ireturn, 1, 0, [0])] := rfl
set_option maxRecDepth 100000 in
theorem q189_101 (E : mj_E) (d w c : Nat) (hi : Nat → Nat → Int32) (hl : Nat → Nat → Int64) (v1 : Int32) : mj_den mj_P E d 189 101 [Value.ref 205, Value.int v1] [] (mj_hw w c hi hl) = some (some (Value.int (0 : Int32)), (mj_hw w c hi hl)) := by
  rw [mj_den_eq, f189_101]
  exact zt_iconst rfl (zt_ireturn0)
set_option maxRecDepth 100000 in
theorem q189_101_1 (E : mj_E) (d w c : Nat) (hi : Nat → Nat → Int32) (hl : Nat → Nat → Int64) : mj_den mj_P E d 189 101 [Value.ref 205, Value.float 0] [] (mj_hw w c hi hl) = some (some (Value.int (0 : Int32)), (mj_hw w c hi hl)) := by
  rw [mj_den_eq, f189_101]
  exact zt_iconst rfl (zt_ireturn0)
set_option maxRecDepth 100000 in
theorem f190_0 : mj_find (mj_P 190).2.2.2.2 0 = [(.aload_n 0, 1, 0, []), (.invokevirtual 222, 3, 0, [0, 189, 12, 0, 1, 1752, 1754, 69, 156, 1755])] := rfl
set_option maxRecDepth 100000 in
theorem q190_0 (E : mj_E) (d w c : Nat) (hi : Nat → Nat → Int32) (hl : Nat → Nat → Int64) : mj_den mj_P E d 190 0 [Value.ref 205, Value.float 0] [] (mj_hw w c hi hl) = mj_bi (mj_dc mj_P E d 189 [Value.ref 205] (mj_hw w c hi hl)) (fun x1 h1 => mj_den mj_P E d 190 4 [Value.ref 205, Value.float 0] [Value.int x1] h1) := by
  rw [mj_den_eq, f190_0]
  exact zt_aload_n rfl rfl (zt_call0_1 rfl (mjkd205 _ _ _ _) (Nat.le_of_ble_eq_true rfl) rfl rfl)
set_option maxRecDepth 100000 in
theorem f190_4 : mj_find (mj_P 190).2.2.2.2 4 = [(.iconst (-1), 1, (-1), []), (.if_icmp .ne 5, 3, 0, [10]), (.iconst (-1), 1, (-1), []), (.ireturn, 1, 0, [0])] := rfl
set_option maxRecDepth 100000 in
theorem q190_4 (E : mj_E) (d w c : Nat) (hi : Nat → Nat → Int32) (hl : Nat → Nat → Int64) (s0 : Int32) : mj_den mj_P E d 190 4 [Value.ref 205, Value.float 0] [Value.int s0] (mj_hw w c hi hl) = if ¬ s0 = (-1 : Int32) then mj_den mj_P E d 190 10 [Value.ref 205, Value.float 0] [] (mj_hw w c hi hl) else some (some (Value.int (-1 : Int32)), (mj_hw w c hi hl)) := by
  rw [mj_den_eq, f190_4]
  exact zt_iconst rfl (zt_icmp_ne rfl rfl (zt_iconst rfl (zt_ireturn0)))
set_option maxRecDepth 100000 in
theorem f190_10 : mj_find (mj_P 190).2.2.2.2 10 = [(.aload_n 0, 1, 0, []), (.bipush 43, 2, 43, []), (.invokevirtual 219, 3, 0, [0, 185, 12, 1, 1, 1720, 1722, 61, 156, 1723])] := rfl
set_option maxRecDepth 100000 in
theorem q190_10 (E : mj_E) (d w c : Nat) (hi : Nat → Nat → Int32) (hl : Nat → Nat → Int64) : mj_den mj_P E d 190 10 [Value.ref 205, Value.float 0] [] (mj_hw w c hi hl) = mj_bi (mj_dc mj_P E d 185 [Value.ref 205, Value.int (43 : Int32)] (mj_hw w c hi hl)) (fun x1 h1 => mj_den mj_P E d 190 16 [Value.ref 205, Value.float 0] [Value.int x1] h1) := by
  rw [mj_den_eq, f190_10]
  exact zt_aload_n rfl rfl (zt_bipush rfl (zt_call0_1 rfl (mjkd205 _ _ _ _) (Nat.le_of_ble_eq_true rfl) rfl rfl))
set_option maxRecDepth 100000 in
theorem q190_10_1 (E : mj_E) (d w c : Nat) (hi : Nat → Nat → Int32) (hl : Nat → Nat → Int64) (v1 : Int32) : mj_den mj_P E d 190 10 [Value.ref 205, Value.int v1] [] (mj_hw w c hi hl) = mj_bi (mj_dc mj_P E d 185 [Value.ref 205, Value.int (43 : Int32)] (mj_hw w c hi hl)) (fun x1 h1 => mj_den mj_P E d 190 16 [Value.ref 205, Value.int v1] [Value.int x1] h1) := by
  rw [mj_den_eq, f190_10]
  exact zt_aload_n rfl rfl (zt_bipush rfl (zt_call0_1 rfl (mjkd205 _ _ _ _) (Nat.le_of_ble_eq_true rfl) rfl rfl))
set_option maxRecDepth 100000 in
theorem f190_16 : mj_find (mj_P 190).2.2.2.2 16 = [(.ifCond .ne 12, 3, 0, [28]), (.aload_n 0, 1, 0, []), (.bipush 45, 2, 45, []), (.invokevirtual 219, 3, 0, [0, 185, 12, 1, 1, 1720, 1722, 61, 156, 1723])] := rfl
set_option maxRecDepth 100000 in
theorem q190_16 (E : mj_E) (d w c : Nat) (hi : Nat → Nat → Int32) (hl : Nat → Nat → Int64) (s0 : Int32) : mj_den mj_P E d 190 16 [Value.ref 205, Value.float 0] [Value.int s0] (mj_hw w c hi hl) = if ¬ s0 = 0 then mj_den mj_P E d 190 28 [Value.ref 205, Value.float 0] [] (mj_hw w c hi hl) else mj_bi (mj_dc mj_P E d 185 [Value.ref 205, Value.int (45 : Int32)] (mj_hw w c hi hl)) (fun x1 h1 => mj_den mj_P E d 190 25 [Value.ref 205, Value.float 0] [Value.int x1] h1) := by
  rw [mj_den_eq, f190_16]
  exact zt_if_ne rfl rfl (zt_aload_n rfl rfl (zt_bipush rfl (zt_call0_1 rfl (mjkd205 _ _ _ _) (Nat.le_of_ble_eq_true rfl) rfl rfl)))
set_option maxRecDepth 100000 in
theorem q190_16_1 (E : mj_E) (d w c : Nat) (hi : Nat → Nat → Int32) (hl : Nat → Nat → Int64) (v1 : Int32) (s0 : Int32) : mj_den mj_P E d 190 16 [Value.ref 205, Value.int v1] [Value.int s0] (mj_hw w c hi hl) = if ¬ s0 = 0 then mj_den mj_P E d 190 28 [Value.ref 205, Value.int v1] [] (mj_hw w c hi hl) else mj_bi (mj_dc mj_P E d 185 [Value.ref 205, Value.int (45 : Int32)] (mj_hw w c hi hl)) (fun x1 h1 => mj_den mj_P E d 190 25 [Value.ref 205, Value.int v1] [Value.int x1] h1) := by
  rw [mj_den_eq, f190_16]
  exact zt_if_ne rfl rfl (zt_aload_n rfl rfl (zt_bipush rfl (zt_call0_1 rfl (mjkd205 _ _ _ _) (Nat.le_of_ble_eq_true rfl) rfl rfl)))
set_option maxRecDepth 100000 in
theorem f190_25 : mj_find (mj_P 190).2.2.2.2 25 = [(.ifCond .eq 41, 3, 0, [66])] := rfl
set_option maxRecDepth 100000 in
theorem q190_25 (E : mj_E) (d w c : Nat) (hi : Nat → Nat → Int32) (hl : Nat → Nat → Int64) (s0 : Int32) : mj_den mj_P E d 190 25 [Value.ref 205, Value.float 0] [Value.int s0] (mj_hw w c hi hl) = if s0 = 0 then mj_den mj_P E d 190 66 [Value.ref 205, Value.float 0] [] (mj_hw w c hi hl) else mj_den mj_P E d 190 28 [Value.ref 205, Value.float 0] [] (mj_hw w c hi hl) := by
  rw [mj_den_eq, f190_25]
  exact zt_if_eq rfl rfl (zt_end rfl)
set_option maxRecDepth 100000 in
theorem q190_25_1 (E : mj_E) (d w c : Nat) (hi : Nat → Nat → Int32) (hl : Nat → Nat → Int64) (v1 : Int32) (s0 : Int32) : mj_den mj_P E d 190 25 [Value.ref 205, Value.int v1] [Value.int s0] (mj_hw w c hi hl) = if s0 = 0 then mj_den mj_P E d 190 66 [Value.ref 205, Value.int v1] [] (mj_hw w c hi hl) else mj_den mj_P E d 190 28 [Value.ref 205, Value.int v1] [] (mj_hw w c hi hl) := by
  rw [mj_den_eq, f190_25]
  exact zt_if_eq rfl rfl (zt_end rfl)
set_option maxRecDepth 100000 in
theorem f190_28 : mj_find (mj_P 190).2.2.2.2 28 = [(.aload_n 0, 1, 0, []), (.getfield 177, 3, 0, [12, 18, 0, 1428]), (.bipush 43, 2, 43, []), (.if_icmp .ne 7, 3, 0, [41]), (.iconst 2, 1, 2, []), (.goto 4, 3, 0, [42])] := rfl
set_option maxRecDepth 100000 in
theorem q190_28 (E : mj_E) (d w c : Nat) (hi : Nat → Nat → Int32) (hl : Nat → Nat → Int64) : mj_den mj_P E d 190 28 [Value.ref 205, Value.float 0] [] (mj_hw w c hi hl) = if ¬ (hi 205 18) = (43 : Int32) then mj_den mj_P E d 190 41 [Value.ref 205, Value.float 0] [] (mj_hw w c hi hl) else mj_den mj_P E d 190 42 [Value.ref 205, Value.float 0] [Value.int (2 : Int32)] (mj_hw w c hi hl) := by
  rw [mj_den_eq, f190_28]
  exact zt_aload_n rfl rfl (zt_geti (mjkd205 _ _ _ _) rfl rfl (zt_bipush rfl (zt_icmp_ne rfl rfl (zt_iconst rfl (zt_goto rfl)))))
set_option maxRecDepth 100000 in
theorem q190_28_1 (E : mj_E) (d w c : Nat) (hi : Nat → Nat → Int32) (hl : Nat → Nat → Int64) (v1 : Int32) : mj_den mj_P E d 190 28 [Value.ref 205, Value.int v1] [] (mj_hw w c hi hl) = if ¬ (hi 205 18) = (43 : Int32) then mj_den mj_P E d 190 41 [Value.ref 205, Value.int v1] [] (mj_hw w c hi hl) else mj_den mj_P E d 190 42 [Value.ref 205, Value.int v1] [Value.int (2 : Int32)] (mj_hw w c hi hl) := by
  rw [mj_den_eq, f190_28]
  exact zt_aload_n rfl rfl (zt_geti (mjkd205 _ _ _ _) rfl rfl (zt_bipush rfl (zt_icmp_ne rfl rfl (zt_iconst rfl (zt_goto rfl)))))
set_option maxRecDepth 100000 in
theorem f190_41 : mj_find (mj_P 190).2.2.2.2 41 = [(.iconst 3, 1, 3, [])] := rfl
set_option maxRecDepth 100000 in
theorem q190_41 (E : mj_E) (d w c : Nat) (hi : Nat → Nat → Int32) (hl : Nat → Nat → Int64) (v1 : Int32) : mj_den mj_P E d 190 41 [Value.ref 205, Value.int v1] [] (mj_hw w c hi hl) = mj_den mj_P E d 190 42 [Value.ref 205, Value.int v1] [Value.int (3 : Int32)] (mj_hw w c hi hl) := by
  rw [mj_den_eq, f190_41]
  exact zt_iconst rfl (zt_end rfl)
set_option maxRecDepth 100000 in
theorem q190_41_1 (E : mj_E) (d w c : Nat) (hi : Nat → Nat → Int32) (hl : Nat → Nat → Int64) : mj_den mj_P E d 190 41 [Value.ref 205, Value.float 0] [] (mj_hw w c hi hl) = mj_den mj_P E d 190 42 [Value.ref 205, Value.float 0] [Value.int (3 : Int32)] (mj_hw w c hi hl) := by
  rw [mj_den_eq, f190_41]
  exact zt_iconst rfl (zt_end rfl)
set_option maxRecDepth 100000 in
theorem f190_42 : mj_find (mj_P 190).2.2.2.2 42 = [(.istore_n 1, 1, 0, []), (.aload_n 0, 1, 0, []), (.invokevirtual 212, 3, 0, [0, 182, 12, 0, 0, 1668, 1670, 48, 156, 1671])] := rfl
set_option maxRecDepth 100000 in
theorem q190_42 (E : mj_E) (d w c : Nat) (hi : Nat → Nat → Int32) (hl : Nat → Nat → Int64) (s0 : Int32) : mj_den mj_P E d 190 42 [Value.ref 205, Value.float 0] [Value.int s0] (mj_hw w c hi hl) = mj_bv (mj_dc mj_P E d 182 [Value.ref 205] (mj_hw w c hi hl)) (fun h1 => mj_den mj_P E d 190 47 [Value.ref 205, Value.int s0] [] h1) := by
  rw [mj_den_eq, f190_42]
  exact zt_istore_n (Nat.le_of_ble_eq_true rfl) rfl rfl (zt_aload_n rfl rfl (zt_call0_0 rfl (mjkd205 _ _ _ _) (Nat.le_of_ble_eq_true rfl) rfl rfl))
set_option maxRecDepth 100000 in
theorem q190_42_1 (E : mj_E) (d w c : Nat) (hi : Nat → Nat → Int32) (hl : Nat → Nat → Int64) (v1 : Int32) (s0 : Int32) : mj_den mj_P E d 190 42 [Value.ref 205, Value.int v1] [Value.int s0] (mj_hw w c hi hl) = mj_bv (mj_dc mj_P E d 182 [Value.ref 205] (mj_hw w c hi hl)) (fun h1 => mj_den mj_P E d 190 47 [Value.ref 205, Value.int s0] [] h1) := by
  rw [mj_den_eq, f190_42]
  exact zt_istore_n (Nat.le_of_ble_eq_true rfl) rfl rfl (zt_aload_n rfl rfl (zt_call0_0 rfl (mjkd205 _ _ _ _) (Nat.le_of_ble_eq_true rfl) rfl rfl))
set_option maxRecDepth 100000 in
theorem f190_47 : mj_find (mj_P 190).2.2.2.2 47 = [(.aload_n 0, 1, 0, []), (.invokevirtual 222, 3, 0, [0, 189, 12, 0, 1, 1752, 1754, 69, 156, 1755])] := rfl
set_option maxRecDepth 100000 in
theorem q190_47 (E : mj_E) (d w c : Nat) (hi : Nat → Nat → Int32) (hl : Nat → Nat → Int64) (v1 : Int32) : mj_den mj_P E d 190 47 [Value.ref 205, Value.int v1] [] (mj_hw w c hi hl) = mj_bi (mj_dc mj_P E d 189 [Value.ref 205] (mj_hw w c hi hl)) (fun x1 h1 => mj_den mj_P E d 190 51 [Value.ref 205, Value.int v1] [Value.int x1] h1) := by
  rw [mj_den_eq, f190_47]
  exact zt_aload_n rfl rfl (zt_call0_1 rfl (mjkd205 _ _ _ _) (Nat.le_of_ble_eq_true rfl) rfl rfl)
set_option maxRecDepth 100000 in
theorem f190_51 : mj_find (mj_P 190).2.2.2.2 51 = [(.iconst (-1), 1, (-1), []), (.if_icmp .ne 5, 3, 0, [57]), (.iconst (-1), 1, (-1), []), (.ireturn, 1, 0, [0])] := rfl
set_option maxRecDepth 100000 in
theorem q190_51 (E : mj_E) (d w c : Nat) (hi : Nat → Nat → Int32) (hl : Nat → Nat → Int64) (v1 : Int32) (s0 : Int32) : mj_den mj_P E d 190 51 [Value.ref 205, Value.int v1] [Value.int s0] (mj_hw w c hi hl) = if ¬ s0 = (-1 : Int32) then mj_den mj_P E d 190 57 [Value.ref 205, Value.int v1] [] (mj_hw w c hi hl) else some (some (Value.int (-1 : Int32)), (mj_hw w c hi hl)) := by
  rw [mj_den_eq, f190_51]
  exact zt_iconst rfl (zt_icmp_ne rfl rfl (zt_iconst rfl (zt_ireturn0)))
set_option maxRecDepth 100000 in
theorem f190_57 : mj_find (mj_P 190).2.2.2.2 57 = [(.aload_n 0, 1, 0, []), (.iload_n 1, 1, 0, []), (.iconst 0, 1, 0, []), (.invokevirtual 208, 3, 0, [0, 186, 12, 2, 0, 1764, 1766, 72, 156, 1767])] := rfl
set_option maxRecDepth 100000 in
theorem q190_57 (E : mj_E) (d w c : Nat) (hi : Nat → Nat → Int32) (hl : Nat → Nat → Int64) (v1 : Int32) : mj_den mj_P E d 190 57 [Value.ref 205, Value.int v1] [] (mj_hw w c hi hl) = mj_bv (mj_dc mj_P E d 186 [Value.ref 205, Value.int v1, Value.int (0 : Int32)] (mj_hw w c hi hl)) (fun h1 => mj_den mj_P E d 190 63 [Value.ref 205, Value.int v1] [] h1) := by
  rw [mj_den_eq, f190_57]
  exact zt_aload_n rfl rfl (zt_iload_n rfl rfl (zt_iconst rfl (zt_call0_0 rfl (mjkd205 _ _ _ _) (Nat.le_of_ble_eq_true rfl) rfl rfl)))
set_option maxRecDepth 100000 in
theorem f190_63 : mj_find (mj_P 190).2.2.2.2 63 = [(.goto (-53), 3, 0, [10])] := rfl
set_option maxRecDepth 100000 in
theorem q190_63 (E : mj_E) (d w c : Nat) (hi : Nat → Nat → Int32) (hl : Nat → Nat → Int64) (v1 : Int32) : mj_den mj_P E d 190 63 [Value.ref 205, Value.int v1] [] (mj_hw w c hi hl) = mj_den mj_P E d 190 10 [Value.ref 205, Value.int v1] [] (mj_hw w c hi hl) := by
  rw [mj_den_eq, f190_63]
  exact zt_goto rfl
set_option maxRecDepth 100000 in
theorem f190_66 : mj_find (mj_P 190).2.2.2.2 66 = [(.iconst 0, 1, 0, []), (.ireturn, 1, 0, [0])] := rfl
set_option maxRecDepth 100000 in
theorem q190_66 (E : mj_E) (d w c : Nat) (hi : Nat → Nat → Int32) (hl : Nat → Nat → Int64) (v1 : Int32) : mj_den mj_P E d 190 66 [Value.ref 205, Value.int v1] [] (mj_hw w c hi hl) = some (some (Value.int (0 : Int32)), (mj_hw w c hi hl)) := by
  rw [mj_den_eq, f190_66]
  exact zt_iconst rfl (zt_ireturn0)
set_option maxRecDepth 100000 in
theorem q190_66_1 (E : mj_E) (d w c : Nat) (hi : Nat → Nat → Int32) (hl : Nat → Nat → Int64) : mj_den mj_P E d 190 66 [Value.ref 205, Value.float 0] [] (mj_hw w c hi hl) = some (some (Value.int (0 : Int32)), (mj_hw w c hi hl)) := by
  rw [mj_den_eq, f190_66]
  exact zt_iconst rfl (zt_ireturn0)
set_option maxRecDepth 100000 in
theorem f191_0 : mj_find (mj_P 191).2.2.2.2 0 = [(.aload_n 0, 1, 0, []), (.invokevirtual 225, 3, 0, [0, 190, 12, 0, 1, 1748, 1750, 68, 156, 1751])] := rfl
set_option maxRecDepth 100000 in
theorem q191_0 (E : mj_E) (d w c : Nat) (hi : Nat → Nat → Int32) (hl : Nat → Nat → Int64) : mj_den mj_P E d 191 0 [Value.ref 205, Value.float 0] [] (mj_hw w c hi hl) = mj_bi (mj_dc mj_P E d 190 [Value.ref 205] (mj_hw w c hi hl)) (fun x1 h1 => mj_den mj_P E d 191 4 [Value.ref 205, Value.float 0] [Value.int x1] h1) := by
  rw [mj_den_eq, f191_0]
  exact zt_aload_n rfl rfl (zt_call0_1 rfl (mjkd205 _ _ _ _) (Nat.le_of_ble_eq_true rfl) rfl rfl)
set_option maxRecDepth 100000 in
theorem f191_4 : mj_find (mj_P 191).2.2.2.2 4 = [(.iconst (-1), 1, (-1), []), (.if_icmp .ne 5, 3, 0, [10]), (.iconst (-1), 1, (-1), []), (.ireturn, 1, 0, [0])] := rfl
set_option maxRecDepth 100000 in
theorem q191_4 (E : mj_E) (d w c : Nat) (hi : Nat → Nat → Int32) (hl : Nat → Nat → Int64) (s0 : Int32) : mj_den mj_P E d 191 4 [Value.ref 205, Value.float 0] [Value.int s0] (mj_hw w c hi hl) = if ¬ s0 = (-1 : Int32) then mj_den mj_P E d 191 10 [Value.ref 205, Value.float 0] [] (mj_hw w c hi hl) else some (some (Value.int (-1 : Int32)), (mj_hw w c hi hl)) := by
  rw [mj_den_eq, f191_4]
  exact zt_iconst rfl (zt_icmp_ne rfl rfl (zt_iconst rfl (zt_ireturn0)))
set_option maxRecDepth 100000 in
theorem f191_10 : mj_find (mj_P 191).2.2.2.2 10 = [(.aload_n 0, 1, 0, []), (.bipush 60, 2, 60, []), (.invokevirtual 219, 3, 0, [0, 185, 12, 1, 1, 1720, 1722, 61, 156, 1723])] := rfl
set_option maxRecDepth 100000 in
theorem q191_10 (E : mj_E) (d w c : Nat) (hi : Nat → Nat → Int32) (hl : Nat → Nat → Int64) : mj_den mj_P E d 191 10 [Value.ref 205, Value.float 0] [] (mj_hw w c hi hl) = mj_bi (mj_dc mj_P E d 185 [Value.ref 205, Value.int (60 : Int32)] (mj_hw w c hi hl)) (fun x1 h1 => mj_den mj_P E d 191 16 [Value.ref 205, Value.float 0] [Value.int x1] h1) := by
  rw [mj_den_eq, f191_10]
  exact zt_aload_n rfl rfl (zt_bipush rfl (zt_call0_1 rfl (mjkd205 _ _ _ _) (Nat.le_of_ble_eq_true rfl) rfl rfl))
set_option maxRecDepth 100000 in
theorem f191_16 : mj_find (mj_P 191).2.2.2.2 16 = [(.ifCond .ne 27, 3, 0, [43]), (.aload_n 0, 1, 0, []), (.bipush 61, 2, 61, []), (.invokevirtual 219, 3, 0, [0, 185, 12, 1, 1, 1720, 1722, 61, 156, 1723])] := rfl
set_option maxRecDepth 100000 in
theorem q191_16 (E : mj_E) (d w c : Nat) (hi : Nat → Nat → Int32) (hl : Nat → Nat → Int64) (s0 : Int32) : mj_den mj_P E d 191 16 [Value.ref 205, Value.float 0] [Value.int s0] (mj_hw w c hi hl) = if ¬ s0 = 0 then mj_den mj_P E d 191 43 [Value.ref 205, Value.float 0] [] (mj_hw w c hi hl) else mj_bi (mj_dc mj_P E d 185 [Value.ref 205, Value.int (61 : Int32)] (mj_hw w c hi hl)) (fun x1 h1 => mj_den mj_P E d 191 25 [Value.ref 205, Value.float 0] [Value.int x1] h1) := by
  rw [mj_den_eq, f191_16]
  exact zt_if_ne rfl rfl (zt_aload_n rfl rfl (zt_bipush rfl (zt_call0_1 rfl (mjkd205 _ _ _ _) (Nat.le_of_ble_eq_true rfl) rfl rfl)))
set_option maxRecDepth 100000 in
theorem f191_25 : mj_find (mj_P 191).2.2.2.2 25 = [(.ifCond .ne 18, 3, 0, [43]), (.aload_n 0, 1, 0, []), (.bipush 62, 2, 62, []), (.invokevirtual 219, 3, 0, [0, 185, 12, 1, 1, 1720, 1722, 61, 156, 1723])] := rfl
set_option maxRecDepth 100000 in
theorem q191_25 (E : mj_E) (d w c : Nat) (hi : Nat → Nat → Int32) (hl : Nat → Nat → Int64) (s0 : Int32) : mj_den mj_P E d 191 25 [Value.ref 205, Value.float 0] [Value.int s0] (mj_hw w c hi hl) = if ¬ s0 = 0 then mj_den mj_P E d 191 43 [Value.ref 205, Value.float 0] [] (mj_hw w c hi hl) else mj_bi (mj_dc mj_P E d 185 [Value.ref 205, Value.int (62 : Int32)] (mj_hw w c hi hl)) (fun x1 h1 => mj_den mj_P E d 191 34 [Value.ref 205, Value.float 0] [Value.int x1] h1) := by
  rw [mj_den_eq, f191_25]
  exact zt_if_ne rfl rfl (zt_aload_n rfl rfl (zt_bipush rfl (zt_call0_1 rfl (mjkd205 _ _ _ _) (Nat.le_of_ble_eq_true rfl) rfl rfl)))
set_option maxRecDepth 100000 in
theorem f191_34 : mj_find (mj_P 191).2.2.2.2 34 = [(.ifCond .ne 9, 3, 0, [43]), (.aload_n 0, 1, 0, []), (.iconst 1, 1, 1, []), (.invokevirtual 205, 3, 0, [0, 183, 12, 1, 1, 1700, 1702, 56, 156, 1703])] := rfl
set_option maxRecDepth 100000 in
theorem q191_34 (E : mj_E) (d w c : Nat) (hi : Nat → Nat → Int32) (hl : Nat → Nat → Int64) (s0 : Int32) : mj_den mj_P E d 191 34 [Value.ref 205, Value.float 0] [Value.int s0] (mj_hw w c hi hl) = if ¬ s0 = 0 then mj_den mj_P E d 191 43 [Value.ref 205, Value.float 0] [] (mj_hw w c hi hl) else mj_bi (mj_dc mj_P E d 183 [Value.ref 205, Value.int (1 : Int32)] (mj_hw w c hi hl)) (fun x1 h1 => mj_den mj_P E d 191 42 [Value.ref 205, Value.float 0] [Value.int x1] h1) := by
  rw [mj_den_eq, f191_34]
  exact zt_if_ne rfl rfl (zt_aload_n rfl rfl (zt_iconst rfl (zt_call0_1 rfl (mjkd205 _ _ _ _) (Nat.le_of_ble_eq_true rfl) rfl rfl)))
set_option maxRecDepth 100000 in
theorem f191_42 : mj_find (mj_P 191).2.2.2.2 42 = [(.ireturn, 1, 0, [0])] := rfl
set_option maxRecDepth 100000 in
theorem q191_42 (E : mj_E) (d w c : Nat) (hi : Nat → Nat → Int32) (hl : Nat → Nat → Int64) (s0 : Int32) : mj_den mj_P E d 191 42 [Value.ref 205, Value.float 0] [Value.int s0] (mj_hw w c hi hl) = some (some (Value.int s0), (mj_hw w c hi hl)) := by
  rw [mj_den_eq, f191_42]
  exact zt_ireturn0
set_option maxRecDepth 100000 in
theorem f191_43 : mj_find (mj_P 191).2.2.2.2 43 = [(.aload_n 0, 1, 0, []), (.getfield 177, 3, 0, [12, 18, 0, 1428]), (.bipush 60, 2, 60, []), (.if_icmp .ne 8, 3, 0, [57]), (.bipush 6, 2, 6, []), (.goto 19, 3, 0, [73])] := rfl
set_option maxRecDepth 100000 in
theorem q191_43 (E : mj_E) (d w c : Nat) (hi : Nat → Nat → Int32) (hl : Nat → Nat → Int64) : mj_den mj_P E d 191 43 [Value.ref 205, Value.float 0] [] (mj_hw w c hi hl) = if ¬ (hi 205 18) = (60 : Int32) then mj_den mj_P E d 191 57 [Value.ref 205, Value.float 0] [] (mj_hw w c hi hl) else mj_den mj_P E d 191 73 [Value.ref 205, Value.float 0] [Value.int (6 : Int32)] (mj_hw w c hi hl) := by
  rw [mj_den_eq, f191_43]
  exact zt_aload_n rfl rfl (zt_geti (mjkd205 _ _ _ _) rfl rfl (zt_bipush rfl (zt_icmp_ne rfl rfl (zt_bipush rfl (zt_goto rfl)))))
set_option maxRecDepth 100000 in
theorem f191_57 : mj_find (mj_P 191).2.2.2.2 57 = [(.aload_n 0, 1, 0, []), (.getfield 177, 3, 0, [12, 18, 0, 1428]), (.bipush 61, 2, 61, []), (.if_icmp .ne 8, 3, 0, [71]), (.bipush 7, 2, 7, []), (.goto 5, 3, 0, [73])] := rfl
set_option maxRecDepth 100000 in
theorem q191_57 (E : mj_E) (d w c : Nat) (hi : Nat → Nat → Int32) (hl : Nat → Nat → Int64) : mj_den mj_P E d 191 57 [Value.ref 205, Value.float 0] [] (mj_hw w c hi hl) = if ¬ (hi 205 18) = (61 : Int32) then mj_den mj_P E d 191 71 [Value.ref 205, Value.float 0] [] (mj_hw w c hi hl) else mj_den mj_P E d 191 73 [Value.ref 205, Value.float 0] [Value.int (7 : Int32)] (mj_hw w c hi hl) := by
  rw [mj_den_eq, f191_57]
  exact zt_aload_n rfl rfl (zt_geti (mjkd205 _ _ _ _) rfl rfl (zt_bipush rfl (zt_icmp_ne rfl rfl (zt_bipush rfl (zt_goto rfl)))))
set_option maxRecDepth 100000 in
theorem f191_71 : mj_find (mj_P 191).2.2.2.2 71 = [(.bipush 8, 2, 8, [])] := rfl
set_option maxRecDepth 100000 in
theorem q191_71 (E : mj_E) (d w c : Nat) (hi : Nat → Nat → Int32) (hl : Nat → Nat → Int64) : mj_den mj_P E d 191 71 [Value.ref 205, Value.float 0] [] (mj_hw w c hi hl) = mj_den mj_P E d 191 73 [Value.ref 205, Value.float 0] [Value.int (8 : Int32)] (mj_hw w c hi hl) := by
  rw [mj_den_eq, f191_71]
  exact zt_bipush rfl (zt_end rfl)
set_option maxRecDepth 100000 in
theorem f191_73 : mj_find (mj_P 191).2.2.2.2 73 = [(.istore_n 1, 1, 0, []), (.aload_n 0, 1, 0, []), (.invokevirtual 212, 3, 0, [0, 182, 12, 0, 0, 1668, 1670, 48, 156, 1671])] := rfl
set_option maxRecDepth 100000 in
theorem q191_73 (E : mj_E) (d w c : Nat) (hi : Nat → Nat → Int32) (hl : Nat → Nat → Int64) (s0 : Int32) : mj_den mj_P E d 191 73 [Value.ref 205, Value.float 0] [Value.int s0] (mj_hw w c hi hl) = mj_bv (mj_dc mj_P E d 182 [Value.ref 205] (mj_hw w c hi hl)) (fun h1 => mj_den mj_P E d 191 78 [Value.ref 205, Value.int s0] [] h1) := by
  rw [mj_den_eq, f191_73]
  exact zt_istore_n (Nat.le_of_ble_eq_true rfl) rfl rfl (zt_aload_n rfl rfl (zt_call0_0 rfl (mjkd205 _ _ _ _) (Nat.le_of_ble_eq_true rfl) rfl rfl))
set_option maxRecDepth 100000 in
theorem f191_78 : mj_find (mj_P 191).2.2.2.2 78 = [(.aload_n 0, 1, 0, []), (.invokevirtual 225, 3, 0, [0, 190, 12, 0, 1, 1748, 1750, 68, 156, 1751])] := rfl
set_option maxRecDepth 100000 in
theorem q191_78 (E : mj_E) (d w c : Nat) (hi : Nat → Nat → Int32) (hl : Nat → Nat → Int64) (v1 : Int32) : mj_den mj_P E d 191 78 [Value.ref 205, Value.int v1] [] (mj_hw w c hi hl) = mj_bi (mj_dc mj_P E d 190 [Value.ref 205] (mj_hw w c hi hl)) (fun x1 h1 => mj_den mj_P E d 191 82 [Value.ref 205, Value.int v1] [Value.int x1] h1) := by
  rw [mj_den_eq, f191_78]
  exact zt_aload_n rfl rfl (zt_call0_1 rfl (mjkd205 _ _ _ _) (Nat.le_of_ble_eq_true rfl) rfl rfl)
set_option maxRecDepth 100000 in
theorem f191_82 : mj_find (mj_P 191).2.2.2.2 82 = [(.iconst (-1), 1, (-1), []), (.if_icmp .ne 5, 3, 0, [88]), (.iconst (-1), 1, (-1), []), (.ireturn, 1, 0, [0])] := rfl
set_option maxRecDepth 100000 in
theorem q191_82 (E : mj_E) (d w c : Nat) (hi : Nat → Nat → Int32) (hl : Nat → Nat → Int64) (v1 : Int32) (s0 : Int32) : mj_den mj_P E d 191 82 [Value.ref 205, Value.int v1] [Value.int s0] (mj_hw w c hi hl) = if ¬ s0 = (-1 : Int32) then mj_den mj_P E d 191 88 [Value.ref 205, Value.int v1] [] (mj_hw w c hi hl) else some (some (Value.int (-1 : Int32)), (mj_hw w c hi hl)) := by
  rw [mj_den_eq, f191_82]
  exact zt_iconst rfl (zt_icmp_ne rfl rfl (zt_iconst rfl (zt_ireturn0)))
set_option maxRecDepth 100000 in
theorem f191_88 : mj_find (mj_P 191).2.2.2.2 88 = [(.aload_n 0, 1, 0, []), (.iload_n 1, 1, 0, []), (.iconst 0, 1, 0, []), (.invokevirtual 208, 3, 0, [0, 186, 12, 2, 0, 1764, 1766, 72, 156, 1767])] := rfl
set_option maxRecDepth 100000 in
theorem q191_88 (E : mj_E) (d w c : Nat) (hi : Nat → Nat → Int32) (hl : Nat → Nat → Int64) (v1 : Int32) : mj_den mj_P E d 191 88 [Value.ref 205, Value.int v1] [] (mj_hw w c hi hl) = mj_bv (mj_dc mj_P E d 186 [Value.ref 205, Value.int v1, Value.int (0 : Int32)] (mj_hw w c hi hl)) (fun h1 => mj_den mj_P E d 191 94 [Value.ref 205, Value.int v1] [] h1) := by
  rw [mj_den_eq, f191_88]
  exact zt_aload_n rfl rfl (zt_iload_n rfl rfl (zt_iconst rfl (zt_call0_0 rfl (mjkd205 _ _ _ _) (Nat.le_of_ble_eq_true rfl) rfl rfl)))
set_option maxRecDepth 100000 in
theorem f191_94 : mj_find (mj_P 191).2.2.2.2 94 = [(.iconst 0, 1, 0, []), (.ireturn, 1, 0, [0])] := rfl
set_option maxRecDepth 100000 in
theorem q191_94 (E : mj_E) (d w c : Nat) (hi : Nat → Nat → Int32) (hl : Nat → Nat → Int64) (v1 : Int32) : mj_den mj_P E d 191 94 [Value.ref 205, Value.int v1] [] (mj_hw w c hi hl) = some (some (Value.int (0 : Int32)), (mj_hw w c hi hl)) := by
  rw [mj_den_eq, f191_94]
  exact zt_iconst rfl (zt_ireturn0)
set_option maxRecDepth 100000 in
theorem f192_0 : mj_find (mj_P 192).2.2.2.2 0 = [(.aload_n 0, 1, 0, []), (.getfield 61, 3, 0, [12, 30, 3, 1440]), (.aload_n 0, 1, 0, []), (.getfield 228, 3, 0, [12, 31, 0, 1441]), (.iload_n 1, 1, 0, []), (.iastore, 1, 0, []), (.aload_n 0, 1, 0, []), (.aload_n 0, 1, 0, []), (.getfield 228, 3, 0, [12, 31, 0, 1441]), (.iconst 1, 1, 1, []), (.iadd, 1, 0, []), (.putfield 228, 3, 0, [12, 31, 0, 1441]), (.return_, 1, 0, [])] := rfl
set_option maxRecDepth 100000 in
theorem q192_0 (E : mj_E) (d w c : Nat) (hi : Nat → Nat → Int32) (hl : Nat → Nat → Int64) (v1 : Int32) : mj_den mj_P E d 192 0 [Value.ref 205, Value.int v1] [] (mj_hw w c hi hl) = if 0 ≤ (hi 205 31) ∧ ((hi 205 31)).toNatClampNeg < 40 then some (none, (mj_hw w c (mj_u (mj_u hi 223 (((hi 205 31)).toNatClampNeg) v1) 205 31 ((hi 205 31) + (1 : Int32))) hl)) else none := by
  rw [mj_den_eq, f192_0]
  exact zt_aload_n rfl rfl (zt_getr (mjkd205 _ _ _ _) (mjhr205_30 w c) rfl (zt_aload_n rfl rfl (zt_geti (mjkd205 _ _ _ _) rfl rfl (zt_iload_n rfl rfl (zt_iast (mjkd223 _ _ _ _) (mjln223 _ _ _ _) rfl rfl (zt_aload_n rfl rfl (zt_aload_n rfl rfl (zt_geti (mjkd205 _ _ _ _) rfl rfl (zt_iconst rfl (zt_iadd rfl (zt_puti (mjkd205 _ _ _ _) rfl rfl (zt_return))))))))))))
set_option maxRecDepth 100000 in
theorem f193_0 : mj_find (mj_P 193).2.2.2.2 0 = [(.aload_n 0, 1, 0, []), (.getfield 228, 3, 0, [12, 31, 0, 1441]), (.ifCond .le 53, 3, 0, [57]), (.aload_n 0, 1, 0, []), (.getfield 61, 3, 0, [12, 30, 3, 1440]), (.aload_n 0, 1, 0, []), (.getfield 228, 3, 0, [12, 31, 0, 1441]), (.iconst 1, 1, 1, []), (.isub, 1, 0, []), (.iaload, 1, 0, []), (.iload_n 1, 1, 0, []), (.if_icmp .ne 38, 3, 0, [57]), (.aload_n 0, 1, 0, []), (.aload_n 0, 1, 0, []), (.getfield 228, 3, 0, [12, 31, 0, 1441]), (.iconst 1, 1, 1, []), (.isub, 1, 0, []), (.putfield 228, 3, 0, [12, 31, 0, 1441]), (.aload_n 0, 1, 0, []), (.iload_n 1, 1, 0, []), (.iconst 0, 1, 0, []), (.invokevirtual 208, 3, 0, [0, 186, 12, 2, 0, 1764, 1766, 72, 156, 1767])] := rfl
set_option maxRecDepth 100000 in
theorem q193_0 (E : mj_E) (d w c : Nat) (hi : Nat → Nat → Int32) (hl : Nat → Nat → Int64) (v1 : Int32) : mj_den mj_P E d 193 0 [Value.ref 205, Value.int v1] [] (mj_hw w c hi hl) = if (hi 205 31) ≤ 0 then mj_den mj_P E d 193 57 [Value.ref 205, Value.int v1] [] (mj_hw w c hi hl) else if 0 ≤ ((hi 205 31) - (1 : Int32)) ∧ (((hi 205 31) - (1 : Int32))).toNatClampNeg < 40 then if ¬ (hi 223 ((((hi 205 31) - (1 : Int32))).toNatClampNeg)) = v1 then mj_den mj_P E d 193 57 [Value.ref 205, Value.int v1] [] (mj_hw w c hi hl) else mj_bv (mj_dc mj_P E d 186 [Value.ref 205, Value.int v1, Value.int (0 : Int32)] (mj_hw w c (mj_u hi 205 31 ((hi 205 31) - (1 : Int32))) hl)) (fun h1 => mj_den mj_P E d 193 38 [Value.ref 205, Value.int v1] [] h1) else none := by
  rw [mj_den_eq, f193_0]
  exact zt_aload_n rfl rfl (zt_geti (mjkd205 _ _ _ _) rfl rfl (zt_if_le rfl rfl (zt_aload_n rfl rfl (zt_getr (mjkd205 _ _ _ _) (mjhr205_30 w c) rfl (zt_aload_n rfl rfl (zt_geti (mjkd205 _ _ _ _) rfl rfl (zt_iconst rfl (zt_isub rfl (zt_iald (mjkd223 _ _ _ _) (mjln223 _ _ _ _) rfl rfl (zt_iload_n rfl rfl (zt_icmp_ne rfl rfl (zt_aload_n rfl rfl (zt_aload_n rfl rfl (zt_geti (mjkd205 _ _ _ _) rfl rfl (zt_iconst rfl (zt_isub rfl (zt_puti (mjkd205 _ _ _ _) rfl rfl (zt_aload_n rfl rfl (zt_iload_n rfl rfl (zt_iconst rfl (zt_call0_0 rfl (mjkd205 _ _ _ _) (Nat.le_of_ble_eq_true rfl) rfl rfl)))))))))))))))))))))
set_option maxRecDepth 100000 in
theorem f193_38 : mj_find (mj_P 193).2.2.2.2 38 = [(.iload_n 1, 1, 0, []), (.bipush 9, 2, 9, []), (.if_icmp .ne (-41), 3, 0, [0]), (.aload_n 0, 1, 0, []), (.aload_n 0, 1, 0, []), (.getfield 231, 3, 0, [12, 29, 0, 1439]), (.iconst 1, 1, 1, []), (.isub, 1, 0, []), (.putfield 231, 3, 0, [12, 29, 0, 1439]), (.goto (-54), 3, 0, [0])] := rfl
set_option maxRecDepth 100000 in
theorem q193_38 (E : mj_E) (d w c : Nat) (hi : Nat → Nat → Int32) (hl : Nat → Nat → Int64) (v1 : Int32) : mj_den mj_P E d 193 38 [Value.ref 205, Value.int v1] [] (mj_hw w c hi hl) = if ¬ v1 = (9 : Int32) then mj_den mj_P E d 193 0 [Value.ref 205, Value.int v1] [] (mj_hw w c hi hl) else mj_den mj_P E d 193 0 [Value.ref 205, Value.int v1] [] (mj_hw w c (mj_u hi 205 29 ((hi 205 29) - (1 : Int32))) hl) := by
  rw [mj_den_eq, f193_38]
  exact zt_iload_n rfl rfl (zt_bipush rfl (zt_icmp_ne rfl rfl (zt_aload_n rfl rfl (zt_aload_n rfl rfl (zt_geti (mjkd205 _ _ _ _) rfl rfl (zt_iconst rfl (zt_isub rfl (zt_puti (mjkd205 _ _ _ _) rfl rfl (zt_goto rfl)))))))))
set_option maxRecDepth 100000 in
theorem f193_57 : mj_find (mj_P 193).2.2.2.2 57 = [(.return_, 1, 0, [])] := rfl
set_option maxRecDepth 100000 in
theorem q193_57 (E : mj_E) (d w c : Nat) (hi : Nat → Nat → Int32) (hl : Nat → Nat → Int64) (v1 : Int32) : mj_den mj_P E d 193 57 [Value.ref 205, Value.int v1] [] (mj_hw w c hi hl) = some (none, (mj_hw w c hi hl)) := by
  rw [mj_den_eq, f193_57]
  exact zt_return
set_option maxRecDepth 100000 in
theorem f194_0 : mj_find (mj_P 194).2.2.2.2 0 = [(.iconst 0, 1, 0, []), (.istore_n 1, 1, 0, []), (.aload_n 0, 1, 0, []), (.iconst 0, 1, 0, []), (.putfield 228, 3, 0, [12, 31, 0, 1441]), (.iconst 1, 1, 1, []), (.istore_n 2, 1, 0, [])] := rfl
set_option maxRecDepth 100000 in
theorem q194_0 (E : mj_E) (d w c : Nat) (hi : Nat → Nat → Int32) (hl : Nat → Nat → Int64) : mj_den mj_P E d 194 0 [Value.ref 205, Value.float 0, Value.float 0, Value.float 0] [] (mj_hw w c hi hl) = mj_den mj_P E d 194 9 [Value.ref 205, Value.int (0 : Int32), Value.int (1 : Int32), Value.float 0] [] (mj_hw w c (mj_u hi 205 31 (0 : Int32)) hl) := by
  rw [mj_den_eq, f194_0]
  exact zt_iconst rfl (zt_istore_n (Nat.le_of_ble_eq_true rfl) rfl rfl (zt_aload_n rfl rfl (zt_iconst rfl (zt_puti (mjkd205 _ _ _ _) rfl rfl (zt_iconst rfl (zt_istore_n (Nat.le_of_ble_eq_true rfl) rfl rfl (zt_end rfl)))))))
set_option maxRecDepth 100000 in
theorem f194_9 : mj_find (mj_P 194).2.2.2.2 9 = [(.iload_n 2, 1, 0, []), (.ifCond .eq 99, 3, 0, [109]), (.aload_n 0, 1, 0, []), (.bipush 6, 2, 6, []), (.invokevirtual 234, 3, 0, [0, 184, 12, 1, 1, 1696, 1698, 55, 156, 1699])] := rfl
set_option maxRecDepth 100000 in
theorem q194_9 (E : mj_E) (d w c : Nat) (hi : Nat → Nat → Int32) (hl : Nat → Nat → Int64) (v1 : Int32) (v2 : Int32) : mj_den mj_P E d 194 9 [Value.ref 205, Value.int v1, Value.int v2, Value.float 0] [] (mj_hw w c hi hl) = if v2 = 0 then mj_den mj_P E d 194 109 [Value.ref 205, Value.int v1, Value.int v2, Value.float 0] [] (mj_hw w c hi hl) else mj_bi (mj_dc mj_P E d 184 [Value.ref 205, Value.int (6 : Int32)] (mj_hw w c hi hl)) (fun x1 h1 => mj_den mj_P E d 194 19 [Value.ref 205, Value.int v1, Value.int v2, Value.float 0] [Value.int x1] h1) := by
  rw [mj_den_eq, f194_9]
  exact zt_iload_n rfl rfl (zt_if_eq rfl rfl (zt_aload_n rfl rfl (zt_bipush rfl (zt_call0_1 rfl (mjkd205 _ _ _ _) (Nat.le_of_ble_eq_true rfl) rfl rfl))))
set_option maxRecDepth 100000 in
theorem q194_9_1 (E : mj_E) (d w c : Nat) (hi : Nat → Nat → Int32) (hl : Nat → Nat → Int64) (v1 : Int32) (v2 : Int32) (v3 : Int32) : mj_den mj_P E d 194 9 [Value.ref 205, Value.int v1, Value.int v2, Value.int v3] [] (mj_hw w c hi hl) = if v2 = 0 then mj_den mj_P E d 194 109 [Value.ref 205, Value.int v1, Value.int v2, Value.int v3] [] (mj_hw w c hi hl) else mj_bi (mj_dc mj_P E d 184 [Value.ref 205, Value.int (6 : Int32)] (mj_hw w c hi hl)) (fun x1 h1 => mj_den mj_P E d 194 19 [Value.ref 205, Value.int v1, Value.int v2, Value.int v3] [Value.int x1] h1) := by
  rw [mj_den_eq, f194_9]
  exact zt_iload_n rfl rfl (zt_if_eq rfl rfl (zt_aload_n rfl rfl (zt_bipush rfl (zt_call0_1 rfl (mjkd205 _ _ _ _) (Nat.le_of_ble_eq_true rfl) rfl rfl))))
set_option maxRecDepth 100000 in
theorem f194_19 : mj_find (mj_P 194).2.2.2.2 19 = [(.istore_n 3, 1, 0, []), (.iload_n 3, 1, 0, []), (.ifCond .ne 12, 3, 0, [33]), (.aload_n 0, 1, 0, []), (.bipush 40, 2, 40, []), (.invokevirtual 219, 3, 0, [0, 185, 12, 1, 1, 1720, 1722, 61, 156, 1723])] := rfl
set_option maxRecDepth 100000 in
theorem q194_19 (E : mj_E) (d w c : Nat) (hi : Nat → Nat → Int32) (hl : Nat → Nat → Int64) (v1 : Int32) (v2 : Int32) (s0 : Int32) : mj_den mj_P E d 194 19 [Value.ref 205, Value.int v1, Value.int v2, Value.float 0] [Value.int s0] (mj_hw w c hi hl) = if ¬ s0 = 0 then mj_den mj_P E d 194 33 [Value.ref 205, Value.int v1, Value.int v2, Value.int s0] [] (mj_hw w c hi hl) else mj_bi (mj_dc mj_P E d 185 [Value.ref 205, Value.int (40 : Int32)] (mj_hw w c hi hl)) (fun x1 h1 => mj_den mj_P E d 194 30 [Value.ref 205, Value.int v1, Value.int v2, Value.int s0] [Value.int x1] h1) := by
  rw [mj_den_eq, f194_19]
  exact zt_istore_n (Nat.le_of_ble_eq_true rfl) rfl rfl (zt_iload_n rfl rfl (zt_if_ne rfl rfl (zt_aload_n rfl rfl (zt_bipush rfl (zt_call0_1 rfl (mjkd205 _ _ _ _) (Nat.le_of_ble_eq_true rfl) rfl rfl)))))
set_option maxRecDepth 100000 in
theorem q194_19_1 (E : mj_E) (d w c : Nat) (hi : Nat → Nat → Int32) (hl : Nat → Nat → Int64) (v1 : Int32) (v2 : Int32) (v3 : Int32) (s0 : Int32) : mj_den mj_P E d 194 19 [Value.ref 205, Value.int v1, Value.int v2, Value.int v3] [Value.int s0] (mj_hw w c hi hl) = if ¬ s0 = 0 then mj_den mj_P E d 194 33 [Value.ref 205, Value.int v1, Value.int v2, Value.int s0] [] (mj_hw w c hi hl) else mj_bi (mj_dc mj_P E d 185 [Value.ref 205, Value.int (40 : Int32)] (mj_hw w c hi hl)) (fun x1 h1 => mj_den mj_P E d 194 30 [Value.ref 205, Value.int v1, Value.int v2, Value.int s0] [Value.int x1] h1) := by
  rw [mj_den_eq, f194_19]
  exact zt_istore_n (Nat.le_of_ble_eq_true rfl) rfl rfl (zt_iload_n rfl rfl (zt_if_ne rfl rfl (zt_aload_n rfl rfl (zt_bipush rfl (zt_call0_1 rfl (mjkd205 _ _ _ _) (Nat.le_of_ble_eq_true rfl) rfl rfl)))))
set_option maxRecDepth 100000 in
theorem f194_30 : mj_find (mj_P 194).2.2.2.2 30 = [(.ifCond .eq 58, 3, 0, [88])] := rfl
set_option maxRecDepth 100000 in
theorem q194_30 (E : mj_E) (d w c : Nat) (hi : Nat → Nat → Int32) (hl : Nat → Nat → Int64) (v1 : Int32) (v2 : Int32) (v3 : Int32) (s0 : Int32) : mj_den mj_P E d 194 30 [Value.ref 205, Value.int v1, Value.int v2, Value.int v3] [Value.int s0] (mj_hw w c hi hl) = if s0 = 0 then mj_den mj_P E d 194 88 [Value.ref 205, Value.int v1, Value.int v2, Value.int v3] [] (mj_hw w c hi hl) else mj_den mj_P E d 194 33 [Value.ref 205, Value.int v1, Value.int v2, Value.int v3] [] (mj_hw w c hi hl) := by
  rw [mj_den_eq, f194_30]
  exact zt_if_eq rfl rfl (zt_end rfl)
set_option maxRecDepth 100000 in
theorem f194_33 : mj_find (mj_P 194).2.2.2.2 33 = [(.aload_n 0, 1, 0, []), (.getfield 231, 3, 0, [12, 29, 0, 1439]), (.bipush 8, 2, 8, []), (.if_icmp .ne 9, 3, 0, [48]), (.aload_n 0, 1, 0, []), (.iconst 3, 1, 3, []), (.invokevirtual 205, 3, 0, [0, 183, 12, 1, 1, 1700, 1702, 56, 156, 1703])] := rfl
set_option maxRecDepth 100000 in
theorem q194_33 (E : mj_E) (d w c : Nat) (hi : Nat → Nat → Int32) (hl : Nat → Nat → Int64) (v1 : Int32) (v2 : Int32) (v3 : Int32) : mj_den mj_P E d 194 33 [Value.ref 205, Value.int v1, Value.int v2, Value.int v3] [] (mj_hw w c hi hl) = if ¬ (hi 205 29) = (8 : Int32) then mj_den mj_P E d 194 48 [Value.ref 205, Value.int v1, Value.int v2, Value.int v3] [] (mj_hw w c hi hl) else mj_bi (mj_dc mj_P E d 183 [Value.ref 205, Value.int (3 : Int32)] (mj_hw w c hi hl)) (fun x1 h1 => mj_den mj_P E d 194 47 [Value.ref 205, Value.int v1, Value.int v2, Value.int v3] [Value.int x1] h1) := by
  rw [mj_den_eq, f194_33]
  exact zt_aload_n rfl rfl (zt_geti (mjkd205 _ _ _ _) rfl rfl (zt_bipush rfl (zt_icmp_ne rfl rfl (zt_aload_n rfl rfl (zt_iconst rfl (zt_call0_1 rfl (mjkd205 _ _ _ _) (Nat.le_of_ble_eq_true rfl) rfl rfl))))))
set_option maxRecDepth 100000 in
theorem f194_47 : mj_find (mj_P 194).2.2.2.2 47 = [(.ireturn, 1, 0, [0])] := rfl
set_option maxRecDepth 100000 in
theorem q194_47 (E : mj_E) (d w c : Nat) (hi : Nat → Nat → Int32) (hl : Nat → Nat → Int64) (v1 : Int32) (v2 : Int32) (v3 : Int32) (s0 : Int32) : mj_den mj_P E d 194 47 [Value.ref 205, Value.int v1, Value.int v2, Value.int v3] [Value.int s0] (mj_hw w c hi hl) = some (some (Value.int s0), (mj_hw w c hi hl)) := by
  rw [mj_den_eq, f194_47]
  exact zt_ireturn0
set_option maxRecDepth 100000 in
theorem f194_48 : mj_find (mj_P 194).2.2.2.2 48 = [(.aload_n 0, 1, 0, []), (.aload_n 0, 1, 0, []), (.getfield 231, 3, 0, [12, 29, 0, 1439]), (.iconst 1, 1, 1, []), (.iadd, 1, 0, []), (.putfield 231, 3, 0, [12, 29, 0, 1439]), (.iload_n 3, 1, 0, []), (.ifCond .ne 7, 3, 0, [66]), (.iload_n 1, 1, 0, []), (.iconst 1, 1, 1, []), (.iadd, 1, 0, []), (.istore_n 1, 1, 0, [])] := rfl
set_option maxRecDepth 100000 in
theorem q194_48 (E : mj_E) (d w c : Nat) (hi : Nat → Nat → Int32) (hl : Nat → Nat → Int64) (v1 : Int32) (v2 : Int32) (v3 : Int32) : mj_den mj_P E d 194 48 [Value.ref 205, Value.int v1, Value.int v2, Value.int v3] [] (mj_hw w c hi hl) = if ¬ v3 = 0 then mj_den mj_P E d 194 66 [Value.ref 205, Value.int v1, Value.int v2, Value.int v3] [] (mj_hw w c (mj_u hi 205 29 ((hi 205 29) + (1 : Int32))) hl) else mj_den mj_P E d 194 66 [Value.ref 205, Value.int (v1 + (1 : Int32)), Value.int v2, Value.int v3] [] (mj_hw w c (mj_u hi 205 29 ((hi 205 29) + (1 : Int32))) hl) := by
  rw [mj_den_eq, f194_48]
  exact zt_aload_n rfl rfl (zt_aload_n rfl rfl (zt_geti (mjkd205 _ _ _ _) rfl rfl (zt_iconst rfl (zt_iadd rfl (zt_puti (mjkd205 _ _ _ _) rfl rfl (zt_iload_n rfl rfl (zt_if_ne rfl rfl (zt_iload_n rfl rfl (zt_iconst rfl (zt_iadd rfl (zt_istore_n (Nat.le_of_ble_eq_true rfl) rfl rfl (zt_end rfl))))))))))))
set_option maxRecDepth 100000 in
theorem f194_66 : mj_find (mj_P 194).2.2.2.2 66 = [(.aload_n 0, 1, 0, []), (.iload_n 3, 1, 0, []), (.ifCond .eq 8, 3, 0, [76]), (.bipush 9, 2, 9, []), (.goto 5, 3, 0, [78])] := rfl
set_option maxRecDepth 100000 in
theorem q194_66 (E : mj_E) (d w c : Nat) (hi : Nat → Nat → Int32) (hl : Nat → Nat → Int64) (v1 : Int32) (v2 : Int32) (v3 : Int32) : mj_den mj_P E d 194 66 [Value.ref 205, Value.int v1, Value.int v2, Value.int v3] [] (mj_hw w c hi hl) = if v3 = 0 then mj_den mj_P E d 194 76 [Value.ref 205, Value.int v1, Value.int v2, Value.int v3] [Value.ref 205] (mj_hw w c hi hl) else mj_den mj_P E d 194 78 [Value.ref 205, Value.int v1, Value.int v2, Value.int v3] [Value.int (9 : Int32), Value.ref 205] (mj_hw w c hi hl) := by
  rw [mj_den_eq, f194_66]
  exact zt_aload_n rfl rfl (zt_iload_n rfl rfl (zt_if_eq rfl rfl (zt_bipush rfl (zt_goto rfl))))
set_option maxRecDepth 100000 in
theorem f194_76 : mj_find (mj_P 194).2.2.2.2 76 = [(.bipush 12, 2, 12, [])] := rfl
set_option maxRecDepth 100000 in
theorem q194_76 (E : mj_E) (d w c : Nat) (hi : Nat → Nat → Int32) (hl : Nat → Nat → Int64) (v1 : Int32) (v2 : Int32) (v3 : Int32) : mj_den mj_P E d 194 76 [Value.ref 205, Value.int v1, Value.int v2, Value.int v3] [Value.ref 205] (mj_hw w c hi hl) = mj_den mj_P E d 194 78 [Value.ref 205, Value.int v1, Value.int v2, Value.int v3] [Value.int (12 : Int32), Value.ref 205] (mj_hw w c hi hl) := by
  rw [mj_den_eq, f194_76]
  exact zt_bipush rfl (zt_end rfl)
set_option maxRecDepth 100000 in
theorem f194_78 : mj_find (mj_P 194).2.2.2.2 78 = [(.invokevirtual 237, 3, 0, [0, 192, 12, 1, 0, 1772, 1774, 74, 156, 1775])] := rfl
set_option maxRecDepth 100000 in
theorem q194_78 (E : mj_E) (d w c : Nat) (hi : Nat → Nat → Int32) (hl : Nat → Nat → Int64) (v1 : Int32) (v2 : Int32) (v3 : Int32) (s0 : Int32) : mj_den mj_P E d 194 78 [Value.ref 205, Value.int v1, Value.int v2, Value.int v3] [Value.int s0, Value.ref 205] (mj_hw w c hi hl) = mj_bv (mj_dc mj_P E d 192 [Value.ref 205, Value.int s0] (mj_hw w c hi hl)) (fun h1 => mj_den mj_P E d 194 81 [Value.ref 205, Value.int v1, Value.int v2, Value.int v3] [] h1) := by
  rw [mj_den_eq, f194_78]
  exact zt_call0_0 rfl (mjkd205 _ _ _ _) (Nat.le_of_ble_eq_true rfl) rfl rfl
set_option maxRecDepth 100000 in
theorem f194_81 : mj_find (mj_P 194).2.2.2.2 81 = [(.aload_n 0, 1, 0, []), (.invokevirtual 212, 3, 0, [0, 182, 12, 0, 0, 1668, 1670, 48, 156, 1671])] := rfl
set_option maxRecDepth 100000 in
theorem q194_81 (E : mj_E) (d w c : Nat) (hi : Nat → Nat → Int32) (hl : Nat → Nat → Int64) (v1 : Int32) (v2 : Int32) (v3 : Int32) : mj_den mj_P E d 194 81 [Value.ref 205, Value.int v1, Value.int v2, Value.int v3] [] (mj_hw w c hi hl) = mj_bv (mj_dc mj_P E d 182 [Value.ref 205] (mj_hw w c hi hl)) (fun h1 => mj_den mj_P E d 194 85 [Value.ref 205, Value.int v1, Value.int v2, Value.int v3] [] h1) := by
  rw [mj_den_eq, f194_81]
  exact zt_aload_n rfl rfl (zt_call0_0 rfl (mjkd205 _ _ _ _) (Nat.le_of_ble_eq_true rfl) rfl rfl)
set_option maxRecDepth 100000 in
theorem f194_85 : mj_find (mj_P 194).2.2.2.2 85 = [(.goto (-76), 3, 0, [9])] := rfl
set_option maxRecDepth 100000 in
theorem q194_85 (E : mj_E) (d w c : Nat) (hi : Nat → Nat → Int32) (hl : Nat → Nat → Int64) (v1 : Int32) (v2 : Int32) (v3 : Int32) : mj_den mj_P E d 194 85 [Value.ref 205, Value.int v1, Value.int v2, Value.int v3] [] (mj_hw w c hi hl) = mj_den mj_P E d 194 9 [Value.ref 205, Value.int v1, Value.int v2, Value.int v3] [] (mj_hw w c hi hl) := by
  rw [mj_den_eq, f194_85]
  exact zt_goto rfl
set_option maxRecDepth 100000 in
theorem f194_88 : mj_find (mj_P 194).2.2.2.2 88 = [(.aload_n 0, 1, 0, []), (.invokevirtual 240, 3, 0, [0, 191, 12, 0, 1, 1776, 1778, 75, 156, 1779])] := rfl
set_option maxRecDepth 100000 in
theorem q194_88 (E : mj_E) (d w c : Nat) (hi : Nat → Nat → Int32) (hl : Nat → Nat → Int64) (v1 : Int32) (v2 : Int32) (v3 : Int32) : mj_den mj_P E d 194 88 [Value.ref 205, Value.int v1, Value.int v2, Value.int v3] [] (mj_hw w c hi hl) = mj_bi (mj_dc mj_P E d 191 [Value.ref 205] (mj_hw w c hi hl)) (fun x1 h1 => mj_den mj_P E d 194 92 [Value.ref 205, Value.int v1, Value.int v2, Value.int v3] [Value.int x1] h1) := by
  rw [mj_den_eq, f194_88]
  exact zt_aload_n rfl rfl (zt_call0_1 rfl (mjkd205 _ _ _ _) (Nat.le_of_ble_eq_true rfl) rfl rfl)
set_option maxRecDepth 100000 in
theorem f194_92 : mj_find (mj_P 194).2.2.2.2 92 = [(.iconst (-1), 1, (-1), []), (.if_icmp .ne 5, 3, 0, [98]), (.iconst (-1), 1, (-1), []), (.ireturn, 1, 0, [0])] := rfl
set_option maxRecDepth 100000 in
theorem q194_92 (E : mj_E) (d w c : Nat) (hi : Nat → Nat → Int32) (hl : Nat → Nat → Int64) (v1 : Int32) (v2 : Int32) (v3 : Int32) (s0 : Int32) : mj_den mj_P E d 194 92 [Value.ref 205, Value.int v1, Value.int v2, Value.int v3] [Value.int s0] (mj_hw w c hi hl) = if ¬ s0 = (-1 : Int32) then mj_den mj_P E d 194 98 [Value.ref 205, Value.int v1, Value.int v2, Value.int v3] [] (mj_hw w c hi hl) else some (some (Value.int (-1 : Int32)), (mj_hw w c hi hl)) := by
  rw [mj_den_eq, f194_92]
  exact zt_iconst rfl (zt_icmp_ne rfl rfl (zt_iconst rfl (zt_ireturn0)))
set_option maxRecDepth 100000 in
theorem f194_98 : mj_find (mj_P 194).2.2.2.2 98 = [(.aload_n 0, 1, 0, []), (.bipush 9, 2, 9, []), (.invokevirtual 243, 3, 0, [0, 193, 12, 1, 0, 1780, 1782, 76, 156, 1783])] := rfl
set_option maxRecDepth 100000 in
theorem q194_98 (E : mj_E) (d w c : Nat) (hi : Nat → Nat → Int32) (hl : Nat → Nat → Int64) (v1 : Int32) (v2 : Int32) (v3 : Int32) : mj_den mj_P E d 194 98 [Value.ref 205, Value.int v1, Value.int v2, Value.int v3] [] (mj_hw w c hi hl) = mj_bv (mj_dc mj_P E d 193 [Value.ref 205, Value.int (9 : Int32)] (mj_hw w c hi hl)) (fun h1 => mj_den mj_P E d 194 104 [Value.ref 205, Value.int v1, Value.int v2, Value.int v3] [] h1) := by
  rw [mj_den_eq, f194_98]
  exact zt_aload_n rfl rfl (zt_bipush rfl (zt_call0_0 rfl (mjkd205 _ _ _ _) (Nat.le_of_ble_eq_true rfl) rfl rfl))
set_option maxRecDepth 100000 in
theorem f194_104 : mj_find (mj_P 194).2.2.2.2 104 = [(.iconst 0, 1, 0, []), (.istore_n 2, 1, 0, []), (.goto (-97), 3, 0, [9])] := rfl
set_option maxRecDepth 100000 in
theorem q194_104 (E : mj_E) (d w c : Nat) (hi : Nat → Nat → Int32) (hl : Nat → Nat → Int64) (v1 : Int32) (v2 : Int32) (v3 : Int32) : mj_den mj_P E d 194 104 [Value.ref 205, Value.int v1, Value.int v2, Value.int v3] [] (mj_hw w c hi hl) = mj_den mj_P E d 194 9 [Value.ref 205, Value.int v1, Value.int (0 : Int32), Value.int v3] [] (mj_hw w c hi hl) := by
  rw [mj_den_eq, f194_104]
  exact zt_iconst rfl (zt_istore_n (Nat.le_of_ble_eq_true rfl) rfl rfl (zt_goto rfl))
set_option maxRecDepth 100000 in
theorem f194_109 : mj_find (mj_P 194).2.2.2.2 109 = [(.aload_n 0, 1, 0, []), (.iconst 5, 1, 5, []), (.invokevirtual 234, 3, 0, [0, 184, 12, 1, 1, 1696, 1698, 55, 156, 1699])] := rfl
set_option maxRecDepth 100000 in
theorem q194_109 (E : mj_E) (d w c : Nat) (hi : Nat → Nat → Int32) (hl : Nat → Nat → Int64) (v1 : Int32) (v2 : Int32) (v3 : Int32) : mj_den mj_P E d 194 109 [Value.ref 205, Value.int v1, Value.int v2, Value.int v3] [] (mj_hw w c hi hl) = mj_bi (mj_dc mj_P E d 184 [Value.ref 205, Value.int (5 : Int32)] (mj_hw w c hi hl)) (fun x1 h1 => mj_den mj_P E d 194 114 [Value.ref 205, Value.int v1, Value.int v2, Value.int v3] [Value.int x1] h1) := by
  rw [mj_den_eq, f194_109]
  exact zt_aload_n rfl rfl (zt_iconst rfl (zt_call0_1 rfl (mjkd205 _ _ _ _) (Nat.le_of_ble_eq_true rfl) rfl rfl))
set_option maxRecDepth 100000 in
theorem q194_109_1 (E : mj_E) (d w c : Nat) (hi : Nat → Nat → Int32) (hl : Nat → Nat → Int64) (v1 : Int32) (v2 : Int32) : mj_den mj_P E d 194 109 [Value.ref 205, Value.int v1, Value.int v2, Value.float 0] [] (mj_hw w c hi hl) = mj_bi (mj_dc mj_P E d 184 [Value.ref 205, Value.int (5 : Int32)] (mj_hw w c hi hl)) (fun x1 h1 => mj_den mj_P E d 194 114 [Value.ref 205, Value.int v1, Value.int v2, Value.float 0] [Value.int x1] h1) := by
  rw [mj_den_eq, f194_109]
  exact zt_aload_n rfl rfl (zt_iconst rfl (zt_call0_1 rfl (mjkd205 _ _ _ _) (Nat.le_of_ble_eq_true rfl) rfl rfl))
set_option maxRecDepth 100000 in
theorem f194_114 : mj_find (mj_P 194).2.2.2.2 114 = [(.ifCond .eq 24, 3, 0, [138]), (.aload_n 0, 1, 0, []), (.bipush 10, 2, 10, []), (.invokevirtual 243, 3, 0, [0, 193, 12, 1, 0, 1780, 1782, 76, 156, 1783])] := rfl
set_option maxRecDepth 100000 in
theorem q194_114 (E : mj_E) (d w c : Nat) (hi : Nat → Nat → Int32) (hl : Nat → Nat → Int64) (v1 : Int32) (v2 : Int32) (v3 : Int32) (s0 : Int32) : mj_den mj_P E d 194 114 [Value.ref 205, Value.int v1, Value.int v2, Value.int v3] [Value.int s0] (mj_hw w c hi hl) = if s0 = 0 then mj_den mj_P E d 194 138 [Value.ref 205, Value.int v1, Value.int v2, Value.int v3] [] (mj_hw w c hi hl) else mj_bv (mj_dc mj_P E d 193 [Value.ref 205, Value.int (10 : Int32)] (mj_hw w c hi hl)) (fun h1 => mj_den mj_P E d 194 123 [Value.ref 205, Value.int v1, Value.int v2, Value.int v3] [] h1) := by
  rw [mj_den_eq, f194_114]
  exact zt_if_eq rfl rfl (zt_aload_n rfl rfl (zt_bipush rfl (zt_call0_0 rfl (mjkd205 _ _ _ _) (Nat.le_of_ble_eq_true rfl) rfl rfl)))
set_option maxRecDepth 100000 in
theorem q194_114_1 (E : mj_E) (d w c : Nat) (hi : Nat → Nat → Int32) (hl : Nat → Nat → Int64) (v1 : Int32) (v2 : Int32) (s0 : Int32) : mj_den mj_P E d 194 114 [Value.ref 205, Value.int v1, Value.int v2, Value.float 0] [Value.int s0] (mj_hw w c hi hl) = if s0 = 0 then mj_den mj_P E d 194 138 [Value.ref 205, Value.int v1, Value.int v2, Value.float 0] [] (mj_hw w c hi hl) else mj_bv (mj_dc mj_P E d 193 [Value.ref 205, Value.int (10 : Int32)] (mj_hw w c hi hl)) (fun h1 => mj_den mj_P E d 194 123 [Value.ref 205, Value.int v1, Value.int v2, Value.float 0] [] h1) := by
  rw [mj_den_eq, f194_114]
  exact zt_if_eq rfl rfl (zt_aload_n rfl rfl (zt_bipush rfl (zt_call0_0 rfl (mjkd205 _ _ _ _) (Nat.le_of_ble_eq_true rfl) rfl rfl)))
set_option maxRecDepth 100000 in
theorem f194_123 : mj_find (mj_P 194).2.2.2.2 123 = [(.aload_n 0, 1, 0, []), (.bipush 10, 2, 10, []), (.invokevirtual 237, 3, 0, [0, 192, 12, 1, 0, 1772, 1774, 74, 156, 1775])] := rfl
set_option maxRecDepth 100000 in
theorem q194_123 (E : mj_E) (d w c : Nat) (hi : Nat → Nat → Int32) (hl : Nat → Nat → Int64) (v1 : Int32) (v2 : Int32) (v3 : Int32) : mj_den mj_P E d 194 123 [Value.ref 205, Value.int v1, Value.int v2, Value.int v3] [] (mj_hw w c hi hl) = mj_bv (mj_dc mj_P E d 192 [Value.ref 205, Value.int (10 : Int32)] (mj_hw w c hi hl)) (fun h1 => mj_den mj_P E d 194 129 [Value.ref 205, Value.int v1, Value.int v2, Value.int v3] [] h1) := by
  rw [mj_den_eq, f194_123]
  exact zt_aload_n rfl rfl (zt_bipush rfl (zt_call0_0 rfl (mjkd205 _ _ _ _) (Nat.le_of_ble_eq_true rfl) rfl rfl))
set_option maxRecDepth 100000 in
theorem q194_123_1 (E : mj_E) (d w c : Nat) (hi : Nat → Nat → Int32) (hl : Nat → Nat → Int64) (v1 : Int32) (v2 : Int32) : mj_den mj_P E d 194 123 [Value.ref 205, Value.int v1, Value.int v2, Value.float 0] [] (mj_hw w c hi hl) = mj_bv (mj_dc mj_P E d 192 [Value.ref 205, Value.int (10 : Int32)] (mj_hw w c hi hl)) (fun h1 => mj_den mj_P E d 194 129 [Value.ref 205, Value.int v1, Value.int v2, Value.float 0] [] h1) := by
  rw [mj_den_eq, f194_123]
  exact zt_aload_n rfl rfl (zt_bipush rfl (zt_call0_0 rfl (mjkd205 _ _ _ _) (Nat.le_of_ble_eq_true rfl) rfl rfl))
set_option maxRecDepth 100000 in
theorem f194_129 : mj_find (mj_P 194).2.2.2.2 129 = [(.aload_n 0, 1, 0, []), (.invokevirtual 212, 3, 0, [0, 182, 12, 0, 0, 1668, 1670, 48, 156, 1671])] := rfl
set_option maxRecDepth 100000 in
theorem q194_129 (E : mj_E) (d w c : Nat) (hi : Nat → Nat → Int32) (hl : Nat → Nat → Int64) (v1 : Int32) (v2 : Int32) (v3 : Int32) : mj_den mj_P E d 194 129 [Value.ref 205, Value.int v1, Value.int v2, Value.int v3] [] (mj_hw w c hi hl) = mj_bv (mj_dc mj_P E d 182 [Value.ref 205] (mj_hw w c hi hl)) (fun h1 => mj_den mj_P E d 194 133 [Value.ref 205, Value.int v1, Value.int v2, Value.int v3] [] h1) := by
  rw [mj_den_eq, f194_129]
  exact zt_aload_n rfl rfl (zt_call0_0 rfl (mjkd205 _ _ _ _) (Nat.le_of_ble_eq_true rfl) rfl rfl)
set_option maxRecDepth 100000 in
theorem q194_129_1 (E : mj_E) (d w c : Nat) (hi : Nat → Nat → Int32) (hl : Nat → Nat → Int64) (v1 : Int32) (v2 : Int32) : mj_den mj_P E d 194 129 [Value.ref 205, Value.int v1, Value.int v2, Value.float 0] [] (mj_hw w c hi hl) = mj_bv (mj_dc mj_P E d 182 [Value.ref 205] (mj_hw w c hi hl)) (fun h1 => mj_den mj_P E d 194 133 [Value.ref 205, Value.int v1, Value.int v2, Value.float 0] [] h1) := by
  rw [mj_den_eq, f194_129]
  exact zt_aload_n rfl rfl (zt_call0_0 rfl (mjkd205 _ _ _ _) (Nat.le_of_ble_eq_true rfl) rfl rfl)
set_option maxRecDepth 100000 in
theorem f194_133 : mj_find (mj_P 194).2.2.2.2 133 = [(.iconst 1, 1, 1, []), (.istore_n 2, 1, 0, []), (.goto (-126), 3, 0, [9])] := rfl
set_option maxRecDepth 100000 in
theorem q194_133 (E : mj_E) (d w c : Nat) (hi : Nat → Nat → Int32) (hl : Nat → Nat → Int64) (v1 : Int32) (v2 : Int32) (v3 : Int32) : mj_den mj_P E d 194 133 [Value.ref 205, Value.int v1, Value.int v2, Value.int v3] [] (mj_hw w c hi hl) = mj_den mj_P E d 194 9 [Value.ref 205, Value.int v1, Value.int (1 : Int32), Value.int v3] [] (mj_hw w c hi hl) := by
  rw [mj_den_eq, f194_133]
  exact zt_iconst rfl (zt_istore_n (Nat.le_of_ble_eq_true rfl) rfl rfl (zt_goto rfl))
set_option maxRecDepth 100000 in
theorem q194_133_1 (E : mj_E) (d w c : Nat) (hi : Nat → Nat → Int32) (hl : Nat → Nat → Int64) (v1 : Int32) (v2 : Int32) : mj_den mj_P E d 194 133 [Value.ref 205, Value.int v1, Value.int v2, Value.float 0] [] (mj_hw w c hi hl) = mj_den mj_P E d 194 9 [Value.ref 205, Value.int v1, Value.int (1 : Int32), Value.float 0] [] (mj_hw w c hi hl) := by
  rw [mj_den_eq, f194_133]
  exact zt_iconst rfl (zt_istore_n (Nat.le_of_ble_eq_true rfl) rfl rfl (zt_goto rfl))
set_option maxRecDepth 100000 in
theorem f194_138 : mj_find (mj_P 194).2.2.2.2 138 = [(.aload_n 0, 1, 0, []), (.iconst 4, 1, 4, []), (.invokevirtual 234, 3, 0, [0, 184, 12, 1, 1, 1696, 1698, 55, 156, 1699])] := rfl
set_option maxRecDepth 100000 in
theorem q194_138 (E : mj_E) (d w c : Nat) (hi : Nat → Nat → Int32) (hl : Nat → Nat → Int64) (v1 : Int32) (v2 : Int32) (v3 : Int32) : mj_den mj_P E d 194 138 [Value.ref 205, Value.int v1, Value.int v2, Value.int v3] [] (mj_hw w c hi hl) = mj_bi (mj_dc mj_P E d 184 [Value.ref 205, Value.int (4 : Int32)] (mj_hw w c hi hl)) (fun x1 h1 => mj_den mj_P E d 194 143 [Value.ref 205, Value.int v1, Value.int v2, Value.int v3] [Value.int x1] h1) := by
  rw [mj_den_eq, f194_138]
  exact zt_aload_n rfl rfl (zt_iconst rfl (zt_call0_1 rfl (mjkd205 _ _ _ _) (Nat.le_of_ble_eq_true rfl) rfl rfl))
set_option maxRecDepth 100000 in
theorem q194_138_1 (E : mj_E) (d w c : Nat) (hi : Nat → Nat → Int32) (hl : Nat → Nat → Int64) (v1 : Int32) (v2 : Int32) : mj_den mj_P E d 194 138 [Value.ref 205, Value.int v1, Value.int v2, Value.float 0] [] (mj_hw w c hi hl) = mj_bi (mj_dc mj_P E d 184 [Value.ref 205, Value.int (4 : Int32)] (mj_hw w c hi hl)) (fun x1 h1 => mj_den mj_P E d 194 143 [Value.ref 205, Value.int v1, Value.int v2, Value.float 0] [Value.int x1] h1) := by
  rw [mj_den_eq, f194_138]
  exact zt_aload_n rfl rfl (zt_iconst rfl (zt_call0_1 rfl (mjkd205 _ _ _ _) (Nat.le_of_ble_eq_true rfl) rfl rfl))
set_option maxRecDepth 100000 in
theorem f194_143 : mj_find (mj_P 194).2.2.2.2 143 = [(.ifCond .eq 30, 3, 0, [173]), (.aload_n 0, 1, 0, []), (.bipush 10, 2, 10, []), (.invokevirtual 243, 3, 0, [0, 193, 12, 1, 0, 1780, 1782, 76, 156, 1783])] := rfl
set_option maxRecDepth 100000 in
theorem q194_143 (E : mj_E) (d w c : Nat) (hi : Nat → Nat → Int32) (hl : Nat → Nat → Int64) (v1 : Int32) (v2 : Int32) (v3 : Int32) (s0 : Int32) : mj_den mj_P E d 194 143 [Value.ref 205, Value.int v1, Value.int v2, Value.int v3] [Value.int s0] (mj_hw w c hi hl) = if s0 = 0 then mj_den mj_P E d 194 173 [Value.ref 205, Value.int v1, Value.int v2, Value.int v3] [] (mj_hw w c hi hl) else mj_bv (mj_dc mj_P E d 193 [Value.ref 205, Value.int (10 : Int32)] (mj_hw w c hi hl)) (fun h1 => mj_den mj_P E d 194 152 [Value.ref 205, Value.int v1, Value.int v2, Value.int v3] [] h1) := by
  rw [mj_den_eq, f194_143]
  exact zt_if_eq rfl rfl (zt_aload_n rfl rfl (zt_bipush rfl (zt_call0_0 rfl (mjkd205 _ _ _ _) (Nat.le_of_ble_eq_true rfl) rfl rfl)))
set_option maxRecDepth 100000 in
theorem q194_143_1 (E : mj_E) (d w c : Nat) (hi : Nat → Nat → Int32) (hl : Nat → Nat → Int64) (v1 : Int32) (v2 : Int32) (s0 : Int32) : mj_den mj_P E d 194 143 [Value.ref 205, Value.int v1, Value.int v2, Value.float 0] [Value.int s0] (mj_hw w c hi hl) = if s0 = 0 then mj_den mj_P E d 194 173 [Value.ref 205, Value.int v1, Value.int v2, Value.float 0] [] (mj_hw w c hi hl) else mj_bv (mj_dc mj_P E d 193 [Value.ref 205, Value.int (10 : Int32)] (mj_hw w c hi hl)) (fun h1 => mj_den mj_P E d 194 152 [Value.ref 205, Value.int v1, Value.int v2, Value.float 0] [] h1) := by
  rw [mj_den_eq, f194_143]
  exact zt_if_eq rfl rfl (zt_aload_n rfl rfl (zt_bipush rfl (zt_call0_0 rfl (mjkd205 _ _ _ _) (Nat.le_of_ble_eq_true rfl) rfl rfl)))
set_option maxRecDepth 100000 in
theorem f194_152 : mj_find (mj_P 194).2.2.2.2 152 = [(.aload_n 0, 1, 0, []), (.bipush 11, 2, 11, []), (.invokevirtual 243, 3, 0, [0, 193, 12, 1, 0, 1780, 1782, 76, 156, 1783])] := rfl
set_option maxRecDepth 100000 in
theorem q194_152 (E : mj_E) (d w c : Nat) (hi : Nat → Nat → Int32) (hl : Nat → Nat → Int64) (v1 : Int32) (v2 : Int32) (v3 : Int32) : mj_den mj_P E d 194 152 [Value.ref 205, Value.int v1, Value.int v2, Value.int v3] [] (mj_hw w c hi hl) = mj_bv (mj_dc mj_P E d 193 [Value.ref 205, Value.int (11 : Int32)] (mj_hw w c hi hl)) (fun h1 => mj_den mj_P E d 194 158 [Value.ref 205, Value.int v1, Value.int v2, Value.int v3] [] h1) := by
  rw [mj_den_eq, f194_152]
  exact zt_aload_n rfl rfl (zt_bipush rfl (zt_call0_0 rfl (mjkd205 _ _ _ _) (Nat.le_of_ble_eq_true rfl) rfl rfl))
set_option maxRecDepth 100000 in
theorem q194_152_1 (E : mj_E) (d w c : Nat) (hi : Nat → Nat → Int32) (hl : Nat → Nat → Int64) (v1 : Int32) (v2 : Int32) : mj_den mj_P E d 194 152 [Value.ref 205, Value.int v1, Value.int v2, Value.float 0] [] (mj_hw w c hi hl) = mj_bv (mj_dc mj_P E d 193 [Value.ref 205, Value.int (11 : Int32)] (mj_hw w c hi hl)) (fun h1 => mj_den mj_P E d 194 158 [Value.ref 205, Value.int v1, Value.int v2, Value.float 0] [] h1) := by
  rw [mj_den_eq, f194_152]
  exact zt_aload_n rfl rfl (zt_bipush rfl (zt_call0_0 rfl (mjkd205 _ _ _ _) (Nat.le_of_ble_eq_true rfl) rfl rfl))
set_option maxRecDepth 100000 in
theorem f194_158 : mj_find (mj_P 194).2.2.2.2 158 = [(.aload_n 0, 1, 0, []), (.bipush 11, 2, 11, []), (.invokevirtual 237, 3, 0, [0, 192, 12, 1, 0, 1772, 1774, 74, 156, 1775])] := rfl
set_option maxRecDepth 100000 in
theorem q194_158 (E : mj_E) (d w c : Nat) (hi : Nat → Nat → Int32) (hl : Nat → Nat → Int64) (v1 : Int32) (v2 : Int32) (v3 : Int32) : mj_den mj_P E d 194 158 [Value.ref 205, Value.int v1, Value.int v2, Value.int v3] [] (mj_hw w c hi hl) = mj_bv (mj_dc mj_P E d 192 [Value.ref 205, Value.int (11 : Int32)] (mj_hw w c hi hl)) (fun h1 => mj_den mj_P E d 194 164 [Value.ref 205, Value.int v1, Value.int v2, Value.int v3] [] h1) := by
  rw [mj_den_eq, f194_158]
  exact zt_aload_n rfl rfl (zt_bipush rfl (zt_call0_0 rfl (mjkd205 _ _ _ _) (Nat.le_of_ble_eq_true rfl) rfl rfl))
set_option maxRecDepth 100000 in
theorem q194_158_1 (E : mj_E) (d w c : Nat) (hi : Nat → Nat → Int32) (hl : Nat → Nat → Int64) (v1 : Int32) (v2 : Int32) : mj_den mj_P E d 194 158 [Value.ref 205, Value.int v1, Value.int v2, Value.float 0] [] (mj_hw w c hi hl) = mj_bv (mj_dc mj_P E d 192 [Value.ref 205, Value.int (11 : Int32)] (mj_hw w c hi hl)) (fun h1 => mj_den mj_P E d 194 164 [Value.ref 205, Value.int v1, Value.int v2, Value.float 0] [] h1) := by
  rw [mj_den_eq, f194_158]
  exact zt_aload_n rfl rfl (zt_bipush rfl (zt_call0_0 rfl (mjkd205 _ _ _ _) (Nat.le_of_ble_eq_true rfl) rfl rfl))
set_option maxRecDepth 100000 in
theorem f194_164 : mj_find (mj_P 194).2.2.2.2 164 = [(.aload_n 0, 1, 0, []), (.invokevirtual 212, 3, 0, [0, 182, 12, 0, 0, 1668, 1670, 48, 156, 1671])] := rfl
set_option maxRecDepth 100000 in
theorem q194_164 (E : mj_E) (d w c : Nat) (hi : Nat → Nat → Int32) (hl : Nat → Nat → Int64) (v1 : Int32) (v2 : Int32) (v3 : Int32) : mj_den mj_P E d 194 164 [Value.ref 205, Value.int v1, Value.int v2, Value.int v3] [] (mj_hw w c hi hl) = mj_bv (mj_dc mj_P E d 182 [Value.ref 205] (mj_hw w c hi hl)) (fun h1 => mj_den mj_P E d 194 168 [Value.ref 205, Value.int v1, Value.int v2, Value.int v3] [] h1) := by
  rw [mj_den_eq, f194_164]
  exact zt_aload_n rfl rfl (zt_call0_0 rfl (mjkd205 _ _ _ _) (Nat.le_of_ble_eq_true rfl) rfl rfl)
set_option maxRecDepth 100000 in
theorem q194_164_1 (E : mj_E) (d w c : Nat) (hi : Nat → Nat → Int32) (hl : Nat → Nat → Int64) (v1 : Int32) (v2 : Int32) : mj_den mj_P E d 194 164 [Value.ref 205, Value.int v1, Value.int v2, Value.float 0] [] (mj_hw w c hi hl) = mj_bv (mj_dc mj_P E d 182 [Value.ref 205] (mj_hw w c hi hl)) (fun h1 => mj_den mj_P E d 194 168 [Value.ref 205, Value.int v1, Value.int v2, Value.float 0] [] h1) := by
  rw [mj_den_eq, f194_164]
  exact zt_aload_n rfl rfl (zt_call0_0 rfl (mjkd205 _ _ _ _) (Nat.le_of_ble_eq_true rfl) rfl rfl)
set_option maxRecDepth 100000 in
theorem f194_168 : mj_find (mj_P 194).2.2.2.2 168 = [(.iconst 1, 1, 1, []), (.istore_n 2, 1, 0, []), (.goto (-161), 3, 0, [9])] := rfl
set_option maxRecDepth 100000 in
theorem q194_168 (E : mj_E) (d w c : Nat) (hi : Nat → Nat → Int32) (hl : Nat → Nat → Int64) (v1 : Int32) (v2 : Int32) (v3 : Int32) : mj_den mj_P E d 194 168 [Value.ref 205, Value.int v1, Value.int v2, Value.int v3] [] (mj_hw w c hi hl) = mj_den mj_P E d 194 9 [Value.ref 205, Value.int v1, Value.int (1 : Int32), Value.int v3] [] (mj_hw w c hi hl) := by
  rw [mj_den_eq, f194_168]
  exact zt_iconst rfl (zt_istore_n (Nat.le_of_ble_eq_true rfl) rfl rfl (zt_goto rfl))
set_option maxRecDepth 100000 in
theorem q194_168_1 (E : mj_E) (d w c : Nat) (hi : Nat → Nat → Int32) (hl : Nat → Nat → Int64) (v1 : Int32) (v2 : Int32) : mj_den mj_P E d 194 168 [Value.ref 205, Value.int v1, Value.int v2, Value.float 0] [] (mj_hw w c hi hl) = mj_den mj_P E d 194 9 [Value.ref 205, Value.int v1, Value.int (1 : Int32), Value.float 0] [] (mj_hw w c hi hl) := by
  rw [mj_den_eq, f194_168]
  exact zt_iconst rfl (zt_istore_n (Nat.le_of_ble_eq_true rfl) rfl rfl (zt_goto rfl))
set_option maxRecDepth 100000 in
theorem f194_173 : mj_find (mj_P 194).2.2.2.2 173 = [(.aload_n 0, 1, 0, []), (.bipush 10, 2, 10, []), (.invokevirtual 243, 3, 0, [0, 193, 12, 1, 0, 1780, 1782, 76, 156, 1783])] := rfl
set_option maxRecDepth 100000 in
theorem q194_173 (E : mj_E) (d w c : Nat) (hi : Nat → Nat → Int32) (hl : Nat → Nat → Int64) (v1 : Int32) (v2 : Int32) (v3 : Int32) : mj_den mj_P E d 194 173 [Value.ref 205, Value.int v1, Value.int v2, Value.int v3] [] (mj_hw w c hi hl) = mj_bv (mj_dc mj_P E d 193 [Value.ref 205, Value.int (10 : Int32)] (mj_hw w c hi hl)) (fun h1 => mj_den mj_P E d 194 179 [Value.ref 205, Value.int v1, Value.int v2, Value.int v3] [] h1) := by
  rw [mj_den_eq, f194_173]
  exact zt_aload_n rfl rfl (zt_bipush rfl (zt_call0_0 rfl (mjkd205 _ _ _ _) (Nat.le_of_ble_eq_true rfl) rfl rfl))
set_option maxRecDepth 100000 in
theorem q194_173_1 (E : mj_E) (d w c : Nat) (hi : Nat → Nat → Int32) (hl : Nat → Nat → Int64) (v1 : Int32) (v2 : Int32) : mj_den mj_P E d 194 173 [Value.ref 205, Value.int v1, Value.int v2, Value.float 0] [] (mj_hw w c hi hl) = mj_bv (mj_dc mj_P E d 193 [Value.ref 205, Value.int (10 : Int32)] (mj_hw w c hi hl)) (fun h1 => mj_den mj_P E d 194 179 [Value.ref 205, Value.int v1, Value.int v2, Value.float 0] [] h1) := by
  rw [mj_den_eq, f194_173]
  exact zt_aload_n rfl rfl (zt_bipush rfl (zt_call0_0 rfl (mjkd205 _ _ _ _) (Nat.le_of_ble_eq_true rfl) rfl rfl))
set_option maxRecDepth 100000 in
theorem f194_179 : mj_find (mj_P 194).2.2.2.2 179 = [(.aload_n 0, 1, 0, []), (.bipush 11, 2, 11, []), (.invokevirtual 243, 3, 0, [0, 193, 12, 1, 0, 1780, 1782, 76, 156, 1783])] := rfl
set_option maxRecDepth 100000 in
theorem q194_179 (E : mj_E) (d w c : Nat) (hi : Nat → Nat → Int32) (hl : Nat → Nat → Int64) (v1 : Int32) (v2 : Int32) (v3 : Int32) : mj_den mj_P E d 194 179 [Value.ref 205, Value.int v1, Value.int v2, Value.int v3] [] (mj_hw w c hi hl) = mj_bv (mj_dc mj_P E d 193 [Value.ref 205, Value.int (11 : Int32)] (mj_hw w c hi hl)) (fun h1 => mj_den mj_P E d 194 185 [Value.ref 205, Value.int v1, Value.int v2, Value.int v3] [] h1) := by
  rw [mj_den_eq, f194_179]
  exact zt_aload_n rfl rfl (zt_bipush rfl (zt_call0_0 rfl (mjkd205 _ _ _ _) (Nat.le_of_ble_eq_true rfl) rfl rfl))
set_option maxRecDepth 100000 in
theorem q194_179_1 (E : mj_E) (d w c : Nat) (hi : Nat → Nat → Int32) (hl : Nat → Nat → Int64) (v1 : Int32) (v2 : Int32) : mj_den mj_P E d 194 179 [Value.ref 205, Value.int v1, Value.int v2, Value.float 0] [] (mj_hw w c hi hl) = mj_bv (mj_dc mj_P E d 193 [Value.ref 205, Value.int (11 : Int32)] (mj_hw w c hi hl)) (fun h1 => mj_den mj_P E d 194 185 [Value.ref 205, Value.int v1, Value.int v2, Value.float 0] [] h1) := by
  rw [mj_den_eq, f194_179]
  exact zt_aload_n rfl rfl (zt_bipush rfl (zt_call0_0 rfl (mjkd205 _ _ _ _) (Nat.le_of_ble_eq_true rfl) rfl rfl))
set_option maxRecDepth 100000 in
theorem f194_185 : mj_find (mj_P 194).2.2.2.2 185 = [(.iload_n 1, 1, 0, []), (.ifCond .ne 5, 3, 0, [191]), (.iconst 0, 1, 0, []), (.ireturn, 1, 0, [0])] := rfl
set_option maxRecDepth 100000 in
theorem q194_185 (E : mj_E) (d w c : Nat) (hi : Nat → Nat → Int32) (hl : Nat → Nat → Int64) (v1 : Int32) (v2 : Int32) (v3 : Int32) : mj_den mj_P E d 194 185 [Value.ref 205, Value.int v1, Value.int v2, Value.int v3] [] (mj_hw w c hi hl) = if ¬ v1 = 0 then mj_den mj_P E d 194 191 [Value.ref 205, Value.int v1, Value.int v2, Value.int v3] [] (mj_hw w c hi hl) else some (some (Value.int (0 : Int32)), (mj_hw w c hi hl)) := by
  rw [mj_den_eq, f194_185]
  exact zt_iload_n rfl rfl (zt_if_ne rfl rfl (zt_iconst rfl (zt_ireturn0)))
set_option maxRecDepth 100000 in
theorem q194_185_1 (E : mj_E) (d w c : Nat) (hi : Nat → Nat → Int32) (hl : Nat → Nat → Int64) (v1 : Int32) (v2 : Int32) : mj_den mj_P E d 194 185 [Value.ref 205, Value.int v1, Value.int v2, Value.float 0] [] (mj_hw w c hi hl) = if ¬ v1 = 0 then mj_den mj_P E d 194 191 [Value.ref 205, Value.int v1, Value.int v2, Value.float 0] [] (mj_hw w c hi hl) else some (some (Value.int (0 : Int32)), (mj_hw w c hi hl)) := by
  rw [mj_den_eq, f194_185]
  exact zt_iload_n rfl rfl (zt_if_ne rfl rfl (zt_iconst rfl (zt_ireturn0)))
set_option maxRecDepth 100000 in
theorem f194_191 : mj_find (mj_P 194).2.2.2.2 191 = [(.aload_n 0, 1, 0, []), (.bipush 41, 2, 41, []), (.invokevirtual 219, 3, 0, [0, 185, 12, 1, 1, 1720, 1722, 61, 156, 1723])] := rfl
set_option maxRecDepth 100000 in
theorem q194_191 (E : mj_E) (d w c : Nat) (hi : Nat → Nat → Int32) (hl : Nat → Nat → Int64) (v1 : Int32) (v2 : Int32) (v3 : Int32) : mj_den mj_P E d 194 191 [Value.ref 205, Value.int v1, Value.int v2, Value.int v3] [] (mj_hw w c hi hl) = mj_bi (mj_dc mj_P E d 185 [Value.ref 205, Value.int (41 : Int32)] (mj_hw w c hi hl)) (fun x1 h1 => mj_den mj_P E d 194 197 [Value.ref 205, Value.int v1, Value.int v2, Value.int v3] [Value.int x1] h1) := by
  rw [mj_den_eq, f194_191]
  exact zt_aload_n rfl rfl (zt_bipush rfl (zt_call0_1 rfl (mjkd205 _ _ _ _) (Nat.le_of_ble_eq_true rfl) rfl rfl))
set_option maxRecDepth 100000 in
theorem q194_191_1 (E : mj_E) (d w c : Nat) (hi : Nat → Nat → Int32) (hl : Nat → Nat → Int64) (v1 : Int32) (v2 : Int32) : mj_den mj_P E d 194 191 [Value.ref 205, Value.int v1, Value.int v2, Value.float 0] [] (mj_hw w c hi hl) = mj_bi (mj_dc mj_P E d 185 [Value.ref 205, Value.int (41 : Int32)] (mj_hw w c hi hl)) (fun x1 h1 => mj_den mj_P E d 194 197 [Value.ref 205, Value.int v1, Value.int v2, Value.float 0] [Value.int x1] h1) := by
  rw [mj_den_eq, f194_191]
  exact zt_aload_n rfl rfl (zt_bipush rfl (zt_call0_1 rfl (mjkd205 _ _ _ _) (Nat.le_of_ble_eq_true rfl) rfl rfl))
set_option maxRecDepth 100000 in
theorem f194_197 : mj_find (mj_P 194).2.2.2.2 197 = [(.ifCond .ne 9, 3, 0, [206]), (.aload_n 0, 1, 0, []), (.iconst 1, 1, 1, []), (.invokevirtual 205, 3, 0, [0, 183, 12, 1, 1, 1700, 1702, 56, 156, 1703])] := rfl
set_option maxRecDepth 100000 in
theorem q194_197 (E : mj_E) (d w c : Nat) (hi : Nat → Nat → Int32) (hl : Nat → Nat → Int64) (v1 : Int32) (v2 : Int32) (v3 : Int32) (s0 : Int32) : mj_den mj_P E d 194 197 [Value.ref 205, Value.int v1, Value.int v2, Value.int v3] [Value.int s0] (mj_hw w c hi hl) = if ¬ s0 = 0 then mj_den mj_P E d 194 206 [Value.ref 205, Value.int v1, Value.int v2, Value.int v3] [] (mj_hw w c hi hl) else mj_bi (mj_dc mj_P E d 183 [Value.ref 205, Value.int (1 : Int32)] (mj_hw w c hi hl)) (fun x1 h1 => mj_den mj_P E d 194 205 [Value.ref 205, Value.int v1, Value.int v2, Value.int v3] [Value.int x1] h1) := by
  rw [mj_den_eq, f194_197]
  exact zt_if_ne rfl rfl (zt_aload_n rfl rfl (zt_iconst rfl (zt_call0_1 rfl (mjkd205 _ _ _ _) (Nat.le_of_ble_eq_true rfl) rfl rfl)))
set_option maxRecDepth 100000 in
theorem q194_197_1 (E : mj_E) (d w c : Nat) (hi : Nat → Nat → Int32) (hl : Nat → Nat → Int64) (v1 : Int32) (v2 : Int32) (s0 : Int32) : mj_den mj_P E d 194 197 [Value.ref 205, Value.int v1, Value.int v2, Value.float 0] [Value.int s0] (mj_hw w c hi hl) = if ¬ s0 = 0 then mj_den mj_P E d 194 206 [Value.ref 205, Value.int v1, Value.int v2, Value.float 0] [] (mj_hw w c hi hl) else mj_bi (mj_dc mj_P E d 183 [Value.ref 205, Value.int (1 : Int32)] (mj_hw w c hi hl)) (fun x1 h1 => mj_den mj_P E d 194 205 [Value.ref 205, Value.int v1, Value.int v2, Value.float 0] [Value.int x1] h1) := by
  rw [mj_den_eq, f194_197]
  exact zt_if_ne rfl rfl (zt_aload_n rfl rfl (zt_iconst rfl (zt_call0_1 rfl (mjkd205 _ _ _ _) (Nat.le_of_ble_eq_true rfl) rfl rfl)))
set_option maxRecDepth 100000 in
theorem f194_205 : mj_find (mj_P 194).2.2.2.2 205 = [(.ireturn, 1, 0, [0])] := rfl
set_option maxRecDepth 100000 in
theorem q194_205 (E : mj_E) (d w c : Nat) (hi : Nat → Nat → Int32) (hl : Nat → Nat → Int64) (v1 : Int32) (v2 : Int32) (v3 : Int32) (s0 : Int32) : mj_den mj_P E d 194 205 [Value.ref 205, Value.int v1, Value.int v2, Value.int v3] [Value.int s0] (mj_hw w c hi hl) = some (some (Value.int s0), (mj_hw w c hi hl)) := by
  rw [mj_den_eq, f194_205]
  exact zt_ireturn0
set_option maxRecDepth 100000 in
theorem q194_205_1 (E : mj_E) (d w c : Nat) (hi : Nat → Nat → Int32) (hl : Nat → Nat → Int64) (v1 : Int32) (v2 : Int32) (s0 : Int32) : mj_den mj_P E d 194 205 [Value.ref 205, Value.int v1, Value.int v2, Value.float 0] [Value.int s0] (mj_hw w c hi hl) = some (some (Value.int s0), (mj_hw w c hi hl)) := by
  rw [mj_den_eq, f194_205]
  exact zt_ireturn0
set_option maxRecDepth 100000 in
theorem f194_206 : mj_find (mj_P 194).2.2.2.2 206 = [(.aload_n 0, 1, 0, []), (.aload_n 0, 1, 0, []), (.getfield 228, 3, 0, [12, 31, 0, 1441]), (.iconst 1, 1, 1, []), (.isub, 1, 0, []), (.putfield 228, 3, 0, [12, 31, 0, 1441]), (.iload_n 1, 1, 0, []), (.iconst 1, 1, 1, []), (.isub, 1, 0, []), (.istore_n 1, 1, 0, []), (.aload_n 0, 1, 0, []), (.aload_n 0, 1, 0, []), (.getfield 231, 3, 0, [12, 29, 0, 1439]), (.iconst 1, 1, 1, []), (.isub, 1, 0, []), (.putfield 231, 3, 0, [12, 29, 0, 1439]), (.aload_n 0, 1, 0, []), (.bipush 9, 2, 9, []), (.invokevirtual 243, 3, 0, [0, 193, 12, 1, 0, 1780, 1782, 76, 156, 1783])] := rfl
set_option maxRecDepth 100000 in
theorem q194_206 (E : mj_E) (d w c : Nat) (hi : Nat → Nat → Int32) (hl : Nat → Nat → Int64) (v1 : Int32) (v2 : Int32) (v3 : Int32) : mj_den mj_P E d 194 206 [Value.ref 205, Value.int v1, Value.int v2, Value.int v3] [] (mj_hw w c hi hl) = mj_bv (mj_dc mj_P E d 193 [Value.ref 205, Value.int (9 : Int32)] (mj_hw w c (mj_u (mj_u hi 205 31 ((hi 205 31) - (1 : Int32))) 205 29 ((hi 205 29) - (1 : Int32))) hl)) (fun h1 => mj_den mj_P E d 194 236 [Value.ref 205, Value.int (v1 - (1 : Int32)), Value.int v2, Value.int v3] [] h1) := by
  rw [mj_den_eq, f194_206]
  exact zt_aload_n rfl rfl (zt_aload_n rfl rfl (zt_geti (mjkd205 _ _ _ _) rfl rfl (zt_iconst rfl (zt_isub rfl (zt_puti (mjkd205 _ _ _ _) rfl rfl (zt_iload_n rfl rfl (zt_iconst rfl (zt_isub rfl (zt_istore_n (Nat.le_of_ble_eq_true rfl) rfl rfl (zt_aload_n rfl rfl (zt_aload_n rfl rfl (zt_geti (mjkd205 _ _ _ _) rfl rfl (zt_iconst rfl (zt_isub rfl (zt_puti (mjkd205 _ _ _ _) rfl rfl (zt_aload_n rfl rfl (zt_bipush rfl (zt_call0_0 rfl (mjkd205 _ _ _ _) (Nat.le_of_ble_eq_true rfl) rfl rfl))))))))))))))))))
set_option maxRecDepth 100000 in
theorem q194_206_1 (E : mj_E) (d w c : Nat) (hi : Nat → Nat → Int32) (hl : Nat → Nat → Int64) (v1 : Int32) (v2 : Int32) : mj_den mj_P E d 194 206 [Value.ref 205, Value.int v1, Value.int v2, Value.float 0] [] (mj_hw w c hi hl) = mj_bv (mj_dc mj_P E d 193 [Value.ref 205, Value.int (9 : Int32)] (mj_hw w c (mj_u (mj_u hi 205 31 ((hi 205 31) - (1 : Int32))) 205 29 ((hi 205 29) - (1 : Int32))) hl)) (fun h1 => mj_den mj_P E d 194 236 [Value.ref 205, Value.int (v1 - (1 : Int32)), Value.int v2, Value.float 0] [] h1) := by
  rw [mj_den_eq, f194_206]
  exact zt_aload_n rfl rfl (zt_aload_n rfl rfl (zt_geti (mjkd205 _ _ _ _) rfl rfl (zt_iconst rfl (zt_isub rfl (zt_puti (mjkd205 _ _ _ _) rfl rfl (zt_iload_n rfl rfl (zt_iconst rfl (zt_isub rfl (zt_istore_n (Nat.le_of_ble_eq_true rfl) rfl rfl (zt_aload_n rfl rfl (zt_aload_n rfl rfl (zt_geti (mjkd205 _ _ _ _) rfl rfl (zt_iconst rfl (zt_isub rfl (zt_puti (mjkd205 _ _ _ _) rfl rfl (zt_aload_n rfl rfl (zt_bipush rfl (zt_call0_0 rfl (mjkd205 _ _ _ _) (Nat.le_of_ble_eq_true rfl) rfl rfl))))))))))))))))))
set_option maxRecDepth 100000 in
theorem f194_236 : mj_find (mj_P 194).2.2.2.2 236 = [(.aload_n 0, 1, 0, []), (.invokevirtual 212, 3, 0, [0, 182, 12, 0, 0, 1668, 1670, 48, 156, 1671])] := rfl
set_option maxRecDepth 100000 in
theorem q194_236 (E : mj_E) (d w c : Nat) (hi : Nat → Nat → Int32) (hl : Nat → Nat → Int64) (v1 : Int32) (v2 : Int32) (v3 : Int32) : mj_den mj_P E d 194 236 [Value.ref 205, Value.int v1, Value.int v2, Value.int v3] [] (mj_hw w c hi hl) = mj_bv (mj_dc mj_P E d 182 [Value.ref 205] (mj_hw w c hi hl)) (fun h1 => mj_den mj_P E d 194 240 [Value.ref 205, Value.int v1, Value.int v2, Value.int v3] [] h1) := by
  rw [mj_den_eq, f194_236]
  exact zt_aload_n rfl rfl (zt_call0_0 rfl (mjkd205 _ _ _ _) (Nat.le_of_ble_eq_true rfl) rfl rfl)
set_option maxRecDepth 100000 in
theorem q194_236_1 (E : mj_E) (d w c : Nat) (hi : Nat → Nat → Int32) (hl : Nat → Nat → Int64) (v1 : Int32) (v2 : Int32) : mj_den mj_P E d 194 236 [Value.ref 205, Value.int v1, Value.int v2, Value.float 0] [] (mj_hw w c hi hl) = mj_bv (mj_dc mj_P E d 182 [Value.ref 205] (mj_hw w c hi hl)) (fun h1 => mj_den mj_P E d 194 240 [Value.ref 205, Value.int v1, Value.int v2, Value.float 0] [] h1) := by
  rw [mj_den_eq, f194_236]
  exact zt_aload_n rfl rfl (zt_call0_0 rfl (mjkd205 _ _ _ _) (Nat.le_of_ble_eq_true rfl) rfl rfl)
set_option maxRecDepth 100000 in
theorem f194_240 : mj_find (mj_P 194).2.2.2.2 240 = [(.goto (-231), 3, 0, [9])] := rfl
set_option maxRecDepth 100000 in
theorem q194_240 (E : mj_E) (d w c : Nat) (hi : Nat → Nat → Int32) (hl : Nat → Nat → Int64) (v1 : Int32) (v2 : Int32) (v3 : Int32) : mj_den mj_P E d 194 240 [Value.ref 205, Value.int v1, Value.int v2, Value.int v3] [] (mj_hw w c hi hl) = mj_den mj_P E d 194 9 [Value.ref 205, Value.int v1, Value.int v2, Value.int v3] [] (mj_hw w c hi hl) := by
  rw [mj_den_eq, f194_240]
  exact zt_goto rfl
set_option maxRecDepth 100000 in
theorem q194_240_1 (E : mj_E) (d w c : Nat) (hi : Nat → Nat → Int32) (hl : Nat → Nat → Int64) (v1 : Int32) (v2 : Int32) : mj_den mj_P E d 194 240 [Value.ref 205, Value.int v1, Value.int v2, Value.float 0] [] (mj_hw w c hi hl) = mj_den mj_P E d 194 9 [Value.ref 205, Value.int v1, Value.int v2, Value.float 0] [] (mj_hw w c hi hl) := by
  rw [mj_den_eq, f194_240]
  exact zt_goto rfl
set_option maxRecDepth 100000 in
theorem f195_0 : mj_find (mj_P 195).2.2.2.2 0 = [(.aload_n 0, 1, 0, []), (.getfield 174, 3, 0, [12, 17, 0, 1427]), (.iconst 2, 1, 2, []), (.if_icmp .ne 20, 3, 0, [25]), (.aload_n 0, 1, 0, []), (.aload_n 0, 1, 0, []), (.getfield 177, 3, 0, [12, 18, 0, 1428]), (.iconst 0, 1, 0, []), (.iconst 2, 1, 2, []), (.invokevirtual 144, 3, 0, [0, 152, 12, 3, 1, 1624, 1626, 42, 156, 1627])] := rfl
set_option maxRecDepth 100000 in
theorem q195_0 (E : mj_E) (d w c : Nat) (hi : Nat → Nat → Int32) (hl : Nat → Nat → Int64) : mj_den mj_P E d 195 0 [Value.ref 205] [] (mj_hw w c hi hl) = if ¬ (hi 205 17) = (2 : Int32) then mj_den mj_P E d 195 25 [Value.ref 205] [] (mj_hw w c hi hl) else mj_bi (mj_dc mj_P E d 152 [Value.ref 205, Value.int (hi 205 18), Value.int (0 : Int32), Value.int (2 : Int32)] (mj_hw w c hi hl)) (fun x1 h1 => mj_den mj_P E d 195 18 [Value.ref 205] [Value.int x1] h1) := by
  rw [mj_den_eq, f195_0]
  exact zt_aload_n rfl rfl (zt_geti (mjkd205 _ _ _ _) rfl rfl (zt_iconst rfl (zt_icmp_ne rfl rfl (zt_aload_n rfl rfl (zt_aload_n rfl rfl (zt_geti (mjkd205 _ _ _ _) rfl rfl (zt_iconst rfl (zt_iconst rfl (zt_call0_1 rfl (mjkd205 _ _ _ _) (Nat.le_of_ble_eq_true rfl) rfl rfl)))))))))
set_option maxRecDepth 100000 in
theorem f195_18 : mj_find (mj_P 195).2.2.2.2 18 = [(.ifCond .eq 7, 3, 0, [25]), (.iconst 1, 1, 1, []), (.goto 4, 3, 0, [26])] := rfl
set_option maxRecDepth 100000 in
theorem q195_18 (E : mj_E) (d w c : Nat) (hi : Nat → Nat → Int32) (hl : Nat → Nat → Int64) (s0 : Int32) : mj_den mj_P E d 195 18 [Value.ref 205] [Value.int s0] (mj_hw w c hi hl) = if s0 = 0 then mj_den mj_P E d 195 25 [Value.ref 205] [] (mj_hw w c hi hl) else mj_den mj_P E d 195 26 [Value.ref 205] [Value.int (1 : Int32)] (mj_hw w c hi hl) := by
  rw [mj_den_eq, f195_18]
  exact zt_if_eq rfl rfl (zt_iconst rfl (zt_goto rfl))
set_option maxRecDepth 100000 in
theorem f195_25 : mj_find (mj_P 195).2.2.2.2 25 = [(.iconst 0, 1, 0, [])] := rfl
set_option maxRecDepth 100000 in
theorem q195_25 (E : mj_E) (d w c : Nat) (hi : Nat → Nat → Int32) (hl : Nat → Nat → Int64) : mj_den mj_P E d 195 25 [Value.ref 205] [] (mj_hw w c hi hl) = mj_den mj_P E d 195 26 [Value.ref 205] [Value.int (0 : Int32)] (mj_hw w c hi hl) := by
  rw [mj_den_eq, f195_25]
  exact zt_iconst rfl (zt_end rfl)
set_option maxRecDepth 100000 in
theorem f195_26 : mj_find (mj_P 195).2.2.2.2 26 = [(.ireturn, 1, 0, [1])] := rfl
set_option maxRecDepth 100000 in
theorem q195_26 (E : mj_E) (d w c : Nat) (hi : Nat → Nat → Int32) (hl : Nat → Nat → Int64) (s0 : Int32) : mj_den mj_P E d 195 26 [Value.ref 205] [Value.int s0] (mj_hw w c hi hl) = if s0 = 0 ∨ s0 = 1 then some (some (Value.int s0), (mj_hw w c hi hl)) else none := by
  rw [mj_den_eq, f195_26]
  exact zt_ireturn1
set_option maxRecDepth 100000 in
theorem f196_0 : mj_find (mj_P 196).2.2.2.2 0 = [(.iconst 0, 1, 0, []), (.istore_n 1, 1, 0, [])] := rfl
set_option maxRecDepth 100000 in
theorem q196_0 (E : mj_E) (d w c : Nat) (hi : Nat → Nat → Int32) (hl : Nat → Nat → Int64) : mj_den mj_P E d 196 0 [Value.ref 205, Value.float 0, Value.float 0] [] (mj_hw w c hi hl) = mj_den mj_P E d 196 2 [Value.ref 205, Value.int (0 : Int32), Value.float 0] [] (mj_hw w c hi hl) := by
  rw [mj_den_eq, f196_0]
  exact zt_iconst rfl (zt_istore_n (Nat.le_of_ble_eq_true rfl) rfl rfl (zt_end rfl))
set_option maxRecDepth 100000 in
theorem f196_2 : mj_find (mj_P 196).2.2.2.2 2 = [(.aload_n 0, 1, 0, []), (.invokevirtual 246, 3, 0, [0, 195, 12, 0, 1, 1744, 1746, 67, 156, 1747])] := rfl
set_option maxRecDepth 100000 in
theorem q196_2 (E : mj_E) (d w c : Nat) (hi : Nat → Nat → Int32) (hl : Nat → Nat → Int64) (v1 : Int32) : mj_den mj_P E d 196 2 [Value.ref 205, Value.int v1, Value.float 0] [] (mj_hw w c hi hl) = mj_bi (mj_dc mj_P E d 195 [Value.ref 205] (mj_hw w c hi hl)) (fun x1 h1 => mj_den mj_P E d 196 6 [Value.ref 205, Value.int v1, Value.float 0] [Value.int x1] h1) := by
  rw [mj_den_eq, f196_2]
  exact zt_aload_n rfl rfl (zt_call0_1 rfl (mjkd205 _ _ _ _) (Nat.le_of_ble_eq_true rfl) rfl rfl)
set_option maxRecDepth 100000 in
theorem q196_2_1 (E : mj_E) (d w c : Nat) (hi : Nat → Nat → Int32) (hl : Nat → Nat → Int64) (v1 : Int32) (v2 : Int32) : mj_den mj_P E d 196 2 [Value.ref 205, Value.int v1, Value.int v2] [] (mj_hw w c hi hl) = mj_bi (mj_dc mj_P E d 195 [Value.ref 205] (mj_hw w c hi hl)) (fun x1 h1 => mj_den mj_P E d 196 6 [Value.ref 205, Value.int v1, Value.int v2] [Value.int x1] h1) := by
  rw [mj_den_eq, f196_2]
  exact zt_aload_n rfl rfl (zt_call0_1 rfl (mjkd205 _ _ _ _) (Nat.le_of_ble_eq_true rfl) rfl rfl)
set_option maxRecDepth 100000 in
theorem f196_6 : mj_find (mj_P 196).2.2.2.2 6 = [(.ifCond .eq 122, 3, 0, [128]), (.iload_n 1, 1, 0, []), (.bipush 16, 2, 16, []), (.if_icmp .ne 9, 3, 0, [21]), (.aload_n 0, 1, 0, []), (.iconst 3, 1, 3, []), (.invokevirtual 205, 3, 0, [0, 183, 12, 1, 1, 1700, 1702, 56, 156, 1703])] := rfl
set_option maxRecDepth 100000 in
theorem q196_6 (E : mj_E) (d w c : Nat) (hi : Nat → Nat → Int32) (hl : Nat → Nat → Int64) (v1 : Int32) (s0 : Int32) : mj_den mj_P E d 196 6 [Value.ref 205, Value.int v1, Value.float 0] [Value.int s0] (mj_hw w c hi hl) = if s0 = 0 then mj_den mj_P E d 196 128 [Value.ref 205, Value.int v1, Value.float 0] [] (mj_hw w c hi hl) else if ¬ v1 = (16 : Int32) then mj_den mj_P E d 196 21 [Value.ref 205, Value.int v1, Value.float 0] [] (mj_hw w c hi hl) else mj_bi (mj_dc mj_P E d 183 [Value.ref 205, Value.int (3 : Int32)] (mj_hw w c hi hl)) (fun x1 h1 => mj_den mj_P E d 196 20 [Value.ref 205, Value.int v1, Value.float 0] [Value.int x1] h1) := by
  rw [mj_den_eq, f196_6]
  exact zt_if_eq rfl rfl (zt_iload_n rfl rfl (zt_bipush rfl (zt_icmp_ne rfl rfl (zt_aload_n rfl rfl (zt_iconst rfl (zt_call0_1 rfl (mjkd205 _ _ _ _) (Nat.le_of_ble_eq_true rfl) rfl rfl))))))
set_option maxRecDepth 100000 in
theorem q196_6_1 (E : mj_E) (d w c : Nat) (hi : Nat → Nat → Int32) (hl : Nat → Nat → Int64) (v1 : Int32) (v2 : Int32) (s0 : Int32) : mj_den mj_P E d 196 6 [Value.ref 205, Value.int v1, Value.int v2] [Value.int s0] (mj_hw w c hi hl) = if s0 = 0 then mj_den mj_P E d 196 128 [Value.ref 205, Value.int v1, Value.int v2] [] (mj_hw w c hi hl) else if ¬ v1 = (16 : Int32) then mj_den mj_P E d 196 21 [Value.ref 205, Value.int v1, Value.int v2] [] (mj_hw w c hi hl) else mj_bi (mj_dc mj_P E d 183 [Value.ref 205, Value.int (3 : Int32)] (mj_hw w c hi hl)) (fun x1 h1 => mj_den mj_P E d 196 20 [Value.ref 205, Value.int v1, Value.int v2] [Value.int x1] h1) := by
  rw [mj_den_eq, f196_6]
  exact zt_if_eq rfl rfl (zt_iload_n rfl rfl (zt_bipush rfl (zt_icmp_ne rfl rfl (zt_aload_n rfl rfl (zt_iconst rfl (zt_call0_1 rfl (mjkd205 _ _ _ _) (Nat.le_of_ble_eq_true rfl) rfl rfl))))))
set_option maxRecDepth 100000 in
theorem f196_20 : mj_find (mj_P 196).2.2.2.2 20 = [(.ireturn, 1, 0, [0])] := rfl
set_option maxRecDepth 100000 in
theorem q196_20 (E : mj_E) (d w c : Nat) (hi : Nat → Nat → Int32) (hl : Nat → Nat → Int64) (v1 : Int32) (s0 : Int32) : mj_den mj_P E d 196 20 [Value.ref 205, Value.int v1, Value.float 0] [Value.int s0] (mj_hw w c hi hl) = some (some (Value.int s0), (mj_hw w c hi hl)) := by
  rw [mj_den_eq, f196_20]
  exact zt_ireturn0
set_option maxRecDepth 100000 in
theorem q196_20_1 (E : mj_E) (d w c : Nat) (hi : Nat → Nat → Int32) (hl : Nat → Nat → Int64) (v1 : Int32) (v2 : Int32) (s0 : Int32) : mj_den mj_P E d 196 20 [Value.ref 205, Value.int v1, Value.int v2] [Value.int s0] (mj_hw w c hi hl) = some (some (Value.int s0), (mj_hw w c hi hl)) := by
  rw [mj_den_eq, f196_20]
  exact zt_ireturn0
set_option maxRecDepth 100000 in
theorem f196_21 : mj_find (mj_P 196).2.2.2.2 21 = [(.bipush 32, 2, 32, []), (.iload_n 1, 1, 0, []), (.iadd, 1, 0, []), (.istore_n 2, 1, 0, []), (.aload_n 0, 1, 0, []), (.getfield 43, 3, 0, [12, 21, 3, 1431]), (.iload_n 2, 1, 0, []), (.aload_n 0, 1, 0, []), (.getfield 177, 3, 0, [12, 18, 0, 1428]), (.iastore, 1, 0, []), (.aload_n 0, 1, 0, []), (.invokevirtual 212, 3, 0, [0, 182, 12, 0, 0, 1668, 1670, 48, 156, 1671])] := rfl
set_option maxRecDepth 100000 in
theorem q196_21 (E : mj_E) (d w c : Nat) (hi : Nat → Nat → Int32) (hl : Nat → Nat → Int64) (v1 : Int32) : mj_den mj_P E d 196 21 [Value.ref 205, Value.int v1, Value.float 0] [] (mj_hw w c hi hl) = if 0 ≤ ((32 : Int32) + v1) ∧ (((32 : Int32) + v1)).toNatClampNeg < 48 then mj_bv (mj_dc mj_P E d 182 [Value.ref 205] (mj_hw w c (mj_u hi 217 ((((32 : Int32) + v1)).toNatClampNeg) (hi 205 18)) hl)) (fun h1 => mj_den mj_P E d 196 40 [Value.ref 205, Value.int v1, Value.int ((32 : Int32) + v1)] [] h1) else none := by
  rw [mj_den_eq, f196_21]
  exact zt_bipush rfl (zt_iload_n rfl rfl (zt_iadd rfl (zt_istore_n (Nat.le_of_ble_eq_true rfl) rfl rfl (zt_aload_n rfl rfl (zt_getr (mjkd205 _ _ _ _) (mjhr205_21 w c) rfl (zt_iload_n rfl rfl (zt_aload_n rfl rfl (zt_geti (mjkd205 _ _ _ _) rfl rfl (zt_iast (mjkd217 _ _ _ _) (mjln217 _ _ _ _) rfl rfl (zt_aload_n rfl rfl (zt_call0_0 rfl (mjkd205 _ _ _ _) (Nat.le_of_ble_eq_true rfl) rfl rfl)))))))))))
set_option maxRecDepth 100000 in
theorem q196_21_1 (E : mj_E) (d w c : Nat) (hi : Nat → Nat → Int32) (hl : Nat → Nat → Int64) (v1 : Int32) (v2 : Int32) : mj_den mj_P E d 196 21 [Value.ref 205, Value.int v1, Value.int v2] [] (mj_hw w c hi hl) = if 0 ≤ ((32 : Int32) + v1) ∧ (((32 : Int32) + v1)).toNatClampNeg < 48 then mj_bv (mj_dc mj_P E d 182 [Value.ref 205] (mj_hw w c (mj_u hi 217 ((((32 : Int32) + v1)).toNatClampNeg) (hi 205 18)) hl)) (fun h1 => mj_den mj_P E d 196 40 [Value.ref 205, Value.int v1, Value.int ((32 : Int32) + v1)] [] h1) else none := by
  rw [mj_den_eq, f196_21]
  exact zt_bipush rfl (zt_iload_n rfl rfl (zt_iadd rfl (zt_istore_n (Nat.le_of_ble_eq_true rfl) rfl rfl (zt_aload_n rfl rfl (zt_getr (mjkd205 _ _ _ _) (mjhr205_21 w c) rfl (zt_iload_n rfl rfl (zt_aload_n rfl rfl (zt_geti (mjkd205 _ _ _ _) rfl rfl (zt_iast (mjkd217 _ _ _ _) (mjln217 _ _ _ _) rfl rfl (zt_aload_n rfl rfl (zt_call0_0 rfl (mjkd205 _ _ _ _) (Nat.le_of_ble_eq_true rfl) rfl rfl)))))))))))
set_option maxRecDepth 100000 in
theorem f196_40 : mj_find (mj_P 196).2.2.2.2 40 = [(.aload_n 0, 1, 0, []), (.getfield 46, 3, 0, [12, 22, 3, 1432]), (.iload_n 2, 1, 0, []), (.aload_n 0, 1, 0, []), (.getfield 199, 3, 0, [12, 28, 0, 1438]), (.iastore, 1, 0, []), (.aload_n 0, 1, 0, []), (.invokevirtual 225, 3, 0, [0, 190, 12, 0, 1, 1748, 1750, 68, 156, 1751])] := rfl
set_option maxRecDepth 100000 in
theorem q196_40 (E : mj_E) (d w c : Nat) (hi : Nat → Nat → Int32) (hl : Nat → Nat → Int64) (v1 : Int32) (v2 : Int32) : mj_den mj_P E d 196 40 [Value.ref 205, Value.int v1, Value.int v2] [] (mj_hw w c hi hl) = if 0 ≤ v2 ∧ (v2).toNatClampNeg < 48 then mj_bi (mj_dc mj_P E d 190 [Value.ref 205] (mj_hw w c (mj_u hi 218 ((v2).toNatClampNeg) (hi 205 28)) hl)) (fun x1 h1 => mj_den mj_P E d 196 54 [Value.ref 205, Value.int v1, Value.int v2] [Value.int x1] h1) else none := by
  rw [mj_den_eq, f196_40]
  exact zt_aload_n rfl rfl (zt_getr (mjkd205 _ _ _ _) (mjhr205_22 w c) rfl (zt_iload_n rfl rfl (zt_aload_n rfl rfl (zt_geti (mjkd205 _ _ _ _) rfl rfl (zt_iast (mjkd218 _ _ _ _) (mjln218 _ _ _ _) rfl rfl (zt_aload_n rfl rfl (zt_call0_1 rfl (mjkd205 _ _ _ _) (Nat.le_of_ble_eq_true rfl) rfl rfl)))))))
set_option maxRecDepth 100000 in
theorem f196_54 : mj_find (mj_P 196).2.2.2.2 54 = [(.iconst (-1), 1, (-1), []), (.if_icmp .ne 5, 3, 0, [60]), (.iconst (-1), 1, (-1), []), (.ireturn, 1, 0, [0])] := rfl
set_option maxRecDepth 100000 in
theorem q196_54 (E : mj_E) (d w c : Nat) (hi : Nat → Nat → Int32) (hl : Nat → Nat → Int64) (v1 : Int32) (v2 : Int32) (s0 : Int32) : mj_den mj_P E d 196 54 [Value.ref 205, Value.int v1, Value.int v2] [Value.int s0] (mj_hw w c hi hl) = if ¬ s0 = (-1 : Int32) then mj_den mj_P E d 196 60 [Value.ref 205, Value.int v1, Value.int v2] [] (mj_hw w c hi hl) else some (some (Value.int (-1 : Int32)), (mj_hw w c hi hl)) := by
  rw [mj_den_eq, f196_54]
  exact zt_iconst rfl (zt_icmp_ne rfl rfl (zt_iconst rfl (zt_ireturn0)))
set_option maxRecDepth 100000 in
theorem f196_60 : mj_find (mj_P 196).2.2.2.2 60 = [(.aload_n 0, 1, 0, []), (.getfield 49, 3, 0, [12, 23, 3, 1433]), (.iload_n 2, 1, 0, []), (.aload_n 0, 1, 0, []), (.getfield 199, 3, 0, [12, 28, 0, 1438]), (.iastore, 1, 0, []), (.aload_n 0, 1, 0, []), (.iconst 3, 1, 3, []), (.invokevirtual 234, 3, 0, [0, 184, 12, 1, 1, 1696, 1698, 55, 156, 1699])] := rfl
set_option maxRecDepth 100000 in
theorem q196_60 (E : mj_E) (d w c : Nat) (hi : Nat → Nat → Int32) (hl : Nat → Nat → Int64) (v1 : Int32) (v2 : Int32) : mj_den mj_P E d 196 60 [Value.ref 205, Value.int v1, Value.int v2] [] (mj_hw w c hi hl) = if 0 ≤ v2 ∧ (v2).toNatClampNeg < 48 then mj_bi (mj_dc mj_P E d 184 [Value.ref 205, Value.int (3 : Int32)] (mj_hw w c (mj_u hi 219 ((v2).toNatClampNeg) (hi 205 28)) hl)) (fun x1 h1 => mj_den mj_P E d 196 75 [Value.ref 205, Value.int v1, Value.int v2] [Value.int x1] h1) else none := by
  rw [mj_den_eq, f196_60]
  exact zt_aload_n rfl rfl (zt_getr (mjkd205 _ _ _ _) (mjhr205_23 w c) rfl (zt_iload_n rfl rfl (zt_aload_n rfl rfl (zt_geti (mjkd205 _ _ _ _) rfl rfl (zt_iast (mjkd219 _ _ _ _) (mjln219 _ _ _ _) rfl rfl (zt_aload_n rfl rfl (zt_iconst rfl (zt_call0_1 rfl (mjkd205 _ _ _ _) (Nat.le_of_ble_eq_true rfl) rfl rfl))))))))
set_option maxRecDepth 100000 in
theorem f196_75 : mj_find (mj_P 196).2.2.2.2 75 = [(.ifCond .eq 17, 3, 0, [92]), (.aload_n 0, 1, 0, []), (.invokevirtual 212, 3, 0, [0, 182, 12, 0, 0, 1668, 1670, 48, 156, 1671])] := rfl
set_option maxRecDepth 100000 in
theorem q196_75 (E : mj_E) (d w c : Nat) (hi : Nat → Nat → Int32) (hl : Nat → Nat → Int64) (v1 : Int32) (v2 : Int32) (s0 : Int32) : mj_den mj_P E d 196 75 [Value.ref 205, Value.int v1, Value.int v2] [Value.int s0] (mj_hw w c hi hl) = if s0 = 0 then mj_den mj_P E d 196 92 [Value.ref 205, Value.int v1, Value.int v2] [] (mj_hw w c hi hl) else mj_bv (mj_dc mj_P E d 182 [Value.ref 205] (mj_hw w c hi hl)) (fun h1 => mj_den mj_P E d 196 82 [Value.ref 205, Value.int v1, Value.int v2] [] h1) := by
  rw [mj_den_eq, f196_75]
  exact zt_if_eq rfl rfl (zt_aload_n rfl rfl (zt_call0_0 rfl (mjkd205 _ _ _ _) (Nat.le_of_ble_eq_true rfl) rfl rfl))
set_option maxRecDepth 100000 in
theorem f196_82 : mj_find (mj_P 196).2.2.2.2 82 = [(.aload_n 0, 1, 0, []), (.invokevirtual 250, 3, 0, [0, 194, 12, 0, 1, 1768, 1770, 73, 156, 1771])] := rfl
set_option maxRecDepth 100000 in
theorem q196_82 (E : mj_E) (d w c : Nat) (hi : Nat → Nat → Int32) (hl : Nat → Nat → Int64) (v1 : Int32) (v2 : Int32) : mj_den mj_P E d 196 82 [Value.ref 205, Value.int v1, Value.int v2] [] (mj_hw w c hi hl) = mj_bi (mj_dc mj_P E d 194 [Value.ref 205] (mj_hw w c hi hl)) (fun x1 h1 => mj_den mj_P E d 196 86 [Value.ref 205, Value.int v1, Value.int v2] [Value.int x1] h1) := by
  rw [mj_den_eq, f196_82]
  exact zt_aload_n rfl rfl (zt_call0_1 rfl (mjkd205 _ _ _ _) (Nat.le_of_ble_eq_true rfl) rfl rfl)
set_option maxRecDepth 100000 in
theorem f196_86 : mj_find (mj_P 196).2.2.2.2 86 = [(.iconst (-1), 1, (-1), []), (.if_icmp .ne 5, 3, 0, [92]), (.iconst (-1), 1, (-1), []), (.ireturn, 1, 0, [0])] := rfl
set_option maxRecDepth 100000 in
theorem q196_86 (E : mj_E) (d w c : Nat) (hi : Nat → Nat → Int32) (hl : Nat → Nat → Int64) (v1 : Int32) (v2 : Int32) (s0 : Int32) : mj_den mj_P E d 196 86 [Value.ref 205, Value.int v1, Value.int v2] [Value.int s0] (mj_hw w c hi hl) = if ¬ s0 = (-1 : Int32) then mj_den mj_P E d 196 92 [Value.ref 205, Value.int v1, Value.int v2] [] (mj_hw w c hi hl) else some (some (Value.int (-1 : Int32)), (mj_hw w c hi hl)) := by
  rw [mj_den_eq, f196_86]
  exact zt_iconst rfl (zt_icmp_ne rfl rfl (zt_iconst rfl (zt_ireturn0)))
set_option maxRecDepth 100000 in
theorem f196_92 : mj_find (mj_P 196).2.2.2.2 92 = [(.aload_n 0, 1, 0, []), (.getfield 52, 3, 0, [12, 24, 3, 1434]), (.iload_n 2, 1, 0, []), (.aload_n 0, 1, 0, []), (.getfield 199, 3, 0, [12, 28, 0, 1438]), (.iastore, 1, 0, []), (.aload_n 0, 1, 0, []), (.bipush 59, 2, 59, []), (.invokevirtual 219, 3, 0, [0, 185, 12, 1, 1, 1720, 1722, 61, 156, 1723])] := rfl
set_option maxRecDepth 100000 in
theorem q196_92 (E : mj_E) (d w c : Nat) (hi : Nat → Nat → Int32) (hl : Nat → Nat → Int64) (v1 : Int32) (v2 : Int32) : mj_den mj_P E d 196 92 [Value.ref 205, Value.int v1, Value.int v2] [] (mj_hw w c hi hl) = if 0 ≤ v2 ∧ (v2).toNatClampNeg < 48 then mj_bi (mj_dc mj_P E d 185 [Value.ref 205, Value.int (59 : Int32)] (mj_hw w c (mj_u hi 220 ((v2).toNatClampNeg) (hi 205 28)) hl)) (fun x1 h1 => mj_den mj_P E d 196 108 [Value.ref 205, Value.int v1, Value.int v2] [Value.int x1] h1) else none := by
  rw [mj_den_eq, f196_92]
  exact zt_aload_n rfl rfl (zt_getr (mjkd205 _ _ _ _) (mjhr205_24 w c) rfl (zt_iload_n rfl rfl (zt_aload_n rfl rfl (zt_geti (mjkd205 _ _ _ _) rfl rfl (zt_iast (mjkd220 _ _ _ _) (mjln220 _ _ _ _) rfl rfl (zt_aload_n rfl rfl (zt_bipush rfl (zt_call0_1 rfl (mjkd205 _ _ _ _) (Nat.le_of_ble_eq_true rfl) rfl rfl))))))))
set_option maxRecDepth 100000 in
theorem f196_108 : mj_find (mj_P 196).2.2.2.2 108 = [(.ifCond .ne 9, 3, 0, [117]), (.aload_n 0, 1, 0, []), (.iconst 1, 1, 1, []), (.invokevirtual 205, 3, 0, [0, 183, 12, 1, 1, 1700, 1702, 56, 156, 1703])] := rfl
set_option maxRecDepth 100000 in
theorem q196_108 (E : mj_E) (d w c : Nat) (hi : Nat → Nat → Int32) (hl : Nat → Nat → Int64) (v1 : Int32) (v2 : Int32) (s0 : Int32) : mj_den mj_P E d 196 108 [Value.ref 205, Value.int v1, Value.int v2] [Value.int s0] (mj_hw w c hi hl) = if ¬ s0 = 0 then mj_den mj_P E d 196 117 [Value.ref 205, Value.int v1, Value.int v2] [] (mj_hw w c hi hl) else mj_bi (mj_dc mj_P E d 183 [Value.ref 205, Value.int (1 : Int32)] (mj_hw w c hi hl)) (fun x1 h1 => mj_den mj_P E d 196 116 [Value.ref 205, Value.int v1, Value.int v2] [Value.int x1] h1) := by
  rw [mj_den_eq, f196_108]
  exact zt_if_ne rfl rfl (zt_aload_n rfl rfl (zt_iconst rfl (zt_call0_1 rfl (mjkd205 _ _ _ _) (Nat.le_of_ble_eq_true rfl) rfl rfl)))
set_option maxRecDepth 100000 in
theorem f196_116 : mj_find (mj_P 196).2.2.2.2 116 = [(.ireturn, 1, 0, [0])] := rfl
set_option maxRecDepth 100000 in
theorem q196_116 (E : mj_E) (d w c : Nat) (hi : Nat → Nat → Int32) (hl : Nat → Nat → Int64) (v1 : Int32) (v2 : Int32) (s0 : Int32) : mj_den mj_P E d 196 116 [Value.ref 205, Value.int v1, Value.int v2] [Value.int s0] (mj_hw w c hi hl) = some (some (Value.int s0), (mj_hw w c hi hl)) := by
  rw [mj_den_eq, f196_116]
  exact zt_ireturn0
set_option maxRecDepth 100000 in
theorem f196_117 : mj_find (mj_P 196).2.2.2.2 117 = [(.aload_n 0, 1, 0, []), (.invokevirtual 212, 3, 0, [0, 182, 12, 0, 0, 1668, 1670, 48, 156, 1671])] := rfl
set_option maxRecDepth 100000 in
theorem q196_117 (E : mj_E) (d w c : Nat) (hi : Nat → Nat → Int32) (hl : Nat → Nat → Int64) (v1 : Int32) (v2 : Int32) : mj_den mj_P E d 196 117 [Value.ref 205, Value.int v1, Value.int v2] [] (mj_hw w c hi hl) = mj_bv (mj_dc mj_P E d 182 [Value.ref 205] (mj_hw w c hi hl)) (fun h1 => mj_den mj_P E d 196 121 [Value.ref 205, Value.int v1, Value.int v2] [] h1) := by
  rw [mj_den_eq, f196_117]
  exact zt_aload_n rfl rfl (zt_call0_0 rfl (mjkd205 _ _ _ _) (Nat.le_of_ble_eq_true rfl) rfl rfl)
set_option maxRecDepth 100000 in
theorem f196_121 : mj_find (mj_P 196).2.2.2.2 121 = [(.iload_n 1, 1, 0, []), (.iconst 1, 1, 1, []), (.iadd, 1, 0, []), (.istore_n 1, 1, 0, []), (.goto (-123), 3, 0, [2])] := rfl
set_option maxRecDepth 100000 in
theorem q196_121 (E : mj_E) (d w c : Nat) (hi : Nat → Nat → Int32) (hl : Nat → Nat → Int64) (v1 : Int32) (v2 : Int32) : mj_den mj_P E d 196 121 [Value.ref 205, Value.int v1, Value.int v2] [] (mj_hw w c hi hl) = mj_den mj_P E d 196 2 [Value.ref 205, Value.int (v1 + (1 : Int32)), Value.int v2] [] (mj_hw w c hi hl) := by
  rw [mj_den_eq, f196_121]
  exact zt_iload_n rfl rfl (zt_iconst rfl (zt_iadd rfl (zt_istore_n (Nat.le_of_ble_eq_true rfl) rfl rfl (zt_goto rfl))))
set_option maxRecDepth 100000 in
theorem f196_128 : mj_find (mj_P 196).2.2.2.2 128 = [(.aload_n 0, 1, 0, []), (.getfield 174, 3, 0, [12, 17, 0, 1427]), (.ifCond .ne 7, 3, 0, [139]), (.iload_n 1, 1, 0, []), (.goto 8, 3, 0, [144])] := rfl
set_option maxRecDepth 100000 in
theorem q196_128 (E : mj_E) (d w c : Nat) (hi : Nat → Nat → Int32) (hl : Nat → Nat → Int64) (v1 : Int32) (v2 : Int32) : mj_den mj_P E d 196 128 [Value.ref 205, Value.int v1, Value.int v2] [] (mj_hw w c hi hl) = if ¬ (hi 205 17) = 0 then mj_den mj_P E d 196 139 [Value.ref 205, Value.int v1, Value.int v2] [] (mj_hw w c hi hl) else mj_den mj_P E d 196 144 [Value.ref 205, Value.int v1, Value.int v2] [Value.int v1] (mj_hw w c hi hl) := by
  rw [mj_den_eq, f196_128]
  exact zt_aload_n rfl rfl (zt_geti (mjkd205 _ _ _ _) rfl rfl (zt_if_ne rfl rfl (zt_iload_n rfl rfl (zt_goto rfl))))
set_option maxRecDepth 100000 in
theorem q196_128_1 (E : mj_E) (d w c : Nat) (hi : Nat → Nat → Int32) (hl : Nat → Nat → Int64) (v1 : Int32) : mj_den mj_P E d 196 128 [Value.ref 205, Value.int v1, Value.float 0] [] (mj_hw w c hi hl) = if ¬ (hi 205 17) = 0 then mj_den mj_P E d 196 139 [Value.ref 205, Value.int v1, Value.float 0] [] (mj_hw w c hi hl) else mj_den mj_P E d 196 144 [Value.ref 205, Value.int v1, Value.float 0] [Value.int v1] (mj_hw w c hi hl) := by
  rw [mj_den_eq, f196_128]
  exact zt_aload_n rfl rfl (zt_geti (mjkd205 _ _ _ _) rfl rfl (zt_if_ne rfl rfl (zt_iload_n rfl rfl (zt_goto rfl))))
set_option maxRecDepth 100000 in
theorem f196_139 : mj_find (mj_P 196).2.2.2.2 139 = [(.aload_n 0, 1, 0, []), (.iconst 1, 1, 1, []), (.invokevirtual 205, 3, 0, [0, 183, 12, 1, 1, 1700, 1702, 56, 156, 1703])] := rfl
set_option maxRecDepth 100000 in
theorem q196_139 (E : mj_E) (d w c : Nat) (hi : Nat → Nat → Int32) (hl : Nat → Nat → Int64) (v1 : Int32) (v2 : Int32) : mj_den mj_P E d 196 139 [Value.ref 205, Value.int v1, Value.int v2] [] (mj_hw w c hi hl) = mj_bi (mj_dc mj_P E d 183 [Value.ref 205, Value.int (1 : Int32)] (mj_hw w c hi hl)) (fun x1 h1 => mj_den mj_P E d 196 144 [Value.ref 205, Value.int v1, Value.int v2] [Value.int x1] h1) := by
  rw [mj_den_eq, f196_139]
  exact zt_aload_n rfl rfl (zt_iconst rfl (zt_call0_1 rfl (mjkd205 _ _ _ _) (Nat.le_of_ble_eq_true rfl) rfl rfl))
set_option maxRecDepth 100000 in
theorem q196_139_1 (E : mj_E) (d w c : Nat) (hi : Nat → Nat → Int32) (hl : Nat → Nat → Int64) (v1 : Int32) : mj_den mj_P E d 196 139 [Value.ref 205, Value.int v1, Value.float 0] [] (mj_hw w c hi hl) = mj_bi (mj_dc mj_P E d 183 [Value.ref 205, Value.int (1 : Int32)] (mj_hw w c hi hl)) (fun x1 h1 => mj_den mj_P E d 196 144 [Value.ref 205, Value.int v1, Value.float 0] [Value.int x1] h1) := by
  rw [mj_den_eq, f196_139]
  exact zt_aload_n rfl rfl (zt_iconst rfl (zt_call0_1 rfl (mjkd205 _ _ _ _) (Nat.le_of_ble_eq_true rfl) rfl rfl))
set_option maxRecDepth 100000 in
theorem f196_144 : mj_find (mj_P 196).2.2.2.2 144 = [(.ireturn, 1, 0, [0])] := rfl
set_option maxRecDepth 100000 in
theorem q196_144 (E : mj_E) (d w c : Nat) (hi : Nat → Nat → Int32) (hl : Nat → Nat → Int64) (v1 : Int32) (v2 : Int32) (s0 : Int32) : mj_den mj_P E d 196 144 [Value.ref 205, Value.int v1, Value.int v2] [Value.int s0] (mj_hw w c hi hl) = some (some (Value.int s0), (mj_hw w c hi hl)) := by
  rw [mj_den_eq, f196_144]
  exact zt_ireturn0
set_option maxRecDepth 100000 in
theorem q196_144_1 (E : mj_E) (d w c : Nat) (hi : Nat → Nat → Int32) (hl : Nat → Nat → Int64) (v1 : Int32) (s0 : Int32) : mj_den mj_P E d 196 144 [Value.ref 205, Value.int v1, Value.float 0] [Value.int s0] (mj_hw w c hi hl) = some (some (Value.int s0), (mj_hw w c hi hl)) := by
  rw [mj_den_eq, f196_144]
  exact zt_ireturn0
