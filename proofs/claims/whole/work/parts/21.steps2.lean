section MJB2
variable {E : mj_E} {C : Nat → List Value → mj_H → mj_R} {J : Nat → mj_K} {is : List mj_I} {pc pc' len : Nat} {cst : Int32} {ax : List Nat} {ls ls' st st' rest : List Value} {h h' : mj_H} {R R1 : mj_R}
theorem zt_iadd {x y : Int32} (hp : pc + len = pc') (k : mj_bl E C J is pc' ls (.int (x + y) :: st) h = R) : mj_bl E C J ((.iadd, len, cst, ax) :: is) pc ls (.int y :: .int x :: st) h = R := by subst hp; exact k
theorem zt_isub {x y : Int32} (hp : pc + len = pc') (k : mj_bl E C J is pc' ls (.int (x - y) :: st) h = R) : mj_bl E C J ((.isub, len, cst, ax) :: is) pc ls (.int y :: .int x :: st) h = R := by subst hp; exact k
theorem zt_imul {x y : Int32} (hp : pc + len = pc') (k : mj_bl E C J is pc' ls (.int (x * y) :: st) h = R) : mj_bl E C J ((.imul, len, cst, ax) :: is) pc ls (.int y :: .int x :: st) h = R := by subst hp; exact k
theorem zt_iand {x y : Int32} (hp : pc + len = pc') (k : mj_bl E C J is pc' ls (.int (x &&& y) :: st) h = R) : mj_bl E C J ((.iand, len, cst, ax) :: is) pc ls (.int y :: .int x :: st) h = R := by subst hp; exact k
theorem zt_ior {x y : Int32} (hp : pc + len = pc') (k : mj_bl E C J is pc' ls (.int (x ||| y) :: st) h = R) : mj_bl E C J ((.ior, len, cst, ax) :: is) pc ls (.int y :: .int x :: st) h = R := by subst hp; exact k
theorem zt_ixor {x y : Int32} (hp : pc + len = pc') (k : mj_bl E C J is pc' ls (.int (x ^^^ y) :: st) h = R) : mj_bl E C J ((.ixor, len, cst, ax) :: is) pc ls (.int y :: .int x :: st) h = R := by subst hp; exact k
theorem zt_ishl {x y : Int32} (hp : pc + len = pc') (k : mj_bl E C J is pc' ls (.int (x <<< (y &&& 31)) :: st) h = R) : mj_bl E C J ((.ishl, len, cst, ax) :: is) pc ls (.int y :: .int x :: st) h = R := by subst hp; exact k
theorem zt_ishr {x y : Int32} (hp : pc + len = pc') (k : mj_bl E C J is pc' ls (.int (x >>> (y &&& 31)) :: st) h = R) : mj_bl E C J ((.ishr, len, cst, ax) :: is) pc ls (.int y :: .int x :: st) h = R := by subst hp; exact k
theorem zt_iushr {x y : Int32} (hp : pc + len = pc') (k : mj_bl E C J is pc' ls (.int (mj_ush x y) :: st) h = R) : mj_bl E C J ((.iushr, len, cst, ax) :: is) pc ls (.int y :: .int x :: st) h = R := by subst hp; exact k
theorem zt_ladd {x y : Int64} (hp : pc + len = pc') (k : mj_bl E C J is pc' ls (.long (x + y) :: st) h = R) : mj_bl E C J ((.ladd, len, cst, ax) :: is) pc ls (.long y :: .long x :: st) h = R := by subst hp; exact k
theorem zt_lsub {x y : Int64} (hp : pc + len = pc') (k : mj_bl E C J is pc' ls (.long (x - y) :: st) h = R) : mj_bl E C J ((.lsub, len, cst, ax) :: is) pc ls (.long y :: .long x :: st) h = R := by subst hp; exact k
theorem zt_lmul {x y : Int64} (hp : pc + len = pc') (k : mj_bl E C J is pc' ls (.long (x * y) :: st) h = R) : mj_bl E C J ((.lmul, len, cst, ax) :: is) pc ls (.long y :: .long x :: st) h = R := by subst hp; exact k
theorem zt_land {x y : Int64} (hp : pc + len = pc') (k : mj_bl E C J is pc' ls (.long (x &&& y) :: st) h = R) : mj_bl E C J ((.land, len, cst, ax) :: is) pc ls (.long y :: .long x :: st) h = R := by subst hp; exact k
theorem zt_lor {x y : Int64} (hp : pc + len = pc') (k : mj_bl E C J is pc' ls (.long (x ||| y) :: st) h = R) : mj_bl E C J ((.lor, len, cst, ax) :: is) pc ls (.long y :: .long x :: st) h = R := by subst hp; exact k
theorem zt_lshl {x : Int64} {y : Int32} (hp : pc + len = pc') (k : mj_bl E C J is pc' ls (.long (x <<< (y.toInt64 &&& 63)) :: st) h = R) : mj_bl E C J ((.lshl, len, cst, ax) :: is) pc ls (.int y :: .long x :: st) h = R := by subst hp; exact k
theorem zt_lshr {x : Int64} {y : Int32} (hp : pc + len = pc') (k : mj_bl E C J is pc' ls (.long (x >>> (y.toInt64 &&& 63)) :: st) h = R) : mj_bl E C J ((.lshr, len, cst, ax) :: is) pc ls (.int y :: .long x :: st) h = R := by subst hp; exact k
theorem zt_lushr {x : Int64} {y : Int32} (hp : pc + len = pc') (k : mj_bl E C J is pc' ls (.long (mj_lush x y) :: st) h = R) : mj_bl E C J ((.lushr, len, cst, ax) :: is) pc ls (.int y :: .long x :: st) h = R := by subst hp; exact k
theorem zt_lcmp {x y : Int64} (hp : pc + len = pc') (k : mj_bl E C J is pc' ls (.int (lg_cmp x y) :: st) h = R) : mj_bl E C J ((.lcmp, len, cst, ax) :: is) pc ls (.long y :: .long x :: st) h = R := by subst hp; exact k
theorem zt_i2l {x : Int32} (hp : pc + len = pc') (k : mj_bl E C J is pc' ls (.long x.toInt64 :: st) h = R) : mj_bl E C J ((.i2l, len, cst, ax) :: is) pc ls (.int x :: st) h = R := by subst hp; exact k
theorem zt_i2b {x : Int32} (hp : pc + len = pc') (k : mj_bl E C J is pc' ls (.int x.toInt8.toInt32 :: st) h = R) : mj_bl E C J ((.i2b, len, cst, ax) :: is) pc ls (.int x :: st) h = R := by subst hp; exact k
theorem zt_i2c {x : Int32} (hp : pc + len = pc') (k : mj_bl E C J is pc' ls (.int (x.toUInt32 % 65536).toInt32 :: st) h = R) : mj_bl E C J ((.i2c, len, cst, ax) :: is) pc ls (.int x :: st) h = R := by subst hp; exact k
theorem zt_l2i {x : Int64} (hp : pc + len = pc') (k : mj_bl E C J is pc' ls (.int x.toInt32 :: st) h = R) : mj_bl E C J ((.l2i, len, cst, ax) :: is) pc ls (.long x :: st) h = R := by subst hp; exact k
theorem zt_dupi {x : Int32} (hp : pc + len = pc') (k : mj_bl E C J is pc' ls (.int x :: .int x :: st) h = R) : mj_bl E C J ((.dup, len, cst, ax) :: is) pc ls (.int x :: st) h = R := by subst hp; exact k
theorem zt_dupr {x : Nat} (hp : pc + len = pc') (k : mj_bl E C J is pc' ls (.ref x :: .ref x :: st) h = R) : mj_bl E C J ((.dup, len, cst, ax) :: is) pc ls (.ref x :: st) h = R := by subst hp; exact k
theorem zt_dup2i {x y : Int32} (hp : pc + len = pc') (k : mj_bl E C J is pc' ls (.int y :: .int x :: .int y :: .int x :: st) h = R) : mj_bl E C J ((.dup2, len, cst, ax) :: is) pc ls (.int y :: .int x :: st) h = R := by subst hp; exact k
theorem zt_dup2r {x : Nat} {y : Int32} (hp : pc + len = pc') (k : mj_bl E C J is pc' ls (.int y :: .ref x :: .int y :: .ref x :: st) h = R) : mj_bl E C J ((.dup2, len, cst, ax) :: is) pc ls (.int y :: .ref x :: st) h = R := by subst hp; exact k
theorem zt_pop {x : Int32} (hp : pc + len = pc') (k : mj_bl E C J is pc' ls (st) h = R) : mj_bl E C J ((.pop, len, cst, ax) :: is) pc ls (.int x :: st) h = R := by subst hp; exact k
theorem zt_idiv {x y : Int32} (hp : pc + len = pc') (k : mj_bl E C J is pc' ls (.int (x / y) :: st) h = R) : mj_bl E C J ((.idiv, len, cst, ax) :: is) pc ls (.int y :: .int x :: st) h = if y = 0 then none else R := by subst hp; subst k; rfl
theorem zt_irem {x y : Int32} (hp : pc + len = pc') (k : mj_bl E C J is pc' ls (.int (mj_rem x y) :: st) h = R) : mj_bl E C J ((.irem, len, cst, ax) :: is) pc ls (.int y :: .int x :: st) h = if y = 0 then none else R := by subst hp; subst k; rfl
theorem zt_ldiv {x y : Int64} (hp : pc + len = pc') (k : mj_bl E C J is pc' ls (.long (x / y) :: st) h = R) : mj_bl E C J ((.ldiv, len, cst, ax) :: is) pc ls (.long y :: .long x :: st) h = if y = 0 then none else R := by subst hp; subst k; rfl
theorem zt_icmp_eq {x y : Int32} {o : Int} {t : Nat} (hp : pc + len = pc') (k1 : J t ls st h = R1) (k : mj_bl E C J is pc' ls st h = R) : mj_bl E C J ((.if_icmp .eq o, len, cst, [t]) :: is) pc ls (.int y :: .int x :: st) h = if x = y then R1 else R := by subst hp; subst k; subst k1; rfl
theorem zt_icmp_ne {x y : Int32} {o : Int} {t : Nat} (hp : pc + len = pc') (k1 : J t ls st h = R1) (k : mj_bl E C J is pc' ls st h = R) : mj_bl E C J ((.if_icmp .ne o, len, cst, [t]) :: is) pc ls (.int y :: .int x :: st) h = if ¬ x = y then R1 else R := by subst hp; subst k; subst k1; rfl
theorem zt_icmp_lt {x y : Int32} {o : Int} {t : Nat} (hp : pc + len = pc') (k1 : J t ls st h = R1) (k : mj_bl E C J is pc' ls st h = R) : mj_bl E C J ((.if_icmp .lt o, len, cst, [t]) :: is) pc ls (.int y :: .int x :: st) h = if x < y then R1 else R := by subst hp; subst k; subst k1; rfl
theorem zt_icmp_ge {x y : Int32} {o : Int} {t : Nat} (hp : pc + len = pc') (k1 : J t ls st h = R1) (k : mj_bl E C J is pc' ls st h = R) : mj_bl E C J ((.if_icmp .ge o, len, cst, [t]) :: is) pc ls (.int y :: .int x :: st) h = if y ≤ x then R1 else R := by subst hp; subst k; subst k1; rfl
theorem zt_icmp_gt {x y : Int32} {o : Int} {t : Nat} (hp : pc + len = pc') (k1 : J t ls st h = R1) (k : mj_bl E C J is pc' ls st h = R) : mj_bl E C J ((.if_icmp .gt o, len, cst, [t]) :: is) pc ls (.int y :: .int x :: st) h = if y < x then R1 else R := by subst hp; subst k; subst k1; rfl
theorem zt_icmp_le {x y : Int32} {o : Int} {t : Nat} (hp : pc + len = pc') (k1 : J t ls st h = R1) (k : mj_bl E C J is pc' ls st h = R) : mj_bl E C J ((.if_icmp .le o, len, cst, [t]) :: is) pc ls (.int y :: .int x :: st) h = if x ≤ y then R1 else R := by subst hp; subst k; subst k1; rfl
theorem zt_if_eq {x : Int32} {o : Int} {t : Nat} (hp : pc + len = pc') (k1 : J t ls st h = R1) (k : mj_bl E C J is pc' ls st h = R) : mj_bl E C J ((.ifCond .eq o, len, cst, [t]) :: is) pc ls (.int x :: st) h = if x = 0 then R1 else R := by subst hp; subst k; subst k1; rfl
theorem zt_if_ne {x : Int32} {o : Int} {t : Nat} (hp : pc + len = pc') (k1 : J t ls st h = R1) (k : mj_bl E C J is pc' ls st h = R) : mj_bl E C J ((.ifCond .ne o, len, cst, [t]) :: is) pc ls (.int x :: st) h = if ¬ x = 0 then R1 else R := by subst hp; subst k; subst k1; rfl
theorem zt_if_lt {x : Int32} {o : Int} {t : Nat} (hp : pc + len = pc') (k1 : J t ls st h = R1) (k : mj_bl E C J is pc' ls st h = R) : mj_bl E C J ((.ifCond .lt o, len, cst, [t]) :: is) pc ls (.int x :: st) h = if x < 0 then R1 else R := by subst hp; subst k; subst k1; rfl
theorem zt_if_ge {x : Int32} {o : Int} {t : Nat} (hp : pc + len = pc') (k1 : J t ls st h = R1) (k : mj_bl E C J is pc' ls st h = R) : mj_bl E C J ((.ifCond .ge o, len, cst, [t]) :: is) pc ls (.int x :: st) h = if 0 ≤ x then R1 else R := by subst hp; subst k; subst k1; rfl
theorem zt_if_gt {x : Int32} {o : Int} {t : Nat} (hp : pc + len = pc') (k1 : J t ls st h = R1) (k : mj_bl E C J is pc' ls st h = R) : mj_bl E C J ((.ifCond .gt o, len, cst, [t]) :: is) pc ls (.int x :: st) h = if 0 < x then R1 else R := by subst hp; subst k; subst k1; rfl
theorem zt_if_le {x : Int32} {o : Int} {t : Nat} (hp : pc + len = pc') (k1 : J t ls st h = R1) (k : mj_bl E C J is pc' ls st h = R) : mj_bl E C J ((.ifCond .le o, len, cst, [t]) :: is) pc ls (.int x :: st) h = if x ≤ 0 then R1 else R := by subst hp; subst k; subst k1; rfl
theorem zt_nnr {x t : Nat} {o : Int} (k : J t ls st h = R) : mj_bl E C J ((.ifnonnull o, len, cst, [t]) :: is) pc ls (.ref x :: st) h = R := k
theorem zt_nnn {t : Nat} {o : Int} (hp : pc + len = pc') (k : mj_bl E C J is pc' ls st h = R) : mj_bl E C J ((.ifnonnull o, len, cst, [t]) :: is) pc ls (.null :: st) h = R := by subst hp; exact k
theorem zt_goto {t : Nat} {o : Int} (k : J t ls st h = R) : mj_bl E C J ((.goto o, len, cst, [t]) :: is) pc ls st h = R := k
theorem zt_sw {a b c : Int} {o : Array Int} {t : Nat} {ts : List Nat} {x : Int32} (k : J (mj_sw x cst t ts) ls st h = R) : mj_bl E C J ((.tableswitch a b c o, len, cst, t :: ts) :: is) pc ls (.int x :: st) h = R := k
theorem zt_getstatic0 {n q z : Nat} (hp : pc + len = pc') (k : mj_bl E C J is pc' ls (.retAddr 1 :: st) h = R) : mj_bl E C J ((.getstatic n, len, cst, [0, q, z]) :: is) pc ls st h = R := by subst hp; exact k
theorem zt_getstatic1 {n q z : Nat} (hp : pc + len = pc') (k : mj_bl E C J is pc' ls (.retAddr 2 :: st) h = R) : mj_bl E C J ((.getstatic n, len, cst, [1, q, z]) :: is) pc ls st h = R := by subst hp; exact k
theorem zt_getstatic2 {n q z : Nat} (hp : pc + len = pc') (k : mj_bl E C J is pc' ls (.int 1 :: st) h = R) : mj_bl E C J ((.getstatic n, len, cst, [2, q, z]) :: is) pc ls st h = R := by subst hp; exact k
theorem zt_getstatic3 {n q z : Nat} (hp : pc + len = pc') (k : mj_bl E C J is pc' ls (.retAddr 13 :: st) h = R) : mj_bl E C J ((.getstatic n, len, cst, [3, q, z]) :: is) pc ls st h = R := by subst hp; exact k
theorem zt_strv {n q j : Nat} (h1 : 3 ≤ j) (h2 : j < 8) (hp : pc + len = pc') (k : mj_bl E C J is pc' ls (.retAddr (j + 5) :: st) h = R) : mj_bl E C J ((.getfield n, len, cst, [0, q]) :: is) pc ls (.retAddr j :: st) h = R := by
  subst hp; show mj_g (3 ≤ j ∧ j < 8) _ = R; rw [mj_g_if, if_pos ⟨h1, h2⟩]; exact k
theorem zt_strc {n q j : Nat} (h1 : 3 ≤ j) (h2 : j < 8) (hp : pc + len = pc') (k : mj_bl E C J is pc' ls (.int 0 :: st) h = R) : mj_bl E C J ((.getfield n, len, cst, [1, q]) :: is) pc ls (.retAddr j :: st) h = R := by
  subst hp; show mj_g (3 ≤ j ∧ j < 8) _ = R; rw [mj_g_if, if_pos ⟨h1, h2⟩]; exact k
theorem zt_geti {n ci kk q a : Nat} {v : Int32} (hk : mj_kd h a = ci) (hv : h.1 a kk = v) (hp : pc + len = pc') (k : mj_bl E C J is pc' ls (.int v :: st) h = R) : mj_bl E C J ((.getfield n, len, cst, [ci, kk, 0, q]) :: is) pc ls (.ref a :: st) h = R := by
  subst hp; subst hv; show mj_getf [ci, kk, 0, q] ls (.ref a :: st) h _ = R
  unfold mj_getf; simp only [mj_g_if]; rw [if_pos hk]; exact k
theorem zt_getz {n ci kk q a : Nat} {v : Int32} (hk : mj_kd h a = ci) (hv : h.1 a kk = v) (hp : pc + len = pc') (k : mj_bl E C J is pc' ls (.int v :: st) h = R) : mj_bl E C J ((.getfield n, len, cst, [ci, kk, 1, q]) :: is) pc ls (.ref a :: st) h = R := by
  subst hp; subst hv; show mj_getf [ci, kk, 1, q] ls (.ref a :: st) h _ = R
  unfold mj_getf; simp only [mj_g_if]; rw [if_pos hk]; exact k
theorem zt_getr {n ci kk q a x : Nat} (hk : mj_kd h a = ci) (hv : h.2.2.1 a kk = .ref x) (hp : pc + len = pc') (k : mj_bl E C J is pc' ls (.ref x :: st) h = R) : mj_bl E C J ((.getfield n, len, cst, [ci, kk, 3, q]) :: is) pc ls (.ref a :: st) h = R := by
  subst hp; show mj_getf [ci, kk, 3, q] ls (.ref a :: st) h _ = R
  unfold mj_getf; simp only [mj_g_if]; rw [if_pos hk, hv]; exact k
theorem zt_getc {n ci kk q a x : Nat} (hk : mj_kd h a = ci) (hv : h.2.2.1 a kk = .retAddr x) (hp : pc + len = pc') (k : mj_bl E C J is pc' ls (.retAddr x :: st) h = R) : mj_bl E C J ((.getfield n, len, cst, [ci, kk, 3, q]) :: is) pc ls (.ref a :: st) h = R := by
  subst hp; show mj_getf [ci, kk, 3, q] ls (.ref a :: st) h _ = R
  unfold mj_getf; simp only [mj_g_if]; rw [if_pos hk, hv]; exact k
theorem zt_getn {n ci kk q a : Nat} (hk : mj_kd h a = ci) (hv : h.2.2.1 a kk = .null) (hp : pc + len = pc') (k : mj_bl E C J is pc' ls (.null :: st) h = R) : mj_bl E C J ((.getfield n, len, cst, [ci, kk, 3, q]) :: is) pc ls (.ref a :: st) h = R := by
  subst hp; show mj_getf [ci, kk, 3, q] ls (.ref a :: st) h _ = R
  unfold mj_getf; simp only [mj_g_if]; rw [if_pos hk, hv]; exact k
theorem zt_puti {n ci kk q a : Nat} {x : Int32} (hk : mj_kd h a = ci) (hh : mj_wi (mj_u h.1 a kk x) h = h') (hp : pc + len = pc') (k : mj_bl E C J is pc' ls st h' = R) : mj_bl E C J ((.putfield n, len, cst, [ci, kk, 0, q]) :: is) pc ls (.int x :: .ref a :: st) h = R := by
  subst hp; subst hh; show mj_g (mj_kd h a = ci) _ = R; rw [mj_g_if, if_pos hk]; exact k
theorem zt_putz {n ci kk q a : Nat} {x : Int32} (hk : mj_kd h a = ci) (hh : mj_wi (mj_u h.1 a kk x) h = h') (hp : pc + len = pc') (k : mj_bl E C J is pc' ls st h' = R) : mj_bl E C J ((.putfield n, len, cst, [ci, kk, 1, q]) :: is) pc ls (.int x :: .ref a :: st) h = if x = 0 ∨ x = 1 then R else none := by
  subst hp; subst hh; subst k; show mj_g (mj_kd h a = ci) _ = _; rw [mj_g_if, if_pos hk]
theorem zt_putw {n ci kk q a j : Nat} (hk : mj_kd h a = ci) (h1 : 3 ≤ j) (h2 : j < 8) (hh : mj_wr (mj_u h.2.2.1 a kk (.retAddr j)) h = h') (hp : pc + len = pc') (k : mj_bl E C J is pc' ls st h' = R) : mj_bl E C J ((.putfield n, len, cst, [ci, kk, 3, q]) :: is) pc ls (.retAddr j :: .ref a :: st) h = R := by
  subst hp; subst hh; show mj_g (mj_kd h a = ci) (mj_g (3 ≤ j ∧ j < 8) _) = R; rw [mj_g_if, if_pos hk, mj_g_if, if_pos ⟨h1, h2⟩]; exact k
theorem zt_iald {a n : Nat} {i v : Int32} (hk : mj_kd h a = 100) (hn : mj_ln h a = n) (hv : h.1 a i.toNatClampNeg = v) (hp : pc + len = pc') (k : mj_bl E C J is pc' ls (.int v :: st) h = R) : mj_bl E C J ((.iaload, len, cst, ax) :: is) pc ls (.int i :: .ref a :: st) h = if 0 ≤ i ∧ i.toNatClampNeg < n then R else none := by
  subst hp; subst hv; subst hn; subst k; show mj_g (mj_kd h a = 100) _ = _; rw [mj_g_if, if_pos hk]
theorem zt_bald {a n : Nat} {i v : Int32} (hk : mj_kd h a = 102) (hn : mj_ln h a = n) (hv : h.1 a i.toNatClampNeg = v) (hp : pc + len = pc') (k : mj_bl E C J is pc' ls (.int v :: st) h = R) : mj_bl E C J ((.baload, len, cst, ax) :: is) pc ls (.int i :: .ref a :: st) h = if 0 ≤ i ∧ i.toNatClampNeg < n then R else none := by
  subst hp; subst hv; subst hn; subst k; show mj_g (mj_kd h a = 102) _ = _; rw [mj_g_if, if_pos hk]
theorem zt_lald {a n : Nat} {i : Int32} {v : Int64} (hk : mj_kd h a = 101) (hn : mj_ln h a = n) (hv : h.2.1 a i.toNatClampNeg = v) (hp : pc + len = pc') (k : mj_bl E C J is pc' ls (.long v :: st) h = R) : mj_bl E C J ((.laload, len, cst, ax) :: is) pc ls (.int i :: .ref a :: st) h = if 0 ≤ i ∧ i.toNatClampNeg < n then R else none := by
  subst hp; subst hv; subst hn; subst k; show mj_g (mj_kd h a = 101) _ = _; rw [mj_g_if, if_pos hk]
theorem zt_iast {a n : Nat} {i x : Int32} (hk : mj_kd h a = 100) (hn : mj_ln h a = n) (hh : mj_wi (mj_u h.1 a i.toNatClampNeg x) h = h') (hp : pc + len = pc') (k : mj_bl E C J is pc' ls st h' = R) : mj_bl E C J ((.iastore, len, cst, ax) :: is) pc ls (.int x :: .int i :: .ref a :: st) h = if 0 ≤ i ∧ i.toNatClampNeg < n then R else none := by
  subst hp; subst hh; subst hn; subst k; show mj_g (mj_kd h a = 100) _ = _; rw [mj_g_if, if_pos hk]
theorem zt_bast {a n : Nat} {i x : Int32} (hk : mj_kd h a = 102) (hn : mj_ln h a = n) (hh : mj_wi (mj_u h.1 a i.toNatClampNeg x.toInt8.toInt32) h = h') (hp : pc + len = pc') (k : mj_bl E C J is pc' ls st h' = R) : mj_bl E C J ((.bastore, len, cst, ax) :: is) pc ls (.int x :: .int i :: .ref a :: st) h = if 0 ≤ i ∧ i.toNatClampNeg < n then R else none := by
  subst hp; subst hh; subst hn; subst k; show mj_g (mj_kd h a = 102) _ = _; rw [mj_g_if, if_pos hk]
theorem zt_last {a n : Nat} {i : Int32} {x : Int64} (hk : mj_kd h a = 101) (hn : mj_ln h a = n) (hh : mj_wl (mj_u h.2.1 a i.toNatClampNeg x) h = h') (hp : pc + len = pc') (k : mj_bl E C J is pc' ls st h' = R) : mj_bl E C J ((.lastore, len, cst, ax) :: is) pc ls (.long x :: .int i :: .ref a :: st) h = if 0 ≤ i ∧ i.toNatClampNeg < n then R else none := by
  subst hp; subst hh; subst hn; subst k; show mj_g (mj_kd h a = 101) _ = _; rw [mj_g_if, if_pos hk]
theorem zt_ialc {j : Nat} {i : Int32} (hj : j < 3) (hp : pc + len = pc') (k : mj_bl E C J is pc' ls (.int ((E j).2 i.toNatClampNeg) :: st) h = R) : mj_bl E C J ((.iaload, len, cst, ax) :: is) pc ls (.int i :: .retAddr j :: st) h = if (E j).1 ≤ 65536 then (if 0 ≤ i ∧ i.toNatClampNeg < (E j).1 then R else none) else none := by
  subst hp; subst k
  show (if ((100 = 100 ∧ j < 3) ∨ (100 = 102 ∧ 8 ≤ j ∧ j < 13)) ∧ (E j).1 ≤ 65536 then _ else _) = _
  by_cases hE : (E j).1 ≤ 65536
  · rw [if_pos hE, if_pos ⟨Or.inl ⟨rfl, hj⟩, hE⟩]
  · rw [if_neg hE, if_neg (fun z => hE z.2)]
theorem zt_balc {j : Nat} {i : Int32} (h8 : 8 ≤ j) (hj : j < 13) (hp : pc + len = pc') (k : mj_bl E C J is pc' ls (.int ((E j).2 i.toNatClampNeg) :: st) h = R) : mj_bl E C J ((.baload, len, cst, ax) :: is) pc ls (.int i :: .retAddr j :: st) h = if (E j).1 ≤ 65536 then (if 0 ≤ i ∧ i.toNatClampNeg < (E j).1 then R else none) else none := by
  subst hp; subst k
  show (if ((102 = 100 ∧ j < 3) ∨ (102 = 102 ∧ 8 ≤ j ∧ j < 13)) ∧ (E j).1 ≤ 65536 then _ else _) = _
  by_cases hE : (E j).1 ≤ 65536
  · rw [if_pos hE, if_pos ⟨Or.inr ⟨rfl, h8, hj⟩, hE⟩]
  · rw [if_neg hE, if_neg (fun z => hE z.2)]
theorem zt_alenc {j : Nat} (hj : j < 3 ∨ (8 ≤ j ∧ j < 13)) (hp : pc + len = pc') (k : mj_bl E C J is pc' ls (.int (Int32.ofNat (E j).1) :: st) h = R) : mj_bl E C J ((.arraylength, len, cst, ax) :: is) pc ls (.retAddr j :: st) h = if (E j).1 ≤ 65536 then R else none := by
  subst hp; subst k
  show (if (j < 3 ∨ (8 ≤ j ∧ j < 13)) ∧ (E j).1 ≤ 65536 then _ else _) = _
  by_cases hE : (E j).1 ≤ 65536
  · rw [if_pos hE, if_pos ⟨hj, hE⟩]
  · rw [if_neg hE, if_neg (fun z => hE z.2)]
theorem zt_alen {a n q : Nat} (hk : mj_kd h a = q) (hq : 100 ≤ q ∧ q < 104) (hn : mj_ln h a = n) (hp : pc + len = pc') (k : mj_bl E C J is pc' ls (.int (Int32.ofNat n) :: st) h = R) : mj_bl E C J ((.arraylength, len, cst, ax) :: is) pc ls (.ref a :: st) h = R := by
  subst hp; subst hn; subst hk; show mj_g (100 ≤ mj_kd h a ∧ mj_kd h a < 104) _ = R; rw [mj_g_if, if_pos hq]; exact k
theorem zt_obj {n q a : Nat} (hc : mj_cat st ≤ 8) (hp : pc + len = pc') (k : mj_bl E C J is pc' ls st h = R) : mj_bl E C J ((.invokespecial n, len, cst, [3, q]) :: is) pc ls (.ref a :: st) h = R := by
  subst hp; show mj_g (mj_cat st ≤ 8) _ = R; rw [mj_g_if, if_pos hc]; exact k
theorem zt_copy {n q a b na nb : Nat} {N dp sp : Int32} (ha : mj_kd h a = 100) (hb : mj_kd h b = 100) (hl : st.length ≤ 4) (hna : mj_ln h a = na) (hnb : mj_ln h b = nb) (hh : mj_wi (mj_ur h.1 b (fun k => if dp.toNatClampNeg ≤ k ∧ k < dp.toNatClampNeg + N.toNatClampNeg then h.1 a (sp.toNatClampNeg + (k - dp.toNatClampNeg)) else h.1 b k)) h = h') (hp : pc + len = pc') (k : mj_bl E C J is pc' ls st h' = R) : mj_bl E C J ((.invokestatic n, len, cst, [4, q]) :: is) pc ls (.int N :: .int dp :: .ref b :: .int sp :: .ref a :: st) h = if 0 ≤ sp ∧ 0 ≤ dp ∧ 0 ≤ N ∧ sp.toNatClampNeg + N.toNatClampNeg ≤ na ∧ dp.toNatClampNeg + N.toNatClampNeg ≤ nb then R else none := by
  subst hp; subst hh; subst hna; subst hnb; subst k
  show mj_g (mj_kd h a = 100 ∧ mj_kd h b = 100 ∧ st.length ≤ 4) _ = _
  rw [mj_g_if, if_pos ⟨ha, hb, hl⟩]
theorem zt_ireturn0 {x : Int32} : mj_bl E C J ((.ireturn, len, cst, [0]) :: is) pc ls [.int x] h = some (some (.int x), h) := rfl
theorem zt_ireturn1 {x : Int32} : mj_bl E C J ((.ireturn, len, cst, [1]) :: is) pc ls [.int x] h = if x = 0 ∨ x = 1 then some (some (.int x), h) else none := rfl
theorem zt_ireturn2 {x : Int32} : mj_bl E C J ((.ireturn, len, cst, [2]) :: is) pc ls [.int x] h = if narrow .char (.int x) = .int x then some (some (.int x), h) else none := rfl
theorem zt_ireturn3 {x : Int32} : mj_bl E C J ((.ireturn, len, cst, [3]) :: is) pc ls [.int x] h = if narrow .byte (.int x) = .int x then some (some (.int x), h) else none := rfl
theorem zt_lreturn {x : Int64} : mj_bl E C J ((.lreturn, len, cst, ax) :: is) pc ls [.long x] h = some (some (.long x), h) := rfl
theorem zt_areturn {x : Nat} : mj_bl E C J ((.areturn, len, cst, ax) :: is) pc ls [.ref x] h = some (some (.ref x), h) := rfl
theorem zt_return : mj_bl E C J ((.return_, len, cst, ax) :: is) pc ls [] h = some (none, h) := rfl
theorem zt_call1_0 {idx mn z n : Nat} {tl : List Nat} {as : List Value} (hn : n ≤ st.length) (hd : st.drop n = rest) (hc : mj_cat rest ≤ 8) (ht : (st.take n).reverse = as) (hp : pc + len = pc') : mj_bl E C J [(.invokestatic idx, len, cst, 1 :: mn :: z :: n :: 0 :: tl)] pc ls st h = mj_bv (C mn as h) (fun h1 => J pc' ls rest h1) := by
  subst hp; subst ht; subst hd; show mj_g (n ≤ st.length ∧ mj_cat (st.drop n) ≤ 8) _ = _; rw [mj_g_if, if_pos ⟨hn, hc⟩]; rfl
theorem zt_call6_0 {idx mn z n : Nat} {tl : List Nat} {as : List Value} (hn : n ≤ st.length) (hd : st.drop n = rest) (hc : mj_cat rest ≤ 8) (ht : (st.take n).reverse = as) (hp : pc + len = pc') : mj_bl E C J [(.invokestatic idx, len, cst, 6 :: mn :: z :: n :: 0 :: tl)] pc ls st h = mj_bv (C mn as h) (fun h1 => J pc' ls rest h1) := by
  subst hp; subst ht; subst hd; show mj_g (n ≤ st.length ∧ mj_cat (st.drop n) ≤ 8) _ = _; rw [mj_g_if, if_pos ⟨hn, hc⟩]; rfl
theorem zt_call0_0 {idx mn ci n a : Nat} {tl : List Nat} {as : List Value} (hd : st.drop n = .ref a :: rest) (hk : mj_kd h a = ci) (hc : mj_cat rest ≤ 8) (ht : (st.take n).reverse = as) (hp : pc + len = pc') : mj_bl E C J [(.invokevirtual idx, len, cst, 0 :: mn :: ci :: n :: 0 :: tl)] pc ls st h = mj_bv (C mn (.ref a :: as) h) (fun h1 => J pc' ls rest h1) := by
  subst hp; subst ht
  show (match st.drop n with | .ref a :: r => mj_g (mj_kd h a = ci ∧ mj_cat r ≤ 8) (mj_back 0 (C mn (.ref a :: (st.take n).reverse) h) ls r (mj_bl E C J [] (pc + len))) | _ => none) = _
  rw [hd]; simp only [mj_g_if]; rw [if_pos ⟨hk, hc⟩]; rfl
theorem zt_call8_0 {idx mn ci n j : Nat} {tl : List Nat} {as : List Value} (hd : st.drop n = .retAddr j :: rest) (h1 : 3 ≤ j) (h2 : j < 8) (hc : mj_cat rest ≤ 8) (ht : (st.take n).reverse = as) (hp : pc + len = pc') : mj_bl E C J [(.invokevirtual idx, len, cst, 8 :: mn :: ci :: n :: 0 :: tl)] pc ls st h = mj_bv (C mn (.retAddr j :: as) h) (fun h1 => J pc' ls rest h1) := by
  subst hp; subst ht
  show (match st.drop n with | .retAddr j :: r => mj_g ((3 ≤ j ∧ j < 8) ∧ mj_cat r ≤ 8) (mj_back 0 (C mn (.retAddr j :: (st.take n).reverse) h) ls r (mj_bl E C J [] (pc + len))) | _ => none) = _
  rw [hd]; simp only [mj_g_if]; rw [if_pos ⟨⟨h1, h2⟩, hc⟩]; rfl
theorem zt_call1_1 {idx mn z n : Nat} {tl : List Nat} {as : List Value} (hn : n ≤ st.length) (hd : st.drop n = rest) (hc : mj_cat rest ≤ 8) (ht : (st.take n).reverse = as) (hp : pc + len = pc') : mj_bl E C J [(.invokestatic idx, len, cst, 1 :: mn :: z :: n :: 1 :: tl)] pc ls st h = mj_bi (C mn as h) (fun x1 h1 => J pc' ls (.int x1 :: rest) h1) := by
  subst hp; subst ht; subst hd; show mj_g (n ≤ st.length ∧ mj_cat (st.drop n) ≤ 8) _ = _; rw [mj_g_if, if_pos ⟨hn, hc⟩]; rfl
theorem zt_call6_1 {idx mn z n : Nat} {tl : List Nat} {as : List Value} (hn : n ≤ st.length) (hd : st.drop n = rest) (hc : mj_cat rest ≤ 8) (ht : (st.take n).reverse = as) (hp : pc + len = pc') : mj_bl E C J [(.invokestatic idx, len, cst, 6 :: mn :: z :: n :: 1 :: tl)] pc ls st h = mj_bi (C mn as h) (fun x1 h1 => J pc' ls (.int x1 :: rest) h1) := by
  subst hp; subst ht; subst hd; show mj_g (n ≤ st.length ∧ mj_cat (st.drop n) ≤ 8) _ = _; rw [mj_g_if, if_pos ⟨hn, hc⟩]; rfl
theorem zt_call0_1 {idx mn ci n a : Nat} {tl : List Nat} {as : List Value} (hd : st.drop n = .ref a :: rest) (hk : mj_kd h a = ci) (hc : mj_cat rest ≤ 8) (ht : (st.take n).reverse = as) (hp : pc + len = pc') : mj_bl E C J [(.invokevirtual idx, len, cst, 0 :: mn :: ci :: n :: 1 :: tl)] pc ls st h = mj_bi (C mn (.ref a :: as) h) (fun x1 h1 => J pc' ls (.int x1 :: rest) h1) := by
  subst hp; subst ht
  show (match st.drop n with | .ref a :: r => mj_g (mj_kd h a = ci ∧ mj_cat r ≤ 8) (mj_back 1 (C mn (.ref a :: (st.take n).reverse) h) ls r (mj_bl E C J [] (pc + len))) | _ => none) = _
  rw [hd]; simp only [mj_g_if]; rw [if_pos ⟨hk, hc⟩]; rfl
theorem zt_call8_1 {idx mn ci n j : Nat} {tl : List Nat} {as : List Value} (hd : st.drop n = .retAddr j :: rest) (h1 : 3 ≤ j) (h2 : j < 8) (hc : mj_cat rest ≤ 8) (ht : (st.take n).reverse = as) (hp : pc + len = pc') : mj_bl E C J [(.invokevirtual idx, len, cst, 8 :: mn :: ci :: n :: 1 :: tl)] pc ls st h = mj_bi (C mn (.retAddr j :: as) h) (fun x1 h1 => J pc' ls (.int x1 :: rest) h1) := by
  subst hp; subst ht
  show (match st.drop n with | .retAddr j :: r => mj_g ((3 ≤ j ∧ j < 8) ∧ mj_cat r ≤ 8) (mj_back 1 (C mn (.retAddr j :: (st.take n).reverse) h) ls r (mj_bl E C J [] (pc + len))) | _ => none) = _
  rw [hd]; simp only [mj_g_if]; rw [if_pos ⟨⟨h1, h2⟩, hc⟩]; rfl
theorem zt_call1_2 {idx mn z n : Nat} {tl : List Nat} {as : List Value} (hn : n ≤ st.length) (hd : st.drop n = rest) (hc : mj_cat rest ≤ 8) (ht : (st.take n).reverse = as) (hp : pc + len = pc') : mj_bl E C J [(.invokestatic idx, len, cst, 1 :: mn :: z :: n :: 2 :: tl)] pc ls st h = mj_bj (C mn as h) (fun x1 h1 => J pc' ls (.long x1 :: rest) h1) := by
  subst hp; subst ht; subst hd; show mj_g (n ≤ st.length ∧ mj_cat (st.drop n) ≤ 8) _ = _; rw [mj_g_if, if_pos ⟨hn, hc⟩]; rfl
theorem zt_call6_2 {idx mn z n : Nat} {tl : List Nat} {as : List Value} (hn : n ≤ st.length) (hd : st.drop n = rest) (hc : mj_cat rest ≤ 8) (ht : (st.take n).reverse = as) (hp : pc + len = pc') : mj_bl E C J [(.invokestatic idx, len, cst, 6 :: mn :: z :: n :: 2 :: tl)] pc ls st h = mj_bj (C mn as h) (fun x1 h1 => J pc' ls (.long x1 :: rest) h1) := by
  subst hp; subst ht; subst hd; show mj_g (n ≤ st.length ∧ mj_cat (st.drop n) ≤ 8) _ = _; rw [mj_g_if, if_pos ⟨hn, hc⟩]; rfl
theorem zt_call0_2 {idx mn ci n a : Nat} {tl : List Nat} {as : List Value} (hd : st.drop n = .ref a :: rest) (hk : mj_kd h a = ci) (hc : mj_cat rest ≤ 8) (ht : (st.take n).reverse = as) (hp : pc + len = pc') : mj_bl E C J [(.invokevirtual idx, len, cst, 0 :: mn :: ci :: n :: 2 :: tl)] pc ls st h = mj_bj (C mn (.ref a :: as) h) (fun x1 h1 => J pc' ls (.long x1 :: rest) h1) := by
  subst hp; subst ht
  show (match st.drop n with | .ref a :: r => mj_g (mj_kd h a = ci ∧ mj_cat r ≤ 8) (mj_back 2 (C mn (.ref a :: (st.take n).reverse) h) ls r (mj_bl E C J [] (pc + len))) | _ => none) = _
  rw [hd]; simp only [mj_g_if]; rw [if_pos ⟨hk, hc⟩]; rfl
theorem zt_call8_2 {idx mn ci n j : Nat} {tl : List Nat} {as : List Value} (hd : st.drop n = .retAddr j :: rest) (h1 : 3 ≤ j) (h2 : j < 8) (hc : mj_cat rest ≤ 8) (ht : (st.take n).reverse = as) (hp : pc + len = pc') : mj_bl E C J [(.invokevirtual idx, len, cst, 8 :: mn :: ci :: n :: 2 :: tl)] pc ls st h = mj_bj (C mn (.retAddr j :: as) h) (fun x1 h1 => J pc' ls (.long x1 :: rest) h1) := by
  subst hp; subst ht
  show (match st.drop n with | .retAddr j :: r => mj_g ((3 ≤ j ∧ j < 8) ∧ mj_cat r ≤ 8) (mj_back 2 (C mn (.retAddr j :: (st.take n).reverse) h) ls r (mj_bl E C J [] (pc + len))) | _ => none) = _
  rw [hd]; simp only [mj_g_if]; rw [if_pos ⟨⟨h1, h2⟩, hc⟩]; rfl
theorem zt_call1_3 {idx mn z n : Nat} {tl : List Nat} {as : List Value} (hn : n ≤ st.length) (hd : st.drop n = rest) (hc : mj_cat rest ≤ 8) (ht : (st.take n).reverse = as) (hp : pc + len = pc') : mj_bl E C J [(.invokestatic idx, len, cst, 1 :: mn :: z :: n :: 3 :: tl)] pc ls st h = mj_br (C mn as h) (fun x1 h1 => J pc' ls (.ref x1 :: rest) h1) := by
  subst hp; subst ht; subst hd; show mj_g (n ≤ st.length ∧ mj_cat (st.drop n) ≤ 8) _ = _; rw [mj_g_if, if_pos ⟨hn, hc⟩]; rfl
theorem zt_call6_3 {idx mn z n : Nat} {tl : List Nat} {as : List Value} (hn : n ≤ st.length) (hd : st.drop n = rest) (hc : mj_cat rest ≤ 8) (ht : (st.take n).reverse = as) (hp : pc + len = pc') : mj_bl E C J [(.invokestatic idx, len, cst, 6 :: mn :: z :: n :: 3 :: tl)] pc ls st h = mj_br (C mn as h) (fun x1 h1 => J pc' ls (.ref x1 :: rest) h1) := by
  subst hp; subst ht; subst hd; show mj_g (n ≤ st.length ∧ mj_cat (st.drop n) ≤ 8) _ = _; rw [mj_g_if, if_pos ⟨hn, hc⟩]; rfl
theorem zt_call0_3 {idx mn ci n a : Nat} {tl : List Nat} {as : List Value} (hd : st.drop n = .ref a :: rest) (hk : mj_kd h a = ci) (hc : mj_cat rest ≤ 8) (ht : (st.take n).reverse = as) (hp : pc + len = pc') : mj_bl E C J [(.invokevirtual idx, len, cst, 0 :: mn :: ci :: n :: 3 :: tl)] pc ls st h = mj_br (C mn (.ref a :: as) h) (fun x1 h1 => J pc' ls (.ref x1 :: rest) h1) := by
  subst hp; subst ht
  show (match st.drop n with | .ref a :: r => mj_g (mj_kd h a = ci ∧ mj_cat r ≤ 8) (mj_back 3 (C mn (.ref a :: (st.take n).reverse) h) ls r (mj_bl E C J [] (pc + len))) | _ => none) = _
  rw [hd]; simp only [mj_g_if]; rw [if_pos ⟨hk, hc⟩]; rfl
theorem zt_call8_3 {idx mn ci n j : Nat} {tl : List Nat} {as : List Value} (hd : st.drop n = .retAddr j :: rest) (h1 : 3 ≤ j) (h2 : j < 8) (hc : mj_cat rest ≤ 8) (ht : (st.take n).reverse = as) (hp : pc + len = pc') : mj_bl E C J [(.invokevirtual idx, len, cst, 8 :: mn :: ci :: n :: 3 :: tl)] pc ls st h = mj_br (C mn (.retAddr j :: as) h) (fun x1 h1 => J pc' ls (.ref x1 :: rest) h1) := by
  subst hp; subst ht
  show (match st.drop n with | .retAddr j :: r => mj_g ((3 ≤ j ∧ j < 8) ∧ mj_cat r ≤ 8) (mj_back 3 (C mn (.retAddr j :: (st.take n).reverse) h) ls r (mj_bl E C J [] (pc + len))) | _ => none) = _
  rw [hd]; simp only [mj_g_if]; rw [if_pos ⟨⟨h1, h2⟩, hc⟩]; rfl
end MJB2
