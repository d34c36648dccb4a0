/-! a stretch of code, instruction by instruction: each row takes what is left to R -/
section MJB
variable {E : mj_E} {C : Nat → List Value → mj_H → mj_R} {J : Nat → mj_K} {is : List mj_I} {pc pc' len : Nat} {cst : Int32} {ax : List Nat} {ls ls' st st' rest : List Value} {h h' : mj_H} {R R1 : mj_R}
theorem zt_end (k : J pc ls st h = R) : mj_bl E C J [] pc ls st h = R := k
theorem zt_iconst {n : Int} (hp : pc + len = pc') (k : mj_bl E C J is pc' ls (.int cst :: st) h = R) : mj_bl E C J ((.iconst n, len, cst, ax) :: is) pc ls st h = R := by subst hp; exact k
theorem zt_bipush {n : Int} (hp : pc + len = pc') (k : mj_bl E C J is pc' ls (.int cst :: st) h = R) : mj_bl E C J ((.bipush n, len, cst, ax) :: is) pc ls st h = R := by subst hp; exact k
theorem zt_sipush {n : Int} (hp : pc + len = pc') (k : mj_bl E C J is pc' ls (.int cst :: st) h = R) : mj_bl E C J ((.sipush n, len, cst, ax) :: is) pc ls st h = R := by subst hp; exact k
theorem zt_ldc {n q : Nat} (hp : pc + len = pc') (k : mj_bl E C J is pc' ls (.int cst :: st) h = R) : mj_bl E C J ((.ldc n, len, cst, [0, q]) :: is) pc ls st h = R := by subst hp; exact k
theorem zt_ldcs {n j q : Nat} (hp : pc + len = pc') (k : mj_bl E C J is pc' ls (.retAddr j :: st) h = R) : mj_bl E C J ((.ldc n, len, cst, [1, j, q]) :: is) pc ls st h = R := by subst hp; exact k
theorem zt_ldc_w {n q : Nat} (hp : pc + len = pc') (k : mj_bl E C J is pc' ls (.int cst :: st) h = R) : mj_bl E C J ((.ldc_w n, len, cst, [0, q]) :: is) pc ls st h = R := by subst hp; exact k
theorem zt_ldc2_w {n v q : Nat} (hp : pc + len = pc') (k : mj_bl E C J is pc' ls (.long (Int64.ofNat v) :: st) h = R) : mj_bl E C J ((.ldc2_w n, len, cst, [v, q]) :: is) pc ls st h = R := by subst hp; exact k
theorem zt_lconst {n : Fin 2} {m : Nat} (hm : (n : Nat) = m) (hp : pc + len = pc') (k : mj_bl E C J is pc' ls (.long (Int64.ofNat m) :: st) h = R) : mj_bl E C J ((.lconst n, len, cst, ax) :: is) pc ls st h = R := by subst hp; subst hm; exact k
theorem zt_null (hp : pc + len = pc') (k : mj_bl E C J is pc' ls (.null :: st) h = R) : mj_bl E C J ((.aconst_null, len, cst, ax) :: is) pc ls st h = R := by subst hp; exact k
theorem zt_iload {n : Nat} {x : Int32} (ha : mj_at ls n = .int x) (hp : pc + len = pc') (k : mj_bl E C J is pc' ls (.int x :: st) h = R) : mj_bl E C J ((.iload n, len, cst, ax) :: is) pc ls st h = R := by
  subst hp; show mj_ild ls st n h _ = R; unfold mj_ild; rw [ha]; exact k
theorem zt_iload_n {n : Fin 4} {x : Int32} (ha : mj_at ls (n : Nat) = .int x) (hp : pc + len = pc') (k : mj_bl E C J is pc' ls (.int x :: st) h = R) : mj_bl E C J ((.iload_n n, len, cst, ax) :: is) pc ls st h = R := by
  subst hp; show mj_ild ls st _ h _ = R; unfold mj_ild; rw [ha]; exact k
theorem zt_lload {n : Nat} {x : Int64} (ha : mj_at ls n = .long x) (hp : pc + len = pc') (k : mj_bl E C J is pc' ls (.long x :: st) h = R) : mj_bl E C J ((.lload n, len, cst, ax) :: is) pc ls st h = R := by
  subst hp; show mj_lld ls st n h _ = R; unfold mj_lld; rw [ha]; exact k
theorem zt_lload_n {n : Fin 4} {x : Int64} (ha : mj_at ls (n : Nat) = .long x) (hp : pc + len = pc') (k : mj_bl E C J is pc' ls (.long x :: st) h = R) : mj_bl E C J ((.lload_n n, len, cst, ax) :: is) pc ls st h = R := by
  subst hp; show mj_lld ls st _ h _ = R; unfold mj_lld; rw [ha]; exact k
theorem zt_aload {n x : Nat} (ha : mj_at ls n = .ref x) (hp : pc + len = pc') (k : mj_bl E C J is pc' ls (.ref x :: st) h = R) : mj_bl E C J ((.aload n, len, cst, ax) :: is) pc ls st h = R := by
  subst hp; show mj_ald ls st n h _ = R; unfold mj_ald; rw [ha]; exact k
theorem zt_aload_n {n : Fin 4} {x : Nat} (ha : mj_at ls (n : Nat) = .ref x) (hp : pc + len = pc') (k : mj_bl E C J is pc' ls (.ref x :: st) h = R) : mj_bl E C J ((.aload_n n, len, cst, ax) :: is) pc ls st h = R := by
  subst hp; show mj_ald ls st _ h _ = R; unfold mj_ald; rw [ha]; exact k
theorem zt_aloadc {n x : Nat} (ha : mj_at ls n = .retAddr x) (hx : x < 13) (hp : pc + len = pc') (k : mj_bl E C J is pc' ls (.retAddr x :: st) h = R) : mj_bl E C J ((.aload n, len, cst, ax) :: is) pc ls st h = R := by
  subst hp; show mj_ald ls st n h _ = R; unfold mj_ald; rw [ha]; simp only [mj_g_if]; rw [if_pos hx]; exact k
theorem zt_aloadc_n {n : Fin 4} {x : Nat} (ha : mj_at ls (n : Nat) = .retAddr x) (hx : x < 13) (hp : pc + len = pc') (k : mj_bl E C J is pc' ls (.retAddr x :: st) h = R) : mj_bl E C J ((.aload_n n, len, cst, ax) :: is) pc ls st h = R := by
  subst hp; show mj_ald ls st _ h _ = R; unfold mj_ald; rw [ha]; simp only [mj_g_if]; rw [if_pos hx]; exact k
theorem zt_istore {n : Nat} {x : Int32} (hn : n < ls.length) (hs : mj_sto ls n (.int x) = ls') (hp : pc + len = pc') (k : mj_bl E C J is pc' ls' st h = R) : mj_bl E C J ((.istore n, len, cst, ax) :: is) pc ls (.int x :: st) h = R := by
  subst hp; subst hs; show mj_g (n < ls.length) _ = R; rw [mj_g_if, if_pos hn]; exact k
theorem zt_istore_n {n : Fin 4} {x : Int32} (hn : (n : Nat) < ls.length) (hs : mj_sto ls (n : Nat) (.int x) = ls') (hp : pc + len = pc') (k : mj_bl E C J is pc' ls' st h = R) : mj_bl E C J ((.istore_n n, len, cst, ax) :: is) pc ls (.int x :: st) h = R := by
  subst hp; subst hs; show mj_g ((n : Nat) < ls.length) _ = R; rw [mj_g_if, if_pos hn]; exact k
theorem zt_astore {n x : Nat} (hn : n < ls.length) (hs : mj_sto ls n (.ref x) = ls') (hp : pc + len = pc') (k : mj_bl E C J is pc' ls' st h = R) : mj_bl E C J ((.astore n, len, cst, ax) :: is) pc ls (.ref x :: st) h = R := by
  subst hp; subst hs; show mj_g (n < ls.length) _ = R; rw [mj_g_if, if_pos hn]; exact k
theorem zt_astore_n {n : Fin 4} {x : Nat} (hn : (n : Nat) < ls.length) (hs : mj_sto ls (n : Nat) (.ref x) = ls') (hp : pc + len = pc') (k : mj_bl E C J is pc' ls' st h = R) : mj_bl E C J ((.astore_n n, len, cst, ax) :: is) pc ls (.ref x :: st) h = R := by
  subst hp; subst hs; show mj_g ((n : Nat) < ls.length) _ = R; rw [mj_g_if, if_pos hn]; exact k
theorem zt_lstore {n : Nat} {x : Int64} (hn : n + 1 < ls.length) (hs : mj_set (mj_sto ls n (.long x)) (n + 1) (.float 0) = ls') (hp : pc + len = pc') (k : mj_bl E C J is pc' ls' st h = R) : mj_bl E C J ((.lstore n, len, cst, ax) :: is) pc ls (.long x :: st) h = R := by
  subst hp; subst hs; show mj_g (n + 1 < ls.length) _ = R; rw [mj_g_if, if_pos hn]; exact k
theorem zt_lstore_n {n : Fin 4} {x : Int64} (hn : (n : Nat) + 1 < ls.length) (hs : mj_set (mj_sto ls (n : Nat) (.long x)) ((n : Nat) + 1) (.float 0) = ls') (hp : pc + len = pc') (k : mj_bl E C J is pc' ls' st h = R) : mj_bl E C J ((.lstore_n n, len, cst, ax) :: is) pc ls (.long x :: st) h = R := by
  subst hp; subst hs; show mj_g ((n : Nat) + 1 < ls.length) _ = R; rw [mj_g_if, if_pos hn]; exact k
theorem zt_iinc {n : Nat} {o : Int} {x : Int32} (ha : mj_at ls n = .int x) (hn : n < ls.length) (hs : mj_sto ls n (.int (x + cst)) = ls') (hp : pc + len = pc') (k : mj_bl E C J is pc' ls' st h = R) : mj_bl E C J ((.iinc n o, len, cst, ax) :: is) pc ls st h = R := by
  subst hp; subst hs
  show (match mj_at ls n with | .int x => mj_g (n < ls.length) (mj_bl E C J is (pc + len) (mj_sto ls n (.int (x + cst))) st h) | _ => none) = R
  rw [ha]; simp only [mj_g_if]; rw [if_pos hn]; exact k
end MJB
