section MJU
variable {p : Program} {l : Launch} {e : Env} {R : Room} {s : State} {m : MethodId} {args : Array Value} {below : List Frame} {meth : Method} {c : Code} {Q : State → Prop} {G : mj_G} {E : mj_E} {own : String} {cc : ByteArray} {nL d : Nat} {h0 : mj_H}
variable {pc tgt : Nat} {ls st : List Value} {h : mj_H}
theorem mj_vpin {i : Int32} {n : Nat} (h : 0 ≤ i ∧ i.toNatClampNeg < n) : vp_in i n := by
  unfold vp_in
  rintro (q | q)
  · exact absurd h.1 (Int32.not_le.mpr q)
  · omega
theorem mj_en_100 {a ln : Nat} : mj_en G h a 100 ln = .inl (G.2.2.2.2.1, ln, .inl (h.1 a)) := rfl
theorem mj_en_101 {a ln : Nat} : mj_en G h a 101 ln = .inl (G.2.2.2.2.2.1, ln, .inr (.inl (h.2.1 a))) := rfl
theorem mj_en_102 {a ln : Nat} : mj_en G h a 102 ln = .inl (G.2.2.2.2.2.2.1, ln, .inl (h.1 a)) := rfl
theorem mj_en_103 {a ln : Nat} : mj_en G h a 103 ln = .inl (G.2.2.2.2.2.2.2, ln, .inr (.inr (.inr (.inr (fun i => mj_op G (h.2.2.1 a i)))))) := rfl
theorem mj_r_iald (X : mj_Cx p R s m args c G E own cc nL d h0) {a : Nat} {i : Int32} (hd : decode cc pc = .ok (.iaload, 1)) (hkd : mj_kd h a = 100) (hi : 0 ≤ i ∧ i.toNatClampNeg < mj_ln h a) (kk : mj_WW p l e R s m args below meth c Q G nL h0 (pc + 1) ls (.int (h.1 a i.toNatClampNeg) :: st) h) : mj_WW p l e R s m args below meth c Q G nL h0 pc ls (.int i :: .ref a :: st) h :=
  mj_r_st (fun H LS locs cells slots hP hl hS kk => va_iald X.1 X.2.1 X.2.2.2.2.2.1 hP a 0 (mj_ws_kd hkd (by decide)) rfl (mj_vpin hi) hd kk) kk
theorem mj_r_bald (X : mj_Cx p R s m args c G E own cc nL d h0) {a : Nat} {i : Int32} (hd : decode cc pc = .ok (.baload, 1)) (hkd : mj_kd h a = 102) (hi : 0 ≤ i ∧ i.toNatClampNeg < mj_ln h a) (kk : mj_WW p l e R s m args below meth c Q G nL h0 (pc + 1) ls (.int (h.1 a i.toNatClampNeg) :: st) h) : mj_WW p l e R s m args below meth c Q G nL h0 pc ls (.int i :: .ref a :: st) h :=
  mj_r_st (fun H LS locs cells slots hP hl hS kk => va_bald X.1 X.2.1 X.2.2.2.2.2.1 hP a 2 (mj_ws_kd hkd (by decide)) rfl (mj_vpin hi) hd kk) kk
theorem mj_r_lald (X : mj_Cx p R s m args c G E own cc nL d h0) {a : Nat} {i : Int32} (hd : decode cc pc = .ok (.laload, 1)) (hkd : mj_kd h a = 101) (hi : 0 ≤ i ∧ i.toNatClampNeg < mj_ln h a) (kk : mj_WW p l e R s m args below meth c Q G nL h0 (pc + 1) ls (.long (h.2.1 a i.toNatClampNeg) :: st) h) : mj_WW p l e R s m args below meth c Q G nL h0 pc ls (.int i :: .ref a :: st) h :=
  mj_r_st (fun H LS locs cells slots hP hl hS kk => va_lald X.1 X.2.1 X.2.2.2.2.2.1 hP a 1 (mj_ws_kd hkd (by decide)) rfl (mj_vpin hi) hd kk) kk
theorem mj_r_aald (X : mj_Cx p R s m args c G E own cc nL d h0) {a : Nat} {i : Int32} {v : Value} (hd : decode cc pc = .ok (.aaload, 1)) (hkd : mj_kd h a = 103) (hi : 0 ≤ i ∧ i.toNatClampNeg < mj_ln h a) (hv : h.2.2.1 a i.toNatClampNeg = v) (hv2 : v = .null ∨ ∃ x, v = .ref x) (kk : mj_WW p l e R s m args below meth c Q G nL h0 (pc + 1) ls (v :: st) h) : mj_WW p l e R s m args below meth c Q G nL h0 pc ls (.int i :: .ref a :: st) h := by
  refine mj_r_st (fun H LS locs cells slots hP hl hS kk => va_aldq (C := "LastToWince$Room") X.1 X.2.1 X.2.2.2.2.2.1 hP a 3 (mj_ws_kd hkd (by decide)) rfl (mj_vpin hi) hd ?_) kk
  have e1 : va_rf (mj_op G (h.2.2.1 a i.toNatClampNeg)) = mj_cv G v := by
    rw [hv]
    rcases hv2 with rfl | ⟨x, rfl⟩ <;> rfl
  rw [e1]
  exact kk
theorem mj_r_ialc (X : mj_Cx p R s m args c G E own cc nL d h0) {j : Nat} {i : Int32} (hd : decode cc pc = .ok (.iaload, 1)) (hj : j < 3) (hi : 0 ≤ i ∧ i.toNatClampNeg < (E j).1) (kk : mj_WW p l e R s m args below meth c Q G nL h0 (pc + 1) ls (.int ((E j).2 i.toNatClampNeg) :: st) h) : mj_WW p l e R s m args below meth c Q G nL h0 pc ls (.int i :: .retAddr j :: st) h := by
  obtain ⟨ad, q1, q2, q3, q4, q5, q6, q7, q8, q9⟩ := X.2.2.2.2.2.2.1
  have e1 : mj_cv G (.retAddr j) = .ref (ad j) := q1 j (by omega)
  refine mj_r_st (fun H LS locs cells slots hP hl hS kk => ?_) kk
  rw [List.map_cons, List.map_cons, e1]
  exact va_ti X.1 X.2.1 (q3 j hj) hS (mj_vpin hi) rfl hd kk
theorem mj_r_balc (X : mj_Cx p R s m args c G E own cc nL d h0) {j : Nat} {i : Int32} (hd : decode cc pc = .ok (.baload, 1)) (h8 : 8 ≤ j) (hj : j < 13) (hi : 0 ≤ i ∧ i.toNatClampNeg < (E j).1) (kk : mj_WW p l e R s m args below meth c Q G nL h0 (pc + 1) ls (.int ((E j).2 i.toNatClampNeg) :: st) h) : mj_WW p l e R s m args below meth c Q G nL h0 pc ls (.int i :: .retAddr j :: st) h := by
  obtain ⟨ad, q1, q2, q3, q4, q5, q6, q7, q8, q9⟩ := X.2.2.2.2.2.2.1
  have e1 : mj_cv G (.retAddr j) = .ref (ad j) := q1 j (by omega)
  have hT := (q4 (j - 5) (by omega) (by omega)).2.2.2
  rw [show j - 5 + 5 = j by omega] at hT
  refine mj_r_st (fun H LS locs cells slots hP hl hS kk => ?_) kk
  rw [List.map_cons, List.map_cons, e1]
  exact va_tb X.1 X.2.1 hT hS (mj_vpin hi) rfl hd kk
theorem mj_r_alenc (X : mj_Cx p R s m args c G E own cc nL d h0) {j : Nat} (hd : decode cc pc = .ok (.arraylength, 1)) (hj : j < 3 ∨ (8 ≤ j ∧ j < 13)) (kk : mj_WW p l e R s m args below meth c Q G nL h0 (pc + 1) ls (.int (Int32.ofNat (E j).1) :: st) h) : mj_WW p l e R s m args below meth c Q G nL h0 pc ls (.retAddr j :: st) h := by
  obtain ⟨ad, q1, q2, q3, q4, q5, q6, q7, q8, q9⟩ := X.2.2.2.2.2.2.1
  have e1 : mj_cv G (.retAddr j) = .ref (ad j) := q1 j (by omega)
  refine mj_r_st (fun H LS locs cells slots hP hl hS kk => ?_) kk
  rw [List.map_cons, e1]
  rcases hj with hj | ⟨h8, hj⟩
  · exact va_tlen X.1 X.2.1 (q3 j hj) hS rfl hd kk
  · have hT := (q4 (j - 5) (by omega) (by omega)).2.2.2
    rw [show j - 5 + 5 = j by omega] at hT
    exact va_tlen X.1 X.2.1 hT hS rfl hd kk
theorem mj_r_alen (X : mj_Cx p R s m args c G E own cc nL d h0) {a : Nat} (hd : decode cc pc = .ok (.arraylength, 1)) (hkd : 100 ≤ mj_kd h a ∧ mj_kd h a < 104) (kk : mj_WW p l e R s m args below meth c Q G nL h0 (pc + 1) ls (.int (Int32.ofNat (mj_ln h a)) :: st) h) : mj_WW p l e R s m args below meth c Q G nL h0 pc ls (.ref a :: st) h := by
  have hcase : mj_kd h a = 100 ∨ mj_kd h a = 101 ∨ mj_kd h a = 102 ∨ mj_kd h a = 103 := by omega
  refine mj_r_st (fun H LS locs cells slots hP hl hS kk => ?_) kk
  rcases hcase with q | q | q | q
  · exact va_alen X.1 X.2.1 X.2.2.2.2.2.1 hP a 0 (x := (mj_ln h a, .inl (h.1 a))) (mj_ws_kd q (by decide)) (ty := .int) rfl rfl hd kk
  · exact va_alen X.1 X.2.1 X.2.2.2.2.2.1 hP a 1 (x := (mj_ln h a, .inr (.inl (h.2.1 a)))) (mj_ws_kd q (by decide)) (ty := .long) rfl rfl hd kk
  · exact va_alen X.1 X.2.1 X.2.2.2.2.2.1 hP a 2 (x := (mj_ln h a, .inl (h.1 a))) (mj_ws_kd q (by decide)) (ty := .byte) rfl rfl hd kk
  · exact va_alen X.1 X.2.1 X.2.2.2.2.2.1 hP a 3 (x := (mj_ln h a, .inr (.inr (.inr (.inr (fun i => mj_op G (h.2.2.1 a i))))))) (mj_ws_kd q (by decide)) (ty := .object "LastToWince$Room") rfl rfl hd kk
theorem mj_sm {h' : mj_H} (hc : h'.2.2.2 = h.2.2.2) : mj_mc h0 h' = mj_mc h0 h ∧ mj_ms h0 h' = mj_ms h0 h := by
  unfold mj_mc mj_ms mj_sl; rw [hc]; exact ⟨rfl, rfl⟩
theorem mj_ws_ai {a i kd : Nat} {x : Int32} (hkd : mj_kd h a = kd) (hk : kd = 100 ∨ kd = 102) : mj_ws G (mj_wi (mj_u h.1 a i x) h) = (mj_ws G h).set a (G.1 + a, .inl ((if kd = 100 then G.2.2.2.2.1 else G.2.2.2.2.2.2.1), mj_ln h a, .inl (upd (h.1 a) i x))) := by
  rw [mj_ws_set (h := h) (h' := mj_wi (mj_u h.1 a i x) h) (a := a) (kd := kd) (ln := mj_ln h a) rfl hkd rfl (fun b hb => mj_en_ext (fun y => by simp only [mj_wi, mj_u]; rw [if_neg (fun z => hb z.1)]) (fun _ => rfl) (fun _ => rfl))]
  have e : (mj_wi (mj_u h.1 a i x) h).1 a = upd (h.1 a) i x := by
    funext y; simp only [mj_wi, mj_u, upd, true_and]
  rcases hk with rfl | rfl
  · rw [mj_en_100, e, if_pos rfl]
  · rw [mj_en_102, e, if_neg (by decide)]
theorem mj_r_iast (X : mj_Cx p R s m args c G E own cc nL d h0) {a : Nat} {i x : Int32} (hd : decode cc pc = .ok (.iastore, 1)) (hkd : mj_kd h a = 100) (hi : 0 ≤ i ∧ i.toNatClampNeg < mj_ln h a) (kk : mj_WW p l e R s m args below meth c Q G nL h0 (pc + 1) ls st (mj_wi (mj_u h.1 a i.toNatClampNeg x) h)) : mj_WW p l e R s m args below meth c Q G nL h0 pc ls (.int x :: .int i :: .ref a :: st) h := by
  intro H LS locs hp hP hl hlen hS
  refine va_iast X.1 X.2.1 X.2.2.2.2.2.1 hP (mj_ws_D G h) hS a 0 (mj_ws_kd hkd (by decide)) rfl (mj_vpin hi) hd (fun H1 locs1 z1 z2 z3 => ?_)
  have hws := mj_ws_ai (G := G) (i := i.toNatClampNeg) (x := x) hkd (Or.inl rfl)
  rw [if_pos rfl] at hws
  rw [← hws] at z1
  exact kk H1 LS locs1 hp z1 hl hlen z3
theorem mj_r_bast (X : mj_Cx p R s m args c G E own cc nL d h0) {a : Nat} {i x : Int32} (hd : decode cc pc = .ok (.bastore, 1)) (hkd : mj_kd h a = 102) (hi : 0 ≤ i ∧ i.toNatClampNeg < mj_ln h a) (kk : mj_WW p l e R s m args below meth c Q G nL h0 (pc + 1) ls st (mj_wi (mj_u h.1 a i.toNatClampNeg x.toInt8.toInt32) h)) : mj_WW p l e R s m args below meth c Q G nL h0 pc ls (.int x :: .int i :: .ref a :: st) h := by
  intro H LS locs hp hP hl hlen hS
  refine va_bast X.1 X.2.1 X.2.2.2.2.2.1 hP (mj_ws_D G h) hS a 2 (mj_ws_kd hkd (by decide)) rfl (mj_vpin hi) hd (fun H1 locs1 z1 z2 z3 => ?_)
  have hws := mj_ws_ai (G := G) (i := i.toNatClampNeg) (x := x.toInt8.toInt32) hkd (Or.inr rfl)
  rw [if_neg (by decide)] at hws
  have e : vp_nar .byte x = x.toInt8.toInt32 := rfl
  rw [e, ← hws] at z1
  exact kk H1 LS locs1 hp z1 hl hlen z3
theorem mj_r_last (X : mj_Cx p R s m args c G E own cc nL d h0) {a : Nat} {i : Int32} {x : Int64} (hd : decode cc pc = .ok (.lastore, 1)) (hkd : mj_kd h a = 101) (hi : 0 ≤ i ∧ i.toNatClampNeg < mj_ln h a) (kk : mj_WW p l e R s m args below meth c Q G nL h0 (pc + 1) ls st (mj_wl (mj_u h.2.1 a i.toNatClampNeg x) h)) : mj_WW p l e R s m args below meth c Q G nL h0 pc ls (.long x :: .int i :: .ref a :: st) h := by
  intro H LS locs hp hP hl hlen hS
  refine va_last X.1 X.2.1 X.2.2.2.2.2.1 hP (mj_ws_D G h) hS a 1 (mj_ws_kd hkd (by decide)) rfl (mj_vpin hi) hd (fun H1 locs1 z1 z2 z3 => ?_)
  have hws : mj_ws G (mj_wl (mj_u h.2.1 a i.toNatClampNeg x) h) = (mj_ws G h).set a (G.1 + a, .inl (G.2.2.2.2.2.1, mj_ln h a, .inr (.inl (vp_updL (h.2.1 a) i.toNatClampNeg x)))) := by
    rw [mj_ws_set (h := h) (h' := mj_wl (mj_u h.2.1 a i.toNatClampNeg x) h) (a := a) (kd := 101) (ln := mj_ln h a) rfl hkd rfl (fun b hb => mj_en_ext (fun _ => rfl) (fun y => by simp only [mj_wl, mj_u]; rw [if_neg (fun z => hb z.1)]) (fun _ => rfl))]
    have e : (mj_wl (mj_u h.2.1 a i.toNatClampNeg x) h).2.1 a = vp_updL (h.2.1 a) i.toNatClampNeg x := by
      funext y; simp only [mj_wl, mj_u, vp_updL, true_and]
    rw [mj_en_101, e]
  rw [← hws] at z1
  exact kk H1 LS locs1 hp z1 hl hlen z3
theorem mj_r_aast (X : mj_Cx p R s m args c G E own cc nL d h0) {a x : Nat} {i : Int32} (hd : decode cc pc = .ok (.aastore, 1)) (hkd : mj_kd h a = 103) (hkx : mj_kd h x = 7) (hi : 0 ≤ i ∧ i.toNatClampNeg < mj_ln h a) (kk : mj_WW p l e R s m args below meth c Q G nL h0 (pc + 1) ls st (mj_wr (mj_u h.2.2.1 a i.toNatClampNeg (.ref x)) h)) : mj_WW p l e R s m args below meth c Q G nL h0 pc ls (.ref x :: .int i :: .ref a :: st) h := by
  intro H LS locs hp hP hl hlen hS
  have hx : (mj_ws G h)[x]? = some (G.1 + x, .inr (7, mj_ob G h x 7)) := by rw [mj_ws_kd hkx (by decide), mj_en_ob (by decide)]
  refine va_astq (r := (RX7, TX7, 17)) X.1 X.2.1 X.2.2.2.2.2.1 hP (mj_ws_D G h) hS a 3 x 7 (mj_ws_kd hkd (by decide)) rfl hx rfl (mj_vpin hi) hd (fun H1 locs1 z1 z2 z3 => ?_)
  have hws : mj_ws G (mj_wr (mj_u h.2.2.1 a i.toNatClampNeg (.ref x)) h) = (mj_ws G h).set a (G.1 + a, .inl (G.2.2.2.2.2.2.2, mj_ln h a, .inr (.inr (.inr (.inr (va_up (fun i => mj_op G (h.2.2.1 a i)) i.toNatClampNeg (some (G.1 + x)))))))) := by
    rw [mj_ws_set (h := h) (h' := mj_wr (mj_u h.2.2.1 a i.toNatClampNeg (.ref x)) h) (a := a) (kd := 103) (ln := mj_ln h a) rfl hkd rfl (fun b hb => mj_en_ext (fun _ => rfl) (fun _ => rfl) (fun y => by simp only [mj_wr, mj_u]; rw [if_neg (fun z => hb z.1)]))]
    have e : (fun j => mj_op G ((mj_wr (mj_u h.2.2.1 a i.toNatClampNeg (.ref x)) h).2.2.1 a j)) = va_up (fun i => mj_op G (h.2.2.1 a i)) i.toNatClampNeg (some (G.1 + x)) := by
      funext y
      simp only [mj_wr, mj_u, va_up, true_and]
      by_cases hy : y = i.toNatClampNeg
      · rw [if_pos hy, if_pos hy]; rfl
      · rw [if_neg hy, if_neg hy]
    rw [mj_en_103, e]
  rw [← hws] at z1
  exact kk H1 LS locs1 hp z1 hl hlen z3
theorem mj_nn {i : Int32} (h : 0 ≤ i) : ¬ i < 0 := Int32.not_lt.mpr h
theorem mj_r_copy (X : mj_Cx p R s m args c G E own cc nL d h0) (hnat : Cond.native arraycopyName ∈ mj_WSG) (hsta : Cond.static arraycopyName ∈ mj_WSG) (hini : Cond.initialized "java/lang/System" ∈ mj_WSG) (hfw : nativeFrameWords "java/lang/System" "arraycopy" 5 + 11 + 8 ≤ 64) {a b idx : Nat} {n dp sp : Int32} (hd : decode cc pc = .ok (.invokestatic idx, 3)) (hw : Cond.methodLink own idx arraycopyName ∈ mj_WSG) (hka : mj_kd h a = 100) (hkb : mj_kd h b = 100) (hcat : st.length ≤ 4)
    (h1 : 0 ≤ sp) (h2 : 0 ≤ dp) (h3 : 0 ≤ n) (h4 : sp.toNatClampNeg + n.toNatClampNeg ≤ mj_ln h a) (h5 : dp.toNatClampNeg + n.toNatClampNeg ≤ mj_ln h b)
    (kk : mj_WW p l e R s m args below meth c Q G nL h0 (pc + 3) ls st (mj_wi (mj_ur h.1 b (fun k => if dp.toNatClampNeg ≤ k ∧ k < dp.toNatClampNeg + n.toNatClampNeg then h.1 a (sp.toNatClampNeg + (k - dp.toNatClampNeg)) else h.1 b k)) h)) : mj_WW p l e R s m args below meth c Q G nL h0 pc ls (.int n :: .int dp :: .ref b :: .int sp :: .ref a :: st) h := by
  intro H LS locs hp hP hl hlen hS
  have hcs : ∀ (z : List Value), (z.map fun v => v.category).sum ≤ 2 * z.length := by
    intro z
    induction z with
    | nil => exact Nat.le_refl _
    | cons v t ih =>
      have : v.category ≤ 2 := by cases v <;> simp [Value.category]
      simp only [List.map_cons, List.sum_cons, List.length_cons]; omega
  have hc1 := hcs (st.map (mj_cv G))
  rw [List.length_map] at hc1
  have hX11 : d + 1 ≤ R.frames ∧ 64 * d + 64 ≤ R.locals := X.2.2.2.2.2.2.2.2.2
  refine va_copyi X.1 X.2.1 (X.2.2.1.trans hl.1.symm) X.2.2.2.1 (X.2.2.2.2.1 _ hw) (X.2.2.2.2.1 _ hnat) (X.2.2.2.2.1 _ hsta) (X.2.2.2.2.1 _ hini) X.2.2.2.2.2.1 hP (mj_ws_D G h) hS a b 0 0 (ty := .int) (mj_ws_kd hka (by decide)) (mj_ws_kd hkb (by decide)) rfl rfl rfl (mj_nn h1) (mj_nn h2) (mj_nn h3) h4 h5 (fun _ _ => rfl) (by omega) (by omega) hd (fun H1 locs1 z1 z2 z3 => ?_)
  have hws : mj_ws G (mj_wi (mj_ur h.1 b (fun k => if dp.toNatClampNeg ≤ k ∧ k < dp.toNatClampNeg + n.toNatClampNeg then h.1 a (sp.toNatClampNeg + (k - dp.toNatClampNeg)) else h.1 b k)) h) = (mj_ws G h).set b (G.1 + b, .inl (G.2.2.2.2.1, mj_ln h b, .inl (va_cpy (h.1 a) (h.1 b) sp.toNatClampNeg dp.toNatClampNeg n.toNatClampNeg))) := by
    rw [mj_ws_set (h := h) (h' := mj_wi (mj_ur h.1 b (fun k => if dp.toNatClampNeg ≤ k ∧ k < dp.toNatClampNeg + n.toNatClampNeg then h.1 a (sp.toNatClampNeg + (k - dp.toNatClampNeg)) else h.1 b k)) h) (a := b) (kd := 100) (ln := mj_ln h b) rfl hkb rfl (fun b' hb => mj_en_ext (fun y => by simp only [mj_wi, mj_ur]; rw [if_neg hb]) (fun _ => rfl) (fun _ => rfl))]
    have e : (mj_wi (mj_ur h.1 b (fun k => if dp.toNatClampNeg ≤ k ∧ k < dp.toNatClampNeg + n.toNatClampNeg then h.1 a (sp.toNatClampNeg + (k - dp.toNatClampNeg)) else h.1 b k)) h).1 b = va_cpy (h.1 a) (h.1 b) sp.toNatClampNeg dp.toNatClampNeg n.toNatClampNeg := by
      funext y; simp only [mj_wi, mj_ur, if_true, va_cpy]
    rw [mj_en_100, e]
  rw [← hws] at z1
  exact kk H1 LS locs1 hp z1 hl hlen z3
end MJU
