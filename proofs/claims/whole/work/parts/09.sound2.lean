section MJT
variable {p : Program} {l : Launch} {e : Env} {R : Room} {s : State} {m : MethodId} {args : Array Value} {below : List Frame} {meth : Method} {c : Code} {Q : State → Prop} {G : mj_G} {E : mj_E} {own : String} {cc : ByteArray} {nL d : Nat} {h0 : mj_H}
variable {pc tgt : Nat} {ls st : List Value} {h : mj_H}
theorem mj_r_iinc (X : mj_Cx p R s m args c G E own cc nL d h0) {i : Nat} {n : Int} {x v : Int32} (hd : decode cc pc = .ok (.iinc i n, 3)) (ha : mj_at ls i = .int x) (hv : Int32.ofInt n = v) (k : mj_WW p l e R s m args below meth c Q G nL h0 (pc + 3) (mj_sto ls i (.int (x + v))) st h) : mj_WW p l e R s m args below meth c Q G nL h0 pc ls st h := by
  intro H LS locs a0 a1 a2 a3 a4
  subst hv
  have hi : i < ls.length := mj_at_lt (by rw [ha]; rfl)
  have hm : (i, Value.int x) ∈ mj_lv (mj_cv G) 0 ls := by rw [mj_lv_mem]; simp [ha, mj_fl, mj_cv]
  obtain ⟨q, hq⟩ := List.getElem?_of_mem hm
  exact lv_iinc X.1 X.2.1 hd a2 (k := q) hq rfl (by rw [← a3]; exact hi) rfl (fun LS' hl' => k H LS' locs a0 a1 (mj_lv_sto X.2.2.2.2.2.2.1 hi hl') ((mj_sto_len _ _ _).trans a3) a4)
theorem mj_r_aloadc (X : mj_Cx p R s m args c G E own cc nL d h0) {n j : Nat} (hd : decode cc pc = .ok (.aload n, 2)) (ha : mj_at ls n = .retAddr j) (hj : j < 13) (k : mj_WW p l e R s m args below meth c Q G nL h0 (pc + 2) ls (.retAddr j :: st) h) : mj_WW p l e R s m args below meth c Q G nL h0 pc ls st h := by
  obtain ⟨ad, h1, h2, -⟩ := X.2.2.2.2.2.2.1
  have e1 : mj_cv G (.retAddr j) = .ref (ad j) := h1 j hj
  refine mj_r_st (fun H LS locs cells slots hP hl hS kk => ?_) k
  have := mj_lv_at hl ha rfl
  rw [e1] at this
  rw [List.map_cons, e1] at kk
  exact lv_aload X.1 X.2.1 hd this kk
theorem mj_r_aloadc_n (X : mj_Cx p R s m args c G E own cc nL d h0) {n : Fin 4} {j : Nat} (hd : decode cc pc = .ok (.aload_n n, 1)) (ha : mj_at ls (n : Nat) = .retAddr j) (hj : j < 13) (k : mj_WW p l e R s m args below meth c Q G nL h0 (pc + 1) ls (.retAddr j :: st) h) : mj_WW p l e R s m args below meth c Q G nL h0 pc ls st h := by
  obtain ⟨ad, h1, h2, -⟩ := X.2.2.2.2.2.2.1
  have e1 : mj_cv G (.retAddr j) = .ref (ad j) := h1 j hj
  refine mj_r_st (fun H LS locs cells slots hP hl hS kk => ?_) k
  have := mj_lv_at hl ha rfl
  rw [e1] at this
  rw [List.map_cons, e1] at kk
  exact lv_aload_n X.1 X.2.1 hd rfl this kk
theorem mj_r_ldcs (X : mj_Cx p R s m args c G E own cc nL d h0) {k j : Nat} (hd : decode cc pc = .ok (.ldc k, 2)) (hw : Cond.stringRef own k (mj_tx j) ∈ lw_tbl) (h3 : 3 ≤ j) (h8 : j < 8) (kk : mj_WW p l e R s m args below meth c Q G nL h0 (pc + 2) ls (.retAddr j :: st) h) : mj_WW p l e R s m args below meth c Q G nL h0 pc ls st h := by
  obtain ⟨ad, q1, q2, q3, q4, q5, q6, q7, q8, q9⟩ := X.2.2.2.2.2.2.1
  have e1 : mj_cv G (.retAddr j) = .ref (ad j) := q1 j (by omega)
  refine mj_r_st (fun H LS locs cells slots hP hl hS kk => ?_) kk
  rw [List.map_cons, e1] at kk
  exact va_ldcS X.1 X.2.1 X.2.2.2.1 (q9 own k _ j hw h3 h8 rfl) hd kk
theorem mj_r_gets0 (X : mj_Cx p R s m args c G E own cc nL d h0) {k : Nat} (hd : decode cc pc = .ok (.getstatic k, 3)) (hw : Cond.fieldLink own k "LastToWince" "SET_MOST" "[I" ∈ mj_WSG) (kk : mj_WW p l e R s m args below meth c Q G nL h0 (pc + 3) ls (.retAddr 1 :: st) h) : mj_WW p l e R s m args below meth c Q G nL h0 pc ls st h := by
  obtain ⟨ad, q1, q2, q3, q4, q5, q6, q7, q8, q9⟩ := X.2.2.2.2.2.2.1
  exact mj_r_st (fun H LS locs cells slots hP hl hS kk => va_gets X.1 X.2.1 q5 hS X.2.2.2.1 (X.2.2.2.2.1 _ hw) (fun _ h => h) hd kk) kk
theorem mj_r_gets1 (X : mj_Cx p R s m args c G E own cc nL d h0) {k : Nat} (hd : decode cc pc = .ok (.getstatic k, 3)) (hw : Cond.fieldLinkNest own k "LastToWince" "TOLD_MOST" "[I" "LastToWince" ∈ lw_tbl) (kk : mj_WW p l e R s m args below meth c Q G nL h0 (pc + 3) ls (.retAddr 2 :: st) h) : mj_WW p l e R s m args below meth c Q G nL h0 pc ls st h := by
  obtain ⟨ad, q1, q2, q3, q4, q5, q6, q7, q8, q9⟩ := X.2.2.2.2.2.2.1
  exact mj_r_st (fun H LS locs cells slots hP hl hS kk => va_getsN X.1 X.2.1 q6 hS X.2.2.2.1 ((X.2.2.2.2.2.2.2.1.1 _ hw rfl).use rfl) (fun _ h => h) hd kk) kk
theorem mj_r_gets2 (X : mj_Cx p R s m args c G E own cc nL d h0) {k : Nat} (hd : decode cc pc = .ok (.getstatic k, 3)) (hw : Cond.fieldLink own k "java/lang/String" "COMPACT_STRINGS" "Z" ∈ mj_WSG) (kk : mj_WW p l e R s m args below meth c Q G nL h0 (pc + 3) ls (.int 1 :: st) h) : mj_WW p l e R s m args below meth c Q G nL h0 pc ls st h := by
  obtain ⟨ad, q1, q2, q3, q4, q5, q6, q7, q8, q9⟩ := X.2.2.2.2.2.2.1
  exact mj_r_st (fun H LS locs cells slots hP hl hS kk => va_gets X.1 X.2.1 q7 hS X.2.2.2.1 (X.2.2.2.2.1 _ hw) (fun _ h => h) hd kk) kk
theorem mj_r_gets3 (X : mj_Cx p R s m args c G E own cc nL d h0) {k : Nat} (hd : decode cc pc = .ok (.getstatic k, 3)) (hw : Cond.fieldLink own k "jdk/internal/util/Preconditions" "SIOOBE_FORMATTER" "Ljava/util/function/BiFunction;" ∈ mj_WSG) (kk : mj_WW p l e R s m args below meth c Q G nL h0 (pc + 3) ls (.retAddr 13 :: st) h) : mj_WW p l e R s m args below meth c Q G nL h0 pc ls st h := by
  obtain ⟨ad, q1, q2, q3, q4, q5, q6, q7, q8, q9⟩ := X.2.2.2.2.2.2.1
  exact mj_r_st (fun H LS locs cells slots hP hl hS kk => va_gets X.1 X.2.1 q8 hS X.2.2.2.1 (X.2.2.2.2.1 _ hw) (fun _ h => h) hd kk) kk
/-! fields -/
def mj_clok : Prop := ∀ (ci : Nat) (q : vw_C), vwCl[ci]? = some q → (∀ w ∈ u_ws q.1 q.2.1 q.2.2, w ∈ mj_WSG) ∧ (∀ a, a < q.2.2 → ∀ b, b < q.2.2 → a ≠ b → (q.2.1 a).2.1 ≠ (q.2.1 b).2.1) ∧ ∃ ty : Nat → FieldType, ∀ k, k < q.2.2 → parseFieldDescriptor (q.2.1 k).2.2.1 = some (ty k) ∧ (∀ v, mj_fc (q.2.1 k).2.2.1 = 0 ∨ mj_fc (q.2.1 k).2.2.1 = 1 → v = defaultValue (ty k) → v = .int 0) ∧ (mj_fc (q.2.1 k).2.2.1 = 2 → defaultValue (ty k) = .long 0) ∧ (mj_fc (q.2.1 k).2.2.1 = 3 → defaultValue (ty k) = .null)
theorem mj_cl_lt {ci : Nat} {q : vw_C} (h : vwCl[ci]? = some q) : ci < 13 := (List.getElem?_eq_some_iff.mp h).1
theorem mj_ob_at {a ci k : Nat} {q : vw_C} (hq : vwCl[ci]? = some q) (hk : k < q.2.2) : (mj_ob G h a ci)[k]? = some (mj_fv G h a (mj_fc (q.2.1 k).2.2.1) k) := by
  unfold mj_ob
  rw [hq]
  simp [hk]
theorem mj_en_ob {a ci ln : Nat} (h1 : ci < 13) : mj_en G h a ci ln = .inr (ci, mj_ob G h a ci) := by
  unfold mj_en
  rw [if_neg (by omega), if_neg (by omega), if_neg (by omega), if_neg (by omega)]
theorem mj_r_getf (hcl : mj_clok) (X : mj_Cx p R s m args c G E own cc nL d h0) {idx a ci k fc : Nat} {q : vw_C} (hd : decode cc pc = .ok (.getfield idx, 3)) (hkd : mj_kd h a = ci) (hq : vwCl[ci]? = some q) (hk : k < q.2.2) (hfc : mj_fc (q.2.1 k).2.2.1 = fc) (hw : Cond.fieldLink own idx (q.2.1 k).1 (q.2.1 k).2.1 (q.2.1 k).2.2.1 ∈ mj_WSG)
    {v : Value} (hv : mj_fv G h a fc k = mj_cv G v) (kk : mj_WW p l e R s m args below meth c Q G nL h0 (pc + 3) ls (v :: st) h) : mj_WW p l e R s m args below meth c Q G nL h0 pc ls (.ref a :: st) h := by
  have h13 := mj_cl_lt hq
  subst hfc
  refine mj_r_st (fun H LS locs cells slots hP hl hS kk => ?_) kk
  have he : (mj_ws G h)[a]? = some (G.1 + a, .inr (ci, mj_ob G h a ci)) := by rw [mj_ws_kd hkd (by omega), mj_en_ob h13]
  exact va_get (C := q.1) (T := q.2.1) (N := q.2.2) X.1 X.2.1 X.2.2.2.2.1 (hcl ci q hq).1 X.2.2.2.1 X.2.2.2.2.2.1 hP a he hq k hk (X.2.2.2.2.1 _ hw) (fun _ h => h) (by rw [mj_ob_at hq hk, hv]) hd kk
theorem mj_r_getv (X : mj_Cx p R s m args c G E own cc nL d h0) {idx j : Nat} (hd : decode cc pc = .ok (.getfield idx, 3)) (h3 : 3 ≤ j) (h8 : j < 8) (hw : Cond.fieldLink own idx "java/lang/String" "value" "[B" ∈ mj_WSG)
    (kk : mj_WW p l e R s m args below meth c Q G nL h0 (pc + 3) ls (.retAddr (j + 5) :: st) h) : mj_WW p l e R s m args below meth c Q G nL h0 pc ls (.retAddr j :: st) h := by
  obtain ⟨ad, q1, q2, q3, q4, q5, q6, q7, q8, q9⟩ := X.2.2.2.2.2.2.1
  have e1 : mj_cv G (.retAddr j) = .ref (ad j) := q1 j (by omega)
  have e2 : mj_cv G (.retAddr (j + 5)) = .ref (ad (j + 5)) := q1 (j + 5) (by omega)
  refine mj_r_st (fun H LS locs cells slots hP hl hS kk => ?_) kk
  rw [List.map_cons, e2] at kk
  rw [List.map_cons, e1]
  exact vk_getf X.1 X.2.1 (q4 j h3 h8).2.2.1 hS X.2.2.2.1 (X.2.2.2.2.1 _ hw) (fun _ h => h) hd kk
theorem mj_r_getc (X : mj_Cx p R s m args c G E own cc nL d h0) {idx j : Nat} (hd : decode cc pc = .ok (.getfield idx, 3)) (h3 : 3 ≤ j) (h8 : j < 8) (hw : Cond.fieldLink own idx "java/lang/String" "coder" "B" ∈ mj_WSG)
    (kk : mj_WW p l e R s m args below meth c Q G nL h0 (pc + 3) ls (.int 0 :: st) h) : mj_WW p l e R s m args below meth c Q G nL h0 pc ls (.retAddr j :: st) h := by
  obtain ⟨ad, q1, q2, q3, q4, q5, q6, q7, q8, q9⟩ := X.2.2.2.2.2.2.1
  have e1 : mj_cv G (.retAddr j) = .ref (ad j) := q1 j (by omega)
  refine mj_r_st (fun H LS locs cells slots hP hl hS kk => ?_) kk
  rw [List.map_cons, e1]
  exact vk_getf X.1 X.2.1 (q4 j h3 h8).2.1 hS X.2.2.2.1 (X.2.2.2.2.1 _ hw) (fun _ h => h) hd kk
/-- a heap that differs in one object's field alone -/
theorem mj_ws_put {h' : mj_H} {a ci k : Nat} {q : vw_C} {v : Value} (hc : h'.2.2.2 = h.2.2.2) (hkd : mj_kd h a = ci) (hq : vwCl[ci]? = some q) (hk : k < q.2.2)
    (ho : ∀ b y, ¬ (b = a ∧ y = k) → h'.1 b y = h.1 b y ∧ h'.2.1 b y = h.2.1 b y ∧ h'.2.2.1 b y = h.2.2.1 b y) (hv : mj_fv G h' a (mj_fc (q.2.1 k).2.2.1) k = v) : mj_ws G h' = (mj_ws G h).set a (G.1 + a, .inr (ci, (mj_ob G h a ci).set k v)) := by
  have h13 := mj_cl_lt hq
  rw [mj_ws_set (h := h) (h' := h') (a := a) (kd := ci) (ln := mj_ln h a) hc hkd rfl (fun b hb => mj_en_ext (fun y => (ho b y (fun z => hb z.1)).1) (fun y => (ho b y (fun z => hb z.1)).2.1) (fun y => (ho b y (fun z => hb z.1)).2.2)), mj_en_ob h13]
  have e : mj_ob G h' a ci = (mj_ob G h a ci).set k v := by
    unfold mj_ob
    rw [hq]
    apply List.ext_getElem?
    intro j
    rw [List.getElem?_set]
    by_cases hj : j < q.2.2
    · by_cases ej : k = j
      · subst ej
        simp [hj, hv]
      · rw [if_neg ej]
        simp only [List.getElem?_map, List.getElem?_range hj, Option.map_some, Option.some.injEq]
        unfold mj_fv
        obtain ⟨z1, z2, z3⟩ := ho a j (fun z => ej z.2.symm)
        rw [z1, z2, z3]
    · have n1 : (List.range q.2.2)[j]? = none := by rw [List.getElem?_eq_none_iff]; simp; omega
      simp only [List.getElem?_map, n1, Option.map_none]
      by_cases ej : k = j
      · subst ej; exact absurd hk hj
      · rw [if_neg ej]
  rw [e]
theorem mj_r_putf (hcl : mj_clok) (X : mj_Cx p R s m args c G E own cc nL d h0) {h' : mj_H} {idx a ci k : Nat} {q : vw_C} (hd : decode cc pc = .ok (.putfield idx, 3)) (hkd : mj_kd h a = ci) (hq : vwCl[ci]? = some q) (hk : k < q.2.2) (hw : Cond.fieldLink own idx (q.2.1 k).1 (q.2.1 k).2.1 (q.2.1 k).2.2.1 ∈ mj_WSG) (hfin : (q.2.1 k).2.2.2 = false ∨ ((q.2.1 k).2.2.2 = true ∧ meth.name = "<init>" ∧ (q.2.1 k).1 = own))
    {ty : FieldType} {v : Value} (hty : parseFieldDescriptor (q.2.1 k).2.2.1 = some ty) (hn : narrow ty (mj_cv G v) = mj_cv G v) (hfit : fits ty (mj_cv G v) = true) (hc : h'.2.2.2 = h.2.2.2)
    (ho : ∀ b y, ¬ (b = a ∧ y = k) → h'.1 b y = h.1 b y ∧ h'.2.1 b y = h.2.1 b y ∧ h'.2.2.1 b y = h.2.2.1 b y) (hv : mj_fv G h' a (mj_fc (q.2.1 k).2.2.1) k = mj_cv G v)
    (kk : mj_WW p l e R s m args below meth c Q G nL h0 (pc + 3) ls st h') : mj_WW p l e R s m args below meth c Q G nL h0 pc ls (v :: .ref a :: st) h := by
  have h13 := mj_cl_lt hq
  intro H LS locs hp hP hl hlen hS
  have hp' : mj_pf h0 h' := by obtain ⟨t, ht⟩ := hp; exact ⟨t, by rw [hc, ht]⟩
  have he : (mj_ws G h)[a]? = some (G.1 + a, .inr (ci, mj_ob G h a ci)) := by rw [mj_ws_kd hkd (by omega), mj_en_ob h13]
  obtain ⟨g1, g2, ty0, g3⟩ := hcl ci q hq
  have hl2 : k < (mj_ob G h a ci).length := by unfold mj_ob; rw [hq]; simpa using hk
  have hws := mj_ws_put (G := G) hc hkd hq hk ho hv
  have hmc : mj_mc h0 h' = mj_mc h0 h := by unfold mj_mc; rw [hc]
  have hms : mj_ms h0 h' = mj_ms h0 h := by unfold mj_ms mj_sl; rw [hc]
  have fin : ∀ (H1 : Heap) (locs1 : List Loc), va_P (mj_D G) vwCl ((mj_ws G h).set a (G.1 + a, .inr (ci, (mj_ob G h a ci).set k (mj_cv G v)))) H1 → va_D (mj_A G) ((mj_ws G h).set a (G.1 + a, .inr (ci, (mj_ob G h a ci).set k (mj_cv G v)))) → va_S (mj_A G) s.heap H1 locs1 → W p l e R s m args below meth c H1 locs1 (mj_mc h0 h) (mj_ms h0 h) Q (F0 m (pc + 3) LS (st.map (mj_cv G))) := by
    intro H1 locs1 z1 z2 z3
    rw [← hws] at z1
    have := kk H1 LS locs1 hp' z1 hl hlen z3
    rw [hmc, hms] at this
    exact this
  rcases hfin with hf | ⟨hf, hi, ho2⟩
  · exact va_put (C := q.1) (T := q.2.1) (N := q.2.2) X.1 X.2.1 X.2.2.2.2.1 g1 ty0 (fun k hk => (g3 k hk).1) g2 X.2.2.2.1 X.2.2.2.2.2.1 hP (mj_ws_D G h) hS a he hq k hk (X.2.2.2.2.1 _ hw) (fun _ h => h) hf hty hn hfit hl2 hd fin
  · exact va_putF (C := q.1) (T := q.2.1) (N := q.2.2) X.1 X.2.1 X.2.2.2.2.1 g1 ty0 (fun k hk => (g3 k hk).1) g2 X.2.2.2.1 X.2.2.2.2.2.1 hP (mj_ws_D G h) hS a he hq k hk (X.2.2.2.2.1 _ hw) (fun _ h => h) hf hi ho2 hty hn hfit hl2 hd fin
end MJT
