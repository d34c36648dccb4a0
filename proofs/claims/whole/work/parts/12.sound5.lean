section MJC
variable {p : Program} {l : Launch} {e : Env} {R : Room} {s : State} {m : MethodId} {args : Array Value} {below : List Frame} {meth : Method} {c : Code} {Q : State → Prop} {G : mj_G} {E : mj_E} {own : String} {cc : ByteArray} {nL d : Nat} {h0 : mj_H}
variable {pc tgt : Nat} {ls st : List Value} {h : mj_H} {P : Nat → mj_Me}
theorem mj_cat_cv (hC : mj_Cst G E s s.heap) (z : List Value) : ((z.map (mj_cv G)).map fun v => v.category).sum = mj_cat z := by
  obtain ⟨ad, -, h2, -⟩ := hC
  induction z with
  | nil => rfl
  | cons v t ih =>
    rw [List.map_cons, List.map_cons, List.sum_cons, ih]
    cases v with
    | retAddr j => rw [show mj_cv G (.retAddr j) = G.2.1 j from rfl, (h2 j).1]; rfl
    | _ => rfl
theorem mj_blind (as : List Value) : FrameBlind (va_Pc (as.map (mj_cv G)) (mj_St G E h)) := by
  intro a U g mk q
  obtain ⟨q0, q1, q2, q3, q4, q5⟩ := q
  exact ⟨q0, q1, q2, va_K.moved (u := U) (U := U.calling g mk a) (Vm.Alike.refl U.vm) q3, mj_Cst.same (u := U) (U := U.calling g mk a) rfl q4, mj_Nst.same (u := U) (U := U.calling g mk a) rfl q5⟩
theorem mj_pre (X : mj_Cx p R s m args c G E own cc nL d h0) {H : Heap} {locs : List Loc} (hsz : H.size = G.1 + h.2.2.2.length) (hP : va_P (mj_D G) vwCl (mj_ws G h) H) (hS : va_S (mj_A G) s.heap H locs) (as : List Value) : ∀ U : State, U.heap = H → s.WarmedH U.vm → va_Pc (as.map (mj_cv G)) (mj_St G E h) (as.map (mj_cv G)).toArray U := by
  intro U hU hW
  refine ⟨rfl, by rw [hU]; exact hsz, by rw [hU]; exact hP, va_K.moved hW.alike X.2.2.2.2.2.1, ?_, mj_Nst.go hW X.2.2.2.2.2.2.2.1⟩
  rw [hU]
  exact mj_Cst.go hW hS X.2.2.2.2.2.2.1
/-- behind a call -/
theorem mj_after {rt mc ms : Nat} {v : Option Value} {h' : mj_H} {rest : List Value} {H : Heap} {LS : Array Slot} {locs : List Loc} {cells slots : Nat} {st0 : List Value} {as : Array Value} {r : Option Value × mj_H} {K : mj_K}
    (hrun : va_Run p l e R s m args below meth c H locs cells slots mc ms (F0 m pc LS st0) (rest.map (mj_cv G)) (mj_Q G v h' as) (mj_A G)) (hS : va_S (mj_A G) s.heap H locs) (hb : mj_back rt (some (v, h')) ls rest K = some r) (hl : lv_has LS nL (mj_lv (mj_cv G) 0 ls)) (hlen : ls.length = nL) (e1 : cells + mc = mj_mc h0 h') (e2 : slots + ms = mj_ms h0 h') (hp : mj_pf h0 h')
    (hK : ∀ ls' st' h'', K ls' st' h'' = some r → mj_WW p l e R s m args below meth c Q G nL h0 (pc + 3) ls' st' h'') : W p l e R s m args below meth c H locs cells slots Q (F0 m pc LS st0) := by
  unfold mj_back at hb
  split at hb
  · unfold mj_bv at hb
    split at hb
    · rename_i heq; cases heq
      refine va_callv (S := Unit) (A1 := mj_A G) (a := as) hrun hS (fun q _ h => h) (fun q h => h) (fun u t H1 locs1 ht hvm hw hB hz hk hS1 => ?_)
      rw [ht] at hB
      have := hK _ _ _ hb H1 LS locs1 hp hB hl hlen hS1
      rw [e1, e2]; exact this
    · cases hb
  · unfold mj_bi at hb
    split at hb
    · rename_i heq; cases heq
      refine va_calli (S := Unit) (A1 := mj_A G) (a := as) hrun hS (fun q _ h => h) (fun q h => h) (fun x u t H1 locs1 ht hvm hw hB hz hk hS1 => ?_)
      rw [ht] at hB
      have := hK _ _ _ hb H1 LS locs1 hp hB hl hlen hS1
      rw [e1, e2, hw]; exact this
    · cases hb
  · unfold mj_bj at hb
    split at hb
    · rename_i heq; cases heq
      refine va_calll (S := Unit) (A1 := mj_A G) (a := as) hrun hS (fun q _ h => h) (fun q h => h) (fun x u t H1 locs1 ht hvm hw hB hz hk hS1 => ?_)
      rw [ht] at hB
      have := hK _ _ _ hb H1 LS locs1 hp hB hl hlen hS1
      rw [e1, e2, hw]; exact this
    · cases hb
  · unfold mj_br at hb
    split at hb
    · rename_i heq; cases heq
      refine va_callr (S := Unit) (A1 := mj_A G) (a := as) hrun hS (fun q _ h => h) (fun q h => h) (fun u ra t H1 locs1 ht hvm hw hB hz hk hS1 => ?_)
      obtain ⟨hra, hB⟩ := hB
      rw [ht] at hB
      have := hK _ _ _ hb H1 LS locs1 hp hB hl hlen hS1
      rw [e1, e2, hra]; exact this
    · cases hb
  · cases hb
theorem mj_good {M : mj_Me} (hw : mj_cw M ∈ mj_WSG) : GoodIn mj_WSG (mj_wsm M) := by
  intro w h
  rcases List.mem_cons.mp h with rfl | h
  · exact ⟨hw, good_of_word (List.mem_filter.mp hw).2⟩
  · exact ⟨h, good_of_word (List.mem_filter.mp h).2⟩
theorem mj_gd {w : Cond} (h : w ∈ mj_WSG) : w ∈ mj_WSG ∧ ((w.onTables && w.keeps) = true ∨ ∃ ty, w = .arrayClass ty) := ⟨h, good_of_word (List.mem_filter.mp h).2⟩
theorem mj_goodV {M : mj_Me} {idx : Nat} {C : String} (hw : mj_cw M ∈ mj_WSG) (h1 : Cond.methodLink own idx M.1 ∈ mj_WSG) (h2 : Cond.instanceMethod M.1 ∈ mj_WSG) (h3 : Cond.selects C M.1 M.1 ∈ mj_WSG) (h4 : Cond.initialized C ∈ mj_WSG) : GoodIn mj_WSG (wsV own idx C M.1 (mj_wsm M)) := by
  intro w h
  unfold wsV at h
  rcases List.mem_append.mp h with h | h
  · simp only [List.mem_cons, List.mem_nil_iff, or_false] at h
    rcases h with rfl | rfl | rfl | rfl <;> apply mj_gd <;> assumption
  · exact mj_good hw w h
theorem mj_goodS {M : mj_Me} {idx : Nat} (hw : mj_cw M ∈ mj_WSG) (h1 : Cond.methodLink own idx M.1 ∈ mj_WSG) (h2 : Cond.static M.1 ∈ mj_WSG) (h4 : Cond.initialized M.1.cls ∈ mj_WSG) : GoodIn mj_WSG (va_wsS own idx M.1 (mj_wsm M)) := by
  intro w h
  unfold va_wsS at h
  rcases List.mem_append.mp h with h | h
  · simp only [List.mem_cons, List.mem_nil_iff, or_false] at h
    rcases h with rfl | rfl | rfl <;> apply mj_gd <;> assumption
  · exact mj_good hw w h
theorem mj_room {d' maxL mc ms : Nat} (X : mj_Cx p R s m args c G E own cc nL (d' + 1) h0) (hm : maxL ≤ 45) : (mj_rm d' mc ms).frames + 1 ≤ R.frames ∧ 8 + (maxL + 11) + (mj_rm d' mc ms).locals ≤ R.locals := by
  have h1 : d' + 1 + 1 ≤ R.frames ∧ 64 * (d' + 1) + 64 ≤ R.locals := X.2.2.2.2.2.2.2.2.2
  unfold mj_rm
  simp only []
  omega
theorem mj_counts {h' : mj_H} (a : mj_pf h0 h) (b : mj_pf h h') : mj_mc h0 h + mj_mc h h' = mj_mc h0 h' ∧ mj_ms h0 h + mj_ms h h' = mj_ms h0 h' := by
  have a1 := a.len; have a2 := a.sl; have b1 := b.len; have b2 := b.sl
  unfold mj_mc mj_ms
  omega
theorem mj_r_static {d' mn n rt idx : Nat} {v : Option Value} {h' : mj_H} {r : Option Value × mj_H} {K : mj_K} (X : mj_Cx p R s m args c G E own cc nL (d' + 1) h0) (hd : decode cc pc = .ok (.invokestatic idx, 3)) (hw1 : Cond.methodLink own idx (P mn).1 ∈ mj_WSG) (hw2 : Cond.static (P mn).1 ∈ mj_WSG) (hw3 : Cond.initialized (P mn).1.cls ∈ mj_WSG) (hw4 : mj_cw (P mn) ∈ mj_WSG) (hok : mj_okn (P mn).1 = true) (hoa : mj_oka (P mn).1 n = true) (hmx : (P mn).2.2.1 ≤ 45)
    (hn : n ≤ st.length) (hcat : mj_cat (st.drop n) ≤ 8) (hpf : mj_pf h0 h) (hpf2 : mj_pf h h') (hfit : mj_mc h0 h' ≤ R.cells ∧ mj_ms h0 h' ≤ R.slots) (hM : mj_Ct l P E G mn d' (st.take n).reverse h v h') (hb : mj_back rt (some (v, h')) ls (st.drop n) K = some r)
    (hK : ∀ ls' st' h'', K ls' st' h'' = some r → mj_WW p l e R s m args below meth c Q G nL h0 (pc + 3) ls' st' h'') : mj_WW p l e R s m args below meth c Q G nL h0 pc ls st h := by
  intro H LS locs hp0 hP hl hlen hS T hT Z
  have hsz := mj_size X hpf.len hP hS hT Z
  obtain ⟨c1, c2⟩ := mj_counts hpf hpf2
  unfold mj_okn at hok
  rw [Bool.and_eq_true, decide_eq_true_eq, decide_eq_true_eq] at hok
  unfold mj_oka at hoa
  rw [decide_eq_true_eq] at hoa
  have hst : st.map (mj_cv G) = ((st.take n).reverse.map (mj_cv G)).reverse ++ (st.drop n).map (mj_cv G) := by
    rw [← List.map_reverse, List.reverse_reverse, ← List.map_append, List.take_append_drop]
  have hlen2 : ((st.take n).reverse.map (mj_cv G)).length = n := by simp; omega
  have hrun := va_runS (p := p) (l := l) (e := e) (R := R) (m := m) (below := below) (meth := meth) (c := c) (H := H) (locs := locs) (cells := mj_mc h0 h) (slots := mj_ms h0 h) (g := F0 m pc LS (st.map (mj_cv G))) (As := (st.take n).reverse.map (mj_cv G)) (rest := (st.drop n).map (mj_cv G)) ⟨X.1, X.2.1, X.2.2.1, X.2.2.2.1, X.2.2.2.2.1⟩ hM
    (va_cwS n X.2.2.2.2.1 (mj_goodS hw4 hw1 hw2 hw3) rfl rfl rfl ⟨hok.1, hok.2, hoa⟩ (mj_room X hmx)) ⟨mj_blind _, mj_pre X hsz hP hS _⟩ rfl hlen2 hl.1 hst (lv_room (by rw [mj_cat_cv X.2.2.2.2.2.2.1]; exact hcat)) hd ⟨by rw [c1]; exact hfit.1, by rw [c2]; exact hfit.2⟩
  exact mj_after hrun hS hb hl hlen c1 c2 (hpf.tr hpf2) hK T hT Z
theorem mj_r_staticN {d' mn n rt idx : Nat} {v : Option Value} {h' : mj_H} {r : Option Value × mj_H} {K : mj_K} (X : mj_Cx p R s m args c G E own cc nL (d' + 1) h0) (hd : decode cc pc = .ok (.invokestatic idx, 3)) (hw1 : Cond.methodLinkNest own idx (P mn).1 "LastToWince" ∈ lw_tbl) (hw2 : Cond.static (P mn).1 ∈ mj_WSG) (hw3 : Cond.initialized (P mn).1.cls ∈ mj_WSG) (hw4 : mj_cw (P mn) ∈ mj_WSG) (hok : mj_okn (P mn).1 = true) (hoa : mj_oka (P mn).1 n = true) (hmx : (P mn).2.2.1 ≤ 45)
    (hn : n ≤ st.length) (hcat : mj_cat (st.drop n) ≤ 8) (hpf : mj_pf h0 h) (hpf2 : mj_pf h h') (hfit : mj_mc h0 h' ≤ R.cells ∧ mj_ms h0 h' ≤ R.slots) (hM : mj_Ct l P E G mn d' (st.take n).reverse h v h') (hb : mj_back rt (some (v, h')) ls (st.drop n) K = some r)
    (hK : ∀ ls' st' h'', K ls' st' h'' = some r → mj_WW p l e R s m args below meth c Q G nL h0 (pc + 3) ls' st' h'') : mj_WW p l e R s m args below meth c Q G nL h0 pc ls st h := by
  intro H LS locs hp0 hP hl hlen hS T hT Z
  have hsz := mj_size X hpf.len hP hS hT Z
  obtain ⟨c1, c2⟩ := mj_counts hpf hpf2
  unfold mj_okn at hok
  rw [Bool.and_eq_true, decide_eq_true_eq, decide_eq_true_eq] at hok
  unfold mj_oka at hoa
  rw [decide_eq_true_eq] at hoa
  have hst : st.map (mj_cv G) = ((st.take n).reverse.map (mj_cv G)).reverse ++ (st.drop n).map (mj_cv G) := by
    rw [← List.map_reverse, List.reverse_reverse, ← List.map_append, List.take_append_drop]
  have hlen2 : ((st.take n).reverse.map (mj_cv G)).length = n := by simp; omega
  have hrun := va_runSN (p := p) (l := l) (e := e) (R := R) (m := m) (below := below) (meth := meth) (c := c) (H := H) (locs := locs) (cells := mj_mc h0 h) (slots := mj_ms h0 h) (g := F0 m pc LS (st.map (mj_cv G))) (As := (st.take n).reverse.map (mj_cv G)) (rest := (st.drop n).map (mj_cv G)) ⟨X.1, X.2.1, X.2.2.1, X.2.2.2.1, X.2.2.2.2.1⟩ hM
    ⟨va_cnB n X.2.2.2.2.1 (mj_good hw4) rfl rfl rfl (X.2.2.2.2.2.2.2.1.1 _ hw1 rfl) (X.2.2.2.2.1 _ hw3) ⟨hok.1, hok.2, hoa⟩ (mj_room X hmx), X.2.2.2.2.1 _ hw2, trivial⟩ ⟨mj_blind _, mj_pre X hsz hP hS _⟩ rfl hlen2 hl.1 hst (lv_room (by rw [mj_cat_cv X.2.2.2.2.2.2.1]; exact hcat)) hd ⟨by rw [c1]; exact hfit.1, by rw [c2]; exact hfit.2⟩
  exact mj_after hrun hS hb hl hlen c1 c2 (hpf.tr hpf2) hK T hT Z
theorem mj_split {n : Nat} {v : Value} {rest : List Value} (hdr : st.drop n = v :: rest) : st.map (mj_cv G) = ((st.take n).reverse.map (mj_cv G)).reverse ++ mj_cv G v :: rest.map (mj_cv G) := by
  rw [← List.map_reverse, List.reverse_reverse, ← List.map_cons, ← hdr, ← List.map_append, List.take_append_drop]
theorem mj_split_len {n : Nat} {v : Value} {rest : List Value} (hdr : st.drop n = v :: rest) : ((st.take n).reverse.map (mj_cv G)).length = n := by
  have : (st.drop n).length = rest.length + 1 := by rw [hdr]; rfl
  rw [List.length_drop] at this
  simp; omega
theorem mj_r_virtual {d' mn n rt idx a ci : Nat} {v : Option Value} {h' : mj_H} {r : Option Value × mj_H} {K : mj_K} {rest : List Value} (X : mj_Cx p R s m args c G E own cc nL (d' + 1) h0) (hd : decode cc pc = .ok (.invokevirtual idx, 3)) (hw1 : Cond.methodLink own idx (P mn).1 ∈ mj_WSG) (hw2 : Cond.instanceMethod (P mn).1 ∈ mj_WSG) (hw5 : Cond.selects (P mn).1.cls (P mn).1 (P mn).1 ∈ mj_WSG) (hw3 : Cond.initialized (P mn).1.cls ∈ mj_WSG) (hw4 : mj_cw (P mn) ∈ mj_WSG) (hcn : mj_cn ci = some (P mn).1.cls) (hok : mj_okn (P mn).1 = true) (hoa : mj_oka (P mn).1 n = true) (hmx : (P mn).2.2.1 ≤ 45)
    (hdr : st.drop n = .ref a :: rest) (hkd : mj_kd h a = ci) (hcat : mj_cat rest ≤ 8) (hpf : mj_pf h0 h) (hpf2 : mj_pf h h') (hfit : mj_mc h0 h' ≤ R.cells ∧ mj_ms h0 h' ≤ R.slots) (hM : mj_Ct l P E G mn d' (.ref a :: (st.take n).reverse) h v h') (hb : mj_back rt (some (v, h')) ls rest K = some r)
    (hK : ∀ ls' st' h'', K ls' st' h'' = some r → mj_WW p l e R s m args below meth c Q G nL h0 (pc + 3) ls' st' h'') : mj_WW p l e R s m args below meth c Q G nL h0 pc ls st h := by
  intro H LS locs hp0 hP hl hlen hS T hT Z
  have hsz := mj_size X hpf.len hP hS hT Z
  obtain ⟨c1, c2⟩ := mj_counts hpf hpf2
  unfold mj_okn at hok
  rw [Bool.and_eq_true, decide_eq_true_eq, decide_eq_true_eq] at hok
  unfold mj_oka at hoa
  rw [decide_eq_true_eq] at hoa
  obtain ⟨q, hq, hqn⟩ : ∃ q : vw_C, vwCl[ci]? = some q ∧ q.1 = (P mn).1.cls := by
    unfold mj_cn at hcn
    cases hz : vwCl[ci]? with
    | none => rw [hz] at hcn; cases hcn
    | some q => rw [hz] at hcn; exact ⟨q, rfl, Option.some.inj hcn⟩
  have h13 := mj_cl_lt hq
  have he : (mj_ws G h)[a]? = some (G.1 + a, .inr (ci, mj_ob G h a ci)) := by rw [mj_ws_kd hkd (by omega), mj_en_ob h13]
  have hrecv := va_recv X.2.2.2.2.2.1 hP hq he
  rw [hqn] at hrecv
  have hrun := va_runV (p := p) (l := l) (e := e) (R := R) (m := m) (below := below) (meth := meth) (c := c) (H := H) (locs := locs) (cells := mj_mc h0 h) (slots := mj_ms h0 h) (g := F0 m pc LS (st.map (mj_cv G))) (b := G.1 + a) (As := (st.take n).reverse.map (mj_cv G)) (rest := rest.map (mj_cv G)) ⟨X.1, X.2.1, X.2.2.1, X.2.2.2.1, X.2.2.2.2.1⟩ hM
    (cwV n X.2.2.2.2.1 (mj_goodV hw4 hw1 hw2 hw5 hw3) rfl rfl rfl ⟨rfl, hok.1, hok.2, hoa⟩ (mj_room X hmx)) ⟨mj_blind _, hrecv, mj_pre X hsz hP hS (.ref a :: (st.take n).reverse)⟩ rfl (mj_split_len hdr) hl.1 (mj_split hdr) (lv_room (by rw [mj_cat_cv X.2.2.2.2.2.2.1]; exact hcat)) hd ⟨by rw [c1]; exact hfit.1, by rw [c2]; exact hfit.2⟩
  exact mj_after hrun hS hb hl hlen c1 c2 (hpf.tr hpf2) hK T hT Z
theorem mj_r_virtualS {d' mn n rt idx j : Nat} {v : Option Value} {h' : mj_H} {r : Option Value × mj_H} {K : mj_K} {rest : List Value} (X : mj_Cx p R s m args c G E own cc nL (d' + 1) h0) (hd : decode cc pc = .ok (.invokevirtual idx, 3)) (hw1 : Cond.methodLink own idx (P mn).1 ∈ mj_WSG) (hw2 : Cond.instanceMethod (P mn).1 ∈ mj_WSG) (hw5 : Cond.selects (P mn).1.cls (P mn).1 (P mn).1 ∈ mj_WSG) (hw3 : Cond.initialized (P mn).1.cls ∈ mj_WSG) (hw4 : mj_cw (P mn) ∈ mj_WSG) (hcn : (P mn).1.cls = "java/lang/String") (hok : mj_okn (P mn).1 = true) (hoa : mj_oka (P mn).1 n = true) (hmx : (P mn).2.2.1 ≤ 45)
    (hdr : st.drop n = .retAddr j :: rest) (h3 : 3 ≤ j) (h8 : j < 8) (hcat : mj_cat rest ≤ 8) (hpf : mj_pf h0 h) (hpf2 : mj_pf h h') (hfit : mj_mc h0 h' ≤ R.cells ∧ mj_ms h0 h' ≤ R.slots) (hM : mj_Ct l P E G mn d' (.retAddr j :: (st.take n).reverse) h v h') (hb : mj_back rt (some (v, h')) ls rest K = some r)
    (hK : ∀ ls' st' h'', K ls' st' h'' = some r → mj_WW p l e R s m args below meth c Q G nL h0 (pc + 3) ls' st' h'') : mj_WW p l e R s m args below meth c Q G nL h0 pc ls st h := by
  intro H LS locs hp0 hP hl hlen hS T hT Z
  have hsz := mj_size X hpf.len hP hS hT Z
  obtain ⟨c1, c2⟩ := mj_counts hpf hpf2
  unfold mj_okn at hok
  rw [Bool.and_eq_true, decide_eq_true_eq, decide_eq_true_eq] at hok
  unfold mj_oka at hoa
  rw [decide_eq_true_eq] at hoa
  obtain ⟨ad, q1, q2, q3, q4, q5, q6, q7, q8, q9⟩ := X.2.2.2.2.2.2.1
  have e1 : mj_cv G (.retAddr j) = .ref (ad j) := q1 j (by omega)
  have hrecv : ∃ cell : Cell, H[ad j]? = some cell ∧ cell.vm.isStatics = false ∧ s.vm.findClass (P mn).1.cls = some cell.cls := by
    obtain ⟨cell, g1, g2, g3, -⟩ := (q4 j h3 h8).1.kept hS.2.1
    exact ⟨cell, g1, g2, by rw [hcn]; exact g3⟩
  have hpre := mj_pre X hsz hP hS (.retAddr j :: (st.take n).reverse)
  have hM' := hM
  unfold mj_Ct at hM'
  rw [List.map_cons, e1] at hM' hpre
  have hbl := mj_blind (G := G) (E := E) (h := h) (.retAddr j :: (st.take n).reverse)
  rw [List.map_cons, e1] at hbl
  have hsp := mj_split (G := G) hdr
  rw [e1] at hsp
  have hrun := va_runV (p := p) (l := l) (e := e) (R := R) (m := m) (below := below) (meth := meth) (c := c) (H := H) (locs := locs) (cells := mj_mc h0 h) (slots := mj_ms h0 h) (g := F0 m pc LS (st.map (mj_cv G))) (b := ad j) (As := (st.take n).reverse.map (mj_cv G)) (rest := rest.map (mj_cv G)) ⟨X.1, X.2.1, X.2.2.1, X.2.2.2.1, X.2.2.2.2.1⟩ hM'
    (cwV n X.2.2.2.2.1 (mj_goodV hw4 hw1 hw2 hw5 hw3) rfl rfl rfl ⟨rfl, hok.1, hok.2, hoa⟩ (mj_room X hmx)) ⟨hbl, hrecv, hpre⟩ rfl (mj_split_len hdr) hl.1 hsp (lv_room (by rw [mj_cat_cv X.2.2.2.2.2.2.1]; exact hcat)) hd ⟨by rw [c1]; exact hfit.1, by rw [c2]; exact hfit.2⟩
  exact mj_after hrun hS hb hl hlen c1 c2 (hpf.tr hpf2) hK T hT Z
theorem mj_r_init {d' mn n idx a : Nat} {nest : Bool} {v : Option Value} {h' : mj_H} {r : Option Value × mj_H} {K : mj_K} {rest : List Value} (X : mj_Cx p R s m args c G E own cc nL (d' + 1) h0) (hd : decode cc pc = .ok (.invokespecial idx, 3)) (hw1 : (nest = false ∧ Cond.methodLink own idx (P mn).1 ∈ mj_WSG) ∨ (nest = true ∧ Cond.methodLinkNest own idx (P mn).1 "LastToWince" ∈ lw_tbl)) (hw2 : Cond.instanceMethod (P mn).1 ∈ mj_WSG) (hw3 : Cond.initialized (P mn).1.cls ∈ mj_WSG) (hw4 : mj_cw (P mn) ∈ mj_WSG) (hin : (P mn).1.name = "<init>") (hrt : (P mn).2.2.2.1 = none) (hok : mj_okn (P mn).1 = true) (hoa : mj_oka (P mn).1 n = true) (hmx : (P mn).2.2.1 ≤ 45)
    (hdr : st.drop n = .ref a :: rest) (hcat : mj_cat rest ≤ 8) (hpf : mj_pf h0 h) (hpf2 : mj_pf h h') (hfit : mj_mc h0 h' ≤ R.cells ∧ mj_ms h0 h' ≤ R.slots) (hM : mj_Ct l P E G mn d' (.ref a :: (st.take n).reverse) h v h') (hb : mj_back 0 (some (v, h')) ls rest K = some r)
    (hK : ∀ ls' st' h'', K ls' st' h'' = some r → mj_WW p l e R s m args below meth c Q G nL h0 (pc + 3) ls' st' h'') : mj_WW p l e R s m args below meth c Q G nL h0 pc ls st h := by
  intro H LS locs hp0 hP hl hlen hS T hT Z
  have hsz := mj_size X hpf.len hP hS hT Z
  obtain ⟨c1, c2⟩ := mj_counts hpf hpf2
  unfold mj_okn at hok
  rw [Bool.and_eq_true, decide_eq_true_eq, decide_eq_true_eq] at hok
  unfold mj_oka at hoa
  rw [decide_eq_true_eq] at hoa
  have hwm : mj_wsm (P mn) = Cond.code (P mn).1 (P mn).2.1 (P mn).2.2.1 none :: mj_WSG := by unfold mj_wsm; rw [hrt]
  rcases hw1 with ⟨-, hw1⟩ | ⟨-, hw1⟩
  · have hrun := va_runI (p := p) (l := l) (e := e) (R := R) (m := m) (below := below) (meth := meth) (c := c) (H := H) (locs := locs) (cells := mj_mc h0 h) (slots := mj_ms h0 h) (g := F0 m pc LS (st.map (mj_cv G))) (b := G.1 + a) (As := (st.take n).reverse.map (mj_cv G)) (rest := rest.map (mj_cv G)) ⟨X.1, X.2.1, X.2.2.1, X.2.2.2.1, X.2.2.2.2.1⟩ hM
      (cwI n X.2.2.2.2.1 (mj_good hw4) hwm rfl rfl (X.2.2.2.2.1 _ hw3) (X.2.2.2.2.1 _ hw1) (X.2.2.2.2.1 _ hw2) hin ⟨hok.1, hok.2, hoa⟩ (mj_room X hmx)) ⟨mj_blind _, mj_pre X hsz hP hS (.ref a :: (st.take n).reverse)⟩ rfl (mj_split_len hdr) hl.1 (mj_split hdr) (lv_room (by rw [mj_cat_cv X.2.2.2.2.2.2.1]; exact hcat)) hd ⟨by rw [c1]; exact hfit.1, by rw [c2]; exact hfit.2⟩
    exact mj_after hrun hS hb hl hlen c1 c2 (hpf.tr hpf2) hK T hT Z
  · have hrun := va_runIN (p := p) (l := l) (e := e) (R := R) (m := m) (below := below) (meth := meth) (c := c) (H := H) (locs := locs) (cells := mj_mc h0 h) (slots := mj_ms h0 h) (g := F0 m pc LS (st.map (mj_cv G))) (b := G.1 + a) (As := (st.take n).reverse.map (mj_cv G)) (rest := rest.map (mj_cv G)) ⟨X.1, X.2.1, X.2.2.1, X.2.2.2.1, X.2.2.2.2.1⟩ hM
      ⟨va_cnB n X.2.2.2.2.1 (mj_good hw4) hwm rfl rfl (X.2.2.2.2.2.2.2.1.1 _ hw1 rfl) (X.2.2.2.2.1 _ hw3) ⟨hok.1, hok.2, hoa⟩ (mj_room X hmx), hin, X.2.2.2.2.1 _ hw2⟩ ⟨mj_blind _, mj_pre X hsz hP hS (.ref a :: (st.take n).reverse)⟩ rfl (mj_split_len hdr) hl.1 (mj_split hdr) (lv_room (by rw [mj_cat_cv X.2.2.2.2.2.2.1]; exact hcat)) hd ⟨by rw [c1]; exact hfit.1, by rw [c2]; exact hfit.2⟩
    exact mj_after hrun hS hb hl hlen c1 c2 (hpf.tr hpf2) hK T hT Z
theorem mj_r_obj (X : mj_Cx p R s m args c G E own cc nL d h0) {a idx : Nat} (hd : decode cc pc = .ok (.invokespecial idx, 3)) (hw1 : Cond.methodLink own idx Lib.objectInit ∈ mj_WSG) (hw2 : Cond.instanceMethod Lib.objectInit ∈ mj_WSG) (hw3 : Cond.code Lib.objectInit ⟨#[0xb1]⟩ 1 none ∈ mj_WSG) (hcat : mj_cat st ≤ 8) (kk : mj_WW p l e R s m args below meth c Q G nL h0 (pc + 3) ls st h) : mj_WW p l e R s m args below meth c Q G nL h0 pc ls (.ref a :: st) h := by
  have hX11 : d + 1 ≤ R.frames ∧ 64 * d + 64 ≤ R.locals := X.2.2.2.2.2.2.2.2.2
  refine mj_r_st (fun H LS locs cells slots hP hl hS kk => ?_) kk
  have hr := lv_room (m := m) (pc := pc) (ls := LS) (rest := (Value.ref a :: st).map (mj_cv G)) (st := st.map (mj_cv G)) (by rw [mj_cat_cv X.2.2.2.2.2.2.1]; exact hcat)
  exact W.objInit X.1 X.2.1 X.2.2.2.1 (X.2.2.2.2.1 _ hw1) (X.2.2.2.2.1 _ hw2) (X.2.2.2.2.1 _ hw3) rfl (hl.1.trans X.2.2.1.symm) rfl hd (by omega) (by omega) kk
end MJC
