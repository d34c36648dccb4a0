/-! each instruction of the small machine, done by the real one -/
def mj_nw : Cond → Bool
  | .methodLinkNest .. => true
  | .fieldLinkNest .. => true
  | _ => false
def mj_Nst (U : State) : Prop := (∀ w ∈ lw_tbl, mj_nw w = true → va_Nw w U) ∧ va_AO "LastToWince$Room" U
def mj_tx : Nat → String
  | 3 => "wince price calm when or and not nerve skin blind winced kind worth word minute dark in"
  | 4 => "say for"
  | 5 => "dealer pinches"
  | 6 => "lot bar \x61dmit dark light"
  | _ => ";+-*/()<=>"
def mj_Cst (G : mj_G) (E : mj_E) (U : State) (H : Heap) : Prop :=
  ∃ ad : Nat → Nat, (∀ j, j < 13 → G.2.1 j = .ref (ad j)) ∧ (∀ j, (G.2.1 j).category = 1 ∧ mj_fl (G.2.1 j) = false) ∧
    (∀ j, j < 3 → va_T .int (ad j) (E j).1 (fun k => .int ((E j).2 k)) (mj_A G) U H) ∧
    (∀ j, 3 ≤ j → j < 8 → va_O "java/lang/String" (ad j) (mj_A G) U H ∧ va_OF "java/lang/String" "coder" "B" (.int 0) (ad j) (mj_A G) U H ∧ va_OF "java/lang/String" "value" "[B" (.ref (ad (j + 5))) (ad j) (mj_A G) U H ∧ va_T .byte (ad (j + 5)) (E (j + 5)).1 (fun k => .int ((E (j + 5)).2 k)) (mj_A G) U H) ∧
    va_Z "LastToWince" "SET_MOST" "[I" (G.2.1 1) (mj_A G) U H ∧ va_Z "LastToWince" "TOLD_MOST" "[I" (G.2.1 2) (mj_A G) U H ∧ va_Z "java/lang/String" "COMPACT_STRINGS" "Z" (.int 1) (mj_A G) U H ∧ va_Z "jdk/internal/util/Preconditions" "SIOOBE_FORMATTER" "Ljava/util/function/BiFunction;" (G.2.1 13) (mj_A G) U H ∧
    (∀ own k tx j, Cond.stringRef own k tx ∈ lw_tbl → 3 ≤ j → j < 8 → mj_tx j = tx → vk_R own k tx (ad j) U)
theorem mj_Cst.same {G : mj_G} {E : mj_E} {u U : State} {H : Heap} (hv : U.vm = u.vm) (h : mj_Cst G E u H) : mj_Cst G E U H := by
  have ha : u.vm.Alike U.vm := by rw [hv]; exact Vm.Alike.refl _
  obtain ⟨ad, h1, h2, h3, h4, h5, h6, h7, h8, h9⟩ := h
  refine ⟨ad, h1, h2, fun j hj => (h3 j hj).moved ha, fun j q1 q2 => ?_, h5.moved ha, h6.moved ha, h7.moved ha, h8.moved ha, fun own k tx j q1 q2 q3 q4 => (h9 own k tx j q1 q2 q3 q4).same hv⟩
  obtain ⟨a, b, c, d⟩ := h4 j q1 q2
  exact ⟨a.moved ha, b.moved ha, c.moved ha, d.moved ha⟩
theorem mj_Cst.go {G : mj_G} {E : mj_E} {s U : State} {H : Heap} {locs : List Loc} (hW : s.WarmedH U.vm) (hS : va_S (mj_A G) s.heap H locs) (h : mj_Cst G E s s.heap) : mj_Cst G E U H := by
  have ha : s.vm.Alike U.vm := hW.alike
  obtain ⟨ad, h1, h2, h3, h4, h5, h6, h7, h8, h9⟩ := h
  refine ⟨ad, h1, h2, fun j hj => ((h3 j hj).moved ha).kept hS.2.1, fun j q1 q2 => ?_, (h5.moved ha).kept hS.2.1, (h6.moved ha).kept hS.2.1, (h7.moved ha).kept hS.2.1, (h8.moved ha).kept hS.2.1, fun own k tx j q1 q2 q3 q4 => (h9 own k tx j q1 q2 q3 q4).warm hW⟩
  obtain ⟨a, b, c, d⟩ := h4 j q1 q2
  exact ⟨(a.moved ha).kept hS.2.1, (b.moved ha).kept hS.2.1, (c.moved ha).kept hS.2.1, (d.moved ha).kept hS.2.1⟩
theorem mj_nw_tab {w : Cond} (h : mj_nw w = true) : w.onTables = true := by
  cases w <;> first | rfl | (simp [mj_nw] at h)
theorem mj_Nst.same {u U : State} (hv : U.vm = u.vm) (h : mj_Nst u) : mj_Nst U := ⟨fun w hw hn => (h.1 w hw hn).same (mj_nw_tab hn) hv.symm, h.2.moved (by rw [hv]; exact Vm.Alike.refl _)⟩
theorem mj_Nst.go {s U : State} (hW : s.WarmedH U.vm) (h : mj_Nst s) : mj_Nst U := by
  refine ⟨?_, h.2.moved hW.alike⟩
  intro w hw hn
  have h1 := h.1 w hw hn
  cases w <;> first | (simp [mj_nw] at hn; done) | exact h1.warmF hW | exact h1.warmM hW
def mj_St (G : mj_G) (E : mj_E) (h : mj_H) (U : State) : Prop := U.heap.size = G.1 + h.2.2.2.length ∧ va_P (mj_D G) vwCl (mj_ws G h) U.heap ∧ va_K (mj_D G) vwCl (mj_ty G) U ∧ mj_Cst G E U U.heap ∧ mj_Nst U
def mj_WSG : List Cond := lw_tbl.filter goodWord
def mj_wsm (M : mj_Me) : List Cond := .code M.1 M.2.1 M.2.2.1 M.2.2.2.1 :: mj_WSG
def mj_rm (d mc ms : Nat) : Room := { frames := d + 1, cells := mc, slots := ms, locals := 64 * d + 64 }
def mj_Q (G : mj_G) (v : Option Value) (h' : mj_H) : Array Value → State → Outcome → State → Prop := match v with
  | none => va_Qv (S := Unit) (fun _ => True) (fun _ t => va_P (mj_D G) vwCl (mj_ws G h') t.heap) (mj_A G)
  | some (.int x) => va_Qi (S := Unit) (fun r _ => r = x) (fun _ t => va_P (mj_D G) vwCl (mj_ws G h') t.heap) (mj_A G)
  | some (.long x) => va_Ql (S := Unit) (fun r _ => r = x) (fun _ t => va_P (mj_D G) vwCl (mj_ws G h') t.heap) (mj_A G)
  | some (.ref a) => va_Qr (S := Unit) (fun _ => True) (fun _ ra t => ra = G.1 + a ∧ va_P (mj_D G) vwCl (mj_ws G h') t.heap) (mj_A G)
  | _ => fun _ _ _ _ => False
def mj_mc (h h' : mj_H) : Nat := h'.2.2.2.length - h.2.2.2.length
def mj_ms (h h' : mj_H) : Nat := mj_sl h' - mj_sl h
def mj_Ct (l : Launch) (P : Nat → mj_Me) (E : mj_E) (G : mj_G) (mn d : Nat) (as : List Value) (h : mj_H) (v : Option Value) (h' : mj_H) : Prop :=
  Met l (P mn).1 (mj_wsm (P mn)) (mj_rm d (mj_mc h h') (mj_ms h h')) (va_Pc (as.map (mj_cv G)) (mj_St G E h)) (mj_Q G v h') (mj_mc h h') (mj_ms h h') (mj_A G)
def mj_Cx (p : Program) (R : Room) (s : State) (m : MethodId) (args : Array Value) (c : Code) (G : mj_G) (E : mj_E) (own : String) (cc : ByteArray) (nL d : Nat) (h0 : mj_H) : Prop :=
  p.tables.exec = Jvm.exec ∧ c.code = cc ∧ c.maxLocals = nL ∧ s.vm.findClass own = some m.cls ∧ (∀ w ∈ mj_WSG, w.before args s = true) ∧ va_K (mj_D G) vwCl (mj_ty G) s ∧ mj_Cst G E s s.heap ∧ mj_Nst s ∧ s.heap.size = G.1 + h0.2.2.2.length ∧ d + 1 ≤ R.frames ∧ 64 * d + 64 ≤ R.locals
/-- what the heaps before and behind a call say of the room -/
def mj_pf (h h' : mj_H) : Prop := ∃ t, h'.2.2.2 = h.2.2.2 ++ t
theorem mj_pf.rf {h : mj_H} : mj_pf h h := ⟨[], by simp⟩
theorem mj_pf.tr {h1 h2 h3 : mj_H} (a : mj_pf h1 h2) (b : mj_pf h2 h3) : mj_pf h1 h3 := by
  obtain ⟨t, ht⟩ := a
  obtain ⟨u, hu⟩ := b
  exact ⟨t ++ u, by rw [hu, ht, List.append_assoc]⟩
theorem mj_pf.len {h h' : mj_H} (a : mj_pf h h') : h.2.2.2.length ≤ h'.2.2.2.length := by
  obtain ⟨t, ht⟩ := a; rw [ht]; simp
theorem mj_pf.sl {h h' : mj_H} (a : mj_pf h h') : mj_sl h ≤ mj_sl h' := by
  obtain ⟨t, ht⟩ := a; unfold mj_sl; rw [ht]; simp
theorem mj_pf.new {h : mj_H} (kd n : Nat) : mj_pf h (mj_new kd n h) := ⟨[(kd, n)], rfl⟩
section MJR
variable {p : Program} {l : Launch} {e : Env} {R : Room} {s : State} {m : MethodId} {args : Array Value} {below : List Frame} {meth : Method} {c : Code} {Q : State → Prop} {G : mj_G} {E : mj_E} {own : String} {cc : ByteArray} {nL d : Nat} {h0 : mj_H}
def mj_WW (p : Program) (l : Launch) (e : Env) (R : Room) (s : State) (m : MethodId) (args : Array Value) (below : List Frame) (meth : Method) (c : Code) (Q : State → Prop) (G : mj_G) (nL : Nat) (h0 : mj_H) (pc : Nat) (ls st : List Value) (h : mj_H) : Prop :=
  ∀ (H : Heap) (LS : Array Slot) (locs : List Loc), mj_pf h0 h → va_P (mj_D G) vwCl (mj_ws G h) H → lv_has LS nL (mj_lv (mj_cv G) 0 ls) → ls.length = nL → va_S (mj_A G) s.heap H locs → W p l e R s m args below meth c H locs (mj_mc h0 h) (mj_ms h0 h) Q (F0 m pc LS (st.map (mj_cv G)))
variable {pc pc' : Nat} {ls st st' : List Value} {h : mj_H}
/-- only the stack changes -/
theorem mj_r_st (row : ∀ (H : Heap) (LS : Array Slot) (locs : List Loc) (cells slots : Nat), va_P (mj_D G) vwCl (mj_ws G h) H → lv_has LS nL (mj_lv (mj_cv G) 0 ls) → va_S (mj_A G) s.heap H locs → W p l e R s m args below meth c H locs cells slots Q (F0 m pc' LS (st'.map (mj_cv G))) → W p l e R s m args below meth c H locs cells slots Q (F0 m pc LS (st.map (mj_cv G))))
    (k : mj_WW p l e R s m args below meth c Q G nL h0 pc' ls st' h) : mj_WW p l e R s m args below meth c Q G nL h0 pc ls st h :=
  fun H LS locs a0 a1 a2 a3 a4 => row H LS locs _ _ a1 a2 a4 (k H LS locs a0 a1 a2 a3 a4)
theorem mj_lv_at {LS : Array Slot} {n : Nat} {v : Value} (hl : lv_has LS nL (mj_lv (mj_cv G) 0 ls)) (e : mj_at ls n = v) (hv : mj_fl v = false) : LS[n]? = some (.val (mj_cv G v)) := by
  refine hl.2.2 (n, mj_cv G v) ?_
  rw [mj_lv_mem]
  simp [e, hv]
theorem mj_cv_cat (hc : mj_Cst G E s s.heap) {v : Value} (h : (mj_cv G v).category = 2) : (∃ x, v = .long x) ∨ ∃ x, v = .double x := by
  obtain ⟨ad, -, h2, -⟩ := hc
  cases v with
  | retAddr j =>
    have h1 := (h2 j).1
    have h3 : (G.2.1 j).category = 2 := h
    rw [h1] at h3; cases h3
  | long x => exact Or.inl ⟨x, rfl⟩
  | double x => exact Or.inr ⟨x, rfl⟩
  | _ => simp [mj_cv, Value.category] at h
/-- what a store of a value of one word makes of the locals -/
theorem mj_lv_sto (hc : mj_Cst G E s s.heap) {LS : Array Slot} {i : Nat} {v : Value} (hi : i < ls.length) (hl : lv_has LS nL ((i, mj_cv G v) :: (mj_lv (mj_cv G) 0 ls).filter (fun q => !(q.1 == i) && !(q.1 + 1 == i && q.2.category == 2)))) : lv_has LS nL (mj_lv (mj_cv G) 0 (mj_sto ls i v)) := by
  refine ⟨hl.1, hl.2.1, fun q hq => ?_⟩
  obtain ⟨j, w⟩ := q
  rw [mj_lv_mem] at hq
  obtain ⟨-, h2, h3⟩ := hq
  simp only [Nat.sub_zero] at h2 h3
  unfold mj_sto at h2 h3
  rw [mj_at_set, mj_brk_len] at h2 h3
  by_cases e : j = i
  · rw [if_pos ⟨e, hi⟩] at h2 h3
    refine hl.2.2 _ ?_
    rw [h3, e]; exact List.mem_cons_self
  · rw [if_neg (fun x => e x.1)] at h2 h3
    refine hl.2.2 _ (List.mem_cons_of_mem _ (List.mem_filter.mpr ⟨?_, ?_⟩))
    · rw [mj_lv_mem]
      simp only [Nat.sub_zero, Nat.zero_le, true_and]
      cases i with
      | zero => exact ⟨h2, h3⟩
      | succ n =>
        simp only [mj_brk] at h2 h3
        by_cases ej : j = n
        · subst ej
          split at h2
          · rw [mj_at_set, if_pos ⟨rfl, by omega⟩] at h2; simp [mj_fl] at h2
          · rw [mj_at_set, if_pos ⟨rfl, by omega⟩] at h2; simp [mj_fl] at h2
          · rename_i z1 z2
            split at h3
            · rename_i zz; exact absurd zz (z1 _)
            · rename_i zz; exact absurd zz (z2 _)
            · exact ⟨h2, h3⟩
        · split at h2
          · rename_i zz
            rw [zz] at h3
            simp only [] at h3
            rw [mj_at_set, if_neg (fun x => ej x.1)] at h2 h3
            exact ⟨h2, h3⟩
          · rename_i zz
            rw [zz] at h3
            simp only [] at h3
            rw [mj_at_set, if_neg (fun x => ej x.1)] at h2 h3
            exact ⟨h2, h3⟩
          · rename_i z1 z2
            split at h3
            · rename_i zz; exact absurd zz (z1 _)
            · rename_i zz; exact absurd zz (z2 _)
            · exact ⟨h2, h3⟩
    · simp only [Bool.and_eq_true, Bool.not_eq_true', beq_eq_false_iff_ne, ne_eq, e, not_false_iff, true_and]
      by_cases e1 : j + 1 = i
      · subst e1
        simp only [mj_brk] at h2 h3
        have hn : ¬ w.category = 2 := by
          intro hw
          split at h2
          · rw [mj_at_set, if_pos ⟨rfl, by omega⟩] at h2; simp [mj_fl] at h2
          · rw [mj_at_set, if_pos ⟨rfl, by omega⟩] at h2; simp [mj_fl] at h2
          · rename_i z1 z2
            split at h3
            · rename_i zz; exact absurd zz (z1 _)
            · rename_i zz; exact absurd zz (z2 _)
            · rw [h3] at hw
              rcases mj_cv_cat hc hw with ⟨x, hx⟩ | ⟨x, hx⟩
              · exact z1 x hx
              · exact z2 x hx
        simp [hn]
      · simp [e1]
theorem mj_lv_sto2 (hc : mj_Cst G E s s.heap) {LS : Array Slot} {i : Nat} {v : Value} (hi : i + 1 < ls.length) (hl : lv_has LS nL ((i, mj_cv G v) :: (mj_lv (mj_cv G) 0 ls).filter (fun q => !(q.1 == i) && (!(q.1 == i + 1) && !(q.1 + 1 == i && q.2.category == 2))))) : lv_has LS nL (mj_lv (mj_cv G) 0 (mj_set (mj_sto ls i v) (i + 1) (.float 0))) := by
  have hh : ∀ q ∈ mj_lv (mj_cv G) 0 (mj_sto ls i v), q.1 ≠ i + 1 → LS[q.1]? = some (.val q.2) := by
    intro q hq hne
    have h1 := List.mem_cons_self (a := q) (l := [])
    have key : ∀ LS' : Array Slot, (∀ z ∈ ((i, mj_cv G v) :: (mj_lv (mj_cv G) 0 ls).filter (fun q => !(q.1 == i) && !(q.1 + 1 == i && q.2.category == 2))), z.1 ≠ i + 1 → LS[z.1]? = some (.val z.2)) := by
      intro LS' z hz hz1
      rcases List.mem_cons.mp hz with rfl | hz
      · exact hl.2.2 _ List.mem_cons_self
      · obtain ⟨ha, hb⟩ := List.mem_filter.mp hz
        refine hl.2.2 _ (List.mem_cons_of_mem _ (List.mem_filter.mpr ⟨ha, ?_⟩))
        simp only [Bool.and_eq_true, Bool.not_eq_true', beq_eq_false_iff_ne, ne_eq] at hb ⊢
        exact ⟨hb.1, hz1, hb.2⟩
    have hmem : q ∈ ((i, mj_cv G v) :: (mj_lv (mj_cv G) 0 ls).filter (fun q => !(q.1 == i) && !(q.1 + 1 == i && q.2.category == 2))) := by
      obtain ⟨j, w⟩ := q
      rw [mj_lv_mem] at hq
      obtain ⟨-, h2, h3⟩ := hq
      simp only [Nat.sub_zero] at h2 h3
      unfold mj_sto at h2 h3
      rw [mj_at_set, mj_brk_len] at h2 h3
      by_cases e : j = i
      · rw [if_pos ⟨e, by omega⟩] at h2 h3
        rw [h3, e]; exact List.mem_cons_self
      · rw [if_neg (fun x => e x.1)] at h2 h3
        refine List.mem_cons_of_mem _ (List.mem_filter.mpr ?_)
        cases i with
        | zero =>
          refine ⟨?_, ?_⟩
          · rw [mj_lv_mem]; simp only [Nat.sub_zero, Nat.zero_le, true_and]; exact ⟨h2, h3⟩
          · simp [e]
        | succ n =>
          simp only [mj_brk] at h2 h3
          by_cases ej : j = n
          · subst ej
            split at h2
            · rw [mj_at_set, if_pos ⟨rfl, by omega⟩] at h2; simp [mj_fl] at h2
            · rw [mj_at_set, if_pos ⟨rfl, by omega⟩] at h2; simp [mj_fl] at h2
            · rename_i z1 z2
              split at h3
              · rename_i zz; exact absurd zz (z1 _)
              · rename_i zz; exact absurd zz (z2 _)
              · refine ⟨by rw [mj_lv_mem]; simp only [Nat.sub_zero, Nat.zero_le, true_and]; exact ⟨h2, h3⟩, ?_⟩
                have hn : ¬ w.category = 2 := by
                  intro hw
                  rw [h3] at hw
                  rcases mj_cv_cat hc hw with ⟨x, hx⟩ | ⟨x, hx⟩
                  · exact z1 x hx
                  · exact z2 x hx
                simp [e, hn]
          · have h4 : mj_fl (mj_at ls j) = false ∧ w = mj_cv G (mj_at ls j) := by
              split at h2
              · rename_i zz
                rw [zz] at h3
                simp only [] at h3
                rw [mj_at_set, if_neg (fun x => ej x.1)] at h2 h3
                exact ⟨h2, h3⟩
              · rename_i zz
                rw [zz] at h3
                simp only [] at h3
                rw [mj_at_set, if_neg (fun x => ej x.1)] at h2 h3
                exact ⟨h2, h3⟩
              · rename_i z1 z2
                split at h3
                · rename_i zz; exact absurd zz (z1 _)
                · rename_i zz; exact absurd zz (z2 _)
                · exact ⟨h2, h3⟩
            refine ⟨by rw [mj_lv_mem]; simp only [Nat.sub_zero, Nat.zero_le, true_and]; exact h4, ?_⟩
            simp [e, ej]
    exact key LS q hmem hne
  refine ⟨hl.1, hl.2.1, fun q hq => ?_⟩
  obtain ⟨j, w⟩ := q
  rw [mj_lv_mem] at hq
  obtain ⟨-, h2, h3⟩ := hq
  simp only [Nat.sub_zero] at h2 h3
  rw [mj_at_set, mj_sto_len] at h2 h3
  by_cases e : j = i + 1
  · rw [if_pos ⟨e, hi⟩] at h2; simp [mj_fl] at h2
  · rw [if_neg (fun x => e x.1)] at h2 h3
    exact hh (j, w) (by rw [mj_lv_mem]; simp only [Nat.sub_zero, Nat.zero_le, true_and]; exact ⟨h2, h3⟩) e
end MJR
