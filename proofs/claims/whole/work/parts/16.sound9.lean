section MJZ
variable {p : Program} {l : Launch} {e : Env} {R : Room} {s : State} {m : MethodId} {args : Array Value} {below : List Frame} {meth : Method} {c : Code} {Q : State → Prop} {G : mj_G} {E : mj_E} {own nm : String} {cc : ByteArray} {nL d : Nat} {h0 : mj_H}
variable {P : Nat → mj_Me} {C : Nat → List Value → mj_H → mj_R} {J : Nat → mj_K} {r : Option Value × mj_H} {rt : Option FieldType}
theorem mj_sbl (hcl : mj_clok) (hgw : mj_gw) (X : mj_Cx p R s m args c G E own cc nL d h0) (hfit : mj_mc h0 r.2 ≤ R.cells ∧ mj_ms h0 r.2 ≤ R.slots) (hCC : mj_CC l P E G d C) (hnm : nm = "<init>" → meth.name = "<init>") (hRT : mj_RT p l e R s m args below meth c Q G cc rt h0 r)
    (hJ : ∀ pc' ls' st' h', J pc' ls' st' h' = some r → mj_WW p l e R s m args below meth c Q G nL h0 pc' ls' st' h') (hJp : ∀ pc' ls' st' h', J pc' ls' st' h' = some r → mj_pf h' r.2) (is : List mj_I) :
    ∀ (pc : Nat) (ls st : List Value) (h : mj_H), mj_ckb P own nm cc rt is pc = true → mj_bl E C J is pc ls st h = some r → mj_WW p l e R s m args below meth c Q G nL h0 pc ls st h := by
  have hCp : ∀ m as h v h', C m as h = some (v, h') → mj_pf h h' := fun m as h v h' z => (hCC m as h v h' z).1
  induction is with
  | nil => intro pc ls st h _ hx; exact hJ _ _ _ _ hx
  | cons i is ih =>
    intro pc ls st h hck hx
    obtain ⟨i, len, cst, ax⟩ := i
    simp only [mj_ckb, Bool.and_eq_true, decide_eq_true_eq] at hck
    obtain ⟨hd, hc, hrest⟩ := hck
    have hx2 : mj_ex E C i cst ax ls st h (mj_bl E C J is (pc + len)) J = some r := hx
    intro H LS locs hp
    exact mj_sx (K := mj_bl E C J is (pc + len)) hcl hgw X hp hfit hCC hnm (fun ls' st' h' => mj_pfbl hJp hCp is (pc + len) ls' st' h') hRT (fun ls' st' h' z => ih (pc + len) ls' st' h' hrest z) hJ hJp i hd hc hx2 H LS locs hp
theorem mj_find_ck {M : mj_Me} {bs : List (Nat × List mj_I)} (h : bs.all (fun b => mj_ckb P own nm cc rt b.2 b.1) = true) (pc : Nat) : mj_ckb P own nm cc rt (mj_find bs pc) pc = true := by
  induction bs with
  | nil => rfl
  | cons b bs ih =>
    simp only [List.all_cons, Bool.and_eq_true] at h
    unfold mj_find
    by_cases e : b.1 = pc
    · rw [if_pos e, ← e]; exact h.1
    · rw [if_neg e]; exact ih h.2
theorem mj_loc_len (hC : mj_Cst G E s s.heap) (as : List Value) : (lg_sl (as.map (mj_cv G))).length = (mj_loc as).length := by
  obtain ⟨ad, -, h2, -⟩ := hC
  induction as with
  | nil => rfl
  | cons v t ih =>
    have hs : ∀ (w : Value) (ws : List Value), (lg_sl (w :: ws)).length = (if w.category = 2 then 2 else 1) + (lg_sl ws).length := by
      intro w ws
      simp only [lg_sl, List.flatMap_cons, List.length_append]
      split <;> simp
    rw [List.map_cons, hs, ih]
    cases v with
    | retAddr j => rw [show mj_cv G (.retAddr j) = G.2.1 j from rfl, (h2 j).1]; simp [mj_loc]; omega
    | long x => simp [mj_cv, Value.category, mj_loc]; omega
    | double x => simp [mj_cv, Value.category, mj_loc]; omega
    | _ => simp [mj_cv, Value.category, mj_loc]; omega
theorem mj_lv_app (f : Value → Value) (ls : List Value) (k n : Nat) : mj_lv f k (ls ++ List.replicate n (.float 0)) = mj_lv f k ls := by
  induction ls generalizing k with
  | nil =>
    induction n generalizing k with
    | zero => rfl
    | succ n ih => simpa [List.replicate_succ, mj_lv] using ih (k + 1)
  | cons v t ih =>
    cases v <;> simp [mj_lv, ih]
theorem mj_lv_loc (hC : mj_Cst G E s s.heap) (as : List Value) : ∀ (k : Nat) (q : Nat × Value), q ∈ mj_lv (mj_cv G) k (mj_loc as) → q ∈ lv_args k (as.map (mj_cv G)) := by
  obtain ⟨ad, -, h2, -⟩ := hC
  induction as with
  | nil => intro k q h; simp [mj_loc, mj_lv] at h
  | cons v t ih =>
    intro k q h
    rw [List.map_cons]
    unfold lv_args
    cases v with
    | long x =>
      simp only [mj_loc, mj_lv, List.mem_cons] at h
      rcases h with rfl | h
      · exact List.mem_cons_self
      · exact List.mem_cons_of_mem _ (by simpa [mj_cv, Value.category] using ih _ _ h)
    | double x =>
      simp only [mj_loc, mj_lv, List.mem_cons] at h
      rcases h with rfl | h
      · exact List.mem_cons_self
      · exact List.mem_cons_of_mem _ (by simpa [mj_cv, Value.category] using ih _ _ h)
    | float x =>
      simp only [mj_loc, mj_lv] at h
      exact List.mem_cons_of_mem _ (by simpa [mj_cv, Value.category] using ih _ _ h)
    | retAddr j =>
      simp only [mj_loc, mj_lv, List.mem_cons] at h
      rcases h with rfl | h
      · exact List.mem_cons_self
      · refine List.mem_cons_of_mem _ ?_
        rw [show mj_cv G (.retAddr j) = G.2.1 j from rfl, (h2 j).1]
        simpa using ih _ _ h
    | _ =>
      simp only [mj_loc, mj_lv, List.mem_cons] at h
      rcases h with rfl | h
      · exact List.mem_cons_self
      · exact List.mem_cons_of_mem _ (by simpa [mj_cv, Value.category] using ih _ _ h)
/-- a body, from any of its places -/
def mj_Body (l : Launch) (P : Nat → mj_Me) (E : mj_E) (G : mj_G) (n : Nat) : Prop :=
  ∀ (p : Program) (e : Env) (R : Room) (s : State) (m : MethodId) (args : Array Value) (below : List Frame) (meth : Method) (c : Code) (Q : State → Prop) (d mn pc : Nat) (ls st : List Value) (h0 h : mj_H) (r : Option Value × mj_H), mj_run P E n d mn pc ls st h = some r → mj_Cx p R s m args c G E (P mn).1.cls (P mn).2.1 (P mn).2.2.1 d h0 → (mj_mc h0 r.2 ≤ R.cells ∧ mj_ms h0 r.2 ≤ R.slots) → ((P mn).1.name = "<init>" → meth.name = "<init>") → mj_RT p l e R s m args below meth c Q G (P mn).2.1 (P mn).2.2.2.1 h0 r → mj_WW p l e R s m args below meth c Q G (P mn).2.2.1 h0 pc ls st h
theorem mj_ct_of (hP : ∀ k, mj_ckm P (P k) = true) {n : Nat} (hB : mj_Body l P E G n) {d mn : Nat} {as : List Value} {h : mj_H} {v : Option Value} {h' : mj_H} (hl : (mj_loc as).length ≤ (P mn).2.2.1) (hx : mj_run P E n d mn 0 (mj_pad (mj_loc as) (P mn).2.2.1) [] h = some (v, h')) : mj_Ct l P E G mn d as h v h' := by
  have hck := hP mn
  unfold mj_ckm at hck
  simp only [Bool.and_eq_true, decide_eq_true_eq] at hck
  refine Met.ofW (cc := (P mn).2.1) (maxL := (P mn).2.2.1) (ret := (P mn).2.2.2.1) hck.1 rfl ?_
  intro p e s m args below meth c s₁ B hml hv
  obtain ⟨rfl, hsz, hPw, hK, hC, hN⟩ := hv
  have hts := atoms_spec (ws := mj_wsm (P mn)) B.pre
  have hown : s.vm.findClass (P mn).1.cls = some m.cls := findClass_of_methodNamed B.named
  have hlocks := B.notSynchronized
  have hin : meth.name = (P mn).1.name := (name_of_methodNamed B.named B.method).1
  have hpf := mj_pfrun n d mn 0 _ _ _ _ hx
  have X : mj_Cx p (headSpec (mj_wsm (P mn)) (mj_rm d (mj_mc h h') (mj_ms h h'))).room s m ((as.map (mj_cv G)).toArray) c G E (P mn).1.cls (P mn).2.1 (P mn).2.2.1 d h :=
    ⟨B.exec, B.bytes, hml, hown, fun w hw => hts w (List.mem_cons_of_mem _ hw), hK, hC, hN, hsz, Nat.le_refl _, Nat.le_refl _⟩
  have hW := hB p e _ s m _ below meth c (MQ below (mj_Q G v h') ((as.map (mj_cv G)).toArray) s (mj_mc h h') (mj_ms h h') (mj_A G)) d mn 0 _ _ h h (v, h') hx X ⟨Nat.le_refl _, Nat.le_refl _⟩ (fun z => hin.trans z) ?_
  · rw [lg_entry_eq]
    have hlv := lv_entry (as.map (mj_cv G)) (n := (P mn).2.2.1) (by rw [mj_loc_len hC]; exact hl)
    have h0 : mj_mc h h = 0 := by unfold mj_mc; omega
    have h1 : mj_ms h h = 0 := by unfold mj_ms; omega
    have := hW s.heap ((lg_sl (as.map (mj_cv G)) ++ List.replicate ((P mn).2.2.1 - (lg_sl (as.map (mj_cv G))).length) Slot.unset).toArray) [] mj_pf.rf hPw ⟨hlv.1, hlv.2.1, fun q hq => hlv.2.2 q (mj_lv_loc hC as 0 q (by unfold mj_pad at hq; rw [mj_lv_app] at hq; exact hq))⟩ (by unfold mj_pad; simp; omega) va_S.rf
    rw [h0, h1] at this
    exact this
  · intro pc H LS locs hP2 hS
    refine ⟨fun x ty hr hd hrt hn => ?_, fun x hr hd hrt => ?_, fun x ty hr hd hrt ho => ?_, fun hr hd hrt => ?_⟩
    · simp only [] at hr; subst hr
      exact W.zret B.exec B.bytes (B.returns.trans hrt) hn (fun t ht hw => ⟨⟨x, (), rfl, rfl, by show va_P _ _ _ t.heap; rw [ht]; exact hP2⟩, hS.F ht⟩) hS.2.2 hd
    · simp only [] at hr; subst hr
      exact W.lret B.exec B.bytes (B.returns.trans hrt) (fun t ht hw => ⟨⟨x, (), rfl, rfl, by show va_P _ _ _ t.heap; rw [ht]; exact hP2⟩, hS.F ht⟩) hS.2.2 hd
    · simp only [] at hr; subst hr
      exact W.aret B.exec B.bytes (B.returns.trans hrt) ho (Or.inr ⟨_, rfl⟩) (fun t ht hw => ⟨⟨(), G.1 + x, rfl, trivial, rfl, by show va_P _ _ _ t.heap; rw [ht]; exact hP2⟩, hS.F ht⟩) hS.2.2 hd
    · simp only [] at hr; subst hr
      exact W.vret B.exec B.bytes (B.returns.trans hrt) (fun t ht hw => ⟨⟨(), rfl, trivial, by show va_P _ _ _ t.heap; rw [ht]; exact hP2⟩, hS.F ht⟩) hS.2.2 hd
/-- EVERY RUN OF THE SMALL MACHINE IS DONE BY THE REAL ONE -/
theorem mj_body (hcl : mj_clok) (hgw : mj_gw) (hP : ∀ k, mj_ckm P (P k) = true) (n : Nat) : mj_Body l P E G n := by
  induction n with
  | zero => intro p e R s m args below meth c Q d mn pc ls st h0 h r hx; cases hx
  | succ n ih =>
    intro p e R s m args below meth c Q d mn pc ls st h0 h r hx X hfit hnm hRT
    have hck := hP mn
    unfold mj_ckm at hck
    simp only [Bool.and_eq_true, decide_eq_true_eq] at hck
    unfold mj_run at hx
    refine mj_sbl (P := P) (nm := (P mn).1.name) hcl hgw X hfit ?_ hnm hRT (fun pc' ls' st' h' z => ih p e R s m args below meth c Q d mn pc' ls' st' h0 h' r z X hfit hnm hRT) (fun pc' ls' st' h' z => mj_pfrun n d mn pc' ls' st' h' r z) _ pc ls st h (mj_find_ck (M := P mn) hck.2.2 pc) hx
    intro m' as h1 v h2 hq
    have hck2 := hP m'
    unfold mj_ckm at hck2
    simp only [Bool.and_eq_true, decide_eq_true_eq] at hck2
    cases d with
    | zero => cases hq
    | succ d =>
      simp only [] at hq
      split at hq
      · rename_i hl
        exact ⟨mj_pfrun n d m' 0 _ _ _ _ hq, hck2.2.1, d, rfl, mj_ct_of hP ih hl hq⟩
      · cases hq
end MJZ
