/-! Math.max and Math.min: their class has entries of the machine's own for other members (on floats and doubles), so its name is not plain; but these two have none. The checks and the contracts again, with plainFor in the place of plainName -/
def mj_ckm2 (P : Nat → mj_Me) (M : mj_Me) : Bool := plainFor M.1 && (decide (M.2.2.1 ≤ 45) && M.2.2.2.2.all (fun b => mj_ckb P M.1.cls M.1.name M.2.1 M.2.2.2.1 b.2 b.1))
theorem mj_ckm2_of {P : Nat → mj_Me} {M : mj_Me} (h : mj_ckm P M = true) : mj_ckm2 P M = true := by
  unfold mj_ckm at h
  unfold mj_ckm2
  rw [Bool.and_eq_true] at h ⊢
  exact ⟨plainFor_of_name h.1, h.2⟩
section MJZ
variable {p : Program} {l : Launch} {e : Env} {R : Room} {s : State} {m : MethodId} {args : Array Value} {below : List Frame} {meth : Method} {c : Code} {Q : State → Prop} {G : mj_G} {E : mj_E} {own nm : String} {cc : ByteArray} {nL d : Nat} {h0 : mj_H}
variable {P : Nat → mj_Me} {C : Nat → List Value → mj_H → mj_R} {J : Nat → mj_K} {r : Option Value × mj_H} {rt : Option FieldType}
theorem mj_ct_of2 (hP : ∀ k, mj_ckm2 P (P k) = true) {n : Nat} (hB : mj_Body l P E G n) {d mn : Nat} {as : List Value} {h : mj_H} {v : Option Value} {h' : mj_H} (hl : (mj_loc as).length ≤ (P mn).2.2.1) (hx : mj_run P E n d mn 0 (mj_pad (mj_loc as) (P mn).2.2.1) [] h = some (v, h')) : mj_Ct l P E G mn d as h v h' := by
  have hck := hP mn
  unfold mj_ckm2 at hck
  simp only [Bool.and_eq_true, decide_eq_true_eq] at hck
  refine va_MetF (cc := (P mn).2.1) (maxL := (P mn).2.2.1) (ret := (P mn).2.2.2.1) hck.1 rfl ?_
  intro p e s m args below meth c s₁ B hml hv
  obtain ⟨rfl, hsz, hPw, hK, hC, hN⟩ := hv
  have hts := atoms_spec (ws := mj_wsm (P mn)) B.pre
  have hown : s.vm.findClass (P mn).1.cls = some m.cls := findClass_of_methodNamed B.named
  have hlocks := B.notSynchronized
  have hin : meth.name = (P mn).1.name := (name_of_methodNamed B.named B.method).1
  have hpf := mj_pfrun n d mn 0 _ _ _ _ hx
  have X : mj_Cx p (headSpec (mj_wsm (P mn)) (mj_rm d (mj_mc h h') (mj_ms h h'))).room s m ((as.map (mj_cv G)).toArray) c G E (P mn).1.cls (P mn).2.1 (P mn).2.2.1 d h :=
    ⟨B.exec, B.bytes, hml, hown, fun w hw => hts w (List.mem_cons_of_mem _ hw), hK, hC, hN, hsz, Nat.le_refl _, Nat.le_refl _⟩
  have hW := hB p e _ s m _ below meth c (MQ below (mj_Q G v h') ((as.map (mj_cv G)).toArray) s (mj_mc h h') (mj_ms h h') (mj_A G)) d mn 0 _ _ h h (v, h') hx X ⟨Nat.le_refl _, Nat.le_refl _⟩ (fun z => hin.trans z) ?_
  · rw [lg_entry_eq]
    have hlv := lv_entry (as.map (mj_cv G)) (n := (P mn).2.2.1) (by rw [mj_loc_len hC]; exact hl)
    have h0 : mj_mc h h = 0 := by unfold mj_mc; omega
    have h1 : mj_ms h h = 0 := by unfold mj_ms; omega
    have := hW s.heap ((lg_sl (as.map (mj_cv G)) ++ List.replicate ((P mn).2.2.1 - (lg_sl (as.map (mj_cv G))).length) Slot.unset).toArray) [] mj_pf.rf hPw ⟨hlv.1, hlv.2.1, fun q hq => hlv.2.2 q (mj_lv_loc hC as 0 q (by unfold mj_pad at hq; rw [mj_lv_app] at hq; exact hq))⟩ (by unfold mj_pad; simp; omega) va_S.rf
    rw [h0, h1] at this
    exact this
  · intro pc H LS locs hP2 hS
    refine ⟨fun x ty hr hd hrt hn => ?_, fun x hr hd hrt => ?_, fun x ty hr hd hrt ho => ?_, fun hr hd hrt => ?_⟩
    · simp only [] at hr; subst hr
      exact W.zret B.exec B.bytes (B.returns.trans hrt) hn (fun t ht hw => ⟨⟨x, (), rfl, rfl, by show va_P _ _ _ t.heap; rw [ht]; exact hP2⟩, hS.F ht⟩) hS.2.2 hd
    · simp only [] at hr; subst hr
      exact W.lret B.exec B.bytes (B.returns.trans hrt) (fun t ht hw => ⟨⟨x, (), rfl, rfl, by show va_P _ _ _ t.heap; rw [ht]; exact hP2⟩, hS.F ht⟩) hS.2.2 hd
    · simp only [] at hr; subst hr
      exact W.aret B.exec B.bytes (B.returns.trans hrt) ho (Or.inr ⟨_, rfl⟩) (fun t ht hw => ⟨⟨(), G.1 + x, rfl, trivial, rfl, by show va_P _ _ _ t.heap; rw [ht]; exact hP2⟩, hS.F ht⟩) hS.2.2 hd
    · simp only [] at hr; subst hr
      exact W.vret B.exec B.bytes (B.returns.trans hrt) (fun t ht hw => ⟨⟨(), rfl, trivial, by show va_P _ _ _ t.heap; rw [ht]; exact hP2⟩, hS.F ht⟩) hS.2.2 hd
/-- EVERY RUN OF THE SMALL MACHINE IS DONE BY THE REAL ONE -/
theorem mj_body2 (hcl : mj_clok) (hgw : mj_gw) (hP : ∀ k, mj_ckm2 P (P k) = true) (n : Nat) : mj_Body l P E G n := by
  induction n with
  | zero => intro p e R s m args below meth c Q d mn pc ls st h0 h r hx; cases hx
  | succ n ih =>
    intro p e R s m args below meth c Q d mn pc ls st h0 h r hx X hfit hnm hRT
    have hck := hP mn
    unfold mj_ckm2 at hck
    simp only [Bool.and_eq_true, decide_eq_true_eq] at hck
    unfold mj_run at hx
    refine mj_sbl (P := P) (nm := (P mn).1.name) hcl hgw X hfit ?_ hnm hRT (fun pc' ls' st' h' z => ih p e R s m args below meth c Q d mn pc' ls' st' h0 h' r z X hfit hnm hRT) (fun pc' ls' st' h' z => mj_pfrun n d mn pc' ls' st' h' r z) _ pc ls st h (mj_find_ck (M := P mn) hck.2.2 pc) hx
    intro m' as h1 v h2 hq
    have hck2 := hP m'
    unfold mj_ckm2 at hck2
    simp only [Bool.and_eq_true, decide_eq_true_eq] at hck2
    cases d with
    | zero => cases hq
    | succ d =>
      simp only [] at hq
      split at hq
      · rename_i hl
        exact ⟨mj_pfrun n d m' 0 _ _ _ _ hq, hck2.2.1, d, rfl, mj_ct_of2 hP ih hl hq⟩
      · cases hq
end MJZ
set_option maxHeartbeats 4000000 in
set_option maxRecDepth 100000 in
theorem mj_whole2 (hPok : ∀ k, mj_ckm2 mj_P (mj_P k) = true) (hrun : mj_Left) {p : Program} {e : Env} {s : State} {m : MethodId} {below : List Frame} {meth : Method} {c : Code} (l : Launch) {b L : Nat} {xs : Nat → Int32} (hL : L ≤ 3072) (C0 : lw_At p s m meth c b L xs) : W p l e room_1 s m #[Value.ref b] below meth c s.heap [] 0 0 (lw_Z below #[Value.ref b] s) (entryFrame m ([Value.ref b] : List Value).toArray 4) := by
  obtain ⟨hx, hb, hr, hml, hown, hts, hX, hbl, hlocks, hgv⟩ := id C0
  obtain ⟨n, h', hgo, hcells, hslots⟩ := hrun L xs hL
  obtain ⟨G, g1, g2, hK, hC, hN⟩ := mj_start hts hX hbl hL hgv
  have hM : mj_P 311 = mjM311 := rfl
  have X : mj_Cx p room_1 s m #[Value.ref b] c G (mj_Ee L xs) (mj_P 311).1.cls (mj_P 311).2.1 (mj_P 311).2.2.1 1000 mj_h00 :=
    ⟨hx, hb, hml, hown, fun w hw => hts w (List.mem_filter.mp hw).1, hK, hC, hN, by rw [g1]; rfl, by decide, by decide⟩
  have hm0 : mj_mc mj_h00 h' ≤ room_1.cells := by unfold mj_mc; omega
  have hs0 : mj_ms mj_h00 h' ≤ room_1.slots := by unfold mj_ms; omega
  have hW := mj_body2 (l := l) (G := G) mj_clok_ok mj_gw_ok hPok n p e room_1 s m #[Value.ref b] below meth c (lw_Z below #[Value.ref b] s) 1000 311 0 _ _ mj_h00 mj_h00 _ hgo X ⟨hm0, hs0⟩ (fun z => by rw [hM] at z; exact absurd z (by decide)) ?_
  · have hl := lv_entry ([.ref b]) (n := 4) (Nat.le_of_ble_eq_true rfl)
    rw [lg_entry_eq]
    have e0 : mj_cv G (.retAddr 0) = .ref b := g2
    have := hW s.heap ((lg_sl ([.ref b]) ++ List.replicate (4 - (lg_sl ([.ref b])).length) Slot.unset).toArray) [] mj_pf.rf (fun k q h => by simp [mj_ws, mj_h00] at h) ⟨hl.1, hl.2.1, fun q hq => hl.2.2 q (by
      simp only [mj_lv, e0] at hq
      exact hq)⟩ rfl va_S.rf
    exact this
  · intro pc H LS locs hP2 hS
    refine ⟨fun x ty hr1 hd hrt hn => ?_, fun x hr1 => (by cases hr1), fun x ty hr1 => (by cases hr1), fun hr1 => (by cases hr1)⟩
    cases hr1
    refine va_forget (fun q hq => by have := hS.2.2 q hq; rw [← g1]; exact this) ?_
    refine W.widen hm0 hs0 ?_
    exact lw_ret hx hb hr hlocks hd
