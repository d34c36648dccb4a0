-- ===== end of PART A; then your names; then what follows =====
/-! THE CLAIM OUT OF ONE WALK OF THE LAW'S BODY. Your part is whole_start (and what it stands on); all else here is the same for every law, but numbers. -/
def R_law : String := "LastToWinceLaw"
def lw_P (b : Addr) (xs : List Int32) (args : Array Value) (s : State) : Prop := args = #[.ref b] ∧ s.IntsAt b xs ∧ xs.length ≤ 3072 ∧ (Jvm.Cond.and given_1 narrow_1).before args s = true
def lw_Q (_ : Array Value) (s : State) (o : Outcome) (t : State) : Prop := o = .returned (some (.int 1)) ∧ Framed s o t [] room_1.cells room_1.slots
def lw_Z (below : List Frame) (a : Array Value) (s : State) : State → Prop := fun t => ∃ o, t.status = .running ∧ Ended t below o ∧ lw_Q a s o t
/-- the law's own end, with 1 on the stack, nothing written that was there before, its room as the claim has it -/
theorem lw_ret {p : Program} {l : Launch} {e : Env} {s : State} {m : MethodId} {below : List Frame} {meth : Method} {c : Code} {b : Nat} (hx : p.tables.exec = Jvm.exec) (hb : c.code = code) (hr : meth.sig.returnType = ret) (hlocks : meth.locks = false) {pc : Nat} {H : Heap} {ls : Array Slot} (hdg : decode code pc = .ok (.ireturn, 1)) : W p l e room_1 s m #[Value.ref b] below meth c H [] room_1.cells room_1.slots (lw_Z below #[Value.ref b] s) (F0 m pc ls [.int 1]) := by
  intro T hT X
  obtain ⟨fs, hret, hrun, hended, hW, hframe⟩ := X.leave (v := some (.int 1)) (hlocks := hlocks) (fun h => by rw [hr] at h; cases h)
  have hmeth' : T.vm.method? m = some meth := X.method'
  refine ⟨T.setFrames fs, ?_, .returned (some (.int 1)), hrun, hended, rfl, ⟨_, rfl⟩, hW, hframe⟩
  jvm_step X.here [X.here.top, hx, hb, hdg, hmeth', hr, ret, narrow_b1]
  (try refine ⟨rfl, ?_⟩); (try refine ⟨rfl, ?_⟩)
  first | (intro acts; rw [hret _ acts rfl rfl rfl]) | rw [hret _ _ rfl rfl rfl]
  exact Steps.refl _
/-- what holds at the law's entry: the machine, the code, the tables' words (any of lw_tbl by 'hts w (by decide +kernel)'), the script of L ints xs at the cell b, what the Statement gives of the start (any of its parts by flat_of_before) -/
def lw_At (p : Program) (s : State) (m : MethodId) (meth : Method) (c : Code) (b L : Nat) (xs : Nat → Int32) : Prop :=
  p.tables.exec = Jvm.exec ∧ c.code = code ∧ meth.sig.returnType = ret ∧ c.maxLocals = 4 ∧ s.vm.findClass R_law = some m.cls ∧ (∀ w ∈ lw_tbl, w.before #[Value.ref b] s = true) ∧ va_X b L xs s s.heap ∧ b < s.heap.size ∧ meth.locks = false ∧ (Jvm.Cond.and given_1 narrow_1).before #[Value.ref b] s = true
/-- what is left: the small machine's run of the law ends with 1, in its room -/
def mj_Left : Prop := ∀ (L : Nat) (xs : Nat → Int32), L ≤ 3072 → ∃ (n : Nat) (h' : mj_H), mj_run mj_P (mj_Ee L xs) n 1000 311 0 [.retAddr 0, .float 0, .float 0, .float 0] [] mj_h00 = some (some (.int 1), h') ∧ h'.2.2.2.length ≤ room_1.cells ∧ mj_sl h' ≤ room_1.slots
set_option maxHeartbeats 4000000 in
set_option maxRecDepth 100000 in
theorem mj_whole (hPok : ∀ k, mj_ckm mj_P (mj_P k) = true) (hrun : mj_Left) {p : Program} {e : Env} {s : State} {m : MethodId} {below : List Frame} {meth : Method} {c : Code} (l : Launch) {b L : Nat} {xs : Nat → Int32} (hL : L ≤ 3072) (C0 : lw_At p s m meth c b L xs) : W p l e room_1 s m #[Value.ref b] below meth c s.heap [] 0 0 (lw_Z below #[Value.ref b] s) (entryFrame m ([Value.ref b] : List Value).toArray 4) := by
  obtain ⟨hx, hb, hr, hml, hown, hts, hX, hbl, hlocks, hgv⟩ := id C0
  obtain ⟨n, h', hgo, hcells, hslots⟩ := hrun L xs hL
  obtain ⟨G, g1, g2, hK, hC, hN⟩ := mj_start hts hX hbl hL hgv
  have hM : mj_P 311 = mjM311 := rfl
  have X : mj_Cx p room_1 s m #[Value.ref b] c G (mj_Ee L xs) (mj_P 311).1.cls (mj_P 311).2.1 (mj_P 311).2.2.1 1000 mj_h00 :=
    ⟨hx, hb, hml, hown, fun w hw => hts w (List.mem_filter.mp hw).1, hK, hC, hN, by rw [g1]; rfl, by decide, by decide⟩
  have hm0 : mj_mc mj_h00 h' ≤ room_1.cells := by unfold mj_mc; omega
  have hs0 : mj_ms mj_h00 h' ≤ room_1.slots := by unfold mj_ms; omega
  have hW := mj_body (l := l) (G := G) mj_clok_ok mj_gw_ok hPok n p e room_1 s m #[Value.ref b] below meth c (lw_Z below #[Value.ref b] s) 1000 311 0 _ _ mj_h00 mj_h00 _ hgo X ⟨hm0, hs0⟩ (fun z => by rw [hM] at z; exact absurd z (by decide)) ?_
  · have hl := lv_entry ([.ref b]) (n := 4) (Nat.le_of_ble_eq_true rfl)
    rw [lg_entry_eq]
    have e0 : mj_cv G (.retAddr 0) = .ref b := g2
    have := hW s.heap ((lg_sl ([.ref b]) ++ List.replicate (4 - (lg_sl ([.ref b])).length) Slot.unset).toArray) [] mj_pf.rf (fun k q h => by simp [mj_ws, mj_h00] at h) ⟨hl.1, hl.2.1, fun q hq => hl.2.2 q (by
      simp only [mj_lv, e0] at hq
      exact hq)⟩ rfl va_S.rf
    exact this
  · intro pc H LS locs hP2 hS
    refine ⟨fun x ty hr1 hd hrt hn => ?_, fun x hr1 => (by cases hr1), fun x ty hr1 => (by cases hr1), fun hr1 => (by cases hr1)⟩
    cases hr1
    refine va_forget (fun q hq => by have := hS.2.2 q hq; rw [← g1]; exact this) ?_
    refine W.widen hm0 hs0 ?_
    exact lw_ret hx hb hr hlocks hd
