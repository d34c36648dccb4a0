section MJV
variable {p : Program} {l : Launch} {e : Env} {R : Room} {s : State} {m : MethodId} {args : Array Value} {below : List Frame} {meth : Method} {c : Code} {Q : State → Prop} {G : mj_G} {E : mj_E} {own : String} {cc : ByteArray} {nL d : Nat} {h0 : mj_H}
variable {pc tgt : Nat} {ls st : List Value} {h : mj_H}
/-- how far the heap reaches -/
theorem mj_size (X : mj_Cx p R s m args c G E own cc nL d h0) (hle : h0.2.2.2.length ≤ h.2.2.2.length) {T : State} {H : Heap} {locs : List Loc} {sl : Nat} (hP : va_P (mj_D G) vwCl (mj_ws G h) H) (hS : va_S (mj_A G) s.heap H locs) (hT : T.heap = H) (Z : Stand p l e R s m args below meth c T locs (mj_mc h0 h) sl) : H.size = G.1 + h.2.2.2.length := by
  have h1 := Z.heapSize
  rw [hT, X.2.2.2.2.2.2.2.2.1] at h1
  unfold mj_mc at h1
  have h2 : G.1 + h.2.2.2.length ≤ H.size := by
    by_cases hz : h.2.2.2.length = 0
    · have h3 := hS.1
      rw [X.2.2.2.2.2.2.2.2.1] at h3
      omega
    · have h3 := (hP (h.2.2.2.length - 1) _ (mj_ws_at (by omega))).lt
      simp only [] at h3
      omega
  omega
theorem mj_sl_new (kd n : Nat) : mj_sl (mj_new kd n h) = mj_sl h + n := by
  unfold mj_sl mj_new
  simp
theorem mj_lt_new (kd n : Nat) : (mj_new kd n h).2.2.2.length = h.2.2.2.length + 1 := by
  unfold mj_new
  simp
/-- a new cell of any kind -/
theorem mj_r_born (X : mj_Cx p R s m args c G E own cc nL d h0) (hle : h0.2.2.2.length ≤ h.2.2.2.length) (hsl : mj_sl h0 ≤ mj_sl h) {kd n len : Nat} {st0 : List Value} (hc1 : mj_mc h0 h + 1 ≤ R.cells) (hc2 : mj_ms h0 h + n ≤ R.slots)
    (row : ∀ (H : Heap) (LS : Array Slot) (locs : List Loc), va_P (mj_D G) vwCl (mj_ws G h) H → va_S (mj_A G) s.heap H locs →
      (∀ (q : Nat) (H1 : Heap), va_P (mj_D G) vwCl (mj_ws G h ++ [(q, mj_en G (mj_new kd n h) h.2.2.2.length kd n)]) H1 → va_D (mj_A G) (mj_ws G h ++ [(q, mj_en G (mj_new kd n h) h.2.2.2.length kd n)]) → va_S (mj_A G) s.heap H1 locs → W p l e R s m args below meth c H1 locs (mj_mc h0 h + 1) (mj_ms h0 h + n) Q (F0 m (pc + len) LS (.ref q :: st.map (mj_cv G)))) →
      W p l e R s m args below meth c H locs (mj_mc h0 h) (mj_ms h0 h) Q (F0 m pc LS (st0.map (mj_cv G))))
    (kk : mj_WW p l e R s m args below meth c Q G nL h0 (pc + len) ls (.ref h.2.2.2.length :: st) (mj_new kd n h)) : mj_WW p l e R s m args below meth c Q G nL h0 pc ls st0 h := by
  intro H LS locs hp hP hl hlen hS
  have e1 : mj_mc h0 (mj_new kd n h) = mj_mc h0 h + 1 := by unfold mj_mc; rw [mj_lt_new]; omega
  have e2 : mj_ms h0 (mj_new kd n h) = mj_ms h0 h + n := by unfold mj_ms; rw [mj_sl_new]; omega
  refine row H LS locs hP hS (fun q H1 hP1 hD1 hS1 => ?_)
  intro T hT Z
  have hq : q = G.1 + h.2.2.2.length := by
    have z1 := Z.heapSize
    rw [hT, X.2.2.2.2.2.2.2.2.1] at z1
    unfold mj_mc at z1
    have hg : (mj_ws G h ++ [(q, mj_en G (mj_new kd n h) h.2.2.2.length kd n)])[h.2.2.2.length]? = some (q, mj_en G (mj_new kd n h) h.2.2.2.length kd n) := by
      rw [List.getElem?_append_right (by rw [mj_ws_len]; exact Nat.le_refl _), mj_ws_len]; simp
    have z2 : q < H1.size := (hP1 _ _ hg).lt
    have z3 : G.1 ≤ q := hD1.2 _ _ hg
    by_cases hlt : q < G.1 + h.2.2.2.length
    · have ha : q - G.1 < h.2.2.2.length := by omega
      have hg2 : (mj_ws G h ++ [(q, mj_en G (mj_new kd n h) h.2.2.2.length kd n)])[q - G.1]? = some (G.1 + (q - G.1), mj_en G h (q - G.1) (mj_kd h (q - G.1)) (mj_ln h (q - G.1))) := by
        rw [List.getElem?_append_left (by rw [mj_ws_len]; exact ha), mj_ws_at ha]
      have := hD1.1 _ _ _ _ hg hg2 (show q = G.1 + (q - G.1) by omega)
      omega
    · omega
  subst hq
  rw [← mj_ws_new] at hP1
  have := kk H1 LS locs (hp.tr (mj_pf.new _ _)) hP1 hl hlen hS1
  rw [e1, e2] at this
  exact this T hT Z
theorem mj_r_new (hcl : mj_clok) (X : mj_Cx p R s m args c G E own cc nL d h0) (hle : h0.2.2.2.length ≤ h.2.2.2.length) (hsl : mj_sl h0 ≤ mj_sl h) {idx ci : Nat} {q : vw_C} (hd : decode cc pc = .ok (.new idx, 3)) (hq : vwCl[ci]? = some q) (hw1 : Cond.classLink own idx q.1 ∈ mj_WSG) (hw2 : Cond.instantiable q.1 q.2.2 ∈ mj_WSG) (hw3 : Cond.initialized q.1 ∈ mj_WSG) (hc1 : mj_mc h0 h + 1 ≤ R.cells) (hc2 : mj_ms h0 h + q.2.2 ≤ R.slots)
    (kk : mj_WW p l e R s m args below meth c Q G nL h0 (pc + 3) ls (.ref h.2.2.2.length :: st) (mj_new ci q.2.2 h)) : mj_WW p l e R s m args below meth c Q G nL h0 pc ls st h := by
  obtain ⟨g1, g2, ty0, g3⟩ := hcl ci q hq
  have h13 := mj_cl_lt hq
  have hA : ∀ q, s.heap.size ≤ q → mj_A G q := fun q hq => by have := X.2.2.2.2.2.2.2.2.1; show G.1 ≤ q; omega
  refine mj_r_born X hle hsl hc1 hc2 (fun H LS locs hP hS k2 => ?_) kk
  rw [mj_en_ob h13] at k2
  refine va_new (C := q.1) (T := q.2.1) (N := q.2.2) X.1 X.2.1 X.2.2.2.2.1 g1 ty0 (fun k hk => (g3 k hk).1) X.2.2.2.1 (X.2.2.2.2.1 _ hw1) (X.2.2.2.2.1 _ hw2) (X.2.2.2.2.1 _ hw3) X.2.2.2.2.2.1 hP (mj_ws_D G h) hS hA hq (fun j hj => ?_) hc1 hc2 hd k2
  have ho := mj_ob_at (G := G) (h := mj_new ci q.2.2 h) (a := h.2.2.2.length) hq hj
  unfold vp_V
  rw [List.getD_eq_getElem?_getD, ho]
  obtain ⟨-, t1, t2, t3⟩ := g3 j hj
  have hz : ∀ {α : Type} (f : Nat → Nat → α) (z : α) (k : Nat), mj_ur f h.2.2.2.length (fun _ => z) h.2.2.2.length k = z := fun f z k => by unfold mj_ur; rw [if_pos rfl]
  have hcase : mj_fc (q.2.1 j).2.2.1 = 0 ∨ mj_fc (q.2.1 j).2.2.1 = 1 ∨ mj_fc (q.2.1 j).2.2.1 = 2 ∨ mj_fc (q.2.1 j).2.2.1 = 3 := by
    unfold mj_fc; split
    · exact Or.inl rfl
    · split
      · exact Or.inr (Or.inl rfl)
      · split
        · exact Or.inr (Or.inr (Or.inl rfl))
        · exact Or.inr (Or.inr (Or.inr rfl))
  rcases hcase with z | z | z | z
  · rw [t1 _ (Or.inl z) rfl, z]; simp only [mj_fv, mj_new, hz, Option.getD_some]
  · rw [t1 _ (Or.inr z) rfl, z]; simp only [mj_fv, mj_new, hz, Option.getD_some]
  · rw [t2 z, z]; simp only [mj_fv, mj_new, hz, Option.getD_some]
  · rw [t3 z, z]; simp only [mj_fv, mj_new, hz, Option.getD_some, mj_cv]
theorem mj_z {α : Type} (f : Nat → Nat → α) (z : α) : mj_ur f h.2.2.2.length (fun _ => z) h.2.2.2.length = fun _ => z := by funext k; unfold mj_ur; rw [if_pos rfl]
theorem mj_r_newa (X : mj_Cx p R s m args c G E own cc nL d h0) (hle : h0.2.2.2.length ≤ h.2.2.2.length) (hsl : mj_sl h0 ≤ mj_sl h) {at0 : ArrayType} {kd : Nat} {n : Int32} (hd : decode cc pc = .ok (.newarray at0, 2)) (hk : (at0 = .int ∧ kd = 100) ∨ (at0 = .long ∧ kd = 101) ∨ (at0 = .byte ∧ kd = 102)) (hw : Cond.arrayClass (newarray.typeOf at0) ∈ mj_WSG) (hn : 0 ≤ n) (hn2 : n.toNatClampNeg ≤ 65536) (hc1 : mj_mc h0 h + 1 ≤ R.cells) (hc2 : mj_ms h0 h + n.toNatClampNeg ≤ R.slots)
    (kk : mj_WW p l e R s m args below meth c Q G nL h0 (pc + 2) ls (.ref h.2.2.2.length :: st) (mj_new kd n.toNatClampNeg h)) : mj_WW p l e R s m args below meth c Q G nL h0 pc ls (.int n :: st) h := by
  have hA : ∀ q, s.heap.size ≤ q → mj_A G q := fun q hq => by have := X.2.2.2.2.2.2.2.2.1; show G.1 ≤ q; omega
  refine mj_r_born X hle hsl hc1 hc2 (fun H LS locs hP hS k2 => ?_) kk
  have hK := X.2.2.2.2.2.1
  rcases hk with ⟨rfl, rfl⟩ | ⟨rfl, rfl⟩ | ⟨rfl, rfl⟩
  · refine va_newa X.1 X.2.1 (X.2.2.2.2.1 _ hw) (ty := .int) rfl hK hP (mj_ws_D G h) hS hA (a0 := (n.toNatClampNeg, .inl (fun _ => 0))) (fun cA => rfl) (mj_nn hn) rfl (by show _ * 4 ≤ _; omega) hc1 hc2 hd (fun q cA H1 k1 k3 k4 k5 => ?_)
    have e : cA = G.2.2.2.2.1 := by
      have a1 := (k1.2 4 (cA, .int) rfl).2
      have a2 := (hK.2 0 (G.2.2.2.2.1, .int) rfl).2
      exact Option.some.inj (a1.symm.trans a2)
    subst e
    have ee : mj_en G (mj_new 100 n.toNatClampNeg h) h.2.2.2.length 100 n.toNatClampNeg = .inl (G.2.2.2.2.1, n.toNatClampNeg, .inl (fun _ => 0)) := by
      rw [mj_en_100]; simp only [mj_new, mj_z]
    rw [ee] at k2
    exact k2 q H1 k3 k4 k5
  · refine va_newa X.1 X.2.1 (X.2.2.2.2.1 _ hw) (ty := .long) rfl hK hP (mj_ws_D G h) hS hA (a0 := (n.toNatClampNeg, .inr (.inl (fun _ => 0)))) (fun cA => rfl) (mj_nn hn) rfl (by show _ * 8 ≤ _; omega) hc1 hc2 hd (fun q cA H1 k1 k3 k4 k5 => ?_)
    have e : cA = G.2.2.2.2.2.1 := by
      have a1 := (k1.2 4 (cA, .long) rfl).2
      have a2 := (hK.2 1 (G.2.2.2.2.2.1, .long) rfl).2
      exact Option.some.inj (a1.symm.trans a2)
    subst e
    have ee : mj_en G (mj_new 101 n.toNatClampNeg h) h.2.2.2.length 101 n.toNatClampNeg = .inl (G.2.2.2.2.2.1, n.toNatClampNeg, .inr (.inl (fun _ => 0))) := by
      rw [mj_en_101]; simp only [mj_new, mj_z]
    rw [ee] at k2
    exact k2 q H1 k3 k4 k5
  · refine va_newa X.1 X.2.1 (X.2.2.2.2.1 _ hw) (ty := .byte) rfl hK hP (mj_ws_D G h) hS hA (a0 := (n.toNatClampNeg, .inl (fun _ => 0))) (fun cA => rfl) (mj_nn hn) rfl (by show _ * 1 ≤ _; omega) hc1 hc2 hd (fun q cA H1 k1 k3 k4 k5 => ?_)
    have e : cA = G.2.2.2.2.2.2.1 := by
      have a1 := (k1.2 4 (cA, .byte) rfl).2
      have a2 := (hK.2 2 (G.2.2.2.2.2.2.1, .byte) rfl).2
      exact Option.some.inj (a1.symm.trans a2)
    subst e
    have ee : mj_en G (mj_new 102 n.toNatClampNeg h) h.2.2.2.length 102 n.toNatClampNeg = .inl (G.2.2.2.2.2.2.1, n.toNatClampNeg, .inl (fun _ => 0)) := by
      rw [mj_en_102]; simp only [mj_new, mj_z]
    rw [ee] at k2
    exact k2 q H1 k3 k4 k5
theorem mj_r_anew (X : mj_Cx p R s m args c G E own cc nL d h0) (hle : h0.2.2.2.length ≤ h.2.2.2.length) (hsl : mj_sl h0 ≤ mj_sl h) {idx : Nat} {n : Int32} (hd : decode cc pc = .ok (.anewarray idx, 3)) (hw1 : Cond.classLink own idx "LastToWince$Room" ∈ mj_WSG) (hn : 0 ≤ n) (hn2 : n.toNatClampNeg ≤ 65536) (hc1 : mj_mc h0 h + 1 ≤ R.cells) (hc2 : mj_ms h0 h + n.toNatClampNeg ≤ R.slots)
    (kk : mj_WW p l e R s m args below meth c Q G nL h0 (pc + 3) ls (.ref h.2.2.2.length :: st) (mj_new 103 n.toNatClampNeg h)) : mj_WW p l e R s m args below meth c Q G nL h0 pc ls (.int n :: st) h := by
  have hA : ∀ q, s.heap.size ≤ q → mj_A G q := fun q hq => by have := X.2.2.2.2.2.2.2.2.1; show G.1 ≤ q; omega
  refine mj_r_born X hle hsl hc1 hc2 (fun H LS locs hP hS k2 => ?_) kk
  have hK := X.2.2.2.2.2.1
  refine va_newq (C := "LastToWince$Room") X.1 X.2.1 X.2.2.2.1 (X.2.2.2.2.1 _ hw1) X.2.2.2.2.2.2.2.1.2 hK hP (mj_ws_D G h) hS hA (mj_nn hn) rfl (by omega) hc1 hc2 hd (fun q cA H1 k1 k3 k4 k5 => ?_)
  have e : cA = G.2.2.2.2.2.2.2 := by
    obtain ⟨-, -, -, -, -, a1⟩ := (k1.2 4 (cA, .object "LastToWince$Room") rfl).2
    obtain ⟨-, -, -, -, -, a2⟩ := (hK.2 3 (G.2.2.2.2.2.2.2, .object "LastToWince$Room") rfl).2
    exact Option.some.inj (a1.symm.trans a2)
  subst e
  have ee : mj_en G (mj_new 103 n.toNatClampNeg h) h.2.2.2.length 103 n.toNatClampNeg = .inl (G.2.2.2.2.2.2.2, n.toNatClampNeg, .inr (.inr (.inr (.inr (fun _ => none))))) := by
    rw [mj_en_103]; simp only [mj_new, mj_z, mj_op]
  rw [ee] at k2
  exact k2 q H1 k3 k4 k5
end MJV
