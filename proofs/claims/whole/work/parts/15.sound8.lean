section MJY
variable {p : Program} {l : Launch} {e : Env} {R : Room} {s : State} {m : MethodId} {args : Array Value} {below : List Frame} {meth : Method} {c : Code} {Q : State → Prop} {G : mj_G} {E : mj_E} {own nm : String} {cc : ByteArray} {nL d : Nat} {h0 : mj_H}
variable {pc : Nat} {ls st : List Value} {h : mj_H} {P : Nat → mj_Me} {C : Nat → List Value → mj_H → mj_R} {K : mj_K} {J : Nat → mj_K} {r : Option Value × mj_H} {rt : Option FieldType}
theorem mj_sgetf (hcl : mj_clok) (hgw : mj_gw) (X : mj_Cx p R s m args c G E own cc nL d h0) {len : Nat} {cst : Int32} {ax : List Nat} (hpf : mj_pf h0 h) (hfit : mj_mc h0 r.2 ≤ R.cells ∧ mj_ms h0 r.2 ≤ R.slots) (hCC : mj_CC l P E G d C) (hnm : nm = "<init>" → meth.name = "<init>") (hKp : ∀ ls' st' h', K ls' st' h' = some r → mj_pf h' r.2) (hRT : mj_RT p l e R s m args below meth c Q G cc rt h0 r)
    (hK : ∀ ls' st' h', K ls' st' h' = some r → mj_WW p l e R s m args below meth c Q G nL h0 (pc + len) ls' st' h') (hJ : ∀ pc' ls' st' h', J pc' ls' st' h' = some r → mj_WW p l e R s m args below meth c Q G nL h0 pc' ls' st' h') {idx : Nat} (hdec : decode cc pc = .ok (.getfield idx, 3)) (hlen : len = 3) (hck : (match ax with
    | [0, p] => mj_wd p (.fieldLink own idx "java/lang/String" "value" "[B")
    | [1, p] => mj_wd p (.fieldLink own idx "java/lang/String" "coder" "B")
    | [ci, kk, fc, p] => mj_ckg own idx ci kk fc p
    | _ => true) = true) (hx : mj_getf ax ls st h K = some r) : mj_WW p l e R s m args below meth c Q G nL h0 pc ls st h := by
  subst hlen
  unfold mj_getf at hx
  simp only [mj_g_if] at hx
  split at hx
  · split at hx
    · rename_i hj
      exact mj_r_getv X hdec hj.1 hj.2 (mj_wd_in hck) (hK _ _ _ hx)
    · cases hx
  · split at hx
    · rename_i hj
      exact mj_r_getc X hdec hj.1 hj.2 (mj_wd_in hck) (hK _ _ _ hx)
    · cases hx
  · rename_i ci k fc pp a rr
    split at hx
    · rename_i hkd
      have hck2 : mj_ckg own idx ci k fc pp = true := by
        split at hck
        · rename_i heq; simp at heq
        · rename_i heq; simp at heq
        · rename_i heq
          simp only [List.cons.injEq] at heq
          obtain ⟨rfl, rfl, rfl, rfl, -⟩ := heq
          exact hck
        · rename_i heq
          exact absurd rfl (heq _ _ _ _)
      unfold mj_ckg at hck2
      split at hck2
      · rename_i q hq
        simp only [Bool.and_eq_true, decide_eq_true_eq] at hck2
        split at hx
        · exact mj_r_getf hcl X hdec hkd hq hck2.1 hck2.2.1 (mj_wd_in hck2.2.2) rfl (hK _ _ _ hx)
        · exact mj_r_getf hcl X hdec hkd hq hck2.1 hck2.2.1 (mj_wd_in hck2.2.2) rfl (hK _ _ _ hx)
        · exact mj_r_getf hcl X hdec hkd hq hck2.1 hck2.2.1 (mj_wd_in hck2.2.2) rfl (hK _ _ _ hx)
        · rename_i n1 n2 n3
          have e1 : mj_fv G h a fc k = mj_cv G (h.2.2.1 a k) := by
            unfold mj_fv
            split
            · exact absurd rfl n1
            · exact absurd rfl n2
            · exact absurd rfl n3
            · rfl
          unfold mj_rf at hx
          split at hx
          · rename_i hv; rw [hv] at e1; exact mj_r_getf hcl X hdec hkd hq hck2.1 hck2.2.1 (mj_wd_in hck2.2.2) e1 (hK _ _ _ hx)
          · rename_i hv; rw [hv] at e1; exact mj_r_getf hcl X hdec hkd hq hck2.1 hck2.2.1 (mj_wd_in hck2.2.2) e1 (hK _ _ _ hx)
          · rename_i hv; rw [hv] at e1; exact mj_r_getf hcl X hdec hkd hq hck2.1 hck2.2.1 (mj_wd_in hck2.2.2) e1 (hK _ _ _ hx)
          · cases hx
      · cases hck2
    · cases hx
  · cases hx

theorem mj_sputf (hcl : mj_clok) (hgw : mj_gw) (X : mj_Cx p R s m args c G E own cc nL d h0) {len : Nat} {cst : Int32} {ax : List Nat} (hpf : mj_pf h0 h) (hfit : mj_mc h0 r.2 ≤ R.cells ∧ mj_ms h0 r.2 ≤ R.slots) (hCC : mj_CC l P E G d C) (hnm : nm = "<init>" → meth.name = "<init>") (hKp : ∀ ls' st' h', K ls' st' h' = some r → mj_pf h' r.2) (hRT : mj_RT p l e R s m args below meth c Q G cc rt h0 r)
    (hK : ∀ ls' st' h', K ls' st' h' = some r → mj_WW p l e R s m args below meth c Q G nL h0 (pc + len) ls' st' h') (hJ : ∀ pc' ls' st' h', J pc' ls' st' h' = some r → mj_WW p l e R s m args below meth c Q G nL h0 pc' ls' st' h') {idx : Nat} (hdec : decode cc pc = .ok (.putfield idx, 3)) (hlen : len = 3) (hck : (match ax with
    | [ci, kk, fc, p] => mj_ckp own nm idx ci kk fc p
    | _ => true) = true) (hx : mj_putf ax ls st h K = some r) : mj_WW p l e R s m args below meth c Q G nL h0 pc ls st h := by
  subst hlen
  have hu : ∀ {α : Type} (f : Nat → Nat → α) (a k : Nat) (x : α) (b y : Nat), ¬ (b = a ∧ y = k) → mj_u f a k x b y = f b y := fun f a k x b y z => by unfold mj_u; rw [if_neg z]
  have hu2 : ∀ {α : Type} (f : Nat → Nat → α) (a k : Nat) (x : α), mj_u f a k x a k = x := fun f a k x => by unfold mj_u; rw [if_pos ⟨rfl, rfl⟩]
  have hgo : ∀ (ci k fc pp a : Nat) (v : Value) (rr : List Value) (h' : mj_H), mj_ckp own nm idx ci k fc pp = true → mj_kd h a = ci → st = v :: .ref a :: rr → h'.2.2.2 = h.2.2.2 → (∀ b y, ¬ (b = a ∧ y = k) → h'.1 b y = h.1 b y ∧ h'.2.1 b y = h.2.1 b y ∧ h'.2.2.1 b y = h.2.2.1 b y) → mj_fv G h' a fc k = mj_cv G v →
      (∀ ty, (fc = 0 ∧ ty = .int ∨ fc = 1 ∧ ty = .boolean ∨ fc = 2 ∧ ty = .long ∨ fc = 3 ∧ ((∃ n, ty = .object n) ∨ ∃ t, ty = .array t)) → narrow ty (mj_cv G v) = mj_cv G v ∧ fits ty (mj_cv G v) = true) → K ls rr h' = some r → mj_WW p l e R s m args below meth c Q G nL h0 pc ls st h := by
    intro ci k fc pp a v rr h' hck hkd hst hc ho hv hnf hx2
    subst hst
    unfold mj_ckp at hck
    split at hck
    · rename_i q hq
      simp only [Bool.and_eq_true, Bool.or_eq_true, Bool.not_eq_true', decide_eq_true_eq] at hck
      obtain ⟨k1, k2, k3, k4, k5⟩ := hck
      have hty : ∃ ty, parseFieldDescriptor (q.2.1 k).2.2.1 = some ty ∧ (fc = 0 ∧ ty = .int ∨ fc = 1 ∧ ty = .boolean ∨ fc = 2 ∧ ty = .long ∨ fc = 3 ∧ ((∃ n, ty = .object n) ∨ ∃ t, ty = .array t)) := by
        split at k5
        · rename_i z; exact ⟨_, z, Or.inl ⟨rfl, rfl⟩⟩
        · rename_i z; exact ⟨_, z, Or.inr (Or.inl ⟨rfl, rfl⟩)⟩
        · rename_i z; exact ⟨_, z, Or.inr (Or.inr (Or.inl ⟨rfl, rfl⟩))⟩
        · rename_i z; exact ⟨_, z, Or.inr (Or.inr (Or.inr ⟨rfl, Or.inl ⟨_, rfl⟩⟩))⟩
        · rename_i z; exact ⟨_, z, Or.inr (Or.inr (Or.inr ⟨rfl, Or.inr ⟨_, rfl⟩⟩))⟩
        · cases k5
      obtain ⟨ty, hty, hcs⟩ := hty
      obtain ⟨n1, n2⟩ := hnf ty hcs
      refine mj_r_putf hcl X hdec hkd hq k1 (mj_wd_in k3) ?_ hty n1 n2 hc ho (by rw [k2]; exact hv) (hK _ _ _ hx2)
      rcases k4 with k4 | k4
      · exact Or.inl k4
      · by_cases hf : (q.2.1 k).2.2.2 = true
        · exact Or.inr ⟨hf, hnm k4.1, k4.2⟩
        · exact Or.inl (by simpa using hf)
    · cases hck
  unfold mj_putf at hx
  simp only [mj_g_if] at hx
  split at hx
  · split at hx
    · rename_i hkd
      refine hgo _ _ _ _ _ _ _ (mj_wi (mj_u h.1 _ _ _) h) hck hkd rfl rfl (fun b y z => ⟨hu _ _ _ _ _ _ z, rfl, rfl⟩) (by simp only [mj_fv, mj_wi, hu2, mj_cv]) (fun ty z => ?_) hx
      rcases z with ⟨-, rfl⟩ | ⟨z, -⟩ | ⟨z, -⟩ | ⟨z, -⟩
      · exact ⟨rfl, rfl⟩
      all_goals cases z
    · cases hx
  · split at hx
    · rename_i hkd
      split at hx
      · rename_i hb
        refine hgo _ _ _ _ _ _ _ (mj_wi (mj_u h.1 _ _ _) h) hck hkd rfl rfl (fun b y z => ⟨hu _ _ _ _ _ _ z, rfl, rfl⟩) (by simp only [mj_fv, mj_wi, hu2, mj_cv]) (fun ty z => ?_) hx
        rcases z with ⟨z, -⟩ | ⟨-, rfl⟩ | ⟨z, -⟩ | ⟨z, -⟩
        · cases z
        · exact mj_nbool hb
        all_goals cases z
      · cases hx
    · cases hx
  · split at hx
    · rename_i hkd
      refine hgo _ _ _ _ _ _ _ (mj_wl (mj_u h.2.1 _ _ _) h) hck hkd rfl rfl (fun b y z => ⟨rfl, hu _ _ _ _ _ _ z, rfl⟩) (by simp only [mj_fv, mj_wl, hu2, mj_cv]) (fun ty z => ?_) hx
      rcases z with ⟨z, -⟩ | ⟨z, -⟩ | ⟨-, rfl⟩ | ⟨z, -⟩
      · cases z
      · cases z
      · exact ⟨rfl, rfl⟩
      · cases z
    · cases hx
  · split at hx
    · rename_i hkd
      refine hgo _ _ _ _ _ _ _ (mj_wr (mj_u h.2.2.1 _ _ _) h) hck hkd rfl rfl (fun b y z => ⟨rfl, rfl, hu _ _ _ _ _ _ z⟩) (by simp only [mj_fv, mj_wr, hu2, mj_cv]) (fun ty z => ?_) hx
      rcases z with ⟨z, -⟩ | ⟨z, -⟩ | ⟨z, -⟩ | ⟨-, ⟨n, rfl⟩ | ⟨n, rfl⟩⟩
      · cases z
      · cases z
      · cases z
      · exact ⟨rfl, rfl⟩
      · exact ⟨rfl, rfl⟩
    · cases hx
  · split at hx
    · rename_i hkd
      split at hx
      · rename_i j hj0 hj
        obtain ⟨ad, q1, -⟩ := X.2.2.2.2.2.2.1
        refine hgo _ _ _ _ _ _ _ (mj_wr (mj_u h.2.2.1 _ _ _) h) hck hkd rfl rfl (fun b y z => ⟨rfl, rfl, hu _ _ _ _ _ _ z⟩) (by simp only [mj_fv, mj_wr, hu2]) (fun ty z => ?_) hx
        rw [show ∀ j, mj_cv G (.retAddr j) = G.2.1 j from fun _ => rfl, q1 _ (by omega)]
        rcases z with ⟨z, -⟩ | ⟨z, -⟩ | ⟨z, -⟩ | ⟨-, ⟨n, rfl⟩ | ⟨n, rfl⟩⟩
        · cases z
        · cases z
        · cases z
        · exact ⟨rfl, rfl⟩
        · exact ⟨rfl, rfl⟩
      · cases hx
    · cases hx
  · split at hx
    · rename_i hkd
      refine hgo _ _ _ _ _ _ _ (mj_wr (mj_u h.2.2.1 _ _ _) h) hck hkd rfl rfl (fun b y z => ⟨rfl, rfl, hu _ _ _ _ _ _ z⟩) (by simp only [mj_fv, mj_wr, hu2, mj_cv]) (fun ty z => ?_) hx
      rcases z with ⟨z, -⟩ | ⟨z, -⟩ | ⟨z, -⟩ | ⟨-, ⟨n, rfl⟩ | ⟨n, rfl⟩⟩
      · cases z
      · cases z
      · cases z
      · exact ⟨rfl, rfl⟩
      · exact ⟨rfl, rfl⟩
    · cases hx
  · cases hx
theorem mj_sx (hcl : mj_clok) (hgw : mj_gw) (X : mj_Cx p R s m args c G E own cc nL d h0) {len : Nat} {cst : Int32} {ax : List Nat} (hpf : mj_pf h0 h) (hfit : mj_mc h0 r.2 ≤ R.cells ∧ mj_ms h0 r.2 ≤ R.slots) (hCC : mj_CC l P E G d C) (hnm : nm = "<init>" → meth.name = "<init>") (hKp : ∀ ls' st' h', K ls' st' h' = some r → mj_pf h' r.2) (hRT : mj_RT p l e R s m args below meth c Q G cc rt h0 r)
    (hK : ∀ ls' st' h', K ls' st' h' = some r → mj_WW p l e R s m args below meth c Q G nL h0 (pc + len) ls' st' h') (hJ : ∀ pc' ls' st' h', J pc' ls' st' h' = some r → mj_WW p l e R s m args below meth c Q G nL h0 pc' ls' st' h') (hJp : ∀ pc' ls' st' h', J pc' ls' st' h' = some r → mj_pf h' r.2) (i : Instr) (hdec : decode cc pc = .ok (i, len)) (hck : mj_ckx P own nm rt pc i len cst ax = true) (hx : mj_ex E C i cst ax ls st h K J = some r) : mj_WW p l e R s m args below meth c Q G nL h0 pc ls st h := by
  cases i with
  | iconst n =>
    simp only [mj_ckx, Bool.and_eq_true, decide_eq_true_eq] at hck
    dsimp only [mj_ex] at hx
    obtain ⟨rfl, hv⟩ := hck
    exact mj_r_iconst X hv hdec (hK _ _ _ hx)
  | bipush n =>
    simp only [mj_ckx, Bool.and_eq_true, decide_eq_true_eq] at hck
    dsimp only [mj_ex] at hx
    obtain ⟨rfl, hv⟩ := hck
    exact mj_r_bipush X hv hdec (hK _ _ _ hx)
  | sipush n =>
    simp only [mj_ckx, Bool.and_eq_true, decide_eq_true_eq] at hck
    dsimp only [mj_ex] at hx
    obtain ⟨rfl, hv⟩ := hck
    exact mj_r_sipush X hv hdec (hK _ _ _ hx)
  | ldc k =>
    simp only [mj_ckx, Bool.and_eq_true, decide_eq_true_eq] at hck
    dsimp only [mj_ex] at hx
    obtain ⟨rfl, hck⟩ := hck
    split at hx
    · exact mj_r_ldc X (mj_wd_in hck) hdec (hK _ _ _ hx)
    · simp only [Bool.and_eq_true, decide_eq_true_eq] at hck
      exact mj_r_ldcs X hdec (List.mem_of_getElem? hck.1) hck.2.1 hck.2.2 (hK _ _ _ hx)
    · cases hx
  | ldc_w k =>
    simp only [mj_ckx, Bool.and_eq_true, decide_eq_true_eq] at hck
    dsimp only [mj_ex] at hx
    obtain ⟨rfl, hck⟩ := hck
    split at hx
    · exact mj_r_ldcw X (mj_wd_in hck) hdec (hK _ _ _ hx)
    · cases hx
  | ldc2_w k =>
    simp only [mj_ckx, Bool.and_eq_true, decide_eq_true_eq] at hck
    dsimp only [mj_ex] at hx
    obtain ⟨rfl, hck⟩ := hck
    split at hx
    · exact mj_r_ldc2 X (mj_wd_in hck) hdec (hK _ _ _ hx)
    · cases hx
  | lconst n =>
    simp only [mj_ckx, Bool.and_eq_true, decide_eq_true_eq] at hck
    dsimp only [mj_ex] at hx
    subst hck
    exact mj_r_lconst X hdec (hK _ _ _ hx)
  | aconst_null =>
    simp only [mj_ckx, Bool.and_eq_true, decide_eq_true_eq] at hck
    dsimp only [mj_ex] at hx
    subst hck
    exact mj_r_null X hdec (hK _ _ _ hx)
  | iload n =>
    simp only [mj_ckx, Bool.and_eq_true, decide_eq_true_eq] at hck
    dsimp only [mj_ex] at hx
    subst hck
    unfold mj_ild at hx
    split at hx
    · rename_i ha; exact mj_r_iload X ha hdec (hK _ _ _ hx)
    · cases hx
  | iload_n n =>
    simp only [mj_ckx, Bool.and_eq_true, decide_eq_true_eq] at hck
    dsimp only [mj_ex] at hx
    subst hck
    unfold mj_ild at hx
    split at hx
    · rename_i ha; exact mj_r_iload_n X ha hdec (hK _ _ _ hx)
    · cases hx
  | lload n =>
    simp only [mj_ckx, Bool.and_eq_true, decide_eq_true_eq] at hck
    dsimp only [mj_ex] at hx
    subst hck
    unfold mj_lld at hx
    split at hx
    · rename_i ha; exact mj_r_lload X ha hdec (hK _ _ _ hx)
    · cases hx
  | lload_n n =>
    simp only [mj_ckx, Bool.and_eq_true, decide_eq_true_eq] at hck
    dsimp only [mj_ex] at hx
    subst hck
    unfold mj_lld at hx
    split at hx
    · rename_i ha; exact mj_r_lload_n X ha hdec (hK _ _ _ hx)
    · cases hx
  | aload n =>
    simp only [mj_ckx, Bool.and_eq_true, decide_eq_true_eq] at hck
    dsimp only [mj_ex] at hx
    subst hck
    unfold mj_ald at hx
    simp only [mj_g_if] at hx
    split at hx
    · rename_i ha; exact mj_r_aload X ha hdec (hK _ _ _ hx)
    · rename_i ha
      split at hx
      · rename_i hj; exact mj_r_aloadc X hdec ha hj (hK _ _ _ hx)
      · cases hx
    · cases hx
  | istore n =>
    simp only [mj_ckx, Bool.and_eq_true, decide_eq_true_eq] at hck
    dsimp only [mj_ex] at hx
    subst hck
    unfold mj_ist at hx
    simp only [mj_g_if] at hx
    split at hx
    · split at hx
      · rename_i hn; exact mj_r_istore X hdec hn (hK _ _ _ hx)
      · cases hx
    · cases hx
  | lstore n =>
    simp only [mj_ckx, Bool.and_eq_true, decide_eq_true_eq] at hck
    dsimp only [mj_ex] at hx
    subst hck
    unfold mj_lst at hx
    simp only [mj_g_if] at hx
    split at hx
    · split at hx
      · rename_i hn; exact mj_r_lstore X hdec hn (hK _ _ _ hx)
      · cases hx
    · cases hx
  | astore n =>
    simp only [mj_ckx, Bool.and_eq_true, decide_eq_true_eq] at hck
    dsimp only [mj_ex] at hx
    subst hck
    unfold mj_ast at hx
    simp only [mj_g_if] at hx
    split at hx
    · split at hx
      · rename_i hn; exact mj_r_astore X hdec hn (hK _ _ _ hx)
      · cases hx
    · cases hx
  | aload_n n =>
    simp only [mj_ckx, Bool.and_eq_true, decide_eq_true_eq] at hck
    dsimp only [mj_ex] at hx
    subst hck
    unfold mj_ald at hx
    simp only [mj_g_if] at hx
    split at hx
    · rename_i ha; exact mj_r_aload_n X ha hdec (hK _ _ _ hx)
    · rename_i ha
      split at hx
      · rename_i hj; exact mj_r_aloadc_n X hdec ha hj (hK _ _ _ hx)
      · cases hx
    · cases hx
  | istore_n n =>
    simp only [mj_ckx, Bool.and_eq_true, decide_eq_true_eq] at hck
    dsimp only [mj_ex] at hx
    subst hck
    unfold mj_ist at hx
    simp only [mj_g_if] at hx
    split at hx
    · split at hx
      · rename_i hn; exact mj_r_istore_n X hdec hn (hK _ _ _ hx)
      · cases hx
    · cases hx
  | lstore_n n =>
    simp only [mj_ckx, Bool.and_eq_true, decide_eq_true_eq] at hck
    dsimp only [mj_ex] at hx
    subst hck
    unfold mj_lst at hx
    simp only [mj_g_if] at hx
    split at hx
    · split at hx
      · rename_i hn; exact mj_r_lstore_n X hdec hn (hK _ _ _ hx)
      · cases hx
    · cases hx
  | astore_n n =>
    simp only [mj_ckx, Bool.and_eq_true, decide_eq_true_eq] at hck
    dsimp only [mj_ex] at hx
    subst hck
    unfold mj_ast at hx
    simp only [mj_g_if] at hx
    split at hx
    · split at hx
      · rename_i hn; exact mj_r_astore_n X hdec hn (hK _ _ _ hx)
      · cases hx
    · cases hx
  | iinc k n =>
    simp only [mj_ckx, Bool.and_eq_true, decide_eq_true_eq] at hck
    dsimp only [mj_ex] at hx
    simp only [mj_g_if] at hx
    obtain ⟨rfl, hv⟩ := hck
    split at hx
    · rename_i ha
      split at hx
      · exact mj_r_iinc X hdec ha hv (hK _ _ _ hx)
      · cases hx
    · cases hx
  | iadd =>
    simp only [mj_ckx, Bool.and_eq_true, decide_eq_true_eq] at hck
    dsimp only [mj_ex] at hx
    subst hck
    unfold mj_i2 at hx
    split at hx
    · exact mj_r_iadd X hdec (hK _ _ _ hx)
    · cases hx
  | isub =>
    simp only [mj_ckx, Bool.and_eq_true, decide_eq_true_eq] at hck
    dsimp only [mj_ex] at hx
    subst hck
    unfold mj_i2 at hx
    split at hx
    · exact mj_r_isub X hdec (hK _ _ _ hx)
    · cases hx
  | imul =>
    simp only [mj_ckx, Bool.and_eq_true, decide_eq_true_eq] at hck
    dsimp only [mj_ex] at hx
    subst hck
    unfold mj_i2 at hx
    split at hx
    · exact mj_r_imul X hdec (hK _ _ _ hx)
    · cases hx
  | iand =>
    simp only [mj_ckx, Bool.and_eq_true, decide_eq_true_eq] at hck
    dsimp only [mj_ex] at hx
    subst hck
    unfold mj_i2 at hx
    split at hx
    · exact mj_r_iand X hdec (hK _ _ _ hx)
    · cases hx
  | ior =>
    simp only [mj_ckx, Bool.and_eq_true, decide_eq_true_eq] at hck
    dsimp only [mj_ex] at hx
    subst hck
    unfold mj_i2 at hx
    split at hx
    · exact mj_r_ior X hdec (hK _ _ _ hx)
    · cases hx
  | ixor =>
    simp only [mj_ckx, Bool.and_eq_true, decide_eq_true_eq] at hck
    dsimp only [mj_ex] at hx
    subst hck
    unfold mj_i2 at hx
    split at hx
    · exact mj_r_ixor X hdec (hK _ _ _ hx)
    · cases hx
  | ishl =>
    simp only [mj_ckx, Bool.and_eq_true, decide_eq_true_eq] at hck
    dsimp only [mj_ex] at hx
    subst hck
    unfold mj_i2 at hx
    split at hx
    · exact mj_r_ishl X hdec (hK _ _ _ hx)
    · cases hx
  | ishr =>
    simp only [mj_ckx, Bool.and_eq_true, decide_eq_true_eq] at hck
    dsimp only [mj_ex] at hx
    subst hck
    unfold mj_i2 at hx
    split at hx
    · exact mj_r_ishr X hdec (hK _ _ _ hx)
    · cases hx
  | iushr =>
    simp only [mj_ckx, Bool.and_eq_true, decide_eq_true_eq] at hck
    dsimp only [mj_ex] at hx
    subst hck
    unfold mj_i2 at hx
    split at hx
    · exact mj_r_iushr X hdec (hK _ _ _ hx)
    · cases hx
  | idiv =>
    simp only [mj_ckx, Bool.and_eq_true, decide_eq_true_eq] at hck
    dsimp only [mj_ex] at hx
    subst hck
    split at hx
    · split at hx
      · cases hx
      · rename_i hy; exact mj_r_idiv X hy hdec (hK _ _ _ hx)
    · cases hx
  | irem =>
    simp only [mj_ckx, Bool.and_eq_true, decide_eq_true_eq] at hck
    dsimp only [mj_ex] at hx
    subst hck
    split at hx
    · split at hx
      · cases hx
      · rename_i hy; exact mj_r_irem X hy hdec (hK _ _ _ hx)
    · cases hx
  | ldiv =>
    simp only [mj_ckx, Bool.and_eq_true, decide_eq_true_eq] at hck
    dsimp only [mj_ex] at hx
    subst hck
    split at hx
    · split at hx
      · cases hx
      · rename_i hy; exact mj_r_ldiv X hy hdec (hK _ _ _ hx)
    · cases hx
  | ladd =>
    simp only [mj_ckx, Bool.and_eq_true, decide_eq_true_eq] at hck
    dsimp only [mj_ex] at hx
    subst hck
    unfold mj_l2 at hx
    split at hx
    · exact mj_r_ladd X hdec (hK _ _ _ hx)
    · cases hx
  | lsub =>
    simp only [mj_ckx, Bool.and_eq_true, decide_eq_true_eq] at hck
    dsimp only [mj_ex] at hx
    subst hck
    unfold mj_l2 at hx
    split at hx
    · exact mj_r_lsub X hdec (hK _ _ _ hx)
    · cases hx
  | lmul =>
    simp only [mj_ckx, Bool.and_eq_true, decide_eq_true_eq] at hck
    dsimp only [mj_ex] at hx
    subst hck
    unfold mj_l2 at hx
    split at hx
    · exact mj_r_lmul X hdec (hK _ _ _ hx)
    · cases hx
  | land =>
    simp only [mj_ckx, Bool.and_eq_true, decide_eq_true_eq] at hck
    dsimp only [mj_ex] at hx
    subst hck
    unfold mj_l2 at hx
    split at hx
    · exact mj_r_land X hdec (hK _ _ _ hx)
    · cases hx
  | lor =>
    simp only [mj_ckx, Bool.and_eq_true, decide_eq_true_eq] at hck
    dsimp only [mj_ex] at hx
    subst hck
    unfold mj_l2 at hx
    split at hx
    · exact mj_r_lor X hdec (hK _ _ _ hx)
    · cases hx
  | lshl =>
    simp only [mj_ckx, Bool.and_eq_true, decide_eq_true_eq] at hck
    dsimp only [mj_ex] at hx
    subst hck
    unfold mj_ls at hx
    split at hx
    · exact mj_r_lshl X hdec (hK _ _ _ hx)
    · cases hx
  | lshr =>
    simp only [mj_ckx, Bool.and_eq_true, decide_eq_true_eq] at hck
    dsimp only [mj_ex] at hx
    subst hck
    unfold mj_ls at hx
    split at hx
    · exact mj_r_lshr X hdec (hK _ _ _ hx)
    · cases hx
  | lushr =>
    simp only [mj_ckx, Bool.and_eq_true, decide_eq_true_eq] at hck
    dsimp only [mj_ex] at hx
    subst hck
    unfold mj_ls at hx
    split at hx
    · exact mj_r_lushr X hdec (hK _ _ _ hx)
    · cases hx
  | lcmp =>
    simp only [mj_ckx, Bool.and_eq_true, decide_eq_true_eq] at hck
    dsimp only [mj_ex] at hx
    subst hck
    split at hx
    · exact mj_r_lcmp X hdec (hK _ _ _ hx)
    · cases hx
  | l2i =>
    simp only [mj_ckx, Bool.and_eq_true, decide_eq_true_eq] at hck
    dsimp only [mj_ex] at hx
    subst hck
    split at hx
    · exact mj_r_l2i X hdec (hK _ _ _ hx)
    · cases hx
  | i2l =>
    simp only [mj_ckx, Bool.and_eq_true, decide_eq_true_eq] at hck
    dsimp only [mj_ex] at hx
    subst hck
    unfold mj_i1 at hx
    split at hx
    · exact mj_r_i2l X hdec (hK _ _ _ hx)
    · cases hx
  | i2b =>
    simp only [mj_ckx, Bool.and_eq_true, decide_eq_true_eq] at hck
    dsimp only [mj_ex] at hx
    subst hck
    unfold mj_i1 at hx
    split at hx
    · exact mj_r_i2b X hdec (hK _ _ _ hx)
    · cases hx
  | i2c =>
    simp only [mj_ckx, Bool.and_eq_true, decide_eq_true_eq] at hck
    dsimp only [mj_ex] at hx
    subst hck
    unfold mj_i1 at hx
    split at hx
    · exact mj_r_i2c X hdec (hK _ _ _ hx)
    · cases hx
  | dup =>
    simp only [mj_ckx, Bool.and_eq_true, decide_eq_true_eq] at hck
    dsimp only [mj_ex] at hx
    subst hck
    split at hx
    · exact mj_r_dupi X hdec (hK _ _ _ hx)
    · exact mj_r_dupr X hdec (hK _ _ _ hx)
    · cases hx
  | dup2 =>
    simp only [mj_ckx, Bool.and_eq_true, decide_eq_true_eq] at hck
    dsimp only [mj_ex] at hx
    subst hck
    split at hx
    · exact mj_r_dup2i X hdec (hK _ _ _ hx)
    · exact mj_r_dup2r X hdec (hK _ _ _ hx)
    · cases hx
  | pop =>
    simp only [mj_ckx, Bool.and_eq_true, decide_eq_true_eq] at hck
    dsimp only [mj_ex] at hx
    subst hck
    split at hx
    · exact mj_r_popi X hdec (hK _ _ _ hx)
    · cases hx
  | getfield k =>
    simp only [mj_ckx, Bool.and_eq_true, decide_eq_true_eq] at hck
    dsimp only [mj_ex] at hx
    have hl3 := hck.1
    subst hl3
    exact mj_sgetf (P := P) (C := C) (J := J) (nm := nm) (rt := rt) hcl hgw (cst := cst) X hpf hfit hCC hnm hKp hRT hK hJ hdec rfl hck.2 hx
  | putfield k =>
    simp only [mj_ckx, Bool.and_eq_true, decide_eq_true_eq] at hck
    dsimp only [mj_ex] at hx
    have hl3 := hck.1
    subst hl3
    exact mj_sputf (P := P) (C := C) (J := J) (nm := nm) (rt := rt) hcl hgw (cst := cst) X hpf hfit hCC hnm hKp hRT hK hJ hdec rfl hck.2 hx
  | getstatic k =>
    simp only [mj_ckx, Bool.and_eq_true, decide_eq_true_eq] at hck
    dsimp only [mj_ex] at hx
    obtain ⟨rfl, hck⟩ := hck
    split at hx
    · split at hck <;> first | (rename_i heq; simp at heq; done) | (rename_i heq; simp only [List.cons.injEq] at heq; obtain ⟨-, rfl, -, -⟩ := heq; exact mj_r_gets0 X hdec (mj_wd_in hck) (hK _ _ _ hx)) | (cases hck; done)
    · split at hck <;> first | (rename_i heq; simp at heq; done) | (rename_i heq; simp only [List.cons.injEq] at heq; obtain ⟨-, rfl, -, -⟩ := heq; exact mj_r_gets1 X hdec (mj_wn_in hck).1 (hK _ _ _ hx)) | (cases hck; done)
    · split at hck <;> first | (rename_i heq; simp at heq; done) | (rename_i heq; simp only [List.cons.injEq] at heq; obtain ⟨-, rfl, -, -⟩ := heq; exact mj_r_gets2 X hdec (mj_wd_in hck) (hK _ _ _ hx)) | (cases hck; done)
    · split at hck <;> first | (rename_i heq; simp at heq; done) | (rename_i heq; simp only [List.cons.injEq] at heq; obtain ⟨-, rfl, -, -⟩ := heq; exact mj_r_gets3 X hdec (mj_wd_in hck) (hK _ _ _ hx)) | (cases hck; done)
    · cases hx
  | iaload =>
    simp only [mj_ckx, Bool.and_eq_true, decide_eq_true_eq] at hck
    dsimp only [mj_ex] at hx
    subst hck
    unfold mj_iald at hx
    simp only [mj_g_if] at hx
    split at hx
    · split at hx
      · rename_i hkd
        split at hx
        · rename_i hi; exact mj_r_iald X hdec hkd hi (hK _ _ _ hx)
        · cases hx
      · cases hx
    · split at hx
      · rename_i hkd
        split at hx
        · rename_i hi; exact mj_r_ialc X hdec (by omega) hi (hK _ _ _ hx)
        · cases hx
      · cases hx
    · cases hx
  | baload =>
    simp only [mj_ckx, Bool.and_eq_true, decide_eq_true_eq] at hck
    dsimp only [mj_ex] at hx
    subst hck
    unfold mj_iald at hx
    simp only [mj_g_if] at hx
    split at hx
    · split at hx
      · rename_i hkd
        split at hx
        · rename_i hi; exact mj_r_bald X hdec hkd hi (hK _ _ _ hx)
        · cases hx
      · cases hx
    · split at hx
      · rename_i hkd
        split at hx
        · rename_i hi; exact mj_r_balc X hdec (by omega) (by omega) hi (hK _ _ _ hx)
        · cases hx
      · cases hx
    · cases hx
  | laload =>
    simp only [mj_ckx, Bool.and_eq_true, decide_eq_true_eq] at hck
    dsimp only [mj_ex] at hx
    subst hck
    unfold mj_lald at hx
    simp only [mj_g_if] at hx
    split at hx
    · split at hx
      · rename_i hkd
        split at hx
        · rename_i hi; exact mj_r_lald X hdec hkd hi (hK _ _ _ hx)
        · cases hx
      · cases hx
    · cases hx
  | aaload =>
    simp only [mj_ckx, Bool.and_eq_true, decide_eq_true_eq] at hck
    dsimp only [mj_ex] at hx
    subst hck
    unfold mj_aald at hx
    simp only [mj_g_if] at hx
    split at hx
    · split at hx
      · rename_i hkd
        split at hx
        · rename_i hi
          split at hx
          · rename_i hv; exact mj_r_aald X hdec hkd hi hv (Or.inr ⟨_, rfl⟩) (hK _ _ _ hx)
          · rename_i hv; exact mj_r_aald X hdec hkd hi hv (Or.inl rfl) (hK _ _ _ hx)
          · cases hx
        · cases hx
      · cases hx
    · cases hx
  | iastore =>
    simp only [mj_ckx, Bool.and_eq_true, decide_eq_true_eq] at hck
    dsimp only [mj_ex] at hx
    subst hck
    unfold mj_iast at hx
    simp only [mj_g_if] at hx
    split at hx
    · split at hx
      · rename_i hkd
        split at hx
        · rename_i hi; exact mj_r_iast X hdec hkd hi (hK _ _ _ hx)
        · cases hx
      · cases hx
    · cases hx
  | bastore =>
    simp only [mj_ckx, Bool.and_eq_true, decide_eq_true_eq] at hck
    dsimp only [mj_ex] at hx
    subst hck
    unfold mj_bast at hx
    simp only [mj_g_if] at hx
    split at hx
    · split at hx
      · rename_i hkd
        split at hx
        · rename_i hi; exact mj_r_bast X hdec hkd hi (hK _ _ _ hx)
        · cases hx
      · cases hx
    · cases hx
  | lastore =>
    simp only [mj_ckx, Bool.and_eq_true, decide_eq_true_eq] at hck
    dsimp only [mj_ex] at hx
    subst hck
    unfold mj_last at hx
    simp only [mj_g_if] at hx
    split at hx
    · split at hx
      · rename_i hkd
        split at hx
        · rename_i hi; exact mj_r_last X hdec hkd hi (hK _ _ _ hx)
        · cases hx
      · cases hx
    · cases hx
  | aastore =>
    simp only [mj_ckx, Bool.and_eq_true, decide_eq_true_eq] at hck
    dsimp only [mj_ex] at hx
    subst hck
    unfold mj_aast at hx
    simp only [mj_g_if] at hx
    split at hx
    · split at hx
      · rename_i hkd
        split at hx
        · rename_i hi; exact mj_r_aast X hdec hkd.1 hkd.2 hi (hK _ _ _ hx)
        · cases hx
      · cases hx
    · cases hx
  | arraylength =>
    simp only [mj_ckx, Bool.and_eq_true, decide_eq_true_eq] at hck
    dsimp only [mj_ex] at hx
    subst hck
    unfold mj_alen at hx
    simp only [mj_g_if] at hx
    split at hx
    · split at hx
      · rename_i hkd; exact mj_r_alen X hdec hkd (hK _ _ _ hx)
      · cases hx
    · split at hx
      · rename_i hj; exact mj_r_alenc X hdec hj.1 (hK _ _ _ hx)
      · cases hx
    · cases hx
  | new k =>
    simp only [mj_ckx, Bool.and_eq_true, decide_eq_true_eq] at hck
    dsimp only [mj_ex] at hx
    obtain ⟨rfl, hck⟩ := hck
    split at hx
    · rename_i ci n p1 p2 p3
      dsimp only at hck
      split at hck
      · rename_i q hq
        simp only [Bool.and_eq_true, decide_eq_true_eq] at hck
        obtain ⟨rfl, w1, w2, w3⟩ := hck
        have hf := mj_sfit (R := R) (hpf.tr (mj_pf.new ci q.2.2)) (hKp _ _ _ hx) hfit
        have e1 : mj_mc h0 (mj_new ci q.2.2 h) = mj_mc h0 h + 1 := by have := hpf.len; unfold mj_mc; rw [mj_lt_new]; omega
        have e2 : mj_ms h0 (mj_new ci q.2.2 h) = mj_ms h0 h + q.2.2 := by have := hpf.sl; unfold mj_ms; rw [mj_sl_new]; omega
        rw [e1, e2] at hf
        exact mj_r_new hcl X hpf.len hpf.sl hdec hq (mj_wd_in w1) (mj_wd_in w2) (mj_wd_in w3) hf.1 hf.2 (hK _ _ _ hx)
      · cases hck
    · cases hx
  | newarray t =>
    simp only [mj_ckx, Bool.and_eq_true, decide_eq_true_eq] at hck
    dsimp only [mj_ex] at hx
    obtain ⟨rfl, hck⟩ := hck
    split at hx
    · rename_i kd
      unfold mj_newa at hx
      split at hx
      · rename_i n rr
        split at hx
        · rename_i hn
          have hf := mj_sfit (R := R) (hpf.tr (mj_pf.new _ _)) (hKp _ _ _ hx) hfit
          have e1 : mj_mc h0 (mj_new kd n.toNatClampNeg h) = mj_mc h0 h + 1 := by have := hpf.len; unfold mj_mc; rw [mj_lt_new]; omega
          have e2 : mj_ms h0 (mj_new kd n.toNatClampNeg h) = mj_ms h0 h + n.toNatClampNeg := by have := hpf.sl; unfold mj_ms; rw [mj_sl_new]; omega
          rw [e1, e2] at hf
          simp only [] at hck
          split at hck
          · exact mj_r_newa X hpf.len hpf.sl hdec (Or.inl ⟨rfl, rfl⟩) hgw.2.2.2.2.2.2.1 hn.1 hn.2 hf.1 hf.2 (hK _ _ _ hx)
          · exact mj_r_newa X hpf.len hpf.sl hdec (Or.inr (Or.inl ⟨rfl, rfl⟩)) hgw.2.2.2.2.2.2.2.1 hn.1 hn.2 hf.1 hf.2 (hK _ _ _ hx)
          · exact mj_r_newa X hpf.len hpf.sl hdec (Or.inr (Or.inr ⟨rfl, rfl⟩)) hgw.2.2.2.2.2.2.2.2 hn.1 hn.2 hf.1 hf.2 (hK _ _ _ hx)
          · cases hck
        · cases hx
      · cases hx
    · cases hx
  | anewarray k =>
    simp only [mj_ckx, Bool.and_eq_true, decide_eq_true_eq] at hck
    dsimp only [mj_ex] at hx
    obtain ⟨rfl, hck⟩ := hck
    unfold mj_newa at hx
    split at hx
    · rename_i n rr
      split at hx
      · rename_i hn
        have hf := mj_sfit (R := R) (hpf.tr (mj_pf.new _ _)) (hKp _ _ _ hx) hfit
        have e1 : mj_mc h0 (mj_new 103 n.toNatClampNeg h) = mj_mc h0 h + 1 := by have := hpf.len; unfold mj_mc; rw [mj_lt_new]; omega
        have e2 : mj_ms h0 (mj_new 103 n.toNatClampNeg h) = mj_ms h0 h + n.toNatClampNeg := by have := hpf.sl; unfold mj_ms; rw [mj_sl_new]; omega
        rw [e1, e2] at hf
        split at hck
        · exact mj_r_anew X hpf.len hpf.sl hdec (mj_wd_in hck) hn.1 hn.2 hf.1 hf.2 (hK _ _ _ hx)
        · cases hck
      · cases hx
    · cases hx
  | if_icmp cond o =>
    cases cond with
    | eq =>
      simp only [mj_ckx, Bool.and_eq_true, decide_eq_true_eq] at hck
      dsimp only [mj_ex] at hx
      obtain ⟨rfl, ht⟩ := hck
      unfold mj_c2 at hx
      split at hx
      · exact mj_r_icmp_eq X hdec ht (fun z => hJ _ _ _ _ (by rw [if_pos z] at hx; exact hx)) (fun z => hK _ _ _ (by rw [if_neg z] at hx; exact hx))
      · cases hx
    | ne =>
      simp only [mj_ckx, Bool.and_eq_true, decide_eq_true_eq] at hck
      dsimp only [mj_ex] at hx
      obtain ⟨rfl, ht⟩ := hck
      unfold mj_c2 at hx
      split at hx
      · exact mj_r_icmp_ne X hdec ht (fun z => hJ _ _ _ _ (by rw [if_pos z] at hx; exact hx)) (fun z => hK _ _ _ (by rw [if_neg z] at hx; exact hx))
      · cases hx
    | lt =>
      simp only [mj_ckx, Bool.and_eq_true, decide_eq_true_eq] at hck
      dsimp only [mj_ex] at hx
      obtain ⟨rfl, ht⟩ := hck
      unfold mj_c2 at hx
      split at hx
      · exact mj_r_icmp_lt X hdec ht (fun z => hJ _ _ _ _ (by rw [if_pos z] at hx; exact hx)) (fun z => hK _ _ _ (by rw [if_neg z] at hx; exact hx))
      · cases hx
    | ge =>
      simp only [mj_ckx, Bool.and_eq_true, decide_eq_true_eq] at hck
      dsimp only [mj_ex] at hx
      obtain ⟨rfl, ht⟩ := hck
      unfold mj_c2 at hx
      split at hx
      · exact mj_r_icmp_ge X hdec ht (fun z => hJ _ _ _ _ (by rw [if_pos z] at hx; exact hx)) (fun z => hK _ _ _ (by rw [if_neg z] at hx; exact hx))
      · cases hx
    | gt =>
      simp only [mj_ckx, Bool.and_eq_true, decide_eq_true_eq] at hck
      dsimp only [mj_ex] at hx
      obtain ⟨rfl, ht⟩ := hck
      unfold mj_c2 at hx
      split at hx
      · exact mj_r_icmp_gt X hdec ht (fun z => hJ _ _ _ _ (by rw [if_pos z] at hx; exact hx)) (fun z => hK _ _ _ (by rw [if_neg z] at hx; exact hx))
      · cases hx
    | le =>
      simp only [mj_ckx, Bool.and_eq_true, decide_eq_true_eq] at hck
      dsimp only [mj_ex] at hx
      obtain ⟨rfl, ht⟩ := hck
      unfold mj_c2 at hx
      split at hx
      · exact mj_r_icmp_le X hdec ht (fun z => hJ _ _ _ _ (by rw [if_pos z] at hx; exact hx)) (fun z => hK _ _ _ (by rw [if_neg z] at hx; exact hx))
      · cases hx
  | ifCond cond o =>
    cases cond with
    | eq =>
      simp only [mj_ckx, Bool.and_eq_true, decide_eq_true_eq] at hck
      dsimp only [mj_ex] at hx
      obtain ⟨rfl, ht⟩ := hck
      unfold mj_c1 at hx
      split at hx
      · exact mj_r_if_eq X hdec ht (fun z => hJ _ _ _ _ (by rw [if_pos z] at hx; exact hx)) (fun z => hK _ _ _ (by rw [if_neg z] at hx; exact hx))
      · cases hx
    | ne =>
      simp only [mj_ckx, Bool.and_eq_true, decide_eq_true_eq] at hck
      dsimp only [mj_ex] at hx
      obtain ⟨rfl, ht⟩ := hck
      unfold mj_c1 at hx
      split at hx
      · exact mj_r_if_ne X hdec ht (fun z => hJ _ _ _ _ (by rw [if_pos z] at hx; exact hx)) (fun z => hK _ _ _ (by rw [if_neg z] at hx; exact hx))
      · cases hx
    | lt =>
      simp only [mj_ckx, Bool.and_eq_true, decide_eq_true_eq] at hck
      dsimp only [mj_ex] at hx
      obtain ⟨rfl, ht⟩ := hck
      unfold mj_c1 at hx
      split at hx
      · exact mj_r_if_lt X hdec ht (fun z => hJ _ _ _ _ (by rw [if_pos z] at hx; exact hx)) (fun z => hK _ _ _ (by rw [if_neg z] at hx; exact hx))
      · cases hx
    | ge =>
      simp only [mj_ckx, Bool.and_eq_true, decide_eq_true_eq] at hck
      dsimp only [mj_ex] at hx
      obtain ⟨rfl, ht⟩ := hck
      unfold mj_c1 at hx
      split at hx
      · exact mj_r_if_ge X hdec ht (fun z => hJ _ _ _ _ (by rw [if_pos z] at hx; exact hx)) (fun z => hK _ _ _ (by rw [if_neg z] at hx; exact hx))
      · cases hx
    | gt =>
      simp only [mj_ckx, Bool.and_eq_true, decide_eq_true_eq] at hck
      dsimp only [mj_ex] at hx
      obtain ⟨rfl, ht⟩ := hck
      unfold mj_c1 at hx
      split at hx
      · exact mj_r_if_gt X hdec ht (fun z => hJ _ _ _ _ (by rw [if_pos z] at hx; exact hx)) (fun z => hK _ _ _ (by rw [if_neg z] at hx; exact hx))
      · cases hx
    | le =>
      simp only [mj_ckx, Bool.and_eq_true, decide_eq_true_eq] at hck
      dsimp only [mj_ex] at hx
      obtain ⟨rfl, ht⟩ := hck
      unfold mj_c1 at hx
      split at hx
      · exact mj_r_if_le X hdec ht (fun z => hJ _ _ _ _ (by rw [if_pos z] at hx; exact hx)) (fun z => hK _ _ _ (by rw [if_neg z] at hx; exact hx))
      · cases hx
  | ifnonnull o =>
    simp only [mj_ckx, Bool.and_eq_true, decide_eq_true_eq] at hck
    dsimp only [mj_ex] at hx
    obtain ⟨rfl, ht⟩ := hck
    split at hx
    · exact mj_r_nnr X hdec ht (hJ _ _ _ _ hx)
    · exact mj_r_nnn X hdec (hK _ _ _ hx)
    · cases hx
  | goto o =>
    simp only [mj_ckx, Bool.and_eq_true, decide_eq_true_eq] at hck
    dsimp only [mj_ex] at hx
    obtain ⟨rfl, ht⟩ := hck
    exact mj_r_goto X hdec ht (hJ _ _ _ _ hx)
  | tableswitch df lo hi offs =>
    simp only [mj_ckx, Bool.and_eq_true, decide_eq_true_eq] at hck
    dsimp only [mj_ex] at hx
    split at hx
    · simp only [Bool.and_eq_true, decide_eq_true_eq] at hck
      exact mj_r_sw X hdec hck.1 hck.2.1 hck.2.2.1 hck.2.2.2.1 hck.2.2.2.2.2.1 hck.2.2.2.2.2.2 (hJ _ _ _ _ hx)
    · cases hx
  | invokevirtual k =>
    simp only [mj_ckx, Bool.and_eq_true, decide_eq_true_eq] at hck
    dsimp only [mj_ex] at hx
    obtain ⟨rfl, hck⟩ := hck
    exact mj_scall (J := J) (nm := nm) (rt := rt) hcl hgw (cst := cst) X hpf hfit hCC hnm hKp hRT hK hJ (Or.inl ⟨rfl, rfl⟩) hdec rfl hck hx
  | invokestatic k =>
    simp only [mj_ckx, Bool.and_eq_true, decide_eq_true_eq] at hck
    dsimp only [mj_ex] at hx
    obtain ⟨rfl, hck⟩ := hck
    exact mj_scall (J := J) (nm := nm) (rt := rt) hcl hgw (cst := cst) X hpf hfit hCC hnm hKp hRT hK hJ (Or.inr (Or.inl ⟨rfl, rfl⟩)) hdec rfl hck hx
  | invokespecial k =>
    simp only [mj_ckx, Bool.and_eq_true, decide_eq_true_eq] at hck
    dsimp only [mj_ex] at hx
    obtain ⟨rfl, hck⟩ := hck
    exact mj_scall (J := J) (nm := nm) (rt := rt) hcl hgw (cst := cst) X hpf hfit hCC hnm hKp hRT hK hJ (Or.inr (Or.inr ⟨rfl, rfl⟩)) hdec rfl hck hx
  | ireturn =>
    simp only [mj_ckx, Bool.and_eq_true, decide_eq_true_eq] at hck
    dsimp only [mj_ex] at hx
    obtain ⟨rfl, hck⟩ := hck
    intro H LS locs hp hP hl hlen hS
    unfold mj_ret at hx
    split at hx
    · rename_i x
      split at hck
      · cases hx; exact (hRT pc H LS locs hP hS).1 x _ rfl hdec (of_decide_eq_true hck) rfl
      · simp only [List.headD] at hx
        split at hx
        · rename_i hb; cases hx; exact (hRT pc H LS locs hP hS).1 x _ rfl hdec (of_decide_eq_true hck) (mj_nbool hb).1
        · cases hx
      · simp only [List.headD] at hx
        split at hx
        · rename_i hb; cases hx; exact (hRT pc H LS locs hP hS).1 x _ rfl hdec (of_decide_eq_true hck) hb
        · cases hx
      · simp only [List.headD] at hx
        split at hx
        · rename_i hb; cases hx; exact (hRT pc H LS locs hP hS).1 x _ rfl hdec (of_decide_eq_true hck) hb
        · cases hx
      · cases hck
    · cases hx
  | lreturn =>
    simp only [mj_ckx, Bool.and_eq_true, decide_eq_true_eq] at hck
    dsimp only [mj_ex] at hx
    obtain ⟨rfl, hck⟩ := hck
    intro H LS locs hp hP hl hlen hS
    split at hx
    · cases hx; exact (hRT pc H LS locs hP hS).2.1 _ rfl hdec hck
    · cases hx
  | areturn =>
    simp only [mj_ckx, Bool.and_eq_true, decide_eq_true_eq] at hck
    dsimp only [mj_ex] at hx
    obtain ⟨rfl, hck⟩ := hck
    intro H LS locs hp hP hl hlen hS
    split at hx
    · cases hx
      split at hck
      · exact (hRT pc H LS locs hP hS).2.2.1 _ _ rfl hdec rfl (Or.inl ⟨_, rfl⟩)
      · exact (hRT pc H LS locs hP hS).2.2.1 _ _ rfl hdec rfl (Or.inr ⟨_, rfl⟩)
      · cases hck
    · cases hx
  | return_ =>
    simp only [mj_ckx, Bool.and_eq_true, decide_eq_true_eq] at hck
    dsimp only [mj_ex] at hx
    obtain ⟨rfl, hck⟩ := hck
    intro H LS locs hp hP hl hlen hS
    split at hx
    · cases hx; exact (hRT pc H LS locs hP hS).2.2.2 rfl hdec hck
    · cases hx
  | _ => exact absurd hx (by simp [mj_ex])
end MJY
