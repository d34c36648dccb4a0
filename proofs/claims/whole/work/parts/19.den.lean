/-! the small machine without fuel -/
/-- what one instruction comes to: an end, the next one, a jump, a call -/
abbrev mj_O : Type := mj_R ⊕ (List Value × List Value × mj_H) ⊕ (Nat × List Value × List Value × mj_H) ⊕ (Nat × Nat × List Value × mj_H × List Value × List Value)
def mj_io (o : mj_O) (C : Nat → List Value → mj_H → mj_R) (K : mj_K) (J : Nat → mj_K) : mj_R := match o with
  | .inl r => r
  | .inr (.inl (ls, st, h)) => K ls st h
  | .inr (.inr (.inl (pc, ls, st, h))) => J pc ls st h
  | .inr (.inr (.inr (rt, mn, as, h, ls, rest))) => mj_back rt (C mn as h) ls rest K
theorem mj_ocall (ax : List Nat) (ls st : List Value) (h : mj_H) : ∃ o : mj_O, ∀ (C : Nat → List Value → mj_H → mj_R) (K : mj_K) (J : Nat → mj_K), mj_call C ax ls st h K = mj_io o C K J := by
  unfold mj_call
  simp only [mj_g_if]
  split
  · split
    · split
      · exact ⟨.inr (.inl (_, _, _)), fun _ _ _ => rfl⟩
      · exact ⟨.inl none, fun _ _ _ => rfl⟩
    · exact ⟨.inl none, fun _ _ _ => rfl⟩
  · unfold mj_copy
    simp only [mj_g_if]
    split
    · split
      · split
        · exact ⟨.inr (.inl (_, _, _)), fun _ _ _ => rfl⟩
        · exact ⟨.inl none, fun _ _ _ => rfl⟩
      · exact ⟨.inl none, fun _ _ _ => rfl⟩
    · exact ⟨.inl none, fun _ _ _ => rfl⟩
  · split
    · exact ⟨.inr (.inr (.inr (_, _, _, _, _, _))), fun _ _ _ => rfl⟩
    · exact ⟨.inl none, fun _ _ _ => rfl⟩
  · split
    · exact ⟨.inr (.inr (.inr (_, _, _, _, _, _))), fun _ _ _ => rfl⟩
    · exact ⟨.inl none, fun _ _ _ => rfl⟩
  · split
    · split
      · exact ⟨.inr (.inr (.inr (_, _, _, _, _, _))), fun _ _ _ => rfl⟩
      · exact ⟨.inl none, fun _ _ _ => rfl⟩
    · exact ⟨.inl none, fun _ _ _ => rfl⟩
  · split
    · split
      · exact ⟨.inr (.inr (.inr (0, _, _, _, _, _))), fun _ _ _ => rfl⟩
      · exact ⟨.inl none, fun _ _ _ => rfl⟩
    · exact ⟨.inl none, fun _ _ _ => rfl⟩
  · split
    · split
      · exact ⟨.inr (.inr (.inr (0, _, _, _, _, _))), fun _ _ _ => rfl⟩
      · exact ⟨.inl none, fun _ _ _ => rfl⟩
    · exact ⟨.inl none, fun _ _ _ => rfl⟩
  · split
    · split
      · exact ⟨.inr (.inr (.inr (_, _, _, _, _, _))), fun _ _ _ => rfl⟩
      · exact ⟨.inl none, fun _ _ _ => rfl⟩
    · exact ⟨.inl none, fun _ _ _ => rfl⟩
  · exact ⟨.inl none, fun _ _ _ => rfl⟩
theorem mj_oex (E : mj_E) (i : Instr) (cst : Int32) (ax : List Nat) (ls st : List Value) (h : mj_H) : ∃ o : mj_O, ∀ (C : Nat → List Value → mj_H → mj_R) (K : mj_K) (J : Nat → mj_K), mj_ex E C i cst ax ls st h K J = mj_io o C K J := by
  unfold mj_ex
  split
  all_goals first
    | exact mj_ocall ax ls st h
    | exact ⟨.inr (.inl (_, _, _)), fun _ _ _ => rfl⟩
    | exact ⟨.inr (.inr (.inl (_, _, _, _))), fun _ _ _ => rfl⟩
    | exact ⟨.inl none, fun _ _ _ => rfl⟩
    | (first
        | unfold mj_ild | unfold mj_lld | unfold mj_ald | unfold mj_ist | unfold mj_lst | unfold mj_ast | unfold mj_i2 | unfold mj_l2 | unfold mj_ls | unfold mj_i1 | unfold mj_getf | unfold mj_putf | unfold mj_iald | unfold mj_lald | unfold mj_aald | unfold mj_iast | unfold mj_bast | unfold mj_last | unfold mj_aast | unfold mj_alen | unfold mj_newa | unfold mj_c1 | unfold mj_c2 | unfold mj_ret | skip
       (try simp only [mj_g_if])
       repeat' split
       all_goals first
        | exact ⟨.inr (.inl (_, _, _)), fun _ _ _ => rfl⟩
        | exact ⟨.inr (.inr (.inl (_, _, _, _))), fun _ _ _ => rfl⟩
        | exact ⟨.inl _, fun _ _ _ => rfl⟩
        | (unfold mj_rf; repeat' split; all_goals first | exact ⟨.inr (.inl (_, _, _)), fun _ _ _ => rfl⟩ | exact ⟨.inl _, fun _ _ _ => rfl⟩)
        | (unfold mj_newa; repeat' split; all_goals first | exact ⟨.inr (.inl (_, _, _)), fun _ _ _ => rfl⟩ | exact ⟨.inl _, fun _ _ _ => rfl⟩))
def mj_le (a b : mj_R) : Prop := ∀ r, a = some r → b = some r
theorem mj_back_mono {rt : Nat} {q q' : mj_R} {ls rest : List Value} {K K' : mj_K} (hq : mj_le q q') (hK : ∀ ls st h, mj_le (K ls st h) (K' ls st h)) : mj_le (mj_back rt q ls rest K) (mj_back rt q' ls rest K') := by
  intro r hr
  obtain ⟨v, h', rfl, hb⟩ := mj_sback hr
  rw [hq _ rfl]
  unfold mj_back at hb ⊢
  split at hb
  · cases v with
    | none => exact hK _ _ _ _ hb
    | some v => cases hb
  · cases v with
    | none => cases hb
    | some v => cases v <;> first | exact hK _ _ _ _ hb | cases hb
  · cases v with
    | none => cases hb
    | some v => cases v <;> first | exact hK _ _ _ _ hb | cases hb
  · cases v with
    | none => cases hb
    | some v => cases v <;> first | exact hK _ _ _ _ hb | cases hb
  · cases hb
theorem mj_io_mono {o : mj_O} {C C' : Nat → List Value → mj_H → mj_R} {K K' : mj_K} {J J' : Nat → mj_K} (hC : ∀ m as h, mj_le (C m as h) (C' m as h)) (hK : ∀ ls st h, mj_le (K ls st h) (K' ls st h)) (hJ : ∀ pc ls st h, mj_le (J pc ls st h) (J' pc ls st h)) : mj_le (mj_io o C K J) (mj_io o C' K' J') := by
  rcases o with r | ⟨ls, st, h⟩ | ⟨pc, ls, st, h⟩ | ⟨rt, mn, as, h, ls, rest⟩
  · intro x hx; exact hx
  · exact hK _ _ _
  · exact hJ _ _ _ _
  · exact mj_back_mono (hC _ _ _) hK
theorem mj_bl_mono {E : mj_E} {C C' : Nat → List Value → mj_H → mj_R} {J J' : Nat → mj_K} (hC : ∀ m as h, mj_le (C m as h) (C' m as h)) (hJ : ∀ pc ls st h, mj_le (J pc ls st h) (J' pc ls st h)) (is : List mj_I) : ∀ (pc : Nat) (ls st : List Value) (h : mj_H), mj_le (mj_bl E C J is pc ls st h) (mj_bl E C' J' is pc ls st h) := by
  induction is with
  | nil => intro pc ls st h; exact hJ _ _ _ _
  | cons i is ih =>
    intro pc ls st h
    obtain ⟨o, ho⟩ := mj_oex E i.1 i.2.2.1 i.2.2.2 ls st h
    show mj_le (mj_ex E C i.1 i.2.2.1 i.2.2.2 ls st h (mj_bl E C J is (pc + i.2.1)) J) (mj_ex E C' i.1 i.2.2.1 i.2.2.2 ls st h (mj_bl E C' J' is (pc + i.2.1)) J')
    rw [ho, ho]
    exact mj_io_mono hC (fun ls st h => ih _ ls st h) hJ
/-- the callee of a run -/
def mj_cl (P : Nat → mj_Me) (E : mj_E) (n d : Nat) : Nat → List Value → mj_H → mj_R := fun m' as h => match d with
  | 0 => none
  | d + 1 => if (mj_loc as).length ≤ (P m').2.2.1 then mj_run P E n d m' 0 (mj_pad (mj_loc as) (P m').2.2.1) [] h else none
theorem mj_run_eq (P : Nat → mj_Me) (E : mj_E) (n d m pc : Nat) (ls st : List Value) (h : mj_H) : mj_run P E (n + 1) d m pc ls st h = mj_bl E (mj_cl P E n d) (fun pc' => mj_run P E n d m pc') (mj_find (P m).2.2.2.2 pc) pc ls st h := rfl
theorem mj_run_mono {P : Nat → mj_Me} {E : mj_E} (n : Nat) : ∀ (d m pc : Nat) (ls st : List Value) (h : mj_H), mj_le (mj_run P E n d m pc ls st h) (mj_run P E (n + 1) d m pc ls st h) := by
  induction n with
  | zero => intro d m pc ls st h r hx; cases hx
  | succ n ih =>
    intro d m pc ls st h
    rw [mj_run_eq, mj_run_eq]
    refine mj_bl_mono (fun m' as h => ?_) (fun pc ls st h => ih _ _ _ _ _ _) _ _ _ _ _
    unfold mj_cl
    cases d with
    | zero => intro r hr; exact hr
    | succ d =>
      simp only []
      split
      · exact ih _ _ _ _ _ _
      · intro r hr; exact hr
theorem mj_run_le {P : Nat → mj_Me} {E : mj_E} {n k : Nat} (hnk : n ≤ k) (d m pc : Nat) (ls st : List Value) (h : mj_H) : mj_le (mj_run P E n d m pc ls st h) (mj_run P E k d m pc ls st h) := by
  induction hnk with
  | refl => intro r hr; exact hr
  | step _ ih => intro r hr; exact mj_run_mono _ _ _ _ _ _ _ r (ih r hr)
/-- the run's end, if it has one -/
noncomputable def mj_den (P : Nat → mj_Me) (E : mj_E) (d m pc : Nat) (ls st : List Value) (h : mj_H) : mj_R :=
  @dite _ (∃ r, ∃ n, mj_run P E n d m pc ls st h = some r) (Classical.propDecidable _) (fun q => some (Classical.choose q)) (fun _ => none)
theorem mj_den_iff {P : Nat → mj_Me} {E : mj_E} {d m pc : Nat} {ls st : List Value} {h : mj_H} {r : Option Value × mj_H} : mj_den P E d m pc ls st h = some r ↔ ∃ n, mj_run P E n d m pc ls st h = some r := by
  unfold mj_den
  constructor
  · intro q
    split at q
    · rename_i hx
      cases q
      exact Classical.choose_spec hx
    · cases q
  · rintro ⟨n, hn⟩
    have hx : ∃ r, ∃ n, mj_run P E n d m pc ls st h = some r := ⟨r, n, hn⟩
    rw [dif_pos hx]
    obtain ⟨k, hk⟩ := Classical.choose_spec hx
    have h1 := mj_run_le (Nat.le_max_left n k) d m pc ls st h _ hn
    have h2 := mj_run_le (Nat.le_max_right n k) d m pc ls st h _ hk
    rw [h1] at h2
    exact h2.symm
/-- a call -/
noncomputable def mj_dc (P : Nat → mj_Me) (E : mj_E) (d : Nat) : Nat → List Value → mj_H → mj_R := fun m' as h => match d with
  | 0 => none
  | d + 1 => if (mj_loc as).length ≤ (P m').2.2.1 then mj_den P E d m' 0 (mj_pad (mj_loc as) (P m').2.2.1) [] h else none
theorem mj_dc_iff {P : Nat → mj_Me} {E : mj_E} {d m : Nat} {as : List Value} {h : mj_H} {r : Option Value × mj_H} : mj_dc P E d m as h = some r ↔ ∃ n, mj_cl P E n d m as h = some r := by
  unfold mj_dc mj_cl
  cases d with
  | zero => simp
  | succ d =>
    simp only []
    split
    · exact mj_den_iff
    · simp
theorem mj_cl_le {P : Nat → mj_Me} {E : mj_E} {n k : Nat} (hnk : n ≤ k) (d m : Nat) (as : List Value) (h : mj_H) : mj_le (mj_cl P E n d m as h) (mj_cl P E k d m as h) := by
  unfold mj_cl
  cases d with
  | zero => intro r hr; exact hr
  | succ d =>
    simp only []
    split
    · exact mj_run_le hnk _ _ _ _ _ _
    · intro r hr; exact hr
theorem mj_back_lim {P : Nat → mj_Me} {E : mj_E} {d m rt mn : Nat} {as ls rest : List Value} {h : mj_H} {K : Nat → mj_K} {Kd : mj_K} {r : Option Value × mj_H} (hK : ∀ ls st h r, Kd ls st h = some r → ∃ n, ∀ k, n ≤ k → K k ls st h = some r) (hx : mj_back rt (mj_dc P E d mn as h) ls rest Kd = some r) : ∃ n, ∀ k, n ≤ k → mj_back rt (mj_cl P E k d mn as h) ls rest (K k) = some r := by
  obtain ⟨v, h', hq, hb⟩ := mj_sback hx
  obtain ⟨n1, hn1⟩ := mj_dc_iff.mp hq
  have key : ∃ n, ∀ k, n ≤ k → mj_back rt (some (v, h')) ls rest (K k) = some r := by
    unfold mj_back at hb ⊢
    split at hb
    · cases v with
      | none => exact hK _ _ _ _ hb
      | some v => cases hb
    · cases v with
      | none => cases hb
      | some v => cases v <;> first | exact hK _ _ _ _ hb | cases hb
    · cases v with
      | none => cases hb
      | some v => cases v <;> first | exact hK _ _ _ _ hb | cases hb
    · cases v with
      | none => cases hb
      | some v => cases v <;> first | exact hK _ _ _ _ hb | cases hb
    · cases hb
  obtain ⟨n2, hn2⟩ := key
  refine ⟨max n1 n2, fun k hk => ?_⟩
  rw [mj_cl_le (Nat.le_trans (Nat.le_max_left n1 n2) hk) d mn as h _ hn1]
  exact hn2 k (Nat.le_trans (Nat.le_max_right n1 n2) hk)
theorem mj_bl_lim {P : Nat → mj_Me} {E : mj_E} {d m : Nat} (is : List mj_I) : ∀ (pc : Nat) (ls st : List Value) (h : mj_H) (r : Option Value × mj_H), mj_bl E (mj_dc P E d) (fun pc' => mj_den P E d m pc') is pc ls st h = some r → ∃ n, ∀ k, n ≤ k → mj_bl E (mj_cl P E k d) (fun pc' => mj_run P E k d m pc') is pc ls st h = some r := by
  have hJ : ∀ pc ls st h r, mj_den P E d m pc ls st h = some r → ∃ n, ∀ k, n ≤ k → mj_run P E k d m pc ls st h = some r := by
    intro pc ls st h r hx
    obtain ⟨n, hn⟩ := mj_den_iff.mp hx
    exact ⟨n, fun k hk => mj_run_le hk _ _ _ _ _ _ _ hn⟩
  induction is with
  | nil => intro pc ls st h r hx; exact hJ _ _ _ _ _ hx
  | cons i is ih =>
    intro pc ls st h r hx
    obtain ⟨o, ho⟩ := mj_oex E i.1 i.2.2.1 i.2.2.2 ls st h
    have e1 : ∀ C J, mj_bl E C J (i :: is) pc ls st h = mj_io o C (mj_bl E C J is (pc + i.2.1)) J := fun C J => ho C _ J
    rw [e1] at hx
    simp only [e1]
    rcases o with r' | ⟨ls', st', h'⟩ | ⟨pc', ls', st', h'⟩ | ⟨rt, mn, as, h', ls', rest⟩
    · exact ⟨0, fun k _ => hx⟩
    · exact ih _ _ _ _ _ hx
    · exact hJ _ _ _ _ _ hx
    · exact mj_back_lim (m := m) (K := fun k => mj_bl E (mj_cl P E k d) (fun pc' => mj_run P E k d m pc') is (pc + i.2.1)) (fun ls st h r => ih _ ls st h r) hx
/-- THE EQUATION OF A PLACE -/
theorem mj_den_eq (P : Nat → mj_Me) (E : mj_E) (d m pc : Nat) (ls st : List Value) (h : mj_H) : mj_den P E d m pc ls st h = mj_bl E (mj_dc P E d) (fun pc' => mj_den P E d m pc') (mj_find (P m).2.2.2.2 pc) pc ls st h := by
  have h1 : mj_le (mj_den P E d m pc ls st h) (mj_bl E (mj_dc P E d) (fun pc' => mj_den P E d m pc') (mj_find (P m).2.2.2.2 pc) pc ls st h) := by
    intro r hr
    obtain ⟨n, hn⟩ := mj_den_iff.mp hr
    cases n with
    | zero => cases hn
    | succ n =>
      rw [mj_run_eq] at hn
      refine mj_bl_mono (fun m' as h r hx => mj_dc_iff.mpr ⟨n, hx⟩) (fun pc ls st h r hx => mj_den_iff.mpr ⟨n, hx⟩) _ _ _ _ _ r hn
  have h2 : mj_le (mj_bl E (mj_dc P E d) (fun pc' => mj_den P E d m pc') (mj_find (P m).2.2.2.2 pc) pc ls st h) (mj_den P E d m pc ls st h) := by
    intro r hr
    obtain ⟨n, hn⟩ := mj_bl_lim _ _ _ _ _ _ hr
    exact mj_den_iff.mpr ⟨n + 1, by rw [mj_run_eq]; exact hn n (Nat.le_refl _)⟩
  cases hd : mj_den P E d m pc ls st h with
  | some r => exact (h1 r hd).symm
  | none =>
    cases hb : mj_bl E (mj_dc P E d) (fun pc' => mj_den P E d m pc') (mj_find (P m).2.2.2.2 pc) pc ls st h with
    | none => rfl
    | some r => rw [h2 r hb] at hd; cases hd
theorem mj_dc_eq (P : Nat → mj_Me) (E : mj_E) (d m : Nat) (as : List Value) (h : mj_H) (hl : (mj_loc as).length ≤ (P m).2.2.1) : mj_dc P E (d + 1) m as h = mj_den P E d m 0 (mj_pad (mj_loc as) (P m).2.2.1) [] h := by
  show (if (mj_loc as).length ≤ (P m).2.2.1 then _ else _) = _
  rw [if_pos hl]
