/-! a run that reads no constant row goes alike whatever they hold -/
def mj_E0 : mj_E := fun _ => (70000, fun _ => 0)
theorem mj_ex_E {E : mj_E} {C : Nat → List Value → mj_H → mj_R} {i : Instr} {cst : Int32} {ax : List Nat} {ls st : List Value} {h : mj_H} {K : mj_K} {J : Nat → mj_K} : mj_le (mj_ex mj_E0 C i cst ax ls st h K J) (mj_ex E C i cst ax ls st h K J) := by
  intro r hr
  cases i with
  | iaload =>
    dsimp only [mj_ex] at hr ⊢
    unfold mj_iald at hr ⊢
    split at hr
    · exact hr
    · split at hr
      · rename_i hc; exact absurd hc.2 (by simp [mj_E0])
      · cases hr
    · cases hr
  | baload =>
    dsimp only [mj_ex] at hr ⊢
    unfold mj_iald at hr ⊢
    split at hr
    · exact hr
    · split at hr
      · rename_i hc; exact absurd hc.2 (by simp [mj_E0])
      · cases hr
    · cases hr
  | arraylength =>
    dsimp only [mj_ex] at hr ⊢
    unfold mj_alen at hr ⊢
    split at hr
    · exact hr
    · split at hr
      · rename_i hc; exact absurd hc.2 (by simp [mj_E0])
      · cases hr
    · cases hr
  | if_icmp cond o => cases cond <;> exact hr
  | ifCond cond o => cases cond <;> exact hr
  | _ => exact hr
theorem mj_le_tr {a b c : mj_R} (h1 : mj_le a b) (h2 : mj_le b c) : mj_le a c := fun r hr => h2 r (h1 r hr)
theorem mj_ex_mono {E : mj_E} {i : Instr} {cst : Int32} {ax : List Nat} {ls st : List Value} {h : mj_H} {C C' : Nat → List Value → mj_H → mj_R} {K K' : mj_K} {J J' : Nat → mj_K} (hC : ∀ m as h, mj_le (C m as h) (C' m as h)) (hK : ∀ ls st h, mj_le (K ls st h) (K' ls st h)) (hJ : ∀ pc ls st h, mj_le (J pc ls st h) (J' pc ls st h)) : mj_le (mj_ex E C i cst ax ls st h K J) (mj_ex E C' i cst ax ls st h K' J') := by
  obtain ⟨o, ho⟩ := mj_oex E i cst ax ls st h
  rw [ho, ho]
  exact mj_io_mono hC hK hJ
theorem mj_bl_E {E : mj_E} {C C' : Nat → List Value → mj_H → mj_R} {J J' : Nat → mj_K} (hC : ∀ m as h, mj_le (C m as h) (C' m as h)) (hJ : ∀ pc ls st h, mj_le (J pc ls st h) (J' pc ls st h)) (is : List mj_I) : ∀ (pc : Nat) (ls st : List Value) (h : mj_H), mj_le (mj_bl mj_E0 C J is pc ls st h) (mj_bl E C' J' is pc ls st h) := by
  induction is with
  | nil => intro pc ls st h; exact hJ _ _ _ _
  | cons i is ih =>
    intro pc ls st h
    exact mj_le_tr (mj_ex_E (E := E) (C := C) (i := i.1) (cst := i.2.2.1) (ax := i.2.2.2) (ls := ls) (st := st) (h := h) (K := mj_bl mj_E0 C J is (pc + i.2.1)) (J := J)) (mj_ex_mono hC (fun ls st h => ih _ ls st h) hJ)
theorem mj_run_E {P : Nat → mj_Me} {E : mj_E} (n : Nat) : ∀ (d m pc : Nat) (ls st : List Value) (h : mj_H), mj_le (mj_run P mj_E0 n d m pc ls st h) (mj_run P E n d m pc ls st h) := by
  induction n with
  | zero => intro d m pc ls st h r hx; cases hx
  | succ n ih =>
    intro d m pc ls st h
    rw [mj_run_eq, mj_run_eq]
    refine mj_bl_E (fun m' as h => ?_) (fun pc ls st h => ih _ _ _ _ _ _) _ _ _ _ _
    unfold mj_cl
    cases d with
    | zero => intro r hr; exact hr
    | succ d =>
      simp only []
      split
      · exact ih _ _ _ _ _ _
      · intro r hr; exact hr
