/-! the law's beginning: both objects are made -/
section MJ26
variable {E : mj_E} {C : Nat → List Value → mj_H → mj_R} {J : Nat → mj_K} {is : List mj_I} {pc pc' len : Nat} {cst : Int32} {ax : List Nat} {ls ls' st st' rest : List Value} {h h' : mj_H} {R R1 : mj_R}
theorem zt_new {n ci N a b c' q : Nat} (hl : h.2.2.2.length = q) (hp : pc + len = pc') (k : mj_bl E C J is pc' ls (.ref q :: st) (mj_new ci N h) = R) : mj_bl E C J ((.new n, len, cst, [ci, N, a, b, c']) :: is) pc ls st h = R := by subst hp; subst hl; exact k
theorem zt_call2 {idx mn ci n a : Nat} {tl : List Nat} {as : List Value} (hd : st.drop n = .ref a :: rest) (hk : mj_kd h a = ci) (hc : mj_cat rest ≤ 8) (ht : (st.take n).reverse = as) (hp : pc + len = pc') : mj_bl E C J [(.invokespecial idx, len, cst, 2 :: mn :: ci :: n :: tl)] pc ls st h = mj_bv (C mn (.ref a :: as) h) (fun h1 => J pc' ls rest h1) := by
  subst hp; subst ht
  show (match st.drop n with | .ref a :: r => mj_g (mj_kd h a = ci ∧ mj_cat r ≤ 8) (mj_back 0 (C mn (.ref a :: (st.take n).reverse) h) ls r (mj_bl E C J [] (pc + len))) | _ => none) = _
  rw [hd]; simp only [mj_g_if]; rw [if_pos ⟨hk, hc⟩]; rfl
end MJ26
theorem mj_dcX (E : mj_E) : mj_dc mj_P E (999 + 1) 106 [.ref 0] (mj_new 11 10 mj_h00) = some (none, mj_hX) :=
  (mj_dc_eq mj_P E 999 106 [.ref 0] _ (Nat.le_of_ble_eq_true rfl)).trans (mj_hX_den E)
theorem mj_dcM (E : mj_E) : mj_dc mj_P E (999 + 1) 151 [.ref 205] (mj_new 12 67 mj_hX) = some (none, mj_hM) :=
  (mj_dc_eq mj_P E 999 151 [.ref 205] _ (Nat.le_of_ble_eq_true rfl)).trans (mj_hM_den E)
set_option maxRecDepth 100000 in
theorem mj_law0 (E : mj_E) : mj_den mj_P E (999 + 1) 311 0 [.retAddr 0, .float 0, .float 0, .float 0] [] mj_h00 = mj_den mj_P E (999 + 1) 311 18 [.retAddr 0, .ref 0, .ref 205, .int 0] [] mj_hM := by
  rw [mj_den_eq, show mj_find (mj_P 311).2.2.2.2 0 = [(.new 7, 3, 0, [11, 10, 165, 166, 143]), (.dup, 1, 0, []), (.invokespecial 9, 3, 0, [2, 106, 11, 0, 0, 167, 168, 143, 169])] from rfl]
  refine (zt_new (q := 0) rfl rfl (zt_dupr rfl (zt_call2 (n := 0) (a := 0) (ci := 11) (rest := [.ref 0]) (as := []) rfl rfl (Nat.le_of_ble_eq_true rfl) rfl rfl))).trans ?_
  rw [mj_dcX]
  show mj_den mj_P E (999 + 1) 311 7 [.retAddr 0, .float 0, .float 0, .float 0] [.ref 0] mj_hX = _
  rw [mj_den_eq, show mj_find (mj_P 311).2.2.2.2 7 = [(.astore_n 1, 1, 0, []), (.new 10, 3, 0, [12, 67, 1404, 1405, 156]), (.dup, 1, 0, []), (.invokespecial 12, 3, 0, [2, 151, 12, 0, 0, 1406, 1407, 156, 1408])] from rfl]
  have hk : mj_kd (mj_new 12 67 mj_hX) 205 = 12 := by
    show (mj_nth (mj_hX.2.2.2 ++ [(12, 67)]) 205).1 = 12
    rw [← mj_hX_len, mj_nth_end]
  refine (zt_astore_n (Nat.le_of_ble_eq_true rfl) rfl rfl (zt_new (q := 205) mj_hX_len rfl (zt_dupr rfl (zt_call2 (n := 0) (a := 205) (ci := 12) (rest := [.ref 205]) (as := []) rfl hk (Nat.le_of_ble_eq_true rfl) rfl rfl)))).trans ?_
  rw [mj_dcM]
  show mj_den mj_P E (999 + 1) 311 15 [.retAddr 0, .ref 0, .float 0, .float 0] [.ref 205] mj_hM = _
  rw [mj_den_eq, show mj_find (mj_P 311).2.2.2.2 15 = [(.astore_n 2, 1, 0, []), (.iconst 0, 1, 0, []), (.istore_n 3, 1, 0, [])] from rfl]
  exact zt_astore_n (Nat.le_of_ble_eq_true rfl) rfl rfl (zt_iconst rfl (zt_istore_n (Nat.le_of_ble_eq_true rfl) rfl rfl (zt_end rfl)))
/-- what is left behind the beginning -/
def mj_Left2 : Prop := ∀ (L : Nat) (xs : Nat → Int32), L ≤ 3072 → ∃ (h' : mj_H), mj_den mj_P (mj_Ee L xs) (999 + 1) 311 18 [.retAddr 0, .ref 0, .ref 205, .int 0] [] (mj_hw 3 0 mj_hM.1 mj_hM.2.1) = some (some (.int 1), h') ∧ h'.2.2.2.length ≤ room_1.cells ∧ mj_sl h' ≤ room_1.slots
theorem mj_left2 (h : mj_Left2) : mj_Left := by
  intro L xs hL
  obtain ⟨h', e, h1, h2⟩ := h L xs hL
  rw [← mj_hM_hw, ← mj_law0] at e
  obtain ⟨n, hn⟩ := mj_den_iff.mp e
  exact ⟨n, h', hn, h1, h2⟩
