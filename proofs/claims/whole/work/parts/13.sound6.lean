/-! the heap only grows -/
theorem mj_pf_of {h h1 h2 : mj_H} (e : h1.2.2.2 = h.2.2.2) (a : mj_pf h1 h2) : mj_pf h h2 := by
  obtain ⟨t, ht⟩ := a
  exact ⟨t, by rw [ht, e]⟩
theorem mj_pfback {rt : Nat} {q : mj_R} {ls rest : List Value} {K : mj_K} {h : mj_H} {r : Option Value × mj_H} (hK : ∀ ls' st' h', K ls' st' h' = some r → mj_pf h' r.2) (hq : ∀ v h', q = some (v, h') → mj_pf h h') (hx : mj_back rt q ls rest K = some r) : mj_pf h r.2 := by
  unfold mj_back at hx
  split at hx
  · unfold mj_bv at hx
    split at hx
    · exact (hq _ _ rfl).tr (hK _ _ _ hx)
    · cases hx
  · unfold mj_bi at hx
    split at hx
    · exact (hq _ _ rfl).tr (hK _ _ _ hx)
    · cases hx
  · unfold mj_bj at hx
    split at hx
    · exact (hq _ _ rfl).tr (hK _ _ _ hx)
    · cases hx
  · unfold mj_br at hx
    split at hx
    · exact (hq _ _ rfl).tr (hK _ _ _ hx)
    · cases hx
  · cases hx
theorem mj_pfcall {C : Nat → List Value → mj_H → mj_R} {ax : List Nat} {ls st : List Value} {h : mj_H} {K : mj_K} {r : Option Value × mj_H} (hK : ∀ ls' st' h', K ls' st' h' = some r → mj_pf h' r.2) (hC : ∀ m as h v h', C m as h = some (v, h') → mj_pf h h') (hx : mj_call C ax ls st h K = some r) : mj_pf h r.2 := by
  unfold mj_call at hx
  simp only [mj_g_if] at hx
  split at hx
  · split at hx
    · split at hx
      · exact hK _ _ _ hx
      · cases hx
    · cases hx
  · unfold mj_copy at hx
    simp only [mj_g_if] at hx
    split at hx
    · split at hx
      · split at hx
        · (have zz := hK _ _ _ hx; exact mj_pf_of rfl zz)
        · cases hx
      · cases hx
    · cases hx
  · split at hx
    · exact mj_pfback hK (hC _ _ _) hx
    · cases hx
  · split at hx
    · exact mj_pfback hK (hC _ _ _) hx
    · cases hx
  · split at hx
    · split at hx
      · exact mj_pfback hK (hC _ _ _) hx
      · cases hx
    · cases hx
  · split at hx
    · split at hx
      · exact mj_pfback hK (hC _ _ _) hx
      · cases hx
    · cases hx
  · split at hx
    · split at hx
      · exact mj_pfback hK (hC _ _ _) hx
      · cases hx
    · cases hx
  · split at hx
    · split at hx
      · exact mj_pfback hK (hC _ _ _) hx
      · cases hx
    · cases hx
  · cases hx
theorem mj_pfex {E : mj_E} {C : Nat → List Value → mj_H → mj_R} {i : Instr} {cst : Int32} {ax : List Nat} {ls st : List Value} {h : mj_H} {K : mj_K} {J : Nat → mj_K} {r : Option Value × mj_H} (hK : ∀ ls' st' h', K ls' st' h' = some r → mj_pf h' r.2) (hJ : ∀ pc ls' st' h', J pc ls' st' h' = some r → mj_pf h' r.2) (hC : ∀ m as h v h', C m as h = some (v, h') → mj_pf h h') (hx : mj_ex E C i cst ax ls st h K J = some r) : mj_pf h r.2 := by
  unfold mj_ex at hx
  split at hx
  all_goals first
    | exact hK _ _ _ hx
    | exact hJ _ _ _ _ hx
    | exact mj_pfcall hK hC hx
    | (cases hx; done)
    | (first
        | unfold mj_ild at hx | unfold mj_lld at hx | unfold mj_ald at hx | unfold mj_ist at hx | unfold mj_lst at hx | unfold mj_ast at hx | unfold mj_i2 at hx | unfold mj_l2 at hx | unfold mj_ls at hx | unfold mj_i1 at hx | unfold mj_getf at hx | unfold mj_putf at hx | unfold mj_iald at hx | unfold mj_lald at hx | unfold mj_aald at hx | unfold mj_iast at hx | unfold mj_bast at hx | unfold mj_last at hx | unfold mj_aast at hx | unfold mj_alen at hx | unfold mj_newa at hx | unfold mj_c1 at hx | unfold mj_c2 at hx | unfold mj_ret at hx | skip
       (try simp only [mj_g_if] at hx)
       repeat' split at hx
       all_goals first
        | exact hK _ _ _ hx
        | exact hJ _ _ _ _ hx
        | (cases hx; done)
        | (have zz := hK _ _ _ hx; exact mj_pf_of rfl zz)
        | exact (mj_pf.new _ _).tr (hK _ _ _ hx)
        | (cases hx; exact mj_pf.rf)
        | (unfold mj_rf at hx; repeat' split at hx; all_goals first | exact hK _ _ _ hx | (cases hx; done))
        | (unfold mj_newa at hx; repeat' split at hx; all_goals first | exact (mj_pf.new _ _).tr (hK _ _ _ hx) | (cases hx; done)))
theorem mj_pfbl {E : mj_E} {C : Nat → List Value → mj_H → mj_R} {J : Nat → mj_K} {r : Option Value × mj_H} (hJ : ∀ pc ls' st' h', J pc ls' st' h' = some r → mj_pf h' r.2) (hC : ∀ m as h v h', C m as h = some (v, h') → mj_pf h h') (is : List mj_I) : ∀ (pc : Nat) (ls st : List Value) (h : mj_H), mj_bl E C J is pc ls st h = some r → mj_pf h r.2 := by
  induction is with
  | nil => intro pc ls st h hx; exact hJ _ _ _ _ hx
  | cons i is ih => intro pc ls st h hx; exact mj_pfex (K := mj_bl E C J is (pc + i.2.1)) (fun ls' st' h' => ih (pc + i.2.1) ls' st' h') hJ hC (show mj_ex E C i.1 i.2.2.1 i.2.2.2 ls st h (mj_bl E C J is (pc + i.2.1)) J = some r from hx)
theorem mj_pfrun {P : Nat → mj_Me} {E : mj_E} (n : Nat) : ∀ (d m pc : Nat) (ls st : List Value) (h : mj_H) (r : Option Value × mj_H), mj_run P E n d m pc ls st h = some r → mj_pf h r.2 := by
  induction n with
  | zero => intro d m pc ls st h r hx; cases hx
  | succ n ih =>
    intro d m pc ls st h r hx
    unfold mj_run at hx
    refine mj_pfbl (fun pc' ls' st' h' => ih _ _ _ _ _ _ _) (fun m' as h v h' hq => ?_) _ _ _ _ _ hx
    cases d with
    | zero => cases hq
    | succ d =>
      simp only [] at hq
      split at hq
      · exact ih _ _ _ _ _ _ _ hq
      · cases hq
/-! switches -/
theorem mj_sw_spec {x : Int32} {d : Nat} (ts : List Nat) : ∀ (lo : Int), -2147483648 ≤ lo → lo + ts.length ≤ 2147483648 → mj_sw x (Int32.ofInt lo) d ts = if lo ≤ x.toInt ∧ x.toInt < lo + ts.length then ts.getD (x.toInt - lo).toNat d else d := by
  induction ts with
  | nil => intro lo h1 h2; simp only [mj_sw, List.length_nil]; rw [if_neg]; rintro ⟨a, b⟩; simp at b; omega
  | cons t ts ih =>
    intro lo h1 h2
    simp only [List.length_cons] at h2
    have e0 : (Int32.ofInt lo).toInt = lo := by
      rw [Int32.toInt_ofInt]
      have hs : (Int32.size : Int) = 4294967296 := rfl
      exact Int.bmod_eq_of_le (by omega) (by omega)
    by_cases hx : x = Int32.ofInt lo
    · have hxi : x.toInt = lo := by rw [hx]; exact e0
      simp only [mj_sw]
      rw [if_pos hx, if_pos (by rw [hxi]; simp; omega), hxi]
      simp
    · have hxi : x.toInt ≠ lo := fun q => hx (Int32.toInt_inj.mp (q.trans e0.symm))
      simp only [mj_sw]
      rw [if_neg hx, show Int32.ofInt lo + 1 = Int32.ofInt (lo + 1) by rw [Int32.ofInt_add]; rfl, ih (lo + 1) (by omega) (by omega)]
      by_cases hin : lo + 1 ≤ x.toInt ∧ x.toInt < lo + 1 + ts.length
      · rw [if_pos hin, if_pos (by simp; omega)]
        rw [show (x.toInt - lo).toNat = (x.toInt - (lo + 1)).toNat + 1 by omega]
        rfl
      · rw [if_neg hin, if_neg (by simp; omega)]
theorem mj_sws_spec {pc : Nat} (ts : List Nat) : ∀ (os : List Int), mj_sws pc ts os = true → ts.length = os.length ∧ ∀ (k : Nat) (o : Int), os[k]? = some o → ∀ d, (pc : Int) + o = ((ts.getD k d : Nat) : Int) := by
  induction ts with
  | nil =>
    intro os h
    cases os with
    | nil => exact ⟨rfl, fun k o hk => by simp at hk⟩
    | cons o os => simp [mj_sws] at h
  | cons t ts ih =>
    intro os h
    cases os with
    | nil => simp [mj_sws] at h
    | cons o os =>
      simp only [mj_sws, Bool.and_eq_true, decide_eq_true_eq] at h
      obtain ⟨h1, h2⟩ := ih os h.2
      refine ⟨by simp [h1], fun k o' hk d => ?_⟩
      cases k with
      | zero => simp at hk; subst hk; simpa using h.1
      | succ k => simpa using h2 k o' (by simpa using hk) d
section MJW
variable {p : Program} {l : Launch} {e : Env} {R : Room} {s : State} {m : MethodId} {args : Array Value} {below : List Frame} {meth : Method} {c : Code} {Q : State → Prop} {G : mj_G} {E : mj_E} {own : String} {cc : ByteArray} {nL d : Nat} {h0 : mj_H}
variable {pc tgt : Nat} {ls st : List Value} {h : mj_H} {P : Nat → mj_Me}
theorem mj_r_sw (X : mj_Cx p R s m args c G E own cc nL d h0) {df lo hi : Int} {offs : Array Int} {len dt : Nat} {ts : List Nat} {x cst : Int32} (hd : decode cc pc = .ok (.tableswitch df lo hi offs, len)) (h1 : (pc : Int) + df = (dt : Int)) (h2 : mj_sws pc ts offs.toList = true) (h3 : Int32.ofInt lo = cst) (h4 : -2147483648 ≤ lo) (h6 : hi = lo + (offs.size : Int) - 1) (h7 : hi ≤ 2147483647)
    (kk : mj_WW p l e R s m args below meth c Q G nL h0 (mj_sw x cst dt ts) ls st h) : mj_WW p l e R s m args below meth c Q G nL h0 pc ls (.int x :: st) h := by
  obtain ⟨g1, g2⟩ := mj_sws_spec ts _ h2
  have g3 : ts.length = offs.size := by rw [g1]; simp
  have hsp := mj_sw_spec (x := x) (d := dt) ts lo h4 (by omega)
  rw [h3] at hsp
  refine mj_r_st (fun H LS locs cells slots hP hl hS kk => ?_) kk
  by_cases hin : lo ≤ x.toInt ∧ x.toInt < lo + ts.length
  · rw [if_pos hin] at hsp
    have hk : (x.toInt - lo).toNat < offs.size := by omega
    have ho : offs[(x.toInt - lo).toNat]? = some offs[(x.toInt - lo).toNat] := Array.getElem?_eq_getElem hk
    refine lv_tableIn X.1 X.2.1 hd (by omega) (by omega) ho (tgt := mj_sw x cst dt ts) ?_ kk
    rw [hsp]
    exact g2 _ _ (by simpa using ho) _
  · rw [if_neg hin] at hsp
    exact lv_tableOut X.1 X.2.1 hd (by omega) (tgt := mj_sw x cst dt ts) (by rw [hsp]; exact h1) kk
end MJW
