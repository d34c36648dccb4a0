/-! sets pressed together: wm T k is the k-th of T, wim T c the set of those whose places are in c -/
theorem wm_inj {p : Nat → Bool} {i j : Nat} (hi : p i = true) (hij : i < j) : iv_cnt p i < iv_cnt p j := by
  have := iv_cnt_le p (i + 1) j hij
  rw [iv_cnt_s, if_pos hi] at this; omega
theorem wm_ex (T : Nat) : ∃ mu : Nat → Nat, ∀ k, k < mj_pc 10 T → mu k < 10 ∧ T.testBit (mu k) = true ∧ mj_pc (mu k) T = k := by
  refine ⟨fun k => if h : k < mj_pc 10 T then Classical.choose (iv_cnt_kth h) else 0, fun k hk => ?_⟩
  show (if h : k < mj_pc 10 T then Classical.choose (iv_cnt_kth h) else 0) < 10 ∧ T.testBit (if h : k < mj_pc 10 T then Classical.choose (iv_cnt_kth h) else 0) = true ∧ mj_pc (if h : k < mj_pc 10 T then Classical.choose (iv_cnt_kth h) else 0) T = k
  rw [dif_pos hk]
  exact Classical.choose_spec (iv_cnt_kth hk)
noncomputable def wm (T : Nat) : Nat → Nat := Classical.choose (wm_ex T)
theorem wm_ok {T k : Nat} (h : k < mj_pc 10 T) : wm T k < 10 ∧ T.testBit (wm T k) = true ∧ mj_pc (wm T k) T = k := Classical.choose_spec (wm_ex T) k h
theorem wm_of {T d : Nat} (hd : d < 10) (h : T.testBit d = true) : mj_pc d T < mj_pc 10 T ∧ wm T (mj_pc d T) = d := by
  have h1 : mj_pc d T < mj_pc 10 T := wm_inj (p := fun i => T.testBit i) h hd
  obtain ⟨a, b, e⟩ := wm_ok h1
  refine ⟨h1, ?_⟩
  rcases Nat.lt_trichotomy (wm T (mj_pc d T)) d with z | z | z
  · have : mj_pc (wm T (mj_pc d T)) T < mj_pc d T := wm_inj (p := fun i => T.testBit i) b z
    omega
  · exact z
  · have : mj_pc d T < mj_pc (wm T (mj_pc d T)) T := wm_inj (p := fun i => T.testBit i) h z
    omega
theorem wm_lt {T j k : Nat} (hjk : j < k) (hk : k < mj_pc 10 T) : wm T j < wm T k := by
  obtain ⟨a, b, e⟩ := wm_ok hk
  obtain ⟨a', b', e'⟩ := wm_ok (show j < mj_pc 10 T by omega)
  by_cases h : wm T j < wm T k
  · exact h
  · exfalso
    have : mj_pc (wm T k) T ≤ mj_pc (wm T j) T := iv_cnt_le _ _ _ (by omega)
    omega
def wim (T c : Nat) : Nat := mj_st (fun d => T.testBit d && c.testBit (mj_pc d T)) 10
theorem wim_bit (T c d : Nat) : (wim T c).testBit d = (decide (d < 10) && (T.testBit d && c.testBit (mj_pc d T))) := mj_st_bit _ _ _
theorem wim_lt (T c : Nat) : wim T c < 1024 := mj_st_lt _ 10
theorem wim_0 (T : Nat) : wim T 0 = 0 := Nat.eq_of_testBit_eq (fun i => by rw [wim_bit, Nat.zero_testBit, Nat.zero_testBit, Bool.and_false, Bool.and_false])
theorem wim_or {T c k : Nat} (hk : k < mj_pc 10 T) : wim T (c ||| 2 ^ k) = wim T c ||| 2 ^ wm T k := by
  obtain ⟨a, b, e⟩ := wm_ok hk
  refine Nat.eq_of_testBit_eq (fun d => ?_)
  rw [wim_bit, wz_or_bit, wz_or_bit, wim_bit]
  by_cases hd : d < 10
  · by_cases hT : T.testBit d = true
    · rw [decide_eq_true hd, hT, Bool.true_and, Bool.true_and, Bool.true_and, Bool.true_and]
      by_cases hkd : k = mj_pc d T
      · rw [decide_eq_true hkd, decide_eq_true (show wm T k = d by rw [hkd]; exact (wm_of hd hT).2)]
      · rw [decide_eq_false hkd, decide_eq_false (fun z => hkd (by rw [← z, e]))]
    · have hT2 : T.testBit d = false := by simpa using hT
      rw [hT2, Bool.false_and, Bool.and_false, Bool.false_and, Bool.and_false, Bool.false_or, decide_eq_false (fun z => hT (by rw [← z]; exact b))]
  · rw [decide_eq_false hd, Bool.false_and, Bool.false_and, Bool.false_or, decide_eq_false (fun z => hd (by rw [← z]; exact a))]
theorem wim_full {T : Nat} (hT : T < 1024) : wim T (2 ^ mj_pc 10 T - 1) = T := by
  refine Nat.eq_of_testBit_eq (fun d => ?_)
  rw [wim_bit, Nat.testBit_two_pow_sub_one]
  by_cases hd : d < 10
  · by_cases hb : T.testBit d = true
    · rw [decide_eq_true hd, hb, decide_eq_true (wm_of hd hb).1]; rfl
    · have hb2 : T.testBit d = false := by simpa using hb
      rw [hb2, Bool.false_and, Bool.and_false]
  · rw [decide_eq_false hd, Bool.false_and]
    exact (Nat.testBit_lt_two_pow (Nat.lt_of_lt_of_le hT (Nat.pow_le_pow_right (n := 2) (by omega) (show 10 ≤ d by omega)))).symm
theorem wim_sub (T c d : Nat) (h : (wim T c).testBit d = true) : T.testBit d = true := by
  rw [wim_bit] at h
  cases hb : T.testBit d with
  | true => rfl
  | false => rw [hb, Bool.false_and, Bool.and_false] at h; cases h
/-- the first of the least is told by what it is -/
theorem wz_uniq {g : Nat → Nat} {s n i : Nat} (h1 : i < n) (h2 : s.testBit i = false) (h3 : ∀ j, j < i → s.testBit j = false → g i < g j) (h4 : ∀ j, j < n → s.testBit j = false → g i ≤ g j) : wz_ix g s n = some i := by
  cases hw : wz_ix g s n with
  | none => have := (wz_ix_ok g s n).1 hw i h1; rw [h2] at this; cases this
  | some k =>
    obtain ⟨k1, k2, k3, k4⟩ := (wz_ix_ok g s n).2 k hw
    rcases Nat.lt_trichotomy i k with z | z | z
    · have := k3 i z h2; have := h4 k k1 k2; omega
    · rw [z]
    · have := h3 k z k2; have := k4 i h1 h2; omega
/-- what is not to be chosen behind s -/
def wbl (T s : Nat) : Nat := s ||| mj_df 1023 T
theorem wbl_bit {T s d : Nat} (hd : d < 10) : (wbl T s).testBit d = (s.testBit d || !T.testBit d) := by
  unfold wbl
  rw [Nat.testBit_or, mj_df_bit, show 1023 = 2 ^ 10 - 1 by decide, Nat.testBit_two_pow_sub_one, decide_eq_true hd, Bool.true_and]
theorem wbl_clear {T s d : Nat} (hd : d < 10) : (wbl T s).testBit d = false ↔ (s.testBit d = false ∧ T.testBit d = true) := by
  rw [wbl_bit hd]
  cases s.testBit d <;> cases T.testBit d <;> simp
theorem wbl_im {T c d : Nat} (hd : d < 10) : (wbl T (wim T c)).testBit d = false ↔ (T.testBit d = true ∧ c.testBit (mj_pc d T) = false) := by
  rw [wbl_clear hd, wim_bit, decide_eq_true hd]
  cases T.testBit d <;> cases c.testBit (mj_pc d T) <;> simp
/-- pressed together or not, the same is chosen -/
theorem wz_tr {T c : Nat} {g gR : Nat → Nat} (hg : ∀ k, k < mj_pc 10 T → c.testBit k = false → gR (wm T k) = g k) : wz_ix gR (wbl T (wim T c)) 10 = (wz_ix g c (mj_pc 10 T)).map (wm T) := by
  cases hw : wz_ix g c (mj_pc 10 T) with
  | none =>
    have h1 := (wz_ix_ok g c _).1 hw
    cases hv : wz_ix gR (wbl T (wim T c)) 10 with
    | none => rfl
    | some d =>
      obtain ⟨d1, d2, _, _⟩ := (wz_ix_ok gR _ 10).2 d hv
      rw [wbl_im d1] at d2
      have := h1 _ (wm_of d1 d2.1).1
      rw [d2.2] at this; cases this
  | some k =>
    obtain ⟨k1, k2, k3, k4⟩ := (wz_ix_ok g c _).2 k hw
    obtain ⟨a, b, e⟩ := wm_ok k1
    refine wz_uniq a ((wbl_im a).mpr ⟨b, by rw [e]; exact k2⟩) (fun j hj hc => ?_) (fun j hj hc => ?_)
    · have hj10 : j < 10 := by omega
      obtain ⟨c1, c2⟩ := (wbl_im hj10).mp hc
      obtain ⟨j1, j2⟩ := wm_of hj10 c1
      have hjk : mj_pc j T < k := by
        rcases Nat.lt_trichotomy (mj_pc j T) k with z | z | z
        · exact z
        · rw [z] at j2; omega
        · have := wm_lt z j1; omega
      rw [hg k k1 k2, ← j2, hg _ j1 c2]
      exact k3 _ hjk c2
    · obtain ⟨c1, c2⟩ := (wbl_im hj).mp hc
      obtain ⟨j1, j2⟩ := wm_of hj c1
      rw [hg k k1 k2, ← j2, hg _ j1 c2]
      exact k4 _ j1 c2
/-- g counts only where s is clear -/
theorem wz_cg {g h : Nat → Nat} {s : Nat} : ∀ n, (∀ k, k < n → s.testBit k = false → g k = h k) → wz_ix g s n = wz_ix h s n := by
  intro n
  induction n with
  | zero => intro _; rfl
  | succ n ih =>
    intro hh
    have i1 := ih (fun k hk => hh k (by omega))
    by_cases hb : s.testBit n = true
    · rw [wz_ix_t hb, wz_ix_t hb, i1]
    · have hb2 : s.testBit n = false := by simpa using hb
      cases hw : wz_ix g s n with
      | none => rw [wz_ix_n hb hw, wz_ix_n hb (by rw [← i1]; exact hw)]
      | some k =>
        obtain ⟨k1, k2, _, _⟩ := (wz_ix_ok g s n).2 k hw
        rw [wz_ix_s hb hw, wz_ix_s hb (by rw [← i1]; exact hw), hh n (by omega) hb2, hh k (by omega) k2]
/-! ranks: C s d is what d costs behind s -/
def wr_g (C : Nat → Nat → Nat) (R : Nat → Nat) (s d : Nat) : Nat := C s d + R (s ||| 2 ^ d)
def wr_ix (C : Nat → Nat → Nat) (R : Nat → Nat) (T s : Nat) : Option Nat := wz_ix (wr_g C R s) (wbl T s) 10
def wr_F (C : Nat → Nat → Nat) (T : Nat) (R : Nat → Nat) (s : Nat) : Nat := wz_v (wr_g C R s) 0 (wr_ix C R T s)
theorem wr_R (C : Nat → Nat → Nat) (T : Nat) : ∃ R : Nat → Nat, ∀ s, s ≤ 1023 → R s = wr_F C T R s := by
  refine wz_ex (wr_F C T) 1023 (fun g h s hs => ?_)
  have hg : ∀ i, i < 10 → (wbl T s).testBit i = false → wr_g C g s i = wr_g C h s i := fun i hi hc => by
    unfold wr_g; rw [hs _ (wz_or_gt ((wbl_clear hi).mp hc).1)]
  unfold wr_F wr_ix
  rw [wz_cg 10 hg]
  cases hw : wz_ix (wr_g C h s) (wbl T s) 10 with
  | none => rfl
  | some j =>
    obtain ⟨j1, j2, _, _⟩ := (wz_ix_ok _ _ 10).2 j hw
    exact hg j j1 j2
theorem wr_bd {C : Nat → Nat → Nat} {T : Nat} {R : Nat → Nat} (hC : ∀ s d, C s d ≤ 16) (hR : ∀ s, s ≤ 1023 → R s = wr_F C T R s) : ∀ s, s ≤ 1023 → R s ≤ 16 * (1023 - s) := by
  have : ∀ k s, s ≤ 1023 → 1023 - s = k → R s ≤ 16 * k := by
    intro k
    induction k using Nat.strongRecOn with
    | ind k ih =>
      intro s hs hk
      rw [hR s hs]
      unfold wr_F
      cases hw : wr_ix C R T s with
      | none => exact Nat.zero_le _
      | some i =>
        obtain ⟨h1, h2, _, _⟩ := (wz_ix_ok _ _ 10).2 i hw
        have h2' := ((wbl_clear h1).mp h2).1
        have h3 := wz_or_gt h2'
        have h4 : s ||| 2 ^ i < 2 ^ 10 := Nat.or_lt_two_pow (by omega) (Nat.pow_lt_pow_right (by omega) h1)
        have h5 := ih (1023 - (s ||| 2 ^ i)) (by omega) (s ||| 2 ^ i) (by omega) rfl
        have h6 := hC s i
        show wr_g C R s i ≤ 16 * k
        unfold wr_g
        omega
  exact fun s hs => this _ s hs rfl
/-- the sets in which the order goes on, for any choice -/
def wo_S (ix : Nat → Option Nat) : Nat → Nat
  | 0 => 0
  | k + 1 => match ix (wo_S ix k) with
    | none => wo_S ix k
    | some i => wo_S ix k ||| 2 ^ i
theorem wo_S_s {ix : Nat → Option Nat} {k i : Nat} (h : ix (wo_S ix k) = some i) : wo_S ix (k + 1) = wo_S ix k ||| 2 ^ i := by
  show (match ix (wo_S ix k) with | none => wo_S ix k | some i => wo_S ix k ||| 2 ^ i) = _
  rw [h]
theorem wo_S_ok {ix : Nat → Option Nat} {T : Nat} (hT : T < 1024) (h0 : ∀ s, ix s = none → ∀ d, d < 10 → (wbl T s).testBit d = true) (h1 : ∀ s i, ix s = some i → i < 10 ∧ (wbl T s).testBit i = false) : ∀ k, k ≤ mj_pc 10 T → (∀ d, (wo_S ix k).testBit d = true → T.testBit d = true) ∧ wo_S ix k < 1024 ∧ mj_pc 10 (wo_S ix k) = k ∧ (k < mj_pc 10 T → ∃ i, ix (wo_S ix k) = some i) := by
  have hsome : ∀ k, (mj_pc 10 (wo_S ix k) = k) → k < mj_pc 10 T → ∃ i, ix (wo_S ix k) = some i := by
    intro k hk hlt
    cases hw : ix (wo_S ix k) with
    | some i => exact ⟨i, rfl⟩
    | none =>
      exfalso
      have hall := h0 _ hw
      have : mj_pc 10 T ≤ mj_pc 10 (wo_S ix k) := iv_cnt_mono 10 (fun i hi hp => by
        have h2 := hall i hi
        rw [wbl_bit hi] at h2
        have hp : T.testBit i = true := hp
        rw [hp] at h2
        simpa using h2)
      omega
  intro k
  induction k with
  | zero =>
    intro hk
    have hz : mj_pc 10 (wo_S ix 0) = 0 := iv_cnt_zero (fun i _ => Nat.zero_testBit i)
    refine ⟨fun d hd => ?_, ?_, hz, hsome 0 hz⟩
    · have : (wo_S ix 0).testBit d = false := Nat.zero_testBit d
      rw [this] at hd; cases hd
    · show 0 < 1024; omega
  | succ k ih =>
    intro hk
    obtain ⟨a, b, e, f⟩ := ih (by omega)
    obtain ⟨i, hi⟩ := f (by omega)
    obtain ⟨i1, i2⟩ := h1 _ _ hi
    obtain ⟨i3, i4⟩ := (wbl_clear i1).mp i2
    have hpc : mj_pc 10 (wo_S ix (k + 1)) = k + 1 := by
      rw [wo_S_s hi]
      have := iv_cnt_one (p := fun j => (wo_S ix k).testBit j) (q := fun j => (wo_S ix k ||| 2 ^ i).testBit j) (k := i) 10 i1 (fun j _ hji => by
        show (wo_S ix k ||| 2 ^ i).testBit j = _
        rw [wz_or_bit, decide_eq_false (fun z => hji z.symm), Bool.or_false]) i3
      have h2 : (wo_S ix k ||| 2 ^ i).testBit i = true := by rw [wz_or_bit, decide_eq_true rfl, Bool.or_true]
      rw [if_pos h2] at this
      have e' : iv_cnt (fun j => (wo_S ix k).testBit j) 10 = k := e
      show iv_cnt (fun j => (wo_S ix k ||| 2 ^ i).testBit j) 10 = k + 1
      omega
    refine ⟨fun d hd => ?_, ?_, hpc, hsome _ hpc⟩
    · rw [wo_S_s hi, wz_or_bit] at hd
      by_cases hid : i = d
      · rw [← hid]; exact i4
      · rw [decide_eq_false hid, Bool.or_false] at hd; exact a d hd
    · rw [wo_S_s hi]
      exact Nat.or_lt_two_pow (n := 10) b (Nat.pow_lt_pow_right (by omega) i1)
theorem wr_ok0 {C : Nat → Nat → Nat} {R : Nat → Nat} {T : Nat} : (∀ s, wr_ix C R T s = none → ∀ d, d < 10 → (wbl T s).testBit d = true) ∧ (∀ s i, wr_ix C R T s = some i → i < 10 ∧ (wbl T s).testBit i = false) :=
  ⟨fun s h => (wz_ix_ok _ _ 10).1 h, fun s i h => ⟨((wz_ix_ok _ _ 10).2 i h).1, ((wz_ix_ok _ _ 10).2 i h).2.1⟩⟩
