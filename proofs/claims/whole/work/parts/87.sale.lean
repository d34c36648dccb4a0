theorem mj_u_comm {f : mj_HI} {a b i j : Nat} {x y : Int32} (h : a ≠ b ∨ i ≠ j) : mj_u (mj_u f a i x) b j y = mj_u (mj_u f b j y) a i x := by
  funext p q
  by_cases h1 : p = a ∧ q = i
  · obtain ⟨rfl, rfl⟩ := h1
    rw [mj_u_pt (by omega), mj_u_eq, mj_u_eq]
  · rw [mj_u_pt (f := mj_u f b j y) (by omega)]
    by_cases h2 : p = b ∧ q = j
    · obtain ⟨rfl, rfl⟩ := h2
      rw [mj_u_eq, mj_u_eq]
    · rw [mj_u_pt (by omega), mj_u_pt (by omega), mj_u_pt (by omega)]
theorem au_nx_n (h : mj_HI) (κ v2 v3 : Int32) (K : Nat) (v : Int32) : au_nx (mj_u h 3 K v) κ v2 v3 = mj_u (au_nx h κ v2 v3) 3 K v := by
  unfold au_nx
  rw [mj_u_pt (f := h) (show (2 : Nat) ≠ 3 ∨ (6 : Nat) ≠ K by omega), mj_u_pt (f := h) (show (2 : Nat) ≠ 3 ∨ (3 : Nat) ≠ K by omega)]
  split
  · rfl
  · rw [mj_u_comm (a := 3) (b := 42) (by omega), mj_u_comm (a := 3) (b := 43) (by omega), mj_u_comm (a := 3) (b := 44) (by omega), mj_u_comm (a := 3) (b := 45) (by omega), mj_u_comm (a := 3) (b := 2) (by omega)]
theorem iv_cnt_one {p q : Nat → Bool} {k : Nat} : ∀ n, k < n → (∀ i, i < n → i ≠ k → q i = p i) → p k = false → iv_cnt q n = iv_cnt p n + (if q k = true then 1 else 0) := by
  intro n
  induction n with
  | zero => intro h; exact absurd h (by omega)
  | succ n ih =>
    intro hk h hp
    rw [iv_cnt_s, iv_cnt_s]
    by_cases hkn : k = n
    · subst hkn
      rw [iv_cnt_congr k (fun i hi => h i (by omega) (by omega)), hp, if_neg (by decide : ¬ false = true)]
      omega
    · rw [ih (by omega) (fun i hi => h i (by omega)) hp, h n (by omega) (by omega)]
      omega
/-- a sale -/
theorem au_sale {r n l K k P X : Nat} {h m : mj_HI} (n10 : n ≤ 10) (l12 : l ≤ 12) (hK : K < n) (hk : k < l) (hr : r = 2 ∨ r = 177) (q : au r n l h m) (hP : m 206 (15 + K) = nI P) (hP2 : P ≤ 9999) (hX : X ≤ P) (hu : r = 2 → m 206 (45 + k) = 0) : au r n l (mj_u (mj_u (mj_u (mj_u (mj_u h 188 2 (nI X)) (r + 3) K (h (r + 3) K - nI X)) r 4 (h r 4 + nI X)) (r + 10) k (nI K)) (r + 7) K (h (r + 7) K + 1)) (mj_u (mj_u (mj_u (mj_u m 205 45 (nI X)) 206 (15 + K) (m 206 (15 + K) - nI X)) 206 4 (m 206 4 + nI X)) 206 (45 + k) (nI (K + 1))) := by
  obtain ⟨⟨⟨a0, a1, a2, a3, a4, a5, a6⟩, hb, x3, x4, x5, x6, x7⟩, y⟩ := q
  refine ⟨⟨⟨?_, ?_, ?_, ?_, ?_, ?_, ?_⟩, ?_, fun d hd => ?_, fun hq d hd => ?_, fun j hj => ?_, fun hq j hj => ?_, fun d hd => ?_⟩, fun hr i hi => ?_⟩
  · simp (disch := omega) only [mj_u_pt]; exact a0
  · simp (disch := omega) only [mj_u_pt]; exact a1
  · simp (disch := omega) only [mj_u_pt]; exact a2
  · simp (disch := omega) only [mj_u_pt]; exact a3
  · simp (disch := omega) only [mj_u_pt, mj_u_eq]; rw [a4]
  · simp (disch := omega) only [mj_u_pt]; exact a5
  · simp (disch := omega) only [mj_u_pt]; exact a6
  · simp (disch := omega) only [mj_u_pt]; exact hb
  · obtain ⟨b1, b2, b3, b4, b5, b6⟩ := x3 d hd
    refine ⟨?_, ?_, ?_, ?_, ?_, ?_⟩
    · simp (disch := omega) only [mj_u_pt]; exact b1
    · simp (disch := omega) only [mj_u_pt]; exact b2
    · by_cases hdK : d = K
      · subst hdK
        simp (disch := omega) only [mj_u_pt, mj_u_eq]; rw [b3]
      · simp (disch := omega) only [mj_u_pt]; exact b3
    · simp (disch := omega) only [mj_u_pt]; exact b4
    · simp (disch := omega) only [mj_u_pt]; exact b5
    · simp (disch := omega) only [mj_u_pt]; exact b6
  · have hone := iv_cnt_one (p := fun j => decide (m 206 (45 + j) = nI (d + 1))) (q := fun j => decide ((mj_u (mj_u (mj_u (mj_u m 205 45 (nI X)) 206 (15 + K) (m 206 (15 + K) - nI X)) 206 4 (m 206 4 + nI X)) 206 (45 + k) (nI (K + 1))) 206 (45 + j) = nI (d + 1))) (k := k) l hk (fun i hi hne => by simp (disch := omega) only [mj_u_pt]) (by
      show decide (m 206 (45 + k) = nI (d + 1)) = false
      rw [hu hq]
      refine decide_eq_false (fun z => ?_)
      rw [show (0 : Int32) = nI 0 from rfl, mj_nIeq (by omega) (by omega)] at z
      omega)
    rw [hone]
    have hqk : (decide ((mj_u (mj_u (mj_u (mj_u m 205 45 (nI X)) 206 (15 + K) (m 206 (15 + K) - nI X)) 206 4 (m 206 4 + nI X)) 206 (45 + k) (nI (K + 1))) 206 (45 + k) = nI (d + 1))) = decide (K = d) := by
      rw [mj_u_eq]
      exact decide_eq_decide.mpr (by rw [mj_nIeq (by omega) (by omega)]; omega)
    simp only [hqk]
    by_cases hdK : d = K
    · subst hdK
      rw [mj_u_eq, x4 hq d hd, mj_nIs, decide_eq_true rfl, if_pos rfl]
    · rw [decide_eq_false (fun z => hdK z.symm), if_neg (by decide), Nat.add_zero]
      simp (disch := omega) only [mj_u_pt]; exact x4 hq d hd
  · have := x5 j hj
    simp (disch := omega) only [mj_u_pt]; exact this
  · by_cases hjk : j = k
    · subst hjk
      have e1 : nI (K + 1) - 1 = nI K := by rw [mj_nIp (by omega)]; rfl
      simp (disch := omega) only [mj_u_pt, mj_u_eq]
      exact ⟨e1.symm, K + 1, by omega, rfl⟩
    · have := x6 hq j hj
      simp (disch := omega) only [mj_u_pt]; exact this
  · by_cases hdK : d = K
    · subst hdK
      refine ⟨P - X, by omega, ?_⟩
      simp (disch := omega) only [mj_u_pt, mj_u_eq]
      rw [hP, mj_nIsub hX]
    · obtain ⟨p, p1, p2⟩ := x7 d hd
      refine ⟨p, p1, ?_⟩
      simp (disch := omega) only [mj_u_pt]; exact p2
  · have := y hr i hi
    simp (disch := omega) only [mj_u_pt]; exact this
