/-- the light -/
theorem au_dark {r n l : Nat} {h m : mj_HI} (hr : r = 2 ∨ r = 177) (q : au r n l h m) (D : Int32) : au r n l (mj_u h r 2 D) (mj_u m 206 3 D) := by
  obtain ⟨⟨⟨a0, a1, a2, a3, a4, a5, a6⟩, hb, x3, x4, x5, x6, x7⟩, y⟩ := q
  refine ⟨⟨⟨?_, ?_, ?_, ?_, ?_, ?_, ?_⟩, ?_, fun d hd => ?_, fun hq d hd => ?_, fun k hk => ?_, fun hq k hk => ?_, fun d hd => ?_⟩, fun hr i hi => ?_⟩
  · rw [mj_u_pt (by omega)]; exact a0
  · rw [mj_u_pt (by omega)]; exact a1
  · rw [mj_u_eq, mj_u_eq]
  · rw [mj_u_pt (by omega), mj_u_pt (by omega)]; exact a3
  · rw [mj_u_pt (by omega), mj_u_pt (by omega)]; exact a4
  · rw [mj_u_pt (by omega), mj_u_pt (by omega)]; exact a5
  · rw [mj_u_pt (by omega), mj_u_pt (by omega)]; exact a6
  · rw [mj_u_pt (by omega)]; exact hb
  · have := x3 d hd
    simp (disch := omega) only [mj_u_pt]; exact this
  · have : (fun k => decide ((mj_u m 206 3 D) 206 (45 + k) = nI (d + 1))) = (fun k => decide (m 206 (45 + k) = nI (d + 1))) := funext (fun k => by rw [mj_u_pt (by omega)])
    rw [mj_u_pt (by omega), this]; exact x4 hq d hd
  · have := x5 k hk
    simp (disch := omega) only [mj_u_pt]; exact this
  · have := x6 hq k hk
    simp (disch := omega) only [mj_u_pt]; exact this
  · rw [mj_u_pt (by omega)]; exact x7 d hd
  · have := y hr i hi
    simp (disch := omega) only [mj_u_pt]; exact this
/-- barred or not -/
theorem au_bar {r n l K : Nat} {h m : mj_HI} (n10 : n ≤ 10) (hK : K < 10) (hr : r = 2 ∨ r = 177) (q : au r n l h m) (D : Int32) : au r n l (mj_u h (r + 5) K D) (mj_u m 206 (25 + K) D) := by
  obtain ⟨⟨⟨a0, a1, a2, a3, a4, a5, a6⟩, hb, x3, x4, x5, x6, x7⟩, y⟩ := q
  refine ⟨⟨⟨?_, ?_, ?_, ?_, ?_, ?_, ?_⟩, ?_, fun d hd => ?_, fun hq d hd => ?_, fun k hk => ?_, fun hq k hk => ?_, fun d hd => ?_⟩, fun hr i hi => ?_⟩
  · simp (disch := omega) only [mj_u_pt]; exact a0
  · simp (disch := omega) only [mj_u_pt]; exact a1
  · simp (disch := omega) only [mj_u_pt]; exact a2
  · simp (disch := omega) only [mj_u_pt]; exact a3
  · simp (disch := omega) only [mj_u_pt]; exact a4
  · simp (disch := omega) only [mj_u_pt]; exact a5
  · simp (disch := omega) only [mj_u_pt]; exact a6
  · rw [mj_u_pt (by omega)]; exact hb
  · obtain ⟨b1, b2, b3, b4, b5, b6⟩ := x3 d hd
    refine ⟨?_, ?_, ?_, ?_, ?_, ?_⟩
    · simp (disch := omega) only [mj_u_pt]; exact b1
    · simp (disch := omega) only [mj_u_pt]; exact b2
    · simp (disch := omega) only [mj_u_pt]; exact b3
    · simp (disch := omega) only [mj_u_pt]; exact b4
    · by_cases hdK : d = K
      · subst hdK; rw [mj_u_eq, mj_u_eq]
      · rw [mj_u_pt (by omega), mj_u_pt (by omega)]; exact b5
    · simp (disch := omega) only [mj_u_pt]; exact b6
  · have : (fun k => decide ((mj_u m 206 (25 + K) D) 206 (45 + k) = nI (d + 1))) = (fun k => decide (m 206 (45 + k) = nI (d + 1))) := funext (fun k => by rw [mj_u_pt (by omega)])
    rw [mj_u_pt (by omega), this]; exact x4 hq d hd
  · have := x5 k hk
    simp (disch := omega) only [mj_u_pt]; exact this
  · have := x6 hq k hk
    simp (disch := omega) only [mj_u_pt]; exact this
  · rw [mj_u_pt (by omega)]; exact x7 d hd
  · have := y hr i hi
    simp (disch := omega) only [mj_u_pt]; exact this
