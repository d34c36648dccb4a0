theorem mj_hw_1 (w c : Nat) (hi : Nat → Nat → Int32) (hl : Nat → Nat → Int64) : (mj_hw w c hi hl).1 = hi := rfl
theorem mj_hw_2 (w c : Nat) (hi : Nat → Nat → Int32) (hl : Nat → Nat → Int64) : (mj_hw w c hi hl).2.1 = hl := rfl
theorem mj_hw_3 (w c : Nat) (hi : Nat → Nat → Int32) (hl : Nat → Nat → Int64) : (mj_hw w c hi hl).2.2.1 = mj_HR w c := rfl
theorem mj_hw_wi (w c : Nat) (hi f : Nat → Nat → Int32) (hl : Nat → Nat → Int64) : mj_wi f (mj_hw w c hi hl) = mj_hw w c f hl := rfl
theorem mj_hw_wl (w c : Nat) (hi : Nat → Nat → Int32) (hl f : Nat → Nat → Int64) : mj_wl f (mj_hw w c hi hl) = mj_hw w c hi f := rfl
theorem mj_gT (p : Prop) [Decidable p] (x : mj_R) (h : p) : mj_g p x = x := by rw [mj_g_if, if_pos h]
theorem mj_gTrue (dd : Decidable True) (x : mj_R) : @mj_g True dd x = x := mj_gT True x trivial
theorem mj_bl_cons (E : mj_E) (C : Nat → List Value → mj_H → mj_R) (J : Nat → mj_K) (i : Instr) (len : Nat) (cst : Int32) (ax : List Nat) (is : List mj_I) (pc : Nat) (ls st : List Value) (h : mj_H) : mj_bl E C J ((i, len, cst, ax) :: is) pc ls st h = mj_ex E C i cst ax ls st h (mj_bl E C J is (pc + len)) J := rfl
theorem mj_bl_nil (E : mj_E) (C : Nat → List Value → mj_H → mj_R) (J : Nat → mj_K) (pc : Nat) (ls st : List Value) (h : mj_H) : mj_bl E C J [] pc ls st h = J pc ls st h := rfl
theorem mjkd0 (w c : Nat) (hi : Nat → Nat → Int32) (hl : Nat → Nat → Int64) : mj_kd (mj_hw w c hi hl) 0 = 11 := rfl
theorem mjhr0_0 (w c : Nat) : mj_HR w c 0 0 = .ref 1 := mj_RL_at (show (0, 0, .ref 1) ∈ mj_RL from List.mem_of_getElem? (i := 0) rfl)
theorem mjhr0_1 (w c : Nat) : mj_HR w c 0 1 = .ref 46 := mj_RL_at (show (0, 1, .ref 46) ∈ mj_RL from List.mem_of_getElem? (i := 1) rfl)
theorem mjhr0_3 (w c : Nat) : mj_HR w c 0 3 = .ref 91 := mj_RL_at (show (0, 3, .ref 91) ∈ mj_RL from List.mem_of_getElem? (i := 2) rfl)
theorem mjhr0_4 (w c : Nat) : mj_HR w c 0 4 = .ref 159 := mj_RL_at (show (0, 4, .ref 159) ∈ mj_RL from List.mem_of_getElem? (i := 3) rfl)
theorem mjhr0_5 (w c : Nat) : mj_HR w c 0 5 = .ref 177 := mj_RL_at (show (0, 5, .ref 177) ∈ mj_RL from List.mem_of_getElem? (i := 4) rfl)
theorem mjhr0_6 (w c : Nat) : mj_HR w c 0 6 = .ref 188 := mj_RL_at (show (0, 6, .ref 188) ∈ mj_RL from List.mem_of_getElem? (i := 5) rfl)
theorem mjhr0_7 (w c : Nat) : mj_HR w c 0 7 = .ref 189 := mj_RL_at (show (0, 7, .ref 189) ∈ mj_RL from List.mem_of_getElem? (i := 6) rfl)
theorem mjhr0_8 (w c : Nat) : mj_HR w c 0 8 = .ref 194 := mj_RL_at (show (0, 8, .ref 194) ∈ mj_RL from List.mem_of_getElem? (i := 7) rfl)
theorem mjhr0_9 (w c : Nat) : mj_HR w c 0 9 = .ref 202 := mj_RL_at (show (0, 9, .ref 202) ∈ mj_RL from List.mem_of_getElem? (i := 8) rfl)
theorem mjkd1 (w c : Nat) (hi : Nat → Nat → Int32) (hl : Nat → Nat → Int64) : mj_kd (mj_hw w c hi hl) 1 = 10 := rfl
theorem mjhr1_0 (w c : Nat) : mj_HR w c 1 0 = .ref 2 := mj_RL_at (show (1, 0, .ref 2) ∈ mj_RL from List.mem_of_getElem? (i := 9) rfl)
theorem mjhr1_1 (w c : Nat) : mj_HR w c 1 1 = .ref 13 := mj_RL_at (show (1, 1, .ref 13) ∈ mj_RL from List.mem_of_getElem? (i := 10) rfl)
theorem mjhr1_2 (w c : Nat) : mj_HR w c 1 2 = .ref 22 := mj_RL_at (show (1, 2, .ref 22) ∈ mj_RL from List.mem_of_getElem? (i := 11) rfl)
theorem mjhr1_3 (w c : Nat) : mj_HR w c 1 3 = .ref 26 := mj_RL_at (show (1, 3, .ref 26) ∈ mj_RL from List.mem_of_getElem? (i := 12) rfl)
theorem mjhr1_4 (w c : Nat) : mj_HR w c 1 4 = .ref 30 := mj_RL_at (show (1, 4, .ref 30) ∈ mj_RL from List.mem_of_getElem? (i := 13) rfl)
theorem mjhr1_5 (w c : Nat) : mj_HR w c 1 5 = .ref 34 := mj_RL_at (show (1, 5, .ref 34) ∈ mj_RL from List.mem_of_getElem? (i := 14) rfl)
theorem mjhr1_6 (w c : Nat) : mj_HR w c 1 6 = .ref 42 := mj_RL_at (show (1, 6, .ref 42) ∈ mj_RL from List.mem_of_getElem? (i := 15) rfl)
theorem mjhr1_7 (w c : Nat) : mj_HR w c 1 7 = .ref 43 := mj_RL_at (show (1, 7, .ref 43) ∈ mj_RL from List.mem_of_getElem? (i := 16) rfl)
theorem mjhr1_8 (w c : Nat) : mj_HR w c 1 8 = .ref 44 := mj_RL_at (show (1, 8, .ref 44) ∈ mj_RL from List.mem_of_getElem? (i := 17) rfl)
theorem mjhr1_9 (w c : Nat) : mj_HR w c 1 9 = .ref 45 := mj_RL_at (show (1, 9, .ref 45) ∈ mj_RL from List.mem_of_getElem? (i := 18) rfl)
theorem mjkd2 (w c : Nat) (hi : Nat → Nat → Int32) (hl : Nat → Nat → Int64) : mj_kd (mj_hw w c hi hl) 2 = 7 := rfl
theorem mjhr2_7 (w c : Nat) : mj_HR w c 2 7 = .ref 3 := mj_RL_at (show (2, 7, .ref 3) ∈ mj_RL from List.mem_of_getElem? (i := 19) rfl)
theorem mjhr2_8 (w c : Nat) : mj_HR w c 2 8 = .ref 4 := mj_RL_at (show (2, 8, .ref 4) ∈ mj_RL from List.mem_of_getElem? (i := 20) rfl)
theorem mjhr2_9 (w c : Nat) : mj_HR w c 2 9 = .ref 5 := mj_RL_at (show (2, 9, .ref 5) ∈ mj_RL from List.mem_of_getElem? (i := 21) rfl)
theorem mjhr2_10 (w c : Nat) : mj_HR w c 2 10 = .ref 6 := mj_RL_at (show (2, 10, .ref 6) ∈ mj_RL from List.mem_of_getElem? (i := 22) rfl)
theorem mjhr2_11 (w c : Nat) : mj_HR w c 2 11 = .ref 7 := mj_RL_at (show (2, 11, .ref 7) ∈ mj_RL from List.mem_of_getElem? (i := 23) rfl)
theorem mjhr2_12 (w c : Nat) : mj_HR w c 2 12 = .ref 8 := mj_RL_at (show (2, 12, .ref 8) ∈ mj_RL from List.mem_of_getElem? (i := 24) rfl)
theorem mjhr2_13 (w c : Nat) : mj_HR w c 2 13 = .ref 9 := mj_RL_at (show (2, 13, .ref 9) ∈ mj_RL from List.mem_of_getElem? (i := 25) rfl)
theorem mjhr2_14 (w c : Nat) : mj_HR w c 2 14 = .ref 10 := mj_RL_at (show (2, 14, .ref 10) ∈ mj_RL from List.mem_of_getElem? (i := 26) rfl)
theorem mjhr2_15 (w c : Nat) : mj_HR w c 2 15 = .ref 11 := mj_RL_at (show (2, 15, .ref 11) ∈ mj_RL from List.mem_of_getElem? (i := 27) rfl)
theorem mjhr2_16 (w c : Nat) : mj_HR w c 2 16 = .ref 12 := mj_RL_at (show (2, 16, .ref 12) ∈ mj_RL from List.mem_of_getElem? (i := 28) rfl)
theorem mjkd3 (w c : Nat) (hi : Nat → Nat → Int32) (hl : Nat → Nat → Int64) : mj_kd (mj_hw w c hi hl) 3 = 100 := rfl
theorem mjln3 (w c : Nat) (hi : Nat → Nat → Int32) (hl : Nat → Nat → Int64) : mj_ln (mj_hw w c hi hl) 3 = 10 := rfl
theorem mjkd4 (w c : Nat) (hi : Nat → Nat → Int32) (hl : Nat → Nat → Int64) : mj_kd (mj_hw w c hi hl) 4 = 100 := rfl
theorem mjln4 (w c : Nat) (hi : Nat → Nat → Int32) (hl : Nat → Nat → Int64) : mj_ln (mj_hw w c hi hl) 4 = 10 := rfl
theorem mjkd5 (w c : Nat) (hi : Nat → Nat → Int32) (hl : Nat → Nat → Int64) : mj_kd (mj_hw w c hi hl) 5 = 100 := rfl
theorem mjln5 (w c : Nat) (hi : Nat → Nat → Int32) (hl : Nat → Nat → Int64) : mj_ln (mj_hw w c hi hl) 5 = 10 := rfl
theorem mjkd6 (w c : Nat) (hi : Nat → Nat → Int32) (hl : Nat → Nat → Int64) : mj_kd (mj_hw w c hi hl) 6 = 100 := rfl
theorem mjln6 (w c : Nat) (hi : Nat → Nat → Int32) (hl : Nat → Nat → Int64) : mj_ln (mj_hw w c hi hl) 6 = 10 := rfl
theorem mjkd7 (w c : Nat) (hi : Nat → Nat → Int32) (hl : Nat → Nat → Int64) : mj_kd (mj_hw w c hi hl) 7 = 100 := rfl
theorem mjln7 (w c : Nat) (hi : Nat → Nat → Int32) (hl : Nat → Nat → Int64) : mj_ln (mj_hw w c hi hl) 7 = 10 := rfl
theorem mjkd8 (w c : Nat) (hi : Nat → Nat → Int32) (hl : Nat → Nat → Int64) : mj_kd (mj_hw w c hi hl) 8 = 100 := rfl
theorem mjln8 (w c : Nat) (hi : Nat → Nat → Int32) (hl : Nat → Nat → Int64) : mj_ln (mj_hw w c hi hl) 8 = 10 := rfl
theorem mjkd9 (w c : Nat) (hi : Nat → Nat → Int32) (hl : Nat → Nat → Int64) : mj_kd (mj_hw w c hi hl) 9 = 100 := rfl
theorem mjln9 (w c : Nat) (hi : Nat → Nat → Int32) (hl : Nat → Nat → Int64) : mj_ln (mj_hw w c hi hl) 9 = 10 := rfl
theorem mjkd10 (w c : Nat) (hi : Nat → Nat → Int32) (hl : Nat → Nat → Int64) : mj_kd (mj_hw w c hi hl) 10 = 100 := rfl
theorem mjln10 (w c : Nat) (hi : Nat → Nat → Int32) (hl : Nat → Nat → Int64) : mj_ln (mj_hw w c hi hl) 10 = 12 := rfl
theorem mjkd11 (w c : Nat) (hi : Nat → Nat → Int32) (hl : Nat → Nat → Int64) : mj_kd (mj_hw w c hi hl) 11 = 100 := rfl
theorem mjln11 (w c : Nat) (hi : Nat → Nat → Int32) (hl : Nat → Nat → Int64) : mj_ln (mj_hw w c hi hl) 11 = 12 := rfl
theorem mjkd12 (w c : Nat) (hi : Nat → Nat → Int32) (hl : Nat → Nat → Int64) : mj_kd (mj_hw w c hi hl) 12 = 100 := rfl
theorem mjln12 (w c : Nat) (hi : Nat → Nat → Int32) (hl : Nat → Nat → Int64) : mj_ln (mj_hw w c hi hl) 12 = 12 := rfl
theorem mjkd13 (w c : Nat) (hi : Nat → Nat → Int32) (hl : Nat → Nat → Int64) : mj_kd (mj_hw w c hi hl) 13 = 2 := rfl
theorem mjhr13_2 (w c : Nat) : mj_HR w c 13 2 = .ref 14 := mj_RL_at (show (13, 2, .ref 14) ∈ mj_RL from List.mem_of_getElem? (i := 29) rfl)
theorem mjhr13_3 (w c : Nat) : mj_HR w c 13 3 = .ref 15 := mj_RL_at (show (13, 3, .ref 15) ∈ mj_RL from List.mem_of_getElem? (i := 30) rfl)
theorem mjhr13_4 (w c : Nat) : mj_HR w c 13 4 = .ref 16 := mj_RL_at (show (13, 4, .ref 16) ∈ mj_RL from List.mem_of_getElem? (i := 31) rfl)
theorem mjhr13_5 (w c : Nat) : mj_HR w c 13 5 = .ref 17 := mj_RL_at (show (13, 5, .ref 17) ∈ mj_RL from List.mem_of_getElem? (i := 32) rfl)
theorem mjhr13_6 (w c : Nat) : mj_HR w c 13 6 = .ref 18 := mj_RL_at (show (13, 6, .ref 18) ∈ mj_RL from List.mem_of_getElem? (i := 33) rfl)
theorem mjhr13_7 (w c : Nat) : mj_HR w c 13 7 = .ref 19 := mj_RL_at (show (13, 7, .ref 19) ∈ mj_RL from List.mem_of_getElem? (i := 34) rfl)
theorem mjhr13_8 (w c : Nat) : mj_HR w c 13 8 = .ref 20 := mj_RL_at (show (13, 8, .ref 20) ∈ mj_RL from List.mem_of_getElem? (i := 35) rfl)
theorem mjhr13_9 (w c : Nat) : mj_HR w c 13 9 = .ref 21 := mj_RL_at (show (13, 9, .ref 21) ∈ mj_RL from List.mem_of_getElem? (i := 36) rfl)
theorem mjkd14 (w c : Nat) (hi : Nat → Nat → Int32) (hl : Nat → Nat → Int64) : mj_kd (mj_hw w c hi hl) 14 = 100 := rfl
theorem mjln14 (w c : Nat) (hi : Nat → Nat → Int32) (hl : Nat → Nat → Int64) : mj_ln (mj_hw w c hi hl) 14 = 16 := rfl
theorem mjkd15 (w c : Nat) (hi : Nat → Nat → Int32) (hl : Nat → Nat → Int64) : mj_kd (mj_hw w c hi hl) 15 = 100 := rfl
theorem mjln15 (w c : Nat) (hi : Nat → Nat → Int32) (hl : Nat → Nat → Int64) : mj_ln (mj_hw w c hi hl) 15 = 16 := rfl
theorem mjkd16 (w c : Nat) (hi : Nat → Nat → Int32) (hl : Nat → Nat → Int64) : mj_kd (mj_hw w c hi hl) 16 = 100 := rfl
theorem mjln16 (w c : Nat) (hi : Nat → Nat → Int32) (hl : Nat → Nat → Int64) : mj_ln (mj_hw w c hi hl) 16 = 16 := rfl
theorem mjkd17 (w c : Nat) (hi : Nat → Nat → Int32) (hl : Nat → Nat → Int64) : mj_kd (mj_hw w c hi hl) 17 = 100 := rfl
theorem mjln17 (w c : Nat) (hi : Nat → Nat → Int32) (hl : Nat → Nat → Int64) : mj_ln (mj_hw w c hi hl) 17 = 16 := rfl
theorem mjkd18 (w c : Nat) (hi : Nat → Nat → Int32) (hl : Nat → Nat → Int64) : mj_kd (mj_hw w c hi hl) 18 = 100 := rfl
theorem mjln18 (w c : Nat) (hi : Nat → Nat → Int32) (hl : Nat → Nat → Int64) : mj_ln (mj_hw w c hi hl) 18 = 400 := rfl
theorem mjkd19 (w c : Nat) (hi : Nat → Nat → Int32) (hl : Nat → Nat → Int64) : mj_kd (mj_hw w c hi hl) 19 = 100 := rfl
theorem mjln19 (w c : Nat) (hi : Nat → Nat → Int32) (hl : Nat → Nat → Int64) : mj_ln (mj_hw w c hi hl) 19 = 400 := rfl
theorem mjkd20 (w c : Nat) (hi : Nat → Nat → Int32) (hl : Nat → Nat → Int64) : mj_kd (mj_hw w c hi hl) 20 = 100 := rfl
theorem mjln20 (w c : Nat) (hi : Nat → Nat → Int32) (hl : Nat → Nat → Int64) : mj_ln (mj_hw w c hi hl) 20 = 10 := rfl
theorem mjkd21 (w c : Nat) (hi : Nat → Nat → Int32) (hl : Nat → Nat → Int64) : mj_kd (mj_hw w c hi hl) 21 = 100 := rfl
theorem mjln21 (w c : Nat) (hi : Nat → Nat → Int32) (hl : Nat → Nat → Int64) : mj_ln (mj_hw w c hi hl) 21 = 32 := rfl
theorem mjkd22 (w c : Nat) (hi : Nat → Nat → Int32) (hl : Nat → Nat → Int64) : mj_kd (mj_hw w c hi hl) 22 = 3 := rfl
theorem mjhr22_1 (w c : Nat) : mj_HR w c 22 1 = .ref 23 := mj_RL_at (show (22, 1, .ref 23) ∈ mj_RL from List.mem_of_getElem? (i := 37) rfl)
theorem mjhr22_2 (w c : Nat) : mj_HR w c 22 2 = .ref 24 := mj_RL_at (show (22, 2, .ref 24) ∈ mj_RL from List.mem_of_getElem? (i := 38) rfl)
theorem mjhr22_3 (w c : Nat) : mj_HR w c 22 3 = .ref 25 := mj_RL_at (show (22, 3, .ref 25) ∈ mj_RL from List.mem_of_getElem? (i := 39) rfl)
theorem mjkd23 (w c : Nat) (hi : Nat → Nat → Int32) (hl : Nat → Nat → Int64) : mj_kd (mj_hw w c hi hl) 23 = 100 := rfl
theorem mjln23 (w c : Nat) (hi : Nat → Nat → Int32) (hl : Nat → Nat → Int64) : mj_ln (mj_hw w c hi hl) 23 = 16 := rfl
theorem mjkd24 (w c : Nat) (hi : Nat → Nat → Int32) (hl : Nat → Nat → Int64) : mj_kd (mj_hw w c hi hl) 24 = 100 := rfl
theorem mjln24 (w c : Nat) (hi : Nat → Nat → Int32) (hl : Nat → Nat → Int64) : mj_ln (mj_hw w c hi hl) 24 = 16 := rfl
theorem mjkd25 (w c : Nat) (hi : Nat → Nat → Int32) (hl : Nat → Nat → Int64) : mj_kd (mj_hw w c hi hl) 25 = 100 := rfl
theorem mjln25 (w c : Nat) (hi : Nat → Nat → Int32) (hl : Nat → Nat → Int64) : mj_ln (mj_hw w c hi hl) 25 = 16 := rfl
theorem mjkd26 (w c : Nat) (hi : Nat → Nat → Int32) (hl : Nat → Nat → Int64) : mj_kd (mj_hw w c hi hl) 26 = 3 := rfl
theorem mjhr26_1 (w c : Nat) : mj_HR w c 26 1 = .ref 27 := mj_RL_at (show (26, 1, .ref 27) ∈ mj_RL from List.mem_of_getElem? (i := 40) rfl)
theorem mjhr26_2 (w c : Nat) : mj_HR w c 26 2 = .ref 28 := mj_RL_at (show (26, 2, .ref 28) ∈ mj_RL from List.mem_of_getElem? (i := 41) rfl)
theorem mjhr26_3 (w c : Nat) : mj_HR w c 26 3 = .ref 29 := mj_RL_at (show (26, 3, .ref 29) ∈ mj_RL from List.mem_of_getElem? (i := 42) rfl)
theorem mjkd27 (w c : Nat) (hi : Nat → Nat → Int32) (hl : Nat → Nat → Int64) : mj_kd (mj_hw w c hi hl) 27 = 100 := rfl
theorem mjln27 (w c : Nat) (hi : Nat → Nat → Int32) (hl : Nat → Nat → Int64) : mj_ln (mj_hw w c hi hl) 27 = 16 := rfl
theorem mjkd28 (w c : Nat) (hi : Nat → Nat → Int32) (hl : Nat → Nat → Int64) : mj_kd (mj_hw w c hi hl) 28 = 100 := rfl
theorem mjln28 (w c : Nat) (hi : Nat → Nat → Int32) (hl : Nat → Nat → Int64) : mj_ln (mj_hw w c hi hl) 28 = 16 := rfl
theorem mjkd29 (w c : Nat) (hi : Nat → Nat → Int32) (hl : Nat → Nat → Int64) : mj_kd (mj_hw w c hi hl) 29 = 100 := rfl
theorem mjln29 (w c : Nat) (hi : Nat → Nat → Int32) (hl : Nat → Nat → Int64) : mj_ln (mj_hw w c hi hl) 29 = 16 := rfl
theorem mjkd30 (w c : Nat) (hi : Nat → Nat → Int32) (hl : Nat → Nat → Int64) : mj_kd (mj_hw w c hi hl) 30 = 3 := rfl
theorem mjhr30_1 (w c : Nat) : mj_HR w c 30 1 = .ref 31 := mj_RL_at (show (30, 1, .ref 31) ∈ mj_RL from List.mem_of_getElem? (i := 43) rfl)
theorem mjhr30_2 (w c : Nat) : mj_HR w c 30 2 = .ref 32 := mj_RL_at (show (30, 2, .ref 32) ∈ mj_RL from List.mem_of_getElem? (i := 44) rfl)
theorem mjhr30_3 (w c : Nat) : mj_HR w c 30 3 = .ref 33 := mj_RL_at (show (30, 3, .ref 33) ∈ mj_RL from List.mem_of_getElem? (i := 45) rfl)
theorem mjkd31 (w c : Nat) (hi : Nat → Nat → Int32) (hl : Nat → Nat → Int64) : mj_kd (mj_hw w c hi hl) 31 = 100 := rfl
theorem mjln31 (w c : Nat) (hi : Nat → Nat → Int32) (hl : Nat → Nat → Int64) : mj_ln (mj_hw w c hi hl) 31 = 16 := rfl
theorem mjkd32 (w c : Nat) (hi : Nat → Nat → Int32) (hl : Nat → Nat → Int64) : mj_kd (mj_hw w c hi hl) 32 = 100 := rfl
theorem mjln32 (w c : Nat) (hi : Nat → Nat → Int32) (hl : Nat → Nat → Int64) : mj_ln (mj_hw w c hi hl) 32 = 16 := rfl
theorem mjkd33 (w c : Nat) (hi : Nat → Nat → Int32) (hl : Nat → Nat → Int64) : mj_kd (mj_hw w c hi hl) 33 = 100 := rfl
theorem mjln33 (w c : Nat) (hi : Nat → Nat → Int32) (hl : Nat → Nat → Int64) : mj_ln (mj_hw w c hi hl) 33 = 16 := rfl
theorem mjkd34 (w c : Nat) (hi : Nat → Nat → Int32) (hl : Nat → Nat → Int64) : mj_kd (mj_hw w c hi hl) 34 = 9 := rfl
theorem mjhr34_1 (w c : Nat) : mj_HR w c 34 1 = .ref 35 := mj_RL_at (show (34, 1, .ref 35) ∈ mj_RL from List.mem_of_getElem? (i := 46) rfl)
theorem mjhr34_2 (w c : Nat) : mj_HR w c 34 2 = .ref 36 := mj_RL_at (show (34, 2, .ref 36) ∈ mj_RL from List.mem_of_getElem? (i := 47) rfl)
theorem mjhr34_4 (w c : Nat) : mj_HR w c 34 4 = .ref 37 := mj_RL_at (show (34, 4, .ref 37) ∈ mj_RL from List.mem_of_getElem? (i := 48) rfl)
theorem mjhr34_5 (w c : Nat) : mj_HR w c 34 5 = .ref 38 := mj_RL_at (show (34, 5, .ref 38) ∈ mj_RL from List.mem_of_getElem? (i := 49) rfl)
theorem mjhr34_7 (w c : Nat) : mj_HR w c 34 7 = .ref 39 := mj_RL_at (show (34, 7, .ref 39) ∈ mj_RL from List.mem_of_getElem? (i := 50) rfl)
theorem mjhr34_8 (w c : Nat) : mj_HR w c 34 8 = .ref 40 := mj_RL_at (show (34, 8, .ref 40) ∈ mj_RL from List.mem_of_getElem? (i := 51) rfl)
theorem mjhr34_10 (w c : Nat) : mj_HR w c 34 10 = .ref 41 := mj_RL_at (show (34, 10, .ref 41) ∈ mj_RL from List.mem_of_getElem? (i := 52) rfl)
theorem mjkd35 (w c : Nat) (hi : Nat → Nat → Int32) (hl : Nat → Nat → Int64) : mj_kd (mj_hw w c hi hl) 35 = 100 := rfl
theorem mjln35 (w c : Nat) (hi : Nat → Nat → Int32) (hl : Nat → Nat → Int64) : mj_ln (mj_hw w c hi hl) 35 = 16 := rfl
theorem mjkd36 (w c : Nat) (hi : Nat → Nat → Int32) (hl : Nat → Nat → Int64) : mj_kd (mj_hw w c hi hl) 36 = 100 := rfl
theorem mjln36 (w c : Nat) (hi : Nat → Nat → Int32) (hl : Nat → Nat → Int64) : mj_ln (mj_hw w c hi hl) 36 = 16 := rfl
theorem mjkd37 (w c : Nat) (hi : Nat → Nat → Int32) (hl : Nat → Nat → Int64) : mj_kd (mj_hw w c hi hl) 37 = 100 := rfl
theorem mjln37 (w c : Nat) (hi : Nat → Nat → Int32) (hl : Nat → Nat → Int64) : mj_ln (mj_hw w c hi hl) 37 = 6 := rfl
theorem mjkd38 (w c : Nat) (hi : Nat → Nat → Int32) (hl : Nat → Nat → Int64) : mj_kd (mj_hw w c hi hl) 38 = 100 := rfl
theorem mjln38 (w c : Nat) (hi : Nat → Nat → Int32) (hl : Nat → Nat → Int64) : mj_ln (mj_hw w c hi hl) 38 = 8 := rfl
theorem mjkd39 (w c : Nat) (hi : Nat → Nat → Int32) (hl : Nat → Nat → Int64) : mj_kd (mj_hw w c hi hl) 39 = 100 := rfl
theorem mjln39 (w c : Nat) (hi : Nat → Nat → Int32) (hl : Nat → Nat → Int64) : mj_ln (mj_hw w c hi hl) 39 = 7 := rfl
theorem mjkd40 (w c : Nat) (hi : Nat → Nat → Int32) (hl : Nat → Nat → Int64) : mj_kd (mj_hw w c hi hl) 40 = 100 := rfl
theorem mjln40 (w c : Nat) (hi : Nat → Nat → Int32) (hl : Nat → Nat → Int64) : mj_ln (mj_hw w c hi hl) 40 = 7 := rfl
theorem mjkd41 (w c : Nat) (hi : Nat → Nat → Int32) (hl : Nat → Nat → Int64) : mj_kd (mj_hw w c hi hl) 41 = 100 := rfl
theorem mjln41 (w c : Nat) (hi : Nat → Nat → Int32) (hl : Nat → Nat → Int64) : mj_ln (mj_hw w c hi hl) 41 = 12 := rfl
theorem mjkd42 (w c : Nat) (hi : Nat → Nat → Int32) (hl : Nat → Nat → Int64) : mj_kd (mj_hw w c hi hl) 42 = 100 := rfl
theorem mjln42 (w c : Nat) (hi : Nat → Nat → Int32) (hl : Nat → Nat → Int64) : mj_ln (mj_hw w c hi hl) 42 = 150 := rfl
theorem mjkd43 (w c : Nat) (hi : Nat → Nat → Int32) (hl : Nat → Nat → Int64) : mj_kd (mj_hw w c hi hl) 43 = 100 := rfl
theorem mjln43 (w c : Nat) (hi : Nat → Nat → Int32) (hl : Nat → Nat → Int64) : mj_ln (mj_hw w c hi hl) 43 = 150 := rfl
theorem mjkd44 (w c : Nat) (hi : Nat → Nat → Int32) (hl : Nat → Nat → Int64) : mj_kd (mj_hw w c hi hl) 44 = 100 := rfl
theorem mjln44 (w c : Nat) (hi : Nat → Nat → Int32) (hl : Nat → Nat → Int64) : mj_ln (mj_hw w c hi hl) 44 = 150 := rfl
theorem mjkd45 (w c : Nat) (hi : Nat → Nat → Int32) (hl : Nat → Nat → Int64) : mj_kd (mj_hw w c hi hl) 45 = 100 := rfl
theorem mjln45 (w c : Nat) (hi : Nat → Nat → Int32) (hl : Nat → Nat → Int64) : mj_ln (mj_hw w c hi hl) 45 = 150 := rfl
theorem mjkd46 (w c : Nat) (hi : Nat → Nat → Int32) (hl : Nat → Nat → Int64) : mj_kd (mj_hw w c hi hl) 46 = 10 := rfl
theorem mjhr46_0 (w c : Nat) : mj_HR w c 46 0 = .ref 47 := mj_RL_at (show (46, 0, .ref 47) ∈ mj_RL from List.mem_of_getElem? (i := 53) rfl)
theorem mjhr46_1 (w c : Nat) : mj_HR w c 46 1 = .ref 58 := mj_RL_at (show (46, 1, .ref 58) ∈ mj_RL from List.mem_of_getElem? (i := 54) rfl)
theorem mjhr46_2 (w c : Nat) : mj_HR w c 46 2 = .ref 67 := mj_RL_at (show (46, 2, .ref 67) ∈ mj_RL from List.mem_of_getElem? (i := 55) rfl)
theorem mjhr46_3 (w c : Nat) : mj_HR w c 46 3 = .ref 71 := mj_RL_at (show (46, 3, .ref 71) ∈ mj_RL from List.mem_of_getElem? (i := 56) rfl)
theorem mjhr46_4 (w c : Nat) : mj_HR w c 46 4 = .ref 75 := mj_RL_at (show (46, 4, .ref 75) ∈ mj_RL from List.mem_of_getElem? (i := 57) rfl)
theorem mjhr46_5 (w c : Nat) : mj_HR w c 46 5 = .ref 79 := mj_RL_at (show (46, 5, .ref 79) ∈ mj_RL from List.mem_of_getElem? (i := 58) rfl)
theorem mjhr46_6 (w c : Nat) : mj_HR w c 46 6 = .ref 87 := mj_RL_at (show (46, 6, .ref 87) ∈ mj_RL from List.mem_of_getElem? (i := 59) rfl)
theorem mjhr46_7 (w c : Nat) : mj_HR w c 46 7 = .ref 88 := mj_RL_at (show (46, 7, .ref 88) ∈ mj_RL from List.mem_of_getElem? (i := 60) rfl)
theorem mjhr46_8 (w c : Nat) : mj_HR w c 46 8 = .ref 89 := mj_RL_at (show (46, 8, .ref 89) ∈ mj_RL from List.mem_of_getElem? (i := 61) rfl)
theorem mjhr46_9 (w c : Nat) : mj_HR w c 46 9 = .ref 90 := mj_RL_at (show (46, 9, .ref 90) ∈ mj_RL from List.mem_of_getElem? (i := 62) rfl)
theorem mjkd47 (w c : Nat) (hi : Nat → Nat → Int32) (hl : Nat → Nat → Int64) : mj_kd (mj_hw w c hi hl) 47 = 7 := rfl
theorem mjhr47_7 (w c : Nat) : mj_HR w c 47 7 = .ref 48 := mj_RL_at (show (47, 7, .ref 48) ∈ mj_RL from List.mem_of_getElem? (i := 63) rfl)
theorem mjhr47_8 (w c : Nat) : mj_HR w c 47 8 = .ref 49 := mj_RL_at (show (47, 8, .ref 49) ∈ mj_RL from List.mem_of_getElem? (i := 64) rfl)
theorem mjhr47_9 (w c : Nat) : mj_HR w c 47 9 = .ref 50 := mj_RL_at (show (47, 9, .ref 50) ∈ mj_RL from List.mem_of_getElem? (i := 65) rfl)
theorem mjhr47_10 (w c : Nat) : mj_HR w c 47 10 = .ref 51 := mj_RL_at (show (47, 10, .ref 51) ∈ mj_RL from List.mem_of_getElem? (i := 66) rfl)
theorem mjhr47_11 (w c : Nat) : mj_HR w c 47 11 = .ref 52 := mj_RL_at (show (47, 11, .ref 52) ∈ mj_RL from List.mem_of_getElem? (i := 67) rfl)
theorem mjhr47_12 (w c : Nat) : mj_HR w c 47 12 = .ref 53 := mj_RL_at (show (47, 12, .ref 53) ∈ mj_RL from List.mem_of_getElem? (i := 68) rfl)
theorem mjhr47_13 (w c : Nat) : mj_HR w c 47 13 = .ref 54 := mj_RL_at (show (47, 13, .ref 54) ∈ mj_RL from List.mem_of_getElem? (i := 69) rfl)
theorem mjhr47_14 (w c : Nat) : mj_HR w c 47 14 = .ref 55 := mj_RL_at (show (47, 14, .ref 55) ∈ mj_RL from List.mem_of_getElem? (i := 70) rfl)
theorem mjhr47_15 (w c : Nat) : mj_HR w c 47 15 = .ref 56 := mj_RL_at (show (47, 15, .ref 56) ∈ mj_RL from List.mem_of_getElem? (i := 71) rfl)
theorem mjhr47_16 (w c : Nat) : mj_HR w c 47 16 = .ref 57 := mj_RL_at (show (47, 16, .ref 57) ∈ mj_RL from List.mem_of_getElem? (i := 72) rfl)
theorem mjkd48 (w c : Nat) (hi : Nat → Nat → Int32) (hl : Nat → Nat → Int64) : mj_kd (mj_hw w c hi hl) 48 = 100 := rfl
theorem mjln48 (w c : Nat) (hi : Nat → Nat → Int32) (hl : Nat → Nat → Int64) : mj_ln (mj_hw w c hi hl) 48 = 10 := rfl
theorem mjkd49 (w c : Nat) (hi : Nat → Nat → Int32) (hl : Nat → Nat → Int64) : mj_kd (mj_hw w c hi hl) 49 = 100 := rfl
theorem mjln49 (w c : Nat) (hi : Nat → Nat → Int32) (hl : Nat → Nat → Int64) : mj_ln (mj_hw w c hi hl) 49 = 10 := rfl
theorem mjkd50 (w c : Nat) (hi : Nat → Nat → Int32) (hl : Nat → Nat → Int64) : mj_kd (mj_hw w c hi hl) 50 = 100 := rfl
theorem mjln50 (w c : Nat) (hi : Nat → Nat → Int32) (hl : Nat → Nat → Int64) : mj_ln (mj_hw w c hi hl) 50 = 10 := rfl
theorem mjkd51 (w c : Nat) (hi : Nat → Nat → Int32) (hl : Nat → Nat → Int64) : mj_kd (mj_hw w c hi hl) 51 = 100 := rfl
theorem mjln51 (w c : Nat) (hi : Nat → Nat → Int32) (hl : Nat → Nat → Int64) : mj_ln (mj_hw w c hi hl) 51 = 10 := rfl
theorem mjkd52 (w c : Nat) (hi : Nat → Nat → Int32) (hl : Nat → Nat → Int64) : mj_kd (mj_hw w c hi hl) 52 = 100 := rfl
theorem mjln52 (w c : Nat) (hi : Nat → Nat → Int32) (hl : Nat → Nat → Int64) : mj_ln (mj_hw w c hi hl) 52 = 10 := rfl
theorem mjkd53 (w c : Nat) (hi : Nat → Nat → Int32) (hl : Nat → Nat → Int64) : mj_kd (mj_hw w c hi hl) 53 = 100 := rfl
theorem mjln53 (w c : Nat) (hi : Nat → Nat → Int32) (hl : Nat → Nat → Int64) : mj_ln (mj_hw w c hi hl) 53 = 10 := rfl
theorem mjkd54 (w c : Nat) (hi : Nat → Nat → Int32) (hl : Nat → Nat → Int64) : mj_kd (mj_hw w c hi hl) 54 = 100 := rfl
theorem mjln54 (w c : Nat) (hi : Nat → Nat → Int32) (hl : Nat → Nat → Int64) : mj_ln (mj_hw w c hi hl) 54 = 10 := rfl
theorem mjkd55 (w c : Nat) (hi : Nat → Nat → Int32) (hl : Nat → Nat → Int64) : mj_kd (mj_hw w c hi hl) 55 = 100 := rfl
theorem mjln55 (w c : Nat) (hi : Nat → Nat → Int32) (hl : Nat → Nat → Int64) : mj_ln (mj_hw w c hi hl) 55 = 12 := rfl
theorem mjkd56 (w c : Nat) (hi : Nat → Nat → Int32) (hl : Nat → Nat → Int64) : mj_kd (mj_hw w c hi hl) 56 = 100 := rfl
theorem mjln56 (w c : Nat) (hi : Nat → Nat → Int32) (hl : Nat → Nat → Int64) : mj_ln (mj_hw w c hi hl) 56 = 12 := rfl
theorem mjkd57 (w c : Nat) (hi : Nat → Nat → Int32) (hl : Nat → Nat → Int64) : mj_kd (mj_hw w c hi hl) 57 = 100 := rfl
theorem mjln57 (w c : Nat) (hi : Nat → Nat → Int32) (hl : Nat → Nat → Int64) : mj_ln (mj_hw w c hi hl) 57 = 12 := rfl
theorem mjkd58 (w c : Nat) (hi : Nat → Nat → Int32) (hl : Nat → Nat → Int64) : mj_kd (mj_hw w c hi hl) 58 = 2 := rfl
theorem mjhr58_2 (w c : Nat) : mj_HR w c 58 2 = .ref 59 := mj_RL_at (show (58, 2, .ref 59) ∈ mj_RL from List.mem_of_getElem? (i := 73) rfl)
theorem mjhr58_3 (w c : Nat) : mj_HR w c 58 3 = .ref 60 := mj_RL_at (show (58, 3, .ref 60) ∈ mj_RL from List.mem_of_getElem? (i := 74) rfl)
theorem mjhr58_4 (w c : Nat) : mj_HR w c 58 4 = .ref 61 := mj_RL_at (show (58, 4, .ref 61) ∈ mj_RL from List.mem_of_getElem? (i := 75) rfl)
theorem mjhr58_5 (w c : Nat) : mj_HR w c 58 5 = .ref 62 := mj_RL_at (show (58, 5, .ref 62) ∈ mj_RL from List.mem_of_getElem? (i := 76) rfl)
theorem mjhr58_6 (w c : Nat) : mj_HR w c 58 6 = .ref 63 := mj_RL_at (show (58, 6, .ref 63) ∈ mj_RL from List.mem_of_getElem? (i := 77) rfl)
theorem mjhr58_7 (w c : Nat) : mj_HR w c 58 7 = .ref 64 := mj_RL_at (show (58, 7, .ref 64) ∈ mj_RL from List.mem_of_getElem? (i := 78) rfl)
theorem mjhr58_8 (w c : Nat) : mj_HR w c 58 8 = .ref 65 := mj_RL_at (show (58, 8, .ref 65) ∈ mj_RL from List.mem_of_getElem? (i := 79) rfl)
theorem mjhr58_9 (w c : Nat) : mj_HR w c 58 9 = .ref 66 := mj_RL_at (show (58, 9, .ref 66) ∈ mj_RL from List.mem_of_getElem? (i := 80) rfl)
theorem mjkd59 (w c : Nat) (hi : Nat → Nat → Int32) (hl : Nat → Nat → Int64) : mj_kd (mj_hw w c hi hl) 59 = 100 := rfl
theorem mjln59 (w c : Nat) (hi : Nat → Nat → Int32) (hl : Nat → Nat → Int64) : mj_ln (mj_hw w c hi hl) 59 = 16 := rfl
theorem mjkd60 (w c : Nat) (hi : Nat → Nat → Int32) (hl : Nat → Nat → Int64) : mj_kd (mj_hw w c hi hl) 60 = 100 := rfl
theorem mjln60 (w c : Nat) (hi : Nat → Nat → Int32) (hl : Nat → Nat → Int64) : mj_ln (mj_hw w c hi hl) 60 = 16 := rfl
theorem mjkd61 (w c : Nat) (hi : Nat → Nat → Int32) (hl : Nat → Nat → Int64) : mj_kd (mj_hw w c hi hl) 61 = 100 := rfl
theorem mjln61 (w c : Nat) (hi : Nat → Nat → Int32) (hl : Nat → Nat → Int64) : mj_ln (mj_hw w c hi hl) 61 = 16 := rfl
theorem mjkd62 (w c : Nat) (hi : Nat → Nat → Int32) (hl : Nat → Nat → Int64) : mj_kd (mj_hw w c hi hl) 62 = 100 := rfl
theorem mjln62 (w c : Nat) (hi : Nat → Nat → Int32) (hl : Nat → Nat → Int64) : mj_ln (mj_hw w c hi hl) 62 = 16 := rfl
theorem mjkd63 (w c : Nat) (hi : Nat → Nat → Int32) (hl : Nat → Nat → Int64) : mj_kd (mj_hw w c hi hl) 63 = 100 := rfl
theorem mjln63 (w c : Nat) (hi : Nat → Nat → Int32) (hl : Nat → Nat → Int64) : mj_ln (mj_hw w c hi hl) 63 = 400 := rfl
theorem mjkd64 (w c : Nat) (hi : Nat → Nat → Int32) (hl : Nat → Nat → Int64) : mj_kd (mj_hw w c hi hl) 64 = 100 := rfl
theorem mjln64 (w c : Nat) (hi : Nat → Nat → Int32) (hl : Nat → Nat → Int64) : mj_ln (mj_hw w c hi hl) 64 = 400 := rfl
theorem mjkd65 (w c : Nat) (hi : Nat → Nat → Int32) (hl : Nat → Nat → Int64) : mj_kd (mj_hw w c hi hl) 65 = 100 := rfl
theorem mjln65 (w c : Nat) (hi : Nat → Nat → Int32) (hl : Nat → Nat → Int64) : mj_ln (mj_hw w c hi hl) 65 = 10 := rfl
theorem mjkd66 (w c : Nat) (hi : Nat → Nat → Int32) (hl : Nat → Nat → Int64) : mj_kd (mj_hw w c hi hl) 66 = 100 := rfl
theorem mjln66 (w c : Nat) (hi : Nat → Nat → Int32) (hl : Nat → Nat → Int64) : mj_ln (mj_hw w c hi hl) 66 = 32 := rfl
theorem mjkd67 (w c : Nat) (hi : Nat → Nat → Int32) (hl : Nat → Nat → Int64) : mj_kd (mj_hw w c hi hl) 67 = 3 := rfl
theorem mjhr67_1 (w c : Nat) : mj_HR w c 67 1 = .ref 68 := mj_RL_at (show (67, 1, .ref 68) ∈ mj_RL from List.mem_of_getElem? (i := 81) rfl)
theorem mjhr67_2 (w c : Nat) : mj_HR w c 67 2 = .ref 69 := mj_RL_at (show (67, 2, .ref 69) ∈ mj_RL from List.mem_of_getElem? (i := 82) rfl)
theorem mjhr67_3 (w c : Nat) : mj_HR w c 67 3 = .ref 70 := mj_RL_at (show (67, 3, .ref 70) ∈ mj_RL from List.mem_of_getElem? (i := 83) rfl)
theorem mjkd68 (w c : Nat) (hi : Nat → Nat → Int32) (hl : Nat → Nat → Int64) : mj_kd (mj_hw w c hi hl) 68 = 100 := rfl
theorem mjln68 (w c : Nat) (hi : Nat → Nat → Int32) (hl : Nat → Nat → Int64) : mj_ln (mj_hw w c hi hl) 68 = 16 := rfl
theorem mjkd69 (w c : Nat) (hi : Nat → Nat → Int32) (hl : Nat → Nat → Int64) : mj_kd (mj_hw w c hi hl) 69 = 100 := rfl
theorem mjln69 (w c : Nat) (hi : Nat → Nat → Int32) (hl : Nat → Nat → Int64) : mj_ln (mj_hw w c hi hl) 69 = 16 := rfl
theorem mjkd70 (w c : Nat) (hi : Nat → Nat → Int32) (hl : Nat → Nat → Int64) : mj_kd (mj_hw w c hi hl) 70 = 100 := rfl
theorem mjln70 (w c : Nat) (hi : Nat → Nat → Int32) (hl : Nat → Nat → Int64) : mj_ln (mj_hw w c hi hl) 70 = 16 := rfl
theorem mjkd71 (w c : Nat) (hi : Nat → Nat → Int32) (hl : Nat → Nat → Int64) : mj_kd (mj_hw w c hi hl) 71 = 3 := rfl
theorem mjhr71_1 (w c : Nat) : mj_HR w c 71 1 = .ref 72 := mj_RL_at (show (71, 1, .ref 72) ∈ mj_RL from List.mem_of_getElem? (i := 84) rfl)
theorem mjhr71_2 (w c : Nat) : mj_HR w c 71 2 = .ref 73 := mj_RL_at (show (71, 2, .ref 73) ∈ mj_RL from List.mem_of_getElem? (i := 85) rfl)
theorem mjhr71_3 (w c : Nat) : mj_HR w c 71 3 = .ref 74 := mj_RL_at (show (71, 3, .ref 74) ∈ mj_RL from List.mem_of_getElem? (i := 86) rfl)
theorem mjkd72 (w c : Nat) (hi : Nat → Nat → Int32) (hl : Nat → Nat → Int64) : mj_kd (mj_hw w c hi hl) 72 = 100 := rfl
theorem mjln72 (w c : Nat) (hi : Nat → Nat → Int32) (hl : Nat → Nat → Int64) : mj_ln (mj_hw w c hi hl) 72 = 16 := rfl
theorem mjkd73 (w c : Nat) (hi : Nat → Nat → Int32) (hl : Nat → Nat → Int64) : mj_kd (mj_hw w c hi hl) 73 = 100 := rfl
theorem mjln73 (w c : Nat) (hi : Nat → Nat → Int32) (hl : Nat → Nat → Int64) : mj_ln (mj_hw w c hi hl) 73 = 16 := rfl
theorem mjkd74 (w c : Nat) (hi : Nat → Nat → Int32) (hl : Nat → Nat → Int64) : mj_kd (mj_hw w c hi hl) 74 = 100 := rfl
theorem mjln74 (w c : Nat) (hi : Nat → Nat → Int32) (hl : Nat → Nat → Int64) : mj_ln (mj_hw w c hi hl) 74 = 16 := rfl
theorem mjkd75 (w c : Nat) (hi : Nat → Nat → Int32) (hl : Nat → Nat → Int64) : mj_kd (mj_hw w c hi hl) 75 = 3 := rfl
theorem mjhr75_1 (w c : Nat) : mj_HR w c 75 1 = .ref 76 := mj_RL_at (show (75, 1, .ref 76) ∈ mj_RL from List.mem_of_getElem? (i := 87) rfl)
theorem mjhr75_2 (w c : Nat) : mj_HR w c 75 2 = .ref 77 := mj_RL_at (show (75, 2, .ref 77) ∈ mj_RL from List.mem_of_getElem? (i := 88) rfl)
theorem mjhr75_3 (w c : Nat) : mj_HR w c 75 3 = .ref 78 := mj_RL_at (show (75, 3, .ref 78) ∈ mj_RL from List.mem_of_getElem? (i := 89) rfl)
theorem mjkd76 (w c : Nat) (hi : Nat → Nat → Int32) (hl : Nat → Nat → Int64) : mj_kd (mj_hw w c hi hl) 76 = 100 := rfl
theorem mjln76 (w c : Nat) (hi : Nat → Nat → Int32) (hl : Nat → Nat → Int64) : mj_ln (mj_hw w c hi hl) 76 = 16 := rfl
theorem mjkd77 (w c : Nat) (hi : Nat → Nat → Int32) (hl : Nat → Nat → Int64) : mj_kd (mj_hw w c hi hl) 77 = 100 := rfl
theorem mjln77 (w c : Nat) (hi : Nat → Nat → Int32) (hl : Nat → Nat → Int64) : mj_ln (mj_hw w c hi hl) 77 = 16 := rfl
theorem mjkd78 (w c : Nat) (hi : Nat → Nat → Int32) (hl : Nat → Nat → Int64) : mj_kd (mj_hw w c hi hl) 78 = 100 := rfl
theorem mjln78 (w c : Nat) (hi : Nat → Nat → Int32) (hl : Nat → Nat → Int64) : mj_ln (mj_hw w c hi hl) 78 = 16 := rfl
theorem mjkd79 (w c : Nat) (hi : Nat → Nat → Int32) (hl : Nat → Nat → Int64) : mj_kd (mj_hw w c hi hl) 79 = 9 := rfl
theorem mjhr79_1 (w c : Nat) : mj_HR w c 79 1 = .ref 80 := mj_RL_at (show (79, 1, .ref 80) ∈ mj_RL from List.mem_of_getElem? (i := 90) rfl)
theorem mjhr79_2 (w c : Nat) : mj_HR w c 79 2 = .ref 81 := mj_RL_at (show (79, 2, .ref 81) ∈ mj_RL from List.mem_of_getElem? (i := 91) rfl)
theorem mjhr79_4 (w c : Nat) : mj_HR w c 79 4 = .ref 82 := mj_RL_at (show (79, 4, .ref 82) ∈ mj_RL from List.mem_of_getElem? (i := 92) rfl)
theorem mjhr79_5 (w c : Nat) : mj_HR w c 79 5 = .ref 83 := mj_RL_at (show (79, 5, .ref 83) ∈ mj_RL from List.mem_of_getElem? (i := 93) rfl)
theorem mjhr79_7 (w c : Nat) : mj_HR w c 79 7 = .ref 84 := mj_RL_at (show (79, 7, .ref 84) ∈ mj_RL from List.mem_of_getElem? (i := 94) rfl)
theorem mjhr79_8 (w c : Nat) : mj_HR w c 79 8 = .ref 85 := mj_RL_at (show (79, 8, .ref 85) ∈ mj_RL from List.mem_of_getElem? (i := 95) rfl)
theorem mjhr79_10 (w c : Nat) : mj_HR w c 79 10 = .ref 86 := mj_RL_at (show (79, 10, .ref 86) ∈ mj_RL from List.mem_of_getElem? (i := 96) rfl)
theorem mjkd80 (w c : Nat) (hi : Nat → Nat → Int32) (hl : Nat → Nat → Int64) : mj_kd (mj_hw w c hi hl) 80 = 100 := rfl
theorem mjln80 (w c : Nat) (hi : Nat → Nat → Int32) (hl : Nat → Nat → Int64) : mj_ln (mj_hw w c hi hl) 80 = 16 := rfl
theorem mjkd81 (w c : Nat) (hi : Nat → Nat → Int32) (hl : Nat → Nat → Int64) : mj_kd (mj_hw w c hi hl) 81 = 100 := rfl
theorem mjln81 (w c : Nat) (hi : Nat → Nat → Int32) (hl : Nat → Nat → Int64) : mj_ln (mj_hw w c hi hl) 81 = 16 := rfl
theorem mjkd82 (w c : Nat) (hi : Nat → Nat → Int32) (hl : Nat → Nat → Int64) : mj_kd (mj_hw w c hi hl) 82 = 100 := rfl
theorem mjln82 (w c : Nat) (hi : Nat → Nat → Int32) (hl : Nat → Nat → Int64) : mj_ln (mj_hw w c hi hl) 82 = 6 := rfl
theorem mjkd83 (w c : Nat) (hi : Nat → Nat → Int32) (hl : Nat → Nat → Int64) : mj_kd (mj_hw w c hi hl) 83 = 100 := rfl
theorem mjln83 (w c : Nat) (hi : Nat → Nat → Int32) (hl : Nat → Nat → Int64) : mj_ln (mj_hw w c hi hl) 83 = 8 := rfl
theorem mjkd84 (w c : Nat) (hi : Nat → Nat → Int32) (hl : Nat → Nat → Int64) : mj_kd (mj_hw w c hi hl) 84 = 100 := rfl
theorem mjln84 (w c : Nat) (hi : Nat → Nat → Int32) (hl : Nat → Nat → Int64) : mj_ln (mj_hw w c hi hl) 84 = 7 := rfl
theorem mjkd85 (w c : Nat) (hi : Nat → Nat → Int32) (hl : Nat → Nat → Int64) : mj_kd (mj_hw w c hi hl) 85 = 100 := rfl
theorem mjln85 (w c : Nat) (hi : Nat → Nat → Int32) (hl : Nat → Nat → Int64) : mj_ln (mj_hw w c hi hl) 85 = 7 := rfl
theorem mjkd86 (w c : Nat) (hi : Nat → Nat → Int32) (hl : Nat → Nat → Int64) : mj_kd (mj_hw w c hi hl) 86 = 100 := rfl
theorem mjln86 (w c : Nat) (hi : Nat → Nat → Int32) (hl : Nat → Nat → Int64) : mj_ln (mj_hw w c hi hl) 86 = 12 := rfl
theorem mjkd87 (w c : Nat) (hi : Nat → Nat → Int32) (hl : Nat → Nat → Int64) : mj_kd (mj_hw w c hi hl) 87 = 100 := rfl
theorem mjln87 (w c : Nat) (hi : Nat → Nat → Int32) (hl : Nat → Nat → Int64) : mj_ln (mj_hw w c hi hl) 87 = 150 := rfl
theorem mjkd88 (w c : Nat) (hi : Nat → Nat → Int32) (hl : Nat → Nat → Int64) : mj_kd (mj_hw w c hi hl) 88 = 100 := rfl
theorem mjln88 (w c : Nat) (hi : Nat → Nat → Int32) (hl : Nat → Nat → Int64) : mj_ln (mj_hw w c hi hl) 88 = 150 := rfl
theorem mjkd89 (w c : Nat) (hi : Nat → Nat → Int32) (hl : Nat → Nat → Int64) : mj_kd (mj_hw w c hi hl) 89 = 100 := rfl
theorem mjln89 (w c : Nat) (hi : Nat → Nat → Int32) (hl : Nat → Nat → Int64) : mj_ln (mj_hw w c hi hl) 89 = 150 := rfl
theorem mjkd90 (w c : Nat) (hi : Nat → Nat → Int32) (hl : Nat → Nat → Int64) : mj_kd (mj_hw w c hi hl) 90 = 100 := rfl
theorem mjln90 (w c : Nat) (hi : Nat → Nat → Int32) (hl : Nat → Nat → Int64) : mj_ln (mj_hw w c hi hl) 90 = 150 := rfl
theorem mjkd91 (w c : Nat) (hi : Nat → Nat → Int32) (hl : Nat → Nat → Int64) : mj_kd (mj_hw w c hi hl) 91 = 5 := rfl
theorem mjhr91_2 (w c : Nat) : mj_HR w c 91 2 = .ref 92 := mj_RL_at (show (91, 2, .ref 92) ∈ mj_RL from List.mem_of_getElem? (i := 97) rfl)
theorem mjkd92 (w c : Nat) (hi : Nat → Nat → Int32) (hl : Nat → Nat → Int64) : mj_kd (mj_hw w c hi hl) 92 = 103 := rfl
theorem mjln92 (w c : Nat) (hi : Nat → Nat → Int32) (hl : Nat → Nat → Int64) : mj_ln (mj_hw w c hi hl) 92 = 6 := rfl
theorem mjhr92_0 (w c : Nat) : mj_HR w c 92 0 = .ref 93 := mj_RL_at (show (92, 0, .ref 93) ∈ mj_RL from List.mem_of_getElem? (i := 98) rfl)
theorem mjhr92_1 (w c : Nat) : mj_HR w c 92 1 = .ref 104 := mj_RL_at (show (92, 1, .ref 104) ∈ mj_RL from List.mem_of_getElem? (i := 99) rfl)
theorem mjhr92_2 (w c : Nat) : mj_HR w c 92 2 = .ref 115 := mj_RL_at (show (92, 2, .ref 115) ∈ mj_RL from List.mem_of_getElem? (i := 100) rfl)
theorem mjhr92_3 (w c : Nat) : mj_HR w c 92 3 = .ref 126 := mj_RL_at (show (92, 3, .ref 126) ∈ mj_RL from List.mem_of_getElem? (i := 101) rfl)
theorem mjhr92_4 (w c : Nat) : mj_HR w c 92 4 = .ref 137 := mj_RL_at (show (92, 4, .ref 137) ∈ mj_RL from List.mem_of_getElem? (i := 102) rfl)
theorem mjhr92_5 (w c : Nat) : mj_HR w c 92 5 = .ref 148 := mj_RL_at (show (92, 5, .ref 148) ∈ mj_RL from List.mem_of_getElem? (i := 103) rfl)
theorem mjkd93 (w c : Nat) (hi : Nat → Nat → Int32) (hl : Nat → Nat → Int64) : mj_kd (mj_hw w c hi hl) 93 = 7 := rfl
theorem mjhr93_7 (w c : Nat) : mj_HR w c 93 7 = .ref 94 := mj_RL_at (show (93, 7, .ref 94) ∈ mj_RL from List.mem_of_getElem? (i := 104) rfl)
theorem mjhr93_8 (w c : Nat) : mj_HR w c 93 8 = .ref 95 := mj_RL_at (show (93, 8, .ref 95) ∈ mj_RL from List.mem_of_getElem? (i := 105) rfl)
theorem mjhr93_9 (w c : Nat) : mj_HR w c 93 9 = .ref 96 := mj_RL_at (show (93, 9, .ref 96) ∈ mj_RL from List.mem_of_getElem? (i := 106) rfl)
theorem mjhr93_10 (w c : Nat) : mj_HR w c 93 10 = .ref 97 := mj_RL_at (show (93, 10, .ref 97) ∈ mj_RL from List.mem_of_getElem? (i := 107) rfl)
theorem mjhr93_11 (w c : Nat) : mj_HR w c 93 11 = .ref 98 := mj_RL_at (show (93, 11, .ref 98) ∈ mj_RL from List.mem_of_getElem? (i := 108) rfl)
theorem mjhr93_12 (w c : Nat) : mj_HR w c 93 12 = .ref 99 := mj_RL_at (show (93, 12, .ref 99) ∈ mj_RL from List.mem_of_getElem? (i := 109) rfl)
theorem mjhr93_13 (w c : Nat) : mj_HR w c 93 13 = .ref 100 := mj_RL_at (show (93, 13, .ref 100) ∈ mj_RL from List.mem_of_getElem? (i := 110) rfl)
theorem mjhr93_14 (w c : Nat) : mj_HR w c 93 14 = .ref 101 := mj_RL_at (show (93, 14, .ref 101) ∈ mj_RL from List.mem_of_getElem? (i := 111) rfl)
theorem mjhr93_15 (w c : Nat) : mj_HR w c 93 15 = .ref 102 := mj_RL_at (show (93, 15, .ref 102) ∈ mj_RL from List.mem_of_getElem? (i := 112) rfl)
theorem mjhr93_16 (w c : Nat) : mj_HR w c 93 16 = .ref 103 := mj_RL_at (show (93, 16, .ref 103) ∈ mj_RL from List.mem_of_getElem? (i := 113) rfl)
theorem mjkd94 (w c : Nat) (hi : Nat → Nat → Int32) (hl : Nat → Nat → Int64) : mj_kd (mj_hw w c hi hl) 94 = 100 := rfl
theorem mjln94 (w c : Nat) (hi : Nat → Nat → Int32) (hl : Nat → Nat → Int64) : mj_ln (mj_hw w c hi hl) 94 = 10 := rfl
theorem mjkd95 (w c : Nat) (hi : Nat → Nat → Int32) (hl : Nat → Nat → Int64) : mj_kd (mj_hw w c hi hl) 95 = 100 := rfl
theorem mjln95 (w c : Nat) (hi : Nat → Nat → Int32) (hl : Nat → Nat → Int64) : mj_ln (mj_hw w c hi hl) 95 = 10 := rfl
theorem mjkd96 (w c : Nat) (hi : Nat → Nat → Int32) (hl : Nat → Nat → Int64) : mj_kd (mj_hw w c hi hl) 96 = 100 := rfl
theorem mjln96 (w c : Nat) (hi : Nat → Nat → Int32) (hl : Nat → Nat → Int64) : mj_ln (mj_hw w c hi hl) 96 = 10 := rfl
theorem mjkd97 (w c : Nat) (hi : Nat → Nat → Int32) (hl : Nat → Nat → Int64) : mj_kd (mj_hw w c hi hl) 97 = 100 := rfl
theorem mjln97 (w c : Nat) (hi : Nat → Nat → Int32) (hl : Nat → Nat → Int64) : mj_ln (mj_hw w c hi hl) 97 = 10 := rfl
theorem mjkd98 (w c : Nat) (hi : Nat → Nat → Int32) (hl : Nat → Nat → Int64) : mj_kd (mj_hw w c hi hl) 98 = 100 := rfl
theorem mjln98 (w c : Nat) (hi : Nat → Nat → Int32) (hl : Nat → Nat → Int64) : mj_ln (mj_hw w c hi hl) 98 = 10 := rfl
theorem mjkd99 (w c : Nat) (hi : Nat → Nat → Int32) (hl : Nat → Nat → Int64) : mj_kd (mj_hw w c hi hl) 99 = 100 := rfl
theorem mjln99 (w c : Nat) (hi : Nat → Nat → Int32) (hl : Nat → Nat → Int64) : mj_ln (mj_hw w c hi hl) 99 = 10 := rfl
theorem mjkd100 (w c : Nat) (hi : Nat → Nat → Int32) (hl : Nat → Nat → Int64) : mj_kd (mj_hw w c hi hl) 100 = 100 := rfl
theorem mjln100 (w c : Nat) (hi : Nat → Nat → Int32) (hl : Nat → Nat → Int64) : mj_ln (mj_hw w c hi hl) 100 = 10 := rfl
theorem mjkd101 (w c : Nat) (hi : Nat → Nat → Int32) (hl : Nat → Nat → Int64) : mj_kd (mj_hw w c hi hl) 101 = 100 := rfl
theorem mjln101 (w c : Nat) (hi : Nat → Nat → Int32) (hl : Nat → Nat → Int64) : mj_ln (mj_hw w c hi hl) 101 = 12 := rfl
theorem mjkd102 (w c : Nat) (hi : Nat → Nat → Int32) (hl : Nat → Nat → Int64) : mj_kd (mj_hw w c hi hl) 102 = 100 := rfl
theorem mjln102 (w c : Nat) (hi : Nat → Nat → Int32) (hl : Nat → Nat → Int64) : mj_ln (mj_hw w c hi hl) 102 = 12 := rfl
theorem mjkd103 (w c : Nat) (hi : Nat → Nat → Int32) (hl : Nat → Nat → Int64) : mj_kd (mj_hw w c hi hl) 103 = 100 := rfl
theorem mjln103 (w c : Nat) (hi : Nat → Nat → Int32) (hl : Nat → Nat → Int64) : mj_ln (mj_hw w c hi hl) 103 = 12 := rfl
theorem mjkd104 (w c : Nat) (hi : Nat → Nat → Int32) (hl : Nat → Nat → Int64) : mj_kd (mj_hw w c hi hl) 104 = 7 := rfl
theorem mjhr104_7 (w c : Nat) : mj_HR w c 104 7 = .ref 105 := mj_RL_at (show (104, 7, .ref 105) ∈ mj_RL from List.mem_of_getElem? (i := 114) rfl)
theorem mjhr104_8 (w c : Nat) : mj_HR w c 104 8 = .ref 106 := mj_RL_at (show (104, 8, .ref 106) ∈ mj_RL from List.mem_of_getElem? (i := 115) rfl)
theorem mjhr104_9 (w c : Nat) : mj_HR w c 104 9 = .ref 107 := mj_RL_at (show (104, 9, .ref 107) ∈ mj_RL from List.mem_of_getElem? (i := 116) rfl)
theorem mjhr104_10 (w c : Nat) : mj_HR w c 104 10 = .ref 108 := mj_RL_at (show (104, 10, .ref 108) ∈ mj_RL from List.mem_of_getElem? (i := 117) rfl)
theorem mjhr104_11 (w c : Nat) : mj_HR w c 104 11 = .ref 109 := mj_RL_at (show (104, 11, .ref 109) ∈ mj_RL from List.mem_of_getElem? (i := 118) rfl)
theorem mjhr104_12 (w c : Nat) : mj_HR w c 104 12 = .ref 110 := mj_RL_at (show (104, 12, .ref 110) ∈ mj_RL from List.mem_of_getElem? (i := 119) rfl)
theorem mjhr104_13 (w c : Nat) : mj_HR w c 104 13 = .ref 111 := mj_RL_at (show (104, 13, .ref 111) ∈ mj_RL from List.mem_of_getElem? (i := 120) rfl)
theorem mjhr104_14 (w c : Nat) : mj_HR w c 104 14 = .ref 112 := mj_RL_at (show (104, 14, .ref 112) ∈ mj_RL from List.mem_of_getElem? (i := 121) rfl)
theorem mjhr104_15 (w c : Nat) : mj_HR w c 104 15 = .ref 113 := mj_RL_at (show (104, 15, .ref 113) ∈ mj_RL from List.mem_of_getElem? (i := 122) rfl)
theorem mjhr104_16 (w c : Nat) : mj_HR w c 104 16 = .ref 114 := mj_RL_at (show (104, 16, .ref 114) ∈ mj_RL from List.mem_of_getElem? (i := 123) rfl)
theorem mjkd105 (w c : Nat) (hi : Nat → Nat → Int32) (hl : Nat → Nat → Int64) : mj_kd (mj_hw w c hi hl) 105 = 100 := rfl
theorem mjln105 (w c : Nat) (hi : Nat → Nat → Int32) (hl : Nat → Nat → Int64) : mj_ln (mj_hw w c hi hl) 105 = 10 := rfl
theorem mjkd106 (w c : Nat) (hi : Nat → Nat → Int32) (hl : Nat → Nat → Int64) : mj_kd (mj_hw w c hi hl) 106 = 100 := rfl
theorem mjln106 (w c : Nat) (hi : Nat → Nat → Int32) (hl : Nat → Nat → Int64) : mj_ln (mj_hw w c hi hl) 106 = 10 := rfl
theorem mjkd107 (w c : Nat) (hi : Nat → Nat → Int32) (hl : Nat → Nat → Int64) : mj_kd (mj_hw w c hi hl) 107 = 100 := rfl
theorem mjln107 (w c : Nat) (hi : Nat → Nat → Int32) (hl : Nat → Nat → Int64) : mj_ln (mj_hw w c hi hl) 107 = 10 := rfl
theorem mjkd108 (w c : Nat) (hi : Nat → Nat → Int32) (hl : Nat → Nat → Int64) : mj_kd (mj_hw w c hi hl) 108 = 100 := rfl
theorem mjln108 (w c : Nat) (hi : Nat → Nat → Int32) (hl : Nat → Nat → Int64) : mj_ln (mj_hw w c hi hl) 108 = 10 := rfl
theorem mjkd109 (w c : Nat) (hi : Nat → Nat → Int32) (hl : Nat → Nat → Int64) : mj_kd (mj_hw w c hi hl) 109 = 100 := rfl
theorem mjln109 (w c : Nat) (hi : Nat → Nat → Int32) (hl : Nat → Nat → Int64) : mj_ln (mj_hw w c hi hl) 109 = 10 := rfl
theorem mjkd110 (w c : Nat) (hi : Nat → Nat → Int32) (hl : Nat → Nat → Int64) : mj_kd (mj_hw w c hi hl) 110 = 100 := rfl
theorem mjln110 (w c : Nat) (hi : Nat → Nat → Int32) (hl : Nat → Nat → Int64) : mj_ln (mj_hw w c hi hl) 110 = 10 := rfl
theorem mjkd111 (w c : Nat) (hi : Nat → Nat → Int32) (hl : Nat → Nat → Int64) : mj_kd (mj_hw w c hi hl) 111 = 100 := rfl
theorem mjln111 (w c : Nat) (hi : Nat → Nat → Int32) (hl : Nat → Nat → Int64) : mj_ln (mj_hw w c hi hl) 111 = 10 := rfl
theorem mjkd112 (w c : Nat) (hi : Nat → Nat → Int32) (hl : Nat → Nat → Int64) : mj_kd (mj_hw w c hi hl) 112 = 100 := rfl
theorem mjln112 (w c : Nat) (hi : Nat → Nat → Int32) (hl : Nat → Nat → Int64) : mj_ln (mj_hw w c hi hl) 112 = 12 := rfl
theorem mjkd113 (w c : Nat) (hi : Nat → Nat → Int32) (hl : Nat → Nat → Int64) : mj_kd (mj_hw w c hi hl) 113 = 100 := rfl
theorem mjln113 (w c : Nat) (hi : Nat → Nat → Int32) (hl : Nat → Nat → Int64) : mj_ln (mj_hw w c hi hl) 113 = 12 := rfl
theorem mjkd114 (w c : Nat) (hi : Nat → Nat → Int32) (hl : Nat → Nat → Int64) : mj_kd (mj_hw w c hi hl) 114 = 100 := rfl
theorem mjln114 (w c : Nat) (hi : Nat → Nat → Int32) (hl : Nat → Nat → Int64) : mj_ln (mj_hw w c hi hl) 114 = 12 := rfl
theorem mjkd115 (w c : Nat) (hi : Nat → Nat → Int32) (hl : Nat → Nat → Int64) : mj_kd (mj_hw w c hi hl) 115 = 7 := rfl
theorem mjhr115_7 (w c : Nat) : mj_HR w c 115 7 = .ref 116 := mj_RL_at (show (115, 7, .ref 116) ∈ mj_RL from List.mem_of_getElem? (i := 124) rfl)
theorem mjhr115_8 (w c : Nat) : mj_HR w c 115 8 = .ref 117 := mj_RL_at (show (115, 8, .ref 117) ∈ mj_RL from List.mem_of_getElem? (i := 125) rfl)
theorem mjhr115_9 (w c : Nat) : mj_HR w c 115 9 = .ref 118 := mj_RL_at (show (115, 9, .ref 118) ∈ mj_RL from List.mem_of_getElem? (i := 126) rfl)
theorem mjhr115_10 (w c : Nat) : mj_HR w c 115 10 = .ref 119 := mj_RL_at (show (115, 10, .ref 119) ∈ mj_RL from List.mem_of_getElem? (i := 127) rfl)
theorem mjhr115_11 (w c : Nat) : mj_HR w c 115 11 = .ref 120 := mj_RL_at (show (115, 11, .ref 120) ∈ mj_RL from List.mem_of_getElem? (i := 128) rfl)
theorem mjhr115_12 (w c : Nat) : mj_HR w c 115 12 = .ref 121 := mj_RL_at (show (115, 12, .ref 121) ∈ mj_RL from List.mem_of_getElem? (i := 129) rfl)
theorem mjhr115_13 (w c : Nat) : mj_HR w c 115 13 = .ref 122 := mj_RL_at (show (115, 13, .ref 122) ∈ mj_RL from List.mem_of_getElem? (i := 130) rfl)
theorem mjhr115_14 (w c : Nat) : mj_HR w c 115 14 = .ref 123 := mj_RL_at (show (115, 14, .ref 123) ∈ mj_RL from List.mem_of_getElem? (i := 131) rfl)
theorem mjhr115_15 (w c : Nat) : mj_HR w c 115 15 = .ref 124 := mj_RL_at (show (115, 15, .ref 124) ∈ mj_RL from List.mem_of_getElem? (i := 132) rfl)
theorem mjhr115_16 (w c : Nat) : mj_HR w c 115 16 = .ref 125 := mj_RL_at (show (115, 16, .ref 125) ∈ mj_RL from List.mem_of_getElem? (i := 133) rfl)
theorem mjkd116 (w c : Nat) (hi : Nat → Nat → Int32) (hl : Nat → Nat → Int64) : mj_kd (mj_hw w c hi hl) 116 = 100 := rfl
theorem mjln116 (w c : Nat) (hi : Nat → Nat → Int32) (hl : Nat → Nat → Int64) : mj_ln (mj_hw w c hi hl) 116 = 10 := rfl
theorem mjkd117 (w c : Nat) (hi : Nat → Nat → Int32) (hl : Nat → Nat → Int64) : mj_kd (mj_hw w c hi hl) 117 = 100 := rfl
theorem mjln117 (w c : Nat) (hi : Nat → Nat → Int32) (hl : Nat → Nat → Int64) : mj_ln (mj_hw w c hi hl) 117 = 10 := rfl
theorem mjkd118 (w c : Nat) (hi : Nat → Nat → Int32) (hl : Nat → Nat → Int64) : mj_kd (mj_hw w c hi hl) 118 = 100 := rfl
theorem mjln118 (w c : Nat) (hi : Nat → Nat → Int32) (hl : Nat → Nat → Int64) : mj_ln (mj_hw w c hi hl) 118 = 10 := rfl
theorem mjkd119 (w c : Nat) (hi : Nat → Nat → Int32) (hl : Nat → Nat → Int64) : mj_kd (mj_hw w c hi hl) 119 = 100 := rfl
theorem mjln119 (w c : Nat) (hi : Nat → Nat → Int32) (hl : Nat → Nat → Int64) : mj_ln (mj_hw w c hi hl) 119 = 10 := rfl
theorem mjkd120 (w c : Nat) (hi : Nat → Nat → Int32) (hl : Nat → Nat → Int64) : mj_kd (mj_hw w c hi hl) 120 = 100 := rfl
theorem mjln120 (w c : Nat) (hi : Nat → Nat → Int32) (hl : Nat → Nat → Int64) : mj_ln (mj_hw w c hi hl) 120 = 10 := rfl
theorem mjkd121 (w c : Nat) (hi : Nat → Nat → Int32) (hl : Nat → Nat → Int64) : mj_kd (mj_hw w c hi hl) 121 = 100 := rfl
theorem mjln121 (w c : Nat) (hi : Nat → Nat → Int32) (hl : Nat → Nat → Int64) : mj_ln (mj_hw w c hi hl) 121 = 10 := rfl
theorem mjkd122 (w c : Nat) (hi : Nat → Nat → Int32) (hl : Nat → Nat → Int64) : mj_kd (mj_hw w c hi hl) 122 = 100 := rfl
theorem mjln122 (w c : Nat) (hi : Nat → Nat → Int32) (hl : Nat → Nat → Int64) : mj_ln (mj_hw w c hi hl) 122 = 10 := rfl
theorem mjkd123 (w c : Nat) (hi : Nat → Nat → Int32) (hl : Nat → Nat → Int64) : mj_kd (mj_hw w c hi hl) 123 = 100 := rfl
theorem mjln123 (w c : Nat) (hi : Nat → Nat → Int32) (hl : Nat → Nat → Int64) : mj_ln (mj_hw w c hi hl) 123 = 12 := rfl
theorem mjkd124 (w c : Nat) (hi : Nat → Nat → Int32) (hl : Nat → Nat → Int64) : mj_kd (mj_hw w c hi hl) 124 = 100 := rfl
theorem mjln124 (w c : Nat) (hi : Nat → Nat → Int32) (hl : Nat → Nat → Int64) : mj_ln (mj_hw w c hi hl) 124 = 12 := rfl
theorem mjkd125 (w c : Nat) (hi : Nat → Nat → Int32) (hl : Nat → Nat → Int64) : mj_kd (mj_hw w c hi hl) 125 = 100 := rfl
theorem mjln125 (w c : Nat) (hi : Nat → Nat → Int32) (hl : Nat → Nat → Int64) : mj_ln (mj_hw w c hi hl) 125 = 12 := rfl
theorem mjkd126 (w c : Nat) (hi : Nat → Nat → Int32) (hl : Nat → Nat → Int64) : mj_kd (mj_hw w c hi hl) 126 = 7 := rfl
theorem mjhr126_7 (w c : Nat) : mj_HR w c 126 7 = .ref 127 := mj_RL_at (show (126, 7, .ref 127) ∈ mj_RL from List.mem_of_getElem? (i := 134) rfl)
theorem mjhr126_8 (w c : Nat) : mj_HR w c 126 8 = .ref 128 := mj_RL_at (show (126, 8, .ref 128) ∈ mj_RL from List.mem_of_getElem? (i := 135) rfl)
theorem mjhr126_9 (w c : Nat) : mj_HR w c 126 9 = .ref 129 := mj_RL_at (show (126, 9, .ref 129) ∈ mj_RL from List.mem_of_getElem? (i := 136) rfl)
theorem mjhr126_10 (w c : Nat) : mj_HR w c 126 10 = .ref 130 := mj_RL_at (show (126, 10, .ref 130) ∈ mj_RL from List.mem_of_getElem? (i := 137) rfl)
theorem mjhr126_11 (w c : Nat) : mj_HR w c 126 11 = .ref 131 := mj_RL_at (show (126, 11, .ref 131) ∈ mj_RL from List.mem_of_getElem? (i := 138) rfl)
theorem mjhr126_12 (w c : Nat) : mj_HR w c 126 12 = .ref 132 := mj_RL_at (show (126, 12, .ref 132) ∈ mj_RL from List.mem_of_getElem? (i := 139) rfl)
theorem mjhr126_13 (w c : Nat) : mj_HR w c 126 13 = .ref 133 := mj_RL_at (show (126, 13, .ref 133) ∈ mj_RL from List.mem_of_getElem? (i := 140) rfl)
theorem mjhr126_14 (w c : Nat) : mj_HR w c 126 14 = .ref 134 := mj_RL_at (show (126, 14, .ref 134) ∈ mj_RL from List.mem_of_getElem? (i := 141) rfl)
theorem mjhr126_15 (w c : Nat) : mj_HR w c 126 15 = .ref 135 := mj_RL_at (show (126, 15, .ref 135) ∈ mj_RL from List.mem_of_getElem? (i := 142) rfl)
theorem mjhr126_16 (w c : Nat) : mj_HR w c 126 16 = .ref 136 := mj_RL_at (show (126, 16, .ref 136) ∈ mj_RL from List.mem_of_getElem? (i := 143) rfl)
theorem mjkd127 (w c : Nat) (hi : Nat → Nat → Int32) (hl : Nat → Nat → Int64) : mj_kd (mj_hw w c hi hl) 127 = 100 := rfl
theorem mjln127 (w c : Nat) (hi : Nat → Nat → Int32) (hl : Nat → Nat → Int64) : mj_ln (mj_hw w c hi hl) 127 = 10 := rfl
theorem mjkd128 (w c : Nat) (hi : Nat → Nat → Int32) (hl : Nat → Nat → Int64) : mj_kd (mj_hw w c hi hl) 128 = 100 := rfl
theorem mjln128 (w c : Nat) (hi : Nat → Nat → Int32) (hl : Nat → Nat → Int64) : mj_ln (mj_hw w c hi hl) 128 = 10 := rfl
theorem mjkd129 (w c : Nat) (hi : Nat → Nat → Int32) (hl : Nat → Nat → Int64) : mj_kd (mj_hw w c hi hl) 129 = 100 := rfl
theorem mjln129 (w c : Nat) (hi : Nat → Nat → Int32) (hl : Nat → Nat → Int64) : mj_ln (mj_hw w c hi hl) 129 = 10 := rfl
theorem mjkd130 (w c : Nat) (hi : Nat → Nat → Int32) (hl : Nat → Nat → Int64) : mj_kd (mj_hw w c hi hl) 130 = 100 := rfl
theorem mjln130 (w c : Nat) (hi : Nat → Nat → Int32) (hl : Nat → Nat → Int64) : mj_ln (mj_hw w c hi hl) 130 = 10 := rfl
theorem mjkd131 (w c : Nat) (hi : Nat → Nat → Int32) (hl : Nat → Nat → Int64) : mj_kd (mj_hw w c hi hl) 131 = 100 := rfl
theorem mjln131 (w c : Nat) (hi : Nat → Nat → Int32) (hl : Nat → Nat → Int64) : mj_ln (mj_hw w c hi hl) 131 = 10 := rfl
theorem mjkd132 (w c : Nat) (hi : Nat → Nat → Int32) (hl : Nat → Nat → Int64) : mj_kd (mj_hw w c hi hl) 132 = 100 := rfl
theorem mjln132 (w c : Nat) (hi : Nat → Nat → Int32) (hl : Nat → Nat → Int64) : mj_ln (mj_hw w c hi hl) 132 = 10 := rfl
theorem mjkd133 (w c : Nat) (hi : Nat → Nat → Int32) (hl : Nat → Nat → Int64) : mj_kd (mj_hw w c hi hl) 133 = 100 := rfl
theorem mjln133 (w c : Nat) (hi : Nat → Nat → Int32) (hl : Nat → Nat → Int64) : mj_ln (mj_hw w c hi hl) 133 = 10 := rfl
theorem mjkd134 (w c : Nat) (hi : Nat → Nat → Int32) (hl : Nat → Nat → Int64) : mj_kd (mj_hw w c hi hl) 134 = 100 := rfl
theorem mjln134 (w c : Nat) (hi : Nat → Nat → Int32) (hl : Nat → Nat → Int64) : mj_ln (mj_hw w c hi hl) 134 = 12 := rfl
theorem mjkd135 (w c : Nat) (hi : Nat → Nat → Int32) (hl : Nat → Nat → Int64) : mj_kd (mj_hw w c hi hl) 135 = 100 := rfl
theorem mjln135 (w c : Nat) (hi : Nat → Nat → Int32) (hl : Nat → Nat → Int64) : mj_ln (mj_hw w c hi hl) 135 = 12 := rfl
theorem mjkd136 (w c : Nat) (hi : Nat → Nat → Int32) (hl : Nat → Nat → Int64) : mj_kd (mj_hw w c hi hl) 136 = 100 := rfl
theorem mjln136 (w c : Nat) (hi : Nat → Nat → Int32) (hl : Nat → Nat → Int64) : mj_ln (mj_hw w c hi hl) 136 = 12 := rfl
theorem mjkd137 (w c : Nat) (hi : Nat → Nat → Int32) (hl : Nat → Nat → Int64) : mj_kd (mj_hw w c hi hl) 137 = 7 := rfl
theorem mjhr137_7 (w c : Nat) : mj_HR w c 137 7 = .ref 138 := mj_RL_at (show (137, 7, .ref 138) ∈ mj_RL from List.mem_of_getElem? (i := 144) rfl)
theorem mjhr137_8 (w c : Nat) : mj_HR w c 137 8 = .ref 139 := mj_RL_at (show (137, 8, .ref 139) ∈ mj_RL from List.mem_of_getElem? (i := 145) rfl)
theorem mjhr137_9 (w c : Nat) : mj_HR w c 137 9 = .ref 140 := mj_RL_at (show (137, 9, .ref 140) ∈ mj_RL from List.mem_of_getElem? (i := 146) rfl)
theorem mjhr137_10 (w c : Nat) : mj_HR w c 137 10 = .ref 141 := mj_RL_at (show (137, 10, .ref 141) ∈ mj_RL from List.mem_of_getElem? (i := 147) rfl)
theorem mjhr137_11 (w c : Nat) : mj_HR w c 137 11 = .ref 142 := mj_RL_at (show (137, 11, .ref 142) ∈ mj_RL from List.mem_of_getElem? (i := 148) rfl)
theorem mjhr137_12 (w c : Nat) : mj_HR w c 137 12 = .ref 143 := mj_RL_at (show (137, 12, .ref 143) ∈ mj_RL from List.mem_of_getElem? (i := 149) rfl)
theorem mjhr137_13 (w c : Nat) : mj_HR w c 137 13 = .ref 144 := mj_RL_at (show (137, 13, .ref 144) ∈ mj_RL from List.mem_of_getElem? (i := 150) rfl)
theorem mjhr137_14 (w c : Nat) : mj_HR w c 137 14 = .ref 145 := mj_RL_at (show (137, 14, .ref 145) ∈ mj_RL from List.mem_of_getElem? (i := 151) rfl)
theorem mjhr137_15 (w c : Nat) : mj_HR w c 137 15 = .ref 146 := mj_RL_at (show (137, 15, .ref 146) ∈ mj_RL from List.mem_of_getElem? (i := 152) rfl)
theorem mjhr137_16 (w c : Nat) : mj_HR w c 137 16 = .ref 147 := mj_RL_at (show (137, 16, .ref 147) ∈ mj_RL from List.mem_of_getElem? (i := 153) rfl)
theorem mjkd138 (w c : Nat) (hi : Nat → Nat → Int32) (hl : Nat → Nat → Int64) : mj_kd (mj_hw w c hi hl) 138 = 100 := rfl
theorem mjln138 (w c : Nat) (hi : Nat → Nat → Int32) (hl : Nat → Nat → Int64) : mj_ln (mj_hw w c hi hl) 138 = 10 := rfl
theorem mjkd139 (w c : Nat) (hi : Nat → Nat → Int32) (hl : Nat → Nat → Int64) : mj_kd (mj_hw w c hi hl) 139 = 100 := rfl
theorem mjln139 (w c : Nat) (hi : Nat → Nat → Int32) (hl : Nat → Nat → Int64) : mj_ln (mj_hw w c hi hl) 139 = 10 := rfl
theorem mjkd140 (w c : Nat) (hi : Nat → Nat → Int32) (hl : Nat → Nat → Int64) : mj_kd (mj_hw w c hi hl) 140 = 100 := rfl
theorem mjln140 (w c : Nat) (hi : Nat → Nat → Int32) (hl : Nat → Nat → Int64) : mj_ln (mj_hw w c hi hl) 140 = 10 := rfl
theorem mjkd141 (w c : Nat) (hi : Nat → Nat → Int32) (hl : Nat → Nat → Int64) : mj_kd (mj_hw w c hi hl) 141 = 100 := rfl
theorem mjln141 (w c : Nat) (hi : Nat → Nat → Int32) (hl : Nat → Nat → Int64) : mj_ln (mj_hw w c hi hl) 141 = 10 := rfl
theorem mjkd142 (w c : Nat) (hi : Nat → Nat → Int32) (hl : Nat → Nat → Int64) : mj_kd (mj_hw w c hi hl) 142 = 100 := rfl
theorem mjln142 (w c : Nat) (hi : Nat → Nat → Int32) (hl : Nat → Nat → Int64) : mj_ln (mj_hw w c hi hl) 142 = 10 := rfl
theorem mjkd143 (w c : Nat) (hi : Nat → Nat → Int32) (hl : Nat → Nat → Int64) : mj_kd (mj_hw w c hi hl) 143 = 100 := rfl
theorem mjln143 (w c : Nat) (hi : Nat → Nat → Int32) (hl : Nat → Nat → Int64) : mj_ln (mj_hw w c hi hl) 143 = 10 := rfl
theorem mjkd144 (w c : Nat) (hi : Nat → Nat → Int32) (hl : Nat → Nat → Int64) : mj_kd (mj_hw w c hi hl) 144 = 100 := rfl
theorem mjln144 (w c : Nat) (hi : Nat → Nat → Int32) (hl : Nat → Nat → Int64) : mj_ln (mj_hw w c hi hl) 144 = 10 := rfl
theorem mjkd145 (w c : Nat) (hi : Nat → Nat → Int32) (hl : Nat → Nat → Int64) : mj_kd (mj_hw w c hi hl) 145 = 100 := rfl
theorem mjln145 (w c : Nat) (hi : Nat → Nat → Int32) (hl : Nat → Nat → Int64) : mj_ln (mj_hw w c hi hl) 145 = 12 := rfl
theorem mjkd146 (w c : Nat) (hi : Nat → Nat → Int32) (hl : Nat → Nat → Int64) : mj_kd (mj_hw w c hi hl) 146 = 100 := rfl
theorem mjln146 (w c : Nat) (hi : Nat → Nat → Int32) (hl : Nat → Nat → Int64) : mj_ln (mj_hw w c hi hl) 146 = 12 := rfl
theorem mjkd147 (w c : Nat) (hi : Nat → Nat → Int32) (hl : Nat → Nat → Int64) : mj_kd (mj_hw w c hi hl) 147 = 100 := rfl
theorem mjln147 (w c : Nat) (hi : Nat → Nat → Int32) (hl : Nat → Nat → Int64) : mj_ln (mj_hw w c hi hl) 147 = 12 := rfl
theorem mjkd148 (w c : Nat) (hi : Nat → Nat → Int32) (hl : Nat → Nat → Int64) : mj_kd (mj_hw w c hi hl) 148 = 7 := rfl
theorem mjhr148_7 (w c : Nat) : mj_HR w c 148 7 = .ref 149 := mj_RL_at (show (148, 7, .ref 149) ∈ mj_RL from List.mem_of_getElem? (i := 154) rfl)
theorem mjhr148_8 (w c : Nat) : mj_HR w c 148 8 = .ref 150 := mj_RL_at (show (148, 8, .ref 150) ∈ mj_RL from List.mem_of_getElem? (i := 155) rfl)
theorem mjhr148_9 (w c : Nat) : mj_HR w c 148 9 = .ref 151 := mj_RL_at (show (148, 9, .ref 151) ∈ mj_RL from List.mem_of_getElem? (i := 156) rfl)
theorem mjhr148_10 (w c : Nat) : mj_HR w c 148 10 = .ref 152 := mj_RL_at (show (148, 10, .ref 152) ∈ mj_RL from List.mem_of_getElem? (i := 157) rfl)
theorem mjhr148_11 (w c : Nat) : mj_HR w c 148 11 = .ref 153 := mj_RL_at (show (148, 11, .ref 153) ∈ mj_RL from List.mem_of_getElem? (i := 158) rfl)
theorem mjhr148_12 (w c : Nat) : mj_HR w c 148 12 = .ref 154 := mj_RL_at (show (148, 12, .ref 154) ∈ mj_RL from List.mem_of_getElem? (i := 159) rfl)
theorem mjhr148_13 (w c : Nat) : mj_HR w c 148 13 = .ref 155 := mj_RL_at (show (148, 13, .ref 155) ∈ mj_RL from List.mem_of_getElem? (i := 160) rfl)
theorem mjhr148_14 (w c : Nat) : mj_HR w c 148 14 = .ref 156 := mj_RL_at (show (148, 14, .ref 156) ∈ mj_RL from List.mem_of_getElem? (i := 161) rfl)
theorem mjhr148_15 (w c : Nat) : mj_HR w c 148 15 = .ref 157 := mj_RL_at (show (148, 15, .ref 157) ∈ mj_RL from List.mem_of_getElem? (i := 162) rfl)
theorem mjhr148_16 (w c : Nat) : mj_HR w c 148 16 = .ref 158 := mj_RL_at (show (148, 16, .ref 158) ∈ mj_RL from List.mem_of_getElem? (i := 163) rfl)
theorem mjkd149 (w c : Nat) (hi : Nat → Nat → Int32) (hl : Nat → Nat → Int64) : mj_kd (mj_hw w c hi hl) 149 = 100 := rfl
theorem mjln149 (w c : Nat) (hi : Nat → Nat → Int32) (hl : Nat → Nat → Int64) : mj_ln (mj_hw w c hi hl) 149 = 10 := rfl
theorem mjkd150 (w c : Nat) (hi : Nat → Nat → Int32) (hl : Nat → Nat → Int64) : mj_kd (mj_hw w c hi hl) 150 = 100 := rfl
theorem mjln150 (w c : Nat) (hi : Nat → Nat → Int32) (hl : Nat → Nat → Int64) : mj_ln (mj_hw w c hi hl) 150 = 10 := rfl
theorem mjkd151 (w c : Nat) (hi : Nat → Nat → Int32) (hl : Nat → Nat → Int64) : mj_kd (mj_hw w c hi hl) 151 = 100 := rfl
theorem mjln151 (w c : Nat) (hi : Nat → Nat → Int32) (hl : Nat → Nat → Int64) : mj_ln (mj_hw w c hi hl) 151 = 10 := rfl
theorem mjkd152 (w c : Nat) (hi : Nat → Nat → Int32) (hl : Nat → Nat → Int64) : mj_kd (mj_hw w c hi hl) 152 = 100 := rfl
theorem mjln152 (w c : Nat) (hi : Nat → Nat → Int32) (hl : Nat → Nat → Int64) : mj_ln (mj_hw w c hi hl) 152 = 10 := rfl
theorem mjkd153 (w c : Nat) (hi : Nat → Nat → Int32) (hl : Nat → Nat → Int64) : mj_kd (mj_hw w c hi hl) 153 = 100 := rfl
theorem mjln153 (w c : Nat) (hi : Nat → Nat → Int32) (hl : Nat → Nat → Int64) : mj_ln (mj_hw w c hi hl) 153 = 10 := rfl
theorem mjkd154 (w c : Nat) (hi : Nat → Nat → Int32) (hl : Nat → Nat → Int64) : mj_kd (mj_hw w c hi hl) 154 = 100 := rfl
theorem mjln154 (w c : Nat) (hi : Nat → Nat → Int32) (hl : Nat → Nat → Int64) : mj_ln (mj_hw w c hi hl) 154 = 10 := rfl
theorem mjkd155 (w c : Nat) (hi : Nat → Nat → Int32) (hl : Nat → Nat → Int64) : mj_kd (mj_hw w c hi hl) 155 = 100 := rfl
theorem mjln155 (w c : Nat) (hi : Nat → Nat → Int32) (hl : Nat → Nat → Int64) : mj_ln (mj_hw w c hi hl) 155 = 10 := rfl
theorem mjkd156 (w c : Nat) (hi : Nat → Nat → Int32) (hl : Nat → Nat → Int64) : mj_kd (mj_hw w c hi hl) 156 = 100 := rfl
theorem mjln156 (w c : Nat) (hi : Nat → Nat → Int32) (hl : Nat → Nat → Int64) : mj_ln (mj_hw w c hi hl) 156 = 12 := rfl
theorem mjkd157 (w c : Nat) (hi : Nat → Nat → Int32) (hl : Nat → Nat → Int64) : mj_kd (mj_hw w c hi hl) 157 = 100 := rfl
theorem mjln157 (w c : Nat) (hi : Nat → Nat → Int32) (hl : Nat → Nat → Int64) : mj_ln (mj_hw w c hi hl) 157 = 12 := rfl
theorem mjkd158 (w c : Nat) (hi : Nat → Nat → Int32) (hl : Nat → Nat → Int64) : mj_kd (mj_hw w c hi hl) 158 = 100 := rfl
theorem mjln158 (w c : Nat) (hi : Nat → Nat → Int32) (hl : Nat → Nat → Int64) : mj_ln (mj_hw w c hi hl) 158 = 12 := rfl
theorem mjkd159 (w c : Nat) (hi : Nat → Nat → Int32) (hl : Nat → Nat → Int64) : mj_kd (mj_hw w c hi hl) 159 = 6 := rfl
theorem mjhr159_3 (w c : Nat) : mj_HR w c 159 3 = .ref 160 := mj_RL_at (show (159, 3, .ref 160) ∈ mj_RL from List.mem_of_getElem? (i := 164) rfl)
theorem mjhr159_4 (w c : Nat) : mj_HR w c 159 4 = .ref 169 := mj_RL_at (show (159, 4, .ref 169) ∈ mj_RL from List.mem_of_getElem? (i := 165) rfl)
theorem mjhr159_5 (w c : Nat) : mj_HR w c 159 5 = .ref 173 := mj_RL_at (show (159, 5, .ref 173) ∈ mj_RL from List.mem_of_getElem? (i := 166) rfl)
theorem mjhr159_14 (w c : Nat) : mj_HR w c 159 14 = .ref 174 := mj_RL_at (show (159, 14, .ref 174) ∈ mj_RL from List.mem_of_getElem? (i := 168) rfl)
theorem mjhr159_15 (w c : Nat) : mj_HR w c 159 15 = .ref 175 := mj_RL_at (show (159, 15, .ref 175) ∈ mj_RL from List.mem_of_getElem? (i := 169) rfl)
theorem mjhr159_16 (w c : Nat) : mj_HR w c 159 16 = .ref 176 := mj_RL_at (show (159, 16, .ref 176) ∈ mj_RL from List.mem_of_getElem? (i := 170) rfl)
theorem mjkd160 (w c : Nat) (hi : Nat → Nat → Int32) (hl : Nat → Nat → Int64) : mj_kd (mj_hw w c hi hl) 160 = 2 := rfl
theorem mjhr160_2 (w c : Nat) : mj_HR w c 160 2 = .ref 161 := mj_RL_at (show (160, 2, .ref 161) ∈ mj_RL from List.mem_of_getElem? (i := 171) rfl)
theorem mjhr160_3 (w c : Nat) : mj_HR w c 160 3 = .ref 162 := mj_RL_at (show (160, 3, .ref 162) ∈ mj_RL from List.mem_of_getElem? (i := 172) rfl)
theorem mjhr160_4 (w c : Nat) : mj_HR w c 160 4 = .ref 163 := mj_RL_at (show (160, 4, .ref 163) ∈ mj_RL from List.mem_of_getElem? (i := 173) rfl)
theorem mjhr160_5 (w c : Nat) : mj_HR w c 160 5 = .ref 164 := mj_RL_at (show (160, 5, .ref 164) ∈ mj_RL from List.mem_of_getElem? (i := 174) rfl)
theorem mjhr160_6 (w c : Nat) : mj_HR w c 160 6 = .ref 165 := mj_RL_at (show (160, 6, .ref 165) ∈ mj_RL from List.mem_of_getElem? (i := 175) rfl)
theorem mjhr160_7 (w c : Nat) : mj_HR w c 160 7 = .ref 166 := mj_RL_at (show (160, 7, .ref 166) ∈ mj_RL from List.mem_of_getElem? (i := 176) rfl)
theorem mjhr160_8 (w c : Nat) : mj_HR w c 160 8 = .ref 167 := mj_RL_at (show (160, 8, .ref 167) ∈ mj_RL from List.mem_of_getElem? (i := 177) rfl)
theorem mjhr160_9 (w c : Nat) : mj_HR w c 160 9 = .ref 168 := mj_RL_at (show (160, 9, .ref 168) ∈ mj_RL from List.mem_of_getElem? (i := 178) rfl)
theorem mjkd161 (w c : Nat) (hi : Nat → Nat → Int32) (hl : Nat → Nat → Int64) : mj_kd (mj_hw w c hi hl) 161 = 100 := rfl
theorem mjln161 (w c : Nat) (hi : Nat → Nat → Int32) (hl : Nat → Nat → Int64) : mj_ln (mj_hw w c hi hl) 161 = 16 := rfl
theorem mjkd162 (w c : Nat) (hi : Nat → Nat → Int32) (hl : Nat → Nat → Int64) : mj_kd (mj_hw w c hi hl) 162 = 100 := rfl
theorem mjln162 (w c : Nat) (hi : Nat → Nat → Int32) (hl : Nat → Nat → Int64) : mj_ln (mj_hw w c hi hl) 162 = 16 := rfl
theorem mjkd163 (w c : Nat) (hi : Nat → Nat → Int32) (hl : Nat → Nat → Int64) : mj_kd (mj_hw w c hi hl) 163 = 100 := rfl
theorem mjln163 (w c : Nat) (hi : Nat → Nat → Int32) (hl : Nat → Nat → Int64) : mj_ln (mj_hw w c hi hl) 163 = 16 := rfl
theorem mjkd164 (w c : Nat) (hi : Nat → Nat → Int32) (hl : Nat → Nat → Int64) : mj_kd (mj_hw w c hi hl) 164 = 100 := rfl
theorem mjln164 (w c : Nat) (hi : Nat → Nat → Int32) (hl : Nat → Nat → Int64) : mj_ln (mj_hw w c hi hl) 164 = 16 := rfl
theorem mjkd165 (w c : Nat) (hi : Nat → Nat → Int32) (hl : Nat → Nat → Int64) : mj_kd (mj_hw w c hi hl) 165 = 100 := rfl
theorem mjln165 (w c : Nat) (hi : Nat → Nat → Int32) (hl : Nat → Nat → Int64) : mj_ln (mj_hw w c hi hl) 165 = 400 := rfl
theorem mjkd166 (w c : Nat) (hi : Nat → Nat → Int32) (hl : Nat → Nat → Int64) : mj_kd (mj_hw w c hi hl) 166 = 100 := rfl
theorem mjln166 (w c : Nat) (hi : Nat → Nat → Int32) (hl : Nat → Nat → Int64) : mj_ln (mj_hw w c hi hl) 166 = 400 := rfl
theorem mjkd167 (w c : Nat) (hi : Nat → Nat → Int32) (hl : Nat → Nat → Int64) : mj_kd (mj_hw w c hi hl) 167 = 100 := rfl
theorem mjln167 (w c : Nat) (hi : Nat → Nat → Int32) (hl : Nat → Nat → Int64) : mj_ln (mj_hw w c hi hl) 167 = 10 := rfl
theorem mjkd168 (w c : Nat) (hi : Nat → Nat → Int32) (hl : Nat → Nat → Int64) : mj_kd (mj_hw w c hi hl) 168 = 100 := rfl
theorem mjln168 (w c : Nat) (hi : Nat → Nat → Int32) (hl : Nat → Nat → Int64) : mj_ln (mj_hw w c hi hl) 168 = 32 := rfl
theorem mjkd169 (w c : Nat) (hi : Nat → Nat → Int32) (hl : Nat → Nat → Int64) : mj_kd (mj_hw w c hi hl) 169 = 3 := rfl
theorem mjhr169_1 (w c : Nat) : mj_HR w c 169 1 = .ref 170 := mj_RL_at (show (169, 1, .ref 170) ∈ mj_RL from List.mem_of_getElem? (i := 179) rfl)
theorem mjhr169_2 (w c : Nat) : mj_HR w c 169 2 = .ref 171 := mj_RL_at (show (169, 2, .ref 171) ∈ mj_RL from List.mem_of_getElem? (i := 180) rfl)
theorem mjhr169_3 (w c : Nat) : mj_HR w c 169 3 = .ref 172 := mj_RL_at (show (169, 3, .ref 172) ∈ mj_RL from List.mem_of_getElem? (i := 181) rfl)
theorem mjkd170 (w c : Nat) (hi : Nat → Nat → Int32) (hl : Nat → Nat → Int64) : mj_kd (mj_hw w c hi hl) 170 = 100 := rfl
theorem mjln170 (w c : Nat) (hi : Nat → Nat → Int32) (hl : Nat → Nat → Int64) : mj_ln (mj_hw w c hi hl) 170 = 16 := rfl
theorem mjkd171 (w c : Nat) (hi : Nat → Nat → Int32) (hl : Nat → Nat → Int64) : mj_kd (mj_hw w c hi hl) 171 = 100 := rfl
theorem mjln171 (w c : Nat) (hi : Nat → Nat → Int32) (hl : Nat → Nat → Int64) : mj_ln (mj_hw w c hi hl) 171 = 16 := rfl
theorem mjkd172 (w c : Nat) (hi : Nat → Nat → Int32) (hl : Nat → Nat → Int64) : mj_kd (mj_hw w c hi hl) 172 = 100 := rfl
theorem mjln172 (w c : Nat) (hi : Nat → Nat → Int32) (hl : Nat → Nat → Int64) : mj_ln (mj_hw w c hi hl) 172 = 16 := rfl
theorem mjkd173 (w c : Nat) (hi : Nat → Nat → Int32) (hl : Nat → Nat → Int64) : mj_kd (mj_hw w c hi hl) 173 = 102 := rfl
theorem mjln173 (w c : Nat) (hi : Nat → Nat → Int32) (hl : Nat → Nat → Int64) : mj_ln (mj_hw w c hi hl) 173 = 400 := rfl
theorem mjkd174 (w c : Nat) (hi : Nat → Nat → Int32) (hl : Nat → Nat → Int64) : mj_kd (mj_hw w c hi hl) 174 = 100 := rfl
theorem mjln174 (w c : Nat) (hi : Nat → Nat → Int32) (hl : Nat → Nat → Int64) : mj_ln (mj_hw w c hi hl) 174 = 401 := rfl
theorem mjkd175 (w c : Nat) (hi : Nat → Nat → Int32) (hl : Nat → Nat → Int64) : mj_kd (mj_hw w c hi hl) 175 = 100 := rfl
theorem mjln175 (w c : Nat) (hi : Nat → Nat → Int32) (hl : Nat → Nat → Int64) : mj_ln (mj_hw w c hi hl) 175 = 401 := rfl
theorem mjkd176 (w c : Nat) (hi : Nat → Nat → Int32) (hl : Nat → Nat → Int64) : mj_kd (mj_hw w c hi hl) 176 = 100 := rfl
theorem mjln176 (w c : Nat) (hi : Nat → Nat → Int32) (hl : Nat → Nat → Int64) : mj_ln (mj_hw w c hi hl) 176 = 401 := rfl
theorem mjkd177 (w c : Nat) (hi : Nat → Nat → Int32) (hl : Nat → Nat → Int64) : mj_kd (mj_hw w c hi hl) 177 = 7 := rfl
theorem mjhr177_7 (w c : Nat) : mj_HR w c 177 7 = .ref 178 := mj_RL_at (show (177, 7, .ref 178) ∈ mj_RL from List.mem_of_getElem? (i := 182) rfl)
theorem mjhr177_8 (w c : Nat) : mj_HR w c 177 8 = .ref 179 := mj_RL_at (show (177, 8, .ref 179) ∈ mj_RL from List.mem_of_getElem? (i := 183) rfl)
theorem mjhr177_9 (w c : Nat) : mj_HR w c 177 9 = .ref 180 := mj_RL_at (show (177, 9, .ref 180) ∈ mj_RL from List.mem_of_getElem? (i := 184) rfl)
theorem mjhr177_10 (w c : Nat) : mj_HR w c 177 10 = .ref 181 := mj_RL_at (show (177, 10, .ref 181) ∈ mj_RL from List.mem_of_getElem? (i := 185) rfl)
theorem mjhr177_11 (w c : Nat) : mj_HR w c 177 11 = .ref 182 := mj_RL_at (show (177, 11, .ref 182) ∈ mj_RL from List.mem_of_getElem? (i := 186) rfl)
theorem mjhr177_12 (w c : Nat) : mj_HR w c 177 12 = .ref 183 := mj_RL_at (show (177, 12, .ref 183) ∈ mj_RL from List.mem_of_getElem? (i := 187) rfl)
theorem mjhr177_13 (w c : Nat) : mj_HR w c 177 13 = .ref 184 := mj_RL_at (show (177, 13, .ref 184) ∈ mj_RL from List.mem_of_getElem? (i := 188) rfl)
theorem mjhr177_14 (w c : Nat) : mj_HR w c 177 14 = .ref 185 := mj_RL_at (show (177, 14, .ref 185) ∈ mj_RL from List.mem_of_getElem? (i := 189) rfl)
theorem mjhr177_15 (w c : Nat) : mj_HR w c 177 15 = .ref 186 := mj_RL_at (show (177, 15, .ref 186) ∈ mj_RL from List.mem_of_getElem? (i := 190) rfl)
theorem mjhr177_16 (w c : Nat) : mj_HR w c 177 16 = .ref 187 := mj_RL_at (show (177, 16, .ref 187) ∈ mj_RL from List.mem_of_getElem? (i := 191) rfl)
theorem mjkd178 (w c : Nat) (hi : Nat → Nat → Int32) (hl : Nat → Nat → Int64) : mj_kd (mj_hw w c hi hl) 178 = 100 := rfl
theorem mjln178 (w c : Nat) (hi : Nat → Nat → Int32) (hl : Nat → Nat → Int64) : mj_ln (mj_hw w c hi hl) 178 = 10 := rfl
theorem mjkd179 (w c : Nat) (hi : Nat → Nat → Int32) (hl : Nat → Nat → Int64) : mj_kd (mj_hw w c hi hl) 179 = 100 := rfl
theorem mjln179 (w c : Nat) (hi : Nat → Nat → Int32) (hl : Nat → Nat → Int64) : mj_ln (mj_hw w c hi hl) 179 = 10 := rfl
theorem mjkd180 (w c : Nat) (hi : Nat → Nat → Int32) (hl : Nat → Nat → Int64) : mj_kd (mj_hw w c hi hl) 180 = 100 := rfl
theorem mjln180 (w c : Nat) (hi : Nat → Nat → Int32) (hl : Nat → Nat → Int64) : mj_ln (mj_hw w c hi hl) 180 = 10 := rfl
theorem mjkd181 (w c : Nat) (hi : Nat → Nat → Int32) (hl : Nat → Nat → Int64) : mj_kd (mj_hw w c hi hl) 181 = 100 := rfl
theorem mjln181 (w c : Nat) (hi : Nat → Nat → Int32) (hl : Nat → Nat → Int64) : mj_ln (mj_hw w c hi hl) 181 = 10 := rfl
theorem mjkd182 (w c : Nat) (hi : Nat → Nat → Int32) (hl : Nat → Nat → Int64) : mj_kd (mj_hw w c hi hl) 182 = 100 := rfl
theorem mjln182 (w c : Nat) (hi : Nat → Nat → Int32) (hl : Nat → Nat → Int64) : mj_ln (mj_hw w c hi hl) 182 = 10 := rfl
theorem mjkd183 (w c : Nat) (hi : Nat → Nat → Int32) (hl : Nat → Nat → Int64) : mj_kd (mj_hw w c hi hl) 183 = 100 := rfl
theorem mjln183 (w c : Nat) (hi : Nat → Nat → Int32) (hl : Nat → Nat → Int64) : mj_ln (mj_hw w c hi hl) 183 = 10 := rfl
theorem mjkd184 (w c : Nat) (hi : Nat → Nat → Int32) (hl : Nat → Nat → Int64) : mj_kd (mj_hw w c hi hl) 184 = 100 := rfl
theorem mjln184 (w c : Nat) (hi : Nat → Nat → Int32) (hl : Nat → Nat → Int64) : mj_ln (mj_hw w c hi hl) 184 = 10 := rfl
theorem mjkd185 (w c : Nat) (hi : Nat → Nat → Int32) (hl : Nat → Nat → Int64) : mj_kd (mj_hw w c hi hl) 185 = 100 := rfl
theorem mjln185 (w c : Nat) (hi : Nat → Nat → Int32) (hl : Nat → Nat → Int64) : mj_ln (mj_hw w c hi hl) 185 = 12 := rfl
theorem mjkd186 (w c : Nat) (hi : Nat → Nat → Int32) (hl : Nat → Nat → Int64) : mj_kd (mj_hw w c hi hl) 186 = 100 := rfl
theorem mjln186 (w c : Nat) (hi : Nat → Nat → Int32) (hl : Nat → Nat → Int64) : mj_ln (mj_hw w c hi hl) 186 = 12 := rfl
theorem mjkd187 (w c : Nat) (hi : Nat → Nat → Int32) (hl : Nat → Nat → Int64) : mj_kd (mj_hw w c hi hl) 187 = 100 := rfl
theorem mjln187 (w c : Nat) (hi : Nat → Nat → Int32) (hl : Nat → Nat → Int64) : mj_ln (mj_hw w c hi hl) 187 = 12 := rfl
theorem mjkd188 (w c : Nat) (hi : Nat → Nat → Int32) (hl : Nat → Nat → Int64) : mj_kd (mj_hw w c hi hl) 188 = 0 := rfl
theorem mjkd189 (w c : Nat) (hi : Nat → Nat → Int32) (hl : Nat → Nat → Int64) : mj_kd (mj_hw w c hi hl) 189 = 8 := rfl
theorem mjhr189_0 (w c : Nat) : mj_HR w c 189 0 = .ref 190 := mj_RL_at (show (189, 0, .ref 190) ∈ mj_RL from List.mem_of_getElem? (i := 192) rfl)
theorem mjhr189_1 (w c : Nat) : mj_HR w c 189 1 = .ref 191 := mj_RL_at (show (189, 1, .ref 191) ∈ mj_RL from List.mem_of_getElem? (i := 193) rfl)
theorem mjhr189_2 (w c : Nat) : mj_HR w c 189 2 = .ref 192 := mj_RL_at (show (189, 2, .ref 192) ∈ mj_RL from List.mem_of_getElem? (i := 194) rfl)
theorem mjhr189_3 (w c : Nat) : mj_HR w c 189 3 = .ref 193 := mj_RL_at (show (189, 3, .ref 193) ∈ mj_RL from List.mem_of_getElem? (i := 195) rfl)
theorem mjkd190 (w c : Nat) (hi : Nat → Nat → Int32) (hl : Nat → Nat → Int64) : mj_kd (mj_hw w c hi hl) 190 = 100 := rfl
theorem mjln190 (w c : Nat) (hi : Nat → Nat → Int32) (hl : Nat → Nat → Int64) : mj_ln (mj_hw w c hi hl) 190 = 10 := rfl
theorem mjkd191 (w c : Nat) (hi : Nat → Nat → Int32) (hl : Nat → Nat → Int64) : mj_kd (mj_hw w c hi hl) 191 = 101 := rfl
theorem mjln191 (w c : Nat) (hi : Nat → Nat → Int32) (hl : Nat → Nat → Int64) : mj_ln (mj_hw w c hi hl) 191 = 8 := rfl
theorem mjkd192 (w c : Nat) (hi : Nat → Nat → Int32) (hl : Nat → Nat → Int64) : mj_kd (mj_hw w c hi hl) 192 = 101 := rfl
theorem mjln192 (w c : Nat) (hi : Nat → Nat → Int32) (hl : Nat → Nat → Int64) : mj_ln (mj_hw w c hi hl) 192 = 12 := rfl
theorem mjkd193 (w c : Nat) (hi : Nat → Nat → Int32) (hl : Nat → Nat → Int64) : mj_kd (mj_hw w c hi hl) 193 = 100 := rfl
theorem mjln193 (w c : Nat) (hi : Nat → Nat → Int32) (hl : Nat → Nat → Int64) : mj_ln (mj_hw w c hi hl) 193 = 12 := rfl
theorem mjkd194 (w c : Nat) (hi : Nat → Nat → Int32) (hl : Nat → Nat → Int64) : mj_kd (mj_hw w c hi hl) 194 = 4 := rfl
theorem mjhr194_2 (w c : Nat) : mj_HR w c 194 2 = .ref 195 := mj_RL_at (show (194, 2, .ref 195) ∈ mj_RL from List.mem_of_getElem? (i := 198) rfl)
theorem mjhr194_3 (w c : Nat) : mj_HR w c 194 3 = .ref 196 := mj_RL_at (show (194, 3, .ref 196) ∈ mj_RL from List.mem_of_getElem? (i := 199) rfl)
theorem mjhr194_4 (w c : Nat) : mj_HR w c 194 4 = .ref 197 := mj_RL_at (show (194, 4, .ref 197) ∈ mj_RL from List.mem_of_getElem? (i := 200) rfl)
theorem mjhr194_5 (w c : Nat) : mj_HR w c 194 5 = .ref 198 := mj_RL_at (show (194, 5, .ref 198) ∈ mj_RL from List.mem_of_getElem? (i := 201) rfl)
theorem mjhr194_6 (w c : Nat) : mj_HR w c 194 6 = .ref 199 := mj_RL_at (show (194, 6, .ref 199) ∈ mj_RL from List.mem_of_getElem? (i := 202) rfl)
theorem mjhr194_7 (w c : Nat) : mj_HR w c 194 7 = .ref 200 := mj_RL_at (show (194, 7, .ref 200) ∈ mj_RL from List.mem_of_getElem? (i := 203) rfl)
theorem mjhr194_8 (w c : Nat) : mj_HR w c 194 8 = .ref 201 := mj_RL_at (show (194, 8, .ref 201) ∈ mj_RL from List.mem_of_getElem? (i := 204) rfl)
theorem mjkd195 (w c : Nat) (hi : Nat → Nat → Int32) (hl : Nat → Nat → Int64) : mj_kd (mj_hw w c hi hl) 195 = 100 := rfl
theorem mjln195 (w c : Nat) (hi : Nat → Nat → Int32) (hl : Nat → Nat → Int64) : mj_ln (mj_hw w c hi hl) 195 = 10 := rfl
theorem mjkd196 (w c : Nat) (hi : Nat → Nat → Int32) (hl : Nat → Nat → Int64) : mj_kd (mj_hw w c hi hl) 196 = 100 := rfl
theorem mjln196 (w c : Nat) (hi : Nat → Nat → Int32) (hl : Nat → Nat → Int64) : mj_ln (mj_hw w c hi hl) 196 = 10 := rfl
theorem mjkd197 (w c : Nat) (hi : Nat → Nat → Int32) (hl : Nat → Nat → Int64) : mj_kd (mj_hw w c hi hl) 197 = 100 := rfl
theorem mjln197 (w c : Nat) (hi : Nat → Nat → Int32) (hl : Nat → Nat → Int64) : mj_ln (mj_hw w c hi hl) 197 = 10 := rfl
theorem mjkd198 (w c : Nat) (hi : Nat → Nat → Int32) (hl : Nat → Nat → Int64) : mj_kd (mj_hw w c hi hl) 198 = 100 := rfl
theorem mjln198 (w c : Nat) (hi : Nat → Nat → Int32) (hl : Nat → Nat → Int64) : mj_ln (mj_hw w c hi hl) 198 = 64 := rfl
theorem mjkd199 (w c : Nat) (hi : Nat → Nat → Int32) (hl : Nat → Nat → Int64) : mj_kd (mj_hw w c hi hl) 199 = 100 := rfl
theorem mjln199 (w c : Nat) (hi : Nat → Nat → Int32) (hl : Nat → Nat → Int64) : mj_ln (mj_hw w c hi hl) 199 = 16 := rfl
theorem mjkd200 (w c : Nat) (hi : Nat → Nat → Int32) (hl : Nat → Nat → Int64) : mj_kd (mj_hw w c hi hl) 200 = 100 := rfl
theorem mjln200 (w c : Nat) (hi : Nat → Nat → Int32) (hl : Nat → Nat → Int64) : mj_ln (mj_hw w c hi hl) 200 = 16 := rfl
theorem mjkd201 (w c : Nat) (hi : Nat → Nat → Int32) (hl : Nat → Nat → Int64) : mj_kd (mj_hw w c hi hl) 201 = 100 := rfl
theorem mjln201 (w c : Nat) (hi : Nat → Nat → Int32) (hl : Nat → Nat → Int64) : mj_ln (mj_hw w c hi hl) 201 = 2048 := rfl
theorem mjkd202 (w c : Nat) (hi : Nat → Nat → Int32) (hl : Nat → Nat → Int64) : mj_kd (mj_hw w c hi hl) 202 = 1 := rfl
theorem mjhr202_0 (w c : Nat) : mj_HR w c 202 0 = .ref 203 := mj_RL_at (show (202, 0, .ref 203) ∈ mj_RL from List.mem_of_getElem? (i := 205) rfl)
theorem mjhr202_1 (w c : Nat) : mj_HR w c 202 1 = .ref 204 := mj_RL_at (show (202, 1, .ref 204) ∈ mj_RL from List.mem_of_getElem? (i := 206) rfl)
theorem mjkd203 (w c : Nat) (hi : Nat → Nat → Int32) (hl : Nat → Nat → Int64) : mj_kd (mj_hw w c hi hl) 203 = 100 := rfl
theorem mjln203 (w c : Nat) (hi : Nat → Nat → Int32) (hl : Nat → Nat → Int64) : mj_ln (mj_hw w c hi hl) 203 = 13 := rfl
theorem mjkd204 (w c : Nat) (hi : Nat → Nat → Int32) (hl : Nat → Nat → Int64) : mj_kd (mj_hw w c hi hl) 204 = 100 := rfl
theorem mjln204 (w c : Nat) (hi : Nat → Nat → Int32) (hl : Nat → Nat → Int64) : mj_ln (mj_hw w c hi hl) 204 = 10 := rfl
theorem mjkd205 (w c : Nat) (hi : Nat → Nat → Int32) (hl : Nat → Nat → Int64) : mj_kd (mj_hw w c hi hl) 205 = 12 := rfl
theorem mjhr205_1 (w c : Nat) : mj_HR w c 205 1 = .ref 206 := mj_RL_at (show (205, 1, .ref 206) ∈ mj_RL from List.mem_of_getElem? (i := 207) rfl)
theorem mjhr205_2 (w c : Nat) : mj_HR w c 205 2 = .ref 207 := mj_RL_at (show (205, 2, .ref 207) ∈ mj_RL from List.mem_of_getElem? (i := 208) rfl)
theorem mjhr205_4 (w c : Nat) : mj_HR w c 205 4 = .ref 208 := mj_RL_at (show (205, 4, .ref 208) ∈ mj_RL from List.mem_of_getElem? (i := 209) rfl)
theorem mjhr205_8 (w c : Nat) : mj_HR w c 205 8 = .ref 209 := mj_RL_at (show (205, 8, .ref 209) ∈ mj_RL from List.mem_of_getElem? (i := 210) rfl)
theorem mjhr205_9 (w c : Nat) : mj_HR w c 205 9 = .ref 210 := mj_RL_at (show (205, 9, .ref 210) ∈ mj_RL from List.mem_of_getElem? (i := 211) rfl)
theorem mjhr205_10 (w c : Nat) : mj_HR w c 205 10 = .ref 211 := mj_RL_at (show (205, 10, .ref 211) ∈ mj_RL from List.mem_of_getElem? (i := 212) rfl)
theorem mjhr205_11 (w c : Nat) : mj_HR w c 205 11 = .ref 212 := mj_RL_at (show (205, 11, .ref 212) ∈ mj_RL from List.mem_of_getElem? (i := 213) rfl)
theorem mjhr205_12 (w c : Nat) : mj_HR w c 205 12 = .ref 213 := mj_RL_at (show (205, 12, .ref 213) ∈ mj_RL from List.mem_of_getElem? (i := 214) rfl)
theorem mjhr205_13 (w c : Nat) : mj_HR w c 205 13 = .ref 214 := mj_RL_at (show (205, 13, .ref 214) ∈ mj_RL from List.mem_of_getElem? (i := 215) rfl)
theorem mjhr205_19 (w c : Nat) : mj_HR w c 205 19 = .ref 215 := mj_RL_at (show (205, 19, .ref 215) ∈ mj_RL from List.mem_of_getElem? (i := 216) rfl)
theorem mjhr205_20 (w c : Nat) : mj_HR w c 205 20 = .ref 216 := mj_RL_at (show (205, 20, .ref 216) ∈ mj_RL from List.mem_of_getElem? (i := 217) rfl)
theorem mjhr205_21 (w c : Nat) : mj_HR w c 205 21 = .ref 217 := mj_RL_at (show (205, 21, .ref 217) ∈ mj_RL from List.mem_of_getElem? (i := 218) rfl)
theorem mjhr205_22 (w c : Nat) : mj_HR w c 205 22 = .ref 218 := mj_RL_at (show (205, 22, .ref 218) ∈ mj_RL from List.mem_of_getElem? (i := 219) rfl)
theorem mjhr205_23 (w c : Nat) : mj_HR w c 205 23 = .ref 219 := mj_RL_at (show (205, 23, .ref 219) ∈ mj_RL from List.mem_of_getElem? (i := 220) rfl)
theorem mjhr205_24 (w c : Nat) : mj_HR w c 205 24 = .ref 220 := mj_RL_at (show (205, 24, .ref 220) ∈ mj_RL from List.mem_of_getElem? (i := 221) rfl)
theorem mjhr205_25 (w c : Nat) : mj_HR w c 205 25 = .ref 221 := mj_RL_at (show (205, 25, .ref 221) ∈ mj_RL from List.mem_of_getElem? (i := 222) rfl)
theorem mjhr205_26 (w c : Nat) : mj_HR w c 205 26 = .ref 222 := mj_RL_at (show (205, 26, .ref 222) ∈ mj_RL from List.mem_of_getElem? (i := 223) rfl)
theorem mjhr205_30 (w c : Nat) : mj_HR w c 205 30 = .ref 223 := mj_RL_at (show (205, 30, .ref 223) ∈ mj_RL from List.mem_of_getElem? (i := 224) rfl)
theorem mjhr205_37 (w c : Nat) : mj_HR w c 205 37 = .ref 224 := mj_RL_at (show (205, 37, .ref 224) ∈ mj_RL from List.mem_of_getElem? (i := 225) rfl)
theorem mjhr205_39 (w c : Nat) : mj_HR w c 205 39 = .ref 225 := mj_RL_at (show (205, 39, .ref 225) ∈ mj_RL from List.mem_of_getElem? (i := 226) rfl)
theorem mjhr205_41 (w c : Nat) : mj_HR w c 205 41 = .ref 226 := mj_RL_at (show (205, 41, .ref 226) ∈ mj_RL from List.mem_of_getElem? (i := 227) rfl)
theorem mjhr205_42 (w c : Nat) : mj_HR w c 205 42 = .ref 227 := mj_RL_at (show (205, 42, .ref 227) ∈ mj_RL from List.mem_of_getElem? (i := 228) rfl)
theorem mjhr205_43 (w c : Nat) : mj_HR w c 205 43 = .ref 228 := mj_RL_at (show (205, 43, .ref 228) ∈ mj_RL from List.mem_of_getElem? (i := 229) rfl)
theorem mjhr205_47 (w c : Nat) : mj_HR w c 205 47 = .ref 229 := mj_RL_at (show (205, 47, .ref 229) ∈ mj_RL from List.mem_of_getElem? (i := 230) rfl)
theorem mjhr205_49 (w c : Nat) : mj_HR w c 205 49 = .ref 230 := mj_RL_at (show (205, 49, .ref 230) ∈ mj_RL from List.mem_of_getElem? (i := 231) rfl)
theorem mjhr205_50 (w c : Nat) : mj_HR w c 205 50 = .ref 231 := mj_RL_at (show (205, 50, .ref 231) ∈ mj_RL from List.mem_of_getElem? (i := 232) rfl)
theorem mjhr205_52 (w c : Nat) : mj_HR w c 205 52 = .ref 232 := mj_RL_at (show (205, 52, .ref 232) ∈ mj_RL from List.mem_of_getElem? (i := 233) rfl)
theorem mjhr205_53 (w c : Nat) : mj_HR w c 205 53 = .ref 233 := mj_RL_at (show (205, 53, .ref 233) ∈ mj_RL from List.mem_of_getElem? (i := 234) rfl)
theorem mjhr205_55 (w c : Nat) : mj_HR w c 205 55 = .ref 234 := mj_RL_at (show (205, 55, .ref 234) ∈ mj_RL from List.mem_of_getElem? (i := 235) rfl)
theorem mjhr205_56 (w c : Nat) : mj_HR w c 205 56 = .ref 235 := mj_RL_at (show (205, 56, .ref 235) ∈ mj_RL from List.mem_of_getElem? (i := 236) rfl)
theorem mjhr205_57 (w c : Nat) : mj_HR w c 205 57 = .ref 236 := mj_RL_at (show (205, 57, .ref 236) ∈ mj_RL from List.mem_of_getElem? (i := 237) rfl)
theorem mjhr205_59 (w c : Nat) : mj_HR w c 205 59 = .ref 237 := mj_RL_at (show (205, 59, .ref 237) ∈ mj_RL from List.mem_of_getElem? (i := 238) rfl)
theorem mjhr205_60 (w c : Nat) : mj_HR w c 205 60 = .ref 238 := mj_RL_at (show (205, 60, .ref 238) ∈ mj_RL from List.mem_of_getElem? (i := 239) rfl)
theorem mjhr205_61 (w c : Nat) : mj_HR w c 205 61 = .ref 239 := mj_RL_at (show (205, 61, .ref 239) ∈ mj_RL from List.mem_of_getElem? (i := 240) rfl)
theorem mjhr205_62 (w c : Nat) : mj_HR w c 205 62 = .ref 240 := mj_RL_at (show (205, 62, .ref 240) ∈ mj_RL from List.mem_of_getElem? (i := 241) rfl)
theorem mjhr205_66 (w c : Nat) : mj_HR w c 205 66 = .ref 241 := mj_RL_at (show (205, 66, .ref 241) ∈ mj_RL from List.mem_of_getElem? (i := 242) rfl)
theorem mjkd206 (w c : Nat) (hi : Nat → Nat → Int32) (hl : Nat → Nat → Int64) : mj_kd (mj_hw w c hi hl) 206 = 100 := rfl
theorem mjln206 (w c : Nat) (hi : Nat → Nat → Int32) (hl : Nat → Nat → Int64) : mj_ln (mj_hw w c hi hl) 206 = 57 := rfl
theorem mjkd207 (w c : Nat) (hi : Nat → Nat → Int32) (hl : Nat → Nat → Int64) : mj_kd (mj_hw w c hi hl) 207 = 100 := rfl
theorem mjln207 (w c : Nat) (hi : Nat → Nat → Int32) (hl : Nat → Nat → Int64) : mj_ln (mj_hw w c hi hl) 207 = 342 := rfl
theorem mjkd208 (w c : Nat) (hi : Nat → Nat → Int32) (hl : Nat → Nat → Int64) : mj_kd (mj_hw w c hi hl) 208 = 100 := rfl
theorem mjln208 (w c : Nat) (hi : Nat → Nat → Int32) (hl : Nat → Nat → Int64) : mj_ln (mj_hw w c hi hl) 208 = 57 := rfl
theorem mjkd209 (w c : Nat) (hi : Nat → Nat → Int32) (hl : Nat → Nat → Int64) : mj_kd (mj_hw w c hi hl) 209 = 100 := rfl
theorem mjln209 (w c : Nat) (hi : Nat → Nat → Int32) (hl : Nat → Nat → Int64) : mj_ln (mj_hw w c hi hl) 209 = 10 := rfl
theorem mjkd210 (w c : Nat) (hi : Nat → Nat → Int32) (hl : Nat → Nat → Int64) : mj_kd (mj_hw w c hi hl) 210 = 100 := rfl
theorem mjln210 (w c : Nat) (hi : Nat → Nat → Int32) (hl : Nat → Nat → Int64) : mj_ln (mj_hw w c hi hl) 210 = 10 := rfl
theorem mjkd211 (w c : Nat) (hi : Nat → Nat → Int32) (hl : Nat → Nat → Int64) : mj_kd (mj_hw w c hi hl) 211 = 100 := rfl
theorem mjln211 (w c : Nat) (hi : Nat → Nat → Int32) (hl : Nat → Nat → Int64) : mj_ln (mj_hw w c hi hl) 211 = 12 := rfl
theorem mjkd212 (w c : Nat) (hi : Nat → Nat → Int32) (hl : Nat → Nat → Int64) : mj_kd (mj_hw w c hi hl) 212 = 100 := rfl
theorem mjln212 (w c : Nat) (hi : Nat → Nat → Int32) (hl : Nat → Nat → Int64) : mj_ln (mj_hw w c hi hl) 212 = 12 := rfl
theorem mjkd213 (w c : Nat) (hi : Nat → Nat → Int32) (hl : Nat → Nat → Int64) : mj_kd (mj_hw w c hi hl) 213 = 100 := rfl
theorem mjln213 (w c : Nat) (hi : Nat → Nat → Int32) (hl : Nat → Nat → Int64) : mj_ln (mj_hw w c hi hl) 213 = 600 := rfl
theorem mjkd214 (w c : Nat) (hi : Nat → Nat → Int32) (hl : Nat → Nat → Int64) : mj_kd (mj_hw w c hi hl) 214 = 100 := rfl
theorem mjln214 (w c : Nat) (hi : Nat → Nat → Int32) (hl : Nat → Nat → Int64) : mj_ln (mj_hw w c hi hl) 214 = 400 := rfl
theorem mjkd215 (w c : Nat) (hi : Nat → Nat → Int32) (hl : Nat → Nat → Int64) : mj_kd (mj_hw w c hi hl) 215 = 100 := rfl
theorem mjln215 (w c : Nat) (hi : Nat → Nat → Int32) (hl : Nat → Nat → Int64) : mj_ln (mj_hw w c hi hl) 215 = 132 := rfl
theorem mjkd216 (w c : Nat) (hi : Nat → Nat → Int32) (hl : Nat → Nat → Int64) : mj_kd (mj_hw w c hi hl) 216 = 100 := rfl
theorem mjln216 (w c : Nat) (hi : Nat → Nat → Int32) (hl : Nat → Nat → Int64) : mj_ln (mj_hw w c hi hl) 216 = 2 := rfl
theorem mjkd217 (w c : Nat) (hi : Nat → Nat → Int32) (hl : Nat → Nat → Int64) : mj_kd (mj_hw w c hi hl) 217 = 100 := rfl
theorem mjln217 (w c : Nat) (hi : Nat → Nat → Int32) (hl : Nat → Nat → Int64) : mj_ln (mj_hw w c hi hl) 217 = 48 := rfl
theorem mjkd218 (w c : Nat) (hi : Nat → Nat → Int32) (hl : Nat → Nat → Int64) : mj_kd (mj_hw w c hi hl) 218 = 100 := rfl
theorem mjln218 (w c : Nat) (hi : Nat → Nat → Int32) (hl : Nat → Nat → Int64) : mj_ln (mj_hw w c hi hl) 218 = 48 := rfl
theorem mjkd219 (w c : Nat) (hi : Nat → Nat → Int32) (hl : Nat → Nat → Int64) : mj_kd (mj_hw w c hi hl) 219 = 100 := rfl
theorem mjln219 (w c : Nat) (hi : Nat → Nat → Int32) (hl : Nat → Nat → Int64) : mj_ln (mj_hw w c hi hl) 219 = 48 := rfl
theorem mjkd220 (w c : Nat) (hi : Nat → Nat → Int32) (hl : Nat → Nat → Int64) : mj_kd (mj_hw w c hi hl) 220 = 100 := rfl
theorem mjln220 (w c : Nat) (hi : Nat → Nat → Int32) (hl : Nat → Nat → Int64) : mj_ln (mj_hw w c hi hl) 220 = 48 := rfl
theorem mjkd221 (w c : Nat) (hi : Nat → Nat → Int32) (hl : Nat → Nat → Int64) : mj_kd (mj_hw w c hi hl) 221 = 100 := rfl
theorem mjln221 (w c : Nat) (hi : Nat → Nat → Int32) (hl : Nat → Nat → Int64) : mj_ln (mj_hw w c hi hl) 221 = 1200 := rfl
theorem mjkd222 (w c : Nat) (hi : Nat → Nat → Int32) (hl : Nat → Nat → Int64) : mj_kd (mj_hw w c hi hl) 222 = 100 := rfl
theorem mjln222 (w c : Nat) (hi : Nat → Nat → Int32) (hl : Nat → Nat → Int64) : mj_ln (mj_hw w c hi hl) 222 = 1200 := rfl
theorem mjkd223 (w c : Nat) (hi : Nat → Nat → Int32) (hl : Nat → Nat → Int64) : mj_kd (mj_hw w c hi hl) 223 = 100 := rfl
theorem mjln223 (w c : Nat) (hi : Nat → Nat → Int32) (hl : Nat → Nat → Int64) : mj_ln (mj_hw w c hi hl) 223 = 40 := rfl
theorem mjkd224 (w c : Nat) (hi : Nat → Nat → Int32) (hl : Nat → Nat → Int64) : mj_kd (mj_hw w c hi hl) 224 = 100 := rfl
theorem mjln224 (w c : Nat) (hi : Nat → Nat → Int32) (hl : Nat → Nat → Int64) : mj_ln (mj_hw w c hi hl) 224 = 64 := rfl
theorem mjkd225 (w c : Nat) (hi : Nat → Nat → Int32) (hl : Nat → Nat → Int64) : mj_kd (mj_hw w c hi hl) 225 = 100 := rfl
theorem mjln225 (w c : Nat) (hi : Nat → Nat → Int32) (hl : Nat → Nat → Int64) : mj_ln (mj_hw w c hi hl) 225 = 20 := rfl
theorem mjkd226 (w c : Nat) (hi : Nat → Nat → Int32) (hl : Nat → Nat → Int64) : mj_kd (mj_hw w c hi hl) 226 = 100 := rfl
theorem mjln226 (w c : Nat) (hi : Nat → Nat → Int32) (hl : Nat → Nat → Int64) : mj_ln (mj_hw w c hi hl) 226 = 96 := rfl
theorem mjkd227 (w c : Nat) (hi : Nat → Nat → Int32) (hl : Nat → Nat → Int64) : mj_kd (mj_hw w c hi hl) 227 = 100 := rfl
theorem mjln227 (w c : Nat) (hi : Nat → Nat → Int32) (hl : Nat → Nat → Int64) : mj_ln (mj_hw w c hi hl) 227 = 10 := rfl
theorem mjkd228 (w c : Nat) (hi : Nat → Nat → Int32) (hl : Nat → Nat → Int64) : mj_kd (mj_hw w c hi hl) 228 = 100 := rfl
theorem mjln228 (w c : Nat) (hi : Nat → Nat → Int32) (hl : Nat → Nat → Int64) : mj_ln (mj_hw w c hi hl) 228 = 420 := rfl
theorem mjkd229 (w c : Nat) (hi : Nat → Nat → Int32) (hl : Nat → Nat → Int64) : mj_kd (mj_hw w c hi hl) 229 = 100 := rfl
theorem mjln229 (w c : Nat) (hi : Nat → Nat → Int32) (hl : Nat → Nat → Int64) : mj_ln (mj_hw w c hi hl) 229 = 10240 := rfl
theorem mjkd230 (w c : Nat) (hi : Nat → Nat → Int32) (hl : Nat → Nat → Int64) : mj_kd (mj_hw w c hi hl) 230 = 100 := rfl
theorem mjln230 (w c : Nat) (hi : Nat → Nat → Int32) (hl : Nat → Nat → Int64) : mj_ln (mj_hw w c hi hl) 230 = 100 := rfl
theorem mjkd231 (w c : Nat) (hi : Nat → Nat → Int32) (hl : Nat → Nat → Int64) : mj_kd (mj_hw w c hi hl) 231 = 100 := rfl
theorem mjln231 (w c : Nat) (hi : Nat → Nat → Int32) (hl : Nat → Nat → Int64) : mj_ln (mj_hw w c hi hl) 231 = 1024 := rfl
theorem mjkd232 (w c : Nat) (hi : Nat → Nat → Int32) (hl : Nat → Nat → Int64) : mj_kd (mj_hw w c hi hl) 232 = 100 := rfl
theorem mjln232 (w c : Nat) (hi : Nat → Nat → Int32) (hl : Nat → Nat → Int64) : mj_ln (mj_hw w c hi hl) 232 = 6 := rfl
theorem mjkd233 (w c : Nat) (hi : Nat → Nat → Int32) (hl : Nat → Nat → Int64) : mj_kd (mj_hw w c hi hl) 233 = 100 := rfl
theorem mjln233 (w c : Nat) (hi : Nat → Nat → Int32) (hl : Nat → Nat → Int64) : mj_ln (mj_hw w c hi hl) 233 = 8 := rfl
theorem mjkd234 (w c : Nat) (hi : Nat → Nat → Int32) (hl : Nat → Nat → Int64) : mj_kd (mj_hw w c hi hl) 234 = 100 := rfl
theorem mjln234 (w c : Nat) (hi : Nat → Nat → Int32) (hl : Nat → Nat → Int64) : mj_ln (mj_hw w c hi hl) 234 = 7 := rfl
theorem mjkd235 (w c : Nat) (hi : Nat → Nat → Int32) (hl : Nat → Nat → Int64) : mj_kd (mj_hw w c hi hl) 235 = 100 := rfl
theorem mjln235 (w c : Nat) (hi : Nat → Nat → Int32) (hl : Nat → Nat → Int64) : mj_ln (mj_hw w c hi hl) 235 = 7 := rfl
theorem mjkd236 (w c : Nat) (hi : Nat → Nat → Int32) (hl : Nat → Nat → Int64) : mj_kd (mj_hw w c hi hl) 236 = 100 := rfl
theorem mjln236 (w c : Nat) (hi : Nat → Nat → Int32) (hl : Nat → Nat → Int64) : mj_ln (mj_hw w c hi hl) 236 = 128 := rfl
theorem mjkd237 (w c : Nat) (hi : Nat → Nat → Int32) (hl : Nat → Nat → Int64) : mj_kd (mj_hw w c hi hl) 237 = 100 := rfl
theorem mjln237 (w c : Nat) (hi : Nat → Nat → Int32) (hl : Nat → Nat → Int64) : mj_ln (mj_hw w c hi hl) 237 = 12 := rfl
theorem mjkd238 (w c : Nat) (hi : Nat → Nat → Int32) (hl : Nat → Nat → Int64) : mj_kd (mj_hw w c hi hl) 238 = 100 := rfl
theorem mjln238 (w c : Nat) (hi : Nat → Nat → Int32) (hl : Nat → Nat → Int64) : mj_ln (mj_hw w c hi hl) 238 = 12 := rfl
theorem mjkd239 (w c : Nat) (hi : Nat → Nat → Int32) (hl : Nat → Nat → Int64) : mj_kd (mj_hw w c hi hl) 239 = 100 := rfl
theorem mjln239 (w c : Nat) (hi : Nat → Nat → Int32) (hl : Nat → Nat → Int64) : mj_ln (mj_hw w c hi hl) 239 = 4096 := rfl
theorem mjkd240 (w c : Nat) (hi : Nat → Nat → Int32) (hl : Nat → Nat → Int64) : mj_kd (mj_hw w c hi hl) 240 = 100 := rfl
theorem mjln240 (w c : Nat) (hi : Nat → Nat → Int32) (hl : Nat → Nat → Int64) : mj_ln (mj_hw w c hi hl) 240 = 13 := rfl
theorem mjkd241 (w c : Nat) (hi : Nat → Nat → Int32) (hl : Nat → Nat → Int64) : mj_kd (mj_hw w c hi hl) 241 = 100 := rfl
theorem mjln241 (w c : Nat) (hi : Nat → Nat → Int32) (hl : Nat → Nat → Int64) : mj_ln (mj_hw w c hi hl) 241 = 2100 := rfl
theorem mj_hw_words (w c j : Nat) (hi : Nat → Nat → Int32) (hl : Nat → Nat → Int64) : mj_wr (mj_u (mj_hw w c hi hl).2.2.1 159 6 (.retAddr j)) (mj_hw w c hi hl) = mj_hw j c hi hl := by
  have e : mj_u (mj_HR w c) 159 6 (.retAddr j) = mj_HR j c := by
    funext a k
    unfold mj_u mj_HR
    by_cases q : a = 159 ∧ k = 6
    · rw [if_pos q, if_pos q]
    · rw [if_neg q, if_neg q, if_neg q]
  show (hi, hl, mj_u (mj_HR w c) 159 6 (.retAddr j), mj_CL c) = (hi, hl, mj_HR j c, mj_CL c)
  rw [e]
theorem mjhr_w (w c : Nat) : mj_HR w c 159 6 = .retAddr w := rfl
