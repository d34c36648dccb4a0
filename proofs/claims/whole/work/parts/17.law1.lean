def mj_b0 : List (List Int32) := [[119, 105, 110, 99, 101, 32, 112, 114, 105, 99, 101, 32, 99, 97, 108, 109, 32, 119, 104, 101, 110, 32, 111, 114, 32, 97, 110, 100, 32, 110, 111, 116, 32, 110, 101, 114, 118, 101, 32, 115, 107, 105, 110, 32, 98, 108, 105, 110, 100, 32, 119, 105, 110, 99, 101, 100, 32, 107, 105, 110, 100, 32, 119, 111, 114, 116, 104, 32, 119, 111, 114, 100, 32, 109, 105, 110, 117, 116, 101, 32, 100, 97, 114, 107, 32, 105, 110], [115, 97, 121, 32, 102, 111, 114], [100, 101, 97, 108, 101, 114, 32, 112, 105, 110, 99, 104, 101, 115], [108, 111, 116, 32, 98, 97, 114, 32, 97, 100, 109, 105, 116, 32, 100, 97, 114, 107, 32, 108, 105, 103, 104, 116], [59, 43, 45, 42, 47, 40, 41, 60, 61, 62]]
def mj_bl0 : List Nat := [87, 7, 14, 24, 10]
def mj_Ee (L : Nat) (xs : Nat → Int32) : mj_E := fun j => match j with
  | 0 => (L, xs)
  | 1 => (5, fun k => ([99, 9, 9999, 999, 5] : List Int32).getD k 0)
  | 2 => (3, fun k => ([1000, 9999, 99] : List Int32).getD k 0)
  | 8 => (87, fun k => (mj_b0.getD 0 []).getD k 0)
  | 9 => (7, fun k => (mj_b0.getD 1 []).getD k 0)
  | 10 => (14, fun k => (mj_b0.getD 2 []).getD k 0)
  | 11 => (24, fun k => (mj_b0.getD 3 []).getD k 0)
  | 12 => (10, fun k => (mj_b0.getD 4 []).getD k 0)
  | _ => (0, fun _ => 0)
def mj_h00 : mj_H := (fun _ _ => 0, fun _ _ => 0, fun _ _ => .null, [])
def mj_sx0 : List Nat := [39, 76, 78, 80, 133]
def mj_tm (i : Nat) : Term := .string "LastToWince$Reader" (mj_sx0.getD i 0)
theorem mj_clw0 : ∀ w ∈ u_ws RX0 TX0 3, w ∈ mj_WSG := by decide +kernel
theorem mj_clt0 : ∀ k, k < 3 → parseFieldDescriptor (TX0 k).2.2.1 = some (tyX0 k) ∧ (mj_fc (TX0 k).2.2.1 = 0 ∨ mj_fc (TX0 k).2.2.1 = 1 → defaultValue (tyX0 k) = .int 0) ∧ (mj_fc (TX0 k).2.2.1 = 2 → defaultValue (tyX0 k) = .long 0) ∧ (mj_fc (TX0 k).2.2.1 = 3 → defaultValue (tyX0 k) = .null) := by decide +kernel
theorem mj_clw1 : ∀ w ∈ u_ws RX1 TX1 2, w ∈ mj_WSG := by decide +kernel
theorem mj_clt1 : ∀ k, k < 2 → parseFieldDescriptor (TX1 k).2.2.1 = some (tyX1 k) ∧ (mj_fc (TX1 k).2.2.1 = 0 ∨ mj_fc (TX1 k).2.2.1 = 1 → defaultValue (tyX1 k) = .int 0) ∧ (mj_fc (TX1 k).2.2.1 = 2 → defaultValue (tyX1 k) = .long 0) ∧ (mj_fc (TX1 k).2.2.1 = 3 → defaultValue (tyX1 k) = .null) := by decide +kernel
theorem mj_clw2 : ∀ w ∈ u_ws RX2 TX2 10, w ∈ mj_WSG := by decide +kernel
theorem mj_clt2 : ∀ k, k < 10 → parseFieldDescriptor (TX2 k).2.2.1 = some (tyX2 k) ∧ (mj_fc (TX2 k).2.2.1 = 0 ∨ mj_fc (TX2 k).2.2.1 = 1 → defaultValue (tyX2 k) = .int 0) ∧ (mj_fc (TX2 k).2.2.1 = 2 → defaultValue (tyX2 k) = .long 0) ∧ (mj_fc (TX2 k).2.2.1 = 3 → defaultValue (tyX2 k) = .null) := by decide +kernel
theorem mj_clw3 : ∀ w ∈ u_ws RX3 TX3 4, w ∈ mj_WSG := by decide +kernel
theorem mj_clt3 : ∀ k, k < 4 → parseFieldDescriptor (TX3 k).2.2.1 = some (tyX3 k) ∧ (mj_fc (TX3 k).2.2.1 = 0 ∨ mj_fc (TX3 k).2.2.1 = 1 → defaultValue (tyX3 k) = .int 0) ∧ (mj_fc (TX3 k).2.2.1 = 2 → defaultValue (tyX3 k) = .long 0) ∧ (mj_fc (TX3 k).2.2.1 = 3 → defaultValue (tyX3 k) = .null) := by decide +kernel
theorem mj_clw4 : ∀ w ∈ u_ws RX4 TX4 9, w ∈ mj_WSG := by decide +kernel
theorem mj_clt4 : ∀ k, k < 9 → parseFieldDescriptor (TX4 k).2.2.1 = some (tyX4 k) ∧ (mj_fc (TX4 k).2.2.1 = 0 ∨ mj_fc (TX4 k).2.2.1 = 1 → defaultValue (tyX4 k) = .int 0) ∧ (mj_fc (TX4 k).2.2.1 = 2 → defaultValue (tyX4 k) = .long 0) ∧ (mj_fc (TX4 k).2.2.1 = 3 → defaultValue (tyX4 k) = .null) := by decide +kernel
theorem mj_clw5 : ∀ w ∈ u_ws RX5 TX5 3, w ∈ mj_WSG := by decide +kernel
theorem mj_clt5 : ∀ k, k < 3 → parseFieldDescriptor (TX5 k).2.2.1 = some (tyX5 k) ∧ (mj_fc (TX5 k).2.2.1 = 0 ∨ mj_fc (TX5 k).2.2.1 = 1 → defaultValue (tyX5 k) = .int 0) ∧ (mj_fc (TX5 k).2.2.1 = 2 → defaultValue (tyX5 k) = .long 0) ∧ (mj_fc (TX5 k).2.2.1 = 3 → defaultValue (tyX5 k) = .null) := by decide +kernel
theorem mj_clw6 : ∀ w ∈ u_ws RX6 TX6 17, w ∈ mj_WSG := by decide +kernel
theorem mj_clt6 : ∀ k, k < 17 → parseFieldDescriptor (TX6 k).2.2.1 = some (tyX6 k) ∧ (mj_fc (TX6 k).2.2.1 = 0 ∨ mj_fc (TX6 k).2.2.1 = 1 → defaultValue (tyX6 k) = .int 0) ∧ (mj_fc (TX6 k).2.2.1 = 2 → defaultValue (tyX6 k) = .long 0) ∧ (mj_fc (TX6 k).2.2.1 = 3 → defaultValue (tyX6 k) = .null) := by decide +kernel
theorem mj_clw7 : ∀ w ∈ u_ws RX7 TX7 17, w ∈ mj_WSG := by decide +kernel
theorem mj_clt7 : ∀ k, k < 17 → parseFieldDescriptor (TX7 k).2.2.1 = some (tyX7 k) ∧ (mj_fc (TX7 k).2.2.1 = 0 ∨ mj_fc (TX7 k).2.2.1 = 1 → defaultValue (tyX7 k) = .int 0) ∧ (mj_fc (TX7 k).2.2.1 = 2 → defaultValue (tyX7 k) = .long 0) ∧ (mj_fc (TX7 k).2.2.1 = 3 → defaultValue (tyX7 k) = .null) := by decide +kernel
theorem mj_clw8 : ∀ w ∈ u_ws RX8 TX8 6, w ∈ mj_WSG := by decide +kernel
theorem mj_clt8 : ∀ k, k < 6 → parseFieldDescriptor (TX8 k).2.2.1 = some (tyX8 k) ∧ (mj_fc (TX8 k).2.2.1 = 0 ∨ mj_fc (TX8 k).2.2.1 = 1 → defaultValue (tyX8 k) = .int 0) ∧ (mj_fc (TX8 k).2.2.1 = 2 → defaultValue (tyX8 k) = .long 0) ∧ (mj_fc (TX8 k).2.2.1 = 3 → defaultValue (tyX8 k) = .null) := by decide +kernel
theorem mj_clw9 : ∀ w ∈ u_ws RX9 TX9 11, w ∈ mj_WSG := by decide +kernel
theorem mj_clt9 : ∀ k, k < 11 → parseFieldDescriptor (TX9 k).2.2.1 = some (tyX9 k) ∧ (mj_fc (TX9 k).2.2.1 = 0 ∨ mj_fc (TX9 k).2.2.1 = 1 → defaultValue (tyX9 k) = .int 0) ∧ (mj_fc (TX9 k).2.2.1 = 2 → defaultValue (tyX9 k) = .long 0) ∧ (mj_fc (TX9 k).2.2.1 = 3 → defaultValue (tyX9 k) = .null) := by decide +kernel
theorem mj_clw10 : ∀ w ∈ u_ws RX10 TX10 10, w ∈ mj_WSG := by decide +kernel
theorem mj_clt10 : ∀ k, k < 10 → parseFieldDescriptor (TX10 k).2.2.1 = some (tyX10 k) ∧ (mj_fc (TX10 k).2.2.1 = 0 ∨ mj_fc (TX10 k).2.2.1 = 1 → defaultValue (tyX10 k) = .int 0) ∧ (mj_fc (TX10 k).2.2.1 = 2 → defaultValue (tyX10 k) = .long 0) ∧ (mj_fc (TX10 k).2.2.1 = 3 → defaultValue (tyX10 k) = .null) := by decide +kernel
theorem mj_clw11 : ∀ w ∈ u_ws RX11 TX11 10, w ∈ mj_WSG := by decide +kernel
theorem mj_clt11 : ∀ k, k < 10 → parseFieldDescriptor (TX11 k).2.2.1 = some (tyX11 k) ∧ (mj_fc (TX11 k).2.2.1 = 0 ∨ mj_fc (TX11 k).2.2.1 = 1 → defaultValue (tyX11 k) = .int 0) ∧ (mj_fc (TX11 k).2.2.1 = 2 → defaultValue (tyX11 k) = .long 0) ∧ (mj_fc (TX11 k).2.2.1 = 3 → defaultValue (tyX11 k) = .null) := by decide +kernel
theorem mj_clw12 : ∀ w ∈ u_ws RX12 TX12 67, w ∈ mj_WSG := by decide +kernel
theorem mj_clt12 : ∀ k, k < 67 → parseFieldDescriptor (TX12 k).2.2.1 = some (tyX12 k) ∧ (mj_fc (TX12 k).2.2.1 = 0 ∨ mj_fc (TX12 k).2.2.1 = 1 → defaultValue (tyX12 k) = .int 0) ∧ (mj_fc (TX12 k).2.2.1 = 2 → defaultValue (tyX12 k) = .long 0) ∧ (mj_fc (TX12 k).2.2.1 = 3 → defaultValue (tyX12 k) = .null) := by decide +kernel
theorem mj_clok_ok : mj_clok := by
  intro ci q hq
  match ci, hq with
  | 0, hq => cases hq; exact ⟨mj_clw0, nmX0, tyX0, fun k hk => ⟨(mj_clt0 k hk).1, fun v h1 h2 => h2.trans ((mj_clt0 k hk).2.1 h1), (mj_clt0 k hk).2.2.1, (mj_clt0 k hk).2.2.2⟩⟩
  | 1, hq => cases hq; exact ⟨mj_clw1, nmX1, tyX1, fun k hk => ⟨(mj_clt1 k hk).1, fun v h1 h2 => h2.trans ((mj_clt1 k hk).2.1 h1), (mj_clt1 k hk).2.2.1, (mj_clt1 k hk).2.2.2⟩⟩
  | 2, hq => cases hq; exact ⟨mj_clw2, nmX2, tyX2, fun k hk => ⟨(mj_clt2 k hk).1, fun v h1 h2 => h2.trans ((mj_clt2 k hk).2.1 h1), (mj_clt2 k hk).2.2.1, (mj_clt2 k hk).2.2.2⟩⟩
  | 3, hq => cases hq; exact ⟨mj_clw3, nmX3, tyX3, fun k hk => ⟨(mj_clt3 k hk).1, fun v h1 h2 => h2.trans ((mj_clt3 k hk).2.1 h1), (mj_clt3 k hk).2.2.1, (mj_clt3 k hk).2.2.2⟩⟩
  | 4, hq => cases hq; exact ⟨mj_clw4, nmX4, tyX4, fun k hk => ⟨(mj_clt4 k hk).1, fun v h1 h2 => h2.trans ((mj_clt4 k hk).2.1 h1), (mj_clt4 k hk).2.2.1, (mj_clt4 k hk).2.2.2⟩⟩
  | 5, hq => cases hq; exact ⟨mj_clw5, nmX5, tyX5, fun k hk => ⟨(mj_clt5 k hk).1, fun v h1 h2 => h2.trans ((mj_clt5 k hk).2.1 h1), (mj_clt5 k hk).2.2.1, (mj_clt5 k hk).2.2.2⟩⟩
  | 6, hq => cases hq; exact ⟨mj_clw6, nmX6, tyX6, fun k hk => ⟨(mj_clt6 k hk).1, fun v h1 h2 => h2.trans ((mj_clt6 k hk).2.1 h1), (mj_clt6 k hk).2.2.1, (mj_clt6 k hk).2.2.2⟩⟩
  | 7, hq => cases hq; exact ⟨mj_clw7, nmX7, tyX7, fun k hk => ⟨(mj_clt7 k hk).1, fun v h1 h2 => h2.trans ((mj_clt7 k hk).2.1 h1), (mj_clt7 k hk).2.2.1, (mj_clt7 k hk).2.2.2⟩⟩
  | 8, hq => cases hq; exact ⟨mj_clw8, nmX8, tyX8, fun k hk => ⟨(mj_clt8 k hk).1, fun v h1 h2 => h2.trans ((mj_clt8 k hk).2.1 h1), (mj_clt8 k hk).2.2.1, (mj_clt8 k hk).2.2.2⟩⟩
  | 9, hq => cases hq; exact ⟨mj_clw9, nmX9, tyX9, fun k hk => ⟨(mj_clt9 k hk).1, fun v h1 h2 => h2.trans ((mj_clt9 k hk).2.1 h1), (mj_clt9 k hk).2.2.1, (mj_clt9 k hk).2.2.2⟩⟩
  | 10, hq => cases hq; exact ⟨mj_clw10, nmX10, tyX10, fun k hk => ⟨(mj_clt10 k hk).1, fun v h1 h2 => h2.trans ((mj_clt10 k hk).2.1 h1), (mj_clt10 k hk).2.2.1, (mj_clt10 k hk).2.2.2⟩⟩
  | 11, hq => cases hq; exact ⟨mj_clw11, nmX11, tyX11, fun k hk => ⟨(mj_clt11 k hk).1, fun v h1 h2 => h2.trans ((mj_clt11 k hk).2.1 h1), (mj_clt11 k hk).2.2.1, (mj_clt11 k hk).2.2.2⟩⟩
  | 12, hq => cases hq; exact ⟨mj_clw12, nmX12, tyX12, fun k hk => ⟨(mj_clt12 k hk).1, fun v h1 h2 => h2.trans ((mj_clt12 k hk).2.1 h1), (mj_clt12 k hk).2.2.1, (mj_clt12 k hk).2.2.2⟩⟩
  | n + 13, hq => simp [vwCl] at hq
theorem mj_gw_ok : mj_gw := ⟨List.mem_filter.mpr ⟨List.mem_of_getElem? (i := 732) (by decide +kernel), by decide +kernel⟩, List.mem_filter.mpr ⟨List.mem_of_getElem? (i := 731) (by decide +kernel), by decide +kernel⟩, List.mem_filter.mpr ⟨List.mem_of_getElem? (i := 158) (by decide +kernel), by decide +kernel⟩, by decide +kernel, List.mem_filter.mpr ⟨List.mem_of_getElem? (i := 171) (by decide +kernel), by decide +kernel⟩, List.mem_filter.mpr ⟨List.mem_of_getElem? (i := 172) (by decide +kernel), by decide +kernel⟩, List.mem_filter.mpr ⟨List.mem_of_getElem? (i := 274) (by decide +kernel), by decide +kernel⟩, List.mem_filter.mpr ⟨List.mem_of_getElem? (i := 588) (by decide +kernel), by decide +kernel⟩, List.mem_filter.mpr ⟨List.mem_of_getElem? (i := 541) (by decide +kernel), by decide +kernel⟩⟩
theorem mj_n1 : ∀ i, i < 5 → (Cond.exactly (mj_tm i) "java/lang/String") ∈ flatC (Jvm.Cond.and given_1 narrow_1) := by decide +kernel
theorem mj_n2 : ∀ i, i < 5 → (Cond.eq (.field (mj_tm i) "java/lang/String" "coder" "B") (.int 0)) ∈ flatC (Jvm.Cond.and given_1 narrow_1) := by decide +kernel
theorem mj_n3 : ∀ i, i < 5 → (Cond.arrayOf (.field (mj_tm i) "java/lang/String" "value" "[B") .byte) ∈ flatC (Jvm.Cond.and given_1 narrow_1) := by decide +kernel
theorem mj_n4 : ∀ i, i < 5 → (Cond.eq (.length (.field (mj_tm i) "java/lang/String" "value" "[B")) (.int (Int32.ofNat (mj_bl0.getD i 0)))) ∈ flatC (Jvm.Cond.and given_1 narrow_1) := by decide +kernel
theorem mj_n5_0 : ∀ j, j < 87 → (Cond.eq (.elem (.field (mj_tm 0) "java/lang/String" "value" "[B") (.int (Int32.ofNat j))) (.int ((mj_b0.getD 0 []).getD j 0))) ∈ flatC (Jvm.Cond.and given_1 narrow_1) := by decide +kernel
theorem mj_n5_1 : ∀ j, j < 7 → (Cond.eq (.elem (.field (mj_tm 1) "java/lang/String" "value" "[B") (.int (Int32.ofNat j))) (.int ((mj_b0.getD 1 []).getD j 0))) ∈ flatC (Jvm.Cond.and given_1 narrow_1) := by decide +kernel
theorem mj_n5_2 : ∀ j, j < 14 → (Cond.eq (.elem (.field (mj_tm 2) "java/lang/String" "value" "[B") (.int (Int32.ofNat j))) (.int ((mj_b0.getD 2 []).getD j 0))) ∈ flatC (Jvm.Cond.and given_1 narrow_1) := by decide +kernel
theorem mj_n5_3 : ∀ j, j < 24 → (Cond.eq (.elem (.field (mj_tm 3) "java/lang/String" "value" "[B") (.int (Int32.ofNat j))) (.int ((mj_b0.getD 3 []).getD j 0))) ∈ flatC (Jvm.Cond.and given_1 narrow_1) := by decide +kernel
theorem mj_n5_4 : ∀ j, j < 10 → (Cond.eq (.elem (.field (mj_tm 4) "java/lang/String" "value" "[B") (.int (Int32.ofNat j))) (.int ((mj_b0.getD 4 []).getD j 0))) ∈ flatC (Jvm.Cond.and given_1 narrow_1) := by decide +kernel
theorem mj_n6 : ∀ i, i < 5 → ∀ j, j < 5 → i ≠ j → (Cond.not (Cond.eq (mj_tm i) (mj_tm j))) ∈ flatC (Jvm.Cond.and given_1 narrow_1) ∨ (Cond.not (Cond.eq (mj_tm j) (mj_tm i))) ∈ flatC (Jvm.Cond.and given_1 narrow_1) := by decide +kernel
theorem mj_n7_SET_MOST : (Cond.arrayOf (.static "LastToWince" "SET_MOST" "[I") .int) ∈ flatC (Jvm.Cond.and given_1 narrow_1) ∧ (Cond.eq (.length (.static "LastToWince" "SET_MOST" "[I")) (.int (Int32.ofNat 5))) ∈ flatC (Jvm.Cond.and given_1 narrow_1) ∧ ∀ j, j < 5 → (Cond.eq (.elem (.static "LastToWince" "SET_MOST" "[I") (.int (Int32.ofNat j))) (.int (([99, 9, 9999, 999, 5] : List Int32).getD j 0))) ∈ flatC (Jvm.Cond.and given_1 narrow_1) := by decide +kernel
theorem mj_n7_TOLD_MOST : (Cond.arrayOf (.static "LastToWince" "TOLD_MOST" "[I") .int) ∈ flatC (Jvm.Cond.and given_1 narrow_1) ∧ (Cond.eq (.length (.static "LastToWince" "TOLD_MOST" "[I")) (.int (Int32.ofNat 3))) ∈ flatC (Jvm.Cond.and given_1 narrow_1) ∧ ∀ j, j < 3 → (Cond.eq (.elem (.static "LastToWince" "TOLD_MOST" "[I") (.int (Int32.ofNat j))) (.int (([1000, 9999, 99] : List Int32).getD j 0))) ∈ flatC (Jvm.Cond.and given_1 narrow_1) := by decide +kernel
theorem mj_n8 : (Cond.eq (.static "java/lang/String" "COMPACT_STRINGS" "Z") (.int 1)) ∈ flatC (Jvm.Cond.and given_1 narrow_1) ∧ (Cond.isRef (.static "jdk/internal/util/Preconditions" "SIOOBE_FORMATTER" "Ljava/util/function/BiFunction;")) ∈ flatC (Jvm.Cond.and given_1 narrow_1) := by decide +kernel
def mj_srf : Cond → List (String × Nat × String)
  | .stringRef o k t => [(o, k, t)]
  | _ => []
theorem mj_sref0 : lw_tbl.flatMap mj_srf = [("LastToWince$Reader", 39, "wince price calm when or and not nerve skin blind winced kind worth word minute dark in"), ("LastToWince$Reader", 76, "say for"), ("LastToWince$Reader", 78, "dealer pinches"), ("LastToWince$Reader", 80, "lot bar \x61dmit dark light"), ("LastToWince$Reader", 133, ";+-*/()<=>")] := by decide +kernel
theorem mj_sref (w : Cond) {own : String} {k : Nat} {tx : String} (h : w ∈ lw_tbl) (e : w = .stringRef own k tx) : (own, k, tx) ∈ ([("LastToWince$Reader", 39, "wince price calm when or and not nerve skin blind winced kind worth word minute dark in"), ("LastToWince$Reader", 76, "say for"), ("LastToWince$Reader", 78, "dealer pinches"), ("LastToWince$Reader", 80, "lot bar \x61dmit dark light"), ("LastToWince$Reader", 133, ";+-*/()<=>")] : List (String × Nat × String)) := by
  rw [← mj_sref0]
  subst e
  exact List.mem_flatMap.mpr ⟨_, h, List.mem_cons_self⟩
