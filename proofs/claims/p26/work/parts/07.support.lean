abbrev vI (v : Int32) : Option Value := some (.int v)
abbrev vV (_ : Unit) : Option Value := none
abbrev vR (ad : Ad) (t : Nat) (i : Nat) : Option Value := some (.ref (ad t i))
/-- enough for every loop -/
def FU : Nat := 1000000000
theorem zn {v : Int32} (h : v = 0 ∨ v = 1) : narrow .boolean (.int v) = .int v := by rcases h with rfl | rfl <;> rfl
theorem lvs_0 (σ : Wd) : lvp σ 0 0 := ⟨Nat.zero_lt_one, fun z => absurd z (by decide)⟩
theorem lvs_4 (σ : Wd) : lvp σ 4 0 := ⟨Nat.zero_lt_one, fun z => absurd z (by decide)⟩
theorem lvb_5 {σ : Wd} {i : Nat} (h : i < 3) : lvp σ 5 i := ⟨h, fun z => absurd z (by decide)⟩
theorem lvb_6 {σ : Wd} {i : Nat} (h : i < 3) : lvp σ 6 i := ⟨h, fun z => absurd z (by decide)⟩
theorem lvs_7 (σ : Wd) : lvp σ 7 0 := ⟨Nat.zero_lt_one, fun z => absurd z (by decide)⟩
theorem lvs_8 (σ : Wd) : lvp σ 8 0 := ⟨Nat.zero_lt_one, fun z => absurd z (by decide)⟩
theorem lvb_9 {σ : Wd} {i : Nat} (h : i < 3) : lvp σ 9 i := ⟨h, fun z => absurd z (by decide)⟩
theorem lvs_10 (σ : Wd) : lvp σ 10 0 := ⟨Nat.zero_lt_one, fun z => absurd z (by decide)⟩
theorem lvb_11 {σ : Wd} {i : Nat} (h : i < 4) : lvp σ 11 i := ⟨h, fun z => absurd z (by decide)⟩
theorem lvs_12 (σ : Wd) : lvp σ 12 0 := ⟨Nat.zero_lt_one, fun z => absurd z (by decide)⟩
theorem lvs_13 (σ : Wd) : lvp σ 13 0 := ⟨Nat.zero_lt_one, fun z => absurd z (by decide)⟩
theorem lvs_14 (σ : Wd) : lvp σ 14 0 := ⟨Nat.zero_lt_one, fun z => absurd z (by decide)⟩
theorem lvs_15 (σ : Wd) : lvp σ 15 0 := ⟨Nat.zero_lt_one, fun z => absurd z (by decide)⟩
theorem lvs_16 (σ : Wd) : lvp σ 16 0 := ⟨Nat.zero_lt_one, fun z => absurd z (by decide)⟩
theorem lvs_17 (σ : Wd) : lvp σ 17 0 := ⟨Nat.zero_lt_one, fun z => absurd z (by decide)⟩
theorem lvs_18 (σ : Wd) : lvp σ 18 0 := ⟨Nat.zero_lt_one, fun z => absurd z (by decide)⟩
theorem lvs_19 (σ : Wd) : lvp σ 19 0 := ⟨Nat.zero_lt_one, fun z => absurd z (by decide)⟩
theorem lvs_20 (σ : Wd) : lvp σ 20 0 := ⟨Nat.zero_lt_one, fun z => absurd z (by decide)⟩
theorem lvd_21 {σ : Wd} {i : Nat} (h : i < σ.2.2 8) : lvp σ 21 i := ⟨h, fun z => absurd z (by decide)⟩
theorem lvd_22 {σ : Wd} {i : Nat} (h : i < σ.2.2 8) : lvp σ 22 i := ⟨h, fun z => absurd z (by decide)⟩
theorem lvd_23 {σ : Wd} {i : Nat} (h : i < σ.2.2 8) : lvp σ 23 i := ⟨h, fun z => absurd z (by decide)⟩
theorem lvd_24 {σ : Wd} {i : Nat} (h : i < σ.2.2 8) : lvp σ 24 i := ⟨h, fun z => absurd z (by decide)⟩
theorem lvd_25 {σ : Wd} {i : Nat} (h : i < σ.2.2 9) : lvp σ 25 i := ⟨h, fun z => absurd z (by decide)⟩
theorem lvd_26 {σ : Wd} {i : Nat} (h : i < σ.2.2 10) : lvp σ 26 i := ⟨h, fun z => absurd z (by decide)⟩
theorem lvs_71 (σ : Wd) : lvp σ 71 0 := ⟨Nat.zero_lt_one, fun z => absurd z (by decide)⟩
theorem lvs_72 (σ : Wd) : lvp σ 72 0 := ⟨Nat.zero_lt_one, fun z => absurd z (by decide)⟩
theorem lvs_73 (σ : Wd) : lvp σ 73 0 := ⟨Nat.zero_lt_one, fun z => absurd z (by decide)⟩
theorem lvs_74 (σ : Wd) : lvp σ 74 0 := ⟨Nat.zero_lt_one, fun z => absurd z (by decide)⟩
theorem lvs_75 (σ : Wd) : lvp σ 75 0 := ⟨Nat.zero_lt_one, fun z => absurd z (by decide)⟩
theorem lvs_76 (σ : Wd) : lvp σ 76 0 := ⟨Nat.zero_lt_one, fun z => absurd z (by decide)⟩
theorem lvs_77 (σ : Wd) : lvp σ 77 0 := ⟨Nat.zero_lt_one, fun z => absurd z (by decide)⟩
theorem lvl_0 (σ : Wd) : lvp σ 1 0 := ⟨show 0 < 2 + σ.2.2 8 by omega, fun z => absurd z (by decide)⟩
theorem lvl_1 (σ : Wd) : lvp σ 1 1 := ⟨show 1 < 2 + σ.2.2 8 by omega, fun z => absurd z (by decide)⟩
theorem lvl_f {σ : Wd} {u : Nat} (h : u < σ.2.2 8) : lvp σ 1 (u + 2) := ⟨show u + 2 < 2 + σ.2.2 8 by omega, fun z => absurd z (by decide)⟩
theorem wrc_0_6 (X : Xt) (ad : Ad) (σ : Wd) (i : Nat) (v : Int32) : cellv X ad (wr σ 0 i 6 v) 0 i = .inr (10, [.ref (ad 1 0), .ref (ad 1 1), .ref (ad 4 0), .ref (ad 7 0), .ref (ad 12 0), .ref (ad 19 0), .int v, .int (σ.1 0 i 7), .int (σ.1 0 i 8), .int (σ.1 0 i 9)]) := by rw [cell_0]; simp [wr]
theorem wrc_0_7 (X : Xt) (ad : Ad) (σ : Wd) (i : Nat) (v : Int32) : cellv X ad (wr σ 0 i 7 v) 0 i = .inr (10, [.ref (ad 1 0), .ref (ad 1 1), .ref (ad 4 0), .ref (ad 7 0), .ref (ad 12 0), .ref (ad 19 0), .int (σ.1 0 i 6), .int v, .int (σ.1 0 i 8), .int (σ.1 0 i 9)]) := by rw [cell_0]; simp [wr]
theorem wrc_0_8 (X : Xt) (ad : Ad) (σ : Wd) (i : Nat) (v : Int32) : cellv X ad (wr σ 0 i 8 v) 0 i = .inr (10, [.ref (ad 1 0), .ref (ad 1 1), .ref (ad 4 0), .ref (ad 7 0), .ref (ad 12 0), .ref (ad 19 0), .int (σ.1 0 i 6), .int (σ.1 0 i 7), .int v, .int (σ.1 0 i 9)]) := by rw [cell_0]; simp [wr]
theorem wrc_0_9 (X : Xt) (ad : Ad) (σ : Wd) (i : Nat) (v : Int32) : cellv X ad (wr σ 0 i 9 v) 0 i = .inr (10, [.ref (ad 1 0), .ref (ad 1 1), .ref (ad 4 0), .ref (ad 7 0), .ref (ad 12 0), .ref (ad 19 0), .int (σ.1 0 i 6), .int (σ.1 0 i 7), .int (σ.1 0 i 8), .int v]) := by rw [cell_0]; simp [wr]
theorem wrc_1_0 (X : Xt) (ad : Ad) (σ : Wd) (i : Nat) (v : Int32) : cellv X ad (wr σ 1 i 0 v) 1 i = .inr (0, [.int v, .ref (elA X ad σ i), .int (σ.1 1 i 2)]) := by rw [cell_1]; simp [wr]; rfl
theorem wrc_1_2 (X : Xt) (ad : Ad) (σ : Wd) (i : Nat) (v : Int32) : cellv X ad (wr σ 1 i 2 v) 1 i = .inr (0, [.int (σ.1 1 i 0), .ref (elA X ad σ i), .int v]) := by rw [cell_1]; simp [wr]; rfl
theorem wrc_5_1 (X : Xt) (ad : Ad) (σ : Wd) (i : Nat) (v : Int32) : cellv X ad (wr σ 5 i 1 v) 5 i = .inr (7, [.ref (ad 6 i), .int v]) := by rw [cell_5]; simp [wr]
theorem wrc_9_0 (X : Xt) (ad : Ad) (σ : Wd) (i : Nat) (v : Int32) : cellv X ad (wr σ 9 i 0 v) 9 i = .inr (2, [.int v, .int (σ.1 9 i 1), .int (σ.1 9 i 2)]) := by rw [cell_9]; simp [wr]
theorem wrc_9_1 (X : Xt) (ad : Ad) (σ : Wd) (i : Nat) (v : Int32) : cellv X ad (wr σ 9 i 1 v) 9 i = .inr (2, [.int (σ.1 9 i 0), .int v, .int (σ.1 9 i 2)]) := by rw [cell_9]; simp [wr]
theorem wrc_9_2 (X : Xt) (ad : Ad) (σ : Wd) (i : Nat) (v : Int32) : cellv X ad (wr σ 9 i 2 v) 9 i = .inr (2, [.int (σ.1 9 i 0), .int (σ.1 9 i 1), .int v]) := by rw [cell_9]; simp [wr]
theorem wrc_11_0 (X : Xt) (ad : Ad) (σ : Wd) (i : Nat) (v : Int32) : cellv X ad (wr σ 11 i 0 v) 11 i = .inr (6, [.int v, .int (σ.1 11 i 1)]) := by rw [cell_11]; simp [wr]
theorem wrc_11_1 (X : Xt) (ad : Ad) (σ : Wd) (i : Nat) (v : Int32) : cellv X ad (wr σ 11 i 1 v) 11 i = .inr (6, [.int (σ.1 11 i 0), .int v]) := by rw [cell_11]; simp [wr]
theorem wrc_12_6 (X : Xt) (ad : Ad) (σ : Wd) (i : Nat) (v : Int32) : cellv X ad (wr σ 12 i 6 v) 12 i = .inr (4, [.ref (ad 13 0), .ref (ad 14 0), .ref (ad 15 0), .ref (ad 16 0), .ref (ad 17 0), .ref (ad 18 0), .int v, .int (σ.1 12 i 7)]) := by rw [cell_12]; simp [wr]
theorem wrc_12_7 (X : Xt) (ad : Ad) (σ : Wd) (i : Nat) (v : Int32) : cellv X ad (wr σ 12 i 7 v) 12 i = .inr (4, [.ref (ad 13 0), .ref (ad 14 0), .ref (ad 15 0), .ref (ad 16 0), .ref (ad 17 0), .ref (ad 18 0), .int (σ.1 12 i 6), .int v]) := by rw [cell_12]; simp [wr]
theorem wrc_21_0 (X : Xt) (ad : Ad) (σ : Wd) (i : Nat) (v : Int32) : cellv X ad (wr σ 21 i 0 v) 21 i = .inr (9, [.int v, .ref (ad 1 (i + 2)), .int (σ.1 21 i 2), .int (σ.1 21 i 3), .ref (ad 22 i), .ref (ad 23 i), .ref (ad 24 i)]) := by rw [cell_21]; simp [wr]
theorem wrc_21_2 (X : Xt) (ad : Ad) (σ : Wd) (i : Nat) (v : Int32) : cellv X ad (wr σ 21 i 2 v) 21 i = .inr (9, [.int (σ.1 21 i 0), .ref (ad 1 (i + 2)), .int v, .int (σ.1 21 i 3), .ref (ad 22 i), .ref (ad 23 i), .ref (ad 24 i)]) := by rw [cell_21]; simp [wr]
theorem wrc_21_3 (X : Xt) (ad : Ad) (σ : Wd) (i : Nat) (v : Int32) : cellv X ad (wr σ 21 i 3 v) 21 i = .inr (9, [.int (σ.1 21 i 0), .ref (ad 1 (i + 2)), .int (σ.1 21 i 2), .int v, .ref (ad 22 i), .ref (ad 23 i), .ref (ad 24 i)]) := by rw [cell_21]; simp [wr]
theorem wrc_25_0 (X : Xt) (ad : Ad) (σ : Wd) (i : Nat) (v : Int32) : cellv X ad (wr σ 25 i 0 v) 25 i = .inr (1, [.int v, .int (σ.1 25 i 1), .int (σ.1 25 i 2), .int (σ.1 25 i 3), .int (σ.1 25 i 4), .int (σ.1 25 i 5)]) := by rw [cell_25]; simp [wr]
theorem wrc_25_1 (X : Xt) (ad : Ad) (σ : Wd) (i : Nat) (v : Int32) : cellv X ad (wr σ 25 i 1 v) 25 i = .inr (1, [.int (σ.1 25 i 0), .int v, .int (σ.1 25 i 2), .int (σ.1 25 i 3), .int (σ.1 25 i 4), .int (σ.1 25 i 5)]) := by rw [cell_25]; simp [wr]
theorem wrc_25_2 (X : Xt) (ad : Ad) (σ : Wd) (i : Nat) (v : Int32) : cellv X ad (wr σ 25 i 2 v) 25 i = .inr (1, [.int (σ.1 25 i 0), .int (σ.1 25 i 1), .int v, .int (σ.1 25 i 3), .int (σ.1 25 i 4), .int (σ.1 25 i 5)]) := by rw [cell_25]; simp [wr]
theorem wrc_25_3 (X : Xt) (ad : Ad) (σ : Wd) (i : Nat) (v : Int32) : cellv X ad (wr σ 25 i 3 v) 25 i = .inr (1, [.int (σ.1 25 i 0), .int (σ.1 25 i 1), .int (σ.1 25 i 2), .int v, .int (σ.1 25 i 4), .int (σ.1 25 i 5)]) := by rw [cell_25]; simp [wr]
theorem wrc_25_4 (X : Xt) (ad : Ad) (σ : Wd) (i : Nat) (v : Int32) : cellv X ad (wr σ 25 i 4 v) 25 i = .inr (1, [.int (σ.1 25 i 0), .int (σ.1 25 i 1), .int (σ.1 25 i 2), .int (σ.1 25 i 3), .int v, .int (σ.1 25 i 5)]) := by rw [cell_25]; simp [wr]
theorem wrc_25_5 (X : Xt) (ad : Ad) (σ : Wd) (i : Nat) (v : Int32) : cellv X ad (wr σ 25 i 5 v) 25 i = .inr (1, [.int (σ.1 25 i 0), .int (σ.1 25 i 1), .int (σ.1 25 i 2), .int (σ.1 25 i 3), .int (σ.1 25 i 4), .int v]) := by rw [cell_25]; simp [wr]
theorem wrc_26_0 (X : Xt) (ad : Ad) (σ : Wd) (i : Nat) (v : Int32) : cellv X ad (wr σ 26 i 0 v) 26 i = .inr (3, [.int v, .int (σ.1 26 i 1), .int (σ.1 26 i 2), .int (σ.1 26 i 3)]) := by rw [cell_26]; simp [wr]
theorem wrc_26_1 (X : Xt) (ad : Ad) (σ : Wd) (i : Nat) (v : Int32) : cellv X ad (wr σ 26 i 1 v) 26 i = .inr (3, [.int (σ.1 26 i 0), .int v, .int (σ.1 26 i 2), .int (σ.1 26 i 3)]) := by rw [cell_26]; simp [wr]
theorem wrc_26_2 (X : Xt) (ad : Ad) (σ : Wd) (i : Nat) (v : Int32) : cellv X ad (wr σ 26 i 2 v) 26 i = .inr (3, [.int (σ.1 26 i 0), .int (σ.1 26 i 1), .int v, .int (σ.1 26 i 3)]) := by rw [cell_26]; simp [wr]
theorem wrc_26_3 (X : Xt) (ad : Ad) (σ : Wd) (i : Nat) (v : Int32) : cellv X ad (wr σ 26 i 3 v) 26 i = .inr (3, [.int (σ.1 26 i 0), .int (σ.1 26 i 1), .int (σ.1 26 i 2), .int v]) := by rw [cell_26]; simp [wr]
theorem lvl_g {σ : Wd} {i : Nat} (h : i < 2 + σ.2.2 8) : lvp σ 1 i := ⟨h, fun z => absurd z (by decide)⟩
theorem lvl_e {σ : Wd} {i : Nat} (h : i < 8 ∧ σ.2.2 (20 + i) ≠ 0) : lvp σ 27 i := ⟨h.1, fun _ => h.2⟩
abbrev vE (ad : Ad) (t : Nat) (i : Nat) : Option Value := some (.ref (ad (et t) i))
theorem in_0 : ∀ w ∈ u_ws RJx4a65c TJx4a65c 3, w ∈ G_ := by
  show ∀ w ∈ [u_lay RJx4a65c TJx4a65c 0, u_lay RJx4a65c TJx4a65c 1, u_lay RJx4a65c TJx4a65c 2], w ∈ G_
  exact List.forall_mem_cons.mpr ⟨gt1 57 (by decide +kernel) (by decide +kernel), List.forall_mem_cons.mpr ⟨gt1 53 (by decide +kernel) (by decide +kernel), List.forall_mem_cons.mpr ⟨gt1 55 (by decide +kernel) (by decide +kernel), fun _ h => absurd h List.not_mem_nil⟩⟩⟩
theorem in_1 : ∀ w ∈ u_ws RX0 TX0 6, w ∈ G_ := by
  show ∀ w ∈ [u_lay RX0 TX0 0, u_lay RX0 TX0 1, u_lay RX0 TX0 2, u_lay RX0 TX0 3, u_lay RX0 TX0 4, u_lay RX0 TX0 5], w ∈ G_
  exact List.forall_mem_cons.mpr ⟨gt2 205 (by decide +kernel) (by decide +kernel), List.forall_mem_cons.mpr ⟨gt2 207 (by decide +kernel) (by decide +kernel), List.forall_mem_cons.mpr ⟨gt2 209 (by decide +kernel) (by decide +kernel), List.forall_mem_cons.mpr ⟨gt2 211 (by decide +kernel) (by decide +kernel), List.forall_mem_cons.mpr ⟨gt2 213 (by decide +kernel) (by decide +kernel), List.forall_mem_cons.mpr ⟨gt2 215 (by decide +kernel) (by decide +kernel), fun _ h => absurd h List.not_mem_nil⟩⟩⟩⟩⟩⟩
theorem in_2 : ∀ w ∈ u_ws RX1 TX1 3, w ∈ G_ := by
  show ∀ w ∈ [u_lay RX1 TX1 0, u_lay RX1 TX1 1, u_lay RX1 TX1 2], w ∈ G_
  exact List.forall_mem_cons.mpr ⟨gt1 81 (by decide +kernel) (by decide +kernel), List.forall_mem_cons.mpr ⟨gt1 83 (by decide +kernel) (by decide +kernel), List.forall_mem_cons.mpr ⟨gt1 85 (by decide +kernel) (by decide +kernel), fun _ h => absurd h List.not_mem_nil⟩⟩⟩
theorem in_3 : ∀ w ∈ u_ws RX2 TX2 4, w ∈ G_ := by
  show ∀ w ∈ [u_lay RX2 TX2 0, u_lay RX2 TX2 1, u_lay RX2 TX2 2, u_lay RX2 TX2 3], w ∈ G_
  exact List.forall_mem_cons.mpr ⟨gt4 79 (by decide +kernel) (by decide +kernel), List.forall_mem_cons.mpr ⟨gt4 81 (by decide +kernel) (by decide +kernel), List.forall_mem_cons.mpr ⟨gt4 83 (by decide +kernel) (by decide +kernel), List.forall_mem_cons.mpr ⟨gt4 85 (by decide +kernel) (by decide +kernel), fun _ h => absurd h List.not_mem_nil⟩⟩⟩⟩
theorem in_4 : ∀ w ∈ u_ws RX3 TX3 8, w ∈ G_ := by
  show ∀ w ∈ [u_lay RX3 TX3 0, u_lay RX3 TX3 1, u_lay RX3 TX3 2, u_lay RX3 TX3 3, u_lay RX3 TX3 4, u_lay RX3 TX3 5, u_lay RX3 TX3 6, u_lay RX3 TX3 7], w ∈ G_
  exact List.forall_mem_cons.mpr ⟨gt1 125 (by decide +kernel) (by decide +kernel), List.forall_mem_cons.mpr ⟨gt1 127 (by decide +kernel) (by decide +kernel), List.forall_mem_cons.mpr ⟨gt1 129 (by decide +kernel) (by decide +kernel), List.forall_mem_cons.mpr ⟨gt1 131 (by decide +kernel) (by decide +kernel), List.forall_mem_cons.mpr ⟨gt1 133 (by decide +kernel) (by decide +kernel), List.forall_mem_cons.mpr ⟨gt1 135 (by decide +kernel) (by decide +kernel), List.forall_mem_cons.mpr ⟨gt1 137 (by decide +kernel) (by decide +kernel), List.forall_mem_cons.mpr ⟨gt1 139 (by decide +kernel) (by decide +kernel), fun _ h => absurd h List.not_mem_nil⟩⟩⟩⟩⟩⟩⟩⟩
theorem in_5 : ∀ w ∈ u_ws RX4 TX4 1, w ∈ G_ := by
  show ∀ w ∈ [u_lay RX4 TX4 0], w ∈ G_
  exact List.forall_mem_cons.mpr ⟨gt1 153 (by decide +kernel) (by decide +kernel), fun _ h => absurd h List.not_mem_nil⟩
theorem in_6 : ∀ w ∈ u_ws RX5 TX5 2, w ∈ G_ := by
  show ∀ w ∈ [u_lay RX5 TX5 0, u_lay RX5 TX5 1], w ∈ G_
  exact List.forall_mem_cons.mpr ⟨gt1 99 (by decide +kernel) (by decide +kernel), List.forall_mem_cons.mpr ⟨gt1 101 (by decide +kernel) (by decide +kernel), fun _ h => absurd h List.not_mem_nil⟩⟩
theorem in_7 : ∀ w ∈ u_ws RX6 TX6 2, w ∈ G_ := by
  show ∀ w ∈ [u_lay RX6 TX6 0, u_lay RX6 TX6 1], w ∈ G_
  exact List.forall_mem_cons.mpr ⟨gt1 163 (by decide +kernel) (by decide +kernel), List.forall_mem_cons.mpr ⟨gt1 165 (by decide +kernel) (by decide +kernel), fun _ h => absurd h List.not_mem_nil⟩⟩
theorem in_8 : ∀ w ∈ u_ws RX7 TX7 2, w ∈ G_ := by
  show ∀ w ∈ [u_lay RX7 TX7 0, u_lay RX7 TX7 1], w ∈ G_
  exact List.forall_mem_cons.mpr ⟨gt1 106 (by decide +kernel) (by decide +kernel), List.forall_mem_cons.mpr ⟨gt1 108 (by decide +kernel) (by decide +kernel), fun _ h => absurd h List.not_mem_nil⟩⟩
theorem in_9 : ∀ w ∈ u_ws RX8 TX8 7, w ∈ G_ := by
  show ∀ w ∈ [u_lay RX8 TX8 0, u_lay RX8 TX8 1, u_lay RX8 TX8 2, u_lay RX8 TX8 3, u_lay RX8 TX8 4, u_lay RX8 TX8 5, u_lay RX8 TX8 6], w ∈ G_
  exact List.forall_mem_cons.mpr ⟨gt2 97 (by decide +kernel) (by decide +kernel), List.forall_mem_cons.mpr ⟨gt2 99 (by decide +kernel) (by decide +kernel), List.forall_mem_cons.mpr ⟨gt2 101 (by decide +kernel) (by decide +kernel), List.forall_mem_cons.mpr ⟨gt2 103 (by decide +kernel) (by decide +kernel), List.forall_mem_cons.mpr ⟨gt2 105 (by decide +kernel) (by decide +kernel), List.forall_mem_cons.mpr ⟨gt2 107 (by decide +kernel) (by decide +kernel), List.forall_mem_cons.mpr ⟨gt2 109 (by decide +kernel) (by decide +kernel), fun _ h => absurd h List.not_mem_nil⟩⟩⟩⟩⟩⟩⟩
theorem in_10 : ∀ w ∈ u_ws RX9 TX9 10, w ∈ G_ := by
  show ∀ w ∈ [u_lay RX9 TX9 0, u_lay RX9 TX9 1, u_lay RX9 TX9 2, u_lay RX9 TX9 3, u_lay RX9 TX9 4, u_lay RX9 TX9 5, u_lay RX9 TX9 6, u_lay RX9 TX9 7, u_lay RX9 TX9 8, u_lay RX9 TX9 9], w ∈ G_
  exact List.forall_mem_cons.mpr ⟨gt1 178 (by decide +kernel) (by decide +kernel), List.forall_mem_cons.mpr ⟨gt1 180 (by decide +kernel) (by decide +kernel), List.forall_mem_cons.mpr ⟨gt1 182 (by decide +kernel) (by decide +kernel), List.forall_mem_cons.mpr ⟨gt1 184 (by decide +kernel) (by decide +kernel), List.forall_mem_cons.mpr ⟨gt1 186 (by decide +kernel) (by decide +kernel), List.forall_mem_cons.mpr ⟨gt1 188 (by decide +kernel) (by decide +kernel), List.forall_mem_cons.mpr ⟨gt1 190 (by decide +kernel) (by decide +kernel), List.forall_mem_cons.mpr ⟨gt1 192 (by decide +kernel) (by decide +kernel), List.forall_mem_cons.mpr ⟨gt1 194 (by decide +kernel) (by decide +kernel), List.forall_mem_cons.mpr ⟨gt1 196 (by decide +kernel) (by decide +kernel), fun _ h => absurd h List.not_mem_nil⟩⟩⟩⟩⟩⟩⟩⟩⟩⟩
section TSW
variable {α : Type} {X : Xt} {fin : Ad → Prop} {cc : ByteArray} {nL : Nat} {own : String} {rt : Option FieldType} {fr lo : Nat} {val : α → Option Value} {kc cs : Nat × Nat} {ad : Ad} {σ : Wd} {pc : Nat} {lv : List (Nat × Value)} {st : List Value} {f f1 f2 : Option ((α ⊕ String) × Wd)}
theorem r_ite {c : Prop} [Decidable c] (k1 : c → Bk X fin cc nL own rt fr lo val kc cs ad σ pc lv st f1) (k2 : ¬ c → Bk X fin cc nL own rt fr lo val kc cs ad σ pc lv st f2) : Bk X fin cc nL own rt fr lo val kc cs ad σ pc lv st (if c then f1 else f2) := by
  by_cases h : c
  · rw [if_pos h]; exact k1 h
  · rw [if_neg h]; exact k2 h
theorem r_tswIn {dflt lo9 hi : Int} {offs : Array Int} {len : Nat} {x y : Int32} {off : Int} (tgt : Nat) (hx : x = y) (hd : decode cc pc = .ok (.tableswitch dflt lo9 hi offs, len)) (h1 : ¬ y.toInt < lo9) (h2 : ¬ hi < y.toInt) (ho : (offs[(y.toInt - lo9).toNat]?).isSome = true) (hoo : (offs[(y.toInt - lo9).toNat]?).getD 0 = off) (ht : (pc : Int) + off = (tgt : Int)) (k : Bk X fin cc nL own rt fr lo val kc cs ad σ tgt lv st f) : Bk X fin cc nL own rt fr lo val kc cs ad σ pc lv (.int x :: st) f := by
  intro res σ' h p e s m args below meth c B H locs ls hH hS hl
  subst hx
  obtain ⟨z, hz⟩ := Option.isSome_iff_exists.mp ho
  rw [hz] at hoo
  cases hoo
  exact lv_tableIn B.1 B.2.1 hd h1 h2 hz ht (k res σ' h p e s m args below meth c B H locs ls hH hS hl)
theorem r_tswOut {dflt lo9 hi : Int} {offs : Array Int} {len : Nat} {x : Int32} (tgt : Nat) (hd : decode cc pc = .ok (.tableswitch dflt lo9 hi offs, len)) (hx : x.toInt < lo9 ∨ hi < x.toInt) (ht : (pc : Int) + dflt = (tgt : Int)) (k : Bk X fin cc nL own rt fr lo val kc cs ad σ tgt lv st f) : Bk X fin cc nL own rt fr lo val kc cs ad σ pc lv (.int x :: st) f :=
  fun res σ' h p e s m args below meth c B H locs ls hH hS hl => lv_tableOut B.1 B.2.1 hd hx ht (k res σ' h p e s m args below meth c B H locs ls hH hS hl)
theorem tsw_ne {x : Int32} (k : Int32) (n : Int) (hk : k.toInt = n) (h : ¬ x = k) : ¬ x.toInt = n := fun z => h (Int32.toInt_inj.mp (z.trans hk.symm))
theorem tsw_out4 {x : Int32} (h0 : ¬ x = 0) (h1 : ¬ x = 1) (h2 : ¬ x = 2) (h3 : ¬ x = 3) : x.toInt < 0 ∨ 3 < x.toInt := by
  have a0 := tsw_ne 0 0 (by decide) h0
  have a1 := tsw_ne 1 1 (by decide) h1
  have a2 := tsw_ne 2 2 (by decide) h2
  have a3 := tsw_ne 3 3 (by decide) h3
  omega
theorem tsw_out6 {x : Int32} (h0 : ¬ x = 0) (h1 : ¬ x = 1) (h2 : ¬ x = 2) (h3 : ¬ x = 3) (h4 : ¬ x = 4) (h5 : ¬ x = 5) : x.toInt < 0 ∨ 5 < x.toInt := by
  have a0 := tsw_ne 0 0 (by decide) h0
  have a1 := tsw_ne 1 1 (by decide) h1
  have a2 := tsw_ne 2 2 (by decide) h2
  have a3 := tsw_ne 3 3 (by decide) h3
  have a4 := tsw_ne 4 4 (by decide) h4
  have a5 := tsw_ne 5 5 (by decide) h5
  omega
end TSW
