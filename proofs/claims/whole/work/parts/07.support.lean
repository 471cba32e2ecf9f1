abbrev vI (v : Int32) : Option Value := some (.int v)
abbrev vV (_ : Unit) : Option Value := none
abbrev vR (ad : Ad) (t : Nat) (i : Nat) : Option Value := some (.ref (ad t i))
/-- enough for every loop -/
def FU : Nat := 1000000000
theorem zn {v : Int32} (h : v = 0 ∨ v = 1) : narrow .boolean (.int v) = .int v := by rcases h with rfl | rfl <;> rfl
theorem lvs_0 (σ : Wd) : lvp σ 0 0 := ⟨Nat.zero_lt_one, fun z => absurd z (by decide)⟩
theorem lvs_4 (σ : Wd) : lvp σ 4 0 := ⟨Nat.zero_lt_one, fun z => absurd z (by decide)⟩
theorem lvb_5 {σ : Wd} {i : Nat} (h : i < 3) : lvp σ 5 i := ⟨h, fun z => absurd z (by decide)⟩
theorem lvb_6 {σ : Wd} {i : Nat} (h : i < 3) : lvp σ 6 i := ⟨h, fun z => absurd z (by decide)⟩
theorem lvs_7 (σ : Wd) : lvp σ 7 0 := ⟨Nat.zero_lt_one, fun z => absurd z (by decide)⟩
theorem lvs_8 (σ : Wd) : lvp σ 8 0 := ⟨Nat.zero_lt_one, fun z => absurd z (by decide)⟩
theorem lvb_9 {σ : Wd} {i : Nat} (h : i < 3) : lvp σ 9 i := ⟨h, fun z => absurd z (by decide)⟩
theorem lvs_10 (σ : Wd) : lvp σ 10 0 := ⟨Nat.zero_lt_one, fun z => absurd z (by decide)⟩
theorem lvb_11 {σ : Wd} {i : Nat} (h : i < 4) : lvp σ 11 i := ⟨h, fun z => absurd z (by decide)⟩
theorem lvs_12 (σ : Wd) : lvp σ 12 0 := ⟨Nat.zero_lt_one, fun z => absurd z (by decide)⟩
theorem lvs_13 (σ : Wd) : lvp σ 13 0 := ⟨Nat.zero_lt_one, fun z => absurd z (by decide)⟩
theorem lvs_14 (σ : Wd) : lvp σ 14 0 := ⟨Nat.zero_lt_one, fun z => absurd z (by decide)⟩
theorem lvs_15 (σ : Wd) : lvp σ 15 0 := ⟨Nat.zero_lt_one, fun z => absurd z (by decide)⟩
theorem lvs_16 (σ : Wd) : lvp σ 16 0 := ⟨Nat.zero_lt_one, fun z => absurd z (by decide)⟩
theorem lvs_17 (σ : Wd) : lvp σ 17 0 := ⟨Nat.zero_lt_one, fun z => absurd z (by decide)⟩
theorem lvs_18 (σ : Wd) : lvp σ 18 0 := ⟨Nat.zero_lt_one, fun z => absurd z (by decide)⟩
theorem lvs_19 (σ : Wd) : lvp σ 19 0 := ⟨Nat.zero_lt_one, fun z => absurd z (by decide)⟩
theorem lvs_20 (σ : Wd) : lvp σ 20 0 := ⟨Nat.zero_lt_one, fun z => absurd z (by decide)⟩
theorem lvd_21 {σ : Wd} {i : Nat} (h : i < σ.2.2 8) : lvp σ 21 i := ⟨h, fun z => absurd z (by decide)⟩
theorem lvd_22 {σ : Wd} {i : Nat} (h : i < σ.2.2 8) : lvp σ 22 i := ⟨h, fun z => absurd z (by decide)⟩
theorem lvd_23 {σ : Wd} {i : Nat} (h : i < σ.2.2 8) : lvp σ 23 i := ⟨h, fun z => absurd z (by decide)⟩
theorem lvd_24 {σ : Wd} {i : Nat} (h : i < σ.2.2 8) : lvp σ 24 i := ⟨h, fun z => absurd z (by decide)⟩
theorem lvd_25 {σ : Wd} {i : Nat} (h : i < σ.2.2 9) : lvp σ 25 i := ⟨h, fun z => absurd z (by decide)⟩
theorem lvd_26 {σ : Wd} {i : Nat} (h : i < σ.2.2 10) : lvp σ 26 i := ⟨h, fun z => absurd z (by decide)⟩
theorem lvs_30 (σ : Wd) : lvp σ 30 0 := ⟨Nat.zero_lt_one, fun z => absurd z (by decide)⟩
theorem lvs_31 (σ : Wd) : lvp σ 31 0 := ⟨Nat.zero_lt_one, fun z => absurd z (by decide)⟩
theorem lvs_32 (σ : Wd) : lvp σ 32 0 := ⟨Nat.zero_lt_one, fun z => absurd z (by decide)⟩
theorem lvs_33 (σ : Wd) : lvp σ 33 0 := ⟨Nat.zero_lt_one, fun z => absurd z (by decide)⟩
theorem lvs_34 (σ : Wd) : lvp σ 34 0 := ⟨Nat.zero_lt_one, fun z => absurd z (by decide)⟩
theorem lvs_35 (σ : Wd) : lvp σ 35 0 := ⟨Nat.zero_lt_one, fun z => absurd z (by decide)⟩
theorem lvs_36 (σ : Wd) : lvp σ 36 0 := ⟨Nat.zero_lt_one, fun z => absurd z (by decide)⟩
theorem lvs_37 (σ : Wd) : lvp σ 37 0 := ⟨Nat.zero_lt_one, fun z => absurd z (by decide)⟩
theorem lvs_38 (σ : Wd) : lvp σ 38 0 := ⟨Nat.zero_lt_one, fun z => absurd z (by decide)⟩
theorem lvs_39 (σ : Wd) : lvp σ 39 0 := ⟨Nat.zero_lt_one, fun z => absurd z (by decide)⟩
theorem lvs_40 (σ : Wd) : lvp σ 40 0 := ⟨Nat.zero_lt_one, fun z => absurd z (by decide)⟩
theorem lvs_41 (σ : Wd) : lvp σ 41 0 := ⟨Nat.zero_lt_one, fun z => absurd z (by decide)⟩
theorem lvs_42 (σ : Wd) : lvp σ 42 0 := ⟨Nat.zero_lt_one, fun z => absurd z (by decide)⟩
theorem lvs_43 (σ : Wd) : lvp σ 43 0 := ⟨Nat.zero_lt_one, fun z => absurd z (by decide)⟩
theorem lvs_44 (σ : Wd) : lvp σ 44 0 := ⟨Nat.zero_lt_one, fun z => absurd z (by decide)⟩
theorem lvs_45 (σ : Wd) : lvp σ 45 0 := ⟨Nat.zero_lt_one, fun z => absurd z (by decide)⟩
theorem lvs_46 (σ : Wd) : lvp σ 46 0 := ⟨Nat.zero_lt_one, fun z => absurd z (by decide)⟩
theorem lvs_47 (σ : Wd) : lvp σ 47 0 := ⟨Nat.zero_lt_one, fun z => absurd z (by decide)⟩
theorem lvs_48 (σ : Wd) : lvp σ 48 0 := ⟨Nat.zero_lt_one, fun z => absurd z (by decide)⟩
theorem lvs_49 (σ : Wd) : lvp σ 49 0 := ⟨Nat.zero_lt_one, fun z => absurd z (by decide)⟩
theorem lvs_50 (σ : Wd) : lvp σ 50 0 := ⟨Nat.zero_lt_one, fun z => absurd z (by decide)⟩
theorem lvs_51 (σ : Wd) : lvp σ 51 0 := ⟨Nat.zero_lt_one, fun z => absurd z (by decide)⟩
theorem lvs_52 (σ : Wd) : lvp σ 52 0 := ⟨Nat.zero_lt_one, fun z => absurd z (by decide)⟩
theorem lvs_53 (σ : Wd) : lvp σ 53 0 := ⟨Nat.zero_lt_one, fun z => absurd z (by decide)⟩
theorem lvs_54 (σ : Wd) : lvp σ 54 0 := ⟨Nat.zero_lt_one, fun z => absurd z (by decide)⟩
theorem lvs_55 (σ : Wd) : lvp σ 55 0 := ⟨Nat.zero_lt_one, fun z => absurd z (by decide)⟩
theorem lvs_56 (σ : Wd) : lvp σ 56 0 := ⟨Nat.zero_lt_one, fun z => absurd z (by decide)⟩
theorem lvs_57 (σ : Wd) : lvp σ 57 0 := ⟨Nat.zero_lt_one, fun z => absurd z (by decide)⟩
theorem lvs_58 (σ : Wd) : lvp σ 58 0 := ⟨Nat.zero_lt_one, fun z => absurd z (by decide)⟩
theorem lvs_59 (σ : Wd) : lvp σ 59 0 := ⟨Nat.zero_lt_one, fun z => absurd z (by decide)⟩
theorem lvs_60 (σ : Wd) : lvp σ 60 0 := ⟨Nat.zero_lt_one, fun z => absurd z (by decide)⟩
theorem lvs_70 (σ : Wd) : lvp σ 70 0 := ⟨Nat.zero_lt_one, fun z => absurd z (by decide)⟩
theorem lvl_0 (σ : Wd) : lvp σ 1 0 := ⟨show 0 < 2 + σ.2.2 8 by omega, fun z => absurd z (by decide)⟩
theorem lvl_1 (σ : Wd) : lvp σ 1 1 := ⟨show 1 < 2 + σ.2.2 8 by omega, fun z => absurd z (by decide)⟩
theorem lvl_f {σ : Wd} {u : Nat} (h : u < σ.2.2 8) : lvp σ 1 (u + 2) := ⟨show u + 2 < 2 + σ.2.2 8 by omega, fun z => absurd z (by decide)⟩
theorem wrc_0_6 (X : Xt) (ad : Ad) (σ : Wd) (i : Nat) (v : Int32) : cellv X ad (wr σ 0 i 6 v) 0 i = .inr (10, [.ref (ad 1 0), .ref (ad 1 1), .ref (ad 4 0), .ref (ad 7 0), .ref (ad 12 0), .ref (ad 19 0), .int v, .int (σ.1 0 i 7), .int (σ.1 0 i 8), .int (σ.1 0 i 9)]) := by rw [cell_0]; simp [wr]
theorem wrc_0_7 (X : Xt) (ad : Ad) (σ : Wd) (i : Nat) (v : Int32) : cellv X ad (wr σ 0 i 7 v) 0 i = .inr (10, [.ref (ad 1 0), .ref (ad 1 1), .ref (ad 4 0), .ref (ad 7 0), .ref (ad 12 0), .ref (ad 19 0), .int (σ.1 0 i 6), .int v, .int (σ.1 0 i 8), .int (σ.1 0 i 9)]) := by rw [cell_0]; simp [wr]
theorem wrc_0_8 (X : Xt) (ad : Ad) (σ : Wd) (i : Nat) (v : Int32) : cellv X ad (wr σ 0 i 8 v) 0 i = .inr (10, [.ref (ad 1 0), .ref (ad 1 1), .ref (ad 4 0), .ref (ad 7 0), .ref (ad 12 0), .ref (ad 19 0), .int (σ.1 0 i 6), .int (σ.1 0 i 7), .int v, .int (σ.1 0 i 9)]) := by rw [cell_0]; simp [wr]
theorem wrc_0_9 (X : Xt) (ad : Ad) (σ : Wd) (i : Nat) (v : Int32) : cellv X ad (wr σ 0 i 9 v) 0 i = .inr (10, [.ref (ad 1 0), .ref (ad 1 1), .ref (ad 4 0), .ref (ad 7 0), .ref (ad 12 0), .ref (ad 19 0), .int (σ.1 0 i 6), .int (σ.1 0 i 7), .int (σ.1 0 i 8), .int v]) := by rw [cell_0]; simp [wr]
theorem wrc_1_0 (X : Xt) (ad : Ad) (σ : Wd) (i : Nat) (v : Int32) : cellv X ad (wr σ 1 i 0 v) 1 i = .inr (0, [.int v, .ref (elA X ad σ i), .int (σ.1 1 i 2)]) := by rw [cell_1]; simp [wr]; rfl
theorem wrc_1_2 (X : Xt) (ad : Ad) (σ : Wd) (i : Nat) (v : Int32) : cellv X ad (wr σ 1 i 2 v) 1 i = .inr (0, [.int (σ.1 1 i 0), .ref (elA X ad σ i), .int v]) := by rw [cell_1]; simp [wr]; rfl
theorem wrc_5_1 (X : Xt) (ad : Ad) (σ : Wd) (i : Nat) (v : Int32) : cellv X ad (wr σ 5 i 1 v) 5 i = .inr (7, [.ref (ad 6 i), .int v]) := by rw [cell_5]; simp [wr]
theorem wrc_9_0 (X : Xt) (ad : Ad) (σ : Wd) (i : Nat) (v : Int32) : cellv X ad (wr σ 9 i 0 v) 9 i = .inr (2, [.int v, .int (σ.1 9 i 1), .int (σ.1 9 i 2)]) := by rw [cell_9]; simp [wr]
theorem wrc_9_1 (X : Xt) (ad : Ad) (σ : Wd) (i : Nat) (v : Int32) : cellv X ad (wr σ 9 i 1 v) 9 i = .inr (2, [.int (σ.1 9 i 0), .int v, .int (σ.1 9 i 2)]) := by rw [cell_9]; simp [wr]
theorem wrc_9_2 (X : Xt) (ad : Ad) (σ : Wd) (i : Nat) (v : Int32) : cellv X ad (wr σ 9 i 2 v) 9 i = .inr (2, [.int (σ.1 9 i 0), .int (σ.1 9 i 1), .int v]) := by rw [cell_9]; simp [wr]
theorem wrc_11_0 (X : Xt) (ad : Ad) (σ : Wd) (i : Nat) (v : Int32) : cellv X ad (wr σ 11 i 0 v) 11 i = .inr (6, [.int v, .int (σ.1 11 i 1)]) := by rw [cell_11]; simp [wr]
theorem wrc_11_1 (X : Xt) (ad : Ad) (σ : Wd) (i : Nat) (v : Int32) : cellv X ad (wr σ 11 i 1 v) 11 i = .inr (6, [.int (σ.1 11 i 0), .int v]) := by rw [cell_11]; simp [wr]
theorem wrc_12_6 (X : Xt) (ad : Ad) (σ : Wd) (i : Nat) (v : Int32) : cellv X ad (wr σ 12 i 6 v) 12 i = .inr (4, [.ref (ad 13 0), .ref (ad 14 0), .ref (ad 15 0), .ref (ad 16 0), .ref (ad 17 0), .ref (ad 18 0), .int v, .int (σ.1 12 i 7)]) := by rw [cell_12]; simp [wr]
theorem wrc_12_7 (X : Xt) (ad : Ad) (σ : Wd) (i : Nat) (v : Int32) : cellv X ad (wr σ 12 i 7 v) 12 i = .inr (4, [.ref (ad 13 0), .ref (ad 14 0), .ref (ad 15 0), .ref (ad 16 0), .ref (ad 17 0), .ref (ad 18 0), .int (σ.1 12 i 6), .int v]) := by rw [cell_12]; simp [wr]
theorem wrc_21_0 (X : Xt) (ad : Ad) (σ : Wd) (i : Nat) (v : Int32) : cellv X ad (wr σ 21 i 0 v) 21 i = .inr (9, [.int v, .ref (ad 1 (i + 2)), .int (σ.1 21 i 2), .int (σ.1 21 i 3), .ref (ad 22 i), .ref (ad 23 i), .ref (ad 24 i)]) := by rw [cell_21]; simp [wr]
theorem wrc_21_2 (X : Xt) (ad : Ad) (σ : Wd) (i : Nat) (v : Int32) : cellv X ad (wr σ 21 i 2 v) 21 i = .inr (9, [.int (σ.1 21 i 0), .ref (ad 1 (i + 2)), .int v, .int (σ.1 21 i 3), .ref (ad 22 i), .ref (ad 23 i), .ref (ad 24 i)]) := by rw [cell_21]; simp [wr]
theorem wrc_21_3 (X : Xt) (ad : Ad) (σ : Wd) (i : Nat) (v : Int32) : cellv X ad (wr σ 21 i 3 v) 21 i = .inr (9, [.int (σ.1 21 i 0), .ref (ad 1 (i + 2)), .int (σ.1 21 i 2), .int v, .ref (ad 22 i), .ref (ad 23 i), .ref (ad 24 i)]) := by rw [cell_21]; simp [wr]
theorem wrc_25_0 (X : Xt) (ad : Ad) (σ : Wd) (i : Nat) (v : Int32) : cellv X ad (wr σ 25 i 0 v) 25 i = .inr (1, [.int v, .int (σ.1 25 i 1), .int (σ.1 25 i 2), .int (σ.1 25 i 3), .int (σ.1 25 i 4), .int (σ.1 25 i 5)]) := by rw [cell_25]; simp [wr]
theorem wrc_25_1 (X : Xt) (ad : Ad) (σ : Wd) (i : Nat) (v : Int32) : cellv X ad (wr σ 25 i 1 v) 25 i = .inr (1, [.int (σ.1 25 i 0), .int v, .int (σ.1 25 i 2), .int (σ.1 25 i 3), .int (σ.1 25 i 4), .int (σ.1 25 i 5)]) := by rw [cell_25]; simp [wr]
theorem wrc_25_2 (X : Xt) (ad : Ad) (σ : Wd) (i : Nat) (v : Int32) : cellv X ad (wr σ 25 i 2 v) 25 i = .inr (1, [.int (σ.1 25 i 0), .int (σ.1 25 i 1), .int v, .int (σ.1 25 i 3), .int (σ.1 25 i 4), .int (σ.1 25 i 5)]) := by rw [cell_25]; simp [wr]
theorem wrc_25_3 (X : Xt) (ad : Ad) (σ : Wd) (i : Nat) (v : Int32) : cellv X ad (wr σ 25 i 3 v) 25 i = .inr (1, [.int (σ.1 25 i 0), .int (σ.1 25 i 1), .int (σ.1 25 i 2), .int v, .int (σ.1 25 i 4), .int (σ.1 25 i 5)]) := by rw [cell_25]; simp [wr]
theorem wrc_25_4 (X : Xt) (ad : Ad) (σ : Wd) (i : Nat) (v : Int32) : cellv X ad (wr σ 25 i 4 v) 25 i = .inr (1, [.int (σ.1 25 i 0), .int (σ.1 25 i 1), .int (σ.1 25 i 2), .int (σ.1 25 i 3), .int v, .int (σ.1 25 i 5)]) := by rw [cell_25]; simp [wr]
theorem wrc_25_5 (X : Xt) (ad : Ad) (σ : Wd) (i : Nat) (v : Int32) : cellv X ad (wr σ 25 i 5 v) 25 i = .inr (1, [.int (σ.1 25 i 0), .int (σ.1 25 i 1), .int (σ.1 25 i 2), .int (σ.1 25 i 3), .int (σ.1 25 i 4), .int v]) := by rw [cell_25]; simp [wr]
theorem wrc_26_0 (X : Xt) (ad : Ad) (σ : Wd) (i : Nat) (v : Int32) : cellv X ad (wr σ 26 i 0 v) 26 i = .inr (3, [.int v, .int (σ.1 26 i 1), .int (σ.1 26 i 2), .int (σ.1 26 i 3)]) := by rw [cell_26]; simp [wr]
theorem wrc_26_1 (X : Xt) (ad : Ad) (σ : Wd) (i : Nat) (v : Int32) : cellv X ad (wr σ 26 i 1 v) 26 i = .inr (3, [.int (σ.1 26 i 0), .int v, .int (σ.1 26 i 2), .int (σ.1 26 i 3)]) := by rw [cell_26]; simp [wr]
theorem wrc_26_2 (X : Xt) (ad : Ad) (σ : Wd) (i : Nat) (v : Int32) : cellv X ad (wr σ 26 i 2 v) 26 i = .inr (3, [.int (σ.1 26 i 0), .int (σ.1 26 i 1), .int v, .int (σ.1 26 i 3)]) := by rw [cell_26]; simp [wr]
theorem wrc_26_3 (X : Xt) (ad : Ad) (σ : Wd) (i : Nat) (v : Int32) : cellv X ad (wr σ 26 i 3 v) 26 i = .inr (3, [.int (σ.1 26 i 0), .int (σ.1 26 i 1), .int (σ.1 26 i 2), .int v]) := by rw [cell_26]; simp [wr]
theorem wrc_30_0 (X : Xt) (ad : Ad) (σ : Wd) (i : Nat) (v : Int32) : cellv X ad (wr σ 30 i 0 v) 30 i = .inr (11, [.int v, .int (σ.1 30 i 1), .int (σ.1 30 i 2), .int (σ.1 30 i 3), .int (σ.1 30 i 4), .int (σ.1 30 i 5), .ref (ad 31 0), .ref (ad 32 0), .ref (ad 33 0), .ref (ad 34 0), .ref (ad 35 0), .ref (ad 36 0), .ref (ad 37 0), .ref (ad 38 0), .ref (ad 39 0), .ref (ad 40 0), .ref (ad 41 0), .ref (ad 42 0), .ref (ad 43 0), .int (σ.1 30 i 19), .ref (ad 44 0), .ref (ad 45 0), .ref (ad 46 0), .ref (ad 47 0), .ref (ad 48 0), .ref (ad 49 0), .ref (ad 50 0), .ref (ad 51 0), .ref (ad 52 0), .ref (ad 53 0), .ref (ad 54 0), .ref (ad 55 0), .ref (ad 56 0), .ref (ad 57 0), .ref (ad 58 0), .ref (ad 59 0), .ref (ad 60 0), .int (σ.1 30 i 37), .int (σ.1 30 i 38)]) := by rw [cell_30]; simp [wr]
theorem wrc_30_1 (X : Xt) (ad : Ad) (σ : Wd) (i : Nat) (v : Int32) : cellv X ad (wr σ 30 i 1 v) 30 i = .inr (11, [.int (σ.1 30 i 0), .int v, .int (σ.1 30 i 2), .int (σ.1 30 i 3), .int (σ.1 30 i 4), .int (σ.1 30 i 5), .ref (ad 31 0), .ref (ad 32 0), .ref (ad 33 0), .ref (ad 34 0), .ref (ad 35 0), .ref (ad 36 0), .ref (ad 37 0), .ref (ad 38 0), .ref (ad 39 0), .ref (ad 40 0), .ref (ad 41 0), .ref (ad 42 0), .ref (ad 43 0), .int (σ.1 30 i 19), .ref (ad 44 0), .ref (ad 45 0), .ref (ad 46 0), .ref (ad 47 0), .ref (ad 48 0), .ref (ad 49 0), .ref (ad 50 0), .ref (ad 51 0), .ref (ad 52 0), .ref (ad 53 0), .ref (ad 54 0), .ref (ad 55 0), .ref (ad 56 0), .ref (ad 57 0), .ref (ad 58 0), .ref (ad 59 0), .ref (ad 60 0), .int (σ.1 30 i 37), .int (σ.1 30 i 38)]) := by rw [cell_30]; simp [wr]
theorem wrc_30_2 (X : Xt) (ad : Ad) (σ : Wd) (i : Nat) (v : Int32) : cellv X ad (wr σ 30 i 2 v) 30 i = .inr (11, [.int (σ.1 30 i 0), .int (σ.1 30 i 1), .int v, .int (σ.1 30 i 3), .int (σ.1 30 i 4), .int (σ.1 30 i 5), .ref (ad 31 0), .ref (ad 32 0), .ref (ad 33 0), .ref (ad 34 0), .ref (ad 35 0), .ref (ad 36 0), .ref (ad 37 0), .ref (ad 38 0), .ref (ad 39 0), .ref (ad 40 0), .ref (ad 41 0), .ref (ad 42 0), .ref (ad 43 0), .int (σ.1 30 i 19), .ref (ad 44 0), .ref (ad 45 0), .ref (ad 46 0), .ref (ad 47 0), .ref (ad 48 0), .ref (ad 49 0), .ref (ad 50 0), .ref (ad 51 0), .ref (ad 52 0), .ref (ad 53 0), .ref (ad 54 0), .ref (ad 55 0), .ref (ad 56 0), .ref (ad 57 0), .ref (ad 58 0), .ref (ad 59 0), .ref (ad 60 0), .int (σ.1 30 i 37), .int (σ.1 30 i 38)]) := by rw [cell_30]; simp [wr]
theorem wrc_30_3 (X : Xt) (ad : Ad) (σ : Wd) (i : Nat) (v : Int32) : cellv X ad (wr σ 30 i 3 v) 30 i = .inr (11, [.int (σ.1 30 i 0), .int (σ.1 30 i 1), .int (σ.1 30 i 2), .int v, .int (σ.1 30 i 4), .int (σ.1 30 i 5), .ref (ad 31 0), .ref (ad 32 0), .ref (ad 33 0), .ref (ad 34 0), .ref (ad 35 0), .ref (ad 36 0), .ref (ad 37 0), .ref (ad 38 0), .ref (ad 39 0), .ref (ad 40 0), .ref (ad 41 0), .ref (ad 42 0), .ref (ad 43 0), .int (σ.1 30 i 19), .ref (ad 44 0), .ref (ad 45 0), .ref (ad 46 0), .ref (ad 47 0), .ref (ad 48 0), .ref (ad 49 0), .ref (ad 50 0), .ref (ad 51 0), .ref (ad 52 0), .ref (ad 53 0), .ref (ad 54 0), .ref (ad 55 0), .ref (ad 56 0), .ref (ad 57 0), .ref (ad 58 0), .ref (ad 59 0), .ref (ad 60 0), .int (σ.1 30 i 37), .int (σ.1 30 i 38)]) := by rw [cell_30]; simp [wr]
theorem wrc_30_4 (X : Xt) (ad : Ad) (σ : Wd) (i : Nat) (v : Int32) : cellv X ad (wr σ 30 i 4 v) 30 i = .inr (11, [.int (σ.1 30 i 0), .int (σ.1 30 i 1), .int (σ.1 30 i 2), .int (σ.1 30 i 3), .int v, .int (σ.1 30 i 5), .ref (ad 31 0), .ref (ad 32 0), .ref (ad 33 0), .ref (ad 34 0), .ref (ad 35 0), .ref (ad 36 0), .ref (ad 37 0), .ref (ad 38 0), .ref (ad 39 0), .ref (ad 40 0), .ref (ad 41 0), .ref (ad 42 0), .ref (ad 43 0), .int (σ.1 30 i 19), .ref (ad 44 0), .ref (ad 45 0), .ref (ad 46 0), .ref (ad 47 0), .ref (ad 48 0), .ref (ad 49 0), .ref (ad 50 0), .ref (ad 51 0), .ref (ad 52 0), .ref (ad 53 0), .ref (ad 54 0), .ref (ad 55 0), .ref (ad 56 0), .ref (ad 57 0), .ref (ad 58 0), .ref (ad 59 0), .ref (ad 60 0), .int (σ.1 30 i 37), .int (σ.1 30 i 38)]) := by rw [cell_30]; simp [wr]
theorem wrc_30_5 (X : Xt) (ad : Ad) (σ : Wd) (i : Nat) (v : Int32) : cellv X ad (wr σ 30 i 5 v) 30 i = .inr (11, [.int (σ.1 30 i 0), .int (σ.1 30 i 1), .int (σ.1 30 i 2), .int (σ.1 30 i 3), .int (σ.1 30 i 4), .int v, .ref (ad 31 0), .ref (ad 32 0), .ref (ad 33 0), .ref (ad 34 0), .ref (ad 35 0), .ref (ad 36 0), .ref (ad 37 0), .ref (ad 38 0), .ref (ad 39 0), .ref (ad 40 0), .ref (ad 41 0), .ref (ad 42 0), .ref (ad 43 0), .int (σ.1 30 i 19), .ref (ad 44 0), .ref (ad 45 0), .ref (ad 46 0), .ref (ad 47 0), .ref (ad 48 0), .ref (ad 49 0), .ref (ad 50 0), .ref (ad 51 0), .ref (ad 52 0), .ref (ad 53 0), .ref (ad 54 0), .ref (ad 55 0), .ref (ad 56 0), .ref (ad 57 0), .ref (ad 58 0), .ref (ad 59 0), .ref (ad 60 0), .int (σ.1 30 i 37), .int (σ.1 30 i 38)]) := by rw [cell_30]; simp [wr]
theorem wrc_30_19 (X : Xt) (ad : Ad) (σ : Wd) (i : Nat) (v : Int32) : cellv X ad (wr σ 30 i 19 v) 30 i = .inr (11, [.int (σ.1 30 i 0), .int (σ.1 30 i 1), .int (σ.1 30 i 2), .int (σ.1 30 i 3), .int (σ.1 30 i 4), .int (σ.1 30 i 5), .ref (ad 31 0), .ref (ad 32 0), .ref (ad 33 0), .ref (ad 34 0), .ref (ad 35 0), .ref (ad 36 0), .ref (ad 37 0), .ref (ad 38 0), .ref (ad 39 0), .ref (ad 40 0), .ref (ad 41 0), .ref (ad 42 0), .ref (ad 43 0), .int v, .ref (ad 44 0), .ref (ad 45 0), .ref (ad 46 0), .ref (ad 47 0), .ref (ad 48 0), .ref (ad 49 0), .ref (ad 50 0), .ref (ad 51 0), .ref (ad 52 0), .ref (ad 53 0), .ref (ad 54 0), .ref (ad 55 0), .ref (ad 56 0), .ref (ad 57 0), .ref (ad 58 0), .ref (ad 59 0), .ref (ad 60 0), .int (σ.1 30 i 37), .int (σ.1 30 i 38)]) := by rw [cell_30]; simp [wr]
theorem wrc_30_37 (X : Xt) (ad : Ad) (σ : Wd) (i : Nat) (v : Int32) : cellv X ad (wr σ 30 i 37 v) 30 i = .inr (11, [.int (σ.1 30 i 0), .int (σ.1 30 i 1), .int (σ.1 30 i 2), .int (σ.1 30 i 3), .int (σ.1 30 i 4), .int (σ.1 30 i 5), .ref (ad 31 0), .ref (ad 32 0), .ref (ad 33 0), .ref (ad 34 0), .ref (ad 35 0), .ref (ad 36 0), .ref (ad 37 0), .ref (ad 38 0), .ref (ad 39 0), .ref (ad 40 0), .ref (ad 41 0), .ref (ad 42 0), .ref (ad 43 0), .int (σ.1 30 i 19), .ref (ad 44 0), .ref (ad 45 0), .ref (ad 46 0), .ref (ad 47 0), .ref (ad 48 0), .ref (ad 49 0), .ref (ad 50 0), .ref (ad 51 0), .ref (ad 52 0), .ref (ad 53 0), .ref (ad 54 0), .ref (ad 55 0), .ref (ad 56 0), .ref (ad 57 0), .ref (ad 58 0), .ref (ad 59 0), .ref (ad 60 0), .int v, .int (σ.1 30 i 38)]) := by rw [cell_30]; simp [wr]
theorem wrc_30_38 (X : Xt) (ad : Ad) (σ : Wd) (i : Nat) (v : Int32) : cellv X ad (wr σ 30 i 38 v) 30 i = .inr (11, [.int (σ.1 30 i 0), .int (σ.1 30 i 1), .int (σ.1 30 i 2), .int (σ.1 30 i 3), .int (σ.1 30 i 4), .int (σ.1 30 i 5), .ref (ad 31 0), .ref (ad 32 0), .ref (ad 33 0), .ref (ad 34 0), .ref (ad 35 0), .ref (ad 36 0), .ref (ad 37 0), .ref (ad 38 0), .ref (ad 39 0), .ref (ad 40 0), .ref (ad 41 0), .ref (ad 42 0), .ref (ad 43 0), .int (σ.1 30 i 19), .ref (ad 44 0), .ref (ad 45 0), .ref (ad 46 0), .ref (ad 47 0), .ref (ad 48 0), .ref (ad 49 0), .ref (ad 50 0), .ref (ad 51 0), .ref (ad 52 0), .ref (ad 53 0), .ref (ad 54 0), .ref (ad 55 0), .ref (ad 56 0), .ref (ad 57 0), .ref (ad 58 0), .ref (ad 59 0), .ref (ad 60 0), .int (σ.1 30 i 37), .int v]) := by rw [cell_30]; simp [wr]
theorem lvl_g {σ : Wd} {i : Nat} (h : i < 2 + σ.2.2 8) : lvp σ 1 i := ⟨h, fun z => absurd z (by decide)⟩
theorem lvl_e {σ : Wd} {i : Nat} (h : i < 8 ∧ σ.2.2 (20 + i) ≠ 0) : lvp σ 27 i := ⟨h.1, fun _ => h.2⟩
abbrev vE (ad : Ad) (t : Nat) (i : Nat) : Option Value := some (.ref (ad (et t) i))
theorem in_0 : ∀ w ∈ u_ws RJx4a65c TJx4a65c 3, w ∈ G_ := by
  show ∀ w ∈ [u_lay RJx4a65c TJx4a65c 0, u_lay RJx4a65c TJx4a65c 1, u_lay RJx4a65c TJx4a65c 2], w ∈ G_
  exact List.forall_mem_cons.mpr ⟨gt1 58 (by decide +kernel) (by decide +kernel), List.forall_mem_cons.mpr ⟨gt1 54 (by decide +kernel) (by decide +kernel), List.forall_mem_cons.mpr ⟨gt1 56 (by decide +kernel) (by decide +kernel), fun _ h => absurd h List.not_mem_nil⟩⟩⟩
theorem in_1 : ∀ w ∈ u_ws RX0 TX0 6, w ∈ G_ := by
  show ∀ w ∈ [u_lay RX0 TX0 0, u_lay RX0 TX0 1, u_lay RX0 TX0 2, u_lay RX0 TX0 3, u_lay RX0 TX0 4, u_lay RX0 TX0 5], w ∈ G_
  exact List.forall_mem_cons.mpr ⟨gt3 157 (by decide +kernel) (by decide +kernel), List.forall_mem_cons.mpr ⟨gt3 159 (by decide +kernel) (by decide +kernel), List.forall_mem_cons.mpr ⟨gt3 161 (by decide +kernel) (by decide +kernel), List.forall_mem_cons.mpr ⟨gt3 163 (by decide +kernel) (by decide +kernel), List.forall_mem_cons.mpr ⟨gt3 165 (by decide +kernel) (by decide +kernel), List.forall_mem_cons.mpr ⟨gt3 167 (by decide +kernel) (by decide +kernel), fun _ h => absurd h List.not_mem_nil⟩⟩⟩⟩⟩⟩
theorem in_2 : ∀ w ∈ u_ws RX1 TX1 3, w ∈ G_ := by
  show ∀ w ∈ [u_lay RX1 TX1 0, u_lay RX1 TX1 1, u_lay RX1 TX1 2], w ∈ G_
  exact List.forall_mem_cons.mpr ⟨gt1 82 (by decide +kernel) (by decide +kernel), List.forall_mem_cons.mpr ⟨gt1 84 (by decide +kernel) (by decide +kernel), List.forall_mem_cons.mpr ⟨gt1 86 (by decide +kernel) (by decide +kernel), fun _ h => absurd h List.not_mem_nil⟩⟩⟩
theorem in_3 : ∀ w ∈ u_ws RX2 TX2 4, w ∈ G_ := by
  show ∀ w ∈ [u_lay RX2 TX2 0, u_lay RX2 TX2 1, u_lay RX2 TX2 2, u_lay RX2 TX2 3], w ∈ G_
  exact List.forall_mem_cons.mpr ⟨gt3 215 (by decide +kernel) (by decide +kernel), List.forall_mem_cons.mpr ⟨gt3 217 (by decide +kernel) (by decide +kernel), List.forall_mem_cons.mpr ⟨gt3 219 (by decide +kernel) (by decide +kernel), List.forall_mem_cons.mpr ⟨gt3 221 (by decide +kernel) (by decide +kernel), fun _ h => absurd h List.not_mem_nil⟩⟩⟩⟩
theorem in_4 : ∀ w ∈ u_ws RX3 TX3 8, w ∈ G_ := by
  show ∀ w ∈ [u_lay RX3 TX3 0, u_lay RX3 TX3 1, u_lay RX3 TX3 2, u_lay RX3 TX3 3, u_lay RX3 TX3 4, u_lay RX3 TX3 5, u_lay RX3 TX3 6, u_lay RX3 TX3 7], w ∈ G_
  exact List.forall_mem_cons.mpr ⟨gt1 126 (by decide +kernel) (by decide +kernel), List.forall_mem_cons.mpr ⟨gt1 128 (by decide +kernel) (by decide +kernel), List.forall_mem_cons.mpr ⟨gt1 130 (by decide +kernel) (by decide +kernel), List.forall_mem_cons.mpr ⟨gt1 132 (by decide +kernel) (by decide +kernel), List.forall_mem_cons.mpr ⟨gt1 134 (by decide +kernel) (by decide +kernel), List.forall_mem_cons.mpr ⟨gt1 136 (by decide +kernel) (by decide +kernel), List.forall_mem_cons.mpr ⟨gt1 138 (by decide +kernel) (by decide +kernel), List.forall_mem_cons.mpr ⟨gt1 140 (by decide +kernel) (by decide +kernel), fun _ h => absurd h List.not_mem_nil⟩⟩⟩⟩⟩⟩⟩⟩
theorem in_5 : ∀ w ∈ u_ws RX4 TX4 1, w ∈ G_ := by
  show ∀ w ∈ [u_lay RX4 TX4 0], w ∈ G_
  exact List.forall_mem_cons.mpr ⟨gt1 154 (by decide +kernel) (by decide +kernel), fun _ h => absurd h List.not_mem_nil⟩
theorem in_6 : ∀ w ∈ u_ws RX5 TX5 2, w ∈ G_ := by
  show ∀ w ∈ [u_lay RX5 TX5 0, u_lay RX5 TX5 1], w ∈ G_
  exact List.forall_mem_cons.mpr ⟨gt1 100 (by decide +kernel) (by decide +kernel), List.forall_mem_cons.mpr ⟨gt1 102 (by decide +kernel) (by decide +kernel), fun _ h => absurd h List.not_mem_nil⟩⟩
theorem in_7 : ∀ w ∈ u_ws RX6 TX6 2, w ∈ G_ := by
  show ∀ w ∈ [u_lay RX6 TX6 0, u_lay RX6 TX6 1], w ∈ G_
  exact List.forall_mem_cons.mpr ⟨gt1 164 (by decide +kernel) (by decide +kernel), List.forall_mem_cons.mpr ⟨gt1 166 (by decide +kernel) (by decide +kernel), fun _ h => absurd h List.not_mem_nil⟩⟩
theorem in_8 : ∀ w ∈ u_ws RX7 TX7 2, w ∈ G_ := by
  show ∀ w ∈ [u_lay RX7 TX7 0, u_lay RX7 TX7 1], w ∈ G_
  exact List.forall_mem_cons.mpr ⟨gt1 107 (by decide +kernel) (by decide +kernel), List.forall_mem_cons.mpr ⟨gt1 109 (by decide +kernel) (by decide +kernel), fun _ h => absurd h List.not_mem_nil⟩⟩
theorem in_9 : ∀ w ∈ u_ws RX8 TX8 7, w ∈ G_ := by
  show ∀ w ∈ [u_lay RX8 TX8 0, u_lay RX8 TX8 1, u_lay RX8 TX8 2, u_lay RX8 TX8 3, u_lay RX8 TX8 4, u_lay RX8 TX8 5, u_lay RX8 TX8 6], w ∈ G_
  exact List.forall_mem_cons.mpr ⟨gt3 50 (by decide +kernel) (by decide +kernel), List.forall_mem_cons.mpr ⟨gt3 52 (by decide +kernel) (by decide +kernel), List.forall_mem_cons.mpr ⟨gt3 54 (by decide +kernel) (by decide +kernel), List.forall_mem_cons.mpr ⟨gt3 56 (by decide +kernel) (by decide +kernel), List.forall_mem_cons.mpr ⟨gt3 58 (by decide +kernel) (by decide +kernel), List.forall_mem_cons.mpr ⟨gt3 60 (by decide +kernel) (by decide +kernel), List.forall_mem_cons.mpr ⟨gt3 62 (by decide +kernel) (by decide +kernel), fun _ h => absurd h List.not_mem_nil⟩⟩⟩⟩⟩⟩⟩
theorem in_10 : ∀ w ∈ u_ws RX9 TX9 10, w ∈ G_ := by
  show ∀ w ∈ [u_lay RX9 TX9 0, u_lay RX9 TX9 1, u_lay RX9 TX9 2, u_lay RX9 TX9 3, u_lay RX9 TX9 4, u_lay RX9 TX9 5, u_lay RX9 TX9 6, u_lay RX9 TX9 7, u_lay RX9 TX9 8, u_lay RX9 TX9 9], w ∈ G_
  exact List.forall_mem_cons.mpr ⟨gt1 179 (by decide +kernel) (by decide +kernel), List.forall_mem_cons.mpr ⟨gt1 181 (by decide +kernel) (by decide +kernel), List.forall_mem_cons.mpr ⟨gt1 183 (by decide +kernel) (by decide +kernel), List.forall_mem_cons.mpr ⟨gt1 185 (by decide +kernel) (by decide +kernel), List.forall_mem_cons.mpr ⟨gt1 187 (by decide +kernel) (by decide +kernel), List.forall_mem_cons.mpr ⟨gt1 189 (by decide +kernel) (by decide +kernel), List.forall_mem_cons.mpr ⟨gt1 191 (by decide +kernel) (by decide +kernel), List.forall_mem_cons.mpr ⟨gt1 193 (by decide +kernel) (by decide +kernel), List.forall_mem_cons.mpr ⟨gt1 195 (by decide +kernel) (by decide +kernel), List.forall_mem_cons.mpr ⟨gt1 197 (by decide +kernel) (by decide +kernel), fun _ h => absurd h List.not_mem_nil⟩⟩⟩⟩⟩⟩⟩⟩⟩⟩
theorem in_11 : ∀ w ∈ u_ws RX10 TX10 39, w ∈ G_ := by
  show ∀ w ∈ [u_lay RX10 TX10 0, u_lay RX10 TX10 1, u_lay RX10 TX10 2, u_lay RX10 TX10 3, u_lay RX10 TX10 4, u_lay RX10 TX10 5, u_lay RX10 TX10 6, u_lay RX10 TX10 7, u_lay RX10 TX10 8, u_lay RX10 TX10 9, u_lay RX10 TX10 10, u_lay RX10 TX10 11, u_lay RX10 TX10 12, u_lay RX10 TX10 13, u_lay RX10 TX10 14, u_lay RX10 TX10 15, u_lay RX10 TX10 16, u_lay RX10 TX10 17, u_lay RX10 TX10 18, u_lay RX10 TX10 19, u_lay RX10 TX10 20, u_lay RX10 TX10 21, u_lay RX10 TX10 22, u_lay RX10 TX10 23, u_lay RX10 TX10 24, u_lay RX10 TX10 25, u_lay RX10 TX10 26, u_lay RX10 TX10 27, u_lay RX10 TX10 28, u_lay RX10 TX10 29, u_lay RX10 TX10 30, u_lay RX10 TX10 31, u_lay RX10 TX10 32, u_lay RX10 TX10 33, u_lay RX10 TX10 34, u_lay RX10 TX10 35, u_lay RX10 TX10 36, u_lay RX10 TX10 37, u_lay RX10 TX10 38], w ∈ G_
  exact List.forall_mem_cons.mpr ⟨gt5 19 (by decide +kernel) (by decide +kernel), List.forall_mem_cons.mpr ⟨gt5 21 (by decide +kernel) (by decide +kernel), List.forall_mem_cons.mpr ⟨gt5 23 (by decide +kernel) (by decide +kernel), List.forall_mem_cons.mpr ⟨gt5 25 (by decide +kernel) (by decide +kernel), List.forall_mem_cons.mpr ⟨gt5 27 (by decide +kernel) (by decide +kernel), List.forall_mem_cons.mpr ⟨gt5 29 (by decide +kernel) (by decide +kernel), List.forall_mem_cons.mpr ⟨gt5 31 (by decide +kernel) (by decide +kernel), List.forall_mem_cons.mpr ⟨gt5 33 (by decide +kernel) (by decide +kernel), List.forall_mem_cons.mpr ⟨gt5 35 (by decide +kernel) (by decide +kernel), List.forall_mem_cons.mpr ⟨gt5 37 (by decide +kernel) (by decide +kernel), List.forall_mem_cons.mpr ⟨gt5 39 (by decide +kernel) (by decide +kernel), List.forall_mem_cons.mpr ⟨gt5 41 (by decide +kernel) (by decide +kernel), List.forall_mem_cons.mpr ⟨gt5 43 (by decide +kernel) (by decide +kernel), List.forall_mem_cons.mpr ⟨gt5 45 (by decide +kernel) (by decide +kernel), List.forall_mem_cons.mpr ⟨gt5 47 (by decide +kernel) (by decide +kernel), List.forall_mem_cons.mpr ⟨gt5 49 (by decide +kernel) (by decide +kernel), List.forall_mem_cons.mpr ⟨gt5 51 (by decide +kernel) (by decide +kernel), List.forall_mem_cons.mpr ⟨gt5 53 (by decide +kernel) (by decide +kernel), List.forall_mem_cons.mpr ⟨gt5 55 (by decide +kernel) (by decide +kernel), List.forall_mem_cons.mpr ⟨gt5 57 (by decide +kernel) (by decide +kernel), List.forall_mem_cons.mpr ⟨gt5 59 (by decide +kernel) (by decide +kernel), List.forall_mem_cons.mpr ⟨gt5 61 (by decide +kernel) (by decide +kernel), List.forall_mem_cons.mpr ⟨gt5 63 (by decide +kernel) (by decide +kernel), List.forall_mem_cons.mpr ⟨gt5 65 (by decide +kernel) (by decide +kernel), List.forall_mem_cons.mpr ⟨gt5 67 (by decide +kernel) (by decide +kernel), List.forall_mem_cons.mpr ⟨gt5 69 (by decide +kernel) (by decide +kernel), List.forall_mem_cons.mpr ⟨gt5 71 (by decide +kernel) (by decide +kernel), List.forall_mem_cons.mpr ⟨gt5 73 (by decide +kernel) (by decide +kernel), List.forall_mem_cons.mpr ⟨gt5 75 (by decide +kernel) (by decide +kernel), List.forall_mem_cons.mpr ⟨gt5 77 (by decide +kernel) (by decide +kernel), List.forall_mem_cons.mpr ⟨gt5 79 (by decide +kernel) (by decide +kernel), List.forall_mem_cons.mpr ⟨gt5 81 (by decide +kernel) (by decide +kernel), List.forall_mem_cons.mpr ⟨gt5 83 (by decide +kernel) (by decide +kernel), List.forall_mem_cons.mpr ⟨gt5 85 (by decide +kernel) (by decide +kernel), List.forall_mem_cons.mpr ⟨gt5 87 (by decide +kernel) (by decide +kernel), List.forall_mem_cons.mpr ⟨gt5 89 (by decide +kernel) (by decide +kernel), List.forall_mem_cons.mpr ⟨gt5 91 (by decide +kernel) (by decide +kernel), List.forall_mem_cons.mpr ⟨gt5 93 (by decide +kernel) (by decide +kernel), List.forall_mem_cons.mpr ⟨gt5 95 (by decide +kernel) (by decide +kernel), fun _ h => absurd h List.not_mem_nil⟩⟩⟩⟩⟩⟩⟩⟩⟩⟩⟩⟩⟩⟩⟩⟩⟩⟩⟩⟩⟩⟩⟩⟩⟩⟩⟩⟩⟩⟩⟩⟩⟩⟩⟩⟩⟩⟩⟩
section TSW
variable {α : Type} {X : Xt} {fin : Ad → Prop} {cc : ByteArray} {nL : Nat} {own : String} {rt : Option FieldType} {fr lo : Nat} {val : α → Option Value} {kc cs : Nat × Nat} {ad : Ad} {σ : Wd} {pc : Nat} {lv : List (Nat × Value)} {st : List Value} {f f1 f2 : Option ((α ⊕ String) × Wd)}
theorem r_ite {c : Prop} [Decidable c] (k1 : c → Bk X fin cc nL own rt fr lo val kc cs ad σ pc lv st f1) (k2 : ¬ c → Bk X fin cc nL own rt fr lo val kc cs ad σ pc lv st f2) : Bk X fin cc nL own rt fr lo val kc cs ad σ pc lv st (if c then f1 else f2) := by
  by_cases h : c
  · rw [if_pos h]; exact k1 h
  · rw [if_neg h]; exact k2 h
theorem r_tswIn {dflt lo9 hi : Int} {offs : Array Int} {len : Nat} {x y : Int32} {off : Int} (tgt : Nat) (hx : x = y) (hd : decode cc pc = .ok (.tableswitch dflt lo9 hi offs, len)) (h1 : ¬ y.toInt < lo9) (h2 : ¬ hi < y.toInt) (ho : (offs[(y.toInt - lo9).toNat]?).isSome = true) (hoo : (offs[(y.toInt - lo9).toNat]?).getD 0 = off) (ht : (pc : Int) + off = (tgt : Int)) (k : Bk X fin cc nL own rt fr lo val kc cs ad σ tgt lv st f) : Bk X fin cc nL own rt fr lo val kc cs ad σ pc lv (.int x :: st) f := by
  intro res σ' h p e s m args below meth c B H locs ls hH hS hl
  subst hx
  obtain ⟨z, hz⟩ := Option.isSome_iff_exists.mp ho
  rw [hz] at hoo
  cases hoo
  exact lv_tableIn B.1 B.2.1 hd h1 h2 hz ht (k res σ' h p e s m args below meth c B H locs ls hH hS hl)
theorem r_tswOut {dflt lo9 hi : Int} {offs : Array Int} {len : Nat} {x : Int32} (tgt : Nat) (hd : decode cc pc = .ok (.tableswitch dflt lo9 hi offs, len)) (hx : x.toInt < lo9 ∨ hi < x.toInt) (ht : (pc : Int) + dflt = (tgt : Int)) (k : Bk X fin cc nL own rt fr lo val kc cs ad σ tgt lv st f) : Bk X fin cc nL own rt fr lo val kc cs ad σ pc lv (.int x :: st) f :=
  fun res σ' h p e s m args below meth c B H locs ls hH hS hl => lv_tableOut B.1 B.2.1 hd hx ht (k res σ' h p e s m args below meth c B H locs ls hH hS hl)
theorem tsw_ne {x : Int32} (k : Int32) (n : Int) (hk : k.toInt = n) (h : ¬ x = k) : ¬ x.toInt = n := fun z => h (Int32.toInt_inj.mp (z.trans hk.symm))
theorem tsw_out4 {x : Int32} (h0 : ¬ x = 0) (h1 : ¬ x = 1) (h2 : ¬ x = 2) (h3 : ¬ x = 3) : x.toInt < 0 ∨ 3 < x.toInt := by
  have a0 := tsw_ne 0 0 (by decide) h0
  have a1 := tsw_ne 1 1 (by decide) h1
  have a2 := tsw_ne 2 2 (by decide) h2
  have a3 := tsw_ne 3 3 (by decide) h3
  omega
theorem tsw_out6 {x : Int32} (h0 : ¬ x = 0) (h1 : ¬ x = 1) (h2 : ¬ x = 2) (h3 : ¬ x = 3) (h4 : ¬ x = 4) (h5 : ¬ x = 5) : x.toInt < 0 ∨ 5 < x.toInt := by
  have a0 := tsw_ne 0 0 (by decide) h0
  have a1 := tsw_ne 1 1 (by decide) h1
  have a2 := tsw_ne 2 2 (by decide) h2
  have a3 := tsw_ne 3 3 (by decide) h3
  have a4 := tsw_ne 4 4 (by decide) h4
  have a5 := tsw_ne 5 5 (by decide) h5
  omega
end TSW
