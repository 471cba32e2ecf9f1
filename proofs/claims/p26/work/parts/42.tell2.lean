/-! pin -/
theorem pin_C {σ : Wd} {A : Ab} (C : RC σ A) (d : Nat) (v : Int32) : RC (wr σ 25 d 5 v) (aw A 49 d 0 v) := by
  obtain ⟨H, F, U, D, E, R1, S, L⟩ := C
  refine ⟨H, F, U, fun k hk => ?_, E, R1, S, L⟩
  by_cases h : k = d
  · subst h; simp [wr_rd, aw_rd, D k hk]
  · simp [wr_rd, aw_rd, h, D k hk]
/-! examine -/
def xaA (A : Ab) (u e : Nat) : Ab := (fun t i k => if t = 30 ∧ i = 3 ∧ k = 0 then 1 else if (t = 35 ∨ t = 36) ∧ i = u ∧ k ≤ e then 0 else A.1 t i k, A.2)
theorem xaA_rd (A : Ab) (u e t i k : Nat) : (xaA A u e).1 t i k = if t = 30 ∧ i = 3 ∧ k = 0 then 1 else if (t = 35 ∨ t = 36) ∧ i = u ∧ k ≤ e then 0 else A.1 t i k := id rfl
/-- the clocks of one are changed as told -/
def clk (σ : Wd) (u : Nat) (f : Nat → Int32) (g : Nat → Int32) : Wd := stO (stO σ 22 u f) 23 u g
theorem st_rd (σ : Wd) (t i : Nat) (g : Nat → Int32) (t' i' k' : Nat) : (stO σ t i g).1 t' i' k' = if t' = t ∧ i' = i then g k' else σ.1 t' i' k' := by
  by_cases h : t' = t ∧ i' = i
  · rw [if_pos h]
    exact congrFun (if_pos h) k'
  · rw [if_neg h]
    exact congrFun (if_neg h) k'
theorem xa_loop {σ : Wd} {A : Ab} (H : RCl σ A) {u : Nat} (hu : u < nU A) {e : Nat} (he : e < 3) : ∃ σ', f_X8_beginAgain σ u (iN e) = some (.inl (), σ') ∧ σ'.2 = σ.2 ∧ ∀ t i k, σ'.1 t i k = if (t = 22 ∨ t = 23) ∧ i = u ∧ k ≤ e then 0 else σ.1 t i k := by
  obtain ⟨m, hm⟩ := FU_ge 4 (by decide)
  have e8 := H.1
  have he4 : e = 0 ∨ e = 1 ∨ e = 2 := by omega
  unfold f_X8_beginAgain
  rw [hm]
  rcases he4 with rfl | rfl | rfl
  · refine ⟨wr (wr σ 22 u 0 0) 23 u 0 0, ?_, rfl, fun t i k => ?_⟩
    · simp (disch := omega) only [gd_t, gd_T, bx_some, bx_thr, bd_def, nx_in, ↓nO_eq, l0, l1, l2, l3, l4, l5, l6, l7, l8, l30, l50, l64, l100, l200, l448, l1200, iN_add, iN_lt, iN_le, iN_inj, iN_clamp, iN_inb, iN_nO, nO_iN, nO_lt, iN_ltm, iN_lem, nO_le, iN_pred, if_pos, if_neg, ↓reduceIte, or_true, true_or, and_true, true_and, ne_eq, not_true_eq_false, not_false_eq_true, false_or, or_false, and_false, false_and, l_X8_beginAgain_2, wr_two]
    · simp only [wr_rd]
      repeat' split
      all_goals first | rfl | omega
  · refine ⟨wr (wr (wr (wr σ 22 u 0 0) 23 u 0 0) 22 u 1 0) 23 u 1 0, ?_, rfl, fun t i k => ?_⟩
    · simp (disch := omega) only [gd_t, gd_T, bx_some, bx_thr, bd_def, nx_in, ↓nO_eq, l0, l1, l2, l3, l4, l5, l6, l7, l8, l30, l50, l64, l100, l200, l448, l1200, iN_add, iN_lt, iN_le, iN_inj, iN_clamp, iN_inb, iN_nO, nO_iN, nO_lt, iN_ltm, iN_lem, nO_le, iN_pred, if_pos, if_neg, ↓reduceIte, or_true, true_or, and_true, true_and, ne_eq, not_true_eq_false, not_false_eq_true, false_or, or_false, and_false, false_and, l_X8_beginAgain_2, wr_two]
    · simp only [wr_rd]
      repeat' split
      all_goals first | rfl | omega
  · refine ⟨wr (wr (wr (wr (wr (wr σ 22 u 0 0) 23 u 0 0) 22 u 1 0) 23 u 1 0) 22 u 2 0) 23 u 2 0, ?_, rfl, fun t i k => ?_⟩
    · simp (disch := omega) only [gd_t, gd_T, bx_some, bx_thr, bd_def, nx_in, ↓nO_eq, l0, l1, l2, l3, l4, l5, l6, l7, l8, l30, l50, l64, l100, l200, l448, l1200, iN_add, iN_lt, iN_le, iN_inj, iN_clamp, iN_inb, iN_nO, nO_iN, nO_lt, iN_ltm, iN_lem, nO_le, iN_pred, if_pos, if_neg, ↓reduceIte, or_true, true_or, and_true, true_and, ne_eq, not_true_eq_false, not_false_eq_true, false_or, or_false, and_false, false_and, l_X8_beginAgain_2, wr_two]
    · simp only [wr_rd]
      repeat' split
      all_goals first | rfl | omega
