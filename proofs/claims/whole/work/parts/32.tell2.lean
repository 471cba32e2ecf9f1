/-! pin -/
theorem pin_C {σ : Wd} {A : Ab} (C : RC σ A) (d : Nat) (v : Int32) : RC (wr σ 25 d 5 v) (aw A 49 d 0 v) := by
  obtain ⟨H, F, U, D, E, R1, S, L⟩ := C
  refine ⟨H, F, U, fun k hk => ?_, E, R1, S, L⟩
  by_cases h : k = d
  · subst h; simp [wr_rd, aw_rd, D k hk]
  · simp [wr_rd, aw_rd, h, D k hk]
theorem pin_R {σ : Wd} {A : Ab} (T : RR σ A) (d : Nat) (v : Int32) : RR (wr σ 49 0 d v) (aw A 49 d 0 v) := by
  obtain ⟨H, F, U, D, E, R1, L⟩ := T
  refine ⟨H, F, U, fun k hk => ?_, E, R1, L⟩
  by_cases h : k = d
  · subst h; simp [wr_rd, aw_rd, D k hk]
  · simp [wr_rd, aw_rd, h, D k hk]
theorem st_pin {σ : Wd} (I : Inv σ) (w1 w2 : Int32) : ∃ σ', c_pin σ w1 w2 = some σ' ∧ Inv σ' := by
  obtain ⟨A, C, R, G, W⟩ := I
  have g6 := G.1
  have g7 := G.2.1
  have e9 := C.1.2.1
  rcases rng w1 (nD A) (by omega) with ⟨d, hd, rfl⟩ | h1
  · have hS : CS σ (wr σ 25 d 5 w2) := (CS.rf σ).wr (by decide)
    have q5 := (C.2.2.2.1 d hd).2.2.2.2.2
    have hgood : (w2 = nO ∨ ∃ u, u < nU A ∧ w2 = iN u) ∨ (¬ w2 = nO ∧ (w2 < iN 0 ∨ ¬ w2 < iN 0 ∧ iN (nU A) ≤ w2)) := by
      by_cases h : w2 = nO
      · exact Or.inl (Or.inl h)
      · rcases rng w2 (nU A) (by omega) with h2 | h2
        · exact Or.inl (Or.inr h2)
        · exact Or.inr ⟨h, h2⟩
    rcases hgood with hg | ⟨hm, h2⟩
    · refine ok_in R hS (v := A.1 49 d 0) ?_ (pin_C C d w2) (fun τ T => ⟨wr (wr τ 30 0 0 0) 49 0 d w2, ?_, rfl, ((RS.rf τ).wr (by decide)).wr (by decide), pin_R (T.thr 0) d w2⟩) G W
      · rcases hg with rfl | ⟨u, hu, rfl⟩
        · simp (disch := omega) only [gd_t, gd_T, bx_some, bx_thr, bd_def, nx_in, ↓nO_eq, l0, l1, l2, l3, l4, l5, l6, l7, l8, l30, l50, l64, l100, l200, l448, l1200, iN_add, iN_lt, iN_le, iN_inj, iN_clamp, iN_inb, iN_nO, nO_iN, nO_lt, iN_ltm, iN_lem, nO_le, iN_pred, if_pos, if_neg, ↓reduceIte, or_true, true_or, and_true, true_and, ne_eq, not_true_eq_false, not_false_eq_true, false_or, or_false, and_false, false_and, f_X9_pin, c_diagramAt C.1 g7 hd, q5]
        · simp (disch := omega) only [gd_t, gd_T, bx_some, bx_thr, bd_def, nx_in, ↓nO_eq, l0, l1, l2, l3, l4, l5, l6, l7, l8, l30, l50, l64, l100, l200, l448, l1200, iN_add, iN_lt, iN_le, iN_inj, iN_clamp, iN_inb, iN_nO, nO_iN, nO_lt, iN_ltm, iN_lem, nO_le, iN_pred, if_pos, if_neg, ↓reduceIte, or_true, true_or, and_true, true_and, ne_eq, not_true_eq_false, not_false_eq_true, false_or, or_false, and_false, false_and, f_X9_pin, c_diagramAt C.1 g7 hd, c_sz0 C.1, c_num (σ := σ) hu, q5]
      · have t5 := (T.2.2.2.1 d hd).2.2.2.2.2
        rcases hg with rfl | ⟨u, hu, rfl⟩
        · simp (disch := omega) only [gd_t, gd_T, bx_some, bx_thr, bd_def, nx_in, ↓nO_eq, l0, l1, l2, l3, l4, l5, l6, l7, l8, l30, l50, l64, l100, l200, l448, l1200, iN_add, iN_lt, iN_le, iN_inj, iN_clamp, iN_inb, iN_nO, nO_iN, nO_lt, iN_ltm, iN_lem, nO_le, iN_pred, if_pos, if_neg, ↓reduceIte, or_true, true_or, and_true, true_and, ne_eq, not_true_eq_false, not_false_eq_true, false_or, or_false, and_false, false_and, f_X10_pin, m_isDiagram T.1 g7 hd, j_X10_pin_26, j_X10_pin_27, wr_rd, t5]
        · simp (disch := omega) only [gd_t, gd_T, bx_some, bx_thr, bd_def, nx_in, ↓nO_eq, l0, l1, l2, l3, l4, l5, l6, l7, l8, l30, l50, l64, l100, l200, l448, l1200, iN_add, iN_lt, iN_le, iN_inj, iN_clamp, iN_inb, iN_nO, nO_iN, nO_lt, iN_ltm, iN_lem, nO_le, iN_pred, if_pos, if_neg, ↓reduceIte, or_true, true_or, and_true, true_and, ne_eq, not_true_eq_false, not_false_eq_true, false_or, or_false, and_false, false_and, f_X10_pin, m_isDiagram T.1 g7 hd, m_isUnit T.1 g6 hu, j_X10_pin_26, j_X10_pin_27, wr_rd, t5]
    · refine ok_ex C R (k := 1) (E := "java/lang/IndexOutOfBoundsException") ?_ wk1 (by decide) (thr_ok (fun τ T => ?_)) G W
      · simp (disch := omega) only [gd_t, gd_T, bx_some, bx_thr, bd_def, nx_in, ↓nO_eq, l0, l1, l2, l3, l4, l5, l6, l7, l8, l30, l50, l64, l100, l200, l448, l1200, iN_add, iN_lt, iN_le, iN_inj, iN_clamp, iN_inb, iN_nO, nO_iN, nO_lt, iN_ltm, iN_lem, nO_le, iN_pred, if_pos, if_neg, ↓reduceIte, or_true, true_or, and_true, true_and, ne_eq, not_true_eq_false, not_false_eq_true, false_or, or_false, and_false, false_and, f_X9_pin, c_diagramAt C.1 g7 hd, hm, c_sz0 C.1, c_num_no h2]
      · simp (disch := omega) only [gd_t, gd_T, bx_some, bx_thr, bd_def, nx_in, ↓nO_eq, l0, l1, l2, l3, l4, l5, l6, l7, l8, l30, l50, l64, l100, l200, l448, l1200, iN_add, iN_lt, iN_le, iN_inj, iN_clamp, iN_inb, iN_nO, nO_iN, nO_lt, iN_ltm, iN_lem, nO_le, iN_pred, if_pos, if_neg, ↓reduceIte, or_true, true_or, and_true, true_and, ne_eq, not_true_eq_false, not_false_eq_true, false_or, or_false, and_false, false_and, f_X10_pin, m_isDiagram T.1 g7 hd, hm, m_isUnit_no T.1 g6 h2, j_X10_pin_22, j_X10_pin_27, wr_rd]
  · refine ok_ex C R (k := 1) (E := "java/lang/IndexOutOfBoundsException") ?_ wk1 (by decide) (thr_ok (fun τ T => ?_)) G W
    · simp (disch := omega) only [gd_t, gd_T, bx_some, bx_thr, bd_def, nx_in, ↓nO_eq, l0, l1, l2, l3, l4, l5, l6, l7, l8, l30, l50, l64, l100, l200, l448, l1200, iN_add, iN_lt, iN_le, iN_inj, iN_clamp, iN_inb, iN_nO, nO_iN, nO_lt, iN_ltm, iN_lem, nO_le, iN_pred, if_pos, if_neg, ↓reduceIte, or_true, true_or, and_true, true_and, ne_eq, not_true_eq_false, not_false_eq_true, false_or, or_false, and_false, false_and, f_X9_pin, c_diagramAt_no C.1 h1]
    · simp (disch := omega) only [gd_t, gd_T, bx_some, bx_thr, bd_def, nx_in, ↓nO_eq, l0, l1, l2, l3, l4, l5, l6, l7, l8, l30, l50, l64, l100, l200, l448, l1200, iN_add, iN_lt, iN_le, iN_inj, iN_clamp, iN_inb, iN_nO, nO_iN, nO_lt, iN_ltm, iN_lem, nO_le, iN_pred, if_pos, if_neg, ↓reduceIte, or_true, true_or, and_true, true_and, ne_eq, not_true_eq_false, not_false_eq_true, false_or, or_false, and_false, false_and, f_X10_pin, m_isDiagram_no T.1 g7 h1, j_X10_pin_22, j_X10_pin_27, wr_rd]
/-! examine -/
def xaA (A : Ab) (u e : Nat) : Ab := (fun t i k => if t = 30 ∧ i = 3 ∧ k = 0 then 1 else if (t = 35 ∨ t = 36) ∧ i = u ∧ k ≤ e then 0 else A.1 t i k, A.2)
theorem xaA_rd (A : Ab) (u e t i k : Nat) : (xaA A u e).1 t i k = if t = 30 ∧ i = 3 ∧ k = 0 then 1 else if (t = 35 ∨ t = 36) ∧ i = u ∧ k ≤ e then 0 else A.1 t i k := id rfl
/-- the clocks of one are changed as told -/
def clk (σ : Wd) (u : Nat) (f : Nat → Int32) (g : Nat → Int32) : Wd := stO (stO σ 22 u f) 23 u g
theorem st_rd (σ : Wd) (t i : Nat) (g : Nat → Int32) (t' i' k' : Nat) : (stO σ t i g).1 t' i' k' = if t' = t ∧ i' = i then g k' else σ.1 t' i' k' := by
  by_cases h : t' = t ∧ i' = i
  · rw [if_pos h]
    exact congrFun (if_pos h) k'
  · rw [if_neg h]
    exact congrFun (if_neg h) k'
theorem xa_loop {σ : Wd} {A : Ab} (H : RCl σ A) {u : Nat} (hu : u < nU A) {e : Nat} (he : e < 3) : ∃ σ', f_X8_beginAgain σ u (iN e) = some (.inl (), σ') ∧ σ'.2 = σ.2 ∧ ∀ t i k, σ'.1 t i k = if (t = 22 ∨ t = 23) ∧ i = u ∧ k ≤ e then 0 else σ.1 t i k := by
  obtain ⟨m, hm⟩ := FU_ge 4 (by decide)
  have e8 := H.1
  have he4 : e = 0 ∨ e = 1 ∨ e = 2 := by omega
  unfold f_X8_beginAgain
  rw [hm]
  rcases he4 with rfl | rfl | rfl
  · refine ⟨wr (wr σ 22 u 0 0) 23 u 0 0, ?_, rfl, fun t i k => ?_⟩
    · simp (disch := omega) only [gd_t, gd_T, bx_some, bx_thr, bd_def, nx_in, ↓nO_eq, l0, l1, l2, l3, l4, l5, l6, l7, l8, l30, l50, l64, l100, l200, l448, l1200, iN_add, iN_lt, iN_le, iN_inj, iN_clamp, iN_inb, iN_nO, nO_iN, nO_lt, iN_ltm, iN_lem, nO_le, iN_pred, if_pos, if_neg, ↓reduceIte, or_true, true_or, and_true, true_and, ne_eq, not_true_eq_false, not_false_eq_true, false_or, or_false, and_false, false_and, l_X8_beginAgain_2, wr_two]
    · simp only [wr_rd]
      repeat' split
      all_goals first | rfl | omega
  · refine ⟨wr (wr (wr (wr σ 22 u 0 0) 23 u 0 0) 22 u 1 0) 23 u 1 0, ?_, rfl, fun t i k => ?_⟩
    · simp (disch := omega) only [gd_t, gd_T, bx_some, bx_thr, bd_def, nx_in, ↓nO_eq, l0, l1, l2, l3, l4, l5, l6, l7, l8, l30, l50, l64, l100, l200, l448, l1200, iN_add, iN_lt, iN_le, iN_inj, iN_clamp, iN_inb, iN_nO, nO_iN, nO_lt, iN_ltm, iN_lem, nO_le, iN_pred, if_pos, if_neg, ↓reduceIte, or_true, true_or, and_true, true_and, ne_eq, not_true_eq_false, not_false_eq_true, false_or, or_false, and_false, false_and, l_X8_beginAgain_2, wr_two]
    · simp only [wr_rd]
      repeat' split
      all_goals first | rfl | omega
  · refine ⟨wr (wr (wr (wr (wr (wr σ 22 u 0 0) 23 u 0 0) 22 u 1 0) 23 u 1 0) 22 u 2 0) 23 u 2 0, ?_, rfl, fun t i k => ?_⟩
    · simp (disch := omega) only [gd_t, gd_T, bx_some, bx_thr, bd_def, nx_in, ↓nO_eq, l0, l1, l2, l3, l4, l5, l6, l7, l8, l30, l50, l64, l100, l200, l448, l1200, iN_add, iN_lt, iN_le, iN_inj, iN_clamp, iN_inb, iN_nO, nO_iN, nO_lt, iN_ltm, iN_lem, nO_le, iN_pred, if_pos, if_neg, ↓reduceIte, or_true, true_or, and_true, true_and, ne_eq, not_true_eq_false, not_false_eq_true, false_or, or_false, and_false, false_and, l_X8_beginAgain_2, wr_two]
    · simp only [wr_rd]
      repeat' split
      all_goals first | rfl | omega
