/-! one call of both -/
theorem RR.thr {σ : Wd} {A : Ab} (h : RR σ A) (k : Int32) : RR (wr σ 30 0 0 k) A := by
  obtain ⟨⟨h1, h2, h3, h4, h5, h6⟩, F, U, D, E, R1, R2⟩ := h
  exact ⟨⟨h1, h2, h3, h4, h5, h6⟩, F, U, D, E, R1, R2⟩
theorem wr_rd (σ : Wd) (t i k : Nat) (v : Int32) (t' i' k' : Nat) : (wr σ t i k v).1 t' i' k' = if t' = t ∧ i' = i ∧ k' = k then v else σ.1 t' i' k' := id rfl
theorem wr_two (σ : Wd) (t i k : Nat) (v : Int32) : (wr σ t i k v).2 = σ.2 := id rfl
theorem ok_in {h1 h2 h3 : Option Int32} {g : Option ((Int32 ⊕ String) × Wd)} {f : Wd → Option ((Int32 ⊕ String) × Wd)} {σ σ1 : Wd} {A A' : Ab} {v : Int32} (hR : RR σ A) (hS : CS σ σ1) (hg : g = some (.inl v, σ1)) (hC : RC σ1 A') (hF : ∀ τ, RR τ A → ∃ σ2, f τ = some (.inl v, σ2) ∧ σ2.1 30 0 0 = 0 ∧ RS τ σ2 ∧ RR σ2 A') (G : Gd A') (W : Gr A' (fun _ => False)) : ∃ σ', caseF (wrapF h1 h2 h3 g) f = some σ' ∧ Inv σ' := by
  have hτ : RR (wr σ1 70 0 0 v) A := hR.fr (fun t a b => by
    refine Eq.trans ?_ (hS t a)
    funext i k
    exact if_neg (fun z => by omega))
  obtain ⟨σ2, e1, e2, e3, e4⟩ := hF _ hτ
  have e7 : σ2.1 70 0 0 = v := by rw [e3.1 70 (Or.inr (by decide))]; exact wr_same _ _ _ _ _
  refine ⟨σ2, ?_, A', ?_, e4, G, W⟩
  · rw [hg]
    show caseF (some (0, wr σ1 70 0 0 v)) f = some σ2
    unfold caseF
    simp only [e1, f_X10_thrown, e2, e7]
    simp
  · refine hC.fr (fun t ht => ?_) e3.2
    rw [e3.1 t (Or.inl ht)]
    funext i k
    exact if_neg (fun z => by omega)
theorem ok_ex {h1 h2 h3 : Option Int32} {g : Option ((Int32 ⊕ String) × Wd)} {f : Wd → Option ((Int32 ⊕ String) × Wd)} {σ : Wd} {A : Ab} {E : String} {k : Int32} (hC : RC σ A) (hR : RR σ A) (hg : g = some (.inr E, σ)) (hk : wrapF h1 h2 h3 (some (.inr E, σ)) = some (k, σ)) (hk0 : ¬ k = 0) (hF : ∀ τ, RR τ A → ∃ σ2 bv, f τ = some (.inl bv, σ2) ∧ σ2.1 30 0 0 = k ∧ RS τ σ2 ∧ RR σ2 A) (G : Gd A) (W : Gr A (fun _ => False)) : ∃ σ', caseF (wrapF h1 h2 h3 g) f = some σ' ∧ Inv σ' := by
  obtain ⟨σ2, bv, e1, e2, e3, e4⟩ := hF σ hR
  refine ⟨σ2, ?_, A, hC.rs e3, e4, G, W⟩
  rw [hg, hk]
  unfold caseF
  simp only [e1, f_X10_thrown, e2]
  simp [hk0]
theorem ok_q {g : Option ((Int32 ⊕ String) × Wd)} {f : Wd → Option ((Int32 ⊕ String) × Wd)} {σ σ1 : Wd} {A A' : Ab} {v : Int32} (hR : RR σ A) (hS : CS σ σ1) (hg : g = some (.inl v, σ1)) (hC : RC σ1 A') (hF : ∀ τ, RR τ A → ∃ σ2, f τ = some (.inl v, σ2) ∧ RS τ σ2 ∧ RR σ2 A') (G : Gd A') (W : Gr A' (fun _ => False)) : ∃ σ', caseG g f = some σ' ∧ Inv σ' := by
  obtain ⟨σ2, e1, e3, e4⟩ := hF _ (hR.cs hS)
  refine ⟨σ2, ?_, A', hC.rs e3, e4, G, W⟩
  rw [hg]
  unfold caseG
  simp only [e1]
  simp
/-- what a call that throws leaves -/
theorem thr_ok {f : Wd → Option ((Int32 ⊕ String) × Wd)} {A : Ab} {k : Int32} (h : ∀ τ, RR τ A → f τ = some (.inl 0, wr τ 30 0 0 k)) : ∀ τ, RR τ A → ∃ σ2 bv, f τ = some (.inl bv, σ2) ∧ σ2.1 30 0 0 = k ∧ RS τ σ2 ∧ RR σ2 A := fun τ R => ⟨_, _, h τ R, wr_same _ _ _ _ _, (RS.rf τ).wr ⟨by decide, by decide⟩, R.thr k⟩
/-- what a question leaves -/
theorem ask_ok {f : Wd → Option ((Int32 ⊕ String) × Wd)} {A : Ab} {v : Int32} (h : ∀ τ, RR τ A → f τ = some (.inl v, wr τ 30 0 0 0)) : ∀ τ, RR τ A → ∃ σ2, f τ = some (.inl v, σ2) ∧ σ2.1 30 0 0 = 0 ∧ RS τ σ2 ∧ RR σ2 A := fun τ R => ⟨_, h τ R, wr_same _ _ _ _ _, (RS.rf τ).wr ⟨by decide, by decide⟩, R.thr 0⟩
theorem wk1 {h2 h3 : Option Int32} {k : Int32} {σ : Wd} : wrapF (some k) h2 h3 (some (.inr "java/lang/IndexOutOfBoundsException", σ)) = some (k, σ) := rfl
theorem wk2 {h1 h3 : Option Int32} {k : Int32} {σ : Wd} : wrapF h1 (some k) h3 (some (.inr "java/lang/IllegalArgumentException", σ)) = some (k, σ) := rfl
theorem wk3 {h1 h2 : Option Int32} {k : Int32} {σ : Wd} : wrapF h1 h2 (some k) (some (.inr "java/lang/IllegalStateException", σ)) = some (k, σ) := rfl
/-! the short questions -/
theorem st_today {σ : Wd} (I : Inv σ) : ∃ σ', c_today σ = some σ' ∧ Inv σ' := by
  obtain ⟨A, C, R, G, W⟩ := I
  refine ok_q R (CS.rf σ) (v := iN (nT A)) ?_ C (fun τ T => ⟨_, ?_, (RS.rf τ).wr ⟨by decide, by decide⟩, T.thr 0⟩) G W
  · have := C.2.2.2.2.2.2.1.1
    simp (disch := omega) only [gd_t, gd_T, bx_some, bx_thr, bd_def, nx_in, ↓nO_eq, l0, l1, l2, l3, l4, l5, l6, l7, l8, l30, l50, l64, l100, l200, l448, l1200, iN_add, iN_lt, iN_le, iN_inj, iN_clamp, iN_inb, iN_nO, nO_iN, nO_lt, iN_ltm, iN_lem, nO_le, iN_pred, if_pos, if_neg, ↓reduceIte, or_true, true_or, and_true, true_and, ne_eq, not_true_eq_false, not_false_eq_true, false_or, or_false, and_false, false_and, f_X9_today, this]
  · have := T.1.2.2.1
    simp (disch := omega) only [gd_t, gd_T, bx_some, bx_thr, bd_def, nx_in, ↓nO_eq, l0, l1, l2, l3, l4, l5, l6, l7, l8, l30, l50, l64, l100, l200, l448, l1200, iN_add, iN_lt, iN_le, iN_inj, iN_clamp, iN_inb, iN_nO, nO_iN, nO_lt, iN_ltm, iN_lem, nO_le, iN_pred, if_pos, if_neg, ↓reduceIte, or_true, true_or, and_true, true_and, ne_eq, not_true_eq_false, not_false_eq_true, false_or, or_false, and_false, false_and, f_X10_today, wr_rd, this]
theorem st_shunts {σ : Wd} (I : Inv σ) : ∃ σ', c_shunts σ = some σ' ∧ Inv σ' := by
  obtain ⟨A, C, R, G, W⟩ := I
  refine ok_q R (CS.rf σ) (v := A.1 30 2 0) ?_ C (fun τ T => ⟨_, ?_, (RS.rf τ).wr ⟨by decide, by decide⟩, T.thr 0⟩) G W
  · have := C.2.2.2.2.2.2.1.2.1
    simp (disch := omega) only [gd_t, gd_T, bx_some, bx_thr, bd_def, nx_in, ↓nO_eq, l0, l1, l2, l3, l4, l5, l6, l7, l8, l30, l50, l64, l100, l200, l448, l1200, iN_add, iN_lt, iN_le, iN_inj, iN_clamp, iN_inb, iN_nO, nO_iN, nO_lt, iN_ltm, iN_lem, nO_le, iN_pred, if_pos, if_neg, ↓reduceIte, or_true, true_or, and_true, true_and, ne_eq, not_true_eq_false, not_false_eq_true, false_or, or_false, and_false, false_and, f_X9_shunts, this]
  · have := T.1.2.2.2.1
    simp (disch := omega) only [gd_t, gd_T, bx_some, bx_thr, bd_def, nx_in, ↓nO_eq, l0, l1, l2, l3, l4, l5, l6, l7, l8, l30, l50, l64, l100, l200, l448, l1200, iN_add, iN_lt, iN_le, iN_inj, iN_clamp, iN_inb, iN_nO, nO_iN, nO_lt, iN_ltm, iN_lem, nO_le, iN_pred, if_pos, if_neg, ↓reduceIte, or_true, true_or, and_true, true_and, ne_eq, not_true_eq_false, not_false_eq_true, false_or, or_false, and_false, false_and, f_X10_shunts, wr_rd, this]
theorem st_whyNot {σ : Wd} (I : Inv σ) (w1 w2 : Int32) : ∃ σ', c_whyNot σ w1 w2 = some σ' ∧ Inv σ' := by
  obtain ⟨A, C, R, G, W⟩ := I
  have S := C.2.2.2.2.2.2.1.1
  rcases rng w1 (nU A) (by have := G.1; omega) with ⟨u, hu, rfl⟩ | h1
  · rcases rng w2 (nD A) (by have := G.2.1; omega) with ⟨d, hd, rfl⟩ | h2
    · refine ok_in R (CS.rf σ) (v := rsn A u d) ?_ C (ask_ok (fun τ T => ?_)) G W
      · simp (disch := omega) only [gd_t, gd_T, bx_some, bx_thr, bd_def, nx_in, ↓nO_eq, l0, l1, l2, l3, l4, l5, l6, l7, l8, l30, l50, l64, l100, l200, l448, l1200, iN_add, iN_lt, iN_le, iN_inj, iN_clamp, iN_inb, iN_nO, nO_iN, nO_lt, iN_ltm, iN_lem, nO_le, iN_pred, if_pos, if_neg, ↓reduceIte, or_true, true_or, and_true, true_and, ne_eq, not_true_eq_false, not_false_eq_true, false_or, or_false, and_false, false_and, f_X9_whyNot, c_unitAt C.1 G.1 hu, c_diagramAt C.1 G.2.1 hd, S, k_reason C G hu hd]
      · simp (disch := omega) only [gd_t, gd_T, bx_some, bx_thr, bd_def, nx_in, ↓nO_eq, l0, l1, l2, l3, l4, l5, l6, l7, l8, l30, l50, l64, l100, l200, l448, l1200, iN_add, iN_lt, iN_le, iN_inj, iN_clamp, iN_inb, iN_nO, nO_iN, nO_lt, iN_ltm, iN_lem, nO_le, iN_pred, if_pos, if_neg, ↓reduceIte, or_true, true_or, and_true, true_and, ne_eq, not_true_eq_false, not_false_eq_true, false_or, or_false, and_false, false_and, f_X10_whyNot, m_isUnit T.1 G.1 hu, m_isDiagram T.1 G.2.1 hd, j_X10_whyNot_22, wr_rd, m_reason (T.thr (iN 0)) G hu hd]
    · refine ok_ex C R (k := 1) (E := "java/lang/IndexOutOfBoundsException") ?_ wk1 (by decide) (thr_ok (fun τ T => ?_)) G W
      · simp (disch := omega) only [gd_t, gd_T, bx_some, bx_thr, bd_def, nx_in, ↓nO_eq, l0, l1, l2, l3, l4, l5, l6, l7, l8, l30, l50, l64, l100, l200, l448, l1200, iN_add, iN_lt, iN_le, iN_inj, iN_clamp, iN_inb, iN_nO, nO_iN, nO_lt, iN_ltm, iN_lem, nO_le, iN_pred, if_pos, if_neg, ↓reduceIte, or_true, true_or, and_true, true_and, ne_eq, not_true_eq_false, not_false_eq_true, false_or, or_false, and_false, false_and, f_X9_whyNot, c_unitAt C.1 G.1 hu, c_diagramAt_no C.1 h2]
      · simp (disch := omega) only [gd_t, gd_T, bx_some, bx_thr, bd_def, nx_in, ↓nO_eq, l0, l1, l2, l3, l4, l5, l6, l7, l8, l30, l50, l64, l100, l200, l448, l1200, iN_add, iN_lt, iN_le, iN_inj, iN_clamp, iN_inb, iN_nO, nO_iN, nO_lt, iN_ltm, iN_lem, nO_le, iN_pred, if_pos, if_neg, ↓reduceIte, or_true, true_or, and_true, true_and, ne_eq, not_true_eq_false, not_false_eq_true, false_or, or_false, and_false, false_and, f_X10_whyNot, m_isUnit T.1 G.1 hu, m_isDiagram_no T.1 G.2.1 h2, j_X10_whyNot_22, j_X10_whyNot_17, wr_rd]
  · refine ok_ex C R (k := 1) (E := "java/lang/IndexOutOfBoundsException") ?_ wk1 (by decide) (thr_ok (fun τ T => ?_)) G W
    · simp (disch := omega) only [gd_t, gd_T, bx_some, bx_thr, bd_def, nx_in, ↓nO_eq, l0, l1, l2, l3, l4, l5, l6, l7, l8, l30, l50, l64, l100, l200, l448, l1200, iN_add, iN_lt, iN_le, iN_inj, iN_clamp, iN_inb, iN_nO, nO_iN, nO_lt, iN_ltm, iN_lem, nO_le, iN_pred, if_pos, if_neg, ↓reduceIte, or_true, true_or, and_true, true_and, ne_eq, not_true_eq_false, not_false_eq_true, false_or, or_false, and_false, false_and, f_X9_whyNot, c_unitAt_no C.1 h1]
    · simp (disch := omega) only [gd_t, gd_T, bx_some, bx_thr, bd_def, nx_in, ↓nO_eq, l0, l1, l2, l3, l4, l5, l6, l7, l8, l30, l50, l64, l100, l200, l448, l1200, iN_add, iN_lt, iN_le, iN_inj, iN_clamp, iN_inb, iN_nO, nO_iN, nO_lt, iN_ltm, iN_lem, nO_le, iN_pred, if_pos, if_neg, ↓reduceIte, or_true, true_or, and_true, true_and, ne_eq, not_true_eq_false, not_false_eq_true, false_or, or_false, and_false, false_and, f_X10_whyNot, m_isUnit_no T.1 G.1 h1, j_X10_whyNot_22, j_X10_whyNot_17, wr_rd]
theorem st_axle {σ : Wd} (I : Inv σ) (w1 w2 : Int32) : ∃ σ', c_axle σ w1 w2 = some σ' ∧ Inv σ' := by
  obtain ⟨A, C, R, G, W⟩ := I
  have e8 := C.1.1
  rcases rng w1 (nU A) (by have := G.1; omega) with ⟨u, hu, rfl⟩ | h1
  · rcases rng w2 4 (by decide) with ⟨a, ha, rfl⟩ | h2
    · refine ok_in R (CS.rf σ) (v := A.1 34 u a) ?_ C (ask_ok (fun τ T => ?_)) G W
      · simp (disch := omega) only [gd_t, gd_T, bx_some, bx_thr, bd_def, nx_in, ↓nO_eq, l0, l1, l2, l3, l4, l5, l6, l7, l8, l30, l50, l64, l100, l200, l448, l1200, iN_add, iN_lt, iN_le, iN_inj, iN_clamp, iN_inb, iN_nO, nO_iN, nO_lt, iN_ltm, iN_lem, nO_le, iN_pred, if_pos, if_neg, ↓reduceIte, or_true, true_or, and_true, true_and, ne_eq, not_true_eq_false, not_false_eq_true, false_or, or_false, and_false, false_and, f_X9_axle, c_unitAt C.1 G.1 hu, c_num (σ := σ) ha, k_axle C.1 C.2.2.1 hu ha]
      · have g6 := G.1
        have := (T.2.2.1 u hu).2.2.2.2.2 a ha
        simp (disch := omega) only [gd_t, gd_T, bx_some, bx_thr, bd_def, nx_in, ↓nO_eq, l0, l1, l2, l3, l4, l5, l6, l7, l8, l30, l50, l64, l100, l200, l448, l1200, iN_add, iN_lt, iN_le, iN_inj, iN_clamp, iN_inb, iN_nO, nO_iN, nO_lt, iN_ltm, iN_lem, nO_le, iN_pred, if_pos, if_neg, ↓reduceIte, or_true, true_or, and_true, true_and, ne_eq, not_true_eq_false, not_false_eq_true, false_or, or_false, and_false, false_and, f_X10_axle, m_isUnit T.1 G.1 hu, b_inL (σ := τ) (m := 3) ha, j_X10_axle_24, wr_rd, iN_mul, this]
    · refine ok_ex C R (k := 1) (E := "java/lang/IndexOutOfBoundsException") ?_ wk1 (by decide) (thr_ok (fun τ T => ?_)) G W
      · simp (disch := omega) only [gd_t, gd_T, bx_some, bx_thr, bd_def, nx_in, ↓nO_eq, l0, l1, l2, l3, l4, l5, l6, l7, l8, l30, l50, l64, l100, l200, l448, l1200, iN_add, iN_lt, iN_le, iN_inj, iN_clamp, iN_inb, iN_nO, nO_iN, nO_lt, iN_ltm, iN_lem, nO_le, iN_pred, if_pos, if_neg, ↓reduceIte, or_true, true_or, and_true, true_and, ne_eq, not_true_eq_false, not_false_eq_true, false_or, or_false, and_false, false_and, f_X9_axle, c_unitAt C.1 G.1 hu, c_num_no h2]
      · simp (disch := omega) only [gd_t, gd_T, bx_some, bx_thr, bd_def, nx_in, ↓nO_eq, l0, l1, l2, l3, l4, l5, l6, l7, l8, l30, l50, l64, l100, l200, l448, l1200, iN_add, iN_lt, iN_le, iN_inj, iN_clamp, iN_inb, iN_nO, nO_iN, nO_lt, iN_ltm, iN_lem, nO_le, iN_pred, if_pos, if_neg, ↓reduceIte, or_true, true_or, and_true, true_and, ne_eq, not_true_eq_false, not_false_eq_true, false_or, or_false, and_false, false_and, f_X10_axle, m_isUnit T.1 G.1 hu, b_outL (σ := τ) (m := 3) (by decide) h2, j_X10_axle_24, j_X10_axle_19, wr_rd]
  · refine ok_ex C R (k := 1) (E := "java/lang/IndexOutOfBoundsException") ?_ wk1 (by decide) (thr_ok (fun τ T => ?_)) G W
    · simp (disch := omega) only [gd_t, gd_T, bx_some, bx_thr, bd_def, nx_in, ↓nO_eq, l0, l1, l2, l3, l4, l5, l6, l7, l8, l30, l50, l64, l100, l200, l448, l1200, iN_add, iN_lt, iN_le, iN_inj, iN_clamp, iN_inb, iN_nO, nO_iN, nO_lt, iN_ltm, iN_lem, nO_le, iN_pred, if_pos, if_neg, ↓reduceIte, or_true, true_or, and_true, true_and, ne_eq, not_true_eq_false, not_false_eq_true, false_or, or_false, and_false, false_and, f_X9_axle, c_unitAt_no C.1 h1]
    · simp (disch := omega) only [gd_t, gd_T, bx_some, bx_thr, bd_def, nx_in, ↓nO_eq, l0, l1, l2, l3, l4, l5, l6, l7, l8, l30, l50, l64, l100, l200, l448, l1200, iN_add, iN_lt, iN_le, iN_inj, iN_clamp, iN_inb, iN_nO, nO_iN, nO_lt, iN_ltm, iN_lem, nO_le, iN_pred, if_pos, if_neg, ↓reduceIte, or_true, true_or, and_true, true_and, ne_eq, not_true_eq_false, not_false_eq_true, false_or, or_false, and_false, false_and, f_X10_axle, m_isUnit_no T.1 G.1 h1, j_X10_axle_24, j_X10_axle_19, wr_rd]
theorem st_clock {σ : Wd} (I : Inv σ) (w1 w2 w3 : Int32) : ∃ σ', c_clock σ w1 w2 w3 = some σ' ∧ Inv σ' := by
  obtain ⟨A, C, R, G, W⟩ := I
  have e8 := C.1.1
  unfold c_clock g_clock
  generalize (if w3 = 0 then (0 : Int32) else 1) = b
  rcases rng w1 (nU A) (by have := G.1; omega) with ⟨u, hu, rfl⟩ | h1
  · rcases rng w2 3 (by decide) with ⟨a, ha, rfl⟩ | h2
    · by_cases hb : b = iN 0
      · refine ok_in R (CS.rf σ) (v := A.1 35 u a) ?_ C (ask_ok (fun τ T => ?_)) G W
        · simp (disch := omega) only [gd_t, gd_T, bx_some, bx_thr, bd_def, nx_in, ↓nO_eq, l0, l1, l2, l3, l4, l5, l6, l7, l8, l30, l50, l64, l100, l200, l448, l1200, iN_add, iN_lt, iN_le, iN_inj, iN_clamp, iN_inb, iN_nO, nO_iN, nO_lt, iN_ltm, iN_lem, nO_le, iN_pred, if_pos, if_neg, ↓reduceIte, or_true, true_or, and_true, true_and, ne_eq, not_true_eq_false, not_false_eq_true, false_or, or_false, and_false, false_and, f_X9_clock, c_unitAt C.1 G.1 hu, c_num (σ := σ) ha, k_km C.1 C.2.2.1 hu ha, hb]
        · have g6 := G.1
          have := (T.2.2.1 u hu).2.2.2.1 a ha
          simp (disch := omega) only [gd_t, gd_T, bx_some, bx_thr, bd_def, nx_in, ↓nO_eq, l0, l1, l2, l3, l4, l5, l6, l7, l8, l30, l50, l64, l100, l200, l448, l1200, iN_add, iN_lt, iN_le, iN_inj, iN_clamp, iN_inb, iN_nO, nO_iN, nO_lt, iN_ltm, iN_lem, nO_le, iN_pred, if_pos, if_neg, ↓reduceIte, or_true, true_or, and_true, true_and, ne_eq, not_true_eq_false, not_false_eq_true, false_or, or_false, and_false, false_and, f_X10_clock, m_isUnit T.1 G.1 hu, m_isExam (σ := τ) ha, j_X10_clock_22, wr_rd, iN_mul, this, hb]
      · refine ok_in R (CS.rf σ) (v := A.1 36 u a) ?_ C (ask_ok (fun τ T => ?_)) G W
        · simp (disch := omega) only [gd_t, gd_T, bx_some, bx_thr, bd_def, nx_in, ↓nO_eq, l0, l1, l2, l3, l4, l5, l6, l7, l8, l30, l50, l64, l100, l200, l448, l1200, iN_add, iN_lt, iN_le, iN_inj, iN_clamp, iN_inb, iN_nO, nO_iN, nO_lt, iN_ltm, iN_lem, nO_le, iN_pred, if_pos, if_neg, ↓reduceIte, or_true, true_or, and_true, true_and, ne_eq, not_true_eq_false, not_false_eq_true, false_or, or_false, and_false, false_and, f_X9_clock, c_unitAt C.1 G.1 hu, c_num (σ := σ) ha, k_days C.1 C.2.2.1 hu ha, hb]
        · have g6 := G.1
          have := (T.2.2.1 u hu).2.2.2.2.1 a ha
          simp (disch := omega) only [gd_t, gd_T, bx_some, bx_thr, bd_def, nx_in, ↓nO_eq, l0, l1, l2, l3, l4, l5, l6, l7, l8, l30, l50, l64, l100, l200, l448, l1200, iN_add, iN_lt, iN_le, iN_inj, iN_clamp, iN_inb, iN_nO, nO_iN, nO_lt, iN_ltm, iN_lem, nO_le, iN_pred, if_pos, if_neg, ↓reduceIte, or_true, true_or, and_true, true_and, ne_eq, not_true_eq_false, not_false_eq_true, false_or, or_false, and_false, false_and, f_X10_clock, m_isUnit T.1 G.1 hu, m_isExam (σ := τ) ha, j_X10_clock_22, wr_rd, iN_mul, this, hb]
    · refine ok_ex C R (k := 1) (E := "java/lang/IndexOutOfBoundsException") ?_ wk1 (by decide) (thr_ok (fun τ T => ?_)) G W
      · simp (disch := omega) only [gd_t, gd_T, bx_some, bx_thr, bd_def, nx_in, ↓nO_eq, l0, l1, l2, l3, l4, l5, l6, l7, l8, l30, l50, l64, l100, l200, l448, l1200, iN_add, iN_lt, iN_le, iN_inj, iN_clamp, iN_inb, iN_nO, nO_iN, nO_lt, iN_ltm, iN_lem, nO_le, iN_pred, if_pos, if_neg, ↓reduceIte, or_true, true_or, and_true, true_and, ne_eq, not_true_eq_false, not_false_eq_true, false_or, or_false, and_false, false_and, f_X9_clock, c_unitAt C.1 G.1 hu, c_num_no h2]
      · simp (disch := omega) only [gd_t, gd_T, bx_some, bx_thr, bd_def, nx_in, ↓nO_eq, l0, l1, l2, l3, l4, l5, l6, l7, l8, l30, l50, l64, l100, l200, l448, l1200, iN_add, iN_lt, iN_le, iN_inj, iN_clamp, iN_inb, iN_nO, nO_iN, nO_lt, iN_ltm, iN_lem, nO_le, iN_pred, if_pos, if_neg, ↓reduceIte, or_true, true_or, and_true, true_and, ne_eq, not_true_eq_false, not_false_eq_true, false_or, or_false, and_false, false_and, f_X10_clock, m_isUnit T.1 G.1 hu, m_isExam_no (σ := τ) h2, j_X10_clock_22, j_X10_clock_17, wr_rd]
  · refine ok_ex C R (k := 1) (E := "java/lang/IndexOutOfBoundsException") ?_ wk1 (by decide) (thr_ok (fun τ T => ?_)) G W
    · simp (disch := omega) only [gd_t, gd_T, bx_some, bx_thr, bd_def, nx_in, ↓nO_eq, l0, l1, l2, l3, l4, l5, l6, l7, l8, l30, l50, l64, l100, l200, l448, l1200, iN_add, iN_lt, iN_le, iN_inj, iN_clamp, iN_inb, iN_nO, nO_iN, nO_lt, iN_ltm, iN_lem, nO_le, iN_pred, if_pos, if_neg, ↓reduceIte, or_true, true_or, and_true, true_and, ne_eq, not_true_eq_false, not_false_eq_true, false_or, or_false, and_false, false_and, f_X9_clock, c_unitAt_no C.1 h1]
    · simp (disch := omega) only [gd_t, gd_T, bx_some, bx_thr, bd_def, nx_in, ↓nO_eq, l0, l1, l2, l3, l4, l5, l6, l7, l8, l30, l50, l64, l100, l200, l448, l1200, iN_add, iN_lt, iN_le, iN_inj, iN_clamp, iN_inb, iN_nO, nO_iN, nO_lt, iN_ltm, iN_lem, nO_le, iN_pred, if_pos, if_neg, ↓reduceIte, or_true, true_or, and_true, true_and, ne_eq, not_true_eq_false, not_false_eq_true, false_or, or_false, and_false, false_and, f_X10_clock, m_isUnit_no T.1 G.1 h1, j_X10_clock_22, j_X10_clock_17, wr_rd]
theorem ne_lit {p : Int32} {n : Nat} (hp : p < iN 0 ∨ ¬ p < iN 0 ∧ iN n ≤ p) (hn : n < 2147483648) {k : Nat} (hk : k < n) : ¬ p = iN k := by
  rintro rfl
  rcases hp with h | ⟨h, h2⟩
  · rw [iN_lt (by omega) (by decide)] at h; omega
  · rw [iN_le (by omega) (by omega)] at h2; omega
theorem st_faultAt {σ : Wd} (I : Inv σ) (w1 w2 w3 : Int32) : ∃ σ', c_faultAt σ w1 w2 w3 = some σ' ∧ Inv σ' := by
  obtain ⟨A, C, R, G, W⟩ := I
  have e8 := C.1.1
  have g6 := G.1
  rcases rng w1 (nU A) (by omega) with ⟨u, hu, rfl⟩ | h1
  · have g8 := (G.2.2.2.1 u hu).1
    rcases rng w2 (fl A u).length (by omega) with ⟨j, hj, rfl⟩ | h2
    · have hf := List.getElem?_eq_getElem hj
      generalize (fl A u)[j] = f at hf
      obtain ⟨x, x1, x2, x3⟩ := k_faultAt C.1 C.2.1 g6 hu g8 hf
      have y0 : σ.1 26 x 0 = f.1 := by rw [← x3]; rfl
      have y1 : σ.1 26 x 1 = f.2.1 := by rw [← x3]; rfl
      have y2 : σ.1 26 x 2 = f.2.2.1 := by rw [← x3]; rfl
      have y3 : σ.1 26 x 3 = f.2.2.2 := by rw [← x3]; rfl
      rcases rng w3 4 (by decide) with ⟨k, hk, rfl⟩ | h3
      · refine ok_in R (CS.rf σ) (v := if k = 0 then f.1 else if k = 1 then f.2.1 else if k = 2 then f.2.2.1 else f.2.2.2) ?_ C (ask_ok (fun τ T => ?_)) G W
        · have hk4 : k = 0 ∨ k = 1 ∨ k = 2 ∨ k = 3 := by omega
          rcases hk4 with rfl | rfl | rfl | rfl <;> simp (disch := omega) only [gd_t, gd_T, bx_some, bx_thr, bd_def, nx_in, ↓nO_eq, l0, l1, l2, l3, l4, l5, l6, l7, l8, l30, l50, l64, l100, l200, l448, l1200, iN_add, iN_lt, iN_le, iN_inj, iN_clamp, iN_inb, iN_nO, nO_iN, nO_lt, iN_ltm, iN_lem, nO_le, iN_pred, if_pos, if_neg, ↓reduceIte, or_true, true_or, and_true, true_and, ne_eq, not_true_eq_false, not_false_eq_true, false_or, or_false, and_false, false_and, f_X9_faultAt, c_unitAt C.1 G.1 hu, x1, y0, y1, y2, y3]
        · have q4 := (T.2.1 u hu).2 j f hf
          have z0 : τ.1 40 0 (8 * u + j) = f.1 := by rw [← q4]
          have z1 : τ.1 41 0 (8 * u + j) = f.2.1 := by rw [← q4]
          have z2 : τ.1 42 0 (8 * u + j) = f.2.2.1 := by rw [← q4]
          have z3 : τ.1 43 0 (8 * u + j) = f.2.2.2 := by rw [← q4]
          have hk4 : k = 0 ∨ k = 1 ∨ k = 2 ∨ k = 3 := by omega
          rcases hk4 with rfl | rfl | rfl | rfl <;> simp (disch := omega) only [gd_t, gd_T, bx_some, bx_thr, bd_def, nx_in, ↓nO_eq, l0, l1, l2, l3, l4, l5, l6, l7, l8, l30, l50, l64, l100, l200, l448, l1200, iN_add, iN_lt, iN_le, iN_inj, iN_clamp, iN_inb, iN_nO, nO_iN, nO_lt, iN_ltm, iN_lem, nO_le, iN_pred, if_pos, if_neg, ↓reduceIte, or_true, true_or, and_true, true_and, ne_eq, not_true_eq_false, not_false_eq_true, false_or, or_false, and_false, false_and, f_X10_faultAt, m_isFault T.1 T.2.1 g6 hu g8 hj, b_inL (σ := τ) (m := 3), j_X10_faultAt_29, wr_rd, iN_mul, z0, z1, z2, z3]
      · have n0 := ne_lit h3 (by decide) (by decide : 0 < 4)
        have n1 := ne_lit h3 (by decide) (by decide : 1 < 4)
        have n2 := ne_lit h3 (by decide) (by decide : 2 < 4)
        have n3 := ne_lit h3 (by decide) (by decide : 3 < 4)
        refine ok_ex C R (k := 2) (E := "java/lang/IllegalArgumentException") ?_ wk2 (by decide) (thr_ok (fun τ T => ?_)) G W
        · simp (disch := omega) only [gd_t, gd_T, bx_some, bx_thr, bd_def, nx_in, ↓nO_eq, l0, l1, l2, l3, l4, l5, l6, l7, l8, l30, l50, l64, l100, l200, l448, l1200, iN_add, iN_lt, iN_le, iN_inj, iN_clamp, iN_inb, iN_nO, nO_iN, nO_lt, iN_ltm, iN_lem, nO_le, iN_pred, if_pos, if_neg, ↓reduceIte, or_true, true_or, and_true, true_and, ne_eq, not_true_eq_false, not_false_eq_true, false_or, or_false, and_false, false_and, f_X9_faultAt, c_unitAt C.1 G.1 hu, x1, n0, n1, n2, n3]
        · simp (disch := omega) only [gd_t, gd_T, bx_some, bx_thr, bd_def, nx_in, ↓nO_eq, l0, l1, l2, l3, l4, l5, l6, l7, l8, l30, l50, l64, l100, l200, l448, l1200, iN_add, iN_lt, iN_le, iN_inj, iN_clamp, iN_inb, iN_nO, nO_iN, nO_lt, iN_ltm, iN_lem, nO_le, iN_pred, if_pos, if_neg, ↓reduceIte, or_true, true_or, and_true, true_and, ne_eq, not_true_eq_false, not_false_eq_true, false_or, or_false, and_false, false_and, f_X10_faultAt, m_isFault T.1 T.2.1 g6 hu g8 hj, b_outL (σ := τ) (m := 3) (by decide) h3, j_X10_faultAt_29, wr_rd]
    · refine ok_ex C R (k := 1) (E := "java/lang/IndexOutOfBoundsException") ?_ wk1 (by decide) (thr_ok (fun τ T => ?_)) G W
      · simp (disch := omega) only [gd_t, gd_T, bx_some, bx_thr, bd_def, nx_in, ↓nO_eq, l0, l1, l2, l3, l4, l5, l6, l7, l8, l30, l50, l64, l100, l200, l448, l1200, iN_add, iN_lt, iN_le, iN_inj, iN_clamp, iN_inb, iN_nO, nO_iN, nO_lt, iN_ltm, iN_lem, nO_le, iN_pred, if_pos, if_neg, ↓reduceIte, or_true, true_or, and_true, true_and, ne_eq, not_true_eq_false, not_false_eq_true, false_or, or_false, and_false, false_and, f_X9_faultAt, c_unitAt C.1 G.1 hu, k_faultAt_no C.1 C.2.1 hu h2]
      · simp (disch := omega) only [gd_t, gd_T, bx_some, bx_thr, bd_def, nx_in, ↓nO_eq, l0, l1, l2, l3, l4, l5, l6, l7, l8, l30, l50, l64, l100, l200, l448, l1200, iN_add, iN_lt, iN_le, iN_inj, iN_clamp, iN_inb, iN_nO, nO_iN, nO_lt, iN_ltm, iN_lem, nO_le, iN_pred, if_pos, if_neg, ↓reduceIte, or_true, true_or, and_true, true_and, ne_eq, not_true_eq_false, not_false_eq_true, false_or, or_false, and_false, false_and, f_X10_faultAt, m_isFault_no T.1 T.2.1 g6 hu g8 h2, j_X10_faultAt_29, wr_rd]
  · refine ok_ex C R (k := 1) (E := "java/lang/IndexOutOfBoundsException") ?_ wk1 (by decide) (thr_ok (fun τ T => ?_)) G W
    · simp (disch := omega) only [gd_t, gd_T, bx_some, bx_thr, bd_def, nx_in, ↓nO_eq, l0, l1, l2, l3, l4, l5, l6, l7, l8, l30, l50, l64, l100, l200, l448, l1200, iN_add, iN_lt, iN_le, iN_inj, iN_clamp, iN_inb, iN_nO, nO_iN, nO_lt, iN_ltm, iN_lem, nO_le, iN_pred, if_pos, if_neg, ↓reduceIte, or_true, true_or, and_true, true_and, ne_eq, not_true_eq_false, not_false_eq_true, false_or, or_false, and_false, false_and, f_X9_faultAt, c_unitAt_no C.1 h1]
    · simp (disch := omega) only [gd_t, gd_T, bx_some, bx_thr, bd_def, nx_in, ↓nO_eq, l0, l1, l2, l3, l4, l5, l6, l7, l8, l30, l50, l64, l100, l200, l448, l1200, iN_add, iN_lt, iN_le, iN_inj, iN_clamp, iN_inb, iN_nO, nO_iN, nO_lt, iN_ltm, iN_lem, nO_le, iN_pred, if_pos, if_neg, ↓reduceIte, or_true, true_or, and_true, true_and, ne_eq, not_true_eq_false, not_false_eq_true, false_or, or_false, and_false, false_and, f_X10_faultAt, m_isFault_no2 T.1 g6 h1, j_X10_faultAt_29, wr_rd]
theorem st_ran {σ : Wd} (I : Inv σ) (w1 w2 : Int32) : ∃ σ', c_ran σ w1 w2 = some σ' ∧ Inv σ' := by
  obtain ⟨A, C, R, G, W⟩ := I
  have g7 := G.2.1
  have gT := G.2.2.1
  have S := C.2.2.2.2.2.2.1.1
  rcases rng w1 (nD A) (by omega) with ⟨d, hd, rfl⟩ | h1
  · rcases rng w2 (nT A) (by omega) with ⟨t, ht, rfl⟩ | h2
    · have hr : f_X9_checkRange σ (iN t) (iN 0) (iN (nT A) - iN 1) = some (.inl (), σ) := by
        simp (disch := omega) only [gd_t, gd_T, bx_some, bx_thr, bd_def, nx_in, ↓nO_eq, l0, l1, l2, l3, l4, l5, l6, l7, l8, l30, l50, l64, l100, l200, l448, l1200, iN_add, iN_lt, iN_le, iN_inj, iN_clamp, iN_inb, iN_nO, nO_iN, nO_lt, iN_ltm, iN_lem, nO_le, iN_pred, if_pos, if_neg, ↓reduceIte, or_true, true_or, and_true, true_and, ne_eq, not_true_eq_false, not_false_eq_true, false_or, or_false, and_false, false_and, f_X9_checkRange, iN_sub]
      refine ok_in R (CS.rf σ) (v := A.1 55 d t) ?_ C (ask_ok (fun τ T => ?_)) G W
      · have hg := C.2.2.2.2.2.2.2 d (by omega) t (by omega)
        have hc : t * 6 + d = 6 * t + d := by omega
        simp (disch := omega) only [gd_t, gd_T, bx_some, bx_thr, bd_def, nx_in, ↓nO_eq, l0, l1, l2, l3, l4, l5, l6, l7, l8, l30, l50, l64, l100, l200, l448, l1200, iN_add, iN_lt, iN_le, iN_inj, iN_clamp, iN_inb, iN_nO, nO_iN, nO_lt, iN_ltm, iN_lem, nO_le, iN_pred, if_pos, if_neg, ↓reduceIte, or_true, true_or, and_true, true_and, ne_eq, not_true_eq_false, not_false_eq_true, false_or, or_false, and_false, false_and, f_X9_ran, c_sz1 C.1, c_num (σ := σ) hd, S, hr, f_X4_unitThatRan, iN_mul, hc, hg]
      · have hg := T.2.2.2.2.2.2.1 d (by omega) t (by omega)
        have hT := T.1.2.2.1
        simp (disch := omega) only [gd_t, gd_T, bx_some, bx_thr, bd_def, nx_in, ↓nO_eq, l0, l1, l2, l3, l4, l5, l6, l7, l8, l30, l50, l64, l100, l200, l448, l1200, iN_add, iN_lt, iN_le, iN_inj, iN_clamp, iN_inb, iN_nO, nO_iN, nO_lt, iN_ltm, iN_lem, nO_le, iN_pred, if_pos, if_neg, ↓reduceIte, or_true, true_or, and_true, true_and, ne_eq, not_true_eq_false, not_false_eq_true, false_or, or_false, and_false, false_and, f_X10_ran, m_isDiagram T.1 G.2.1 hd, hT, b_in (σ := τ) ht, j_X10_ran_33, wr_rd, iN_mul, hg]
    · refine ok_ex C R (k := 2) (E := "java/lang/IllegalArgumentException") ?_ wk2 (by decide) (thr_ok (fun τ T => ?_)) G W
      · have hr : f_X9_checkRange σ w2 (iN 0) (iN (nT A) - iN 1) = some (.inr "java/lang/IllegalArgumentException", σ) := by
          rcases h2 with h | ⟨h, h2⟩
          · simp (disch := omega) only [gd_t, gd_T, bx_some, bx_thr, bd_def, nx_in, ↓nO_eq, l0, l1, l2, l3, l4, l5, l6, l7, l8, l30, l50, l64, l100, l200, l448, l1200, iN_add, iN_lt, iN_le, iN_inj, iN_clamp, iN_inb, iN_nO, nO_iN, nO_lt, iN_ltm, iN_lem, nO_le, iN_pred, if_pos, if_neg, ↓reduceIte, or_true, true_or, and_true, true_and, ne_eq, not_true_eq_false, not_false_eq_true, false_or, or_false, and_false, false_and, f_X9_checkRange, h]
          · have h3 : ¬ w2 ≤ iN (nT A) - iN 1 := le_not.mpr ((pred_lt (by omega) w2).mpr h2)
            simp (disch := omega) only [gd_t, gd_T, bx_some, bx_thr, bd_def, nx_in, ↓nO_eq, l0, l1, l2, l3, l4, l5, l6, l7, l8, l30, l50, l64, l100, l200, l448, l1200, iN_add, iN_lt, iN_le, iN_inj, iN_clamp, iN_inb, iN_nO, nO_iN, nO_lt, iN_ltm, iN_lem, nO_le, iN_pred, if_pos, if_neg, ↓reduceIte, or_true, true_or, and_true, true_and, ne_eq, not_true_eq_false, not_false_eq_true, false_or, or_false, and_false, false_and, f_X9_checkRange, h, h3]
        simp (disch := omega) only [gd_t, gd_T, bx_some, bx_thr, bd_def, nx_in, ↓nO_eq, l0, l1, l2, l3, l4, l5, l6, l7, l8, l30, l50, l64, l100, l200, l448, l1200, iN_add, iN_lt, iN_le, iN_inj, iN_clamp, iN_inb, iN_nO, nO_iN, nO_lt, iN_ltm, iN_lem, nO_le, iN_pred, if_pos, if_neg, ↓reduceIte, or_true, true_or, and_true, true_and, ne_eq, not_true_eq_false, not_false_eq_true, false_or, or_false, and_false, false_and, f_X9_ran, c_sz1 C.1, c_num (σ := σ) hd, S, hr]
      · have hT := T.1.2.2.1
        simp (disch := omega) only [gd_t, gd_T, bx_some, bx_thr, bd_def, nx_in, ↓nO_eq, l0, l1, l2, l3, l4, l5, l6, l7, l8, l30, l50, l64, l100, l200, l448, l1200, iN_add, iN_lt, iN_le, iN_inj, iN_clamp, iN_inb, iN_nO, nO_iN, nO_lt, iN_ltm, iN_lem, nO_le, iN_pred, if_pos, if_neg, ↓reduceIte, or_true, true_or, and_true, true_and, ne_eq, not_true_eq_false, not_false_eq_true, false_or, or_false, and_false, false_and, f_X10_ran, m_isDiagram T.1 G.2.1 hd, hT, b_out (σ := τ) (by omega : nT A < 2147483648) h2, j_X10_ran_33, wr_rd]
  · refine ok_ex C R (k := 1) (E := "java/lang/IndexOutOfBoundsException") ?_ wk1 (by decide) (thr_ok (fun τ T => ?_)) G W
    · simp (disch := omega) only [gd_t, gd_T, bx_some, bx_thr, bd_def, nx_in, ↓nO_eq, l0, l1, l2, l3, l4, l5, l6, l7, l8, l30, l50, l64, l100, l200, l448, l1200, iN_add, iN_lt, iN_le, iN_inj, iN_clamp, iN_inb, iN_nO, nO_iN, nO_lt, iN_ltm, iN_lem, nO_le, iN_pred, if_pos, if_neg, ↓reduceIte, or_true, true_or, and_true, true_and, ne_eq, not_true_eq_false, not_false_eq_true, false_or, or_false, and_false, false_and, f_X9_ran, c_sz1 C.1, c_num_no h1]
    · simp (disch := omega) only [gd_t, gd_T, bx_some, bx_thr, bd_def, nx_in, ↓nO_eq, l0, l1, l2, l3, l4, l5, l6, l7, l8, l30, l50, l64, l100, l200, l448, l1200, iN_add, iN_lt, iN_le, iN_inj, iN_clamp, iN_inb, iN_nO, nO_iN, nO_lt, iN_ltm, iN_lem, nO_le, iN_pred, if_pos, if_neg, ↓reduceIte, or_true, true_or, and_true, true_and, ne_eq, not_true_eq_false, not_false_eq_true, false_or, or_false, and_false, false_and, f_X10_ran, m_isDiagram_no T.1 G.2.1 h1, j_X10_ran_33, wr_rd]
