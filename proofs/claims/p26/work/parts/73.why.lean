/-! why -/
theorem w_due1 {σ : Wd} {A : Ab} (B : RB σ A) (g4 : GxN A) {u d : Nat} (hu : u < 4) (hd : d < 3) (T : Int32) {k : Nat} (hk : k < 3) (n : Nat) : l_L_why_30 (n + 1) σ (iN k) (iN (6 * d)) (iN (16 * u)) (iN u) T = if due A u (A.1 46 d 0) k = true then some (.inl (iN 2), σ) else l_L_why_30 n σ (iN (k + 1)) (iN (6 * d)) (iN (16 * u)) (iN u) T := by
  obtain ⟨U, F, R, D, E1, E2⟩ := B
  obtain ⟨e0, e1, e2⟩ := E1 k hk
  have u5 := (U u (by rw [g4.1]; exact hu)).2.2.2.1 k hk
  have u6 := (U u (by rw [g4.1]; exact hu)).2.2.2.2.1 k hk
  have d2 := (D d (by rw [g4.2]; exact hd)).2.2.1
  unfold due bnd
  by_cases h1 : A.1 50 k 0 + A.1 50 k 0 * A.1 51 k 0 / iN 100 < A.1 35 u k + A.1 46 d 0
  · simp (disch := omega) only [gd_t, gd_T, bx_some, bx_thr, bd_def, nx_in, ↓nO_eq, l0, l1, l2, l3, l4, l5, l6, l7, l8, l9, l10, l12, l13, l16, l17, l18, l25, l30, l32, l33, l50, l64, l100, l200, l448, l1200, iN_add, iN_lt, iN_le, iN_inj, iN_clamp, iN_inb, iN_nO, nO_iN, nO_lt, iN_ltm, iN_lem, nO_le, iN_pred, if_pos, if_neg, ↓reduceIte, or_true, true_or, and_true, true_and, ne_eq, not_true_eq_false, not_false_eq_true, false_or, or_false, and_false, false_and, l_L_why_30, iN_mul, u5, u6, d2, e0, e1, e2, h1, decide_true, Bool.true_or]
  · by_cases h2 : A.1 36 u k ≤ A.1 52 k 0
    · simp (disch := omega) only [gd_t, gd_T, bx_some, bx_thr, bd_def, nx_in, ↓nO_eq, l0, l1, l2, l3, l4, l5, l6, l7, l8, l9, l10, l12, l13, l16, l17, l18, l25, l30, l32, l33, l50, l64, l100, l200, l448, l1200, iN_add, iN_lt, iN_le, iN_inj, iN_clamp, iN_inb, iN_nO, nO_iN, nO_lt, iN_ltm, iN_lem, nO_le, iN_pred, if_pos, if_neg, ↓reduceIte, or_true, true_or, and_true, true_and, ne_eq, not_true_eq_false, not_false_eq_true, false_or, or_false, and_false, false_and, l_L_why_30, iN_mul, u5, u6, d2, e0, e1, e2, h1, h2, lt_not.mpr h2, decide_false, Bool.false_or, Bool.false_eq_true]
    · simp (disch := omega) only [gd_t, gd_T, bx_some, bx_thr, bd_def, nx_in, ↓nO_eq, l0, l1, l2, l3, l4, l5, l6, l7, l8, l9, l10, l12, l13, l16, l17, l18, l25, l30, l32, l33, l50, l64, l100, l200, l448, l1200, iN_add, iN_lt, iN_le, iN_inj, iN_clamp, iN_inb, iN_nO, nO_iN, nO_lt, iN_ltm, iN_lem, nO_le, iN_pred, if_pos, if_neg, ↓reduceIte, or_true, true_or, and_true, true_and, ne_eq, not_true_eq_false, not_false_eq_true, false_or, or_false, and_false, false_and, l_L_why_30, iN_mul, u5, u6, d2, e0, e1, e2, h1, h2, le_not.mp h2, decide_true, decide_false, Bool.false_or]
theorem w_due {σ : Wd} {A : Ab} (B : RB σ A) (g4 : GxN A) {u d : Nat} (hu : u < 4) (hd : d < 3) (T : Int32) : l_L_why_30 FU σ (iN 0) (iN (6 * d)) (iN (16 * u)) (iN u) T = if dueS A u (A.1 46 d 0) = true then some (.inl (iN 2), σ) else l_L_why_120 FU σ (iN (8 * u)) (iN 0) (iN 0) (iN (6 * d)) (iN (16 * u)) (iN u) T := by
  obtain ⟨m, hm⟩ := FU_ge 4 (by decide)
  have h3 : l_L_why_30 (m + 1) σ (iN 3) (iN (6 * d)) (iN (16 * u)) (iN u) T = l_L_why_120 FU σ (iN (8 * u)) (iN 0) (iN 0) (iN (6 * d)) (iN (16 * u)) (iN u) T := by
    simp (disch := omega) only [gd_t, gd_T, bx_some, bx_thr, bd_def, nx_in, ↓nO_eq, l0, l1, l2, l3, l4, l5, l6, l7, l8, l9, l10, l12, l13, l16, l17, l18, l25, l30, l32, l33, l50, l64, l100, l200, l448, l1200, iN_add, iN_lt, iN_le, iN_inj, iN_clamp, iN_inb, iN_nO, nO_iN, nO_lt, iN_ltm, iN_lem, nO_le, iN_pred, if_pos, if_neg, ↓reduceIte, or_true, true_or, and_true, true_and, ne_eq, not_true_eq_false, not_false_eq_true, false_or, or_false, and_false, false_and, l_L_why_30, iN_mul]
  rw [show l_L_why_30 FU σ (iN 0) (iN (6 * d)) (iN (16 * u)) (iN u) T = l_L_why_30 (m + 4) σ (iN 0) (iN (6 * d)) (iN (16 * u)) (iN u) T by rw [hm], w_due1 B g4 hu hd T (by decide : 0 < 3), w_due1 B g4 hu hd T (by decide : 1 < 3), w_due1 B g4 hu hd T (by decide : 2 < 3), h3]
  unfold dueS
  cases due A u (A.1 46 d 0) 0 <;> cases due A u (A.1 46 d 0) 1 <;> cases due A u (A.1 46 d 0) 2 <;> rfl
theorem w_worn1 {σ : Wd} {A : Ab} (B : RB σ A) (g4 : GxN A) {u : Nat} (hu : u < 4) {k : Nat} (hk : k < 4) (n : Nat) (a b : Int32) : l_L_why_290 (n + 1) σ (iN (2 + k)) a b (iN (16 * u)) = l_L_why_290 n σ (iN (2 + (k + 1))) (mx a (A.1 34 u k)) (mn b (A.1 34 u k)) (iN (16 * u)) := by
  have a1 := (B.1 u (by rw [g4.1]; exact hu)).2.2.1 k hk
  rw [show 16 * u + 2 + k = 16 * u + (2 + k) by omega] at a1
  have hj1 : 2 + k + 1 = 2 + (k + 1) := rfl
  unfold mx mn
  by_cases h1 : b ≤ A.1 34 u k
  · by_cases h2 : A.1 34 u k ≤ a
    · simp (disch := omega) only [gd_t, gd_T, bx_some, bx_thr, bd_def, nx_in, ↓nO_eq, l0, l1, l2, l3, l4, l5, l6, l7, l8, l9, l10, l12, l13, l16, l17, l18, l25, l30, l32, l33, l50, l64, l100, l200, l448, l1200, iN_add, iN_lt, iN_le, iN_inj, iN_clamp, iN_inb, iN_nO, nO_iN, nO_lt, iN_ltm, iN_lem, nO_le, iN_pred, if_pos, if_neg, ↓reduceIte, or_true, true_or, and_true, true_and, ne_eq, not_true_eq_false, not_false_eq_true, false_or, or_false, and_false, false_and, l_L_why_290, j_L_why_321, iN_mul, a1, h1, h2, lt_not.mpr h1, lt_not.mpr h2, hj1]
    · simp (disch := omega) only [gd_t, gd_T, bx_some, bx_thr, bd_def, nx_in, ↓nO_eq, l0, l1, l2, l3, l4, l5, l6, l7, l8, l9, l10, l12, l13, l16, l17, l18, l25, l30, l32, l33, l50, l64, l100, l200, l448, l1200, iN_add, iN_lt, iN_le, iN_inj, iN_clamp, iN_inb, iN_nO, nO_iN, nO_lt, iN_ltm, iN_lem, nO_le, iN_pred, if_pos, if_neg, ↓reduceIte, or_true, true_or, and_true, true_and, ne_eq, not_true_eq_false, not_false_eq_true, false_or, or_false, and_false, false_and, l_L_why_290, j_L_why_321, iN_mul, a1, h1, h2, lt_not.mpr h1, le_not.mp h2, hj1]
  · by_cases h2 : A.1 34 u k ≤ a
    · simp (disch := omega) only [gd_t, gd_T, bx_some, bx_thr, bd_def, nx_in, ↓nO_eq, l0, l1, l2, l3, l4, l5, l6, l7, l8, l9, l10, l12, l13, l16, l17, l18, l25, l30, l32, l33, l50, l64, l100, l200, l448, l1200, iN_add, iN_lt, iN_le, iN_inj, iN_clamp, iN_inb, iN_nO, nO_iN, nO_lt, iN_ltm, iN_lem, nO_le, iN_pred, if_pos, if_neg, ↓reduceIte, or_true, true_or, and_true, true_and, ne_eq, not_true_eq_false, not_false_eq_true, false_or, or_false, and_false, false_and, l_L_why_290, j_L_why_321, iN_mul, a1, h1, h2, le_not.mp h1, lt_not.mpr h2, hj1]
    · simp (disch := omega) only [gd_t, gd_T, bx_some, bx_thr, bd_def, nx_in, ↓nO_eq, l0, l1, l2, l3, l4, l5, l6, l7, l8, l9, l10, l12, l13, l16, l17, l18, l25, l30, l32, l33, l50, l64, l100, l200, l448, l1200, iN_add, iN_lt, iN_le, iN_inj, iN_clamp, iN_inb, iN_nO, nO_iN, nO_lt, iN_ltm, iN_lem, nO_le, iN_pred, if_pos, if_neg, ↓reduceIte, or_true, true_or, and_true, true_and, ne_eq, not_true_eq_false, not_false_eq_true, false_or, or_false, and_false, false_and, l_L_why_290, j_L_why_321, iN_mul, a1, h1, h2, le_not.mp h1, le_not.mp h2, hj1]
theorem w_worn {σ : Wd} {A : Ab} (B : RB σ A) (g4 : GxN A) {t : Nat} (ht : t ≤ 60) (gk : Gxk A t) {u : Nat} (hu : u < 4) : l_L_why_290 FU σ (iN 2) (-1000000) (iN 1000) (iN (16 * u)) = some (.inl (if wornS A u = true then iN 5 else iN 0), σ) := by
  obtain ⟨m, hm⟩ := FU_ge 5 (by decide)
  obtain ⟨z, z1, z2, z3⟩ := (gk u hu).2.1 0 (by decide)
  have b1 : mx (-1000000) (A.1 34 u 0) = A.1 34 u 0 := by
    unfold mx
    rw [z3, show (-1000000 : Int32) = iZ (-1000000) by decide]
    exact if_pos ((iZ_lt (by omega) (by omega) (by omega) (by omega)).mpr (by omega))
  have b2 : mn (iN 1000) (A.1 34 u 0) = A.1 34 u 0 := by
    unfold mn
    rw [z3, iZ_iN]
    exact if_pos ((iZ_lt (by omega) (by omega) (by omega) (by omega)).mpr (by omega))
  rw [hm]
  have h0 := w_worn1 B g4 hu (by decide : 0 < 4) (m + 4) (-1000000) (iN 1000)
  rw [b1, b2] at h0
  refine h0.trans ((w_worn1 B g4 hu (by decide : 1 < 4) (m + 3) _ _).trans ((w_worn1 B g4 hu (by decide : 2 < 4) (m + 2) _ _).trans ((w_worn1 B g4 hu (by decide : 3 < 4) (m + 1) _ _).trans ?_)))
  change l_L_why_290 (m + 1) σ (iN 6) (hi4 (A.1 34 u)) (lo4 (A.1 34 u)) (iN (16 * u)) = _
  unfold wornS
  by_cases h1 : iN 6 < hi4 (A.1 34 u) - lo4 (A.1 34 u)
  · simp (disch := omega) only [gd_t, gd_T, bx_some, bx_thr, bd_def, nx_in, ↓nO_eq, l0, l1, l2, l3, l4, l5, l6, l7, l8, l9, l10, l12, l13, l16, l17, l18, l25, l30, l32, l33, l50, l64, l100, l200, l448, l1200, iN_add, iN_lt, iN_le, iN_inj, iN_clamp, iN_inb, iN_nO, nO_iN, nO_lt, iN_ltm, iN_lem, nO_le, iN_pred, if_pos, if_neg, ↓reduceIte, or_true, true_or, and_true, true_and, ne_eq, not_true_eq_false, not_false_eq_true, false_or, or_false, and_false, false_and, l_L_why_290, iN_mul, h1, decide_true, Bool.true_or]
  · by_cases h2 : 800 ≤ lo4 (A.1 34 u)
    · simp (disch := omega) only [gd_t, gd_T, bx_some, bx_thr, bd_def, nx_in, ↓nO_eq, l0, l1, l2, l3, l4, l5, l6, l7, l8, l9, l10, l12, l13, l16, l17, l18, l25, l30, l32, l33, l50, l64, l100, l200, l448, l1200, iN_add, iN_lt, iN_le, iN_inj, iN_clamp, iN_inb, iN_nO, nO_iN, nO_lt, iN_ltm, iN_lem, nO_le, iN_pred, if_pos, if_neg, ↓reduceIte, or_true, true_or, and_true, true_and, ne_eq, not_true_eq_false, not_false_eq_true, false_or, or_false, and_false, false_and, l_L_why_290, iN_mul, h1, h2, lt_not.mpr h2, decide_false, Bool.or_self, Bool.false_eq_true]
    · simp (disch := omega) only [gd_t, gd_T, bx_some, bx_thr, bd_def, nx_in, ↓nO_eq, l0, l1, l2, l3, l4, l5, l6, l7, l8, l9, l10, l12, l13, l16, l17, l18, l25, l30, l32, l33, l50, l64, l100, l200, l448, l1200, iN_add, iN_lt, iN_le, iN_inj, iN_clamp, iN_inb, iN_nO, nO_iN, nO_lt, iN_ltm, iN_lem, nO_le, iN_pred, if_pos, if_neg, ↓reduceIte, or_true, true_or, and_true, true_and, ne_eq, not_true_eq_false, not_false_eq_true, false_or, or_false, and_false, false_and, l_L_why_290, iN_mul, h1, h2, le_not.mp h2, decide_false, decide_true, Bool.false_or]
theorem wy_206 {σ : Wd} {A : Ab} (B : RB σ A) (g4 : GxN A) {u j : Nat} (hu : u < 4) {f : Fa} (hf : (fl A u)[j]? = some f) (hj : j < 8) (k120 : Wd → Int32 → Int32 → Int32 → Int32 → Int32 → Int32 → Int32 → Option ((Int32 ⊕ String) × Wd)) (bad : Bool) (x y a9 a8 a5 a7 : Int32) : j_L_why_206 k120 σ (iN (8 * u + j)) (bI bad) a9 a8 a5 a7 x y = k120 σ (iN (8 * u + (j + 1))) (bI (bad || grave f)) (y + x) a9 a8 a5 a7 := by
  obtain ⟨f0, f1, f2, f3⟩ := B.2.1 u (by rw [g4.1]; exact hu) j f hf
  have hg : grave f = (decide (f.1 = iN 0) && decide (iN 4 < f.2.2.2) || decide (f.1 = iN 2) && decide (iN 50 < f.2.2.2)) := rfl
  have n20 : ¬ iN 2 = iN 0 := by decide
  have n02 : ¬ iN 0 = iN 2 := by decide
  have hj1 : 8 * u + j + 1 = 8 * u + (j + 1) := rfl
  rw [hg]
  cases bad
  · by_cases h0 : f.1 = iN 0
    · by_cases h1 : iN 4 < f.2.2.2
      · simp (disch := omega) only [gd_t, gd_T, bx_some, bx_thr, bd_def, nx_in, ↓nO_eq, l0, l1, l2, l3, l4, l5, l6, l7, l8, l9, l10, l12, l13, l16, l17, l18, l25, l30, l32, l33, l50, l64, l100, l200, l448, l1200, iN_add, iN_lt, iN_le, iN_inj, iN_clamp, iN_inb, iN_nO, nO_iN, nO_lt, iN_ltm, iN_lem, nO_le, iN_pred, if_pos, if_neg, ↓reduceIte, or_true, true_or, and_true, true_and, ne_eq, not_true_eq_false, not_false_eq_true, false_or, or_false, and_false, false_and, j_L_why_206, j_L_why_232, f0, f3, h0, h1, bI_f, bI_t, hj1, decide_true, Bool.true_and, Bool.true_or, Bool.or_true]
      · simp (disch := omega) only [gd_t, gd_T, bx_some, bx_thr, bd_def, nx_in, ↓nO_eq, l0, l1, l2, l3, l4, l5, l6, l7, l8, l9, l10, l12, l13, l16, l17, l18, l25, l30, l32, l33, l50, l64, l100, l200, l448, l1200, iN_add, iN_lt, iN_le, iN_inj, iN_clamp, iN_inb, iN_nO, nO_iN, nO_lt, iN_ltm, iN_lem, nO_le, iN_pred, if_pos, if_neg, ↓reduceIte, or_true, true_or, and_true, true_and, ne_eq, not_true_eq_false, not_false_eq_true, false_or, or_false, and_false, false_and, j_L_why_206, j_L_why_232, f0, f3, h0, h1, n02, bI_f, bI_t, hj1, decide_true, decide_false, Bool.and_false, Bool.false_and, Bool.false_or]
    · by_cases h2 : f.1 = iN 2
      · by_cases h3 : f.2.2.2 ≤ iN 50
        · simp (disch := omega) only [gd_t, gd_T, bx_some, bx_thr, bd_def, nx_in, ↓nO_eq, l0, l1, l2, l3, l4, l5, l6, l7, l8, l9, l10, l12, l13, l16, l17, l18, l25, l30, l32, l33, l50, l64, l100, l200, l448, l1200, iN_add, iN_lt, iN_le, iN_inj, iN_clamp, iN_inb, iN_nO, nO_iN, nO_lt, iN_ltm, iN_lem, nO_le, iN_pred, if_pos, if_neg, ↓reduceIte, or_true, true_or, and_true, true_and, ne_eq, not_true_eq_false, not_false_eq_true, false_or, or_false, and_false, false_and, j_L_why_206, j_L_why_232, f0, f3, h2, h3, n20, lt_not.mpr h3, bI_f, bI_t, hj1, decide_true, decide_false, Bool.and_false, Bool.false_and, Bool.false_or]
        · simp (disch := omega) only [gd_t, gd_T, bx_some, bx_thr, bd_def, nx_in, ↓nO_eq, l0, l1, l2, l3, l4, l5, l6, l7, l8, l9, l10, l12, l13, l16, l17, l18, l25, l30, l32, l33, l50, l64, l100, l200, l448, l1200, iN_add, iN_lt, iN_le, iN_inj, iN_clamp, iN_inb, iN_nO, nO_iN, nO_lt, iN_ltm, iN_lem, nO_le, iN_pred, if_pos, if_neg, ↓reduceIte, or_true, true_or, and_true, true_and, ne_eq, not_true_eq_false, not_false_eq_true, false_or, or_false, and_false, false_and, j_L_why_206, j_L_why_232, f0, f3, h2, h3, n20, le_not.mp h3, bI_f, bI_t, hj1, decide_true, decide_false, Bool.and_true, Bool.false_and, Bool.false_or]
      · simp (disch := omega) only [gd_t, gd_T, bx_some, bx_thr, bd_def, nx_in, ↓nO_eq, l0, l1, l2, l3, l4, l5, l6, l7, l8, l9, l10, l12, l13, l16, l17, l18, l25, l30, l32, l33, l50, l64, l100, l200, l448, l1200, iN_add, iN_lt, iN_le, iN_inj, iN_clamp, iN_inb, iN_nO, nO_iN, nO_lt, iN_ltm, iN_lem, nO_le, iN_pred, if_pos, if_neg, ↓reduceIte, or_true, true_or, and_true, true_and, ne_eq, not_true_eq_false, not_false_eq_true, false_or, or_false, and_false, false_and, j_L_why_206, j_L_why_232, f0, f3, h0, h2, bI_f, bI_t, hj1, decide_true, decide_false, Bool.and_false, Bool.false_and, Bool.false_or]
  · have n10 : ¬ iN 1 = iN 0 := by decide
    simp (disch := omega) only [gd_t, gd_T, bx_some, bx_thr, bd_def, nx_in, ↓nO_eq, l0, l1, l2, l3, l4, l5, l6, l7, l8, l9, l10, l12, l13, l16, l17, l18, l25, l30, l32, l33, l50, l64, l100, l200, l448, l1200, iN_add, iN_lt, iN_le, iN_inj, iN_clamp, iN_inb, iN_nO, nO_iN, nO_lt, iN_ltm, iN_lem, nO_le, iN_pred, if_pos, if_neg, ↓reduceIte, or_true, true_or, and_true, true_and, ne_eq, not_true_eq_false, not_false_eq_true, false_or, or_false, and_false, false_and, j_L_why_206, j_L_why_232, f0, bI_t, n10, hj1, Bool.true_or]
theorem w_badL {σ : Wd} {A : Ab} (B : RB σ A) (g4 : GxN A) {t : Nat} (ht : t ≤ 60) (gk : Gxk A t) (ge : Gxe A) (G : Gd A) {u d : Nat} (hu : u < 4) (hd : d < 3) : ∀ (n k j c : Nat) (bad : Bool), (fl A u).length - j = k → k < n → j ≤ 8 → c ≤ j → l_L_why_120 n σ (iN (8 * u + j)) (bI bad) (iN c) (iN (6 * d)) (iN (16 * u)) (iN u) (iN (nT A)) = some (.inl (if ((fl A u).drop j).any (barF A (A.1 47 d 0)) = true then iN 3 else if (bad || ((fl A u).drop j).any grave || decide (2 ≤ c + ((fl A u).drop j).countP door)) = true then iN 4 else if wornS A u = true then iN 5 else iN 0), σ)
  | n + 1, k, j, c, bad, hk, hn, hj8, hc => by
    have huA : u < nU A := by rw [g4.1]; exact hu
    have g8 := (G.2.2.2.1 u huA).1
    have q1 := (B.1 u huA).2.2.2.2.2
    have d3 := (B.2.2.2.1 d (by rw [g4.2]; exact hd)).2.2.2.1
    rcases at_or (fl A u) j with ⟨f, hf, hl⟩ | hl
    · obtain ⟨f0, f1, f2, f3⟩ := B.2.1 u huA j f hf
      obtain ⟨⟨κ, hκ, hκ2⟩, _⟩ := (G.2.2.2.1 u huA).2 f (List.mem_of_getElem? hf)
      obtain ⟨e0, e1⟩ := B.2.2.2.2.2 κ hκ
      have hb : barF A (A.1 47 d 0) f = (decide (A.1 53 κ 0 = nO) || decide (A.1 53 κ 0 < iN (nT A) - f.2.1) || decide (A.1 54 κ 0 < A.1 47 d 0)) := by
        unfold barF
        rw [hκ2, iN_clamp (by omega)]
      have hm : (A.1 53 κ 0 < iN 0) ↔ A.1 53 κ 0 = nO := by
        rcases ge.2 κ hκ with h | ⟨m, hm1, hm2⟩
        · rw [h]; decide
        · rw [hm2, iN_lt (by omega) (by decide), iN_nO (by omega)]
          simp
      have ih := fun bad c (h : c ≤ j + 1) => w_badL B g4 ht gk ge G hu hd n ((fl A u).length - (j + 1)) (j + 1) c bad rfl (by omega) (by omega) h
      rw [drop_at hf, List.any_cons, List.any_cons, List.countP_cons, hb]
      have hdoor : door f = decide (f.1 = iN 1) := rfl
      rw [hκ2] at f0
      by_cases h1 : A.1 53 κ 0 = nO
      · have h1' := hm.mpr h1
        simp (disch := omega) only [gd_t, gd_T, bx_some, bx_thr, bd_def, nx_in, ↓nO_eq, l0, l1, l2, l3, l4, l5, l6, l7, l8, l9, l10, l12, l13, l16, l17, l18, l25, l30, l32, l33, l50, l64, l100, l200, l448, l1200, iN_add, iN_lt, iN_le, iN_inj, iN_clamp, iN_inb, iN_nO, nO_iN, nO_lt, iN_ltm, iN_lem, nO_le, iN_pred, if_pos, if_neg, ↓reduceIte, or_true, true_or, and_true, true_and, ne_eq, not_true_eq_false, not_false_eq_true, false_or, or_false, and_false, false_and, l_L_why_120, iN_mul, q1, f0, e0, h1', h1, decide_true, Bool.true_or]
      · have h1' : ¬ A.1 53 κ 0 < iN 0 := fun z => h1 (hm.mp z)
        by_cases h2 : A.1 53 κ 0 < iN (nT A) - f.2.1
        · simp (disch := omega) only [gd_t, gd_T, bx_some, bx_thr, bd_def, nx_in, ↓nO_eq, l0, l1, l2, l3, l4, l5, l6, l7, l8, l9, l10, l12, l13, l16, l17, l18, l25, l30, l32, l33, l50, l64, l100, l200, l448, l1200, iN_add, iN_lt, iN_le, iN_inj, iN_clamp, iN_inb, iN_nO, nO_iN, nO_lt, iN_ltm, iN_lem, nO_le, iN_pred, if_pos, if_neg, ↓reduceIte, or_true, true_or, and_true, true_and, ne_eq, not_true_eq_false, not_false_eq_true, false_or, or_false, and_false, false_and, l_L_why_120, iN_mul, q1, f0, f1, e0, h1', h1, h2, decide_true, decide_false, Bool.true_or, Bool.or_true]
        · by_cases h3 : A.1 47 d 0 ≤ A.1 54 κ 0
          · have hj' : j < 8 := by omega
            have key : ∀ (x : Nat), x ≤ 1 → (if door f = true then 1 else 0) = x → j_L_why_206 (l_L_why_120 n) σ (iN (8 * u + j)) (bI bad) (iN (6 * d)) (iN (16 * u)) (iN u) (iN (nT A)) (iN x) (iN c) = some (.inl (if (((false || false) || false) || ((fl A u).drop (j + 1)).any (barF A (A.1 47 d 0))) = true then iN 3 else if (bad || (grave f || ((fl A u).drop (j + 1)).any grave) || decide (2 ≤ c + (((fl A u).drop (j + 1)).countP door + x))) = true then iN 4 else if wornS A u = true then iN 5 else iN 0), σ) := fun x hx hx2 => by
              rw [wy_206 B g4 hu hf hj' (l_L_why_120 n) bad, iN_add, ih (bad || grave f) (c + x) (by omega)]
              rw [Bool.or_assoc bad (grave f), Nat.add_assoc c x, Nat.add_comm x]
              simp only [Bool.false_or]
            by_cases hdr : κ = 1
            · subst hdr
              have hdf : door f = true := by rw [hdoor, hκ2]; decide
              have := key 1 (by decide) (by rw [hdf]; rfl)
              simp (disch := omega) only [gd_t, gd_T, bx_some, bx_thr, bd_def, nx_in, ↓nO_eq, l0, l1, l2, l3, l4, l5, l6, l7, l8, l9, l10, l12, l13, l16, l17, l18, l25, l30, l32, l33, l50, l64, l100, l200, l448, l1200, iN_add, iN_lt, iN_le, iN_inj, iN_clamp, iN_inb, iN_nO, nO_iN, nO_lt, iN_ltm, iN_lem, nO_le, iN_pred, if_pos, if_neg, ↓reduceIte, or_true, true_or, and_true, true_and, ne_eq, not_true_eq_false, not_false_eq_true, false_or, or_false, and_false, false_and, l_L_why_120, iN_mul, q1, f0, f1, e0, e1, d3, h1', h1, h2, h3, lt_not.mpr h3, decide_false, this, hdf]
            · have hdn : ¬ iN κ = iN 1 := by rw [iN_inj (by omega) (by decide)]; exact hdr
              have hdf : door f = false := by rw [hdoor, hκ2]; exact decide_eq_false hdn
              have := key 0 (by decide) (by rw [hdf]; rfl)
              simp (disch := omega) only [gd_t, gd_T, bx_some, bx_thr, bd_def, nx_in, ↓nO_eq, l0, l1, l2, l3, l4, l5, l6, l7, l8, l9, l10, l12, l13, l16, l17, l18, l25, l30, l32, l33, l50, l64, l100, l200, l448, l1200, iN_add, iN_lt, iN_le, iN_inj, iN_clamp, iN_inb, iN_nO, nO_iN, nO_lt, iN_ltm, iN_lem, nO_le, iN_pred, if_pos, if_neg, ↓reduceIte, or_true, true_or, and_true, true_and, ne_eq, not_true_eq_false, not_false_eq_true, false_or, or_false, and_false, false_and, l_L_why_120, iN_mul, q1, f0, f1, e0, e1, d3, h1', h1, h2, h3, lt_not.mpr h3, decide_false, this, hdf, hdn, hdr, Bool.false_eq_true]
          · simp (disch := omega) only [gd_t, gd_T, bx_some, bx_thr, bd_def, nx_in, ↓nO_eq, l0, l1, l2, l3, l4, l5, l6, l7, l8, l9, l10, l12, l13, l16, l17, l18, l25, l30, l32, l33, l50, l64, l100, l200, l448, l1200, iN_add, iN_lt, iN_le, iN_inj, iN_clamp, iN_inb, iN_nO, nO_iN, nO_lt, iN_ltm, iN_lem, nO_le, iN_pred, if_pos, if_neg, ↓reduceIte, or_true, true_or, and_true, true_and, ne_eq, not_true_eq_false, not_false_eq_true, false_or, or_false, and_false, false_and, l_L_why_120, iN_mul, q1, f0, f1, e0, e1, d3, h1', h1, h2, h3, le_not.mp h3, decide_true, decide_false, Bool.true_or, Bool.or_true, Bool.or_self]
    · rw [List.drop_eq_nil_of_le hl, List.any_nil, List.any_nil, Bool.or_false, List.countP_nil]
      have hw := w_worn B g4 ht gk hu
      have hw' : l_L_why_290 FU σ (iN 2) (-1000000) 1000 (iN (16 * u)) = some (.inl (if wornS A u = true then iN 5 else iN 0), σ) := hw
      have n10 : ¬ iN 1 = iN 0 := by decide
      cases bad
      · by_cases h2 : c ≤ 1
        · have h3 : ¬ 2 ≤ c := by omega
          simp (disch := omega) only [gd_t, gd_T, bx_some, bx_thr, bd_def, nx_in, ↓nO_eq, l0, l1, l2, l3, l4, l5, l6, l7, l8, l9, l10, l12, l13, l16, l17, l18, l25, l30, l32, l33, l50, l64, l100, l200, l448, l1200, iN_add, iN_lt, iN_le, iN_inj, iN_clamp, iN_inb, iN_nO, nO_iN, nO_lt, iN_ltm, iN_lem, nO_le, iN_pred, if_pos, if_neg, ↓reduceIte, or_true, true_or, and_true, true_and, ne_eq, not_true_eq_false, not_false_eq_true, false_or, or_false, and_false, false_and, l_L_why_120, iN_mul, q1, bI_f, Nat.add_zero, h3, decide_false, Bool.or_self, hw', Bool.false_eq_true]
        · have h3 : 2 ≤ c := by omega
          simp (disch := omega) only [gd_t, gd_T, bx_some, bx_thr, bd_def, nx_in, ↓nO_eq, l0, l1, l2, l3, l4, l5, l6, l7, l8, l9, l10, l12, l13, l16, l17, l18, l25, l30, l32, l33, l50, l64, l100, l200, l448, l1200, iN_add, iN_lt, iN_le, iN_inj, iN_clamp, iN_inb, iN_nO, nO_iN, nO_lt, iN_ltm, iN_lem, nO_le, iN_pred, if_pos, if_neg, ↓reduceIte, or_true, true_or, and_true, true_and, ne_eq, not_true_eq_false, not_false_eq_true, false_or, or_false, and_false, false_and, l_L_why_120, iN_mul, q1, bI_f, Nat.add_zero, h3, decide_true, Bool.false_or, Bool.false_eq_true]
      · simp (disch := omega) only [gd_t, gd_T, bx_some, bx_thr, bd_def, nx_in, ↓nO_eq, l0, l1, l2, l3, l4, l5, l6, l7, l8, l9, l10, l12, l13, l16, l17, l18, l25, l30, l32, l33, l50, l64, l100, l200, l448, l1200, iN_add, iN_lt, iN_le, iN_inj, iN_clamp, iN_inb, iN_nO, nO_iN, nO_lt, iN_ltm, iN_lem, nO_le, iN_pred, if_pos, if_neg, ↓reduceIte, or_true, true_or, and_true, true_and, ne_eq, not_true_eq_false, not_false_eq_true, false_or, or_false, and_false, false_and, l_L_why_120, iN_mul, q1, bI_t, n10, Bool.true_or, Bool.false_eq_true]
theorem w_why {σ : Wd} {A : Ab} (B : RB σ A) (g4 : GxN A) {t : Nat} (ht : t ≤ 60) (gk : Gxk A t) (ge : Gxe A) (G : Gd A) {u d : Nat} (hu : u < 4) (hd : d < 3) : f_L_why σ (iN u) (iN d) (iN (nT A)) = some (.inl (rsn A u d), σ) := by
  have huA : u < nU A := by rw [g4.1]; exact hu
  have u0 := (B.1 u huA).1
  have d0 := (B.2.2.2.1 d (by rw [g4.2]; exact hd)).1
  have g8 := (G.2.2.2.1 u huA).1
  have hb := w_badL B g4 ht gk ge G hu hd FU _ 0 0 false rfl (by unfold FU; omega) (by decide) (by decide)
  rw [List.drop_zero, Bool.false_or, Nat.zero_add, Nat.add_zero, bI_f] at hb
  have hd' := w_due B g4 hu hd (iN (nT A))
  rw [hb] at hd'
  unfold rsn barS badS
  by_cases h1 : A.1 31 u 0 = A.1 44 d 0
  · simp (disch := omega) only [gd_t, gd_T, bx_some, bx_thr, bd_def, nx_in, ↓nO_eq, l0, l1, l2, l3, l4, l5, l6, l7, l8, l9, l10, l12, l13, l16, l17, l18, l25, l30, l32, l33, l50, l64, l100, l200, l448, l1200, iN_add, iN_lt, iN_le, iN_inj, iN_clamp, iN_inb, iN_nO, nO_iN, nO_lt, iN_ltm, iN_lem, nO_le, iN_pred, if_pos, if_neg, ↓reduceIte, or_true, true_or, and_true, true_and, ne_eq, not_true_eq_false, not_false_eq_true, false_or, or_false, and_false, false_and, f_L_why, iN_mul, u0, d0, h1, hd']
    split <;> rfl
  · simp (disch := omega) only [gd_t, gd_T, bx_some, bx_thr, bd_def, nx_in, ↓nO_eq, l0, l1, l2, l3, l4, l5, l6, l7, l8, l9, l10, l12, l13, l16, l17, l18, l25, l30, l32, l33, l50, l64, l100, l200, l448, l1200, iN_add, iN_lt, iN_le, iN_inj, iN_clamp, iN_inb, iN_nO, nO_iN, nO_lt, iN_ltm, iN_lem, nO_le, iN_pred, if_pos, if_neg, ↓reduceIte, or_true, true_or, and_true, true_and, ne_eq, not_true_eq_false, not_false_eq_true, false_or, or_false, and_false, false_and, f_L_why, iN_mul, u0, d0, h1]
