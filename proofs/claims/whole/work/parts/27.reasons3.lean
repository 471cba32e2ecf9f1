/-! the second half's reasons -/
theorem m_bound {σ : Wd} {A : Ab} (E : RRe σ A) {k : Nat} (hk : k < 3) : f_X10_bound σ (iN k) = some (.inl (bnd A k), σ) := by
  obtain ⟨e0, e1, e2⟩ := E.1 k hk
  simp (disch := omega) only [gd_t, gd_T, bx_some, bx_thr, bd_def, nx_in, ↓nO_eq, l0, l1, l2, l3, l4, l5, l6, l7, l8, l30, l50, l64, l100, l200, l448, l1200, iN_add, iN_lt, iN_le, iN_inj, iN_clamp, iN_inb, iN_nO, nO_iN, nO_lt, iN_ltm, iN_lem, nO_le, iN_pred, if_pos, if_neg, ↓reduceIte, or_true, true_or, and_true, true_and, ne_eq, not_true_eq_false, not_false_eq_true, false_or, or_false, and_false, false_and, f_X10_bound, e0, e1, e2]
  rfl
theorem m_due1 {σ : Wd} {A : Ab} (E : RRe σ A) (U : RRu σ A) {u : Nat} (hu : u < nU A) (hn : nU A ≤ 6) (more : Int32) {k : Nat} (hk : k < 3) (acc : Bool) (n : Nat) : l_X10_isExamDue_5 (n + 1) σ (iN k) (bI acc) (iN u) more = l_X10_isExamDue_5 n σ (iN (k + 1)) (bI (acc || due A u more k)) (iN u) more := by
  obtain ⟨e0, e1, e2⟩ := E.1 k hk
  have u5 := (U u hu).2.2.2.1 k hk
  have u6 := (U u hu).2.2.2.2.1 k hk
  unfold due
  cases acc
  · by_cases h1 : bnd A k < A.1 35 u k + more
    · simp (disch := omega) only [gd_t, gd_T, bx_some, bx_thr, bd_def, nx_in, ↓nO_eq, l0, l1, l2, l3, l4, l5, l6, l7, l8, l30, l50, l64, l100, l200, l448, l1200, iN_add, iN_lt, iN_le, iN_inj, iN_clamp, iN_inb, iN_nO, nO_iN, nO_lt, iN_ltm, iN_lem, nO_le, iN_pred, if_pos, if_neg, ↓reduceIte, or_true, true_or, and_true, true_and, ne_eq, not_true_eq_false, not_false_eq_true, false_or, or_false, and_false, false_and, l_X10_isExamDue_5, m_bound E hk, iN_mul, u5, u6, e2, h1, bI_f, decide_true, Bool.true_or, Bool.or_true, bI_t]
    · by_cases h2 : A.1 36 u k ≤ A.1 52 k 0
      · simp (disch := omega) only [gd_t, gd_T, bx_some, bx_thr, bd_def, nx_in, ↓nO_eq, l0, l1, l2, l3, l4, l5, l6, l7, l8, l30, l50, l64, l100, l200, l448, l1200, iN_add, iN_lt, iN_le, iN_inj, iN_clamp, iN_inb, iN_nO, nO_iN, nO_lt, iN_ltm, iN_lem, nO_le, iN_pred, if_pos, if_neg, ↓reduceIte, or_true, true_or, and_true, true_and, ne_eq, not_true_eq_false, not_false_eq_true, false_or, or_false, and_false, false_and, l_X10_isExamDue_5, m_bound E hk, iN_mul, u5, u6, e2, h1, h2, bI_f, decide_false, Bool.false_or, lt_not.mpr h2]
      · simp (disch := omega) only [gd_t, gd_T, bx_some, bx_thr, bd_def, nx_in, ↓nO_eq, l0, l1, l2, l3, l4, l5, l6, l7, l8, l30, l50, l64, l100, l200, l448, l1200, iN_add, iN_lt, iN_le, iN_inj, iN_clamp, iN_inb, iN_nO, nO_iN, nO_lt, iN_ltm, iN_lem, nO_le, iN_pred, if_pos, if_neg, ↓reduceIte, or_true, true_or, and_true, true_and, ne_eq, not_true_eq_false, not_false_eq_true, false_or, or_false, and_false, false_and, l_X10_isExamDue_5, m_bound E hk, iN_mul, u5, u6, e2, h1, h2, bI_f, bI_t, decide_true, decide_false, Bool.false_or, le_not.mp h2]
  · simp (disch := omega) only [gd_t, gd_T, bx_some, bx_thr, bd_def, nx_in, ↓nO_eq, l0, l1, l2, l3, l4, l5, l6, l7, l8, l30, l50, l64, l100, l200, l448, l1200, iN_add, iN_lt, iN_le, iN_inj, iN_clamp, iN_inb, iN_nO, nO_iN, nO_lt, iN_ltm, iN_lem, nO_le, iN_pred, if_pos, if_neg, ↓reduceIte, or_true, true_or, and_true, true_and, ne_eq, not_true_eq_false, not_false_eq_true, false_or, or_false, and_false, false_and, l_X10_isExamDue_5, bI_t, Bool.true_or]
theorem m_due {σ : Wd} {A : Ab} (E : RRe σ A) (U : RRu σ A) {u : Nat} (hu : u < nU A) (hn : nU A ≤ 6) (more : Int32) : f_X10_isExamDue σ (iN u) more = some (.inl (bI (dueS A u more)), σ) := by
  obtain ⟨m, hm⟩ := FU_ge 4 (by decide)
  unfold f_X10_isExamDue
  rw [hm, show (0 : Int32) = iN 0 from rfl]
  have h0 := m_due1 E U hu hn more (by decide : 0 < 3) false (m + 3)
  have h1 := m_due1 E U hu hn more (by decide : 1 < 3) (false || due A u more 0) (m + 2)
  have h2 := m_due1 E U hu hn more (by decide : 2 < 3) ((false || due A u more 0) || due A u more 1) (m + 1)
  refine h0.trans (h1.trans (h2.trans ?_))
  unfold dueS
  rw [Bool.false_or]
  generalize (due A u more 0 || due A u more 1 || due A u more 2) = b
  cases b <;> simp (disch := omega) only [gd_t, gd_T, bx_some, bx_thr, bd_def, nx_in, ↓nO_eq, l0, l1, l2, l3, l4, l5, l6, l7, l8, l30, l50, l64, l100, l200, l448, l1200, iN_add, iN_lt, iN_le, iN_inj, iN_clamp, iN_inb, iN_nO, nO_iN, nO_lt, iN_ltm, iN_lem, nO_le, iN_pred, if_pos, if_neg, ↓reduceIte, or_true, true_or, and_true, true_and, ne_eq, not_true_eq_false, not_false_eq_true, false_or, or_false, and_false, false_and, l_X10_isExamDue_5, bI_t, bI_f]
theorem m_soon1 {σ : Wd} {A : Ab} (E : RRe σ A) (U : RRu σ A) {u : Nat} (hu : u < nU A) (hn : nU A ≤ 6) {k : Nat} (hk : k < 3) (acc : Bool) (n : Nat) : l_X10_isSoon_4 (n + 1) σ (iN k) (bI acc) (iN u) = l_X10_isSoon_4 n σ (iN (k + 1)) (bI (acc || soon1 A u k)) (iN u) := by
  obtain ⟨e0, e1, e2⟩ := E.1 k hk
  have u5 := (U u hu).2.2.2.1 k hk
  unfold soon1
  cases acc
  · by_cases h1 : A.1 35 u k * iN 100 < (80 : Int32) * A.1 50 k 0
    · simp (disch := omega) only [gd_t, gd_T, bx_some, bx_thr, bd_def, nx_in, ↓nO_eq, l0, l1, l2, l3, l4, l5, l6, l7, l8, l30, l50, l64, l100, l200, l448, l1200, iN_add, iN_lt, iN_le, iN_inj, iN_clamp, iN_inb, iN_nO, nO_iN, nO_lt, iN_ltm, iN_lem, nO_le, iN_pred, if_pos, if_neg, ↓reduceIte, or_true, true_or, and_true, true_and, ne_eq, not_true_eq_false, not_false_eq_true, false_or, or_false, and_false, false_and, l_X10_isSoon_4, iN_mul, u5, e0, h1, bI_f, decide_false, Bool.false_or, le_not.mpr h1]
    · simp (disch := omega) only [gd_t, gd_T, bx_some, bx_thr, bd_def, nx_in, ↓nO_eq, l0, l1, l2, l3, l4, l5, l6, l7, l8, l30, l50, l64, l100, l200, l448, l1200, iN_add, iN_lt, iN_le, iN_inj, iN_clamp, iN_inb, iN_nO, nO_iN, nO_lt, iN_ltm, iN_lem, nO_le, iN_pred, if_pos, if_neg, ↓reduceIte, or_true, true_or, and_true, true_and, ne_eq, not_true_eq_false, not_false_eq_true, false_or, or_false, and_false, false_and, l_X10_isSoon_4, iN_mul, u5, e0, h1, bI_f, bI_t, decide_true, Bool.false_or, lt_not.mp h1]
  · simp (disch := omega) only [gd_t, gd_T, bx_some, bx_thr, bd_def, nx_in, ↓nO_eq, l0, l1, l2, l3, l4, l5, l6, l7, l8, l30, l50, l64, l100, l200, l448, l1200, iN_add, iN_lt, iN_le, iN_inj, iN_clamp, iN_inb, iN_nO, nO_iN, nO_lt, iN_ltm, iN_lem, nO_le, iN_pred, if_pos, if_neg, ↓reduceIte, or_true, true_or, and_true, true_and, ne_eq, not_true_eq_false, not_false_eq_true, false_or, or_false, and_false, false_and, l_X10_isSoon_4, bI_t, Bool.true_or]
theorem m_soon {σ : Wd} {A : Ab} (E : RRe σ A) (U : RRu σ A) {u : Nat} (hu : u < nU A) (hn : nU A ≤ 6) : f_X10_isSoon σ (iN u) = some (.inl (bI (soonS A u)), σ) := by
  obtain ⟨m, hm⟩ := FU_ge 4 (by decide)
  unfold f_X10_isSoon
  rw [hm, show (0 : Int32) = iN 0 from rfl]
  have h0 := m_soon1 E U hu hn (by decide : 0 < 3) false (m + 3)
  have h1 := m_soon1 E U hu hn (by decide : 1 < 3) (false || soon1 A u 0) (m + 2)
  have h2 := m_soon1 E U hu hn (by decide : 2 < 3) ((false || soon1 A u 0) || soon1 A u 1) (m + 1)
  refine h0.trans (h1.trans (h2.trans ?_))
  unfold soonS
  rw [Bool.false_or]
  generalize (soon1 A u 0 || soon1 A u 1 || soon1 A u 2) = b
  cases b <;> simp (disch := omega) only [gd_t, gd_T, bx_some, bx_thr, bd_def, nx_in, ↓nO_eq, l0, l1, l2, l3, l4, l5, l6, l7, l8, l30, l50, l64, l100, l200, l448, l1200, iN_add, iN_lt, iN_le, iN_inj, iN_clamp, iN_inb, iN_nO, nO_iN, nO_lt, iN_ltm, iN_lem, nO_le, iN_pred, if_pos, if_neg, ↓reduceIte, or_true, true_or, and_true, true_and, ne_eq, not_true_eq_false, not_false_eq_true, false_or, or_false, and_false, false_and, l_X10_isSoon_4, bI_t, bI_f]
theorem m_barL {σ : Wd} {A : Ab} (R : RR σ A) (G : Gd A) {u : Nat} (hu : u < nU A) (line : Int32) : ∀ (n k j : Nat) (acc : Bool), (fl A u).length - j = k → k < n → j ≤ 8 → l_X10_isBarredByList_8 n σ (iN (8 * u + j)) (bI acc) (iN u) line = some (.inl (bI (acc || ((fl A u).drop j).any (barF A line))), σ)
  | n + 1, k, j, acc, hk, hn, hj8 => by
    obtain ⟨H, F, U, D, E, R1, R2⟩ := R
    have R : RR σ A := ⟨H, F, U, D, E, R1, R2⟩
    have g8 := (G.2.2.2.1 u hu).1
    have g6 := G.1
    obtain ⟨q1, q2⟩ := F u hu
    have q3 := H.2.2.1
    rcases at_or (fl A u) j with ⟨f, hf, hl⟩ | hl
    · have q4 := q2 j f hf
      obtain ⟨⟨κ, hκ, hκ2⟩, _⟩ := (G.2.2.2.1 u hu).2 f (List.mem_of_getElem? hf)
      have y0 : σ.1 40 0 (8 * u + j) = iN κ := by rw [← hκ2, ← q4]
      have y1 : σ.1 41 0 (8 * u + j) = f.2.1 := by rw [← q4]
      obtain ⟨e0, e1⟩ := E.2 κ hκ
      have hb : barF A line f = (decide (A.1 53 κ 0 = nO) || decide (A.1 53 κ 0 < iN (nT A) - f.2.1) || decide (A.1 54 κ 0 < line)) := by
        unfold barF
        rw [hκ2, iN_clamp (by omega)]
      rw [drop_at hf, List.any_cons, hb]
      have ih := fun acc => m_barL R G hu line n ((fl A u).length - (j + 1)) (j + 1) acc rfl (by omega) (by omega)
      have hj1 : 8 * u + j + 1 = 8 * u + (j + 1) := rfl
      cases acc
      · by_cases h1 : A.1 53 κ 0 = nO
        · simp (disch := omega) only [gd_t, gd_T, bx_some, bx_thr, bd_def, nx_in, ↓nO_eq, l0, l1, l2, l3, l4, l5, l6, l7, l8, l30, l50, l64, l100, l200, l448, l1200, iN_add, iN_lt, iN_le, iN_inj, iN_clamp, iN_inb, iN_nO, nO_iN, nO_lt, iN_ltm, iN_lem, nO_le, iN_pred, if_pos, if_neg, ↓reduceIte, or_true, true_or, and_true, true_and, ne_eq, not_true_eq_false, not_false_eq_true, false_or, or_false, and_false, false_and, l_X10_isBarredByList_8, iN_mul, q1, y0, y1, q3, e0, h1, bI_f, hj1, decide_true, Bool.true_or, Bool.or_true, Bool.false_or]
          rw [← bI_t, ih true, Bool.true_or]
        · by_cases h2 : A.1 53 κ 0 < iN (nT A) - f.2.1
          · simp (disch := omega) only [gd_t, gd_T, bx_some, bx_thr, bd_def, nx_in, ↓nO_eq, l0, l1, l2, l3, l4, l5, l6, l7, l8, l30, l50, l64, l100, l200, l448, l1200, iN_add, iN_lt, iN_le, iN_inj, iN_clamp, iN_inb, iN_nO, nO_iN, nO_lt, iN_ltm, iN_lem, nO_le, iN_pred, if_pos, if_neg, ↓reduceIte, or_true, true_or, and_true, true_and, ne_eq, not_true_eq_false, not_false_eq_true, false_or, or_false, and_false, false_and, l_X10_isBarredByList_8, iN_mul, q1, y0, y1, q3, e0, h1, h2, bI_f, hj1, decide_true, Bool.true_or, Bool.or_true, Bool.false_or]
            rw [← bI_t, ih true, Bool.true_or]
          · by_cases h3 : line ≤ A.1 54 κ 0
            · simp (disch := omega) only [gd_t, gd_T, bx_some, bx_thr, bd_def, nx_in, ↓nO_eq, l0, l1, l2, l3, l4, l5, l6, l7, l8, l30, l50, l64, l100, l200, l448, l1200, iN_add, iN_lt, iN_le, iN_inj, iN_clamp, iN_inb, iN_nO, nO_iN, nO_lt, iN_ltm, iN_lem, nO_le, iN_pred, if_pos, if_neg, ↓reduceIte, or_true, true_or, and_true, true_and, ne_eq, not_true_eq_false, not_false_eq_true, false_or, or_false, and_false, false_and, l_X10_isBarredByList_8, iN_mul, q1, y0, y1, q3, e0, e1, h1, h2, h3, lt_not.mpr h3, bI_f, hj1, decide_true, decide_false, Bool.true_or, Bool.or_true, Bool.false_or]
              rw [← bI_f, ih false, Bool.false_or]
            · simp (disch := omega) only [gd_t, gd_T, bx_some, bx_thr, bd_def, nx_in, ↓nO_eq, l0, l1, l2, l3, l4, l5, l6, l7, l8, l30, l50, l64, l100, l200, l448, l1200, iN_add, iN_lt, iN_le, iN_inj, iN_clamp, iN_inb, iN_nO, nO_iN, nO_lt, iN_ltm, iN_lem, nO_le, iN_pred, if_pos, if_neg, ↓reduceIte, or_true, true_or, and_true, true_and, ne_eq, not_true_eq_false, not_false_eq_true, false_or, or_false, and_false, false_and, l_X10_isBarredByList_8, iN_mul, q1, y0, y1, q3, e0, e1, h1, h2, h3, le_not.mp h3, bI_f, hj1, decide_true, decide_false, Bool.true_or, Bool.or_true, Bool.false_or]
              rw [← bI_t, ih true, Bool.true_or]
      · simp (disch := omega) only [gd_t, gd_T, bx_some, bx_thr, bd_def, nx_in, ↓nO_eq, l0, l1, l2, l3, l4, l5, l6, l7, l8, l30, l50, l64, l100, l200, l448, l1200, iN_add, iN_lt, iN_le, iN_inj, iN_clamp, iN_inb, iN_nO, nO_iN, nO_lt, iN_ltm, iN_lem, nO_le, iN_pred, if_pos, if_neg, ↓reduceIte, or_true, true_or, and_true, true_and, ne_eq, not_true_eq_false, not_false_eq_true, false_or, or_false, and_false, false_and, l_X10_isBarredByList_8, iN_mul, q1, y0, y1, q3, e0, bI_t, hj1, Bool.true_or]
        rw [← bI_t, ih true, Bool.true_or]
    · rw [List.drop_eq_nil_of_le hl, List.any_nil, Bool.or_false]
      cases acc <;> simp (disch := omega) only [gd_t, gd_T, bx_some, bx_thr, bd_def, nx_in, ↓nO_eq, l0, l1, l2, l3, l4, l5, l6, l7, l8, l30, l50, l64, l100, l200, l448, l1200, iN_add, iN_lt, iN_le, iN_inj, iN_clamp, iN_inb, iN_nO, nO_iN, nO_lt, iN_ltm, iN_lem, nO_le, iN_pred, if_pos, if_neg, ↓reduceIte, or_true, true_or, and_true, true_and, ne_eq, not_true_eq_false, not_false_eq_true, false_or, or_false, and_false, false_and, l_X10_isBarredByList_8, iN_mul, q1, bI_t, bI_f]
theorem m_bar {σ : Wd} {A : Ab} (R : RR σ A) (G : Gd A) {u : Nat} (hu : u < nU A) (line : Int32) : f_X10_isBarredByList σ (iN u) line = some (.inl (bI (barS A u line)), σ) := by
  have := m_barL R G hu line FU _ 0 false rfl (by have := (G.2.2.2.1 u hu).1; unfold FU; omega) (by decide)
  rw [List.drop_zero, Bool.false_or] at this
  unfold f_X10_isBarredByList
  simp (disch := omega) only [gd_t, gd_T, bx_some, bx_thr, bd_def, nx_in, ↓nO_eq, l0, l1, l2, l3, l4, l5, l6, l7, l8, l30, l50, l64, l100, l200, l448, l1200, iN_add, iN_lt, iN_le, iN_inj, iN_clamp, iN_inb, iN_nO, nO_iN, nO_lt, iN_ltm, iN_lem, nO_le, iN_pred, if_pos, if_neg, ↓reduceIte, or_true, true_or, and_true, true_and, ne_eq, not_true_eq_false, not_false_eq_true, false_or, or_false, and_false, false_and, iN_mul]
  exact this
theorem m_badL {σ : Wd} {A : Ab} (R : RR σ A) (G : Gd A) {u : Nat} (hu : u < nU A) : ∀ (n k j c : Nat) (acc : Bool), (fl A u).length - j = k → k < n → j ≤ 8 → c ≤ j → l_X10_isBad_10 n σ (iN (8 * u + j)) (iN c) (bI acc) (iN u) = some (.inl (bI (acc || ((fl A u).drop j).any grave || decide (2 ≤ c + ((fl A u).drop j).countP door))), σ)
  | n + 1, k, j, c, acc, hk, hn, hj8, hc => by
    obtain ⟨H, F, U, D, E, R1, R2⟩ := R
    have R : RR σ A := ⟨H, F, U, D, E, R1, R2⟩
    have g8 := (G.2.2.2.1 u hu).1
    have g6 := G.1
    obtain ⟨q1, q2⟩ := F u hu
    rcases at_or (fl A u) j with ⟨f, hf, hl⟩ | hl
    · have q4 := q2 j f hf
      have y0 : σ.1 40 0 (8 * u + j) = f.1 := by rw [← q4]
      have y3 : σ.1 43 0 (8 * u + j) = f.2.2.2 := by rw [← q4]
      rw [drop_at hf, List.any_cons, List.countP_cons]
      have ih := fun acc c (h : c ≤ j + 1) => m_badL R G hu n ((fl A u).length - (j + 1)) (j + 1) c acc rfl (by omega) (by omega) h
      have hj1 : 8 * u + j + 1 = 8 * u + (j + 1) := rfl
      have hg : grave f = (decide (f.1 = iN 0) && decide (iN 4 < f.2.2.2) || decide (f.1 = iN 2) && decide (iN 50 < f.2.2.2)) := rfl
      have n20 : ¬ iN 2 = iN 0 := by decide
      have n02 : ¬ iN 0 = iN 2 := by decide
      have hhead : l_X10_isBad_10 (n + 1) σ (iN (8 * u + j)) (iN c) (bI acc) (iN u) = j_X10_isBad_79 (l_X10_isBad_10 n) σ (iN (8 * u + j)) (iN c) (bI acc) (iN u) (bI (acc || grave f)) := by
        rw [hg]
        cases acc
        · by_cases h0 : f.1 = iN 0
          · by_cases h1 : iN 4 < f.2.2.2
            · simp (disch := omega) only [gd_t, gd_T, bx_some, bx_thr, bd_def, nx_in, ↓nO_eq, l0, l1, l2, l3, l4, l5, l6, l7, l8, l30, l50, l64, l100, l200, l448, l1200, iN_add, iN_lt, iN_le, iN_inj, iN_clamp, iN_inb, iN_nO, nO_iN, nO_lt, iN_ltm, iN_lem, nO_le, iN_pred, if_pos, if_neg, ↓reduceIte, or_true, true_or, and_true, true_and, ne_eq, not_true_eq_false, not_false_eq_true, false_or, or_false, and_false, false_and, l_X10_isBad_10, iN_mul, q1, y0, y3, h0, h1, bI_f, bI_t, j_X10_isBad_74, decide_true, Bool.true_and, Bool.true_or, Bool.or_true]
            · simp (disch := omega) only [gd_t, gd_T, bx_some, bx_thr, bd_def, nx_in, ↓nO_eq, l0, l1, l2, l3, l4, l5, l6, l7, l8, l30, l50, l64, l100, l200, l448, l1200, iN_add, iN_lt, iN_le, iN_inj, iN_clamp, iN_inb, iN_nO, nO_iN, nO_lt, iN_ltm, iN_lem, nO_le, iN_pred, if_pos, if_neg, ↓reduceIte, or_true, true_or, and_true, true_and, ne_eq, not_true_eq_false, not_false_eq_true, false_or, or_false, and_false, false_and, l_X10_isBad_10, iN_mul, q1, y0, y3, h0, h1, n02, bI_f, bI_t, j_X10_isBad_74, j_X10_isBad_51, j_X10_isBad_78, decide_true, decide_false, Bool.and_false, Bool.false_and, Bool.false_or]
          · by_cases h2 : f.1 = iN 2
            · by_cases h3 : f.2.2.2 ≤ iN 50
              · simp (disch := omega) only [gd_t, gd_T, bx_some, bx_thr, bd_def, nx_in, ↓nO_eq, l0, l1, l2, l3, l4, l5, l6, l7, l8, l30, l50, l64, l100, l200, l448, l1200, iN_add, iN_lt, iN_le, iN_inj, iN_clamp, iN_inb, iN_nO, nO_iN, nO_lt, iN_ltm, iN_lem, nO_le, iN_pred, if_pos, if_neg, ↓reduceIte, or_true, true_or, and_true, true_and, ne_eq, not_true_eq_false, not_false_eq_true, false_or, or_false, and_false, false_and, l_X10_isBad_10, iN_mul, q1, y0, y3, h2, h3, n20, lt_not.mpr h3, bI_f, bI_t, j_X10_isBad_74, j_X10_isBad_51, j_X10_isBad_78, decide_true, decide_false, Bool.and_false, Bool.false_and, Bool.false_or]
              · simp (disch := omega) only [gd_t, gd_T, bx_some, bx_thr, bd_def, nx_in, ↓nO_eq, l0, l1, l2, l3, l4, l5, l6, l7, l8, l30, l50, l64, l100, l200, l448, l1200, iN_add, iN_lt, iN_le, iN_inj, iN_clamp, iN_inb, iN_nO, nO_iN, nO_lt, iN_ltm, iN_lem, nO_le, iN_pred, if_pos, if_neg, ↓reduceIte, or_true, true_or, and_true, true_and, ne_eq, not_true_eq_false, not_false_eq_true, false_or, or_false, and_false, false_and, l_X10_isBad_10, iN_mul, q1, y0, y3, h2, h3, n20, le_not.mp h3, bI_f, bI_t, j_X10_isBad_74, j_X10_isBad_51, j_X10_isBad_78, decide_true, decide_false, Bool.and_true, Bool.false_and, Bool.false_or]
            · simp (disch := omega) only [gd_t, gd_T, bx_some, bx_thr, bd_def, nx_in, ↓nO_eq, l0, l1, l2, l3, l4, l5, l6, l7, l8, l30, l50, l64, l100, l200, l448, l1200, iN_add, iN_lt, iN_le, iN_inj, iN_clamp, iN_inb, iN_nO, nO_iN, nO_lt, iN_ltm, iN_lem, nO_le, iN_pred, if_pos, if_neg, ↓reduceIte, or_true, true_or, and_true, true_and, ne_eq, not_true_eq_false, not_false_eq_true, false_or, or_false, and_false, false_and, l_X10_isBad_10, iN_mul, q1, y0, y3, h0, h2, bI_f, bI_t, j_X10_isBad_74, j_X10_isBad_51, j_X10_isBad_78, decide_true, decide_false, Bool.and_false, Bool.false_and, Bool.false_or]
        · simp (disch := omega) only [gd_t, gd_T, bx_some, bx_thr, bd_def, nx_in, ↓nO_eq, l0, l1, l2, l3, l4, l5, l6, l7, l8, l30, l50, l64, l100, l200, l448, l1200, iN_add, iN_lt, iN_le, iN_inj, iN_clamp, iN_inb, iN_nO, nO_iN, nO_lt, iN_ltm, iN_lem, nO_le, iN_pred, if_pos, if_neg, ↓reduceIte, or_true, true_or, and_true, true_and, ne_eq, not_true_eq_false, not_false_eq_true, false_or, or_false, and_false, false_and, l_X10_isBad_10, iN_mul, q1, bI_t, j_X10_isBad_74, Bool.true_or]
      rw [hhead]
      generalize grave f = b
      have hd : door f = decide (f.1 = iN 1) := rfl
      rw [hd]
      by_cases h1 : f.1 = iN 1
      · simp (disch := omega) only [gd_t, gd_T, bx_some, bx_thr, bd_def, nx_in, ↓nO_eq, l0, l1, l2, l3, l4, l5, l6, l7, l8, l30, l50, l64, l100, l200, l448, l1200, iN_add, iN_lt, iN_le, iN_inj, iN_clamp, iN_inb, iN_nO, nO_iN, nO_lt, iN_ltm, iN_lem, nO_le, iN_pred, if_pos, if_neg, ↓reduceIte, or_true, true_or, and_true, true_and, ne_eq, not_true_eq_false, not_false_eq_true, false_or, or_false, and_false, false_and, j_X10_isBad_79, y0, h1, hj1, ih, decide_true]
        rw [Nat.add_assoc, Nat.add_comm 1, Bool.or_assoc acc b]
      · simp (disch := omega) only [gd_t, gd_T, bx_some, bx_thr, bd_def, nx_in, ↓nO_eq, l0, l1, l2, l3, l4, l5, l6, l7, l8, l30, l50, l64, l100, l200, l448, l1200, iN_add, iN_lt, iN_le, iN_inj, iN_clamp, iN_inb, iN_nO, nO_iN, nO_lt, iN_ltm, iN_lem, nO_le, iN_pred, if_pos, if_neg, ↓reduceIte, or_true, true_or, and_true, true_and, ne_eq, not_true_eq_false, not_false_eq_true, false_or, or_false, and_false, false_and, j_X10_isBad_79, y0, h1, hj1, ih, decide_false, Bool.false_eq_true, Nat.add_zero]
        rw [Bool.or_assoc acc b]
    · rw [List.drop_eq_nil_of_le hl, List.any_nil, Bool.or_false, List.countP_nil, Nat.add_zero]
      cases acc
      · by_cases h2 : c ≤ 1
        · have h3 : ¬ 2 ≤ c := by omega
          simp (disch := omega) only [gd_t, gd_T, bx_some, bx_thr, bd_def, nx_in, ↓nO_eq, l0, l1, l2, l3, l4, l5, l6, l7, l8, l30, l50, l64, l100, l200, l448, l1200, iN_add, iN_lt, iN_le, iN_inj, iN_clamp, iN_inb, iN_nO, nO_iN, nO_lt, iN_ltm, iN_lem, nO_le, iN_pred, if_pos, if_neg, ↓reduceIte, or_true, true_or, and_true, true_and, ne_eq, not_true_eq_false, not_false_eq_true, false_or, or_false, and_false, false_and, l_X10_isBad_10, iN_mul, q1, bI_f, h3, decide_false, Bool.or_self, Nat.add_zero]
        · have h3 : 2 ≤ c := by omega
          simp (disch := omega) only [gd_t, gd_T, bx_some, bx_thr, bd_def, nx_in, ↓nO_eq, l0, l1, l2, l3, l4, l5, l6, l7, l8, l30, l50, l64, l100, l200, l448, l1200, iN_add, iN_lt, iN_le, iN_inj, iN_clamp, iN_inb, iN_nO, nO_iN, nO_lt, iN_ltm, iN_lem, nO_le, iN_pred, if_pos, if_neg, ↓reduceIte, or_true, true_or, and_true, true_and, ne_eq, not_true_eq_false, not_false_eq_true, false_or, or_false, and_false, false_and, l_X10_isBad_10, iN_mul, q1, bI_f, bI_t, h3, decide_true, Bool.false_or, Nat.add_zero]
      · simp (disch := omega) only [gd_t, gd_T, bx_some, bx_thr, bd_def, nx_in, ↓nO_eq, l0, l1, l2, l3, l4, l5, l6, l7, l8, l30, l50, l64, l100, l200, l448, l1200, iN_add, iN_lt, iN_le, iN_inj, iN_clamp, iN_inb, iN_nO, nO_iN, nO_lt, iN_ltm, iN_lem, nO_le, iN_pred, if_pos, if_neg, ↓reduceIte, or_true, true_or, and_true, true_and, ne_eq, not_true_eq_false, not_false_eq_true, false_or, or_false, and_false, false_and, l_X10_isBad_10, iN_mul, q1, bI_t, Bool.true_or]
theorem m_bad {σ : Wd} {A : Ab} (R : RR σ A) (G : Gd A) {u : Nat} (hu : u < nU A) : f_X10_isBad σ (iN u) = some (.inl (bI (badS A u)), σ) := by
  have := m_badL R G hu FU _ 0 0 false rfl (by have := (G.2.2.2.1 u hu).1; unfold FU; omega) (by decide) (by decide)
  rw [List.drop_zero, Bool.false_or, Nat.zero_add] at this
  unfold f_X10_isBad
  simp (disch := omega) only [gd_t, gd_T, bx_some, bx_thr, bd_def, nx_in, ↓nO_eq, l0, l1, l2, l3, l4, l5, l6, l7, l8, l30, l50, l64, l100, l200, l448, l1200, iN_add, iN_lt, iN_le, iN_inj, iN_clamp, iN_inb, iN_nO, nO_iN, nO_lt, iN_ltm, iN_lem, nO_le, iN_pred, if_pos, if_neg, ↓reduceIte, or_true, true_or, and_true, true_and, ne_eq, not_true_eq_false, not_false_eq_true, false_or, or_false, and_false, false_and, iN_mul]
  exact this
theorem m_worn1 {σ : Wd} {A : Ab} (U : RRu σ A) (hn : nU A ≤ 6) {u : Nat} (hu : u < nU A) {k : Nat} (hk : k < 4) (n : Nat) (a b : Int32) : l_X10_isWorn_16 (n + 1) σ (iN (4 * u + k)) a b (iN u) = l_X10_isWorn_16 n σ (iN (4 * u + (k + 1))) (mx a (A.1 34 u k)) (mn b (A.1 34 u k)) (iN u) := by
  have a1 := (U u hu).2.2.2.2.2 k hk
  have hj1 : 4 * u + k + 1 = 4 * u + (k + 1) := rfl
  unfold mx mn
  by_cases h1 : b ≤ A.1 34 u k
  · by_cases h2 : A.1 34 u k ≤ a
    · simp (disch := omega) only [gd_t, gd_T, bx_some, bx_thr, bd_def, nx_in, ↓nO_eq, l0, l1, l2, l3, l4, l5, l6, l7, l8, l30, l50, l64, l100, l200, l448, l1200, iN_add, iN_lt, iN_le, iN_inj, iN_clamp, iN_inb, iN_nO, nO_iN, nO_lt, iN_ltm, iN_lem, nO_le, iN_pred, if_pos, if_neg, ↓reduceIte, or_true, true_or, and_true, true_and, ne_eq, not_true_eq_false, not_false_eq_true, false_or, or_false, and_false, false_and, l_X10_isWorn_16, j_X10_isWorn_48, iN_mul, a1, h1, h2, lt_not.mpr h1, lt_not.mpr h2, hj1]
    · simp (disch := omega) only [gd_t, gd_T, bx_some, bx_thr, bd_def, nx_in, ↓nO_eq, l0, l1, l2, l3, l4, l5, l6, l7, l8, l30, l50, l64, l100, l200, l448, l1200, iN_add, iN_lt, iN_le, iN_inj, iN_clamp, iN_inb, iN_nO, nO_iN, nO_lt, iN_ltm, iN_lem, nO_le, iN_pred, if_pos, if_neg, ↓reduceIte, or_true, true_or, and_true, true_and, ne_eq, not_true_eq_false, not_false_eq_true, false_or, or_false, and_false, false_and, l_X10_isWorn_16, j_X10_isWorn_48, iN_mul, a1, h1, h2, lt_not.mpr h1, le_not.mp h2, hj1]
  · by_cases h2 : A.1 34 u k ≤ a
    · simp (disch := omega) only [gd_t, gd_T, bx_some, bx_thr, bd_def, nx_in, ↓nO_eq, l0, l1, l2, l3, l4, l5, l6, l7, l8, l30, l50, l64, l100, l200, l448, l1200, iN_add, iN_lt, iN_le, iN_inj, iN_clamp, iN_inb, iN_nO, nO_iN, nO_lt, iN_ltm, iN_lem, nO_le, iN_pred, if_pos, if_neg, ↓reduceIte, or_true, true_or, and_true, true_and, ne_eq, not_true_eq_false, not_false_eq_true, false_or, or_false, and_false, false_and, l_X10_isWorn_16, j_X10_isWorn_48, iN_mul, a1, h1, h2, le_not.mp h1, lt_not.mpr h2, hj1]
    · simp (disch := omega) only [gd_t, gd_T, bx_some, bx_thr, bd_def, nx_in, ↓nO_eq, l0, l1, l2, l3, l4, l5, l6, l7, l8, l30, l50, l64, l100, l200, l448, l1200, iN_add, iN_lt, iN_le, iN_inj, iN_clamp, iN_inb, iN_nO, nO_iN, nO_lt, iN_ltm, iN_lem, nO_le, iN_pred, if_pos, if_neg, ↓reduceIte, or_true, true_or, and_true, true_and, ne_eq, not_true_eq_false, not_false_eq_true, false_or, or_false, and_false, false_and, l_X10_isWorn_16, j_X10_isWorn_48, iN_mul, a1, h1, h2, le_not.mp h1, le_not.mp h2, hj1]
theorem mn_self (a : Int32) : mn a a = a := by
  unfold mn
  split <;> rfl
theorem mx_self (a : Int32) : mx a a = a := by
  unfold mx
  split <;> rfl
theorem m_worn {σ : Wd} {A : Ab} (U : RRu σ A) (hn : nU A ≤ 6) {u : Nat} (hu : u < nU A) : f_X10_isWorn σ (iN u) = some (.inl (bI (wornS A u)), σ) := by
  obtain ⟨m, hm⟩ := FU_ge 5 (by decide)
  have a0 := (U u hu).2.2.2.2.2 0 (by decide)
  rw [Nat.add_zero] at a0
  unfold f_X10_isWorn wornS
  simp (disch := omega) only [gd_t, gd_T, bx_some, bx_thr, bd_def, nx_in, ↓nO_eq, l0, l1, l2, l3, l4, l5, l6, l7, l8, l30, l50, l64, l100, l200, l448, l1200, iN_add, iN_lt, iN_le, iN_inj, iN_clamp, iN_inb, iN_nO, nO_iN, nO_lt, iN_ltm, iN_lem, nO_le, iN_pred, if_pos, if_neg, ↓reduceIte, or_true, true_or, and_true, true_and, ne_eq, not_true_eq_false, not_false_eq_true, false_or, or_false, and_false, false_and, iN_mul, a0]
  rw [hm]
  have h0 := m_worn1 U hn hu (by decide : 0 < 4) (m + 4) (A.1 34 u 0) (A.1 34 u 0)
  rw [mn_self, mx_self] at h0
  refine h0.trans ((m_worn1 U hn hu (by decide : 1 < 4) (m + 3) _ _).trans ((m_worn1 U hn hu (by decide : 2 < 4) (m + 2) _ _).trans ((m_worn1 U hn hu (by decide : 3 < 4) (m + 1) _ _).trans ?_)))
  change l_X10_isWorn_16 (m + 1) σ (iN (4 * u + 4)) (hi4 (A.1 34 u)) (lo4 (A.1 34 u)) (iN u) = _
  by_cases h1 : iN 6 < hi4 (A.1 34 u) - lo4 (A.1 34 u)
  · simp (disch := omega) only [gd_t, gd_T, bx_some, bx_thr, bd_def, nx_in, ↓nO_eq, l0, l1, l2, l3, l4, l5, l6, l7, l8, l30, l50, l64, l100, l200, l448, l1200, iN_add, iN_lt, iN_le, iN_inj, iN_clamp, iN_inb, iN_nO, nO_iN, nO_lt, iN_ltm, iN_lem, nO_le, iN_pred, if_pos, if_neg, ↓reduceIte, or_true, true_or, and_true, true_and, ne_eq, not_true_eq_false, not_false_eq_true, false_or, or_false, and_false, false_and, l_X10_isWorn_16, iN_mul, h1, decide_true, Bool.true_or, bI_t]
  · by_cases h2 : 800 ≤ lo4 (A.1 34 u)
    · simp (disch := omega) only [gd_t, gd_T, bx_some, bx_thr, bd_def, nx_in, ↓nO_eq, l0, l1, l2, l3, l4, l5, l6, l7, l8, l30, l50, l64, l100, l200, l448, l1200, iN_add, iN_lt, iN_le, iN_inj, iN_clamp, iN_inb, iN_nO, nO_iN, nO_lt, iN_ltm, iN_lem, nO_le, iN_pred, if_pos, if_neg, ↓reduceIte, or_true, true_or, and_true, true_and, ne_eq, not_true_eq_false, not_false_eq_true, false_or, or_false, and_false, false_and, l_X10_isWorn_16, iN_mul, h1, h2, lt_not.mpr h2, decide_false, Bool.or_self, bI_f]
    · simp (disch := omega) only [gd_t, gd_T, bx_some, bx_thr, bd_def, nx_in, ↓nO_eq, l0, l1, l2, l3, l4, l5, l6, l7, l8, l30, l50, l64, l100, l200, l448, l1200, iN_add, iN_lt, iN_le, iN_inj, iN_clamp, iN_inb, iN_nO, nO_iN, nO_lt, iN_ltm, iN_lem, nO_le, iN_pred, if_pos, if_neg, ↓reduceIte, or_true, true_or, and_true, true_and, ne_eq, not_true_eq_false, not_false_eq_true, false_or, or_false, and_false, false_and, l_X10_isWorn_16, iN_mul, h1, h2, le_not.mp h2, decide_false, decide_true, Bool.false_or, bI_t]
theorem m_reason {σ : Wd} {A : Ab} (R : RR σ A) (G : Gd A) {u d : Nat} (hu : u < nU A) (hd : d < nD A) : f_X10_reason σ (iN u) (iN d) = some (.inl (rsn A u d), σ) := by
  obtain ⟨H, F, U, D, E, R1, R2⟩ := R
  have R : RR σ A := ⟨H, F, U, D, E, R1, R2⟩
  have g6 := G.1
  have g7 := G.2.1
  have u2 := (U u hu).1
  obtain ⟨d0, d1, d2, d3, _⟩ := D d hd
  unfold rsn
  simp (disch := omega) only [gd_t, gd_T, bx_some, bx_thr, bd_def, nx_in, ↓nO_eq, l0, l1, l2, l3, l4, l5, l6, l7, l8, l30, l50, l64, l100, l200, l448, l1200, iN_add, iN_lt, iN_le, iN_inj, iN_clamp, iN_inb, iN_nO, nO_iN, nO_lt, iN_ltm, iN_lem, nO_le, iN_pred, if_pos, if_neg, ↓reduceIte, or_true, true_or, and_true, true_and, ne_eq, not_true_eq_false, not_false_eq_true, false_or, or_false, and_false, false_and, f_X10_reason, u2, d0, d2, d3, m_due E U hu g6, m_bar R G hu, m_bad R G hu, m_worn U g6 hu, bI_0]
  by_cases h1 : A.1 31 u 0 = A.1 44 d 0
  · by_cases h2 : dueS A u (A.1 46 d 0) = true
    · simp [h1, h2]
    · by_cases h3 : barS A u (A.1 47 d 0) = true
      · simp [h1, h2, h3]
      · by_cases h4 : badS A u = true
        · simp [h1, h2, h3, h4]
        · by_cases h5 : wornS A u = true
          · simp [h1, h2, h3, h4, h5]
          · simp [h1, h2, h3, h4, h5]
  · simp [h1]
