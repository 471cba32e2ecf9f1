/-! its answers over the value: questions -/
theorem z_today {σ : Wd} {A : Ab} (C : RC σ A) : f_X9_today σ = some (.inl (iN (nT A)), σ) := by
  have := C.2.2.2.2.2.2.1.1
  simp (disch := omega) only [gd_t, gd_T, bx_some, bx_thr, bd_def, nx_in, ↓nO_eq, l0, l1, l2, l3, l4, l5, l6, l7, l8, l9, l10, l12, l13, l16, l17, l18, l25, l30, l32, l33, l50, l64, l100, l200, l448, l1200, iN_add, iN_lt, iN_le, iN_inj, iN_clamp, iN_inb, iN_nO, nO_iN, nO_lt, iN_ltm, iN_lem, nO_le, iN_pred, if_pos, if_neg, ↓reduceIte, or_true, true_or, and_true, true_and, ne_eq, not_true_eq_false, not_false_eq_true, false_or, or_false, and_false, false_and, f_X9_today, this]
theorem z_shunts {σ : Wd} {A : Ab} (C : RC σ A) : f_X9_shunts σ = some (.inl (A.1 30 2 0), σ) := by
  have := C.2.2.2.2.2.2.1.2.1
  simp (disch := omega) only [gd_t, gd_T, bx_some, bx_thr, bd_def, nx_in, ↓nO_eq, l0, l1, l2, l3, l4, l5, l6, l7, l8, l9, l10, l12, l13, l16, l17, l18, l25, l30, l32, l33, l50, l64, l100, l200, l448, l1200, iN_add, iN_lt, iN_le, iN_inj, iN_clamp, iN_inb, iN_nO, nO_iN, nO_lt, iN_ltm, iN_lem, nO_le, iN_pred, if_pos, if_neg, ↓reduceIte, or_true, true_or, and_true, true_and, ne_eq, not_true_eq_false, not_false_eq_true, false_or, or_false, and_false, false_and, f_X9_shunts, this]
theorem z_whyNot {σ : Wd} {A : Ab} (C : RC σ A) (G : Gd A) {u d : Nat} (hu : u < nU A) (hd : d < nD A) : f_X9_whyNot σ (iN u) (iN d) = some (.inl (rsn A u d), σ) := by
  have S := C.2.2.2.2.2.2.1.1
  simp (disch := omega) only [gd_t, gd_T, bx_some, bx_thr, bd_def, nx_in, ↓nO_eq, l0, l1, l2, l3, l4, l5, l6, l7, l8, l9, l10, l12, l13, l16, l17, l18, l25, l30, l32, l33, l50, l64, l100, l200, l448, l1200, iN_add, iN_lt, iN_le, iN_inj, iN_clamp, iN_inb, iN_nO, nO_iN, nO_lt, iN_ltm, iN_lem, nO_le, iN_pred, if_pos, if_neg, ↓reduceIte, or_true, true_or, and_true, true_and, ne_eq, not_true_eq_false, not_false_eq_true, false_or, or_false, and_false, false_and, f_X9_whyNot, c_unitAt C.1 G.1 hu, c_diagramAt C.1 G.2.1 hd, S, k_reason C G hu hd]
theorem z_axle {σ : Wd} {A : Ab} (C : RC σ A) (G : Gd A) {u a : Nat} (hu : u < nU A) (ha : a < 4) : f_X9_axle σ (iN u) (iN a) = some (.inl (A.1 34 u a), σ) := by
  have e8 := C.1.1
  simp (disch := omega) only [gd_t, gd_T, bx_some, bx_thr, bd_def, nx_in, ↓nO_eq, l0, l1, l2, l3, l4, l5, l6, l7, l8, l9, l10, l12, l13, l16, l17, l18, l25, l30, l32, l33, l50, l64, l100, l200, l448, l1200, iN_add, iN_lt, iN_le, iN_inj, iN_clamp, iN_inb, iN_nO, nO_iN, nO_lt, iN_ltm, iN_lem, nO_le, iN_pred, if_pos, if_neg, ↓reduceIte, or_true, true_or, and_true, true_and, ne_eq, not_true_eq_false, not_false_eq_true, false_or, or_false, and_false, false_and, f_X9_axle, c_unitAt C.1 G.1 hu, c_num (σ := σ) ha, k_axle C.1 C.2.2.1 hu ha]
theorem z_clock0 {σ : Wd} {A : Ab} (C : RC σ A) (G : Gd A) {u a : Nat} (hu : u < nU A) (ha : a < 3) : f_X9_clock σ (iN u) (iN a) (iN 0) = some (.inl (A.1 35 u a), σ) := by
  have e8 := C.1.1
  simp (disch := omega) only [gd_t, gd_T, bx_some, bx_thr, bd_def, nx_in, ↓nO_eq, l0, l1, l2, l3, l4, l5, l6, l7, l8, l9, l10, l12, l13, l16, l17, l18, l25, l30, l32, l33, l50, l64, l100, l200, l448, l1200, iN_add, iN_lt, iN_le, iN_inj, iN_clamp, iN_inb, iN_nO, nO_iN, nO_lt, iN_ltm, iN_lem, nO_le, iN_pred, if_pos, if_neg, ↓reduceIte, or_true, true_or, and_true, true_and, ne_eq, not_true_eq_false, not_false_eq_true, false_or, or_false, and_false, false_and, f_X9_clock, c_unitAt C.1 G.1 hu, c_num (σ := σ) ha, k_km C.1 C.2.2.1 hu ha]
theorem z_clock1 {σ : Wd} {A : Ab} (C : RC σ A) (G : Gd A) {u a : Nat} (hu : u < nU A) (ha : a < 3) : f_X9_clock σ (iN u) (iN a) (iN 1) = some (.inl (A.1 36 u a), σ) := by
  have e8 := C.1.1
  have n10 : ¬ iN 1 = iN 0 := by decide
  simp (disch := omega) only [gd_t, gd_T, bx_some, bx_thr, bd_def, nx_in, ↓nO_eq, l0, l1, l2, l3, l4, l5, l6, l7, l8, l9, l10, l12, l13, l16, l17, l18, l25, l30, l32, l33, l50, l64, l100, l200, l448, l1200, iN_add, iN_lt, iN_le, iN_inj, iN_clamp, iN_inb, iN_nO, nO_iN, nO_lt, iN_ltm, iN_lem, nO_le, iN_pred, if_pos, if_neg, ↓reduceIte, or_true, true_or, and_true, true_and, ne_eq, not_true_eq_false, not_false_eq_true, false_or, or_false, and_false, false_and, f_X9_clock, c_unitAt C.1 G.1 hu, c_num (σ := σ) ha, k_days C.1 C.2.2.1 hu ha, n10]
theorem z_faultAt {σ : Wd} {A : Ab} (C : RC σ A) (G : Gd A) {u : Nat} (hu : u < nU A) {j : Nat} {f : Fa} (hf : (fl A u)[j]? = some f) : f_X9_faultAt σ (iN u) (iN j) (iN 0) = some (.inl f.1, σ) ∧ f_X9_faultAt σ (iN u) (iN j) (iN 1) = some (.inl f.2.1, σ) ∧ f_X9_faultAt σ (iN u) (iN j) (iN 2) = some (.inl f.2.2.1, σ) ∧ f_X9_faultAt σ (iN u) (iN j) (iN 3) = some (.inl f.2.2.2, σ) := by
  have e8 := C.1.1
  have g6 := G.1
  have g8 := (G.2.2.2.1 u hu).1
  obtain ⟨x, x1, x2, x3⟩ := k_faultAt C.1 C.2.1 g6 hu g8 hf
  have y0 : σ.1 26 x 0 = f.1 := by rw [← x3]; rfl
  have y1 : σ.1 26 x 1 = f.2.1 := by rw [← x3]; rfl
  have y2 : σ.1 26 x 2 = f.2.2.1 := by rw [← x3]; rfl
  have y3 : σ.1 26 x 3 = f.2.2.2 := by rw [← x3]; rfl
  refine ⟨?_, ?_, ?_, ?_⟩ <;> simp (disch := omega) only [gd_t, gd_T, bx_some, bx_thr, bd_def, nx_in, ↓nO_eq, l0, l1, l2, l3, l4, l5, l6, l7, l8, l9, l10, l12, l13, l16, l17, l18, l25, l30, l32, l33, l50, l64, l100, l200, l448, l1200, iN_add, iN_lt, iN_le, iN_inj, iN_clamp, iN_inb, iN_nO, nO_iN, nO_lt, iN_ltm, iN_lem, nO_le, iN_pred, if_pos, if_neg, ↓reduceIte, or_true, true_or, and_true, true_and, ne_eq, not_true_eq_false, not_false_eq_true, false_or, or_false, and_false, false_and, f_X9_faultAt, c_unitAt C.1 G.1 hu, x1, y0, y1, y2, y3]
theorem z_ran {σ : Wd} {A : Ab} (C : RC σ A) (G : Gd A) {d t : Nat} (hd : d < nD A) (ht : t < nT A) : f_X9_ran σ (iN d) (iN t) = some (.inl (A.1 55 d t), σ) := by
  have g7 := G.2.1
  have gT := G.2.2.1
  have S := C.2.2.2.2.2.2.1.1
  have hr : f_X9_checkRange σ (iN t) (iN 0) (iN (nT A) - iN 1) = some (.inl (), σ) := by
    simp (disch := omega) only [gd_t, gd_T, bx_some, bx_thr, bd_def, nx_in, ↓nO_eq, l0, l1, l2, l3, l4, l5, l6, l7, l8, l9, l10, l12, l13, l16, l17, l18, l25, l30, l32, l33, l50, l64, l100, l200, l448, l1200, iN_add, iN_lt, iN_le, iN_inj, iN_clamp, iN_inb, iN_nO, nO_iN, nO_lt, iN_ltm, iN_lem, nO_le, iN_pred, if_pos, if_neg, ↓reduceIte, or_true, true_or, and_true, true_and, ne_eq, not_true_eq_false, not_false_eq_true, false_or, or_false, and_false, false_and, f_X9_checkRange, iN_sub]
  have hg := C.2.2.2.2.2.2.2 d (by omega) t (by omega)
  have hc : t * 6 + d = 6 * t + d := by omega
  simp (disch := omega) only [gd_t, gd_T, bx_some, bx_thr, bd_def, nx_in, ↓nO_eq, l0, l1, l2, l3, l4, l5, l6, l7, l8, l9, l10, l12, l13, l16, l17, l18, l25, l30, l32, l33, l50, l64, l100, l200, l448, l1200, iN_add, iN_lt, iN_le, iN_inj, iN_clamp, iN_inb, iN_nO, nO_iN, nO_lt, iN_ltm, iN_lem, nO_le, iN_pred, if_pos, if_neg, ↓reduceIte, or_true, true_or, and_true, true_and, ne_eq, not_true_eq_false, not_false_eq_true, false_or, or_false, and_false, false_and, f_X9_ran, c_sz1 C.1, c_num (σ := σ) hd, S, hr, f_X4_unitThatRan, iN_mul, hc, hg]
theorem z_stands {σ : Wd} {A : Ab} (C : RC σ A) (G : Gd A) {aw : Nat → Prop} (W : Gr A aw) {d p : Nat} (hd : d < 3) (hl : p < (rw_ A d).length) {x : Nat} (hx : (rw_ A d)[(rw_ A d).length - 1 - p]? = some x) : f_X9_stands σ (iN d) (iN p) = some (.inl (iN x), σ) := by
  obtain ⟨h6, hb⟩ := W.len G.1 hd
  obtain ⟨r1, r2⟩ := C.2.2.2.2.2.1 d hd
  have := r2 _ _ hx
  simp (disch := omega) only [gd_t, gd_T, bx_some, bx_thr, bd_def, nx_in, ↓nO_eq, l0, l1, l2, l3, l4, l5, l6, l7, l8, l9, l10, l12, l13, l16, l17, l18, l25, l30, l32, l33, l50, l64, l100, l200, l448, l1200, iN_add, iN_lt, iN_le, iN_inj, iN_clamp, iN_inb, iN_nO, nO_iN, nO_lt, iN_ltm, iN_lem, nO_le, iN_pred, if_pos, if_neg, ↓reduceIte, or_true, true_or, and_true, true_and, ne_eq, not_true_eq_false, not_false_eq_true, false_or, or_false, and_false, false_and, f_X9_stands, c_rowAt (σ := σ) hd, f_X6_fromExit, r1, iN_sub, this]
theorem z_standsN {σ : Wd} {A : Ab} (C : RC σ A) (G : Gd A) {aw : Nat → Prop} (W : Gr A aw) {d : Nat} (hd : d < 3) : f_X9_stands σ (iN d) (iN (rw_ A d).length) = some (.inl nO, σ) := by
  obtain ⟨h6, hb⟩ := W.len G.1 hd
  obtain ⟨r1, r2⟩ := C.2.2.2.2.2.1 d hd
  have := neg3 (a := (rw_ A d).length) (p := (rw_ A d).length) (by omega) (by omega) (by omega)
  simp (disch := omega) only [gd_t, gd_T, bx_some, bx_thr, bd_def, nx_in, ↓nO_eq, l0, l1, l2, l3, l4, l5, l6, l7, l8, l9, l10, l12, l13, l16, l17, l18, l25, l30, l32, l33, l50, l64, l100, l200, l448, l1200, iN_add, iN_lt, iN_le, iN_inj, iN_clamp, iN_inb, iN_nO, nO_iN, nO_lt, iN_ltm, iN_lem, nO_le, iN_pred, if_pos, if_neg, ↓reduceIte, or_true, true_or, and_true, true_and, ne_eq, not_true_eq_false, not_false_eq_true, false_or, or_false, and_false, false_and, f_X9_stands, c_rowAt (σ := σ) hd, f_X6_fromExit, r1, this]
theorem z_about {σ : Wd} {A : Ab} (C : RC σ A) (G : Gd A) (W : Gr A (fun _ => False)) {u : Nat} (hu : u < nU A) : f_X9_about σ (iN u) (iN 0) = some (.inl (A.1 31 u 0), σ) ∧ f_X9_about σ (iN u) (iN 1) = some (.inl (A.1 33 u 0), σ) ∧ f_X9_about σ (iN u) (iN 2) = some (.inl (iN (fl A u).length), σ) ∧ (∀ d, d < 3 → A.1 31 u 0 = iN d → u ∈ rw_ A d → f_X9_about σ (iN u) (iN 3) = some (.inl (iN ((rw_ A d).length - 1 - (rw_ A d).idxOf u)), σ)) ∧ f_X9_about σ (iN u) (iN 4) = some (.inl (bI (soonS A u)), σ) ∧ f_X9_about σ (iN u) (iN 5) = some (.inl (obits (due A u (iN 0) 0) (due A u (iN 0) 1) (due A u (iN 0) 2)), σ) := by
  have e8 := C.1.1
  have g6 := G.1
  have g8 := (G.2.2.2.1 u hu).1
  obtain ⟨c0, c2, c3, _⟩ := C.2.2.1 u hu
  have n10 : ¬ iN 1 = iN 0 := by decide
  refine ⟨?_, ?_, ?_, fun d hd hdep hin => ?_, ?_, ?_⟩
  · simp (disch := omega) only [gd_t, gd_T, bx_some, bx_thr, bd_def, nx_in, ↓nO_eq, l0, l1, l2, l3, l4, l5, l6, l7, l8, l9, l10, l12, l13, l16, l17, l18, l25, l30, l32, l33, l50, l64, l100, l200, l448, l1200, iN_add, iN_lt, iN_le, iN_inj, iN_clamp, iN_inb, iN_nO, nO_iN, nO_lt, iN_ltm, iN_lem, nO_le, iN_pred, if_pos, if_neg, ↓reduceIte, or_true, true_or, and_true, true_and, ne_eq, not_true_eq_false, not_false_eq_true, false_or, or_false, and_false, false_and, f_X9_about, c_unitAt C.1 g6 hu, c2]
  · simp (disch := omega) only [gd_t, gd_T, bx_some, bx_thr, bd_def, nx_in, ↓nO_eq, l0, l1, l2, l3, l4, l5, l6, l7, l8, l9, l10, l12, l13, l16, l17, l18, l25, l30, l32, l33, l50, l64, l100, l200, l448, l1200, iN_add, iN_lt, iN_le, iN_inj, iN_clamp, iN_inb, iN_nO, nO_iN, nO_lt, iN_ltm, iN_lem, nO_le, iN_pred, if_pos, if_neg, ↓reduceIte, or_true, true_or, and_true, true_and, ne_eq, not_true_eq_false, not_false_eq_true, false_or, or_false, and_false, false_and, f_X9_about, c_unitAt C.1 g6 hu, c3]
  · simp (disch := omega) only [gd_t, gd_T, bx_some, bx_thr, bd_def, nx_in, ↓nO_eq, l0, l1, l2, l3, l4, l5, l6, l7, l8, l9, l10, l12, l13, l16, l17, l18, l25, l30, l32, l33, l50, l64, l100, l200, l448, l1200, iN_add, iN_lt, iN_le, iN_inj, iN_clamp, iN_inb, iN_nO, nO_iN, nO_lt, iN_ltm, iN_lem, nO_le, iN_pred, if_pos, if_neg, ↓reduceIte, or_true, true_or, and_true, true_and, ne_eq, not_true_eq_false, not_false_eq_true, false_or, or_false, and_false, false_and, f_X9_about, c_unitAt C.1 g6 hu, c_szf C.1 C.2.1 hu]
  · obtain ⟨h6, hb⟩ := W.len G.1 hd
    simp (disch := omega) only [gd_t, gd_T, bx_some, bx_thr, bd_def, nx_in, ↓nO_eq, l0, l1, l2, l3, l4, l5, l6, l7, l8, l9, l10, l12, l13, l16, l17, l18, l25, l30, l32, l33, l50, l64, l100, l200, l448, l1200, iN_add, iN_lt, iN_le, iN_inj, iN_clamp, iN_inb, iN_nO, nO_iN, nO_lt, iN_ltm, iN_lem, nO_le, iN_pred, if_pos, if_neg, ↓reduceIte, or_true, true_or, and_true, true_and, ne_eq, not_true_eq_false, not_false_eq_true, false_or, or_false, and_false, false_and, f_X9_about, c_unitAt C.1 g6 hu, c2, hdep, c_rowAt (σ := σ) hd, k_behind C.2.2.2.2.2.1 hd (by omega : u < 6) h6 hb hin]
  · have := k_soon C.1 C.2.2.2.2.1 C.2.2.1 hu
    generalize soonS A u = b at *
    cases b <;> simp (disch := omega) only [gd_t, gd_T, bx_some, bx_thr, bd_def, nx_in, ↓nO_eq, l0, l1, l2, l3, l4, l5, l6, l7, l8, l9, l10, l12, l13, l16, l17, l18, l25, l30, l32, l33, l50, l64, l100, l200, l448, l1200, iN_add, iN_lt, iN_le, iN_inj, iN_clamp, iN_inb, iN_nO, nO_iN, nO_lt, iN_ltm, iN_lem, nO_le, iN_pred, if_pos, if_neg, ↓reduceIte, or_true, true_or, and_true, true_and, ne_eq, not_true_eq_false, not_false_eq_true, false_or, or_false, and_false, false_and, f_X9_about, c_unitAt C.1 g6 hu, this, bI_t, bI_f]
  · simp (disch := omega) only [gd_t, gd_T, bx_some, bx_thr, bd_def, nx_in, ↓nO_eq, l0, l1, l2, l3, l4, l5, l6, l7, l8, l9, l10, l12, l13, l16, l17, l18, l25, l30, l32, l33, l50, l64, l100, l200, l448, l1200, iN_add, iN_lt, iN_le, iN_inj, iN_clamp, iN_inb, iN_nO, nO_iN, nO_lt, iN_ltm, iN_lem, nO_le, iN_pred, if_pos, if_neg, ↓reduceIte, or_true, true_or, and_true, true_and, ne_eq, not_true_eq_false, not_false_eq_true, false_or, or_false, and_false, false_and, f_X9_about, c_unitAt C.1 g6 hu, f_X7_overdueBits, k_bits C.1 C.2.2.2.2.1 C.2.2.1 hu (iN 0)]
theorem z_alloc {σ : Wd} {A : Ab} (C : RC σ A) (G : Gd A) {d : Nat} (hd : d < nD A) : ∃ σ' c, f_X9_allocation σ (iN d) = some (.inl (chv (nU A) c), σ') ∧ (bestA A)[d]? = some c ∧ CS σ σ' ∧ RC σ' A := by
  have g6 := G.1
  have g7 := G.2.1
  obtain ⟨σ1, q1, q2, q3⟩ := k_read C G
  obtain ⟨σ2, z1, z2, z3⟩ := parts_ok G q3
  obtain ⟨c, hc, hcn, ha⟩ := giv_at g7 z3 hd
  have hF := q2.tr z2.fm
  refine ⟨σ2, c, ?_, hc, hF.cs, C.fm hF⟩
  simp (disch := omega) only [gd_t, gd_T, bx_some, bx_thr, bd_def, nx_in, ↓nO_eq, l0, l1, l2, l3, l4, l5, l6, l7, l8, l9, l10, l12, l13, l16, l17, l18, l25, l30, l32, l33, l50, l64, l100, l200, l448, l1200, iN_add, iN_lt, iN_le, iN_inj, iN_clamp, iN_inb, iN_nO, nO_iN, nO_lt, iN_ltm, iN_lem, nO_le, iN_pred, if_pos, if_neg, ↓reduceIte, or_true, true_or, and_true, true_and, ne_eq, not_true_eq_false, not_false_eq_true, false_or, or_false, and_false, false_and, f_X9_allocation, c_sz1 C.1, c_num (σ := σ) hd, q1, z1, f_X3_givenTo, ha]
theorem z_anew {σ : Wd} {A : Ab} (C : RC σ A) (G : Gd A) (h4 : nD A ≤ 4) {d : Nat} (hd : d < nD A) : ∃ σ' c, f_X9_allocationAnew σ (iN d) = some (.inl (chv (nU A) c), σ') ∧ (bestA A)[d]? = some c ∧ CS σ σ' ∧ RC σ' A := by
  have g6 := G.1
  have g7 := G.2.1
  obtain ⟨σ1, q1, q2, q3⟩ := k_read C G
  obtain ⟨σ2, z1, z2, z3⟩ := all_ok G q3 h4
  obtain ⟨c, hc, hcn, ha⟩ := giv_at g7 z3 hd
  have hF := q2.tr z2.fm
  refine ⟨σ2, c, ?_, hc, hF.cs, C.fm hF⟩
  simp (disch := omega) only [gd_t, gd_T, bx_some, bx_thr, bd_def, nx_in, ↓nO_eq, l0, l1, l2, l3, l4, l5, l6, l7, l8, l9, l10, l12, l13, l16, l17, l18, l25, l30, l32, l33, l50, l64, l100, l200, l448, l1200, iN_add, iN_lt, iN_le, iN_inj, iN_clamp, iN_inb, iN_nO, nO_iN, nO_lt, iN_ltm, iN_lem, nO_le, iN_pred, if_pos, if_neg, ↓reduceIte, or_true, true_or, and_true, true_and, ne_eq, not_true_eq_false, not_false_eq_true, false_or, or_false, and_false, false_and, f_X9_allocationAnew, c_sz1 C.1, c_num (σ := σ) hd, q1, z1, f_X3_givenTo, ha]
theorem z_lack {σ : Wd} {A : Ab} (C : RC σ A) (G : Gd A) : ∃ σ', f_X9_lack σ = some (.inl (iN (lk (PA A) 0 (bestA A))), σ') ∧ CS σ σ' ∧ RC σ' A := by
  obtain ⟨σ1, q1, q2, q3⟩ := k_read C G
  obtain ⟨σ2, z1, z2, z3⟩ := parts_ok G q3
  have hF := q2.tr z2.fm
  have hl := lack_ok (q3.f18 z2) G z3
  refine ⟨σ2, ?_, hF.cs, C.fm hF⟩
  simp (disch := omega) only [gd_t, gd_T, bx_some, bx_thr, bd_def, nx_in, ↓nO_eq, l0, l1, l2, l3, l4, l5, l6, l7, l8, l9, l10, l12, l13, l16, l17, l18, l25, l30, l32, l33, l50, l64, l100, l200, l448, l1200, iN_add, iN_lt, iN_le, iN_inj, iN_clamp, iN_inb, iN_nO, nO_iN, nO_lt, iN_ltm, iN_lem, nO_le, iN_pred, if_pos, if_neg, ↓reduceIte, or_true, true_or, and_true, true_and, ne_eq, not_true_eq_false, not_false_eq_true, false_or, or_false, and_false, false_and, f_X9_lack, q1, z1, hl]
