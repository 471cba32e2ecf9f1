/-! what is asked of lists and numbers -/
theorem g_get {σ : Wd} {i j m : Nat} (h1 : i < 2 + σ.2.2 8) (h2 : i < 8) (h3 : σ.2.2 (20 + i) ≠ 0) (h4 : σ.1 1 i 2 = iN m) (h5 : j < m) (h6 : m ≤ 10) (h7 : σ.2.1 i j ≠ 0) : f_Jx4a65c_get_915e3 σ i (iN j) = some (.inl (σ.2.1 i j - 1), σ) := by
  simp (disch := omega) only [gd_t, bx_some, bx_thr, bd_def, nx_in, ↓nO_eq, l0, l1, l2, l3, l4, l5, l6, l7, l8, l30, l50, l64, l100, l200, l448, l1200, iN_add, iN_lt, iN_le, iN_inj, iN_clamp, iN_inb, iN_nO, nO_iN, nO_lt, iN_ltm, iN_lem, nO_le, iN_pred, if_pos, if_neg, ↓reduceIte, f_Jx4a65c_get_915e3, f_J15_checkIndex_7cf53, f_J3_checkIndex_8e157, f_Jx4a65c_elementData_915e3, h4]
theorem c_sz0 {σ : Wd} {A : Ab} (H : RCl σ A) : f_Jx4a65c_size_8abf5 σ 0 = some (.inl (iN (nU A)), σ) := by
  unfold f_Jx4a65c_size_8abf5
  rw [gd_t (by omega), H.2.2.1]
theorem c_sz1 {σ : Wd} {A : Ab} (H : RCl σ A) : f_Jx4a65c_size_8abf5 σ 1 = some (.inl (iN (nD A)), σ) := by
  unfold f_Jx4a65c_size_8abf5
  rw [gd_t (by omega), H.2.2.2.1]
theorem c_szf {σ : Wd} {A : Ab} (H : RCl σ A) (F : RCf σ A) {u : Nat} (hu : u < nU A) : f_Jx4a65c_size_8abf5 σ (u + 2) = some (.inl (iN (fl A u).length), σ) := by
  unfold f_Jx4a65c_size_8abf5
  rw [gd_t (by rw [H.1]; omega), (F.1 u hu).1]
theorem c_unitAt {σ : Wd} {A : Ab} (H : RCl σ A) (hn : nU A ≤ 6) {u : Nat} (hu : u < nU A) : f_X9_unitAt σ (iN u) = some (.inl u, σ) := by
  have e : σ.2.1 0 u = u + 1 := by rw [H.2.2.2.2.1 u (by omega), if_pos hu]
  have e1 := g_get (σ := σ) (i := 0) (j := u) (m := nU A) (by omega) (by decide) (H.2.2.2.2.2.2.1 (by omega)) H.2.2.1 hu (by omega) (by omega)
  have e8 := H.1
  simp (disch := omega) only [gd_t, bx_some, bx_thr, bd_def, nx_in, ↓nO_eq, l0, l1, l2, l3, l4, l5, l6, l7, l8, l30, l50, l64, l100, l200, l448, l1200, iN_add, iN_lt, iN_le, iN_inj, iN_clamp, iN_inb, iN_nO, nO_iN, nO_lt, iN_ltm, iN_lem, nO_le, iN_pred, if_pos, if_neg, ↓reduceIte, f_X9_unitAt, c_sz0 H, e1, e, j_X9_unitAt_30b, Nat.add_sub_cancel]
theorem c_unitAt_no {σ : Wd} {A : Ab} (H : RCl σ A) {p : Int32} (hp : p < iN 0 ∨ ¬ p < iN 0 ∧ iN (nU A) ≤ p) : f_X9_unitAt σ p = some (.inr "java/lang/IndexOutOfBoundsException", σ) := by
  rcases hp with h | ⟨h, h2⟩
  · simp (disch := omega) only [gd_t, bx_some, bx_thr, bd_def, nx_in, ↓nO_eq, l0, l1, l2, l3, l4, l5, l6, l7, l8, l30, l50, l64, l100, l200, l448, l1200, iN_add, iN_lt, iN_le, iN_inj, iN_clamp, iN_inb, iN_nO, nO_iN, nO_lt, iN_ltm, iN_lem, nO_le, iN_pred, if_pos, if_neg, ↓reduceIte, f_X9_unitAt, h, j_X9_unitAt_29, j_X9_unitAt_30]
  · simp (disch := omega) only [gd_t, bx_some, bx_thr, bd_def, nx_in, ↓nO_eq, l0, l1, l2, l3, l4, l5, l6, l7, l8, l30, l50, l64, l100, l200, l448, l1200, iN_add, iN_lt, iN_le, iN_inj, iN_clamp, iN_inb, iN_nO, nO_iN, nO_lt, iN_ltm, iN_lem, nO_le, iN_pred, if_pos, if_neg, ↓reduceIte, f_X9_unitAt, h, h2, c_sz0 H, j_X9_unitAt_29, j_X9_unitAt_30]
theorem c_diagramAt {σ : Wd} {A : Ab} (H : RCl σ A) (hn : nD A ≤ 6) {u : Nat} (hu : u < nD A) : f_X9_diagramAt σ (iN u) = some (.inl u, σ) := by
  have e : σ.2.1 1 u = u + 1 := by rw [H.2.2.2.2.2.1 u (by omega), if_pos hu]
  have e1 := g_get (σ := σ) (i := 1) (j := u) (m := nD A) (by omega) (by decide) (H.2.2.2.2.2.2.2 (by omega)) H.2.2.2.1 hu (by omega) (by omega)
  have e8 := H.2.1
  simp (disch := omega) only [gd_t, bx_some, bx_thr, bd_def, nx_in, ↓nO_eq, l0, l1, l2, l3, l4, l5, l6, l7, l8, l30, l50, l64, l100, l200, l448, l1200, iN_add, iN_lt, iN_le, iN_inj, iN_clamp, iN_inb, iN_nO, nO_iN, nO_lt, iN_ltm, iN_lem, nO_le, iN_pred, if_pos, if_neg, ↓reduceIte, f_X9_diagramAt, c_sz1 H, e1, e, j_X9_diagramAt_30b, Nat.add_sub_cancel]
theorem c_diagramAt_no {σ : Wd} {A : Ab} (H : RCl σ A) {p : Int32} (hp : p < iN 0 ∨ ¬ p < iN 0 ∧ iN (nD A) ≤ p) : f_X9_diagramAt σ p = some (.inr "java/lang/IndexOutOfBoundsException", σ) := by
  rcases hp with h | ⟨h, h2⟩
  · simp (disch := omega) only [gd_t, bx_some, bx_thr, bd_def, nx_in, ↓nO_eq, l0, l1, l2, l3, l4, l5, l6, l7, l8, l30, l50, l64, l100, l200, l448, l1200, iN_add, iN_lt, iN_le, iN_inj, iN_clamp, iN_inb, iN_nO, nO_iN, nO_lt, iN_ltm, iN_lem, nO_le, iN_pred, if_pos, if_neg, ↓reduceIte, f_X9_diagramAt, h, j_X9_diagramAt_29, j_X9_diagramAt_30]
  · simp (disch := omega) only [gd_t, bx_some, bx_thr, bd_def, nx_in, ↓nO_eq, l0, l1, l2, l3, l4, l5, l6, l7, l8, l30, l50, l64, l100, l200, l448, l1200, iN_add, iN_lt, iN_le, iN_inj, iN_clamp, iN_inb, iN_nO, nO_iN, nO_lt, iN_ltm, iN_lem, nO_le, iN_pred, if_pos, if_neg, ↓reduceIte, f_X9_diagramAt, h, h2, c_sz1 H, j_X9_diagramAt_29, j_X9_diagramAt_30]
theorem c_rowAt {σ : Wd} {d : Nat} (hd : d < 3) : f_X9_rowAt σ (iN d) = some (.inl d, σ) := by
  simp (disch := omega) only [gd_t, bx_some, bx_thr, bd_def, nx_in, ↓nO_eq, l0, l1, l2, l3, l4, l5, l6, l7, l8, l30, l50, l64, l100, l200, l448, l1200, iN_add, iN_lt, iN_le, iN_inj, iN_clamp, iN_inb, iN_nO, nO_iN, nO_lt, iN_ltm, iN_lem, nO_le, iN_pred, if_pos, if_neg, ↓reduceIte, f_X9_rowAt, j_X9_rowAt_23b]
theorem c_rowAt_no {σ : Wd} {p : Int32} (hp : p < iN 0 ∨ ¬ p < iN 0 ∧ iN 3 ≤ p) : f_X9_rowAt σ p = some (.inr "java/lang/IndexOutOfBoundsException", σ) := by
  rcases hp with h | ⟨h, h2⟩
  · simp (disch := omega) only [gd_t, bx_some, bx_thr, bd_def, nx_in, ↓nO_eq, l0, l1, l2, l3, l4, l5, l6, l7, l8, l30, l50, l64, l100, l200, l448, l1200, iN_add, iN_lt, iN_le, iN_inj, iN_clamp, iN_inb, iN_nO, nO_iN, nO_lt, iN_ltm, iN_lem, nO_le, iN_pred, if_pos, if_neg, ↓reduceIte, f_X9_rowAt, h, j_X9_rowAt_22, j_X9_rowAt_23]
  · simp (disch := omega) only [gd_t, bx_some, bx_thr, bd_def, nx_in, ↓nO_eq, l0, l1, l2, l3, l4, l5, l6, l7, l8, l30, l50, l64, l100, l200, l448, l1200, iN_add, iN_lt, iN_le, iN_inj, iN_clamp, iN_inb, iN_nO, nO_iN, nO_lt, iN_ltm, iN_lem, nO_le, iN_pred, if_pos, if_neg, ↓reduceIte, f_X9_rowAt, h, h2, j_X9_rowAt_22, j_X9_rowAt_23]
theorem c_examAt {σ : Wd} {d : Nat} (hd : d < 3) : f_X7_examAt σ (iN d) = some (.inl d, σ) := by
  simp (disch := omega) only [gd_t, bx_some, bx_thr, bd_def, nx_in, ↓nO_eq, l0, l1, l2, l3, l4, l5, l6, l7, l8, l30, l50, l64, l100, l200, l448, l1200, iN_add, iN_lt, iN_le, iN_inj, iN_clamp, iN_inb, iN_nO, nO_iN, nO_lt, iN_ltm, iN_lem, nO_le, iN_pred, if_pos, if_neg, ↓reduceIte, f_X7_examAt, j_X7_examAt_23b]
theorem c_examAt_no {σ : Wd} {p : Int32} (hp : p < iN 0 ∨ ¬ p < iN 0 ∧ iN 3 ≤ p) : f_X7_examAt σ p = some (.inr "java/lang/IndexOutOfBoundsException", σ) := by
  rcases hp with h | ⟨h, h2⟩
  · simp (disch := omega) only [gd_t, bx_some, bx_thr, bd_def, nx_in, ↓nO_eq, l0, l1, l2, l3, l4, l5, l6, l7, l8, l30, l50, l64, l100, l200, l448, l1200, iN_add, iN_lt, iN_le, iN_inj, iN_clamp, iN_inb, iN_nO, nO_iN, nO_lt, iN_ltm, iN_lem, nO_le, iN_pred, if_pos, if_neg, ↓reduceIte, f_X7_examAt, h, j_X7_examAt_22, j_X7_examAt_23]
  · simp (disch := omega) only [gd_t, bx_some, bx_thr, bd_def, nx_in, ↓nO_eq, l0, l1, l2, l3, l4, l5, l6, l7, l8, l30, l50, l64, l100, l200, l448, l1200, iN_add, iN_lt, iN_le, iN_inj, iN_clamp, iN_inb, iN_nO, nO_iN, nO_lt, iN_ltm, iN_lem, nO_le, iN_pred, if_pos, if_neg, ↓reduceIte, f_X7_examAt, h, h2, j_X7_examAt_22, j_X7_examAt_23]
theorem c_permitAt {σ : Wd} {d : Nat} (hd : d < 4) : f_X7_permitAt σ (iN d) = some (.inl d, σ) := by
  simp (disch := omega) only [gd_t, bx_some, bx_thr, bd_def, nx_in, ↓nO_eq, l0, l1, l2, l3, l4, l5, l6, l7, l8, l30, l50, l64, l100, l200, l448, l1200, iN_add, iN_lt, iN_le, iN_inj, iN_clamp, iN_inb, iN_nO, nO_iN, nO_lt, iN_ltm, iN_lem, nO_le, iN_pred, if_pos, if_neg, ↓reduceIte, f_X7_permitAt, j_X7_permitAt_23b]
theorem c_permitAt_no {σ : Wd} {p : Int32} (hp : p < iN 0 ∨ ¬ p < iN 0 ∧ iN 4 ≤ p) : f_X7_permitAt σ p = some (.inr "java/lang/IndexOutOfBoundsException", σ) := by
  rcases hp with h | ⟨h, h2⟩
  · simp (disch := omega) only [gd_t, bx_some, bx_thr, bd_def, nx_in, ↓nO_eq, l0, l1, l2, l3, l4, l5, l6, l7, l8, l30, l50, l64, l100, l200, l448, l1200, iN_add, iN_lt, iN_le, iN_inj, iN_clamp, iN_inb, iN_nO, nO_iN, nO_lt, iN_ltm, iN_lem, nO_le, iN_pred, if_pos, if_neg, ↓reduceIte, f_X7_permitAt, h, j_X7_permitAt_22, j_X7_permitAt_23]
  · simp (disch := omega) only [gd_t, bx_some, bx_thr, bd_def, nx_in, ↓nO_eq, l0, l1, l2, l3, l4, l5, l6, l7, l8, l30, l50, l64, l100, l200, l448, l1200, iN_add, iN_lt, iN_le, iN_inj, iN_clamp, iN_inb, iN_nO, nO_iN, nO_lt, iN_ltm, iN_lem, nO_le, iN_pred, if_pos, if_neg, ↓reduceIte, f_X7_permitAt, h, h2, j_X7_permitAt_22, j_X7_permitAt_23]
theorem c_faultAt {σ : Wd} {A : Ab} (H : RCl σ A) (F : RCf σ A) (hn : nU A ≤ 6) {u : Nat} (hu : u < nU A) (h8 : (fl A u).length ≤ 8) {j : Nat} {f : Fa} (hj : (fl A u)[j]? = some f) : ∃ x, f_X8_faultAtPlace σ u (iN j) = some (.inl x, σ) ∧ x < σ.2.2 10 ∧ rdF σ x = f := by
  obtain ⟨f1, f2, f3⟩ := F.1 u hu
  obtain ⟨g1, g2, g3⟩ := f3 j f hj
  have hl : j < (fl A u).length := (List.getElem?_eq_some_iff.mp hj).1
  have e8 := H.1
  have e1 := g_get (σ := σ) (i := u + 2) (j := j) (m := (fl A u).length) (by omega) (by omega) (f2 (fun z => by rw [z] at hl; exact absurd hl (Nat.not_lt_zero _))) f1 hl (by omega) g1
  refine ⟨_, ?_, g2, g3⟩
  simp (disch := omega) only [gd_t, bx_some, bx_thr, bd_def, nx_in, ↓nO_eq, l0, l1, l2, l3, l4, l5, l6, l7, l8, l30, l50, l64, l100, l200, l448, l1200, iN_add, iN_lt, iN_le, iN_inj, iN_clamp, iN_inb, iN_nO, nO_iN, nO_lt, iN_ltm, iN_lem, nO_le, iN_pred, if_pos, if_neg, ↓reduceIte, f_X8_faultAtPlace, c_szf H F hu, e1, j_X8_faultAtPlace_30b]
theorem c_faultAt_no {σ : Wd} {A : Ab} (H : RCl σ A) (F : RCf σ A) {u : Nat} (hu : u < nU A) {p : Int32} (hp : p < iN 0 ∨ ¬ p < iN 0 ∧ iN (fl A u).length ≤ p) : f_X8_faultAtPlace σ u p = some (.inr "java/lang/IndexOutOfBoundsException", σ) := by
  have e8 := H.1
  rcases hp with h | ⟨h, h2⟩
  · simp (disch := omega) only [gd_t, bx_some, bx_thr, bd_def, nx_in, ↓nO_eq, l0, l1, l2, l3, l4, l5, l6, l7, l8, l30, l50, l64, l100, l200, l448, l1200, iN_add, iN_lt, iN_le, iN_inj, iN_clamp, iN_inb, iN_nO, nO_iN, nO_lt, iN_ltm, iN_lem, nO_le, iN_pred, if_pos, if_neg, ↓reduceIte, f_X8_faultAtPlace, h, j_X8_faultAtPlace_29, j_X8_faultAtPlace_30]
  · simp (disch := omega) only [gd_t, bx_some, bx_thr, bd_def, nx_in, ↓nO_eq, l0, l1, l2, l3, l4, l5, l6, l7, l8, l30, l50, l64, l100, l200, l448, l1200, iN_add, iN_lt, iN_le, iN_inj, iN_clamp, iN_inb, iN_nO, nO_iN, nO_lt, iN_ltm, iN_lem, nO_le, iN_pred, if_pos, if_neg, ↓reduceIte, f_X8_faultAtPlace, h, h2, c_szf H F hu, j_X8_faultAtPlace_29, j_X8_faultAtPlace_30]
theorem c_num {σ : Wd} {d n : Nat} (hd : d < n) (hn : n < 2147483648) : f_X9_checkNumber σ (iN d) (iN n) = some (.inl (), σ) := by
  simp (disch := omega) only [gd_t, bx_some, bx_thr, bd_def, nx_in, ↓nO_eq, l0, l1, l2, l3, l4, l5, l6, l7, l8, l30, l50, l64, l100, l200, l448, l1200, iN_add, iN_lt, iN_le, iN_inj, iN_clamp, iN_inb, iN_nO, nO_iN, nO_lt, iN_ltm, iN_lem, nO_le, iN_pred, if_pos, if_neg, ↓reduceIte, f_X9_checkNumber]
theorem c_num_no {σ : Wd} {p : Int32} {n : Nat} (hp : p < iN 0 ∨ ¬ p < iN 0 ∧ iN n ≤ p) : f_X9_checkNumber σ p (iN n) = some (.inr "java/lang/IndexOutOfBoundsException", σ) := by
  rcases hp with h | ⟨h, h2⟩
  · simp (disch := omega) only [gd_t, bx_some, bx_thr, bd_def, nx_in, ↓nO_eq, l0, l1, l2, l3, l4, l5, l6, l7, l8, l30, l50, l64, l100, l200, l448, l1200, iN_add, iN_lt, iN_le, iN_inj, iN_clamp, iN_inb, iN_nO, nO_iN, nO_lt, iN_ltm, iN_lem, nO_le, iN_pred, if_pos, if_neg, ↓reduceIte, f_X9_checkNumber, h]
  · have h3 : ¬ p < iN n := fun z => le_not.mpr z h2
    simp (disch := omega) only [gd_t, bx_some, bx_thr, bd_def, nx_in, ↓nO_eq, l0, l1, l2, l3, l4, l5, l6, l7, l8, l30, l50, l64, l100, l200, l448, l1200, iN_add, iN_lt, iN_le, iN_inj, iN_clamp, iN_inb, iN_nO, nO_iN, nO_lt, iN_ltm, iN_lem, nO_le, iN_pred, if_pos, if_neg, ↓reduceIte, f_X9_checkNumber, h, h3]
/-! the reference's tests -/
theorem pred_lt {n : Nat} (hn : n < 2147483648) (p : Int32) : (iN n - iN 1 < p) ↔ iN n ≤ p := by
  rw [Int32.lt_iff_toInt_lt, Int32.le_iff_toInt_le, Int32.toInt_sub, iN_toInt hn, iN_toInt (by decide), Int.bmod_eq_of_le (by omega) (by omega)]
  omega
theorem b_in {σ : Wd} {u n : Nat} (hu : u < n) (hn : n < 2147483648) : f_X10_between σ (iN u) (iN 0) (iN n - iN 1) = some (.inl (iN 1), σ) := by
  simp (disch := omega) only [gd_t, bx_some, bx_thr, bd_def, nx_in, ↓nO_eq, l0, l1, l2, l3, l4, l5, l6, l7, l8, l30, l50, l64, l100, l200, l448, l1200, iN_add, iN_lt, iN_le, iN_inj, iN_clamp, iN_inb, iN_nO, nO_iN, nO_lt, iN_ltm, iN_lem, nO_le, iN_pred, if_pos, if_neg, ↓reduceIte, f_X10_between, pred_lt]
theorem b_out {σ : Wd} {p : Int32} {n : Nat} (hn : n < 2147483648) (hp : p < iN 0 ∨ ¬ p < iN 0 ∧ iN n ≤ p) : f_X10_between σ p (iN 0) (iN n - iN 1) = some (.inl (iN 0), σ) := by
  rcases hp with h | ⟨h, h2⟩
  · simp (disch := omega) only [gd_t, bx_some, bx_thr, bd_def, nx_in, ↓nO_eq, l0, l1, l2, l3, l4, l5, l6, l7, l8, l30, l50, l64, l100, l200, l448, l1200, iN_add, iN_lt, iN_le, iN_inj, iN_clamp, iN_inb, iN_nO, nO_iN, nO_lt, iN_ltm, iN_lem, nO_le, iN_pred, if_pos, if_neg, ↓reduceIte, f_X10_between, h]
  · simp (disch := omega) only [gd_t, bx_some, bx_thr, bd_def, nx_in, ↓nO_eq, l0, l1, l2, l3, l4, l5, l6, l7, l8, l30, l50, l64, l100, l200, l448, l1200, iN_add, iN_lt, iN_le, iN_inj, iN_clamp, iN_inb, iN_nO, nO_iN, nO_lt, iN_ltm, iN_lem, nO_le, iN_pred, if_pos, if_neg, ↓reduceIte, f_X10_between, h, pred_lt, h2]
theorem b_inL {σ : Wd} {u m : Nat} (hu : u < m + 1) (hn : m < 2147483647) : f_X10_between σ (iN u) (iN 0) (iN m) = some (.inl (iN 1), σ) := by
  simp (disch := omega) only [gd_t, bx_some, bx_thr, bd_def, nx_in, ↓nO_eq, l0, l1, l2, l3, l4, l5, l6, l7, l8, l30, l50, l64, l100, l200, l448, l1200, iN_add, iN_lt, iN_le, iN_inj, iN_clamp, iN_inb, iN_nO, nO_iN, nO_lt, iN_ltm, iN_lem, nO_le, iN_pred, if_pos, if_neg, ↓reduceIte, f_X10_between]
theorem b_outL {σ : Wd} {p : Int32} {m : Nat} (hn : m < 2147483647) (hp : p < iN 0 ∨ ¬ p < iN 0 ∧ iN (m + 1) ≤ p) : f_X10_between σ p (iN 0) (iN m) = some (.inl (iN 0), σ) := by
  have h := b_out (σ := σ) (n := m + 1) (by omega) hp
  rwa [iN_sub (by omega), Nat.add_sub_cancel] at h
theorem m_isUnit {σ : Wd} {A : Ab} (H : RRl σ A) (hn : nU A ≤ 6) {u : Nat} (hu : u < nU A) : f_X10_isUnit σ (iN u) = some (.inl (iN 1), σ) := by
  simp (disch := omega) only [gd_t, bx_some, bx_thr, bd_def, nx_in, ↓nO_eq, l0, l1, l2, l3, l4, l5, l6, l7, l8, l30, l50, l64, l100, l200, l448, l1200, iN_add, iN_lt, iN_le, iN_inj, iN_clamp, iN_inb, iN_nO, nO_iN, nO_lt, iN_ltm, iN_lem, nO_le, iN_pred, if_pos, if_neg, ↓reduceIte, f_X10_isUnit, H.1, b_in hu (by omega : nU A < 2147483648)]
theorem m_isUnit_no {σ : Wd} {A : Ab} (H : RRl σ A) (hn : nU A ≤ 6) {p : Int32} (hp : p < iN 0 ∨ ¬ p < iN 0 ∧ iN (nU A) ≤ p) : f_X10_isUnit σ p = some (.inl (iN 0), σ) := by
  simp (disch := omega) only [gd_t, bx_some, bx_thr, bd_def, nx_in, ↓nO_eq, l0, l1, l2, l3, l4, l5, l6, l7, l8, l30, l50, l64, l100, l200, l448, l1200, iN_add, iN_lt, iN_le, iN_inj, iN_clamp, iN_inb, iN_nO, nO_iN, nO_lt, iN_ltm, iN_lem, nO_le, iN_pred, if_pos, if_neg, ↓reduceIte, f_X10_isUnit, H.1, b_out (σ := σ) (by omega : nU A < 2147483648) hp]
theorem m_isDiagram {σ : Wd} {A : Ab} (H : RRl σ A) (hn : nD A ≤ 6) {u : Nat} (hu : u < nD A) : f_X10_isDiagram σ (iN u) = some (.inl (iN 1), σ) := by
  simp (disch := omega) only [gd_t, bx_some, bx_thr, bd_def, nx_in, ↓nO_eq, l0, l1, l2, l3, l4, l5, l6, l7, l8, l30, l50, l64, l100, l200, l448, l1200, iN_add, iN_lt, iN_le, iN_inj, iN_clamp, iN_inb, iN_nO, nO_iN, nO_lt, iN_ltm, iN_lem, nO_le, iN_pred, if_pos, if_neg, ↓reduceIte, f_X10_isDiagram, H.2.1, b_in hu (by omega : nD A < 2147483648)]
theorem m_isDiagram_no {σ : Wd} {A : Ab} (H : RRl σ A) (hn : nD A ≤ 6) {p : Int32} (hp : p < iN 0 ∨ ¬ p < iN 0 ∧ iN (nD A) ≤ p) : f_X10_isDiagram σ p = some (.inl (iN 0), σ) := by
  simp (disch := omega) only [gd_t, bx_some, bx_thr, bd_def, nx_in, ↓nO_eq, l0, l1, l2, l3, l4, l5, l6, l7, l8, l30, l50, l64, l100, l200, l448, l1200, iN_add, iN_lt, iN_le, iN_inj, iN_clamp, iN_inb, iN_nO, nO_iN, nO_lt, iN_ltm, iN_lem, nO_le, iN_pred, if_pos, if_neg, ↓reduceIte, f_X10_isDiagram, H.2.1, b_out (σ := σ) (by omega : nD A < 2147483648) hp]
theorem m_isDepot {σ : Wd} {u : Nat} (hu : u < 3) : f_X10_isDepot σ (iN u) = some (.inl (iN 1), σ) := by
  simp (disch := omega) only [gd_t, bx_some, bx_thr, bd_def, nx_in, ↓nO_eq, l0, l1, l2, l3, l4, l5, l6, l7, l8, l30, l50, l64, l100, l200, l448, l1200, iN_add, iN_lt, iN_le, iN_inj, iN_clamp, iN_inb, iN_nO, nO_iN, nO_lt, iN_ltm, iN_lem, nO_le, iN_pred, if_pos, if_neg, ↓reduceIte, f_X10_isDepot, b_inL (σ := σ) (m := 2) hu (by decide)]
theorem m_isDepot_no {σ : Wd} {p : Int32} (hp : p < iN 0 ∨ ¬ p < iN 0 ∧ iN 3 ≤ p) : f_X10_isDepot σ p = some (.inl (iN 0), σ) := by
  simp (disch := omega) only [gd_t, bx_some, bx_thr, bd_def, nx_in, ↓nO_eq, l0, l1, l2, l3, l4, l5, l6, l7, l8, l30, l50, l64, l100, l200, l448, l1200, iN_add, iN_lt, iN_le, iN_inj, iN_clamp, iN_inb, iN_nO, nO_iN, nO_lt, iN_ltm, iN_lem, nO_le, iN_pred, if_pos, if_neg, ↓reduceIte, f_X10_isDepot, b_outL (σ := σ) (m := 2) (by decide) hp]
theorem m_isExam {σ : Wd} {u : Nat} (hu : u < 3) : f_X10_isExam σ (iN u) = some (.inl (iN 1), σ) := by
  simp (disch := omega) only [gd_t, bx_some, bx_thr, bd_def, nx_in, ↓nO_eq, l0, l1, l2, l3, l4, l5, l6, l7, l8, l30, l50, l64, l100, l200, l448, l1200, iN_add, iN_lt, iN_le, iN_inj, iN_clamp, iN_inb, iN_nO, nO_iN, nO_lt, iN_ltm, iN_lem, nO_le, iN_pred, if_pos, if_neg, ↓reduceIte, f_X10_isExam, b_inL (σ := σ) (m := 2) hu (by decide)]
theorem m_isExam_no {σ : Wd} {p : Int32} (hp : p < iN 0 ∨ ¬ p < iN 0 ∧ iN 3 ≤ p) : f_X10_isExam σ p = some (.inl (iN 0), σ) := by
  simp (disch := omega) only [gd_t, bx_some, bx_thr, bd_def, nx_in, ↓nO_eq, l0, l1, l2, l3, l4, l5, l6, l7, l8, l30, l50, l64, l100, l200, l448, l1200, iN_add, iN_lt, iN_le, iN_inj, iN_clamp, iN_inb, iN_nO, nO_iN, nO_lt, iN_ltm, iN_lem, nO_le, iN_pred, if_pos, if_neg, ↓reduceIte, f_X10_isExam, b_outL (σ := σ) (m := 2) (by decide) hp]
theorem m_isFault {σ : Wd} {A : Ab} (H : RRl σ A) (F : RRf σ A) (hn : nU A ≤ 6) {u : Nat} (hu : u < nU A) (h8 : (fl A u).length ≤ 8) {j : Nat} (hj : j < (fl A u).length) : f_X10_isFault σ (iN u) (iN j) = some (.inl (iN 1), σ) := by
  simp (disch := omega) only [gd_t, bx_some, bx_thr, bd_def, nx_in, ↓nO_eq, l0, l1, l2, l3, l4, l5, l6, l7, l8, l30, l50, l64, l100, l200, l448, l1200, iN_add, iN_lt, iN_le, iN_inj, iN_clamp, iN_inb, iN_nO, nO_iN, nO_lt, iN_ltm, iN_lem, nO_le, iN_pred, if_pos, if_neg, ↓reduceIte, f_X10_isFault, m_isUnit H hn hu, (F u hu).1, b_in hj (by omega : (fl A u).length < 2147483648)]
theorem m_isFault_no {σ : Wd} {A : Ab} (H : RRl σ A) (F : RRf σ A) (hn : nU A ≤ 6) {u : Nat} (hu : u < nU A) (h8 : (fl A u).length ≤ 8) {p : Int32} (hp : p < iN 0 ∨ ¬ p < iN 0 ∧ iN (fl A u).length ≤ p) : f_X10_isFault σ (iN u) p = some (.inl (iN 0), σ) := by
  simp (disch := omega) only [gd_t, bx_some, bx_thr, bd_def, nx_in, ↓nO_eq, l0, l1, l2, l3, l4, l5, l6, l7, l8, l30, l50, l64, l100, l200, l448, l1200, iN_add, iN_lt, iN_le, iN_inj, iN_clamp, iN_inb, iN_nO, nO_iN, nO_lt, iN_ltm, iN_lem, nO_le, iN_pred, if_pos, if_neg, ↓reduceIte, f_X10_isFault, m_isUnit H hn hu, (F u hu).1, b_out (σ := σ) (by omega : (fl A u).length < 2147483648) hp]
theorem m_isFault_no2 {σ : Wd} {A : Ab} (H : RRl σ A) (hn : nU A ≤ 6) {p q : Int32} (hp : p < iN 0 ∨ ¬ p < iN 0 ∧ iN (nU A) ≤ p) : f_X10_isFault σ p q = some (.inl (iN 0), σ) := by
  simp (disch := omega) only [gd_t, bx_some, bx_thr, bd_def, nx_in, ↓nO_eq, l0, l1, l2, l3, l4, l5, l6, l7, l8, l30, l50, l64, l100, l200, l448, l1200, iN_add, iN_lt, iN_le, iN_inj, iN_clamp, iN_inb, iN_nO, nO_iN, nO_lt, iN_ltm, iN_lem, nO_le, iN_pred, if_pos, if_neg, ↓reduceIte, f_X10_isFault, m_isUnit_no H hn hp]
