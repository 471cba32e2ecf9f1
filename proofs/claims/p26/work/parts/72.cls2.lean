/-! its answers over the value: what changes it -/
theorem z_exam {σ : Wd} {A : Ab} (C : RC σ A) {e : Nat} (he : e < 3) {w2 w3 w4 : Int32} (ha : ¬ w2 < 100 ∧ w2 ≤ 100000) (hb : ¬ w3 < 0 ∧ w3 ≤ 20) (hc : ¬ w4 < 0 ∧ w4 ≤ 400) : ∃ σ', f_X9_exam σ (iN e) w2 w3 w4 = some (.inl (bnd (exA A e w2 w3 w4) e), σ') ∧ CS σ σ' ∧ RC σ' (exA A e w2 w3 w4) := by
  have C' := ex_C C he w2 w3 w4
  have hS : CS σ (wr (wr (wr σ 9 e 0 w2) 9 e 1 w3) 9 e 2 w4) := (((CS.rf σ).wr (by decide)).wr (by decide)).wr (by decide)
  refine ⟨_, ?_, hS, C'⟩
  unfold f_X9_exam
  rw [c_examAt he, bx_some, rg_in ha.1 ha.2, bx_some, rg_in hb.1 hb.2, bx_some, rg_in hc.1 hc.2, bx_some, gd_t he, bd_def, bd_def, bd_def, k_bound C'.2.2.2.2.1 he, bx_some]
theorem z_list {σ : Wd} {A : Ab} (C : RC σ A) {e : Nat} (he : e < 4) {w2 w3 : Int32} (ha : ¬ w2 < -1 ∧ w2 ≤ 30) (hb : w2 = -1 ∨ (¬ w3 < 0 ∧ w3 ≤ 2)) : ∃ σ', f_X9_list σ (iN e) w2 w3 = some (.inl (A.1 53 e 0), σ') ∧ CS σ σ' ∧ RC σ' (liA A e w2 w3) := by
  have C' := li_C C he w2 w3
  have hS : CS σ (wr (wr σ 11 e 0 w2) 11 e 1 w3) := ((CS.rf σ).wr (by decide)).wr (by decide)
  refine ⟨_, ?_, hS, C'⟩
  have e0 := (C.2.2.2.2.1.2 e he).1
  unfold f_X9_list
  rw [c_permitAt he, bx_some, rg_in ha.1 ha.2, bx_some]
  by_cases hm : w2 = -1
  · rw [if_pos hm]
    unfold j_X9_list_28
    rw [gd_t he, bd_def, bd_def, e0]
  · rw [if_neg hm, rg_in (hb.resolve_left hm).1 (hb.resolve_left hm).2, bx_some]
    unfold j_X9_list_28
    rw [gd_t he, bd_def, bd_def, e0]
theorem z_pin {σ : Wd} {A : Ab} (C : RC σ A) (G : Gd A) {d : Nat} (hd : d < nD A) {w2 : Int32} (hg : w2 = nO ∨ ∃ u, u < nU A ∧ w2 = iN u) : f_X9_pin σ (iN d) w2 = some (.inl (A.1 49 d 0), wr σ 25 d 5 w2) ∧ CS σ (wr σ 25 d 5 w2) ∧ RC (wr σ 25 d 5 w2) (aw A 49 d 0 w2) := by
  have g6 := G.1
  have g7 := G.2.1
  have e9 := C.1.2.1
  have q5 := (C.2.2.2.1 d hd).2.2.2.2.2
  refine ⟨?_, (CS.rf σ).wr (by decide), pin_C C d w2⟩
  rcases hg with rfl | ⟨u, hu, rfl⟩
  · simp (disch := omega) only [gd_t, gd_T, bx_some, bx_thr, bd_def, nx_in, ↓nO_eq, l0, l1, l2, l3, l4, l5, l6, l7, l8, l9, l10, l12, l13, l16, l17, l18, l25, l30, l32, l33, l50, l64, l100, l200, l448, l1200, iN_add, iN_lt, iN_le, iN_inj, iN_clamp, iN_inb, iN_nO, nO_iN, nO_lt, iN_ltm, iN_lem, nO_le, iN_pred, if_pos, if_neg, ↓reduceIte, or_true, true_or, and_true, true_and, ne_eq, not_true_eq_false, not_false_eq_true, false_or, or_false, and_false, false_and, f_X9_pin, c_diagramAt C.1 g7 hd, q5]
  · simp (disch := omega) only [gd_t, gd_T, bx_some, bx_thr, bd_def, nx_in, ↓nO_eq, l0, l1, l2, l3, l4, l5, l6, l7, l8, l9, l10, l12, l13, l16, l17, l18, l25, l30, l32, l33, l50, l64, l100, l200, l448, l1200, iN_add, iN_lt, iN_le, iN_inj, iN_clamp, iN_inb, iN_nO, nO_iN, nO_lt, iN_ltm, iN_lem, nO_le, iN_pred, if_pos, if_neg, ↓reduceIte, or_true, true_or, and_true, true_and, ne_eq, not_true_eq_false, not_false_eq_true, false_or, or_false, and_false, false_and, f_X9_pin, c_diagramAt C.1 g7 hd, c_sz0 C.1, c_num (σ := σ) hu, q5]
theorem z_examine {σ : Wd} {A : Ab} (C : RC σ A) (G : Gd A) {u e : Nat} (hu : u < nU A) (he : e < 3) (ha : A.1 31 u 0 = iN 0) (hb : A.1 30 3 0 = iN 0) : ∃ σ', f_X9_examine σ (iN u) (iN e) = some (.inl (iN (e + 1)), σ') ∧ CS σ σ' ∧ RC σ' (xaA A u e) := by
  have g6 := G.1
  have e8 := C.1.1
  have u2 := (C.2.2.1 u hu).2.1
  have s8 := C.2.2.2.2.2.2.1.2.2.1
  obtain ⟨σ1, q1, q2, q3⟩ := xa_C C hu he
  refine ⟨σ1, ?_, q2, q3⟩
  simp (disch := omega) only [gd_t, gd_T, bx_some, bx_thr, bd_def, nx_in, ↓nO_eq, l0, l1, l2, l3, l4, l5, l6, l7, l8, l9, l10, l12, l13, l16, l17, l18, l25, l30, l32, l33, l50, l64, l100, l200, l448, l1200, iN_add, iN_lt, iN_le, iN_inj, iN_clamp, iN_inb, iN_nO, nO_iN, nO_lt, iN_ltm, iN_lem, nO_le, iN_pred, if_pos, if_neg, ↓reduceIte, or_true, true_or, and_true, true_and, ne_eq, not_true_eq_false, not_false_eq_true, false_or, or_false, and_false, false_and, f_X9_examine, c_unitAt C.1 g6 hu, c_num (σ := σ) he, u2, ha, s8, hb, q1]
theorem z_examineN {σ : Wd} {A : Ab} (C : RC σ A) (G : Gd A) {u e : Nat} (hu : u < nU A) (he : e < 3) (h : ¬ (A.1 31 u 0 = iN 0 ∧ A.1 30 3 0 = iN 0)) : f_X9_examine σ (iN u) (iN e) = some (.inr "java/lang/IllegalStateException", σ) := by
  have g6 := G.1
  have e8 := C.1.1
  have u2 := (C.2.2.1 u hu).2.1
  have s8 := C.2.2.2.2.2.2.1.2.2.1
  by_cases ha : A.1 31 u 0 = iN 0
  · have hb : ¬ A.1 30 3 0 = iN 0 := fun z => h ⟨ha, z⟩
    simp (disch := omega) only [gd_t, gd_T, bx_some, bx_thr, bd_def, nx_in, ↓nO_eq, l0, l1, l2, l3, l4, l5, l6, l7, l8, l9, l10, l12, l13, l16, l17, l18, l25, l30, l32, l33, l50, l64, l100, l200, l448, l1200, iN_add, iN_lt, iN_le, iN_inj, iN_clamp, iN_inb, iN_nO, nO_iN, nO_lt, iN_ltm, iN_lem, nO_le, iN_pred, if_pos, if_neg, ↓reduceIte, or_true, true_or, and_true, true_and, ne_eq, not_true_eq_false, not_false_eq_true, false_or, or_false, and_false, false_and, f_X9_examine, c_unitAt C.1 g6 hu, c_num (σ := σ) he, u2, ha, s8, hb]
  · simp (disch := omega) only [gd_t, gd_T, bx_some, bx_thr, bd_def, nx_in, ↓nO_eq, l0, l1, l2, l3, l4, l5, l6, l7, l8, l9, l10, l12, l13, l16, l17, l18, l25, l30, l32, l33, l50, l64, l100, l200, l448, l1200, iN_add, iN_lt, iN_le, iN_inj, iN_clamp, iN_inb, iN_nO, nO_iN, nO_lt, iN_ltm, iN_lem, nO_le, iN_pred, if_pos, if_neg, ↓reduceIte, or_true, true_or, and_true, true_and, ne_eq, not_true_eq_false, not_false_eq_true, false_or, or_false, and_false, false_and, f_X9_examine, c_unitAt C.1 g6 hu, c_num (σ := σ) he, u2, ha]
theorem z_mend {σ : Wd} {A : Ab} (C : RC σ A) (G : Gd A) {u j : Nat} (hu : u < nU A) {f : Fa} (hf : (fl A u)[j]? = some f) (h0 : ¬ f.1 = 0) : ∃ σ', f_X9_mend σ (iN u) (iN j) = some (.inl f.1, σ') ∧ CS σ σ' ∧ RC σ' (flA A u ((fl A u).eraseIdx j)) := by
  have g6 := G.1
  have e8 := C.1.1
  have g8 := (G.2.2.2.1 u hu).1
  have hj := (List.getElem?_eq_some_iff.mp hf).1
  obtain ⟨x, x1, x2, x3⟩ := k_faultAt C.1 C.2.1 g6 hu g8 hf
  have y0 : σ.1 26 x 0 = f.1 := by rw [← x3]; rfl
  obtain ⟨σ1, d1, d2, d3⟩ := k_drop C g6 hu g8 hj
  refine ⟨σ1, ?_, d2, d3⟩
  unfold f_X9_mend
  rw [c_unitAt C.1 g6 hu, bx_some, gd_t (by omega), x1, bx_some, gd_t x2, y0, if_neg h0, gd_t (by omega), d1, bx_some]
theorem z_mendF {σ : Wd} {A : Ab} (C : RC σ A) (G : Gd A) {u j : Nat} (hu : u < nU A) {f : Fa} (hf : (fl A u)[j]? = some f) (h0 : f.1 = 0) : f_X9_mend σ (iN u) (iN j) = some (.inr "java/lang/IllegalStateException", σ) := by
  have g6 := G.1
  have e8 := C.1.1
  have g8 := (G.2.2.2.1 u hu).1
  obtain ⟨x, x1, x2, x3⟩ := k_faultAt C.1 C.2.1 g6 hu g8 hf
  have y0 : σ.1 26 x 0 = f.1 := by rw [← x3]; rfl
  unfold f_X9_mend
  rw [c_unitAt C.1 g6 hu, bx_some, gd_t (by omega), x1, bx_some, gd_t x2, y0, if_pos h0]
theorem z_mendN {σ : Wd} {A : Ab} (C : RC σ A) (G : Gd A) {u j : Nat} (hu : u < nU A) (hj : (fl A u).length ≤ j) (hj9 : j < 100) : f_X9_mend σ (iN u) (iN j) = some (.inr "java/lang/IndexOutOfBoundsException", σ) := by
  have g6 := G.1
  have e8 := C.1.1
  have h2 : iN j < iN 0 ∨ ¬ iN j < iN 0 ∧ iN (fl A u).length ≤ iN j := Or.inr ⟨by rw [iN_lt (by omega) (by decide)]; omega, by rw [iN_le (by omega) (by omega)]; exact hj⟩
  unfold f_X9_mend
  rw [c_unitAt C.1 g6 hu, bx_some, gd_t (by omega), k_faultAt_no C.1 C.2.1 hu h2, bx_thr]
theorem z_lathe {σ : Wd} {A : Ab} (C : RC σ A) (G : Gd A) {u : Nat} (hu : u < nU A) (ha : A.1 31 u 0 = 0) (hb : A.1 30 4 0 = 0) : ∃ σ', f_X9_lathe σ (iN u) = some (.inl (lst A u), σ') ∧ CS σ σ' ∧ RC σ' (laA A u) := by
  have g6 := G.1
  have e8 := C.1.1
  have g8 := (G.2.2.2.1 u hu).1
  have hk : ∀ f, f ∈ fl A u → okF f := fun f hf => ((G.2.2.2.1 u hu).2 f hf).2
  have u2 := (C.2.2.1 u hu).2.1
  have s9 := C.2.2.2.2.2.2.1.2.2.2
  obtain ⟨σ1, d1, d2, d3⟩ := k_turn C g6 hu g8 hk
  refine ⟨σ1, ?_, d2, d3⟩
  unfold f_X9_lathe
  rw [c_unitAt C.1 g6 hu, bx_some, gd_t (by omega), u2, if_pos ha, s9, if_pos hb, bd_def, d1, bx_some]
theorem z_latheN {σ : Wd} {A : Ab} (C : RC σ A) (G : Gd A) {u : Nat} (hu : u < nU A) (h : ¬ (A.1 31 u 0 = 0 ∧ A.1 30 4 0 = 0)) : f_X9_lathe σ (iN u) = some (.inr "java/lang/IllegalStateException", σ) := by
  have g6 := G.1
  have e8 := C.1.1
  have u2 := (C.2.2.1 u hu).2.1
  have s9 := C.2.2.2.2.2.2.1.2.2.2
  by_cases ha : A.1 31 u 0 = 0
  · have hb : ¬ A.1 30 4 0 = 0 := fun z => h ⟨ha, z⟩
    unfold f_X9_lathe
    rw [c_unitAt C.1 g6 hu, bx_some, gd_t (by omega), u2, if_pos ha, s9, if_neg hb]
  · unfold f_X9_lathe
    rw [c_unitAt C.1 g6 hu, bx_some, gd_t (by omega), u2, if_neg ha]
theorem z_fault {σ : Wd} {A : Ab} (C : RC σ A) (G : Gd A) {u κ : Nat} (hu : u < nU A) (hκ : κ < 4) {w3 w4 : Int32} (hw : κ ≤ 1 → ∃ x, x < 4 ∧ w3 = iN x) (ha : amt κ w4) (h8 : (fl A u).length < 8) : f_X9_fault σ (iN u) (iN κ) w3 w4 = some (.inl (iN ((fl A u).length + 1)), fW σ u (fT κ (nT A) w3 w4)) ∧ CS σ (fW σ u (fT κ (nT A) w3 w4)) ∧ RC (fW σ u (fT κ (nT A) w3 w4)) (faA A u (fT κ (nT A) w3 w4)) := by
  have g6 := G.1
  have hS : CS σ (fW σ u (fT κ (nT A) w3 w4)) := fun t ht => fW_off _ _ _ (by omega) (by omega)
  refine ⟨?_, hS, fa_C C hu g6 h8 _⟩
  rw [k_pre C g6 hu hκ hw ha, k_add C hu g6 h8]
  unfold fT
  have e1 : (if (if κ ≤ 1 then iN 1 else iN 0) = 0 then (-1 : Int32) else w3) = if κ ≤ 1 then w3 else nO := by
    by_cases h : κ ≤ 1
    · rw [if_pos h, if_pos h, if_neg (by decide)]
    · rw [if_neg h, if_neg h, if_pos (show iN 0 = 0 from rfl)]; rfl
  have e2 : (if (if κ = 0 ∨ κ = 2 then iN 1 else iN 0) = 0 then (-1 : Int32) else w4) = if κ = 0 ∨ κ = 2 then w4 else nO := by
    by_cases h : κ = 0 ∨ κ = 2
    · rw [if_pos h, if_pos h, if_neg (by decide)]
    · rw [if_neg h, if_neg h, if_pos (show iN 0 = 0 from rfl)]; rfl
  rw [e1, e2]
theorem z_faultN {σ : Wd} {A : Ab} (C : RC σ A) (G : Gd A) {u κ : Nat} (hu : u < nU A) (hκ : κ < 4) {w3 w4 : Int32} (hw : κ ≤ 1 → ∃ x, x < 4 ∧ w3 = iN x) (ha : amt κ w4) (h8 : (fl A u).length = 8) : f_X9_fault σ (iN u) (iN κ) w3 w4 = some (.inr "java/lang/IllegalStateException", σ) := by
  rw [k_pre C G.1 hu hκ hw ha, k_add_no C hu h8]
theorem z_diagram {σ : Wd} {A : Ab} (C : RC σ A) (G : Gd A) (hq : nD A < 6) {a b : Nat} (ha : a < 3) (hb : b < 3) {w3 w4 : Int32} (hc : ¬ w3 < iN 1 ∧ w3 ≤ 2000) (hl : ¬ w4 < iN 0 ∧ w4 ≤ iN 2) {w : Nat} (hw1 : 1 ≤ w) (hw2 : w ≤ 100) : f_X9_diagram σ (iN a) (iN b) w3 w4 (iN w) = some (.inl (iN (nD A)), diW σ (iN a) (iN b) w3 w4 (iN w)) ∧ CS σ (diW σ (iN a) (iN b) w3 w4 (iN w)) ∧ RC (diW σ (iN a) (iN b) w3 w4 (iN w)) (diA A (iN a) (iN b) w3 w4 (iN w)) ∧ Gd (diA A (iN a) (iN b) w3 w4 (iN w)) := by
  have g7 := G.2.1
  have e9 := C.1.2.1
  have s1 := C.1.2.2.2.1
  have hw : ¬ iN w < iN 1 ∧ iN w ≤ iN 100 := ⟨by rw [iN_lt (by omega) (by decide)]; omega, by rw [iN_le (by omega) (by decide)]; omega⟩
  have hS : CS σ (diW σ (iN a) (iN b) w3 w4 (iN w)) := fun t ht => di_rd _ _ _ _ _ _ (by omega) (by omega)
  refine ⟨?_, hS, di_C C hq (iN a) (iN b) w3 w4 (iN w), di_G G hq hb hw1 hw2⟩
  have f1 := C.1.2.2.2.2.2.2.2
  have hok : okO σ 25 9 = true := by
    unfold okO
    refine List.all_eq_true.mpr (fun i hi => ?_)
    have hi := List.mem_range.mp hi
    by_cases h : i = 1
    · subst h
      refine Bool.or_eq_true_iff.mpr (Or.inr (List.all_eq_true.mpr (fun j hj => ?_)))
      have hj := List.mem_range.mp hj
      have hcd := C.1.2.2.2.2.2.1 j hj
      rw [hcd, e9]
      by_cases h3 : j < nD A
      · rw [if_pos h3]; simp [h3]
      · rw [if_neg h3]; simp
    · refine Bool.or_eq_true_iff.mpr (Or.inl (decide_eq_true ?_))
      match i, h with
      | 0, _ => decide
      | n + 2, _ => exact (by decide : ¬ 26 = 25)
  have hadd : ((nuO σ 25 9).2.2 (20 + 1) = 0 ∧ (nuO σ 25 9).1 1 1 2 = 0) ∨ ((nuO σ 25 9).2.2 (20 + 1) ≠ 0 ∧ ¬ (nuO σ 25 9).1 1 1 2 = 10 ∧ inb ((nuO σ 25 9).1 1 1 2) 10) := by
    show (σ.2.2 21 = 0 ∧ σ.1 1 1 2 = 0) ∨ (σ.2.2 21 ≠ 0 ∧ ¬ σ.1 1 1 2 = iN 10 ∧ inb (σ.1 1 1 2) 10)
    rw [s1]
    by_cases h0 : nD A = 0
    · by_cases hf : σ.2.2 21 = 0
      · exact Or.inl ⟨hf, by rw [h0]; rfl⟩
      · exact Or.inr ⟨hf, by rw [iN_inj (by omega) (by decide)]; omega, (iN_inb (by omega)).mpr (by omega)⟩
    · exact Or.inr ⟨f1 h0, by rw [iN_inj (by omega) (by decide)]; omega, (iN_inb (by omega)).mpr (by omega)⟩
  have hadd' : ((stO (nuO σ 25 9) 25 (σ.2.2 9) (vsO [iN a, iN b, w3, w4, iN w, (-1 : Int32)])).2.2 (20 + 1) = 0 ∧ (stO (nuO σ 25 9) 25 (σ.2.2 9) (vsO [iN a, iN b, w3, w4, iN w, (-1 : Int32)])).1 1 1 2 = 0) ∨ ((stO (nuO σ 25 9) 25 (σ.2.2 9) (vsO [iN a, iN b, w3, w4, iN w, (-1 : Int32)])).2.2 (20 + 1) ≠ 0 ∧ ¬ (stO (nuO σ 25 9) 25 (σ.2.2 9) (vsO [iN a, iN b, w3, w4, iN w, (-1 : Int32)])).1 1 1 2 = 10 ∧ inb ((stO (nuO σ 25 9) 25 (σ.2.2 9) (vsO [iN a, iN b, w3, w4, iN w, (-1 : Int32)])).1 1 1 2) 10) := hadd
  have hlt : σ.2.2 9 < (nuO σ 25 9).2.2 9 := by
    show σ.2.2 9 < σ.2.2 9 + 1
    omega
  have hnum : ∀ x, x < 3 → f_X9_checkNumber σ (iN x) 3 = some (.inl (), σ) := fun x hx => c_num (n := 3) hx (by decide)
  unfold f_X9_diagram
  rw [hnum a ha, bx_some, hnum b hb, bx_some, rg_in (lo := 1) (hi := 2000) hc.1 hc.2, bx_some, rg_in (lo := 0) (hi := 2) hl.1 hl.2, bx_some, rg_in (lo := 1) (hi := 100) hw.1 hw.2, bx_some, c_sz1 C.1, bx_some, if_pos (show iN (nD A) < 6 from (iN_lt (b := 6) (by omega) (by decide)).mpr hq), gd_t hok, bd_def, gd_t hlt, bd_def, gd_t hadd', bd_def, nx_in, nx_in, nx_in]
  rfl
theorem z_unit {σ : Wd} {A : Ab} (C : RC σ A) (G : Gd A) (W : Gr A (fun _ => False)) (hq : nU A < 6) {d : Nat} (hd : d < 3) {km : Int32} (hk : ¬ km < 0 ∧ km ≤ 1000000) : ∃ σ', f_X9_unit σ (iN d) km = some (.inl (iN (nU A)), σ') ∧ CS σ σ' ∧ RC σ' (unA A d km) ∧ Gd (unA A d km) ∧ Gr (unA A d km) (fun _ => False) := by
  have g6 := G.1
  have h6 : (rw_ A d).length < 6 := Nat.lt_of_le_of_lt (nodup_le _ _ (W.1 d hd).1 (fun x hx => ((W.1 d hd).2 x hx).1)) hq
  have hS : CS σ (wr (wr (uW σ (iN d) km) 6 d (rw_ A d).length (iN (nU A))) 5 d 1 (iN ((rw_ A d).length + 1))) := fun t ht => by
    funext i k
    rw [wr_rd, if_neg (by omega), wr_rd, if_neg (by omega), uW_off _ _ _ (by omega) (by omega)]
  exact ⟨_, k_unit C hq hd h6 hk, hS, un_C C hq hd h6 km, un_G G hq d km, un_W W hd km⟩
/-- the value behind a day -/
def dyB (A : Ab) : Ab := cms (lvs A 0 (bestA A)) 0 (bestA A)
theorem z_day {σ : Wd} {A : Ab} (C : RC σ A) (G : Gd A) (W : Gr A (fun _ => False)) (hT : nT A < 200) : ∃ σ', f_X9_day σ = some (.inl (iN (lk (PA A) 0 (bestA A))), σ') ∧ CS σ σ' ∧ RC σ' (dyA (dyB A)) ∧ Gd (dyA (dyB A)) ∧ Gr (dyA (dyB A)) (fun _ => False) := by
  have g6 := G.1
  have g7 := G.2.1
  have S := C.2.2.2.2.2.2.1.1
  show ∃ σ', f_X9_day σ = some (.inl (iN (lk (PA A) 0 (bestA A))), σ') ∧ CS σ σ' ∧ RC σ' (dyA (cms (lvs A 0 (bestA A)) 0 (bestA A))) ∧ Gd (dyA (cms (lvs A 0 (bestA A)) 0 (bestA A))) ∧ Gr (dyA (cms (lvs A 0 (bestA A)) 0 (bestA A))) (fun _ => False)
  have hS : σ.1 0 0 6 < 200 := by
    rw [S]
    exact (iN_lt (b := 200) (by omega) (by decide)).mpr hT
  obtain ⟨hL, hLn⟩ := bestA_len A
  have hN := best_nd A
  have W0 : Gr A (fun u => u ∈ ([] : List Nat)) := ⟨fun x hx => ⟨(W.1 x hx).1, fun u hu => ⟨((W.1 x hx).2 u hu).1, ((W.1 x hx).2 u hu).2.1, fun z => by cases z⟩⟩, fun u hu => by
    obtain ⟨x, hx, y1, y2⟩ := W.2 u hu
    exact ⟨x, hx, y1, Or.inr (y2.resolve_left id)⟩⟩
  obtain ⟨G1, W1, sm1⟩ := lvs_ok hL hLn hN (bestA A) [] A rfl G W0 rfl rfl
  have eU : nU (lvs A 0 (bestA A)) = nU A := congrFun sm1 0
  have eD : nD (lvs A 0 (bestA A)) = nD A := congrFun sm1 1
  have eT : nT (lvs A 0 (bestA A)) = nT A := congrFun sm1 2
  obtain ⟨σ1, a1, a2, a3⟩ := k_read C G
  obtain ⟨σ2, b1, b2, b3⟩ := parts_ok G a3
  have hF := a2.tr b2.fm
  obtain ⟨σ3, c1, c2, c3, c4⟩ := k_lvs hL hLn hN hT g7 (bestA A) [] FU σ2 A rfl (by unfold FU; omega) (C.fm hF) G W0 rfl rfl rfl b3
  obtain ⟨σ4, d1, d2, d3, d4, G2, W2, sm2⟩ := k_cms hL hLn hN g7 (bestA A) [] FU σ3 (lvs A 0 (bestA A)) rfl (by unfold FU; omega) c4 G1 W1 eU eD (fun d c hd => by rw [c3 16 (by decide)]; exact b3 d c hd)
  have hbU : nU (cms (lvs A 0 (bestA A)) 0 (bestA A)) = nU A := (congrFun sm2 0).trans eU
  have hbT : nT (cms (lvs A 0 (bestA A)) 0 (bestA A)) = nT A := (congrFun sm2 2).trans eT
  change RC σ4 (cms (lvs A 0 (bestA A)) 0 (bestA A)) at d4
  change Gd (cms (lvs A 0 (bestA A)) 0 (bestA A)) at G2
  change Gr (cms (lvs A 0 (bestA A)) 0 (bestA A)) (fun _ => False) at W2
  generalize hB : cms (lvs A 0 (bestA A)) 0 (bestA A) = B at *
  obtain ⟨σ5, e1, e2, e3⟩ := k_olds (A := B) (by omega) (nU B) 0 FU σ4 rfl (by unfold FU; omega) (Nat.zero_le _) (by rw [olA_0]; exact d4)
  have t16 : ∀ t, 12 ≤ t → t ≤ 18 → (kdW σ5 (nT B)).1 t = σ2.1 t := fun t h1 h2 => by
    have e : (kdW σ5 (nT B)).1 t = σ5.1 t := by
      funext i k
      unfold kdW
      rw [wr_rd, if_neg (by omega), wr_rd, if_neg (by omega), wr_rd, if_neg (by omega)]
    rw [e, e2 t (by omega), d3 t ⟨h1, h2⟩, c3 t ⟨h1, h2⟩]
  have hlack := lack_ok (A := A) (σ := kdW σ5 (nT B)) ((a3.f18 b2).fr (fun t h1 h2 => t16 t h1 (by omega))) G (fun d c hd => by rw [t16 16 (by decide) (by decide)]; exact b3 d c hd)
  have hday := e1 _ hlack
  have hCS : CS σ (kdW σ5 (nT B)) := fun t ht => by
    have e : (kdW σ5 (nT B)).1 t = σ5.1 t := by
      funext i k
      unfold kdW
      rw [wr_rd, if_neg (by omega), wr_rd, if_neg (by omega), wr_rd, if_neg (by omega)]
    rw [e, e2 t (by omega), d2 t ht, c2 t ht, hF.cs t ht]
  refine ⟨_, ?_, hCS, dy_C e3, dy_G G2 (by omega), W2⟩
  have c1' : l_X9_leaveRows_2 FU σ2 (iN 0) = some (.inl (), σ3) := c1
  have d1' : l_X9_comeToDepots_2 FU σ3 (iN 0) = some (.inl (), σ4) := d1
  have hS' : σ.1 0 0 6 < iN 200 := hS
  simp (disch := omega) only [gd_t, gd_T, bx_some, bx_thr, bd_def, nx_in, ↓nO_eq, l0, l1, l2, l3, l4, l5, l6, l7, l8, l9, l10, l12, l13, l16, l17, l18, l25, l30, l32, l33, l50, l64, l100, l200, l448, l1200, iN_add, iN_lt, iN_le, iN_inj, iN_clamp, iN_inb, iN_nO, nO_iN, nO_lt, iN_ltm, iN_lem, nO_le, iN_pred, if_pos, if_neg, ↓reduceIte, or_true, true_or, and_true, true_and, ne_eq, not_true_eq_false, not_false_eq_true, false_or, or_false, and_false, false_and, f_X9_day, hS', a1, b1, f_X9_leaveRows, f_X9_comeToDepots, c1', d1', hday]
