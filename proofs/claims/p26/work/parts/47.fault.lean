/-! one FAULT more -/
def faA (A : Ab) (u : Nat) (f : Fa) : Ab := (A.1, fun v => if v = u then fl A u ++ [f] else A.2.1 v, A.2.2)
def fW (σ : Wd) (u : Nat) (f : Fa) : Wd := wadd (stO (nuO σ 26 10) 26 (σ.2.2 10) (vsO [f.1, f.2.1, f.2.2.1, f.2.2.2])) (u + 2) (σ.2.2 10)
theorem fW_off (σ : Wd) (u : Nat) (f : Fa) {t : Nat} (h1 : t ≠ 1) (h2 : t ≠ 26) : (fW σ u f).1 t = σ.1 t := by
  funext i k
  unfold fW
  rw [wadd_mem (fun z => h1 z.1), st_rd, if_neg (fun z => h2 z.1)]
  exact congrFun (nu_mem (fun z => h2 z.1)) k
theorem fW_one (σ : Wd) (u : Nat) (f : Fa) (i k : Nat) : (fW σ u f).1 1 i k = if i = u + 2 then (if k = 0 then σ.1 1 (u + 2) 0 + 1 else if k = 2 then σ.1 1 (u + 2) 2 + 1 else σ.1 1 (u + 2) k) else σ.1 1 i k := by
  have e : ∀ i k, (stO (nuO σ 26 10) 26 (σ.2.2 10) (vsO [f.1, f.2.1, f.2.2.1, f.2.2.2])).1 1 i k = σ.1 1 i k := fun i k => by
    rw [st_rd, if_neg (fun z => by cases z.1)]
    exact congrFun (nu_mem (fun z => by cases z.1)) k
  by_cases h : i = u + 2
  · subst h
    rw [if_pos rfl]
    unfold fW
    show (if 1 = 1 ∧ u + 2 = u + 2 then _ else _) = _
    rw [if_pos ⟨rfl, rfl⟩, e, e, e]
  · rw [if_neg h]
    unfold fW
    rw [wadd_mem (fun z => h z.2), e]
theorem fW_two (σ : Wd) (u : Nat) (f : Fa) (i j : Nat) : (fW σ u f).2.1 i j = if i = u + 2 then (if j = (σ.1 1 (u + 2) 2).toNatClampNeg then σ.2.2 10 + 1 else if σ.2.2 (20 + (u + 2)) = 0 then 0 else σ.2.1 (u + 2) j) else σ.2.1 i j := by
  have e : (stO (nuO σ 26 10) 26 (σ.2.2 10) (vsO [f.1, f.2.1, f.2.2.1, f.2.2.2])).1 1 (u + 2) 2 = σ.1 1 (u + 2) 2 := by
    rw [st_rd, if_neg (fun z => by cases z.1)]
    exact congrFun (nu_mem (fun z => by cases z.1)) 2
  have e2 : (stO (nuO σ 26 10) 26 (σ.2.2 10) (vsO [f.1, f.2.1, f.2.2.1, f.2.2.2])).2.2 (20 + (u + 2)) = σ.2.2 (20 + (u + 2)) := if_neg (by omega)
  unfold fW
  show (if i = u + 2 then (if j = ((stO (nuO σ 26 10) 26 (σ.2.2 10) (vsO [f.1, f.2.1, f.2.2.1, f.2.2.2])).1 1 (u + 2) 2).toNatClampNeg then σ.2.2 10 + 1 else if (stO (nuO σ 26 10) 26 (σ.2.2 10) (vsO [f.1, f.2.1, f.2.2.1, f.2.2.2])).2.2 (20 + (u + 2)) = 0 then 0 else σ.2.1 (u + 2) j) else σ.2.1 i j) = _
  rw [e, e2]
theorem fW_thr (σ : Wd) (u : Nat) (f : Fa) (x : Nat) : (fW σ u f).2.2 x = if x = 20 + (u + 2) then 1 else if x = 10 then σ.2.2 10 + 1 else σ.2.2 x := id rfl
theorem fW_rdF (σ : Wd) (u : Nat) (f : Fa) (x : Nat) : rdF (fW σ u f) x = if x = σ.2.2 10 then f else rdF σ x := by
  have e : ∀ k, (fW σ u f).1 26 x k = if x = σ.2.2 10 then vsO [f.1, f.2.1, f.2.2.1, f.2.2.2] k else σ.1 26 x k := fun k => by
    unfold fW
    rw [wadd_mem (fun z => by cases z.1), st_rd]
    by_cases h : x = σ.2.2 10
    · rw [if_pos ⟨rfl, h⟩, if_pos h]
    · rw [if_neg (fun z => h z.2), if_neg h]
      exact congrFun (nu_mem (fun z => h z.2)) k
  unfold rdF
  rw [e, e, e, e]
  by_cases h : x = σ.2.2 10
  · simp [h, vsO]
  · simp [h]
theorem fa_C {σ : Wd} {A : Ab} (C : RC σ A) {u : Nat} (hu : u < nU A) (g6 : nU A ≤ 6) (h8 : (fl A u).length < 8) (f : Fa) : RC (fW σ u f) (faA A u f) := by
  obtain ⟨⟨e8, e9, s0, s1, c0, c1, f0, f1⟩, F, U, D, E, R1, S, L⟩ := C
  obtain ⟨q1, q2, q3⟩ := F.1 u hu
  refine ⟨⟨?_, ?_, ?_, ?_, fun j hj => ?_, fun j hj => ?_, fun hne => ?_, fun hne => ?_⟩, ⟨fun v hv => ?_, fun i hi2 hi8 j hj => ?_⟩, ?_, ?_, ?_, ?_, ?_, ?_⟩
  · rw [fW_thr, if_neg (by omega), if_neg (by omega)]; exact e8
  · rw [fW_thr, if_neg (by omega), if_neg (by omega)]; exact e9
  · rw [fW_one, if_neg (by omega)]; exact s0
  · rw [fW_one, if_neg (by omega)]; exact s1
  · rw [fW_two, if_neg (by omega)]; exact c0 j hj
  · rw [fW_two, if_neg (by omega)]; exact c1 j hj
  · rw [fW_thr, if_neg (by omega), if_neg (by omega)]; exact f0 hne
  · rw [fW_thr, if_neg (by omega), if_neg (by omega)]; exact f1 hne
  · have hv : v < nU A := hv
    have hfl : fl (faA A u f) v = if v = u then fl A u ++ [f] else fl A v := rfl
    have cnt : (fW σ u f).2.2 10 = σ.2.2 10 + 1 := by rw [fW_thr, if_neg (by omega), if_pos rfl]
    rw [hfl]
    by_cases h : v = u
    · subst h
      rw [if_pos rfl]
      refine ⟨?_, fun _ => ?_, fun j g hg => ?_⟩
      · rw [fW_one, if_pos rfl, if_neg (by decide), if_pos rfl, q1, List.length_append]
        exact iN_add _ 1
      · rw [fW_thr, if_pos rfl]; decide
      · rw [fW_two, if_pos rfl, q1, iN_clamp (by omega), cnt]
        by_cases hj : j = (fl A v).length
        · rw [if_pos hj]
          rw [hj, List.getElem?_append_right (Nat.le_refl _), Nat.sub_self] at hg
          cases hg
          refine ⟨by omega, by omega, ?_⟩
          rw [fW_rdF, if_pos (by omega)]
        · have hj2 : j < (fl A v).length := by
            have := (List.getElem?_eq_some_iff.mp hg).1
            rw [List.length_append] at this
            simp at this
            omega
          rw [List.getElem?_append_left hj2] at hg
          obtain ⟨y1, y2, y3⟩ := q3 j g hg
          have hne : fl A v ≠ [] := fun z => by
            rw [z] at hj2
            exact absurd hj2 (Nat.not_lt_zero _)
          rw [if_neg hj, if_neg (q2 hne)]
          refine ⟨y1, by omega, ?_⟩
          rw [fW_rdF, if_neg (by omega)]
          exact y3
    · rw [if_neg h]
      obtain ⟨x1, x2, x3⟩ := F.1 v hv
      refine ⟨?_, fun hne => ?_, fun j g hg => ?_⟩
      · rw [fW_one, if_neg (by omega)]; exact x1
      · rw [fW_thr, if_neg (by omega), if_neg (by omega)]; exact x2 hne
      · obtain ⟨y1, y2, y3⟩ := x3 j g hg
        rw [fW_two, if_neg (by omega), cnt]
        refine ⟨y1, by omega, ?_⟩
        rw [fW_rdF, if_neg (by omega)]
        exact y3
  · have cnt : (fW σ u f).2.2 10 = σ.2.2 10 + 1 := by rw [fW_thr, if_neg (by omega), if_pos rfl]
    have := F.2 i hi2 hi8 j hj
    rw [fW_two, cnt]
    by_cases h : i = u + 2
    · rw [if_pos h]
      split
      · omega
      · split
        · omega
        · rw [← h]; omega
    · rw [if_neg h]; omega
  · exact RCu.fr U (fW_off _ _ _ (by decide) (by decide)) (fW_off _ _ _ (by decide) (by decide)) (fW_off _ _ _ (by decide) (by decide)) (fW_off _ _ _ (by decide) (by decide))
  · exact RCd.fr D (fW_off _ _ _ (by decide) (by decide))
  · exact RCe.fr E (fW_off _ _ _ (by decide) (by decide)) (fW_off _ _ _ (by decide) (by decide))
  · exact RCr.fr R1 (fW_off _ _ _ (by decide) (by decide)) (fW_off _ _ _ (by decide) (by decide))
  · exact RCs.fr S (fW_off _ _ _ (by decide) (by decide))
  · exact RCg.fr L (fW_off _ _ _ (by decide) (by decide))
theorem okO_in {σ : Wd} {A : Ab} (F : RCf σ A) : okO σ 26 10 = true := by
  unfold okO
  refine List.all_eq_true.mpr (fun i hi => ?_)
  have hi := List.mem_range.mp hi
  match i, hi with
  | 0, _ => exact Bool.or_eq_true_iff.mpr (Or.inl (decide_eq_true (by decide : ¬ 21 = 26)))
  | 1, _ => exact Bool.or_eq_true_iff.mpr (Or.inl (decide_eq_true (by decide : ¬ 25 = 26)))
  | n + 2, hi =>
    refine Bool.or_eq_true_iff.mpr (Or.inr (List.all_eq_true.mpr (fun j hj => ?_)))
    have := F.2 (n + 2) (by omega) hi j (List.mem_range.mp hj)
    by_cases h : σ.2.1 (n + 2) j = 0
    · simp [h]
    · refine Bool.or_eq_true_iff.mpr (Or.inl (decide_eq_true ?_))
      omega
theorem k_add {σ : Wd} {A : Ab} (C : RC σ A) {u : Nat} (hu : u < nU A) (g6 : nU A ≤ 6) (h8 : (fl A u).length < 8) (a7 a6 a1 a2 a3 a4 : Int32) : j_X9_fault_84 σ a7 a6 u a1 a2 a3 a4 = some (.inl (iN ((fl A u).length + 1)), fW σ u (a2, iN (nT A), if a6 = 0 then -1 else a3, if a7 = 0 then -1 else a4)) := by
  have e8 := C.1.1
  have S := C.2.2.2.2.2.2.1.1
  obtain ⟨q1, q2, q3⟩ := C.2.1.1 u hu
  have hs := c_szf C.1 C.2.1 hu
  have hok := okO_in C.2.1
  have hlt : σ.2.2 10 < (nuO σ 26 10).2.2 10 := by
    show σ.2.2 10 < σ.2.2 10 + 1
    omega
  have hT : (nuO σ 26 10).1 0 0 6 = iN (nT A) := (congrFun (nu_mem (fun z => by cases z.1)) 6).trans S
  have hu8 : u < σ.2.2 8 := by omega
  have hi8 : u + 2 < 8 := by omega
  have gen : ∀ x y : Int32, (gd (u < (stO (nuO σ 26 10) 26 (σ.2.2 10) (vsO [a2, iN (nT A), x, y])).2.2 8) <| gd ((u + 2) < 8) <| gd (((stO (nuO σ 26 10) 26 (σ.2.2 10) (vsO [a2, iN (nT A), x, y])).2.2 (20 + (u + 2)) = 0 ∧ (stO (nuO σ 26 10) 26 (σ.2.2 10) (vsO [a2, iN (nT A), x, y])).1 1 (u + 2) 2 = 0) ∨ ((stO (nuO σ 26 10) 26 (σ.2.2 10) (vsO [a2, iN (nT A), x, y])).2.2 (20 + (u + 2)) ≠ 0 ∧ ¬ (stO (nuO σ 26 10) 26 (σ.2.2 10) (vsO [a2, iN (nT A), x, y])).1 1 (u + 2) 2 = 10 ∧ inb ((stO (nuO σ 26 10) 26 (σ.2.2 10) (vsO [a2, iN (nT A), x, y])).1 1 (u + 2) 2) 10)) <| nx <| bd (fW σ u (a2, iN (nT A), x, y)) fun σ9 => gd (u < σ9.2.2 8) <| nx <| bx (f_Jx4a65c_size_8abf5 σ9 (u + 2)) fun v10 σ11 => (some (.inl v10, σ11) : Option ((Int32 ⊕ String) × Wd))) = some (.inl (iN ((fl A u).length + 1)), fW σ u (a2, iN (nT A), x, y)) := fun x y => by
    have e : (stO (nuO σ 26 10) 26 (σ.2.2 10) (vsO [a2, iN (nT A), x, y])).1 1 (u + 2) 2 = iN (fl A u).length := by
      rw [st_rd, if_neg (fun z => by cases z.1)]
      exact (congrFun (nu_mem (fun z => by cases z.1)) 2).trans q1
    have e2 : (stO (nuO σ 26 10) 26 (σ.2.2 10) (vsO [a2, iN (nT A), x, y])).2.2 (20 + (u + 2)) = σ.2.2 (20 + (u + 2)) := if_neg (by omega)
    have C' := fa_C C hu g6 h8 (a2, iN (nT A), x, y)
    have hs' := c_szf C'.1 C'.2.1 (u := u) hu
    have hfl : fl (faA A u (a2, iN (nT A), x, y)) u = fl A u ++ [(a2, iN (nT A), x, y)] := if_pos rfl
    rw [hfl, List.length_append] at hs'
    rw [gd_t (show u < (stO (nuO σ 26 10) 26 (σ.2.2 10) (vsO [a2, iN (nT A), x, y])).2.2 8 from hu8), gd_t hi8, gd_t (add_ok e (by omega) (fun h => by
      rw [e2]
      exact q2 (fun z => h (by rw [z]; rfl)))), bd_def, gd_t (show u < (fW σ u (a2, iN (nT A), x, y)).2.2 8 from by rw [C'.1.1]; exact hu), hs', bx_some, nx_in, nx_in]
    rfl
  unfold j_X9_fault_84
  rw [gd_t hu8, hs, bx_some, if_pos (show iN (fl A u).length < 8 from (iN_lt (b := 8) (by omega) (by decide)).mpr h8), gd_t hu8, gd_t hok, bd_def]
  by_cases h6 : a6 = 0
  · by_cases h7 : a7 = 0
    · rw [if_pos h6, if_pos h7, if_pos h6, if_pos h7, gd_t hlt, hT, bd_def]
      have := gen (-1) (-1)
      unfold fW at this ⊢
      rw [this, nx_in, nx_in]
    · rw [if_pos h6, if_neg h7, if_pos h6, if_neg h7, gd_t hlt, hT, bd_def]
      have := gen (-1) a4
      unfold fW at this ⊢
      rw [this, nx_in, nx_in]
  · by_cases h7 : a7 = 0
    · rw [if_neg h6, if_pos h7, if_neg h6, if_pos h7, gd_t hlt, hT, bd_def]
      have := gen a3 (-1)
      unfold fW at this ⊢
      rw [this, nx_in, nx_in]
    · rw [if_neg h6, if_neg h7, if_neg h6, if_neg h7, gd_t hlt, hT, bd_def]
      have := gen a3 a4
      unfold fW at this ⊢
      rw [this, nx_in, nx_in]
theorem k_add_no {σ : Wd} {A : Ab} (C : RC σ A) {u : Nat} (hu : u < nU A) (h8 : (fl A u).length = 8) (a7 a6 a1 a2 a3 a4 : Int32) : j_X9_fault_84 σ a7 a6 u a1 a2 a3 a4 = some (.inr "java/lang/IllegalStateException", σ) := by
  have e8 := C.1.1
  have hs := c_szf C.1 C.2.1 hu
  have hu8 : u < σ.2.2 8 := by omega
  unfold j_X9_fault_84
  rw [gd_t hu8, hs, bx_some, if_neg (by rw [h8]; decide)]
/-! the tests ahead of it -/
def fT (κ T : Nat) (w a : Int32) : Fa := (iN κ, iN T, if κ ≤ 1 then w else nO, if κ = 0 ∨ κ = 2 then a else nO)
def amt (κ : Nat) (a : Int32) : Prop := (κ = 0 → ¬ a < 1 ∧ a ≤ 20) ∧ (κ = 2 → ¬ a < 1 ∧ a ≤ 100)
theorem k_pre {σ : Wd} {A : Ab} (C : RC σ A) (g6 : nU A ≤ 6) {u : Nat} (hu : u < nU A) {κ : Nat} (hκ : κ < 4) {w a : Int32} (hw : κ ≤ 1 → ∃ x, x < 4 ∧ w = iN x) (ha : amt κ a) : f_X9_fault σ (iN u) (iN κ) w a = j_X9_fault_84 σ (if κ = 0 ∨ κ = 2 then iN 1 else iN 0) (if κ ≤ 1 then iN 1 else iN 0) u (iN u) (iN κ) w a := by
  have hk : κ = 0 ∨ κ = 1 ∨ κ = 2 ∨ κ = 3 := by omega
  rcases hk with rfl | rfl | rfl | rfl
  · obtain ⟨x, hx, rfl⟩ := hw (by decide)
    have hr : f_X9_checkRange σ a (iN 1) 20 = some (.inl (), σ) := rg_in (ha.1 rfl).1 (ha.1 rfl).2
    simp (disch := omega) only [gd_t, gd_T, bx_some, bx_thr, bd_def, nx_in, ↓nO_eq, l0, l1, l2, l3, l4, l5, l6, l7, l8, l30, l50, l64, l100, l200, l448, l1200, iN_add, iN_lt, iN_le, iN_inj, iN_clamp, iN_inb, iN_nO, nO_iN, nO_lt, iN_ltm, iN_lem, nO_le, iN_pred, if_pos, if_neg, ↓reduceIte, or_true, true_or, and_true, true_and, ne_eq, not_true_eq_false, not_false_eq_true, false_or, or_false, and_false, false_and, f_X9_fault, c_unitAt C.1 g6 hu, c_num (σ := σ) hκ, c_num (σ := σ) hx, j_X9_fault_21, j_X9_fault_26, j_X9_fault_37, j_X9_fault_42, j_X9_fault_59, j_X9_fault_62, j_X9_fault_81, hr]
  · obtain ⟨x, hx, rfl⟩ := hw (by decide)
    simp (disch := omega) only [gd_t, gd_T, bx_some, bx_thr, bd_def, nx_in, ↓nO_eq, l0, l1, l2, l3, l4, l5, l6, l7, l8, l30, l50, l64, l100, l200, l448, l1200, iN_add, iN_lt, iN_le, iN_inj, iN_clamp, iN_inb, iN_nO, nO_iN, nO_lt, iN_ltm, iN_lem, nO_le, iN_pred, if_pos, if_neg, ↓reduceIte, or_true, true_or, and_true, true_and, ne_eq, not_true_eq_false, not_false_eq_true, false_or, or_false, and_false, false_and, f_X9_fault, c_unitAt C.1 g6 hu, c_num (σ := σ) hκ, c_num (σ := σ) hx, j_X9_fault_21, j_X9_fault_26, j_X9_fault_37, j_X9_fault_42, j_X9_fault_59, j_X9_fault_62, j_X9_fault_81]
  · have hr : f_X9_checkRange σ a (iN 1) (iN 100) = some (.inl (), σ) := rg_in (ha.2 rfl).1 (ha.2 rfl).2
    simp (disch := omega) only [gd_t, gd_T, bx_some, bx_thr, bd_def, nx_in, ↓nO_eq, l0, l1, l2, l3, l4, l5, l6, l7, l8, l30, l50, l64, l100, l200, l448, l1200, iN_add, iN_lt, iN_le, iN_inj, iN_clamp, iN_inb, iN_nO, nO_iN, nO_lt, iN_ltm, iN_lem, nO_le, iN_pred, if_pos, if_neg, ↓reduceIte, or_true, true_or, and_true, true_and, ne_eq, not_true_eq_false, not_false_eq_true, false_or, or_false, and_false, false_and, f_X9_fault, c_unitAt C.1 g6 hu, c_num (σ := σ) hκ, j_X9_fault_21, j_X9_fault_26, j_X9_fault_37, j_X9_fault_42, j_X9_fault_59, j_X9_fault_62, j_X9_fault_81, hr]
  · simp (disch := omega) only [gd_t, gd_T, bx_some, bx_thr, bd_def, nx_in, ↓nO_eq, l0, l1, l2, l3, l4, l5, l6, l7, l8, l30, l50, l64, l100, l200, l448, l1200, iN_add, iN_lt, iN_le, iN_inj, iN_clamp, iN_inb, iN_nO, nO_iN, nO_lt, iN_ltm, iN_lem, nO_le, iN_pred, if_pos, if_neg, ↓reduceIte, or_true, true_or, and_true, true_and, ne_eq, not_true_eq_false, not_false_eq_true, false_or, or_false, and_false, false_and, f_X9_fault, c_unitAt C.1 g6 hu, c_num (σ := σ) hκ, j_X9_fault_21, j_X9_fault_26, j_X9_fault_37, j_X9_fault_42, j_X9_fault_59, j_X9_fault_62, j_X9_fault_81]
theorem k_preA {σ : Wd} {A : Ab} (C : RC σ A) (g6 : nU A ≤ 6) {u : Nat} (hu : u < nU A) {κ : Nat} (hκ : κ < 4) {w a : Int32} (hw : κ ≤ 1 → ∃ x, x < 4 ∧ w = iN x) (ha : ¬ amt κ a) : f_X9_fault σ (iN u) (iN κ) w a = some (.inr "java/lang/IllegalArgumentException", σ) := by
  have hk : κ = 0 ∨ κ = 1 ∨ κ = 2 ∨ κ = 3 := by omega
  rcases hk with rfl | rfl | rfl | rfl
  · obtain ⟨x, hx, rfl⟩ := hw (by decide)
    have hr : f_X9_checkRange σ a (iN 1) 20 = some (.inr "java/lang/IllegalArgumentException", σ) := rg_out (lo := iN 1) (hi := 20) (fun z => ha ⟨fun _ => z, fun q => by cases q⟩)
    simp (disch := omega) only [gd_t, gd_T, bx_some, bx_thr, bd_def, nx_in, ↓nO_eq, l0, l1, l2, l3, l4, l5, l6, l7, l8, l30, l50, l64, l100, l200, l448, l1200, iN_add, iN_lt, iN_le, iN_inj, iN_clamp, iN_inb, iN_nO, nO_iN, nO_lt, iN_ltm, iN_lem, nO_le, iN_pred, if_pos, if_neg, ↓reduceIte, or_true, true_or, and_true, true_and, ne_eq, not_true_eq_false, not_false_eq_true, false_or, or_false, and_false, false_and, f_X9_fault, c_unitAt C.1 g6 hu, c_num (σ := σ) hκ, c_num (σ := σ) hx, j_X9_fault_21, j_X9_fault_26, j_X9_fault_37, j_X9_fault_42, j_X9_fault_59, j_X9_fault_62, j_X9_fault_81, hr]
  · exact absurd ⟨fun q => absurd q (by decide), fun q => absurd q (by decide)⟩ ha
  · have hr : f_X9_checkRange σ a (iN 1) (iN 100) = some (.inr "java/lang/IllegalArgumentException", σ) := rg_out (lo := iN 1) (hi := iN 100) (fun z => ha ⟨fun q => by (cases q), fun _ => z⟩)
    simp (disch := omega) only [gd_t, gd_T, bx_some, bx_thr, bd_def, nx_in, ↓nO_eq, l0, l1, l2, l3, l4, l5, l6, l7, l8, l30, l50, l64, l100, l200, l448, l1200, iN_add, iN_lt, iN_le, iN_inj, iN_clamp, iN_inb, iN_nO, nO_iN, nO_lt, iN_ltm, iN_lem, nO_le, iN_pred, if_pos, if_neg, ↓reduceIte, or_true, true_or, and_true, true_and, ne_eq, not_true_eq_false, not_false_eq_true, false_or, or_false, and_false, false_and, f_X9_fault, c_unitAt C.1 g6 hu, c_num (σ := σ) hκ, j_X9_fault_21, j_X9_fault_26, j_X9_fault_37, j_X9_fault_42, j_X9_fault_59, j_X9_fault_62, j_X9_fault_81, hr]
  · exact absurd ⟨fun q => absurd q (by decide), fun q => absurd q (by decide)⟩ ha
theorem k_preI {σ : Wd} {A : Ab} (C : RC σ A) (g6 : nU A ≤ 6) {u : Nat} (hu : u < nU A) {κ : Nat} (hκ : κ ≤ 1) {w a : Int32} (hw : w < iN 0 ∨ ¬ w < iN 0 ∧ iN 4 ≤ w) : f_X9_fault σ (iN u) (iN κ) w a = some (.inr "java/lang/IndexOutOfBoundsException", σ) := by
  have hk : κ = 0 ∨ κ = 1 := by omega
  have hn := c_num (σ := σ) (by omega : κ < 4) (by decide : 4 < 2147483648)
  rcases hk with rfl | rfl
  · simp (disch := omega) only [gd_t, gd_T, bx_some, bx_thr, bd_def, nx_in, ↓nO_eq, l0, l1, l2, l3, l4, l5, l6, l7, l8, l30, l50, l64, l100, l200, l448, l1200, iN_add, iN_lt, iN_le, iN_inj, iN_clamp, iN_inb, iN_nO, nO_iN, nO_lt, iN_ltm, iN_lem, nO_le, iN_pred, if_pos, if_neg, ↓reduceIte, or_true, true_or, and_true, true_and, ne_eq, not_true_eq_false, not_false_eq_true, false_or, or_false, and_false, false_and, f_X9_fault, c_unitAt C.1 g6 hu, hn, c_num_no hw, j_X9_fault_21, j_X9_fault_26, j_X9_fault_37, j_X9_fault_42, j_X9_fault_59]
  · simp (disch := omega) only [gd_t, gd_T, bx_some, bx_thr, bd_def, nx_in, ↓nO_eq, l0, l1, l2, l3, l4, l5, l6, l7, l8, l30, l50, l64, l100, l200, l448, l1200, iN_add, iN_lt, iN_le, iN_inj, iN_clamp, iN_inb, iN_nO, nO_iN, nO_lt, iN_ltm, iN_lem, nO_le, iN_pred, if_pos, if_neg, ↓reduceIte, or_true, true_or, and_true, true_and, ne_eq, not_true_eq_false, not_false_eq_true, false_or, or_false, and_false, false_and, f_X9_fault, c_unitAt C.1 g6 hu, hn, c_num_no hw, j_X9_fault_21, j_X9_fault_26, j_X9_fault_37, j_X9_fault_42, j_X9_fault_59]
