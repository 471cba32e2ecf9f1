/-! the FAULTS, one by one -/
theorem k_forbids {σ : Wd} {A : Ab} (E : RCe σ A) {k : Nat} (hk : k < 4) (p0 p1 : Int32) : f_X5_forbids σ k p0 p1 = some (.inl (bI (decide (A.1 53 k 0 = nO) || decide (A.1 53 k 0 < p0) || decide (A.1 54 k 0 < p1))), σ) := by
  obtain ⟨e0, e1⟩ := E.2 k hk
  simp (disch := omega) only [gd_t, gd_T, bx_some, bx_thr, bd_def, nx_in, ↓nO_eq, l0, l1, l2, l3, l4, l5, l6, l7, l8, l30, l50, l64, l100, l200, l448, l1200, iN_add, iN_lt, iN_le, iN_inj, iN_clamp, iN_inb, iN_nO, nO_iN, nO_lt, iN_ltm, iN_lem, nO_le, iN_pred, if_pos, if_neg, ↓reduceIte, or_true, true_or, and_true, true_and, ne_eq, not_true_eq_false, not_false_eq_true, false_or, or_false, and_false, false_and, f_X5_forbids, e0, e1]
  by_cases h1 : A.1 53 k 0 = nO
  · simp [h1, bI]
  · by_cases h2 : A.1 53 k 0 < p0
    · simp [h1, h2, bI]
    · by_cases h3 : p1 ≤ A.1 54 k 0
      · simp [h1, h2, h3, bI, lt_not.mpr h3]
      · simp [h1, h2, h3, bI, le_not.mp h3]
theorem k_listF {σ : Wd} {A : Ab} (R : RC σ A) (G : Gd A) {u : Nat} (hu : u < nU A) (line : Int32) : ∀ (n k j : Nat), (fl A u).length - j = k → k < n → j ≤ 8 → l_X7_listForbids_3 n σ (iN j) u line (iN (nT A)) = some (.inl (bI (((fl A u).drop j).any (barF A line))), σ)
  | n + 1, k, j, hk, hn, hj8 => by
    obtain ⟨H, F, U, D, E, _, S, _⟩ := R
    have g8 := (G.2.2.2.1 u hu).1
    have e8 := H.1
    have hs := c_szf H F hu
    have hjj : (fl A u).length < 2147483648 := by omega
    rcases at_or (fl A u) j with ⟨f, hf, hl⟩ | hl
    · obtain ⟨x, x1, x2, x3⟩ := k_faultAt H F G.1 hu g8 hf
      obtain ⟨⟨κ, hκ, hκ2⟩, _⟩ := (G.2.2.2.1 u hu).2 f (List.mem_of_getElem? hf)
      have y0 : σ.1 26 x 0 = iN κ := by rw [← hκ2, ← x3]; rfl
      have y1 : σ.1 26 x 1 = f.2.1 := by rw [← x3]; rfl
      have ih := k_listF ⟨H, F, U, D, E, by assumption, S, by assumption⟩ G hu line n ((fl A u).length - (j + 1)) (j + 1) rfl (by omega) (by omega)
      have hb : barF A line f = (decide (A.1 53 κ 0 = nO) || decide (A.1 53 κ 0 < iN (nT A) - f.2.1) || decide (A.1 54 κ 0 < line)) := by
        unfold barF
        rw [hκ2, iN_clamp (by omega)]
      rw [drop_at hf, List.any_cons, hb]
      have hfb := k_forbids E hκ (iN (nT A) - f.2.1) line
      generalize (decide (A.1 53 κ 0 = nO) || decide (A.1 53 κ 0 < iN (nT A) - f.2.1) || decide (A.1 54 κ 0 < line)) = b at *
      cases b
      · simp (disch := omega) only [gd_t, gd_T, bx_some, bx_thr, bd_def, nx_in, ↓nO_eq, l0, l1, l2, l3, l4, l5, l6, l7, l8, l30, l50, l64, l100, l200, l448, l1200, iN_add, iN_lt, iN_le, iN_inj, iN_clamp, iN_inb, iN_nO, nO_iN, nO_lt, iN_ltm, iN_lem, nO_le, iN_pred, if_pos, if_neg, ↓reduceIte, or_true, true_or, and_true, true_and, ne_eq, not_true_eq_false, not_false_eq_true, false_or, or_false, and_false, false_and, l_X7_listForbids_3, hs, x1, y0, y1, c_permitAt hκ, hfb, bI_f, ih, Bool.false_or]
      · simp (disch := omega) only [gd_t, gd_T, bx_some, bx_thr, bd_def, nx_in, ↓nO_eq, l0, l1, l2, l3, l4, l5, l6, l7, l8, l30, l50, l64, l100, l200, l448, l1200, iN_add, iN_lt, iN_le, iN_inj, iN_clamp, iN_inb, iN_nO, nO_iN, nO_lt, iN_ltm, iN_lem, nO_le, iN_pred, if_pos, if_neg, ↓reduceIte, or_true, true_or, and_true, true_and, ne_eq, not_true_eq_false, not_false_eq_true, false_or, or_false, and_false, false_and, l_X7_listForbids_3, hs, x1, y0, y1, c_permitAt hκ, hfb, bI_t, Bool.true_or]
    · rw [List.drop_eq_nil_of_le hl]
      simp (disch := omega) only [gd_t, gd_T, bx_some, bx_thr, bd_def, nx_in, ↓nO_eq, l0, l1, l2, l3, l4, l5, l6, l7, l8, l30, l50, l64, l100, l200, l448, l1200, iN_add, iN_lt, iN_le, iN_inj, iN_clamp, iN_inb, iN_nO, nO_iN, nO_lt, iN_ltm, iN_lem, nO_le, iN_pred, if_pos, if_neg, ↓reduceIte, or_true, true_or, and_true, true_and, ne_eq, not_true_eq_false, not_false_eq_true, false_or, or_false, and_false, false_and, l_X7_listForbids_3, hs, List.any_nil, bI_f]
theorem k_bar {σ : Wd} {A : Ab} (R : RC σ A) (G : Gd A) {u : Nat} (hu : u < nU A) (line : Int32) : f_X7_listForbids σ u line (iN (nT A)) = some (.inl (bI (barS A u line)), σ) := by
  have := k_listF R G hu line FU _ 0 rfl (by have := (G.2.2.2.1 u hu).1; unfold FU; omega) (by decide)
  rw [List.drop_zero] at this
  exact this
theorem k_grave {σ : Wd} {x : Nat} (hx : x < σ.2.2 10) : f_X2_isGrave σ x = some (.inl (bI (grave (rdF σ x))), σ) := by
  unfold grave rdF
  simp (disch := omega) only [gd_t, gd_T, bx_some, bx_thr, bd_def, nx_in, ↓nO_eq, l0, l1, l2, l3, l4, l5, l6, l7, l8, l30, l50, l64, l100, l200, l448, l1200, iN_add, iN_lt, iN_le, iN_inj, iN_clamp, iN_inb, iN_nO, nO_iN, nO_lt, iN_ltm, iN_lem, nO_le, iN_pred, if_pos, if_neg, ↓reduceIte, or_true, true_or, and_true, true_and, ne_eq, not_true_eq_false, not_false_eq_true, false_or, or_false, and_false, false_and, f_X2_isGrave, j_X2_isGrave_15]
  by_cases h0 : σ.1 26 x 0 = iN 0
  · by_cases h1 : iN 4 < σ.1 26 x 3
    · simp [h0, h1, bI]
    · simp [h0, h1, bI, show ¬ iN 0 = iN 2 from by decide]
  · by_cases h2 : σ.1 26 x 0 = iN 2
    · by_cases h3 : σ.1 26 x 3 ≤ iN 50
      · simp [h2, h3, bI, lt_not.mpr h3, show ¬ iN 2 = iN 0 from by decide]
      · simp [h2, h3, bI, le_not.mp h3, show ¬ iN 2 = iN 0 from by decide]
    · simp [h0, h2, bI]
theorem k_graveL {σ : Wd} {A : Ab} (R : RC σ A) (G : Gd A) {u : Nat} (hu : u < nU A) : ∀ (n k j c : Nat), (fl A u).length - j = k → k < n → c ≤ j → j ≤ 8 → l_X7_faultsAreGrave_4 n σ (iN j) (iN c) u = some (.inl (bI (((fl A u).drop j).any grave || decide (2 ≤ c + ((fl A u).drop j).countP door))), σ)
  | n + 1, k, j, c, hk, hn, hc, hj8 => by
    obtain ⟨H, F, U, D, E, _, S, _⟩ := R
    have g8 := (G.2.2.2.1 u hu).1
    have e8 := H.1
    have hs := c_szf H F hu
    rcases at_or (fl A u) j with ⟨f, hf, hl⟩ | hl
    · obtain ⟨x, x1, x2, x3⟩ := k_faultAt H F G.1 hu g8 hf
      have y0 : σ.1 26 x 0 = f.1 := by rw [← x3]; rfl
      have hg := k_grave x2
      rw [x3] at hg
      rw [drop_at hf, List.any_cons, List.countP_cons]
      have hd : door f = decide (f.1 = iN 1) := rfl
      by_cases h1 : grave f = true
      · rw [h1] at hg ⊢
        simp (disch := omega) only [gd_t, gd_T, bx_some, bx_thr, bd_def, nx_in, ↓nO_eq, l0, l1, l2, l3, l4, l5, l6, l7, l8, l30, l50, l64, l100, l200, l448, l1200, iN_add, iN_lt, iN_le, iN_inj, iN_clamp, iN_inb, iN_nO, nO_iN, nO_lt, iN_ltm, iN_lem, nO_le, iN_pred, if_pos, if_neg, ↓reduceIte, or_true, true_or, and_true, true_and, ne_eq, not_true_eq_false, not_false_eq_true, false_or, or_false, and_false, false_and, l_X7_faultsAreGrave_4, hs, x1, hg, bI_t, Bool.true_or]
      · have h1 : grave f = false := by simpa using h1
        rw [h1] at hg ⊢
        by_cases h2 : f.1 = iN 1
        · have ih := k_graveL ⟨H, F, U, D, E, by assumption, S, by assumption⟩ G hu n ((fl A u).length - (j + 1)) (j + 1) (c + 1) rfl (by omega) (by omega) (by omega)
          rw [hd, h2]
          simp (disch := omega) only [gd_t, gd_T, bx_some, bx_thr, bd_def, nx_in, ↓nO_eq, l0, l1, l2, l3, l4, l5, l6, l7, l8, l30, l50, l64, l100, l200, l448, l1200, iN_add, iN_lt, iN_le, iN_inj, iN_clamp, iN_inb, iN_nO, nO_iN, nO_lt, iN_ltm, iN_lem, nO_le, iN_pred, if_pos, if_neg, ↓reduceIte, or_true, true_or, and_true, true_and, ne_eq, not_true_eq_false, not_false_eq_true, false_or, or_false, and_false, false_and, l_X7_faultsAreGrave_4, hs, x1, y0, h2, hg, bI_f, ih, Bool.false_or, decide_true]
          rw [Nat.add_assoc, Nat.add_comm 1]
        · have ih := k_graveL ⟨H, F, U, D, E, by assumption, S, by assumption⟩ G hu n ((fl A u).length - (j + 1)) (j + 1) c rfl (by omega) (by omega) (by omega)
          rw [hd]
          simp (disch := omega) only [gd_t, gd_T, bx_some, bx_thr, bd_def, nx_in, ↓nO_eq, l0, l1, l2, l3, l4, l5, l6, l7, l8, l30, l50, l64, l100, l200, l448, l1200, iN_add, iN_lt, iN_le, iN_inj, iN_clamp, iN_inb, iN_nO, nO_iN, nO_lt, iN_ltm, iN_lem, nO_le, iN_pred, if_pos, if_neg, ↓reduceIte, or_true, true_or, and_true, true_and, ne_eq, not_true_eq_false, not_false_eq_true, false_or, or_false, and_false, false_and, l_X7_faultsAreGrave_4, hs, x1, y0, h2, hg, bI_f, ih, Bool.false_or, decide_false, Bool.false_eq_true, Nat.add_zero]
    · rw [List.drop_eq_nil_of_le hl]
      by_cases h2 : c < 2
      · have h3 : ¬ 2 ≤ c := by omega
        simp (disch := omega) only [gd_t, gd_T, bx_some, bx_thr, bd_def, nx_in, ↓nO_eq, l0, l1, l2, l3, l4, l5, l6, l7, l8, l30, l50, l64, l100, l200, l448, l1200, iN_add, iN_lt, iN_le, iN_inj, iN_clamp, iN_inb, iN_nO, nO_iN, nO_lt, iN_ltm, iN_lem, nO_le, iN_pred, if_pos, if_neg, ↓reduceIte, or_true, true_or, and_true, true_and, ne_eq, not_true_eq_false, not_false_eq_true, false_or, or_false, and_false, false_and, l_X7_faultsAreGrave_4, hs, List.any_nil, List.countP_nil, h3, decide_false, Bool.or_self, bI_f, Nat.add_zero]
      · have h3 : 2 ≤ c := by omega
        simp (disch := omega) only [gd_t, gd_T, bx_some, bx_thr, bd_def, nx_in, ↓nO_eq, l0, l1, l2, l3, l4, l5, l6, l7, l8, l30, l50, l64, l100, l200, l448, l1200, iN_add, iN_lt, iN_le, iN_inj, iN_clamp, iN_inb, iN_nO, nO_iN, nO_lt, iN_ltm, iN_lem, nO_le, iN_pred, if_pos, if_neg, ↓reduceIte, or_true, true_or, and_true, true_and, ne_eq, not_true_eq_false, not_false_eq_true, false_or, or_false, and_false, false_and, l_X7_faultsAreGrave_4, hs, List.any_nil, List.countP_nil, h3, decide_true, Bool.false_or, bI_t, Nat.add_zero]
theorem k_bad {σ : Wd} {A : Ab} (R : RC σ A) (G : Gd A) {u : Nat} (hu : u < nU A) : f_X7_faultsAreGrave σ u = some (.inl (bI (badS A u)), σ) := by
  have := k_graveL R G hu FU _ 0 0 rfl (by have := (G.2.2.2.1 u hu).1; unfold FU; omega) (by decide) (by decide)
  rw [List.drop_zero, Nat.zero_add] at this
  exact this
theorem k_least {σ : Wd} {A : Ab} (H : RCl σ A) (U : RCu σ A) {u : Nat} (hu : u < nU A) : f_X8_leastAxle σ u = some (.inl (lo4 (A.1 34 u)), σ) := by
  obtain ⟨m, hm⟩ := FU_ge 4 (by decide)
  have e8 := H.1
  have a1 := (U u hu).2.2.2.2.2 1 (by decide)
  have a2 := (U u hu).2.2.2.2.2 2 (by decide)
  have a3 := (U u hu).2.2.2.2.2 3 (by decide)
  unfold f_X8_leastAxle
  rw [hm]
  simp (disch := omega) only [gd_t, gd_T, bx_some, bx_thr, bd_def, nx_in, ↓nO_eq, l0, l1, l2, l3, l4, l5, l6, l7, l8, l30, l50, l64, l100, l200, l448, l1200, iN_add, iN_lt, iN_le, iN_inj, iN_clamp, iN_inb, iN_nO, nO_iN, nO_lt, iN_ltm, iN_lem, nO_le, iN_pred, if_pos, if_neg, ↓reduceIte, or_true, true_or, and_true, true_and, ne_eq, not_true_eq_false, not_false_eq_true, false_or, or_false, and_false, false_and, k_axle H U hu, l_X8_leastAxle_8, a1, a2, a3]
  rfl
theorem k_most {σ : Wd} {A : Ab} (H : RCl σ A) (U : RCu σ A) {u : Nat} (hu : u < nU A) : f_X8_greatestAxle σ u = some (.inl (hi4 (A.1 34 u)), σ) := by
  obtain ⟨m, hm⟩ := FU_ge 4 (by decide)
  have e8 := H.1
  have a1 := (U u hu).2.2.2.2.2 1 (by decide)
  have a2 := (U u hu).2.2.2.2.2 2 (by decide)
  have a3 := (U u hu).2.2.2.2.2 3 (by decide)
  unfold f_X8_greatestAxle
  rw [hm]
  simp (disch := omega) only [gd_t, gd_T, bx_some, bx_thr, bd_def, nx_in, ↓nO_eq, l0, l1, l2, l3, l4, l5, l6, l7, l8, l30, l50, l64, l100, l200, l448, l1200, iN_add, iN_lt, iN_le, iN_inj, iN_clamp, iN_inb, iN_nO, nO_iN, nO_lt, iN_ltm, iN_lem, nO_le, iN_pred, if_pos, if_neg, ↓reduceIte, or_true, true_or, and_true, true_and, ne_eq, not_true_eq_false, not_false_eq_true, false_or, or_false, and_false, false_and, k_axle H U hu, l_X8_greatestAxle_8, a1, a2, a3]
  rfl
theorem k_worn {σ : Wd} {A : Ab} (H : RCl σ A) (U : RCu σ A) {u : Nat} (hu : u < nU A) : f_X7_axlesAreBad σ u = some (.inl (bI (wornS A u)), σ) := by
  have e8 := H.1
  unfold wornS
  simp (disch := omega) only [gd_t, gd_T, bx_some, bx_thr, bd_def, nx_in, ↓nO_eq, l0, l1, l2, l3, l4, l5, l6, l7, l8, l30, l50, l64, l100, l200, l448, l1200, iN_add, iN_lt, iN_le, iN_inj, iN_clamp, iN_inb, iN_nO, nO_iN, nO_lt, iN_ltm, iN_lem, nO_le, iN_pred, if_pos, if_neg, ↓reduceIte, or_true, true_or, and_true, true_and, ne_eq, not_true_eq_false, not_false_eq_true, false_or, or_false, and_false, false_and, f_X7_axlesAreBad, k_least H U hu, k_most H U hu]
  by_cases h1 : iN 6 < hi4 (A.1 34 u) - lo4 (A.1 34 u)
  · simp [h1, bI]
  · by_cases h2 : 800 ≤ lo4 (A.1 34 u)
    · simp [h1, h2, bI, lt_not.mpr h2]
    · simp [h1, h2, bI, le_not.mp h2]
theorem k_reason {σ : Wd} {A : Ab} (R : RC σ A) (G : Gd A) {u d : Nat} (hu : u < nU A) (hd : d < nD A) : f_X7_reasonAgainst σ u d (iN (nT A)) = some (.inl (rsn A u d), σ) := by
  obtain ⟨H, F, U, D, E, _, S, _⟩ := R
  have R : RC σ A := ⟨H, F, U, D, E, by assumption, S, by assumption⟩
  have e8 := H.1
  have e9 := H.2.1
  have u2 := (U u hu).2.1
  obtain ⟨d0, d1, d2, d3, _⟩ := D d hd
  have hb := k_bits H E U hu (A.1 46 d 0)
  have ho := obits_0 (due A u (A.1 46 d 0) 0) (due A u (A.1 46 d 0) 1) (due A u (A.1 46 d 0) 2)
  change _ ↔ dueS A u (A.1 46 d 0) = false at ho
  generalize obits (due A u (A.1 46 d 0) 0) (due A u (A.1 46 d 0) 1) (due A u (A.1 46 d 0) 2) = bits at *
  unfold rsn
  simp (disch := omega) only [gd_t, gd_T, bx_some, bx_thr, bd_def, nx_in, ↓nO_eq, l0, l1, l2, l3, l4, l5, l6, l7, l8, l30, l50, l64, l100, l200, l448, l1200, iN_add, iN_lt, iN_le, iN_inj, iN_clamp, iN_inb, iN_nO, nO_iN, nO_lt, iN_ltm, iN_lem, nO_le, iN_pred, if_pos, if_neg, ↓reduceIte, or_true, true_or, and_true, true_and, ne_eq, not_true_eq_false, not_false_eq_true, false_or, or_false, and_false, false_and, f_X7_reasonAgainst, u2, d0, d2, d3, hb, k_bar R G hu, k_bad R G hu, k_worn H U hu, ho, bI_0]
  by_cases h1 : A.1 31 u 0 = A.1 44 d 0
  · by_cases h2 : dueS A u (A.1 46 d 0) = true
    · simp [h1, h2]
    · by_cases h3 : barS A u (A.1 47 d 0) = true
      · simp [h1, h2, h3]
      · by_cases h4 : badS A u = true
        · simp [h1, h2, h3, h4]
        · by_cases h5 : wornS A u = true
          · simp [h1, h2, h3, h4, h5]
          · simp [h1, h2, h3, h4, h5]
  · simp [h1]
