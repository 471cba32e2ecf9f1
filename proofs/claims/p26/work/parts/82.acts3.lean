/-! the lathe -/
theorem sub_sub2 (x d e : Int32) : x - (d + e) = x - d - e := by
  rw [Int32.add_comm, ← sub_sub1]
theorem ls_1462 (L : Nat) (xs : Nat → Int32) {σ : Wd} {A : Ab} (B : RB σ A) (g4 : GxN A) {u k : Nat} (hu : u < 4) (hk4 : k < 4) (g8 : (fl A u).length ≤ 8) (hk : ∀ f, f ∈ fl A u → okF f) (k1433 : Wd → Int32 → Int32 → Int32 → Int32 → Int32 → Int32 → Int32 → Int32 → Int32 → Int32 → Option Unit) (least may a14 a12 a11 a10 a9 : Int32) : ∀ (n m j : Nat) (x : Int32), (fl A u).length - j = m → m < n → j ≤ 8 → l_L_law_1462 L xs k1433 n σ (iN (8 * u + j)) x (iN k) least may (iN (16 * u)) (iN u) a14 a12 a11 a10 a9 = k1433 σ (iN (k + 1)) (mn least (x - ds k ((fl A u).drop j))) may (iN (16 * u)) (iN u) a14 a12 a11 a10 a9
  | n + 1, m, j, x, hm, hn, hj8 => by
    have huA : u < nU A := by rw [g4.1]; exact hu
    have y5 := (B.1 u huA).2.2.2.2.2
    rcases at_or (fl A u) j with ⟨f, hf, hl⟩ | hl
    · obtain ⟨f0, f1, f2, f3⟩ := B.2.1 u huA j f hf
      have ih := fun x => ls_1462 L xs B g4 hu hk4 g8 hk k1433 least may a14 a12 a11 a10 a9 n ((fl A u).length - (j + 1)) (j + 1) x rfl (by omega) (by omega)
      have hj1 : 8 * u + j + 1 = 8 * u + (j + 1) := rfl
      have hl' : ¬ 8 * u + (fl A u).length ≤ 8 * u + j := by omega
      rw [drop_at hf]
      rw [show ds k (f :: (fl A u).drop (j + 1)) = (if f.1 = iN 0 ∧ f.2.2.1.toNatClampNeg = k then f.2.2.2 else 0) + ds k ((fl A u).drop (j + 1)) from rfl]
      by_cases h0 : f.1 = iN 0
      · obtain ⟨b, hb, hb2⟩ := hk f (List.mem_of_getElem? hf) h0
        by_cases h1 : b = k
        · subst h1
          have hcc : f.1 = iN 0 ∧ f.2.2.1.toNatClampNeg = b := ⟨h0, by rw [hb2]; exact iN_clamp (by omega)⟩
          rw [if_pos hcc, sub_sub2, ← ih]
          simp (disch := omega) only [gd_t, gd_T, bx_some, bx_thr, bd_def, nx_in, ↓nO_eq, l0, l1, l2, l3, l4, l5, l6, l7, l8, l9, l10, l12, l13, l16, l17, l18, l25, l30, l32, l33, l50, l64, l100, l200, l448, l1200, iN_add, iN_lt, iN_le, iN_inj, iN_clamp, iN_inb, iN_nO, nO_iN, nO_lt, iN_ltm, iN_lem, nO_le, iN_pred, if_pos, if_neg, ↓reduceIte, or_true, true_or, and_true, true_and, ne_eq, not_true_eq_false, not_false_eq_true, false_or, or_false, and_false, false_and, l_L_law_1462, iN_mul, y5, hl', f0, h0, f2, hb2, f3, hj1]
        · have hcc : ¬ (f.1 = iN 0 ∧ f.2.2.1.toNatClampNeg = k) := fun z => h1 (by rw [← z.2, hb2]; exact (iN_clamp (by omega)).symm)
          rw [if_neg hcc, sub_sub2, ← ih]
          simp (disch := omega) only [gd_t, gd_T, bx_some, bx_thr, bd_def, nx_in, ↓nO_eq, l0, l1, l2, l3, l4, l5, l6, l7, l8, l9, l10, l12, l13, l16, l17, l18, l25, l30, l32, l33, l50, l64, l100, l200, l448, l1200, iN_add, iN_lt, iN_le, iN_inj, iN_clamp, iN_inb, iN_nO, nO_iN, nO_lt, iN_ltm, iN_lem, nO_le, iN_pred, if_pos, if_neg, ↓reduceIte, or_true, true_or, and_true, true_and, ne_eq, not_true_eq_false, not_false_eq_true, false_or, or_false, and_false, false_and, l_L_law_1462, iN_mul, y5, hl', f0, h0, f2, hb2, h1, hj1]
      · have hcc : ¬ (f.1 = iN 0 ∧ f.2.2.1.toNatClampNeg = k) := fun z => h0 z.1
        rw [if_neg hcc, sub_sub2, ← ih]
        simp (disch := omega) only [gd_t, gd_T, bx_some, bx_thr, bd_def, nx_in, ↓nO_eq, l0, l1, l2, l3, l4, l5, l6, l7, l8, l9, l10, l12, l13, l16, l17, l18, l25, l30, l32, l33, l50, l64, l100, l200, l448, l1200, iN_add, iN_lt, iN_le, iN_inj, iN_clamp, iN_inb, iN_nO, nO_iN, nO_lt, iN_ltm, iN_lem, nO_le, iN_pred, if_pos, if_neg, ↓reduceIte, or_true, true_or, and_true, true_and, ne_eq, not_true_eq_false, not_false_eq_true, false_or, or_false, and_false, false_and, l_L_law_1462, iN_mul, y5, hl', f0, h0, hj1]
    · have hl' : 8 * u + (fl A u).length ≤ 8 * u + j := by omega
      have hs0 : x - ds k [] = x := by
        show x - 0 = x
        exact Int32.sub_zero x
      rw [List.drop_eq_nil_of_le hl, hs0]
      unfold mn
      by_cases h : least ≤ x
      · simp (disch := omega) only [gd_t, gd_T, bx_some, bx_thr, bd_def, nx_in, ↓nO_eq, l0, l1, l2, l3, l4, l5, l6, l7, l8, l9, l10, l12, l13, l16, l17, l18, l25, l30, l32, l33, l50, l64, l100, l200, l448, l1200, iN_add, iN_lt, iN_le, iN_inj, iN_clamp, iN_inb, iN_nO, nO_iN, nO_lt, iN_ltm, iN_lem, nO_le, iN_pred, if_pos, if_neg, ↓reduceIte, or_true, true_or, and_true, true_and, ne_eq, not_true_eq_false, not_false_eq_true, false_or, or_false, and_false, false_and, l_L_law_1462, iN_mul, y5, hl', h, lt_not.mpr h]
      · simp (disch := omega) only [gd_t, gd_T, bx_some, bx_thr, bd_def, nx_in, ↓nO_eq, l0, l1, l2, l3, l4, l5, l6, l7, l8, l9, l10, l12, l13, l16, l17, l18, l25, l30, l32, l33, l50, l64, l100, l200, l448, l1200, iN_add, iN_lt, iN_le, iN_inj, iN_clamp, iN_inb, iN_nO, nO_iN, nO_lt, iN_ltm, iN_lem, nO_le, iN_pred, if_pos, if_neg, ↓reduceIte, or_true, true_or, and_true, true_and, ne_eq, not_true_eq_false, not_false_eq_true, false_or, or_false, and_false, false_and, l_L_law_1462, iN_mul, y5, hl', h, le_not.mp h]
theorem ds_bnd (a : Nat) : ∀ l : List Fa, (∀ f, f ∈ l → f.1 = iN 0 → ∃ q, q ≤ 20 ∧ f.2.2.2 = iN q) → ∃ D, D ≤ 20 * l.length ∧ ds a l = iN D
  | [], _ => ⟨0, by decide, rfl⟩
  | f :: l, h => by
    obtain ⟨D, d1, d2⟩ := ds_bnd a l (fun g hg => h g (List.mem_cons_of_mem _ hg))
    show ∃ D, D ≤ 20 * (l.length + 1) ∧ (if f.1 = iN 0 ∧ f.2.2.1.toNatClampNeg = a then f.2.2.2 else 0) + ds a l = iN D
    by_cases hc : f.1 = iN 0 ∧ f.2.2.1.toNatClampNeg = a
    · obtain ⟨q, q1, q2⟩ := h f (List.mem_cons_self ..) hc.1
      refine ⟨q + D, by omega, ?_⟩
      rw [if_pos hc, q2, d2, iN_add]
    · refine ⟨D, by omega, ?_⟩
      rw [if_neg hc, d2, Int32.zero_add]
/-- what an axle is less its FLATS -/
def lsk (A : Ab) (u k : Nat) : Int32 := A.1 34 u k - ds k (fl A u)
theorem lsk_bnd {A : Ab} {t : Nat} (gk : Gxk A t) {u k : Nat} (hu : u < 4) (hk : k < 4) (g8 : (fl A u).length ≤ 8) : ∃ z : Int, -200 * (3 * ((t : Int) + 1)) ≤ z ∧ z ≤ 900 ∧ lsk A u k = iZ z := by
  obtain ⟨z, z1, z2, z3⟩ := (gk u hu).2.1 k hk
  obtain ⟨D, d1, d2⟩ := ds_bnd k (fl A u) (gk u hu).2.2.2
  refine ⟨z - D, by omega, by omega, ?_⟩
  unfold lsk
  rw [z3, d2, iZ_iN, iZ_sub]
theorem mn_or (a b : Int32) : mn a b = a ∨ mn a b = b := by
  unfold mn
  split
  · exact Or.inr rfl
  · exact Or.inl rfl
theorem lst_bnd {A : Ab} {t : Nat} (gk : Gxk A t) {u : Nat} (hu : u < 4) (g8 : (fl A u).length ≤ 8) : ∃ z : Int, -200 * (3 * ((t : Int) + 1)) ≤ z ∧ z ≤ 900 ∧ lst A u = iZ z := by
  have h : ∃ k, k < 4 ∧ lst A u = lsk A u k := by
    show ∃ k, k < 4 ∧ mn (mn (mn (lsk A u 0) (lsk A u 1)) (lsk A u 2)) (lsk A u 3) = lsk A u k
    rcases mn_or (mn (mn (lsk A u 0) (lsk A u 1)) (lsk A u 2)) (lsk A u 3) with h | h
    · rcases mn_or (mn (lsk A u 0) (lsk A u 1)) (lsk A u 2) with h2 | h2
      · rcases mn_or (lsk A u 0) (lsk A u 1) with h3 | h3
        · exact ⟨0, by decide, h.trans (h2.trans h3)⟩
        · exact ⟨1, by decide, h.trans (h2.trans h3)⟩
      · exact ⟨2, by decide, h.trans h2⟩
    · exact ⟨3, by decide, h⟩
  obtain ⟨k, hk, e⟩ := h
  rw [e]
  exact lsk_bnd gk hu hk g8
theorem ls_1433 (L : Nat) (xs : Nat → Int32) {σ : Wd} {A : Ab} (B : RB σ A) (g4 : GxN A) {t : Nat} (ht : t < 60) (gk : Gxk A t) {u : Nat} (hu : u < 4) (g8 : (fl A u).length ≤ 8) (hk : ∀ f, f ∈ fl A u → okF f) (k600 : KQ) (a14 a12 a11 a10 a9 : Int32) : l_L_law_1433 L xs k600 FU σ (iN 0) 100000 (iN 1) (iN (16 * u)) (iN u) a14 a12 a11 a10 a9 = j_L_law_1542 L xs k600 σ (lst A u) (iN 1) (iN (16 * u)) (iN u) a14 a12 a11 a10 a9 := by
  have huA : u < nU A := by rw [g4.1]; exact hu
  have n10 : ¬ iN 1 = iN 0 := by decide
  obtain ⟨m, hm⟩ := FU_ge 5 (by decide)
  have step : ∀ k, k < 4 → ∀ (n : Nat) (least : Int32), l_L_law_1433 L xs k600 (n + 1) σ (iN k) least (iN 1) (iN (16 * u)) (iN u) a14 a12 a11 a10 a9 = l_L_law_1433 L xs k600 n σ (iN (k + 1)) (mn least (lsk A u k)) (iN 1) (iN (16 * u)) (iN u) a14 a12 a11 a10 a9 := fun k hk4 n least => by
    have y2 := (B.1 u huA).2.2.1 k hk4
    have h := ls_1462 L xs B g4 hu hk4 g8 hk (l_L_law_1433 L xs k600 n) least (iN 1) a14 a12 a11 a10 a9 FU _ 0 (A.1 34 u k) rfl (by unfold FU; omega) (by decide)
    rw [List.drop_zero, Nat.add_zero] at h
    unfold lsk
    rw [← h]
    have h4 : ¬ 4 ≤ k := by omega
    simp (disch := omega) only [gd_t, gd_T, bx_some, bx_thr, bd_def, nx_in, ↓nO_eq, l0, l1, l2, l3, l4, l5, l6, l7, l8, l9, l10, l12, l13, l16, l17, l18, l25, l30, l32, l33, l50, l64, l100, l200, l448, l1200, iN_add, iN_lt, iN_le, iN_inj, iN_clamp, iN_inb, iN_nO, nO_iN, nO_lt, iN_ltm, iN_lem, nO_le, iN_pred, if_pos, if_neg, ↓reduceIte, or_true, true_or, and_true, true_and, ne_eq, not_true_eq_false, not_false_eq_true, false_or, or_false, and_false, false_and, l_L_law_1433, h4, n10, iN_mul, y2]
  rw [show l_L_law_1433 L xs k600 FU σ (iN 0) 100000 (iN 1) (iN (16 * u)) (iN u) a14 a12 a11 a10 a9 = l_L_law_1433 L xs k600 (m + 5) σ (iN 0) 100000 (iN 1) (iN (16 * u)) (iN u) a14 a12 a11 a10 a9 by rw [hm]]
  rw [step 0 (by decide), step 1 (by decide), step 2 (by decide), step 3 (by decide)]
  have h0 : mn 100000 (lsk A u 0) = lsk A u 0 := by
    obtain ⟨z, z1, z2, z3⟩ := lsk_bnd gk hu (by decide : 0 < 4) g8
    unfold mn
    rw [z3, show (100000 : Int32) = iZ 100000 by decide]
    exact if_pos ((iZ_lt (by omega) (by omega) (by omega) (by omega)).mpr (by omega))
  rw [h0, l_L_law_1433, if_pos (by decide)]
  rfl
/-- the axles are written -/
def axl (σ : Wd) (u : Nat) (v : Int32) : Wd := wr (wr (wr (wr σ 71 0 (16 * u + (2 + 0)) v) 71 0 (16 * u + (2 + 1)) v) 71 0 (16 * u + (2 + 2)) v) 71 0 (16 * u + (2 + 3)) v
theorem axl_S (σ : Wd) (u : Nat) (v : Int32) : LSw σ (axl σ u v) := ((((LSw.rf σ).wr (by decide)).wr (by decide)).wr (by decide)).wr (by decide)
theorem axl_71 (σ : Wd) (u : Nat) (v : Int32) (x : Nat) : (axl σ u v).1 71 0 x = if 16 * u + 2 ≤ x ∧ x < 16 * u + 6 then v else σ.1 71 0 x := by
  unfold axl
  rw [wr_rd, wr_rd, wr_rd, wr_rd]
  by_cases h : 16 * u + 2 ≤ x ∧ x < 16 * u + 6
  · rw [if_pos h]
    by_cases h3 : x = 16 * u + (2 + 3)
    · rw [if_pos ⟨rfl, rfl, h3⟩]
    · rw [if_neg (by omega)]
      by_cases h2 : x = 16 * u + (2 + 2)
      · rw [if_pos ⟨rfl, rfl, h2⟩]
      · rw [if_neg (by omega)]
        by_cases h1 : x = 16 * u + (2 + 1)
        · rw [if_pos ⟨rfl, rfl, h1⟩]
        · rw [if_neg (by omega), if_pos (by omega)]
  · rw [if_neg h, if_neg (by omega), if_neg (by omega), if_neg (by omega), if_neg (by omega)]
theorem axl_off (σ : Wd) (u : Nat) (v : Int32) {t : Nat} (ht : t ≠ 71) : (axl σ u v).1 t = σ.1 t := by
  funext i x
  unfold axl
  rw [wr_rd, if_neg (by omega), wr_rd, if_neg (by omega), wr_rd, if_neg (by omega), wr_rd, if_neg (by omega)]
theorem axl_B {σ : Wd} {A : Ab} (B : RB σ A) (g4 : GxN A) {u : Nat} (hu : u < 4) (v : Int32) : RB (axl σ u v) (axG A u (fun _ => v)) := by
  obtain ⟨U, F, R, D, E1, E2⟩ := B
  have B2 : RBf (axl σ u v) A ∧ RBr (axl σ u v) A ∧ RBd (axl σ u v) A ∧ RBe (axl σ u v) A := by
    unfold RBf RBr RBd RBe
    rw [axl_off σ u v (t := 72) (by decide), axl_off σ u v (t := 73) (by decide), axl_off σ u v (t := 74) (by decide), axl_off σ u v (t := 75) (by decide), axl_off σ u v (t := 76) (by decide)]
    exact ⟨F, R, D, E1, E2⟩
  refine ⟨fun w hw => ?_, B2.1, B2.2.1, B2.2.2.1, B2.2.2.2⟩
  obtain ⟨y0, y1, y2, y3, y4, y5⟩ := U w hw
  refine ⟨?_, ?_, fun a ha => ?_, fun k hk => ?_, fun k hk => ?_, ?_⟩
  · rw [axl_71, if_neg (by omega)]; exact y0
  · rw [axl_71, if_neg (by omega)]; exact y1
  · rw [axl_71, axG_rd]
    by_cases h : w = u
    · rw [if_pos (by omega), if_pos ⟨rfl, h⟩]
    · rw [if_neg (by omega), if_neg (by omega)]; exact y2 a ha
  · rw [axl_71, if_neg (by omega)]; exact y3 k hk
  · rw [axl_71, if_neg (by omega)]; exact y4 k hk
  · rw [axl_71, if_neg (by omega)]; exact y5
theorem ls_1593 (L : Nat) (xs : Nat → Int32) {σ : Wd} {u : Nat} (hu : u < 4) (k600 : KQ) (a12 a13 a21 a14 a11 a10 a9 : Int32) : l_L_law_1593 L xs k600 FU σ (iN 2) a12 a13 a21 (iN 1) (iN (16 * u)) (iN u) a14 a11 a10 a9 = j_L_law_1620 L xs k600 (axl σ u a21) a12 a13 (iN 1) (iN (16 * u)) (iN u) a14 a11 a10 a9 := by
  have n10 : ¬ iN 1 = iN 0 := by decide
  obtain ⟨m, hm⟩ := FU_ge 5 (by decide)
  have step : ∀ k, k < 4 → ∀ (n : Nat) (τ : Wd), l_L_law_1593 L xs k600 (n + 1) τ (iN (2 + k)) a12 a13 a21 (iN 1) (iN (16 * u)) (iN u) a14 a11 a10 a9 = l_L_law_1593 L xs k600 n (wr τ 71 0 (16 * u + (2 + k)) a21) (iN (2 + (k + 1))) a12 a13 a21 (iN 1) (iN (16 * u)) (iN u) a14 a11 a10 a9 := fun k hk4 n τ => by
    have h6 : ¬ 6 ≤ 2 + k := by omega
    have h1 : 2 + k + 1 = 2 + (k + 1) := rfl
    simp (disch := omega) only [gd_t, gd_T, bx_some, bx_thr, bd_def, nx_in, ↓nO_eq, l0, l1, l2, l3, l4, l5, l6, l7, l8, l9, l10, l12, l13, l16, l17, l18, l25, l30, l32, l33, l50, l64, l100, l200, l448, l1200, iN_add, iN_lt, iN_le, iN_inj, iN_clamp, iN_inb, iN_nO, nO_iN, nO_lt, iN_ltm, iN_lem, nO_le, iN_pred, if_pos, if_neg, ↓reduceIte, or_true, true_or, and_true, true_and, ne_eq, not_true_eq_false, not_false_eq_true, false_or, or_false, and_false, false_and, l_L_law_1593, h6, n10, h1]
  rw [show l_L_law_1593 L xs k600 FU σ (iN 2) a12 a13 a21 (iN 1) (iN (16 * u)) (iN u) a14 a11 a10 a9 = l_L_law_1593 L xs k600 (m + 5) σ (iN (2 + 0)) a12 a13 a21 (iN 1) (iN (16 * u)) (iN u) a14 a11 a10 a9 by rw [hm]]
  rw [step 0 (by decide), step 1 (by decide), step 2 (by decide), step 3 (by decide)]
  rw [l_L_law_1593, if_pos (by decide)]
  rfl
theorem ls_1631 (L : Nat) (xs : Nat → Int32) {u : Nat} (hu : u < 4) (k600 : KQ) (a12 a13 a14 a11 a10 a9 : Int32) : ∀ (n : Nat) (p r : List Fa) (fu : Nat) (σ : Wd) (A : Ab), p.length = n → n < fu → RB σ A → GxN A → fl A u = p ++ r → (∀ v, v < 4 → (fl A v).length ≤ 8) → ∃ σ', l_L_law_1631 L xs k600 fu σ (pr n) a12 a13 (iN 1) (iN u) a14 a11 a10 a9 = j_L_law_1937 L xs k600 σ' a13 a14 a12 a11 a10 a9 ∧ LSw σ σ' ∧ RB σ' (flA A u (p.filter nfl ++ r))
  | 0, p, r, fu, σ, A, hp, hn, B, g4, hl, h8 => by
    obtain ⟨m, rfl⟩ : ∃ m, fu = m + 1 := ⟨fu - 1, by omega⟩
    have : p = [] := List.eq_nil_of_length_eq_zero hp
    subst this
    refine ⟨σ, ?_, LSw.rf σ, ?_⟩
    · unfold l_L_law_1631 pr
      rw [if_pos (by decide)]
      rfl
    · rw [List.filter_nil, ← hl, flA_self]; exact B
  | n + 1, p, r, fu, σ, A, hp, hn, B, g4, hl, h8 => by
    obtain ⟨m, rfl⟩ : ∃ m, fu = m + 1 := ⟨fu - 1, by omega⟩
    rcases List.eq_nil_or_concat p with hnil | ⟨p', x, hpx⟩
    · rw [hnil] at hp
      exact absurd hp (by simp)
    · rw [hpx] at hp hl ⊢
      simp only [List.concat_eq_append, List.append_assoc, List.singleton_append] at hp hl ⊢
      have hpl : p'.length = n := by simpa using hp
      have huA : u < nU A := by rw [g4.1]; exact hu
      have hj : (fl A u)[n]? = some x := by rw [hl, ← hpl]; exact at_mid x r p'
      have hjl : n < (fl A u).length := (List.getElem?_eq_some_iff.mp hj).1
      have h8u := h8 u hu
      have f0 := (B.2.1 u huA n x hj).1
      have hnn : ¬ iN n < 0 := by rw [show (0 : Int32) = iN 0 from rfl, iN_lt (by omega) (by decide)]; omega
      have hix : (8 : Int32) * iN u + iN n = iN (8 * u + n) := by rw [show (8 : Int32) = iN 8 from rfl, iN_mul, iN_add]
      have hstep : l_L_law_1631 L xs k600 (m + 1) σ (pr (n + 1)) a12 a13 (iN 1) (iN u) a14 a11 a10 a9 = if x.1 = 0 then bu (f_L_remove σ (iN u) (iN n)) (fun v45 σ46 => l_L_law_1631 L xs k600 m σ46 (pr n) a12 a13 (iN 1) (iN u) a14 a11 a10 a9) else l_L_law_1631 L xs k600 m σ (pr n) a12 a13 (iN 1) (iN u) a14 a11 a10 a9 := by
        rw [show pr (n + 1) = iN n from rfl, l_L_law_1631, if_neg hnn, if_neg (by decide), hix, gd_t ((iN_inb (by omega)).mpr (by omega)), iN_clamp (by omega), f0, pr_add]
      rw [hstep]
      by_cases h0 : x.1 = 0
      · obtain ⟨σ1, d1, d2, -, d3⟩ := r_remove B g4 hu h8 hjl
        have hne : nfl x = false := by unfold nfl; simp; exact h0
        rw [hl, ← hpl, erase_mid] at d3
        have hl' : fl (flA A u (p' ++ r)) u = p' ++ r := by rw [fl_flA, if_pos rfl]
        obtain ⟨σ2, q1, q2, q3⟩ := ls_1631 L xs hu k600 a12 a13 a14 a11 a10 a9 n p' r m σ1 (flA A u (p' ++ r)) hpl (by omega) d3 g4 hl' (fun v hv => by
          rw [fl_flA]
          by_cases h : v = u
          · rw [if_pos h]
            have := h8 u hu
            rw [hl] at this
            simp at this ⊢
            omega
          · rw [if_neg h]; exact h8 v hv)
        refine ⟨σ2, ?_, d2.tr q2, ?_⟩
        · rw [if_pos h0, d1, bu_some, q1]
        · rw [flA_flA] at q3
          rw [List.filter_append, List.filter_cons_of_neg (by rw [hne]; decide), List.filter_nil, List.append_nil]
          exact q3
      · have hne : nfl x = true := by unfold nfl; simp; exact h0
        obtain ⟨σ2, q1, q2, q3⟩ := ls_1631 L xs hu k600 a12 a13 a14 a11 a10 a9 n p' (x :: r) m σ A hpl (by omega) B g4 hl h8
        refine ⟨σ2, ?_, q2, ?_⟩
        · rw [if_neg h0, q1]
        · rw [List.filter_append, List.filter_cons_of_pos hne, List.filter_nil, List.append_assoc]
          exact q3
theorem t_lathe (L : Nat) (xs : Nat → Int32) {σ : Wd} {A : Ab} {t : Nat} (K : Kt σ A t) (ht : t < 60) (P : Gxp A) (k600 : KQ) {u : Nat} (hu : u < 4) (ha : A.1 31 u 0 = iN 0) (hb : A.1 30 4 0 = iN 0) (s : Nat) : ∃ σ' A', j_L_law_1424 L xs k600 σ (iN (16 * u)) (iN u) (iN s) (A.1 30 4 0) (A.1 30 3 0) (A.1 30 2 0) (iN (nT A)) (iN 1) = j_L_law_1937 L xs k600 σ' (iN 1) (iN s) (A'.1 30 4 0) (A'.1 30 3 0) (A'.1 30 2 0) (iN (nT A')) ∧ Kt σ' A' (t + 1) ∧ Gxp A' := by
  obtain ⟨C, B, G, W, ⟨g4, gt, gk, ge, gd9, gr⟩, _⟩ := K
  have huA : u < nU A := by rw [g4.1]; exact hu
  have h8 : ∀ v, v < 4 → (fl A v).length ≤ 8 := fun v hv => (G.2.2.2.1 v (by rw [g4.1]; exact hv)).1
  have hk : ∀ f, f ∈ fl A u → okF f := fun f hf => ((G.2.2.2.1 u huA).2 f hf).2
  obtain ⟨σ1, q1, q2, q3⟩ := z_lathe C G huA ha hb
  have hg : g_shop σ (iN 1) (iN u) (iN 0) = some (lst A u, σ1) := by
    unfold g_shop
    rw [if_neg (by decide), if_pos (show iN 1 = 1 from rfl), q1]
    rfl
  have B1 : RB (axl σ1 u (lst A u)) (axG (aw A 30 4 0 1) u (fun _ => lst A u)) := axl_B (A := aw A 30 4 0 1) (B.cs q2) g4 hu (lst A u)
  have y5 : (axl σ1 u (lst A u)).1 71 0 (16 * u + 12) = iN (fl A u).length := (B1.1 u huA).2.2.2.2.2
  obtain ⟨σ2, r1, r2, r3⟩ := ls_1631 L xs hu k600 (iN 1) (iN 1) (iN s) (A.1 30 3 0) (A.1 30 2 0) (iN (nT A)) (fl A u).length (fl A u) [] FU (axl σ1 u (lst A u)) (axG (aw A 30 4 0 1) u (fun _ => lst A u)) rfl (by have := h8 u hu; unfold FU; omega) B1 g4 (List.append_nil _).symm h8
  rw [List.append_nil] at r3
  refine ⟨σ2, laA A u, ?_, ⟨q3.ls ((axl_S σ1 u (lst A u)).tr r2), r3, fl_G (A := axG (aw A 30 4 0 1) u (fun _ => lst A u)) G (List.length_filter_le _ _) (fun f hf => (List.mem_filter.mp hf).1), W, ⟨g4, Nat.le_succ_of_le gt, fun v hv => ?_, ge, gd9, gr⟩, by omega⟩, P.1, Or.inr rfl⟩
  · have hv : (laA A u).1 30 4 0 = iN 1 ∧ (laA A u).1 30 3 0 = A.1 30 3 0 ∧ (laA A u).1 30 2 0 = A.1 30 2 0 ∧ nT (laA A u) = nT A := ⟨rfl, rfl, rfl, rfl⟩
    rw [hv.1, hv.2.1, hv.2.2.1, hv.2.2.2, ← r1, hb]
    have hls := ls_1433 L xs B g4 ht gk hu (h8 u hu) hk k600 (iN s) (iN 0) (A.1 30 3 0) (A.1 30 2 0) (iN (nT A))
    have h93 := ls_1593 L xs (σ := σ1) hu k600 (iN 1) (iN 1) (lst A u) (iN s) (A.1 30 3 0) (A.1 30 2 0) (iN (nT A))
    generalize lst A u = w at *
    have n10 : ¬ iN 1 = iN 0 := by decide
    have hps : iN (fl A u).length - iN 1 = pr (fl A u).length := pr_sub _
    generalize axl σ1 u w = τ at *
    simp (disch := omega) only [gd_t, gd_T, bx_some, bx_thr, bd_def, nx_in, ↓nO_eq, l0, l1, l2, l3, l4, l5, l6, l7, l8, l9, l10, l12, l13, l16, l17, l18, l25, l30, l32, l33, l50, l64, l100, l200, l448, l1200, iN_add, iN_lt, iN_le, iN_inj, iN_clamp, iN_inb, iN_nO, nO_iN, nO_lt, iN_ltm, iN_lem, nO_le, iN_pred, if_pos, if_neg, ↓reduceIte, or_true, true_or, and_true, true_and, ne_eq, not_true_eq_false, not_false_eq_true, false_or, or_false, and_false, false_and, j_L_law_1424, hls, j_L_law_1542, bv_some, hg, n10, j_L_law_1563, j_L_law_1571, j_L_law_1583, j_L_law_1588, h93, j_L_law_1620, y5, hps]
  · obtain ⟨h1, h2, h3, h4⟩ := gk.up v hv
    refine ⟨h1, fun a ha4 => ?_, h3, fun f hf h0 => ?_⟩
    · have e : (laA A u).1 34 v a = if 34 = 34 ∧ v = u then lst A u else A.1 34 v a := rfl
      rw [e]
      by_cases h : v = u
      · rw [if_pos ⟨rfl, h⟩]
        obtain ⟨z, z1, z2, z3⟩ := lst_bnd gk hu (h8 u hu)
        exact ⟨z, by omega, z2, z3⟩
      · rw [if_neg (fun z => h z.2)]
        exact h2 a ha4
    · have e : fl (laA A u) v = if v = u then (fl A u).filter nfl else fl A v := rfl
      rw [e] at hf
      by_cases h : v = u
      · subst h
        rw [if_pos rfl] at hf
        exact h4 f (List.mem_filter.mp hf).1 h0
      · rw [if_neg h] at hf
        exact h4 f hf h0
theorem t_latheN (L : Nat) (xs : Nat → Int32) {σ : Wd} {A : Ab} {t : Nat} (K : Kt σ A t) (P : Gxp A) (k600 : KQ) {u : Nat} (hu : u < 4) (hn : ¬ (A.1 31 u 0 = iN 0 ∧ A.1 30 4 0 = iN 0)) (s : Nat) : j_L_law_1423 L xs k600 σ (iN (16 * u)) (iN u) (iN s) (A.1 30 4 0) (A.1 30 3 0) (A.1 30 2 0) (iN (nT A)) = j_L_law_1937 L xs k600 σ (iN 1) (iN s) (A.1 30 4 0) (A.1 30 3 0) (A.1 30 2 0) (iN (nT A)) := by
  obtain ⟨C, B, G, W, ⟨g4, gt, gk, ge, gd9, gr⟩, _⟩ := K
  have huA : u < nU A := by rw [g4.1]; exact hu
  have g8 := (G.2.2.2.1 u huA).1
  have y5 := (B.1 u huA).2.2.2.2.2
  have q1 := z_latheN C G huA hn
  have hg : g_shop σ (iN 1) (iN u) (iN 0) = some (-1003, σ) := by
    unfold g_shop
    rw [if_neg (by decide), if_pos (show iN 1 = 1 from rfl), q1]
    rfl
  obtain ⟨m, hm⟩ := FU_ge 1 (by decide)
  have e1 : ∀ p, l_L_law_1433 L xs k600 FU σ (iN 0) 100000 (iN 0) (iN (16 * u)) (iN u) (iN s) p (A.1 30 3 0) (A.1 30 2 0) (iN (nT A)) = j_L_law_1542 L xs k600 σ 100000 (iN 0) (iN (16 * u)) (iN u) (iN s) p (A.1 30 3 0) (A.1 30 2 0) (iN (nT A)) := fun p => by
    rw [hm, l_L_law_1433, if_neg (by decide), if_pos (show iN 0 = 0 from rfl)]
  have e3 : ∀ p, l_L_law_1593 L xs k600 FU σ (iN 2) p (iN 1) 100000 (iN 0) (iN (16 * u)) (iN u) (iN s) (A.1 30 3 0) (A.1 30 2 0) (iN (nT A)) = j_L_law_1620 L xs k600 σ p (iN 1) (iN 0) (iN (16 * u)) (iN u) (iN s) (A.1 30 3 0) (A.1 30 2 0) (iN (nT A)) := fun p => by
    rw [hm, l_L_law_1593, if_neg (by decide), if_pos (show iN 0 = 0 from rfl)]
  have e4 : ∀ p x, l_L_law_1631 L xs k600 FU σ x p (iN 1) (iN 0) (iN u) (iN s) (A.1 30 3 0) (A.1 30 2 0) (iN (nT A)) = j_L_law_1937 L xs k600 σ (iN 1) (iN s) p (A.1 30 3 0) (A.1 30 2 0) (iN (nT A)) := fun p x => by
    rw [hm, l_L_law_1631]
    by_cases h : x < 0
    · rw [if_pos h]; rfl
    · rw [if_neg h, if_pos (show iN 0 = 0 from rfl)]; rfl
  have n10 : ¬ iN 1 = iN 0 := by decide
  rcases P.2 with hp | hp
  · rw [hp]
    simp (disch := omega) only [gd_t, gd_T, bx_some, bx_thr, bd_def, nx_in, ↓nO_eq, l0, l1, l2, l3, l4, l5, l6, l7, l8, l9, l10, l12, l13, l16, l17, l18, l25, l30, l32, l33, l50, l64, l100, l200, l448, l1200, iN_add, iN_lt, iN_le, iN_inj, iN_clamp, iN_inb, iN_nO, nO_iN, nO_lt, iN_ltm, iN_lem, nO_le, iN_pred, if_pos, if_neg, ↓reduceIte, or_true, true_or, and_true, true_and, ne_eq, not_true_eq_false, not_false_eq_true, false_or, or_false, and_false, false_and, j_L_law_1423, j_L_law_1424, e1, j_L_law_1542, bv_some, hg, j_L_law_1563, j_L_law_1571, j_L_law_1588, e3, j_L_law_1620, y5, e4]
  · rw [hp]
    simp (disch := omega) only [gd_t, gd_T, bx_some, bx_thr, bd_def, nx_in, ↓nO_eq, l0, l1, l2, l3, l4, l5, l6, l7, l8, l9, l10, l12, l13, l16, l17, l18, l25, l30, l32, l33, l50, l64, l100, l200, l448, l1200, iN_add, iN_lt, iN_le, iN_inj, iN_clamp, iN_inb, iN_nO, nO_iN, nO_lt, iN_ltm, iN_lem, nO_le, iN_pred, if_pos, if_neg, ↓reduceIte, or_true, true_or, and_true, true_and, ne_eq, not_true_eq_false, not_false_eq_true, false_or, or_false, and_false, false_and, j_L_law_1423, j_L_law_1424, e1, j_L_law_1542, bv_some, hg, n10, j_L_law_1563, j_L_law_1571, j_L_law_1583, j_L_law_1588, e3, j_L_law_1620, y5, e4]
