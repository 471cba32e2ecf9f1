/-! the turns -/
theorem cell_ok {L k : Nat} (hL : L ≤ 260) (hk : k < 1000) : ¬ Int32.ofNat L = 0 → inb (iN k - iN k / Int32.ofNat L * Int32.ofNat L) L := by
  intro h
  have h0 : 0 < L := by
    rcases Nat.eq_zero_or_pos L with rfl | h1
    · exact absurd rfl h
    · exact h1
  have e : iN k - iN k / Int32.ofNat L * Int32.ofNat L = iN (k % L) := by
    rw [show Int32.ofNat L = iN L from rfl, iN_div (by omega) (by omega), iN_mul, iN_sub (Nat.div_mul_le_self k L), Nat.mul_comm (k / L) L, ← Nat.mod_eq_sub_mul_div]
  have h2 := Nat.mod_lt k h0
  rw [e]
  exact (iN_inb (by omega)).2 h2
def SpT (L : Nat) (xs : Nat → Int32) (σ : Wd) (A : Ab) (t n : Nat) : Prop := ∃ σ' A', l_L_law_600 L xs (n + 1) σ (iN (7 + t)) (iN 1) (A.1 30 4 0) (A.1 30 3 0) (A.1 30 2 0) (iN (nT A)) = j_L_law_1937 L xs (l_L_law_600 L xs n) σ' (iN 1) (iN (7 + t)) (A'.1 30 4 0) (A'.1 30 3 0) (A'.1 30 2 0) (iN (nT A')) ∧ Kt σ' A' (t + 1) ∧ Gxp A'
theorem lt2 {w : Nat} (hw : w < 14) : (¬ 2 ≤ w → ¬ (2 : Int32) ≤ iN w) ∧ (2 ≤ w → (2 : Int32) ≤ iN w) ∧ (7 ≤ w → (7 : Int32) ≤ iN w) ∧ (¬ 7 ≤ w → ¬ (7 : Int32) ≤ iN w) ∧ (¬ w = 2 → ¬ iN w = 2) ∧ (¬ w = 3 → ¬ iN w = 3) ∧ (¬ w = 4 → ¬ iN w = 4) ∧ (¬ w = 7 → ¬ iN w = 7) ∧ (¬ w = 8 → ¬ iN w = 8) := by
  refine ⟨fun h => ?_, fun h => ?_, fun h => ?_, fun h => ?_, fun h => ?_, fun h => ?_, fun h => ?_, fun h => ?_, fun h => ?_⟩
  · rw [l2, iN_le (by decide) (by omega)]; exact h
  · rw [l2, iN_le (by decide) (by omega)]; exact h
  · rw [l7, iN_le (by decide) (by omega)]; exact h
  · rw [l7, iN_le (by decide) (by omega)]; exact h
  · rw [l2, iN_inj (by omega) (by decide)]; exact h
  · rw [l3, iN_inj (by omega) (by decide)]; exact h
  · rw [l4, iN_inj (by omega) (by decide)]; exact h
  · rw [l7, iN_inj (by omega) (by decide)]; exact h
  · rw [l8, iN_inj (by omega) (by decide)]; exact h
theorem t_c0 (L : Nat) (xs : Nat → Int32) (hL : L ≤ 260) {σ : Wd} {A : Ab} {t : Nat} (K : Kt σ A t) (ht : t < 60) (P : Gxp A) (n : Nat) (hw : ¬ 2 ≤ upM (cellF L xs (iN (7 + t))) 14) : SpT L xs σ A t n := by
  obtain ⟨c2n, c2, c7, c7n, d2, d3, d4, d7, d8⟩ := lt2 (upM_lt (cellF L xs (iN (7 + t))) (n := 14) (by decide))
  have n67 : ¬ (67 : Int32) ≤ iN (7 + t) := by
    rw [l67, iN_le (by decide) (by omega)]; omega
  have n10 : ¬ iN 1 = 0 := by decide
  unfold SpT
  rw [l_L_law_600, if_neg n67, if_neg n10, gd_t (cell_ok hL (by omega : 7 + t < 1000)), bd_def]
  generalize cellF L xs (iN (7 + t)) = v at *
  have hu := upM_lt (v / 16) (n := 4) (by decide)
  have hκ := upM_lt (v / 64) (n := 4) (by decide)
  generalize hk6 : l_L_law_600 L xs n = k600
  generalize 7 + t = s
  have q1 : f_L_up σ v 14 = some (.inl (iN (upM v 14)), σ) := up_ok (n := 14) (by decide) (by decide)
  have q2 : f_L_up σ (v / 16) 4 = some (.inl (iN (upM (v / 16) 4)), σ) := up_ok (n := 4) (by decide) (by decide)
  have q3 : f_L_up σ (v / 64) 4 = some (.inl (iN (upM (v / 64) 4)), σ) := up_ok (n := 4) (by decide) (by decide)
  rw [q1, bu_some, q2, bu_some, q3, bu_some]
  generalize upM (v / 16) 4 = u at *
  generalize upM (v / 64) 4 = κ at *
  generalize upM v 14 = w at *
  have B := K.2.1
  have g4 := K.2.2.2.2.1.1
  have x0 : σ.1 71 0 (16 * u) = A.1 31 u 0 := (B.1 u (by rw [g4.1]; exact hu)).1
  rw [if_neg (c2n hw)]
  by_cases k1 : κ ≤ 1
  · have hq := upM_lt (v / 256) (n := 4) (by decide)
    obtain ⟨σ', A', h1, h2⟩ := t_696 L xs K ht P k600 hκ hu (w := iN (upM (v / 256) 4)) (fun _ => ⟨_, hq, rfl⟩) v s
    refine ⟨σ', A', ?_, h2⟩
    rw [← h1]
    simp (disch := omega) only [gd_t, gd_T, bx_some, bx_thr, bd_def, nx_in, ↓nO_eq, l0, l1, l2, l3, l4, l5, l6, l7, l8, l9, l10, l12, l13, l16, l17, l18, l25, l30, l32, l33, l50, l64, l100, l200, l448, l1200, iN_add, iN_lt, iN_le, iN_inj, iN_clamp, iN_inb, iN_nO, nO_iN, nO_lt, iN_ltm, iN_lem, nO_le, iN_pred, if_pos, if_neg, ↓reduceIte, or_true, true_or, and_true, true_and, ne_eq, not_true_eq_false, not_false_eq_true, false_or, or_false, and_false, false_and, iN_mul, k1, bu_some, bv_some, l14, l20, l21, l31, l60, l67, l99, l300, l400, l1000, l1500, l2000, l3000, l9000, up_ok]
  · obtain ⟨σ', A', h1, h2⟩ := t_696 L xs K ht P k600 hκ hu (w := iN (upM (v / 256) 9) - iN 4) (fun z => absurd z k1) v s
    refine ⟨σ', A', ?_, h2⟩
    rw [← h1]
    simp (disch := omega) only [gd_t, gd_T, bx_some, bx_thr, bd_def, nx_in, ↓nO_eq, l0, l1, l2, l3, l4, l5, l6, l7, l8, l9, l10, l12, l13, l16, l17, l18, l25, l30, l32, l33, l50, l64, l100, l200, l448, l1200, iN_add, iN_lt, iN_le, iN_inj, iN_clamp, iN_inb, iN_nO, nO_iN, nO_lt, iN_ltm, iN_lem, nO_le, iN_pred, if_pos, if_neg, ↓reduceIte, or_true, true_or, and_true, true_and, ne_eq, not_true_eq_false, not_false_eq_true, false_or, or_false, and_false, false_and, iN_mul, k1, bu_some, bv_some, l14, l20, l21, l31, l60, l67, l99, l300, l400, l1000, l1500, l2000, l3000, l9000, up_ok]
theorem t_c2 (L : Nat) (xs : Nat → Int32) (hL : L ≤ 260) {σ : Wd} {A : Ab} {t : Nat} (K : Kt σ A t) (ht : t < 60) (P : Gxp A) (n : Nat) (hw : upM (cellF L xs (iN (7 + t))) 14 = 2) : SpT L xs σ A t n := by
  obtain ⟨c2n, c2, c7, c7n, d2, d3, d4, d7, d8⟩ := lt2 (upM_lt (cellF L xs (iN (7 + t))) (n := 14) (by decide))
  have n67 : ¬ (67 : Int32) ≤ iN (7 + t) := by
    rw [l67, iN_le (by decide) (by omega)]; omega
  have n10 : ¬ iN 1 = 0 := by decide
  unfold SpT
  rw [l_L_law_600, if_neg n67, if_neg n10, gd_t (cell_ok hL (by omega : 7 + t < 1000)), bd_def]
  generalize cellF L xs (iN (7 + t)) = v at *
  have hu := upM_lt (v / 16) (n := 4) (by decide)
  have hκ := upM_lt (v / 64) (n := 4) (by decide)
  generalize hk6 : l_L_law_600 L xs n = k600
  generalize 7 + t = s
  have q1 : f_L_up σ v 14 = some (.inl (iN (upM v 14)), σ) := up_ok (n := 14) (by decide) (by decide)
  have q2 : f_L_up σ (v / 16) 4 = some (.inl (iN (upM (v / 16) 4)), σ) := up_ok (n := 4) (by decide) (by decide)
  have q3 : f_L_up σ (v / 64) 4 = some (.inl (iN (upM (v / 64) 4)), σ) := up_ok (n := 4) (by decide) (by decide)
  rw [q1, bu_some, q2, bu_some, q3, bu_some]
  generalize upM (v / 16) 4 = u at *
  generalize upM (v / 64) 4 = κ at *
  generalize upM v 14 = w at *
  have B := K.2.1
  have g4 := K.2.2.2.2.1.1
  have x0 : σ.1 71 0 (16 * u) = A.1 31 u 0 := (B.1 u (by rw [g4.1]; exact hu)).1
  subst hw
  rw [if_pos (by decide), if_pos (by decide)]
  by_cases p0 : upM (v / 256) 4 = 0
  · obtain ⟨σ', A', h1, h2⟩ := t_939 L xs K ht P k600 hκ (may := nO) (Or.inl rfl) v s
    refine ⟨σ', A', ?_, h2⟩
    rw [← h1]
    simp (disch := omega) only [gd_t, gd_T, bx_some, bx_thr, bd_def, nx_in, ↓nO_eq, l0, l1, l2, l3, l4, l5, l6, l7, l8, l9, l10, l12, l13, l16, l17, l18, l25, l30, l32, l33, l50, l64, l100, l200, l448, l1200, iN_add, iN_lt, iN_le, iN_inj, iN_clamp, iN_inb, iN_nO, nO_iN, nO_lt, iN_ltm, iN_lem, nO_le, iN_pred, if_pos, if_neg, ↓reduceIte, or_true, true_or, and_true, true_and, ne_eq, not_true_eq_false, not_false_eq_true, false_or, or_false, and_false, false_and, p0, bu_some, bv_some, l14, l20, l21, l31, l60, l67, l99, l300, l400, l1000, l1500, l2000, l3000, l9000, up_ok]
  · have hm := upM_lt (v / 256) (n := 31) (by decide)
    have hp := upM_lt (v / 256) (n := 4) (by decide)
    obtain ⟨σ', A', h1, h2⟩ := t_939 L xs K ht P k600 hκ (may := iN (upM (v / 256) 31)) (Or.inr ⟨_, by omega, rfl⟩) v s
    refine ⟨σ', A', ?_, h2⟩
    rw [← h1]
    simp (disch := omega) only [gd_t, gd_T, bx_some, bx_thr, bd_def, nx_in, ↓nO_eq, l0, l1, l2, l3, l4, l5, l6, l7, l8, l9, l10, l12, l13, l16, l17, l18, l25, l30, l32, l33, l50, l64, l100, l200, l448, l1200, iN_add, iN_lt, iN_le, iN_inj, iN_clamp, iN_inb, iN_nO, nO_iN, nO_lt, iN_ltm, iN_lem, nO_le, iN_pred, if_pos, if_neg, ↓reduceIte, or_true, true_or, and_true, true_and, ne_eq, not_true_eq_false, not_false_eq_true, false_or, or_false, and_false, false_and, p0, bu_some, bv_some, l14, l20, l21, l31, l60, l67, l99, l300, l400, l1000, l1500, l2000, l3000, l9000, up_ok]
theorem t_c3 (L : Nat) (xs : Nat → Int32) (hL : L ≤ 260) {σ : Wd} {A : Ab} {t : Nat} (K : Kt σ A t) (ht : t < 60) (P : Gxp A) (n : Nat) (hw : upM (cellF L xs (iN (7 + t))) 14 = 3) : SpT L xs σ A t n := by
  obtain ⟨c2n, c2, c7, c7n, d2, d3, d4, d7, d8⟩ := lt2 (upM_lt (cellF L xs (iN (7 + t))) (n := 14) (by decide))
  have n67 : ¬ (67 : Int32) ≤ iN (7 + t) := by
    rw [l67, iN_le (by decide) (by omega)]; omega
  have n10 : ¬ iN 1 = 0 := by decide
  unfold SpT
  rw [l_L_law_600, if_neg n67, if_neg n10, gd_t (cell_ok hL (by omega : 7 + t < 1000)), bd_def]
  generalize cellF L xs (iN (7 + t)) = v at *
  have hu := upM_lt (v / 16) (n := 4) (by decide)
  have hκ := upM_lt (v / 64) (n := 4) (by decide)
  generalize hk6 : l_L_law_600 L xs n = k600
  generalize 7 + t = s
  have q1 : f_L_up σ v 14 = some (.inl (iN (upM v 14)), σ) := up_ok (n := 14) (by decide) (by decide)
  have q2 : f_L_up σ (v / 16) 4 = some (.inl (iN (upM (v / 16) 4)), σ) := up_ok (n := 4) (by decide) (by decide)
  have q3 : f_L_up σ (v / 64) 4 = some (.inl (iN (upM (v / 64) 4)), σ) := up_ok (n := 4) (by decide) (by decide)
  rw [q1, bu_some, q2, bu_some, q3, bu_some]
  generalize upM (v / 16) 4 = u at *
  generalize upM (v / 64) 4 = κ at *
  generalize upM v 14 = w at *
  have B := K.2.1
  have g4 := K.2.2.2.2.1.1
  have x0 : σ.1 71 0 (16 * u) = A.1 31 u 0 := (B.1 u (by rw [g4.1]; exact hu)).1
  subst hw
  rw [if_pos (by decide), if_neg (by decide), if_pos (by decide)]
  have he := upM_lt (v / 256) (n := 3) (by decide)
  generalize he' : upM (v / 256) 3 = e at *
  by_cases e0 : e = 0
  · obtain ⟨σ', A', h1, h2⟩ := t_exam L xs K ht P k600 he (N := 1500) (by decide) v s
    refine ⟨σ', A', ?_, h2⟩
    rw [← h1]
    simp (disch := omega) only [gd_t, gd_T, bx_some, bx_thr, bd_def, nx_in, ↓nO_eq, l0, l1, l2, l3, l4, l5, l6, l7, l8, l9, l10, l12, l13, l16, l17, l18, l25, l30, l32, l33, l50, l64, l100, l200, l448, l1200, iN_add, iN_lt, iN_le, iN_inj, iN_clamp, iN_inb, iN_nO, nO_iN, nO_lt, iN_ltm, iN_lem, nO_le, iN_pred, if_pos, if_neg, ↓reduceIte, or_true, true_or, and_true, true_and, ne_eq, not_true_eq_false, not_false_eq_true, false_or, or_false, and_false, false_and, he', e0, bu_some, bv_some, l14, l20, l21, l31, l60, l67, l99, l300, l400, l1000, l1500, l2000, l3000, l9000, up_ok]
  · obtain ⟨σ', A', h1, h2⟩ := t_exam L xs K ht P k600 he (N := 9000) (by decide) v s
    refine ⟨σ', A', ?_, h2⟩
    rw [← h1]
    simp (disch := omega) only [gd_t, gd_T, bx_some, bx_thr, bd_def, nx_in, ↓nO_eq, l0, l1, l2, l3, l4, l5, l6, l7, l8, l9, l10, l12, l13, l16, l17, l18, l25, l30, l32, l33, l50, l64, l100, l200, l448, l1200, iN_add, iN_lt, iN_le, iN_inj, iN_clamp, iN_inb, iN_nO, nO_iN, nO_lt, iN_ltm, iN_lem, nO_le, iN_pred, if_pos, if_neg, ↓reduceIte, or_true, true_or, and_true, true_and, ne_eq, not_true_eq_false, not_false_eq_true, false_or, or_false, and_false, false_and, he', e0, bu_some, bv_some, l14, l20, l21, l31, l60, l67, l99, l300, l400, l1000, l1500, l2000, l3000, l9000, up_ok]
theorem t_c4 (L : Nat) (xs : Nat → Int32) (hL : L ≤ 260) {σ : Wd} {A : Ab} {t : Nat} (K : Kt σ A t) (ht : t < 60) (P : Gxp A) (n : Nat) (hw : upM (cellF L xs (iN (7 + t))) 14 = 4) : SpT L xs σ A t n := by
  obtain ⟨c2n, c2, c7, c7n, d2, d3, d4, d7, d8⟩ := lt2 (upM_lt (cellF L xs (iN (7 + t))) (n := 14) (by decide))
  have n67 : ¬ (67 : Int32) ≤ iN (7 + t) := by
    rw [l67, iN_le (by decide) (by omega)]; omega
  have n10 : ¬ iN 1 = 0 := by decide
  unfold SpT
  rw [l_L_law_600, if_neg n67, if_neg n10, gd_t (cell_ok hL (by omega : 7 + t < 1000)), bd_def]
  generalize cellF L xs (iN (7 + t)) = v at *
  have hu := upM_lt (v / 16) (n := 4) (by decide)
  have hκ := upM_lt (v / 64) (n := 4) (by decide)
  generalize hk6 : l_L_law_600 L xs n = k600
  generalize 7 + t = s
  have q1 : f_L_up σ v 14 = some (.inl (iN (upM v 14)), σ) := up_ok (n := 14) (by decide) (by decide)
  have q2 : f_L_up σ (v / 16) 4 = some (.inl (iN (upM (v / 16) 4)), σ) := up_ok (n := 4) (by decide) (by decide)
  have q3 : f_L_up σ (v / 64) 4 = some (.inl (iN (upM (v / 64) 4)), σ) := up_ok (n := 4) (by decide) (by decide)
  rw [q1, bu_some, q2, bu_some, q3, bu_some]
  generalize upM (v / 16) 4 = u at *
  generalize upM (v / 64) 4 = κ at *
  generalize upM v 14 = w at *
  have B := K.2.1
  have g4 := K.2.2.2.2.1.1
  have x0 : σ.1 71 0 (16 * u) = A.1 31 u 0 := (B.1 u (by rw [g4.1]; exact hu)).1
  subst hw
  rw [if_pos (by decide), if_neg (by decide), if_neg (by decide), if_pos (by decide)]
  have hd := upM_lt (v / 256) (n := 3) (by decide)
  have hp := upM_lt (v / 512) (n := 3) (by decide)
  generalize he' : upM (v / 256) 3 = d at *
  by_cases p0 : upM (v / 512) 3 = 0
  · obtain ⟨σ', A', h1, h2⟩ := t_pin L xs K ht P k600 hd (pn := nO) (Or.inl rfl) s
    refine ⟨σ', A', ?_, h2⟩
    rw [← h1]
    simp (disch := omega) only [gd_t, gd_T, bx_some, bx_thr, bd_def, nx_in, ↓nO_eq, l0, l1, l2, l3, l4, l5, l6, l7, l8, l9, l10, l12, l13, l16, l17, l18, l25, l30, l32, l33, l50, l64, l100, l200, l448, l1200, iN_add, iN_lt, iN_le, iN_inj, iN_clamp, iN_inb, iN_nO, nO_iN, nO_lt, iN_ltm, iN_lem, nO_le, iN_pred, if_pos, if_neg, ↓reduceIte, or_true, true_or, and_true, true_and, ne_eq, not_true_eq_false, not_false_eq_true, false_or, or_false, and_false, false_and, he', p0, bu_some, bv_some, l14, l20, l21, l31, l60, l67, l99, l300, l400, l1000, l1500, l2000, l3000, l9000, up_ok]
  · obtain ⟨σ', A', h1, h2⟩ := t_pin L xs K ht P k600 hd (pn := iN u) (Or.inr ⟨u, hu, rfl⟩) s
    refine ⟨σ', A', ?_, h2⟩
    rw [← h1]
    simp (disch := omega) only [gd_t, gd_T, bx_some, bx_thr, bd_def, nx_in, ↓nO_eq, l0, l1, l2, l3, l4, l5, l6, l7, l8, l9, l10, l12, l13, l16, l17, l18, l25, l30, l32, l33, l50, l64, l100, l200, l448, l1200, iN_add, iN_lt, iN_le, iN_inj, iN_clamp, iN_inb, iN_nO, nO_iN, nO_lt, iN_ltm, iN_lem, nO_le, iN_pred, if_pos, if_neg, ↓reduceIte, or_true, true_or, and_true, true_and, ne_eq, not_true_eq_false, not_false_eq_true, false_or, or_false, and_false, false_and, he', p0, bu_some, bv_some, l14, l20, l21, l31, l60, l67, l99, l300, l400, l1000, l1500, l2000, l3000, l9000, up_ok]
theorem t_c5 (L : Nat) (xs : Nat → Int32) (hL : L ≤ 260) {σ : Wd} {A : Ab} {t : Nat} (K : Kt σ A t) (ht : t < 60) (P : Gxp A) (n : Nat) (hw : 4 < upM (cellF L xs (iN (7 + t))) 14 ∧ upM (cellF L xs (iN (7 + t))) 14 < 7) : SpT L xs σ A t n := by
  obtain ⟨c2n, c2, c7, c7n, d2, d3, d4, d7, d8⟩ := lt2 (upM_lt (cellF L xs (iN (7 + t))) (n := 14) (by decide))
  have n67 : ¬ (67 : Int32) ≤ iN (7 + t) := by
    rw [l67, iN_le (by decide) (by omega)]; omega
  have n10 : ¬ iN 1 = 0 := by decide
  unfold SpT
  rw [l_L_law_600, if_neg n67, if_neg n10, gd_t (cell_ok hL (by omega : 7 + t < 1000)), bd_def]
  generalize cellF L xs (iN (7 + t)) = v at *
  have hu := upM_lt (v / 16) (n := 4) (by decide)
  have hκ := upM_lt (v / 64) (n := 4) (by decide)
  generalize hk6 : l_L_law_600 L xs n = k600
  generalize 7 + t = s
  have q1 : f_L_up σ v 14 = some (.inl (iN (upM v 14)), σ) := up_ok (n := 14) (by decide) (by decide)
  have q2 : f_L_up σ (v / 16) 4 = some (.inl (iN (upM (v / 16) 4)), σ) := up_ok (n := 4) (by decide) (by decide)
  have q3 : f_L_up σ (v / 64) 4 = some (.inl (iN (upM (v / 64) 4)), σ) := up_ok (n := 4) (by decide) (by decide)
  rw [q1, bu_some, q2, bu_some, q3, bu_some]
  generalize upM (v / 16) 4 = u at *
  generalize upM (v / 64) 4 = κ at *
  generalize upM v 14 = w at *
  have B := K.2.1
  have g4 := K.2.2.2.2.1.1
  have x0 : σ.1 71 0 (16 * u) = A.1 31 u 0 := (B.1 u (by rw [g4.1]; exact hu)).1
  rw [if_pos (c2 (by omega)), if_neg (d2 (by omega)), if_neg (d3 (by omega)), if_neg (d4 (by omega)), if_neg (c7n (by omega))]
  have he := upM_lt (v / 256) (n := 3) (by decide)
  generalize he' : upM (v / 256) 3 = e at *
  by_cases hc : A.1 31 u 0 = iN 0 ∧ A.1 30 3 0 = iN 0
  · obtain ⟨σ', A', h1, h2⟩ := t_1301y L xs K ht P k600 hu he hc.1 hc.2 s
    refine ⟨σ', A', ?_, h2⟩
    rw [← h1]
    simp (disch := omega) only [gd_t, gd_T, bx_some, bx_thr, bd_def, nx_in, ↓nO_eq, l0, l1, l2, l3, l4, l5, l6, l7, l8, l9, l10, l12, l13, l16, l17, l18, l25, l30, l32, l33, l50, l64, l100, l200, l448, l1200, iN_add, iN_lt, iN_le, iN_inj, iN_clamp, iN_inb, iN_nO, nO_iN, nO_lt, iN_ltm, iN_lem, nO_le, iN_pred, if_pos, if_neg, ↓reduceIte, or_true, true_or, and_true, true_and, ne_eq, not_true_eq_false, not_false_eq_true, false_or, or_false, and_false, false_and, he', iN_mul, x0, hc.1, hc.2, bu_some, bv_some, l14, l20, l21, l31, l60, l67, l99, l300, l400, l1000, l1500, l2000, l3000, l9000, up_ok]
  · have h1 := t_1301n L xs K P k600 hu he hc s
    refine ⟨σ, A, ?_, K.up ht, P⟩
    rw [← h1]
    by_cases ha : A.1 31 u 0 = iN 0
    · have hb : ¬ A.1 30 3 0 = iN 0 := fun h => hc ⟨ha, h⟩
      simp (disch := omega) only [gd_t, gd_T, bx_some, bx_thr, bd_def, nx_in, ↓nO_eq, l0, l1, l2, l3, l4, l5, l6, l7, l8, l9, l10, l12, l13, l16, l17, l18, l25, l30, l32, l33, l50, l64, l100, l200, l448, l1200, iN_add, iN_lt, iN_le, iN_inj, iN_clamp, iN_inb, iN_nO, nO_iN, nO_lt, iN_ltm, iN_lem, nO_le, iN_pred, if_pos, if_neg, ↓reduceIte, or_true, true_or, and_true, true_and, ne_eq, not_true_eq_false, not_false_eq_true, false_or, or_false, and_false, false_and, he', iN_mul, x0, ha, hb, bu_some, bv_some, l14, l20, l21, l31, l60, l67, l99, l300, l400, l1000, l1500, l2000, l3000, l9000, up_ok]
    · simp (disch := omega) only [gd_t, gd_T, bx_some, bx_thr, bd_def, nx_in, ↓nO_eq, l0, l1, l2, l3, l4, l5, l6, l7, l8, l9, l10, l12, l13, l16, l17, l18, l25, l30, l32, l33, l50, l64, l100, l200, l448, l1200, iN_add, iN_lt, iN_le, iN_inj, iN_clamp, iN_inb, iN_nO, nO_iN, nO_lt, iN_ltm, iN_lem, nO_le, iN_pred, if_pos, if_neg, ↓reduceIte, or_true, true_or, and_true, true_and, ne_eq, not_true_eq_false, not_false_eq_true, false_or, or_false, and_false, false_and, he', iN_mul, x0, ha, bu_some, bv_some, l14, l20, l21, l31, l60, l67, l99, l300, l400, l1000, l1500, l2000, l3000, l9000, up_ok]
theorem t_c7 (L : Nat) (xs : Nat → Int32) (hL : L ≤ 260) {σ : Wd} {A : Ab} {t : Nat} (K : Kt σ A t) (ht : t < 60) (P : Gxp A) (n : Nat) (hw : upM (cellF L xs (iN (7 + t))) 14 = 7) : SpT L xs σ A t n := by
  obtain ⟨c2n, c2, c7, c7n, d2, d3, d4, d7, d8⟩ := lt2 (upM_lt (cellF L xs (iN (7 + t))) (n := 14) (by decide))
  have n67 : ¬ (67 : Int32) ≤ iN (7 + t) := by
    rw [l67, iN_le (by decide) (by omega)]; omega
  have n10 : ¬ iN 1 = 0 := by decide
  unfold SpT
  rw [l_L_law_600, if_neg n67, if_neg n10, gd_t (cell_ok hL (by omega : 7 + t < 1000)), bd_def]
  generalize cellF L xs (iN (7 + t)) = v at *
  have hu := upM_lt (v / 16) (n := 4) (by decide)
  have hκ := upM_lt (v / 64) (n := 4) (by decide)
  generalize hk6 : l_L_law_600 L xs n = k600
  generalize 7 + t = s
  have q1 : f_L_up σ v 14 = some (.inl (iN (upM v 14)), σ) := up_ok (n := 14) (by decide) (by decide)
  have q2 : f_L_up σ (v / 16) 4 = some (.inl (iN (upM (v / 16) 4)), σ) := up_ok (n := 4) (by decide) (by decide)
  have q3 : f_L_up σ (v / 64) 4 = some (.inl (iN (upM (v / 64) 4)), σ) := up_ok (n := 4) (by decide) (by decide)
  rw [q1, bu_some, q2, bu_some, q3, bu_some]
  generalize upM (v / 16) 4 = u at *
  generalize upM (v / 64) 4 = κ at *
  generalize upM v 14 = w at *
  have B := K.2.1
  have g4 := K.2.2.2.2.1.1
  have x0 : σ.1 71 0 (16 * u) = A.1 31 u 0 := (B.1 u (by rw [g4.1]; exact hu)).1
  subst hw
  rw [if_pos (by decide), if_neg (by decide), if_neg (by decide), if_neg (by decide), if_pos (by decide), if_pos (by decide)]
  by_cases hc : A.1 31 u 0 = iN 0 ∧ A.1 30 4 0 = iN 0
  · obtain ⟨σ', A', h1, h2⟩ := t_lathe L xs K ht P k600 hu hc.1 hc.2 s
    refine ⟨σ', A', ?_, h2⟩
    rw [← h1]
    simp (disch := omega) only [gd_t, gd_T, bx_some, bx_thr, bd_def, nx_in, ↓nO_eq, l0, l1, l2, l3, l4, l5, l6, l7, l8, l9, l10, l12, l13, l16, l17, l18, l25, l30, l32, l33, l50, l64, l100, l200, l448, l1200, iN_add, iN_lt, iN_le, iN_inj, iN_clamp, iN_inb, iN_nO, nO_iN, nO_lt, iN_ltm, iN_lem, nO_le, iN_pred, if_pos, if_neg, ↓reduceIte, or_true, true_or, and_true, true_and, ne_eq, not_true_eq_false, not_false_eq_true, false_or, or_false, and_false, false_and, iN_mul, x0, hc.1, hc.2, bu_some, bv_some, l14, l20, l21, l31, l60, l67, l99, l300, l400, l1000, l1500, l2000, l3000, l9000, up_ok]
  · have h1 := t_latheN L xs K P k600 hu hc s
    refine ⟨σ, A, ?_, K.up ht, P⟩
    rw [← h1]
    by_cases ha : A.1 31 u 0 = iN 0
    · have hb : ¬ A.1 30 4 0 = iN 0 := fun h => hc ⟨ha, h⟩
      simp (disch := omega) only [gd_t, gd_T, bx_some, bx_thr, bd_def, nx_in, ↓nO_eq, l0, l1, l2, l3, l4, l5, l6, l7, l8, l9, l10, l12, l13, l16, l17, l18, l25, l30, l32, l33, l50, l64, l100, l200, l448, l1200, iN_add, iN_lt, iN_le, iN_inj, iN_clamp, iN_inb, iN_nO, nO_iN, nO_lt, iN_ltm, iN_lem, nO_le, iN_pred, if_pos, if_neg, ↓reduceIte, or_true, true_or, and_true, true_and, ne_eq, not_true_eq_false, not_false_eq_true, false_or, or_false, and_false, false_and, iN_mul, x0, ha, hb, bu_some, bv_some, l14, l20, l21, l31, l60, l67, l99, l300, l400, l1000, l1500, l2000, l3000, l9000, up_ok]
    · simp (disch := omega) only [gd_t, gd_T, bx_some, bx_thr, bd_def, nx_in, ↓nO_eq, l0, l1, l2, l3, l4, l5, l6, l7, l8, l9, l10, l12, l13, l16, l17, l18, l25, l30, l32, l33, l50, l64, l100, l200, l448, l1200, iN_add, iN_lt, iN_le, iN_inj, iN_clamp, iN_inb, iN_nO, nO_iN, nO_lt, iN_ltm, iN_lem, nO_le, iN_pred, if_pos, if_neg, ↓reduceIte, or_true, true_or, and_true, true_and, ne_eq, not_true_eq_false, not_false_eq_true, false_or, or_false, and_false, false_and, iN_mul, x0, ha, bu_some, bv_some, l14, l20, l21, l31, l60, l67, l99, l300, l400, l1000, l1500, l2000, l3000, l9000, up_ok]
theorem t_c8 (L : Nat) (xs : Nat → Int32) (hL : L ≤ 260) {σ : Wd} {A : Ab} {t : Nat} (K : Kt σ A t) (ht : t < 60) (P : Gxp A) (n : Nat) (hw : upM (cellF L xs (iN (7 + t))) 14 = 8) : SpT L xs σ A t n := by
  obtain ⟨c2n, c2, c7, c7n, d2, d3, d4, d7, d8⟩ := lt2 (upM_lt (cellF L xs (iN (7 + t))) (n := 14) (by decide))
  have n67 : ¬ (67 : Int32) ≤ iN (7 + t) := by
    rw [l67, iN_le (by decide) (by omega)]; omega
  have n10 : ¬ iN 1 = 0 := by decide
  unfold SpT
  rw [l_L_law_600, if_neg n67, if_neg n10, gd_t (cell_ok hL (by omega : 7 + t < 1000)), bd_def]
  generalize cellF L xs (iN (7 + t)) = v at *
  have hu := upM_lt (v / 16) (n := 4) (by decide)
  have hκ := upM_lt (v / 64) (n := 4) (by decide)
  generalize hk6 : l_L_law_600 L xs n = k600
  generalize 7 + t = s
  have q1 : f_L_up σ v 14 = some (.inl (iN (upM v 14)), σ) := up_ok (n := 14) (by decide) (by decide)
  have q2 : f_L_up σ (v / 16) 4 = some (.inl (iN (upM (v / 16) 4)), σ) := up_ok (n := 4) (by decide) (by decide)
  have q3 : f_L_up σ (v / 64) 4 = some (.inl (iN (upM (v / 64) 4)), σ) := up_ok (n := 4) (by decide) (by decide)
  rw [q1, bu_some, q2, bu_some, q3, bu_some]
  generalize upM (v / 16) 4 = u at *
  generalize upM (v / 64) 4 = κ at *
  generalize upM v 14 = w at *
  have B := K.2.1
  have g4 := K.2.2.2.2.1.1
  have x0 : σ.1 71 0 (16 * u) = A.1 31 u 0 := (B.1 u (by rw [g4.1]; exact hu)).1
  subst hw
  rw [if_pos (by decide), if_neg (by decide), if_neg (by decide), if_neg (by decide), if_pos (by decide), if_neg (by decide), if_pos (by decide)]
  have hp := upM_lt (v / 256) (n := 4) (by decide)
  generalize hp' : upM (v / 256) 4 = p at *
  have h8 : (fl A u).length ≤ 8 := (K.2.2.1.2.2.2.1 u (by rw [g4.1]; exact hu)).1
  have x12 : σ.1 71 0 (16 * u + 12) = iN (fl A u).length := (B.1 u (by rw [g4.1]; exact hu)).2.2.2.2.2
  by_cases hl : p < (fl A u).length
  · have hf : (fl A u)[p]? = some ((fl A u)[p]'hl) := List.getElem?_eq_getElem hl
    generalize (fl A u)[p]'hl = f at hf
    have y0 : σ.1 72 0 (8 * u + p) = f.1 := (B.2.1 u (by rw [g4.1]; exact hu) p f hf).1
    by_cases f0 : f.1 = iN 0
    · have h1 := t_mendF L xs K k600 hu hf f0 s (A.1 30 4 0) (A.1 30 3 0) (A.1 30 2 0) (iN (nT A))
      refine ⟨σ, A, ?_, K.up ht, P⟩
      rw [← h1]
      simp (disch := omega) only [gd_t, gd_T, bx_some, bx_thr, bd_def, nx_in, ↓nO_eq, l0, l1, l2, l3, l4, l5, l6, l7, l8, l9, l10, l12, l13, l16, l17, l18, l25, l30, l32, l33, l50, l64, l100, l200, l448, l1200, iN_add, iN_lt, iN_le, iN_inj, iN_clamp, iN_inb, iN_nO, nO_iN, nO_lt, iN_ltm, iN_lem, nO_le, iN_pred, if_pos, if_neg, ↓reduceIte, or_true, true_or, and_true, true_and, ne_eq, not_true_eq_false, not_false_eq_true, false_or, or_false, and_false, false_and, hp', iN_mul, x12, y0, f0, hl, bu_some, bv_some, l14, l20, l21, l31, l60, l67, l99, l300, l400, l1000, l1500, l2000, l3000, l9000, up_ok]
    · obtain ⟨σ', A', h1, h2⟩ := t_mend L xs K ht P k600 hu hf f0 s
      refine ⟨σ', A', ?_, h2⟩
      rw [← h1]
      simp (disch := omega) only [gd_t, gd_T, bx_some, bx_thr, bd_def, nx_in, ↓nO_eq, l0, l1, l2, l3, l4, l5, l6, l7, l8, l9, l10, l12, l13, l16, l17, l18, l25, l30, l32, l33, l50, l64, l100, l200, l448, l1200, iN_add, iN_lt, iN_le, iN_inj, iN_clamp, iN_inb, iN_nO, nO_iN, nO_lt, iN_ltm, iN_lem, nO_le, iN_pred, if_pos, if_neg, ↓reduceIte, or_true, true_or, and_true, true_and, ne_eq, not_true_eq_false, not_false_eq_true, false_or, or_false, and_false, false_and, hp', iN_mul, x12, y0, f0, hl, bu_some, bv_some, l14, l20, l21, l31, l60, l67, l99, l300, l400, l1000, l1500, l2000, l3000, l9000, up_ok]
  · have h1 := t_mendN L xs K k600 hu (by omega) (by omega : p < 100) s (A.1 30 4 0) (A.1 30 3 0) (A.1 30 2 0) (iN (nT A))
    refine ⟨σ, A, ?_, K.up ht, P⟩
    rw [← h1]
    simp (disch := omega) only [gd_t, gd_T, bx_some, bx_thr, bd_def, nx_in, ↓nO_eq, l0, l1, l2, l3, l4, l5, l6, l7, l8, l9, l10, l12, l13, l16, l17, l18, l25, l30, l32, l33, l50, l64, l100, l200, l448, l1200, iN_add, iN_lt, iN_le, iN_inj, iN_clamp, iN_inb, iN_nO, nO_iN, nO_lt, iN_ltm, iN_lem, nO_le, iN_pred, if_pos, if_neg, ↓reduceIte, or_true, true_or, and_true, true_and, ne_eq, not_true_eq_false, not_false_eq_true, false_or, or_false, and_false, false_and, hp', iN_mul, x12, hl, bu_some, bv_some, l14, l20, l21, l31, l60, l67, l99, l300, l400, l1000, l1500, l2000, l3000, l9000, up_ok]
theorem t_c9 (L : Nat) (xs : Nat → Int32) (hL : L ≤ 260) {σ : Wd} {A : Ab} {t : Nat} (K : Kt σ A t) (ht : t < 60) (P : Gxp A) (n : Nat) (hw : 8 < upM (cellF L xs (iN (7 + t))) 14) : SpT L xs σ A t n := by
  obtain ⟨c2n, c2, c7, c7n, d2, d3, d4, d7, d8⟩ := lt2 (upM_lt (cellF L xs (iN (7 + t))) (n := 14) (by decide))
  have n67 : ¬ (67 : Int32) ≤ iN (7 + t) := by
    rw [l67, iN_le (by decide) (by omega)]; omega
  have n10 : ¬ iN 1 = 0 := by decide
  unfold SpT
  rw [l_L_law_600, if_neg n67, if_neg n10, gd_t (cell_ok hL (by omega : 7 + t < 1000)), bd_def]
  generalize cellF L xs (iN (7 + t)) = v at *
  have hu := upM_lt (v / 16) (n := 4) (by decide)
  have hκ := upM_lt (v / 64) (n := 4) (by decide)
  generalize hk6 : l_L_law_600 L xs n = k600
  generalize 7 + t = s
  have q1 : f_L_up σ v 14 = some (.inl (iN (upM v 14)), σ) := up_ok (n := 14) (by decide) (by decide)
  have q2 : f_L_up σ (v / 16) 4 = some (.inl (iN (upM (v / 16) 4)), σ) := up_ok (n := 4) (by decide) (by decide)
  have q3 : f_L_up σ (v / 64) 4 = some (.inl (iN (upM (v / 64) 4)), σ) := up_ok (n := 4) (by decide) (by decide)
  rw [q1, bu_some, q2, bu_some, q3, bu_some]
  generalize upM (v / 16) 4 = u at *
  generalize upM (v / 64) 4 = κ at *
  generalize upM v 14 = w at *
  have B := K.2.1
  have g4 := K.2.2.2.2.1.1
  have x0 : σ.1 71 0 (16 * u) = A.1 31 u 0 := (B.1 u (by rw [g4.1]; exact hu)).1
  rw [if_pos (c2 (by omega)), if_neg (d2 (by omega)), if_neg (d3 (by omega)), if_neg (d4 (by omega)), if_pos (c7 (by omega)), if_neg (d7 (by omega)), if_neg (d8 (by omega))]
  exact t_day L xs K ht P k600 s
theorem t_step (L : Nat) (xs : Nat → Int32) (hL : L ≤ 260) {σ : Wd} {A : Ab} {t : Nat} (K : Kt σ A t) (ht : t < 60) (P : Gxp A) (n : Nat) : ∃ σ' A', l_L_law_600 L xs (n + 1) σ (iN (7 + t)) (iN 1) (A.1 30 4 0) (A.1 30 3 0) (A.1 30 2 0) (iN (nT A)) = l_L_law_600 L xs n σ' (iN (7 + (t + 1))) (iN 1) (A'.1 30 4 0) (A'.1 30 3 0) (A'.1 30 2 0) (iN (nT A')) ∧ Kt σ' A' (t + 1) ∧ Gxp A' := by
  have h : SpT L xs σ A t n := by
    generalize hw : upM (cellF L xs (iN (7 + t))) 14 = w
    have h9 : ¬ 2 ≤ w ∨ w = 2 ∨ w = 3 ∨ w = 4 ∨ (4 < w ∧ w < 7) ∨ w = 7 ∨ w = 8 ∨ 8 < w := by omega
    subst hw
    rcases h9 with h9 | h9 | h9 | h9 | h9 | h9 | h9 | h9
    · exact t_c0 L xs hL K ht P n h9
    · exact t_c2 L xs hL K ht P n h9
    · exact t_c3 L xs hL K ht P n h9
    · exact t_c4 L xs hL K ht P n h9
    · exact t_c5 L xs hL K ht P n h9
    · exact t_c7 L xs hL K ht P n h9
    · exact t_c8 L xs hL K ht P n h9
    · exact t_c9 L xs hL K ht P n h9
  obtain ⟨σ', A', h1, h2, h3⟩ := h
  obtain ⟨σ2, q1, q2⟩ := t_end L xs h2 (l_L_law_600 L xs n) (7 + t) (A'.1 30 4 0) (A'.1 30 3 0) (A'.1 30 2 0)
  exact ⟨σ2, A', h1.trans q1, q2, h3⟩
theorem t_run (L : Nat) (xs : Nat → Int32) (hL : L ≤ 260) : ∀ (m n t : Nat) (σ : Wd) (A : Ab), 60 - t = m → m < n → t ≤ 60 → Kt σ A t → Gxp A → l_L_law_600 L xs n σ (iN (7 + t)) (iN 1) (A.1 30 4 0) (A.1 30 3 0) (A.1 30 2 0) (iN (nT A)) = some ()
  | m, 0, t, σ, A, _, h, _, _, _ => absurd h (Nat.not_lt_zero _)
  | 0, n + 1, t, σ, A, hm, _, ht, _, _ => by
    have e : t = 60 := by omega
    subst e
    rw [l_L_law_600, if_pos (by decide), gd_t (by decide)]
  | m + 1, n + 1, t, σ, A, hm, hn, ht, K, P => by
    obtain ⟨σ', A', h1, h2, h3⟩ := t_step L xs hL K (by omega) P n
    rw [h1]
    exact t_run L xs hL m n (t + 1) σ' A' (by omega) (by omega) (by omega) h2 h3
