/-! a FAULT is told -/
def fWl (σ : Wd) (u L : Nat) (f : Fa) : Wd := wr (wr (wr (wr (wr σ 72 0 (8 * u + L) f.1) 72 0 (32 + (8 * u + L)) f.2.1) 73 0 (8 * u + L) f.2.2.1) 73 0 (32 + (8 * u + L)) f.2.2.2) 71 0 (16 * u + 12) (iN (L + 1))
theorem fWl_S (σ : Wd) (u L : Nat) (f : Fa) : LSw σ (fWl σ u L f) := (((((LSw.rf σ).wr (by decide)).wr (by decide)).wr (by decide)).wr (by decide)).wr (by decide)
theorem fl_B {σ : Wd} {A : Ab} (B : RB σ A) (g4 : GxN A) {u : Nat} (hu : u < 4) (h8 : ∀ v, v < 4 → (fl A v).length ≤ 8) (hl : (fl A u).length < 8) (f : Fa) : RB (fWl σ u (fl A u).length f) (faA A u f) := by
  obtain ⟨U, F, R, D, E1, E2⟩ := B
  have far : ∀ t x, t ≠ 71 → t ≠ 72 → t ≠ 73 → (fWl σ u (fl A u).length f).1 t 0 x = σ.1 t 0 x := fun t x h1 h2 h3 => by
    unfold fWl
    rw [wr_rd, if_neg (by omega), wr_rd, if_neg (by omega), wr_rd, if_neg (by omega), wr_rd, if_neg (by omega), wr_rd, if_neg (by omega)]
  have e71 : ∀ x, (fWl σ u (fl A u).length f).1 71 0 x = if x = 16 * u + 12 then iN ((fl A u).length + 1) else σ.1 71 0 x := fun x => by
    unfold fWl
    rw [wr_rd]
    by_cases h : x = 16 * u + 12
    · rw [if_pos ⟨rfl, rfl, h⟩, if_pos h]
    · rw [if_neg (by omega), if_neg h, wr_rd, if_neg (by omega), wr_rd, if_neg (by omega), wr_rd, if_neg (by omega), wr_rd, if_neg (by omega)]
  have e72 : ∀ x, (fWl σ u (fl A u).length f).1 72 0 x = if x = 32 + (8 * u + (fl A u).length) then f.2.1 else if x = 8 * u + (fl A u).length then f.1 else σ.1 72 0 x := fun x => by
    unfold fWl
    rw [wr_rd, if_neg (by omega), wr_rd, if_neg (by omega), wr_rd, if_neg (by omega), wr_rd, wr_rd]
    simp
  have e73 : ∀ x, (fWl σ u (fl A u).length f).1 73 0 x = if x = 32 + (8 * u + (fl A u).length) then f.2.2.2 else if x = 8 * u + (fl A u).length then f.2.2.1 else σ.1 73 0 x := fun x => by
    unfold fWl
    simp [wr_rd]
  refine ⟨fun v hv => ?_, fun v hv j g hg => ?_, fun d hd => ?_, fun d hd => ?_, fun k hk => ?_, fun k hk => ?_⟩
  · have hv4 : v < 4 := by have h : v < nU A := hv; rw [g4.1] at h; exact h
    obtain ⟨y0, y1, y2, y3, y4, y5⟩ := U v hv
    refine ⟨?_, ?_, fun a ha => ?_, fun k hk => ?_, fun k hk => ?_, ?_⟩
    · rw [e71, if_neg (by omega)]; exact y0
    · rw [e71, if_neg (by omega)]; exact y1
    · rw [e71, if_neg (by omega)]; exact y2 a ha
    · rw [e71, if_neg (by omega)]; exact y3 k hk
    · rw [e71, if_neg (by omega)]; exact y4 k hk
    · rw [e71]
      have hfl : fl (faA A u f) v = if v = u then fl A u ++ [f] else fl A v := rfl
      rw [hfl]
      by_cases h : v = u
      · subst h
        rw [if_pos rfl, if_pos rfl, List.length_append]; rfl
      · rw [if_neg (by omega), if_neg h]; exact y5
  · have hv4 : v < 4 := by have h : v < nU A := hv; rw [g4.1] at h; exact h
    have hfl : fl (faA A u f) v = if v = u then fl A u ++ [f] else fl A v := rfl
    rw [hfl] at hg
    have h8v := h8 v hv4
    rw [e72, e72, e73, e73]
    by_cases h : v = u
    · subst h
      rw [if_pos rfl] at hg
      by_cases hj : j = (fl A v).length
      · rw [hj, List.getElem?_append_right (Nat.le_refl _), Nat.sub_self] at hg
        cases hg
        rw [hj, if_neg (by omega), if_pos rfl, if_pos rfl, if_neg (by omega), if_pos rfl, if_pos rfl]
        exact ⟨rfl, rfl, rfl, rfl⟩
      · have hj2 : j < (fl A v).length := by
          have := (List.getElem?_eq_some_iff.mp hg).1
          rw [List.length_append] at this
          simp at this
          omega
        rw [List.getElem?_append_left hj2] at hg
        rw [if_neg (by omega), if_neg (by omega), if_neg (by omega), if_neg (by omega), if_neg (by omega), if_neg (by omega), if_neg (by omega), if_neg (by omega)]
        exact F v hv j g hg
    · rw [if_neg h] at hg
      have hj2 := (List.getElem?_eq_some_iff.mp hg).1
      rw [if_neg (by omega), if_neg (by omega), if_neg (by omega), if_neg (by omega), if_neg (by omega), if_neg (by omega), if_neg (by omega), if_neg (by omega)]
      exact F v hv j g hg
  · refine ⟨?_, fun j x hx => ?_⟩
    · rw [far _ _ (by decide) (by decide) (by decide)]; exact (R d hd).1
    · rw [far _ _ (by decide) (by decide) (by decide)]; exact (R d hd).2 j x hx
  · have := D d hd
    rw [far _ _ (by decide) (by decide) (by decide), far _ _ (by decide) (by decide) (by decide), far _ _ (by decide) (by decide) (by decide), far _ _ (by decide) (by decide) (by decide), far _ _ (by decide) (by decide) (by decide), far _ _ (by decide) (by decide) (by decide)]
    exact this
  · have := E1 k hk
    rw [far _ _ (by decide) (by decide) (by decide), far _ _ (by decide) (by decide) (by decide), far _ _ (by decide) (by decide) (by decide)]
    exact this
  · have := E2 k hk
    rw [far _ _ (by decide) (by decide) (by decide), far _ _ (by decide) (by decide) (by decide)]
    exact this
theorem t_756 (L : Nat) (xs : Nat → Int32) {σ : Wd} {A : Ab} {t : Nat} (K : Kt σ A t) (ht : t < 60) (P : Gxp A) (k600 : KQ) {κ u : Nat} (hκ : κ < 4) (hu : u < 4) {w a : Int32} (hw : κ ≤ 1 → ∃ x, x < 4 ∧ w = iN x) (ha : amt κ a) (hq : κ = 0 → ∃ q, q ≤ 20 ∧ a = iN q) (s : Nat) : ∃ σ' A', j_L_law_756 L xs k600 σ w (iN (16 * u)) (iN κ) (iN u) (iN s) (A.1 30 4 0) (A.1 30 3 0) (A.1 30 2 0) (iN (nT A)) a = j_L_law_1937 L xs k600 σ' (iN 1) (iN s) (A'.1 30 4 0) (A'.1 30 3 0) (A'.1 30 2 0) (iN (nT A')) ∧ Kt σ' A' (t + 1) ∧ Gxp A' := by
  have K0 := K
  obtain ⟨C, B, G, W, ⟨g4, gt, gk, ge, gd9, gr⟩, _⟩ := K
  have huA : u < nU A := by rw [g4.1]; exact hu
  have h8 : ∀ v, v < 4 → (fl A v).length ≤ 8 := fun v hv => (G.2.2.2.1 v (by rw [g4.1]; exact hv)).1
  have y5 := (B.1 u huA).2.2.2.2.2
  by_cases hl : (fl A u).length = 8
  · refine ⟨σ, A, ?_, K0.up ht, P⟩
    have hf := z_faultN C G huA hκ hw ha hl
    have hg : g_told σ (iN u) (iN κ) w a = some (-1003, σ) := by
      unfold g_told
      rw [hf]
      rfl
    rw [hl] at y5
    have e8 : iN 8 = (8 : Int32) := rfl
    unfold j_L_law_756
    rw [show iN (16 * u) + 12 = iN (16 * u + 12) from iN_add _ 12, gd_t ((iN_inb (by omega)).mpr (by omega)), iN_clamp (by omega), y5, bd_def, hg, bv_some, if_pos e8]
    unfold j_L_law_796
    rw [if_pos rfl]
    unfold j_L_law_804
    rw [if_pos (by decide)]
    rfl
  · have hl8 : (fl A u).length < 8 := by have := h8 u hu; omega
    obtain ⟨q1, q2, q3⟩ := z_fault C G huA hκ hw ha hl8
    have hg : g_told σ (iN u) (iN κ) w a = some (iN ((fl A u).length + 1), fW σ u (fT κ (nT A) w a)) := by
      unfold g_told
      rw [q1]
      rfl
    have B1 := fl_B (B.cs q2) g4 hu h8 hl8 (fT κ (nT A) w a)
    have hS := fWl_S (fW σ u (fT κ (nT A) w a)) u (fl A u).length (fT κ (nT A) w a)
    refine ⟨_, faA A u (fT κ (nT A) w a), ?_, ⟨q3.ls hS, B1, fa_G G huA hκ hl8 hw _, W, ⟨g4, Nat.le_succ_of_le gt, fun v hv => ?_, ge, gd9, gr⟩, by omega⟩, P⟩
    · have hv : (faA A u (fT κ (nT A) w a)).1 30 4 0 = A.1 30 4 0 ∧ (faA A u (fT κ (nT A) w a)).1 30 3 0 = A.1 30 3 0 ∧ (faA A u (fT κ (nT A) w a)).1 30 2 0 = A.1 30 2 0 ∧ nT (faA A u (fT κ (nT A) w a)) = nT A := ⟨rfl, rfl, rfl, rfl⟩
      rw [hv.1, hv.2.1, hv.2.2.1, hv.2.2.2]
      have y71 : (fW σ u (fT κ (nT A) w a)).1 71 0 (16 * u + 12) = iN (fl A u).length := by rw [q2 71 (by decide)]; exact y5
      generalize fW σ u (fT κ (nT A) w a) = τ at *
      generalize (fl A u).length = ln at *
      have e32 : 32 + 8 * u + ln = 32 + (8 * u + ln) := by omega
      have hne : ¬ ln = 8 := hl
      have hnl : ¬ 8 ≤ ln := by omega
      have y73 : ∀ x1 x2 x3 x4 : Int32, (wr (wr (wr (wr τ 72 0 (8 * u + ln) x1) 72 0 (32 + (8 * u + ln)) x2) 73 0 (8 * u + ln) x3) 73 0 (32 + (8 * u + ln)) x4).1 71 0 (16 * u + 12) = iN ln := fun x1 x2 x3 x4 => by
        rw [wr_rd, if_neg (by omega), wr_rd, if_neg (by omega), wr_rd, if_neg (by omega), wr_rd, if_neg (by omega)]; exact y71
      unfold fWl fT
      have hκ4 : κ = 0 ∨ κ = 1 ∨ κ = 2 ∨ κ = 3 := by omega
      rcases hκ4 with rfl | rfl | rfl | rfl
      · simp (disch := omega) only [gd_t, gd_T, bx_some, bx_thr, bd_def, nx_in, ↓nO_eq, l0, l1, l2, l3, l4, l5, l6, l7, l8, l9, l10, l12, l13, l16, l17, l18, l25, l30, l32, l33, l50, l64, l100, l200, l448, l1200, iN_add, iN_lt, iN_le, iN_inj, iN_clamp, iN_inb, iN_nO, nO_iN, nO_lt, iN_ltm, iN_lem, nO_le, iN_pred, if_pos, if_neg, ↓reduceIte, or_true, true_or, and_true, true_and, ne_eq, not_true_eq_false, not_false_eq_true, false_or, or_false, and_false, false_and, j_L_law_756, bv_some, y5, hg, hne, j_L_law_796, j_L_law_804, hnl, iN_mul, iN_div, iN_sub, e32, j_L_law_862, j_L_law_890, j_L_law_902, y73]
      · simp (disch := omega) only [gd_t, gd_T, bx_some, bx_thr, bd_def, nx_in, ↓nO_eq, l0, l1, l2, l3, l4, l5, l6, l7, l8, l9, l10, l12, l13, l16, l17, l18, l25, l30, l32, l33, l50, l64, l100, l200, l448, l1200, iN_add, iN_lt, iN_le, iN_inj, iN_clamp, iN_inb, iN_nO, nO_iN, nO_lt, iN_ltm, iN_lem, nO_le, iN_pred, if_pos, if_neg, ↓reduceIte, or_true, true_or, and_true, true_and, ne_eq, not_true_eq_false, not_false_eq_true, false_or, or_false, and_false, false_and, j_L_law_756, bv_some, y5, hg, hne, j_L_law_796, j_L_law_804, hnl, iN_mul, iN_div, iN_sub, e32, j_L_law_862, j_L_law_890, j_L_law_902, y73]
      · simp (disch := omega) only [gd_t, gd_T, bx_some, bx_thr, bd_def, nx_in, ↓nO_eq, l0, l1, l2, l3, l4, l5, l6, l7, l8, l9, l10, l12, l13, l16, l17, l18, l25, l30, l32, l33, l50, l64, l100, l200, l448, l1200, iN_add, iN_lt, iN_le, iN_inj, iN_clamp, iN_inb, iN_nO, nO_iN, nO_lt, iN_ltm, iN_lem, nO_le, iN_pred, if_pos, if_neg, ↓reduceIte, or_true, true_or, and_true, true_and, ne_eq, not_true_eq_false, not_false_eq_true, false_or, or_false, and_false, false_and, j_L_law_756, bv_some, y5, hg, hne, j_L_law_796, j_L_law_804, hnl, iN_mul, iN_div, iN_sub, e32, j_L_law_862, j_L_law_890, j_L_law_902, y73]
      · simp (disch := omega) only [gd_t, gd_T, bx_some, bx_thr, bd_def, nx_in, ↓nO_eq, l0, l1, l2, l3, l4, l5, l6, l7, l8, l9, l10, l12, l13, l16, l17, l18, l25, l30, l32, l33, l50, l64, l100, l200, l448, l1200, iN_add, iN_lt, iN_le, iN_inj, iN_clamp, iN_inb, iN_nO, nO_iN, nO_lt, iN_ltm, iN_lem, nO_le, iN_pred, if_pos, if_neg, ↓reduceIte, or_true, true_or, and_true, true_and, ne_eq, not_true_eq_false, not_false_eq_true, false_or, or_false, and_false, false_and, j_L_law_756, bv_some, y5, hg, hne, j_L_law_796, j_L_law_804, hnl, iN_mul, iN_div, iN_sub, e32, j_L_law_862, j_L_law_890, j_L_law_902, y73]
    · obtain ⟨h1, h2, h3, h4⟩ := gk.up v hv
      refine ⟨h1, h2, h3, fun f hf h0 => ?_⟩
      have hfl : fl (faA A u (fT κ (nT A) w a)) v = if v = u then fl A u ++ [fT κ (nT A) w a] else fl A v := rfl
      rw [hfl] at hf
      by_cases h : v = u
      · subst h
        rw [if_pos rfl] at hf
        rcases List.mem_append.mp hf with hf | hf
        · exact h4 f hf h0
        · rw [List.mem_singleton] at hf
          subst hf
          have hκ0 : κ = 0 := (iN_inj (by omega) (by decide)).mp h0
          obtain ⟨q, hq1, hq2⟩ := hq hκ0
          refine ⟨q, hq1, ?_⟩
          show (if κ = 0 ∨ κ = 2 then a else nO) = _
          rw [if_pos (Or.inl hκ0)]
          exact hq2
      · rw [if_neg h] at hf
        exact h4 f hf h0
theorem t_696 (L : Nat) (xs : Nat → Int32) {σ : Wd} {A : Ab} {t : Nat} (K : Kt σ A t) (ht : t < 60) (P : Gxp A) (k600 : KQ) {κ u : Nat} (hκ : κ < 4) (hu : u < 4) {w : Int32} (hw : κ ≤ 1 → ∃ x, x < 4 ∧ w = iN x) (v : Int32) (s : Nat) : ∃ σ' A', j_L_law_696 L xs k600 σ (iN (16 * u)) (iN κ) (iN u) v (iN s) (A.1 30 4 0) (A.1 30 3 0) (A.1 30 2 0) (iN (nT A)) w = j_L_law_1937 L xs k600 σ' (iN 1) (iN s) (A'.1 30 4 0) (A'.1 30 3 0) (A'.1 30 2 0) (iN (nT A')) ∧ Kt σ' A' (t + 1) ∧ Gxp A' := by
  by_cases h0 : κ = 0
  · subst h0
    have hu1 := upM_lt (v / 512) (n := 20) (by decide)
    obtain ⟨σ', A', h1, h2⟩ := t_756 L xs K ht P k600 hκ hu (w := w) (a := iN (1 + upM (v / 512) 20)) hw ⟨fun _ => ⟨by show ¬ iN (1 + upM (v / 512) 20) < iN 1; rw [iN_lt (by omega) (by decide)]; omega, by show iN (1 + upM (v / 512) 20) ≤ iN 20; rw [iN_le (by omega) (by decide)]; omega⟩, fun z => absurd z (by decide)⟩ (fun _ => ⟨_, by omega, rfl⟩) s
    refine ⟨σ', A', ?_, h2⟩
    rw [← h1]
    simp (disch := omega) only [gd_t, gd_T, bx_some, bx_thr, bd_def, nx_in, ↓nO_eq, l0, l1, l2, l3, l4, l5, l6, l7, l8, l9, l10, l12, l13, l16, l17, l18, l25, l30, l32, l33, l50, l64, l100, l200, l448, l1200, iN_add, iN_lt, iN_le, iN_inj, iN_clamp, iN_inb, iN_nO, nO_iN, nO_lt, iN_ltm, iN_lem, nO_le, iN_pred, if_pos, if_neg, ↓reduceIte, or_true, true_or, and_true, true_and, ne_eq, not_true_eq_false, not_false_eq_true, false_or, or_false, and_false, false_and, j_L_law_696, bu_some, bv_some, l14, l20, l21, l31, l60, l67, l99, l300, l400, l1000, l1500, l2000, l3000, l9000, up_ok]
  · by_cases h2 : κ = 2
    · subst h2
      have hu1 := upM_lt (v / 512) (n := 100) (by decide)
      obtain ⟨σ', A', h1, h2⟩ := t_756 L xs K ht P k600 hκ hu (w := w) (a := iN (1 + upM (v / 512) 100)) hw ⟨fun z => absurd z (by decide), fun _ => ⟨by show ¬ iN (1 + upM (v / 512) 100) < iN 1; rw [iN_lt (by omega) (by decide)]; omega, by show iN (1 + upM (v / 512) 100) ≤ iN 100; rw [iN_le (by omega) (by decide)]; omega⟩⟩ (fun z => absurd z (by decide)) s
      refine ⟨σ', A', ?_, h2⟩
      rw [← h1]
      have n20 : ¬ iN 2 = iN 0 := by decide
      simp (disch := omega) only [gd_t, gd_T, bx_some, bx_thr, bd_def, nx_in, ↓nO_eq, l0, l1, l2, l3, l4, l5, l6, l7, l8, l9, l10, l12, l13, l16, l17, l18, l25, l30, l32, l33, l50, l64, l100, l200, l448, l1200, iN_add, iN_lt, iN_le, iN_inj, iN_clamp, iN_inb, iN_nO, nO_iN, nO_lt, iN_ltm, iN_lem, nO_le, iN_pred, if_pos, if_neg, ↓reduceIte, or_true, true_or, and_true, true_and, ne_eq, not_true_eq_false, not_false_eq_true, false_or, or_false, and_false, false_and, j_L_law_696, n20, bu_some, bv_some, l14, l20, l21, l31, l60, l67, l99, l300, l400, l1000, l1500, l2000, l3000, l9000, up_ok]
    · obtain ⟨σ', A', h1, h3⟩ := t_756 L xs K ht P k600 hκ hu (w := w) (a := iN (upM (v / 512) 300) - iN 100) hw ⟨fun z => absurd z h0, fun z => absurd z h2⟩ (fun z => absurd z h0) s
      refine ⟨σ', A', ?_, h3⟩
      rw [← h1]
      have n0 : ¬ iN κ = iN 0 := by rw [iN_inj (by omega) (by decide)]; exact h0
      have n2 : ¬ iN κ = iN 2 := by rw [iN_inj (by omega) (by decide)]; exact h2
      simp (disch := omega) only [gd_t, gd_T, bx_some, bx_thr, bd_def, nx_in, ↓nO_eq, l0, l1, l2, l3, l4, l5, l6, l7, l8, l9, l10, l12, l13, l16, l17, l18, l25, l30, l32, l33, l50, l64, l100, l200, l448, l1200, iN_add, iN_lt, iN_le, iN_inj, iN_clamp, iN_inb, iN_nO, nO_iN, nO_lt, iN_ltm, iN_lem, nO_le, iN_pred, if_pos, if_neg, ↓reduceIte, or_true, true_or, and_true, true_and, ne_eq, not_true_eq_false, not_false_eq_true, false_or, or_false, and_false, false_and, j_L_law_696, n0, n2, h0, h2, bu_some, bv_some, l14, l20, l21, l31, l60, l67, l99, l300, l400, l1000, l1500, l2000, l3000, l9000, up_ok]
/-! the pit -/
theorem x_loop (L : Nat) (xs : Nat → Int32) (k600 : KQ) {u e : Nat} (hu : u < 4) (he : e < 3) (pit is a14 a12 a10 a9 : Int32) : ∀ (n m k : Nat) (σ : Wd), e + 1 - k = m → m < n → k ≤ e + 1 → ∃ σ', l_L_law_1357 L xs k600 n σ (iN k) pit is (iN 1) (iN e) (iN (16 * u)) a14 a12 a10 a9 = j_L_law_1937 L xs k600 σ' is a14 a12 pit a10 a9 ∧ σ'.2 = σ.2 ∧ ∀ t i x, σ'.1 t i x = if t = 71 ∧ i = 0 ∧ ((16 * u + 6 + k ≤ x ∧ x ≤ 16 * u + 6 + e) ∨ (16 * u + 9 + k ≤ x ∧ x ≤ 16 * u + 9 + e)) then 0 else σ.1 t i x
  | n + 1, m, k, σ, hm, hn, hk => by
    have n10 : ¬ iN 1 = iN 0 := by decide
    by_cases h : e < k
    · refine ⟨σ, ?_, rfl, fun t i x => ?_⟩
      · simp (disch := omega) only [gd_t, gd_T, bx_some, bx_thr, bd_def, nx_in, ↓nO_eq, l0, l1, l2, l3, l4, l5, l6, l7, l8, l9, l10, l12, l13, l16, l17, l18, l25, l30, l32, l33, l50, l64, l100, l200, l448, l1200, iN_add, iN_lt, iN_le, iN_inj, iN_clamp, iN_inb, iN_nO, nO_iN, nO_lt, iN_ltm, iN_lem, nO_le, iN_pred, if_pos, if_neg, ↓reduceIte, or_true, true_or, and_true, true_and, ne_eq, not_true_eq_false, not_false_eq_true, false_or, or_false, and_false, false_and, l_L_law_1357, h, j_L_law_1397]
      · rw [if_neg (by omega)]
    · obtain ⟨σ', s1, s2, s3⟩ := x_loop L xs k600 hu he pit is a14 a12 a10 a9 n (e + 1 - (k + 1)) (k + 1) (wr (wr σ 71 0 (16 * u + 6 + k) 0) 71 0 (16 * u + 9 + k) 0) rfl (by omega) (by omega)
      refine ⟨σ', ?_, s2, fun t i x => ?_⟩
      · rw [← s1]
        simp (disch := omega) only [gd_t, gd_T, bx_some, bx_thr, bd_def, nx_in, ↓nO_eq, l0, l1, l2, l3, l4, l5, l6, l7, l8, l9, l10, l12, l13, l16, l17, l18, l25, l30, l32, l33, l50, l64, l100, l200, l448, l1200, iN_add, iN_lt, iN_le, iN_inj, iN_clamp, iN_inb, iN_nO, nO_iN, nO_lt, iN_ltm, iN_lem, nO_le, iN_pred, if_pos, if_neg, ↓reduceIte, or_true, true_or, and_true, true_and, ne_eq, not_true_eq_false, not_false_eq_true, false_or, or_false, and_false, false_and, l_L_law_1357, h, n10]
      · rw [s3, wr_rd, wr_rd]
        by_cases h1 : t = 71 ∧ i = 0 ∧ ((16 * u + 6 + k ≤ x ∧ x ≤ 16 * u + 6 + e) ∨ (16 * u + 9 + k ≤ x ∧ x ≤ 16 * u + 9 + e))
        · rw [if_pos h1]
          by_cases h2 : t = 71 ∧ i = 0 ∧ ((16 * u + 6 + (k + 1) ≤ x ∧ x ≤ 16 * u + 6 + e) ∨ (16 * u + 9 + (k + 1) ≤ x ∧ x ≤ 16 * u + 9 + e))
          · rw [if_pos h2]
          · rw [if_neg h2]
            by_cases h3 : t = 71 ∧ i = 0 ∧ x = 16 * u + 9 + k
            · rw [if_pos h3]
            · rw [if_neg h3, if_pos (by omega)]
        · rw [if_neg h1, if_neg (by omega), if_neg (by omega), if_neg (by omega)]
theorem xa_B {σ σ' : Wd} {A : Ab} (B : RB σ A) (g4 : GxN A) {u e : Nat} (hu : u < 4) (he : e < 3) (h : ∀ t i x, σ'.1 t i x = if t = 71 ∧ i = 0 ∧ ((16 * u + 6 + 0 ≤ x ∧ x ≤ 16 * u + 6 + e) ∨ (16 * u + 9 + 0 ≤ x ∧ x ≤ 16 * u + 9 + e)) then 0 else σ.1 t i x) : RB σ' (xaA A u e) := by
  obtain ⟨U, F, R, D, E1, E2⟩ := B
  have off : ∀ t, t ≠ 71 → σ'.1 t = σ.1 t := fun t ht => by
    funext i x
    rw [h, if_neg (by omega)]
  have B2 : RBf σ' A ∧ RBr σ' A ∧ RBd σ' A ∧ RBe σ' A := by
    unfold RBf RBr RBd RBe
    rw [off 72 (by decide), off 73 (by decide), off 74 (by decide), off 75 (by decide), off 76 (by decide)]
    exact ⟨F, R, D, E1, E2⟩
  refine ⟨fun v hv => ?_, B2.1, B2.2.1, B2.2.2.1, B2.2.2.2⟩
  have hv4 : v < 4 := by have h : v < nU A := hv; rw [g4.1] at h; exact h
  obtain ⟨y0, y1, y2, y3, y4, y5⟩ := U v hv
  refine ⟨?_, ?_, fun a ha => ?_, fun k hk => ?_, fun k hk => ?_, ?_⟩
  · rw [h, if_neg (by omega), xaA_rd, if_neg (by omega), if_neg (by omega)]; exact y0
  · rw [h, if_neg (by omega), xaA_rd, if_neg (by omega), if_neg (by omega)]; exact y1
  · rw [h, if_neg (by omega), xaA_rd, if_neg (by omega), if_neg (by omega)]; exact y2 a ha
  · rw [h, xaA_rd, if_neg (show ¬ (35 = 30 ∧ v = 3 ∧ k = 0) by omega)]
    by_cases hc : v = u ∧ k ≤ e
    · rw [if_pos (by omega), if_pos (by omega)]
    · rw [if_neg (by omega), if_neg (by omega)]; exact y3 k hk
  · rw [h, xaA_rd, if_neg (show ¬ (36 = 30 ∧ v = 3 ∧ k = 0) by omega)]
    by_cases hc : v = u ∧ k ≤ e
    · rw [if_pos (by omega), if_pos (by omega)]
    · rw [if_neg (by omega), if_neg (by omega)]; exact y4 k hk
  · rw [h, if_neg (by omega)]; exact y5
theorem t_1301y (L : Nat) (xs : Nat → Int32) {σ : Wd} {A : Ab} {t : Nat} (K : Kt σ A t) (ht : t < 60) (P : Gxp A) (k600 : KQ) {u e : Nat} (hu : u < 4) (he : e < 3) (ha : A.1 31 u 0 = iN 0) (hb : A.1 30 3 0 = iN 0) (s : Nat) : ∃ σ' A', j_L_law_1301 L xs k600 σ (iN e) (iN (16 * u)) (iN u) (iN s) (A.1 30 4 0) (A.1 30 3 0) (A.1 30 2 0) (iN (nT A)) (iN 1) = j_L_law_1937 L xs k600 σ' (iN 1) (iN s) (A'.1 30 4 0) (A'.1 30 3 0) (A'.1 30 2 0) (iN (nT A')) ∧ Kt σ' A' (t + 1) ∧ Gxp A' := by
  obtain ⟨C, B, G, W, ⟨g4, gt, gk, ge, gd9, gr⟩, _⟩ := K
  have huA : u < nU A := by rw [g4.1]; exact hu
  obtain ⟨σ1, q1, q2, q3⟩ := z_examine C G huA he ha hb
  have hg : g_shop σ (iN 0) (iN u) (iN e) = some (iN (e + 1), σ1) := by
    unfold g_shop
    rw [if_pos (show iN 0 = 0 from rfl), q1]
    rfl
  obtain ⟨σ2, s1, s2, s3⟩ := x_loop L xs k600 hu he (iN 1) (iN 1) (iN s) (A.1 30 4 0) (A.1 30 2 0) (iN (nT A)) FU (e + 1 - 0) 0 σ1 rfl (by unfold FU; omega) (by omega)
  have hLS : LSw σ1 σ2 := ⟨s2, fun t' ht' => by
    funext i x
    rw [s3, if_neg (by omega)]⟩
  refine ⟨σ2, xaA A u e, ?_, ⟨q3.ls hLS, xa_B (B.cs q2) g4 hu he s3, G, W, ⟨g4, Nat.le_succ_of_le gt, fun v hv => ?_, ge, gd9, gr⟩, by omega⟩, Or.inr rfl, P.2⟩
  · have hv : (xaA A u e).1 30 4 0 = A.1 30 4 0 ∧ (xaA A u e).1 30 3 0 = iN 1 ∧ (xaA A u e).1 30 2 0 = A.1 30 2 0 ∧ nT (xaA A u e) = nT A := ⟨rfl, rfl, rfl, rfl⟩
    rw [hv.1, hv.2.1, hv.2.2.1, hv.2.2.2, ← s1, hb]
    have n10 : ¬ iN 1 = iN 0 := by decide
    simp (disch := omega) only [gd_t, gd_T, bx_some, bx_thr, bd_def, nx_in, ↓nO_eq, l0, l1, l2, l3, l4, l5, l6, l7, l8, l9, l10, l12, l13, l16, l17, l18, l25, l30, l32, l33, l50, l64, l100, l200, l448, l1200, iN_add, iN_lt, iN_le, iN_inj, iN_clamp, iN_inb, iN_nO, nO_iN, nO_lt, iN_ltm, iN_lem, nO_le, iN_pred, if_pos, if_neg, ↓reduceIte, or_true, true_or, and_true, true_and, ne_eq, not_true_eq_false, not_false_eq_true, false_or, or_false, and_false, false_and, j_L_law_1301, bv_some, hg, n10, j_L_law_1327, j_L_law_1335, j_L_law_1347, j_L_law_1352]
  · obtain ⟨h1, h2, h3, h4⟩ := gk.up v hv
    refine ⟨fun k hk => ?_, h2, h3, h4⟩
    rw [xaA_rd, if_neg (by omega)]
    by_cases hc : (35 = 35 ∨ 35 = 36) ∧ v = u ∧ k ≤ e
    · rw [if_pos hc]
      exact ⟨0, Nat.zero_le _, rfl⟩
    · rw [if_neg hc]; exact h1 k hk
theorem t_1301n (L : Nat) (xs : Nat → Int32) {σ : Wd} {A : Ab} {t : Nat} (K : Kt σ A t) (P : Gxp A) (k600 : KQ) {u e : Nat} (hu : u < 4) (he : e < 3) (hn : ¬ (A.1 31 u 0 = iN 0 ∧ A.1 30 3 0 = iN 0)) (s : Nat) : j_L_law_1300 L xs k600 σ (iN e) (iN (16 * u)) (iN u) (iN s) (A.1 30 4 0) (A.1 30 3 0) (A.1 30 2 0) (iN (nT A)) = j_L_law_1937 L xs k600 σ (iN 1) (iN s) (A.1 30 4 0) (A.1 30 3 0) (A.1 30 2 0) (iN (nT A)) := by
  obtain ⟨C, B, G, W, ⟨g4, gt, gk, ge, gd9, gr⟩, _⟩ := K
  have huA : u < nU A := by rw [g4.1]; exact hu
  have q1 := z_examineN C G huA he hn
  have hg : g_shop σ (iN 0) (iN u) (iN e) = some (-1003, σ) := by
    unfold g_shop
    rw [if_pos (show iN 0 = 0 from rfl), q1]
    rfl
  obtain ⟨m, hm⟩ := FU_ge 1 (by decide)
  have hlp : ∀ p : Int32, l_L_law_1357 L xs k600 FU σ (iN 0) p (iN 1) (iN 0) (iN e) (iN (16 * u)) (iN s) (A.1 30 4 0) (A.1 30 2 0) (iN (nT A)) = j_L_law_1937 L xs k600 σ (iN 1) (iN s) (A.1 30 4 0) p (A.1 30 2 0) (iN (nT A)) := fun p => by
    rw [hm]
    have he0 : ¬ e < 0 := Nat.not_lt_zero e
    simp (disch := omega) only [gd_t, gd_T, bx_some, bx_thr, bd_def, nx_in, ↓nO_eq, l0, l1, l2, l3, l4, l5, l6, l7, l8, l9, l10, l12, l13, l16, l17, l18, l25, l30, l32, l33, l50, l64, l100, l200, l448, l1200, iN_add, iN_lt, iN_le, iN_inj, iN_clamp, iN_inb, iN_nO, nO_iN, nO_lt, iN_ltm, iN_lem, nO_le, iN_pred, if_pos, if_neg, ↓reduceIte, or_true, true_or, and_true, true_and, ne_eq, not_true_eq_false, not_false_eq_true, false_or, or_false, and_false, false_and, l_L_law_1357, he0, j_L_law_1397]
  have n10 : ¬ iN 1 = iN 0 := by decide
  rcases P.1 with hp | hp
  · rw [hp]
    simp (disch := omega) only [gd_t, gd_T, bx_some, bx_thr, bd_def, nx_in, ↓nO_eq, l0, l1, l2, l3, l4, l5, l6, l7, l8, l9, l10, l12, l13, l16, l17, l18, l25, l30, l32, l33, l50, l64, l100, l200, l448, l1200, iN_add, iN_lt, iN_le, iN_inj, iN_clamp, iN_inb, iN_nO, nO_iN, nO_lt, iN_ltm, iN_lem, nO_le, iN_pred, if_pos, if_neg, ↓reduceIte, or_true, true_or, and_true, true_and, ne_eq, not_true_eq_false, not_false_eq_true, false_or, or_false, and_false, false_and, j_L_law_1300, j_L_law_1301, bv_some, hg, j_L_law_1327, j_L_law_1335, j_L_law_1352, hlp]
  · rw [hp]
    simp (disch := omega) only [gd_t, gd_T, bx_some, bx_thr, bd_def, nx_in, ↓nO_eq, l0, l1, l2, l3, l4, l5, l6, l7, l8, l9, l10, l12, l13, l16, l17, l18, l25, l30, l32, l33, l50, l64, l100, l200, l448, l1200, iN_add, iN_lt, iN_le, iN_inj, iN_clamp, iN_inb, iN_nO, nO_iN, nO_lt, iN_ltm, iN_lem, nO_le, iN_pred, if_pos, if_neg, ↓reduceIte, or_true, true_or, and_true, true_and, ne_eq, not_true_eq_false, not_false_eq_true, false_or, or_false, and_false, false_and, j_L_law_1300, j_L_law_1301, bv_some, hg, n10, j_L_law_1327, j_L_law_1335, j_L_law_1347, j_L_law_1352, hlp]
/-! a FAULT is mended -/
theorem t_mend (L : Nat) (xs : Nat → Int32) {σ : Wd} {A : Ab} {t : Nat} (K : Kt σ A t) (ht : t < 60) (P : Gxp A) (k600 : KQ) {u p : Nat} (hu : u < 4) {f : Fa} (hf : (fl A u)[p]? = some f) (h0 : ¬ f.1 = 0) (s : Nat) : ∃ σ' A', j_L_law_1740 L xs k600 σ (iN p) (iN u) (iN s) (A.1 30 4 0) (A.1 30 3 0) (A.1 30 2 0) (iN (nT A)) f.1 = j_L_law_1937 L xs k600 σ' (iN 1) (iN s) (A'.1 30 4 0) (A'.1 30 3 0) (A'.1 30 2 0) (iN (nT A')) ∧ Kt σ' A' (t + 1) ∧ Gxp A' := by
  obtain ⟨C, B, G, W, ⟨g4, gt, gk, ge, gd9, gr⟩, _⟩ := K
  have huA : u < nU A := by rw [g4.1]; exact hu
  have h8 : ∀ v, v < 4 → (fl A v).length ≤ 8 := fun v hv => (G.2.2.2.1 v (by rw [g4.1]; exact hv)).1
  have hp := (List.getElem?_eq_some_iff.mp hf).1
  obtain ⟨σ1, q1, q2, q3⟩ := z_mend C G huA hf h0
  have hg : g_shop σ (iN 2) (iN u) (iN p) = some (f.1, σ1) := by
    unfold g_shop
    rw [if_neg (by decide), if_neg (by decide), q1]
    rfl
  obtain ⟨σ2, r1, r2, r3, r4⟩ := r_remove (B.cs q2) g4 hu h8 hp
  obtain ⟨⟨κ, hκ, hκ2⟩, _⟩ := (G.2.2.2.1 u huA).2 f (List.mem_of_getElem? hf)
  refine ⟨σ2, flA A u ((fl A u).eraseIdx p), ?_, ⟨q3.ls r2, r4, fl_G G (by rw [List.length_eraseIdx]; split <;> omega) (fun g hg => List.mem_of_mem_eraseIdx hg), W, ⟨g4, Nat.le_succ_of_le gt, fun v hv => ?_, ge, gd9, gr⟩, by omega⟩, P⟩
  · have hv : (flA A u ((fl A u).eraseIdx p)).1 30 4 0 = A.1 30 4 0 ∧ (flA A u ((fl A u).eraseIdx p)).1 30 3 0 = A.1 30 3 0 ∧ (flA A u ((fl A u).eraseIdx p)).1 30 2 0 = A.1 30 2 0 ∧ nT (flA A u ((fl A u).eraseIdx p)) = nT A := ⟨rfl, rfl, rfl, rfl⟩
    rw [hv.1, hv.2.1, hv.2.2.1, hv.2.2.2]
    rw [hκ2] at hg ⊢
    have hnn : ¬ iN κ < iN 0 := by rw [iN_lt (by omega) (by decide)]; omega
    simp (disch := omega) only [gd_t, gd_T, bx_some, bx_thr, bd_def, nx_in, ↓nO_eq, l0, l1, l2, l3, l4, l5, l6, l7, l8, l9, l10, l12, l13, l16, l17, l18, l25, l30, l32, l33, l50, l64, l100, l200, l448, l1200, iN_add, iN_lt, iN_le, iN_inj, iN_clamp, iN_inb, iN_nO, nO_iN, nO_lt, iN_ltm, iN_lem, nO_le, iN_pred, if_pos, if_neg, ↓reduceIte, or_true, true_or, and_true, true_and, ne_eq, not_true_eq_false, not_false_eq_true, false_or, or_false, and_false, false_and, j_L_law_1740, bv_some, bu_some, hg, j_L_law_1761, hnn, r1, j_L_law_1779]
  · obtain ⟨h1, h2, h3, h4⟩ := gk.up v hv
    refine ⟨h1, h2, h3, fun g hgm hg0 => ?_⟩
    rw [fl_flA] at hgm
    by_cases h : v = u
    · subst h
      rw [if_pos rfl] at hgm
      exact h4 g (List.mem_of_mem_eraseIdx hgm) hg0
    · rw [if_neg h] at hgm
      exact h4 g hgm hg0
theorem t_mendF (L : Nat) (xs : Nat → Int32) {σ : Wd} {A : Ab} {t : Nat} (K : Kt σ A t) (k600 : KQ) {u p : Nat} (hu : u < 4) {f : Fa} (hf : (fl A u)[p]? = some f) (h0 : f.1 = 0) (s : Nat) (a12 a11 a10 a9 : Int32) : j_L_law_1740 L xs k600 σ (iN p) (iN u) (iN s) a12 a11 a10 a9 (-1003) = j_L_law_1937 L xs k600 σ (iN 1) (iN s) a12 a11 a10 a9 := by
  obtain ⟨C, B, G, W, ⟨g4, gt, gk, ge, gd9, gr⟩, _⟩ := K
  have huA : u < nU A := by rw [g4.1]; exact hu
  have q1 := z_mendF C G huA hf h0
  have hg : g_shop σ (iN 2) (iN u) (iN p) = some (-1003, σ) := by
    unfold g_shop
    rw [if_neg (by decide), if_neg (by decide), q1]
    rfl
  unfold j_L_law_1740
  rw [show (2 : Int32) = iN 2 from rfl, hg, bv_some, if_pos rfl]
  unfold j_L_law_1761
  rw [if_pos (by decide)]
  rfl
theorem t_mendN (L : Nat) (xs : Nat → Int32) {σ : Wd} {A : Ab} {t : Nat} (K : Kt σ A t) (k600 : KQ) {u p : Nat} (hu : u < 4) (hp : (fl A u).length ≤ p) (hp9 : p < 100) (s : Nat) (a12 a11 a10 a9 : Int32) : j_L_law_1740 L xs k600 σ (iN p) (iN u) (iN s) a12 a11 a10 a9 (-1001) = j_L_law_1937 L xs k600 σ (iN 1) (iN s) a12 a11 a10 a9 := by
  obtain ⟨C, B, G, W, ⟨g4, gt, gk, ge, gd9, gr⟩, _⟩ := K
  have huA : u < nU A := by rw [g4.1]; exact hu
  have q1 := z_mendN C G huA hp hp9
  have hg : g_shop σ (iN 2) (iN u) (iN p) = some (-1001, σ) := by
    unfold g_shop
    rw [if_neg (by decide), if_neg (by decide), q1]
    rfl
  unfold j_L_law_1740
  rw [show (2 : Int32) = iN 2 from rfl, hg, bv_some, if_pos rfl]
  unfold j_L_law_1761
  rw [if_pos (by decide)]
  rfl
