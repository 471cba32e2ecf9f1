/-! both alike -/
def Kt (σ : Wd) (A : Ab) (t : Nat) : Prop := RC σ A ∧ RB σ A ∧ Gd A ∧ Gr A (fun _ => False) ∧ Gx A t ∧ t ≤ 60
theorem b_one : ∀ j, j < 3 → ((1 : Int32) <<< (iN j &&& 31)) = iN (2 ^ j) := by decide
theorem b_297 {σ : Wd} {A : Ab} {t : Nat} (K : Kt σ A t) {k j : Nat} (hk : k < 4) (hj : j < 3) (k169 : Wd → Int32 → Int32 → Int32 → Int32 → Int32 → Int32 → Option ((Int32 ⊕ String) × Wd)) (s x : Nat) : j_L_alike_297 k169 σ (iN 1) (iN j) (iN (16 * k)) (iN k) (iN (nT A)) (iN x) (iN s) = k169 σ (iN (j + 1)) (iN (s + x)) (iN 1) (iN (16 * k)) (iN k) (iN (nT A)) := by
  obtain ⟨C, B, G, W, ⟨g4, gt, gk, ge, gd9, gr⟩, ht⟩ := K
  have w1 := z_whyNot C G (u := k) (d := j) (by rw [g4.1]; exact hk) (by rw [g4.2]; exact hj)
  have w2 := w_why B g4 ht gk ge G hk hj
  have n10 : ¬ iN 1 = iN 0 := by decide
  simp (disch := omega) only [gd_t, gd_T, bx_some, bx_thr, bd_def, nx_in, ↓nO_eq, l0, l1, l2, l3, l4, l5, l6, l7, l8, l9, l10, l12, l13, l16, l17, l18, l25, l30, l32, l33, l50, l64, l100, l200, l448, l1200, iN_add, iN_lt, iN_le, iN_inj, iN_clamp, iN_inb, iN_nO, nO_iN, nO_lt, iN_ltm, iN_lem, nO_le, iN_pred, if_pos, if_neg, ↓reduceIte, or_true, true_or, and_true, true_and, ne_eq, not_true_eq_false, not_false_eq_true, false_or, or_false, and_false, false_and, j_L_alike_297, n10, w1, w2]
theorem b_169 {σ : Wd} {A : Ab} {t : Nat} (K : Kt σ A t) {k j : Nat} (hk : k < 4) (hj : j < 3) (k19 : Wd → Int32 → Int32 → Int32 → Option ((Int32 ⊕ String) × Wd)) (s n : Nat) : l_L_alike_169 k19 (n + 1) σ (iN j) (iN s) (iN 1) (iN (16 * k)) (iN k) (iN (nT A)) = l_L_alike_169 k19 n σ (iN (j + 1)) (iN (s + if due A k (iN 0) j = true then 2 ^ j else 0)) (iN 1) (iN (16 * k)) (iN k) (iN (nT A)) := by
  have K0 := K
  obtain ⟨C, B, G, W, ⟨g4, gt, gk, ge, gd9, gr⟩, ht⟩ := K
  have hkA : k < nU A := by rw [g4.1]; exact hk
  have c0 := z_clock0 C G hkA hj
  have c1 := z_clock1 C G hkA hj
  obtain ⟨y0, y1, y2, y3, y4, y5⟩ := B.1 k hkA
  have u5 := y3 j hj
  have u6 := y4 j hj
  obtain ⟨e0, e1, e2⟩ := B.2.2.2.2.1 j hj
  have n10 : ¬ iN 1 = iN 0 := by decide
  have hb : (iN 1 <<< (iN j &&& 31)) = iN (2 ^ j) := b_one j hj
  have h297 := fun x => b_297 K0 hk hj (l_L_alike_169 k19 n) s x
  rw [due_0]
  unfold bnd
  by_cases h1 : A.1 50 j 0 + A.1 50 j 0 * A.1 51 j 0 / iN 100 < A.1 35 k j
  · simp (disch := omega) only [gd_t, gd_T, bx_some, bx_thr, bd_def, nx_in, ↓nO_eq, l0, l1, l2, l3, l4, l5, l6, l7, l8, l9, l10, l12, l13, l16, l17, l18, l25, l30, l32, l33, l50, l64, l100, l200, l448, l1200, iN_add, iN_lt, iN_le, iN_inj, iN_clamp, iN_inb, iN_nO, nO_iN, nO_lt, iN_ltm, iN_lem, nO_le, iN_pred, if_pos, if_neg, ↓reduceIte, or_true, true_or, and_true, true_and, ne_eq, not_true_eq_false, not_false_eq_true, false_or, or_false, and_false, false_and, l_L_alike_169, n10, c0, c1, iN_mul, u5, u6, j_L_alike_229, j_L_alike_289, e0, e1, e2, h1, hb, h297, decide_true, Bool.true_or]
  · by_cases h2 : A.1 36 k j ≤ A.1 52 j 0
    · simp (disch := omega) only [gd_t, gd_T, bx_some, bx_thr, bd_def, nx_in, ↓nO_eq, l0, l1, l2, l3, l4, l5, l6, l7, l8, l9, l10, l12, l13, l16, l17, l18, l25, l30, l32, l33, l50, l64, l100, l200, l448, l1200, iN_add, iN_lt, iN_le, iN_inj, iN_clamp, iN_inb, iN_nO, nO_iN, nO_lt, iN_ltm, iN_lem, nO_le, iN_pred, if_pos, if_neg, ↓reduceIte, or_true, true_or, and_true, true_and, ne_eq, not_true_eq_false, not_false_eq_true, false_or, or_false, and_false, false_and, l_L_alike_169, n10, c0, c1, iN_mul, u5, u6, j_L_alike_229, j_L_alike_289, e0, e1, e2, h1, h2, lt_not.mpr h2, h297, decide_false, Bool.or_self, Bool.false_eq_true]
    · simp (disch := omega) only [gd_t, gd_T, bx_some, bx_thr, bd_def, nx_in, ↓nO_eq, l0, l1, l2, l3, l4, l5, l6, l7, l8, l9, l10, l12, l13, l16, l17, l18, l25, l30, l32, l33, l50, l64, l100, l200, l448, l1200, iN_add, iN_lt, iN_le, iN_inj, iN_clamp, iN_inb, iN_nO, nO_iN, nO_lt, iN_ltm, iN_lem, nO_le, iN_pred, if_pos, if_neg, ↓reduceIte, or_true, true_or, and_true, true_and, ne_eq, not_true_eq_false, not_false_eq_true, false_or, or_false, and_false, false_and, l_L_alike_169, n10, c0, c1, iN_mul, u5, u6, j_L_alike_229, j_L_alike_289, e0, e1, e2, h1, h2, le_not.mp h2, hb, h297, decide_true, decide_false, Bool.false_or]
theorem b_372 {σ : Wd} {A : Ab} {t : Nat} (K : Kt σ A t) {k j : Nat} (hk : k < 4) (hj : j < 4) (k19 : Wd → Int32 → Int32 → Int32 → Option ((Int32 ⊕ String) × Wd)) (n : Nat) : l_L_alike_372 k19 (n + 1) σ (iN j) (iN 1) (iN (16 * k)) (iN k) (iN (nT A)) = l_L_alike_372 k19 n σ (iN (j + 1)) (iN 1) (iN (16 * k)) (iN k) (iN (nT A)) := by
  obtain ⟨C, B, G, W, ⟨g4, gt, gk, ge, gd9, gr⟩, ht⟩ := K
  have hkA : k < nU A := by rw [g4.1]; exact hk
  have c0 := z_axle C G hkA hj
  have u2 := (B.1 k hkA).2.2.1 j hj
  have n10 : ¬ iN 1 = iN 0 := by decide
  simp (disch := omega) only [gd_t, gd_T, bx_some, bx_thr, bd_def, nx_in, ↓nO_eq, l0, l1, l2, l3, l4, l5, l6, l7, l8, l9, l10, l12, l13, l16, l17, l18, l25, l30, l32, l33, l50, l64, l100, l200, l448, l1200, iN_add, iN_lt, iN_le, iN_inj, iN_clamp, iN_inb, iN_nO, nO_iN, nO_lt, iN_ltm, iN_lem, nO_le, iN_pred, if_pos, if_neg, ↓reduceIte, or_true, true_or, and_true, true_and, ne_eq, not_true_eq_false, not_false_eq_true, false_or, or_false, and_false, false_and, l_L_alike_372, n10, c0, iN_mul, u2]
theorem b_419 {σ : Wd} {A : Ab} {t : Nat} (K : Kt σ A t) {k : Nat} (hk : k < 4) (k19 : Wd → Int32 → Int32 → Int32 → Option ((Int32 ⊕ String) × Wd)) : ∀ (n m j : Nat), (fl A k).length - j = m → m < n → j ≤ (fl A k).length → l_L_alike_419 k19 n σ (iN j) (iN 1) (iN (16 * k)) (iN k) (iN (nT A)) = k19 σ (iN (k + 1)) (iN 1) (iN (nT A))
  | n + 1, m, j, hm, hn, hj => by
    have K0 := K
    obtain ⟨C, B, G, W, ⟨g4, gt, gk, ge, gd9, gr⟩, ht⟩ := K
    have hkA : k < nU A := by rw [g4.1]; exact hk
    have y5 := (B.1 k hkA).2.2.2.2.2
    have g8 := (G.2.2.2.1 k hkA).1
    have n10 : ¬ iN 1 = iN 0 := by decide
    rcases at_or (fl A k) j with ⟨f, hf, hl⟩ | hl
    · have ih := b_419 K0 hk k19 n ((fl A k).length - (j + 1)) (j + 1) rfl (by omega) (by omega)
      obtain ⟨z0, z1, z2, z3⟩ := z_faultAt C G hkA hf
      obtain ⟨f0, f1, f2, f3⟩ := B.2.1 k hkA j f hf
      have hl' : ¬ (fl A k).length ≤ j := by omega
      rw [← ih]
      simp (disch := omega) only [gd_t, gd_T, bx_some, bx_thr, bd_def, nx_in, ↓nO_eq, l0, l1, l2, l3, l4, l5, l6, l7, l8, l9, l10, l12, l13, l16, l17, l18, l25, l30, l32, l33, l50, l64, l100, l200, l448, l1200, iN_add, iN_lt, iN_le, iN_inj, iN_clamp, iN_inb, iN_nO, nO_iN, nO_lt, iN_ltm, iN_lem, nO_le, iN_pred, if_pos, if_neg, ↓reduceIte, or_true, true_or, and_true, true_and, ne_eq, not_true_eq_false, not_false_eq_true, false_or, or_false, and_false, false_and, l_L_alike_419, n10, iN_mul, y5, hl', z0, z1, z2, z3, f0, f1, f2, f3]
    · simp (disch := omega) only [gd_t, gd_T, bx_some, bx_thr, bd_def, nx_in, ↓nO_eq, l0, l1, l2, l3, l4, l5, l6, l7, l8, l9, l10, l12, l13, l16, l17, l18, l25, l30, l32, l33, l50, l64, l100, l200, l448, l1200, iN_add, iN_lt, iN_le, iN_inj, iN_clamp, iN_inb, iN_nO, nO_iN, nO_lt, iN_ltm, iN_lem, nO_le, iN_pred, if_pos, if_neg, ↓reduceIte, or_true, true_or, and_true, true_and, ne_eq, not_true_eq_false, not_false_eq_true, false_or, or_false, and_false, false_and, l_L_alike_419, iN_mul, y5, hl]
theorem b_19 {σ : Wd} {A : Ab} {t : Nat} (K : Kt σ A t) {k : Nat} (hk : k < 4) (n : Nat) : l_L_alike_19 (n + 1) σ (iN k) (iN 1) (iN (nT A)) = l_L_alike_19 n σ (iN (k + 1)) (iN 1) (iN (nT A)) := by
  have K0 := K
  obtain ⟨C, B, G, W, ⟨g4, gt, gk, ge, gd9, gr⟩, ht⟩ := K
  have hkA : k < nU A := by rw [g4.1]; exact hk
  obtain ⟨y0, y1, y2, y3, y4, y5⟩ := B.1 k hkA
  obtain ⟨a0, a1, a2, a3, a4, a5⟩ := z_about C G W hkA
  have akm := k_kmA C G hkA
  rw [g4.2, ← gr.2 k hk] at akm
  obtain ⟨d, hd, hdep, hin⟩ := W.2 k hkA
  have hin : k ∈ rw_ A d := hin.resolve_left id
  obtain ⟨hl4, lb⟩ := W.len4 g4 hd
  have hlt := List.idxOf_lt_length_of_mem hin
  have a3' := a3 d hd hdep hin
  obtain ⟨r1, r2⟩ := B.2.2.1 d hd
  have hpl := p_place hd hk hl4 lb (W.1 d hd).1 (y0.trans hdep) r1 r2 hin
  have hso := s_soon B ht g4 gk ge hk
  have n10 : ¬ iN 1 = iN 0 := by decide
  obtain ⟨m, hm⟩ := FU_ge 5 (by decide)
  have h169 : l_L_alike_169 (l_L_alike_19 n) FU σ (iN 0) (iN 0) (iN 1) (iN (16 * k)) (iN k) (iN (nT A)) = l_L_alike_19 n σ (iN (k + 1)) (iN 1) (iN (nT A)) := by
    rw [show l_L_alike_169 (l_L_alike_19 n) FU σ (iN 0) (iN 0) (iN 1) (iN (16 * k)) (iN k) (iN (nT A)) = l_L_alike_169 (l_L_alike_19 n) (m + 5) σ (iN 0) (iN 0) (iN 1) (iN (16 * k)) (iN k) (iN (nT A)) by rw [hm]]
    rw [b_169 K0 hk (by decide : 0 < 3), b_169 K0 hk (by decide : 1 < 3), b_169 K0 hk (by decide : 2 < 3)]
    have hob : iN (0 + (if due A k (iN 0) 0 = true then 2 ^ 0 else 0) + (if due A k (iN 0) 1 = true then 2 ^ 1 else 0) + (if due A k (iN 0) 2 = true then 2 ^ 2 else 0)) = obits (due A k (iN 0) 0) (due A k (iN 0) 1) (due A k (iN 0) 2) := by
      unfold obits
      rw [Nat.zero_add]
    have h3 : l_L_alike_169 (l_L_alike_19 n) (m + 2) σ (iN 3) (obits (due A k (iN 0) 0) (due A k (iN 0) 1) (due A k (iN 0) 2)) (iN 1) (iN (16 * k)) (iN k) (iN (nT A)) = l_L_alike_372 (l_L_alike_19 n) FU σ (iN 0) (iN 1) (iN (16 * k)) (iN k) (iN (nT A)) := by
      generalize obits (due A k (iN 0) 0) (due A k (iN 0) 1) (due A k (iN 0) 2) = ob at a5
      simp (disch := omega) only [gd_t, gd_T, bx_some, bx_thr, bd_def, nx_in, ↓nO_eq, l0, l1, l2, l3, l4, l5, l6, l7, l8, l9, l10, l12, l13, l16, l17, l18, l25, l30, l32, l33, l50, l64, l100, l200, l448, l1200, iN_add, iN_lt, iN_le, iN_inj, iN_clamp, iN_inb, iN_nO, nO_iN, nO_lt, iN_ltm, iN_lem, nO_le, iN_pred, if_pos, if_neg, ↓reduceIte, or_true, true_or, and_true, true_and, ne_eq, not_true_eq_false, not_false_eq_true, false_or, or_false, and_false, false_and, l_L_alike_169, n10, a5, j_L_alike_367]
    have h372 : l_L_alike_372 (l_L_alike_19 n) FU σ (iN 0) (iN 1) (iN (16 * k)) (iN k) (iN (nT A)) = l_L_alike_419 (l_L_alike_19 n) FU σ (iN 0) (iN 1) (iN (16 * k)) (iN k) (iN (nT A)) := by
      rw [show l_L_alike_372 (l_L_alike_19 n) FU σ (iN 0) (iN 1) (iN (16 * k)) (iN k) (iN (nT A)) = l_L_alike_372 (l_L_alike_19 n) (m + 5) σ (iN 0) (iN 1) (iN (16 * k)) (iN k) (iN (nT A)) by rw [hm]]
      rw [b_372 K0 hk (by decide : 0 < 4), b_372 K0 hk (by decide : 1 < 4), b_372 K0 hk (by decide : 2 < 4), b_372 K0 hk (by decide : 3 < 4)]
      rw [l_L_alike_372, if_pos (by decide)]
      rfl
    rw [hob]
    refine h3.trans (h372.trans ?_)
    have g8 := (G.2.2.2.1 k hkA).1
    exact b_419 K0 hk (l_L_alike_19 n) FU _ 0 rfl (by unfold FU; omega) (Nat.zero_le _)
  have hidx : (rw_ A d).length - 1 - (rw_ A d).idxOf k = (rw_ A d).length - 1 - (rw_ A d).idxOf k := rfl
  rw [← h169]
  have y0' := y0.trans hdep
  have a0' := a0
  rw [hdep] at a0'
  cases hb : soonS A k
  · rw [hb, bI_f] at hso a4
    simp (disch := omega) only [gd_t, gd_T, bx_some, bx_thr, bd_def, nx_in, ↓nO_eq, l0, l1, l2, l3, l4, l5, l6, l7, l8, l9, l10, l12, l13, l16, l17, l18, l25, l30, l32, l33, l50, l64, l100, l200, l448, l1200, iN_add, iN_lt, iN_le, iN_inj, iN_clamp, iN_inb, iN_nO, nO_iN, nO_lt, iN_ltm, iN_lem, nO_le, iN_pred, if_pos, if_neg, ↓reduceIte, or_true, true_or, and_true, true_and, ne_eq, not_true_eq_false, not_false_eq_true, false_or, or_false, and_false, false_and, l_L_alike_19, n10, iN_mul, a0', y0', a1, y1, akm, a2, y5, a3', r1, hpl, iN_sub, a4, hso, j_L_alike_153, j_L_alike_161]
  · rw [hb, bI_t] at hso a4
    simp (disch := omega) only [gd_t, gd_T, bx_some, bx_thr, bd_def, nx_in, ↓nO_eq, l0, l1, l2, l3, l4, l5, l6, l7, l8, l9, l10, l12, l13, l16, l17, l18, l25, l30, l32, l33, l50, l64, l100, l200, l448, l1200, iN_add, iN_lt, iN_le, iN_inj, iN_clamp, iN_inb, iN_nO, nO_iN, nO_lt, iN_ltm, iN_lem, nO_le, iN_pred, if_pos, if_neg, ↓reduceIte, or_true, true_or, and_true, true_and, ne_eq, not_true_eq_false, not_false_eq_true, false_or, or_false, and_false, false_and, l_L_alike_19, n10, iN_mul, a0', y0', a1, y1, akm, a2, y5, a3', r1, hpl, iN_sub, a4, hso, j_L_alike_153, j_L_alike_161]
theorem b_547 {σ : Wd} {A : Ab} {t : Nat} (K : Kt σ A t) {d : Nat} (hd : d < 3) (k538 : Wd → Int32 → Int32 → Int32 → Option ((Int32 ⊕ String) × Wd)) : ∀ (n m p : Nat), (rw_ A d).length + 1 - p = m → m < n → p ≤ (rw_ A d).length + 1 → l_L_alike_547 k538 n σ (iN p) (iN d) (iN 1) (iN (nT A)) = k538 σ (iN (d + 1)) (iN 1) (iN (nT A))
  | n + 1, m, p, hm, hn, hp => by
    have K0 := K
    obtain ⟨C, B, G, W, ⟨g4, gt, gk, ge, gd9, gr⟩, ht⟩ := K
    obtain ⟨hl4, lb⟩ := W.len4 g4 hd
    obtain ⟨r1, r2⟩ := B.2.2.1 d hd
    have n10 : ¬ iN 1 = iN 0 := by decide
    by_cases h1 : (rw_ A d).length < p
    · simp (disch := omega) only [gd_t, gd_T, bx_some, bx_thr, bd_def, nx_in, ↓nO_eq, l0, l1, l2, l3, l4, l5, l6, l7, l8, l9, l10, l12, l13, l16, l17, l18, l25, l30, l32, l33, l50, l64, l100, l200, l448, l1200, iN_add, iN_lt, iN_le, iN_inj, iN_clamp, iN_inb, iN_nO, nO_iN, nO_lt, iN_ltm, iN_lem, nO_le, iN_pred, if_pos, if_neg, ↓reduceIte, or_true, true_or, and_true, true_and, ne_eq, not_true_eq_false, not_false_eq_true, false_or, or_false, and_false, false_and, l_L_alike_547, r1, h1]
    · have ih := b_547 K0 hd k538 n ((rw_ A d).length + 1 - (p + 1)) (p + 1) rfl (by omega) (by omega)
      rw [← ih]
      by_cases h2 : p = (rw_ A d).length
      · have hz := z_standsN C G W hd
        rw [← h2] at hz r1
        simp (disch := omega) only [gd_t, gd_T, bx_some, bx_thr, bd_def, nx_in, ↓nO_eq, l0, l1, l2, l3, l4, l5, l6, l7, l8, l9, l10, l12, l13, l16, l17, l18, l25, l30, l32, l33, l50, l64, l100, l200, l448, l1200, iN_add, iN_lt, iN_le, iN_inj, iN_clamp, iN_inb, iN_nO, nO_iN, nO_lt, iN_ltm, iN_lem, nO_le, iN_pred, if_pos, if_neg, ↓reduceIte, or_true, true_or, and_true, true_and, ne_eq, not_true_eq_false, not_false_eq_true, false_or, or_false, and_false, false_and, l_L_alike_547, r1, n10, hz, Nat.lt_irrefl]
      · have hpl : p < (rw_ A d).length := by omega
        have hf := List.getElem?_eq_getElem (l := rw_ A d) (i := (rw_ A d).length - 1 - p) (by omega)
        have hz := z_stands C G W hd hpl hf
        have h3 := r2 _ _ hf
        have e : 4 * d + (rw_ A d).length - 1 - p = 4 * d + ((rw_ A d).length - 1 - p) := by omega
        generalize (rw_ A d)[(rw_ A d).length - 1 - p] = x at hz h3
        simp (disch := omega) only [gd_t, gd_T, bx_some, bx_thr, bd_def, nx_in, ↓nO_eq, l0, l1, l2, l3, l4, l5, l6, l7, l8, l9, l10, l12, l13, l16, l17, l18, l25, l30, l32, l33, l50, l64, l100, l200, l448, l1200, iN_add, iN_lt, iN_le, iN_inj, iN_clamp, iN_inb, iN_nO, nO_iN, nO_lt, iN_ltm, iN_lem, nO_le, iN_pred, if_pos, if_neg, ↓reduceIte, or_true, true_or, and_true, true_and, ne_eq, not_true_eq_false, not_false_eq_true, false_or, or_false, and_false, false_and, l_L_alike_547, r1, n10, h1, h2, hz, iN_mul, iN_sub, e, h3]
theorem b_673 {σ : Wd} {A : Ab} (C : RC σ A) (G : Gd A) (g4 : GxN A) (V : Gvn A σ) {d : Nat} (hd : d < 3) : ∃ σ', (∀ n, l_L_alike_673 (n + 1) σ (iN d) (iN 1) = l_L_alike_673 n σ' (iN (d + 1)) (iN 1)) ∧ CS σ σ' ∧ RC σ' A := by
  have hdA : d < nD A := by rw [g4.2]; exact hd
  obtain ⟨σ1, c, q1, q2, q3, q4⟩ := z_alloc C G hdA
  obtain ⟨σ2, c', z1, z2, z3, z4⟩ := z_anew q4 G (by rw [g4.2]; decide) hdA
  have hcc : c' = c := by
    have := z2.symm.trans q2
    cases this
    rfl
  subst hcc
  rw [g4.1] at q1 z1
  have e1 : σ1.1 77 0 d = chv 4 c' := by rw [q3 77 (by decide)]; exact V d c' q2
  have e2 : σ2.1 77 0 d = chv 4 c' := by rw [z3 77 (by decide)]; exact e1
  have n10 : ¬ iN 1 = iN 0 := by decide
  refine ⟨σ2, fun n => ?_, q3.tr z3, z4⟩
  generalize chv 4 c' = w at *
  simp (disch := omega) only [gd_t, gd_T, bx_some, bx_thr, bd_def, nx_in, ↓nO_eq, l0, l1, l2, l3, l4, l5, l6, l7, l8, l9, l10, l12, l13, l16, l17, l18, l25, l30, l32, l33, l50, l64, l100, l200, l448, l1200, iN_add, iN_lt, iN_le, iN_inj, iN_clamp, iN_inb, iN_nO, nO_iN, nO_lt, iN_ltm, iN_lem, nO_le, iN_pred, if_pos, if_neg, ↓reduceIte, or_true, true_or, and_true, true_and, ne_eq, not_true_eq_false, not_false_eq_true, false_or, or_false, and_false, false_and, l_L_alike_673, n10, q1, e1, z1, e2]
theorem b_alike {σ : Wd} {A : Ab} {t : Nat} (K : Kt σ A t) : ∃ σ', f_L_alike σ (iN (nT A)) = some (.inl (iN 1), σ') ∧ Kt σ' A t := by
  have K0 := K
  obtain ⟨C, B, G, W, ⟨g4, gt, gk, ge, gd9, gr⟩, ht⟩ := K
  obtain ⟨m, hm⟩ := FU_ge 5 (by decide)
  have n10 : ¬ iN 1 = iN 0 := by decide
  have h19 : l_L_alike_19 FU σ (iN 0) (iN 1) (iN (nT A)) = l_L_alike_538 FU σ (iN 0) (iN 1) (iN (nT A)) := by
    rw [show l_L_alike_19 FU σ (iN 0) (iN 1) (iN (nT A)) = l_L_alike_19 (m + 5) σ (iN 0) (iN 1) (iN (nT A)) by rw [hm]]
    rw [b_19 K0 (by decide : 0 < 4), b_19 K0 (by decide : 1 < 4), b_19 K0 (by decide : 2 < 4), b_19 K0 (by decide : 3 < 4)]
    rw [l_L_alike_19, if_pos (by decide)]
    rfl
  have s538 : ∀ d, d < 3 → ∀ n, l_L_alike_538 (n + 1) σ (iN d) (iN 1) (iN (nT A)) = l_L_alike_538 n σ (iN (d + 1)) (iN 1) (iN (nT A)) := fun d hd n => by
    have hb := b_547 K0 hd (l_L_alike_538 n) FU _ 0 rfl (by have := (W.len4 g4 hd).1; unfold FU; omega) (Nat.zero_le _)
    have h3 : ¬ 3 ≤ d := by omega
    simp (disch := omega) only [gd_t, gd_T, bx_some, bx_thr, bd_def, nx_in, ↓nO_eq, l0, l1, l2, l3, l4, l5, l6, l7, l8, l9, l10, l12, l13, l16, l17, l18, l25, l30, l32, l33, l50, l64, l100, l200, l448, l1200, iN_add, iN_lt, iN_le, iN_inj, iN_clamp, iN_inb, iN_nO, nO_iN, nO_lt, iN_ltm, iN_lem, nO_le, iN_pred, if_pos, if_neg, ↓reduceIte, or_true, true_or, and_true, true_and, ne_eq, not_true_eq_false, not_false_eq_true, false_or, or_false, and_false, false_and, l_L_alike_538, h3, hb]
  have h538 : l_L_alike_538 FU σ (iN 0) (iN 1) (iN (nT A)) = l_L_alike_538 (m + 2) σ (iN 3) (iN 1) (iN (nT A)) := by
    rw [show l_L_alike_538 FU σ (iN 0) (iN 1) (iN (nT A)) = l_L_alike_538 (m + 5) σ (iN 0) (iN 1) (iN (nT A)) by rw [hm]]
    rw [s538 0 (by decide), s538 1 (by decide), s538 2 (by decide)]
  obtain ⟨σ1, a1, a2, a3⟩ := al_ok B ht g4 gk ge gd9 G
  have C1 := C.ls a2.ls
  obtain ⟨σ2, l1', l2', l3'⟩ := z_lack C1 G
  have V2 : Gvn A σ2 := fun d c h => by rw [l2' 77 (by decide)]; exact a3 d c h
  obtain ⟨σ3, p1, p2, p3⟩ := b_673 l3' G g4 V2 (by decide : 0 < 3)
  have V3 : Gvn A σ3 := fun d c h => by rw [p2 77 (by decide)]; exact V2 d c h
  obtain ⟨σ4, q1, q2, q3⟩ := b_673 p3 G g4 V3 (by decide : 1 < 3)
  have V4 : Gvn A σ4 := fun d c h => by rw [q2 77 (by decide)]; exact V3 d c h
  obtain ⟨σ5, r1, r2, r3⟩ := b_673 q3 G g4 V4 (by decide : 2 < 3)
  have h673 : l_L_alike_673 FU σ2 (iN 0) (iN 1) = some (.inl (iN 1), σ5) := by
    rw [show l_L_alike_673 FU σ2 (iN 0) (iN 1) = l_L_alike_673 (m + 5) σ2 (iN 0) (iN 1) by rw [hm]]
    rw [p1, q1, r1]
    rw [l_L_alike_673, if_pos (by decide), gd_t (by decide)]
  refine ⟨σ5, ?_, r3, (((B.f77 a2).cs l2').cs p2).cs q2 |>.cs r2, G, W, ⟨g4, gt, gk, ge, gd9, gr⟩, ht⟩
  have htd := z_today C
  have e538 : l_L_alike_538 (m + 2) σ (iN 3) (iN 1) (iN (nT A)) = l_L_alike_673 FU σ2 (iN 0) (iN 1) := by
    simp (disch := omega) only [gd_t, gd_T, bx_some, bx_thr, bd_def, nx_in, ↓nO_eq, l0, l1, l2, l3, l4, l5, l6, l7, l8, l9, l10, l12, l13, l16, l17, l18, l25, l30, l32, l33, l50, l64, l100, l200, l448, l1200, iN_add, iN_lt, iN_le, iN_inj, iN_clamp, iN_inb, iN_nO, nO_iN, nO_lt, iN_ltm, iN_lem, nO_le, iN_pred, if_pos, if_neg, ↓reduceIte, or_true, true_or, and_true, true_and, ne_eq, not_true_eq_false, not_false_eq_true, false_or, or_false, and_false, false_and, l_L_alike_538, a1, n10, l1', j_L_alike_668]
  have e := h19.trans (h538.trans (e538.trans h673))
  simp (disch := omega) only [gd_t, gd_T, bx_some, bx_thr, bd_def, nx_in, ↓nO_eq, l0, l1, l2, l3, l4, l5, l6, l7, l8, l9, l10, l12, l13, l16, l17, l18, l25, l30, l32, l33, l50, l64, l100, l200, l448, l1200, iN_add, iN_lt, iN_le, iN_inj, iN_clamp, iN_inb, iN_nO, nO_iN, nO_lt, iN_ltm, iN_lem, nO_le, iN_pred, if_pos, if_neg, ↓reduceIte, or_true, true_or, and_true, true_and, ne_eq, not_true_eq_false, not_false_eq_true, false_or, or_false, and_false, false_and, f_L_alike, htd, j_L_alike_14, e]
