/-! the day, as one act -/
theorem best3 {A : Ab} (g4 : GxN A) : ∃ x y z, bestA A = [x, y, z] ∧ x ≤ 4 ∧ y ≤ 4 ∧ z ≤ 4 := by
  obtain ⟨h1, h2⟩ := bestA_len A
  rw [g4.1] at h2
  rw [g4.2] at h1
  match hb : bestA A, h1, h2 with
  | [x, y, z], _, h2 => exact ⟨x, y, z, rfl, h2 x (by simp), h2 y (by simp), h2 z (by simp)⟩
theorem dy_gk {A : Ab} {t : Nat} (ht : t < 60) (g4 : GxN A) (gk : Gxk A t) (gd9 : Gxd A) {x y z : Nat} (hL : bestA A = [x, y, z]) (hx : x ≤ 4) (hy : y ≤ 4) (hz : z ≤ 4) : GxN (dyB A) ∧ nT (dyB A) = nT A ∧ Gxk (dyB A) (t + 1) ∧ (∀ i k, 49 < i → i ≠ 55 → (dyB A).1 i k 0 = A.1 i k 0) ∧ (∀ d, (dyB A).1 46 d 0 = A.1 46 d 0 ∧ (dyB A).1 49 d 0 = A.1 49 d 0) := by
  have e : dyB A = cm (cm (cm (lv (lv (lv A 0 x) 1 y) 2 z) 0 x) 1 y) 2 z := by
    unfold dyB
    rw [hL]
    rfl
  obtain ⟨a1, a2, a3⟩ := lv_nums A 0 x
  obtain ⟨b1, b2, b3⟩ := lv_nums (lv A 0 x) 1 y
  obtain ⟨c1, c2, c3⟩ := lv_nums (lv (lv A 0 x) 1 y) 2 z
  have g1 : GxN (lv A 0 x) := g4.sm a1
  have g2 : GxN (lv (lv A 0 x) 1 y) := g1.sm b1
  have g3 : GxN (lv (lv (lv A 0 x) 1 y) 2 z) := g2.sm c1
  obtain ⟨d1, d2, d3, -⟩ := cm_nums (lv (lv (lv A 0 x) 1 y) 2 z) 0 x
  have g5 := g3.sm d1
  obtain ⟨e1, e2, e3, -⟩ := cm_nums (cm (lv (lv (lv A 0 x) 1 y) 2 z) 0 x) 1 y
  have g6 := g5.sm e1
  obtain ⟨f1, f2, f3, -⟩ := cm_nums (cm (cm (lv (lv (lv A 0 x) 1 y) 2 z) 0 x) 1 y) 2 z
  have hl : ∀ i k j, i ≠ 55 → i ≠ 30 → (lv (lv (lv A 0 x) 1 y) 2 z).1 i k j = A.1 i k j := fun i k j h1 h2 => (c3 i k j h1 h2).trans ((b3 i k j h1 h2).trans (a3 i k j h1 h2))
  have hfl : fl (lv (lv (lv A 0 x) 1 y) 2 z) = fl A := c2.trans (b2.trans a2)
  have k0 : GqA (lv (lv (lv A 0 x) 1 y) 2 z) (3 * t) := by
    intro u hu
    obtain ⟨h1, h2, h3, h4⟩ := gk u hu
    refine ⟨fun k hk => ?_, fun a ha => ?_, ?_, ?_⟩
    · rw [hl 35 u k (by decide) (by decide)]; exact h1 k hk
    · rw [hl 34 u a (by decide) (by decide)]; exact h2 a ha
    · rw [hl 33 u 0 (by decide) (by decide)]; exact h3
    · rw [hfl]; exact h4
  have q0 : Gxd (lv (lv (lv A 0 x) 1 y) 2 z) := fun d hd => by
    rw [hl 46 d 0 (by decide) (by decide), hl 49 d 0 (by decide) (by decide)]; exact gd9 d hd
  have q1 : Gxd (cm (lv (lv (lv A 0 x) 1 y) 2 z) 0 x) := fun d hd => by
    rw [d3 46 d 0 (by decide) (by decide) (by decide) (by decide), d3 49 d 0 (by decide) (by decide) (by decide) (by decide)]; exact q0 d hd
  have q2 : Gxd (cm (cm (lv (lv (lv A 0 x) 1 y) 2 z) 0 x) 1 y) := fun d hd => by
    rw [e3 46 d 0 (by decide) (by decide) (by decide) (by decide), e3 49 d 0 (by decide) (by decide) (by decide) (by decide)]; exact q1 d hd
  have k1 := k0.cm (by omega) g3 q0 (by decide : 0 < 3) hx
  have k2 := k1.cm (by omega) g5 q1 (by decide : 1 < 3) hy
  have k3 := k2.cm (by omega) g6 q2 (by decide : 2 < 3) hz
  rw [e]
  refine ⟨g6.sm f1, ?_, k3, fun i k h1 h2 => ?_, fun d => ?_⟩
  · exact (congrFun f1 2).trans ((congrFun e1 2).trans ((congrFun d1 2).trans ((congrFun c1 2).trans ((congrFun b1 2).trans (congrFun a1 2)))))
  · rw [f3 i k 0 (by omega) (by omega) (by omega) (by omega), e3 i k 0 (by omega) (by omega) (by omega) (by omega), d3 i k 0 (by omega) (by omega) (by omega) (by omega)]
    exact hl i k 0 h2 (by omega)
  · refine ⟨?_, ?_⟩
    · rw [f3 46 d 0 (by decide) (by decide) (by decide) (by decide), e3 46 d 0 (by decide) (by decide) (by decide) (by decide), d3 46 d 0 (by decide) (by decide) (by decide) (by decide)]
      exact hl 46 d 0 (by decide) (by decide)
    · rw [f3 49 d 0 (by decide) (by decide) (by decide) (by decide), e3 49 d 0 (by decide) (by decide) (by decide) (by decide), d3 49 d 0 (by decide) (by decide) (by decide) (by decide)]
      exact hl 49 d 0 (by decide) (by decide)
theorem d_1888 (L : Nat) (xs : Nat → Int32) (k600 : KQ) {σ : Wd} {A B : Ab} (C : RC σ B) (G : Gd B) (g4 : GxN B) {T : Nat} (hT : T < nT B) (hr : ∀ d, d < 3 → σ.1 77 0 d = B.1 55 d T) (a10 a14 : Int32) : l_L_law_1888 L xs k600 FU σ (iN 0) (iN 1) a10 a14 (iN T) = j_L_law_1937 L xs k600 σ (iN 1) a14 (iN 0) (iN 0) a10 (iN (T + 1)) := by
  obtain ⟨m, hm⟩ := FU_ge 4 (by decide)
  have n10 : ¬ iN 1 = iN 0 := by decide
  have step : ∀ d, d < 3 → ∀ q, l_L_law_1888 L xs k600 (q + 1) σ (iN d) (iN 1) a10 a14 (iN T) = l_L_law_1888 L xs k600 q σ (iN (d + 1)) (iN 1) a10 a14 (iN T) := fun d hd q => by
    have h1 := z_ran C G (d := d) (t := T) (by rw [g4.2]; exact hd) hT
    have h2 := hr d hd
    have h3 : ¬ 3 ≤ d := by omega
    simp (disch := omega) only [gd_t, gd_T, bx_some, bx_thr, bd_def, nx_in, ↓nO_eq, l0, l1, l2, l3, l4, l5, l6, l7, l8, l9, l10, l12, l13, l16, l17, l18, l25, l30, l32, l33, l50, l64, l100, l200, l448, l1200, iN_add, iN_lt, iN_le, iN_inj, iN_clamp, iN_inb, iN_nO, nO_iN, nO_lt, iN_ltm, iN_lem, nO_le, iN_pred, if_pos, if_neg, ↓reduceIte, or_true, true_or, and_true, true_and, ne_eq, not_true_eq_false, not_false_eq_true, false_or, or_false, and_false, false_and, l_L_law_1888, h3, n10, bu_some, h1, h2]
  rw [show l_L_law_1888 L xs k600 FU σ (iN 0) (iN 1) a10 a14 (iN T) = l_L_law_1888 L xs k600 (m + 4) σ (iN 0) (iN 1) a10 a14 (iN T) by rw [hm]]
  rw [step 0 (by decide), step 1 (by decide), step 2 (by decide), l_L_law_1888, if_pos (by decide)]
  rw [show iN T + 1 = iN (T + 1) from iN_add T 1]
  rfl
theorem t_day (L : Nat) (xs : Nat → Int32) {σ : Wd} {A : Ab} {t : Nat} (K : Kt σ A t) (ht : t < 60) (P : Gxp A) (k600 : KQ) (s : Nat) : ∃ σ' A', (bu (f_L_allocates σ (iN (nT A))) fun v56 σ57 => bu (f_L_runs σ57) fun v58 σ59 => l_L_law_1817 L xs k600 FU σ59 0 (A.1 30 2 0 + v58) v56 (iN s) (iN (nT A))) = j_L_law_1937 L xs k600 σ' (iN 1) (iN s) (A'.1 30 4 0) (A'.1 30 3 0) (A'.1 30 2 0) (iN (nT A')) ∧ Kt σ' A' (t + 1) ∧ Gxp A' := by
  obtain ⟨C, B, G, W, ⟨g4, gt, gk, ge, gd9, gr⟩, _⟩ := K
  have hT : nT A < 200 := by omega
  obtain ⟨x, y, z, hL, hx, hy, hz⟩ := best3 g4
  obtain ⟨σ1, a1, a2, a3⟩ := al_ok B (by omega : t ≤ 60) g4 gk ge gd9 G
  have B1 := B.f77 a2
  obtain ⟨σ2, v, b1, b2, b3, b4, b5⟩ := p_runs B1 g4 G W a3
  obtain ⟨g4B, tB, gkB, hoff, hd9⟩ := dy_gk ht g4 gk gd9 hL hx hy hz
  have gxr := dy_km g4 gr hT hL hx hy hz
  obtain ⟨p1, -, -, -⟩ := dy_parts g4 gr hT hL hx hy hz
  have b4' : RB σ2 (olA (dyB A) 0) := by rw [olA_0]; exact b4
  have i1 := inc_B g4B (by decide : 0 < 4) b4'
  have i2 := inc_B g4B (by decide : 1 < 4) i1
  have i3 := inc_B g4B (by decide : 2 < 4) i2
  have i4 := inc_B g4B (by decide : 3 < 4) i3
  have hS4 : LSw σ2 (inc (inc (inc (inc σ2 0) 1) 2) 3) := ⟨rfl, fun t' ht' => by
    rw [inc_off _ 3 (by omega), inc_off _ 2 (by omega), inc_off _ 1 (by omega), inc_off _ 0 (by omega)]⟩
  have h77 : (inc (inc (inc (inc σ2 0) 1) 2) 3).1 77 = σ2.1 77 := by
    rw [inc_off _ 3 (by decide), inc_off _ 2 (by decide), inc_off _ 1 (by decide), inc_off _ 0 (by decide)]
  obtain ⟨m, hm⟩ := FU_ge 5 (by decide)
  have e17 : ∀ a10 a20 a14 a9, l_L_law_1817 L xs k600 FU σ2 (iN 0) a10 a20 a14 a9 = l_L_law_1817 L xs k600 (m + 1) (inc (inc (inc (inc σ2 0) 1) 2) 3) (iN 4) a10 a20 a14 a9 := fun a10 a20 a14 a9 => by
    rw [show l_L_law_1817 L xs k600 FU σ2 (iN 0) a10 a20 a14 a9 = l_L_law_1817 L xs k600 (m + 5) σ2 (iN 0) a10 a20 a14 a9 by rw [hm]]
    rw [d_1817 L xs k600 (by decide : 0 < 4), d_1817 L xs k600 (by decide : 1 < 4), d_1817 L xs k600 (by decide : 2 < 4), d_1817 L xs k600 (by decide : 3 < 4)]
  generalize inc (inc (inc (inc σ2 0) 1) 2) 3 = σ3 at *
  have C3 : RC σ3 A := (C.ls (a2.ls.tr b2)).ls hS4
  have hdy : dyA (dyB A) = cn (aw (aw (olA (dyB A) 4) 30 3 0 0) 30 4 0 0) 2 (nT A + 1) := by
    unfold dyA
    rw [g4B.1, tB]
  have B3 : RB σ3 (dyA (dyB A)) := by
    rw [hdy]
    exact i4
  obtain ⟨σ4, c1, c2, c3, c4, c5⟩ := z_day C3 G W hT
  have hnT : nT (dyA (dyB A)) = nT A + 1 := by
    show nT (dyB A) + 1 = _
    rw [tB]
  have hsh := z_shunts c3
  have h30 : (dyA (dyB A)).1 30 2 0 = A.1 30 2 0 + v := b5
  rw [h30] at hsh
  have g4D : GxN (dyA (dyB A)) := g4B
  have hrow : ∀ d, d < 3 → σ4.1 77 0 d = (dyA (dyB A)).1 55 d (nT A) := fun d hd => by
    show σ4.1 77 0 d = (dyB A).1 55 d (nT A)
    rw [p1 d _ hd, if_pos rfl, c2 77 (by decide), h77, b3]
    refine a3 d _ ?_
    rw [hL]
    have h3 : d = 0 ∨ d = 1 ∨ d = 2 := by omega
    rcases h3 with rfl | rfl | rfl <;> rfl
  have h18 := d_1888 L xs k600 (A := A) c3 c4 g4D (T := nT A) (by rw [hnT]; omega) hrow (A.1 30 2 0 + v) (iN s)
  refine ⟨σ4, dyA (dyB A), ?_, ⟨c3, B3.cs c2, c4, c5, ⟨g4D, by rw [hnT]; omega, gkB, ?_, ?_, gxr⟩, by omega⟩, Or.inl rfl, Or.inl rfl⟩
  · have hv : (dyA (dyB A)).1 30 4 0 = iN 0 ∧ (dyA (dyB A)).1 30 3 0 = iN 0 := ⟨rfl, rfl⟩
    rw [hv.1, hv.2, h30, hnT, ← h18, a1, bu_some, b1, bu_some]
    rw [show (0 : Int32) = iN 0 from rfl, e17, l_L_law_1817, if_pos (by decide), c1, bu_some, if_pos rfl, hsh, bu_some, if_pos rfl]
    rfl
  · refine ⟨fun k hk => ?_, fun k hk => ?_⟩
    · have : (dyA (dyB A)).1 50 k 0 = A.1 50 k 0 := hoff 50 k (by decide) (by decide)
      rw [this]; exact ge.1 k hk
    · have : (dyA (dyB A)).1 53 k 0 = A.1 53 k 0 := hoff 53 k (by decide) (by decide)
      rw [this]; exact ge.2 k hk
  · intro d hd
    have h1 : (dyA (dyB A)).1 46 d 0 = A.1 46 d 0 := (hd9 d).1
    have h2 : (dyA (dyB A)).1 49 d 0 = A.1 49 d 0 := (hd9 d).2
    rw [h1, h2]
    exact gd9 d hd
