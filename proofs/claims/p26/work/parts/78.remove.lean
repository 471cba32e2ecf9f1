/-! a FAULT goes out of the law's rows -/
theorem r_shift {u L : Nat} (hu : u < 4) (hL : L ≤ 8) : ∀ (n m j : Nat) (σ : Wd), L - j = m → m < n → j < L → σ.1 71 0 (16 * u + 12) = iN L → ∃ σ', l_L_remove_9 n σ (iN (8 * u + j)) (iN u) = some (.inl (), σ') ∧ σ'.2 = σ.2 ∧ ∀ t i x, σ'.1 t i x = if t = 71 ∧ i = 0 ∧ x = 16 * u + 12 then iN (L - 1) else if (t = 72 ∨ t = 73) ∧ i = 0 ∧ ((8 * u + j ≤ x ∧ x < 8 * u + (L - 1)) ∨ (32 + (8 * u + j) ≤ x ∧ x < 32 + (8 * u + (L - 1)))) then σ.1 t i (x + 1) else σ.1 t i x
  | n + 1, m, j, σ, hm, hn, hj, h71 => by
    by_cases h : L - 1 ≤ j
    · refine ⟨wr σ 71 0 (16 * u + 12) (iN (L - 1)), ?_, rfl, fun t i x => ?_⟩
      · have h2 : 8 * u + L - 1 ≤ 8 * u + j := by omega
        simp (disch := omega) only [gd_t, gd_T, bx_some, bx_thr, bd_def, nx_in, ↓nO_eq, l0, l1, l2, l3, l4, l5, l6, l7, l8, l9, l10, l12, l13, l16, l17, l18, l25, l30, l32, l33, l50, l64, l100, l200, l448, l1200, iN_add, iN_lt, iN_le, iN_inj, iN_clamp, iN_inb, iN_nO, nO_iN, nO_lt, iN_ltm, iN_lem, nO_le, iN_pred, if_pos, if_neg, ↓reduceIte, or_true, true_or, and_true, true_and, ne_eq, not_true_eq_false, not_false_eq_true, false_or, or_false, and_false, false_and, l_L_remove_9, h71, iN_mul, iN_sub, h2]
      · rw [wr_rd]
        by_cases h2 : t = 71 ∧ i = 0 ∧ x = 16 * u + 12
        · rw [if_pos h2, if_pos h2]
        · rw [if_neg h2, if_neg h2, if_neg (by omega)]
    · have e33 : 33 + (8 * u + j) = 32 + (8 * u + j) + 1 := by omega
      obtain ⟨σ', s1, s2, s3⟩ := r_shift hu hL n (L - (j + 1)) (j + 1) (wr (wr (wr (wr σ 72 0 (8 * u + j) (σ.1 72 0 (8 * u + j + 1))) 72 0 (32 + (8 * u + j)) (σ.1 72 0 (32 + (8 * u + j) + 1))) 73 0 (8 * u + j) (σ.1 73 0 (8 * u + j + 1))) 73 0 (32 + (8 * u + j)) (σ.1 73 0 (32 + (8 * u + j) + 1))) rfl (by omega) (by omega) (by
        rw [wr_rd, if_neg (by omega), wr_rd, if_neg (by omega), wr_rd, if_neg (by omega), wr_rd, if_neg (by omega)]
        exact h71)
      refine ⟨σ', ?_, s2, fun t i x => ?_⟩
      · rw [← s1]
        have hc : ¬ 8 * u + L - 1 ≤ 8 * u + j := by omega
        have r1 : (wr σ 72 0 (8 * u + j) (σ.1 72 0 (8 * u + j + 1))).1 72 0 (32 + (8 * u + j) + 1) = σ.1 72 0 (32 + (8 * u + j) + 1) := by rw [wr_rd, if_neg (by omega)]
        have r2 : (wr (wr σ 72 0 (8 * u + j) (σ.1 72 0 (8 * u + j + 1))) 72 0 (32 + (8 * u + j)) (σ.1 72 0 (32 + (8 * u + j) + 1))).1 73 0 (8 * u + j + 1) = σ.1 73 0 (8 * u + j + 1) := by rw [wr_rd, if_neg (by omega), wr_rd, if_neg (by omega)]
        have r3 : (wr (wr (wr σ 72 0 (8 * u + j) (σ.1 72 0 (8 * u + j + 1))) 72 0 (32 + (8 * u + j)) (σ.1 72 0 (32 + (8 * u + j) + 1))) 73 0 (8 * u + j) (σ.1 73 0 (8 * u + j + 1))).1 73 0 (32 + (8 * u + j) + 1) = σ.1 73 0 (32 + (8 * u + j) + 1) := by rw [wr_rd, if_neg (by omega), wr_rd, if_neg (by omega), wr_rd, if_neg (by omega)]
        simp (disch := omega) only [gd_t, gd_T, bx_some, bx_thr, bd_def, nx_in, ↓nO_eq, l0, l1, l2, l3, l4, l5, l6, l7, l8, l9, l10, l12, l13, l16, l17, l18, l25, l30, l32, l33, l50, l64, l100, l200, l448, l1200, iN_add, iN_lt, iN_le, iN_inj, iN_clamp, iN_inb, iN_nO, nO_iN, nO_lt, iN_ltm, iN_lem, nO_le, iN_pred, if_pos, if_neg, ↓reduceIte, or_true, true_or, and_true, true_and, ne_eq, not_true_eq_false, not_false_eq_true, false_or, or_false, and_false, false_and, l_L_remove_9, h71, iN_mul, iN_sub, hc, e33, r1, r2, r3]
        rfl
      · rw [s3, wr_rd, wr_rd, wr_rd, wr_rd, wr_rd, wr_rd, wr_rd, wr_rd]
        by_cases h2 : t = 71 ∧ i = 0 ∧ x = 16 * u + 12
        · rw [if_pos h2, if_pos h2]
        · rw [if_neg h2, if_neg h2]
          by_cases h3 : (t = 72 ∨ t = 73) ∧ i = 0 ∧ ((8 * u + j ≤ x ∧ x < 8 * u + (L - 1)) ∨ (32 + (8 * u + j) ≤ x ∧ x < 32 + (8 * u + (L - 1))))
          · rw [if_pos h3]
            obtain ⟨ht, rfl, hx⟩ := h3
            by_cases h4 : x = 8 * u + j
            · subst h4
              rw [if_neg (by omega)]
              rcases ht with rfl | rfl
              · rw [if_neg (by omega), if_neg (by omega), if_neg (by omega), if_pos ⟨rfl, rfl, rfl⟩]
              · rw [if_neg (by omega), if_pos ⟨rfl, rfl, rfl⟩]
            · by_cases h5 : x = 32 + (8 * u + j)
              · subst h5
                rw [if_neg (by omega)]
                rcases ht with rfl | rfl
                · rw [if_neg (by omega), if_neg (by omega), if_pos ⟨rfl, rfl, rfl⟩]
                · rw [if_pos ⟨rfl, rfl, rfl⟩]
              · rw [if_pos (by omega)]
                rw [if_neg (by omega), if_neg (by omega), if_neg (by omega), if_neg (by omega)]
          · rw [if_neg h3, if_neg (by omega), if_neg (by omega), if_neg (by omega), if_neg (by omega), if_neg (by omega)]
theorem r_remove {σ : Wd} {A : Ab} (B : RB σ A) (g4 : GxN A) {u p : Nat} (hu : u < 4) (h8 : ∀ v, v < 4 → (fl A v).length ≤ 8) (hp : p < (fl A u).length) : ∃ σ', f_L_remove σ (iN u) (iN p) = some (.inl (), σ') ∧ LSw σ σ' ∧ σ'.1 77 = σ.1 77 ∧ RB σ' (flA A u ((fl A u).eraseIdx p)) := by
  have huA : u < nU A := by rw [g4.1]; exact hu
  have h8u := h8 u hu
  obtain ⟨σ', s1, s2, s3⟩ := r_shift hu h8u FU _ p σ rfl (by unfold FU; omega) hp (B.1 u huA).2.2.2.2.2
  have off : ∀ t, t ≠ 71 → t ≠ 72 → t ≠ 73 → σ'.1 t = σ.1 t := fun t h1 h2 h3 => by
    funext i x
    rw [s3, if_neg (by omega), if_neg (by omega)]
  have hle : ((fl A u).eraseIdx p).length = (fl A u).length - 1 := by rw [List.length_eraseIdx, if_pos hp]
  refine ⟨σ', ?_, ⟨s2, fun t ht => off t (by omega) (by omega) (by omega)⟩, off 77 (by decide) (by decide) (by decide), fun v hv => ?_, fun v hv j f hf => ?_, ?_, ?_, ?_⟩
  · simp (disch := omega) only [gd_t, gd_T, bx_some, bx_thr, bd_def, nx_in, ↓nO_eq, l0, l1, l2, l3, l4, l5, l6, l7, l8, l9, l10, l12, l13, l16, l17, l18, l25, l30, l32, l33, l50, l64, l100, l200, l448, l1200, iN_add, iN_lt, iN_le, iN_inj, iN_clamp, iN_inb, iN_nO, nO_iN, nO_lt, iN_ltm, iN_lem, nO_le, iN_pred, if_pos, if_neg, ↓reduceIte, or_true, true_or, and_true, true_and, ne_eq, not_true_eq_false, not_false_eq_true, false_or, or_false, and_false, false_and, f_L_remove, iN_mul, s1]
  · have hv4 : v < 4 := by have h : v < nU A := hv; rw [g4.1] at h; exact h
    obtain ⟨y0, y1, y2, y3, y4, y5⟩ := B.1 v hv
    have far : ∀ x, x ≠ 16 * u + 12 → σ'.1 71 0 x = σ.1 71 0 x := fun x hx => by
      rw [s3, if_neg (by omega), if_neg (by omega)]
    refine ⟨(far _ (by omega)).trans y0, (far _ (by omega)).trans y1, fun a ha => (far _ (by omega)).trans (y2 a ha), fun k hk => (far _ (by omega)).trans (y3 k hk), fun k hk => (far _ (by omega)).trans (y4 k hk), ?_⟩
    rw [fl_flA]
    by_cases h : v = u
    · subst h
      rw [if_pos rfl, s3, if_pos ⟨rfl, rfl, rfl⟩, hle]
    · rw [if_neg h, far _ (by omega)]
      exact y5
  · have hv4 : v < 4 := by have h : v < nU A := hv; rw [g4.1] at h; exact h
    rw [fl_flA] at hf
    have h8v := h8 v hv4
    by_cases h : v = u
    · subst h
      rw [if_pos rfl] at hf
      have hjl := (List.getElem?_eq_some_iff.mp hf).1
      rw [hle] at hjl
      rw [List.getElem?_eraseIdx] at hf
      by_cases hj : j < p
      · rw [if_pos hj] at hf
        have := B.2.1 v hv j f hf
        rw [s3, if_neg (by omega), if_neg (by omega), s3, if_neg (by omega), if_neg (by omega), s3, if_neg (by omega), if_neg (by omega), s3, if_neg (by omega), if_neg (by omega)]
        exact this
      · rw [if_neg hj] at hf
        have := B.2.1 v hv (j + 1) f hf
        rw [s3, if_neg (by omega), if_pos (by omega), s3, if_neg (by omega), if_pos (by omega), s3, if_neg (by omega), if_pos (by omega), s3, if_neg (by omega), if_pos (by omega)]
        exact this
    · rw [if_neg h] at hf
      have hjl := (List.getElem?_eq_some_iff.mp hf).1
      have := B.2.1 v hv j f hf
      rw [s3, if_neg (by omega), if_neg (by omega), s3, if_neg (by omega), if_neg (by omega), s3, if_neg (by omega), if_neg (by omega), s3, if_neg (by omega), if_neg (by omega)]
      exact this
  · intro d hd
    have := B.2.2.1 d hd
    rw [off 74 (by decide) (by decide) (by decide)]
    exact this
  · intro d hd
    have := B.2.2.2.1 d hd
    rw [off 75 (by decide) (by decide) (by decide)]
    exact this
  · have := B.2.2.2.2
    unfold RBe at this ⊢
    rw [off 76 (by decide) (by decide) (by decide)]
    exact this
