theorem RCl.fr {σ τ : Wd} {A : Ab} (h : RCl σ A) (h1 : τ.1 1 = σ.1 1) (h2 : τ.2 = σ.2) : RCl τ A := by
  unfold RCl at h ⊢
  rw [h1, h2]; exact h
theorem RCf.fr {σ τ : Wd} {A : Ab} (h : RCf σ A) (h1 : τ.1 1 = σ.1 1) (h26 : τ.1 26 = σ.1 26) (h2 : τ.2 = σ.2) : RCf τ A := by
  unfold RCf rdF at h ⊢
  rw [h1, h26, h2]; exact h
theorem RCu.fr {σ τ : Wd} {A : Ab} (h : RCu σ A) (h1 : τ.1 21 = σ.1 21) (h2 : τ.1 22 = σ.1 22) (h3 : τ.1 23 = σ.1 23) (h4 : τ.1 24 = σ.1 24) : RCu τ A := by
  unfold RCu at h ⊢
  rw [h1, h2, h3, h4]; exact h
theorem RCd.fr {σ τ : Wd} {A : Ab} (h : RCd σ A) (h1 : τ.1 25 = σ.1 25) : RCd τ A := by
  unfold RCd at h ⊢
  rw [h1]; exact h
theorem RCe.fr {σ τ : Wd} {A : Ab} (h : RCe σ A) (h1 : τ.1 9 = σ.1 9) (h2 : τ.1 11 = σ.1 11) : RCe τ A := by
  unfold RCe at h ⊢
  rw [h1, h2]; exact h
theorem RCr.fr {σ τ : Wd} {A : Ab} (h : RCr σ A) (h1 : τ.1 5 = σ.1 5) (h2 : τ.1 6 = σ.1 6) : RCr τ A := by
  unfold RCr at h ⊢
  rw [h1, h2]; exact h
theorem RCs.fr {σ τ : Wd} {A : Ab} (h : RCs σ A) (h1 : τ.1 0 = σ.1 0) : RCs τ A := by
  unfold RCs at h ⊢
  rw [h1]; exact h
theorem RCg.fr {σ τ : Wd} {A : Ab} (h : RCg σ A) (h1 : τ.1 20 = σ.1 20) : RCg τ A := by
  unfold RCg at h ⊢
  rw [h1]; exact h
theorem RRf.fr {σ τ : Wd} {A : Ab} (h : RRf σ A) (h1 : ∀ t, 39 ≤ t → t < 44 → τ.1 t = σ.1 t) : RRf τ A := by
  unfold RRf at h ⊢
  rw [h1 39 (by decide) (by decide), h1 40 (by decide) (by decide), h1 41 (by decide) (by decide), h1 42 (by decide) (by decide), h1 43 (by decide) (by decide)]; exact h
theorem RRu.fr {σ τ : Wd} {A : Ab} (h : RRu σ A) (h1 : ∀ t, 31 ≤ t → t < 37 → τ.1 t = σ.1 t) : RRu τ A := by
  unfold RRu at h ⊢
  rw [h1 31 (by decide) (by decide), h1 32 (by decide) (by decide), h1 33 (by decide) (by decide), h1 34 (by decide) (by decide), h1 35 (by decide) (by decide), h1 36 (by decide) (by decide)]; exact h
theorem RRd.fr {σ τ : Wd} {A : Ab} (h : RRd σ A) (h1 : ∀ t, 44 ≤ t → t < 50 → τ.1 t = σ.1 t) : RRd τ A := by
  unfold RRd at h ⊢
  rw [h1 44 (by decide) (by decide), h1 45 (by decide) (by decide), h1 46 (by decide) (by decide), h1 47 (by decide) (by decide), h1 48 (by decide) (by decide), h1 49 (by decide) (by decide)]; exact h
theorem RRe.fr {σ τ : Wd} {A : Ab} (h : RRe σ A) (h1 : ∀ t, 50 ≤ t → t < 55 → τ.1 t = σ.1 t) : RRe τ A := by
  unfold RRe at h ⊢
  rw [h1 50 (by decide) (by decide), h1 51 (by decide) (by decide), h1 52 (by decide) (by decide), h1 53 (by decide) (by decide), h1 54 (by decide) (by decide)]; exact h
theorem RRr.fr {σ τ : Wd} {A : Ab} (h : RRr σ A) (h1 : τ.1 37 = σ.1 37) (h2 : τ.1 38 = σ.1 38) : RRr τ A := by
  unfold RRr at h ⊢
  rw [h1, h2]; exact h
theorem RRg.fr {σ τ : Wd} {A : Ab} (h : RRg σ A) (h1 : τ.1 55 = σ.1 55) : RRg τ A := by
  unfold RRg at h ⊢
  rw [h1]; exact h
theorem RRz.fr {σ τ : Wd} {A : Ab} (h : RRz σ A) (h1 : τ.1 39 = σ.1 39) (h2 : τ.1 35 = σ.1 35) (h3 : τ.1 36 = σ.1 36) : RRz τ A := by
  unfold RRz at h ⊢
  rw [h1, h2, h3]; exact h
theorem RRl.fr {σ τ : Wd} {A : Ab} (h : RRl σ A) (h1 : τ.1 30 = σ.1 30) : RRl τ A := by
  unfold RRl at h ⊢
  rw [h1]; exact h
theorem xa_C {σ : Wd} {A : Ab} (C : RC σ A) {u : Nat} (hu : u < nU A) {e : Nat} (he : e < 3) : ∃ σ', f_X8_beginAgain (wr σ 0 0 8 (iN 1)) u (iN e) = some (.inl (), σ') ∧ CS σ σ' ∧ RC σ' (xaA A u e) := by
  have hH : RCl (wr σ 0 0 8 (iN 1)) A := C.1
  obtain ⟨σ', h1, h2, h3⟩ := xa_loop hH hu he
  have off : ∀ t, t ≠ 22 → t ≠ 23 → σ'.1 t = (wr σ 0 0 8 (iN 1)).1 t := fun t a b => by
    funext i k
    rw [h3 t i k, if_neg (fun z => by omega)]
  obtain ⟨H, F, U, D, E, R1, S, L⟩ := C
  refine ⟨σ', h1, fun t ht => ?_, ?_, ?_, ?_, ?_, ?_, ?_, ?_, ?_⟩
  · rw [off t (by omega) (by omega)]
    funext i k
    exact if_neg (fun z => by omega)
  · exact (RCl.fr H (off 1 (by decide) (by decide)) h2)
  · exact (RCf.fr F (off 1 (by decide) (by decide)) (off 26 (by decide) (by decide)) h2)
  · intro v hv
    obtain ⟨u1, u2, u3, u4, u5, u6⟩ := U v hv
    refine ⟨?_, ?_, ?_, fun k hk => ?_, fun k hk => ?_, fun k hk => ?_⟩
    · rw [off 21 (by decide) (by decide)]; exact u1
    · rw [off 21 (by decide) (by decide)]; exact u2
    · rw [off 21 (by decide) (by decide)]; exact u3
    · have := u4 k hk
      rw [h3, xaA_rd]
      by_cases hc : v = u ∧ k ≤ e
      · rw [if_pos ⟨Or.inl rfl, hc⟩, if_neg (by omega), if_pos ⟨Or.inl rfl, hc⟩]
      · rw [if_neg (fun z => hc z.2), if_neg (by omega), if_neg (fun z => hc z.2)]
        exact this
    · have := u5 k hk
      rw [h3, xaA_rd]
      by_cases hc : v = u ∧ k ≤ e
      · rw [if_pos ⟨Or.inr rfl, hc⟩, if_neg (by omega), if_pos ⟨Or.inr rfl, hc⟩]
      · rw [if_neg (fun z => hc z.2), if_neg (by omega), if_neg (fun z => hc z.2)]
        exact this
    · have := u6 k hk
      rw [off 24 (by decide) (by decide)]; exact this
  · exact (RCd.fr D (off 25 (by decide) (by decide)))
  · exact (RCe.fr E (off 9 (by decide) (by decide)) (off 11 (by decide) (by decide)))
  · exact (RCr.fr R1 (off 5 (by decide) (by decide)) (off 6 (by decide) (by decide)))
  · obtain ⟨s1, s2, s3, s4⟩ := S
    unfold RCs
    rw [off 0 (by decide) (by decide)]
    exact ⟨s1, s2, rfl, s4⟩
  · exact (RCg.fr L (off 20 (by decide) (by decide)))
theorem xm_loop {σ : Wd} {u : Nat} (hu : u < 6) {e : Nat} (he : e < 3) : ∃ σ', l_X10_examine_61 FU σ (iN 0) (iN u) (iN e) = some (.inl (iN (e + 1)), σ') ∧ RS σ σ' ∧ ∀ t i x, σ'.1 t i x = if (t = 35 ∨ t = 36) ∧ i = 0 ∧ 3 * u ≤ x ∧ x ≤ 3 * u + e then 0 else σ.1 t i x := by
  obtain ⟨m, hm⟩ := FU_ge 4 (by decide)
  have he4 : e = 0 ∨ e = 1 ∨ e = 2 := by omega
  rw [hm]
  rcases he4 with rfl | rfl | rfl
  · refine ⟨wr (wr σ 35 0 (3 * u) 0) 36 0 (3 * u) 0, ?_, ((RS.rf σ).wr (by decide)).wr (by decide), fun t i k => ?_⟩
    · simp (disch := omega) only [gd_t, gd_T, bx_some, bx_thr, bd_def, nx_in, ↓nO_eq, l0, l1, l2, l3, l4, l5, l6, l7, l8, l30, l50, l64, l100, l200, l448, l1200, iN_add, iN_lt, iN_le, iN_inj, iN_clamp, iN_inb, iN_nO, nO_iN, nO_lt, iN_ltm, iN_lem, nO_le, iN_pred, if_pos, if_neg, ↓reduceIte, or_true, true_or, and_true, true_and, ne_eq, not_true_eq_false, not_false_eq_true, false_or, or_false, and_false, false_and, l_X10_examine_61, iN_mul, Nat.add_zero]
    · simp only [wr_rd]
      repeat' split
      all_goals first | rfl | omega
  · refine ⟨wr (wr (wr (wr σ 35 0 (3 * u) 0) 36 0 (3 * u) 0) 35 0 (3 * u + 1) 0) 36 0 (3 * u + 1) 0, ?_, ((((RS.rf σ).wr (by decide)).wr (by decide)).wr (by decide)).wr (by decide), fun t i k => ?_⟩
    · simp (disch := omega) only [gd_t, gd_T, bx_some, bx_thr, bd_def, nx_in, ↓nO_eq, l0, l1, l2, l3, l4, l5, l6, l7, l8, l30, l50, l64, l100, l200, l448, l1200, iN_add, iN_lt, iN_le, iN_inj, iN_clamp, iN_inb, iN_nO, nO_iN, nO_lt, iN_ltm, iN_lem, nO_le, iN_pred, if_pos, if_neg, ↓reduceIte, or_true, true_or, and_true, true_and, ne_eq, not_true_eq_false, not_false_eq_true, false_or, or_false, and_false, false_and, l_X10_examine_61, iN_mul, Nat.add_zero]
    · simp only [wr_rd]
      repeat' split
      all_goals first | rfl | omega
  · refine ⟨wr (wr (wr (wr (wr (wr σ 35 0 (3 * u) 0) 36 0 (3 * u) 0) 35 0 (3 * u + 1) 0) 36 0 (3 * u + 1) 0) 35 0 (3 * u + 2) 0) 36 0 (3 * u + 2) 0, ?_, ((((((RS.rf σ).wr (by decide)).wr (by decide)).wr (by decide)).wr (by decide)).wr (by decide)).wr (by decide), fun t i k => ?_⟩
    · simp (disch := omega) only [gd_t, gd_T, bx_some, bx_thr, bd_def, nx_in, ↓nO_eq, l0, l1, l2, l3, l4, l5, l6, l7, l8, l30, l50, l64, l100, l200, l448, l1200, iN_add, iN_lt, iN_le, iN_inj, iN_clamp, iN_inb, iN_nO, nO_iN, nO_lt, iN_ltm, iN_lem, nO_le, iN_pred, if_pos, if_neg, ↓reduceIte, or_true, true_or, and_true, true_and, ne_eq, not_true_eq_false, not_false_eq_true, false_or, or_false, and_false, false_and, l_X10_examine_61, iN_mul, Nat.add_zero]
    · simp only [wr_rd]
      repeat' split
      all_goals first | rfl | omega
theorem xa_R {σ : Wd} {A : Ab} (T : RR σ A) (g6 : nU A ≤ 6) {u : Nat} (hu : u < nU A) {e : Nat} (he : e < 3) : ∃ σ', l_X10_examine_61 FU (wr (wr σ 30 0 0 (iN 0)) 30 0 3 (iN 1)) (iN 0) (iN u) (iN e) = some (.inl (iN (e + 1)), σ') ∧ σ'.1 30 0 0 = 0 ∧ RS σ σ' ∧ RR σ' (xaA A u e) := by
  obtain ⟨σ', h1, h2, h3⟩ := xm_loop (σ := wr (wr σ 30 0 0 (iN 0)) 30 0 3 (iN 1)) (by omega : u < 6) he
  have off : ∀ t, t ≠ 35 → t ≠ 36 → σ'.1 t = (wr (wr σ 30 0 0 (iN 0)) 30 0 3 (iN 1)).1 t := fun t a b => by
    funext i k
    rw [h3 t i k, if_neg (fun z => by omega)]
  obtain ⟨H, F, U, D, E, R1, L, Z⟩ := T
  have off2 : ∀ t, t ≠ 35 → t ≠ 36 → t ≠ 30 → σ'.1 t = σ.1 t := fun t a b c => by
    rw [off t a b]
    funext i k
    rw [wr_rd, if_neg (fun z => c z.1), wr_rd, if_neg (fun z => c z.1)]
  refine ⟨σ', h1, ?_, (((RS.rf σ).wr (by decide)).wr (by decide)).tr h2, ?_, ?_, ?_, ?_, ?_, ?_, ?_, ?_⟩
  · rw [off 30 (by decide) (by decide)]; rfl
  · obtain ⟨s1, s2, s3, s4, s5, s6⟩ := H
    unfold RRl
    rw [off 30 (by decide) (by decide)]
    exact ⟨s1, s2, s3, s4, rfl, s6⟩
  · exact RRf.fr F (fun t a b => off2 t (by omega) (by omega) (by omega))
  · intro v hv
    obtain ⟨u1, u2, u3, u4, u5, u6⟩ := U v hv
    refine ⟨?_, ?_, ?_, fun k hk => ?_, fun k hk => ?_, fun k hk => ?_⟩
    · rw [off2 31 (by decide) (by decide) (by decide)]; exact u1
    · rw [off2 32 (by decide) (by decide) (by decide)]; exact u2
    · rw [off2 33 (by decide) (by decide) (by decide)]; exact u3
    · have := u4 k hk
      rw [h3, xaA_rd]
      by_cases hc : v = u ∧ k ≤ e
      · rw [if_pos (by omega), if_neg (by omega), if_pos ⟨Or.inl rfl, hc⟩]
      · rw [if_neg (fun z => hc (by omega)), if_neg (by omega), if_neg (fun z => hc z.2)]
        exact this
    · have := u5 k hk
      rw [h3, xaA_rd]
      by_cases hc : v = u ∧ k ≤ e
      · rw [if_pos (by omega), if_neg (by omega), if_pos ⟨Or.inr rfl, hc⟩]
      · rw [if_neg (fun z => hc (by omega)), if_neg (by omega), if_neg (fun z => hc z.2)]
        exact this
    · have := u6 k hk
      rw [off2 34 (by decide) (by decide) (by decide)]; exact this
  · exact RRd.fr D (fun t a b => off2 t (by omega) (by omega) (by omega))
  · exact RRe.fr E (fun t a b => off2 t (by omega) (by omega) (by omega))
  · exact RRr.fr R1 (off2 37 (by decide) (by decide) (by decide)) (off2 38 (by decide) (by decide) (by decide))
  · exact RRg.fr L (off2 55 (by decide) (by decide) (by decide))
  · intro v hv hv6
    have hv : nU A ≤ v := hv
    obtain ⟨z1, z2⟩ := Z v hv hv6
    refine ⟨?_, fun k hk => ⟨?_, ?_⟩⟩
    · rw [off2 39 (by decide) (by decide) (by decide)]; exact z1
    · rw [h3, if_neg (by omega)]; exact (z2 k hk).1
    · rw [h3, if_neg (by omega)]; exact (z2 k hk).2
theorem st_examine {σ : Wd} (I : Inv σ) (w1 w2 : Int32) : ∃ σ', c_examine σ w1 w2 = some σ' ∧ Inv σ' := by
  obtain ⟨A, C, R, G, W⟩ := I
  have g6 := G.1
  have e8 := C.1.1
  rcases rng w1 (nU A) (by omega) with ⟨u, hu, rfl⟩ | h1
  · have u2 := (C.2.2.1 u hu).2.1
    have s8 := C.2.2.2.2.2.2.1.2.2.1
    rcases rng w2 3 (by decide) with ⟨e, he, rfl⟩ | h2
    · by_cases ha : A.1 31 u 0 = iN 0
      · by_cases hb : A.1 30 3 0 = iN 0
        · obtain ⟨σ1, q1, q2, q3⟩ := xa_C C hu he
          refine ok_in R q2 (v := iN (e + 1)) ?_ q3 (fun τ T => ?_) G W
          · simp (disch := omega) only [gd_t, gd_T, bx_some, bx_thr, bd_def, nx_in, ↓nO_eq, l0, l1, l2, l3, l4, l5, l6, l7, l8, l30, l50, l64, l100, l200, l448, l1200, iN_add, iN_lt, iN_le, iN_inj, iN_clamp, iN_inb, iN_nO, nO_iN, nO_lt, iN_ltm, iN_lem, nO_le, iN_pred, if_pos, if_neg, ↓reduceIte, or_true, true_or, and_true, true_and, ne_eq, not_true_eq_false, not_false_eq_true, false_or, or_false, and_false, false_and, f_X9_examine, c_unitAt C.1 g6 hu, c_num (σ := σ) he, u2, ha, s8, hb, q1]
          · obtain ⟨σ2, z1, z2, z3, z4⟩ := xa_R T g6 hu he
            refine ⟨σ2, ?_, z2, z3, z4⟩
            have t2 := (T.2.2.1 u hu).1
            have t8 := T.1.2.2.2.2.1
            simp (disch := omega) only [gd_t, gd_T, bx_some, bx_thr, bd_def, nx_in, ↓nO_eq, l0, l1, l2, l3, l4, l5, l6, l7, l8, l30, l50, l64, l100, l200, l448, l1200, iN_add, iN_lt, iN_le, iN_inj, iN_clamp, iN_inb, iN_nO, nO_iN, nO_lt, iN_ltm, iN_lem, nO_le, iN_pred, if_pos, if_neg, ↓reduceIte, or_true, true_or, and_true, true_and, ne_eq, not_true_eq_false, not_false_eq_true, false_or, or_false, and_false, false_and, f_X10_examine, m_isUnit T.1 g6 hu, m_isExam (σ := τ) he, t2, ha, t8, hb, j_X10_examine_42, wr_rd, z1]
        · refine ok_ex C R (k := 2) (E := "java/lang/IllegalStateException") ?_ wk3 (by decide) (thr_ok (fun τ T => ?_)) G W
          · simp (disch := omega) only [gd_t, gd_T, bx_some, bx_thr, bd_def, nx_in, ↓nO_eq, l0, l1, l2, l3, l4, l5, l6, l7, l8, l30, l50, l64, l100, l200, l448, l1200, iN_add, iN_lt, iN_le, iN_inj, iN_clamp, iN_inb, iN_nO, nO_iN, nO_lt, iN_ltm, iN_lem, nO_le, iN_pred, if_pos, if_neg, ↓reduceIte, or_true, true_or, and_true, true_and, ne_eq, not_true_eq_false, not_false_eq_true, false_or, or_false, and_false, false_and, f_X9_examine, c_unitAt C.1 g6 hu, c_num (σ := σ) he, u2, ha, s8, hb]
          · have t2 := (T.2.2.1 u hu).1
            have t8 := T.1.2.2.2.2.1
            simp (disch := omega) only [gd_t, gd_T, bx_some, bx_thr, bd_def, nx_in, ↓nO_eq, l0, l1, l2, l3, l4, l5, l6, l7, l8, l30, l50, l64, l100, l200, l448, l1200, iN_add, iN_lt, iN_le, iN_inj, iN_clamp, iN_inb, iN_nO, nO_iN, nO_lt, iN_ltm, iN_lem, nO_le, iN_pred, if_pos, if_neg, ↓reduceIte, or_true, true_or, and_true, true_and, ne_eq, not_true_eq_false, not_false_eq_true, false_or, or_false, and_false, false_and, f_X10_examine, m_isUnit T.1 g6 hu, m_isExam (σ := τ) he, t2, ha, t8, hb, j_X10_examine_42, j_X10_examine_37, wr_rd]
      · refine ok_ex C R (k := 2) (E := "java/lang/IllegalStateException") ?_ wk3 (by decide) (thr_ok (fun τ T => ?_)) G W
        · simp (disch := omega) only [gd_t, gd_T, bx_some, bx_thr, bd_def, nx_in, ↓nO_eq, l0, l1, l2, l3, l4, l5, l6, l7, l8, l30, l50, l64, l100, l200, l448, l1200, iN_add, iN_lt, iN_le, iN_inj, iN_clamp, iN_inb, iN_nO, nO_iN, nO_lt, iN_ltm, iN_lem, nO_le, iN_pred, if_pos, if_neg, ↓reduceIte, or_true, true_or, and_true, true_and, ne_eq, not_true_eq_false, not_false_eq_true, false_or, or_false, and_false, false_and, f_X9_examine, c_unitAt C.1 g6 hu, c_num (σ := σ) he, u2, ha]
        · have t2 := (T.2.2.1 u hu).1
          simp (disch := omega) only [gd_t, gd_T, bx_some, bx_thr, bd_def, nx_in, ↓nO_eq, l0, l1, l2, l3, l4, l5, l6, l7, l8, l30, l50, l64, l100, l200, l448, l1200, iN_add, iN_lt, iN_le, iN_inj, iN_clamp, iN_inb, iN_nO, nO_iN, nO_lt, iN_ltm, iN_lem, nO_le, iN_pred, if_pos, if_neg, ↓reduceIte, or_true, true_or, and_true, true_and, ne_eq, not_true_eq_false, not_false_eq_true, false_or, or_false, and_false, false_and, f_X10_examine, m_isUnit T.1 g6 hu, m_isExam (σ := τ) he, t2, ha, j_X10_examine_42, j_X10_examine_37, wr_rd]
    · refine ok_ex C R (k := 1) (E := "java/lang/IndexOutOfBoundsException") ?_ wk1 (by decide) (thr_ok (fun τ T => ?_)) G W
      · simp (disch := omega) only [gd_t, gd_T, bx_some, bx_thr, bd_def, nx_in, ↓nO_eq, l0, l1, l2, l3, l4, l5, l6, l7, l8, l30, l50, l64, l100, l200, l448, l1200, iN_add, iN_lt, iN_le, iN_inj, iN_clamp, iN_inb, iN_nO, nO_iN, nO_lt, iN_ltm, iN_lem, nO_le, iN_pred, if_pos, if_neg, ↓reduceIte, or_true, true_or, and_true, true_and, ne_eq, not_true_eq_false, not_false_eq_true, false_or, or_false, and_false, false_and, f_X9_examine, c_unitAt C.1 g6 hu, c_num_no h2]
      · simp (disch := omega) only [gd_t, gd_T, bx_some, bx_thr, bd_def, nx_in, ↓nO_eq, l0, l1, l2, l3, l4, l5, l6, l7, l8, l30, l50, l64, l100, l200, l448, l1200, iN_add, iN_lt, iN_le, iN_inj, iN_clamp, iN_inb, iN_nO, nO_iN, nO_lt, iN_ltm, iN_lem, nO_le, iN_pred, if_pos, if_neg, ↓reduceIte, or_true, true_or, and_true, true_and, ne_eq, not_true_eq_false, not_false_eq_true, false_or, or_false, and_false, false_and, f_X10_examine, m_isUnit T.1 g6 hu, m_isExam_no (σ := τ) h2, j_X10_examine_42, j_X10_examine_17, wr_rd]
  · refine ok_ex C R (k := 1) (E := "java/lang/IndexOutOfBoundsException") ?_ wk1 (by decide) (thr_ok (fun τ T => ?_)) G W
    · simp (disch := omega) only [gd_t, gd_T, bx_some, bx_thr, bd_def, nx_in, ↓nO_eq, l0, l1, l2, l3, l4, l5, l6, l7, l8, l30, l50, l64, l100, l200, l448, l1200, iN_add, iN_lt, iN_le, iN_inj, iN_clamp, iN_inb, iN_nO, nO_iN, nO_lt, iN_ltm, iN_lem, nO_le, iN_pred, if_pos, if_neg, ↓reduceIte, or_true, true_or, and_true, true_and, ne_eq, not_true_eq_false, not_false_eq_true, false_or, or_false, and_false, false_and, f_X9_examine, c_unitAt_no C.1 h1]
    · simp (disch := omega) only [gd_t, gd_T, bx_some, bx_thr, bd_def, nx_in, ↓nO_eq, l0, l1, l2, l3, l4, l5, l6, l7, l8, l30, l50, l64, l100, l200, l448, l1200, iN_add, iN_lt, iN_le, iN_inj, iN_clamp, iN_inb, iN_nO, nO_iN, nO_lt, iN_ltm, iN_lem, nO_le, iN_pred, if_pos, if_neg, ↓reduceIte, or_true, true_or, and_true, true_and, ne_eq, not_true_eq_false, not_false_eq_true, false_or, or_false, and_false, false_and, f_X10_examine, m_isUnit_no T.1 g6 h1, j_X10_examine_42, j_X10_examine_17, wr_rd]
