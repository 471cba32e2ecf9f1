/-! one act of the law -/
theorem l14 : (14 : Int32) = iN 14 := id rfl
theorem l20 : (20 : Int32) = iN 20 := id rfl
theorem l21 : (21 : Int32) = iN 21 := id rfl
theorem l31 : (31 : Int32) = iN 31 := id rfl
theorem l60 : (60 : Int32) = iN 60 := id rfl
theorem l67 : (67 : Int32) = iN 67 := id rfl
theorem l99 : (99 : Int32) = iN 99 := id rfl
theorem l300 : (300 : Int32) = iN 300 := id rfl
theorem l400 : (400 : Int32) = iN 400 := id rfl
theorem l1000 : (1000 : Int32) = iN 1000 := id rfl
theorem l1500 : (1500 : Int32) = iN 1500 := id rfl
theorem l2000 : (2000 : Int32) = iN 2000 := id rfl
theorem l3000 : (3000 : Int32) = iN 3000 := id rfl
theorem l9000 : (9000 : Int32) = iN 9000 := id rfl
theorem bu_some {β : Type} (v : β) (σ1 : Wd) (k : β → Wd → Option Unit) : bu (some (.inl v, σ1)) k = k v σ1 := id rfl
theorem bv_some (v : Int32) (σ1 : Wd) (k : Int32 → Wd → Option Unit) : bv (some (v, σ1)) k = k v σ1 := id rfl
abbrev KQ : Type := Wd → Int32 → Int32 → Int32 → Int32 → Int32 → Int32 → Option Unit
def Gxp (A : Ab) : Prop := (A.1 30 3 0 = iN 0 ∨ A.1 30 3 0 = iN 1) ∧ (A.1 30 4 0 = iN 0 ∨ A.1 30 4 0 = iN 1)
theorem Gxk.up {A : Ab} {t : Nat} (h : Gxk A t) : Gxk A (t + 1) := fun u hu => by
  obtain ⟨h1, h2, h3, h4⟩ := h u hu
  refine ⟨fun k hk => ?_, fun a ha => ?_, ?_, h4⟩
  · obtain ⟨c, c1, c2⟩ := h1 k hk
    exact ⟨c, by omega, c2⟩
  · obtain ⟨z, z1, z2, z3⟩ := h2 a ha
    exact ⟨z, by omega, z2, z3⟩
  · obtain ⟨c, c1, c2⟩ := h3
    exact ⟨c, by omega, c2⟩
theorem Kt.up {σ : Wd} {A : Ab} {t : Nat} (K : Kt σ A t) (ht : t < 60) : Kt σ A (t + 1) := by
  obtain ⟨C, B, G, W, ⟨g4, gt, gk, ge, gd9, gr⟩, _⟩ := K
  exact ⟨C, B, G, W, ⟨g4, by omega, gk.up, ge, gd9, gr⟩, by omega⟩
theorem t_end (L : Nat) (xs : Nat → Int32) {σ : Wd} {A : Ab} {t : Nat} (K : Kt σ A t) (k600 : KQ) (s : Nat) (p q r : Int32) : ∃ σ', j_L_law_1937 L xs k600 σ (iN 1) (iN s) p q r (iN (nT A)) = k600 σ' (iN (s + 1)) (iN 1) p q r (iN (nT A)) ∧ Kt σ' A t := by
  obtain ⟨σ', h1, h2⟩ := b_alike K
  refine ⟨σ', ?_, h2⟩
  have n10 : ¬ iN 1 = iN 0 := by decide
  simp (disch := omega) only [gd_t, gd_T, bx_some, bx_thr, bd_def, nx_in, ↓nO_eq, l0, l1, l2, l3, l4, l5, l6, l7, l8, l9, l10, l12, l13, l16, l17, l18, l25, l30, l32, l33, l50, l64, l100, l200, l448, l1200, iN_add, iN_lt, iN_le, iN_inj, iN_clamp, iN_inb, iN_nO, nO_iN, nO_lt, iN_ltm, iN_lem, nO_le, iN_pred, if_pos, if_neg, ↓reduceIte, or_true, true_or, and_true, true_and, ne_eq, not_true_eq_false, not_false_eq_true, false_or, or_false, and_false, false_and, j_L_law_1937, n10, h1, bu_some, bv_some, l14, l20, l21, l31, l60, l67, l99, l300, l400, l1000, l1500, l2000, l3000, l9000, up_ok]
/-! the list -/
theorem li_B {σ : Wd} {A : Ab} (B : RB σ A) {e : Nat} (he : e < 4) (a b : Int32) : RB (wr (wr σ 76 0 (9 + e) a) 76 0 (13 + e) b) (liA A e a b) := by
  obtain ⟨U, F, R, D, E1, E2⟩ := B
  refine ⟨U, F, R, D, fun k hk => ?_, fun k hk => ?_⟩
  · obtain ⟨x0, x1, x2⟩ := E1 k hk
    unfold liA
    refine ⟨?_, ?_, ?_⟩
    · rw [wr_rd, if_neg (by omega), wr_rd, if_neg (by omega), aw_rd, if_neg (by omega), aw_rd, if_neg (by omega)]; exact x0
    · rw [wr_rd, if_neg (by omega), wr_rd, if_neg (by omega), aw_rd, if_neg (by omega), aw_rd, if_neg (by omega)]; exact x1
    · rw [wr_rd, if_neg (by omega), wr_rd, if_neg (by omega), aw_rd, if_neg (by omega), aw_rd, if_neg (by omega)]; exact x2
  · obtain ⟨x0, x1⟩ := E2 k hk
    unfold liA
    by_cases h : k = e
    · subst h
      refine ⟨?_, ?_⟩
      · rw [wr_rd, if_neg (by omega), wr_rd, if_pos ⟨rfl, rfl, rfl⟩, aw_rd, if_neg (by omega), aw_rd, if_pos ⟨rfl, rfl, rfl⟩]
      · rw [wr_rd, if_pos ⟨rfl, rfl, rfl⟩, aw_rd, if_pos ⟨rfl, rfl, rfl⟩]
    · refine ⟨?_, ?_⟩
      · rw [wr_rd, if_neg (by omega), wr_rd, if_neg (by omega), aw_rd, if_neg (by omega), aw_rd, if_neg (by omega)]; exact x0
      · rw [wr_rd, if_neg (by omega), wr_rd, if_neg (by omega), aw_rd, if_neg (by omega), aw_rd, if_neg (by omega)]; exact x1
theorem t_973 (L : Nat) (xs : Nat → Int32) {σ : Wd} {A : Ab} {t : Nat} (K : Kt σ A t) (ht : t < 60) (P : Gxp A) (k600 : KQ) {κ : Nat} (hκ : κ < 4) {may line : Int32} (hm : may = nO ∨ ∃ m, m ≤ 30 ∧ may = iN m) (hl : may = nO ∨ ∃ l, l ≤ 2 ∧ line = iN l) (s : Nat) : ∃ σ' A', j_L_law_973 L xs k600 σ may (iN κ) (iN s) (A.1 30 4 0) (A.1 30 3 0) (A.1 30 2 0) (iN (nT A)) line = j_L_law_1937 L xs k600 σ' (iN 1) (iN s) (A'.1 30 4 0) (A'.1 30 3 0) (A'.1 30 2 0) (iN (nT A')) ∧ Kt σ' A' (t + 1) ∧ Gxp A' := by
  obtain ⟨C, B, G, W, ⟨g4, gt, gk, ge, gd9, gr⟩, _⟩ := K
  have ha : ¬ may < -1 ∧ may ≤ 30 := by
    rcases hm with rfl | ⟨m, hm1, rfl⟩
    · decide
    · refine ⟨?_, ?_⟩
      · show ¬ iN m < nO
        rw [iN_ltm (by omega)]; exact id
      · show iN m ≤ iN 30
        rw [iN_le (by omega) (by decide)]; exact hm1
  have hb : may = -1 ∨ (¬ line < 0 ∧ line ≤ 2) := by
    rcases hl with h | ⟨l, hl1, rfl⟩
    · exact Or.inl h
    · refine Or.inr ⟨?_, ?_⟩
      · show ¬ iN l < iN 0
        rw [iN_lt (by omega) (by decide)]; omega
      · show iN l ≤ iN 2
        rw [iN_le (by omega) (by decide)]; exact hl1
  obtain ⟨σ1, q1, q2, q3⟩ := z_list C hκ ha hb
  have e0 : σ1.1 76 0 (9 + κ) = A.1 53 κ 0 := by rw [q2 76 (by decide)]; exact (B.2.2.2.2.2 κ hκ).1
  have hLS : LSw σ1 (wr (wr σ1 76 0 (9 + κ) may) 76 0 (13 + κ) line) := ((LSw.rf σ1).wr (by decide)).wr (by decide)
  refine ⟨wr (wr σ1 76 0 (9 + κ) may) 76 0 (13 + κ) line, liA A κ may line, ?_, ⟨q3.ls hLS, li_B (B.cs q2) hκ may line, G, W, ⟨g4, Nat.le_succ_of_le gt, gk.up, ⟨ge.1, fun k hk => ?_⟩, gd9, gr⟩, by omega⟩, P⟩
  · have hv : (liA A κ may line).1 30 4 0 = A.1 30 4 0 ∧ (liA A κ may line).1 30 3 0 = A.1 30 3 0 ∧ (liA A κ may line).1 30 2 0 = A.1 30 2 0 ∧ nT (liA A κ may line) = nT A := ⟨rfl, rfl, rfl, rfl⟩
    rw [hv.1, hv.2.1, hv.2.2.1, hv.2.2.2]
    simp (disch := omega) only [gd_t, gd_T, bx_some, bx_thr, bd_def, nx_in, ↓nO_eq, l0, l1, l2, l3, l4, l5, l6, l7, l8, l9, l10, l12, l13, l16, l17, l18, l25, l30, l32, l33, l50, l64, l100, l200, l448, l1200, iN_add, iN_lt, iN_le, iN_inj, iN_clamp, iN_inb, iN_nO, nO_iN, nO_lt, iN_ltm, iN_lem, nO_le, iN_pred, if_pos, if_neg, ↓reduceIte, or_true, true_or, and_true, true_and, ne_eq, not_true_eq_false, not_false_eq_true, false_or, or_false, and_false, false_and, j_L_law_973, q1, e0, j_L_law_1001, bu_some, bv_some, l14, l20, l21, l31, l60, l67, l99, l300, l400, l1000, l1500, l2000, l3000, l9000, up_ok]
  · unfold liA
    rw [aw_rd, if_neg (by omega), aw_rd]
    by_cases h : k = κ
    · rw [if_pos ⟨rfl, h, rfl⟩]; exact hm
    · rw [if_neg (by omega)]; exact ge.2 k hk
theorem t_939 (L : Nat) (xs : Nat → Int32) {σ : Wd} {A : Ab} {t : Nat} (K : Kt σ A t) (ht : t < 60) (P : Gxp A) (k600 : KQ) {κ : Nat} (hκ : κ < 4) {may : Int32} (hm : may = nO ∨ ∃ m, m ≤ 30 ∧ may = iN m) (v : Int32) (s : Nat) : ∃ σ' A', j_L_law_939 L xs k600 σ (iN κ) v (iN s) (A.1 30 4 0) (A.1 30 3 0) (A.1 30 2 0) (iN (nT A)) may = j_L_law_1937 L xs k600 σ' (iN 1) (iN s) (A'.1 30 4 0) (A'.1 30 3 0) (A'.1 30 2 0) (iN (nT A')) ∧ Kt σ' A' (t + 1) ∧ Gxp A' := by
  rcases hm with rfl | ⟨m, hm1, rfl⟩
  · obtain ⟨σ', A', h1, h2⟩ := t_973 L xs K ht P k600 hκ (may := nO) (line := iN (upM (v / 512) 99) - iN 50) (Or.inl rfl) (Or.inl rfl) s
    refine ⟨σ', A', ?_, h2⟩
    rw [← h1]
    have hneg : ¬ iN 0 ≤ nO := by decide
    simp (disch := omega) only [gd_t, gd_T, bx_some, bx_thr, bd_def, nx_in, ↓nO_eq, l0, l1, l2, l3, l4, l5, l6, l7, l8, l9, l10, l12, l13, l16, l17, l18, l25, l30, l32, l33, l50, l64, l100, l200, l448, l1200, iN_add, iN_lt, iN_le, iN_inj, iN_clamp, iN_inb, iN_nO, nO_iN, nO_lt, iN_ltm, iN_lem, nO_le, iN_pred, if_pos, if_neg, ↓reduceIte, or_true, true_or, and_true, true_and, ne_eq, not_true_eq_false, not_false_eq_true, false_or, or_false, and_false, false_and, j_L_law_939, hneg, bu_some, bv_some, l14, l20, l21, l31, l60, l67, l99, l300, l400, l1000, l1500, l2000, l3000, l9000, up_ok]
  · have hu := upM_lt (v / 512) (n := 3) (by decide)
    obtain ⟨σ', A', h1, h2⟩ := t_973 L xs K ht P k600 hκ (may := iN m) (line := iN (upM (v / 512) 3)) (Or.inr ⟨m, hm1, rfl⟩) (Or.inr ⟨_, by omega, rfl⟩) s
    refine ⟨σ', A', ?_, h2⟩
    rw [← h1]
    have hnn : iN 0 ≤ iN m := by rw [iN_le (by decide) (by omega)]; omega
    simp (disch := omega) only [gd_t, gd_T, bx_some, bx_thr, bd_def, nx_in, ↓nO_eq, l0, l1, l2, l3, l4, l5, l6, l7, l8, l9, l10, l12, l13, l16, l17, l18, l25, l30, l32, l33, l50, l64, l100, l200, l448, l1200, iN_add, iN_lt, iN_le, iN_inj, iN_clamp, iN_inb, iN_nO, nO_iN, nO_lt, iN_ltm, iN_lem, nO_le, iN_pred, if_pos, if_neg, ↓reduceIte, or_true, true_or, and_true, true_and, ne_eq, not_true_eq_false, not_false_eq_true, false_or, or_false, and_false, false_and, j_L_law_939, hnn, bu_some, bv_some, l14, l20, l21, l31, l60, l67, l99, l300, l400, l1000, l1500, l2000, l3000, l9000, up_ok]
/-! exams -/
theorem ex_B {σ : Wd} {A : Ab} (B : RB σ A) {e : Nat} (he : e < 3) (a b c : Int32) : RB (wr (wr (wr σ 76 0 e a) 76 0 (3 + e) b) 76 0 (6 + e) c) (exA A e a b c) := by
  obtain ⟨U, F, R, D, E1, E2⟩ := B
  refine ⟨U, F, R, D, fun k hk => ?_, fun k hk => ?_⟩
  · obtain ⟨x0, x1, x2⟩ := E1 k hk
    unfold exA
    by_cases h : k = e
    · subst h
      refine ⟨?_, ?_, ?_⟩
      · rw [wr_rd, if_neg (by omega), wr_rd, if_neg (by omega), wr_rd, if_pos ⟨rfl, rfl, rfl⟩, aw_rd, if_neg (by omega), aw_rd, if_neg (by omega), aw_rd, if_pos ⟨rfl, rfl, rfl⟩]
      · rw [wr_rd, if_neg (by omega), wr_rd, if_pos ⟨rfl, rfl, rfl⟩, aw_rd, if_neg (by omega), aw_rd, if_pos ⟨rfl, rfl, rfl⟩]
      · rw [wr_rd, if_pos ⟨rfl, rfl, rfl⟩, aw_rd, if_pos ⟨rfl, rfl, rfl⟩]
    · refine ⟨?_, ?_, ?_⟩
      · rw [wr_rd, if_neg (by omega), wr_rd, if_neg (by omega), wr_rd, if_neg (by omega), aw_rd, if_neg (by omega), aw_rd, if_neg (by omega), aw_rd, if_neg (by omega)]; exact x0
      · rw [wr_rd, if_neg (by omega), wr_rd, if_neg (by omega), wr_rd, if_neg (by omega), aw_rd, if_neg (by omega), aw_rd, if_neg (by omega), aw_rd, if_neg (by omega)]; exact x1
      · rw [wr_rd, if_neg (by omega), wr_rd, if_neg (by omega), wr_rd, if_neg (by omega), aw_rd, if_neg (by omega), aw_rd, if_neg (by omega), aw_rd, if_neg (by omega)]; exact x2
  · obtain ⟨x0, x1⟩ := E2 k hk
    unfold exA
    refine ⟨?_, ?_⟩
    · rw [wr_rd, if_neg (by omega), wr_rd, if_neg (by omega), wr_rd, if_neg (by omega), aw_rd, if_neg (by omega), aw_rd, if_neg (by omega), aw_rd, if_neg (by omega)]; exact x0
    · rw [wr_rd, if_neg (by omega), wr_rd, if_neg (by omega), wr_rd, if_neg (by omega), aw_rd, if_neg (by omega), aw_rd, if_neg (by omega), aw_rd, if_neg (by omega)]; exact x1
theorem t_exam (L : Nat) (xs : Nat → Int32) {σ : Wd} {A : Ab} {t : Nat} (K : Kt σ A t) (ht : t < 60) (P : Gxp A) (k600 : KQ) {e : Nat} (he : e < 3) {N : Nat} (hN : 0 < N ∧ N ≤ 9000) (v : Int32) (s : Nat) : ∃ σ' A', j_L_law_1070 L xs k600 σ (iN e) v (iN s) (A.1 30 4 0) (A.1 30 3 0) (A.1 30 2 0) (iN (nT A)) (iN N) (v / 512) (iN 100) (iN e) = j_L_law_1937 L xs k600 σ' (iN 1) (iN s) (A'.1 30 4 0) (A'.1 30 3 0) (A'.1 30 2 0) (iN (nT A')) ∧ Kt σ' A' (t + 1) ∧ Gxp A' := by
  obtain ⟨C, B, G, W, ⟨g4, gt, gk, ge, gd9, gr⟩, _⟩ := K
  have hM : ∃ M, (if e = 0 then 9 else 60) = M ∧ 0 < M ∧ M ≤ 60 := ⟨_, rfl, by split <;> decide, by split <;> decide⟩
  obtain ⟨M, hM, hM0, hM6⟩ := hM
  have u1 := upM_lt (v / 512) (n := N) hN.1
  have u2 := upM_lt (v / 1024) (n := 21) (by decide)
  have u3 := upM_lt (v / 2048) (n := M) hM0
  generalize ha : upM (v / 512) N = a at *
  generalize hb : upM (v / 1024) 21 = b at *
  generalize hc : upM (v / 2048) M = c at *
  have hLS : LSw σ (wr (wr (wr σ 76 0 e (iN (100 + a))) 76 0 (3 + e) (iN b)) 76 0 (6 + e) (iN c)) := (((LSw.rf σ).wr (by decide)).wr (by decide)).wr (by decide)
  have B1 := ex_B B he (iN (100 + a)) (iN b) (iN c)
  have C1 := C.ls hLS
  obtain ⟨x0, x1, x2⟩ := B1.2.2.2.2.1 e he
  have w0 : (exA A e (iN (100 + a)) (iN b) (iN c)).1 50 e 0 = iN (100 + a) := by unfold exA; rw [aw_rd, if_neg (by omega), aw_rd, if_neg (by omega), aw_rd, if_pos ⟨rfl, rfl, rfl⟩]
  have w1 : (exA A e (iN (100 + a)) (iN b) (iN c)).1 51 e 0 = iN b := by unfold exA; rw [aw_rd, if_neg (by omega), aw_rd, if_pos ⟨rfl, rfl, rfl⟩]
  have w2 : (exA A e (iN (100 + a)) (iN b) (iN c)).1 52 e 0 = iN c := by unfold exA; rw [aw_rd, if_pos ⟨rfl, rfl, rfl⟩]
  rw [w0] at x0
  rw [w1] at x1
  rw [w2] at x2
  obtain ⟨σ1, q1, q2, q3⟩ := z_exam C1 he (w2 := iN (100 + a)) (w3 := iN b) (w4 := iN c) ⟨by show ¬ iN (100 + a) < iN 100; rw [iN_lt (by omega) (by decide)]; omega, by show iN (100 + a) ≤ iN 100000; rw [iN_le (by omega) (by decide)]; omega⟩ ⟨by show ¬ iN b < iN 0; rw [iN_lt (by omega) (by decide)]; omega, by show iN b ≤ iN 20; rw [iN_le (by omega) (by decide)]; omega⟩ ⟨by show ¬ iN c < iN 0; rw [iN_lt (by omega) (by decide)]; omega, by show iN c ≤ iN 400; rw [iN_le (by omega) (by decide)]; omega⟩
  rw [ex_b] at q1
  have y0 : σ1.1 76 0 e = iN (100 + a) := by rw [q2 76 (by decide)]; exact x0
  have y1 : σ1.1 76 0 (3 + e) = iN b := by rw [q2 76 (by decide)]; exact x1
  refine ⟨σ1, exA A e (iN (100 + a)) (iN b) (iN c), ?_, ⟨q3, B1.cs q2, G, W, ⟨g4, Nat.le_succ_of_le gt, gk.up, ⟨fun k hk => ?_, ge.2⟩, gd9, gr⟩, by omega⟩, P⟩
  · have hv : (exA A e (iN (100 + a)) (iN b) (iN c)).1 30 4 0 = A.1 30 4 0 ∧ (exA A e (iN (100 + a)) (iN b) (iN c)).1 30 3 0 = A.1 30 3 0 ∧ (exA A e (iN (100 + a)) (iN b) (iN c)).1 30 2 0 = A.1 30 2 0 ∧ nT (exA A e (iN (100 + a)) (iN b) (iN c)) = nT A := ⟨rfl, rfl, rfl, rfl⟩
    rw [hv.1, hv.2.1, hv.2.2.1, hv.2.2.2]
    have u1' : f_L_up σ (v / 512) (iN N) = some (.inl (iN a), σ) := by rw [up_ok hN.1 (by omega), ha]
    have u2' : ∀ τ : Wd, f_L_up τ (v / 1024) (iN 21) = some (.inl (iN b), τ) := fun τ => by rw [up_ok (by decide) (by decide), hb]
    have u3' : ∀ τ : Wd, f_L_up τ (v / 2048) (iN M) = some (.inl (iN c), τ) := fun τ => by rw [up_ok hM0 (by omega), hc]
    have h1118 : ∀ (τ : Wd), τ = wr (wr σ 76 0 e (iN (100 + a))) 76 0 (3 + e) (iN b) → j_L_law_1118 L xs k600 τ (iN e) (iN s) (A.1 30 4 0) (A.1 30 3 0) (A.1 30 2 0) (iN (nT A)) (iN M) (v / 2048) (iN (6 + e)) = j_L_law_1937 L xs k600 σ1 (iN 1) (iN s) (A.1 30 4 0) (A.1 30 3 0) (A.1 30 2 0) (iN (nT A)) := fun τ hτ => by
      subst hτ
      simp (disch := omega) only [gd_t, gd_T, bx_some, bx_thr, bd_def, nx_in, ↓nO_eq, l0, l1, l2, l3, l4, l5, l6, l7, l8, l9, l10, l12, l13, l16, l17, l18, l25, l30, l32, l33, l50, l64, l100, l200, l448, l1200, iN_add, iN_lt, iN_le, iN_inj, iN_clamp, iN_inb, iN_nO, nO_iN, nO_lt, iN_ltm, iN_lem, nO_le, iN_pred, if_pos, if_neg, ↓reduceIte, or_true, true_or, and_true, true_and, ne_eq, not_true_eq_false, not_false_eq_true, false_or, or_false, and_false, false_and, j_L_law_1118, bu_some, u3', x0, x1, x2, q1, y0, y1, j_L_law_1178]
    by_cases h0 : e = 0
    · subst h0
      rw [if_pos rfl] at hM
      subst hM
      have h9 := h1118 _ rfl
      simp (disch := omega) only [gd_t, gd_T, bx_some, bx_thr, bd_def, nx_in, ↓nO_eq, l0, l1, l2, l3, l4, l5, l6, l7, l8, l9, l10, l12, l13, l16, l17, l18, l25, l30, l32, l33, l50, l64, l100, l200, l448, l1200, iN_add, iN_lt, iN_le, iN_inj, iN_clamp, iN_inb, iN_nO, nO_iN, nO_lt, iN_ltm, iN_lem, nO_le, iN_pred, if_pos, if_neg, ↓reduceIte, or_true, true_or, and_true, true_and, ne_eq, not_true_eq_false, not_false_eq_true, false_or, or_false, and_false, false_and, j_L_law_1070, bu_some, u1', u2', l21, h9]
    · rw [if_neg h0] at hM
      subst hM
      have h9 := h1118 _ rfl
      simp (disch := omega) only [gd_t, gd_T, bx_some, bx_thr, bd_def, nx_in, ↓nO_eq, l0, l1, l2, l3, l4, l5, l6, l7, l8, l9, l10, l12, l13, l16, l17, l18, l25, l30, l32, l33, l50, l64, l100, l200, l448, l1200, iN_add, iN_lt, iN_le, iN_inj, iN_clamp, iN_inb, iN_nO, nO_iN, nO_lt, iN_ltm, iN_lem, nO_le, iN_pred, if_pos, if_neg, ↓reduceIte, or_true, true_or, and_true, true_and, ne_eq, not_true_eq_false, not_false_eq_true, false_or, or_false, and_false, false_and, j_L_law_1070, bu_some, u1', u2', l21, l60, h0, h9]
  · by_cases h : k = e
    · subst h
      exact ⟨100 + a, by omega, w0⟩
    · obtain ⟨l, hl, hl2⟩ := ge.1 k hk
      refine ⟨l, hl, ?_⟩
      unfold exA
      rw [aw_rd, if_neg (by omega), aw_rd, if_neg (by omega), aw_rd, if_neg (by omega)]
      exact hl2
/-! pins -/
theorem pin_B {σ : Wd} {A : Ab} (B : RB σ A) (d : Nat) (v : Int32) : RB (wr σ 75 0 (6 * d + 5) v) (aw A 49 d 0 v) := by
  obtain ⟨U, F, R, D, E1, E2⟩ := B
  refine ⟨U, F, R, fun k hk => ?_, E1, E2⟩
  obtain ⟨x0, x1, x2, x3, x4, x5⟩ := D k hk
  refine ⟨?_, ?_, ?_, ?_, ?_, ?_⟩
  · rw [wr_rd, if_neg (by omega), aw_rd, if_neg (by omega)]; exact x0
  · rw [wr_rd, if_neg (by omega), aw_rd, if_neg (by omega)]; exact x1
  · rw [wr_rd, if_neg (by omega), aw_rd, if_neg (by omega)]; exact x2
  · rw [wr_rd, if_neg (by omega), aw_rd, if_neg (by omega)]; exact x3
  · rw [wr_rd, if_neg (by omega), aw_rd, if_neg (by omega)]; exact x4
  · rw [wr_rd, aw_rd]
    by_cases h : k = d
    · subst h
      rw [if_pos ⟨rfl, rfl, rfl⟩, if_pos ⟨rfl, rfl, rfl⟩]
    · rw [if_neg (by omega), if_neg (by omega)]; exact x5
theorem t_pin (L : Nat) (xs : Nat → Int32) {σ : Wd} {A : Ab} {t : Nat} (K : Kt σ A t) (ht : t < 60) (P : Gxp A) (k600 : KQ) {d : Nat} (hd : d < 3) {pn : Int32} (hp : pn = nO ∨ ∃ u, u < 4 ∧ pn = iN u) (s : Nat) : ∃ σ' A', j_L_law_1220 L xs k600 σ (iN d) (iN s) (A.1 30 4 0) (A.1 30 3 0) (A.1 30 2 0) (iN (nT A)) pn = j_L_law_1937 L xs k600 σ' (iN 1) (iN s) (A'.1 30 4 0) (A'.1 30 3 0) (A'.1 30 2 0) (iN (nT A')) ∧ Kt σ' A' (t + 1) ∧ Gxp A' := by
  obtain ⟨C, B, G, W, ⟨g4, gt, gk, ge, gd9, gr⟩, _⟩ := K
  have hdA : d < nD A := by rw [g4.2]; exact hd
  obtain ⟨q1, q2, q3⟩ := z_pin C G hdA (w2 := pn) (by rw [g4.1]; exact hp)
  have d5 : (wr σ 25 d 5 pn).1 75 0 (6 * d + 5) = A.1 49 d 0 := by rw [q2 75 (by decide)]; exact (B.2.2.2.1 d hdA).2.2.2.2.2
  have hLS : LSw (wr σ 25 d 5 pn) (wr (wr σ 25 d 5 pn) 75 0 (6 * d + 5) pn) := (LSw.rf _).wr (by decide)
  refine ⟨wr (wr σ 25 d 5 pn) 75 0 (6 * d + 5) pn, aw A 49 d 0 pn, ?_, ⟨q3.ls hLS, pin_B (B.cs q2) d pn, G, W, ⟨g4, Nat.le_succ_of_le gt, gk.up, ge, fun k hk => ⟨(gd9 k hk).1, ?_⟩, gr⟩, by omega⟩, P⟩
  · have hv : (aw A 49 d 0 pn).1 30 4 0 = A.1 30 4 0 ∧ (aw A 49 d 0 pn).1 30 3 0 = A.1 30 3 0 ∧ (aw A 49 d 0 pn).1 30 2 0 = A.1 30 2 0 ∧ nT (aw A 49 d 0 pn) = nT A := ⟨rfl, rfl, rfl, rfl⟩
    rw [hv.1, hv.2.1, hv.2.2.1, hv.2.2.2]
    simp (disch := omega) only [gd_t, gd_T, bx_some, bx_thr, bd_def, nx_in, ↓nO_eq, l0, l1, l2, l3, l4, l5, l6, l7, l8, l9, l10, l12, l13, l16, l17, l18, l25, l30, l32, l33, l50, l64, l100, l200, l448, l1200, iN_add, iN_lt, iN_le, iN_inj, iN_clamp, iN_inb, iN_nO, nO_iN, nO_lt, iN_ltm, iN_lem, nO_le, iN_pred, if_pos, if_neg, ↓reduceIte, or_true, true_or, and_true, true_and, ne_eq, not_true_eq_false, not_false_eq_true, false_or, or_false, and_false, false_and, j_L_law_1220, q1, iN_mul, d5, j_L_law_1248, bu_some, bv_some, l14, l20, l21, l31, l60, l67, l99, l300, l400, l1000, l1500, l2000, l3000, l9000, up_ok]
  · rw [aw_rd]
    by_cases h : k = d
    · rw [if_pos ⟨rfl, h, rfl⟩]; exact hp
    · rw [if_neg (by omega)]; exact (gd9 k hk).2
