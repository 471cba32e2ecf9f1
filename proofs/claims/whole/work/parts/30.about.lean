/-! about -/
theorem st_about {σ : Wd} (I : Inv σ) (w1 w2 : Int32) : ∃ σ', c_about σ w1 w2 = some σ' ∧ Inv σ' := by
  obtain ⟨A, C, R, G, W⟩ := I
  have e8 := C.1.1
  have g6 := G.1
  rcases rng w1 (nU A) (by omega) with ⟨u, hu, rfl⟩ | h1
  · have g8 := (G.2.2.2.1 u hu).1
    obtain ⟨d, hd, hdep, hin⟩ := W.2 u hu
    have hin : u ∈ rw_ A d := hin.resolve_left id
    obtain ⟨h6, hb⟩ := W.len G.1 hd
    have hlt := List.idxOf_lt_length_of_mem hin
    obtain ⟨c0, c2, c3, _⟩ := C.2.2.1 u hu
    have n10 : ¬ iN 1 = iN 0 := by decide
    rcases rng w2 6 (by decide) with ⟨k, hk, rfl⟩ | h2
    · refine ok_in R (CS.rf σ) (v := if k = 0 then A.1 31 u 0 else if k = 1 then A.1 33 u 0 else if k = 2 then iN (fl A u).length else if k = 3 then iN ((rw_ A d).length - 1 - (rw_ A d).idxOf u) else if k = 4 then bI (soonS A u) else obits (due A u (iN 0) 0) (due A u (iN 0) 1) (due A u (iN 0) 2)) ?_ C (ask_ok (fun τ T => ?_)) G W
      · have hk4 : k = 0 ∨ k = 1 ∨ k = 2 ∨ k = 3 ∨ k = 4 ∨ k = 5 := by omega
        rcases hk4 with rfl | rfl | rfl | rfl | rfl | rfl
        · simp (disch := omega) only [gd_t, gd_T, bx_some, bx_thr, bd_def, nx_in, ↓nO_eq, l0, l1, l2, l3, l4, l5, l6, l7, l8, l30, l50, l64, l100, l200, l448, l1200, iN_add, iN_lt, iN_le, iN_inj, iN_clamp, iN_inb, iN_nO, nO_iN, nO_lt, iN_ltm, iN_lem, nO_le, iN_pred, if_pos, if_neg, ↓reduceIte, or_true, true_or, and_true, true_and, ne_eq, not_true_eq_false, not_false_eq_true, false_or, or_false, and_false, false_and, f_X9_about, c_unitAt C.1 g6 hu, c2]
        · simp (disch := omega) only [gd_t, gd_T, bx_some, bx_thr, bd_def, nx_in, ↓nO_eq, l0, l1, l2, l3, l4, l5, l6, l7, l8, l30, l50, l64, l100, l200, l448, l1200, iN_add, iN_lt, iN_le, iN_inj, iN_clamp, iN_inb, iN_nO, nO_iN, nO_lt, iN_ltm, iN_lem, nO_le, iN_pred, if_pos, if_neg, ↓reduceIte, or_true, true_or, and_true, true_and, ne_eq, not_true_eq_false, not_false_eq_true, false_or, or_false, and_false, false_and, f_X9_about, c_unitAt C.1 g6 hu, c3]
        · simp (disch := omega) only [gd_t, gd_T, bx_some, bx_thr, bd_def, nx_in, ↓nO_eq, l0, l1, l2, l3, l4, l5, l6, l7, l8, l30, l50, l64, l100, l200, l448, l1200, iN_add, iN_lt, iN_le, iN_inj, iN_clamp, iN_inb, iN_nO, nO_iN, nO_lt, iN_ltm, iN_lem, nO_le, iN_pred, if_pos, if_neg, ↓reduceIte, or_true, true_or, and_true, true_and, ne_eq, not_true_eq_false, not_false_eq_true, false_or, or_false, and_false, false_and, f_X9_about, c_unitAt C.1 g6 hu, c_szf C.1 C.2.1 hu]
        · simp (disch := omega) only [gd_t, gd_T, bx_some, bx_thr, bd_def, nx_in, ↓nO_eq, l0, l1, l2, l3, l4, l5, l6, l7, l8, l30, l50, l64, l100, l200, l448, l1200, iN_add, iN_lt, iN_le, iN_inj, iN_clamp, iN_inb, iN_nO, nO_iN, nO_lt, iN_ltm, iN_lem, nO_le, iN_pred, if_pos, if_neg, ↓reduceIte, or_true, true_or, and_true, true_and, ne_eq, not_true_eq_false, not_false_eq_true, false_or, or_false, and_false, false_and, f_X9_about, c_unitAt C.1 g6 hu, c2, hdep, c_rowAt (σ := σ) hd, k_behind C.2.2.2.2.2.1 hd (by omega : u < 6) h6 hb hin]
        · have := k_soon C.1 C.2.2.2.2.1 C.2.2.1 hu
          generalize soonS A u = b at *
          cases b <;> simp (disch := omega) only [gd_t, gd_T, bx_some, bx_thr, bd_def, nx_in, ↓nO_eq, l0, l1, l2, l3, l4, l5, l6, l7, l8, l30, l50, l64, l100, l200, l448, l1200, iN_add, iN_lt, iN_le, iN_inj, iN_clamp, iN_inb, iN_nO, nO_iN, nO_lt, iN_ltm, iN_lem, nO_le, iN_pred, if_pos, if_neg, ↓reduceIte, or_true, true_or, and_true, true_and, ne_eq, not_true_eq_false, not_false_eq_true, false_or, or_false, and_false, false_and, f_X9_about, c_unitAt C.1 g6 hu, this, bI_t, bI_f]
        · simp (disch := omega) only [gd_t, gd_T, bx_some, bx_thr, bd_def, nx_in, ↓nO_eq, l0, l1, l2, l3, l4, l5, l6, l7, l8, l30, l50, l64, l100, l200, l448, l1200, iN_add, iN_lt, iN_le, iN_inj, iN_clamp, iN_inb, iN_nO, nO_iN, nO_lt, iN_ltm, iN_lem, nO_le, iN_pred, if_pos, if_neg, ↓reduceIte, or_true, true_or, and_true, true_and, ne_eq, not_true_eq_false, not_false_eq_true, false_or, or_false, and_false, false_and, f_X9_about, c_unitAt C.1 g6 hu, f_X7_overdueBits, k_bits C.1 C.2.2.2.2.1 C.2.2.1 hu (iN 0)]
      · obtain ⟨t0, t1, t2, _⟩ := T.2.2.1 u hu
        have tf := (T.2.1 u hu).1
        have tr := (T.2.2.2.2.2.1 d hd).1
        have T' := T.thr (iN 0)
        have hk4 : k = 0 ∨ k = 1 ∨ k = 2 ∨ k = 3 ∨ k = 4 ∨ k = 5 := by omega
        rcases hk4 with rfl | rfl | rfl | rfl | rfl | rfl
        · simp (disch := omega) only [gd_t, gd_T, bx_some, bx_thr, bd_def, nx_in, ↓nO_eq, l0, l1, l2, l3, l4, l5, l6, l7, l8, l30, l50, l64, l100, l200, l448, l1200, iN_add, iN_lt, iN_le, iN_inj, iN_clamp, iN_inb, iN_nO, nO_iN, nO_lt, iN_ltm, iN_lem, nO_le, iN_pred, if_pos, if_neg, ↓reduceIte, or_true, true_or, and_true, true_and, ne_eq, not_true_eq_false, not_false_eq_true, false_or, or_false, and_false, false_and, f_X10_about, m_isUnit T.1 g6 hu, b_inL (σ := τ) (m := 5), j_X10_about_28, wr_rd, t0]
        · simp (disch := omega) only [gd_t, gd_T, bx_some, bx_thr, bd_def, nx_in, ↓nO_eq, l0, l1, l2, l3, l4, l5, l6, l7, l8, l30, l50, l64, l100, l200, l448, l1200, iN_add, iN_lt, iN_le, iN_inj, iN_clamp, iN_inb, iN_nO, nO_iN, nO_lt, iN_ltm, iN_lem, nO_le, iN_pred, if_pos, if_neg, ↓reduceIte, or_true, true_or, and_true, true_and, ne_eq, not_true_eq_false, not_false_eq_true, false_or, or_false, and_false, false_and, f_X10_about, m_isUnit T.1 g6 hu, b_inL (σ := τ) (m := 5), j_X10_about_28, wr_rd, t2]
        · simp (disch := omega) only [gd_t, gd_T, bx_some, bx_thr, bd_def, nx_in, ↓nO_eq, l0, l1, l2, l3, l4, l5, l6, l7, l8, l30, l50, l64, l100, l200, l448, l1200, iN_add, iN_lt, iN_le, iN_inj, iN_clamp, iN_inb, iN_nO, nO_iN, nO_lt, iN_ltm, iN_lem, nO_le, iN_pred, if_pos, if_neg, ↓reduceIte, or_true, true_or, and_true, true_and, ne_eq, not_true_eq_false, not_false_eq_true, false_or, or_false, and_false, false_and, f_X10_about, m_isUnit T.1 g6 hu, b_inL (σ := τ) (m := 5), j_X10_about_28, wr_rd, tf]
        · have hp := m_place T'.2.2.2.2.2.1 hd (by omega : u < 6) h6 hb (by simp (disch := omega) only [gd_t, gd_T, bx_some, bx_thr, bd_def, nx_in, ↓nO_eq, l0, l1, l2, l3, l4, l5, l6, l7, l8, l30, l50, l64, l100, l200, l448, l1200, iN_add, iN_lt, iN_le, iN_inj, iN_clamp, iN_inb, iN_nO, nO_iN, nO_lt, iN_ltm, iN_lem, nO_le, iN_pred, if_pos, if_neg, ↓reduceIte, or_true, true_or, and_true, true_and, ne_eq, not_true_eq_false, not_false_eq_true, false_or, or_false, and_false, false_and, wr_rd, t0, hdep] : (wr τ 30 0 0 (iN 0)).1 31 0 u = iN d) hin
          simp (disch := omega) only [gd_t, gd_T, bx_some, bx_thr, bd_def, nx_in, ↓nO_eq, l0, l1, l2, l3, l4, l5, l6, l7, l8, l30, l50, l64, l100, l200, l448, l1200, iN_add, iN_lt, iN_le, iN_inj, iN_clamp, iN_inb, iN_nO, nO_iN, nO_lt, iN_ltm, iN_lem, nO_le, iN_pred, if_pos, if_neg, ↓reduceIte, or_true, true_or, and_true, true_and, ne_eq, not_true_eq_false, not_false_eq_true, false_or, or_false, and_false, false_and, f_X10_about, m_isUnit T.1 g6 hu, b_inL (σ := τ) (m := 5), j_X10_about_28, wr_rd, t0, hdep, tr, hp, iN_sub]
        · have := m_soon T'.2.2.2.2.1 T'.2.2.1 hu g6
          generalize soonS A u = b at *
          cases b <;> simp (disch := omega) only [gd_t, gd_T, bx_some, bx_thr, bd_def, nx_in, ↓nO_eq, l0, l1, l2, l3, l4, l5, l6, l7, l8, l30, l50, l64, l100, l200, l448, l1200, iN_add, iN_lt, iN_le, iN_inj, iN_clamp, iN_inb, iN_nO, nO_iN, nO_lt, iN_ltm, iN_lem, nO_le, iN_pred, if_pos, if_neg, ↓reduceIte, or_true, true_or, and_true, true_and, ne_eq, not_true_eq_false, not_false_eq_true, false_or, or_false, and_false, false_and, f_X10_about, m_isUnit T.1 g6 hu, b_inL (σ := τ) (m := 5), j_X10_about_28, wr_rd, this, bI_t, bI_f]
        · simp (disch := omega) only [gd_t, gd_T, bx_some, bx_thr, bd_def, nx_in, ↓nO_eq, l0, l1, l2, l3, l4, l5, l6, l7, l8, l30, l50, l64, l100, l200, l448, l1200, iN_add, iN_lt, iN_le, iN_inj, iN_clamp, iN_inb, iN_nO, nO_iN, nO_lt, iN_ltm, iN_lem, nO_le, iN_pred, if_pos, if_neg, ↓reduceIte, or_true, true_or, and_true, true_and, ne_eq, not_true_eq_false, not_false_eq_true, false_or, or_false, and_false, false_and, f_X10_about, m_isUnit T.1 g6 hu, b_inL (σ := τ) (m := 5), j_X10_about_28, wr_rd, m_bits T'.2.2.2.2.1 T'.2.2.1 hu g6]
    · have n0 := ne_lit h2 (by decide) (by decide : 0 < 6)
      have n1 := ne_lit h2 (by decide) (by decide : 1 < 6)
      have n2 := ne_lit h2 (by decide) (by decide : 2 < 6)
      have n3 := ne_lit h2 (by decide) (by decide : 3 < 6)
      have n4 := ne_lit h2 (by decide) (by decide : 4 < 6)
      have n5 := ne_lit h2 (by decide) (by decide : 5 < 6)
      refine ok_ex C R (k := 2) (E := "java/lang/IllegalArgumentException") ?_ wk2 (by decide) (thr_ok (fun τ T => ?_)) G W
      · simp (disch := omega) only [gd_t, gd_T, bx_some, bx_thr, bd_def, nx_in, ↓nO_eq, l0, l1, l2, l3, l4, l5, l6, l7, l8, l30, l50, l64, l100, l200, l448, l1200, iN_add, iN_lt, iN_le, iN_inj, iN_clamp, iN_inb, iN_nO, nO_iN, nO_lt, iN_ltm, iN_lem, nO_le, iN_pred, if_pos, if_neg, ↓reduceIte, or_true, true_or, and_true, true_and, ne_eq, not_true_eq_false, not_false_eq_true, false_or, or_false, and_false, false_and, f_X9_about, c_unitAt C.1 g6 hu, n0, n1, n2, n3, n4, n5]
      · simp (disch := omega) only [gd_t, gd_T, bx_some, bx_thr, bd_def, nx_in, ↓nO_eq, l0, l1, l2, l3, l4, l5, l6, l7, l8, l30, l50, l64, l100, l200, l448, l1200, iN_add, iN_lt, iN_le, iN_inj, iN_clamp, iN_inb, iN_nO, nO_iN, nO_lt, iN_ltm, iN_lem, nO_le, iN_pred, if_pos, if_neg, ↓reduceIte, or_true, true_or, and_true, true_and, ne_eq, not_true_eq_false, not_false_eq_true, false_or, or_false, and_false, false_and, f_X10_about, m_isUnit T.1 g6 hu, b_outL (σ := τ) (m := 5) (by decide) h2, j_X10_about_28, wr_rd]
  · refine ok_ex C R (k := 1) (E := "java/lang/IndexOutOfBoundsException") ?_ wk1 (by decide) (thr_ok (fun τ T => ?_)) G W
    · simp (disch := omega) only [gd_t, gd_T, bx_some, bx_thr, bd_def, nx_in, ↓nO_eq, l0, l1, l2, l3, l4, l5, l6, l7, l8, l30, l50, l64, l100, l200, l448, l1200, iN_add, iN_lt, iN_le, iN_inj, iN_clamp, iN_inb, iN_nO, nO_iN, nO_lt, iN_ltm, iN_lem, nO_le, iN_pred, if_pos, if_neg, ↓reduceIte, or_true, true_or, and_true, true_and, ne_eq, not_true_eq_false, not_false_eq_true, false_or, or_false, and_false, false_and, f_X9_about, c_unitAt_no C.1 h1]
    · simp (disch := omega) only [gd_t, gd_T, bx_some, bx_thr, bd_def, nx_in, ↓nO_eq, l0, l1, l2, l3, l4, l5, l6, l7, l8, l30, l50, l64, l100, l200, l448, l1200, iN_add, iN_lt, iN_le, iN_inj, iN_clamp, iN_inb, iN_nO, nO_iN, nO_lt, iN_ltm, iN_lem, nO_le, iN_pred, if_pos, if_neg, ↓reduceIte, or_true, true_or, and_true, true_and, ne_eq, not_true_eq_false, not_false_eq_true, false_or, or_false, and_false, false_and, f_X10_about, m_isUnit_no T.1 g6 h1, j_X10_about_28, wr_rd]
/-! KM once more -/
def ran1 (A : Ab) (u d t : Nat) : Bool := decide (A.1 55 d t = iN u)
def kmD (A : Ab) (u d : Nat) : Int32 := A.1 46 d 0 * iN (cntF (ran1 A u d) 0 200)
theorem cntF_snoc (p : Nat → Bool) : ∀ (k i : Nat), cntF p i (k + 1) = cntF p i k + if p (i + k) then 1 else 0
  | 0, i => by
    show (if p i then 1 else 0) + 0 = 0 + if p (i + 0) then 1 else 0
    rw [Nat.add_zero, Nat.zero_add, Nat.add_zero]
  | k + 1, i => by
    show (if p i then 1 else 0) + cntF p (i + 1) (k + 1) = (if p i then 1 else 0) + cntF p (i + 1) k + if p (i + (k + 1)) then 1 else 0
    rw [cntF_snoc p k (i + 1), ← Nat.add_assoc, show i + 1 + k = i + (k + 1) from by omega]
theorem sumF_snoc (f : Nat → Int32) : ∀ (k i : Nat), sumF f i (k + 1) = sumF f i k + f (i + k)
  | 0, i => by
    show f i + 0 = 0 + f (i + 0)
    rw [Int32.add_zero, Int32.zero_add, Nat.add_zero]
  | k + 1, i => by
    show f i + sumF f (i + 1) (k + 1) = f i + sumF f (i + 1) k + f (i + (k + 1))
    rw [sumF_snoc f k (i + 1), Int32.add_assoc, show i + 1 + k = i + (k + 1) from by omega]
theorem k_timesL {σ : Wd} {A : Ab} (L : RCg σ A) {u d : Nat} (hd : d < 6) : ∀ (n k t : Nat), 200 - t = k → k < n → t ≤ 200 → l_X4_timesThatRan_5 n σ (iN t) (iN (cntF (ran1 A u d) 0 t)) (iN d) (iN u) = some (.inl (iN (cntF (ran1 A u d) 0 200)), σ)
  | n + 1, k, t, hk, hn, ht => by
    have hc := cntF_le (ran1 A u d) t 0
    by_cases h : t < 200
    · have hg := L d hd t h
      have ih := k_timesL L (u := u) hd n (200 - (t + 1)) (t + 1) rfl (by omega) (by omega)
      rw [cntF_snoc, Nat.zero_add] at ih
      have hct : t * 6 + d = 6 * t + d := by omega
      unfold ran1 at ih ⊢
      by_cases h2 : A.1 55 d t = iN u
      · simp only [h2, decide_true, if_true] at ih
        simp (disch := omega) only [gd_t, gd_T, bx_some, bx_thr, bd_def, nx_in, ↓nO_eq, l0, l1, l2, l3, l4, l5, l6, l7, l8, l30, l50, l64, l100, l200, l448, l1200, iN_add, iN_lt, iN_le, iN_inj, iN_clamp, iN_inb, iN_nO, nO_iN, nO_lt, iN_ltm, iN_lem, nO_le, iN_pred, if_pos, if_neg, ↓reduceIte, or_true, true_or, and_true, true_and, ne_eq, not_true_eq_false, not_false_eq_true, false_or, or_false, and_false, false_and, l_X4_timesThatRan_5, f_X4_unitThatRan, iN_mul, hct, hg, h2]
        exact ih
      · simp only [h2, decide_false, Bool.false_eq_true, if_false] at ih
        simp (disch := omega) only [gd_t, gd_T, bx_some, bx_thr, bd_def, nx_in, ↓nO_eq, l0, l1, l2, l3, l4, l5, l6, l7, l8, l30, l50, l64, l100, l200, l448, l1200, iN_add, iN_lt, iN_le, iN_inj, iN_clamp, iN_inb, iN_nO, nO_iN, nO_lt, iN_ltm, iN_lem, nO_le, iN_pred, if_pos, if_neg, ↓reduceIte, or_true, true_or, and_true, true_and, ne_eq, not_true_eq_false, not_false_eq_true, false_or, or_false, and_false, false_and, l_X4_timesThatRan_5, f_X4_unitThatRan, iN_mul, hct, hg, h2]
        exact ih
    · have h3 : t = 200 := by omega
      subst h3
      simp (disch := omega) only [gd_t, gd_T, bx_some, bx_thr, bd_def, nx_in, ↓nO_eq, l0, l1, l2, l3, l4, l5, l6, l7, l8, l30, l50, l64, l100, l200, l448, l1200, iN_add, iN_lt, iN_le, iN_inj, iN_clamp, iN_inb, iN_nO, nO_iN, nO_lt, iN_ltm, iN_lem, nO_le, iN_pred, if_pos, if_neg, ↓reduceIte, or_true, true_or, and_true, true_and, ne_eq, not_true_eq_false, not_false_eq_true, false_or, or_false, and_false, false_and, l_X4_timesThatRan_5]
theorem k_times {σ : Wd} {A : Ab} (L : RCg σ A) {u d : Nat} (hd : d < 6) : f_X4_timesThatRan σ (iN d) (iN u) = some (.inl (iN (cntF (ran1 A u d) 0 200)), σ) :=
  k_timesL L (u := u) hd FU _ 0 rfl (by decide) (by decide)
theorem k_kmL {σ : Wd} {A : Ab} (C : RC σ A) (G : Gd A) {u : Nat} : ∀ (n k d : Nat), nD A - d = k → k < n → d ≤ nD A → l_X9_kmAnew_11 n σ (iN d) (A.1 32 u 0 + sumF (kmD A u) 0 d) (iN u) = some (.inl (A.1 32 u 0 + sumF (kmD A u) 0 (nD A)), σ)
  | n + 1, k, d, hk, hn, hd => by
    have g7 := G.2.1
    by_cases h : d < nD A
    · have ih := k_kmL C G (u := u) n (nD A - (d + 1)) (d + 1) rfl (by omega) (by omega)
      have e9 := C.1.2.1
      have hq := (C.2.2.2.1 d h).2.2.1
      rw [sumF_snoc, Nat.zero_add, ← Int32.add_assoc] at ih
      simp (disch := omega) only [gd_t, gd_T, bx_some, bx_thr, bd_def, nx_in, ↓nO_eq, l0, l1, l2, l3, l4, l5, l6, l7, l8, l30, l50, l64, l100, l200, l448, l1200, iN_add, iN_lt, iN_le, iN_inj, iN_clamp, iN_inb, iN_nO, nO_iN, nO_lt, iN_ltm, iN_lem, nO_le, iN_pred, if_pos, if_neg, ↓reduceIte, or_true, true_or, and_true, true_and, ne_eq, not_true_eq_false, not_false_eq_true, false_or, or_false, and_false, false_and, l_X9_kmAnew_11, c_sz1 C.1, c_diagramAt C.1 g7 h, k_times C.2.2.2.2.2.2.2 (u := u) (by omega : d < 6), hq]
      exact ih
    · have h3 : d = nD A := by omega
      subst h3
      simp (disch := omega) only [gd_t, gd_T, bx_some, bx_thr, bd_def, nx_in, ↓nO_eq, l0, l1, l2, l3, l4, l5, l6, l7, l8, l30, l50, l64, l100, l200, l448, l1200, iN_add, iN_lt, iN_le, iN_inj, iN_clamp, iN_inb, iN_nO, nO_iN, nO_lt, iN_ltm, iN_lem, nO_le, iN_pred, if_pos, if_neg, ↓reduceIte, or_true, true_or, and_true, true_and, ne_eq, not_true_eq_false, not_false_eq_true, false_or, or_false, and_false, false_and, l_X9_kmAnew_11, c_sz1 C.1]
theorem m_kmL {σ : Wd} {A : Ab} (T : RR σ A) (G : Gd A) {u d : Nat} (hu : u < 6) (hd : d < 6) (x : Int32) : ∀ (k t n : Nat), 200 - t = k → t ≤ 200 → l_X10_kmAnew_35 (n + k) σ (iN (200 * d + t)) (x + (if d < nD A then A.1 46 d 0 * iN (cntF (ran1 A u d) 0 t) else 0)) (iN u) = l_X10_kmAnew_35 n σ (iN (200 * d + 200)) (x + (if d < nD A then kmD A u d else 0)) (iN u)
  | 0, t, n, hk, ht => by
    have h3 : t = 200 := by omega
    subst h3
    rfl
  | k + 1, t, n, hk, ht => by
    have hg := T.2.2.2.2.2.2.1 d hd t (by omega)
    have ih := m_kmL T G hu hd x k (t + 1) n (by omega) (by omega)
    have hdv : (200 * d + t) / 200 = d := by omega
    have hj1 : 200 * d + t + 1 = 200 * d + (t + 1) := rfl
    rw [cntF_snoc, Nat.zero_add] at ih
    rw [← Nat.add_assoc]
    refine Eq.trans ?_ ih
    by_cases h2 : A.1 55 d t = iN u
    · have hdq : d < nD A := by
        refine Nat.lt_of_not_le (fun z => ?_)
        rw [G.2.2.2.2.2 d hd z t (by omega)] at h2
        exact cast (nO_iN (by omega : u < 2147483648)) h2
      have hq := (T.2.2.2.1 d hdq).2.2.1
      have hr : ran1 A u d t = true := by unfold ran1; exact decide_eq_true h2
      rw [hr, if_pos hdq, if_pos hdq]
      simp (disch := omega) only [gd_t, gd_T, bx_some, bx_thr, bd_def, nx_in, ↓nO_eq, l0, l1, l2, l3, l4, l5, l6, l7, l8, l30, l50, l64, l100, l200, l448, l1200, iN_add, iN_lt, iN_le, iN_inj, iN_clamp, iN_inb, iN_nO, nO_iN, nO_lt, iN_ltm, iN_lem, nO_le, iN_pred, if_pos, if_neg, ↓reduceIte, or_true, true_or, and_true, true_and, ne_eq, not_true_eq_false, not_false_eq_true, false_or, or_false, and_false, false_and, l_X10_kmAnew_35, hg, h2, iN_div, hdv, hj1, hq]
      rw [← iN_add (cntF (ran1 A u d) 0 t) 1, Int32.mul_add, show A.1 46 d 0 * iN 1 = A.1 46 d 0 from Int32.mul_one _, Int32.add_assoc]
    · have hr : ran1 A u d t = false := by unfold ran1; exact decide_eq_false h2
      rw [hr]
      simp (disch := omega) only [gd_t, gd_T, bx_some, bx_thr, bd_def, nx_in, ↓nO_eq, l0, l1, l2, l3, l4, l5, l6, l7, l8, l30, l50, l64, l100, l200, l448, l1200, iN_add, iN_lt, iN_le, iN_inj, iN_clamp, iN_inb, iN_nO, nO_iN, nO_lt, iN_ltm, iN_lem, nO_le, iN_pred, if_pos, if_neg, ↓reduceIte, or_true, true_or, and_true, true_and, ne_eq, not_true_eq_false, not_false_eq_true, false_or, or_false, and_false, false_and, l_X10_kmAnew_35, hg, h2, hj1, Bool.false_eq_true, Nat.add_zero]
      rw [show ∀ y : Int32, y + iN 0 = y from fun y => Int32.add_zero y]
theorem sum_stop (f : Nat → Int32) (q : Nat) : ∀ k, sumF (fun d => if d < q then f d else 0) 0 k = sumF f 0 (if k < q then k else q)
  | 0 => by
    split
    · rfl
    · rw [show q = 0 from by omega]
      rfl
  | k + 1 => by
    rw [sumF_snoc, Nat.zero_add, sum_stop f q k]
    by_cases h : k < q
    · rw [if_pos h, if_pos h]
      by_cases h2 : k + 1 < q
      · rw [if_pos h2, sumF_snoc, Nat.zero_add]
      · rw [if_neg h2, show q = k + 1 from by omega, sumF_snoc, Nat.zero_add]
    · rw [if_neg h, if_neg h, if_neg (by omega : ¬ k + 1 < q), Int32.add_zero]
theorem m_km {σ : Wd} {A : Ab} (T : RR σ A) (G : Gd A) {u : Nat} (hu : u < 6) (x : Int32) : l_X10_kmAnew_35 FU σ (iN 0) x (iN u) = some (.inl (x + sumF (kmD A u) 0 (nD A)), σ) := by
  have g7 := G.2.1
  have hs := sum_stop (kmD A u) (nD A) 6
  have h6 : (if 6 < nD A then 6 else nD A) = nD A := if_neg (by omega)
  rw [h6] at hs
  rw [← hs]
  have st : ∀ (d n : Nat), d < 6 → ∀ y, l_X10_kmAnew_35 (n + 200) σ (iN (200 * d)) y (iN u) = l_X10_kmAnew_35 n σ (iN (200 * (d + 1))) (y + (if d < nD A then kmD A u d else 0)) (iN u) := fun d n hd y => by
    have h1 := m_kmL T G hu hd y 200 0 n rfl (by decide)
    refine Eq.trans ?_ h1
    have h2 : (if d < nD A then A.1 46 d 0 * iN (cntF (ran1 A u d) 0 0) else 0) = 0 := by
      show (if d < nD A then A.1 46 d 0 * iN 0 else 0) = 0
      rw [show A.1 46 d 0 * iN 0 = 0 from Int32.mul_zero]
      split <;> rfl
    rw [h2, Int32.add_zero]
    rfl
  obtain ⟨m, hm⟩ := FU_ge 1201 (by decide)
  rw [hm]
  refine (st 0 (m + 1001) (by decide) x).trans ((st 1 (m + 801) (by decide) _).trans ((st 2 (m + 601) (by decide) _).trans ((st 3 (m + 401) (by decide) _).trans ((st 4 (m + 201) (by decide) _).trans ((st 5 (m + 1) (by decide) _).trans ?_)))))
  have h3 : ∀ y, l_X10_kmAnew_35 (m + 1) σ (iN (200 * (5 + 1))) y (iN u) = some (.inl y, σ) := fun y => by
    simp (disch := omega) only [gd_t, gd_T, bx_some, bx_thr, bd_def, nx_in, ↓nO_eq, l0, l1, l2, l3, l4, l5, l6, l7, l8, l30, l50, l64, l100, l200, l448, l1200, iN_add, iN_lt, iN_le, iN_inj, iN_clamp, iN_inb, iN_nO, nO_iN, nO_lt, iN_ltm, iN_lem, nO_le, iN_pred, if_pos, if_neg, ↓reduceIte, or_true, true_or, and_true, true_and, ne_eq, not_true_eq_false, not_false_eq_true, false_or, or_false, and_false, false_and, l_X10_kmAnew_35]
  rw [h3]
  have h4 : ∀ f : Nat → Int32, sumF f 0 6 = f 0 + f 1 + f 2 + f 3 + f 4 + f 5 := fun f => by
    show f 0 + (f 1 + (f 2 + (f 3 + (f 4 + (f 5 + 0))))) = _
    rw [Int32.add_zero]
    simp only [Int32.add_assoc]
  rw [h4]
  simp only [Int32.add_assoc]
theorem k_kmA {σ : Wd} {A : Ab} (C : RC σ A) (G : Gd A) {u : Nat} (hu : u < nU A) : f_X9_kmAnew σ (iN u) = some (.inl (A.1 32 u 0 + sumF (kmD A u) 0 (nD A)), σ) := by
  have e8 := C.1.1
  have c0 := (C.2.2.1 u hu).1
  have hl := k_kmL C G (u := u) FU (nD A - 0) 0 rfl (by have := G.2.1; unfold FU; omega) (Nat.zero_le _)
  rw [show sumF (kmD A u) 0 0 = 0 from rfl, Int32.add_zero] at hl
  simp (disch := omega) only [gd_t, gd_T, bx_some, bx_thr, bd_def, nx_in, ↓nO_eq, l0, l1, l2, l3, l4, l5, l6, l7, l8, l30, l50, l64, l100, l200, l448, l1200, iN_add, iN_lt, iN_le, iN_inj, iN_clamp, iN_inb, iN_nO, nO_iN, nO_lt, iN_ltm, iN_lem, nO_le, iN_pred, if_pos, if_neg, ↓reduceIte, or_true, true_or, and_true, true_and, ne_eq, not_true_eq_false, not_false_eq_true, false_or, or_false, and_false, false_and, f_X9_kmAnew, c_unitAt C.1 G.1 hu, c0, hl]
theorem m_kmA {σ : Wd} {A : Ab} (T : RR σ A) (G : Gd A) {u : Nat} (hu : u < nU A) : f_X10_kmAnew σ (iN u) = some (.inl (A.1 32 u 0 + sumF (kmD A u) 0 (nD A)), wr σ 30 0 0 (iN 0)) := by
  have g6 := G.1
  have c0 := (T.2.2.1 u hu).2.1
  have hl := m_km (T.thr (iN 0)) G (by omega : u < 6) (A.1 32 u 0)
  simp (disch := omega) only [gd_t, gd_T, bx_some, bx_thr, bd_def, nx_in, ↓nO_eq, l0, l1, l2, l3, l4, l5, l6, l7, l8, l30, l50, l64, l100, l200, l448, l1200, iN_add, iN_lt, iN_le, iN_inj, iN_clamp, iN_inb, iN_nO, nO_iN, nO_lt, iN_ltm, iN_lem, nO_le, iN_pred, if_pos, if_neg, ↓reduceIte, or_true, true_or, and_true, true_and, ne_eq, not_true_eq_false, not_false_eq_true, false_or, or_false, and_false, false_and, f_X10_kmAnew, m_isUnit T.1 g6 hu, j_X10_kmAnew_14, wr_rd, c0, hl]
theorem st_kmAnew1 {σ : Wd} {A : Ab} (C : RC σ A) (R : RR σ A) (G : Gd A) (W : Gr A (fun _ => False)) {u : Nat} (hu : u < nU A) : ∃ σ', caseF (wrapF (some 1) none none (f_X9_kmAnew σ (iN u))) (fun τ => f_X10_kmAnew τ (iN u)) = some σ' ∧ Inv σ' :=
  ok_in R (CS.rf σ) (k_kmA C G hu) C (fun τ T => ⟨_, m_kmA T G hu, wr_same _ _ _ _ _, (RS.rf τ).wr ⟨by decide, by decide⟩, T.thr _⟩) G W
theorem st_kmAnew2 {σ : Wd} {A : Ab} (C : RC σ A) (R : RR σ A) (G : Gd A) (W : Gr A (fun _ => False)) {w1 : Int32} (h1 : w1 < iN 0 ∨ ¬ w1 < iN 0 ∧ iN (nU A) ≤ w1) : ∃ σ', caseF (wrapF (some 1) none none (f_X9_kmAnew σ w1)) (fun τ => f_X10_kmAnew τ w1) = some σ' ∧ Inv σ' := by
  have g6 := G.1
  have q1 : f_X9_kmAnew σ w1 = some (.inr "java/lang/IndexOutOfBoundsException", σ) := by simp (disch := omega) only [gd_t, gd_T, bx_some, bx_thr, bd_def, nx_in, ↓nO_eq, l0, l1, l2, l3, l4, l5, l6, l7, l8, l30, l50, l64, l100, l200, l448, l1200, iN_add, iN_lt, iN_le, iN_inj, iN_clamp, iN_inb, iN_nO, nO_iN, nO_lt, iN_ltm, iN_lem, nO_le, iN_pred, if_pos, if_neg, ↓reduceIte, or_true, true_or, and_true, true_and, ne_eq, not_true_eq_false, not_false_eq_true, false_or, or_false, and_false, false_and, f_X9_kmAnew, c_unitAt_no C.1 h1]
  have q2 : ∀ τ, RR τ A → f_X10_kmAnew τ w1 = some (.inl 0, wr τ 30 0 0 1) := fun τ T => by simp (disch := omega) only [gd_t, gd_T, bx_some, bx_thr, bd_def, nx_in, ↓nO_eq, l0, l1, l2, l3, l4, l5, l6, l7, l8, l30, l50, l64, l100, l200, l448, l1200, iN_add, iN_lt, iN_le, iN_inj, iN_clamp, iN_inb, iN_nO, nO_iN, nO_lt, iN_ltm, iN_lem, nO_le, iN_pred, if_pos, if_neg, ↓reduceIte, or_true, true_or, and_true, true_and, ne_eq, not_true_eq_false, not_false_eq_true, false_or, or_false, and_false, false_and, f_X10_kmAnew, m_isUnit_no T.1 g6 h1, j_X10_kmAnew_14, wr_rd]
  exact ok_ex C R (k := 1) q1 wk1 (by decide) (thr_ok q2) G W
theorem st_kmAnew {σ : Wd} (I : Inv σ) (w1 : Int32) : ∃ σ', c_kmAnew σ w1 = some σ' ∧ Inv σ' := by
  obtain ⟨A, C, R, G, W⟩ := I
  have g6 := G.1
  unfold c_kmAnew g_kmAnew
  rcases rng w1 (nU A) (by omega) with ⟨u, hu, rfl⟩ | h1
  · exact st_kmAnew1 C R G W hu
  · exact st_kmAnew2 C R G W h1
