/-! about -/
/-! KM once more -/
def ran1 (A : Ab) (u d t : Nat) : Bool := decide (A.1 55 d t = iN u)
def kmD (A : Ab) (u d : Nat) : Int32 := A.1 46 d 0 * iN (cntF (ran1 A u d) 0 200)
theorem cntF_snoc (p : Nat → Bool) : ∀ (k i : Nat), cntF p i (k + 1) = cntF p i k + if p (i + k) then 1 else 0
  | 0, i => by
    show (if p i then 1 else 0) + 0 = 0 + if p (i + 0) then 1 else 0
    rw [Nat.add_zero, Nat.zero_add, Nat.add_zero]
  | k + 1, i => by
    show (if p i then 1 else 0) + cntF p (i + 1) (k + 1) = (if p i then 1 else 0) + cntF p (i + 1) k + if p (i + (k + 1)) then 1 else 0
    rw [cntF_snoc p k (i + 1), ← Nat.add_assoc, show i + 1 + k = i + (k + 1) from by omega]
theorem sumF_snoc (f : Nat → Int32) : ∀ (k i : Nat), sumF f i (k + 1) = sumF f i k + f (i + k)
  | 0, i => by
    show f i + 0 = 0 + f (i + 0)
    rw [Int32.add_zero, Int32.zero_add, Nat.add_zero]
  | k + 1, i => by
    show f i + sumF f (i + 1) (k + 1) = f i + sumF f (i + 1) k + f (i + (k + 1))
    rw [sumF_snoc f k (i + 1), Int32.add_assoc, show i + 1 + k = i + (k + 1) from by omega]
theorem k_timesL {σ : Wd} {A : Ab} (L : RCg σ A) {u d : Nat} (hd : d < 6) : ∀ (n k t : Nat), 200 - t = k → k < n → t ≤ 200 → l_X4_timesThatRan_5 n σ (iN t) (iN (cntF (ran1 A u d) 0 t)) (iN d) (iN u) = some (.inl (iN (cntF (ran1 A u d) 0 200)), σ)
  | n + 1, k, t, hk, hn, ht => by
    have hc := cntF_le (ran1 A u d) t 0
    by_cases h : t < 200
    · have hg := L d hd t h
      have ih := k_timesL L (u := u) hd n (200 - (t + 1)) (t + 1) rfl (by omega) (by omega)
      rw [cntF_snoc, Nat.zero_add] at ih
      have hct : t * 6 + d = 6 * t + d := by omega
      unfold ran1 at ih ⊢
      by_cases h2 : A.1 55 d t = iN u
      · simp only [h2, decide_true, if_true] at ih
        simp (disch := omega) only [gd_t, gd_T, bx_some, bx_thr, bd_def, nx_in, ↓nO_eq, l0, l1, l2, l3, l4, l5, l6, l7, l8, l30, l50, l64, l100, l200, l448, l1200, iN_add, iN_lt, iN_le, iN_inj, iN_clamp, iN_inb, iN_nO, nO_iN, nO_lt, iN_ltm, iN_lem, nO_le, iN_pred, if_pos, if_neg, ↓reduceIte, or_true, true_or, and_true, true_and, ne_eq, not_true_eq_false, not_false_eq_true, false_or, or_false, and_false, false_and, l_X4_timesThatRan_5, f_X4_unitThatRan, iN_mul, hct, hg, h2]
        exact ih
      · simp only [h2, decide_false, Bool.false_eq_true, if_false] at ih
        simp (disch := omega) only [gd_t, gd_T, bx_some, bx_thr, bd_def, nx_in, ↓nO_eq, l0, l1, l2, l3, l4, l5, l6, l7, l8, l30, l50, l64, l100, l200, l448, l1200, iN_add, iN_lt, iN_le, iN_inj, iN_clamp, iN_inb, iN_nO, nO_iN, nO_lt, iN_ltm, iN_lem, nO_le, iN_pred, if_pos, if_neg, ↓reduceIte, or_true, true_or, and_true, true_and, ne_eq, not_true_eq_false, not_false_eq_true, false_or, or_false, and_false, false_and, l_X4_timesThatRan_5, f_X4_unitThatRan, iN_mul, hct, hg, h2]
        exact ih
    · have h3 : t = 200 := by omega
      subst h3
      simp (disch := omega) only [gd_t, gd_T, bx_some, bx_thr, bd_def, nx_in, ↓nO_eq, l0, l1, l2, l3, l4, l5, l6, l7, l8, l30, l50, l64, l100, l200, l448, l1200, iN_add, iN_lt, iN_le, iN_inj, iN_clamp, iN_inb, iN_nO, nO_iN, nO_lt, iN_ltm, iN_lem, nO_le, iN_pred, if_pos, if_neg, ↓reduceIte, or_true, true_or, and_true, true_and, ne_eq, not_true_eq_false, not_false_eq_true, false_or, or_false, and_false, false_and, l_X4_timesThatRan_5]
theorem k_times {σ : Wd} {A : Ab} (L : RCg σ A) {u d : Nat} (hd : d < 6) : f_X4_timesThatRan σ (iN d) (iN u) = some (.inl (iN (cntF (ran1 A u d) 0 200)), σ) :=
  k_timesL L (u := u) hd FU _ 0 rfl (by decide) (by decide)
theorem k_kmL {σ : Wd} {A : Ab} (C : RC σ A) (G : Gd A) {u : Nat} : ∀ (n k d : Nat), nD A - d = k → k < n → d ≤ nD A → l_X9_kmAnew_11 n σ (iN d) (A.1 32 u 0 + sumF (kmD A u) 0 d) (iN u) = some (.inl (A.1 32 u 0 + sumF (kmD A u) 0 (nD A)), σ)
  | n + 1, k, d, hk, hn, hd => by
    have g7 := G.2.1
    by_cases h : d < nD A
    · have ih := k_kmL C G (u := u) n (nD A - (d + 1)) (d + 1) rfl (by omega) (by omega)
      have e9 := C.1.2.1
      have hq := (C.2.2.2.1 d h).2.2.1
      rw [sumF_snoc, Nat.zero_add, ← Int32.add_assoc] at ih
      simp (disch := omega) only [gd_t, gd_T, bx_some, bx_thr, bd_def, nx_in, ↓nO_eq, l0, l1, l2, l3, l4, l5, l6, l7, l8, l30, l50, l64, l100, l200, l448, l1200, iN_add, iN_lt, iN_le, iN_inj, iN_clamp, iN_inb, iN_nO, nO_iN, nO_lt, iN_ltm, iN_lem, nO_le, iN_pred, if_pos, if_neg, ↓reduceIte, or_true, true_or, and_true, true_and, ne_eq, not_true_eq_false, not_false_eq_true, false_or, or_false, and_false, false_and, l_X9_kmAnew_11, c_sz1 C.1, c_diagramAt C.1 g7 h, k_times C.2.2.2.2.2.2.2 (u := u) (by omega : d < 6), hq]
      exact ih
    · have h3 : d = nD A := by omega
      subst h3
      simp (disch := omega) only [gd_t, gd_T, bx_some, bx_thr, bd_def, nx_in, ↓nO_eq, l0, l1, l2, l3, l4, l5, l6, l7, l8, l30, l50, l64, l100, l200, l448, l1200, iN_add, iN_lt, iN_le, iN_inj, iN_clamp, iN_inb, iN_nO, nO_iN, nO_lt, iN_ltm, iN_lem, nO_le, iN_pred, if_pos, if_neg, ↓reduceIte, or_true, true_or, and_true, true_and, ne_eq, not_true_eq_false, not_false_eq_true, false_or, or_false, and_false, false_and, l_X9_kmAnew_11, c_sz1 C.1]
theorem sum_stop (f : Nat → Int32) (q : Nat) : ∀ k, sumF (fun d => if d < q then f d else 0) 0 k = sumF f 0 (if k < q then k else q)
  | 0 => by
    split
    · rfl
    · rw [show q = 0 from by omega]
      rfl
  | k + 1 => by
    rw [sumF_snoc, Nat.zero_add, sum_stop f q k]
    by_cases h : k < q
    · rw [if_pos h, if_pos h]
      by_cases h2 : k + 1 < q
      · rw [if_pos h2, sumF_snoc, Nat.zero_add]
      · rw [if_neg h2, show q = k + 1 from by omega, sumF_snoc, Nat.zero_add]
    · rw [if_neg h, if_neg h, if_neg (by omega : ¬ k + 1 < q), Int32.add_zero]
theorem k_kmA {σ : Wd} {A : Ab} (C : RC σ A) (G : Gd A) {u : Nat} (hu : u < nU A) : f_X9_kmAnew σ (iN u) = some (.inl (A.1 32 u 0 + sumF (kmD A u) 0 (nD A)), σ) := by
  have e8 := C.1.1
  have c0 := (C.2.2.1 u hu).1
  have hl := k_kmL C G (u := u) FU (nD A - 0) 0 rfl (by have := G.2.1; unfold FU; omega) (Nat.zero_le _)
  rw [show sumF (kmD A u) 0 0 = 0 from rfl, Int32.add_zero] at hl
  simp (disch := omega) only [gd_t, gd_T, bx_some, bx_thr, bd_def, nx_in, ↓nO_eq, l0, l1, l2, l3, l4, l5, l6, l7, l8, l30, l50, l64, l100, l200, l448, l1200, iN_add, iN_lt, iN_le, iN_inj, iN_clamp, iN_inb, iN_nO, nO_iN, nO_lt, iN_ltm, iN_lem, nO_le, iN_pred, if_pos, if_neg, ↓reduceIte, or_true, true_or, and_true, true_and, ne_eq, not_true_eq_false, not_false_eq_true, false_or, or_false, and_false, false_and, f_X9_kmAnew, c_unitAt C.1 G.1 hu, c0, hl]
