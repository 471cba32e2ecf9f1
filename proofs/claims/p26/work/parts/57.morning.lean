/-! bits -/
def clr (f u : Nat) : Nat := f &&& (63 - 2 ^ u)
theorem bit_or : ∀ u, u < 6 → ∀ t, t < 2 ^ u → (iN t ||| ((1 : Int32) <<< (iN u &&& 31))) = iN (t + 2 ^ u) ∧ t + 2 ^ u < 2 ^ (u + 1) ∧ ∀ x, x < 6 → (t + 2 ^ u).testBit x = (t.testBit x || decide (x = u)) := by decide +kernel
theorem bit_hi : ∀ u, u < 6 → ∀ t, t < 2 ^ u → t.testBit u = false := by decide +kernel
theorem bit_has : ∀ u, u < 6 → ∀ t, t < 64 → ((((iN t >>> (iN u &&& 31)) &&& (1 : Int32)) = 1) ↔ t.testBit u = true) := by decide +kernel
theorem bit_clr : ∀ u, u < 6 → ∀ f, f < 64 → (iN f &&& (((1 : Int32) <<< (iN u &&& 31)) ^^^ (-1 : Int32))) = iN (clr f u) ∧ clr f u ≤ f ∧ ∀ x, x < 6 → (clr f u).testBit x = (f.testBit x && decide (¬ x = u)) := by decide +kernel
theorem bit_and : ∀ f, f < 64 → ∀ t, t < 64 → (iN f &&& iN t) = iN (f &&& t) := by decide +kernel
theorem bit_sets : ∀ n, n < 7 → ((1 : Int32) <<< (iN n &&& 31)) = iN (2 ^ n) ∧ iN (2 ^ n) - 1 = iN (2 ^ n - 1) ∧ 2 ^ n ≤ 64 ∧ 1 ≤ 2 ^ n := by decide +kernel
theorem clr_bits {f u : Nat} (hf : f < 64) (hu : u < 6) : (clr f u).testBit = rm f.testBit u := by
  funext x
  unfold rm
  obtain ⟨_, h1, h2⟩ := bit_clr u hu f hf
  by_cases hx : x < 6
  · exact h2 x hx
  · have hp : 64 ≤ 2 ^ x := Nat.le_trans (show 64 ≤ 2 ^ 6 by decide) (Nat.pow_le_pow_right (by decide) (by omega))
    rw [Nat.testBit_lt_two_pow (by omega), Nat.testBit_lt_two_pow (by omega)]
    rfl
theorem and_lt {f t n : Nat} (hf : f < n) : f &&& t < n := Nat.lt_of_le_of_lt Nat.and_le_left hf
/-! a morning is read -/
def Fm (σ σ' : Wd) : Prop := σ'.2 = σ.2 ∧ ∀ t, ¬ (12 ≤ t ∧ t ≤ 18) → σ'.1 t = σ.1 t
theorem Fm.rf (σ : Wd) : Fm σ σ := ⟨rfl, fun _ _ => rfl⟩
theorem Fm.tr {a b c : Wd} (h : Fm a b) (h2 : Fm b c) : Fm a c := ⟨h2.1.trans h.1, fun t x => (h2.2 t x).trans (h.2 t x)⟩
theorem Fm.wr {σ τ : Wd} (h : Fm σ τ) {t i k : Nat} {v : Int32} (ht : 12 ≤ t ∧ t ≤ 18) : Fm σ (wr τ t i k v) := by
  refine ⟨h.1, fun t' x => ?_⟩
  rw [← h.2 t' x]
  funext i' k'
  rw [wr_rd, if_neg (by omega)]
theorem Fm.cs {σ τ : Wd} (h : Fm σ τ) : CS σ τ := fun t ht => h.2 t (by omega)
theorem RC.fm {σ τ : Wd} {A : Ab} (h : RC σ A) (hF : Fm σ τ) : RC τ A := by
  obtain ⟨H, F, U, D, E, R1, S, L⟩ := h
  obtain ⟨f1, f2⟩ := hF
  exact ⟨RCl.fr H (f2 _ (by decide)) f1, RCf.fr F (f2 _ (by decide)) (f2 _ (by decide)) f1, RCu.fr U (f2 _ (by decide)) (f2 _ (by decide)) (f2 _ (by decide)) (f2 _ (by decide)), RCd.fr D (f2 _ (by decide)), RCe.fr E (f2 _ (by decide)) (f2 _ (by decide)), RCr.fr R1 (f2 _ (by decide)) (f2 _ (by decide)), RCs.fr S (f2 _ (by decide)), RCg.fr L (f2 _ (by decide))⟩
def tk (t u : Nat) (p : Nat → Bool) : Prop := t < 2 ^ u ∧ ∀ x, x < 6 → t.testBit x = (decide (x < u) && p x)
theorem tk_0 (p : Nat → Bool) : tk 0 0 p := ⟨by decide, fun x hx => by simp⟩
theorem tk_t {t u : Nat} {p : Nat → Bool} (h : tk t u p) (hu : u < 6) (hp : p u = true) : tk (t + 2 ^ u) (u + 1) p := by
  obtain ⟨h1, h2⟩ := h
  obtain ⟨_, b2, b3⟩ := bit_or u hu t h1
  refine ⟨b2, fun x hx => ?_⟩
  rw [b3 x hx, h2 x hx]
  by_cases hxu : x = u
  · subst hxu
    simp [hp]
  · by_cases hlt : x < u
    · simp [hlt, hxu, show x < u + 1 from by omega]
    · simp [hlt, hxu, show ¬ x < u + 1 from by omega]
theorem tk_f {t u : Nat} {p : Nat → Bool} (h : tk t u p) (hp : p u = false) : tk t (u + 1) p := by
  obtain ⟨h1, h2⟩ := h
  refine ⟨Nat.lt_of_lt_of_le h1 (Nat.pow_le_pow_right (by decide) (by omega)), fun x hx => ?_⟩
  rw [h2 x hx]
  by_cases hxu : x = u
  · subst hxu
    simp [hp]
  · by_cases hlt : x < u
    · simp [hlt, show x < u + 1 from by omega]
    · simp [hlt, show ¬ x < u + 1 from by omega]
theorem k_home {σ : Wd} {A : Ab} (C : RC σ A) (G : Gd A) {u d : Nat} (hu : u < nU A) (hd : d < nD A) (k41 : Wd → Int32 → Int32 → Int32 → Nat → Int32 → Option ((Unit ⊕ String) × Wd)) {h : Nat} (hh : tk h u (homA A d)) (a3 a1 : Int32) : ∃ h', tk h' (u + 1) (homA A d) ∧ j_X9_readMorning_94 k41 σ u (iN u) (iN h) a3 d a1 = k41 σ (iN (u + 1)) (iN h') a3 d a1 := by
  have g6 := G.1
  have e9 := C.1.2.1
  have d1 := (C.2.2.2.1 d hd).2.1
  have hs := k_soon C.1 C.2.2.2.2.1 C.2.2.1 hu
  have n10 : ¬ iN 1 = iN 0 := by decide
  obtain ⟨b1, _, _⟩ := bit_or u (by omega) h hh.1
  have b1' : (iN h ||| (iN 1 <<< (iN u &&& 31))) = iN (h + 2 ^ u) := b1
  by_cases hz : A.1 45 d 0 = iN 0
  · by_cases hso : soonS A u = true
    · have hp : homA A d u = true := by unfold homA; rw [hz, hso]; decide
      refine ⟨h + 2 ^ u, tk_t hh (by omega) hp, ?_⟩
      rw [hso] at hs
      simp (disch := omega) only [gd_t, gd_T, bx_some, bx_thr, bd_def, nx_in, ↓nO_eq, l0, l1, l2, l3, l4, l5, l6, l7, l8, l30, l50, l64, l100, l200, l448, l1200, iN_add, iN_lt, iN_le, iN_inj, iN_clamp, iN_inb, iN_nO, nO_iN, nO_lt, iN_ltm, iN_lem, nO_le, iN_pred, if_pos, if_neg, ↓reduceIte, or_true, true_or, and_true, true_and, ne_eq, not_true_eq_false, not_false_eq_true, false_or, or_false, and_false, false_and, j_X9_readMorning_94, d1, hz, hs, bI_t, b1']
    · have hso : soonS A u = false := by simpa using hso
      have hp : homA A d u = false := by unfold homA; rw [hso, Bool.and_false]
      refine ⟨h, tk_f hh hp, ?_⟩
      rw [hso] at hs
      simp (disch := omega) only [gd_t, gd_T, bx_some, bx_thr, bd_def, nx_in, ↓nO_eq, l0, l1, l2, l3, l4, l5, l6, l7, l8, l30, l50, l64, l100, l200, l448, l1200, iN_add, iN_lt, iN_le, iN_inj, iN_clamp, iN_inb, iN_nO, nO_iN, nO_lt, iN_ltm, iN_lem, nO_le, iN_pred, if_pos, if_neg, ↓reduceIte, or_true, true_or, and_true, true_and, ne_eq, not_true_eq_false, not_false_eq_true, false_or, or_false, and_false, false_and, j_X9_readMorning_94, d1, hz, hs, bI_f]
  · have hp : homA A d u = false := by unfold homA; rw [decide_eq_false hz, Bool.false_and]
    refine ⟨h, tk_f hh hp, ?_⟩
    simp (disch := omega) only [gd_t, gd_T, bx_some, bx_thr, bd_def, nx_in, ↓nO_eq, l0, l1, l2, l3, l4, l5, l6, l7, l8, l30, l50, l64, l100, l200, l448, l1200, iN_add, iN_lt, iN_le, iN_inj, iN_clamp, iN_inb, iN_nO, nO_iN, nO_lt, iN_ltm, iN_lem, nO_le, iN_pred, if_pos, if_neg, ↓reduceIte, or_true, true_or, and_true, true_and, ne_eq, not_true_eq_false, not_false_eq_true, false_or, or_false, and_false, false_and, j_X9_readMorning_94, d1, hz]
theorem k_taker {σ : Wd} {A : Ab} (C : RC σ A) (G : Gd A) {d : Nat} (hd : d < nD A) (k16 : Wd → Int32 → Option ((Unit ⊕ String) × Wd)) (a1 : Int32) : ∀ (k u n t h : Nat), nU A - u = k → k < n → u ≤ nU A → tk t u (mayA A d) → tk h u (homA A d) → ∃ t' h', tk t' (nU A) (mayA A d) ∧ tk h' (nU A) (homA A d) ∧ l_X9_readMorning_41 k16 n σ (iN u) (iN h) (iN t) d a1 = bx (f_X3_addDiagram σ (A.1 48 d 0) (iN t') (iN h')) fun v11 σ12 => k16 σ12 (a1 + iN 1)
  | 0, u, n, t, h, hk, hn, hu, ht, hh => by
    obtain ⟨m, rfl⟩ : ∃ m, n = m + 1 := ⟨n - 1, by omega⟩
    have g6 := G.1
    have huq : u = nU A := by omega
    subst huq
    have e9 := C.1.2.1
    have d4 := (C.2.2.2.1 d hd).2.2.2.2.1
    refine ⟨t, h, ht, hh, ?_⟩
    simp (disch := omega) only [gd_t, gd_T, bx_some, bx_thr, bd_def, nx_in, ↓nO_eq, l0, l1, l2, l3, l4, l5, l6, l7, l8, l30, l50, l64, l100, l200, l448, l1200, iN_add, iN_lt, iN_le, iN_inj, iN_clamp, iN_inb, iN_nO, nO_iN, nO_lt, iN_ltm, iN_lem, nO_le, iN_pred, if_pos, if_neg, ↓reduceIte, or_true, true_or, and_true, true_and, ne_eq, not_true_eq_false, not_false_eq_true, false_or, or_false, and_false, false_and, l_X9_readMorning_41, c_sz0 C.1, d4]
  | k + 1, u, n, t, h, hk, hn, hu, ht, hh => by
    obtain ⟨m, rfl⟩ : ∃ m, n = m + 1 := ⟨n - 1, by omega⟩
    have g6 := G.1
    have g7 := G.2.1
    have huu : u < nU A := by omega
    have e9 := C.1.2.1
    have e8 := C.1.1
    have d5 := (C.2.2.2.1 d hd).2.2.2.2.2
    have hr := k_reason C G huu hd
    have S := C.2.2.2.2.2.2.1.1
    obtain ⟨h', hh', hq⟩ := k_home C G huu hd (l_X9_readMorning_41 k16 m) hh (iN t) a1
    obtain ⟨h'', hh'', hq'⟩ := k_home C G huu hd (l_X9_readMorning_41 k16 m) hh (iN (t + 2 ^ u)) a1
    obtain ⟨b1, _, _⟩ := bit_or u (by omega) t ht.1
    have b1' : (iN t ||| (iN 1 <<< (iN u &&& 31))) = iN (t + 2 ^ u) := b1
    have n10 : ¬ iN 1 = iN 0 := by decide
    by_cases hp : mayA A d u = true
    · obtain ⟨t', h3, q1, q2, q3⟩ := k_taker C G hd k16 a1 k (u + 1) m (t + 2 ^ u) h'' (by omega) (by omega) (by omega) (tk_t ht (by omega) hp) hh''
      refine ⟨t', h3, q1, q2, ?_⟩
      rw [← q3, ← hq']
      unfold mayA at hp
      have hp1 : rsn A u d = iN 0 := of_decide_eq_true (Bool.and_eq_true_iff.mp hp).1
      have hp2 := (Bool.and_eq_true_iff.mp hp).2
      by_cases h2 : A.1 49 d 0 = nO
      · simp (disch := omega) only [gd_t, gd_T, bx_some, bx_thr, bd_def, nx_in, ↓nO_eq, l0, l1, l2, l3, l4, l5, l6, l7, l8, l30, l50, l64, l100, l200, l448, l1200, iN_add, iN_lt, iN_le, iN_inj, iN_clamp, iN_inb, iN_nO, nO_iN, nO_lt, iN_ltm, iN_lem, nO_le, iN_pred, if_pos, if_neg, ↓reduceIte, or_true, true_or, and_true, true_and, ne_eq, not_true_eq_false, not_false_eq_true, false_or, or_false, and_false, false_and, l_X9_readMorning_41, c_sz0 C.1, c_unitAt C.1 g6 huu, f_X0_isOpenTo, d5, h2, S, hr, hp1, b1']
      · have h4 : A.1 49 d 0 = iN u := by
          rw [decide_eq_false h2, Bool.false_or] at hp2
          exact of_decide_eq_true hp2
        simp (disch := omega) only [gd_t, gd_T, bx_some, bx_thr, bd_def, nx_in, ↓nO_eq, l0, l1, l2, l3, l4, l5, l6, l7, l8, l30, l50, l64, l100, l200, l448, l1200, iN_add, iN_lt, iN_le, iN_inj, iN_clamp, iN_inb, iN_nO, nO_iN, nO_lt, iN_ltm, iN_lem, nO_le, iN_pred, if_pos, if_neg, ↓reduceIte, or_true, true_or, and_true, true_and, ne_eq, not_true_eq_false, not_false_eq_true, false_or, or_false, and_false, false_and, l_X9_readMorning_41, c_sz0 C.1, c_unitAt C.1 g6 huu, f_X0_isOpenTo, d5, h2, h4, S, hr, hp1, b1']
    · have hp : mayA A d u = false := by simpa using hp
      obtain ⟨t', h3, q1, q2, q3⟩ := k_taker C G hd k16 a1 k (u + 1) m t h' (by omega) (by omega) (by omega) (tk_f ht hp) hh'
      refine ⟨t', h3, q1, q2, ?_⟩
      rw [← q3, ← hq]
      unfold mayA at hp
      by_cases h1 : rsn A u d = iN 0
      · rw [decide_eq_true h1, Bool.true_and] at hp
        have h2 : ¬ A.1 49 d 0 = nO := fun z => by
          rw [decide_eq_true z, Bool.true_or] at hp
          cases hp
        have h4 : ¬ A.1 49 d 0 = iN u := fun z => by
          rw [decide_eq_true z, Bool.or_true] at hp
          cases hp
        simp (disch := omega) only [gd_t, gd_T, bx_some, bx_thr, bd_def, nx_in, ↓nO_eq, l0, l1, l2, l3, l4, l5, l6, l7, l8, l30, l50, l64, l100, l200, l448, l1200, iN_add, iN_lt, iN_le, iN_inj, iN_clamp, iN_inb, iN_nO, nO_iN, nO_lt, iN_ltm, iN_lem, nO_le, iN_pred, if_pos, if_neg, ↓reduceIte, or_true, true_or, and_true, true_and, ne_eq, not_true_eq_false, not_false_eq_true, false_or, or_false, and_false, false_and, l_X9_readMorning_41, c_sz0 C.1, c_unitAt C.1 g6 huu, f_X0_isOpenTo, d5, h2, h4]
      · by_cases h2 : A.1 49 d 0 = nO
        · simp (disch := omega) only [gd_t, gd_T, bx_some, bx_thr, bd_def, nx_in, ↓nO_eq, l0, l1, l2, l3, l4, l5, l6, l7, l8, l30, l50, l64, l100, l200, l448, l1200, iN_add, iN_lt, iN_le, iN_inj, iN_clamp, iN_inb, iN_nO, nO_iN, nO_lt, iN_ltm, iN_lem, nO_le, iN_pred, if_pos, if_neg, ↓reduceIte, or_true, true_or, and_true, true_and, ne_eq, not_true_eq_false, not_false_eq_true, false_or, or_false, and_false, false_and, l_X9_readMorning_41, c_sz0 C.1, c_unitAt C.1 g6 huu, f_X0_isOpenTo, d5, h2, S, hr, h1]
        · by_cases h4 : A.1 49 d 0 = iN u
          · simp (disch := omega) only [gd_t, gd_T, bx_some, bx_thr, bd_def, nx_in, ↓nO_eq, l0, l1, l2, l3, l4, l5, l6, l7, l8, l30, l50, l64, l100, l200, l448, l1200, iN_add, iN_lt, iN_le, iN_inj, iN_clamp, iN_inb, iN_nO, nO_iN, nO_lt, iN_ltm, iN_lem, nO_le, iN_pred, if_pos, if_neg, ↓reduceIte, or_true, true_or, and_true, true_and, ne_eq, not_true_eq_false, not_false_eq_true, false_or, or_false, and_false, false_and, l_X9_readMorning_41, c_sz0 C.1, c_unitAt C.1 g6 huu, f_X0_isOpenTo, d5, h2, h4, S, hr, h1]
          · simp (disch := omega) only [gd_t, gd_T, bx_some, bx_thr, bd_def, nx_in, ↓nO_eq, l0, l1, l2, l3, l4, l5, l6, l7, l8, l30, l50, l64, l100, l200, l448, l1200, iN_add, iN_lt, iN_le, iN_inj, iN_clamp, iN_inb, iN_nO, nO_iN, nO_lt, iN_ltm, iN_lem, nO_le, iN_pred, if_pos, if_neg, ↓reduceIte, or_true, true_or, and_true, true_and, ne_eq, not_true_eq_false, not_false_eq_true, false_or, or_false, and_false, false_and, l_X9_readMorning_41, c_sz0 C.1, c_unitAt C.1 g6 huu, f_X0_isOpenTo, d5, h2, h4]
/-- one DIAGRAM's row of the morning -/
def Mrow (A : Ab) (σ : Wd) (d : Nat) : Prop := σ.1 13 0 d = A.1 48 d 0 ∧ ∃ t h, t < 64 ∧ h < 64 ∧ σ.1 14 0 d = iN t ∧ σ.1 15 0 d = iN h ∧ ∀ u, u < nU A → t.testBit u = mayA A d u ∧ h.testBit u = homA A d u
def Mrn (A : Ab) (σ : Wd) : Prop := σ.1 12 0 6 = iN (nU A) ∧ σ.1 12 0 7 = iN (nD A) ∧ ∀ d, d < nD A → Mrow A σ d
theorem k_addD {σ : Wd} {d : Nat} (hd : d < 6) (h7 : σ.1 12 0 7 = iN d) (w t h : Int32) : f_X3_addDiagram σ w t h = some (.inl (), wr (wr (wr (wr σ 13 0 d w) 14 0 d t) 15 0 d h) 12 0 7 (iN (d + 1))) := by
  simp (disch := omega) only [gd_t, gd_T, bx_some, bx_thr, bd_def, nx_in, ↓nO_eq, l0, l1, l2, l3, l4, l5, l6, l7, l8, l30, l50, l64, l100, l200, l448, l1200, iN_add, iN_lt, iN_le, iN_inj, iN_clamp, iN_inb, iN_nO, nO_iN, nO_lt, iN_ltm, iN_lem, nO_le, iN_pred, if_pos, if_neg, ↓reduceIte, or_true, true_or, and_true, true_and, ne_eq, not_true_eq_false, not_false_eq_true, false_or, or_false, and_false, false_and, f_X3_addDiagram, h7, wr_rd]
theorem k_readL {A : Ab} (G : Gd A) : ∀ (k d n : Nat) (σ : Wd), nD A - d = k → k < n → d ≤ nD A → RC σ A → σ.1 12 0 6 = iN (nU A) → σ.1 12 0 7 = iN d → (∀ e, e < d → Mrow A σ e) → ∃ σ', l_X9_readMorning_16 n σ (iN d) = some (.inl (), σ') ∧ Fm σ σ' ∧ Mrn A σ'
  | 0, d, n, σ, hk, hn, hd, C, h6, h7, hM => by
    obtain ⟨m, rfl⟩ : ∃ m, n = m + 1 := ⟨n - 1, by omega⟩
    have g7 := G.2.1
    have hdq : d = nD A := by omega
    subst hdq
    refine ⟨σ, ?_, Fm.rf σ, h6, h7, hM⟩
    simp (disch := omega) only [gd_t, gd_T, bx_some, bx_thr, bd_def, nx_in, ↓nO_eq, l0, l1, l2, l3, l4, l5, l6, l7, l8, l30, l50, l64, l100, l200, l448, l1200, iN_add, iN_lt, iN_le, iN_inj, iN_clamp, iN_inb, iN_nO, nO_iN, nO_lt, iN_ltm, iN_lem, nO_le, iN_pred, if_pos, if_neg, ↓reduceIte, or_true, true_or, and_true, true_and, ne_eq, not_true_eq_false, not_false_eq_true, false_or, or_false, and_false, false_and, l_X9_readMorning_16, c_sz1 C.1]
  | k + 1, d, n, σ, hk, hn, hd, C, h6, h7, hM => by
    obtain ⟨m, rfl⟩ : ∃ m, n = m + 1 := ⟨n - 1, by omega⟩
    have g6 := G.1
    have g7 := G.2.1
    have hdd : d < nD A := by omega
    obtain ⟨t, h, q1, q2, q3⟩ := k_taker C G hdd (l_X9_readMorning_16 m) (iN d) (nU A) 0 FU 0 0 rfl (by unfold FU; omega) (Nat.zero_le _) (tk_0 _) (tk_0 _)
    have ha := k_addD (by omega : d < 6) h7 (A.1 48 d 0) (iN t) (iN h)
    have hF : Fm σ (wr (wr (wr (wr σ 13 0 d (A.1 48 d 0)) 14 0 d (iN t)) 15 0 d (iN h)) 12 0 7 (iN (d + 1))) := ((((Fm.rf σ).wr (by decide)).wr (by decide)).wr (by decide)).wr (by decide)
    have h64 : 2 ^ nU A ≤ 64 := (bit_sets (nU A) (by omega)).2.2.1
    obtain ⟨σ', z1, z2, z3⟩ := k_readL G k (d + 1) m _ (by omega) (by omega) (by omega) (C.fm hF) (by
      rw [wr_rd, if_neg (by omega), wr_rd, if_neg (by omega), wr_rd, if_neg (by omega), wr_rd, if_neg (by omega)]
      exact h6) (wr_same _ _ _ _ _) (fun e he => by
      have rd13 : ∀ e, (wr (wr (wr (wr σ 13 0 d (A.1 48 d 0)) 14 0 d (iN t)) 15 0 d (iN h)) 12 0 7 (iN (d + 1))).1 13 0 e = if e = d then A.1 48 d 0 else σ.1 13 0 e := fun e => by
        simp only [wr_rd]
        by_cases h : e = d <;> simp [h]
      have rd14 : ∀ e, (wr (wr (wr (wr σ 13 0 d (A.1 48 d 0)) 14 0 d (iN t)) 15 0 d (iN h)) 12 0 7 (iN (d + 1))).1 14 0 e = if e = d then iN t else σ.1 14 0 e := fun e => by
        simp only [wr_rd]
        by_cases h : e = d <;> simp [h]
      have rd15 : ∀ e, (wr (wr (wr (wr σ 13 0 d (A.1 48 d 0)) 14 0 d (iN t)) 15 0 d (iN h)) 12 0 7 (iN (d + 1))).1 15 0 e = if e = d then iN h else σ.1 15 0 e := fun e => by
        simp only [wr_rd]
        by_cases h : e = d <;> simp [h]
      unfold Mrow
      rw [rd13, rd14, rd15]
      by_cases h2 : e = d
      · subst h2
        rw [if_pos rfl, if_pos rfl, if_pos rfl]
        have qq1 := q1.1
        have qq2 := q2.1
        refine ⟨rfl, t, h, by omega, by omega, rfl, rfl, fun u hu => ⟨?_, ?_⟩⟩
        · rw [q1.2 u (by omega), decide_eq_true hu, Bool.true_and]
        · rw [q2.2 u (by omega), decide_eq_true hu, Bool.true_and]
      · rw [if_neg h2, if_neg h2, if_neg h2]
        exact hM e (by omega))
    refine ⟨σ', ?_, hF.tr z2, z3⟩
    rw [← z1]
    simp (disch := omega) only [gd_t, gd_T, bx_some, bx_thr, bd_def, nx_in, ↓nO_eq, l0, l1, l2, l3, l4, l5, l6, l7, l8, l30, l50, l64, l100, l200, l448, l1200, iN_add, iN_lt, iN_le, iN_inj, iN_clamp, iN_inb, iN_nO, nO_iN, nO_lt, iN_ltm, iN_lem, nO_le, iN_pred, if_pos, if_neg, ↓reduceIte, or_true, true_or, and_true, true_and, ne_eq, not_true_eq_false, not_false_eq_true, false_or, or_false, and_false, false_and, l_X9_readMorning_16, c_sz1 C.1, c_diagramAt C.1 g7 hdd, q3, ha]
theorem k_read {σ : Wd} {A : Ab} (C : RC σ A) (G : Gd A) : ∃ σ', f_X9_readMorning σ = some (.inl (), σ') ∧ Fm σ σ' ∧ Mrn A σ' := by
  have g6 := G.1
  have hF : Fm σ (wr (wr σ 12 0 6 (iN (nU A))) 12 0 7 (iN 0)) := ((Fm.rf σ).wr (by decide)).wr (by decide)
  obtain ⟨σ', q1, q2, q3⟩ := k_readL G (nD A) 0 FU (wr (wr σ 12 0 6 (iN (nU A))) 12 0 7 (iN 0)) rfl (by have := G.2.1; unfold FU; omega) (Nat.zero_le _) (C.fm hF) rfl rfl (fun e he => absurd he (Nat.not_lt_zero _))
  refine ⟨σ', ?_, hF.tr q2, q3⟩
  have hb : f_X3_begin σ (iN (nU A)) = some (.inl (), wr (wr σ 12 0 6 (iN (nU A))) 12 0 7 (iN 0)) := by
    by_cases h0 : nU A = 0
    · simp (disch := omega) only [gd_t, gd_T, bx_some, bx_thr, bd_def, nx_in, ↓nO_eq, l0, l1, l2, l3, l4, l5, l6, l7, l8, l30, l50, l64, l100, l200, l448, l1200, iN_add, iN_lt, iN_le, iN_inj, iN_clamp, iN_inb, iN_nO, nO_iN, nO_lt, iN_ltm, iN_lem, nO_le, iN_pred, if_pos, if_neg, ↓reduceIte, or_true, true_or, and_true, true_and, ne_eq, not_true_eq_false, not_false_eq_true, false_or, or_false, and_false, false_and, f_X3_begin, h0]
    · simp (disch := omega) only [gd_t, gd_T, bx_some, bx_thr, bd_def, nx_in, ↓nO_eq, l0, l1, l2, l3, l4, l5, l6, l7, l8, l30, l50, l64, l100, l200, l448, l1200, iN_add, iN_lt, iN_le, iN_inj, iN_clamp, iN_inb, iN_nO, nO_iN, nO_lt, iN_ltm, iN_lem, nO_le, iN_pred, if_pos, if_neg, ↓reduceIte, or_true, true_or, and_true, true_and, ne_eq, not_true_eq_false, not_false_eq_true, false_or, or_false, and_false, false_and, f_X3_begin]
  simp (disch := omega) only [gd_t, gd_T, bx_some, bx_thr, bd_def, nx_in, ↓nO_eq, l0, l1, l2, l3, l4, l5, l6, l7, l8, l30, l50, l64, l100, l200, l448, l1200, iN_add, iN_lt, iN_le, iN_inj, iN_clamp, iN_inb, iN_nO, nO_iN, nO_lt, iN_ltm, iN_lem, nO_le, iN_pred, if_pos, if_neg, ↓reduceIte, or_true, true_or, and_true, true_and, ne_eq, not_true_eq_false, not_false_eq_true, false_or, or_false, and_false, false_and, f_X9_readMorning, c_sz0 C.1, hb, q1]
