/-! by all allocations -/
theorem bit_or2 : ∀ u, u < 6 → ∀ t, t < 64 → (iN t ||| ((1 : Int32) <<< (iN u &&& 31))) = iN (t ||| 2 ^ u) ∧ (t ||| 2 ^ u) < 64 ∧ ∀ x, x < 6 → (t ||| 2 ^ u).testBit x = (t.testBit x || decide (x = u)) := by decide +kernel
/-- the trial is l -/
def Tri (A : Ab) (σ : Wd) (l : List Nat) : Prop := l.length = nD A ∧ (∀ c, c ∈ l → c ≤ nU A) ∧ ∀ d c, l[d]? = some c → σ.1 17 0 d = chv (nU A) c
def GivL (A : Ab) (σ : Wd) (l : List Nat) : Prop := l.length = nD A ∧ (∀ c, c ∈ l → c ≤ nU A) ∧ ∀ d c, l[d]? = some c → σ.1 16 0 d = chv (nU A) c
theorem tri_at {A : Ab} {σ : Wd} {l : List Nat} (g7 : nD A ≤ 6) (V : Tri A σ l) {d : Nat} (hd : d < nD A) : ∃ c, l[d]? = some c ∧ c ≤ nU A ∧ f_X3_at_17 σ (iN d) nO = some (.inl (chv (nU A) c), σ) := by
  have hl := V.1
  have hg := List.getElem?_eq_getElem (l := l) (i := d) (by omega)
  refine ⟨_, hg, V.2.1 _ (List.mem_of_getElem? hg), ?_⟩
  have hv := V.2.2 d _ hg
  simp (disch := omega) only [gd_t, gd_T, bx_some, bx_thr, bd_def, nx_in, ↓nO_eq, l0, l1, l2, l3, l4, l5, l6, l7, l8, l30, l50, l64, l100, l200, l448, l1200, iN_add, iN_lt, iN_le, iN_inj, iN_clamp, iN_inb, iN_nO, nO_iN, nO_lt, iN_ltm, iN_lem, nO_le, iN_pred, if_pos, if_neg, ↓reduceIte, or_true, true_or, and_true, true_and, ne_eq, not_true_eq_false, not_false_eq_true, false_or, or_false, and_false, false_and, f_X3_at_17, hv]
theorem givL_at {A : Ab} {σ : Wd} {l : List Nat} (g7 : nD A ≤ 6) (V : GivL A σ l) {d : Nat} (hd : d < nD A) : ∃ c, l[d]? = some c ∧ c ≤ nU A ∧ f_X3_at_16 σ (iN d) nO = some (.inl (chv (nU A) c), σ) := by
  have hl := V.1
  have hg := List.getElem?_eq_getElem (l := l) (i := d) (by omega)
  refine ⟨_, hg, V.2.1 _ (List.mem_of_getElem? hg), ?_⟩
  have hv := V.2.2 d _ hg
  simp (disch := omega) only [gd_t, gd_T, bx_some, bx_thr, bd_def, nx_in, ↓nO_eq, l0, l1, l2, l3, l4, l5, l6, l7, l8, l30, l50, l64, l100, l200, l448, l1200, iN_add, iN_lt, iN_le, iN_inj, iN_clamp, iN_inb, iN_nO, nO_iN, nO_lt, iN_ltm, iN_lem, nO_le, iN_pred, if_pos, if_neg, ↓reduceIte, or_true, true_or, and_true, true_and, ne_eq, not_true_eq_false, not_false_eq_true, false_or, or_false, and_false, false_and, f_X3_at_16, hv]
theorem take_at {l : List Nat} {d c : Nat} (hc : l[d]? = some c) : l.take (d + 1) = l.take d ++ [c] := by
  rw [List.take_succ, hc]
  rfl
theorem lack17 {A : Ab} {σ : Wd} {l : List Nat} (M : Mrn A σ) (G : Gd A) (V : Tri A σ l) : ∀ (k d n : Nat), nD A - d = k → k < n → d ≤ nD A → l_X3_lackOf_17_4 n σ (iN d) (iN (lk (PA A) 0 (l.take d))) = some (.inl (iN (lk (PA A) 0 l)), σ)
  | 0, d, n, hk, hn, hd => by
    obtain ⟨m, rfl⟩ : ∃ m, n = m + 1 := ⟨n - 1, by omega⟩
    have g7 := G.2.1
    have hdq : d = nD A := by omega
    subst hdq
    have h7 := M.2.1
    have e : l.take (nD A) = l := by rw [← V.1, List.take_length]
    rw [e]
    simp (disch := omega) only [gd_t, gd_T, bx_some, bx_thr, bd_def, nx_in, ↓nO_eq, l0, l1, l2, l3, l4, l5, l6, l7, l8, l30, l50, l64, l100, l200, l448, l1200, iN_add, iN_lt, iN_le, iN_inj, iN_clamp, iN_inb, iN_nO, nO_iN, nO_lt, iN_ltm, iN_lem, nO_le, iN_pred, if_pos, if_neg, ↓reduceIte, or_true, true_or, and_true, true_and, ne_eq, not_true_eq_false, not_false_eq_true, false_or, or_false, and_false, false_and, l_X3_lackOf_17_4, h7]
  | k + 1, d, n, hk, hn, hd => by
    obtain ⟨m, rfl⟩ : ∃ m, n = m + 1 := ⟨n - 1, by omega⟩
    have g6 := G.1
    have g7 := G.2.1
    have hdd : d < nD A := by omega
    have h7 := M.2.1
    obtain ⟨c, hc, hcn, ha⟩ := tri_at g7 V hdd
    have e13 := (M.2.2 d hdd).1
    have hw := (PA_w G hdd).1
    have ih := lack17 M G V k (d + 1) m (by omega) (by omega) (by omega)
    have hl := V.1
    rw [take_at hc, lk_app, Nat.zero_add, List.length_take, Nat.min_eq_left (by omega)] at ih
    have e2 : lk (PA A) d [c] = if c = nU A then (PA A).2.2.1 d else 0 := Nat.add_zero _
    rw [e2] at ih
    rw [← ih]
    by_cases h : c = nU A
    · have ec : chv (nU A) c = nO := if_pos h
      rw [ec] at ha
      rw [if_pos h]
      simp (disch := omega) only [gd_t, gd_T, bx_some, bx_thr, bd_def, nx_in, ↓nO_eq, l0, l1, l2, l3, l4, l5, l6, l7, l8, l30, l50, l64, l100, l200, l448, l1200, iN_add, iN_lt, iN_le, iN_inj, iN_clamp, iN_inb, iN_nO, nO_iN, nO_lt, iN_ltm, iN_lem, nO_le, iN_pred, if_pos, if_neg, ↓reduceIte, or_true, true_or, and_true, true_and, ne_eq, not_true_eq_false, not_false_eq_true, false_or, or_false, and_false, false_and, l_X3_lackOf_17_4, h7, ha, x3_at13 (σ := σ), e13, hw]
    · have ec : chv (nU A) c = iN c := if_neg h
      rw [ec] at ha
      rw [if_neg h]
      simp (disch := omega) only [gd_t, gd_T, bx_some, bx_thr, bd_def, nx_in, ↓nO_eq, l0, l1, l2, l3, l4, l5, l6, l7, l8, l30, l50, l64, l100, l200, l448, l1200, iN_add, iN_lt, iN_le, iN_inj, iN_clamp, iN_inb, iN_nO, nO_iN, nO_lt, iN_ltm, iN_lem, nO_le, iN_pred, if_pos, if_neg, ↓reduceIte, or_true, true_or, and_true, true_and, ne_eq, not_true_eq_false, not_false_eq_true, false_or, or_false, and_false, false_and, l_X3_lackOf_17_4, h7, ha, Nat.add_zero]
theorem lack16 {A : Ab} {σ : Wd} {l : List Nat} (M : Mrn A σ) (G : Gd A) (V : GivL A σ l) : ∀ (k d n : Nat), nD A - d = k → k < n → d ≤ nD A → l_X3_lackOf_16_4 n σ (iN d) (iN (lk (PA A) 0 (l.take d))) = some (.inl (iN (lk (PA A) 0 l)), σ)
  | 0, d, n, hk, hn, hd => by
    obtain ⟨m, rfl⟩ : ∃ m, n = m + 1 := ⟨n - 1, by omega⟩
    have g7 := G.2.1
    have hdq : d = nD A := by omega
    subst hdq
    have h7 := M.2.1
    have e : l.take (nD A) = l := by rw [← V.1, List.take_length]
    rw [e]
    simp (disch := omega) only [gd_t, gd_T, bx_some, bx_thr, bd_def, nx_in, ↓nO_eq, l0, l1, l2, l3, l4, l5, l6, l7, l8, l30, l50, l64, l100, l200, l448, l1200, iN_add, iN_lt, iN_le, iN_inj, iN_clamp, iN_inb, iN_nO, nO_iN, nO_lt, iN_ltm, iN_lem, nO_le, iN_pred, if_pos, if_neg, ↓reduceIte, or_true, true_or, and_true, true_and, ne_eq, not_true_eq_false, not_false_eq_true, false_or, or_false, and_false, false_and, l_X3_lackOf_16_4, h7]
  | k + 1, d, n, hk, hn, hd => by
    obtain ⟨m, rfl⟩ : ∃ m, n = m + 1 := ⟨n - 1, by omega⟩
    have g6 := G.1
    have g7 := G.2.1
    have hdd : d < nD A := by omega
    have h7 := M.2.1
    obtain ⟨c, hc, hcn, ha⟩ := givL_at g7 V hdd
    have e13 := (M.2.2 d hdd).1
    have hw := (PA_w G hdd).1
    have ih := lack16 M G V k (d + 1) m (by omega) (by omega) (by omega)
    have hl := V.1
    rw [take_at hc, lk_app, Nat.zero_add, List.length_take, Nat.min_eq_left (by omega)] at ih
    have e2 : lk (PA A) d [c] = if c = nU A then (PA A).2.2.1 d else 0 := Nat.add_zero _
    rw [e2] at ih
    rw [← ih]
    by_cases h : c = nU A
    · have ec : chv (nU A) c = nO := if_pos h
      rw [ec] at ha
      rw [if_pos h]
      simp (disch := omega) only [gd_t, gd_T, bx_some, bx_thr, bd_def, nx_in, ↓nO_eq, l0, l1, l2, l3, l4, l5, l6, l7, l8, l30, l50, l64, l100, l200, l448, l1200, iN_add, iN_lt, iN_le, iN_inj, iN_clamp, iN_inb, iN_nO, nO_iN, nO_lt, iN_ltm, iN_lem, nO_le, iN_pred, if_pos, if_neg, ↓reduceIte, or_true, true_or, and_true, true_and, ne_eq, not_true_eq_false, not_false_eq_true, false_or, or_false, and_false, false_and, l_X3_lackOf_16_4, h7, ha, x3_at13 (σ := σ), e13, hw]
    · have ec : chv (nU A) c = iN c := if_neg h
      rw [ec] at ha
      rw [if_neg h]
      simp (disch := omega) only [gd_t, gd_T, bx_some, bx_thr, bd_def, nx_in, ↓nO_eq, l0, l1, l2, l3, l4, l5, l6, l7, l8, l30, l50, l64, l100, l200, l448, l1200, iN_add, iN_lt, iN_le, iN_inj, iN_clamp, iN_inb, iN_nO, nO_iN, nO_lt, iN_ltm, iN_lem, nO_le, iN_pred, if_pos, if_neg, ↓reduceIte, or_true, true_or, and_true, true_and, ne_eq, not_true_eq_false, not_false_eq_true, false_or, or_false, and_false, false_and, l_X3_lackOf_16_4, h7, ha, Nat.add_zero]
theorem home17 {A : Ab} {σ : Wd} {l : List Nat} (M : Mrn A σ) (G : Gd A) (V : Tri A σ l) : ∀ (k d n : Nat), nD A - d = k → k < n → d ≤ nD A → l_X3_homingOf_17_4 n σ (iN d) (iN (hm (PA A) 0 (l.take d))) = some (.inl (iN (hm (PA A) 0 l)), σ)
  | 0, d, n, hk, hn, hd => by
    obtain ⟨m, rfl⟩ : ∃ m, n = m + 1 := ⟨n - 1, by omega⟩
    have g7 := G.2.1
    have hdq : d = nD A := by omega
    subst hdq
    have h7 := M.2.1
    have e : l.take (nD A) = l := by rw [← V.1, List.take_length]
    rw [e]
    simp (disch := omega) only [gd_t, gd_T, bx_some, bx_thr, bd_def, nx_in, ↓nO_eq, l0, l1, l2, l3, l4, l5, l6, l7, l8, l30, l50, l64, l100, l200, l448, l1200, iN_add, iN_lt, iN_le, iN_inj, iN_clamp, iN_inb, iN_nO, nO_iN, nO_lt, iN_ltm, iN_lem, nO_le, iN_pred, if_pos, if_neg, ↓reduceIte, or_true, true_or, and_true, true_and, ne_eq, not_true_eq_false, not_false_eq_true, false_or, or_false, and_false, false_and, l_X3_homingOf_17_4, h7]
  | k + 1, d, n, hk, hn, hd => by
    obtain ⟨m, rfl⟩ : ∃ m, n = m + 1 := ⟨n - 1, by omega⟩
    have g6 := G.1
    have g7 := G.2.1
    have hdd : d < nD A := by omega
    have h7 := M.2.1
    obtain ⟨c, hc, hcn, ha⟩ := tri_at g7 V hdd
    obtain ⟨t, h, ht, hh, e14, e15, eb⟩ := (M.2.2 d hdd).2
    have ih := home17 M G V k (d + 1) m (by omega) (by omega) (by omega)
    have hl := V.1
    rw [take_at hc, hm_app, Nat.zero_add, List.length_take, Nat.min_eq_left (by omega)] at ih
    have e2 : hm (PA A) d [c] = if ¬ c = nU A ∧ homA A d c = true then 1 else 0 := Nat.add_zero _
    rw [e2] at ih
    rw [← ih]
    by_cases hcu : c = nU A
    · have ec : chv (nU A) c = nO := if_pos hcu
      rw [ec] at ha
      rw [if_neg (fun z => z.1 hcu)]
      simp (disch := omega) only [gd_t, gd_T, bx_some, bx_thr, bd_def, nx_in, ↓nO_eq, l0, l1, l2, l3, l4, l5, l6, l7, l8, l30, l50, l64, l100, l200, l448, l1200, iN_add, iN_lt, iN_le, iN_inj, iN_clamp, iN_inb, iN_nO, nO_iN, nO_lt, iN_ltm, iN_lem, nO_le, iN_pred, if_pos, if_neg, ↓reduceIte, or_true, true_or, and_true, true_and, ne_eq, not_true_eq_false, not_false_eq_true, false_or, or_false, and_false, false_and, l_X3_homingOf_17_4, h7, ha, Nat.add_zero]
    · have ec : chv (nU A) c = iN c := if_neg hcu
      rw [ec] at ha
      have h1 := x3_has (σ := σ) hh (by omega : c < 6)
      rw [(eb c (by omega)).2] at h1
      generalize homA A d c = b at *
      cases b
      · rw [if_neg (fun z => by cases z.2)]
        simp (disch := omega) only [gd_t, gd_T, bx_some, bx_thr, bd_def, nx_in, ↓nO_eq, l0, l1, l2, l3, l4, l5, l6, l7, l8, l30, l50, l64, l100, l200, l448, l1200, iN_add, iN_lt, iN_le, iN_inj, iN_clamp, iN_inb, iN_nO, nO_iN, nO_lt, iN_ltm, iN_lem, nO_le, iN_pred, if_pos, if_neg, ↓reduceIte, or_true, true_or, and_true, true_and, ne_eq, not_true_eq_false, not_false_eq_true, false_or, or_false, and_false, false_and, l_X3_homingOf_17_4, h7, ha, x3_at15 (σ := σ), e15, h1, bI_f, Nat.add_zero]
      · rw [if_pos ⟨hcu, rfl⟩]
        simp (disch := omega) only [gd_t, gd_T, bx_some, bx_thr, bd_def, nx_in, ↓nO_eq, l0, l1, l2, l3, l4, l5, l6, l7, l8, l30, l50, l64, l100, l200, l448, l1200, iN_add, iN_lt, iN_le, iN_inj, iN_clamp, iN_inb, iN_nO, nO_iN, nO_lt, iN_ltm, iN_lem, nO_le, iN_pred, if_pos, if_neg, ↓reduceIte, or_true, true_or, and_true, true_and, ne_eq, not_true_eq_false, not_false_eq_true, false_or, or_false, and_false, false_and, l_X3_homingOf_17_4, h7, ha, x3_at15 (σ := σ), e15, h1, bI_t]
theorem home16 {A : Ab} {σ : Wd} {l : List Nat} (M : Mrn A σ) (G : Gd A) (V : GivL A σ l) : ∀ (k d n : Nat), nD A - d = k → k < n → d ≤ nD A → l_X3_homingOf_16_4 n σ (iN d) (iN (hm (PA A) 0 (l.take d))) = some (.inl (iN (hm (PA A) 0 l)), σ)
  | 0, d, n, hk, hn, hd => by
    obtain ⟨m, rfl⟩ : ∃ m, n = m + 1 := ⟨n - 1, by omega⟩
    have g7 := G.2.1
    have hdq : d = nD A := by omega
    subst hdq
    have h7 := M.2.1
    have e : l.take (nD A) = l := by rw [← V.1, List.take_length]
    rw [e]
    simp (disch := omega) only [gd_t, gd_T, bx_some, bx_thr, bd_def, nx_in, ↓nO_eq, l0, l1, l2, l3, l4, l5, l6, l7, l8, l30, l50, l64, l100, l200, l448, l1200, iN_add, iN_lt, iN_le, iN_inj, iN_clamp, iN_inb, iN_nO, nO_iN, nO_lt, iN_ltm, iN_lem, nO_le, iN_pred, if_pos, if_neg, ↓reduceIte, or_true, true_or, and_true, true_and, ne_eq, not_true_eq_false, not_false_eq_true, false_or, or_false, and_false, false_and, l_X3_homingOf_16_4, h7]
  | k + 1, d, n, hk, hn, hd => by
    obtain ⟨m, rfl⟩ : ∃ m, n = m + 1 := ⟨n - 1, by omega⟩
    have g6 := G.1
    have g7 := G.2.1
    have hdd : d < nD A := by omega
    have h7 := M.2.1
    obtain ⟨c, hc, hcn, ha⟩ := givL_at g7 V hdd
    obtain ⟨t, h, ht, hh, e14, e15, eb⟩ := (M.2.2 d hdd).2
    have ih := home16 M G V k (d + 1) m (by omega) (by omega) (by omega)
    have hl := V.1
    rw [take_at hc, hm_app, Nat.zero_add, List.length_take, Nat.min_eq_left (by omega)] at ih
    have e2 : hm (PA A) d [c] = if ¬ c = nU A ∧ homA A d c = true then 1 else 0 := Nat.add_zero _
    rw [e2] at ih
    rw [← ih]
    by_cases hcu : c = nU A
    · have ec : chv (nU A) c = nO := if_pos hcu
      rw [ec] at ha
      rw [if_neg (fun z => z.1 hcu)]
      simp (disch := omega) only [gd_t, gd_T, bx_some, bx_thr, bd_def, nx_in, ↓nO_eq, l0, l1, l2, l3, l4, l5, l6, l7, l8, l30, l50, l64, l100, l200, l448, l1200, iN_add, iN_lt, iN_le, iN_inj, iN_clamp, iN_inb, iN_nO, nO_iN, nO_lt, iN_ltm, iN_lem, nO_le, iN_pred, if_pos, if_neg, ↓reduceIte, or_true, true_or, and_true, true_and, ne_eq, not_true_eq_false, not_false_eq_true, false_or, or_false, and_false, false_and, l_X3_homingOf_16_4, h7, ha, Nat.add_zero]
    · have ec : chv (nU A) c = iN c := if_neg hcu
      rw [ec] at ha
      have h1 := x3_has (σ := σ) hh (by omega : c < 6)
      rw [(eb c (by omega)).2] at h1
      generalize homA A d c = b at *
      cases b
      · rw [if_neg (fun z => by cases z.2)]
        simp (disch := omega) only [gd_t, gd_T, bx_some, bx_thr, bd_def, nx_in, ↓nO_eq, l0, l1, l2, l3, l4, l5, l6, l7, l8, l30, l50, l64, l100, l200, l448, l1200, iN_add, iN_lt, iN_le, iN_inj, iN_clamp, iN_inb, iN_nO, nO_iN, nO_lt, iN_ltm, iN_lem, nO_le, iN_pred, if_pos, if_neg, ↓reduceIte, or_true, true_or, and_true, true_and, ne_eq, not_true_eq_false, not_false_eq_true, false_or, or_false, and_false, false_and, l_X3_homingOf_16_4, h7, ha, x3_at15 (σ := σ), e15, h1, bI_f, Nat.add_zero]
      · rw [if_pos ⟨hcu, rfl⟩]
        simp (disch := omega) only [gd_t, gd_T, bx_some, bx_thr, bd_def, nx_in, ↓nO_eq, l0, l1, l2, l3, l4, l5, l6, l7, l8, l30, l50, l64, l100, l200, l448, l1200, iN_add, iN_lt, iN_le, iN_inj, iN_clamp, iN_inb, iN_nO, nO_iN, nO_lt, iN_ltm, iN_lem, nO_le, iN_pred, if_pos, if_neg, ↓reduceIte, or_true, true_or, and_true, true_and, ne_eq, not_true_eq_false, not_false_eq_true, false_or, or_false, and_false, false_and, l_X3_homingOf_16_4, h7, ha, x3_at15 (σ := σ), e15, h1, bI_t]
/-- the trial is better than what is given -/
theorem better_ok {A : Ab} {σ : Wd} {l b : List Nat} (M : Mrn A σ) (G : Gd A) (V : Tri A σ l) (B : GivL A σ b) : f_X3_trialIsBetter σ = some (.inl (bI (decide (cst (PA A) 0 l < cst (PA A) 0 b))), σ) := by
  have g7 := G.2.1
  have l7 := lack17 M G V (nD A) 0 FU rfl (by unfold FU; omega) (Nat.zero_le _)
  have l6 := lack16 M G B (nD A) 0 FU rfl (by unfold FU; omega) (Nat.zero_le _)
  have h7 := home17 M G V (nD A) 0 FU rfl (by unfold FU; omega) (Nat.zero_le _)
  have h6 := home16 M G B (nD A) 0 FU rfl (by unfold FU; omega) (Nat.zero_le _)
  rw [show lk (PA A) 0 (l.take 0) = 0 from rfl] at l7
  rw [show lk (PA A) 0 (b.take 0) = 0 from rfl] at l6
  rw [show hm (PA A) 0 (l.take 0) = 0 from rfl] at h7
  rw [show hm (PA A) 0 (b.take 0) = 0 from rfl] at h6
  have hl1 := V.1
  have hb1 := B.1
  have hlt := cst_lt (P := PA A) (a := l) (b := b) (d := 0) (by omega) (by omega)
  have k1 := lk_le (PA A) (fun d _ => (PA_w1 G d).2) l 0 (by omega)
  have k2 := lk_le (PA A) (fun d _ => (PA_w1 G d).2) b 0 (by omega)
  have k3 := hm_le (PA A) l 0
  have k4 := hm_le (PA A) b 0
  by_cases c1 : lk (PA A) 0 l < lk (PA A) 0 b
  · rw [decide_eq_true (hlt.mpr (Or.inl c1))]
    simp (disch := omega) only [gd_t, gd_T, bx_some, bx_thr, bd_def, nx_in, ↓nO_eq, l0, l1, l2, l3, l4, l5, l6, l7, l8, l30, l50, l64, l100, l200, l448, l1200, iN_add, iN_lt, iN_le, iN_inj, iN_clamp, iN_inb, iN_nO, nO_iN, nO_lt, iN_ltm, iN_lem, nO_le, iN_pred, if_pos, if_neg, ↓reduceIte, or_true, true_or, and_true, true_and, ne_eq, not_true_eq_false, not_false_eq_true, false_or, or_false, and_false, false_and, f_X3_trialIsBetter, f_X3_lackOf_17, f_X3_lackOf_16, l7, l6, bI_t]
  · by_cases c2 : lk (PA A) 0 l = lk (PA A) 0 b
    · by_cases c3 : hm (PA A) 0 l ≤ hm (PA A) 0 b
      · rw [decide_eq_false (by rw [hlt]; omega)]
        simp (disch := omega) only [gd_t, gd_T, bx_some, bx_thr, bd_def, nx_in, ↓nO_eq, l0, l1, l2, l3, l4, l5, l6, l7, l8, l30, l50, l64, l100, l200, l448, l1200, iN_add, iN_lt, iN_le, iN_inj, iN_clamp, iN_inb, iN_nO, nO_iN, nO_lt, iN_ltm, iN_lem, nO_le, iN_pred, if_pos, if_neg, ↓reduceIte, or_true, true_or, and_true, true_and, ne_eq, not_true_eq_false, not_false_eq_true, false_or, or_false, and_false, false_and, f_X3_trialIsBetter, f_X3_lackOf_17, f_X3_lackOf_16, f_X3_homingOf_17, f_X3_homingOf_16, l7, l6, h7, h6, bI_f]
      · rw [decide_eq_true (hlt.mpr (Or.inr ⟨c2, by omega⟩))]
        simp (disch := omega) only [gd_t, gd_T, bx_some, bx_thr, bd_def, nx_in, ↓nO_eq, l0, l1, l2, l3, l4, l5, l6, l7, l8, l30, l50, l64, l100, l200, l448, l1200, iN_add, iN_lt, iN_le, iN_inj, iN_clamp, iN_inb, iN_nO, nO_iN, nO_lt, iN_ltm, iN_lem, nO_le, iN_pred, if_pos, if_neg, ↓reduceIte, or_true, true_or, and_true, true_and, ne_eq, not_true_eq_false, not_false_eq_true, false_or, or_false, and_false, false_and, f_X3_trialIsBetter, f_X3_lackOf_17, f_X3_lackOf_16, f_X3_homingOf_17, f_X3_homingOf_16, l7, l6, h7, h6, bI_t]
    · rw [decide_eq_false (by rw [hlt]; omega)]
      simp (disch := omega) only [gd_t, gd_T, bx_some, bx_thr, bd_def, nx_in, ↓nO_eq, l0, l1, l2, l3, l4, l5, l6, l7, l8, l30, l50, l64, l100, l200, l448, l1200, iN_add, iN_lt, iN_le, iN_inj, iN_clamp, iN_inb, iN_nO, nO_iN, nO_lt, iN_ltm, iN_lem, nO_le, iN_pred, if_pos, if_neg, ↓reduceIte, or_true, true_or, and_true, true_and, ne_eq, not_true_eq_false, not_false_eq_true, false_or, or_false, and_false, false_and, f_X3_trialIsBetter, f_X3_lackOf_17, f_X3_lackOf_16, l7, l6, bI_f]
theorem alw_at {P : Pb} {d : Nat} {fr : Nat → Bool} {c : Nat} (l : List Nat) : alw P d fr (c :: l) = if c = P.1 then alw P (d + 1) fr l else (fr c && P.2.1 d c) && alw P (d + 1) (rm fr c) l := id rfl
/-- used ones: the bits of those that are free no more -/
theorem allowL {A : Ab} {σ : Wd} {l : List Nat} (M : Mrn A σ) (G : Gd A) (V : Tri A σ l) : ∀ (k d n us : Nat) (fr : Nat → Bool), nD A - d = k → k < n → d ≤ nD A → us < 64 → (∀ u, u < nU A → us.testBit u = !fr u) → l_X3_trialIsAllowed_4 n σ (iN d) (iN us) = some (.inl (bI (alw (PA A) d fr (l.drop d))), σ)
  | 0, d, n, us, fr, hk, hn, hd, hu, hb => by
    obtain ⟨m, rfl⟩ : ∃ m, n = m + 1 := ⟨n - 1, by omega⟩
    have g7 := G.2.1
    have hdq : d = nD A := by omega
    subst hdq
    have h7 := M.2.1
    have e : l.drop (nD A) = [] := List.drop_eq_nil_of_le (by rw [V.1]; exact Nat.le_refl _)
    rw [e, show alw (PA A) (nD A) fr [] = true from rfl]
    simp (disch := omega) only [gd_t, gd_T, bx_some, bx_thr, bd_def, nx_in, ↓nO_eq, l0, l1, l2, l3, l4, l5, l6, l7, l8, l30, l50, l64, l100, l200, l448, l1200, iN_add, iN_lt, iN_le, iN_inj, iN_clamp, iN_inb, iN_nO, nO_iN, nO_lt, iN_ltm, iN_lem, nO_le, iN_pred, if_pos, if_neg, ↓reduceIte, or_true, true_or, and_true, true_and, ne_eq, not_true_eq_false, not_false_eq_true, false_or, or_false, and_false, false_and, l_X3_trialIsAllowed_4, h7, bI_t]
  | k + 1, d, n, us, fr, hk, hn, hd, hu, hb => by
    obtain ⟨m, rfl⟩ : ∃ m, n = m + 1 := ⟨n - 1, by omega⟩
    have g6 := G.1
    have g7 := G.2.1
    have hdd : d < nD A := by omega
    have h7 := M.2.1
    obtain ⟨c, hc, hcn, ha⟩ := tri_at g7 V hdd
    obtain ⟨t, h, ht, hh, e14, e15, eb⟩ := (M.2.2 d hdd).2
    rw [drop_at hc, alw_at]
    by_cases hcu : c = nU A
    · have ec : chv (nU A) c = nO := if_pos hcu
      rw [ec] at ha
      have ih := allowL M G V k (d + 1) m us fr (by omega) (by omega) (by omega) hu hb
      rw [if_pos (show c = (PA A).1 from hcu), ← ih]
      simp (disch := omega) only [gd_t, gd_T, bx_some, bx_thr, bd_def, nx_in, ↓nO_eq, l0, l1, l2, l3, l4, l5, l6, l7, l8, l30, l50, l64, l100, l200, l448, l1200, iN_add, iN_lt, iN_le, iN_inj, iN_clamp, iN_inb, iN_nO, nO_iN, nO_lt, iN_ltm, iN_lem, nO_le, iN_pred, if_pos, if_neg, ↓reduceIte, or_true, true_or, and_true, true_and, ne_eq, not_true_eq_false, not_false_eq_true, false_or, or_false, and_false, false_and, l_X3_trialIsAllowed_4, h7, ha]
    · have ec : chv (nU A) c = iN c := if_neg hcu
      rw [ec] at ha
      have hcl : c < nU A := by omega
      rw [if_neg (show ¬ c = (PA A).1 from hcu), show (PA A).2.1 d c = mayA A d c from rfl]
      have h1 := x3_has (σ := σ) hu (by omega : c < 6)
      have h2 := x3_has (σ := σ) ht (by omega : c < 6)
      rw [hb c hcl] at h1
      rw [(eb c hcl).1] at h2
      cases hfr : fr c with
      | false =>
        rw [hfr] at h1
        rw [Bool.false_and, Bool.false_and]
        simp (disch := omega) only [gd_t, gd_T, bx_some, bx_thr, bd_def, nx_in, ↓nO_eq, l0, l1, l2, l3, l4, l5, l6, l7, l8, l30, l50, l64, l100, l200, l448, l1200, iN_add, iN_lt, iN_le, iN_inj, iN_clamp, iN_inb, iN_nO, nO_iN, nO_lt, iN_ltm, iN_lem, nO_le, iN_pred, if_pos, if_neg, ↓reduceIte, or_true, true_or, and_true, true_and, ne_eq, not_true_eq_false, not_false_eq_true, false_or, or_false, and_false, false_and, l_X3_trialIsAllowed_4, h7, ha, h1, Bool.not_false, bI_t, bI_f]
      | true =>
        rw [hfr] at h1
        rw [Bool.true_and]
        cases hma : mayA A d c with
        | false =>
          rw [hma] at h2
          rw [Bool.false_and]
          simp (disch := omega) only [gd_t, gd_T, bx_some, bx_thr, bd_def, nx_in, ↓nO_eq, l0, l1, l2, l3, l4, l5, l6, l7, l8, l30, l50, l64, l100, l200, l448, l1200, iN_add, iN_lt, iN_le, iN_inj, iN_clamp, iN_inb, iN_nO, nO_iN, nO_lt, iN_ltm, iN_lem, nO_le, iN_pred, if_pos, if_neg, ↓reduceIte, or_true, true_or, and_true, true_and, ne_eq, not_true_eq_false, not_false_eq_true, false_or, or_false, and_false, false_and, l_X3_trialIsAllowed_4, h7, ha, h1, Bool.not_true, bI_f, x3_at14 (σ := σ), e14, h2]
        | true =>
          rw [hma] at h2
          rw [Bool.true_and]
          have hor : ∃ us', us' < 64 ∧ (iN us ||| (iN 1 <<< (iN c &&& 31))) = iN us' ∧ ∀ u, u < nU A → us'.testBit u = !rm fr c u := by
            obtain ⟨o1, o2, o3⟩ := bit_or2 c (by omega) us hu
            refine ⟨_, o2, o1, fun u hu2 => ?_⟩
            rw [o3 u (by omega), hb u hu2]
            unfold rm
            cases fr u <;> simp
          obtain ⟨us', u1, u2, u3⟩ := hor
          have ih := allowL M G V k (d + 1) m us' (rm fr c) (by omega) (by omega) (by omega) u1 u3
          rw [← ih]
          simp (disch := omega) only [gd_t, gd_T, bx_some, bx_thr, bd_def, nx_in, ↓nO_eq, l0, l1, l2, l3, l4, l5, l6, l7, l8, l30, l50, l64, l100, l200, l448, l1200, iN_add, iN_lt, iN_le, iN_inj, iN_clamp, iN_inb, iN_nO, nO_iN, nO_lt, iN_ltm, iN_lem, nO_le, iN_pred, if_pos, if_neg, ↓reduceIte, or_true, true_or, and_true, true_and, ne_eq, not_true_eq_false, not_false_eq_true, false_or, or_false, and_false, false_and, l_X3_trialIsAllowed_4, h7, ha, h1, Bool.not_true, bI_f, bI_t, x3_at14 (σ := σ), e14, h2, u2]
