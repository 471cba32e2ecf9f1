theorem fill_9 {A : Ab} (G : Gd A) : ∀ (k f n : Nat) (σ : Wd), 2 ^ nU A - f = k → k < n → f ≤ 2 ^ nU A → Mrn A σ → (∀ x, x < f → σ.1 18 0 (64 * nD A + x) = iZ 0) → ∃ σ', l_X3_fillLeastCosts_9 n σ (iN f) (iN (2 ^ nU A)) = some (.inl (), σ') ∧ F18 σ σ' ∧ ∀ e, e ≤ nD A → Tab A σ' e
  | 0, f, n, σ, hk, hn, hf, M, hx => by
    obtain ⟨m, rfl⟩ : ∃ m, n = m + 1 := ⟨n - 1, by omega⟩
    have g6 := G.1
    have g7 := G.2.1
    have h64 := (bit_sets (nU A) (by omega)).2.2.1
    have hfq : f = 2 ^ nU A := by omega
    subst hfq
    have h7 := M.2.1
    obtain ⟨σ', q1, q2, q3⟩ := fill_44 G (nD A) FU σ (by unfold FU; omega) (Nat.le_refl _) M (fun e h1 h2 => by
      have he : e = nD A := by omega
      subst he
      intro x hxx
      rw [hx x hxx, Nat.sub_self]
      rfl)
    refine ⟨σ', ?_, q2, q3⟩
    have hp : iN (nD A) - iN 1 = pr (nD A) := pr_sub (nD A)
    simp (disch := omega) only [gd_t, gd_T, bx_some, bx_thr, bd_def, nx_in, ↓nO_eq, l0, l1, l2, l3, l4, l5, l6, l7, l8, l30, l50, l64, l100, l200, l448, l1200, iN_add, iN_lt, iN_le, iN_inj, iN_clamp, iN_inb, iN_nO, nO_iN, nO_lt, iN_ltm, iN_lem, nO_le, iN_pred, if_pos, if_neg, ↓reduceIte, or_true, true_or, and_true, true_and, ne_eq, not_true_eq_false, not_false_eq_true, false_or, or_false, and_false, false_and, l_X3_fillLeastCosts_9, h7, hp, q1]
  | k + 1, f, n, σ, hk, hn, hf, M, hx => by
    obtain ⟨m, rfl⟩ : ∃ m, n = m + 1 := ⟨n - 1, by omega⟩
    have g6 := G.1
    have g7 := G.2.1
    have h64 := (bit_sets (nU A) (by omega)).2.2.1
    have h7 := M.2.1
    have hp := put18 (σ := σ) (i := 64 * nD A + f) (by omega) (iN 0)
    have hi : nD A * 64 + f = 64 * nD A + f := by omega
    have hF : F18 σ (wr σ 18 0 (64 * nD A + f) (iN 0)) := (F18.rf σ).wr (by decide)
    obtain ⟨σ', q1, q2, q3⟩ := fill_9 G k (f + 1) m (wr σ 18 0 (64 * nD A + f) (iN 0)) (by omega) (by omega) (by omega) (M.f18 hF) (fun x hxx => by
      rw [wr_rd]
      by_cases h : x = f
      · rw [if_pos ⟨rfl, rfl, by omega⟩]; rfl
      · rw [if_neg (by omega)]
        exact hx x (by omega))
    refine ⟨σ', ?_, hF.tr q2, q3⟩
    rw [← q1]
    simp (disch := omega) only [gd_t, gd_T, bx_some, bx_thr, bd_def, nx_in, ↓nO_eq, l0, l1, l2, l3, l4, l5, l6, l7, l8, l30, l50, l64, l100, l200, l448, l1200, iN_add, iN_lt, iN_le, iN_inj, iN_clamp, iN_inb, iN_nO, nO_iN, nO_lt, iN_ltm, iN_lem, nO_le, iN_pred, if_pos, if_neg, ↓reduceIte, or_true, true_or, and_true, true_and, ne_eq, not_true_eq_false, not_false_eq_true, false_or, or_false, and_false, false_and, l_X3_fillLeastCosts_9, h7, iN_mul, hi, hp]
theorem fill_ok {A : Ab} {σ : Wd} (G : Gd A) (M : Mrn A σ) : ∃ σ', f_X3_fillLeastCosts σ = some (.inl (), σ') ∧ F18 σ σ' ∧ ∀ e, e ≤ nD A → Tab A σ' e := by
  have g6 := G.1
  have hs := bit_sets (nU A) (by omega)
  have h64 := hs.2.2.1
  obtain ⟨σ', q1, q2, q3⟩ := fill_9 G (2 ^ nU A) 0 FU σ rfl (by unfold FU; omega) (Nat.zero_le _) M (fun x hx => absurd hx (Nat.not_lt_zero _))
  refine ⟨σ', ?_, q2, q3⟩
  unfold f_X3_fillLeastCosts
  rw [M.1, hs.1, bd_def]
  exact q1
theorem low_L {A : Ab} {σ : Wd} (M : Mrn A σ) (G : Gd A) {d : Nat} (hd : d < nD A) (hT : Tab A σ (d + 1)) {f t : Nat} (hf : f < 2 ^ nU A) (ht : t < 64) (htb : ∀ u, u < nU A → t.testBit u = mayA A d u) {v : Int} (hv1 : -1000 ≤ v) (hv2 : v ≤ 10000) : ∀ (k u n : Nat), nU A - u = k → k < n → u ≤ nU A → l_X3_lowestOfLeastCost_31 n σ (iN u) (iN (f &&& t)) (iZ v) (iN d) (iN f) = some (.inl (chv (nU A) (pck (nU A) (fun u => f.testBit u && mayA A d u) (fun u => hc (PA A) d u + Lq (PA A) (nD A - (d + 1)) (d + 1) (rm f.testBit u)) v u k)), σ)
  | 0, u, n, hk, hn, hu => by
    obtain ⟨m, rfl⟩ : ∃ m, n = m + 1 := ⟨n - 1, by omega⟩
    have g6 := G.1
    have huq : u = nU A := by omega
    subst huq
    have h6 := M.1
    have e : chv (nU A) (pck (nU A) (fun u => f.testBit u && mayA A d u) (fun u => hc (PA A) d u + Lq (PA A) (nD A - (d + 1)) (d + 1) (rm f.testBit u)) v (nU A) 0) = nO := if_pos rfl
    rw [e]
    simp (disch := omega) only [gd_t, gd_T, bx_some, bx_thr, bd_def, nx_in, ↓nO_eq, l0, l1, l2, l3, l4, l5, l6, l7, l8, l30, l50, l64, l100, l200, l448, l1200, iN_add, iN_lt, iN_le, iN_inj, iN_clamp, iN_inb, iN_nO, nO_iN, nO_lt, iN_ltm, iN_lem, nO_le, iN_pred, if_pos, if_neg, ↓reduceIte, or_true, true_or, and_true, true_and, ne_eq, not_true_eq_false, not_false_eq_true, false_or, or_false, and_false, false_and, l_X3_lowestOfLeastCost_31, h6]
  | k + 1, u, n, hk, hn, hu => by
    obtain ⟨m, rfl⟩ : ∃ m, n = m + 1 := ⟨n - 1, by omega⟩
    have g6 := G.1
    have g7 := G.2.1
    have huu : u < nU A := by omega
    have h6 := M.1
    have h64 := (bit_sets (nU A) (by omega)).2.2.1
    have hcu := cost_u M G hd hT hf huu
    have hr := Lq_rng G (k := nD A - (d + 1)) (d := d + 1) (by omega) (rm f.testBit u)
    have hh := x3_has (σ := σ) (and_lt (t := t) (by omega : f < 64)) (by omega : u < 6)
    rw [Nat.testBit_and, htb u huu] at hh
    have hcr : -1 ≤ hc (PA A) d u ∧ hc (PA A) d u ≤ 0 := by
      unfold hc
      split <;> omega
    have e : pck (nU A) (fun u => f.testBit u && mayA A d u) (fun u => hc (PA A) d u + Lq (PA A) (nD A - (d + 1)) (d + 1) (rm f.testBit u)) v u (k + 1) = if (f.testBit u && mayA A d u) = true ∧ hc (PA A) d u + Lq (PA A) (nD A - (d + 1)) (d + 1) (rm f.testBit u) = v then u else pck (nU A) (fun u => f.testBit u && mayA A d u) (fun u => hc (PA A) d u + Lq (PA A) (nD A - (d + 1)) (d + 1) (rm f.testBit u)) v (u + 1) k := rfl
    rw [e]
    have ih := low_L M G hd hT hf ht htb hv1 hv2 k (u + 1) m (by omega) (by omega) (by omega)
    by_cases hb : (f.testBit u && mayA A d u) = true
    · rw [hb] at hh
      generalize hval : hc (PA A) d u + Lq (PA A) (nD A - (d + 1)) (d + 1) (rm f.testBit u) = w at *
      by_cases hlt : w = v
      · have hlt2 : iZ w = iZ v := by rw [hlt]
        have ec : chv (nU A) u = iN u := if_neg (by omega)
        rw [if_pos ⟨hb, hlt⟩, ec]
        simp (disch := omega) only [gd_t, gd_T, bx_some, bx_thr, bd_def, nx_in, ↓nO_eq, l0, l1, l2, l3, l4, l5, l6, l7, l8, l30, l50, l64, l100, l200, l448, l1200, iN_add, iN_lt, iN_le, iN_inj, iN_clamp, iN_inb, iN_nO, nO_iN, nO_lt, iN_ltm, iN_lem, nO_le, iN_pred, if_pos, if_neg, ↓reduceIte, or_true, true_or, and_true, true_and, ne_eq, not_true_eq_false, not_false_eq_true, false_or, or_false, and_false, false_and, l_X3_lowestOfLeastCost_31, h6, hh, bI_t, hcu, hlt2]
      · have hlt2 : ¬ iZ w = iZ v := fun z => hlt ((iZ_inj (by omega) (by omega) (by omega) (by omega)).mp z)
        rw [if_neg (fun z => hlt z.2), ← ih]
        simp (disch := omega) only [gd_t, gd_T, bx_some, bx_thr, bd_def, nx_in, ↓nO_eq, l0, l1, l2, l3, l4, l5, l6, l7, l8, l30, l50, l64, l100, l200, l448, l1200, iN_add, iN_lt, iN_le, iN_inj, iN_clamp, iN_inb, iN_nO, nO_iN, nO_lt, iN_ltm, iN_lem, nO_le, iN_pred, if_pos, if_neg, ↓reduceIte, or_true, true_or, and_true, true_and, ne_eq, not_true_eq_false, not_false_eq_true, false_or, or_false, and_false, false_and, l_X3_lowestOfLeastCost_31, h6, hh, bI_t, hcu, hlt2]
    · have hb2 : (f.testBit u && mayA A d u) = false := by simpa using hb
      rw [hb2] at hh
      rw [if_neg (fun z => hb z.1), ← ih]
      simp (disch := omega) only [gd_t, gd_T, bx_some, bx_thr, bd_def, nx_in, ↓nO_eq, l0, l1, l2, l3, l4, l5, l6, l7, l8, l30, l50, l64, l100, l200, l448, l1200, iN_add, iN_lt, iN_le, iN_inj, iN_clamp, iN_inb, iN_nO, nO_iN, nO_lt, iN_ltm, iN_lem, nO_le, iN_pred, if_pos, if_neg, ↓reduceIte, or_true, true_or, and_true, true_and, ne_eq, not_true_eq_false, not_false_eq_true, false_or, or_false, and_false, false_and, l_X3_lowestOfLeastCost_31, h6, hh, bI_f]
theorem low_ok {A : Ab} {σ : Wd} (M : Mrn A σ) (G : Gd A) {d k : Nat} (hd : d + (k + 1) = nD A) (hT : ∀ e, e ≤ nD A → Tab A σ e) {f : Nat} (hf : f < 2 ^ nU A) : f_X3_lowestOfLeastCost σ (iN d) (iN f) = some (.inl (chv (nU A) (ch1 (PA A) k d f.testBit)), σ) := by
  have g6 := G.1
  have g7 := G.2.1
  have h64 := (bit_sets (nU A) (by omega)).2.2.1
  obtain ⟨t, h, ht, hh, e14, e15, eb⟩ := (M.2.2 d (by omega)).2
  have hv := hT d (by omega) f hf
  have hk : nD A - d = k + 1 := by omega
  rw [hk] at hv
  have hr := Lq_rng G (k := k + 1) (d := d) (by omega) f.testBit
  have hl := low_L M G (by omega : d < nD A) (hT (d + 1) (by omega)) hf ht (fun u hu => (eb u hu).1) (v := Lq (PA A) (k + 1) d f.testBit) (by omega) (by omega) (nU A) 0 FU rfl (by unfold FU; omega) (Nat.zero_le _)
  have hk2 : nD A - (d + 1) = k := by omega
  rw [hk2] at hl
  have ea := bit_and f (by omega) t ht
  have hi : d * 64 + f = 64 * d + f := by omega
  show _ = some (Sum.inl (chv (nU A) (pck (nU A) (fun u => f.testBit u && mayA A d u) (fun u => hc (PA A) d u + Lq (PA A) k (d + 1) (rm f.testBit u)) (Lq (PA A) (k + 1) d f.testBit) 0 (nU A))), σ)
  rw [← hl]
  simp (disch := omega) only [gd_t, gd_T, bx_some, bx_thr, bd_def, nx_in, ↓nO_eq, l0, l1, l2, l3, l4, l5, l6, l7, l8, l30, l50, l64, l100, l200, l448, l1200, iN_add, iN_lt, iN_le, iN_inj, iN_clamp, iN_inb, iN_nO, nO_iN, nO_lt, iN_ltm, iN_lem, nO_le, iN_pred, if_pos, if_neg, ↓reduceIte, or_true, true_or, and_true, true_and, ne_eq, not_true_eq_false, not_false_eq_true, false_or, or_false, and_false, false_and, f_X3_lowestOfLeastCost, iN_mul, hi, at18 (σ := σ), hv, x3_at14 (σ := σ), e14, ea]
theorem put16 {σ : Wd} {i : Nat} (hi : i < 6) (v : Int32) : f_X3_put_16 σ (iN i) v = some (.inl (), wr σ 16 0 i v) := by
  simp (disch := omega) only [gd_t, gd_T, bx_some, bx_thr, bd_def, nx_in, ↓nO_eq, l0, l1, l2, l3, l4, l5, l6, l7, l8, l30, l50, l64, l100, l200, l448, l1200, iN_add, iN_lt, iN_le, iN_inj, iN_clamp, iN_inb, iN_nO, nO_iN, nO_lt, iN_ltm, iN_lem, nO_le, iN_pred, if_pos, if_neg, ↓reduceIte, or_true, true_or, and_true, true_and, ne_eq, not_true_eq_false, not_false_eq_true, false_or, or_false, and_false, false_and, f_X3_put_16]
theorem ch1_le (P : Pb) (k d : Nat) (fr : Nat → Bool) : ch1 P k d fr ≤ P.1 := by
  rcases pck_or P.1 (fun u => fr u && P.2.1 d u) (fun u => hc P d u + Lq P k (d + 1) (rm fr u)) (Lq P (k + 1) d fr) P.1 0 with ⟨h1, h2⟩ | ⟨h1, h2, h3, h4, h5⟩
  · exact Nat.le_of_eq h1
  · have : ch1 P k d fr < 0 + P.1 := h2
    omega
theorem give_L {A : Ab} (G : Gd A) : ∀ (k d n f : Nat) (σ : Wd), d + k = nD A → k < n → f < 2 ^ nU A → Mrn A σ → (∀ e, e ≤ nD A → Tab A σ e) → ∃ σ', l_X3_allocateByParts_15 n σ (iN d) (iN f) = some (.inl (), σ') ∧ F18 σ σ' ∧ (∀ i c, (PT (PA A) k d f.testBit)[i]? = some c → σ'.1 16 0 (d + i) = chv (nU A) c) ∧ ∀ e, e < d → σ'.1 16 0 e = σ.1 16 0 e
  | 0, d, n, f, σ, hd, hn, hf, M, hT => by
    obtain ⟨m, rfl⟩ : ∃ m, n = m + 1 := ⟨n - 1, by omega⟩
    have g7 := G.2.1
    have h7 := M.2.1
    refine ⟨σ, ?_, F18.rf σ, fun i c h => by simp [PT] at h, fun _ _ => rfl⟩
    simp (disch := omega) only [gd_t, gd_T, bx_some, bx_thr, bd_def, nx_in, ↓nO_eq, l0, l1, l2, l3, l4, l5, l6, l7, l8, l30, l50, l64, l100, l200, l448, l1200, iN_add, iN_lt, iN_le, iN_inj, iN_clamp, iN_inb, iN_nO, nO_iN, nO_lt, iN_ltm, iN_lem, nO_le, iN_pred, if_pos, if_neg, ↓reduceIte, or_true, true_or, and_true, true_and, ne_eq, not_true_eq_false, not_false_eq_true, false_or, or_false, and_false, false_and, l_X3_allocateByParts_15, h7]
  | k + 1, d, n, f, σ, hd, hn, hf, M, hT => by
    obtain ⟨m, rfl⟩ : ∃ m, n = m + 1 := ⟨n - 1, by omega⟩
    have g6 := G.1
    have g7 := G.2.1
    have h7 := M.2.1
    have h64 := (bit_sets (nU A) (by omega)).2.2.1
    have hl := low_ok M G hd hT hf
    have hcl := ch1_le (PA A) k d f.testBit
    have hPT : PT (PA A) (k + 1) d f.testBit = ch1 (PA A) k d f.testBit :: PT (PA A) k (d + 1) (rm' (nU A) f.testBit (ch1 (PA A) k d f.testBit)) := rfl
    have hn2 : ch1 (PA A) k d f.testBit ≤ nU A := hcl
    generalize ch1 (PA A) k d f.testBit = c at *
    have hF : F18 σ (wr σ 16 0 d (chv (nU A) c)) := (F18.rf σ).wr (by decide)
    have hwo : ∃ f', f' < 2 ^ nU A ∧ f'.testBit = rm' (nU A) f.testBit c ∧ f_X3_without (wr σ 16 0 d (chv (nU A) c)) (iN f) (chv (nU A) c) = some (.inl (iN f'), wr σ 16 0 d (chv (nU A) c)) := by
      by_cases hc : c = nU A
      · refine ⟨f, hf, ?_, ?_⟩
        · unfold rm'; rw [if_pos hc]
        · have ec : chv (nU A) c = nO := if_pos hc
          rw [ec]; exact x3_wo0
      · have hbc := bit_clr c (by omega) f (by omega)
        refine ⟨clr f c, by have := hbc.2.1; omega, ?_, ?_⟩
        · unfold rm'
          rw [if_neg hc]
          exact clr_bits (by omega) (by omega)
        · have ec : chv (nU A) c = iN c := if_neg hc
          rw [ec]; exact x3_wo (by omega) (by omega)
    obtain ⟨f', hf', hfb, hw⟩ := hwo
    obtain ⟨σ', q1, q2, q3, q4⟩ := give_L G k (d + 1) m f' (wr σ 16 0 d (chv (nU A) c)) (by omega) (by omega) hf' (M.f18 hF) (fun e he x hx => by
      rw [wr_rd, if_neg (by omega)]
      exact hT e he x hx)
    rw [hfb] at q3
    refine ⟨σ', ?_, hF.tr q2, fun i x hx => ?_, fun e he => ?_⟩
    · rw [← q1]
      simp (disch := omega) only [gd_t, gd_T, bx_some, bx_thr, bd_def, nx_in, ↓nO_eq, l0, l1, l2, l3, l4, l5, l6, l7, l8, l30, l50, l64, l100, l200, l448, l1200, iN_add, iN_lt, iN_le, iN_inj, iN_clamp, iN_inb, iN_nO, nO_iN, nO_lt, iN_ltm, iN_lem, nO_le, iN_pred, if_pos, if_neg, ↓reduceIte, or_true, true_or, and_true, true_and, ne_eq, not_true_eq_false, not_false_eq_true, false_or, or_false, and_false, false_and, l_X3_allocateByParts_15, h7, hl, put16 (σ := σ), hw]
    · rw [hPT] at hx
      cases i with
      | zero =>
        cases hx
        rw [Nat.add_zero, q4 d (by omega), wr_same]
      | succ i =>
        have := q3 i x hx
        rw [show d + (i + 1) = d + 1 + i from by omega]
        exact this
    · rw [q4 e (by omega), wr_rd, if_neg (by omega)]
/-- the allocation stands as given -/
def Giv (A : Ab) (σ : Wd) : Prop := ∀ d c, (bestA A)[d]? = some c → σ.1 16 0 d = chv (nU A) c
theorem parts_ok {A : Ab} {σ : Wd} (G : Gd A) (M : Mrn A σ) : ∃ σ', f_X3_allocateByParts σ = some (.inl (), σ') ∧ F18 σ σ' ∧ Giv A σ' := by
  have g6 := G.1
  have g7 := G.2.1
  have hs := bit_sets (nU A) (by omega)
  obtain ⟨σ1, q1, q2, q3⟩ := fill_ok G M
  have M1 := M.f18 q2
  obtain ⟨σ2, z1, z2, z3, _⟩ := give_L G (nD A) 0 FU (2 ^ nU A - 1) σ1 (by omega) (by unfold FU; omega) (by omega) M1 q3
  refine ⟨σ2, ?_, q2.tr z2, fun d c hd => ?_⟩
  · unfold f_X3_allocateByParts
    rw [q1, bx_some, M1.1, hs.1, hs.2.1, bd_def]
    exact z1
  · have e : (2 ^ nU A - 1).testBit = fr0 A := by
      funext x
      exact Nat.testBit_two_pow_sub_one (nU A) x
    rw [e] at z3
    have := z3 d c hd
    rw [Nat.zero_add] at this
    exact this
theorem giv_at {A : Ab} {σ : Wd} (g7 : nD A ≤ 6) (V : Giv A σ) {d : Nat} (hd : d < nD A) : ∃ c, (bestA A)[d]? = some c ∧ c ≤ nU A ∧ f_X3_at_16 σ (iN d) nO = some (.inl (chv (nU A) c), σ) := by
  have hl := (bestA_len A).1
  have hg := List.getElem?_eq_getElem (l := bestA A) (i := d) (by omega)
  refine ⟨_, hg, (bestA_len A).2 _ (List.mem_of_getElem? hg), ?_⟩
  have hv := V d _ hg
  simp (disch := omega) only [gd_t, gd_T, bx_some, bx_thr, bd_def, nx_in, ↓nO_eq, l0, l1, l2, l3, l4, l5, l6, l7, l8, l30, l50, l64, l100, l200, l448, l1200, iN_add, iN_lt, iN_le, iN_inj, iN_clamp, iN_inb, iN_nO, nO_iN, nO_lt, iN_ltm, iN_lem, nO_le, iN_pred, if_pos, if_neg, ↓reduceIte, or_true, true_or, and_true, true_and, ne_eq, not_true_eq_false, not_false_eq_true, false_or, or_false, and_false, false_and, f_X3_at_16, hv]
theorem lackL {A : Ab} {σ : Wd} (M : Mrn A σ) (G : Gd A) (V : Giv A σ) : ∀ (k d n : Nat), nD A - d = k → k < n → d ≤ nD A → l_X3_lackOf_16_4 n σ (iN d) (iN (lk (PA A) 0 ((bestA A).take d))) = some (.inl (iN (lk (PA A) 0 (bestA A))), σ)
  | 0, d, n, hk, hn, hd => by
    obtain ⟨m, rfl⟩ : ∃ m, n = m + 1 := ⟨n - 1, by omega⟩
    have g7 := G.2.1
    have hdq : d = nD A := by omega
    subst hdq
    have h7 := M.2.1
    have e : (bestA A).take (nD A) = bestA A := by rw [← (bestA_len A).1, List.take_length]
    rw [e]
    simp (disch := omega) only [gd_t, gd_T, bx_some, bx_thr, bd_def, nx_in, ↓nO_eq, l0, l1, l2, l3, l4, l5, l6, l7, l8, l30, l50, l64, l100, l200, l448, l1200, iN_add, iN_lt, iN_le, iN_inj, iN_clamp, iN_inb, iN_nO, nO_iN, nO_lt, iN_ltm, iN_lem, nO_le, iN_pred, if_pos, if_neg, ↓reduceIte, or_true, true_or, and_true, true_and, ne_eq, not_true_eq_false, not_false_eq_true, false_or, or_false, and_false, false_and, l_X3_lackOf_16_4, h7]
  | k + 1, d, n, hk, hn, hd => by
    obtain ⟨m, rfl⟩ : ∃ m, n = m + 1 := ⟨n - 1, by omega⟩
    have g6 := G.1
    have g7 := G.2.1
    have hdd : d < nD A := by omega
    have h7 := M.2.1
    obtain ⟨c, hc, hcn, ha⟩ := giv_at g7 V hdd
    have e13 := (M.2.2 d hdd).1
    have hw := (PA_w G hdd).1
    have ih := lackL M G V k (d + 1) m (by omega) (by omega) (by omega)
    have hl := (bestA_len A).1
    have htk : (bestA A).take (d + 1) = (bestA A).take d ++ [c] := by
      have hg := (List.getElem?_eq_some_iff.mp hc)
      rw [List.take_succ, hc]
      rfl
    rw [htk, lk_app, Nat.zero_add, List.length_take, Nat.min_eq_left (by omega)] at ih
    have e2 : lk (PA A) d [c] = if c = nU A then (PA A).2.2.1 d else 0 := Nat.add_zero _
    rw [e2] at ih
    rw [← ih]
    by_cases h : c = nU A
    · have ec : chv (nU A) c = nO := if_pos h
      rw [ec] at ha
      rw [if_pos h]
      simp (disch := omega) only [gd_t, gd_T, bx_some, bx_thr, bd_def, nx_in, ↓nO_eq, l0, l1, l2, l3, l4, l5, l6, l7, l8, l30, l50, l64, l100, l200, l448, l1200, iN_add, iN_lt, iN_le, iN_inj, iN_clamp, iN_inb, iN_nO, nO_iN, nO_lt, iN_ltm, iN_lem, nO_le, iN_pred, if_pos, if_neg, ↓reduceIte, or_true, true_or, and_true, true_and, ne_eq, not_true_eq_false, not_false_eq_true, false_or, or_false, and_false, false_and, l_X3_lackOf_16_4, h7, ha, x3_at13 (σ := σ), e13, hw]
    · have ec : chv (nU A) c = iN c := if_neg h
      rw [ec] at ha
      rw [if_neg h]
      simp (disch := omega) only [gd_t, gd_T, bx_some, bx_thr, bd_def, nx_in, ↓nO_eq, l0, l1, l2, l3, l4, l5, l6, l7, l8, l30, l50, l64, l100, l200, l448, l1200, iN_add, iN_lt, iN_le, iN_inj, iN_clamp, iN_inb, iN_nO, nO_iN, nO_lt, iN_ltm, iN_lem, nO_le, iN_pred, if_pos, if_neg, ↓reduceIte, or_true, true_or, and_true, true_and, ne_eq, not_true_eq_false, not_false_eq_true, false_or, or_false, and_false, false_and, l_X3_lackOf_16_4, h7, ha, Nat.add_zero]
theorem lack_ok {A : Ab} {σ : Wd} (M : Mrn A σ) (G : Gd A) (V : Giv A σ) : f_X3_lackOfGiven σ = some (.inl (iN (lk (PA A) 0 (bestA A))), σ) := by
  have := lackL M G V (nD A) 0 FU rfl (by have := G.2.1; unfold FU; omega) (Nat.zero_le _)
  unfold f_X3_lackOfGiven f_X3_lackOf_16
  rw [show (0 : Int32) = iN (lk (PA A) 0 ((bestA A).take 0)) from rfl, show l_X3_lackOf_16_4 FU σ (iN (lk (PA A) 0 ((bestA A).take 0))) (iN (lk (PA A) 0 ((bestA A).take 0))) = some (.inl (iN (lk (PA A) 0 (bestA A))), σ) from this, bx_some]
