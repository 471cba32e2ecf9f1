/-! the reference decides -/
def Fs (σ σ' : Wd) : Prop := σ'.2 = σ.2 ∧ ∀ t, ¬ (58 ≤ t ∧ t ≤ 60) → σ'.1 t = σ.1 t
theorem Fs.rf (σ : Wd) : Fs σ σ := ⟨rfl, fun _ _ => rfl⟩
theorem Fs.tr {a b c : Wd} (h : Fs a b) (h2 : Fs b c) : Fs a c := ⟨h2.1.trans h.1, fun t x => (h2.2 t x).trans (h.2 t x)⟩
theorem Fs.wr {σ τ : Wd} (h : Fs σ τ) {t i k : Nat} {v : Int32} (ht : 58 ≤ t ∧ t ≤ 60) : Fs σ (wr τ t i k v) := by
  refine ⟨h.1, fun t' x => ?_⟩
  rw [← h.2 t' x]
  funext i' k'
  rw [wr_rd, if_neg (by omega)]
theorem RR.fs {σ τ : Wd} {A : Ab} (h : RR σ A) (hF : Fs σ τ) : RR τ A := h.fr (fun t a b => hF.2 t (by omega))
theorem may_v {A : Ab} {σ : Wd} (T : RR σ A) (G : Gd A) {u d : Nat} (hu : u < nU A) (hd : d < nD A) (k23 : Wd → Int32 → Option ((Unit ⊕ String) × Wd)) (n : Nat) : l_X10_decides_51 k23 (n + 1) σ (iN d) (iN u) = l_X10_decides_51 k23 n (wr σ 59 0 (6 * d + u) (bI (mayA A d u))) (iN (d + 1)) (iN u) := by
  have g6 := G.1
  have g7 := G.2.1
  have h19 := T.1.2.1
  have hr := m_reason T G hu hd
  have h49 := (T.2.2.2.1 d hd).2.2.2.2.2
  have n1 : vp_nar .boolean (iN 1) = iN 1 := nar_b true
  have n0 : vp_nar .boolean (iN 0) = iN 0 := nar_b false
  unfold mayA
  by_cases h1 : rsn A u d = iN 0
  · by_cases h2 : A.1 49 d 0 = nO
    · simp (disch := omega) only [gd_t, gd_T, bx_some, bx_thr, bd_def, nx_in, ↓nO_eq, l0, l1, l2, l3, l4, l5, l6, l7, l8, l30, l50, l64, l100, l200, l448, l1200, iN_add, iN_lt, iN_le, iN_inj, iN_clamp, iN_inb, iN_nO, nO_iN, nO_lt, iN_ltm, iN_lem, nO_le, iN_pred, if_pos, if_neg, ↓reduceIte, or_true, true_or, and_true, true_and, ne_eq, not_true_eq_false, not_false_eq_true, false_or, or_false, and_false, false_and, l_X10_decides_51, h19, hr, h49, h1, h2, iN_mul, n1, decide_true, Bool.true_or, Bool.and_true, bI_t]
    · by_cases h3 : A.1 49 d 0 = iN u
      · simp (disch := omega) only [gd_t, gd_T, bx_some, bx_thr, bd_def, nx_in, ↓nO_eq, l0, l1, l2, l3, l4, l5, l6, l7, l8, l30, l50, l64, l100, l200, l448, l1200, iN_add, iN_lt, iN_le, iN_inj, iN_clamp, iN_inb, iN_nO, nO_iN, nO_lt, iN_ltm, iN_lem, nO_le, iN_pred, if_pos, if_neg, ↓reduceIte, or_true, true_or, and_true, true_and, ne_eq, not_true_eq_false, not_false_eq_true, false_or, or_false, and_false, false_and, l_X10_decides_51, h19, hr, h49, h1, h2, h3, iN_mul, n1, decide_true, decide_false, Bool.false_or, Bool.and_true, bI_t]
      · simp (disch := omega) only [gd_t, gd_T, bx_some, bx_thr, bd_def, nx_in, ↓nO_eq, l0, l1, l2, l3, l4, l5, l6, l7, l8, l30, l50, l64, l100, l200, l448, l1200, iN_add, iN_lt, iN_le, iN_inj, iN_clamp, iN_inb, iN_nO, nO_iN, nO_lt, iN_ltm, iN_lem, nO_le, iN_pred, if_pos, if_neg, ↓reduceIte, or_true, true_or, and_true, true_and, ne_eq, not_true_eq_false, not_false_eq_true, false_or, or_false, and_false, false_and, l_X10_decides_51, h19, hr, h49, h1, h2, h3, iN_mul, n0, decide_true, decide_false, Bool.or_self, Bool.and_false, bI_f]
  · simp (disch := omega) only [gd_t, gd_T, bx_some, bx_thr, bd_def, nx_in, ↓nO_eq, l0, l1, l2, l3, l4, l5, l6, l7, l8, l30, l50, l64, l100, l200, l448, l1200, iN_add, iN_lt, iN_le, iN_inj, iN_clamp, iN_inb, iN_nO, nO_iN, nO_lt, iN_ltm, iN_lem, nO_le, iN_pred, if_pos, if_neg, ↓reduceIte, or_true, true_or, and_true, true_and, ne_eq, not_true_eq_false, not_false_eq_true, false_or, or_false, and_false, false_and, l_X10_decides_51, h19, hr, h1, iN_mul, n0, decide_false, Bool.false_and, bI_f]
theorem may_L {A : Ab} (G : Gd A) {u : Nat} (hu : u < nU A) (k23 : Wd → Int32 → Option ((Unit ⊕ String) × Wd)) : ∀ (k d n : Nat) (σ : Wd), nD A - d = k → k < n → d ≤ nD A → RR σ A → ∃ σ', l_X10_decides_51 k23 n σ (iN d) (iN u) = k23 σ' (iN (u + 1)) ∧ σ'.2 = σ.2 ∧ (∀ t, t ≠ 59 → σ'.1 t = σ.1 t) ∧ ∀ e v, v < 6 → σ'.1 59 0 (6 * e + v) = if v = u ∧ d ≤ e ∧ e < nD A then bI (mayA A e u) else σ.1 59 0 (6 * e + v)
  | 0, d, n, σ, hk, hn, hd, T => by
    obtain ⟨m, rfl⟩ : ∃ m, n = m + 1 := ⟨n - 1, by omega⟩
    have g6 := G.1
    have g7 := G.2.1
    have h19 := T.1.2.1
    have hdq : d = nD A := by omega
    subst hdq
    refine ⟨σ, ?_, rfl, fun _ _ => rfl, fun e v hv => ?_⟩
    · simp (disch := omega) only [gd_t, gd_T, bx_some, bx_thr, bd_def, nx_in, ↓nO_eq, l0, l1, l2, l3, l4, l5, l6, l7, l8, l30, l50, l64, l100, l200, l448, l1200, iN_add, iN_lt, iN_le, iN_inj, iN_clamp, iN_inb, iN_nO, nO_iN, nO_lt, iN_ltm, iN_lem, nO_le, iN_pred, if_pos, if_neg, ↓reduceIte, or_true, true_or, and_true, true_and, ne_eq, not_true_eq_false, not_false_eq_true, false_or, or_false, and_false, false_and, l_X10_decides_51, h19]
    · rw [if_neg (by omega)]
  | k + 1, d, n, σ, hk, hn, hd, T => by
    obtain ⟨m, rfl⟩ : ∃ m, n = m + 1 := ⟨n - 1, by omega⟩
    have g6 := G.1
    obtain ⟨σ', q1, q2, q3, q4⟩ := may_L G hu k23 k (d + 1) m (wr σ 59 0 (6 * d + u) (bI (mayA A d u))) (by omega) (by omega) (by omega) (T.fs ((Fs.rf σ).wr (by decide)))
    refine ⟨σ', ?_, q2, fun t ht => ?_, fun e v hv => ?_⟩
    · rw [may_v T G hu (by omega)]
      exact q1
    · rw [q3 t ht]
      funext i z
      rw [wr_rd, if_neg (fun q => ht q.1)]
    · rw [q4 e v hv]
      by_cases h : v = u ∧ d + 1 ≤ e ∧ e < nD A
      · rw [if_pos h, if_pos (by omega)]
      · rw [if_neg h, wr_rd]
        by_cases h2 : v = u ∧ e = d
        · rw [if_pos (by omega), if_pos (by omega), h2.2]
        · rw [if_neg (by omega), if_neg (by omega)]
/-- what is ready for one UNIT -/
def rdy (A : Ab) (σ : Wd) (v : Nat) : Prop := σ.1 58 0 v = 0 ∧ σ.1 60 0 v = bI (soonS A v) ∧ ∀ d, d < nD A → σ.1 59 0 (6 * d + v) = bI (mayA A d v)
theorem set_L {A : Ab} (G : Gd A) : ∀ (k u n : Nat) (σ : Wd), nU A - u = k → k < n → u ≤ nU A → RR σ A → (∀ v, v < u → rdy A σ v) → ∃ σ', l_X10_decides_23 n σ (iN u) = (if nD A = 0 then j_X10_decides_128 σ' (iN (nU A)) nO else j_X10_decides_128 σ' (iN (nU A)) (iN 0)) ∧ Fs σ σ' ∧ ∀ v, v < nU A → rdy A σ' v
  | 0, u, n, σ, hk, hn, hu, T, h => by
    obtain ⟨m, rfl⟩ : ∃ m, n = m + 1 := ⟨n - 1, by omega⟩
    have g6 := G.1
    have g7 := G.2.1
    have h5 := T.1.1
    have h19 := T.1.2.1
    have huq : u = nU A := by omega
    subst huq
    refine ⟨σ, ?_, Fs.rf σ, h⟩
    by_cases hq : nD A = 0
    · rw [if_pos hq]
      simp (disch := omega) only [gd_t, gd_T, bx_some, bx_thr, bd_def, nx_in, ↓nO_eq, l0, l1, l2, l3, l4, l5, l6, l7, l8, l30, l50, l64, l100, l200, l448, l1200, iN_add, iN_lt, iN_le, iN_inj, iN_clamp, iN_inb, iN_nO, nO_iN, nO_lt, iN_ltm, iN_lem, nO_le, iN_pred, if_pos, if_neg, ↓reduceIte, or_true, true_or, and_true, true_and, ne_eq, not_true_eq_false, not_false_eq_true, false_or, or_false, and_false, false_and, l_X10_decides_23, h5, h19, hq]
    · rw [if_neg hq]
      simp (disch := omega) only [gd_t, gd_T, bx_some, bx_thr, bd_def, nx_in, ↓nO_eq, l0, l1, l2, l3, l4, l5, l6, l7, l8, l30, l50, l64, l100, l200, l448, l1200, iN_add, iN_lt, iN_le, iN_inj, iN_clamp, iN_inb, iN_nO, nO_iN, nO_lt, iN_ltm, iN_lem, nO_le, iN_pred, if_pos, if_neg, ↓reduceIte, or_true, true_or, and_true, true_and, ne_eq, not_true_eq_false, not_false_eq_true, false_or, or_false, and_false, false_and, l_X10_decides_23, h5, h19, hq]
  | k + 1, u, n, σ, hk, hn, hu, T, h => by
    obtain ⟨m, rfl⟩ : ∃ m, n = m + 1 := ⟨n - 1, by omega⟩
    have g6 := G.1
    have g7 := G.2.1
    have h5 := T.1.1
    have huu : u < nU A := by omega
    have T1 : RR (wr σ 58 0 u (iN 0)) A := T.fs ((Fs.rf σ).wr (by decide))
    have F2 : Fs σ (wr (wr σ 58 0 u (iN 0)) 60 0 u (bI (soonS A u))) := ((Fs.rf σ).wr (by decide)).wr (by decide)
    obtain ⟨σ1, q1, q2, q3, q4⟩ := may_L G huu (l_X10_decides_23 m) (nD A) 0 FU (wr (wr σ 58 0 u (iN 0)) 60 0 u (bI (soonS A u))) rfl (by unfold FU; omega) (Nat.zero_le _) (T.fs F2)
    have F3 : Fs σ σ1 := F2.tr ⟨q2, fun t ht => q3 t (by omega)⟩
    have hs := m_soon T1.2.2.2.2.1 T1.2.2.1 huu g6
    have n0 : vp_nar .boolean (iN 0) = iN 0 := nar_b false
    have nb := nar_b (soonS A u)
    obtain ⟨σ2, z1, z2, z3⟩ := set_L G k (u + 1) m σ1 (by omega) (by omega) (by omega) (T.fs F3) (fun v hv => by
      have e58 : σ1.1 58 0 v = if v = u then 0 else σ.1 58 0 v := by
        rw [q3 58 (by decide), wr_rd, if_neg (by omega), wr_rd]
        by_cases hvu : v = u
        · rw [if_pos ⟨rfl, rfl, hvu⟩, if_pos hvu]; rfl
        · rw [if_neg (fun z => hvu z.2.2), if_neg hvu]
      have e60 : σ1.1 60 0 v = if v = u then bI (soonS A u) else σ.1 60 0 v := by
        rw [q3 60 (by decide), wr_rd]
        by_cases hvu : v = u
        · rw [if_pos ⟨rfl, rfl, hvu⟩, if_pos hvu]
        · rw [if_neg (fun z => hvu z.2.2), if_neg hvu, wr_rd, if_neg (by omega)]
      unfold rdy
      rw [e58, e60]
      by_cases hvu : v = u
      · rw [if_pos hvu, if_pos hvu, hvu]
        refine ⟨rfl, rfl, fun d hd => ?_⟩
        rw [q4 d u (by omega), if_pos ⟨rfl, Nat.zero_le _, hd⟩]
      · rw [if_neg hvu, if_neg hvu]
        obtain ⟨y1, y2, y3⟩ := h v (by omega)
        refine ⟨y1, y2, fun d hd => ?_⟩
        rw [q4 d v (by omega), if_neg (fun z => hvu z.1), wr_rd, if_neg (by omega), wr_rd, if_neg (by omega)]
        exact y3 d hd)
    refine ⟨σ2, ?_, F3.tr z2, z3⟩
    rw [← z1, ← q1]
    simp (disch := omega) only [gd_t, gd_T, bx_some, bx_thr, bd_def, nx_in, ↓nO_eq, l0, l1, l2, l3, l4, l5, l6, l7, l8, l30, l50, l64, l100, l200, l448, l1200, iN_add, iN_lt, iN_le, iN_inj, iN_clamp, iN_inb, iN_nO, nO_iN, nO_lt, iN_ltm, iN_lem, nO_le, iN_pred, if_pos, if_neg, ↓reduceIte, or_true, true_or, and_true, true_and, ne_eq, not_true_eq_false, not_false_eq_true, false_or, or_false, and_false, false_and, l_X10_decides_23, h5, n0, hs, nb]
def fr0 (A : Ab) : Nat → Bool := fun u => decide (u < nU A)
/-- the best allocation of the morning -/
def bestA (A : Ab) : List Nat := PT (PA A) (nD A) 0 (fr0 A)
def Fdz (σ σ' : Wd) : Prop := σ'.2 = σ.2 ∧ (∀ t, t ≠ 30 → ¬ (56 ≤ t ∧ t ≤ 60) → σ'.1 t = σ.1 t) ∧ ∀ k, k ≠ 37 → k ≠ 38 → σ'.1 30 0 k = σ.1 30 0 k
theorem RR.fz {σ τ : Wd} {A : Ab} (h : RR σ A) (hF : Fdz σ τ) : RR τ A := by
  obtain ⟨⟨l1, l2, l3, l4, l5, l6⟩, F, U, D, E, R1, L, Z⟩ := h
  obtain ⟨f1, f2, f3⟩ := hF
  refine ⟨⟨?_, ?_, ?_, ?_, ?_, ?_⟩, RRf.fr F (fun t a b => f2 t (by omega) (by omega)), RRu.fr U (fun t a b => f2 t (by omega) (by omega)), RRd.fr D (fun t a b => f2 t (by omega) (by omega)), RRe.fr E (fun t a b => f2 t (by omega) (by omega)), RRr.fr R1 (f2 _ (by decide) (by decide)) (f2 _ (by decide) (by decide)), RRg.fr L (f2 _ (by decide) (by decide)), RRz.fr Z (f2 _ (by decide) (by decide)) (f2 _ (by decide) (by decide)) (f2 _ (by decide) (by decide))⟩
  · rw [f3 5 (by decide) (by decide)]; exact l1
  · rw [f3 19 (by decide) (by decide)]; exact l2
  · rw [f3 1 (by decide) (by decide)]; exact l3
  · rw [f3 2 (by decide) (by decide)]; exact l4
  · rw [f3 3 (by decide) (by decide)]; exact l5
  · rw [f3 4 (by decide) (by decide)]; exact l6
theorem Fdz.rs {σ τ : Wd} (h : Fdz σ τ) : RS σ τ := ⟨fun t ht => h.2.1 t (by omega) (by omega), h.1⟩
theorem bestA_len (A : Ab) : (bestA A).length = nD A ∧ ∀ c, c ∈ bestA A → c ≤ nU A := En_len (PA A) (nD A) 0 (fr0 A) _ (PT_best (PA A) (nD A) 0 (fr0 A)).1.mem
theorem m_decides {A : Ab} {σ : Wd} (T : RR σ A) (G : Gd A) : ∃ σ', f_X10_decides σ = some (.inl (), σ') ∧ Fdz σ σ' ∧ RR σ' A ∧ σ'.1 30 0 37 = iN (lk (PA A) 0 (bestA A)) ∧ ∀ d c, (bestA A)[d]? = some c → σ'.1 56 0 d = chv (nU A) c := by
  have g6 := G.1
  have g7 := G.2.1
  have h19 := T.1.2.1
  have step0 : ∀ s : Int32, Fdz σ (wr (wr σ 30 0 37 s) 30 0 38 (iN 0)) := fun s => ⟨rfl, fun t a b => by
    funext i k
    rw [wr_rd, if_neg (fun z => a z.1), wr_rd, if_neg (fun z => a z.1)], fun k a b => by
    rw [wr_rd, if_neg (fun z => b z.2.2), wr_rd, if_neg (fun z => a z.2.2)]⟩
  have gen : ∀ s : Int32, ∃ σ', j_X10_decides_13 σ s = (if nD A = 0 then j_X10_decides_128 σ' (iN (nU A)) nO else j_X10_decides_128 σ' (iN (nU A)) (iN 0)) ∧ Fdz σ σ' ∧ RR σ' A ∧ (∀ v, v < nU A → rdy A σ' v) ∧ σ'.1 30 0 37 = s := fun s => by
    obtain ⟨σ', q1, q2, q3⟩ := set_L G (nU A) 0 FU (wr (wr σ 30 0 37 s) 30 0 38 (iN 0)) rfl (by unfold FU; omega) (Nat.zero_le _) (T.fz (step0 s)) (fun v hv => absurd hv (Nat.not_lt_zero _))
    refine ⟨σ', ?_, ⟨q2.1, fun t a b => ?_, fun k a b => ?_⟩, (T.fz (step0 s)).fs q2, q3, ?_⟩
    · unfold j_X10_decides_13
      rw [bd_def, bd_def]
      exact q1
    · rw [q2.2 t (by omega)]; exact (step0 s).2.1 t a b
    · rw [q2.2 30 (by decide)]; exact (step0 s).2.2 k a b
    · rw [q2.2 30 (by decide), wr_rd, if_neg (by omega), wr_same]
  have w57 : ∀ ρ : Wd, Fdz σ ρ → Fdz σ (wr ρ 57 0 0 nO) := fun ρ h => ⟨h.1, fun t a b => by
    rw [← h.2.1 t a b]
    funext i k
    rw [wr_rd, if_neg (by omega)], fun k a b => by
    rw [wr_rd, if_neg (by omega)]
    exact h.2.2 k a b⟩
  by_cases hq : nD A = 0
  · obtain ⟨σ', q1, q2, q3, q4, q5⟩ := gen 0
    rw [if_pos hq] at q1
    have hb : bestA A = [] := List.eq_nil_of_length_eq_zero ((bestA_len A).1.trans hq)
    refine ⟨wr σ' 57 0 0 nO, ?_, w57 σ' q2, T.fz (w57 σ' q2), ?_, fun d c hd => ?_⟩
    · unfold f_X10_decides
      rw [h19, hq, if_pos (show iN 0 = 0 from rfl), q1]
      obtain ⟨m, hm⟩ := FU_ge 1 (by decide)
      unfold j_X10_decides_128
      rw [bd_def, hm]
      simp (disch := omega) only [gd_t, gd_T, bx_some, bx_thr, bd_def, nx_in, ↓nO_eq, l0, l1, l2, l3, l4, l5, l6, l7, l8, l30, l50, l64, l100, l200, l448, l1200, iN_add, iN_lt, iN_le, iN_inj, iN_clamp, iN_inb, iN_nO, nO_iN, nO_lt, iN_ltm, iN_lem, nO_le, iN_pred, if_pos, if_neg, ↓reduceIte, or_true, true_or, and_true, true_and, ne_eq, not_true_eq_false, not_false_eq_true, false_or, or_false, and_false, false_and, l_X10_decides_136]
    · rw [wr_rd, if_neg (by omega), q5, hb]; rfl
    · rw [hb] at hd
      simp at hd
  · obtain ⟨σ', q1, q2, q3, q4, q5⟩ := gen (-1)
    rw [if_neg hq] at q1
    have hF := w57 σ' q2
    have q5' : σ'.1 30 0 37 = nO := q5
    have hRd : Rd A (wr σ' 57 0 0 nO) := ⟨T.fz hF, fun u hu => ⟨(q4 u hu).2.1, (q4 u hu).2.2⟩⟩
    obtain ⟨t, σ2, z1, z2, z3, z4⟩ := main_all G (nD A) 0 [] (fr0 A) none (wr σ' 57 0 0 nO) (by omega) (by omega) rfl ⟨hRd, fun d c h => (by simp at h), fun c hc => (by cases hc), fun u hu => (by
      have e : (wr σ' 57 0 0 nO).1 58 0 u = 0 := (q4 u hu).1
      rw [e]
      unfold fr0
      rw [decide_eq_true hu]
      rfl), q5'⟩ rfl
    have hfold : (((En (PA A) (nD A) 0 (fr0 A)).map (fun l => [] ++ l)).foldl (stp (cst (PA A) 0)) none) = some (bestA A) := by
      have e : (En (PA A) (nD A) 0 (fr0 A)).map (fun l => [] ++ l) = En (PA A) (nD A) 0 (fr0 A) := by
        have : (fun l : List Nat => [] ++ l) = id := by funext l; rfl
        rw [this, List.map_id]
      rw [e]
      exact (best_all (PA A) (fun d => (PA_w1 G d).1) (nD A) (fr0 A)).1
    obtain ⟨_, _, _, _, a1⟩ := z4
    rw [hfold] at a1
    obtain ⟨b1, b2, b3, b4, b5⟩ := a1
    have hB : Bd (nD A) ≤ 156864 := by
      have e0 : Bd 0 = 0 := rfl
      have e1 : Bd 1 = 8 + 7 * Bd 0 := rfl
      have e2 : Bd 2 = 8 + 7 * Bd 1 := rfl
      have e3 : Bd 3 = 8 + 7 * Bd 2 := rfl
      have e4 : Bd 4 = 8 + 7 * Bd 3 := rfl
      have e5 : Bd 5 = 8 + 7 * Bd 4 := rfl
      have e6 : Bd 6 = 8 + 7 * Bd 5 := rfl
      have : nD A = 0 ∨ nD A = 1 ∨ nD A = 2 ∨ nD A = 3 ∨ nD A = 4 ∨ nD A = 5 ∨ nD A = 6 := by omega
      rcases this with h | h | h | h | h | h | h <;> rw [h] <;> omega
    have hF2 : Fdz σ σ2 := ⟨z3.1.trans hF.1, fun t a b => (z3.2.1 t a (by omega)).trans (hF.2.1 t a b), fun k a b => (z3.2.2 k a b).trans (hF.2.2 k a b)⟩
    refine ⟨σ2, ?_, hF2, T.fz hF2, b3, b5⟩
    unfold f_X10_decides
    rw [h19, if_neg (by rw [show (0 : Int32) = iN 0 from rfl, iN_inj (by omega) (by decide)]; exact hq), q1]
    unfold j_X10_decides_128
    obtain ⟨m, hm⟩ := FU_ge (1 + t) (by omega)
    rw [bd_def, hm, show m + (1 + t) = (m + 1) + t from by omega]
    refine (z2 (m + 1)).trans ?_
    show l_X10_decides_136 (m + 1) σ2 nO = _
    simp (disch := omega) only [gd_t, gd_T, bx_some, bx_thr, bd_def, nx_in, ↓nO_eq, l0, l1, l2, l3, l4, l5, l6, l7, l8, l30, l50, l64, l100, l200, l448, l1200, iN_add, iN_lt, iN_le, iN_inj, iN_clamp, iN_inb, iN_nO, nO_iN, nO_lt, iN_ltm, iN_lem, nO_le, iN_pred, if_pos, if_neg, ↓reduceIte, or_true, true_or, and_true, true_and, ne_eq, not_true_eq_false, not_false_eq_true, false_or, or_false, and_false, false_and, l_X10_decides_136]
