/-! the day ends -/
def olA (A : Ab) (n : Nat) : Ab := (fun t i k => if t = 36 ∧ i < n then A.1 36 i k + iN 1 else A.1 t i k, A.2)
theorem olA_rd (A : Ab) (n t i k : Nat) : (olA A n).1 t i k = if t = 36 ∧ i < n then A.1 36 i k + iN 1 else A.1 t i k := id rfl
theorem k_old1 {σ : Wd} {u k : Nat} (hu : u < σ.2.2 8) (hk : k < 3) (n : Nat) : l_X8_growOlder_2 (n + 1) σ (iN k) u = l_X8_growOlder_2 n (wr σ 23 u k (σ.1 23 u k + iN 1)) (iN (k + 1)) u := by
  simp (disch := omega) only [gd_t, gd_T, bx_some, bx_thr, bd_def, nx_in, ↓nO_eq, l0, l1, l2, l3, l4, l5, l6, l7, l8, l30, l50, l64, l100, l200, l448, l1200, iN_add, iN_lt, iN_le, iN_inj, iN_clamp, iN_inb, iN_nO, nO_iN, nO_lt, iN_ltm, iN_lem, nO_le, iN_pred, if_pos, if_neg, ↓reduceIte, or_true, true_or, and_true, true_and, ne_eq, not_true_eq_false, not_false_eq_true, false_or, or_false, and_false, false_and, l_X8_growOlder_2]
theorem k_old1e {σ : Wd} {u : Nat} (hu : u < σ.2.2 8) (n : Nat) : l_X8_growOlder_2 (n + 1) σ (iN 3) u = some (.inl (), σ) := by
  simp (disch := omega) only [gd_t, gd_T, bx_some, bx_thr, bd_def, nx_in, ↓nO_eq, l0, l1, l2, l3, l4, l5, l6, l7, l8, l30, l50, l64, l100, l200, l448, l1200, iN_add, iN_lt, iN_le, iN_inj, iN_clamp, iN_inb, iN_nO, nO_iN, nO_lt, iN_ltm, iN_lem, nO_le, iN_pred, if_pos, if_neg, ↓reduceIte, or_true, true_or, and_true, true_and, ne_eq, not_true_eq_false, not_false_eq_true, false_or, or_false, and_false, false_and, l_X8_growOlder_2]
theorem k_old {σ : Wd} {u : Nat} (hu : u < σ.2.2 8) : ∃ σ', f_X8_growOlder σ u = some (.inl (), σ') ∧ σ'.2 = σ.2 ∧ ∀ t i k, σ'.1 t i k = if t = 23 ∧ i = u ∧ k < 3 then σ.1 23 u k + iN 1 else σ.1 t i k := by
  obtain ⟨m, hm⟩ := FU_ge 4 (by decide)
  have rd : ∀ (σ : Wd) (x : Nat) (v : Int32) (y : Nat), ¬ y = x → (wr σ 23 u x v).1 23 u y = σ.1 23 u y := fun σ x v y h => by rw [wr_rd, if_neg (fun z => h z.2.2)]
  refine ⟨wr (wr (wr σ 23 u 0 (σ.1 23 u 0 + iN 1)) 23 u 1 (σ.1 23 u 1 + iN 1)) 23 u 2 (σ.1 23 u 2 + iN 1), ?_, rfl, fun t i k => ?_⟩
  · have hl : ∀ n : Nat, n = FU → l_X8_growOlder_2 n σ (iN 0) u = some (.inl (), wr (wr (wr σ 23 u 0 (σ.1 23 u 0 + iN 1)) 23 u 1 (σ.1 23 u 1 + iN 1)) 23 u 2 (σ.1 23 u 2 + iN 1)) := fun n hn => by
      have hn2 : n = m + 1 + 1 + 1 + 1 := by omega
      rw [hn2, k_old1 hu (by decide)]
      rw [k_old1 (k := 0 + 1) (by exact hu) (by decide), rd _ _ _ _ (by decide)]
      rw [k_old1 (k := 0 + 1 + 1) (by exact hu) (by decide), rd _ _ _ _ (by decide), rd _ _ _ _ (by decide)]
      exact k_old1e (by exact hu) _
    exact hl FU rfl
  · simp only [wr_rd]
    by_cases h : t = 23 ∧ i = u ∧ k < 3
    · obtain ⟨rfl, rfl, hk⟩ := h
      have : k = 0 ∨ k = 1 ∨ k = 2 := by omega
      rcases this with rfl | rfl | rfl <;> simp
    · rw [if_neg h, if_neg (by omega), if_neg (by omega), if_neg (by omega)]
theorem old_C {σ : Wd} {A : Ab} {u : Nat} (C : RC σ (olA A u)) (hu : u < nU A) : ∃ σ', f_X8_growOlder σ u = some (.inl (), σ') ∧ (∀ t, t ≠ 23 → σ'.1 t = σ.1 t) ∧ RC σ' (olA A (u + 1)) := by
  obtain ⟨H, F, U, D, E, R1, S, L⟩ := C
  have H8 : σ.2.2 8 = nU A := H.1
  obtain ⟨σ', q1, q2, q3⟩ := k_old (σ := σ) (u := u) (by rw [H8]; exact hu)
  have off : ∀ t, t ≠ 23 → σ'.1 t = σ.1 t := fun t h => by
    funext i k
    rw [q3, if_neg (fun z => h z.1)]
  refine ⟨σ', q1, off, RCl.fr H (off _ (by decide)) q2, RCf.fr F (off _ (by decide)) (off _ (by decide)) q2, fun v hv => ?_, RCd.fr (A := olA A (u + 1)) D (off _ (by decide)), RCe.fr (A := olA A (u + 1)) E (off _ (by decide)) (off _ (by decide)), RCr.fr R1 (off _ (by decide)) (off _ (by decide)), RCs.fr (A := olA A (u + 1)) S (off _ (by decide)), RCg.fr (A := olA A (u + 1)) L (off _ (by decide))⟩
  obtain ⟨u1, u2, u3, u4, u5, u6⟩ := U v hv
  rw [off 21 (by decide), off 22 (by decide), off 24 (by decide)]
  refine ⟨u1, u2, u3, u4, fun k hk => ?_, u6⟩
  have h5 := u5 k hk
  rw [olA_rd] at h5
  rw [q3, olA_rd]
  by_cases h : v = u
  · rw [if_pos ⟨rfl, h, hk⟩, if_pos ⟨rfl, by omega⟩, ← h, h5, if_neg (by omega)]
  · rw [if_neg (fun z => h z.2.1)]
    by_cases hlt : v < u
    · rw [if_pos ⟨rfl, hlt⟩] at h5
      rw [if_pos ⟨rfl, by omega⟩]
      exact h5
    · rw [if_neg (fun z => hlt z.2)] at h5
      rw [if_neg (by omega)]
      exact h5
theorem olA_0 (A : Ab) : olA A 0 = A := by
  refine Prod.ext ?_ rfl
  funext t i k
  rw [olA_rd, if_neg (by omega)]
/-- the value behind the day -/
def dyA (A : Ab) : Ab := cn (aw (aw (olA A (nU A)) 30 3 0 0) 30 4 0 0) 2 (nT A + 1)
def kdW (σ : Wd) (T : Nat) : Wd := wr (wr (wr σ 0 0 8 (iN 0)) 0 0 9 (iN 0)) 0 0 6 (iN (T + 1))
theorem k_olds {A : Ab} (g6 : nU A ≤ 6) : ∀ (k u n : Nat) (σ : Wd), nU A - u = k → k < n → u ≤ nU A → RC σ (olA A u) → ∃ σ', (∀ v, f_X3_lackOfGiven (kdW σ' (nT A)) = some (.inl v, kdW σ' (nT A)) → l_X9_day_41 n σ (iN u) = some (.inl v, kdW σ' (nT A))) ∧ (∀ t, t ≠ 23 → σ'.1 t = σ.1 t) ∧ RC σ' (olA A (nU A))
  | 0, u, n, σ, hk, hn, hu, C => by
    obtain ⟨m, rfl⟩ : ∃ m, n = m + 1 := ⟨n - 1, by omega⟩
    have huq : u = nU A := by omega
    subst huq
    have hs0 : f_Jx4a65c_size_8abf5 σ 0 = some (.inl (iN (nU A)), σ) := c_sz0 C.1
    have S : σ.1 0 0 6 = iN (nT A) := C.2.2.2.2.2.2.1.1
    refine ⟨σ, fun v hv => ?_, fun _ _ => rfl, C⟩
    unfold kdW at hv ⊢
    simp (disch := omega) only [gd_t, gd_T, bx_some, bx_thr, bd_def, nx_in, ↓nO_eq, l0, l1, l2, l3, l4, l5, l6, l7, l8, l30, l50, l64, l100, l200, l448, l1200, iN_add, iN_lt, iN_le, iN_inj, iN_clamp, iN_inb, iN_nO, nO_iN, nO_lt, iN_ltm, iN_lem, nO_le, iN_pred, if_pos, if_neg, ↓reduceIte, or_true, true_or, and_true, true_and, ne_eq, not_true_eq_false, not_false_eq_true, false_or, or_false, and_false, false_and, l_X9_day_41, hs0, wr_rd, S, hv]
  | k + 1, u, n, σ, hk, hn, hu, C => by
    obtain ⟨m, rfl⟩ : ∃ m, n = m + 1 := ⟨n - 1, by omega⟩
    have huu : u < nU A := by omega
    have hs0 : f_Jx4a65c_size_8abf5 σ 0 = some (.inl (iN (nU A)), σ) := c_sz0 C.1
    have hui : f_X9_unitAt σ (iN u) = some (.inl u, σ) := c_unitAt (A := olA A u) C.1 g6 huu
    have H8 : σ.2.2 8 = nU A := C.1.1
    obtain ⟨σ1, q1, q2, q3⟩ := old_C C huu
    obtain ⟨σ2, z1, z2, z3⟩ := k_olds g6 k (u + 1) m σ1 (by omega) (by omega) (by omega) q3
    refine ⟨σ2, fun v hv => ?_, fun t ht => (z2 t ht).trans (q2 t ht), z3⟩
    rw [← z1 v hv]
    simp (disch := omega) only [gd_t, gd_T, bx_some, bx_thr, bd_def, nx_in, ↓nO_eq, l0, l1, l2, l3, l4, l5, l6, l7, l8, l30, l50, l64, l100, l200, l448, l1200, iN_add, iN_lt, iN_le, iN_inj, iN_clamp, iN_inb, iN_nO, nO_iN, nO_lt, iN_ltm, iN_lem, nO_le, iN_pred, if_pos, if_neg, ↓reduceIte, or_true, true_or, and_true, true_and, ne_eq, not_true_eq_false, not_false_eq_true, false_or, or_false, and_false, false_and, l_X9_day_41, hs0, hui, q1]
theorem dy_C {σ : Wd} {A : Ab} (C : RC σ (olA A (nU A))) : RC (kdW σ (nT A)) (dyA A) := by
  obtain ⟨H, F, U, D, E, R1, ⟨s1, s2, s3, s4⟩, L⟩ := C
  exact ⟨H, F, U, D, E, R1, ⟨rfl, s2, rfl, rfl⟩, L⟩
theorem dy_G {A : Ab} (G : Gd A) (hT : nT A < 200) : Gd (dyA A) := by
  obtain ⟨g1, g2, g3, g4, g5, g6⟩ := G
  refine ⟨g1, g2, ?_, g4, g5, g6⟩
  show nT A + 1 ≤ 200
  omega
