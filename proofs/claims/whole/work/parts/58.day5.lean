/-! the day ends -/
def olA (A : Ab) (n : Nat) : Ab := (fun t i k => if t = 36 ∧ i < n then A.1 36 i k + iN 1 else A.1 t i k, A.2)
theorem olA_rd (A : Ab) (n t i k : Nat) : (olA A n).1 t i k = if t = 36 ∧ i < n then A.1 36 i k + iN 1 else A.1 t i k := id rfl
theorem k_old1 {σ : Wd} {u k : Nat} (hu : u < σ.2.2 8) (hk : k < 3) (n : Nat) : l_X8_growOlder_2 (n + 1) σ (iN k) u = l_X8_growOlder_2 n (wr σ 23 u k (σ.1 23 u k + iN 1)) (iN (k + 1)) u := by
  simp (disch := omega) only [gd_t, gd_T, bx_some, bx_thr, bd_def, nx_in, ↓nO_eq, l0, l1, l2, l3, l4, l5, l6, l7, l8, l30, l50, l64, l100, l200, l448, l1200, iN_add, iN_lt, iN_le, iN_inj, iN_clamp, iN_inb, iN_nO, nO_iN, nO_lt, iN_ltm, iN_lem, nO_le, iN_pred, if_pos, if_neg, ↓reduceIte, or_true, true_or, and_true, true_and, ne_eq, not_true_eq_false, not_false_eq_true, false_or, or_false, and_false, false_and, l_X8_growOlder_2]
theorem k_old1e {σ : Wd} {u : Nat} (hu : u < σ.2.2 8) (n : Nat) : l_X8_growOlder_2 (n + 1) σ (iN 3) u = some (.inl (), σ) := by
  simp (disch := omega) only [gd_t, gd_T, bx_some, bx_thr, bd_def, nx_in, ↓nO_eq, l0, l1, l2, l3, l4, l5, l6, l7, l8, l30, l50, l64, l100, l200, l448, l1200, iN_add, iN_lt, iN_le, iN_inj, iN_clamp, iN_inb, iN_nO, nO_iN, nO_lt, iN_ltm, iN_lem, nO_le, iN_pred, if_pos, if_neg, ↓reduceIte, or_true, true_or, and_true, true_and, ne_eq, not_true_eq_false, not_false_eq_true, false_or, or_false, and_false, false_and, l_X8_growOlder_2]
theorem k_old {σ : Wd} {u : Nat} (hu : u < σ.2.2 8) : ∃ σ', f_X8_growOlder σ u = some (.inl (), σ') ∧ σ'.2 = σ.2 ∧ ∀ t i k, σ'.1 t i k = if t = 23 ∧ i = u ∧ k < 3 then σ.1 23 u k + iN 1 else σ.1 t i k := by
  obtain ⟨m, hm⟩ := FU_ge 4 (by decide)
  have rd : ∀ (σ : Wd) (x : Nat) (v : Int32) (y : Nat), ¬ y = x → (wr σ 23 u x v).1 23 u y = σ.1 23 u y := fun σ x v y h => by rw [wr_rd, if_neg (fun z => h z.2.2)]
  refine ⟨wr (wr (wr σ 23 u 0 (σ.1 23 u 0 + iN 1)) 23 u 1 (σ.1 23 u 1 + iN 1)) 23 u 2 (σ.1 23 u 2 + iN 1), ?_, rfl, fun t i k => ?_⟩
  · have hl : ∀ n : Nat, n = FU → l_X8_growOlder_2 n σ (iN 0) u = some (.inl (), wr (wr (wr σ 23 u 0 (σ.1 23 u 0 + iN 1)) 23 u 1 (σ.1 23 u 1 + iN 1)) 23 u 2 (σ.1 23 u 2 + iN 1)) := fun n hn => by
      have hn2 : n = m + 1 + 1 + 1 + 1 := by omega
      rw [hn2, k_old1 hu (by decide)]
      rw [k_old1 (k := 0 + 1) (by exact hu) (by decide), rd _ _ _ _ (by decide)]
      rw [k_old1 (k := 0 + 1 + 1) (by exact hu) (by decide), rd _ _ _ _ (by decide), rd _ _ _ _ (by decide)]
      exact k_old1e (by exact hu) _
    exact hl FU rfl
  · simp only [wr_rd]
    by_cases h : t = 23 ∧ i = u ∧ k < 3
    · obtain ⟨rfl, rfl, hk⟩ := h
      have : k = 0 ∨ k = 1 ∨ k = 2 := by omega
      rcases this with rfl | rfl | rfl <;> simp
    · rw [if_neg h, if_neg (by omega), if_neg (by omega), if_neg (by omega)]
theorem old_C {σ : Wd} {A : Ab} {u : Nat} (C : RC σ (olA A u)) (hu : u < nU A) : ∃ σ', f_X8_growOlder σ u = some (.inl (), σ') ∧ (∀ t, t ≠ 23 → σ'.1 t = σ.1 t) ∧ RC σ' (olA A (u + 1)) := by
  obtain ⟨H, F, U, D, E, R1, S, L⟩ := C
  have H8 : σ.2.2 8 = nU A := H.1
  obtain ⟨σ', q1, q2, q3⟩ := k_old (σ := σ) (u := u) (by rw [H8]; exact hu)
  have off : ∀ t, t ≠ 23 → σ'.1 t = σ.1 t := fun t h => by
    funext i k
    rw [q3, if_neg (fun z => h z.1)]
  refine ⟨σ', q1, off, RCl.fr H (off _ (by decide)) q2, RCf.fr F (off _ (by decide)) (off _ (by decide)) q2, fun v hv => ?_, RCd.fr (A := olA A (u + 1)) D (off _ (by decide)), RCe.fr (A := olA A (u + 1)) E (off _ (by decide)) (off _ (by decide)), RCr.fr R1 (off _ (by decide)) (off _ (by decide)), RCs.fr (A := olA A (u + 1)) S (off _ (by decide)), RCg.fr (A := olA A (u + 1)) L (off _ (by decide))⟩
  obtain ⟨u1, u2, u3, u4, u5, u6⟩ := U v hv
  rw [off 21 (by decide), off 22 (by decide), off 24 (by decide)]
  refine ⟨u1, u2, u3, u4, fun k hk => ?_, u6⟩
  have h5 := u5 k hk
  rw [olA_rd] at h5
  rw [q3, olA_rd]
  by_cases h : v = u
  · rw [if_pos ⟨rfl, h, hk⟩, if_pos ⟨rfl, by omega⟩, ← h, h5, if_neg (by omega)]
  · rw [if_neg (fun z => h z.2.1)]
    by_cases hlt : v < u
    · rw [if_pos ⟨rfl, hlt⟩] at h5
      rw [if_pos ⟨rfl, by omega⟩]
      exact h5
    · rw [if_neg (fun z => hlt z.2)] at h5
      rw [if_neg (by omega)]
      exact h5
theorem olA_0 (A : Ab) : olA A 0 = A := by
  refine Prod.ext ?_ rfl
  funext t i k
  rw [olA_rd, if_neg (by omega)]
/-- the value behind the day -/
def dyA (A : Ab) : Ab := cn (aw (aw (olA A (nU A)) 30 3 0 0) 30 4 0 0) 2 (nT A + 1)
def kdW (σ : Wd) (T : Nat) : Wd := wr (wr (wr σ 0 0 8 (iN 0)) 0 0 9 (iN 0)) 0 0 6 (iN (T + 1))
theorem k_olds {A : Ab} (g6 : nU A ≤ 6) : ∀ (k u n : Nat) (σ : Wd), nU A - u = k → k < n → u ≤ nU A → RC σ (olA A u) → ∃ σ', (∀ v, f_X3_lackOfGiven (kdW σ' (nT A)) = some (.inl v, kdW σ' (nT A)) → l_X9_day_41 n σ (iN u) = some (.inl v, kdW σ' (nT A))) ∧ (∀ t, t ≠ 23 → σ'.1 t = σ.1 t) ∧ RC σ' (olA A (nU A))
  | 0, u, n, σ, hk, hn, hu, C => by
    obtain ⟨m, rfl⟩ : ∃ m, n = m + 1 := ⟨n - 1, by omega⟩
    have huq : u = nU A := by omega
    subst huq
    have hs0 : f_Jx4a65c_size_8abf5 σ 0 = some (.inl (iN (nU A)), σ) := c_sz0 C.1
    have S : σ.1 0 0 6 = iN (nT A) := C.2.2.2.2.2.2.1.1
    refine ⟨σ, fun v hv => ?_, fun _ _ => rfl, C⟩
    unfold kdW at hv ⊢
    simp (disch := omega) only [gd_t, gd_T, bx_some, bx_thr, bd_def, nx_in, ↓nO_eq, l0, l1, l2, l3, l4, l5, l6, l7, l8, l30, l50, l64, l100, l200, l448, l1200, iN_add, iN_lt, iN_le, iN_inj, iN_clamp, iN_inb, iN_nO, nO_iN, nO_lt, iN_ltm, iN_lem, nO_le, iN_pred, if_pos, if_neg, ↓reduceIte, or_true, true_or, and_true, true_and, ne_eq, not_true_eq_false, not_false_eq_true, false_or, or_false, and_false, false_and, l_X9_day_41, hs0, wr_rd, S, hv]
  | k + 1, u, n, σ, hk, hn, hu, C => by
    obtain ⟨m, rfl⟩ : ∃ m, n = m + 1 := ⟨n - 1, by omega⟩
    have huu : u < nU A := by omega
    have hs0 : f_Jx4a65c_size_8abf5 σ 0 = some (.inl (iN (nU A)), σ) := c_sz0 C.1
    have hui : f_X9_unitAt σ (iN u) = some (.inl u, σ) := c_unitAt (A := olA A u) C.1 g6 huu
    have H8 : σ.2.2 8 = nU A := C.1.1
    obtain ⟨σ1, q1, q2, q3⟩ := old_C C huu
    obtain ⟨σ2, z1, z2, z3⟩ := k_olds g6 k (u + 1) m σ1 (by omega) (by omega) (by omega) q3
    refine ⟨σ2, fun v hv => ?_, fun t ht => (z2 t ht).trans (q2 t ht), z3⟩
    rw [← z1 v hv]
    simp (disch := omega) only [gd_t, gd_T, bx_some, bx_thr, bd_def, nx_in, ↓nO_eq, l0, l1, l2, l3, l4, l5, l6, l7, l8, l30, l50, l64, l100, l200, l448, l1200, iN_add, iN_lt, iN_le, iN_inj, iN_clamp, iN_inb, iN_nO, nO_iN, nO_lt, iN_ltm, iN_lem, nO_le, iN_pred, if_pos, if_neg, ↓reduceIte, or_true, true_or, and_true, true_and, ne_eq, not_true_eq_false, not_false_eq_true, false_or, or_false, and_false, false_and, l_X9_day_41, hs0, hui, q1]
theorem m_olds : ∀ (k x n N : Nat) (σ : Wd), N ≤ 18 → N - x = k → k < n → x ≤ N → (3 : Int32) * σ.1 30 0 5 = iN N → ∃ σ', l_X10_day_149 n σ (iN x) = (bd (wr σ' 30 0 3 (0 : Int32)) fun σ4 => bd (wr σ4 30 0 4 (0 : Int32)) fun σ5 => bd (wr σ5 30 0 1 ((σ5.1 30 0 1) + (1 : Int32))) fun σ6 => some (.inl (σ6.1 30 0 37), σ6)) ∧ RS σ σ' ∧ (∀ t, t ≠ 36 → σ'.1 t = σ.1 t) ∧ ∀ y, σ'.1 36 0 y = if x ≤ y ∧ y < N then σ.1 36 0 y + iN 1 else σ.1 36 0 y
  | 0, x, n, N, σ, hN, hk, hn, hx, h5 => by
    obtain ⟨m, rfl⟩ : ∃ m, n = m + 1 := ⟨n - 1, by omega⟩
    have hxq : x = N := by omega
    subst hxq
    refine ⟨σ, ?_, RS.rf σ, fun _ _ => rfl, fun y => by rw [if_neg (by omega)]⟩
    unfold l_X10_day_149
    rw [h5, if_pos (Int32.le_refl _)]
  | k + 1, x, n, N, σ, hN, hk, hn, hx, h5 => by
    obtain ⟨m, rfl⟩ : ∃ m, n = m + 1 := ⟨n - 1, by omega⟩
    obtain ⟨σ', q1, q2, q3, q4⟩ := m_olds k (x + 1) m N (wr σ 36 0 x (σ.1 36 0 x + iN 1)) hN (by omega) (by omega) (by omega) h5
    refine ⟨σ', ?_, ((RS.rf σ).wr (by decide)).tr q2, fun t ht => ?_, fun y => ?_⟩
    · rw [← q1]
      have h5' : iN 3 * σ.1 30 0 5 = iN N := h5
      simp (disch := omega) only [gd_t, gd_T, bx_some, bx_thr, bd_def, nx_in, ↓nO_eq, l0, l1, l2, l3, l4, l5, l6, l7, l8, l30, l50, l64, l100, l200, l448, l1200, iN_add, iN_lt, iN_le, iN_inj, iN_clamp, iN_inb, iN_nO, nO_iN, nO_lt, iN_ltm, iN_lem, nO_le, iN_pred, if_pos, if_neg, ↓reduceIte, or_true, true_or, and_true, true_and, ne_eq, not_true_eq_false, not_false_eq_true, false_or, or_false, and_false, false_and, l_X10_day_149, h5']
    · rw [q3 t ht]
      funext i z
      rw [wr_rd, if_neg (fun q => ht q.1)]
    · rw [q4]
      by_cases h : y = x
      · rw [if_neg (by omega), wr_rd, if_pos ⟨rfl, rfl, h⟩, if_pos (by omega), h]
      · by_cases h2 : x ≤ y ∧ y < N
        · rw [if_pos (by omega), wr_rd, if_neg (fun z => h z.2.2), if_pos h2]
        · rw [if_neg (by omega), wr_rd, if_neg (fun z => h z.2.2), if_neg h2]
theorem dy_C {σ : Wd} {A : Ab} (C : RC σ (olA A (nU A))) : RC (kdW σ (nT A)) (dyA A) := by
  obtain ⟨H, F, U, D, E, R1, ⟨s1, s2, s3, s4⟩, L⟩ := C
  exact ⟨H, F, U, D, E, R1, ⟨rfl, s2, rfl, rfl⟩, L⟩
theorem dy_R {σ σ' : Wd} {A : Ab} (T : RR σ A) (g6 : nU A ≤ 6) (h1 : ∀ t, t ≠ 36 → σ'.1 t = σ.1 t) (h2 : ∀ y, σ'.1 36 0 y = if y < 3 * nU A then σ.1 36 0 y + iN 1 else σ.1 36 0 y) : RR (wr (wr (wr σ' 30 0 3 0) 30 0 4 0) 30 0 1 (iN (nT A + 1))) (dyA A) := by
  obtain ⟨⟨l1, l2, l3, l4, l5, l6⟩, F, U, D, E, R1, L, Z⟩ := T
  have T1 : RR σ' (olA A (nU A)) := by
    refine ⟨RRl.fr (A := olA A (nU A)) ⟨l1, l2, l3, l4, l5, l6⟩ (h1 _ (by decide)), RRf.fr F (fun t a b => h1 _ (by omega)), fun v hv => ?_, RRd.fr (A := olA A (nU A)) D (fun t a b => h1 _ (by omega)), RRe.fr (A := olA A (nU A)) E (fun t a b => h1 _ (by omega)), RRr.fr R1 (h1 _ (by decide)) (h1 _ (by decide)), RRg.fr (A := olA A (nU A)) L (h1 _ (by decide)), fun v hv hv6 => ?_⟩
    · have hv : v < nU A := hv
      obtain ⟨u1, u2, u3, u4, u5, u6⟩ := U v hv
      rw [h1 31 (by decide), h1 32 (by decide), h1 33 (by decide), h1 34 (by decide), h1 35 (by decide)]
      refine ⟨u1, u2, u3, u4, fun k hk => ?_, u6⟩
      rw [h2, if_pos (by omega), olA_rd, if_pos ⟨rfl, hv⟩, u5 k hk]
    · have hv : nU A ≤ v := hv
      obtain ⟨z1, z2⟩ := Z v hv hv6
      rw [h1 39 (by decide), h1 35 (by decide)]
      refine ⟨z1, fun k hk => ⟨(z2 k hk).1, ?_⟩⟩
      rw [h2, if_neg (by omega)]
      exact (z2 k hk).2
  obtain ⟨⟨y1, y2, y3, y4, y5, y6⟩, F1, U1, D1, E1, R2, L1, Z1⟩ := T1
  exact ⟨⟨y1, y2, rfl, y4, rfl, rfl⟩, F1, U1, D1, E1, R2, L1, Z1⟩
theorem dy_G {A : Ab} (G : Gd A) (hT : nT A < 200) : Gd (dyA A) := by
  obtain ⟨g1, g2, g3, g4, g5, g6⟩ := G
  refine ⟨g1, g2, ?_, g4, g5, g6⟩
  show nT A + 1 ≤ 200
  omega
theorem st_day {σ : Wd} (I : Inv σ) : ∃ σ', c_day σ = some σ' ∧ Inv σ' := by
  obtain ⟨A, C, R, G, W⟩ := I
  have g6 := G.1
  have g7 := G.2.1
  have S := C.2.2.2.2.2.2.1.1
  by_cases hT : nT A < 200
  · have hS : σ.1 0 0 6 < 200 := by
      rw [S]
      exact (iN_lt (b := 200) (by omega) (by decide)).mpr hT
    obtain ⟨hL, hLn⟩ := bestA_len A
    have hN := best_nd A
    have W0 : Gr A (fun u => u ∈ ([] : List Nat)) := ⟨fun x hx => ⟨(W.1 x hx).1, fun u hu => ⟨((W.1 x hx).2 u hu).1, ((W.1 x hx).2 u hu).2.1, fun z => by cases z⟩⟩, fun u hu => by
      obtain ⟨x, hx, y1, y2⟩ := W.2 u hu
      exact ⟨x, hx, y1, Or.inr (y2.resolve_left id)⟩⟩
    obtain ⟨G1, W1, sm1⟩ := lvs_ok hL hLn hN (bestA A) [] A rfl G W0 rfl rfl
    have eU : nU (lvs A 0 (bestA A)) = nU A := congrFun sm1 0
    have eD : nD (lvs A 0 (bestA A)) = nD A := congrFun sm1 1
    have eT : nT (lvs A 0 (bestA A)) = nT A := congrFun sm1 2
    -- the first half
    obtain ⟨σ1, a1, a2, a3⟩ := k_read C G
    obtain ⟨σ2, b1, b2, b3⟩ := parts_ok G a3
    have hF := a2.tr b2.fm
    obtain ⟨σ3, c1, c2, c3, c4⟩ := k_lvs hL hLn hN hT g7 (bestA A) [] FU σ2 A rfl (by unfold FU; omega) (C.fm hF) G W0 rfl rfl rfl b3
    obtain ⟨σ4, d1, d2, d3, d4, G2, W2, sm2⟩ := k_cms hL hLn hN g7 (bestA A) [] FU σ3 (lvs A 0 (bestA A)) rfl (by unfold FU; omega) c4 G1 W1 eU eD (fun d c hd => by rw [c3 16 (by decide)]; exact b3 d c hd)
    have hbU : nU (cms (lvs A 0 (bestA A)) 0 (bestA A)) = nU A := (congrFun sm2 0).trans eU
    have hbT : nT (cms (lvs A 0 (bestA A)) 0 (bestA A)) = nT A := (congrFun sm2 2).trans eT
    change RC σ4 (cms (lvs A 0 (bestA A)) 0 (bestA A)) at d4
    change Gd (cms (lvs A 0 (bestA A)) 0 (bestA A)) at G2
    change Gr (cms (lvs A 0 (bestA A)) 0 (bestA A)) (fun _ => False) at W2
    generalize hB : cms (lvs A 0 (bestA A)) 0 (bestA A) = B at *
    obtain ⟨σ5, e1, e2, e3⟩ := k_olds (A := B) (by omega) (nU B) 0 FU σ4 rfl (by unfold FU; omega) (Nat.zero_le _) (by rw [olA_0]; exact d4)
    have t16 : ∀ t, 12 ≤ t → t ≤ 18 → (kdW σ5 (nT B)).1 t = σ2.1 t := fun t h1 h2 => by
      have e : (kdW σ5 (nT B)).1 t = σ5.1 t := by
        funext i k
        unfold kdW
        rw [wr_rd, if_neg (by omega), wr_rd, if_neg (by omega), wr_rd, if_neg (by omega)]
      rw [e, e2 t (by omega), d3 t ⟨h1, h2⟩, c3 t ⟨h1, h2⟩]
    have hlack := lack_ok (A := A) (σ := kdW σ5 (nT B)) ((a3.f18 b2).fr (fun t h1 h2 => t16 t h1 (by omega))) G (fun d c hd => by rw [t16 16 (by decide) (by decide)]; exact b3 d c hd)
    have hday := e1 _ hlack
    have hCS : CS σ (kdW σ5 (nT B)) := fun t ht => by
      have e : (kdW σ5 (nT B)).1 t = σ5.1 t := by
        funext i k
        unfold kdW
        rw [wr_rd, if_neg (by omega), wr_rd, if_neg (by omega), wr_rd, if_neg (by omega)]
      rw [e, e2 t (by omega), d2 t ht, c2 t ht, hF.cs t ht]
    refine ok_in R hCS (v := iN (lk (PA A) 0 (bestA A))) ?_ (dy_C e3) (fun τ T => ?_) (dy_G G2 (by omega)) W2
    · have c1' : l_X9_leaveRows_2 FU σ2 (iN 0) = some (.inl (), σ3) := c1
      have d1' : l_X9_comeToDepots_2 FU σ3 (iN 0) = some (.inl (), σ4) := d1
      have hS' : σ.1 0 0 6 < iN 200 := hS
      simp (disch := omega) only [gd_t, gd_T, bx_some, bx_thr, bd_def, nx_in, ↓nO_eq, l0, l1, l2, l3, l4, l5, l6, l7, l8, l30, l50, l64, l100, l200, l448, l1200, iN_add, iN_lt, iN_le, iN_inj, iN_clamp, iN_inb, iN_nO, nO_iN, nO_lt, iN_ltm, iN_lem, nO_le, iN_pred, if_pos, if_neg, ↓reduceIte, or_true, true_or, and_true, true_and, ne_eq, not_true_eq_false, not_false_eq_true, false_or, or_false, and_false, false_and, f_X9_day, hS', a1, b1, f_X9_leaveRows, f_X9_comeToDepots, c1', d1', hday]
    · obtain ⟨τ1, y1, y2, y3, y4, y5⟩ := m_decides (T.thr (iN 0)) G
      obtain ⟨τ2, z1, z2, z3, z4, z5⟩ := m_lvs hL hLn hN hT g7 (bestA A) [] FU τ1 A rfl (by unfold FU; omega) y3 G W0 rfl rfl rfl y5
      obtain ⟨τ3, x1, x2, x3, x4⟩ := m_cms hL hLn hN g7 (bestA A) [] FU τ2 (lvs A 0 (bestA A)) rfl (by unfold FU; omega) z5 G1 W1 eU eD (fun d c hd => by rw [z3]; exact y5 d c hd)
      change RR τ3 (cms (lvs A 0 (bestA A)) 0 (bestA A)) at x4
      rw [hB] at x4
      have h5 : (3 : Int32) * τ3.1 30 0 5 = iN (3 * nU B) := by
        rw [x4.1.1, show (3 : Int32) = iN 3 from rfl, iN_mul]
      obtain ⟨τ4, w1, w2, w3, w4⟩ := m_olds (3 * nU B) 0 FU (3 * nU B) τ3 (by omega) rfl (by unfold FU; omega) (Nat.zero_le _) h5
      have e1' : τ4.1 30 0 1 = iN (nT B) := by rw [w3 30 (by decide)]; exact x4.1.2.2.1
      have e37 : τ4.1 30 0 37 = iN (lk (PA A) 0 (bestA A)) := by
        rw [w3 30 (by decide), x3, z4 37 (by decide)]
        exact y4
      have e0 : τ4.1 30 0 0 = 0 := by
        rw [w3 30 (by decide), x3, z4 0 (by decide), y2.2.2 0 (by decide) (by decide)]
        exact wr_same _ _ _ _ _
      refine ⟨wr (wr (wr τ4 30 0 3 0) 30 0 4 0) 30 0 1 (iN (nT B + 1)), ?_, ?_, ((((((RS.rf τ).wr (by decide)).tr y2.rs).tr z2).tr x2).tr w2 |>.wr (by decide)) |>.wr (by decide) |>.wr (by decide), dy_R x4 (by omega) w3 (fun y => by
        rw [w4]
        by_cases h : y < 3 * nU B
        · rw [if_pos ⟨Nat.zero_le _, h⟩, if_pos h]
        · rw [if_neg (fun z => h z.2), if_neg h])⟩
      · have hT1 := T.1.2.2.1
        have hne : ¬ nT A = 200 := by omega
        have z1' : l_X10_day_34 FU τ1 (iN 0) = l_X10_day_91 FU τ2 (iN 0) := z1
        have x1' : l_X10_day_91 FU τ2 (iN 0) = l_X10_day_149 FU τ3 (iN 0) := x1
        have fin : l_X10_day_149 FU τ3 (iN 0) = some (.inl (iN (lk (PA A) 0 (bestA A))), wr (wr (wr τ4 30 0 3 0) 30 0 4 0) 30 0 1 (iN (nT B + 1))) := by
          rw [w1, bd_def, bd_def]
          have r1 : (wr (wr τ4 30 0 3 0) 30 0 4 0).1 30 0 1 = iN (nT B) := by rw [wr_rd, if_neg (by omega), wr_rd, if_neg (by omega)]; exact e1'
          rw [r1, bd_def, show iN (nT B) + 1 = iN (nT B + 1) from iN_add _ 1, wr_rd, if_neg (by omega), wr_rd, if_neg (by omega), wr_rd, if_neg (by omega), e37]
        rw [show (0 : Int32) = iN 0 from rfl] at fin ⊢
        simp (disch := omega) only [gd_t, gd_T, bx_some, bx_thr, bd_def, nx_in, ↓nO_eq, l0, l1, l2, l3, l4, l5, l6, l7, l8, l30, l50, l64, l100, l200, l448, l1200, iN_add, iN_lt, iN_le, iN_inj, iN_clamp, iN_inb, iN_nO, nO_iN, nO_lt, iN_ltm, iN_lem, nO_le, iN_pred, if_pos, if_neg, ↓reduceIte, or_true, true_or, and_true, true_and, ne_eq, not_true_eq_false, not_false_eq_true, false_or, or_false, and_false, false_and, f_X10_day, hT1, hne, j_X10_day_16, wr_rd, y1, z1', x1', fin]
      · rw [wr_rd, if_neg (by omega), wr_rd, if_neg (by omega), wr_rd, if_neg (by omega)]
        exact e0
  · have hT2 : nT A = 200 := by have := G.2.2.1; omega
    refine ok_ex C R (k := 1) (E := "java/lang/IllegalStateException") ?_ wk3 (by decide) (thr_ok (fun τ T => ?_)) G W
    · unfold f_X9_day
      rw [S, hT2, if_neg (by decide)]
    · unfold f_X10_day j_X10_day_16
      rw [T.1.2.2.1, hT2, if_pos (show iN 200 = 200 from rfl), bd_def, if_neg (by rw [wr_same]; decide)]
