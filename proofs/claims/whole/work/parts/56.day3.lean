/-! the reference's runs -/
theorem m_ru12 {σ : Wd} {u a : Nat} (hu : u < 6) (ha : a < 4) (n : Nat) (x p : Int32) : l_X10_runs_12 (n + 1) σ (iN a) x (iN u) p = l_X10_runs_12 n (wr σ 34 0 (4 * u + a) (σ.1 34 0 (4 * u + a) - (wea a x - wea a (σ.1 33 0 u)))) (iN (a + 1)) x (iN u) p := by
  have n3 : ¬ (300 : Int32) = iN 0 := by decide
  have n5 : ¬ (500 : Int32) = iN 0 := by decide
  unfold wea
  by_cases h : a = 0
  · subst h
    simp (disch := omega) only [gd_t, gd_T, bx_some, bx_thr, bd_def, nx_in, ↓nO_eq, l0, l1, l2, l3, l4, l5, l6, l7, l8, l30, l50, l64, l100, l200, l448, l1200, iN_add, iN_lt, iN_le, iN_inj, iN_clamp, iN_inb, iN_nO, nO_iN, nO_lt, iN_ltm, iN_lem, nO_le, iN_pred, if_pos, if_neg, ↓reduceIte, or_true, true_or, and_true, true_and, ne_eq, not_true_eq_false, not_false_eq_true, false_or, or_false, and_false, false_and, l_X10_runs_12, j_X10_runs_32, n3, iN_mul, Nat.add_zero]
  · simp (disch := omega) only [gd_t, gd_T, bx_some, bx_thr, bd_def, nx_in, ↓nO_eq, l0, l1, l2, l3, l4, l5, l6, l7, l8, l30, l50, l64, l100, l200, l448, l1200, iN_add, iN_lt, iN_le, iN_inj, iN_clamp, iN_inb, iN_nO, nO_iN, nO_lt, iN_ltm, iN_lem, nO_le, iN_pred, if_pos, if_neg, ↓reduceIte, or_true, true_or, and_true, true_and, ne_eq, not_true_eq_false, not_false_eq_true, false_or, or_false, and_false, false_and, l_X10_runs_12, j_X10_runs_32, n5, iN_mul, h]
theorem m_ru12e {σ : Wd} {u : Nat} (hu : u < 6) (n : Nat) (x p : Int32) : l_X10_runs_12 (n + 1) σ (iN 4) x (iN u) p = l_X10_runs_78 FU (wr σ 33 0 u x) (iN 0) x (iN u) p := by
  simp (disch := omega) only [gd_t, gd_T, bx_some, bx_thr, bd_def, nx_in, ↓nO_eq, l0, l1, l2, l3, l4, l5, l6, l7, l8, l30, l50, l64, l100, l200, l448, l1200, iN_add, iN_lt, iN_le, iN_inj, iN_clamp, iN_inb, iN_nO, nO_iN, nO_lt, iN_ltm, iN_lem, nO_le, iN_pred, if_pos, if_neg, ↓reduceIte, or_true, true_or, and_true, true_and, ne_eq, not_true_eq_false, not_false_eq_true, false_or, or_false, and_false, false_and, l_X10_runs_12]
theorem m_ru78 {σ : Wd} {u k : Nat} (hu : u < 6) (hk : k < 3) (n : Nat) (x p : Int32) : l_X10_runs_78 (n + 1) σ (iN k) x (iN u) p = l_X10_runs_78 n (wr σ 35 0 (3 * u + k) (σ.1 35 0 (3 * u + k) + p)) (iN (k + 1)) x (iN u) p := by
  simp (disch := omega) only [gd_t, gd_T, bx_some, bx_thr, bd_def, nx_in, ↓nO_eq, l0, l1, l2, l3, l4, l5, l6, l7, l8, l30, l50, l64, l100, l200, l448, l1200, iN_add, iN_lt, iN_le, iN_inj, iN_clamp, iN_inb, iN_nO, nO_iN, nO_lt, iN_ltm, iN_lem, nO_le, iN_pred, if_pos, if_neg, ↓reduceIte, or_true, true_or, and_true, true_and, ne_eq, not_true_eq_false, not_false_eq_true, false_or, or_false, and_false, false_and, l_X10_runs_78, iN_mul]
theorem m_ru78e {σ : Wd} {u : Nat} (n : Nat) (x p : Int32) : l_X10_runs_78 (n + 1) σ (iN 3) x (iN u) p = some (.inl (), σ) := by
  simp (disch := omega) only [gd_t, gd_T, bx_some, bx_thr, bd_def, nx_in, ↓nO_eq, l0, l1, l2, l3, l4, l5, l6, l7, l8, l30, l50, l64, l100, l200, l448, l1200, iN_add, iN_lt, iN_le, iN_inj, iN_clamp, iN_inb, iN_nO, nO_iN, nO_lt, iN_ltm, iN_lem, nO_le, iN_pred, if_pos, if_neg, ↓reduceIte, or_true, true_or, and_true, true_and, ne_eq, not_true_eq_false, not_false_eq_true, false_or, or_false, and_false, false_and, l_X10_runs_78]
theorem m_runs {σ : Wd} {u : Nat} (hu : u < 6) (p : Int32) : ∃ σ', f_X10_runs σ (iN u) p = some (.inl (), σ') ∧ RS σ σ' ∧ (∀ t, t ≠ 33 → t ≠ 34 → t ≠ 35 → σ'.1 t = σ.1 t) ∧ (∀ v, σ'.1 33 0 v = if v = u then σ.1 33 0 u + p else σ.1 33 0 v) ∧ (∀ v a, a < 4 → σ'.1 34 0 (4 * v + a) = if v = u then σ.1 34 0 (4 * u + a) - (wea a (σ.1 33 0 u + p) - wea a (σ.1 33 0 u)) else σ.1 34 0 (4 * v + a)) ∧ ∀ v k, k < 3 → σ'.1 35 0 (3 * v + k) = if v = u then σ.1 35 0 (3 * u + k) + p else σ.1 35 0 (3 * v + k) := by
  obtain ⟨m, hm⟩ := FU_ge 5 (by decide)
  -- the axles
  have r34 : ∀ (ρ : Wd) (y : Nat) (v : Int32) (z : Nat), ¬ z = y → (wr ρ 34 0 y v).1 34 0 z = ρ.1 34 0 z := fun ρ y v z h => by rw [wr_rd, if_neg (fun q => h q.2.2)]
  have r33 : ∀ (ρ : Wd) (y : Nat) (v : Int32), (wr ρ 34 0 y v).1 33 0 u = ρ.1 33 0 u := fun ρ y v => by rw [wr_rd, if_neg (by omega)]
  have h12 : ∃ ρ, l_X10_runs_12 FU σ (iN 0) (σ.1 33 0 u + p) (iN u) p = l_X10_runs_78 FU ρ (iN 0) (σ.1 33 0 u + p) (iN u) p ∧ RS σ ρ ∧ (∀ t, t ≠ 33 → t ≠ 34 → ρ.1 t = σ.1 t) ∧ (∀ v, ρ.1 33 0 v = if v = u then σ.1 33 0 u + p else σ.1 33 0 v) ∧ ∀ v a, a < 4 → ρ.1 34 0 (4 * v + a) = if v = u then σ.1 34 0 (4 * u + a) - (wea a (σ.1 33 0 u + p) - wea a (σ.1 33 0 u)) else σ.1 34 0 (4 * v + a) := by
    refine ⟨wr (wr (wr (wr (wr σ 34 0 (4 * u + 0) (σ.1 34 0 (4 * u + 0) - (wea 0 (σ.1 33 0 u + p) - wea 0 (σ.1 33 0 u)))) 34 0 (4 * u + 1) (σ.1 34 0 (4 * u + 1) - (wea 1 (σ.1 33 0 u + p) - wea 1 (σ.1 33 0 u)))) 34 0 (4 * u + 2) (σ.1 34 0 (4 * u + 2) - (wea 2 (σ.1 33 0 u + p) - wea 2 (σ.1 33 0 u)))) 34 0 (4 * u + 3) (σ.1 34 0 (4 * u + 3) - (wea 3 (σ.1 33 0 u + p) - wea 3 (σ.1 33 0 u)))) 33 0 u (σ.1 33 0 u + p), ?_, (((((RS.rf σ).wr (by decide)).wr (by decide)).wr (by decide)).wr (by decide)).wr (by decide), fun t h1 h2 => ?_, fun v => ?_, fun v a ha => ?_⟩
    · have hl : ∀ n : Nat, n = FU → l_X10_runs_12 n σ (iN 0) (σ.1 33 0 u + p) (iN u) p = l_X10_runs_78 FU (wr (wr (wr (wr (wr σ 34 0 (4 * u + 0) (σ.1 34 0 (4 * u + 0) - (wea 0 (σ.1 33 0 u + p) - wea 0 (σ.1 33 0 u)))) 34 0 (4 * u + 1) (σ.1 34 0 (4 * u + 1) - (wea 1 (σ.1 33 0 u + p) - wea 1 (σ.1 33 0 u)))) 34 0 (4 * u + 2) (σ.1 34 0 (4 * u + 2) - (wea 2 (σ.1 33 0 u + p) - wea 2 (σ.1 33 0 u)))) 34 0 (4 * u + 3) (σ.1 34 0 (4 * u + 3) - (wea 3 (σ.1 33 0 u + p) - wea 3 (σ.1 33 0 u)))) 33 0 u (σ.1 33 0 u + p)) (iN 0) (σ.1 33 0 u + p) (iN u) p := fun n hn => by
        have hn2 : n = m + 1 + 1 + 1 + 1 + 1 := by omega
        rw [hn2, m_ru12 hu (by decide)]
        rw [m_ru12 (a := 0 + 1) hu (by decide), r34 _ _ _ _ (by omega), r33]
        rw [m_ru12 (a := 0 + 1 + 1) hu (by decide), r34 _ _ _ _ (by omega), r34 _ _ _ _ (by omega), r33, r33]
        rw [m_ru12 (a := 0 + 1 + 1 + 1) hu (by decide), r34 _ _ _ _ (by omega), r34 _ _ _ _ (by omega), r34 _ _ _ _ (by omega), r33, r33, r33]
        exact m_ru12e hu _ _ _
      exact hl FU rfl
    · funext i k
      rw [wr_rd, if_neg (by omega), wr_rd, if_neg (by omega), wr_rd, if_neg (by omega), wr_rd, if_neg (by omega), wr_rd, if_neg (by omega)]
    · rw [wr_rd]
      by_cases h : v = u
      · rw [if_pos ⟨rfl, rfl, h⟩, if_pos h]
      · rw [if_neg (fun z => h z.2.2), if_neg h, wr_rd, if_neg (by omega), wr_rd, if_neg (by omega), wr_rd, if_neg (by omega), wr_rd, if_neg (by omega)]
    · rw [wr_rd, if_neg (by omega)]
      simp only [wr_rd]
      by_cases h : v = u
      · subst h
        have : a = 0 ∨ a = 1 ∨ a = 2 ∨ a = 3 := by omega
        rcases this with rfl | rfl | rfl | rfl <;> simp
      · rw [if_neg (by omega), if_neg (by omega), if_neg (by omega), if_neg (by omega), if_neg h]
  obtain ⟨ρ, q1, q2, q3, q4, q5⟩ := h12
  have r35 : ∀ (ρ : Wd) (y : Nat) (v : Int32) (z : Nat), ¬ z = y → (wr ρ 35 0 y v).1 35 0 z = ρ.1 35 0 z := fun ρ y v z h => by rw [wr_rd, if_neg (fun q => h q.2.2)]
  have e35 : ∀ x, ρ.1 35 0 x = σ.1 35 0 x := fun x => by rw [q3 35 (by decide) (by decide)]
  refine ⟨wr (wr (wr ρ 35 0 (3 * u + 0) (σ.1 35 0 (3 * u + 0) + p)) 35 0 (3 * u + 1) (σ.1 35 0 (3 * u + 1) + p)) 35 0 (3 * u + 2) (σ.1 35 0 (3 * u + 2) + p), ?_, ((q2.wr (by decide)).wr (by decide)).wr (by decide), fun t h1 h2 h3 => ?_, fun v => ?_, fun v a ha => ?_, fun v k hk => ?_⟩
  · have hl : ∀ n : Nat, n = FU → l_X10_runs_78 n ρ (iN 0) (σ.1 33 0 u + p) (iN u) p = some (.inl (), wr (wr (wr ρ 35 0 (3 * u + 0) (σ.1 35 0 (3 * u + 0) + p)) 35 0 (3 * u + 1) (σ.1 35 0 (3 * u + 1) + p)) 35 0 (3 * u + 2) (σ.1 35 0 (3 * u + 2) + p)) := fun n hn => by
      have hn2 : n = (m + 1) + 1 + 1 + 1 + 1 := by omega
      rw [hn2, m_ru78 hu (by decide), e35]
      rw [m_ru78 (k := 0 + 1) hu (by decide), r35 _ _ _ _ (by omega), e35]
      rw [m_ru78 (k := 0 + 1 + 1) hu (by decide), r35 _ _ _ _ (by omega), r35 _ _ _ _ (by omega), e35]
      exact m_ru78e _ _ _
    have iu : inb (iN u) 6 := (iN_inb (by omega)).mpr hu
    have cu : (iN u).toNatClampNeg = u := iN_clamp (by omega)
    unfold f_X10_runs
    rw [gd_t iu, bd_def, cu, show (0 : Int32) = iN 0 from rfl, q1]
    exact hl FU rfl
  · rw [← q3 t h1 h2]
    funext i k
    rw [wr_rd, if_neg (by omega), wr_rd, if_neg (by omega), wr_rd, if_neg (by omega)]
  · rw [wr_rd, if_neg (by omega), wr_rd, if_neg (by omega), wr_rd, if_neg (by omega)]
    exact q4 v
  · rw [wr_rd, if_neg (by omega), wr_rd, if_neg (by omega), wr_rd, if_neg (by omega)]
    exact q5 v a ha
  · simp only [wr_rd]
    by_cases h : v = u
    · subst h
      have : k = 0 ∨ k = 1 ∨ k = 2 := by omega
      rcases this with rfl | rfl | rfl <;> simp
    · rw [if_neg (by omega), if_neg (by omega), if_neg (by omega), if_neg h]
      exact e35 _
theorem runs_R {σ : Wd} {A : Ab} (T : RR σ A) (g6 : nU A ≤ 6) {u : Nat} (hu : u < nU A) (p : Int32) : ∃ σ', f_X10_runs σ (iN u) p = some (.inl (), σ') ∧ RS σ σ' ∧ (∀ t, t ≠ 33 → t ≠ 34 → t ≠ 35 → σ'.1 t = σ.1 t) ∧ RR σ' (grA A u p) := by
  obtain ⟨H, F, U, D, E, R1, L, Z⟩ := T
  obtain ⟨σ', q1, q2, off, q3, q4, q5⟩ := m_runs (σ := σ) (by omega : u < 6) p
  refine ⟨σ', q1, q2, off, RRl.fr (A := grA A u p) ?_ (off _ (by decide) (by decide) (by decide)), RRf.fr F (fun t a b => off t (by omega) (by omega) (by omega)), fun v hv => ?_, ?_, ?_, RRr.fr R1 (off _ (by decide) (by decide) (by decide)) (off _ (by decide) (by decide) (by decide)), RRg.fr L (off _ (by decide) (by decide) (by decide)), fun v hv hv6 => ?_⟩
  · exact H
  · obtain ⟨u1, u2, u3, u4, u5, u6⟩ := U v hv
    obtain ⟨y1, y2, y3, y4, y5, y6⟩ := U u hu
    rw [off 31 (by decide) (by decide) (by decide), off 32 (by decide) (by decide) (by decide), off 36 (by decide) (by decide) (by decide)]
    refine ⟨u1, u2, ?_, fun k hk => ?_, u5, fun a ha => ?_⟩
    · rw [q3, grA_rd]
      by_cases h : v = u
      · rw [if_pos h, if_pos ⟨rfl, h, rfl⟩, y3]
      · rw [if_neg h, if_neg (fun z => h z.2.1), if_neg (by omega), if_neg (by omega)]; exact u3
    · rw [q5 v k hk, grA_rd]
      by_cases h : v = u
      · rw [if_pos h, if_neg (by omega), if_pos ⟨rfl, h⟩, y4 k hk]
      · rw [if_neg h, if_neg (by omega), if_neg (fun z => h z.2), if_neg (by omega)]; exact u4 k hk
    · rw [q4 v a ha, grA_rd]
      by_cases h : v = u
      · rw [if_pos h, if_neg (by omega), if_neg (by omega), if_pos ⟨rfl, h⟩, y6 a ha, y3]
      · rw [if_neg h, if_neg (by omega), if_neg (by omega), if_neg (fun z => h z.2)]; exact u6 a ha
  · exact RRd.fr (A := grA A u p) D (fun t a b => off t (by omega) (by omega) (by omega))
  · exact RRe.fr (A := grA A u p) E (fun t a b => off t (by omega) (by omega) (by omega))
  · have hv : nU A ≤ v := hv
    obtain ⟨z1, z2⟩ := Z v hv hv6
    rw [off 39 (by decide) (by decide) (by decide), off 36 (by decide) (by decide) (by decide)]
    refine ⟨z1, fun k hk => ⟨?_, (z2 k hk).2⟩⟩
    rw [q5 v k hk, if_neg (by omega)]
    exact (z2 k hk).1
/-! one comes -/
def cm (A : Ab) (d c : Nat) : Ab := if c = nU A then A else rwA (grA (aw A 31 c 0 (A.1 45 d 0)) c (A.1 46 d 0)) (A.1 45 d 0).toNatClampNeg (rw_ A (A.1 45 d 0).toNatClampNeg ++ [c])
theorem Gr.less {A : Ab} {aw : Nat → Prop} (W : Gr A aw) (g6 : nU A ≤ 6) {c e : Nat} (hc : c < nU A) (he : e < 3) (ha : aw c) : (rw_ A e).length < 6 ∧ ¬ c ∈ rw_ A e := by
  obtain ⟨w1, w2⟩ := W.1 e he
  have hn : ¬ c ∈ rw_ A e := fun z => (w2 c z).2.2 ha
  refine ⟨?_, hn⟩
  have hd : (c :: rw_ A e).Nodup := List.nodup_cons.mpr ⟨hn, w1⟩
  have := nodup_le (nU A) (c :: rw_ A e) hd (fun x hx => by
    rcases List.mem_cons.mp hx with rfl | hx
    · exact hc
    · exact (w2 x hx).1)
  simp at this
  omega
theorem k_cm {σ : Wd} {A : Ab} (C : RC σ A) (G : Gd A) {aw : Nat → Prop} (W : Gr A aw) {d c : Nat} (hd : d < nD A) (hc : c ≤ nU A) (hat : f_X3_at_16 σ (iN d) nO = some (.inl (chv (nU A) c), σ)) (hin : c < nU A → aw c) : ∃ σ', (∀ n, l_X9_comeToDepots_2 (n + 1) σ (iN d) = l_X9_comeToDepots_2 n σ' (iN (d + 1))) ∧ CS σ σ' ∧ (∀ t, 12 ≤ t ∧ t ≤ 18 → σ'.1 t = σ.1 t) ∧ RC σ' (cm A d c) := by
  have g6 := G.1
  have g7 := G.2.1
  have hs1 := c_sz1 C.1
  by_cases hcu : c = nU A
  · have ec : chv (nU A) c = nO := if_pos hcu
    rw [ec] at hat
    refine ⟨σ, fun n => ?_, CS.rf σ, fun _ _ => rfl, ?_⟩
    · simp (disch := omega) only [gd_t, gd_T, bx_some, bx_thr, bd_def, nx_in, ↓nO_eq, l0, l1, l2, l3, l4, l5, l6, l7, l8, l30, l50, l64, l100, l200, l448, l1200, iN_add, iN_lt, iN_le, iN_inj, iN_clamp, iN_inb, iN_nO, nO_iN, nO_lt, iN_ltm, iN_lem, nO_le, iN_pred, if_pos, if_neg, ↓reduceIte, or_true, true_or, and_true, true_and, ne_eq, not_true_eq_false, not_false_eq_true, false_or, or_false, and_false, false_and, l_X9_comeToDepots_2, hs1, f_X3_givenTo, hat]
    · unfold cm
      rw [if_pos hcu]
      exact C
  · have ec : chv (nU A) c = iN c := if_neg hcu
    have hcn : c < nU A := by omega
    rw [ec] at hat
    obtain ⟨e, he, he2⟩ := (G.2.2.2.2.1 d hd).1
    have hee : (A.1 45 d 0).toNatClampNeg = e := by rw [he2]; exact iN_clamp (by omega)
    obtain ⟨h6, hni⟩ := W.less g6 hcn he (hin hcn)
    obtain ⟨d0, d1, d2, _⟩ := C.2.2.2.1 d hd
    have hdi := c_diagramAt C.1 g7 hd
    have hui := c_unitAt C.1 g6 hcn
    have e8 := C.1.1
    have e9 := C.1.2.1
    have C1 : RC (wr σ 21 c 2 (A.1 45 d 0)) (Jvm.Pilot.CStablingroadLaw_law_r5257_068953.aw A 31 c 0 (A.1 45 d 0)) := by
      obtain ⟨H, F, U, D, E, R1, S, L⟩ := C
      refine ⟨H, F, fun v hv => ?_, D, E, R1, S, L⟩
      obtain ⟨u1, u2, u3, u4, u5, u6⟩ := U v hv
      refine ⟨(by rw [wr_rd, if_neg (by omega)]; exact u1), ?_, (by rw [wr_rd, if_neg (by omega)]; exact u3), u4, u5, u6⟩
      rw [wr_rd, aw_rd]
      by_cases h : v = c
      · rw [if_pos ⟨rfl, h, rfl⟩, if_pos ⟨rfl, h, rfl⟩]
      · rw [if_neg (fun z => h z.2.1), if_neg (fun z => h z.2.1)]; exact u2
    have d1' : (wr σ 21 c 2 (A.1 45 d 0)).1 25 d 2 = A.1 46 d 0 := d2
    obtain ⟨σ1, q1, q2, q3⟩ := grow_C C1 (u := c) hcn (A.1 46 d 0)
    have h25 : σ1.1 25 d 1 = iN e := by
      rw [q2 25 (by decide)]
      exact d1.trans he2
    have hro := c_rowAt (σ := σ1) he
    have hco := k_come q3.2.2.2.2.2.1 (d := e) (u := c) he h6
    have hrw : rw_ (grA (Jvm.Pilot.CStablingroadLaw_law_r5257_068953.aw A 31 c 0 (A.1 45 d 0)) c (A.1 46 d 0)) = rw_ A := rfl
    rw [hrw] at hco
    have h8 : c < σ1.2.2 8 := by rw [q3.1.1]; exact hcn
    have h9 : d < σ1.2.2 9 := by rw [q3.1.2.1]; exact hd
    refine ⟨wr (wr σ1 6 e (rw_ A e).length (iN c)) 5 e 1 (iN ((rw_ A e).length + 1)), fun n => ?_, fun t ht => ?_, fun t ht => ?_, ?_⟩
    · simp (disch := omega) only [gd_t, gd_T, bx_some, bx_thr, bd_def, nx_in, ↓nO_eq, l0, l1, l2, l3, l4, l5, l6, l7, l8, l30, l50, l64, l100, l200, l448, l1200, iN_add, iN_lt, iN_le, iN_inj, iN_clamp, iN_inb, iN_nO, nO_iN, nO_lt, iN_ltm, iN_lem, nO_le, iN_pred, if_pos, if_neg, ↓reduceIte, or_true, true_or, and_true, true_and, ne_eq, not_true_eq_false, not_false_eq_true, false_or, or_false, and_false, false_and, l_X9_comeToDepots_2, hs1, f_X3_givenTo, hat, hdi, hui, d1, d1', q1, h25, hro, hco, wr_two]
    · funext i k
      rw [wr_rd, if_neg (by omega), wr_rd, if_neg (by omega), q2 t (by omega), wr_rd, if_neg (by omega)]
    · funext i k
      rw [wr_rd, if_neg (by omega), wr_rd, if_neg (by omega), q2 t (by omega), wr_rd, if_neg (by omega)]
    · unfold cm
      rw [if_neg hcu, hee]
      have hr2 := come_R q3.2.2.2.2.2.1 (d := e) (u := c) he
      rw [hrw] at hr2
      obtain ⟨H, F, U, D, E, R1, S, L⟩ := q3
      exact ⟨H, F, U, D, E, hr2, S, L⟩
theorem m_cm {σ : Wd} {A : Ab} (T : RR σ A) (G : Gd A) {aw : Nat → Prop} (W : Gr A aw) {d c : Nat} (hd : d < nD A) (hc : c ≤ nU A) (hat : σ.1 56 0 d = chv (nU A) c) (hin : c < nU A → aw c) : ∃ σ', (∀ n, l_X10_day_91 (n + 1) σ (iN d) = l_X10_day_91 n σ' (iN (d + 1))) ∧ RS σ σ' ∧ σ'.1 56 = σ.1 56 ∧ σ'.1 30 = σ.1 30 ∧ RR σ' (cm A d c) := by
  have g6 := G.1
  have g7 := G.2.1
  have h19 := T.1.2.1
  by_cases hcu : c = nU A
  · have ec : chv (nU A) c = nO := if_pos hcu
    rw [ec] at hat
    refine ⟨σ, fun n => ?_, RS.rf σ, rfl, rfl, ?_⟩
    · simp (disch := omega) only [gd_t, gd_T, bx_some, bx_thr, bd_def, nx_in, ↓nO_eq, l0, l1, l2, l3, l4, l5, l6, l7, l8, l30, l50, l64, l100, l200, l448, l1200, iN_add, iN_lt, iN_le, iN_inj, iN_clamp, iN_inb, iN_nO, nO_iN, nO_lt, iN_ltm, iN_lem, nO_le, iN_pred, if_pos, if_neg, ↓reduceIte, or_true, true_or, and_true, true_and, ne_eq, not_true_eq_false, not_false_eq_true, false_or, or_false, and_false, false_and, l_X10_day_91, h19, hat]
    · unfold cm
      rw [if_pos hcu]
      exact T
  · have ec : chv (nU A) c = iN c := if_neg hcu
    have hcn : c < nU A := by omega
    rw [ec] at hat
    obtain ⟨e, he, he2⟩ := (G.2.2.2.2.1 d hd).1
    have hee : (A.1 45 d 0).toNatClampNeg = e := by rw [he2]; exact iN_clamp (by omega)
    obtain ⟨h6, hni⟩ := W.less g6 hcn he (hin hcn)
    obtain ⟨d0, d1, d2, _⟩ := T.2.2.2.1 d hd
    have d1' := d1.trans he2
    have hl := (T.2.2.2.2.2.1 e he).1
    have hco := m_comes he (by omega : c < 6) h6 hl
    have hA : ∀ x, x < 3 → (rw_ A x).length ≤ 6 := fun x hx => (W.len g6 hx).1
    have T1 : RR (wr (wr (wr σ 31 0 c (iN e)) 37 0 (6 * e + (rw_ A e).length) (iN c)) 38 0 e (iN ((rw_ A e).length + 1))) (rwA (Jvm.Pilot.CStablingroadLaw_law_r5257_068953.aw A 31 c 0 (A.1 45 d 0)) e (rw_ A e ++ [c])) := by
      have hr := mcome_R T.2.2.2.2.2.1 (d := e) (u := c) he h6 hA
      obtain ⟨H, F, U, D, E, R1, L, Z⟩ := T
      refine ⟨H, F, fun v hv => ?_, D, E, hr, L, Z⟩
      obtain ⟨u1, u2, u3, u4, u5, u6⟩ := U v hv
      refine ⟨?_, u2, u3, u4, u5, u6⟩
      rw [wr_rd, if_neg (by omega), wr_rd, if_neg (by omega), wr_rd]
      show _ = (Jvm.Pilot.CStablingroadLaw_law_r5257_068953.aw A 31 c 0 (A.1 45 d 0)).1 31 v 0
      rw [aw_rd]
      by_cases h : v = c
      · rw [if_pos ⟨rfl, rfl, h⟩, if_pos ⟨rfl, h, rfl⟩, he2]
      · rw [if_neg (fun z => h z.2.2), if_neg (fun z => h z.2.1)]; exact u1
    obtain ⟨σ2, q1, q2, q3, q4⟩ := runs_R T1 g6 (u := c) hcn (A.1 46 d 0)
    have r56 : ∀ (x y z : Int32) (k : Nat), (wr (wr (wr σ 31 0 c x) 37 0 (6 * e + (rw_ A e).length) y) 38 0 e z).1 56 0 k = σ.1 56 0 k := fun x y z k => by rw [wr_rd, if_neg (by omega), wr_rd, if_neg (by omega), wr_rd, if_neg (by omega)]
    have r46 : ∀ (x y z : Int32) (k : Nat), (wr (wr (wr σ 31 0 c x) 37 0 (6 * e + (rw_ A e).length) y) 38 0 e z).1 46 0 k = σ.1 46 0 k := fun x y z k => by rw [wr_rd, if_neg (by omega), wr_rd, if_neg (by omega), wr_rd, if_neg (by omega)]
    have a56 := (r56 (iN e) (iN c) (iN ((rw_ A e).length + 1)) d).trans hat
    have a46 := (r46 (iN e) (iN c) (iN ((rw_ A e).length + 1)) d).trans d2
    refine ⟨σ2, fun n => ?_, ((((RS.rf σ).wr (by decide)).wr (by decide)).wr (by decide)).tr q2, ?_, ?_, ?_⟩
    · simp (disch := omega) only [gd_t, gd_T, bx_some, bx_thr, bd_def, nx_in, ↓nO_eq, l0, l1, l2, l3, l4, l5, l6, l7, l8, l30, l50, l64, l100, l200, l448, l1200, iN_add, iN_lt, iN_le, iN_inj, iN_clamp, iN_inb, iN_nO, nO_iN, nO_lt, iN_ltm, iN_lem, nO_le, iN_pred, if_pos, if_neg, ↓reduceIte, or_true, true_or, and_true, true_and, ne_eq, not_true_eq_false, not_false_eq_true, false_or, or_false, and_false, false_and, l_X10_day_91, h19, hat, d1', hco, a56, a46, q1]
    · rw [q3 56 (by decide) (by decide) (by decide)]
      funext i k
      rw [wr_rd, if_neg (by omega), wr_rd, if_neg (by omega), wr_rd, if_neg (by omega)]
    · rw [q3 30 (by decide) (by decide) (by decide)]
      funext i k
      rw [wr_rd, if_neg (by omega), wr_rd, if_neg (by omega), wr_rd, if_neg (by omega)]
    · unfold cm
      rw [if_neg hcu, hee]
      exact q4
