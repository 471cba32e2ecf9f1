def axG (A : Ab) (u : Nat) (g : Nat → Int32) : Ab := (fun t i k => if t = 34 ∧ i = u then g k else A.1 t i k, A.2)
theorem axG_rd (A : Ab) (u : Nat) (g : Nat → Int32) (t i k : Nat) : (axG A u g).1 t i k = if t = 34 ∧ i = u then g k else A.1 t i k := id rfl
theorem axG_axG (A : Ab) (u : Nat) (g h : Nat → Int32) : axG (axG A u g) u h = axG A u h := by
  unfold axG
  refine Prod.ext ?_ rfl
  funext t i k
  show (if t = 34 ∧ i = u then h k else (if t = 34 ∧ i = u then g k else A.1 t i k)) = if t = 34 ∧ i = u then h k else A.1 t i k
  by_cases hc : t = 34 ∧ i = u
  · rw [if_pos hc, if_pos hc]
  · rw [if_neg hc, if_neg hc, if_neg hc]
theorem axG_self (A : Ab) (u : Nat) : axG A u (A.1 34 u) = A := by
  refine Prod.ext ?_ rfl
  funext t i k
  show (if t = 34 ∧ i = u then A.1 34 u k else A.1 t i k) = A.1 t i k
  by_cases hc : t = 34 ∧ i = u
  · rw [if_pos hc, hc.1, hc.2]
  · rw [if_neg hc]
def lst (A : Ab) (u : Nat) : Int32 := lo4 (fun a => A.1 34 u a - ds a (fl A u))
/-- what the lathe leaves -/
def laA (A : Ab) (u : Nat) : Ab := flA (axG (aw A 30 4 0 1) u (fun _ => lst A u)) u ((fl A u).filter nfl)
def ax24 (σ : Wd) (u : Nat) (v : Int32) : Wd := wr (wr (wr (wr σ 24 u 0 v) 24 u 1 v) 24 u 2 v) 24 u 3 v
theorem ax24_rd (σ : Wd) (u : Nat) (v : Int32) (t i k : Nat) : (ax24 σ u v).1 t i k = if t = 24 ∧ i = u ∧ k < 4 then v else σ.1 t i k := by
  unfold ax24
  simp only [wr_rd]
  repeat' split
  all_goals first | rfl | omega
theorem ax24_off (σ : Wd) (u : Nat) (v : Int32) {t : Nat} (h : t ≠ 24) : (ax24 σ u v).1 t = σ.1 t := by
  funext i k
  rw [ax24_rd, if_neg (fun z => h z.1)]
theorem ax_C {σ : Wd} {A : Ab} (C : RC σ A) (u : Nat) (v : Int32) : RC (ax24 σ u v) (axG A u (fun _ => v)) := by
  obtain ⟨H, F, U, D, E, R1, S, L⟩ := C
  refine ⟨RCl.fr H (ax24_off _ _ _ (by decide)) rfl, RCf.fr F (ax24_off _ _ _ (by decide)) (ax24_off _ _ _ (by decide)) rfl, fun w hw => ?_, RCd.fr D (ax24_off _ _ _ (by decide)), RCe.fr E (ax24_off _ _ _ (by decide)) (ax24_off _ _ _ (by decide)), RCr.fr R1 (ax24_off _ _ _ (by decide)) (ax24_off _ _ _ (by decide)), RCs.fr S (ax24_off _ _ _ (by decide)), RCg.fr L (ax24_off _ _ _ (by decide))⟩
  obtain ⟨u1, u2, u3, u4, u5, u6⟩ := U w hw
  rw [ax24_off _ _ _ (by decide), ax24_off _ _ _ (by decide), ax24_off _ _ _ (by decide)]
  refine ⟨u1, u2, u3, u4, u5, fun a ha => ?_⟩
  rw [ax24_rd, axG_rd]
  by_cases h : w = u
  · rw [if_pos ⟨rfl, h, ha⟩, if_pos ⟨rfl, h⟩]
  · rw [if_neg (fun z => h z.2.1), if_neg (fun z => h z.2)]
    exact u6 a ha
theorem k_fill {σ : Wd} {u : Nat} (hu : u < σ.2.2 8) (v : Int32) : f_J7_fill_53178_24 σ u v = some (.inl (), ax24 σ u v) := by
  obtain ⟨m, hm⟩ := FU_ge 5 (by decide)
  unfold f_J7_fill_53178_24 ax24
  rw [hm]
  simp (disch := omega) only [gd_t, gd_T, bx_some, bx_thr, bd_def, nx_in, ↓nO_eq, l0, l1, l2, l3, l4, l5, l6, l7, l8, l30, l50, l64, l100, l200, l448, l1200, iN_add, iN_lt, iN_le, iN_inj, iN_clamp, iN_inb, iN_nO, nO_iN, nO_lt, iN_ltm, iN_lem, nO_le, iN_pred, if_pos, if_neg, ↓reduceIte, or_true, true_or, and_true, true_and, ne_eq, not_true_eq_false, not_false_eq_true, false_or, or_false, and_false, false_and, l_J7_fill_53178_24_5, wr_two]
theorem k_turn1 {σ : Wd} {A : Ab} (C : RC σ A) (g6 : nU A ≤ 6) {u : Nat} (hu : u < nU A) (g8 : (fl A u).length ≤ 8) (hk : ∀ f, f ∈ fl A u → okF f) {a : Nat} (ha : a < 4) (n : Nat) (x : Int32) : l_X8_turn_14 (n + 1) σ (iN a) x u = l_X8_turn_14 n σ (iN (a + 1)) (mn x (A.1 34 u a - ds a (fl A u))) u := by
  have e8 := C.1.1
  have e := (C.2.2.1 u hu).2.2.2.2.2 a ha
  unfold mn
  simp (disch := omega) only [gd_t, gd_T, bx_some, bx_thr, bd_def, nx_in, ↓nO_eq, l0, l1, l2, l3, l4, l5, l6, l7, l8, l30, l50, l64, l100, l200, l448, l1200, iN_add, iN_lt, iN_le, iN_inj, iN_clamp, iN_inb, iN_nO, nO_iN, nO_lt, iN_ltm, iN_lem, nO_le, iN_pred, if_pos, if_neg, ↓reduceIte, or_true, true_or, and_true, true_and, ne_eq, not_true_eq_false, not_false_eq_true, false_or, or_false, and_false, false_and, l_X8_turn_14, e, k_depth C g6 hu g8 hk ha]
theorem k_turn2 {σ : Wd} {A : Ab} (C : RC σ A) {u : Nat} (hu : u < nU A) (n : Nat) (x : Int32) : l_X8_turn_14 (n + 1) σ (iN 4) x u = gd (u < σ.2.2 8) (bx (f_J7_fill_53178_24 σ u x) fun v5 σ6 => gd (u < σ6.2.2 8) (bx (f_X8_dropFlats σ6 u) fun v7 σ8 => some (.inl x, σ8))) := by
  have e8 := C.1.1
  simp (disch := omega) only [gd_t, gd_T, bx_some, bx_thr, bd_def, nx_in, ↓nO_eq, l0, l1, l2, l3, l4, l5, l6, l7, l8, l30, l50, l64, l100, l200, l448, l1200, iN_add, iN_lt, iN_le, iN_inj, iN_clamp, iN_inb, iN_nO, nO_iN, nO_lt, iN_ltm, iN_lem, nO_le, iN_pred, if_pos, if_neg, ↓reduceIte, or_true, true_or, and_true, true_and, ne_eq, not_true_eq_false, not_false_eq_true, false_or, or_false, and_false, false_and, l_X8_turn_14]
theorem k_turn {σ : Wd} {A : Ab} (C : RC σ A) (g6 : nU A ≤ 6) {u : Nat} (hu : u < nU A) (g8 : (fl A u).length ≤ 8) (hk : ∀ f, f ∈ fl A u → okF f) : ∃ σ', f_X8_turn (wr σ 0 0 9 1) u = some (.inl (lst A u), σ') ∧ CS σ σ' ∧ RC σ' (laA A u) := by
  have C0 : RC (wr σ 0 0 9 1) (aw A 30 4 0 1) := by
    obtain ⟨H, F, U, D, E, R1, ⟨s1, s2, s3, s4⟩, L⟩ := C
    exact ⟨H, F, U, D, E, R1, ⟨s1, s2, s3, rfl⟩, L⟩
  have e8 := C0.1.1
  obtain ⟨m, hm⟩ := FU_ge 4 (by decide)
  have t1 := k_turn1 C0 g6 hu g8 hk (by decide : 1 < 4) (m + 3)
  have t2 := k_turn1 C0 g6 hu g8 hk (by decide : 2 < 4) (m + 2)
  have t3 := k_turn1 C0 g6 hu g8 hk (by decide : 3 < 4) (m + 1)
  have t4 := k_turn2 C0 hu m
  have kd := k_depth C0 g6 hu g8 hk (by decide : 0 < 4)
  have ka := k_axle C0.1 C0.2.2.1 hu (by decide : 0 < 4)
  have kf := k_fill (σ := wr σ 0 0 9 1) (u := u) (by rw [e8]; exact hu) (lst A u)
  have C1 : RC (ax24 (wr σ 0 0 9 1) u (lst A u)) (axG (aw A 30 4 0 1) u (fun _ => lst A u)) := ax_C C0 u (lst A u)
  have hs := c_szf C1.1 C1.2.1 (u := u) hu
  have hfl : fl (axG (aw A 30 4 0 1) u (fun _ => lst A u)) u = fl A u := rfl
  rw [hfl] at hs
  obtain ⟨σ', d1, d2, d3⟩ := k_flats (u := u) (fl A u).length (fl A u) [] FU (ax24 (wr σ 0 0 9 1) u (lst A u)) _ rfl (by unfold FU; omega) C1 g6 hu (by rw [List.append_nil]; rfl) (by rw [List.append_nil]; exact g8)
  rw [List.append_nil] at d3
  have hdf : f_X8_dropFlats (ax24 (wr σ 0 0 9 1) u (lst A u)) u = some (.inl (), σ') := by
    unfold f_X8_dropFlats
    rw [gd_t (by rw [C1.1.1]; exact hu), hs, bx_some, pr_sub, d1]
  refine ⟨σ', ?_, fun t ht => ?_, d3⟩
  · unfold f_X8_turn
    rw [gd_t (by rw [e8]; exact hu), show (0 : Int32) = iN 0 from rfl, ka, bx_some, gd_t (by rw [e8]; exact hu), kd, bx_some, hm, show (1 : Int32) = iN 1 from rfl]
    refine (t1 _).trans ((t2 _).trans ((t3 _).trans ((t4 _).trans ?_)))
    change gd (u < (wr σ 0 0 9 1).2.2 8) (bx (f_J7_fill_53178_24 (wr σ 0 0 9 1) u (lst A u)) fun v5 σ6 => gd (u < σ6.2.2 8) (bx (f_X8_dropFlats σ6 u) fun v7 σ8 => (some (.inl (lst A u), σ8) : Option ((Int32 ⊕ String) × Wd)))) = _
    rw [gd_t (by rw [e8]; exact hu), kf, bx_some, gd_t (by rw [C1.1.1]; exact hu), hdf, bx_some]
  · rw [d2 t ht, ax24_off _ _ _ (by omega)]
    funext i k
    exact if_neg (fun z => by omega)
/-! the second half's -/
theorem sub_sub1 (x d e : Int32) : x - e - d = x - (d + e) := by
  rw [Int32.sub_eq_add_neg, Int32.sub_eq_add_neg, Int32.sub_eq_add_neg, Int32.add_assoc, Int32.neg_add, Int32.sub_eq_add_neg, Int32.add_comm (-e)]
