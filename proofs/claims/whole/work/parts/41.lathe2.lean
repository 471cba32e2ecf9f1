def axG (A : Ab) (u : Nat) (g : Nat → Int32) : Ab := (fun t i k => if t = 34 ∧ i = u then g k else A.1 t i k, A.2)
theorem axG_rd (A : Ab) (u : Nat) (g : Nat → Int32) (t i k : Nat) : (axG A u g).1 t i k = if t = 34 ∧ i = u then g k else A.1 t i k := id rfl
theorem axG_axG (A : Ab) (u : Nat) (g h : Nat → Int32) : axG (axG A u g) u h = axG A u h := by
  unfold axG
  refine Prod.ext ?_ rfl
  funext t i k
  show (if t = 34 ∧ i = u then h k else (if t = 34 ∧ i = u then g k else A.1 t i k)) = if t = 34 ∧ i = u then h k else A.1 t i k
  by_cases hc : t = 34 ∧ i = u
  · rw [if_pos hc, if_pos hc]
  · rw [if_neg hc, if_neg hc, if_neg hc]
theorem axG_self (A : Ab) (u : Nat) : axG A u (A.1 34 u) = A := by
  refine Prod.ext ?_ rfl
  funext t i k
  show (if t = 34 ∧ i = u then A.1 34 u k else A.1 t i k) = A.1 t i k
  by_cases hc : t = 34 ∧ i = u
  · rw [if_pos hc, hc.1, hc.2]
  · rw [if_neg hc]
def lst (A : Ab) (u : Nat) : Int32 := lo4 (fun a => A.1 34 u a - ds a (fl A u))
/-- what the lathe leaves -/
def laA (A : Ab) (u : Nat) : Ab := flA (axG (aw A 30 4 0 1) u (fun _ => lst A u)) u ((fl A u).filter nfl)
def ax24 (σ : Wd) (u : Nat) (v : Int32) : Wd := wr (wr (wr (wr σ 24 u 0 v) 24 u 1 v) 24 u 2 v) 24 u 3 v
theorem ax24_rd (σ : Wd) (u : Nat) (v : Int32) (t i k : Nat) : (ax24 σ u v).1 t i k = if t = 24 ∧ i = u ∧ k < 4 then v else σ.1 t i k := by
  unfold ax24
  simp only [wr_rd]
  repeat' split
  all_goals first | rfl | omega
theorem ax24_off (σ : Wd) (u : Nat) (v : Int32) {t : Nat} (h : t ≠ 24) : (ax24 σ u v).1 t = σ.1 t := by
  funext i k
  rw [ax24_rd, if_neg (fun z => h z.1)]
theorem ax_C {σ : Wd} {A : Ab} (C : RC σ A) (u : Nat) (v : Int32) : RC (ax24 σ u v) (axG A u (fun _ => v)) := by
  obtain ⟨H, F, U, D, E, R1, S, L⟩ := C
  refine ⟨RCl.fr H (ax24_off _ _ _ (by decide)) rfl, RCf.fr F (ax24_off _ _ _ (by decide)) (ax24_off _ _ _ (by decide)) rfl, fun w hw => ?_, RCd.fr D (ax24_off _ _ _ (by decide)), RCe.fr E (ax24_off _ _ _ (by decide)) (ax24_off _ _ _ (by decide)), RCr.fr R1 (ax24_off _ _ _ (by decide)) (ax24_off _ _ _ (by decide)), RCs.fr S (ax24_off _ _ _ (by decide)), RCg.fr L (ax24_off _ _ _ (by decide))⟩
  obtain ⟨u1, u2, u3, u4, u5, u6⟩ := U w hw
  rw [ax24_off _ _ _ (by decide), ax24_off _ _ _ (by decide), ax24_off _ _ _ (by decide)]
  refine ⟨u1, u2, u3, u4, u5, fun a ha => ?_⟩
  rw [ax24_rd, axG_rd]
  by_cases h : w = u
  · rw [if_pos ⟨rfl, h, ha⟩, if_pos ⟨rfl, h⟩]
  · rw [if_neg (fun z => h z.2.1), if_neg (fun z => h z.2)]
    exact u6 a ha
theorem k_fill {σ : Wd} {u : Nat} (hu : u < σ.2.2 8) (v : Int32) : f_J7_fill_53178_24 σ u v = some (.inl (), ax24 σ u v) := by
  obtain ⟨m, hm⟩ := FU_ge 5 (by decide)
  unfold f_J7_fill_53178_24 ax24
  rw [hm]
  simp (disch := omega) only [gd_t, gd_T, bx_some, bx_thr, bd_def, nx_in, ↓nO_eq, l0, l1, l2, l3, l4, l5, l6, l7, l8, l30, l50, l64, l100, l200, l448, l1200, iN_add, iN_lt, iN_le, iN_inj, iN_clamp, iN_inb, iN_nO, nO_iN, nO_lt, iN_ltm, iN_lem, nO_le, iN_pred, if_pos, if_neg, ↓reduceIte, or_true, true_or, and_true, true_and, ne_eq, not_true_eq_false, not_false_eq_true, false_or, or_false, and_false, false_and, l_J7_fill_53178_24_5, wr_two]
theorem k_turn1 {σ : Wd} {A : Ab} (C : RC σ A) (g6 : nU A ≤ 6) {u : Nat} (hu : u < nU A) (g8 : (fl A u).length ≤ 8) (hk : ∀ f, f ∈ fl A u → okF f) {a : Nat} (ha : a < 4) (n : Nat) (x : Int32) : l_X8_turn_14 (n + 1) σ (iN a) x u = l_X8_turn_14 n σ (iN (a + 1)) (mn x (A.1 34 u a - ds a (fl A u))) u := by
  have e8 := C.1.1
  have e := (C.2.2.1 u hu).2.2.2.2.2 a ha
  unfold mn
  simp (disch := omega) only [gd_t, gd_T, bx_some, bx_thr, bd_def, nx_in, ↓nO_eq, l0, l1, l2, l3, l4, l5, l6, l7, l8, l30, l50, l64, l100, l200, l448, l1200, iN_add, iN_lt, iN_le, iN_inj, iN_clamp, iN_inb, iN_nO, nO_iN, nO_lt, iN_ltm, iN_lem, nO_le, iN_pred, if_pos, if_neg, ↓reduceIte, or_true, true_or, and_true, true_and, ne_eq, not_true_eq_false, not_false_eq_true, false_or, or_false, and_false, false_and, l_X8_turn_14, e, k_depth C g6 hu g8 hk ha]
theorem k_turn2 {σ : Wd} {A : Ab} (C : RC σ A) {u : Nat} (hu : u < nU A) (n : Nat) (x : Int32) : l_X8_turn_14 (n + 1) σ (iN 4) x u = gd (u < σ.2.2 8) (bx (f_J7_fill_53178_24 σ u x) fun v5 σ6 => gd (u < σ6.2.2 8) (bx (f_X8_dropFlats σ6 u) fun v7 σ8 => some (.inl x, σ8))) := by
  have e8 := C.1.1
  simp (disch := omega) only [gd_t, gd_T, bx_some, bx_thr, bd_def, nx_in, ↓nO_eq, l0, l1, l2, l3, l4, l5, l6, l7, l8, l30, l50, l64, l100, l200, l448, l1200, iN_add, iN_lt, iN_le, iN_inj, iN_clamp, iN_inb, iN_nO, nO_iN, nO_lt, iN_ltm, iN_lem, nO_le, iN_pred, if_pos, if_neg, ↓reduceIte, or_true, true_or, and_true, true_and, ne_eq, not_true_eq_false, not_false_eq_true, false_or, or_false, and_false, false_and, l_X8_turn_14]
theorem k_turn {σ : Wd} {A : Ab} (C : RC σ A) (g6 : nU A ≤ 6) {u : Nat} (hu : u < nU A) (g8 : (fl A u).length ≤ 8) (hk : ∀ f, f ∈ fl A u → okF f) : ∃ σ', f_X8_turn (wr σ 0 0 9 1) u = some (.inl (lst A u), σ') ∧ CS σ σ' ∧ RC σ' (laA A u) := by
  have C0 : RC (wr σ 0 0 9 1) (aw A 30 4 0 1) := by
    obtain ⟨H, F, U, D, E, R1, ⟨s1, s2, s3, s4⟩, L⟩ := C
    exact ⟨H, F, U, D, E, R1, ⟨s1, s2, s3, rfl⟩, L⟩
  have e8 := C0.1.1
  obtain ⟨m, hm⟩ := FU_ge 4 (by decide)
  have t1 := k_turn1 C0 g6 hu g8 hk (by decide : 1 < 4) (m + 3)
  have t2 := k_turn1 C0 g6 hu g8 hk (by decide : 2 < 4) (m + 2)
  have t3 := k_turn1 C0 g6 hu g8 hk (by decide : 3 < 4) (m + 1)
  have t4 := k_turn2 C0 hu m
  have kd := k_depth C0 g6 hu g8 hk (by decide : 0 < 4)
  have ka := k_axle C0.1 C0.2.2.1 hu (by decide : 0 < 4)
  have kf := k_fill (σ := wr σ 0 0 9 1) (u := u) (by rw [e8]; exact hu) (lst A u)
  have C1 : RC (ax24 (wr σ 0 0 9 1) u (lst A u)) (axG (aw A 30 4 0 1) u (fun _ => lst A u)) := ax_C C0 u (lst A u)
  have hs := c_szf C1.1 C1.2.1 (u := u) hu
  have hfl : fl (axG (aw A 30 4 0 1) u (fun _ => lst A u)) u = fl A u := rfl
  rw [hfl] at hs
  obtain ⟨σ', d1, d2, d3⟩ := k_flats (u := u) (fl A u).length (fl A u) [] FU (ax24 (wr σ 0 0 9 1) u (lst A u)) _ rfl (by unfold FU; omega) C1 g6 hu (by rw [List.append_nil]; rfl) (by rw [List.append_nil]; exact g8)
  rw [List.append_nil] at d3
  have hdf : f_X8_dropFlats (ax24 (wr σ 0 0 9 1) u (lst A u)) u = some (.inl (), σ') := by
    unfold f_X8_dropFlats
    rw [gd_t (by rw [C1.1.1]; exact hu), hs, bx_some, pr_sub, d1]
  refine ⟨σ', ?_, fun t ht => ?_, d3⟩
  · unfold f_X8_turn
    rw [gd_t (by rw [e8]; exact hu), show (0 : Int32) = iN 0 from rfl, ka, bx_some, gd_t (by rw [e8]; exact hu), kd, bx_some, hm, show (1 : Int32) = iN 1 from rfl]
    refine (t1 _).trans ((t2 _).trans ((t3 _).trans ((t4 _).trans ?_)))
    change gd (u < (wr σ 0 0 9 1).2.2 8) (bx (f_J7_fill_53178_24 (wr σ 0 0 9 1) u (lst A u)) fun v5 σ6 => gd (u < σ6.2.2 8) (bx (f_X8_dropFlats σ6 u) fun v7 σ8 => (some (.inl (lst A u), σ8) : Option ((Int32 ⊕ String) × Wd)))) = _
    rw [gd_t (by rw [e8]; exact hu), kf, bx_some, gd_t (by rw [C1.1.1]; exact hu), hdf, bx_some]
  · rw [d2 t ht, ax24_off _ _ _ (by omega)]
    funext i k
    exact if_neg (fun z => by omega)
/-! the second half's -/
theorem axm_R {σ : Wd} {A : Ab} (T : RR σ A) {u : Nat} (g : Nat → Int32) {σ' : Wd} (h1 : ∀ t, t ≠ 34 → σ'.1 t = σ.1 t) (h2 : ∀ v a, a < 4 → σ'.1 34 0 (4 * v + a) = if v = u then g a else σ.1 34 0 (4 * v + a)) : RR σ' (axG A u g) := by
  obtain ⟨H, F, U, D, E, R1, L, Z⟩ := T
  refine ⟨RRl.fr H (h1 _ (by decide)), RRf.fr F (fun t a b => h1 _ (by omega)), fun v hv => ?_, RRd.fr D (fun t a b => h1 _ (by omega)), RRe.fr E (fun t a b => h1 _ (by omega)), RRr.fr R1 (h1 _ (by decide)) (h1 _ (by decide)), RRg.fr L (h1 _ (by decide)), RRz.fr Z (h1 _ (by decide)) (h1 _ (by decide)) (h1 _ (by decide))⟩
  obtain ⟨u1, u2, u3, u4, u5, u6⟩ := U v hv
  rw [h1 31 (by decide), h1 32 (by decide), h1 33 (by decide), h1 35 (by decide), h1 36 (by decide)]
  refine ⟨u1, u2, u3, u4, u5, fun a ha => ?_⟩
  rw [h2 v a ha, axG_rd]
  by_cases h : v = u
  · rw [if_pos h, if_pos ⟨rfl, h⟩]
  · rw [if_neg h, if_neg (fun z => h z.2)]
    exact u6 a ha
theorem lathe_s (n : Nat) (σ : Wd) (a2 a1 : Int32) : l_X10_lathe_60 (n + 1) σ a2 a1 = if a2 < 0 then gd (inb ((4 : Int32) * a1) 24) <| bd ((σ.1 34 0 ((4 : Int32) * a1).toNatClampNeg)) fun x6 => l_X10_lathe_129 FU σ ((4 : Int32) * a1) x6 a1 else bd ((((8 : Int32) * a1) + a2)) fun x9 => gd (inb x9 48) <| if (σ.1 40 0 x9.toNatClampNeg) = 0 then gd (inb (((4 : Int32) * a1) + (σ.1 42 0 x9.toNatClampNeg)) 24) <| bd (wr σ 34 0 (((4 : Int32) * a1) + (σ.1 42 0 x9.toNatClampNeg)).toNatClampNeg ((σ.1 34 0 (((4 : Int32) * a1) + (σ.1 42 0 x9.toNatClampNeg)).toNatClampNeg) - (σ.1 43 0 x9.toNatClampNeg))) fun σ10 => bx (f_X10_goes σ10 a1 a2) fun v11 σ12 => (l_X10_lathe_60 n) σ12 (a2 + (-1)) a1 else (l_X10_lathe_60 n) σ (a2 + (-1)) a1 := id rfl
theorem sub_sub1 (x d e : Int32) : x - e - d = x - (d + e) := by
  rw [Int32.sub_eq_add_neg, Int32.sub_eq_add_neg, Int32.sub_eq_add_neg, Int32.add_assoc, Int32.neg_add, Int32.sub_eq_add_neg, Int32.add_comm (-e)]
theorem m_flats {u : Nat} : ∀ (n : Nat) (p r : List Fa) (fu : Nat) (σ : Wd) (A : Ab), p.length = n → n < fu → RR σ A → nU A ≤ 6 → u < nU A → fl A u = p ++ r → (∀ v, v < nU A → (fl A v).length ≤ 8) → (∀ f, f ∈ p → okF f) → ∃ σ' fu', l_X10_lathe_60 fu σ (pr n) (iN u) = l_X10_lathe_60 (fu' + 1) σ' nO (iN u) ∧ RS σ σ' ∧ RR σ' (flA (axG A u (fun a => A.1 34 u a - ds a p)) u (p.filter nfl ++ r)) ∧ σ'.1 30 = σ.1 30
  | 0, p, r, fu, σ, A, hp, hn, T, g6, hu, hl, h8, hk => by
    obtain ⟨m, rfl⟩ : ∃ m, fu = m + 1 := ⟨fu - 1, by omega⟩
    have : p = [] := List.eq_nil_of_length_eq_zero hp
    subst this
    refine ⟨σ, m, rfl, RS.rf σ, ?_, rfl⟩
    have e : (fun a => A.1 34 u a - ds a []) = A.1 34 u := by
      funext a
      show A.1 34 u a - 0 = _
      rw [Int32.sub_zero]
    rw [e, axG_self, List.filter_nil, ← hl, flA_self]; exact T
  | n + 1, p, r, fu, σ, A, hp, hn, T, g6, hu, hl, h8, hk => by
    obtain ⟨m, rfl⟩ : ∃ m, fu = m + 1 := ⟨fu - 1, by omega⟩
    rcases List.eq_nil_or_concat p with hnil | ⟨p', x, hpx⟩
    · rw [hnil] at hp
      exact absurd hp (by simp)
    · rw [hpx] at hp hl hk ⊢
      simp only [List.concat_eq_append, List.append_assoc, List.singleton_append] at hp hl hk ⊢
      have hpl : p'.length = n := by simpa using hp
      have hj : (fl A u)[n]? = some x := by rw [hl, ← hpl]; exact at_mid x r p'
      have hjl : n < (fl A u).length := (List.getElem?_eq_some_iff.mp hj).1
      have g8 := h8 u hu
      have q4 := (T.2.1 u hu).2 n x hj
      have z0 : σ.1 40 0 (8 * u + n) = x.1 := by rw [← q4]
      have z2 : σ.1 42 0 (8 * u + n) = x.2.2.1 := by rw [← q4]
      have z3 : σ.1 43 0 (8 * u + n) = x.2.2.2 := by rw [← q4]
      have hnn : ¬ iN n < 0 := by rw [show (0 : Int32) = iN 0 from rfl, iN_lt (by omega) (by decide)]; omega
      have x8 : (8 : Int32) * iN u + iN n = iN (8 * u + n) := by rw [show (8 : Int32) = iN 8 from rfl, iN_mul, iN_add]
      have hi : inb (iN (8 * u + n)) 48 := (iN_inb (by omega)).mpr (by omega)
      have hc : (iN (8 * u + n)).toNatClampNeg = 8 * u + n := iN_clamp (by omega)
      have hk' : ∀ f, f ∈ p' → okF f := fun f hf => hk f (List.mem_append_left _ hf)
      have hstep : l_X10_lathe_60 (m + 1) σ (pr (n + 1)) (iN u) = if x.1 = 0 then gd (inb (((4 : Int32) * iN u) + x.2.2.1) 24) <| bd (wr σ 34 0 (((4 : Int32) * iN u) + x.2.2.1).toNatClampNeg ((σ.1 34 0 (((4 : Int32) * iN u) + x.2.2.1).toNatClampNeg) - x.2.2.2)) fun σ10 => bx (f_X10_goes σ10 (iN u) (iN n)) fun v11 σ12 => (l_X10_lathe_60 m) σ12 (pr n) (iN u) else (l_X10_lathe_60 m) σ (pr n) (iN u) := by
        rw [show pr (n + 1) = iN n from rfl, lathe_s, if_neg hnn, bd_def, x8, gd_t hi]
        simp only [hc, z0, z2, z3, pr_add]
      rw [hstep]
      by_cases h0 : x.1 = 0
      · obtain ⟨a, ha, ha2⟩ := hk x (List.mem_append_right _ (List.mem_singleton.mpr rfl)) h0
        have hne : nfl x = false := by unfold nfl; simp; exact h0
        have x4 : (4 : Int32) * iN u + iN a = iN (4 * u + a) := by rw [show (4 : Int32) = iN 4 from rfl, iN_mul, iN_add]
        have c4 : (iN (4 * u + a)).toNatClampNeg = 4 * u + a := iN_clamp (by omega)
        have a34 := (T.2.2.1 u hu).2.2.2.2.2 a ha
        have T1 : RR (wr σ 34 0 (4 * u + a) (A.1 34 u a - x.2.2.2)) (axG A u (fun b => if b = a then A.1 34 u a - x.2.2.2 else A.1 34 u b)) := by
          refine axm_R T _ (fun t ht => ?_) (fun v b hb => ?_)
          · funext i k
            rw [wr_rd, if_neg (fun z => ht z.1)]
          · rw [wr_rd]
            by_cases hv : v = u
            · by_cases hba : b = a
              · rw [if_pos (by omega), if_pos hv, if_pos hba]
              · rw [if_neg (by omega), if_pos hv, if_neg hba, hv]
                exact (T.2.2.1 u hu).2.2.2.2.2 b hb
            · rw [if_neg (by omega), if_neg hv]
        obtain ⟨σ1, d1, d2, d3, d4⟩ := m_goes T1 g6 hu h8 hjl
        have hfl1 : fl (axG A u (fun b => if b = a then A.1 34 u a - x.2.2.2 else A.1 34 u b)) u = fl A u := rfl
        rw [hfl1, hl, ← hpl, erase_mid] at d3
        have hl' : fl (flA (axG A u (fun b => if b = a then A.1 34 u a - x.2.2.2 else A.1 34 u b)) u (p' ++ r)) u = p' ++ r := by rw [fl_flA, if_pos rfl]
        obtain ⟨σ2, fu2, q1, q2, q3, q5⟩ := m_flats n p' r m σ1 _ hpl (by omega) d3 g6 hu hl' (fun v hv => by
          rw [fl_flA]
          by_cases h : v = u
          · rw [if_pos h]
            have := h8 u hu
            rw [hl] at this
            simp at this ⊢
            omega
          · rw [if_neg h]; exact h8 v hv) hk'
        refine ⟨σ2, fu2, ?_, ((RS.rf σ).wr (by decide)).tr (d2.tr q2), ?_, ?_⟩
        · rw [if_pos h0, ha2, x4, gd_t ((iN_inb (by omega)).mpr (by omega)), c4, a34, bd_def, d1, bx_some, q1]
        · rw [List.filter_append, List.filter_cons_of_neg (by rw [hne]; decide), List.filter_nil, List.append_nil]
          refine Eq.mp (congrArg (RR σ2) ?_) q3
          have e1 : axG (flA (axG A u (fun b => if b = a then A.1 34 u a - x.2.2.2 else A.1 34 u b)) u (p' ++ r)) u (fun b => (flA (axG A u (fun b => if b = a then A.1 34 u a - x.2.2.2 else A.1 34 u b)) u (p' ++ r)).1 34 u b - ds b p') = flA (axG A u (fun b => A.1 34 u b - ds b (p' ++ [x]))) u (p' ++ r) := by
            unfold axG flA
            refine Prod.ext ?_ rfl
            funext t i k
            show (if t = 34 ∧ i = u then (if 34 = 34 ∧ u = u then (if k = a then A.1 34 u a - x.2.2.2 else A.1 34 u k) else A.1 34 u k) - ds k p' else (if t = 34 ∧ i = u then (if k = a then A.1 34 u a - x.2.2.2 else A.1 34 u k) else A.1 t i k)) = if t = 34 ∧ i = u then A.1 34 u k - ds k (p' ++ [x]) else A.1 t i k
            by_cases hc : t = 34 ∧ i = u
            · rw [if_pos hc, if_pos hc, if_pos ⟨rfl, rfl⟩, ds_app]
              have hdx : ds k [x] = if k = a then x.2.2.2 else 0 := by
                show (if x.1 = iN 0 ∧ x.2.2.1.toNatClampNeg = k then x.2.2.2 else 0) + 0 = _
                rw [Int32.add_zero, ha2, iN_clamp (by omega)]
                by_cases hka : k = a
                · rw [if_pos ⟨h0, hka.symm⟩, if_pos hka]
                · rw [if_neg (fun z => hka z.2.symm), if_neg hka]
              rw [hdx]
              by_cases hka : k = a
              · rw [if_pos hka, if_pos hka, hka, sub_sub1]
              · rw [if_neg hka, if_neg hka, Int32.add_zero]
            · rw [if_neg hc, if_neg hc, if_neg hc]
          rw [e1, flA_flA]
        · rw [q5, d4 30 (by decide)]
          funext i k
          rw [wr_rd, if_neg (fun z => by cases z.1)]
      · have hne : nfl x = true := by unfold nfl; simp; exact h0
        obtain ⟨σ2, fu2, q1, q2, q3, q5⟩ := m_flats n p' (x :: r) m σ A hpl (by omega) T g6 hu hl h8 hk'
        refine ⟨σ2, fu2, ?_, q2, ?_, q5⟩
        · rw [if_neg h0, q1]
        · rw [List.filter_append, List.filter_cons_of_pos hne, List.filter_nil, List.append_assoc]
          refine Eq.mp (congrArg (RR σ2) ?_) q3
          have e2 : (fun a => A.1 34 u a - ds a p') = fun a => A.1 34 u a - ds a (p' ++ [x]) := by
            funext k
            rw [ds_app]
            have hdx : ds k [x] = 0 := by
              show (if x.1 = iN 0 ∧ x.2.2.1.toNatClampNeg = k then x.2.2.2 else 0) + 0 = _
              rw [if_neg (fun z => h0 z.1), Int32.add_zero]
            rw [hdx, Int32.add_zero]
          rw [e2]
          rfl
theorem m_min1 {σ : Wd} {A : Ab} (T : RR σ A) (g6 : nU A ≤ 6) {u : Nat} (hu : u < nU A) {a : Nat} (ha : a < 4) (n : Nat) (x : Int32) : l_X10_lathe_129 (n + 1) σ (iN (4 * u + a)) x (iN u) = l_X10_lathe_129 n σ (iN (4 * u + (a + 1))) (mn x (A.1 34 u a)) (iN u) := by
  have e := (T.2.2.1 u hu).2.2.2.2.2 a ha
  have hj1 : 4 * u + a + 1 = 4 * u + (a + 1) := rfl
  unfold mn
  by_cases h1 : x ≤ A.1 34 u a
  · simp (disch := omega) only [gd_t, gd_T, bx_some, bx_thr, bd_def, nx_in, ↓nO_eq, l0, l1, l2, l3, l4, l5, l6, l7, l8, l30, l50, l64, l100, l200, l448, l1200, iN_add, iN_lt, iN_le, iN_inj, iN_clamp, iN_inb, iN_nO, nO_iN, nO_lt, iN_ltm, iN_lem, nO_le, iN_pred, if_pos, if_neg, ↓reduceIte, or_true, true_or, and_true, true_and, ne_eq, not_true_eq_false, not_false_eq_true, false_or, or_false, and_false, false_and, l_X10_lathe_129, iN_mul, e, h1, lt_not.mpr h1, hj1]
  · simp (disch := omega) only [gd_t, gd_T, bx_some, bx_thr, bd_def, nx_in, ↓nO_eq, l0, l1, l2, l3, l4, l5, l6, l7, l8, l30, l50, l64, l100, l200, l448, l1200, iN_add, iN_lt, iN_le, iN_inj, iN_clamp, iN_inb, iN_nO, nO_iN, nO_lt, iN_ltm, iN_lem, nO_le, iN_pred, if_pos, if_neg, ↓reduceIte, or_true, true_or, and_true, true_and, ne_eq, not_true_eq_false, not_false_eq_true, false_or, or_false, and_false, false_and, l_X10_lathe_129, iN_mul, e, h1, le_not.mp h1, hj1]
theorem m_min4 {σ : Wd} {u : Nat} (hu : u < 6) (n : Nat) (x : Int32) : l_X10_lathe_129 (n + 1) σ (iN (4 * u + 4)) x (iN u) = l_X10_lathe_169 FU σ (iN (4 * u)) x (iN u) := by
  simp (disch := omega) only [gd_t, gd_T, bx_some, bx_thr, bd_def, nx_in, ↓nO_eq, l0, l1, l2, l3, l4, l5, l6, l7, l8, l30, l50, l64, l100, l200, l448, l1200, iN_add, iN_lt, iN_le, iN_inj, iN_clamp, iN_inb, iN_nO, nO_iN, nO_lt, iN_ltm, iN_lem, nO_le, iN_pred, if_pos, if_neg, ↓reduceIte, or_true, true_or, and_true, true_and, ne_eq, not_true_eq_false, not_false_eq_true, false_or, or_false, and_false, false_and, l_X10_lathe_129, iN_mul]
theorem m_set {σ : Wd} {u : Nat} (hu : u < 6) (x : Int32) : l_X10_lathe_169 FU σ (iN (4 * u)) x (iN u) = some (.inl x, ax4 σ u x) := by
  obtain ⟨m, hm⟩ := FU_ge 5 (by decide)
  rw [hm]
  have st : ∀ (ρ : Wd) (n k : Nat), k < 4 → l_X10_lathe_169 (n + 1) ρ (iN (4 * u + k)) x (iN u) = l_X10_lathe_169 n (wr ρ 34 0 (4 * u + k) x) (iN (4 * u + k + 1)) x (iN u) := fun ρ n k hk => by
    simp (disch := omega) only [gd_t, gd_T, bx_some, bx_thr, bd_def, nx_in, ↓nO_eq, l0, l1, l2, l3, l4, l5, l6, l7, l8, l30, l50, l64, l100, l200, l448, l1200, iN_add, iN_lt, iN_le, iN_inj, iN_clamp, iN_inb, iN_nO, nO_iN, nO_lt, iN_ltm, iN_lem, nO_le, iN_pred, if_pos, if_neg, ↓reduceIte, or_true, true_or, and_true, true_and, ne_eq, not_true_eq_false, not_false_eq_true, false_or, or_false, and_false, false_and, l_X10_lathe_169, iN_mul]
  have en : ∀ (ρ : Wd) (n : Nat), l_X10_lathe_169 (n + 1) ρ (iN (4 * u + 4)) x (iN u) = some (.inl x, ρ) := fun ρ n => by
    simp (disch := omega) only [gd_t, gd_T, bx_some, bx_thr, bd_def, nx_in, ↓nO_eq, l0, l1, l2, l3, l4, l5, l6, l7, l8, l30, l50, l64, l100, l200, l448, l1200, iN_add, iN_lt, iN_le, iN_inj, iN_clamp, iN_inb, iN_nO, nO_iN, nO_lt, iN_ltm, iN_lem, nO_le, iN_pred, if_pos, if_neg, ↓reduceIte, or_true, true_or, and_true, true_and, ne_eq, not_true_eq_false, not_false_eq_true, false_or, or_false, and_false, false_and, l_X10_lathe_169, iN_mul]
  refine (st σ (m + 4) 0 (by decide)).trans ((st _ (m + 3) 1 (by decide)).trans ((st _ (m + 2) 2 (by decide)).trans ((st _ (m + 1) 3 (by decide)).trans ?_)))
  exact en _ _
theorem m_lathe {τ : Wd} {A : Ab} (T : RR τ A) (G : Gd A) {u : Nat} (hu : u < nU A) (h1 : A.1 31 u 0 = 0) (h2 : A.1 30 4 0 = 0) : ∃ σ', f_X10_lathe τ (iN u) = some (.inl (lst A u), σ') ∧ σ'.1 30 0 0 = 0 ∧ RS τ σ' ∧ RR σ' (laA A u) := by
  have g6 := G.1
  have h8 : ∀ v, v < nU A → (fl A v).length ≤ 8 := fun v hv => (G.2.2.2.1 v hv).1
  have hk : ∀ f, f ∈ fl A u → okF f := fun f hf => ((G.2.2.2.1 u hu).2 f hf).2
  have T0 : RR (wr (wr τ 30 0 0 0) 30 0 4 1) (aw A 30 4 0 1) := by
    obtain ⟨⟨l1, l2, l3, l4, l5, l6⟩, F, U, D, E, R1, L, Z⟩ := T
    exact ⟨⟨l1, l2, l3, l4, l5, rfl⟩, F, U, D, E, R1, L, Z⟩
  have S0 : RS τ (wr (wr τ 30 0 0 0) 30 0 4 1) := ((RS.rf τ).wr (by decide)).wr (by decide)
  have t31 := (T.2.2.1 u hu).1
  have t4 := T.1.2.2.2.2.2
  have t39 := (T0.2.1 u hu).1
  obtain ⟨σ1, fu, q1, q2, q3, q5⟩ := m_flats (u := u) (fl A u).length (fl A u) [] FU _ _ rfl (by have := h8 u hu; unfold FU; omega) T0 g6 hu (by rw [List.append_nil]; rfl) h8 hk
  rw [List.append_nil] at q3
  have a0 := (q3.2.2.1 u hu).2.2.2.2.2 0 (by decide)
  have hax : ∀ a, (flA (axG (aw A 30 4 0 1) u (fun a => (aw A 30 4 0 1).1 34 u a - ds a (fl A u))) u ((fl A u).filter nfl)).1 34 u a = A.1 34 u a - ds a (fl A u) := fun a => if_pos ⟨rfl, rfl⟩
  have x4 : (4 : Int32) * iN u = iN (4 * u) := by rw [show (4 : Int32) = iN 4 from rfl, iN_mul]
  have c4 : (iN (4 * u)).toNatClampNeg = 4 * u := iN_clamp (by omega)
  rw [Nat.add_zero, hax] at a0
  have m1 := fun a ha n x => m_min1 q3 g6 hu (a := a) ha n x
  simp only [hax] at m1
  obtain ⟨m, hm⟩ := FU_ge 5 (by decide)
  have hmin : l_X10_lathe_129 FU σ1 (iN (4 * u)) (A.1 34 u 0 - ds 0 (fl A u)) (iN u) = some (.inl (lst A u), ax4 σ1 u (lst A u)) := by
    have hm0 := m1 0 (by decide) (m + 4) (A.1 34 u 0 - ds 0 (fl A u))
    rw [mn_self, Nat.add_zero] at hm0
    have hm4 := m_min4 (σ := σ1) (by omega : u < 6) m (lst A u)
    rw [m_set (by omega)] at hm4
    rw [hm]
    refine hm0.trans ((m1 1 (by decide) (m + 3) _).trans ((m1 2 (by decide) (m + 2) _).trans ((m1 3 (by decide) (m + 1) _).trans ?_)))
    exact hm4
  refine ⟨ax4 σ1 u (lst A u), ?_, ?_, ax4_S (S0.tr q2) _ _, ?_⟩
  · have n10 : ¬ iN 1 = 0 := by decide
    have cu : (iN u).toNatClampNeg = u := iN_clamp (by omega)
    have e39 : (wr (wr τ 30 0 0 0) 30 0 4 1).1 39 0 (iN u).toNatClampNeg = iN (fl A u).length := by rw [cu]; exact t39
    have e31 : τ.1 31 0 (iN u).toNatClampNeg = A.1 31 u 0 := by rw [cu]; exact t31
    unfold f_X10_lathe j_X10_lathe_34
    rw [m_isUnit T.1 g6 hu, bx_some, if_neg n10, gd_t ((iN_inb (by omega)).mpr (by omega)), e31, if_pos h1, t4, if_pos h2, bd_def, if_pos (by rw [wr_same]; decide), bd_def, gd_t ((iN_inb (by omega)).mpr (by omega)), e39, pr_sub, bd_def, q1, lathe_s, if_pos (by decide), x4, gd_t ((iN_inb (by omega)).mpr (by omega)), c4, a0, bd_def, hmin]
  · rw [ax4_rd, if_neg (by omega), q5]
    rfl
  · have := axm_R q3 (u := u) (fun _ => lst A u) (σ' := ax4 σ1 u (lst A u)) (fun t ht => by
      funext i k
      rw [ax4_rd, if_neg (fun z => ht z.1)]) (fun v a ha => by
      rw [ax4_rd]
      by_cases h : v = u
      · rw [if_pos (by omega), if_pos h]
      · rw [if_neg (by omega), if_neg h])
    refine Eq.mp (congrArg (RR _) ?_) this
    unfold laA axG flA
    refine Prod.ext ?_ rfl
    funext t i k
    show (if t = 34 ∧ i = u then lst A u else (if t = 34 ∧ i = u then (aw A 30 4 0 1).1 34 u k - ds k (fl A u) else (aw A 30 4 0 1).1 t i k)) = if t = 34 ∧ i = u then lst A u else (aw A 30 4 0 1).1 t i k
    by_cases hc : t = 34 ∧ i = u
    · rw [if_pos hc, if_pos hc]
    · rw [if_neg hc, if_neg hc, if_neg hc]
theorem lan {σ : Wd} {a : Int32} {k : Nat} (hk : 0 < k) (h2 : k < 10) : j_X10_lathe_34 σ a (iN k) = some (.inl 0, wr σ 30 0 0 (iN k)) := by
  unfold j_X10_lathe_34
  rw [bd_def, if_neg (by rw [wr_same, show (0 : Int32) = iN 0 from rfl, iN_le (by omega) (by decide)]; omega)]
theorem st_lathe {σ : Wd} (I : Inv σ) (w1 : Int32) : ∃ σ', c_lathe σ w1 = some σ' ∧ Inv σ' := by
  obtain ⟨A, C, R, G, W⟩ := I
  have g6 := G.1
  have e8 := C.1.1
  rcases rng w1 (nU A) (by omega) with ⟨u, hu, rfl⟩ | h1
  · have g8 := (G.2.2.2.1 u hu).1
    have hk : ∀ f, f ∈ fl A u → okF f := fun f hf => ((G.2.2.2.1 u hu).2 f hf).2
    have u2 := (C.2.2.1 u hu).2.1
    have s9 := C.2.2.2.2.2.2.1.2.2.2
    have n10 : ¬ iN 1 = 0 := by decide
    have iu : inb (iN u) 6 := (iN_inb (by omega)).mpr (by omega)
    have cu : (iN u).toNatClampNeg = u := iN_clamp (by omega)
    by_cases ha : A.1 31 u 0 = 0
    · by_cases hb : A.1 30 4 0 = 0
      · obtain ⟨σ1, d1, d2, d3⟩ := k_turn C g6 hu g8 hk
        refine ok_in R d2 (v := lst A u) ?_ d3 (fun τ T => m_lathe T G hu ha hb) ?_ W
        · unfold f_X9_lathe
          rw [c_unitAt C.1 g6 hu, bx_some, gd_t (by omega), u2, if_pos ha, s9, if_pos hb, bd_def, d1, bx_some]
        · exact fl_G (A := axG (aw A 30 4 0 1) u (fun _ => lst A u)) G (List.length_filter_le _ _) (fun f hf => (List.mem_filter.mp hf).1)
      · refine ok_ex C R (k := 2) (E := "java/lang/IllegalStateException") ?_ wk3 (by decide) (thr_ok (fun τ T => ?_)) G W
        · unfold f_X9_lathe
          rw [c_unitAt C.1 g6 hu, bx_some, gd_t (by omega), u2, if_pos ha, s9, if_neg hb]
        · unfold f_X10_lathe j_X10_lathe_29
          rw [m_isUnit T.1 g6 hu, bx_some, if_neg n10, gd_t iu, cu, (T.2.2.1 u hu).1, if_pos ha, T.1.2.2.2.2.2, if_neg hb]
          exact lan (k := 2) (by decide) (by decide)
    · refine ok_ex C R (k := 2) (E := "java/lang/IllegalStateException") ?_ wk3 (by decide) (thr_ok (fun τ T => ?_)) G W
      · unfold f_X9_lathe
        rw [c_unitAt C.1 g6 hu, bx_some, gd_t (by omega), u2, if_neg ha]
      · unfold f_X10_lathe j_X10_lathe_29
        rw [m_isUnit T.1 g6 hu, bx_some, if_neg n10, gd_t iu, cu, (T.2.2.1 u hu).1, if_neg ha]
        exact lan (k := 2) (by decide) (by decide)
  · refine ok_ex C R (k := 1) (E := "java/lang/IndexOutOfBoundsException") ?_ wk1 (by decide) (thr_ok (fun τ T => ?_)) G W
    · unfold f_X9_lathe
      rw [c_unitAt_no C.1 h1, bx_thr]
    · unfold f_X10_lathe
      rw [m_isUnit_no T.1 g6 h1, bx_some, if_pos (show iN 0 = 0 from rfl)]
      exact lan (k := 1) (by decide) (by decide)
