/-! the day: who leaves -/
def dpt (A : Ab) (c : Nat) : Nat := (A.1 31 c 0).toNatClampNeg
def lv (A : Ab) (d c : Nat) : Ab := if c = nU A then aw A 55 d (nT A) nO else rwA (aw (aw A 55 d (nT A) (iN c)) 30 2 0 (A.1 30 2 0 + iN ((rw_ A (dpt A c)).length - 1 - (rw_ A (dpt A c)).idxOf c))) (dpt A c) (wo c (rw_ A (dpt A c)))
theorem log_C {σ : Wd} {A : Ab} (C : RC σ A) {d : Nat} (hd : d < 6) (ht : nT A < 200) (v : Int32) : RC (wr σ 20 0 (6 * nT A + d) v) (aw A 55 d (nT A) v) := by
  obtain ⟨H, F, U, D, E, R1, S, L⟩ := C
  refine ⟨H, F, U, D, E, R1, S, fun x hx t htt => ?_⟩
  have := L x hx t htt
  rw [wr_rd, aw_rd]
  by_cases h : x = d ∧ t = nT A
  · rw [if_pos ⟨rfl, rfl, by omega⟩, if_pos ⟨rfl, h.1, h.2⟩]
  · rw [if_neg (by omega), if_neg (by omega)]
    exact this
theorem rec_ok {σ : Wd} {d T : Nat} (hd : d < 6) (ht : T < 200) (v : Int32) : f_X4_record σ (iN d) (iN T) v = some (.inl (), wr σ 20 0 (6 * T + d) v) := by
  have h1 : T * 6 + d = 6 * T + d := by omega
  simp (disch := omega) only [gd_t, gd_T, bx_some, bx_thr, bd_def, nx_in, ↓nO_eq, l0, l1, l2, l3, l4, l5, l6, l7, l8, l30, l50, l64, l100, l200, l448, l1200, iN_add, iN_lt, iN_le, iN_inj, iN_clamp, iN_inb, iN_nO, nO_iN, nO_lt, iN_ltm, iN_lem, nO_le, iN_pred, if_pos, if_neg, ↓reduceIte, or_true, true_or, and_true, true_and, ne_eq, not_true_eq_false, not_false_eq_true, false_or, or_false, and_false, false_and, f_X4_record, iN_mul, h1]
theorem Gr.row {A : Ab} {aw : Nat → Prop} (W : Gr A aw) {c : Nat} (hc : c < nU A) (h : ¬ aw c) : dpt A c < 3 ∧ A.1 31 c 0 = iN (dpt A c) ∧ c ∈ rw_ A (dpt A c) := by
  obtain ⟨e, he, h1, h2⟩ := W.2 c hc
  have hd : dpt A c = e := by
    unfold dpt
    rw [h1]
    exact iN_clamp (by omega)
  rw [hd]
  exact ⟨he, h1, h2.resolve_left h⟩
theorem k_lv {σ : Wd} {A : Ab} (C : RC σ A) (G : Gd A) {aw : Nat → Prop} (W : Gr A aw) {d c : Nat} (hd : d < nD A) (hc : c ≤ nU A) (ht : nT A < 200) (hat : ∀ ρ : Wd, ρ.1 16 = σ.1 16 → f_X3_at_16 ρ (iN d) nO = some (.inl (chv (nU A) c), ρ)) (hin : c < nU A → ¬ aw c) : ∃ σ', (∀ n, l_X9_leaveRows_2 (n + 1) σ (iN d) = l_X9_leaveRows_2 n σ' (iN (d + 1))) ∧ CS σ σ' ∧ (∀ t, 12 ≤ t ∧ t ≤ 18 → σ'.1 t = σ.1 t) ∧ RC σ' (lv A d c) := by
  have g6 := G.1
  have g7 := G.2.1
  have S := C.2.2.2.2.2.2.1.1
  have hs1 := c_sz1 C.1
  have ha := hat σ rfl
  have hr := rec_ok (σ := σ) (by omega : d < 6) ht (chv (nU A) c)
  have C1 := log_C C (by omega : d < 6) ht (chv (nU A) c)
  by_cases hcu : c = nU A
  · have ec : chv (nU A) c = nO := if_pos hcu
    rw [ec] at ha hr C1
    refine ⟨wr σ 20 0 (6 * nT A + d) nO, fun n => ?_, (CS.rf σ).wr (by decide), fun t h => ?_, ?_⟩
    · simp (disch := omega) only [gd_t, gd_T, bx_some, bx_thr, bd_def, nx_in, ↓nO_eq, l0, l1, l2, l3, l4, l5, l6, l7, l8, l30, l50, l64, l100, l200, l448, l1200, iN_add, iN_lt, iN_le, iN_inj, iN_clamp, iN_inb, iN_nO, nO_iN, nO_lt, iN_ltm, iN_lem, nO_le, iN_pred, if_pos, if_neg, ↓reduceIte, or_true, true_or, and_true, true_and, ne_eq, not_true_eq_false, not_false_eq_true, false_or, or_false, and_false, false_and, l_X9_leaveRows_2, hs1, f_X3_givenTo, ha, S, hr]
    · funext i k
      rw [wr_rd, if_neg (by omega)]
    · unfold lv
      rw [if_pos hcu]
      exact C1
  · have ec : chv (nU A) c = iN c := if_neg hcu
    have hcn : c < nU A := by omega
    rw [ec] at ha hr C1
    obtain ⟨e1, e2, e3⟩ := W.row hcn (hin hcn)
    obtain ⟨h6, hb⟩ := W.len g6 e1
    have hlt := List.idxOf_lt_length_of_mem e3
    have hu := c_unitAt C1.1 g6 hcn
    have h8 := C1.1.1
    have h8' : c < (wr σ 20 0 (6 * nT A + d) (iN c)).2.2 8 := by rw [h8]; exact hcn
    have u2 := (C1.2.2.1 c hcn).2.1
    have u2' : (wr σ 20 0 (6 * nT A + d) (iN c)).1 21 c 2 = iN (dpt A c) := u2.trans e2
    have hro := c_rowAt (σ := wr σ 20 0 (6 * nT A + d) (iN c)) e1
    have hbh := k_behind C1.2.2.2.2.2.1 e1 (by omega : c < 6) h6 hb e3
    have hrw : rw_ (Jvm.Pilot.CStablingroadLaw_law_r4569_fa4025.aw A 55 d (nT A) (iN c)) = rw_ A := rfl
    rw [hrw] at hbh
    have s7 : (wr σ 20 0 (6 * nT A + d) (iN c)).1 0 0 7 = A.1 30 2 0 := C.2.2.2.2.2.2.1.2.1
    obtain ⟨σ2, q1, q2, q3, q4⟩ := k_leave (σ := wr (wr σ 20 0 (6 * nT A + d) (iN c)) 0 0 7 (A.1 30 2 0 + iN ((rw_ A (dpt A c)).length - 1 - (rw_ A (dpt A c)).idxOf c))) (A := A) (RCr.fr C.2.2.2.2.2.1 (by funext i k; rw [wr_rd, if_neg (by omega), wr_rd, if_neg (by omega)]) (by funext i k; rw [wr_rd, if_neg (by omega), wr_rd, if_neg (by omega)])) e1 (by omega : c < 6) h6 hb
    have off : ∀ t, t ≠ 5 → t ≠ 6 → t ≠ 0 → t ≠ 20 → σ2.1 t = σ.1 t := fun t a b x y => by
      rw [q3 t a b]
      funext i k
      rw [wr_rd, if_neg (fun z => x z.1), wr_rd, if_neg (fun z => y z.1)]
    refine ⟨σ2, fun n => ?_, fun t h => off t (by omega) (by omega) (by omega) (by omega), fun t h => off t (by omega) (by omega) (by omega) (by omega), ?_⟩
    · simp (disch := omega) only [gd_t, gd_T, bx_some, bx_thr, bd_def, nx_in, ↓nO_eq, l0, l1, l2, l3, l4, l5, l6, l7, l8, l30, l50, l64, l100, l200, l448, l1200, iN_add, iN_lt, iN_le, iN_inj, iN_clamp, iN_inb, iN_nO, nO_iN, nO_lt, iN_ltm, iN_lem, nO_le, iN_pred, if_pos, if_neg, ↓reduceIte, or_true, true_or, and_true, true_and, ne_eq, not_true_eq_false, not_false_eq_true, false_or, or_false, and_false, false_and, l_X9_leaveRows_2, hs1, f_X3_givenTo, ha, S, hr, hu, u2', hro, hbh, s7, q1]
    · unfold lv
      rw [if_neg hcu]
      obtain ⟨H, F, U, D, E, R1, ⟨x1, x2, x3, x4⟩, L⟩ := C1
      refine ⟨RCl.fr H (q3 _ (by decide) (by decide)) q2, RCf.fr F (q3 _ (by decide) (by decide)) (q3 _ (by decide) (by decide)) q2, RCu.fr U (q3 _ (by decide) (by decide)) (q3 _ (by decide) (by decide)) (q3 _ (by decide) (by decide)) (q3 _ (by decide) (by decide)), RCd.fr D (q3 _ (by decide) (by decide)), RCe.fr E (q3 _ (by decide) (by decide)) (q3 _ (by decide) (by decide)), q4, ?_, RCg.fr L (q3 _ (by decide) (by decide))⟩
      unfold RCs
      rw [q3 0 (by decide) (by decide)]
      exact ⟨x1, rfl, x3, x4⟩
theorem lv_nums (A : Ab) (d c : Nat) : (lv A d c).2.2.2 = A.2.2.2 ∧ fl (lv A d c) = fl A ∧ ∀ t i k, t ≠ 55 → t ≠ 30 → (lv A d c).1 t i k = A.1 t i k := by
  unfold lv
  by_cases h : c = nU A
  · rw [if_pos h]
    refine ⟨rfl, rfl, fun t i k h1 h2 => ?_⟩
    rw [aw_rd, if_neg (fun z => h1 z.1)]
  · rw [if_neg h]
    refine ⟨rfl, rfl, fun t i k h1 h2 => ?_⟩
    show (aw (aw A 55 d (nT A) (iN c)) 30 2 0 (A.1 30 2 0 + iN ((rw_ A (dpt A c)).length - 1 - (rw_ A (dpt A c)).idxOf c))).1 t i k = _
    rw [aw_rd, if_neg (fun z => h2 z.1), aw_rd, if_neg (fun z => h1 z.1)]
theorem lv_log (A : Ab) (d c x t : Nat) : (lv A d c).1 55 x t = if x = d ∧ t = nT A then chv (nU A) c else A.1 55 x t := by
  unfold lv chv
  by_cases h : c = nU A
  · rw [if_pos h, if_pos h, aw_rd]
    by_cases h2 : x = d ∧ t = nT A
    · rw [if_pos ⟨rfl, h2.1, h2.2⟩, if_pos h2]
    · rw [if_neg (fun z => h2 z.2), if_neg h2]
  · rw [if_neg h, if_neg h]
    show (aw (aw A 55 d (nT A) (iN c)) 30 2 0 (A.1 30 2 0 + iN ((rw_ A (dpt A c)).length - 1 - (rw_ A (dpt A c)).idxOf c))).1 55 x t = _
    rw [aw_rd, if_neg (by omega), aw_rd]
    by_cases h2 : x = d ∧ t = nT A
    · rw [if_pos ⟨rfl, h2.1, h2.2⟩, if_pos h2]
    · rw [if_neg (fun z => h2 z.2), if_neg h2]
theorem lv_G {A : Ab} (G : Gd A) {d c : Nat} (hd : d < nD A) : Gd (lv A d c) := by
  obtain ⟨g1, g2, g3, g4, g5, g6⟩ := G
  obtain ⟨n1, n2, n3⟩ := lv_nums A d c
  have e0 : nU (lv A d c) = nU A := congrFun n1 0
  have e1 : nD (lv A d c) = nD A := congrFun n1 1
  have e2 : nT (lv A d c) = nT A := congrFun n1 2
  refine ⟨by rw [e0]; exact g1, by rw [e1]; exact g2, by rw [e2]; exact g3, fun u hu => ?_, fun x hx => ?_, fun x hx hx2 t ht => ?_⟩
  · rw [n2]; rw [e0] at hu; exact g4 u hu
  · rw [e1] at hx
    rw [n3 _ _ _ (by decide) (by decide), n3 _ _ _ (by decide) (by decide)]
    exact g5 x hx
  · rw [e1] at hx2
    rw [lv_log, if_neg (by omega)]
    exact g6 x hx hx2 t ht
theorem lv_W {A : Ab} {p : List Nat} (W : Gr A (fun u => u ∈ p)) {d c : Nat} (hc : c ≤ nU A) (hin : c < nU A → ¬ c ∈ p) : Gr (lv A d c) (fun u => u ∈ p ++ [c]) := by
  obtain ⟨n1, n2, n3⟩ := lv_nums A d c
  have e0 : nU (lv A d c) = nU A := congrFun n1 0
  have e31 : ∀ u, (lv A d c).1 31 u 0 = A.1 31 u 0 := fun u => n3 _ _ _ (by decide) (by decide)
  by_cases hcu : c = nU A
  · have er : rw_ (lv A d c) = rw_ A := by
      unfold lv
      rw [if_pos hcu]
      rfl
    refine ⟨fun x hx => ?_, fun u hu => ?_⟩
    · obtain ⟨w1, w2⟩ := W.1 x hx
      rw [er, e0]
      refine ⟨w1, fun u hu => ?_⟩
      obtain ⟨y1, y2, y3⟩ := w2 u hu
      rw [e31]
      refine ⟨y1, y2, fun z => ?_⟩
      rcases List.mem_append.mp z with z | z
      · exact y3 z
      · rw [List.mem_singleton.mp z] at y1; omega
    · rw [e0] at hu
      obtain ⟨x, hx, y1, y2⟩ := W.2 u hu
      rw [e31, er]
      exact ⟨x, hx, y1, y2.imp (fun z => List.mem_append_left _ z) id⟩
  · have hcn : c < nU A := by omega
    obtain ⟨e1, e2, e3⟩ := W.row hcn (hin hcn)
    have er : ∀ x, rw_ (lv A d c) x = if x = dpt A c then wo c (rw_ A (dpt A c)) else rw_ A x := fun x => by
      unfold lv
      rw [if_neg hcu]
      rfl
    have hmem : ∀ u l, u ∈ wo c l ↔ u ∈ l ∧ ¬ u = c := fun u l => by
      unfold wo
      rw [List.mem_filter]
      simp
    refine ⟨fun x hx => ?_, fun u hu => ?_⟩
    · obtain ⟨w1, w2⟩ := W.1 x hx
      rw [er, e0]
      by_cases h : x = dpt A c
      · rw [if_pos h]
        rw [h] at w1 w2
        refine ⟨w1.filter _, fun u hu => ?_⟩
        obtain ⟨m1, m2⟩ := (hmem u _).mp hu
        obtain ⟨y1, y2, y3⟩ := w2 u m1
        rw [e31, h]
        refine ⟨y1, y2, fun z => ?_⟩
        rcases List.mem_append.mp z with z | z
        · exact y3 z
        · exact m2 (List.mem_singleton.mp z)
      · rw [if_neg h]
        refine ⟨w1, fun u hu => ?_⟩
        obtain ⟨y1, y2, y3⟩ := w2 u hu
        rw [e31]
        refine ⟨y1, y2, fun z => ?_⟩
        rcases List.mem_append.mp z with z | z
        · exact y3 z
        · have huc := List.mem_singleton.mp z
          rw [huc, e2] at y2
          rw [iN_inj (by omega) (by omega)] at y2
          exact h y2.symm
    · rw [e0] at hu
      obtain ⟨x, hx, y1, y2⟩ := W.2 u hu
      rw [e31]
      refine ⟨x, hx, y1, ?_⟩
      by_cases huc : u = c
      · exact Or.inl (List.mem_append_right _ (List.mem_singleton.mpr huc))
      · rcases y2 with y2 | y2
        · exact Or.inl (List.mem_append_left _ y2)
        · refine Or.inr ?_
          rw [er]
          by_cases h : x = dpt A c
          · rw [if_pos h, hmem]
            rw [h] at y2
            exact ⟨y2, huc⟩
          · rw [if_neg h]; exact y2
