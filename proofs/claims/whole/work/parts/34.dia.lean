/-! one DIAGRAM more -/
def cn (A : Ab) (x v : Nat) : Ab := (A.1, A.2.1, A.2.2.1, fun y => if y = x then v else A.2.2.2 y)
def diA (A : Ab) (a b c l w : Int32) : Ab := cn (aw (aw (aw (aw (aw (aw A 44 (nD A) 0 a) 45 (nD A) 0 b) 46 (nD A) 0 c) 47 (nD A) 0 l) 48 (nD A) 0 w) 49 (nD A) 0 nO) 1 (nD A + 1)
def diW (σ : Wd) (a b c l w : Int32) : Wd := wadd (stO (nuO σ 25 9) 25 (σ.2.2 9) (vsO [a, b, c, l, w, (-1 : Int32)])) 1 (σ.2.2 9)
theorem di_rd (σ : Wd) (a b c l w : Int32) {t : Nat} (h1 : t ≠ 1) (h2 : t ≠ 25) : (diW σ a b c l w).1 t = σ.1 t := by
  funext i k
  unfold diW
  rw [wadd_mem (fun z => h1 z.1)]
  show (if t = 25 ∧ i = σ.2.2 9 then vsO [a, b, c, l, w, (-1 : Int32)] else fun k' => if t = 25 ∧ i = σ.2.2 9 then 0 else σ.1 t i k') k = _
  rw [if_neg (fun z => h2 z.1), if_neg (fun z => h2 z.1)]
theorem di_C {σ : Wd} {A : Ab} (C : RC σ A) (hq : nD A < 6) (a b c l w : Int32) : RC (diW σ a b c l w) (diA A a b c l w) := by
  obtain ⟨⟨e8, e9, s0, s1, c0, c1, f0, f1⟩, F, U, D, E, R1, S, L⟩ := C
  have one : ∀ i k, (diW σ a b c l w).1 1 i k = if i = 1 then (if k = 0 then σ.1 1 1 0 + 1 else if k = 2 then σ.1 1 1 2 + 1 else σ.1 1 1 k) else σ.1 1 i k := fun i k => by
    by_cases h : i = 1
    · subst h; rfl
    · rw [if_neg h]
      exact if_neg (fun z => h z.2)
  have two : ∀ i j, (diW σ a b c l w).2.1 i j = if i = 1 then (if j = nD A then nD A + 1 else if σ.2.2 21 = 0 then 0 else σ.2.1 1 j) else σ.2.1 i j := fun i j => by
    show (if i = 1 then (if j = (σ.1 1 1 2).toNatClampNeg then σ.2.2 9 + 1 else if σ.2.2 21 = 0 then 0 else σ.2.1 1 j) else σ.2.1 i j) = _
    rw [s1, iN_clamp (by omega), e9]
  have thr : ∀ x, (diW σ a b c l w).2.2 x = if x = 21 then 1 else if x = 9 then nD A + 1 else σ.2.2 x := fun x => by
    show (if x = 21 then 1 else if x = 9 then σ.2.2 9 + 1 else σ.2.2 x) = _
    rw [e9]
  refine ⟨⟨?_, ?_, ?_, ?_, fun j hj => ?_, fun j hj => ?_, fun hne => ?_, fun _ => ?_⟩, ⟨fun u hu => ?_, fun i hi2 hi8 j hj => ?_⟩, ?_, fun d hd => ?_, ?_, ?_, ?_, ?_⟩
  · rw [thr]; exact e8
  · rw [thr]; rfl
  · rw [one]; exact s0
  · rw [one]
    show σ.1 1 1 2 + 1 = iN (nD A + 1)
    rw [s1]; exact iN_add _ 1
  · rw [two]; exact c0 j hj
  · rw [two, if_pos rfl]
    show _ = if j < nD A + 1 then j + 1 else 0
    by_cases h : j = nD A
    · rw [if_pos h, if_pos (by omega), h]
    · rw [if_neg h]
      by_cases h2 : σ.2.2 21 = 0
      · rw [if_pos h2]
        have : nD A = 0 := by
          by_cases h3 : nD A = 0
          · exact h3
          · exact absurd h2 (f1 h3)
        rw [if_neg (by omega)]
      · rw [if_neg h2, c1 j hj]
        by_cases h3 : j < nD A
        · rw [if_pos h3, if_pos (by omega)]
        · rw [if_neg h3, if_neg (by omega)]
  · rw [thr]; exact f0 hne
  · rw [thr, if_pos rfl]; decide
  · obtain ⟨q1, q2, q3⟩ := F.1 u hu
    refine ⟨?_, fun h => ?_, fun j f hf => ?_⟩
    · rw [one, if_neg (by omega)]; exact q1
    · rw [thr, if_neg (by omega), if_neg (by omega)]; exact q2 h
    · rw [two, if_neg (by omega), thr, if_neg (by decide), if_neg (by decide)]
      unfold rdF
      rw [di_rd σ a b c l w (by decide) (by decide)]
      exact q3 j f hf
  · rw [two, if_neg (by omega), thr, if_neg (by decide), if_neg (by decide)]
    exact F.2 i hi2 hi8 j hj
  · exact RCu.fr U (di_rd σ a b c l w (by decide) (by decide)) (di_rd σ a b c l w (by decide) (by decide)) (di_rd σ a b c l w (by decide) (by decide)) (di_rd σ a b c l w (by decide) (by decide))
  · have hd : d < nD A + 1 := hd
    have rd : ∀ k, (diW σ a b c l w).1 25 d k = if d = nD A then vsO [a, b, c, l, w, (-1 : Int32)] k else σ.1 25 d k := fun k => by
      unfold diW
      rw [wadd_mem (fun z => by cases z.1), st_rd, e9]
      by_cases h : d = nD A
      · rw [if_pos h, if_pos ⟨rfl, h⟩]
      · rw [if_neg h, if_neg (fun z => h z.2)]
        exact congrFun (nu_mem (fun z => h (z.2.trans e9))) k
    by_cases h : d = nD A
    · subst h
      rw [rd, rd, rd, rd, rd, rd]
      simp [diA, cn, aw_rd, vsO]
      rfl
    · have := D d (by omega)
      rw [rd, rd, rd, rd, rd, rd]
      simp [diA, cn, aw_rd, h, this]
  · exact RCe.fr E (di_rd σ a b c l w (by decide) (by decide)) (di_rd σ a b c l w (by decide) (by decide))
  · exact RCr.fr R1 (di_rd σ a b c l w (by decide) (by decide)) (di_rd σ a b c l w (by decide) (by decide))
  · exact RCs.fr S (di_rd σ a b c l w (by decide) (by decide))
  · exact RCg.fr L (di_rd σ a b c l w (by decide) (by decide))
def diM (σ : Wd) (q : Nat) (a b c l w : Int32) : Wd := wr (wr (wr (wr (wr (wr (wr (wr σ 30 0 0 (iN 0)) 44 0 q a) 45 0 q b) 46 0 q c) 47 0 q l) 48 0 q w) 49 0 q nO) 30 0 19 (iN (q + 1))
theorem di_R {σ : Wd} {A : Ab} (T : RR σ A) (a b c l w : Int32) : RR (diM σ (nD A) a b c l w) (diA A a b c l w) := by
  obtain ⟨⟨h1, h2, h3, h4, h5, h6⟩, F, U, D, E, R1, L⟩ := T
  refine ⟨⟨h1, rfl, h3, h4, h5, h6⟩, F, U, fun d hd => ?_, E, R1, L⟩
  have hd : d < nD A + 1 := hd
  unfold diM diA cn
  by_cases h : d = nD A
  · subst h
    simp [wr_rd, aw_rd]
  · have := D d (by omega)
    simp [wr_rd, aw_rd, h, this]
theorem di_S (σ : Wd) (q : Nat) (a b c l w : Int32) : RS σ (diM σ q a b c l w) :=
  ((((((((RS.rf σ).wr (by decide)).wr (by decide)).wr (by decide)).wr (by decide)).wr (by decide)).wr (by decide)).wr (by decide)).wr (by decide)
theorem in_r {p : Int32} {lo hi : Nat} (hl : lo ≤ hi) (hh : hi < 2147483648) (h1 : ¬ p < iN lo) (h2 : p ≤ iN hi) : ∃ x, lo ≤ x ∧ x ≤ hi ∧ p = iN x := by
  have h3 : ¬ p < iN 0 := fun z => h1 (Int32.lt_of_lt_of_le z ((iN_le (by decide) (by omega)).mpr (Nat.zero_le _)))
  obtain ⟨x, hx, rfl⟩ := nn_iN h3
  rw [iN_lt hx (by omega)] at h1
  rw [iN_le hx hh] at h2
  exact ⟨x, by omega, h2, rfl⟩
theorem di_G {A : Ab} (G : Gd A) (hq : nD A < 6) {a c l : Int32} {x w : Nat} (hx : x < 3) (hw1 : 1 ≤ w) (hw2 : w ≤ 100) : Gd (diA A a (iN x) c l (iN w)) := by
  obtain ⟨g1, g2, g3, g4, g5, g6⟩ := G
  refine ⟨g1, ?_, g3, g4, fun d hd => ?_, fun d hd hd2 t ht => ?_⟩
  · show nD A + 1 ≤ 6
    omega
  · have hd : d < nD A + 1 := hd
    by_cases h : d = nD A
    · subst h
      exact ⟨⟨x, hx, by simp [diA, cn, aw_rd]⟩, w, hw1, hw2, by simp [diA, cn, aw_rd]⟩
    · obtain ⟨⟨y, hy, hy2⟩, v, hv1, hv2, hv3⟩ := g5 d (by omega)
      exact ⟨⟨y, hy, by simp [diA, cn, aw_rd, h, hy2]⟩, v, hv1, hv2, by simp [diA, cn, aw_rd, h, hv3]⟩
  · have hd2 : nD A + 1 ≤ d := hd2
    exact g6 d hd (by omega) t ht
theorem j74_no {σ : Wd} {a b c d e : Int32} {k : Nat} (hk : 0 < k) (h2 : k < 10) : j_X10_diagram_74 σ a b c d e (iN k) = some (.inl 0, wr σ 30 0 0 (iN k)) := by
  unfold j_X10_diagram_74
  rw [bd_def, if_neg (by rw [wr_same, show (0 : Int32) = iN 0 from rfl, iN_le (by omega) (by decide)]; omega)]
theorem j17_no {σ : Wd} {a b c d e : Int32} : j_X10_diagram_17 σ a b c d e = some (.inl 0, wr σ 30 0 0 (iN 1)) := j74_no (by decide) (by decide)
theorem j56_no {σ : Wd} {a b c d e : Int32} : j_X10_diagram_56 σ a b c d e = some (.inl 0, wr σ 30 0 0 (iN 2)) := j74_no (by decide) (by decide)
theorem st_diagram {σ : Wd} (I : Inv σ) (w1 w2 w3 w4 w5 : Int32) : ∃ σ', c_diagram σ w1 w2 w3 w4 w5 = some σ' ∧ Inv σ' := by
  obtain ⟨A, C, R, G, W⟩ := I
  have g7 := G.2.1
  have e9 := C.1.2.1
  have s1 := C.1.2.2.2.1
  rcases rng w1 3 (by decide) with ⟨a, ha, rfl⟩ | h1
  · rcases rng w2 3 (by decide) with ⟨b, hb, rfl⟩ | h2
    · by_cases hc : ¬ w3 < iN 1 ∧ w3 ≤ 2000
      · by_cases hl : ¬ w4 < iN 0 ∧ w4 ≤ iN 2
        · by_cases hw : ¬ w5 < iN 1 ∧ w5 ≤ iN 100
          · by_cases hq : nD A < 6
            · obtain ⟨w, hw1, hw2, rfl⟩ := in_r (by decide) (by decide) hw.1 hw.2
              have hS : CS σ (diW σ (iN a) (iN b) w3 w4 (iN w)) := fun t ht => di_rd _ _ _ _ _ _ (by omega) (by omega)
              refine ok_in R hS (v := iN (nD A)) ?_ (di_C C hq (iN a) (iN b) w3 w4 (iN w)) (fun τ T => ⟨_, ?_, ?_, di_S τ (nD A) (iN a) (iN b) w3 w4 (iN w), di_R T (iN a) (iN b) w3 w4 (iN w)⟩) (di_G G hq hb hw1 hw2) W
              · have f1 := C.1.2.2.2.2.2.2.2
                have hok : okO σ 25 9 = true := by
                  unfold okO
                  refine List.all_eq_true.mpr (fun i hi => ?_)
                  have hi := List.mem_range.mp hi
                  by_cases h : i = 1
                  · subst h
                    refine Bool.or_eq_true_iff.mpr (Or.inr (List.all_eq_true.mpr (fun j hj => ?_)))
                    have hj := List.mem_range.mp hj
                    have hcd := C.1.2.2.2.2.2.1 j hj
                    rw [hcd, e9]
                    by_cases h3 : j < nD A
                    · rw [if_pos h3]; simp [h3]
                    · rw [if_neg h3]; simp
                  · refine Bool.or_eq_true_iff.mpr (Or.inl (decide_eq_true ?_))
                    match i, h with
                    | 0, _ => decide
                    | n + 2, _ => exact (by decide : ¬ 26 = 25)
                have hadd : ((nuO σ 25 9).2.2 (20 + 1) = 0 ∧ (nuO σ 25 9).1 1 1 2 = 0) ∨ ((nuO σ 25 9).2.2 (20 + 1) ≠ 0 ∧ ¬ (nuO σ 25 9).1 1 1 2 = 10 ∧ inb ((nuO σ 25 9).1 1 1 2) 10) := by
                  show (σ.2.2 21 = 0 ∧ σ.1 1 1 2 = 0) ∨ (σ.2.2 21 ≠ 0 ∧ ¬ σ.1 1 1 2 = iN 10 ∧ inb (σ.1 1 1 2) 10)
                  rw [s1]
                  by_cases h0 : nD A = 0
                  · by_cases hf : σ.2.2 21 = 0
                    · exact Or.inl ⟨hf, by rw [h0]; rfl⟩
                    · exact Or.inr ⟨hf, by rw [iN_inj (by omega) (by decide)]; omega, (iN_inb (by omega)).mpr (by omega)⟩
                  · exact Or.inr ⟨f1 h0, by rw [iN_inj (by omega) (by decide)]; omega, (iN_inb (by omega)).mpr (by omega)⟩
                have hadd' : ((stO (nuO σ 25 9) 25 (σ.2.2 9) (vsO [iN a, iN b, w3, w4, iN w, (-1 : Int32)])).2.2 (20 + 1) = 0 ∧ (stO (nuO σ 25 9) 25 (σ.2.2 9) (vsO [iN a, iN b, w3, w4, iN w, (-1 : Int32)])).1 1 1 2 = 0) ∨ ((stO (nuO σ 25 9) 25 (σ.2.2 9) (vsO [iN a, iN b, w3, w4, iN w, (-1 : Int32)])).2.2 (20 + 1) ≠ 0 ∧ ¬ (stO (nuO σ 25 9) 25 (σ.2.2 9) (vsO [iN a, iN b, w3, w4, iN w, (-1 : Int32)])).1 1 1 2 = 10 ∧ inb ((stO (nuO σ 25 9) 25 (σ.2.2 9) (vsO [iN a, iN b, w3, w4, iN w, (-1 : Int32)])).1 1 1 2) 10) := hadd
                have hlt : σ.2.2 9 < (nuO σ 25 9).2.2 9 := by
                  show σ.2.2 9 < σ.2.2 9 + 1
                  omega
                have hnum : ∀ x, x < 3 → f_X9_checkNumber σ (iN x) 3 = some (.inl (), σ) := fun x hx => c_num (n := 3) hx (by decide)
                unfold f_X9_diagram
                rw [hnum a ha, bx_some, hnum b hb, bx_some, rg_in (lo := 1) (hi := 2000) hc.1 hc.2, bx_some, rg_in (lo := 0) (hi := 2) hl.1 hl.2, bx_some, rg_in (lo := 1) (hi := 100) hw.1 hw.2, bx_some, c_sz1 C.1, bx_some, if_pos (show iN (nD A) < 6 from (iN_lt (b := 6) (by omega) (by decide)).mpr hq), gd_t hok, bd_def, gd_t hlt, bd_def, gd_t hadd', bd_def, nx_in, nx_in, nx_in]
                rfl
              · have tq := T.1.2.1
                have hr : f_X10_between τ w3 1 2000 = some (.inl (iN 1), τ) := bt_in hc.1 hc.2
                have hr2 : f_X10_between τ w4 0 2 = some (.inl (iN 1), τ) := bt_in hl.1 hl.2
                have hr3 : f_X10_between τ (iN w) 1 100 = some (.inl (iN 1), τ) := bt_in hw.1 hw.2
                have n10 : ¬ iN 1 = 0 := by decide
                unfold f_X10_diagram
                rw [m_isDepot ha, bx_some, if_neg n10, m_isDepot hb, bx_some, if_neg n10, hr, bx_some, if_neg n10, hr2, bx_some, if_neg n10, hr3, bx_some, if_neg n10, tq, if_neg (by rw [show (6 : Int32) = iN 6 from rfl, iN_inj (by omega) (by decide)]; omega)]
                unfold j_X10_diagram_74
                have tw : ∀ (ρ : Wd) (t i k : Nat) (v : Int32), t ≠ 30 → (wr ρ t i k v).1 30 = ρ.1 30 := fun ρ t i k v h => by
                  funext i' k'
                  exact if_neg (fun z => h z.1.symm)
                have t0 : (wr τ 30 0 0 0).1 30 0 19 = iN (nD A) := tq
                have t1 : inb (iN (nD A)) 6 := (iN_inb (by omega)).mpr hq
                have t2 : (iN (nD A)).toNatClampNeg = nD A := iN_clamp (by omega)
                rw [bd_def, if_pos (by rw [wr_same]; decide)]
                simp only [bd_def, tw _ 44 _ _ _ (by decide), tw _ 45 _ _ _ (by decide), tw _ 46 _ _ _ (by decide), tw _ 47 _ _ _ (by decide), tw _ 48 _ _ _ (by decide), tw _ 49 _ _ _ (by decide), t0, t2, gd_t t1, wr_same]
                rw [show iN (nD A) + 1 = iN (nD A + 1) from iN_add _ 1, show iN (nD A + 1) - 1 = iN (nD A) from (iN_sub (a := nD A + 1) (b := 1) (by omega)).trans (by rw [Nat.add_sub_cancel])]
                rfl
              · rfl
            · have hq6 : nD A = 6 := by omega
              refine ok_ex C R (k := 3) (E := "java/lang/IllegalStateException") ?_ wk3 (by decide) (thr_ok (fun τ T => ?_)) G W
              · have hnum : ∀ x, x < 3 → f_X9_checkNumber σ (iN x) 3 = some (.inl (), σ) := fun x hx => c_num (n := 3) hx (by decide)
                unfold f_X9_diagram
                rw [hnum a ha, bx_some, hnum b hb, bx_some, rg_in (lo := 1) (hi := 2000) hc.1 hc.2, bx_some, rg_in (lo := 0) (hi := 2) hl.1 hl.2, bx_some, rg_in (lo := 1) (hi := 100) hw.1 hw.2, bx_some, c_sz1 C.1, bx_some, if_neg (by rw [hq6]; decide)]
              · have tq := T.1.2.1
                have hr : f_X10_between τ w3 (iN 1) 2000 = some (.inl (iN 1), τ) := bt_in hc.1 hc.2
                have hr2 : f_X10_between τ w4 (iN 0) (iN 2) = some (.inl (iN 1), τ) := bt_in hl.1 hl.2
                have hr3 : f_X10_between τ w5 (iN 1) (iN 100) = some (.inl (iN 1), τ) := bt_in hw.1 hw.2
                simp (disch := omega) only [gd_t, gd_T, bx_some, bx_thr, bd_def, nx_in, ↓nO_eq, l0, l1, l2, l3, l4, l5, l6, l7, l8, l30, l50, l64, l100, l200, l448, l1200, iN_add, iN_lt, iN_le, iN_inj, iN_clamp, iN_inb, iN_nO, nO_iN, nO_lt, iN_ltm, iN_lem, nO_le, iN_pred, if_pos, if_neg, ↓reduceIte, or_true, true_or, and_true, true_and, ne_eq, not_true_eq_false, not_false_eq_true, false_or, or_false, and_false, false_and, f_X10_diagram, m_isDepot (σ := τ) ha, m_isDepot (σ := τ) hb, hr, hr2, hr3, tq, hq6, j74_no]
          · refine ok_ex C R (k := 2) (E := "java/lang/IllegalArgumentException") ?_ wk2 (by decide) (thr_ok (fun τ T => ?_)) G W
            · have hnum : ∀ x, x < 3 → f_X9_checkNumber σ (iN x) 3 = some (.inl (), σ) := fun x hx => c_num (n := 3) hx (by decide)
              unfold f_X9_diagram
              rw [hnum a ha, bx_some, hnum b hb, bx_some, rg_in (lo := 1) (hi := 2000) hc.1 hc.2, bx_some, rg_in (lo := 0) (hi := 2) hl.1 hl.2, bx_some, rg_out (lo := 1) (hi := 100) hw, bx_thr]
            · have hr : f_X10_between τ w3 (iN 1) 2000 = some (.inl (iN 1), τ) := bt_in hc.1 hc.2
              have hr2 : f_X10_between τ w4 (iN 0) (iN 2) = some (.inl (iN 1), τ) := bt_in hl.1 hl.2
              have hr3 : f_X10_between τ w5 (iN 1) (iN 100) = some (.inl (iN 0), τ) := bt_out hw
              simp (disch := omega) only [gd_t, gd_T, bx_some, bx_thr, bd_def, nx_in, ↓nO_eq, l0, l1, l2, l3, l4, l5, l6, l7, l8, l30, l50, l64, l100, l200, l448, l1200, iN_add, iN_lt, iN_le, iN_inj, iN_clamp, iN_inb, iN_nO, nO_iN, nO_lt, iN_ltm, iN_lem, nO_le, iN_pred, if_pos, if_neg, ↓reduceIte, or_true, true_or, and_true, true_and, ne_eq, not_true_eq_false, not_false_eq_true, false_or, or_false, and_false, false_and, f_X10_diagram, m_isDepot (σ := τ) ha, m_isDepot (σ := τ) hb, hr, hr2, hr3, j56_no]
        · refine ok_ex C R (k := 2) (E := "java/lang/IllegalArgumentException") ?_ wk2 (by decide) (thr_ok (fun τ T => ?_)) G W
          · have hnum : ∀ x, x < 3 → f_X9_checkNumber σ (iN x) 3 = some (.inl (), σ) := fun x hx => c_num (n := 3) hx (by decide)
            unfold f_X9_diagram
            rw [hnum a ha, bx_some, hnum b hb, bx_some, rg_in (lo := 1) (hi := 2000) hc.1 hc.2, bx_some, rg_out (lo := 0) (hi := 2) hl, bx_thr]
          · have hr : f_X10_between τ w3 (iN 1) 2000 = some (.inl (iN 1), τ) := bt_in hc.1 hc.2
            have hr2 : f_X10_between τ w4 (iN 0) (iN 2) = some (.inl (iN 0), τ) := bt_out hl
            simp (disch := omega) only [gd_t, gd_T, bx_some, bx_thr, bd_def, nx_in, ↓nO_eq, l0, l1, l2, l3, l4, l5, l6, l7, l8, l30, l50, l64, l100, l200, l448, l1200, iN_add, iN_lt, iN_le, iN_inj, iN_clamp, iN_inb, iN_nO, nO_iN, nO_lt, iN_ltm, iN_lem, nO_le, iN_pred, if_pos, if_neg, ↓reduceIte, or_true, true_or, and_true, true_and, ne_eq, not_true_eq_false, not_false_eq_true, false_or, or_false, and_false, false_and, f_X10_diagram, m_isDepot (σ := τ) ha, m_isDepot (σ := τ) hb, hr, hr2, j56_no]
      · refine ok_ex C R (k := 2) (E := "java/lang/IllegalArgumentException") ?_ wk2 (by decide) (thr_ok (fun τ T => ?_)) G W
        · have hnum : ∀ x, x < 3 → f_X9_checkNumber σ (iN x) 3 = some (.inl (), σ) := fun x hx => c_num (n := 3) hx (by decide)
          unfold f_X9_diagram
          rw [hnum a ha, bx_some, hnum b hb, bx_some, rg_out (lo := 1) (hi := 2000) hc, bx_thr]
        · have hr : f_X10_between τ w3 (iN 1) 2000 = some (.inl (iN 0), τ) := bt_out hc
          simp (disch := omega) only [gd_t, gd_T, bx_some, bx_thr, bd_def, nx_in, ↓nO_eq, l0, l1, l2, l3, l4, l5, l6, l7, l8, l30, l50, l64, l100, l200, l448, l1200, iN_add, iN_lt, iN_le, iN_inj, iN_clamp, iN_inb, iN_nO, nO_iN, nO_lt, iN_ltm, iN_lem, nO_le, iN_pred, if_pos, if_neg, ↓reduceIte, or_true, true_or, and_true, true_and, ne_eq, not_true_eq_false, not_false_eq_true, false_or, or_false, and_false, false_and, f_X10_diagram, m_isDepot (σ := τ) ha, m_isDepot (σ := τ) hb, hr, j56_no]
    · refine ok_ex C R (k := 1) (E := "java/lang/IndexOutOfBoundsException") ?_ wk1 (by decide) (thr_ok (fun τ T => ?_)) G W
      · unfold f_X9_diagram
        rw [show f_X9_checkNumber σ (iN a) 3 = some (.inl (), σ) from c_num (n := 3) ha (by decide), bx_some, show f_X9_checkNumber σ w2 3 = some (.inr "java/lang/IndexOutOfBoundsException", σ) from c_num_no h2, bx_thr]
      · simp (disch := omega) only [gd_t, gd_T, bx_some, bx_thr, bd_def, nx_in, ↓nO_eq, l0, l1, l2, l3, l4, l5, l6, l7, l8, l30, l50, l64, l100, l200, l448, l1200, iN_add, iN_lt, iN_le, iN_inj, iN_clamp, iN_inb, iN_nO, nO_iN, nO_lt, iN_ltm, iN_lem, nO_le, iN_pred, if_pos, if_neg, ↓reduceIte, or_true, true_or, and_true, true_and, ne_eq, not_true_eq_false, not_false_eq_true, false_or, or_false, and_false, false_and, f_X10_diagram, m_isDepot (σ := τ) ha, m_isDepot_no (σ := τ) h2, j17_no]
  · refine ok_ex C R (k := 1) (E := "java/lang/IndexOutOfBoundsException") ?_ wk1 (by decide) (thr_ok (fun τ T => ?_)) G W
    · unfold f_X9_diagram
      rw [show f_X9_checkNumber σ w1 3 = some (.inr "java/lang/IndexOutOfBoundsException", σ) from c_num_no h1, bx_thr]
    · simp (disch := omega) only [gd_t, gd_T, bx_some, bx_thr, bd_def, nx_in, ↓nO_eq, l0, l1, l2, l3, l4, l5, l6, l7, l8, l30, l50, l64, l100, l200, l448, l1200, iN_add, iN_lt, iN_le, iN_inj, iN_clamp, iN_inb, iN_nO, nO_iN, nO_lt, iN_ltm, iN_lem, nO_le, iN_pred, if_pos, if_neg, ↓reduceIte, or_true, true_or, and_true, true_and, ne_eq, not_true_eq_false, not_false_eq_true, false_or, or_false, and_false, false_and, f_X10_diagram, m_isDepot_no (σ := τ) h1, j17_no]
