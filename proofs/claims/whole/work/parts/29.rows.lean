/-! who stands where -/
theorem idx_ne {f u : Nat} (l : List Nat) (h : ¬ f = u) : (f :: l).idxOf u = l.idxOf u + 1 := by
  have h2 : (f == u) = false := by simpa using h
  rw [List.idxOf_cons, h2]
  rfl
theorem k_behindL {σ : Wd} {A : Ab} (R : RCr σ A) {d u : Nat} (hd : d < 3) (hu6 : u < 6) (h6 : (rw_ A d).length ≤ 6) (hb : ∀ x, x ∈ rw_ A d → x < 6) : ∀ (n k j : Nat), (rw_ A d).length - j = k → k < n → u ∈ (rw_ A d).drop j → l_X6_behind_2 n σ (iN j) d (iN u) = some (.inl (iN ((rw_ A d).length - 1 - (j + ((rw_ A d).drop j).idxOf u))), σ)
  | n + 1, k, j, hk, hn, hm => by
    obtain ⟨r1, r2⟩ := R d hd
    rcases at_or (rw_ A d) j with ⟨f, hf, hl⟩ | hl
    · have hx := r2 j f hf
      have hx6 := hb f (List.mem_of_getElem? hf)
      rw [drop_at hf] at hm ⊢
      by_cases hfu : f = u
      · subst hfu
        rw [List.idxOf_cons_self]
        simp (disch := omega) only [gd_t, gd_T, bx_some, bx_thr, bd_def, nx_in, ↓nO_eq, l0, l1, l2, l3, l4, l5, l6, l7, l8, l30, l50, l64, l100, l200, l448, l1200, iN_add, iN_lt, iN_le, iN_inj, iN_clamp, iN_inb, iN_nO, nO_iN, nO_lt, iN_ltm, iN_lem, nO_le, iN_pred, if_pos, if_neg, ↓reduceIte, or_true, true_or, and_true, true_and, ne_eq, not_true_eq_false, not_false_eq_true, false_or, or_false, and_false, false_and, l_X6_behind_2, r1, hx, iN_sub]
        rw [Nat.add_zero]
      · have ih := k_behindL R hd hu6 h6 hb n ((rw_ A d).length - (j + 1)) (j + 1) rfl (by omega) ((List.mem_cons.mp hm).resolve_left (fun z => hfu z.symm))
        rw [idx_ne _ hfu]
        simp (disch := omega) only [gd_t, gd_T, bx_some, bx_thr, bd_def, nx_in, ↓nO_eq, l0, l1, l2, l3, l4, l5, l6, l7, l8, l30, l50, l64, l100, l200, l448, l1200, iN_add, iN_lt, iN_le, iN_inj, iN_clamp, iN_inb, iN_nO, nO_iN, nO_lt, iN_ltm, iN_lem, nO_le, iN_pred, if_pos, if_neg, ↓reduceIte, or_true, true_or, and_true, true_and, ne_eq, not_true_eq_false, not_false_eq_true, false_or, or_false, and_false, false_and, l_X6_behind_2, r1, hx, hfu, ih]
        rw [Nat.add_assoc j 1, Nat.add_comm 1]
    · rw [List.drop_eq_nil_of_le hl] at hm
      cases hm
theorem k_behind {σ : Wd} {A : Ab} (R : RCr σ A) {d u : Nat} (hd : d < 3) (hu6 : u < 6) (h6 : (rw_ A d).length ≤ 6) (hb : ∀ x, x ∈ rw_ A d → x < 6) (hm : u ∈ rw_ A d) : f_X6_behind σ d (iN u) = some (.inl (iN ((rw_ A d).length - 1 - (rw_ A d).idxOf u)), σ) := by
  have := k_behindL R hd hu6 h6 hb FU _ 0 rfl (by unfold FU; omega) (by rw [List.drop_zero]; exact hm)
  rw [List.drop_zero, Nat.zero_add] at this
  exact this
theorem m_placeL {σ : Wd} {A : Ab} (R : RRr σ A) {d u : Nat} (hd : d < 3) (hu6 : u < 6) (h6 : (rw_ A d).length ≤ 6) (hb : ∀ x, x ∈ rw_ A d → x < 6) (hdep : σ.1 31 0 u = iN d) : ∀ (n k j : Nat), (rw_ A d).length - j = k → k < n → u ∈ (rw_ A d).drop j → l_X10_placeOf_10 n σ (iN (6 * d + j)) (iN u) = some (.inl (iN (j + ((rw_ A d).drop j).idxOf u)), σ)
  | n + 1, k, j, hk, hn, hm => by
    obtain ⟨r1, r2⟩ := R d hd
    rcases at_or (rw_ A d) j with ⟨f, hf, hl⟩ | hl
    · have hx := r2 j f hf
      have hx6 := hb f (List.mem_of_getElem? hf)
      rw [drop_at hf] at hm ⊢
      by_cases hfu : f = u
      · subst hfu
        rw [List.idxOf_cons_self]
        simp (disch := omega) only [gd_t, gd_T, bx_some, bx_thr, bd_def, nx_in, ↓nO_eq, l0, l1, l2, l3, l4, l5, l6, l7, l8, l30, l50, l64, l100, l200, l448, l1200, iN_add, iN_lt, iN_le, iN_inj, iN_clamp, iN_inb, iN_nO, nO_iN, nO_lt, iN_ltm, iN_lem, nO_le, iN_pred, if_pos, if_neg, ↓reduceIte, or_true, true_or, and_true, true_and, ne_eq, not_true_eq_false, not_false_eq_true, false_or, or_false, and_false, false_and, l_X10_placeOf_10, hx, hdep, iN_mul, iN_sub]
        rw [Nat.add_sub_cancel_left, Nat.add_zero]
      · have ih := m_placeL R hd hu6 h6 hb hdep n ((rw_ A d).length - (j + 1)) (j + 1) rfl (by omega) ((List.mem_cons.mp hm).resolve_left (fun z => hfu z.symm))
        have hj1 : 6 * d + j + 1 = 6 * d + (j + 1) := rfl
        rw [idx_ne _ hfu]
        simp (disch := omega) only [gd_t, gd_T, bx_some, bx_thr, bd_def, nx_in, ↓nO_eq, l0, l1, l2, l3, l4, l5, l6, l7, l8, l30, l50, l64, l100, l200, l448, l1200, iN_add, iN_lt, iN_le, iN_inj, iN_clamp, iN_inb, iN_nO, nO_iN, nO_lt, iN_ltm, iN_lem, nO_le, iN_pred, if_pos, if_neg, ↓reduceIte, or_true, true_or, and_true, true_and, ne_eq, not_true_eq_false, not_false_eq_true, false_or, or_false, and_false, false_and, l_X10_placeOf_10, hx, hfu, hj1, ih]
        rw [Nat.add_assoc j 1, Nat.add_comm 1]
    · rw [List.drop_eq_nil_of_le hl] at hm
      cases hm
theorem m_place {σ : Wd} {A : Ab} (R : RRr σ A) {d u : Nat} (hd : d < 3) (hu6 : u < 6) (h6 : (rw_ A d).length ≤ 6) (hb : ∀ x, x ∈ rw_ A d → x < 6) (hdep : σ.1 31 0 u = iN d) (hm : u ∈ rw_ A d) : f_X10_placeOf σ (iN u) = some (.inl (iN ((rw_ A d).idxOf u)), σ) := by
  have := m_placeL R hd hu6 h6 hb hdep FU _ 0 rfl (by unfold FU; omega) (by rw [List.drop_zero]; exact hm)
  rw [List.drop_zero, Nat.zero_add, Nat.add_zero] at this
  simp (disch := omega) only [gd_t, gd_T, bx_some, bx_thr, bd_def, nx_in, ↓nO_eq, l0, l1, l2, l3, l4, l5, l6, l7, l8, l30, l50, l64, l100, l200, l448, l1200, iN_add, iN_lt, iN_le, iN_inj, iN_clamp, iN_inb, iN_nO, nO_iN, nO_lt, iN_ltm, iN_lem, nO_le, iN_pred, if_pos, if_neg, ↓reduceIte, or_true, true_or, and_true, true_and, ne_eq, not_true_eq_false, not_false_eq_true, false_or, or_false, and_false, false_and, f_X10_placeOf, hdep, iN_mul]
  exact this
/-- as many different numbers under n as there are at most -/
theorem nodup_le : ∀ (n : Nat) (l : List Nat), l.Nodup → (∀ x, x ∈ l → x < n) → l.length ≤ n
  | 0, l, _, h => by
    cases l with
    | nil => exact Nat.le_refl _
    | cons a t => exact absurd (h a (List.mem_cons_self ..)) (Nat.not_lt_zero _)
  | n + 1, l, hd, h => by
    have h1 := nodup_le n (l.erase n) (hd.erase n) (fun x hx => by
      have h2 := (hd.mem_erase_iff.mp hx)
      have h3 := h x h2.2
      have h4 := h2.1
      omega)
    have h5 : l.length ≤ (l.erase n).length + 1 := by
      rw [List.length_erase]
      split <;> omega
    omega
theorem Gr.len {A : Ab} {aw : Nat → Prop} (W : Gr A aw) (g6 : nU A ≤ 6) {d : Nat} (hd : d < 3) : (rw_ A d).length ≤ 6 ∧ ∀ x, x ∈ rw_ A d → x < 6 :=
  ⟨Nat.le_trans (nodup_le _ _ (W.1 d hd).1 (fun x hx => ((W.1 d hd).2 x hx).1)) g6, fun x hx => Nat.lt_of_lt_of_le ((W.1 d hd).2 x hx).1 g6⟩
theorem neg3 {a p : Nat} (ha : a < 100) (hp : p < 2147483648) (h : a < 1 + p) : iN a - iN 1 - iN p < iN 0 := by
  rw [Int32.lt_iff_toInt_lt, Int32.toInt_sub, Int32.toInt_sub, iN_toInt (by omega), iN_toInt (by decide), iN_toInt hp, iN_toInt (by decide), Int.bmod_eq_of_le (n := (a : Int) - (1 : Nat)) (by omega) (by omega), Int.bmod_eq_of_le (by omega) (by omega)]
  omega
theorem nn_iN {p : Int32} (h : ¬ p < iN 0) : ∃ x, x < 2147483648 ∧ p = iN x := by
  have h2 : (iN 0).toInt ≤ p.toInt := Int32.le_iff_toInt_le.mp (lt_not.mp h)
  rw [iN_toInt (by decide)] at h2
  have h3 := Int32.toInt_lt p
  refine ⟨p.toInt.toNat, by omega, ?_⟩
  apply Int32.toInt_inj.mp
  rw [iN_toInt (by omega)]
  omega
theorem st_stands {σ : Wd} (I : Inv σ) (w1 w2 : Int32) : ∃ σ', c_stands σ w1 w2 = some σ' ∧ Inv σ' := by
  obtain ⟨A, C, R, G, W⟩ := I
  rcases rng w1 3 (by decide) with ⟨d, hd, rfl⟩ | h1
  · obtain ⟨h6, hb⟩ := W.len G.1 hd
    by_cases hw : w2 < iN 0
    · refine ok_ex C R (k := 1) (E := "java/lang/IndexOutOfBoundsException") ?_ wk1 (by decide) (thr_ok (fun τ T => ?_)) G W
      · simp (disch := omega) only [gd_t, gd_T, bx_some, bx_thr, bd_def, nx_in, ↓nO_eq, l0, l1, l2, l3, l4, l5, l6, l7, l8, l30, l50, l64, l100, l200, l448, l1200, iN_add, iN_lt, iN_le, iN_inj, iN_clamp, iN_inb, iN_nO, nO_iN, nO_lt, iN_ltm, iN_lem, nO_le, iN_pred, if_pos, if_neg, ↓reduceIte, or_true, true_or, and_true, true_and, ne_eq, not_true_eq_false, not_false_eq_true, false_or, or_false, and_false, false_and, f_X9_stands, c_rowAt (σ := σ) hd, le_not.mpr hw]
      · simp (disch := omega) only [gd_t, gd_T, bx_some, bx_thr, bd_def, nx_in, ↓nO_eq, l0, l1, l2, l3, l4, l5, l6, l7, l8, l30, l50, l64, l100, l200, l448, l1200, iN_add, iN_lt, iN_le, iN_inj, iN_clamp, iN_inb, iN_nO, nO_iN, nO_lt, iN_ltm, iN_lem, nO_le, iN_pred, if_pos, if_neg, ↓reduceIte, or_true, true_or, and_true, true_and, ne_eq, not_true_eq_false, not_false_eq_true, false_or, or_false, and_false, false_and, f_X10_stands, m_isDepot (σ := τ) hd, le_not.mpr hw, j_X10_stands_18, j_X10_stands_13, wr_rd]
    · obtain ⟨p, hp, rfl⟩ := nn_iN hw
      obtain ⟨r1, r2⟩ := C.2.2.2.2.2.1 d hd
      by_cases hl : p < (rw_ A d).length
      · have hf := List.getElem?_eq_getElem (l := rw_ A d) (i := (rw_ A d).length - 1 - p) (by omega)
        refine ok_in R (CS.rf σ) (v := iN (rw_ A d)[(rw_ A d).length - 1 - p]) ?_ C (ask_ok (fun τ T => ?_)) G W
        · have := r2 _ _ hf
          simp (disch := omega) only [gd_t, gd_T, bx_some, bx_thr, bd_def, nx_in, ↓nO_eq, l0, l1, l2, l3, l4, l5, l6, l7, l8, l30, l50, l64, l100, l200, l448, l1200, iN_add, iN_lt, iN_le, iN_inj, iN_clamp, iN_inb, iN_nO, nO_iN, nO_lt, iN_ltm, iN_lem, nO_le, iN_pred, if_pos, if_neg, ↓reduceIte, or_true, true_or, and_true, true_and, ne_eq, not_true_eq_false, not_false_eq_true, false_or, or_false, and_false, false_and, f_X9_stands, c_rowAt (σ := σ) hd, f_X6_fromExit, r1, iN_sub, this]
        · have h1 := (T.2.2.2.2.2.1 d hd).1
          have h2 := (T.2.2.2.2.2.1 d hd).2 _ _ hf
          have h3 : 6 * d + (rw_ A d).length - 1 - p = 6 * d + ((rw_ A d).length - 1 - p) := by omega
          simp (disch := omega) only [gd_t, gd_T, bx_some, bx_thr, bd_def, nx_in, ↓nO_eq, l0, l1, l2, l3, l4, l5, l6, l7, l8, l30, l50, l64, l100, l200, l448, l1200, iN_add, iN_lt, iN_le, iN_inj, iN_clamp, iN_inb, iN_nO, nO_iN, nO_lt, iN_ltm, iN_lem, nO_le, iN_pred, if_pos, if_neg, ↓reduceIte, or_true, true_or, and_true, true_and, ne_eq, not_true_eq_false, not_false_eq_true, false_or, or_false, and_false, false_and, f_X10_stands, m_isDepot (σ := τ) hd, j_X10_stands_18, wr_rd, h1, iN_mul, iN_sub, h3, h2]
      · refine ok_in R (CS.rf σ) (v := nO) ?_ C (ask_ok (fun τ T => ?_)) G W
        · have := neg3 (a := (rw_ A d).length) (p := p) (by omega) hp (by omega)
          simp (disch := omega) only [gd_t, gd_T, bx_some, bx_thr, bd_def, nx_in, ↓nO_eq, l0, l1, l2, l3, l4, l5, l6, l7, l8, l30, l50, l64, l100, l200, l448, l1200, iN_add, iN_lt, iN_le, iN_inj, iN_clamp, iN_inb, iN_nO, nO_iN, nO_lt, iN_ltm, iN_lem, nO_le, iN_pred, if_pos, if_neg, ↓reduceIte, or_true, true_or, and_true, true_and, ne_eq, not_true_eq_false, not_false_eq_true, false_or, or_false, and_false, false_and, f_X9_stands, c_rowAt (σ := σ) hd, f_X6_fromExit, r1, this]
        · have h1 := (T.2.2.2.2.2.1 d hd).1
          simp (disch := omega) only [gd_t, gd_T, bx_some, bx_thr, bd_def, nx_in, ↓nO_eq, l0, l1, l2, l3, l4, l5, l6, l7, l8, l30, l50, l64, l100, l200, l448, l1200, iN_add, iN_lt, iN_le, iN_inj, iN_clamp, iN_inb, iN_nO, nO_iN, nO_lt, iN_ltm, iN_lem, nO_le, iN_pred, if_pos, if_neg, ↓reduceIte, or_true, true_or, and_true, true_and, ne_eq, not_true_eq_false, not_false_eq_true, false_or, or_false, and_false, false_and, f_X10_stands, m_isDepot (σ := τ) hd, j_X10_stands_18, wr_rd, h1]
  · refine ok_ex C R (k := 1) (E := "java/lang/IndexOutOfBoundsException") ?_ wk1 (by decide) (thr_ok (fun τ T => ?_)) G W
    · simp (disch := omega) only [gd_t, gd_T, bx_some, bx_thr, bd_def, nx_in, ↓nO_eq, l0, l1, l2, l3, l4, l5, l6, l7, l8, l30, l50, l64, l100, l200, l448, l1200, iN_add, iN_lt, iN_le, iN_inj, iN_clamp, iN_inb, iN_nO, nO_iN, nO_lt, iN_ltm, iN_lem, nO_le, iN_pred, if_pos, if_neg, ↓reduceIte, or_true, true_or, and_true, true_and, ne_eq, not_true_eq_false, not_false_eq_true, false_or, or_false, and_false, false_and, f_X9_stands, c_rowAt_no (σ := σ) h1]
    · simp (disch := omega) only [gd_t, gd_T, bx_some, bx_thr, bd_def, nx_in, ↓nO_eq, l0, l1, l2, l3, l4, l5, l6, l7, l8, l30, l50, l64, l100, l200, l448, l1200, iN_add, iN_lt, iN_le, iN_inj, iN_clamp, iN_inb, iN_nO, nO_iN, nO_lt, iN_ltm, iN_lem, nO_le, iN_pred, if_pos, if_neg, ↓reduceIte, or_true, true_or, and_true, true_and, ne_eq, not_true_eq_false, not_false_eq_true, false_or, or_false, and_false, false_and, f_X10_stands, m_isDepot_no (σ := τ) h1, j_X10_stands_18, j_X10_stands_13, wr_rd]
theorem due_0 (A : Ab) (u k : Nat) : due A u (iN 0) k = (decide (bnd A k < A.1 35 u k) || decide (A.1 52 k 0 < A.1 36 u k)) := by
  unfold due
  rw [show A.1 35 u k + iN 0 = A.1 35 u k from Int32.add_zero _]
theorem m_ab1 {σ : Wd} {A : Ab} (E : RRe σ A) (U : RRu σ A) {u : Nat} (hu : u < nU A) (hn : nU A ≤ 6) {k : Nat} (hk : k < 3) (acc x : Int32) (n : Nat) : l_X10_about_130 (n + 1) σ (iN k) acc (iN u) x = l_X10_about_130 n σ (iN (k + 1)) (if due A u (iN 0) k then acc + ((1 : Int32) <<< (iN k &&& 31)) else acc) (iN u) x := by
  obtain ⟨e0, e1, e2⟩ := E.1 k hk
  have u5 := (U u hu).2.2.2.1 k hk
  have u6 := (U u hu).2.2.2.2.1 k hk
  have hz : ∀ y : Int32, y + iN 0 = y := fun y => Int32.add_zero y
  have hz1 : ¬ iN 1 = iN 0 := by decide
  rw [due_0]
  by_cases h1 : bnd A k < A.1 35 u k
  · simp (disch := omega) only [gd_t, gd_T, bx_some, bx_thr, bd_def, nx_in, ↓nO_eq, l0, l1, l2, l3, l4, l5, l6, l7, l8, l30, l50, l64, l100, l200, l448, l1200, iN_add, iN_lt, iN_le, iN_inj, iN_clamp, iN_inb, iN_nO, nO_iN, nO_lt, iN_ltm, iN_lem, nO_le, iN_pred, if_pos, if_neg, ↓reduceIte, or_true, true_or, and_true, true_and, ne_eq, not_true_eq_false, not_false_eq_true, false_or, or_false, and_false, false_and, l_X10_about_130, m_bound E hk, iN_mul, u5, u6, e2, h1, decide_true, Bool.true_or, j_X10_about_177, j_X10_about_182, hz1]
  · by_cases h2 : A.1 36 u k ≤ A.1 52 k 0
    · simp (disch := omega) only [gd_t, gd_T, bx_some, bx_thr, bd_def, nx_in, ↓nO_eq, l0, l1, l2, l3, l4, l5, l6, l7, l8, l30, l50, l64, l100, l200, l448, l1200, iN_add, iN_lt, iN_le, iN_inj, iN_clamp, iN_inb, iN_nO, nO_iN, nO_lt, iN_ltm, iN_lem, nO_le, iN_pred, if_pos, if_neg, ↓reduceIte, or_true, true_or, and_true, true_and, ne_eq, not_true_eq_false, not_false_eq_true, false_or, or_false, and_false, false_and, l_X10_about_130, m_bound E hk, iN_mul, u5, u6, e2, h1, h2, lt_not.mpr h2, decide_false, Bool.or_self, Bool.false_eq_true, j_X10_about_177, j_X10_about_182, hz]
    · simp (disch := omega) only [gd_t, gd_T, bx_some, bx_thr, bd_def, nx_in, ↓nO_eq, l0, l1, l2, l3, l4, l5, l6, l7, l8, l30, l50, l64, l100, l200, l448, l1200, iN_add, iN_lt, iN_le, iN_inj, iN_clamp, iN_inb, iN_nO, nO_iN, nO_lt, iN_ltm, iN_lem, nO_le, iN_pred, if_pos, if_neg, ↓reduceIte, or_true, true_or, and_true, true_and, ne_eq, not_true_eq_false, not_false_eq_true, false_or, or_false, and_false, false_and, l_X10_about_130, m_bound E hk, iN_mul, u5, u6, e2, h1, h2, le_not.mp h2, decide_true, Bool.or_true, j_X10_about_177, j_X10_about_182, hz1]
theorem m_bits {σ : Wd} {A : Ab} (E : RRe σ A) (U : RRu σ A) {u : Nat} (hu : u < nU A) (hn : nU A ≤ 6) (x : Int32) : l_X10_about_130 FU σ (iN 0) (iN 0) (iN u) x = some (.inl (obits (due A u (iN 0) 0) (due A u (iN 0) 1) (due A u (iN 0) 2)), σ) := by
  obtain ⟨m, hm⟩ := FU_ge 4 (by decide)
  rw [hm]
  refine (m_ab1 E U hu hn (by decide : 0 < 3) _ x (m + 3)).trans ((m_ab1 E U hu hn (by decide : 1 < 3) _ x (m + 2)).trans ((m_ab1 E U hu hn (by decide : 2 < 3) _ x (m + 1)).trans ?_))
  generalize due A u (iN 0) 0 = b0
  generalize due A u (iN 0) 1 = b1
  generalize due A u (iN 0) 2 = b2
  have h3 : ∀ acc, l_X10_about_130 (m + 1) σ (iN (2 + 1)) acc (iN u) x = some (.inl acc, σ) := fun acc => by
    simp (disch := omega) only [gd_t, gd_T, bx_some, bx_thr, bd_def, nx_in, ↓nO_eq, l0, l1, l2, l3, l4, l5, l6, l7, l8, l30, l50, l64, l100, l200, l448, l1200, iN_add, iN_lt, iN_le, iN_inj, iN_clamp, iN_inb, iN_nO, nO_iN, nO_lt, iN_ltm, iN_lem, nO_le, iN_pred, if_pos, if_neg, ↓reduceIte, or_true, true_or, and_true, true_and, ne_eq, not_true_eq_false, not_false_eq_true, false_or, or_false, and_false, false_and, l_X10_about_130]
  rw [h3]
  cases b0 <;> cases b1 <;> cases b2 <;> rfl
