/-! what is told, one by one -/
def aw (A : Ab) (t i k : Nat) (v : Int32) : Ab := (fun t' i' k' => if t' = t ∧ i' = i ∧ k' = k then v else A.1 t' i' k', A.2)
theorem aw_rd (A : Ab) (t i k : Nat) (v : Int32) (t' i' k' : Nat) : (aw A t i k v).1 t' i' k' = if t' = t ∧ i' = i ∧ k' = k then v else A.1 t' i' k' := id rfl
theorem rg_in {σ : Wd} {p lo hi : Int32} (h1 : ¬ p < lo) (h2 : p ≤ hi) : f_X9_checkRange σ p lo hi = some (.inl (), σ) := by
  unfold f_X9_checkRange
  rw [if_neg h1, if_pos h2]
theorem rg_out {σ : Wd} {p lo hi : Int32} (h : ¬ (¬ p < lo ∧ p ≤ hi)) : f_X9_checkRange σ p lo hi = some (.inr "java/lang/IllegalArgumentException", σ) := by
  unfold f_X9_checkRange
  by_cases h1 : p < lo
  · rw [if_pos h1]
  · rw [if_neg h1, if_neg (fun h2 => h ⟨h1, h2⟩)]
theorem bt_in {σ : Wd} {p lo hi : Int32} (h1 : ¬ p < lo) (h2 : p ≤ hi) : f_X10_between σ p lo hi = some (.inl (iN 1), σ) := by
  unfold f_X10_between
  rw [if_neg h1, if_neg (lt_not.mpr h2)]
  rfl
theorem bt_out {σ : Wd} {p lo hi : Int32} (h : ¬ (¬ p < lo ∧ p ≤ hi)) : f_X10_between σ p lo hi = some (.inl (iN 0), σ) := by
  unfold f_X10_between
  by_cases h1 : p < lo
  · rw [if_pos h1]; rfl
  · rw [if_neg h1, if_pos (le_not.mp (fun h2 => h ⟨h1, h2⟩))]; rfl
/-! exam -/
def exA (A : Ab) (e : Nat) (a b c : Int32) : Ab := aw (aw (aw A 50 e 0 a) 51 e 0 b) 52 e 0 c
theorem ex_C {σ : Wd} {A : Ab} (C : RC σ A) {e : Nat} (he : e < 3) (a b c : Int32) : RC (wr (wr (wr σ 9 e 0 a) 9 e 1 b) 9 e 2 c) (exA A e a b c) := by
  obtain ⟨H, F, U, D, E, R1, S, L⟩ := C
  refine ⟨H, F, U, D, ⟨fun k hk => ?_, E.2⟩, R1, S, L⟩
  unfold exA
  by_cases h : k = e
  · subst h; simp [wr_rd, aw_rd]
  · simp [wr_rd, aw_rd, h, E.1 k hk]
theorem ex_R {σ : Wd} {A : Ab} (T : RR σ A) {e : Nat} (he : e < 3) (a b c : Int32) : RR (wr (wr (wr σ 50 0 e a) 51 0 e b) 52 0 e c) (exA A e a b c) := by
  obtain ⟨H, F, U, D, E, R1, L⟩ := T
  refine ⟨H, F, U, D, ⟨fun k hk => ?_, E.2⟩, R1, L⟩
  unfold exA
  by_cases h : k = e
  · subst h; simp [wr_rd, aw_rd]
  · simp [wr_rd, aw_rd, h, E.1 k hk]
theorem ex_b (A : Ab) (e : Nat) (a b c : Int32) : bnd (exA A e a b c) e = a + a * b / iN 100 := by
  unfold bnd exA
  simp [aw_rd]
theorem st_exam {σ : Wd} (I : Inv σ) (w1 w2 w3 w4 : Int32) : ∃ σ', c_exam σ w1 w2 w3 w4 = some σ' ∧ Inv σ' := by
  obtain ⟨A, C, R, G, W⟩ := I
  rcases rng w1 3 (by decide) with ⟨e, he, rfl⟩ | h1
  · by_cases ha : ¬ w2 < 100 ∧ w2 ≤ 100000
    · by_cases hb : ¬ w3 < 0 ∧ w3 ≤ 20
      · by_cases hc : ¬ w4 < 0 ∧ w4 ≤ 400
        · have C' := ex_C C he w2 w3 w4
          have hS : CS σ (wr (wr (wr σ 9 e 0 w2) 9 e 1 w3) 9 e 2 w4) := (((CS.rf σ).wr (by decide)).wr (by decide)).wr (by decide)
          refine ok_in R hS (v := bnd (exA A e w2 w3 w4) e) ?_ C' (fun τ T => ⟨_, ?_, ?_, ((((RS.rf τ).wr (t := 30) (i := 0) (k := 0) (v := 0) (by decide)).wr (t := 50) (i := 0) (k := e) (v := w2) (by decide)).wr (t := 51) (i := 0) (k := e) (v := w3) (by decide)).wr (t := 52) (i := 0) (k := e) (v := w4) (by decide), ex_R (T.thr 0) he w2 w3 w4⟩) G W
          · unfold f_X9_exam
            rw [c_examAt he, bx_some, rg_in ha.1 ha.2, bx_some, rg_in hb.1 hb.2, bx_some, rg_in hc.1 hc.2, bx_some, gd_t he, bd_def, bd_def, bd_def, k_bound C'.2.2.2.2.1 he, bx_some]
          · have hm := m_bound (ex_R (T.thr 0) he w2 w3 w4).2.2.2.2.1 he
            unfold f_X10_exam
            rw [m_isExam he, bx_some, if_neg (by decide), bt_in ha.1 ha.2, bx_some, if_neg (by decide), bt_in hb.1 hb.2, bx_some, if_neg (by decide), bt_in hc.1 hc.2, bx_some, if_neg (by decide)]
            unfold j_X10_exam_54
            rw [bd_def, if_pos (by rw [wr_same]; decide), gd_t ((iN_inb (by omega)).mpr he), iN_clamp (by omega), bd_def, bd_def, bd_def, hm, bx_some]
          · rfl
        · refine ok_ex C R (k := 2) (E := "java/lang/IllegalArgumentException") ?_ wk2 (by decide) (thr_ok (fun τ T => ?_)) G W
          · unfold f_X9_exam
            rw [c_examAt he, bx_some, rg_in ha.1 ha.2, bx_some, rg_in hb.1 hb.2, bx_some, rg_out hc, bx_thr]
          · unfold f_X10_exam j_X10_exam_49 j_X10_exam_54
            rw [m_isExam he, bx_some, if_neg (by decide), bt_in ha.1 ha.2, bx_some, if_neg (by decide), bt_in hb.1 hb.2, bx_some, if_neg (by decide), bt_out hc, bx_some, if_pos (show iN 0 = 0 from rfl), bd_def, if_neg (by rw [wr_same]; decide)]
      · refine ok_ex C R (k := 2) (E := "java/lang/IllegalArgumentException") ?_ wk2 (by decide) (thr_ok (fun τ T => ?_)) G W
        · unfold f_X9_exam
          rw [c_examAt he, bx_some, rg_in ha.1 ha.2, bx_some, rg_out hb, bx_thr]
        · unfold f_X10_exam j_X10_exam_49 j_X10_exam_54
          rw [m_isExam he, bx_some, if_neg (by decide), bt_in ha.1 ha.2, bx_some, if_neg (by decide), bt_out hb, bx_some, if_pos (show iN 0 = 0 from rfl), bd_def, if_neg (by rw [wr_same]; decide)]
    · refine ok_ex C R (k := 2) (E := "java/lang/IllegalArgumentException") ?_ wk2 (by decide) (thr_ok (fun τ T => ?_)) G W
      · unfold f_X9_exam
        rw [c_examAt he, bx_some, rg_out ha, bx_thr]
      · unfold f_X10_exam j_X10_exam_49 j_X10_exam_54
        rw [m_isExam he, bx_some, if_neg (by decide), bt_out ha, bx_some, if_pos (show iN 0 = 0 from rfl), bd_def, if_neg (by rw [wr_same]; decide)]
  · refine ok_ex C R (k := 1) (E := "java/lang/IndexOutOfBoundsException") ?_ wk1 (by decide) (thr_ok (fun τ T => ?_)) G W
    · unfold f_X9_exam
      rw [c_examAt_no h1, bx_thr]
    · unfold f_X10_exam j_X10_exam_54
      rw [m_isExam_no h1, bx_some, if_pos (show iN 0 = 0 from rfl), bd_def, if_neg (by rw [wr_same]; decide)]
/-! list -/
def liA (A : Ab) (e : Nat) (a b : Int32) : Ab := aw (aw A 53 e 0 a) 54 e 0 b
theorem li_C {σ : Wd} {A : Ab} (C : RC σ A) {e : Nat} (he : e < 4) (a b : Int32) : RC (wr (wr σ 11 e 0 a) 11 e 1 b) (liA A e a b) := by
  obtain ⟨H, F, U, D, E, R1, S, L⟩ := C
  refine ⟨H, F, U, D, ⟨E.1, fun k hk => ?_⟩, R1, S, L⟩
  unfold liA
  by_cases h : k = e
  · subst h; simp [wr_rd, aw_rd]
  · simp [wr_rd, aw_rd, h, E.2 k hk]
theorem li_R {σ : Wd} {A : Ab} (T : RR σ A) {e : Nat} (he : e < 4) (a b : Int32) : RR (wr (wr σ 53 0 e a) 54 0 e b) (liA A e a b) := by
  obtain ⟨H, F, U, D, E, R1, L⟩ := T
  refine ⟨H, F, U, D, ⟨E.1, fun k hk => ?_⟩, R1, L⟩
  unfold liA
  by_cases h : k = e
  · subst h; simp [wr_rd, aw_rd]
  · simp [wr_rd, aw_rd, h, E.2 k hk]
theorem st_list {σ : Wd} (I : Inv σ) (w1 w2 w3 : Int32) : ∃ σ', c_list σ w1 w2 w3 = some σ' ∧ Inv σ' := by
  obtain ⟨A, C, R, G, W⟩ := I
  rcases rng w1 4 (by decide) with ⟨e, he, rfl⟩ | h1
  · by_cases ha : ¬ w2 < -1 ∧ w2 ≤ 30
    · by_cases hb : w2 = -1 ∨ (¬ w3 < 0 ∧ w3 ≤ 2)
      · have C' := li_C C he w2 w3
        have hS : CS σ (wr (wr σ 11 e 0 w2) 11 e 1 w3) := ((CS.rf σ).wr (by decide)).wr (by decide)
        refine ok_in R hS (v := A.1 53 e 0) ?_ C' (fun τ T => ⟨_, ?_, ?_, (((RS.rf τ).wr (t := 30) (i := 0) (k := 0) (v := 0) (by decide)).wr (t := 53) (i := 0) (k := e) (v := w2) (by decide)).wr (t := 54) (i := 0) (k := e) (v := w3) (by decide), li_R (T.thr 0) he w2 w3⟩) G W
        · have e0 := (C.2.2.2.2.1.2 e he).1
          unfold f_X9_list
          rw [c_permitAt he, bx_some, rg_in ha.1 ha.2, bx_some]
          by_cases hm : w2 = -1
          · rw [if_pos hm]
            unfold j_X9_list_28
            rw [gd_t he, bd_def, bd_def, e0]
          · rw [if_neg hm, rg_in (hb.resolve_left hm).1 (hb.resolve_left hm).2, bx_some]
            unfold j_X9_list_28
            rw [gd_t he, bd_def, bd_def, e0]
        · have e0 := (T.2.2.2.2.1.2 e he).1
          have e1 : (wr τ 30 0 0 0).1 53 0 e = A.1 53 e 0 := e0
          unfold f_X10_list j_X10_list_45 j_X10_list_46
          rw [show (f_X10_between τ (iN e) 0 3) = some (.inl (iN 1), τ) from b_inL (m := 3) he (by decide), bx_some, if_neg (by decide), bt_in ha.1 ha.2, bx_some, if_neg (by decide)]
          have hj : ∀ x, (bd (wr τ 30 0 0 0) fun σ3 => if (σ3.1 30 0 0) ≤ 0 then gd (inb (iN e) 4) <| bd ((σ3.1 53 0 (iN e).toNatClampNeg)) fun x4 => bd (wr σ3 53 0 (iN e).toNatClampNeg w2) fun σ5 => bd (wr σ5 54 0 (iN e).toNatClampNeg w3) fun σ6 => some (.inl x4, σ6) else x) = some ((.inl (A.1 53 e 0), wr (wr (wr τ 30 0 0 0) 53 0 e w2) 54 0 e w3) : (Int32 ⊕ String) × Wd) := fun x => by
            rw [bd_def, if_pos (by rw [wr_same]; decide), gd_t ((iN_inb (by omega)).mpr he), iN_clamp (by omega), bd_def, bd_def, bd_def, e1]
          by_cases hm : w2 = -1
          · rw [if_pos hm]
            exact hj _
          · rw [if_neg hm, bt_in (hb.resolve_left hm).1 (hb.resolve_left hm).2, bx_some, if_neg (by decide)]
            exact hj _
        · rfl
      · have hm : ¬ w2 = -1 := fun z => hb (Or.inl z)
        have hr : ¬ (¬ w3 < 0 ∧ w3 ≤ 2) := fun z => hb (Or.inr z)
        refine ok_ex C R (k := 2) (E := "java/lang/IllegalArgumentException") ?_ wk2 (by decide) (thr_ok (fun τ T => ?_)) G W
        · unfold f_X9_list
          rw [c_permitAt he, bx_some, rg_in ha.1 ha.2, bx_some, if_neg hm, rg_out hr, bx_thr]
        · unfold f_X10_list j_X10_list_41 j_X10_list_46
          rw [show (f_X10_between τ (iN e) 0 3) = some (.inl (iN 1), τ) from b_inL (m := 3) he (by decide), bx_some, if_neg (by decide), bt_in ha.1 ha.2, bx_some, if_neg (by decide), if_neg hm, bt_out hr, bx_some, if_pos (show iN 0 = 0 from rfl), bd_def, if_neg (by rw [wr_same]; decide)]
    · refine ok_ex C R (k := 2) (E := "java/lang/IllegalArgumentException") ?_ wk2 (by decide) (thr_ok (fun τ T => ?_)) G W
      · unfold f_X9_list
        rw [c_permitAt he, bx_some, rg_out ha, bx_thr]
      · unfold f_X10_list j_X10_list_41 j_X10_list_46
        rw [show (f_X10_between τ (iN e) 0 3) = some (.inl (iN 1), τ) from b_inL (m := 3) he (by decide), bx_some, if_neg (by decide), bt_out ha, bx_some, if_pos (show iN 0 = 0 from rfl), bd_def, if_neg (by rw [wr_same]; decide)]
  · refine ok_ex C R (k := 1) (E := "java/lang/IndexOutOfBoundsException") ?_ wk1 (by decide) (thr_ok (fun τ T => ?_)) G W
    · unfold f_X9_list
      rw [c_permitAt_no h1, bx_thr]
    · unfold f_X10_list j_X10_list_46
      rw [show (f_X10_between τ w1 0 3) = some (.inl (iN 0), τ) from b_outL (m := 3) (by decide) h1, bx_some, if_pos (show iN 0 = 0 from rfl), bd_def, if_neg (by rw [wr_same]; decide)]
