/-! one leaves its row -/
def wo (u : Nat) (l : List Nat) : List Nat := l.filter (fun x => decide (¬ x = u))
theorem wo_cons (u x : Nat) (l : List Nat) : wo u (x :: l) = if x = u then wo u l else x :: wo u l := by
  unfold wo
  rw [List.filter_cons]
  by_cases h : x = u
  · simp [h]
  · simp [h]
theorem wo_app (u : Nat) (l m : List Nat) : wo u (l ++ m) = wo u l ++ wo u m := List.filter_append ..
theorem wo_le (u : Nat) (l : List Nat) : (wo u l).length ≤ l.length := List.length_filter_le ..
theorem wo_none (u : Nat) : ∀ l : List Nat, ¬ u ∈ l → wo u l = l
  | [], _ => rfl
  | x :: l, h => by
    have hx : ¬ x = u := fun z => h (by rw [z]; exact List.mem_cons_self ..)
    rw [wo_cons, if_neg hx, wo_none u l (fun z => h (List.mem_cons_of_mem _ z))]
theorem wo_idx (u : Nat) : ∀ l : List Nat, l.Nodup → u ∈ l → l.eraseIdx (l.idxOf u) = wo u l
  | [], _, h => by cases h
  | x :: l, hd, h => by
    obtain ⟨h1, h2⟩ := List.nodup_cons.mp hd
    by_cases hx : x = u
    · subst hx
      rw [List.idxOf_cons_self, wo_cons, if_pos rfl, wo_none x l h1]
      rfl
    · have hm : u ∈ l := (List.mem_cons.mp h).resolve_left (fun z => hx z.symm)
      rw [idx_ne l hx, wo_cons, if_neg hx, ← wo_idx u l h2 hm]
      rfl
theorem k_leaveL {d u : Nat} (hd : d < 3) (hu6 : u < 6) {l : List Nat} (h6 : l.length ≤ 6) (hb : ∀ x, x ∈ l → x < 6) : ∀ (n k i : Nat) (σ : Wd), l.length - i = k → k < n → i ≤ l.length → σ.1 5 d 1 = iN l.length → (∀ j x, (wo u (l.take i))[j]? = some x → σ.1 6 d j = iN x) → (∀ j x, i ≤ j → l[j]? = some x → σ.1 6 d j = iN x) → ∃ σ', l_X6_leave_4 n σ (iN i) (iN (wo u (l.take i)).length) d (iN u) = some (.inl (), σ') ∧ σ'.2 = σ.2 ∧ (∀ t i', ¬ ((t = 5 ∨ t = 6) ∧ i' = d) → σ'.1 t i' = σ.1 t i') ∧ σ'.1 5 d 1 = iN (wo u l).length ∧ ∀ j x, (wo u l)[j]? = some x → σ'.1 6 d j = iN x
  | n + 1, k, i, σ, hk, hn, hi, h5, hK, hr => by
    have hKl := wo_le u (l.take i)
    rw [List.length_take, Nat.min_eq_left hi] at hKl
    rcases at_or l i with ⟨f, hf, hl⟩ | hl
    · have hx := hr i f (Nat.le_refl _) hf
      have hf6 := hb f (List.mem_of_getElem? hf)
      have htk := take_at hf
      by_cases hfu : f = u
      · have hw : wo u (l.take (i + 1)) = wo u (l.take i) := by
          rw [htk, wo_app, wo_cons, if_pos hfu]
          exact List.append_nil _
        obtain ⟨σ', q1, q2, q3, q4, q5⟩ := k_leaveL hd hu6 h6 hb n (l.length - (i + 1)) (i + 1) σ rfl (by omega) (by omega) h5 (by rw [hw]; exact hK) (fun j x a b => hr j x (by omega) b)
        rw [hw] at q1
        refine ⟨σ', ?_, q2, q3, q4, q5⟩
        rw [← q1]
        simp (disch := omega) only [gd_t, gd_T, bx_some, bx_thr, bd_def, nx_in, ↓nO_eq, l0, l1, l2, l3, l4, l5, l6, l7, l8, l30, l50, l64, l100, l200, l448, l1200, iN_add, iN_lt, iN_le, iN_inj, iN_clamp, iN_inb, iN_nO, nO_iN, nO_lt, iN_ltm, iN_lem, nO_le, iN_pred, if_pos, if_neg, ↓reduceIte, or_true, true_or, and_true, true_and, ne_eq, not_true_eq_false, not_false_eq_true, false_or, or_false, and_false, false_and, l_X6_leave_4, h5, hx, hfu]
      · have hw : wo u (l.take (i + 1)) = wo u (l.take i) ++ [f] := by
          rw [htk, wo_app, wo_cons, if_neg hfu]
          rfl
        have hwl : (wo u (l.take (i + 1))).length = (wo u (l.take i)).length + 1 := by
          rw [hw, List.length_append]; rfl
        obtain ⟨σ', q1, q2, q3, q4, q5⟩ := k_leaveL hd hu6 h6 hb n (l.length - (i + 1)) (i + 1) (wr σ 6 d (wo u (l.take i)).length (iN f)) rfl (by omega) (by omega) h5 (fun j x hj => by
          rw [hw] at hj
          rw [wr_rd]
          by_cases hjk : j = (wo u (l.take i)).length
          · rw [if_pos ⟨rfl, rfl, hjk⟩]
            rw [hjk, List.getElem?_append_right (Nat.le_refl _), Nat.sub_self] at hj
            cases hj
            rfl
          · rw [if_neg (fun z => hjk z.2.2)]
            have hlt : j < (wo u (l.take i)).length := by
              have := (List.getElem?_eq_some_iff.mp hj).1
              rw [List.length_append] at this
              simp at this
              omega
            rw [List.getElem?_append_left hlt] at hj
            exact hK j x hj) (fun j x a b => by
          rw [wr_rd, if_neg (by omega)]
          exact hr j x (by omega) b)
        rw [hwl] at q1
        refine ⟨σ', ?_, q2, fun t i' h => ?_, q4, q5⟩
        · rw [← q1]
          simp (disch := omega) only [gd_t, gd_T, bx_some, bx_thr, bd_def, nx_in, ↓nO_eq, l0, l1, l2, l3, l4, l5, l6, l7, l8, l30, l50, l64, l100, l200, l448, l1200, iN_add, iN_lt, iN_le, iN_inj, iN_clamp, iN_inb, iN_nO, nO_iN, nO_lt, iN_ltm, iN_lem, nO_le, iN_pred, if_pos, if_neg, ↓reduceIte, or_true, true_or, and_true, true_and, ne_eq, not_true_eq_false, not_false_eq_true, false_or, or_false, and_false, false_and, l_X6_leave_4, h5, hx, hfu]
        · rw [q3 t i' h]
          funext z
          rw [wr_rd, if_neg (fun q => h ⟨Or.inr q.1, q.2.1⟩)]
    · have hil : i = l.length := by omega
      subst hil
      rw [List.take_length] at hK ⊢
      have hKl2 := wo_le u l
      refine ⟨wr σ 5 d 1 (iN (wo u l).length), ?_, rfl, fun t i' h => ?_, wr_same _ _ _ _ _, fun j x hj => ?_⟩
      · simp (disch := omega) only [gd_t, gd_T, bx_some, bx_thr, bd_def, nx_in, ↓nO_eq, l0, l1, l2, l3, l4, l5, l6, l7, l8, l30, l50, l64, l100, l200, l448, l1200, iN_add, iN_lt, iN_le, iN_inj, iN_clamp, iN_inb, iN_nO, nO_iN, nO_lt, iN_ltm, iN_lem, nO_le, iN_pred, if_pos, if_neg, ↓reduceIte, or_true, true_or, and_true, true_and, ne_eq, not_true_eq_false, not_false_eq_true, false_or, or_false, and_false, false_and, l_X6_leave_4, h5]
      · funext z
        rw [wr_rd, if_neg (fun q => h ⟨Or.inl q.1, q.2.1⟩)]
      · rw [wr_rd, if_neg (fun q => by cases q.1)]
        exact hK j x hj
theorem k_leave {σ : Wd} {A : Ab} (R : RCr σ A) {d u : Nat} (hd : d < 3) (hu6 : u < 6) (h6 : (rw_ A d).length ≤ 6) (hb : ∀ x, x ∈ rw_ A d → x < 6) : ∃ σ', f_X6_leave σ d (iN u) = some (.inl (), σ') ∧ σ'.2 = σ.2 ∧ (∀ t, t ≠ 5 → t ≠ 6 → σ'.1 t = σ.1 t) ∧ RCr σ' (rwA A d (wo u (rw_ A d))) := by
  obtain ⟨r1, r2⟩ := R d hd
  obtain ⟨σ', q1, q2, q3, q4, q5⟩ := k_leaveL hd hu6 h6 hb FU _ 0 σ rfl (by unfold FU; omega) (Nat.zero_le _) r1 (fun j x hx => by simp [wo] at hx) (fun j x _ hx => r2 j x hx)
  refine ⟨σ', q1, q2, fun t h1 h2 => ?_, fun e he => ?_⟩
  · funext i
    exact q3 t i (fun z => by omega)
  · have hr : rw_ (rwA A d (wo u (rw_ A d))) e = if e = d then wo u (rw_ A d) else rw_ A e := rfl
    rw [hr]
    by_cases h : e = d
    · subst h
      rw [if_pos rfl]
      exact ⟨q4, q5⟩
    · rw [if_neg h, q3 5 e (fun z => h z.2), q3 6 e (fun z => h z.2)]
      exact R e he
