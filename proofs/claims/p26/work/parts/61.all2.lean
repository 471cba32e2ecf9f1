/-! the trials, one by one -/
def bmp (n : Nat) : List Nat → List Nat × Bool
  | [] => ([], true)
  | c :: l => if (bmp n l).2 then (if c = n then (0 :: (bmp n l).1, true) else ((c + 1) :: (bmp n l).1, false)) else (c :: (bmp n l).1, false)
def bup (n : Nat) (l : List Nat) : List Nat := (bmp n l).1
theorem bmp_end (n c : Nat) : ∀ p : List Nat, bmp n (p ++ [c]) = if c = n then ((bmp n p).1 ++ [0], (bmp n p).2) else (p ++ [c + 1], false)
  | [] => by
    show (if (true : Bool) then (if c = n then (0 :: [], true) else ((c + 1) :: [], false)) else (c :: [], false)) = _
    rw [if_pos rfl]
    rfl
  | x :: p => by
    show (if (bmp n (p ++ [c])).2 then (if x = n then (0 :: (bmp n (p ++ [c])).1, true) else ((x + 1) :: (bmp n (p ++ [c])).1, false)) else (x :: (bmp n (p ++ [c])).1, false)) = if c = n then ((if (bmp n p).2 then (if x = n then (0 :: (bmp n p).1, true) else ((x + 1) :: (bmp n p).1, false)) else (x :: (bmp n p).1, false)).1 ++ [0], (if (bmp n p).2 then (if x = n then (0 :: (bmp n p).1, true) else ((x + 1) :: (bmp n p).1, false)) else (x :: (bmp n p).1, false)).2) else (x :: p ++ [c + 1], false)
    rw [bmp_end n c p]
    by_cases hc : c = n
    · rw [if_pos hc, if_pos hc]
      by_cases hb : (bmp n p).2 = true
      · by_cases hx : x = n
        · simp [hb, hx]
        · simp [hb, hx]
      · simp [hb]
    · rw [if_neg hc, if_neg hc]
      rfl
theorem bu_end (n c : Nat) (p : List Nat) : bup n (p ++ [c]) = if c = n then bup n p ++ [0] else p ++ [c + 1] := by
  unfold bup
  rw [bmp_end]
  split <;> rfl
theorem bu_len (n : Nat) : ∀ l : List Nat, (bmp n l).1.length = l.length
  | [] => rfl
  | c :: l => by
    have := bu_len n l
    show (if (bmp n l).2 then (if c = n then (0 :: (bmp n l).1, true) else ((c + 1) :: (bmp n l).1, false)) else (c :: (bmp n l).1, false)).1.length = l.length + 1
    split
    · split <;> simp [this]
    · simp [this]
theorem put17 {σ : Wd} {i : Nat} (hi : i < 6) (v : Int32) : f_X3_put_17 σ (iN i) v = some (.inl (), wr σ 17 0 i v) := by
  simp (disch := omega) only [gd_t, gd_T, bx_some, bx_thr, bd_def, nx_in, ↓nO_eq, l0, l1, l2, l3, l4, l5, l6, l7, l8, l30, l50, l64, l100, l200, l448, l1200, iN_add, iN_lt, iN_le, iN_inj, iN_clamp, iN_inb, iN_nO, nO_iN, nO_lt, iN_ltm, iN_lem, nO_le, iN_pred, if_pos, if_neg, ↓reduceIte, or_true, true_or, and_true, true_and, ne_eq, not_true_eq_false, not_false_eq_true, false_or, or_false, and_false, false_and, f_X3_put_17]
def TriP (A : Ab) (σ : Wd) (l : List Nat) : Prop := ∀ d c, l[d]? = some c → σ.1 17 0 d = chv (nU A) c
theorem first_ok {A : Ab} {σ : Wd} (M : Mrn A σ) (g6 : nU A ≤ 6) : f_X3_firstChoice σ = some (.inl (chv (nU A) 0), σ) := by
  have h6 := M.1
  unfold chv
  by_cases h : nU A = 0
  · rw [if_pos h.symm]
    simp (disch := omega) only [gd_t, gd_T, bx_some, bx_thr, bd_def, nx_in, ↓nO_eq, l0, l1, l2, l3, l4, l5, l6, l7, l8, l30, l50, l64, l100, l200, l448, l1200, iN_add, iN_lt, iN_le, iN_inj, iN_clamp, iN_inb, iN_nO, nO_iN, nO_lt, iN_ltm, iN_lem, nO_le, iN_pred, if_pos, if_neg, ↓reduceIte, or_true, true_or, and_true, true_and, ne_eq, not_true_eq_false, not_false_eq_true, false_or, or_false, and_false, false_and, f_X3_firstChoice, h6, h]
  · rw [if_neg (fun z => h z.symm)]
    simp (disch := omega) only [gd_t, gd_T, bx_some, bx_thr, bd_def, nx_in, ↓nO_eq, l0, l1, l2, l3, l4, l5, l6, l7, l8, l30, l50, l64, l100, l200, l448, l1200, iN_add, iN_lt, iN_le, iN_inj, iN_clamp, iN_inb, iN_nO, nO_iN, nO_lt, iN_ltm, iN_lem, nO_le, iN_pred, if_pos, if_neg, ↓reduceIte, or_true, true_or, and_true, true_and, ne_eq, not_true_eq_false, not_false_eq_true, false_or, or_false, and_false, false_and, f_X3_firstChoice, h6, h]
theorem stepL {A : Ab} (G : Gd A) : ∀ (d n : Nat) (a b : List Nat) (σ : Wd), a.length = d → d < n → (a ++ b).length ≤ 6 → (∀ c, c ∈ a → c ≤ nU A) → Mrn A σ → TriP A σ (a ++ b) → ∃ σ', l_X3_stepTrial_7 n σ (pr d) = some (.inl (), σ') ∧ σ'.2 = σ.2 ∧ (∀ t, t ≠ 17 → σ'.1 t = σ.1 t) ∧ TriP A σ' (bup (nU A) a ++ b)
  | 0, n, a, b, σ, ha, hn, h6, hc, M, T => by
    obtain ⟨m, rfl⟩ : ∃ m, n = m + 1 := ⟨n - 1, by omega⟩
    have hnil : a = [] := List.eq_nil_of_length_eq_zero ha
    subst hnil
    refine ⟨σ, ?_, rfl, fun _ _ => rfl, T⟩
    unfold l_X3_stepTrial_7 pr
    rw [if_pos (by decide)]
  | d + 1, n, a, b, σ, ha, hn, h6, hc, M, T => by
    obtain ⟨m, rfl⟩ : ∃ m, n = m + 1 := ⟨n - 1, by omega⟩
    have g6 := G.1
    rcases List.eq_nil_or_concat a with hnil | ⟨a', c, hac⟩
    · rw [hnil] at ha
      exact absurd ha (by simp)
    · rw [hac] at ha h6 hc T ⊢
      simp only [List.concat_eq_append, List.append_assoc, List.singleton_append] at ha h6 hc T ⊢
      have hal : a'.length = d := by simpa using ha
      have hd6 : d < 6 := by simp at h6; omega
      have hT := T d c (by rw [← hal]; exact at_mid c b a')
      have hcn : c ≤ nU A := hc c (List.mem_append_right _ (List.mem_singleton.mpr rfl))
      have hat : f_X3_at_17 σ (iN d) nO = some (.inl (chv (nU A) c), σ) := by
        simp (disch := omega) only [gd_t, gd_T, bx_some, bx_thr, bd_def, nx_in, ↓nO_eq, l0, l1, l2, l3, l4, l5, l6, l7, l8, l30, l50, l64, l100, l200, l448, l1200, iN_add, iN_lt, iN_le, iN_inj, iN_clamp, iN_inb, iN_nO, nO_iN, nO_lt, iN_ltm, iN_lem, nO_le, iN_pred, if_pos, if_neg, ↓reduceIte, or_true, true_or, and_true, true_and, ne_eq, not_true_eq_false, not_false_eq_true, false_or, or_false, and_false, false_and, f_X3_at_17, hT]
      have hM6 := M.1
      have hw : ∀ v, TriP A (wr σ 17 0 d (chv (nU A) v)) (a' ++ v :: b) := fun v e x hx => by
        rw [wr_rd]
        by_cases he : e = d
        · rw [if_pos ⟨rfl, rfl, he⟩]
          rw [he, ← hal, at_mid] at hx
          cases hx
          rfl
        · rw [if_neg (fun z => he z.2.2)]
          refine T e x ?_
          by_cases hlt : e < a'.length
          · rw [List.getElem?_append_left hlt] at hx ⊢
            exact hx
          · rw [List.getElem?_append_right (by omega)] at hx ⊢
            obtain ⟨q, hq⟩ : ∃ q, e - a'.length = q + 1 := ⟨e - a'.length - 1, by omega⟩
            rw [hq] at hx ⊢
            exact hx
      have off : ∀ v t, t ≠ 17 → (wr σ 17 0 d v).1 t = σ.1 t := fun v t ht => by
        funext i k
        rw [wr_rd, if_neg (fun z => ht z.1)]
      rw [bu_end]
      have hpr : pr (d + 1) = iN d := rfl
      have hp2 : iN d + nO = pr d := pr_add d
      by_cases hcu : c = nU A
      · rw [if_pos hcu]
        have ec : chv (nU A) c = nO := if_pos hcu
        rw [ec] at hat
        have M1 : Mrn A (wr σ 17 0 d (chv (nU A) 0)) := M.f18 ((F18.rf σ).wr (by decide))
        obtain ⟨σ', q1, q2, q3, q4⟩ := stepL G d m a' (0 :: b) (wr σ 17 0 d (chv (nU A) 0)) hal (by omega) (by simp at h6 ⊢; omega) (fun x hx => hc x (List.mem_append_left _ hx)) M1 (hw 0)
        refine ⟨σ', ?_, q2, fun t ht => ?_, ?_⟩
        · rw [hpr, ← q1]
          simp (disch := omega) only [gd_t, gd_T, bx_some, bx_thr, bd_def, nx_in, ↓nO_eq, l0, l1, l2, l3, l4, l5, l6, l7, l8, l30, l50, l64, l100, l200, l448, l1200, iN_add, iN_lt, iN_le, iN_inj, iN_clamp, iN_inb, iN_nO, nO_iN, nO_lt, iN_ltm, iN_lem, nO_le, iN_pred, if_pos, if_neg, ↓reduceIte, or_true, true_or, and_true, true_and, ne_eq, not_true_eq_false, not_false_eq_true, false_or, or_false, and_false, false_and, l_X3_stepTrial_7, hat, first_ok M g6, put17 (σ := σ), hp2]
        · rw [q3 t ht, off _ t ht]
        · rw [List.append_assoc]
          exact q4
      · rw [if_neg hcu]
        have ec : chv (nU A) c = iN c := if_neg hcu
        rw [ec] at hat
        refine ⟨wr σ 17 0 d (chv (nU A) (c + 1)), ?_, rfl, off _, ?_⟩
        · rw [hpr]
          by_cases h1 : nU A ≤ c + 1
          · have e1 : chv (nU A) (c + 1) = nO := if_pos (by omega)
            rw [e1]
            simp (disch := omega) only [gd_t, gd_T, bx_some, bx_thr, bd_def, nx_in, ↓nO_eq, l0, l1, l2, l3, l4, l5, l6, l7, l8, l30, l50, l64, l100, l200, l448, l1200, iN_add, iN_lt, iN_le, iN_inj, iN_clamp, iN_inb, iN_nO, nO_iN, nO_lt, iN_ltm, iN_lem, nO_le, iN_pred, if_pos, if_neg, ↓reduceIte, or_true, true_or, and_true, true_and, ne_eq, not_true_eq_false, not_false_eq_true, false_or, or_false, and_false, false_and, l_X3_stepTrial_7, hat, hM6, put17 (σ := σ)]
          · have e1 : chv (nU A) (c + 1) = iN (c + 1) := if_neg (by omega)
            rw [e1]
            simp (disch := omega) only [gd_t, gd_T, bx_some, bx_thr, bd_def, nx_in, ↓nO_eq, l0, l1, l2, l3, l4, l5, l6, l7, l8, l30, l50, l64, l100, l200, l448, l1200, iN_add, iN_lt, iN_le, iN_inj, iN_clamp, iN_inb, iN_nO, nO_iN, nO_lt, iN_ltm, iN_lem, nO_le, iN_pred, if_pos, if_neg, ↓reduceIte, or_true, true_or, and_true, true_and, ne_eq, not_true_eq_false, not_false_eq_true, false_or, or_false, and_false, false_and, l_X3_stepTrial_7, hat, hM6, put17 (σ := σ)]
        · rw [List.append_assoc]
          exact hw (c + 1)
theorem bu_le (n : Nat) : ∀ l : List Nat, (∀ c, c ∈ l → c ≤ n) → ∀ c, c ∈ (bmp n l).1 → c ≤ n
  | [], _, c, hc => by cases hc
  | x :: l, h, c, hc => by
    have hx := h x (List.mem_cons_self ..)
    have ih := bu_le n l (fun y hy => h y (List.mem_cons_of_mem _ hy))
    have e : (bmp n (x :: l)).1 = (if (bmp n l).2 then (if x = n then (0 :: (bmp n l).1, true) else ((x + 1) :: (bmp n l).1, false)) else (x :: (bmp n l).1, false)).1 := rfl
    rw [e] at hc
    by_cases h1 : (bmp n l).2 = true
    · by_cases h2 : x = n
      · rw [if_pos h1, if_pos h2] at hc
        rcases List.mem_cons.mp hc with rfl | hc
        · exact Nat.zero_le _
        · exact ih c hc
      · rw [if_pos h1, if_neg h2] at hc
        rcases List.mem_cons.mp hc with rfl | hc
        · omega
        · exact ih c hc
    · rw [if_neg h1] at hc
      rcases List.mem_cons.mp hc with rfl | hc
      · exact hx
      · exact ih c hc
theorem step_ok {A : Ab} {σ : Wd} {l : List Nat} (G : Gd A) (M : Mrn A σ) (T : Tri A σ l) : ∃ σ', f_X3_stepTrial σ = some (.inl (), σ') ∧ σ'.2 = σ.2 ∧ (∀ t, t ≠ 17 → σ'.1 t = σ.1 t) ∧ Tri A σ' (bup (nU A) l) := by
  have g7 := G.2.1
  obtain ⟨σ', q1, q2, q3, q4⟩ := stepL G (nD A) FU l [] σ T.1 (by unfold FU; omega) (by rw [List.append_nil, T.1]; exact g7) T.2.1 M (by rw [List.append_nil]; exact T.2.2)
  refine ⟨σ', ?_, q2, q3, ?_, bu_le _ l T.2.1, ?_⟩
  · unfold f_X3_stepTrial
    rw [M.2.1, pr_sub, bd_def]
    exact q1
  · unfold bup
    rw [bu_len]
    exact T.1
  · rw [List.append_nil] at q4
    exact q4
def upa (A : Ab) (acc : Option (List Nat)) (a : List Nat) : Option (List Nat) := if alw (PA A) 0 (fr0 A) a then stp (cst (PA A) 0) acc a else acc
theorem one_trial {A : Ab} {σ : Wd} {l b : List Nat} (G : Gd A) (M : Mrn A σ) (T : Tri A σ l) (B : GivL A σ b) (i N : Nat) (hi : i < N) (hN : N < 1000000) : ∃ σ' b', (∀ F, l_X3_allocateByAll_26 (F + 1) σ (iN i) (iN N) = l_X3_allocateByAll_26 F σ' (iN (i + 1)) (iN N)) ∧ F18 σ σ' ∧ Tri A σ' (bup (nU A) l) ∧ GivL A σ' b' ∧ upa A (some b) l = some b' := by
  have g6 := G.1
  have g7 := G.2.1
  have hal := allowL M G T (nD A) 0 FU 0 (fr0 A) rfl (by unfold FU; omega) (Nat.zero_le _) (by decide) (fun u hu => by
    unfold fr0
    rw [decide_eq_true hu, Nat.zero_testBit]; rfl)
  rw [List.drop_zero] at hal
  have hbt := better_ok M G T B
  unfold upa
  cases ha : alw (PA A) 0 (fr0 A) l with
  | false =>
    rw [ha] at hal
    obtain ⟨σ', q1, q2, q3, q4⟩ := step_ok G M T
    refine ⟨σ', b, fun F => ?_, ⟨q2, fun t ht => q3 t (by omega)⟩, q4, ⟨B.1, B.2.1, fun d c hd => ?_⟩, rfl⟩
    · simp (disch := omega) only [gd_t, gd_T, bx_some, bx_thr, bd_def, nx_in, ↓nO_eq, l0, l1, l2, l3, l4, l5, l6, l7, l8, l30, l50, l64, l100, l200, l448, l1200, iN_add, iN_lt, iN_le, iN_inj, iN_clamp, iN_inb, iN_nO, nO_iN, nO_lt, iN_ltm, iN_lem, nO_le, iN_pred, if_pos, if_neg, ↓reduceIte, or_true, true_or, and_true, true_and, ne_eq, not_true_eq_false, not_false_eq_true, false_or, or_false, and_false, false_and, l_X3_allocateByAll_26, f_X3_trialIsAllowed, hal, bI_f, q1]
    · rw [q3 16 (by decide)]; exact B.2.2 d c hd
  | true =>
    rw [ha] at hal
    rw [if_pos rfl]
    show ∃ σ' b', _ ∧ _ ∧ _ ∧ _ ∧ (if cst (PA A) 0 l < cst (PA A) 0 b then some l else some b) = some b'
    by_cases hlt : cst (PA A) 0 l < cst (PA A) 0 b
    · rw [decide_eq_true hlt] at hbt
      have hrd : ∀ t, t ≠ 16 → (wcI σ 17 16 0 0 6).1 t = σ.1 t := fun t ht => by
        funext i k
        exact if_neg (fun z => ht z.1)
      have hF : F18 σ (wcI σ 17 16 0 0 6) := ⟨rfl, fun t ht => hrd t (by omega)⟩
      have h16 : ∀ d, d < 6 → (wcI σ 17 16 0 0 6).1 16 0 d = σ.1 17 0 d := fun d hd => by
        show (if 16 = 16 ∧ 0 = 0 then va_cpy (σ.1 17 0) (σ.1 16 0) 0 0 6 d else σ.1 16 0 d) = _
        rw [if_pos ⟨rfl, rfl⟩]
        simp [va_cpy, hd]
      have T1 : Tri A (wcI σ 17 16 0 0 6) l := ⟨T.1, T.2.1, fun d c hd => by rw [hrd 17 (by decide)]; exact T.2.2 d c hd⟩
      obtain ⟨σ', q1, q2, q3, q4⟩ := step_ok G (M.f18 hF) T1
      refine ⟨σ', l, fun F => ?_, hF.tr ⟨q2, fun t ht => q3 t (by omega)⟩, q4, ⟨T.1, T.2.1, fun d c hd => ?_⟩, by rw [if_pos hlt]⟩
      · have c0 : (iN 0).toNatClampNeg = 0 := iN_clamp (by decide)
        have c6 : (iN 6).toNatClampNeg = 6 := iN_clamp (by decide)
        simp (disch := omega) only [gd_t, gd_T, bx_some, bx_thr, bd_def, nx_in, ↓nO_eq, l0, l1, l2, l3, l4, l5, l6, l7, l8, l30, l50, l64, l100, l200, l448, l1200, iN_add, iN_lt, iN_le, iN_inj, iN_clamp, iN_inb, iN_nO, nO_iN, nO_lt, iN_ltm, iN_lem, nO_le, iN_pred, if_pos, if_neg, ↓reduceIte, or_true, true_or, and_true, true_and, ne_eq, not_true_eq_false, not_false_eq_true, false_or, or_false, and_false, false_and, l_X3_allocateByAll_26, f_X3_trialIsAllowed, hal, bI_t, hbt, q1]
      · have hd6 : d < 6 := by
          have := (List.getElem?_eq_some_iff.mp hd).1
          have := T.1
          omega
        rw [q3 16 (by decide), h16 d hd6]
        exact T.2.2 d c hd
    · rw [decide_eq_false hlt] at hbt
      obtain ⟨σ', q1, q2, q3, q4⟩ := step_ok G M T
      refine ⟨σ', b, fun F => ?_, ⟨q2, fun t ht => q3 t (by omega)⟩, q4, ⟨B.1, B.2.1, fun d c hd => ?_⟩, by rw [if_neg hlt]⟩
      · simp (disch := omega) only [gd_t, gd_T, bx_some, bx_thr, bd_def, nx_in, ↓nO_eq, l0, l1, l2, l3, l4, l5, l6, l7, l8, l30, l50, l64, l100, l200, l448, l1200, iN_add, iN_lt, iN_le, iN_inj, iN_clamp, iN_inb, iN_nO, nO_iN, nO_lt, iN_ltm, iN_lem, nO_le, iN_pred, if_pos, if_neg, ↓reduceIte, or_true, true_or, and_true, true_and, ne_eq, not_true_eq_false, not_false_eq_true, false_or, or_false, and_false, false_and, l_X3_allocateByAll_26, f_X3_trialIsAllowed, hal, bI_t, bI_f, hbt, q1]
      · rw [q3 16 (by decide)]; exact B.2.2 d c hd
