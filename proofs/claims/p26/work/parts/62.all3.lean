def rep0 (k : Nat) : List Nat := List.replicate k 0
/-- all trials behind a beginning -/
def AllP (A : Ab) (k : Nat) : Prop := ∀ (p : List Nat) (σ : Wd) (b : List Nat) (i N : Nat), p.length + k = nD A → Mrn A σ → Tri A σ (p ++ rep0 k) → GivL A σ b → i + (nU A + 1) ^ k ≤ N → N < 1000000 → ∃ σ' b', (∀ F, l_X3_allocateByAll_26 (F + (nU A + 1) ^ k) σ (iN i) (iN N) = l_X3_allocateByAll_26 F σ' (iN (i + (nU A + 1) ^ k)) (iN N)) ∧ F18 σ σ' ∧ Tri A σ' (bup (nU A) p ++ rep0 k) ∧ GivL A σ' b' ∧ ((Al (nU A) k).map (fun l => p ++ l)).foldl (upa A) (some b) = some b'
theorem rep0_s (k : Nat) : rep0 (k + 1) = 0 :: rep0 k := rfl
theorem all_in {A : Ab} (G : Gd A) {k : Nat} (ih : AllP A k) {p : List Nat} (hp : p.length + (k + 1) = nD A) : ∀ (j c : Nat) (σ : Wd) (b : List Nat) (i N : Nat), c + j = nU A → Mrn A σ → Tri A σ ((p ++ [c]) ++ rep0 k) → GivL A σ b → i + (j + 1) * (nU A + 1) ^ k ≤ N → N < 1000000 → ∃ σ' b', (∀ F, l_X3_allocateByAll_26 (F + (j + 1) * (nU A + 1) ^ k) σ (iN i) (iN N) = l_X3_allocateByAll_26 F σ' (iN (i + (j + 1) * (nU A + 1) ^ k)) (iN N)) ∧ F18 σ σ' ∧ Tri A σ' (bup (nU A) p ++ rep0 (k + 1)) ∧ GivL A σ' b' ∧ ((blk (fun _ => true) (fun _ => Al (nU A) k) c j ++ (Al (nU A) k).map (fun l => nU A :: l)).map (fun l => p ++ l)).foldl (upa A) (some b) = some b'
  | 0, c, σ, b, i, N, hc, M, T, B, hi, hN => by
    have hcu : c = nU A := by omega
    subst hcu
    rw [Nat.zero_add, Nat.one_mul] at hi
    obtain ⟨σ', b', q1, q2, q3, q4, q5⟩ := ih (p ++ [nU A]) σ b i N (by simp; omega) M T B hi hN
    refine ⟨σ', b', fun F => ?_, q2, ?_, q4, ?_⟩
    · rw [Nat.zero_add, Nat.one_mul]; exact q1 F
    · rw [bu_end, if_pos rfl, List.append_assoc] at q3
      exact q3
    · rw [show blk (fun _ => true) (fun _ => Al (nU A) k) (nU A) 0 = [] from rfl, List.nil_append, List.map_map]
      rw [← q5]
      congr 1
      refine List.map_congr_left (fun l _ => ?_)
      simp
  | j + 1, c, σ, b, i, N, hc, M, T, B, hi, hN => by
    have he : (j + 1 + 1) * (nU A + 1) ^ k = (nU A + 1) ^ k + (j + 1) * (nU A + 1) ^ k := by rw [Nat.add_mul (j + 1) 1, Nat.one_mul, Nat.add_comm]
    rw [he] at hi ⊢
    obtain ⟨σ1, b1, q1, q2, q3, q4, q5⟩ := ih (p ++ [c]) σ b i N (by simp; omega) M T B (by omega) hN
    rw [bu_end, if_neg (by omega)] at q3
    obtain ⟨σ2, b2, z1, z2, z3, z4, z5⟩ := all_in G ih hp j (c + 1) σ1 b1 (i + (nU A + 1) ^ k) N (by omega) (M.f18 q2) q3 q4 (by omega) hN
    refine ⟨σ2, b2, fun F => ?_, q2.tr z2, z3, z4, ?_⟩
    · rw [show F + ((nU A + 1) ^ k + (j + 1) * (nU A + 1) ^ k) = (F + (j + 1) * (nU A + 1) ^ k) + (nU A + 1) ^ k from by omega, q1, z1, Nat.add_assoc i]
    · have hb : blk (fun _ => true) (fun _ => Al (nU A) k) c (j + 1) = (Al (nU A) k).map (fun l => c :: l) ++ blk (fun _ => true) (fun _ => Al (nU A) k) (c + 1) j := by
        show (if (true : Bool) then (Al (nU A) k).map (fun l => c :: l) else []) ++ blk (fun _ => true) (fun _ => Al (nU A) k) (c + 1) j = _
        rw [if_pos rfl]
      rw [hb, List.append_assoc, List.map_append, List.foldl_append]
      have e : ((Al (nU A) k).map (fun l => c :: l)).map (fun l => p ++ l) = (Al (nU A) k).map (fun l => (p ++ [c]) ++ l) := by
        rw [List.map_map]
        refine List.map_congr_left (fun l _ => ?_)
        simp
      rw [e, q5]
      exact z5
theorem all_P {A : Ab} (G : Gd A) : ∀ k, AllP A k
  | 0 => fun p σ b i N hp M T B hi hN => by
    rw [Nat.pow_zero] at hi ⊢
    have T' : Tri A σ p := by
      rw [show rep0 0 = [] from rfl, List.append_nil] at T
      exact T
    obtain ⟨σ', b', q1, q2, q3, q4, q5⟩ := one_trial G M T' B i N (by omega) hN
    refine ⟨σ', b', q1, q2, ?_, q4, ?_⟩
    · rw [show rep0 0 = [] from rfl, List.append_nil]
      exact q3
    · show upa A (some b) (p ++ []) = some b'
      rw [List.append_nil]
      exact q5
  | k + 1 => fun p σ b i N hp M T B hi hN => by
    rw [rep0_s] at T
    have hm : (nU A + 1) ^ (k + 1) = (nU A + 1) * (nU A + 1) ^ k := by rw [Nat.pow_succ, Nat.mul_comm]
    rw [hm] at hi ⊢
    exact all_in G (all_P G k) hp (nU A) 0 σ b i N (by omega) M (by rw [List.append_assoc]; exact T) B hi hN
theorem many_L {A : Ab} {σ : Wd} (M : Mrn A σ) (G : Gd A) : ∀ (k d n : Nat), nD A - d = k → k < n → d ≤ nD A → l_X3_howManyTrials_4 n σ (iN d) (iN ((nU A + 1) ^ d)) = some (.inl (iN ((nU A + 1) ^ nD A)), σ)
  | 0, d, n, hk, hn, hd => by
    obtain ⟨m, rfl⟩ : ∃ m, n = m + 1 := ⟨n - 1, by omega⟩
    have g7 := G.2.1
    have hdq : d = nD A := by omega
    subst hdq
    have h7 := M.2.1
    simp (disch := omega) only [gd_t, gd_T, bx_some, bx_thr, bd_def, nx_in, ↓nO_eq, l0, l1, l2, l3, l4, l5, l6, l7, l8, l30, l50, l64, l100, l200, l448, l1200, iN_add, iN_lt, iN_le, iN_inj, iN_clamp, iN_inb, iN_nO, nO_iN, nO_lt, iN_ltm, iN_lem, nO_le, iN_pred, if_pos, if_neg, ↓reduceIte, or_true, true_or, and_true, true_and, ne_eq, not_true_eq_false, not_false_eq_true, false_or, or_false, and_false, false_and, l_X3_howManyTrials_4, h7]
  | k + 1, d, n, hk, hn, hd => by
    obtain ⟨m, rfl⟩ : ∃ m, n = m + 1 := ⟨n - 1, by omega⟩
    have g7 := G.2.1
    have h7 := M.2.1
    have h6 := M.1
    have ih := many_L M G k (d + 1) m (by omega) (by omega) (by omega)
    rw [← ih, Nat.pow_succ]
    simp (disch := omega) only [gd_t, gd_T, bx_some, bx_thr, bd_def, nx_in, ↓nO_eq, l0, l1, l2, l3, l4, l5, l6, l7, l8, l30, l50, l64, l100, l200, l448, l1200, iN_add, iN_lt, iN_le, iN_inj, iN_clamp, iN_inb, iN_nO, nO_iN, nO_lt, iN_ltm, iN_lem, nO_le, iN_pred, if_pos, if_neg, ↓reduceIte, or_true, true_or, and_true, true_and, ne_eq, not_true_eq_false, not_false_eq_true, false_or, or_false, and_false, false_and, l_X3_howManyTrials_4, h7, h6, iN_mul]
def fil17 (σ : Wd) (v : Int32) : Wd := wr (wr (wr (wr (wr (wr σ 17 0 0 v) 17 0 1 v) 17 0 2 v) 17 0 3 v) 17 0 4 v) 17 0 5 v
def fil16 (σ : Wd) (v : Int32) : Wd := wr (wr (wr (wr (wr (wr σ 16 0 0 v) 16 0 1 v) 16 0 2 v) 16 0 3 v) 16 0 4 v) 16 0 5 v
theorem k_fil17 {σ : Wd} (v : Int32) : f_J7_fill_53178_17 σ v = some (.inl (), fil17 σ v) := by
  obtain ⟨m, hm⟩ := FU_ge 7 (by decide)
  unfold f_J7_fill_53178_17 fil17
  rw [hm]
  simp (disch := omega) only [gd_t, gd_T, bx_some, bx_thr, bd_def, nx_in, ↓nO_eq, l0, l1, l2, l3, l4, l5, l6, l7, l8, l30, l50, l64, l100, l200, l448, l1200, iN_add, iN_lt, iN_le, iN_inj, iN_clamp, iN_inb, iN_nO, nO_iN, nO_lt, iN_ltm, iN_lem, nO_le, iN_pred, if_pos, if_neg, ↓reduceIte, or_true, true_or, and_true, true_and, ne_eq, not_true_eq_false, not_false_eq_true, false_or, or_false, and_false, false_and, l_J7_fill_53178_17_5]
theorem k_fil16 {σ : Wd} (v : Int32) : f_J7_fill_53178_16 σ v = some (.inl (), fil16 σ v) := by
  obtain ⟨m, hm⟩ := FU_ge 7 (by decide)
  unfold f_J7_fill_53178_16 fil16
  rw [hm]
  simp (disch := omega) only [gd_t, gd_T, bx_some, bx_thr, bd_def, nx_in, ↓nO_eq, l0, l1, l2, l3, l4, l5, l6, l7, l8, l30, l50, l64, l100, l200, l448, l1200, iN_add, iN_lt, iN_le, iN_inj, iN_clamp, iN_inb, iN_nO, nO_iN, nO_lt, iN_ltm, iN_lem, nO_le, iN_pred, if_pos, if_neg, ↓reduceIte, or_true, true_or, and_true, true_and, ne_eq, not_true_eq_false, not_false_eq_true, false_or, or_false, and_false, false_and, l_J7_fill_53178_16_5]
theorem fil17_rd (σ : Wd) (v : Int32) (t i k : Nat) : (fil17 σ v).1 t i k = if t = 17 ∧ i = 0 ∧ k < 6 then v else σ.1 t i k := by
  unfold fil17
  simp only [wr_rd]
  repeat' split
  all_goals first | rfl | omega
theorem fil16_rd (σ : Wd) (v : Int32) (t i k : Nat) : (fil16 σ v).1 t i k = if t = 16 ∧ i = 0 ∧ k < 6 then v else σ.1 t i k := by
  unfold fil16
  simp only [wr_rd]
  repeat' split
  all_goals first | rfl | omega
theorem all_ok {A : Ab} {σ : Wd} (G : Gd A) (M : Mrn A σ) (h4 : nD A ≤ 4) : ∃ σ', f_X3_allocateByAll σ = some (.inl (), σ') ∧ F18 σ σ' ∧ Giv A σ' := by
  have g6 := G.1
  have g7 := G.2.1
  have hpow : (nU A + 1) ^ nD A ≤ 7 ^ 4 := Nat.le_trans (Nat.pow_le_pow_left (by omega) _) (Nat.pow_le_pow_right (by decide) h4)
  have h74 : (7 : Nat) ^ 4 = 2401 := by decide
  have hF : F18 σ (fil16 (fil17 σ (chv (nU A) 0)) nO) := ⟨rfl, fun t ht => by
    funext i k
    rw [fil16_rd, if_neg (by omega), fil17_rd, if_neg (by omega)]⟩
  have M1 := M.f18 hF
  have T1 : Tri A (fil16 (fil17 σ (chv (nU A) 0)) nO) ([] ++ rep0 (nD A)) := by
    refine ⟨by simp [rep0], fun c hc => ?_, fun d c hd => ?_⟩
    · have : c = 0 := by simp [rep0] at hc; exact hc.2
      omega
    · have hdl := (List.getElem?_eq_some_iff.mp hd).1
      simp [rep0] at hdl
      have hc0 : c = 0 := by
        have := List.mem_of_getElem? hd
        simp [rep0] at this
        exact this.2
      rw [fil16_rd, if_neg (by omega), fil17_rd, if_pos ⟨rfl, rfl, by omega⟩, hc0]
  have B1 : GivL A (fil16 (fil17 σ (chv (nU A) 0)) nO) (List.replicate (nD A) (nU A)) := by
    refine ⟨by simp, fun c hc => ?_, fun d c hd => ?_⟩
    · have : c = nU A := by simp at hc; exact hc.2
      omega
    · have hdl := (List.getElem?_eq_some_iff.mp hd).1
      simp at hdl
      have hc0 : c = nU A := by
        have := List.mem_of_getElem? hd
        simp at this
        exact this.2
      rw [fil16_rd, if_pos ⟨rfl, rfl, by omega⟩, hc0]
      exact (if_pos rfl).symm
  obtain ⟨σ', b', q1, q2, q3, q4, q5⟩ := all_P G (nD A) [] _ _ 0 ((nU A + 1) ^ nD A) (by simp) M1 T1 B1 (by omega) (by omega)
  have hbest := (best_all (PA A) (fun d => (PA_w1 G d).1) (nD A) (fr0 A)).2
  have hmap : (Al (nU A) (nD A)).map (fun l => [] ++ l) = Al (nU A) (nD A) := by
    have : (fun l : List Nat => [] ++ l) = id := by funext l; rfl
    rw [this, List.map_id]
  rw [hmap] at q5
  have hbb : b' = bestA A := by
    have e : (Al (nU A) (nD A)).foldl (upa A) (some (List.replicate (nD A) (nU A))) = some (bestA A) := hbest
    rw [e] at q5
    cases q5
    rfl
  subst hbb
  refine ⟨σ', ?_, hF.tr q2, q4.2.2⟩
  have hm := many_L M1 G (nD A) 0 FU rfl (by unfold FU; omega) (Nat.zero_le _)
  rw [Nat.pow_zero] at hm
  obtain ⟨m, hmm⟩ := FU_ge (1 + (nU A + 1) ^ nD A) (by omega)
  have hend : l_X3_allocateByAll_26 FU (fil16 (fil17 σ (chv (nU A) 0)) nO) (iN 0) (iN ((nU A + 1) ^ nD A)) = some (.inl (), σ') := by
    have h1 := q1 (m + 1)
    rw [hmm, show m + (1 + (nU A + 1) ^ nD A) = (m + 1) + (nU A + 1) ^ nD A from by omega]
    refine h1.trans ?_
    rw [Nat.zero_add]
    simp (disch := omega) only [gd_t, gd_T, bx_some, bx_thr, bd_def, nx_in, ↓nO_eq, l0, l1, l2, l3, l4, l5, l6, l7, l8, l30, l50, l64, l100, l200, l448, l1200, iN_add, iN_lt, iN_le, iN_inj, iN_clamp, iN_inb, iN_nO, nO_iN, nO_lt, iN_ltm, iN_lem, nO_le, iN_pred, if_pos, if_neg, ↓reduceIte, or_true, true_or, and_true, true_and, ne_eq, not_true_eq_false, not_false_eq_true, false_or, or_false, and_false, false_and, l_X3_allocateByAll_26]
  simp (disch := omega) only [gd_t, gd_T, bx_some, bx_thr, bd_def, nx_in, ↓nO_eq, l0, l1, l2, l3, l4, l5, l6, l7, l8, l30, l50, l64, l100, l200, l448, l1200, iN_add, iN_lt, iN_le, iN_inj, iN_clamp, iN_inb, iN_nO, nO_iN, nO_lt, iN_ltm, iN_lem, nO_le, iN_pred, if_pos, if_neg, ↓reduceIte, or_true, true_or, and_true, true_and, ne_eq, not_true_eq_false, not_false_eq_true, false_or, or_false, and_false, false_and, f_X3_allocateByAll, first_ok M g6, k_fil17, k_fil16, f_X3_howManyTrials, hm, hend]
