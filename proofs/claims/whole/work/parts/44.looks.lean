/-! the reference's look at one allocation -/
theorem nar_b (b : Bool) : vp_nar .boolean (bI b) = bI b := by
  cases b <;> decide
def mayA (A : Ab) (d u : Nat) : Bool := decide (rsn A u d = iN 0) && (decide (A.1 49 d 0 = nO) || decide (A.1 49 d 0 = iN u))
def homA (A : Ab) (d u : Nat) : Bool := decide (A.1 45 d 0 = iN 0) && soonS A u
def PA (A : Ab) : Pb := (nU A, mayA A, fun d => if d < nD A then (A.1 48 d 0).toNatClampNeg else 1, homA A)
theorem PA_w {A : Ab} (G : Gd A) {d : Nat} (hd : d < nD A) : A.1 48 d 0 = iN ((PA A).2.2.1 d) ∧ 1 ≤ (PA A).2.2.1 d ∧ (PA A).2.2.1 d ≤ 100 := by
  obtain ⟨w, h1, h2, h3⟩ := (G.2.2.2.2.1 d hd).2
  have e : (PA A).2.2.1 d = w := by
    show (if d < nD A then (A.1 48 d 0).toNatClampNeg else 1) = w
    rw [if_pos hd, h3, iN_clamp (by omega)]
  rw [e]
  exact ⟨h3, h1, h2⟩
theorem PA_w1 {A : Ab} (G : Gd A) (d : Nat) : 1 ≤ (PA A).2.2.1 d ∧ (PA A).2.2.1 d ≤ 100 := by
  by_cases h : d < nD A
  · exact (PA_w G h).2
  · have e : (PA A).2.2.1 d = 1 := if_neg h
    rw [e]
    decide
def chv (n c : Nat) : Int32 := if c = n then nO else iN c
/-- what the reference has noted of the best so far -/
def Acc (A : Ab) (σ : Wd) (acc : Option (List Nat)) : Prop := match acc with
  | none => σ.1 30 0 37 = nO
  | some b => b.length = nD A ∧ (∀ c, c ∈ b → c ≤ nU A) ∧ σ.1 30 0 37 = iN (lk (PA A) 0 b) ∧ σ.1 30 0 38 = iN (hm (PA A) 0 b) ∧ ∀ d c, b[d]? = some c → σ.1 56 0 d = chv (nU A) c
/-- what is tried -/
def Trd (σ : Wd) (l : List Nat) : Prop := ∀ d c, l[d]? = some c → σ.1 57 0 d = iN c
theorem lk_app (P : Pb) (m : List Nat) : ∀ (l : List Nat) (d : Nat), lk P d (l ++ m) = lk P d l + lk P (d + l.length) m
  | [], d => by
    show lk P d m = 0 + lk P (d + 0) m
    rw [Nat.zero_add, Nat.add_zero]
  | c :: l, d => by
    show (if c = P.1 then P.2.2.1 d else 0) + lk P (d + 1) (l ++ m) = (if c = P.1 then P.2.2.1 d else 0) + lk P (d + 1) l + lk P (d + (l.length + 1)) m
    rw [lk_app P m l (d + 1), ← Nat.add_assoc, show d + 1 + l.length = d + (l.length + 1) from by omega]
theorem hm_app (P : Pb) (m : List Nat) : ∀ (l : List Nat) (d : Nat), hm P d (l ++ m) = hm P d l + hm P (d + l.length) m
  | [], d => by
    show hm P d m = 0 + hm P (d + 0) m
    rw [Nat.zero_add, Nat.add_zero]
  | c :: l, d => by
    show (if ¬ c = P.1 ∧ P.2.2.2 d c = true then 1 else 0) + hm P (d + 1) (l ++ m) = (if ¬ c = P.1 ∧ P.2.2.2 d c = true then 1 else 0) + hm P (d + 1) l + hm P (d + (l.length + 1)) m
    rw [hm_app P m l (d + 1), ← Nat.add_assoc, show d + 1 + l.length = d + (l.length + 1) from by omega]
theorem copyL {A : Ab} (g6 : nU A ≤ 6) (g7 : nD A ≤ 6) {l : List Nat} (hl : l.length = nD A) (hc : ∀ c, c ∈ l → c ≤ nU A) : ∀ (n k d : Nat) (σ : Wd) (x y : Int32), nD A - d = k → k < n → d ≤ nD A → σ.1 30 0 5 = iN (nU A) → σ.1 30 0 19 = iN (nD A) → Trd σ l → ∃ σ', l_X10_looks_134 n σ (iN d) x y = some (.inl (), σ') ∧ σ'.2 = σ.2 ∧ (∀ t, t ≠ 56 → σ'.1 t = σ.1 t) ∧ ∀ e, σ'.1 56 0 e = if d ≤ e ∧ e < nD A then chv (nU A) (l.getD e 0) else σ.1 56 0 e
  | n + 1, k, d, σ, x, y, hk, hn, hd, h5, h19, ht => by
    by_cases h : d < nD A
    · have hg := List.getElem?_eq_getElem (l := l) (i := d) (by omega)
      have hcd := hc _ (List.mem_of_getElem? hg)
      have ht1 := ht d _ hg
      have hgd : l.getD d 0 = l[d] := by
        rw [List.getD_eq_getElem?_getD, hg]; rfl
      generalize l[d] = c at *
      have hdi : inb (iN d) 6 := (iN_inb (by omega)).mpr (by omega)
      have hdc : (iN d).toNatClampNeg = d := iN_clamp (by omega)
      obtain ⟨σ', q1, q2, q3, q4⟩ := copyL g6 g7 hl hc n (nD A - (d + 1)) (d + 1) (wr σ 56 0 d (chv (nU A) c)) x y rfl (by omega) (by omega) h5 h19 ht
      refine ⟨σ', ?_, q2, fun t htt => ?_, fun e => ?_⟩
      · by_cases hcn : c = nU A
        · have e1 : chv (nU A) c = nO := if_pos hcn
          rw [e1] at q1
          simp (disch := omega) only [gd_t, gd_T, bx_some, bx_thr, bd_def, nx_in, ↓nO_eq, l0, l1, l2, l3, l4, l5, l6, l7, l8, l30, l50, l64, l100, l200, l448, l1200, iN_add, iN_lt, iN_le, iN_inj, iN_clamp, iN_inb, iN_nO, nO_iN, nO_lt, iN_ltm, iN_lem, nO_le, iN_pred, if_pos, if_neg, ↓reduceIte, or_true, true_or, and_true, true_and, ne_eq, not_true_eq_false, not_false_eq_true, false_or, or_false, and_false, false_and, l_X10_looks_134, h19, h5, ht1, hcn, q1]
        · have e1 : chv (nU A) c = iN c := if_neg hcn
          rw [e1] at q1
          simp (disch := omega) only [gd_t, gd_T, bx_some, bx_thr, bd_def, nx_in, ↓nO_eq, l0, l1, l2, l3, l4, l5, l6, l7, l8, l30, l50, l64, l100, l200, l448, l1200, iN_add, iN_lt, iN_le, iN_inj, iN_clamp, iN_inb, iN_nO, nO_iN, nO_lt, iN_ltm, iN_lem, nO_le, iN_pred, if_pos, if_neg, ↓reduceIte, or_true, true_or, and_true, true_and, ne_eq, not_true_eq_false, not_false_eq_true, false_or, or_false, and_false, false_and, l_X10_looks_134, h19, h5, ht1, hcn, q1]
      · rw [q3 t htt]
        funext i z
        rw [wr_rd, if_neg (fun z => htt z.1)]
      · rw [q4]
        by_cases he : e = d
        · rw [he, if_neg (by omega), if_pos (by omega), hgd, wr_same]
        · by_cases he2 : d ≤ e ∧ e < nD A
          · rw [if_pos (by omega), if_pos he2]
          · rw [if_neg (by omega), if_neg he2, wr_rd, if_neg (fun z => he z.2.2)]
    · refine ⟨σ, ?_, rfl, fun _ _ => rfl, fun e => ?_⟩
      · simp (disch := omega) only [gd_t, gd_T, bx_some, bx_thr, bd_def, nx_in, ↓nO_eq, l0, l1, l2, l3, l4, l5, l6, l7, l8, l30, l50, l64, l100, l200, l448, l1200, iN_add, iN_lt, iN_le, iN_inj, iN_clamp, iN_inb, iN_nO, nO_iN, nO_lt, iN_ltm, iN_lem, nO_le, iN_pred, if_pos, if_neg, ↓reduceIte, or_true, true_or, and_true, true_and, ne_eq, not_true_eq_false, not_false_eq_true, false_or, or_false, and_false, false_and, l_X10_looks_134, h19]
      · rw [if_neg (by omega)]
/-- the cells that the search reads -/
def Rd (A : Ab) (σ : Wd) : Prop := RR σ A ∧ ∀ u, u < nU A → σ.1 60 0 u = bI (soonS A u) ∧ ∀ d, d < nD A → σ.1 59 0 (6 * d + u) = bI (mayA A d u)
theorem looks_step {A : Ab} {σ : Wd} (R : Rd A σ) (G : Gd A) {l : List Nat} (hl : l.length = nD A) (hc : ∀ c, c ∈ l → c ≤ nU A) (ht : Trd σ l) {d : Nat} (hd : d < nD A) (n a b : Nat) : l_X10_looks_6 (n + 1) σ (iN d) (iN a) (iN b) = l_X10_looks_6 n σ (iN (d + 1)) (iN (a + hm (PA A) d [l.getD d 0])) (iN (b + lk (PA A) d [l.getD d 0])) := by
  have g6 := G.1
  have g7 := G.2.1
  have h5 := R.1.1.1
  have h19 := R.1.1.2.1
  have hw := (PA_w G hd).1
  have d45 := (R.1.2.2.2.1 d hd).2.1
  have d48 := (R.1.2.2.2.1 d hd).2.2.2.2.1
  obtain ⟨z, hz, hz2⟩ := (G.2.2.2.2.1 d hd).1
  have hg := List.getElem?_eq_getElem (l := l) (i := d) (by omega)
  have hcd := hc _ (List.mem_of_getElem? hg)
  have ht1 := ht d _ hg
  have hgd : l.getD d 0 = l[d] := by
    rw [List.getD_eq_getElem?_getD, hg]; rfl
  rw [hgd]
  generalize l[d] = c at *
  have e1 : hm (PA A) d [c] = if ¬ c = nU A ∧ homA A d c = true then 1 else 0 := Nat.add_zero _
  have e2 : lk (PA A) d [c] = if c = nU A then (PA A).2.2.1 d else 0 := Nat.add_zero _
  rw [e1, e2]
  by_cases hcn : c = nU A
  · rw [if_neg (fun q => q.1 hcn), if_pos hcn]
    simp (disch := omega) only [gd_t, gd_T, bx_some, bx_thr, bd_def, nx_in, ↓nO_eq, l0, l1, l2, l3, l4, l5, l6, l7, l8, l30, l50, l64, l100, l200, l448, l1200, iN_add, iN_lt, iN_le, iN_inj, iN_clamp, iN_inb, iN_nO, nO_iN, nO_lt, iN_ltm, iN_lem, nO_le, iN_pred, if_pos, if_neg, ↓reduceIte, or_true, true_or, and_true, true_and, ne_eq, not_true_eq_false, not_false_eq_true, false_or, or_false, and_false, false_and, l_X10_looks_6, h19, h5, ht1, hcn, j_X10_looks_38, d48, hw]
  · rw [if_neg hcn]
    have h60 := (R.2 c (by omega)).1
    unfold homA
    rw [hz2]
    by_cases hz0 : z = 0
    · subst hz0
      generalize soonS A c = s at *
      cases s
      · rw [if_neg (fun q => by have := q.2; simp at this)]
        simp (disch := omega) only [gd_t, gd_T, bx_some, bx_thr, bd_def, nx_in, ↓nO_eq, l0, l1, l2, l3, l4, l5, l6, l7, l8, l30, l50, l64, l100, l200, l448, l1200, iN_add, iN_lt, iN_le, iN_inj, iN_clamp, iN_inb, iN_nO, nO_iN, nO_lt, iN_ltm, iN_lem, nO_le, iN_pred, if_pos, if_neg, ↓reduceIte, or_true, true_or, and_true, true_and, ne_eq, not_true_eq_false, not_false_eq_true, false_or, or_false, and_false, false_and, l_X10_looks_6, h19, h5, ht1, hcn, j_X10_looks_38, d45, hz2, h60, bI_f]
      · rw [if_pos ⟨hcn, by decide⟩]
        simp (disch := omega) only [gd_t, gd_T, bx_some, bx_thr, bd_def, nx_in, ↓nO_eq, l0, l1, l2, l3, l4, l5, l6, l7, l8, l30, l50, l64, l100, l200, l448, l1200, iN_add, iN_lt, iN_le, iN_inj, iN_clamp, iN_inb, iN_nO, nO_iN, nO_lt, iN_ltm, iN_lem, nO_le, iN_pred, if_pos, if_neg, ↓reduceIte, or_true, true_or, and_true, true_and, ne_eq, not_true_eq_false, not_false_eq_true, false_or, or_false, and_false, false_and, l_X10_looks_6, h19, h5, ht1, hcn, j_X10_looks_38, d45, hz2, h60, bI_t]
    · have hz1 : ¬ iN z = iN 0 := by rw [iN_inj (by omega) (by decide)]; exact hz0
      rw [if_neg (fun q => by have := q.2; simp [hz1] at this)]
      simp (disch := omega) only [gd_t, gd_T, bx_some, bx_thr, bd_def, nx_in, ↓nO_eq, l0, l1, l2, l3, l4, l5, l6, l7, l8, l30, l50, l64, l100, l200, l448, l1200, iN_add, iN_lt, iN_le, iN_inj, iN_clamp, iN_inb, iN_nO, nO_iN, nO_lt, iN_ltm, iN_lem, nO_le, iN_pred, if_pos, if_neg, ↓reduceIte, or_true, true_or, and_true, true_and, ne_eq, not_true_eq_false, not_false_eq_true, false_or, or_false, and_false, false_and, l_X10_looks_6, h19, h5, ht1, hcn, j_X10_looks_38, d45, hz2, hz0]
theorem looks_sum {A : Ab} {σ : Wd} (R : Rd A σ) (G : Gd A) {l : List Nat} (hl : l.length = nD A) (hc : ∀ c, c ∈ l → c ≤ nU A) (ht : Trd σ l) : ∀ (k d n : Nat), nD A - d = k → d ≤ nD A → l_X10_looks_6 (n + k) σ (iN d) (iN (hm (PA A) 0 (l.take d))) (iN (lk (PA A) 0 (l.take d))) = l_X10_looks_6 n σ (iN (nD A)) (iN (hm (PA A) 0 l)) (iN (lk (PA A) 0 l))
  | 0, d, n, hk, hd => by
    have : d = nD A := by omega
    subst this
    rw [← hl, List.take_length]
    rfl
  | k + 1, d, n, hk, hd => by
    have ih := looks_sum R G hl hc ht k (d + 1) n (by omega) (by omega)
    rw [← Nat.add_assoc, looks_step R G hl hc ht (by omega) (n + k)]
    have hg := List.getElem?_eq_getElem (l := l) (i := d) (by omega)
    have hgd : l.getD d 0 = l[d] := by
      rw [List.getD_eq_getElem?_getD, hg]; rfl
    have htk : l.take (d + 1) = l.take d ++ [l.getD d 0] := by
      rw [hgd, List.take_succ_eq_append_getElem]
    rw [htk, hm_app, lk_app, Nat.zero_add, List.length_take, Nat.min_eq_left (by omega)] at ih
    exact ih
theorem looks_ok {A : Ab} {σ : Wd} (R : Rd A σ) (G : Gd A) {l : List Nat} (hl : l.length = nD A) (hc : ∀ c, c ∈ l → c ≤ nU A) (ht : Trd σ l) {acc : Option (List Nat)} (ha : Acc A σ acc) : ∃ σ', f_X10_looks σ = some (.inl (), σ') ∧ σ'.2 = σ.2 ∧ (∀ t, t ≠ 56 → t ≠ 30 → σ'.1 t = σ.1 t) ∧ (∀ k, k ≠ 37 → k ≠ 38 → σ'.1 30 0 k = σ.1 30 0 k) ∧ Acc A σ' (stp (cst (PA A) 0) acc l) := by
  have g6 := G.1
  have g7 := G.2.1
  have h5 := R.1.1.1
  have h19 := R.1.1.2.1
  have hlk := lk_le (PA A) (fun d _ => (PA_w1 G d).2) l 0 (by omega)
  have hhm := hm_le (PA A) l 0
  have hsum := looks_sum R G hl hc ht (nD A) 0
  have hmm : ∃ m, FU = m + 1 + nD A := by
    obtain ⟨m, hm⟩ := FU_ge (1 + nD A) (by omega)
    exact ⟨m, by omega⟩
  obtain ⟨m, hm0⟩ := hmm
  have head : f_X10_looks σ = l_X10_looks_6 (m + 1) σ (iN (nD A)) (iN (hm (PA A) 0 l)) (iN (lk (PA A) 0 l)) := by
    have := hsum (m + 1) rfl (Nat.zero_le _)
    unfold f_X10_looks
    rw [hm0]
    exact this
  -- the note of it
  have upd : ∃ σ', j_X10_looks_122 σ (iN (nD A)) (iN (hm (PA A) 0 l)) (iN (lk (PA A) 0 l)) = some (.inl (), σ') ∧ σ'.2 = σ.2 ∧ (∀ t, t ≠ 56 → t ≠ 30 → σ'.1 t = σ.1 t) ∧ (∀ k, k ≠ 37 → k ≠ 38 → σ'.1 30 0 k = σ.1 30 0 k) ∧ Acc A σ' (some l) := by
    obtain ⟨σ', q1, q2, q3, q4⟩ := copyL g6 g7 hl hc FU (nD A) 0 (wr (wr σ 30 0 37 (iN (lk (PA A) 0 l))) 30 0 38 (iN (hm (PA A) 0 l))) (iN (hm (PA A) 0 l)) (iN (lk (PA A) 0 l)) rfl (by unfold FU; omega) (Nat.zero_le _) h5 h19 ht
    refine ⟨σ', ?_, q2, fun t h1 h2 => ?_, fun k h1 h2 => ?_, hl, hc, ?_, ?_, fun d c hd => ?_⟩
    · unfold j_X10_looks_122
      rw [bd_def, bd_def]
      exact q1
    · rw [q3 t h1]
      funext i z
      rw [wr_rd, if_neg (fun q => h2 q.1), wr_rd, if_neg (fun q => h2 q.1)]
    · rw [q3 30 (by decide), wr_rd, if_neg (fun q => h2 q.2.2), wr_rd, if_neg (fun q => h1 q.2.2)]
    · rw [q3 30 (by decide)]; rfl
    · rw [q3 30 (by decide)]; rfl
    · have hdl := (List.getElem?_eq_some_iff.mp hd).1
      rw [q4, if_pos (by omega), List.getD_eq_getElem?_getD, hd]
      rfl
  rw [head]
  have e0 : l_X10_looks_6 (m + 1) σ (iN (nD A)) (iN (hm (PA A) 0 l)) (iN (lk (PA A) 0 l)) = if (σ.1 30 0 37) = nO then j_X10_looks_122 σ (iN (nD A)) (iN (hm (PA A) 0 l)) (iN (lk (PA A) 0 l)) else if iN (lk (PA A) 0 l) < (σ.1 30 0 37) then j_X10_looks_122 σ (iN (nD A)) (iN (hm (PA A) 0 l)) (iN (lk (PA A) 0 l)) else if iN (lk (PA A) 0 l) = (σ.1 30 0 37) then (if iN (hm (PA A) 0 l) ≤ (σ.1 30 0 38) then some (.inl (), σ) else j_X10_looks_122 σ (iN (nD A)) (iN (hm (PA A) 0 l)) (iN (lk (PA A) 0 l))) else some (.inl (), σ) := by
    have : l_X10_looks_6 (m + 1) σ (iN (nD A)) (iN (hm (PA A) 0 l)) (iN (lk (PA A) 0 l)) = if (σ.1 30 0 19) ≤ iN (nD A) then (if (σ.1 30 0 37) = nO then j_X10_looks_122 σ (iN (nD A)) (iN (hm (PA A) 0 l)) (iN (lk (PA A) 0 l)) else if iN (lk (PA A) 0 l) < (σ.1 30 0 37) then j_X10_looks_122 σ (iN (nD A)) (iN (hm (PA A) 0 l)) (iN (lk (PA A) 0 l)) else if iN (lk (PA A) 0 l) = (σ.1 30 0 37) then (if iN (hm (PA A) 0 l) ≤ (σ.1 30 0 38) then some (.inl (), σ) else j_X10_looks_122 σ (iN (nD A)) (iN (hm (PA A) 0 l)) (iN (lk (PA A) 0 l))) else some (.inl (), σ)) else _ := rfl
    rw [this, if_pos (by rw [h19]; exact Int32.le_refl _)]
  rw [e0]
  match acc, ha with
  | none, ha =>
    have ha : σ.1 30 0 37 = nO := ha
    rw [if_pos ha]
    exact upd
  | some b, ha =>
    obtain ⟨b1, b2, b3, b4, b5⟩ := ha
    have hlkb := lk_le (PA A) (fun d _ => (PA_w1 G d).2) b 0 (by omega)
    have hhmb := hm_le (PA A) b 0
    have hlt := cst_lt (P := PA A) (a := l) (b := b) (d := 0) (by omega) (by omega)
    have hst : stp (cst (PA A) 0) (some b) l = if cst (PA A) 0 l < cst (PA A) 0 b then some l else some b := rfl
    rw [hst, b3, b4, if_neg (by rw [iN_nO (by omega)]; exact id)]
    by_cases c1 : lk (PA A) 0 l < lk (PA A) 0 b
    · rw [if_pos ((iN_lt (by omega) (by omega)).mpr c1), if_pos (hlt.mpr (Or.inl c1))]
      exact upd
    · rw [if_neg (by rw [iN_lt (by omega) (by omega)]; exact c1)]
      by_cases c2 : lk (PA A) 0 l = lk (PA A) 0 b
      · rw [if_pos (by rw [c2])]
        by_cases c3 : hm (PA A) 0 l ≤ hm (PA A) 0 b
        · rw [if_pos ((iN_le (by omega) (by omega)).mpr c3), if_neg (by rw [hlt]; omega)]
          exact ⟨σ, rfl, rfl, fun _ _ _ => rfl, fun _ _ _ => rfl, b1, b2, b3, b4, b5⟩
        · rw [if_neg (by rw [iN_le (by omega) (by omega)]; exact c3), if_pos (hlt.mpr (Or.inr ⟨c2, by omega⟩))]
          exact upd
      · rw [if_neg (by rw [iN_inj (by omega) (by omega)]; exact c2), if_neg (by rw [hlt]; omega)]
        exact ⟨σ, rfl, rfl, fun _ _ _ => rfl, fun _ _ _ => rfl, b1, b2, b3, b4, b5⟩
