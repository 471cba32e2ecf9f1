/-! the reference's search -/
def Fq (σ σ' : Wd) : Prop := σ'.2 = σ.2 ∧ (∀ t, t ≠ 30 → ¬ (56 ≤ t ∧ t ≤ 58) → σ'.1 t = σ.1 t) ∧ ∀ k, k ≠ 37 → k ≠ 38 → σ'.1 30 0 k = σ.1 30 0 k
theorem Fq.rf (σ : Wd) : Fq σ σ := ⟨rfl, fun _ _ _ => rfl, fun _ _ _ => rfl⟩
theorem Fq.tr {a b c : Wd} (h : Fq a b) (h2 : Fq b c) : Fq a c := ⟨h2.1.trans h.1, fun t x y => (h2.2.1 t x y).trans (h.2.1 t x y), fun k x y => (h2.2.2 k x y).trans (h.2.2 k x y)⟩
theorem Fq.wr {σ τ : Wd} (h : Fq σ τ) {t i k : Nat} {v : Int32} (ht : 56 ≤ t ∧ t ≤ 58) : Fq σ (wr τ t i k v) := by
  refine ⟨h.1, fun t' x y => ?_, fun k' x y => ?_⟩
  · rw [← h.2.1 t' x y]
    funext i' k'
    rw [wr_rd, if_neg (by omega)]
  · rw [wr_rd, if_neg (by omega)]
    exact h.2.2 k' x y
theorem RR.fr2 {σ τ : Wd} {A : Ab} (h : RR σ A) (hF : Fq σ τ) : RR τ A := by
  obtain ⟨⟨l1, l2, l3, l4, l5, l6⟩, F, U, D, E, R1, L, Z⟩ := h
  obtain ⟨f1, f2, f3⟩ := hF
  refine ⟨⟨?_, ?_, ?_, ?_, ?_, ?_⟩, RRf.fr F (fun t a b => f2 t (by omega) (by omega)), RRu.fr U (fun t a b => f2 t (by omega) (by omega)), RRd.fr D (fun t a b => f2 t (by omega) (by omega)), RRe.fr E (fun t a b => f2 t (by omega) (by omega)), RRr.fr R1 (f2 _ (by decide) (by decide)) (f2 _ (by decide) (by decide)), RRg.fr L (f2 _ (by decide) (by decide)), RRz.fr Z (f2 _ (by decide) (by decide)) (f2 _ (by decide) (by decide)) (f2 _ (by decide) (by decide))⟩
  · rw [f3 5 (by decide) (by decide)]; exact l1
  · rw [f3 19 (by decide) (by decide)]; exact l2
  · rw [f3 1 (by decide) (by decide)]; exact l3
  · rw [f3 2 (by decide) (by decide)]; exact l4
  · rw [f3 3 (by decide) (by decide)]; exact l5
  · rw [f3 4 (by decide) (by decide)]; exact l6
theorem Rd.fr2 {σ τ : Wd} {A : Ab} (h : Rd A σ) (hF : Fq σ τ) : Rd A τ := by
  refine ⟨h.1.fr2 hF, fun u hu => ?_⟩
  rw [hF.2.1 60 (by decide) (by decide), hF.2.1 59 (by decide) (by decide)]
  exact h.2 u hu
theorem Acc.fr {σ τ : Wd} {A : Ab} {acc : Option (List Nat)} (h : Acc A σ acc) (h1 : τ.1 30 = σ.1 30) (h2 : τ.1 56 = σ.1 56) : Acc A τ acc := by
  unfold Acc at h ⊢
  rw [h1, h2]
  exact h
def St (A : Ab) (σ : Wd) (p : List Nat) (fr : Nat → Bool) (acc : Option (List Nat)) : Prop := Rd A σ ∧ Trd σ p ∧ (∀ c, c ∈ p → c ≤ nU A) ∧ (∀ u, u < nU A → σ.1 58 0 u = bI (!fr u)) ∧ Acc A σ acc
def Go (t : Nat) (a b : Nat → Option ((Unit ⊕ String) × Wd)) : Prop := ∀ F, a (F + t) = b F
theorem Go.tr {t1 t2 : Nat} {a b c : Nat → Option ((Unit ⊕ String) × Wd)} (h1 : Go t1 a b) (h2 : Go t2 b c) : Go (t1 + t2) a c := fun F => by
  have e : F + (t1 + t2) = (F + t2) + t1 := by omega
  rw [e, h1, h2]
abbrev L136 (σ : Wd) (a : Int32) : Nat → Option ((Unit ⊕ String) × Wd) := fun F => l_X10_decides_136 F σ a
section
variable {A : Ab} {σ : Wd} (R : RR σ A) (g6 : nU A ≤ 6) (g7 : nD A ≤ 6)
theorem dE1 (R : RR σ A) (g6 : nU A ≤ 6) {d c : Nat} (hd : d < 6) (hc : c < nU A) (ht : σ.1 57 0 d = iN c) (F : Nat) : l_X10_decides_136 (F + 1) σ (iN d) = l_X10_decides_182 (l_X10_decides_136 F) FU (wr (wr σ 58 0 c (iN 0)) 57 0 d (iN (c + 1))) (iN d) := by
  have h5 := R.1.1
  have hb := b_in (σ := σ) hc (by omega : nU A < 2147483648)
  have e57 : (wr σ 58 0 c (iN 0)).1 57 0 d = iN c := by rw [wr_rd, if_neg (by omega)]; exact ht
  have hn : vp_nar .boolean (iN 0) = iN 0 := nar_b false
  simp (disch := omega) only [gd_t, gd_T, bx_some, bx_thr, bd_def, nx_in, ↓nO_eq, l0, l1, l2, l3, l4, l5, l6, l7, l8, l30, l50, l64, l100, l200, l448, l1200, iN_add, iN_lt, iN_le, iN_inj, iN_clamp, iN_inb, iN_nO, nO_iN, nO_lt, iN_ltm, iN_lem, nO_le, iN_pred, if_pos, if_neg, ↓reduceIte, or_true, true_or, and_true, true_and, ne_eq, not_true_eq_false, not_false_eq_true, false_or, or_false, and_false, false_and, l_X10_decides_136, ht, h5, hb, hn, j_X10_decides_172, e57]
theorem dE2 (R : RR σ A) (g6 : nU A ≤ 6) {d : Nat} (hd : d < 6) (ht : σ.1 57 0 d = nO) (F : Nat) : l_X10_decides_136 (F + 1) σ (iN d) = l_X10_decides_182 (l_X10_decides_136 F) FU (wr σ 57 0 d (iN 0)) (iN d) := by
  have h5 := R.1.1
  have hb : f_X10_between σ nO (iN 0) (iN (nU A) - iN 1) = some (.inl (iN 0), σ) := b_out (by omega) (Or.inl (by decide))
  have h1 : nO + iN 1 = iN 0 := by decide
  simp (disch := omega) only [gd_t, gd_T, bx_some, bx_thr, bd_def, nx_in, ↓nO_eq, l0, l1, l2, l3, l4, l5, l6, l7, l8, l30, l50, l64, l100, l200, l448, l1200, iN_add, iN_lt, iN_le, iN_inj, iN_clamp, iN_inb, iN_nO, nO_iN, nO_lt, iN_ltm, iN_lem, nO_le, iN_pred, if_pos, if_neg, ↓reduceIte, or_true, true_or, and_true, true_and, ne_eq, not_true_eq_false, not_false_eq_true, false_or, or_false, and_false, false_and, l_X10_decides_136, ht, h5, hb, j_X10_decides_172, h1]
theorem dE3 (R : RR σ A) (g6 : nU A ≤ 6) {d : Nat} (hd : d < 6) (ht : σ.1 57 0 d = iN (nU A)) (F : Nat) : l_X10_decides_136 (F + 1) σ (iN d) = l_X10_decides_182 (l_X10_decides_136 F) FU (wr σ 57 0 d (iN (nU A + 1))) (iN d) := by
  have h5 := R.1.1
  have hb : f_X10_between σ (iN (nU A)) (iN 0) (iN (nU A) - iN 1) = some (.inl (iN 0), σ) := b_out (by omega) (Or.inr ⟨by rw [iN_lt (by omega) (by decide)]; omega, Int32.le_refl _⟩)
  simp (disch := omega) only [gd_t, gd_T, bx_some, bx_thr, bd_def, nx_in, ↓nO_eq, l0, l1, l2, l3, l4, l5, l6, l7, l8, l30, l50, l64, l100, l200, l448, l1200, iN_add, iN_lt, iN_le, iN_inj, iN_clamp, iN_inb, iN_nO, nO_iN, nO_lt, iN_ltm, iN_lem, nO_le, iN_pred, if_pos, if_neg, ↓reduceIte, or_true, true_or, and_true, true_and, ne_eq, not_true_eq_false, not_false_eq_true, false_or, or_false, and_false, false_and, l_X10_decides_136, ht, h5, hb, j_X10_decides_172]
theorem dE4 (R : RR σ A) (g6 : nU A ≤ 6) {d : Nat} (hd : d < 6) (ht : σ.1 57 0 d = iN (nU A + 1)) (k136 : Wd → Int32 → Option ((Unit ⊕ String) × Wd)) (f : Nat) : l_X10_decides_182 k136 (f + 1) σ (iN d) = k136 σ (pr d) := by
  have h5 := R.1.1
  have hp : iN d + nO = pr d := pr_add d
  simp (disch := omega) only [gd_t, gd_T, bx_some, bx_thr, bd_def, nx_in, ↓nO_eq, l0, l1, l2, l3, l4, l5, l6, l7, l8, l30, l50, l64, l100, l200, l448, l1200, iN_add, iN_lt, iN_le, iN_inj, iN_clamp, iN_inb, iN_nO, nO_iN, nO_lt, iN_ltm, iN_lem, nO_le, iN_pred, if_pos, if_neg, ↓reduceIte, or_true, true_or, and_true, true_and, ne_eq, not_true_eq_false, not_false_eq_true, false_or, or_false, and_false, false_and, l_X10_decides_182, ht, h5, j_X10_decides_241, hp]
theorem dE5 (R : Rd A σ) (g6 : nU A ≤ 6) (g7 : nD A ≤ 6) {d u : Nat} (hd : d < nD A) (hu : u < nU A) {fr : Nat → Bool} (hf : ∀ u, u < nU A → σ.1 58 0 u = bI (!fr u)) (ht : σ.1 57 0 d = iN u) (hok : (fr u && mayA A d u) = false) (k136 : Wd → Int32 → Option ((Unit ⊕ String) × Wd)) (f : Nat) : l_X10_decides_182 k136 (f + 1) σ (iN d) = l_X10_decides_182 k136 f (wr σ 57 0 d (iN (u + 1))) (iN d) := by
  have h5 := R.1.1.1
  have h58 := hf u hu
  have h59 := (R.2 u hu).2 d hd
  generalize fr u = b1 at *
  generalize mayA A d u = b2 at *
  cases b1
  · simp (disch := omega) only [gd_t, gd_T, bx_some, bx_thr, bd_def, nx_in, ↓nO_eq, l0, l1, l2, l3, l4, l5, l6, l7, l8, l30, l50, l64, l100, l200, l448, l1200, iN_add, iN_lt, iN_le, iN_inj, iN_clamp, iN_inb, iN_nO, nO_iN, nO_lt, iN_ltm, iN_lem, nO_le, iN_pred, if_pos, if_neg, ↓reduceIte, or_true, true_or, and_true, true_and, ne_eq, not_true_eq_false, not_false_eq_true, false_or, or_false, and_false, false_and, l_X10_decides_182, ht, h5, h58, Bool.not_false, bI_t, j_X10_decides_228]
  · cases b2
    · simp (disch := omega) only [gd_t, gd_T, bx_some, bx_thr, bd_def, nx_in, ↓nO_eq, l0, l1, l2, l3, l4, l5, l6, l7, l8, l30, l50, l64, l100, l200, l448, l1200, iN_add, iN_lt, iN_le, iN_inj, iN_clamp, iN_inb, iN_nO, nO_iN, nO_lt, iN_ltm, iN_lem, nO_le, iN_pred, if_pos, if_neg, ↓reduceIte, or_true, true_or, and_true, true_and, ne_eq, not_true_eq_false, not_false_eq_true, false_or, or_false, and_false, false_and, l_X10_decides_182, ht, h5, h58, Bool.not_true, bI_f, iN_mul, h59, j_X10_decides_228]
    · cases hok
theorem dE6 (R : Rd A σ) (g6 : nU A ≤ 6) (g7 : nD A ≤ 6) {d u : Nat} (hd : d < nD A) (hu : u < nU A) {fr : Nat → Bool} (hf : ∀ u, u < nU A → σ.1 58 0 u = bI (!fr u)) (ht : σ.1 57 0 d = iN u) (hok : (fr u && mayA A d u) = true) (k136 : Wd → Int32 → Option ((Unit ⊕ String) × Wd)) (f : Nat) : l_X10_decides_182 k136 (f + 1) σ (iN d) = j_X10_decides_285 k136 (wr σ 58 0 u (iN 1)) (iN d) := by
  have h5 := R.1.1.1
  have h58 := hf u hu
  have h59 := (R.2 u hu).2 d hd
  have hn : vp_nar .boolean (iN 1) = iN 1 := nar_b true
  generalize fr u = b1 at *
  generalize mayA A d u = b2 at *
  cases b1
  · cases hok
  · cases b2
    · cases hok
    · simp (disch := omega) only [gd_t, gd_T, bx_some, bx_thr, bd_def, nx_in, ↓nO_eq, l0, l1, l2, l3, l4, l5, l6, l7, l8, l30, l50, l64, l100, l200, l448, l1200, iN_add, iN_lt, iN_le, iN_inj, iN_clamp, iN_inb, iN_nO, nO_iN, nO_lt, iN_ltm, iN_lem, nO_le, iN_pred, if_pos, if_neg, ↓reduceIte, or_true, true_or, and_true, true_and, ne_eq, not_true_eq_false, not_false_eq_true, false_or, or_false, and_false, false_and, l_X10_decides_182, ht, h5, h58, Bool.not_true, bI_f, bI_t, iN_mul, h59, j_X10_decides_241, hn]
theorem dE7 (R : RR σ A) (g6 : nU A ≤ 6) {d : Nat} (hd : d < 6) (ht : σ.1 57 0 d = iN (nU A)) (k136 : Wd → Int32 → Option ((Unit ⊕ String) × Wd)) (f : Nat) : l_X10_decides_182 k136 (f + 1) σ (iN d) = j_X10_decides_285 k136 σ (iN d) := by
  have h5 := R.1.1
  simp (disch := omega) only [gd_t, gd_T, bx_some, bx_thr, bd_def, nx_in, ↓nO_eq, l0, l1, l2, l3, l4, l5, l6, l7, l8, l30, l50, l64, l100, l200, l448, l1200, iN_add, iN_lt, iN_le, iN_inj, iN_clamp, iN_inb, iN_nO, nO_iN, nO_lt, iN_ltm, iN_lem, nO_le, iN_pred, if_pos, if_neg, ↓reduceIte, or_true, true_or, and_true, true_and, ne_eq, not_true_eq_false, not_false_eq_true, false_or, or_false, and_false, false_and, l_X10_decides_182, ht, h5, j_X10_decides_241]
theorem dE8 (R : RR σ A) (g7 : nD A ≤ 6) {d : Nat} (hd : d + 1 < nD A) (k136 : Wd → Int32 → Option ((Unit ⊕ String) × Wd)) : j_X10_decides_285 k136 σ (iN d) = k136 (wr σ 57 0 (d + 1) nO) (iN (d + 1)) := by
  have h19 := R.1.2.1
  simp (disch := omega) only [gd_t, gd_T, bx_some, bx_thr, bd_def, nx_in, ↓nO_eq, l0, l1, l2, l3, l4, l5, l6, l7, l8, l30, l50, l64, l100, l200, l448, l1200, iN_add, iN_lt, iN_le, iN_inj, iN_clamp, iN_inb, iN_nO, nO_iN, nO_lt, iN_ltm, iN_lem, nO_le, iN_pred, if_pos, if_neg, ↓reduceIte, or_true, true_or, and_true, true_and, ne_eq, not_true_eq_false, not_false_eq_true, false_or, or_false, and_false, false_and, j_X10_decides_285, h19, iN_sub]
theorem dE9 (R : RR σ A) (g7 : nD A ≤ 6) {d : Nat} (hd : d + 1 = nD A) (k136 : Wd → Int32 → Option ((Unit ⊕ String) × Wd)) : j_X10_decides_285 k136 σ (iN d) = bx (f_X10_looks σ) fun v7 σ8 => k136 σ8 (iN d) := by
  have h19 := R.1.2.1
  simp (disch := omega) only [gd_t, gd_T, bx_some, bx_thr, bd_def, nx_in, ↓nO_eq, l0, l1, l2, l3, l4, l5, l6, l7, l8, l30, l50, l64, l100, l200, l448, l1200, iN_add, iN_lt, iN_le, iN_inj, iN_clamp, iN_inb, iN_nO, nO_iN, nO_lt, iN_ltm, iN_lem, nO_le, iN_pred, if_pos, if_neg, ↓reduceIte, or_true, true_or, and_true, true_and, ne_eq, not_true_eq_false, not_false_eq_true, false_or, or_false, and_false, false_and, j_X10_decides_285, h19, iN_sub]
end
theorem Trd.app {σ : Wd} {p : List Nat} {c : Nat} (h : Trd σ p) (hc : σ.1 57 0 p.length = iN c) : Trd σ (p ++ [c]) := by
  intro d x hx
  by_cases hd : d < p.length
  · rw [List.getElem?_append_left hd] at hx
    exact h d x hx
  · have hlt := (List.getElem?_eq_some_iff.mp hx).1
    rw [List.length_append] at hlt
    simp at hlt
    have : d = p.length := by omega
    subst this
    rw [List.getElem?_append_right (Nat.le_refl _), Nat.sub_self] at hx
    cases hx
    exact hc
theorem Trd.pre {σ : Wd} {p q : List Nat} (h : Trd σ (p ++ q)) : Trd σ p := fun d x hx => h d x (by
  have hlt := (List.getElem?_eq_some_iff.mp hx).1
  rw [List.getElem?_append_left hlt]
  exact hx)
theorem Trd.wr {σ : Wd} {p : List Nat} (h : Trd σ p) {d : Nat} {v : Int32} (hd : p.length ≤ d) : Trd (wr σ 57 0 d v) p := fun e x hx => by
  have hlt := (List.getElem?_eq_some_iff.mp hx).1
  rw [wr_rd, if_neg (by omega)]
  exact h e x hx
def Bd : Nat → Nat
  | 0 => 0
  | k + 1 => 8 + 7 * Bd k
theorem rm_58 {A : Ab} {σ : Wd} {fr : Nat → Bool} (hf : ∀ u, u < nU A → σ.1 58 0 u = bI (!fr u)) (u : Nat) (hu : fr u = true) : ∀ x, x < nU A → (wr σ 58 0 u (iN 1)).1 58 0 x = bI (!rm fr u x) := fun x hx => by
  unfold rm
  rw [wr_rd]
  by_cases h : x = u
  · rw [if_pos ⟨rfl, rfl, h⟩, h]
    simp
    rfl
  · rw [if_neg (fun z => h z.2.2), hf x hx]
    simp [h]
theorem un_58 {A : Ab} {σ : Wd} {fr : Nat → Bool} {u : Nat} (hu : fr u = true) (hf : ∀ x, x < nU A → σ.1 58 0 x = bI (!rm fr u x)) : ∀ x, x < nU A → (wr σ 58 0 u (iN 0)).1 58 0 x = bI (!fr x) := fun x hx => by
  rw [wr_rd]
  by_cases h : x = u
  · rw [if_pos ⟨rfl, rfl, h⟩, h, hu]; rfl
  · rw [if_neg (fun z => h z.2.2), hf x hx]
    unfold rm
    simp [h]
/-- what a search of the DIAGRAMS from d on is -/
def Main (A : Ab) (k : Nat) : Prop := ∀ d (p : List Nat) fr acc σ, d + k = nD A → 0 < k → p.length = d → St A σ p fr acc → σ.1 57 0 d = nO → ∃ t σ', t ≤ Bd k ∧ Go t (L136 σ (iN d)) (L136 σ' (pr d)) ∧ Fq σ σ' ∧ St A σ' p fr (((En (PA A) k d fr).map (fun l => p ++ l)).foldl (stp (cst (PA A) 0)) acc)
/-- one choice is made: on with the next DIAGRAM, or a look -/
theorem sub_run {A : Ab} (G : Gd A) {k : Nat} (ih : 0 < k → Main A k) {d : Nat} (hd : d + (k + 1) = nD A) {p : List Nat} (hp : p.length = d) {c : Nat} (hc : c ≤ nU A) {fr : Nat → Bool} {acc : Option (List Nat)} {ρ : Wd} (hS : St A ρ (p ++ [c]) fr acc) : ∃ t σ', t ≤ Bd k ∧ Go t (fun F => j_X10_decides_285 (l_X10_decides_136 F) ρ (iN d)) (L136 σ' (iN d)) ∧ Fq ρ σ' ∧ St A σ' (p ++ [c]) fr (((En (PA A) k (d + 1) fr).map (fun l => (p ++ [c]) ++ l)).foldl (stp (cst (PA A) 0)) acc) := by
  obtain ⟨R, ht, hpc, hf, ha⟩ := hS
  have g7 := G.2.1
  have hlen : (p ++ [c]).length = d + 1 := by simp [hp]
  cases k with
  | zero =>
    obtain ⟨σ', q1, q2, q3, q4, q5⟩ := looks_ok R G (by rw [hlen]; omega) hpc ht ha
    have hF : Fq ρ σ' := ⟨q2, fun t a b => q3 t (by omega) a, q4⟩
    refine ⟨0, σ', Nat.le_refl _, fun F => ?_, hF, R.fr2 hF, fun e x hx => ?_, hpc, fun u hu => ?_, ?_⟩
    · show j_X10_decides_285 (l_X10_decides_136 (F + 0)) ρ (iN d) = l_X10_decides_136 F σ' (iN d)
      rw [dE9 R.1 g7 (by omega), q1, bx_some]
      rfl
    · rw [q3 57 (by decide) (by decide)]; exact ht e x hx
    · rw [q3 58 (by decide) (by decide)]; exact hf u hu
    · show Acc A σ' (stp (cst (PA A) 0) acc (p ++ [c] ++ []))
      rw [List.append_nil]
      exact q5
  | succ k =>
    have hF : Fq ρ (wr ρ 57 0 (d + 1) nO) := (Fq.rf ρ).wr (by decide)
    obtain ⟨t, σ', q1, q2, q3, q4⟩ := ih (Nat.succ_pos k) (d + 1) (p ++ [c]) fr acc (wr ρ 57 0 (d + 1) nO) (by omega) (Nat.succ_pos k) hlen ⟨R.fr2 hF, ht.wr (by omega), hpc, hf, ha.fr rfl rfl⟩ (wr_same _ _ _ _ _)
    refine ⟨t, σ', q1, fun F => ?_, hF.tr q3, q4⟩
    show j_X10_decides_285 (l_X10_decides_136 (F + t)) ρ (iN d) = l_X10_decides_136 F σ' (iN d)
    rw [dE8 R.1 g7 (by omega)]
    exact q2 F
theorem inner {A : Ab} (G : Gd A) {k : Nat} (ih : 0 < k → Main A k) {d : Nat} (hd : d + (k + 1) = nD A) {p : List Nat} (hp : p.length = d) {fr : Nat → Bool} : ∀ (j u fu : Nat) (acc : Option (List Nat)) (σ : Wd), u + j = nU A → j < fu → St A σ p fr acc → σ.1 57 0 d = iN u → ∃ t σ', t ≤ (j + 1) * (Bd k + 1) ∧ Go t (fun F => l_X10_decides_182 (l_X10_decides_136 F) fu σ (iN d)) (L136 σ' (pr d)) ∧ Fq σ σ' ∧ St A σ' p fr (((blk (fun u => fr u && mayA A d u) (fun u => En (PA A) k (d + 1) (rm fr u)) u j ++ (En (PA A) k (d + 1) fr).map (fun l => nU A :: l)).map (fun l => p ++ l)).foldl (stp (cst (PA A) 0)) acc)
  | 0, u, fu, acc, σ, hu, hfu, hS, ht => by
    obtain ⟨f, rfl⟩ : ∃ f, fu = f + 1 := ⟨fu - 1, by omega⟩
    have g6 := G.1
    have g7 := G.2.1
    have hun : u = nU A := by omega
    subst hun
    obtain ⟨R, htr, hpc, hf, ha⟩ := hS
    have hpc2 : ∀ c, c ∈ p ++ [nU A] → c ≤ nU A := fun c hc => by
      rcases List.mem_append.mp hc with h | h
      · exact hpc c h
      · rw [List.mem_singleton.mp h]; exact Nat.le_refl _
    obtain ⟨t, σ1, q1, q2, q3, q4⟩ := sub_run G ih hd hp (c := nU A) (Nat.le_refl _) (fr := fr) (acc := acc) (ρ := σ) ⟨R, htr.app (by rw [hp]; exact ht), hpc2, hf, ha⟩
    obtain ⟨R1, t1, _, f1, a1⟩ := q4
    have ht1 : σ1.1 57 0 d = iN (nU A) := t1 d (nU A) (by rw [← hp]; exact at_mid (nU A) [] p)
    refine ⟨t + 1, wr σ1 57 0 d (iN (nU A + 1)), by omega, fun F => ?_, q3.tr ((Fq.rf σ1).wr (by decide)), R1.fr2 ((Fq.rf σ1).wr (by decide)), t1.pre.wr (by omega), hpc, f1, ?_⟩
    · show l_X10_decides_182 (l_X10_decides_136 (F + (t + 1))) (f + 1) σ (iN d) = l_X10_decides_136 F (wr σ1 57 0 d (iN (nU A + 1))) (pr d)
      rw [dE7 R.1 g6 (by omega) ht, show F + (t + 1) = (F + 1) + t from by omega]
      refine (q2 (F + 1)).trans ?_
      show l_X10_decides_136 (F + 1) σ1 (iN d) = _
      rw [dE3 R1.1 g6 (by omega) ht1]
      obtain ⟨m, hm⟩ := FU_ge 1 (by decide)
      rw [hm]
      exact dE4 (R1.fr2 ((Fq.rf σ1).wr (by decide))).1 g6 (by omega) (wr_same _ _ _ _ _) _ _
    · have e : ([] ++ (En (PA A) k (d + 1) fr).map (fun l => nU A :: l)).map (fun l => p ++ l) = (En (PA A) k (d + 1) fr).map (fun l => (p ++ [nU A]) ++ l) := by
        rw [List.nil_append, List.map_map]
        refine List.map_congr_left (fun l _ => ?_)
        simp
      rw [show blk (fun u => fr u && mayA A d u) (fun u => En (PA A) k (d + 1) (rm fr u)) (nU A) 0 = [] from rfl, e]
      exact a1.fr rfl rfl
  | j + 1, u, fu, acc, σ, hu, hfu, hS, ht => by
    obtain ⟨f, rfl⟩ : ∃ f, fu = f + 1 := ⟨fu - 1, by omega⟩
    have g6 := G.1
    have g7 := G.2.1
    obtain ⟨R, htr, hpc, hf, ha⟩ := hS
    have hblk : blk (fun u => fr u && mayA A d u) (fun u => En (PA A) k (d + 1) (rm fr u)) u (j + 1) = (if (fr u && mayA A d u) then (En (PA A) k (d + 1) (rm fr u)).map (fun l => u :: l) else []) ++ blk (fun u => fr u && mayA A d u) (fun u => En (PA A) k (d + 1) (rm fr u)) (u + 1) j := rfl
    rw [hblk]
    by_cases hok : (fr u && mayA A d u) = true
    · rw [if_pos hok]
      have hfu2 : fr u = true := (Bool.and_eq_true_iff.mp hok).1
      have hpc2 : ∀ c, c ∈ p ++ [u] → c ≤ nU A := fun c hc => by
        rcases List.mem_append.mp hc with h | h
        · exact hpc c h
        · rw [List.mem_singleton.mp h]; omega
      have hFw : Fq σ (wr σ 58 0 u (iN 1)) := (Fq.rf σ).wr (by decide)
      obtain ⟨t, σ1, q1, q2, q3, q4⟩ := sub_run G ih hd hp (c := u) (by omega) (fr := rm fr u) (acc := acc) (ρ := wr σ 58 0 u (iN 1)) ⟨R.fr2 hFw, Trd.app (σ := wr σ 58 0 u (iN 1)) htr (by rw [hp]; exact ht), hpc2, rm_58 hf u hfu2, ha.fr rfl rfl⟩
      obtain ⟨R1, t1, _, f1, a1⟩ := q4
      have ht1 : σ1.1 57 0 d = iN u := t1 d u (by rw [← hp]; exact at_mid u [] p)
      have hF2 : Fq σ1 (wr (wr σ1 58 0 u (iN 0)) 57 0 d (iN (u + 1))) := ((Fq.rf σ1).wr (by decide)).wr (by decide)
      obtain ⟨t', σ2, z1, z2, z3, z4⟩ := inner G ih hd hp j (u + 1) FU _ (wr (wr σ1 58 0 u (iN 0)) 57 0 d (iN (u + 1))) (by omega) (by unfold FU; omega) ⟨R1.fr2 hF2, Trd.wr (σ := wr σ1 58 0 u (iN 0)) t1.pre (by omega), hpc, un_58 hfu2 f1, a1.fr rfl rfl⟩ (wr_same _ _ _ _ _)
      refine ⟨t + (1 + t'), σ2, ?_, fun F => ?_, (hFw.tr q3).tr (hF2.tr z3), ?_⟩
      · rw [Nat.succ_mul (j + 1) (Bd k + 1)]
        omega
      · show l_X10_decides_182 (l_X10_decides_136 (F + (t + (1 + t')))) (f + 1) σ (iN d) = l_X10_decides_136 F σ2 (pr d)
        rw [dE6 R g6 g7 (by omega) (by omega) hf ht hok, show F + (t + (1 + t')) = (F + t' + 1) + t from by omega]
        refine (q2 (F + t' + 1)).trans ?_
        show l_X10_decides_136 (F + t' + 1) σ1 (iN d) = _
        rw [dE1 R1.1 g6 (by omega) (by omega) ht1]
        exact z2 F
      · rw [List.append_assoc, List.map_append, List.foldl_append]
        have e : ((En (PA A) k (d + 1) (rm fr u)).map (fun l => u :: l)).map (fun l => p ++ l) = (En (PA A) k (d + 1) (rm fr u)).map (fun l => (p ++ [u]) ++ l) := by
          rw [List.map_map]
          refine List.map_congr_left (fun l _ => ?_)
          simp
        rw [e]
        exact z4
    · rw [if_neg hok, List.nil_append]
      have hok2 : (fr u && mayA A d u) = false := by simpa using hok
      have hF2 : Fq σ (wr σ 57 0 d (iN (u + 1))) := (Fq.rf σ).wr (by decide)
      obtain ⟨t', σ2, z1, z2, z3, z4⟩ := inner G ih hd hp j (u + 1) f acc (wr σ 57 0 d (iN (u + 1))) (by omega) (by omega) ⟨R.fr2 hF2, htr.wr (by omega), hpc, hf, ha.fr rfl rfl⟩ (wr_same _ _ _ _ _)
      refine ⟨t', σ2, ?_, fun F => ?_, hF2.tr z3, z4⟩
      · rw [Nat.succ_mul (j + 1) (Bd k + 1)]
        omega
      · show l_X10_decides_182 (l_X10_decides_136 (F + t')) (f + 1) σ (iN d) = l_X10_decides_136 F σ2 (pr d)
        rw [dE5 R g6 g7 (by omega) (by omega) hf ht hok2]
        exact z2 F
theorem main_all {A : Ab} (G : Gd A) : ∀ k, Main A k
  | 0 => fun d p fr acc σ _ h => absurd h (by decide)
  | k + 1 => fun d p fr acc σ hd _ hp hS ht => by
    have g6 := G.1
    have g7 := G.2.1
    obtain ⟨R, htr, hpc, hf, ha⟩ := hS
    have hF2 : Fq σ (wr σ 57 0 d (iN 0)) := (Fq.rf σ).wr (by decide)
    obtain ⟨t', σ2, z1, z2, z3, z4⟩ := inner G (fun _ => main_all G k) hd hp (fr := fr) (nU A) 0 FU acc (wr σ 57 0 d (iN 0)) (by omega) (by unfold FU; omega) ⟨R.fr2 hF2, htr.wr (by omega), hpc, hf, ha.fr rfl rfl⟩ (wr_same _ _ _ _ _)
    refine ⟨1 + t', σ2, ?_, fun F => ?_, hF2.tr z3, z4⟩
    · have : (nU A + 1) * (Bd k + 1) ≤ 7 * (Bd k + 1) := Nat.mul_le_mul_right _ (by omega)
      show 1 + t' ≤ 8 + 7 * Bd k
      omega
    · show l_X10_decides_136 (F + (1 + t')) σ (iN d) = l_X10_decides_136 F σ2 (pr d)
      rw [show F + (1 + t') = (F + t') + 1 from by omega, dE2 R.1 g6 (by omega) ht]
      exact z2 F
