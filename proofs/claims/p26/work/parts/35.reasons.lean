/-! reasons, once, over the value -/
def bnd (A : Ab) (k : Nat) : Int32 := A.1 50 k 0 + A.1 50 k 0 * A.1 51 k 0 / iN 100
def due (A : Ab) (u : Nat) (more : Int32) (k : Nat) : Bool := decide (bnd A k < A.1 35 u k + more) || decide (A.1 52 k 0 < A.1 36 u k)
def dueS (A : Ab) (u : Nat) (more : Int32) : Bool := due A u more 0 || due A u more 1 || due A u more 2
def obits (b0 b1 b2 : Bool) : Int32 := iN ((if b0 then 1 else 0) + (if b1 then 2 else 0) + (if b2 then 4 else 0))
def soon1 (A : Ab) (u k : Nat) : Bool := decide ((80 : Int32) * A.1 50 k 0 ≤ A.1 35 u k * iN 100)
def soonS (A : Ab) (u : Nat) : Bool := soon1 A u 0 || soon1 A u 1 || soon1 A u 2
def barF (A : Ab) (line : Int32) (f : Fa) : Bool := decide (A.1 53 f.1.toNatClampNeg 0 = nO) || decide (A.1 53 f.1.toNatClampNeg 0 < iN (nT A) - f.2.1) || decide (A.1 54 f.1.toNatClampNeg 0 < line)
def barS (A : Ab) (u : Nat) (line : Int32) : Bool := (fl A u).any (barF A line)
def grave (f : Fa) : Bool := decide (f.1 = iN 0) && decide (iN 4 < f.2.2.2) || decide (f.1 = iN 2) && decide (iN 50 < f.2.2.2)
def door (f : Fa) : Bool := decide (f.1 = iN 1)
def badS (A : Ab) (u : Nat) : Bool := (fl A u).any grave || decide (2 ≤ (fl A u).countP door)
def mn (a b : Int32) : Int32 := if b < a then b else a
def mx (a b : Int32) : Int32 := if a < b then b else a
def lo4 (g : Nat → Int32) : Int32 := mn (mn (mn (g 0) (g 1)) (g 2)) (g 3)
def hi4 (g : Nat → Int32) : Int32 := mx (mx (mx (g 0) (g 1)) (g 2)) (g 3)
def wornS (A : Ab) (u : Nat) : Bool := decide (iN 6 < hi4 (A.1 34 u) - lo4 (A.1 34 u)) || decide (lo4 (A.1 34 u) < 800)
def rsn (A : Ab) (u d : Nat) : Int32 := if A.1 31 u 0 = A.1 44 d 0 then (if dueS A u (A.1 46 d 0) then iN 2 else if barS A u (A.1 47 d 0) then iN 3 else if badS A u then iN 4 else if wornS A u then iN 5 else iN 0) else iN 1
theorem drop_at {α : Type} {l : List α} {j : Nat} {f : α} (h : l[j]? = some f) : l.drop j = f :: l.drop (j + 1) := by
  obtain ⟨h1, h2⟩ := List.getElem?_eq_some_iff.mp h
  rw [← h2]
  exact List.drop_eq_getElem_cons h1
theorem at_or {α : Type} (l : List α) (j : Nat) : (∃ f, l[j]? = some f ∧ j < l.length) ∨ l.length ≤ j := by
  by_cases h : j < l.length
  · exact Or.inl ⟨l[j], List.getElem?_eq_getElem h, h⟩
  · exact Or.inr (Nat.le_of_not_lt h)
/-! the first half -/
theorem k_bound {σ : Wd} {A : Ab} (E : RCe σ A) {k : Nat} (hk : k < 3) : f_X1_bound σ k = some (.inl (bnd A k), σ) := by
  obtain ⟨e0, e1, e2⟩ := E.1 k hk
  simp (disch := omega) only [gd_t, gd_T, bx_some, bx_thr, bd_def, nx_in, ↓nO_eq, l0, l1, l2, l3, l4, l5, l6, l7, l8, l30, l50, l64, l100, l200, l448, l1200, iN_add, iN_lt, iN_le, iN_inj, iN_clamp, iN_inb, iN_nO, nO_iN, nO_lt, iN_ltm, iN_lem, nO_le, iN_pred, if_pos, if_neg, ↓reduceIte, or_true, true_or, and_true, true_and, ne_eq, not_true_eq_false, not_false_eq_true, false_or, or_false, and_false, false_and, f_X1_bound, e0, e1, e2]
  rfl
theorem k_over {σ : Wd} {A : Ab} (E : RCe σ A) {k : Nat} (hk : k < 3) (p0 p1 : Int32) : f_X1_isOverdue σ k p0 p1 = some (.inl (bI (decide (bnd A k < p0) || decide (A.1 52 k 0 < p1))), σ) := by
  obtain ⟨e0, e1, e2⟩ := E.1 k hk
  simp (disch := omega) only [gd_t, gd_T, bx_some, bx_thr, bd_def, nx_in, ↓nO_eq, l0, l1, l2, l3, l4, l5, l6, l7, l8, l30, l50, l64, l100, l200, l448, l1200, iN_add, iN_lt, iN_le, iN_inj, iN_clamp, iN_inb, iN_nO, nO_iN, nO_lt, iN_ltm, iN_lem, nO_le, iN_pred, if_pos, if_neg, ↓reduceIte, or_true, true_or, and_true, true_and, ne_eq, not_true_eq_false, not_false_eq_true, false_or, or_false, and_false, false_and, f_X1_isOverdue, k_bound E hk, e2]
  by_cases h1 : bnd A k < p0
  · simp [h1, bI]
  · by_cases h2 : p1 ≤ A.1 52 k 0
    · simp [h1, h2, bI, lt_not.mpr h2]
    · simp [h1, h2, bI, le_not.mp h2]
theorem k_km {σ : Wd} {A : Ab} (H : RCl σ A) (U : RCu σ A) {u k : Nat} (hu : u < nU A) (hk : k < 3) : f_X8_kmSince σ u (iN k) = some (.inl (A.1 35 u k), σ) := by
  have e := (U u hu).2.2.2.1 k hk
  have e8 := H.1
  simp (disch := omega) only [gd_t, gd_T, bx_some, bx_thr, bd_def, nx_in, ↓nO_eq, l0, l1, l2, l3, l4, l5, l6, l7, l8, l30, l50, l64, l100, l200, l448, l1200, iN_add, iN_lt, iN_le, iN_inj, iN_clamp, iN_inb, iN_nO, nO_iN, nO_lt, iN_ltm, iN_lem, nO_le, iN_pred, if_pos, if_neg, ↓reduceIte, or_true, true_or, and_true, true_and, ne_eq, not_true_eq_false, not_false_eq_true, false_or, or_false, and_false, false_and, f_X8_kmSince, e]
theorem k_days {σ : Wd} {A : Ab} (H : RCl σ A) (U : RCu σ A) {u k : Nat} (hu : u < nU A) (hk : k < 3) : f_X8_daysSince σ u (iN k) = some (.inl (A.1 36 u k), σ) := by
  have e := (U u hu).2.2.2.2.1 k hk
  have e8 := H.1
  simp (disch := omega) only [gd_t, gd_T, bx_some, bx_thr, bd_def, nx_in, ↓nO_eq, l0, l1, l2, l3, l4, l5, l6, l7, l8, l30, l50, l64, l100, l200, l448, l1200, iN_add, iN_lt, iN_le, iN_inj, iN_clamp, iN_inb, iN_nO, nO_iN, nO_lt, iN_ltm, iN_lem, nO_le, iN_pred, if_pos, if_neg, ↓reduceIte, or_true, true_or, and_true, true_and, ne_eq, not_true_eq_false, not_false_eq_true, false_or, or_false, and_false, false_and, f_X8_daysSince, e]
theorem k_axle {σ : Wd} {A : Ab} (H : RCl σ A) (U : RCu σ A) {u k : Nat} (hu : u < nU A) (hk : k < 4) : f_X8_axleSize σ u (iN k) = some (.inl (A.1 34 u k), σ) := by
  have e := (U u hu).2.2.2.2.2 k hk
  have e8 := H.1
  simp (disch := omega) only [gd_t, gd_T, bx_some, bx_thr, bd_def, nx_in, ↓nO_eq, l0, l1, l2, l3, l4, l5, l6, l7, l8, l30, l50, l64, l100, l200, l448, l1200, iN_add, iN_lt, iN_le, iN_inj, iN_clamp, iN_inb, iN_nO, nO_iN, nO_lt, iN_ltm, iN_lem, nO_le, iN_pred, if_pos, if_neg, ↓reduceIte, or_true, true_or, and_true, true_and, ne_eq, not_true_eq_false, not_false_eq_true, false_or, or_false, and_false, false_and, f_X8_axleSize, e]
theorem k_bits {σ : Wd} {A : Ab} (H : RCl σ A) (E : RCe σ A) (U : RCu σ A) {u : Nat} (hu : u < nU A) (more : Int32) : f_X7_overdueBitsBehind σ u more = some (.inl (obits (due A u more 0) (due A u more 1) (due A u more 2)), σ) := by
  obtain ⟨m, hm⟩ := FU_ge 4 (by decide)
  have h0 := k_over E (by decide : 0 < 3) (A.1 35 u 0 + more) (A.1 36 u 0)
  have h1 := k_over E (by decide : 1 < 3) (A.1 35 u 1 + more) (A.1 36 u 1)
  have h2 := k_over E (by decide : 2 < 3) (A.1 35 u 2 + more) (A.1 36 u 2)
  have e8 := H.1
  unfold f_X7_overdueBitsBehind due
  rw [hm]
  generalize (decide (bnd A 0 < A.1 35 u 0 + more) || decide (A.1 52 0 0 < A.1 36 u 0)) = b0 at *
  generalize (decide (bnd A 1 < A.1 35 u 1 + more) || decide (A.1 52 1 0 < A.1 36 u 1)) = b1 at *
  generalize (decide (bnd A 2 < A.1 35 u 2 + more) || decide (A.1 52 2 0 < A.1 36 u 2)) = b2 at *
  have z : ∀ k, k < 3 → f_X8_kmSince σ u (iN k) = some (.inl (A.1 35 u k), σ) := fun k hk => k_km H U hu hk
  have z2 : ∀ k, k < 3 → f_X8_daysSince σ u (iN k) = some (.inl (A.1 36 u k), σ) := fun k hk => k_days H U hu hk
  have z3 : ∀ k, k < 3 → f_X7_examAt σ (iN k) = some (.inl k, σ) := fun k hk => c_examAt hk
  cases b0 <;> cases b1 <;> cases b2 <;> (simp (disch := omega) only [gd_t, gd_T, bx_some, bx_thr, bd_def, nx_in, ↓nO_eq, l0, l1, l2, l3, l4, l5, l6, l7, l8, l30, l50, l64, l100, l200, l448, l1200, iN_add, iN_lt, iN_le, iN_inj, iN_clamp, iN_inb, iN_nO, nO_iN, nO_lt, iN_ltm, iN_lem, nO_le, iN_pred, if_pos, if_neg, ↓reduceIte, or_true, true_or, and_true, true_and, ne_eq, not_true_eq_false, not_false_eq_true, false_or, or_false, and_false, false_and, l_X7_overdueBitsBehind_5, z, z2, z3, h0, h1, h2, bI_t, bI_f]; first | rfl | decide)
theorem obits_0 (b0 b1 b2 : Bool) : (obits b0 b1 b2 = iN 0) ↔ (b0 || b1 || b2) = false := by
  cases b0 <;> cases b1 <;> cases b2 <;> decide
theorem k_near {σ : Wd} {A : Ab} (E : RCe σ A) {k : Nat} (hk : k < 3) (u : Nat) : f_X1_isNear σ k (A.1 35 u k) = some (.inl (bI (soon1 A u k)), σ) := by
  obtain ⟨e0, e1, e2⟩ := E.1 k hk
  unfold soon1
  simp (disch := omega) only [gd_t, gd_T, bx_some, bx_thr, bd_def, nx_in, ↓nO_eq, l0, l1, l2, l3, l4, l5, l6, l7, l8, l30, l50, l64, l100, l200, l448, l1200, iN_add, iN_lt, iN_le, iN_inj, iN_clamp, iN_inb, iN_nO, nO_iN, nO_lt, iN_ltm, iN_lem, nO_le, iN_pred, if_pos, if_neg, ↓reduceIte, or_true, true_or, and_true, true_and, ne_eq, not_true_eq_false, not_false_eq_true, false_or, or_false, and_false, false_and, f_X1_isNear, e0]
  by_cases h1 : A.1 35 u k * iN 100 < (80 : Int32) * A.1 50 k 0
  · simp [h1, bI, le_not.mpr h1]
  · simp [h1, bI, lt_not.mp h1]
theorem k_soon {σ : Wd} {A : Ab} (H : RCl σ A) (E : RCe σ A) (U : RCu σ A) {u : Nat} (hu : u < nU A) : f_X7_isSoon σ u = some (.inl (bI (soonS A u)), σ) := by
  obtain ⟨m, hm⟩ := FU_ge 4 (by decide)
  have h0 := k_near E (by decide : 0 < 3) u
  have h1 := k_near E (by decide : 1 < 3) u
  have h2 := k_near E (by decide : 2 < 3) u
  have e8 := H.1
  unfold f_X7_isSoon soonS
  rw [hm]
  generalize soon1 A u 0 = b0 at *
  generalize soon1 A u 1 = b1 at *
  generalize soon1 A u 2 = b2 at *
  have z : ∀ k, k < 3 → f_X8_kmSince σ u (iN k) = some (.inl (A.1 35 u k), σ) := fun k hk => k_km H U hu hk
  have z3 : ∀ k, k < 3 → f_X7_examAt σ (iN k) = some (.inl k, σ) := fun k hk => c_examAt hk
  cases b0 <;> cases b1 <;> cases b2 <;> (simp (disch := omega) only [gd_t, gd_T, bx_some, bx_thr, bd_def, nx_in, ↓nO_eq, l0, l1, l2, l3, l4, l5, l6, l7, l8, l30, l50, l64, l100, l200, l448, l1200, iN_add, iN_lt, iN_le, iN_inj, iN_clamp, iN_inb, iN_nO, nO_iN, nO_lt, iN_ltm, iN_lem, nO_le, iN_pred, if_pos, if_neg, ↓reduceIte, or_true, true_or, and_true, true_and, ne_eq, not_true_eq_false, not_false_eq_true, false_or, or_false, and_false, false_and, l_X7_isSoon_2, z, z3, h0, h1, h2, bI_t, bI_f]; first | rfl | decide)
