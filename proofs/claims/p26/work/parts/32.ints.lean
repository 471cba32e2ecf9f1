/-! small numbers as ints of the machine -/
def iN (n : Nat) : Int32 := Int32.ofNat n
def nO : Int32 := -1
theorem nO_eq : (-1 : Int32) = nO := id rfl
theorem l0 : (0 : Int32) = iN 0 := id rfl
theorem l1 : (1 : Int32) = iN 1 := id rfl
theorem l2 : (2 : Int32) = iN 2 := id rfl
theorem l3 : (3 : Int32) = iN 3 := id rfl
theorem l4 : (4 : Int32) = iN 4 := id rfl
theorem l5 : (5 : Int32) = iN 5 := id rfl
theorem l6 : (6 : Int32) = iN 6 := id rfl
theorem l7 : (7 : Int32) = iN 7 := id rfl
theorem l8 : (8 : Int32) = iN 8 := id rfl
theorem l30 : (30 : Int32) = iN 30 := id rfl
theorem l50 : (50 : Int32) = iN 50 := id rfl
theorem l64 : (64 : Int32) = iN 64 := id rfl
theorem l100 : (100 : Int32) = iN 100 := id rfl
theorem l200 : (200 : Int32) = iN 200 := id rfl
theorem l448 : (448 : Int32) = iN 448 := id rfl
theorem l1200 : (1200 : Int32) = iN 1200 := id rfl
theorem iN_add (a b : Nat) : iN a + iN b = iN (a + b) := (Int32.ofNat_add a b).symm
theorem iN_mul (a b : Nat) : iN a * iN b = iN (a * b) := (Int32.ofNat_mul a b).symm
theorem iN_sub {a b : Nat} (h : b ≤ a) : iN a - iN b = iN (a - b) := (Int32.ofNat_sub a b h).symm
theorem iN_lt {a b : Nat} (ha : a < 2147483648) (hb : b < 2147483648) : iN a < iN b ↔ a < b := Int32.ofNat_lt_iff_lt ha hb
theorem iN_le {a b : Nat} (ha : a < 2147483648) (hb : b < 2147483648) : iN a ≤ iN b ↔ a ≤ b := Int32.ofNat_le_iff_le ha hb
theorem iN_toInt {a : Nat} (ha : a < 2147483648) : (iN a).toInt = a := Int32.toInt_ofNat_of_lt ha
theorem iN_inj {a b : Nat} (ha : a < 2147483648) (hb : b < 2147483648) : iN a = iN b ↔ a = b := by
  refine ⟨fun h => ?_, fun h => by rw [h]⟩
  have h2 := congrArg Int32.toInt h
  rw [iN_toInt ha, iN_toInt hb] at h2
  omega
theorem iN_clamp {a : Nat} (ha : a < 2147483648) : (iN a).toNatClampNeg = a := Int32.toNatClampNeg_ofNat_of_lt ha
theorem iN_div {a b : Nat} (ha : a < 2147483648) (hb : b < 2147483648) : iN a / iN b = iN (a / b) := (Int32.ofNat_div ha hb).symm
theorem iN_pred (a : Nat) : iN (a + 1) + nO = iN a := by
  unfold nO
  rw [← iN_add, Int32.add_assoc, show iN 1 + (-1 : Int32) = 0 from by decide, Int32.add_zero]
theorem iN_predm : iN 0 - iN 1 = nO := by decide
theorem iN_nO {a : Nat} (ha : a < 2147483648) : (iN a = nO) = False := by
  refine eq_false (fun h => ?_)
  have h2 := congrArg Int32.toInt h
  rw [iN_toInt ha, show nO.toInt = -1 from by decide] at h2
  omega
theorem nO_iN {a : Nat} (ha : a < 2147483648) : (nO = iN a) = False := by
  refine eq_false (fun h => ?_)
  have h2 := iN_nO ha
  rw [h] at h2
  exact cast h2 rfl
theorem nO_lt {a : Nat} (ha : a < 2147483648) : (nO < iN a) = True := by
  refine eq_true (Int32.lt_iff_toInt_lt.mpr ?_)
  rw [iN_toInt ha, show nO.toInt = -1 from by decide]
  omega
theorem iN_ltm {a : Nat} (ha : a < 2147483648) : (iN a < nO) = False := by
  refine eq_false (fun h => ?_)
  have h2 := Int32.lt_iff_toInt_lt.mp h
  rw [iN_toInt ha, show nO.toInt = -1 from by decide] at h2
  omega
theorem iN_lem {a : Nat} (ha : a < 2147483648) : (iN a ≤ nO) = False := by
  refine eq_false (fun h => ?_)
  have h2 := Int32.le_iff_toInt_le.mp h
  rw [iN_toInt ha, show nO.toInt = -1 from by decide] at h2
  omega
theorem nO_le {a : Nat} (ha : a < 2147483648) : (nO ≤ iN a) = True := by
  refine eq_true (Int32.le_iff_toInt_le.mpr ?_)
  rw [iN_toInt ha, show nO.toInt = -1 from by decide]
  omega
theorem iN_inb {a n : Nat} (ha : a < 2147483648) : inb (iN a) n ↔ a < n := by
  unfold inb
  rw [iN_clamp ha, l0, iN_lt ha (by decide)]
  omega
/-- a number of a range, or none of it -/
theorem rng (p : Int32) (n : Nat) (hn : n < 2147483648) : (∃ u, u < n ∧ p = iN u) ∨ (p < iN 0 ∨ (¬ p < iN 0 ∧ iN n ≤ p)) := by
  by_cases h : p < iN 0
  · exact Or.inr (Or.inl h)
  · by_cases h2 : iN n ≤ p
    · exact Or.inr (Or.inr ⟨h, h2⟩)
    · refine Or.inl ⟨p.toNatClampNeg, ?_, ?_⟩
      · have h3 : ¬ (iN n).toInt ≤ p.toInt := fun z => h2 (Int32.le_iff_toInt_le.mpr z)
        rw [iN_toInt hn] at h3
        have h4 : ¬ p.toInt < (iN 0).toInt := fun z => h (Int32.lt_iff_toInt_lt.mpr z)
        rw [iN_toInt (by decide)] at h4
        have h5 : p.toNatClampNeg = p.toInt.toNat := rfl
        omega
      · refine (Int32.ofNat_toNatClampNeg p ?_).symm
        refine Int32.le_iff_toInt_le.mpr ?_
        have h4 : ¬ p.toInt < (iN 0).toInt := fun z => h (Int32.lt_iff_toInt_lt.mpr z)
        rw [iN_toInt (by decide)] at h4
        have h6 : (0 : Int32).toInt = 0 := by decide
        omega
theorem le_not {a b : Int32} : ¬ a ≤ b ↔ b < a := Int32.not_le
theorem lt_not {a b : Int32} : ¬ a < b ↔ b ≤ a := Int32.not_lt
theorem FU_ge (k : Nat) (h : k ≤ 1000000000) : ∃ m, FU = m + k := ⟨1000000000 - k, by unfold FU; omega⟩
/-! worlds: what is written, and what is not -/
theorem st_at (σ : Wd) (t i : Nat) (g : Nat → Int32) : (stO σ t i g).1 t i = g := if_pos ⟨rfl, rfl⟩
theorem st_off (σ : Wd) {t i t' i' : Nat} (g : Nat → Int32) (h : ¬ (t' = t ∧ i' = i)) : (stO σ t i g).1 t' i' = σ.1 t' i' := if_neg h
theorem wr_st (σ : Wd) (t i k : Nat) (v : Int32) : wr σ t i k v = stO σ t i (upd (σ.1 t i) k v) := by
  unfold wr stO
  refine Prod.ext ?_ rfl
  funext t' i' k'
  by_cases h : t' = t ∧ i' = i
  · obtain ⟨rfl, rfl⟩ := h
    simp [upd]
  · show (if t' = t ∧ i' = i ∧ k' = k then v else σ.1 t' i' k') = (if t' = t ∧ i' = i then upd (σ.1 t i) k v else σ.1 t' i') k'
    rw [if_neg (fun z : t' = t ∧ i' = i ∧ k' = k => h ⟨z.1, z.2.1⟩), if_neg h]
theorem st_st (σ : Wd) (t i : Nat) (g h : Nat → Int32) : stO (stO σ t i g) t i h = stO σ t i h := by
  unfold stO
  refine Prod.ext ?_ rfl
  funext t' i'
  show (if t' = t ∧ i' = i then h else (if t' = t ∧ i' = i then g else σ.1 t' i')) = if t' = t ∧ i' = i then h else σ.1 t' i'
  by_cases hc : t' = t ∧ i' = i
  · rw [if_pos hc, if_pos hc]
  · rw [if_neg hc, if_neg hc, if_neg hc]
/-- the reference's half is the same -/
def CS (σ τ : Wd) : Prop := ∀ t, 30 ≤ t → τ.1 t = σ.1 t
theorem CS.rf (σ : Wd) : CS σ σ := fun _ _ => rfl
theorem CS.tr {a b c : Wd} (h : CS a b) (h2 : CS b c) : CS a c := fun t ht => (h2 t ht).trans (h t ht)
theorem CS.wr {σ τ : Wd} (h : CS σ τ) {t i k : Nat} {v : Int32} (ht : t < 30) : CS σ (wr τ t i k v) := fun t' ht' => by
  refine Eq.trans ?_ (h t' ht')
  funext i' k'
  exact if_neg (fun z => by omega)
theorem CS.st {σ τ : Wd} (h : CS σ τ) {t i : Nat} {g : Nat → Int32} (ht : t < 30) : CS σ (stO τ t i g) := fun t' ht' => by
  refine Eq.trans ?_ (h t' ht')
  funext i'
  exact if_neg (fun z => by omega)
/-! any, count, sum over a stretch -/
def anyF (p : Nat → Bool) : Nat → Nat → Bool
  | _, 0 => false
  | i, k + 1 => p i || anyF p (i + 1) k
def cntF (p : Nat → Bool) : Nat → Nat → Nat
  | _, 0 => 0
  | i, k + 1 => (if p i then 1 else 0) + cntF p (i + 1) k
def sumF (f : Nat → Int32) : Nat → Nat → Int32
  | _, 0 => 0
  | i, k + 1 => f i + sumF f (i + 1) k
theorem anyF_congr {p q : Nat → Bool} : ∀ {k i : Nat}, (∀ j, i ≤ j → j < i + k → p j = q j) → anyF p i k = anyF q i k
  | 0, _, _ => rfl
  | k + 1, i, h => by
    show (p i || anyF p (i + 1) k) = (q i || anyF q (i + 1) k)
    rw [h i (Nat.le_refl _) (by omega), anyF_congr (fun j h1 h2 => h j (by omega) (by omega))]
theorem cntF_congr {p q : Nat → Bool} : ∀ {k i : Nat}, (∀ j, i ≤ j → j < i + k → p j = q j) → cntF p i k = cntF q i k
  | 0, _, _ => rfl
  | k + 1, i, h => by
    show (if p i then 1 else 0) + cntF p (i + 1) k = (if q i then 1 else 0) + cntF q (i + 1) k
    rw [h i (Nat.le_refl _) (by omega), cntF_congr (fun j h1 h2 => h j (by omega) (by omega))]
theorem cntF_le (p : Nat → Bool) : ∀ (k i : Nat), cntF p i k ≤ k
  | 0, _ => Nat.le_refl _
  | k + 1, i => by
    show (if p i then 1 else 0) + cntF p (i + 1) k ≤ k + 1
    have := cntF_le p k (i + 1)
    split <;> omega
theorem sumF_congr {p q : Nat → Int32} : ∀ {k i : Nat}, (∀ j, i ≤ j → j < i + k → p j = q j) → sumF p i k = sumF q i k
  | 0, _, _ => rfl
  | k + 1, i, h => by
    show p i + sumF p (i + 1) k = q i + sumF q (i + 1) k
    rw [h i (Nat.le_refl _) (by omega), sumF_congr (fun j h1 h2 => h j (by omega) (by omega))]
def bI (b : Bool) : Int32 := if b then iN 1 else iN 0
theorem bI_0 (b : Bool) : (bI b = iN 0) ↔ b = false := by cases b <;> decide
theorem bI_t : bI true = iN 1 := rfl
theorem bI_f : bI false = iN 0 := rfl
