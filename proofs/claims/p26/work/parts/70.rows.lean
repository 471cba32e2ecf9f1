/-! the law's rows hold the value -/
theorem l9 : (9 : Int32) = iN 9 := id rfl
theorem l10 : (10 : Int32) = iN 10 := id rfl
theorem l12 : (12 : Int32) = iN 12 := id rfl
theorem l13 : (13 : Int32) = iN 13 := id rfl
theorem l16 : (16 : Int32) = iN 16 := id rfl
theorem l17 : (17 : Int32) = iN 17 := id rfl
theorem l18 : (18 : Int32) = iN 18 := id rfl
theorem l25 : (25 : Int32) = iN 25 := id rfl
theorem l32 : (32 : Int32) = iN 32 := id rfl
theorem l33 : (33 : Int32) = iN 33 := id rfl
def RBu (σ : Wd) (A : Ab) : Prop := ∀ u, u < nU A → σ.1 71 0 (16 * u) = A.1 31 u 0 ∧ σ.1 71 0 (16 * u + 1) = A.1 33 u 0 ∧ (∀ a, a < 4 → σ.1 71 0 (16 * u + 2 + a) = A.1 34 u a) ∧ (∀ k, k < 3 → σ.1 71 0 (16 * u + 6 + k) = A.1 35 u k) ∧ (∀ k, k < 3 → σ.1 71 0 (16 * u + 9 + k) = A.1 36 u k) ∧ σ.1 71 0 (16 * u + 12) = iN (fl A u).length
def RBf (σ : Wd) (A : Ab) : Prop := ∀ u, u < nU A → ∀ j f, (fl A u)[j]? = some f → σ.1 72 0 (8 * u + j) = f.1 ∧ σ.1 72 0 (32 + (8 * u + j)) = f.2.1 ∧ σ.1 73 0 (8 * u + j) = f.2.2.1 ∧ σ.1 73 0 (32 + (8 * u + j)) = f.2.2.2
def RBr (σ : Wd) (A : Ab) : Prop := ∀ d, d < 3 → σ.1 74 0 (12 + d) = iN (rw_ A d).length ∧ ∀ j x, (rw_ A d)[j]? = some x → σ.1 74 0 (4 * d + j) = iN x
def RBd (σ : Wd) (A : Ab) : Prop := ∀ d, d < nD A → σ.1 75 0 (6 * d) = A.1 44 d 0 ∧ σ.1 75 0 (6 * d + 1) = A.1 45 d 0 ∧ σ.1 75 0 (6 * d + 2) = A.1 46 d 0 ∧ σ.1 75 0 (6 * d + 3) = A.1 47 d 0 ∧ σ.1 75 0 (6 * d + 4) = A.1 48 d 0 ∧ σ.1 75 0 (6 * d + 5) = A.1 49 d 0
def RBe (σ : Wd) (A : Ab) : Prop := (∀ k, k < 3 → σ.1 76 0 k = A.1 50 k 0 ∧ σ.1 76 0 (3 + k) = A.1 51 k 0 ∧ σ.1 76 0 (6 + k) = A.1 52 k 0) ∧ ∀ k, k < 4 → σ.1 76 0 (9 + k) = A.1 53 k 0 ∧ σ.1 76 0 (13 + k) = A.1 54 k 0
def RB (σ : Wd) (A : Ab) : Prop := RBu σ A ∧ RBf σ A ∧ RBr σ A ∧ RBd σ A ∧ RBe σ A
theorem RB.fr {σ τ : Wd} {A : Ab} (h : RB σ A) (h1 : ∀ t, 71 ≤ t → t ≤ 76 → τ.1 t = σ.1 t) : RB τ A := by
  have e1 := h1 71 (by decide) (by decide)
  have e2 := h1 72 (by decide) (by decide)
  have e3 := h1 73 (by decide) (by decide)
  have e4 := h1 74 (by decide) (by decide)
  have e5 := h1 75 (by decide) (by decide)
  have e6 := h1 76 (by decide) (by decide)
  unfold RB RBu RBf RBr RBd RBe
  rw [e1, e2, e3, e4, e5, e6]
  exact h
theorem RB.cs {σ τ : Wd} {A : Ab} (h : RB σ A) (h1 : CS σ τ) : RB τ A := h.fr (fun t ht _ => h1 t (by omega))
/-- what a value keeps over t acts -/
def GxN (A : Ab) : Prop := nU A = 4 ∧ nD A = 3
def GqA (A : Ab) (m : Nat) : Prop := ∀ u, u < 4 → (∀ k, k < 3 → ∃ c, c ≤ 2000 * m ∧ A.1 35 u k = iN c) ∧ (∀ a, a < 4 → ∃ z : Int, -200 * (m : Int) ≤ z ∧ z ≤ 900 ∧ A.1 34 u a = iZ z) ∧ (∃ c, c ≤ 3000 + 2000 * m ∧ A.1 33 u 0 = iN c) ∧ ∀ f, f ∈ fl A u → f.1 = iN 0 → ∃ q, q ≤ 20 ∧ f.2.2.2 = iN q
def Gxk (A : Ab) (t : Nat) : Prop := GqA A (3 * t)
def Gxe (A : Ab) : Prop := (∀ k, k < 3 → ∃ l, l ≤ 10000 ∧ A.1 50 k 0 = iN l) ∧ ∀ k, k < 4 → A.1 53 k 0 = nO ∨ ∃ m, m ≤ 30 ∧ A.1 53 k 0 = iN m
def Gxd (A : Ab) : Prop := ∀ d, d < 3 → (∃ c, 1 ≤ c ∧ c ≤ 2000 ∧ A.1 46 d 0 = iN c) ∧ (A.1 49 d 0 = nO ∨ ∃ u, u < 4 ∧ A.1 49 d 0 = iN u)
def Gxr (A : Ab) : Prop := (∀ d, d < 3 → ∀ t, nT A ≤ t → t < 200 → A.1 55 d t = nO) ∧ ∀ u, u < 4 → A.1 33 u 0 = A.1 32 u 0 + sumF (kmD A u) 0 3
def Gx (A : Ab) (t : Nat) : Prop := GxN A ∧ nT A ≤ t ∧ Gxk A t ∧ Gxe A ∧ Gxd A ∧ Gxr A
/-! soon -/
theorem s_soon1 {σ : Wd} {A : Ab} (B : RB σ A) {t : Nat} (ht : t ≤ 60) (g4 : GxN A) (gk : Gxk A t) (ge : Gxe A) {u : Nat} (hu : u < 4) {k : Nat} (hk : k < 3) (acc : Bool) (n : Nat) : l_L_soon_5 (n + 1) σ (iN k) (bI acc) (iN u) = l_L_soon_5 n σ (iN (k + 1)) (bI (acc || soon1 A u k)) (iN u) := by
  obtain ⟨U, F, R, D, E1, E2⟩ := B
  have e0 := (E1 k hk).1
  have u5 := (U u (by rw [g4.1]; exact hu)).2.2.2.1 k hk
  obtain ⟨c, hc, hc2⟩ := (gk u hu).1 k hk
  obtain ⟨l, hl, hl2⟩ := ge.1 k hk
  have hs : soon1 A u k = decide (80 * l ≤ c * 100) := by
    unfold soon1
    rw [hc2, hl2, show (80 : Int32) = iN 80 from rfl, iN_mul, iN_mul]
    exact decide_eq_decide.mpr (iN_le (by omega) (by omega))
  rw [hs]
  rw [hc2] at u5
  rw [hl2] at e0
  cases acc
  · by_cases h1 : c * 5 < 4 * l
    · have h2 : ¬ 80 * l ≤ c * 100 := by omega
      simp (disch := omega) only [gd_t, gd_T, bx_some, bx_thr, bd_def, nx_in, ↓nO_eq, l0, l1, l2, l3, l4, l5, l6, l7, l8, l9, l10, l12, l13, l16, l17, l18, l25, l30, l32, l33, l50, l64, l100, l200, l448, l1200, iN_add, iN_lt, iN_le, iN_inj, iN_clamp, iN_inb, iN_nO, nO_iN, nO_lt, iN_ltm, iN_lem, nO_le, iN_pred, if_pos, if_neg, ↓reduceIte, or_true, true_or, and_true, true_and, ne_eq, not_true_eq_false, not_false_eq_true, false_or, or_false, and_false, false_and, l_L_soon_5, iN_mul, u5, e0, h1, h2, bI_f, decide_false, Bool.false_or]
    · have h2 : 80 * l ≤ c * 100 := by omega
      simp (disch := omega) only [gd_t, gd_T, bx_some, bx_thr, bd_def, nx_in, ↓nO_eq, l0, l1, l2, l3, l4, l5, l6, l7, l8, l9, l10, l12, l13, l16, l17, l18, l25, l30, l32, l33, l50, l64, l100, l200, l448, l1200, iN_add, iN_lt, iN_le, iN_inj, iN_clamp, iN_inb, iN_nO, nO_iN, nO_lt, iN_ltm, iN_lem, nO_le, iN_pred, if_pos, if_neg, ↓reduceIte, or_true, true_or, and_true, true_and, ne_eq, not_true_eq_false, not_false_eq_true, false_or, or_false, and_false, false_and, l_L_soon_5, iN_mul, u5, e0, h1, h2, bI_f, bI_t, decide_true, Bool.false_or]
  · simp (disch := omega) only [gd_t, gd_T, bx_some, bx_thr, bd_def, nx_in, ↓nO_eq, l0, l1, l2, l3, l4, l5, l6, l7, l8, l9, l10, l12, l13, l16, l17, l18, l25, l30, l32, l33, l50, l64, l100, l200, l448, l1200, iN_add, iN_lt, iN_le, iN_inj, iN_clamp, iN_inb, iN_nO, nO_iN, nO_lt, iN_ltm, iN_lem, nO_le, iN_pred, if_pos, if_neg, ↓reduceIte, or_true, true_or, and_true, true_and, ne_eq, not_true_eq_false, not_false_eq_true, false_or, or_false, and_false, false_and, l_L_soon_5, bI_t, Bool.true_or]
theorem s_soon {σ : Wd} {A : Ab} (B : RB σ A) {t : Nat} (ht : t ≤ 60) (g4 : GxN A) (gk : Gxk A t) (ge : Gxe A) {u : Nat} (hu : u < 4) : f_L_soon σ (iN u) = some (.inl (bI (soonS A u)), σ) := by
  obtain ⟨m, hm⟩ := FU_ge 4 (by decide)
  unfold f_L_soon
  rw [hm, show (0 : Int32) = iN 0 from rfl]
  have h0 := s_soon1 B ht g4 gk ge hu (by decide : 0 < 3) false (m + 3)
  have h1 := s_soon1 B ht g4 gk ge hu (by decide : 1 < 3) (false || soon1 A u 0) (m + 2)
  have h2 := s_soon1 B ht g4 gk ge hu (by decide : 2 < 3) ((false || soon1 A u 0) || soon1 A u 1) (m + 1)
  refine h0.trans (h1.trans (h2.trans ?_))
  unfold soonS
  rw [Bool.false_or]
  generalize (soon1 A u 0 || soon1 A u 1 || soon1 A u 2) = b
  cases b <;> simp (disch := omega) only [gd_t, gd_T, bx_some, bx_thr, bd_def, nx_in, ↓nO_eq, l0, l1, l2, l3, l4, l5, l6, l7, l8, l9, l10, l12, l13, l16, l17, l18, l25, l30, l32, l33, l50, l64, l100, l200, l448, l1200, iN_add, iN_lt, iN_le, iN_inj, iN_clamp, iN_inb, iN_nO, nO_iN, nO_lt, iN_ltm, iN_lem, nO_le, iN_pred, if_pos, if_neg, ↓reduceIte, or_true, true_or, and_true, true_and, ne_eq, not_true_eq_false, not_false_eq_true, false_or, or_false, and_false, false_and, l_L_soon_5, bI_t, bI_f, iN_inj]
/-! up -/
def upM (v : Int32) (n : Nat) : Nat := v.toUInt32.toNat / 4 % n
theorem up_sh (v : Int32) : (v.toUInt32 >>> ((2 : Int32).toUInt32 &&& Int32.toUInt32 31)).toInt32 = iN (v.toUInt32.toNat / 4) := by
  have h : (v.toUInt32 >>> ((2 : Int32).toUInt32 &&& Int32.toUInt32 31)).toNat = v.toUInt32.toNat / 4 := by
    rw [UInt32.toNat_shiftRight, show ((2 : Int32).toUInt32 &&& Int32.toUInt32 31).toNat % 32 = 2 by decide, Nat.shiftRight_eq_div_pow]
  rw [← h]
  generalize (v.toUInt32 >>> ((2 : Int32).toUInt32 &&& Int32.toUInt32 31)) = w
  unfold iN
  apply Int32.toBitVec_inj.mp
  show w.toBitVec = BitVec.ofNat 32 w.toNat
  apply BitVec.eq_of_toNat_eq
  rw [BitVec.toNat_ofNat]
  exact (Nat.mod_eq_of_lt w.toNat_lt).symm
theorem up_ok {σ : Wd} {v : Int32} {n : Nat} (h0 : 0 < n) (hn : n < 1000000) : f_L_up σ v (iN n) = some (.inl (iN (upM v n)), σ) := by
  have hv : v.toUInt32.toNat / 4 < 2147483648 := by
    have := v.toUInt32.toNat_lt
    omega
  have hne : ¬ iN n = 0 := by
    rw [l0, iN_inj (by omega) (by decide)]
    omega
  unfold f_L_up upM
  rw [up_sh, gd_t hne, iN_div hv (by omega), iN_mul, iN_sub (Nat.div_mul_le_self _ _), Nat.mod_eq_sub_div_mul]
theorem upM_lt (v : Int32) {n : Nat} (h0 : 0 < n) : upM v n < n := Nat.mod_lt _ h0
