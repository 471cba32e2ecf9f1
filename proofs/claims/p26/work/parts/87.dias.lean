/-! the diagrams of the start -/
def S2 (σ : Wd) (A : Ab) (k : Nat) : Prop := RC σ A ∧ Gd A ∧ Gr A (fun _ => False) ∧ (nU A = 4 ∧ nD A = k ∧ nT A = 0) ∧ RBu σ A ∧ RBr σ A ∧ RBd σ A ∧ VA A ∧ VU A 4 ∧ (∀ d, d < k → (∃ c, 1 ≤ c ∧ c ≤ 2000 ∧ A.1 46 d 0 = iN c) ∧ A.1 49 d 0 = nO) ∧ (∀ j, j < k → σ.1 76 0 j = a0 50 j ∧ σ.1 76 0 (3 + j) = a0 51 j ∧ σ.1 76 0 (6 + j) = a0 52 j) ∧ ∀ x, 13 ≤ x → σ.1 76 0 x = iN 0
def exW (σ : Wd) (k : Nat) : Wd := wr (wr (wr σ 76 0 k (a0 50 k)) 76 0 (3 + k) (iN 10)) 76 0 (6 + k) (a0 52 k)
theorem exW_S (σ : Wd) (k : Nat) : LSw σ (exW σ k) := (((LSw.rf σ).wr (by decide)).wr (by decide)).wr (by decide)
theorem exW_off (σ : Wd) (k : Nat) {t : Nat} (ht : t ≠ 76) : (exW σ k).1 t = σ.1 t := by
  funext i x
  unfold exW
  rw [wr_rd, if_neg (by omega), wr_rd, if_neg (by omega), wr_rd, if_neg (by omega)]
theorem exW_76 (σ : Wd) (k x : Nat) : (exW σ k).1 76 0 x = if x = 6 + k then a0 52 k else if x = 3 + k then iN 10 else if x = k then a0 50 k else σ.1 76 0 x := by
  unfold exW
  rw [wr_rd, wr_rd, wr_rd]
  by_cases h1 : x = 6 + k
  · rw [if_pos ⟨rfl, rfl, h1⟩, if_pos h1]
  · rw [if_neg (by omega), if_neg h1]
    by_cases h2 : x = 3 + k
    · rw [if_pos ⟨rfl, rfl, h2⟩, if_pos h2]
    · rw [if_neg (by omega), if_neg h2]
      by_cases h3 : x = k
      · rw [if_pos ⟨rfl, rfl, h3⟩, if_pos h3]
      · rw [if_neg (by omega), if_neg h3]
theorem d_494 (L : Nat) (xs : Nat → Int32) (k233 : KQ) (σ : Wd) {k : Nat} (hk : k < 3) (a12 a11 a10 a9 : Int32) : j_L_law_494 L xs k233 σ (iN k) a12 a11 a10 a9 (iN 1) = k233 (exW σ k) (iN (k + 1)) (iN 1) a12 a11 a10 a9 := by
  have h3 : k = 0 ∨ k = 1 ∨ k = 2 := by omega
  rcases h3 with rfl | rfl | rfl
  · rfl
  · rfl
  · rfl
def dW (σ : Wd) (k : Nat) (a b c l w : Int32) : Wd := wr (wr (wr (wr (wr (wr σ 75 0 (6 * k) a) 75 0 (6 * k + 1) b) 75 0 (6 * k + 2) c) 75 0 (6 * k + 3) l) 75 0 (6 * k + 4) w) 75 0 (6 * k + 5) nO
theorem dW_S (σ : Wd) (k : Nat) (a b c l w : Int32) : LSw σ (dW σ k a b c l w) := ((((((LSw.rf σ).wr (by decide)).wr (by decide)).wr (by decide)).wr (by decide)).wr (by decide)).wr (by decide)
theorem dW_off (σ : Wd) (k : Nat) (a b c l w : Int32) {t : Nat} (ht : t ≠ 75) : (dW σ k a b c l w).1 t = σ.1 t := by
  funext i x
  unfold dW
  rw [wr_rd, if_neg (by omega), wr_rd, if_neg (by omega), wr_rd, if_neg (by omega), wr_rd, if_neg (by omega), wr_rd, if_neg (by omega), wr_rd, if_neg (by omega)]
theorem dW_far (σ : Wd) (k : Nat) (a b c l w : Int32) {x : Nat} (hx : x < 6 * k) : (dW σ k a b c l w).1 75 0 x = σ.1 75 0 x := by
  unfold dW
  rw [wr_rd, if_neg (by omega), wr_rd, if_neg (by omega), wr_rd, if_neg (by omega), wr_rd, if_neg (by omega), wr_rd, if_neg (by omega), wr_rd, if_neg (by omega)]
theorem dW_at (σ : Wd) (k : Nat) (a b c l w : Int32) : (dW σ k a b c l w).1 75 0 (6 * k) = a ∧ (dW σ k a b c l w).1 75 0 (6 * k + 1) = b ∧ (dW σ k a b c l w).1 75 0 (6 * k + 2) = c ∧ (dW σ k a b c l w).1 75 0 (6 * k + 3) = l ∧ (dW σ k a b c l w).1 75 0 (6 * k + 4) = w ∧ (dW σ k a b c l w).1 75 0 (6 * k + 5) = nO := by
  unfold dW
  refine ⟨?_, ?_, ?_, ?_, ?_, ?_⟩
  · rw [wr_rd, if_neg (by omega), wr_rd, if_neg (by omega), wr_rd, if_neg (by omega), wr_rd, if_neg (by omega), wr_rd, if_neg (by omega), wr_rd, if_pos ⟨rfl, rfl, rfl⟩]
  · rw [wr_rd, if_neg (by omega), wr_rd, if_neg (by omega), wr_rd, if_neg (by omega), wr_rd, if_neg (by omega), wr_rd, if_pos ⟨rfl, rfl, rfl⟩]
  · rw [wr_rd, if_neg (by omega), wr_rd, if_neg (by omega), wr_rd, if_neg (by omega), wr_rd, if_pos ⟨rfl, rfl, rfl⟩]
  · rw [wr_rd, if_neg (by omega), wr_rd, if_neg (by omega), wr_rd, if_pos ⟨rfl, rfl, rfl⟩]
  · rw [wr_rd, if_neg (by omega), wr_rd, if_pos ⟨rfl, rfl, rfl⟩]
  · rw [wr_rd, if_pos ⟨rfl, rfl, rfl⟩]
/-- the state that the five numbers of a diagram lead to -/
def Dgo (k233 : KQ) (σ : Wd) (A : Ab) (k : Nat) (a12 a11 a10 a9 : Int32) (g : Option Unit) : Prop := ∃ a b c l w : Nat, a < 3 ∧ b < 3 ∧ (1 ≤ c ∧ c ≤ 2000) ∧ l ≤ 2 ∧ (1 ≤ w ∧ w ≤ 100) ∧ ∃ σ', g = k233 (exW σ' k) (iN (k + 1)) (iN 1) a12 a11 a10 a9 ∧ CS (dW σ k (iN a) (iN b) (iN c) (iN l) (iN w)) σ' ∧ RC σ' (diA A (iN a) (iN b) (iN c) (iN l) (iN w)) ∧ Gd (diA A (iN a) (iN b) (iN c) (iN l) (iN w))
theorem d_411 (L : Nat) (xs : Nat → Int32) (k233 : KQ) {σ : Wd} {A : Ab} {k : Nat} (C : RC σ A) (G : Gd A) (nk : nD A = k) (hk : k < 3) {a b c l : Nat} (ha : a < 3) (hb : b < 3) (hc : 1 ≤ c ∧ c ≤ 2000) (hl : l ≤ 2) {M : Nat} (hM : 0 < M ∧ M ≤ 100) (x a12 a11 a10 a9 : Int32) : Dgo k233 σ A k a12 a11 a10 a9 (j_L_law_411 L xs k233 (wr (wr (wr (wr σ 75 0 (6 * k) (iN a)) 75 0 (6 * k + 1) (iN b)) 75 0 (6 * k + 2) (iN c)) 75 0 (6 * k + 3) (iN l)) (iN k) (iN 1) a12 a11 a10 a9 (iN M) x (iN 1) (iN (6 * k + 4))) := by
  have hw := upM_lt x (n := M) hM.1
  generalize hw' : upM x M = w' at *
  obtain ⟨q1, q2, q3, q4⟩ := z_diagram (C.ls (dW_S σ k (iN a) (iN b) (iN c) (iN l) (iN (1 + w')))) G (by omega) ha hb (w3 := iN c) (w4 := iN l) ⟨by rw [iN_lt (by omega) (by decide)]; omega, by show iN c ≤ iN 2000; rw [iN_le (by omega) (by decide)]; omega⟩ ⟨by rw [iN_lt (by omega) (by decide)]; omega, by rw [iN_le (by omega) (by decide)]; exact hl⟩ (w := 1 + w') (by omega) (by omega)
  rw [nk] at q1
  obtain ⟨p0, p1, p2, p3, p4, p5⟩ := dW_at σ k (iN a) (iN b) (iN c) (iN l) (iN (1 + w'))
  refine ⟨a, b, c, l, 1 + w', ha, hb, hc, hl, by omega, _, ?_, q2, q3, q4⟩
  rw [← d_494 L xs k233 _ hk]
  have hD : ∀ τ, τ = wr (wr (wr (wr σ 75 0 (6 * k) (iN a)) 75 0 (6 * k + 1) (iN b)) 75 0 (6 * k + 2) (iN c)) 75 0 (6 * k + 3) (iN l) → wr (wr τ 75 0 (6 * k + 4) (iN (1 + w'))) 75 0 (6 * k + 5) nO = dW σ k (iN a) (iN b) (iN c) (iN l) (iN (1 + w')) := fun τ h => by
    subst h
    rfl
  have n10 : ¬ iN 1 = iN 0 := by decide
  generalize wr (wr (wr (wr σ 75 0 (6 * k) (iN a)) 75 0 (6 * k + 1) (iN b)) 75 0 (6 * k + 2) (iN c)) 75 0 (6 * k + 3) (iN l) = τ at *
  have hD := hD τ rfl
  have hM0 := hM.1
  have hM1 := hM.2
  simp (disch := omega) only [gd_t, gd_T, bx_some, bx_thr, bd_def, nx_in, ↓nO_eq, l0, l1, l2, l3, l4, l5, l6, l7, l8, l9, l10, l12, l13, l16, l17, l18, l25, l30, l32, l33, l50, l64, l100, l200, l448, l1200, iN_add, iN_lt, iN_le, iN_inj, iN_clamp, iN_inb, iN_nO, nO_iN, nO_lt, iN_ltm, iN_lem, nO_le, iN_pred, if_pos, if_neg, ↓reduceIte, or_true, true_or, and_true, true_and, ne_eq, not_true_eq_false, not_false_eq_true, false_or, or_false, and_false, false_and, j_L_law_411, iN_mul, hw', hD, n10, p0, p1, p2, p3, p4, q1, bu_some, bv_some, l14, l20, l21, l31, l60, l67, l99, l300, l400, l1000, l1500, l2000, l3000, l9000, up_ok]
