/-! how a row of instructions' function is read -/
theorem gd_t {β : Type} {c : Prop} [Decidable c] (h : c) (k : Option β) : gd c k = k := if_pos h
theorem gd_T {β : Type} [Decidable True] (k : Option β) : gd True k = k := if_pos trivial
theorem bd_def {β γ : Type} (x : β) (k : β → γ) : bd x k = k x := id rfl
theorem bx_some {β α : Type} (v : β) (σ1 : Wd) (k : β → Wd → Option ((α ⊕ String) × Wd)) : bx (some (.inl v, σ1)) k = k v σ1 := id rfl
theorem bx_thr {β α : Type} (E : String) (σ1 : Wd) (k : β → Wd → Option ((α ⊕ String) × Wd)) : bx (some (.inr E, σ1)) k = some (.inr E, σ1) := id rfl
theorem nx_in {α : Type} (v : α) (σ1 : Wd) : nx (some (.inl v, σ1)) = (some (.inl v, σ1) : Option ((α ⊕ String) × Wd)) := id rfl
/-! one value for both halves: numbers by (what, index, slot), the FAULTS of each, the rows, how many there are -/
abbrev Fa : Type := Int32 × Int32 × Int32 × Int32
abbrev Ab : Type := (Nat → Nat → Nat → Int32) × (Nat → List Fa) × (Nat → List Nat) × (Nat → Nat)
abbrev nU (A : Ab) : Nat := A.2.2.2 0
abbrev nD (A : Ab) : Nat := A.2.2.2 1
abbrev nT (A : Ab) : Nat := A.2.2.2 2
abbrev fl (A : Ab) : Nat → List Fa := A.2.1
abbrev rw_ (A : Ab) : Nat → List Nat := A.2.2.1
def rdF (σ : Wd) (x : Nat) : Fa := (σ.1 26 x 0, σ.1 26 x 1, σ.1 26 x 2, σ.1 26 x 3)
def RCl (σ : Wd) (A : Ab) : Prop := σ.2.2 8 = nU A ∧ σ.2.2 9 = nD A ∧ σ.1 1 0 2 = iN (nU A) ∧ σ.1 1 1 2 = iN (nD A) ∧ (∀ j, j < 10 → σ.2.1 0 j = if j < nU A then j + 1 else 0) ∧ (∀ j, j < 10 → σ.2.1 1 j = if j < nD A then j + 1 else 0) ∧ (nU A ≠ 0 → σ.2.2 20 ≠ 0) ∧ (nD A ≠ 0 → σ.2.2 21 ≠ 0)
def RCf (σ : Wd) (A : Ab) : Prop := (∀ u, u < nU A → σ.1 1 (u + 2) 2 = iN (fl A u).length ∧ (fl A u ≠ [] → σ.2.2 (20 + (u + 2)) ≠ 0) ∧ ∀ j f, (fl A u)[j]? = some f → σ.2.1 (u + 2) j ≠ 0 ∧ σ.2.1 (u + 2) j - 1 < σ.2.2 10 ∧ rdF σ (σ.2.1 (u + 2) j - 1) = f) ∧ ∀ i, 2 ≤ i → i < 8 → ∀ j, j < 10 → σ.2.1 i j ≤ σ.2.2 10
def RCu (σ : Wd) (A : Ab) : Prop := ∀ u, u < nU A → σ.1 21 u 0 = A.1 32 u 0 ∧ σ.1 21 u 2 = A.1 31 u 0 ∧ σ.1 21 u 3 = A.1 33 u 0 ∧ (∀ k, k < 3 → σ.1 22 u k = A.1 35 u k) ∧ (∀ k, k < 3 → σ.1 23 u k = A.1 36 u k) ∧ ∀ a, a < 4 → σ.1 24 u a = A.1 34 u a
def RCd (σ : Wd) (A : Ab) : Prop := ∀ d, d < nD A → σ.1 25 d 0 = A.1 44 d 0 ∧ σ.1 25 d 1 = A.1 45 d 0 ∧ σ.1 25 d 2 = A.1 46 d 0 ∧ σ.1 25 d 3 = A.1 47 d 0 ∧ σ.1 25 d 4 = A.1 48 d 0 ∧ σ.1 25 d 5 = A.1 49 d 0
def RCe (σ : Wd) (A : Ab) : Prop := (∀ k, k < 3 → σ.1 9 k 0 = A.1 50 k 0 ∧ σ.1 9 k 1 = A.1 51 k 0 ∧ σ.1 9 k 2 = A.1 52 k 0) ∧ ∀ k, k < 4 → σ.1 11 k 0 = A.1 53 k 0 ∧ σ.1 11 k 1 = A.1 54 k 0
def RCr (σ : Wd) (A : Ab) : Prop := ∀ d, d < 3 → σ.1 5 d 1 = iN (rw_ A d).length ∧ ∀ j x, (rw_ A d)[j]? = some x → σ.1 6 d j = iN x
def RCs (σ : Wd) (A : Ab) : Prop := σ.1 0 0 6 = iN (nT A) ∧ σ.1 0 0 7 = A.1 30 2 0 ∧ σ.1 0 0 8 = A.1 30 3 0 ∧ σ.1 0 0 9 = A.1 30 4 0
def RCg (σ : Wd) (A : Ab) : Prop := ∀ d, d < 6 → ∀ t, t < 200 → σ.1 20 0 (6 * t + d) = A.1 55 d t
def RC (σ : Wd) (A : Ab) : Prop := RCl σ A ∧ RCf σ A ∧ RCu σ A ∧ RCd σ A ∧ RCe σ A ∧ RCr σ A ∧ RCs σ A ∧ RCg σ A
/-- what always holds of the value -/
def Gd (A : Ab) : Prop := nU A ≤ 6 ∧ nD A ≤ 6 ∧ nT A ≤ 200 ∧ (∀ u, u < nU A → (fl A u).length ≤ 8 ∧ ∀ f, f ∈ fl A u → (∃ κ, κ < 4 ∧ f.1 = iN κ) ∧ (f.1 = iN 0 → ∃ a, a < 4 ∧ f.2.2.1 = iN a)) ∧ (∀ d, d < nD A → (∃ x, x < 3 ∧ A.1 45 d 0 = iN x) ∧ ∃ w, 1 ≤ w ∧ w ≤ 100 ∧ A.1 48 d 0 = iN w) ∧ ∀ d, d < 6 → nD A ≤ d → ∀ t, t < 200 → A.1 55 d t = nO
/-- the rows: each UNIT that is in stands once, at its DEPOT -/
def Gr (A : Ab) (away : Nat → Prop) : Prop := (∀ d, d < 3 → (rw_ A d).Nodup ∧ ∀ u, u ∈ rw_ A d → u < nU A ∧ A.1 31 u 0 = iN d ∧ ¬ away u) ∧ ∀ u, u < nU A → ∃ d, d < 3 ∧ A.1 31 u 0 = iN d ∧ (away u ∨ u ∈ rw_ A d)
theorem RC.fr {σ τ : Wd} {A : Ab} (h : RC σ A) (h1 : ∀ t, t < 30 → τ.1 t = σ.1 t) (h2 : τ.2 = σ.2) : RC τ A := by
  unfold RC RCl RCf RCu RCd RCe RCr RCs RCg rdF at h ⊢
  rw [h2, h1 1 (by decide), h1 26 (by decide), h1 21 (by decide), h1 22 (by decide), h1 23 (by decide), h1 24 (by decide), h1 25 (by decide), h1 9 (by decide), h1 11 (by decide), h1 5 (by decide), h1 6 (by decide), h1 0 (by decide), h1 20 (by decide)]
  exact h
