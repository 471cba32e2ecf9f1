/-! one call of both -/
theorem wr_rd (σ : Wd) (t i k : Nat) (v : Int32) (t' i' k' : Nat) : (wr σ t i k v).1 t' i' k' = if t' = t ∧ i' = i ∧ k' = k then v else σ.1 t' i' k' := id rfl
theorem wr_two (σ : Wd) (t i k : Nat) (v : Int32) : (wr σ t i k v).2 = σ.2 := id rfl
/-! the short questions -/
theorem ne_lit {p : Int32} {n : Nat} (hp : p < iN 0 ∨ ¬ p < iN 0 ∧ iN n ≤ p) (hn : n < 2147483648) {k : Nat} (hk : k < n) : ¬ p = iN k := by
  rintro rfl
  rcases hp with h | ⟨h, h2⟩
  · rw [iN_lt (by omega) (by decide)] at h; omega
  · rw [iN_le (by omega) (by omega)] at h2; omega
