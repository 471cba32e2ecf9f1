/-! what is told, one by one -/
def aw (A : Ab) (t i k : Nat) (v : Int32) : Ab := (fun t' i' k' => if t' = t ∧ i' = i ∧ k' = k then v else A.1 t' i' k', A.2)
theorem aw_rd (A : Ab) (t i k : Nat) (v : Int32) (t' i' k' : Nat) : (aw A t i k v).1 t' i' k' = if t' = t ∧ i' = i ∧ k' = k then v else A.1 t' i' k' := id rfl
theorem rg_in {σ : Wd} {p lo hi : Int32} (h1 : ¬ p < lo) (h2 : p ≤ hi) : f_X9_checkRange σ p lo hi = some (.inl (), σ) := by
  unfold f_X9_checkRange
  rw [if_neg h1, if_pos h2]
theorem rg_out {σ : Wd} {p lo hi : Int32} (h : ¬ (¬ p < lo ∧ p ≤ hi)) : f_X9_checkRange σ p lo hi = some (.inr "java/lang/IllegalArgumentException", σ) := by
  unfold f_X9_checkRange
  by_cases h1 : p < lo
  · rw [if_pos h1]
  · rw [if_neg h1, if_neg (fun h2 => h ⟨h1, h2⟩)]
/-! exam -/
def exA (A : Ab) (e : Nat) (a b c : Int32) : Ab := aw (aw (aw A 50 e 0 a) 51 e 0 b) 52 e 0 c
theorem ex_C {σ : Wd} {A : Ab} (C : RC σ A) {e : Nat} (he : e < 3) (a b c : Int32) : RC (wr (wr (wr σ 9 e 0 a) 9 e 1 b) 9 e 2 c) (exA A e a b c) := by
  obtain ⟨H, F, U, D, E, R1, S, L⟩ := C
  refine ⟨H, F, U, D, ⟨fun k hk => ?_, E.2⟩, R1, S, L⟩
  unfold exA
  by_cases h : k = e
  · subst h; simp [wr_rd, aw_rd]
  · simp [wr_rd, aw_rd, h, E.1 k hk]
theorem ex_b (A : Ab) (e : Nat) (a b c : Int32) : bnd (exA A e a b c) e = a + a * b / iN 100 := by
  unfold bnd exA
  simp [aw_rd]
/-! list -/
def liA (A : Ab) (e : Nat) (a b : Int32) : Ab := aw (aw A 53 e 0 a) 54 e 0 b
theorem li_C {σ : Wd} {A : Ab} (C : RC σ A) {e : Nat} (he : e < 4) (a b : Int32) : RC (wr (wr σ 11 e 0 a) 11 e 1 b) (liA A e a b) := by
  obtain ⟨H, F, U, D, E, R1, S, L⟩ := C
  refine ⟨H, F, U, D, ⟨E.1, fun k hk => ?_⟩, R1, S, L⟩
  unfold liA
  by_cases h : k = e
  · subst h; simp [wr_rd, aw_rd]
  · simp [wr_rd, aw_rd, h, E.2 k hk]
