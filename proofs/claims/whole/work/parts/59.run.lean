/-! the first world, and every step -/
def A0 : Ab := (fun t i _ => if 50 ≤ t ∧ t ≤ 54 then m0 t 0 i else if t = 55 then nO else 0, fun _ => [], fun _ => [], fun _ => 0)
theorem inv_0 : Inv W0 := by
  have n0 : nU A0 = 0 := rfl
  refine ⟨A0, ⟨?_, ?_, fun u hu => ?_, fun d hd => ?_, ⟨fun k hk => ?_, fun k hk => ?_⟩, fun d hd => ?_, ?_, fun d hd t ht => ?_⟩, ⟨?_, fun u hu => ?_, fun u hu => ?_, fun d hd => ?_, ⟨fun k hk => ?_, fun k hk => ?_⟩, fun d hd => ?_, fun d hd t ht => ?_, fun u _ hu => ?_⟩, ⟨by decide, by decide, by decide, fun u hu => ?_, fun d hd => ?_, fun d hd _ t ht => ?_⟩, ⟨fun d hd => ?_, fun u hu => ?_⟩⟩
  · exact ⟨rfl, rfl, rfl, rfl, fun j _ => rfl, fun j _ => rfl, fun h => absurd rfl h, fun h => absurd rfl h⟩
  · exact ⟨fun u hu => absurd hu (Nat.not_lt_zero _), fun i _ _ j _ => Nat.le_refl _⟩
  · exact absurd hu (Nat.not_lt_zero _)
  · exact absurd hd (Nat.not_lt_zero _)
  · have : k = 0 ∨ k = 1 ∨ k = 2 := by omega
    rcases this with rfl | rfl | rfl <;> decide
  · have : k = 0 ∨ k = 1 ∨ k = 2 ∨ k = 3 := by omega
    rcases this with rfl | rfl | rfl | rfl <;> decide
  · exact ⟨rfl, fun j x hx => by
      have hx : ([] : List Nat)[j]? = some x := hx
      simp at hx⟩
  · exact ⟨rfl, rfl, rfl, rfl⟩
  · rfl
  · exact ⟨rfl, rfl, rfl, rfl, rfl, rfl⟩
  · exact absurd hu (Nat.not_lt_zero _)
  · exact absurd hu (Nat.not_lt_zero _)
  · exact absurd hd (Nat.not_lt_zero _)
  · have : k = 0 ∨ k = 1 ∨ k = 2 := by omega
    rcases this with rfl | rfl | rfl <;> decide
  · have : k = 0 ∨ k = 1 ∨ k = 2 ∨ k = 3 := by omega
    rcases this with rfl | rfl | rfl | rfl <;> decide
  · exact ⟨rfl, fun j x hx => by
      have hx : ([] : List Nat)[j]? = some x := hx
      simp at hx⟩
  · rfl
  · exact ⟨rfl, fun k _ => ⟨rfl, rfl⟩⟩
  · exact absurd hu (Nat.not_lt_zero _)
  · exact absurd hd (Nat.not_lt_zero _)
  · rfl
  · exact ⟨List.nodup_nil, fun u hu => by cases hu⟩
  · exact absurd hu (Nat.not_lt_zero _)
theorem ite_ex {c : Prop} [Decidable c] {a b : Option Wd} (h1 : ∃ σ', a = some σ' ∧ Inv σ') (h2 : ∃ σ', b = some σ' ∧ Inv σ') : ∃ σ', (if c then a else b) = some σ' ∧ Inv σ' := by
  by_cases h : c
  · rw [if_pos h]; exact h1
  · rw [if_neg h]; exact h2
theorem every_step {σ : Wd} (I : Inv σ) (op w1 w2 w3 w4 w5 : Int32) : ∃ σ', step σ op w1 w2 w3 w4 w5 = some σ' ∧ Inv σ' := by
  unfold step
  refine ite_ex (st_unit I _ _) ?_
  refine ite_ex (st_diagram I _ _ _ _ _) ?_
  refine ite_ex (st_exam I _ _ _ _) ?_
  refine ite_ex (st_list I _ _ _) ?_
  refine ite_ex (st_fault I _ _ _ _) ?_
  refine ite_ex (st_pin I _ _) ?_
  refine ite_ex (st_whyNot I _ _) ?_
  refine ite_ex (st_allocation I _) ?_
  refine ite_ex (st_allocationAnew I _) ?_
  refine ite_ex (st_lack I) ?_
  refine ite_ex (st_day I) ?_
  refine ite_ex (st_examine I _ _) ?_
  refine ite_ex (st_lathe I _) ?_
  refine ite_ex (st_mend I _ _) ?_
  refine ite_ex (st_today I) ?_
  refine ite_ex (st_about I _ _) ?_
  refine ite_ex (st_clock I _ _ _) ?_
  refine ite_ex (st_axle I _ _) ?_
  refine ite_ex (st_faultAt I _ _ _) ?_
  refine ite_ex (st_stands I _ _) ?_
  refine ite_ex (st_shunts I) ?_
  refine ite_ex (st_ran I _ _) ?_
  refine ite_ex (st_kmAnew I _) ?_
  exact ⟨σ, rfl, I⟩
theorem every_run (xs : Nat → Int32) (L : Nat) : ∀ (n j : Nat) (σ : Wd), Inv σ → okRun xs L n j σ
  | 0, _, _, _ => trivial
  | n + 1, j, σ, I => fun _ => by
    obtain ⟨σ', h1, h2⟩ := every_step I (xs (6 * j) &&& 31) (xs (6 * j + 1)) (xs (6 * j + 2)) (xs (6 * j + 3)) (xs (6 * j + 4)) (xs (6 * j + 5))
    exact ⟨σ', h1, every_run xs L n (j + 1) σ' h2⟩
