/-! the first state holds the first value -/
def A0 : Ab := (fun t i _ => if 50 ≤ t ∧ t ≤ 55 then a0 t i else iN 0, fun _ => [], fun _ => [], fun _ => 0)
theorem w_first : S1 W0 A0 0 := by
  refine ⟨⟨?_, ?_, fun u hu => ?_, fun d hd => ?_, ⟨fun k hk => ?_, fun k hk => ?_⟩, fun d hd => ?_, ?_, fun d hd t ht => ?_⟩, ⟨by decide, by decide, by decide, fun u hu => ?_, fun d hd => ?_, fun d hd _ t ht => ?_⟩, ⟨fun d hd => ?_, fun u hu => ?_⟩, ⟨rfl, rfl, rfl⟩, fun u hu => ?_, fun d hd => ?_, ⟨fun t h1 h2 i k => ?_, fun i => ?_⟩, fun u hu => ?_, fun d hd => ?_, fun x hx => ?_, fun x hx => ?_⟩
  · exact ⟨rfl, rfl, rfl, rfl, fun j _ => rfl, fun j _ => rfl, fun h => absurd rfl h, fun h => absurd rfl h⟩
  · exact ⟨fun u hu => absurd hu (Nat.not_lt_zero _), fun i _ _ j _ => Nat.le_refl _⟩
  · exact absurd hu (Nat.not_lt_zero _)
  · exact absurd hd (Nat.not_lt_zero _)
  · have : k = 0 ∨ k = 1 ∨ k = 2 := by omega
    rcases this with rfl | rfl | rfl <;> decide
  · have : k = 0 ∨ k = 1 ∨ k = 2 ∨ k = 3 := by omega
    rcases this with rfl | rfl | rfl | rfl <;> decide
  · exact ⟨rfl, fun j x hx => by
      have hx : ([] : List Nat)[j]? = some x := hx
      simp at hx⟩
  · exact ⟨rfl, rfl, rfl, rfl⟩
  · rfl
  · exact absurd hu (Nat.not_lt_zero _)
  · exact absurd hd (Nat.not_lt_zero _)
  · rfl
  · exact ⟨List.nodup_nil, fun u hu => by cases hu⟩
  · exact absurd hu (Nat.not_lt_zero _)
  · exact absurd hu (Nat.not_lt_zero _)
  · have : d = 0 ∨ d = 1 ∨ d = 2 := by omega
    rcases this with rfl | rfl | rfl <;> exact ⟨rfl, fun j x hx => by
      have hx : ([] : List Nat)[j]? = some x := hx
      simp at hx⟩
  · exact if_pos ⟨h1, h2⟩
  · rfl
  · exact absurd hu (Nat.not_lt_zero _)
  · exact Nat.le_refl _
  · rfl
  · rfl
