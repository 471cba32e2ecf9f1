/-! things that are made while the world stands -/
theorem HW.ext {X : Xt} {ad ad' : Ad} {σ σ' : Wd} {H H2 : Heap} {ws : va_W} {key : Nat → Nat × Nat} (h : HW X ad σ H) (hz : X.2.2.2.1 ≤ H.size) (hP : va_P X.2.1 vwCl ws H2) (hD : va_D (fun q => H.size ≤ q) ws)
    (hall : ∀ t i, lvp σ' t i → (lvp σ t i ∧ ad' t i = ad t i ∧ va_at X.2.1 vwCl (ad t i, cellv X ad' σ' t i) H2) ∨ ∃ k, ws[k]? = some (ad' t i, cellv X ad' σ' t i) ∧ key k = (t, i)) : HW X ad' σ' H2 := by
  refine ⟨fun t i hl => ?_, fun t i t' i' h1 h2 h3 => ?_⟩
  · rcases hall t i hl with ⟨a1, a2, a3⟩ | ⟨k, a1, a2⟩
    · rw [a2]; exact ⟨a3, (h.1 t i a1).2⟩
    · exact ⟨hP k _ a1, Nat.le_trans hz (hD.2 k _ a1)⟩
  · rcases hall t i h1 with ⟨a1, a2, a3⟩ | ⟨k, a1, a2⟩ <;> rcases hall t' i' h2 with ⟨b1, b2, b3⟩ | ⟨k', b1, b2⟩
    · rw [a2, b2] at h3; exact h.2 t i t' i' a1 b1 h3
    · have c1 := (h.1 t i a1).1.lt
      have c2 := hD.2 k' _ b1
      rw [a2] at h3
      exact absurd (h3 ▸ c2) (Nat.not_le.mpr c1)
    · have c1 := (h.1 t' i' b1).1.lt
      have c2 := hD.2 k _ a1
      rw [b2] at h3
      exact absurd (h3 ▸ c2) (Nat.not_le.mpr c1)
    · have := hD.1 k k' _ _ a1 b1 h3
      subst this
      have e := a2.symm.trans b2
      exact ⟨congrArg Prod.fst e, congrArg Prod.snd e⟩
def adU (ad : Ad) (t i a : Nat) : Ad := fun t' i' => if t' = t ∧ i' = i then a else ad t' i'
theorem adU_self (ad : Ad) (t i a : Nat) : adU ad t i a t i = a := if_pos ⟨rfl, rfl⟩
theorem adU_ne (ad : Ad) {t i a t' i' : Nat} (h : ¬ (t' = t ∧ i' = i)) : adU ad t i a t' i' = ad t' i' := if_neg h
/-- one more of the things with numbers alone: a diagram (25, count 9), a fault (26, count 10) -/
def nuO (σ : Wd) (t c : Nat) : Wd := (fun t' i' k' => if t' = t ∧ i' = σ.2.2 c then 0 else σ.1 t' i' k', σ.2.1, fun q => if q = c then σ.2.2 c + 1 else σ.2.2 q)
theorem va_at_refs {X : Xt} {a N q : Nat} {f g : Nat → Option Nat} {H : Heap} (h : ∀ j, j < N → f j = g j) (hP : va_at X.2.1 vwCl (q, .inl (X.2.2.1 a, N, .inr (.inr (.inr (.inr f))))) H) : va_at X.2.1 vwCl (q, .inl (X.2.2.1 a, N, .inr (.inr (.inr (.inr g))))) H := by
  have h1 : H[q]? = some (vp_cell (X.2.2.1 a) (N, .inr (.inr (.inr (.inr f))))) := hP
  show H[q]? = some (vp_cell (X.2.2.1 a) (N, .inr (.inr (.inr (.inr g)))))
  rw [h1, vp_cell_q, vp_cell_q]
  refine congrArg some ?_
  unfold arrV
  congr 1
  apply Array.ext
  · simp
  · intro i h1 h2
    simp at h1
    simp [h i h1]
/-- nothing but the lists' rows speaks of diagrams and faults -/
theorem cellv_ad {X : Xt} {ad ad' : Ad} {σ : Wd} {t i : Nat} (h : ∀ t' i', t' ≠ 25 → t' ≠ 26 → ad' t' i' = ad t' i') (ht : t ≠ 27) : cellv X ad' σ t i = cellv X ad σ t i := by
  unfold cellv elA
  split <;> first | (exact absurd rfl ht) | (simp (disch := decide) only [h])
