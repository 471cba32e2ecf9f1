/-! the reference's search -/
def Fq (σ σ' : Wd) : Prop := σ'.2 = σ.2 ∧ (∀ t, t ≠ 30 → ¬ (56 ≤ t ∧ t ≤ 58) → σ'.1 t = σ.1 t) ∧ ∀ k, k ≠ 37 → k ≠ 38 → σ'.1 30 0 k = σ.1 30 0 k
theorem Fq.rf (σ : Wd) : Fq σ σ := ⟨rfl, fun _ _ _ => rfl, fun _ _ _ => rfl⟩
theorem Fq.tr {a b c : Wd} (h : Fq a b) (h2 : Fq b c) : Fq a c := ⟨h2.1.trans h.1, fun t x y => (h2.2.1 t x y).trans (h.2.1 t x y), fun k x y => (h2.2.2 k x y).trans (h.2.2 k x y)⟩
theorem Fq.wr {σ τ : Wd} (h : Fq σ τ) {t i k : Nat} {v : Int32} (ht : 56 ≤ t ∧ t ≤ 58) : Fq σ (wr τ t i k v) := by
  refine ⟨h.1, fun t' x y => ?_, fun k' x y => ?_⟩
  · rw [← h.2.1 t' x y]
    funext i' k'
    rw [wr_rd, if_neg (by omega)]
  · rw [wr_rd, if_neg (by omega)]
    exact h.2.2 k' x y
theorem Acc.fr {σ τ : Wd} {A : Ab} {acc : Option (List Nat)} (h : Acc A σ acc) (h1 : τ.1 30 = σ.1 30) (h2 : τ.1 56 = σ.1 56) : Acc A τ acc := by
  unfold Acc at h ⊢
  rw [h1, h2]
  exact h
def Go (t : Nat) (a b : Nat → Option ((Unit ⊕ String) × Wd)) : Prop := ∀ F, a (F + t) = b F
theorem Go.tr {t1 t2 : Nat} {a b c : Nat → Option ((Unit ⊕ String) × Wd)} (h1 : Go t1 a b) (h2 : Go t2 b c) : Go (t1 + t2) a c := fun F => by
  have e : F + (t1 + t2) = (F + t2) + t1 := by omega
  rw [e, h1, h2]
theorem Trd.app {σ : Wd} {p : List Nat} {c : Nat} (h : Trd σ p) (hc : σ.1 57 0 p.length = iN c) : Trd σ (p ++ [c]) := by
  intro d x hx
  by_cases hd : d < p.length
  · rw [List.getElem?_append_left hd] at hx
    exact h d x hx
  · have hlt := (List.getElem?_eq_some_iff.mp hx).1
    rw [List.length_append] at hlt
    simp at hlt
    have : d = p.length := by omega
    subst this
    rw [List.getElem?_append_right (Nat.le_refl _), Nat.sub_self] at hx
    cases hx
    exact hc
theorem Trd.pre {σ : Wd} {p q : List Nat} (h : Trd σ (p ++ q)) : Trd σ p := fun d x hx => h d x (by
  have hlt := (List.getElem?_eq_some_iff.mp hx).1
  rw [List.getElem?_append_left hlt]
  exact hx)
theorem Trd.wr {σ : Wd} {p : List Nat} (h : Trd σ p) {d : Nat} {v : Int32} (hd : p.length ≤ d) : Trd (wr σ 57 0 d v) p := fun e x hx => by
  have hlt := (List.getElem?_eq_some_iff.mp hx).1
  rw [wr_rd, if_neg (by omega)]
  exact h e x hx
def Bd : Nat → Nat
  | 0 => 0
  | k + 1 => 8 + 7 * Bd k
theorem rm_58 {A : Ab} {σ : Wd} {fr : Nat → Bool} (hf : ∀ u, u < nU A → σ.1 58 0 u = bI (!fr u)) (u : Nat) (hu : fr u = true) : ∀ x, x < nU A → (wr σ 58 0 u (iN 1)).1 58 0 x = bI (!rm fr u x) := fun x hx => by
  unfold rm
  rw [wr_rd]
  by_cases h : x = u
  · rw [if_pos ⟨rfl, rfl, h⟩, h]
    simp
    rfl
  · rw [if_neg (fun z => h z.2.2), hf x hx]
    simp [h]
theorem un_58 {A : Ab} {σ : Wd} {fr : Nat → Bool} {u : Nat} (hu : fr u = true) (hf : ∀ x, x < nU A → σ.1 58 0 x = bI (!rm fr u x)) : ∀ x, x < nU A → (wr σ 58 0 u (iN 0)).1 58 0 x = bI (!fr x) := fun x hx => by
  rw [wr_rd]
  by_cases h : x = u
  · rw [if_pos ⟨rfl, rfl, h⟩, h, hu]; rfl
  · rw [if_neg (fun z => h z.2.2), hf x hx]
    unfold rm
    simp [h]
