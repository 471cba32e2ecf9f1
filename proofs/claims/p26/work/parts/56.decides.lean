/-! the reference decides -/
def Fs (σ σ' : Wd) : Prop := σ'.2 = σ.2 ∧ ∀ t, ¬ (58 ≤ t ∧ t ≤ 60) → σ'.1 t = σ.1 t
theorem Fs.rf (σ : Wd) : Fs σ σ := ⟨rfl, fun _ _ => rfl⟩
theorem Fs.tr {a b c : Wd} (h : Fs a b) (h2 : Fs b c) : Fs a c := ⟨h2.1.trans h.1, fun t x => (h2.2 t x).trans (h.2 t x)⟩
theorem Fs.wr {σ τ : Wd} (h : Fs σ τ) {t i k : Nat} {v : Int32} (ht : 58 ≤ t ∧ t ≤ 60) : Fs σ (wr τ t i k v) := by
  refine ⟨h.1, fun t' x => ?_⟩
  rw [← h.2 t' x]
  funext i' k'
  rw [wr_rd, if_neg (by omega)]
/-- what is ready for one UNIT -/
def rdy (A : Ab) (σ : Wd) (v : Nat) : Prop := σ.1 58 0 v = 0 ∧ σ.1 60 0 v = bI (soonS A v) ∧ ∀ d, d < nD A → σ.1 59 0 (6 * d + v) = bI (mayA A d v)
def fr0 (A : Ab) : Nat → Bool := fun u => decide (u < nU A)
/-- the best allocation of the morning -/
def bestA (A : Ab) : List Nat := PT (PA A) (nD A) 0 (fr0 A)
def Fdz (σ σ' : Wd) : Prop := σ'.2 = σ.2 ∧ (∀ t, t ≠ 30 → ¬ (56 ≤ t ∧ t ≤ 60) → σ'.1 t = σ.1 t) ∧ ∀ k, k ≠ 37 → k ≠ 38 → σ'.1 30 0 k = σ.1 30 0 k
theorem bestA_len (A : Ab) : (bestA A).length = nD A ∧ ∀ c, c ∈ bestA A → c ≤ nU A := En_len (PA A) (nD A) 0 (fr0 A) _ (PT_best (PA A) (nD A) 0 (fr0 A)).1.mem
