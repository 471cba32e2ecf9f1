theorem wr_wr (σ : Wd) (t i k : Nat) (a b : Int32) : wr (wr σ t i k a) t i k b = wr σ t i k b := by
  unfold wr
  refine Prod.ext ?_ rfl
  funext t' i' k'
  show (if t' = t ∧ i' = i ∧ k' = k then b else (if t' = t ∧ i' = i ∧ k' = k then a else σ.1 t' i' k')) = if t' = t ∧ i' = i ∧ k' = k then b else σ.1 t' i' k'
  by_cases h : t' = t ∧ i' = i ∧ k' = k
  · rw [if_pos h, if_pos h]
  · rw [if_neg h, if_neg h, if_neg h]
def fM (τ : Wd) (u L : Nat) (f : Fa) : Wd := wr (wr (wr (wr (wr (wr τ 30 0 0 0) 40 0 (8 * u + L) f.1) 41 0 (8 * u + L) f.2.1) 42 0 (8 * u + L) f.2.2.1) 43 0 (8 * u + L) f.2.2.2) 39 0 u (iN (L + 1))
theorem fM_off (τ : Wd) (u L : Nat) (f : Fa) {t : Nat} (h : t ≠ 30 ∧ ¬ (39 ≤ t ∧ t ≤ 43)) : (fM τ u L f).1 t = τ.1 t := by
  funext i k
  unfold fM
  rw [wr_rd, if_neg (by omega), wr_rd, if_neg (by omega), wr_rd, if_neg (by omega), wr_rd, if_neg (by omega), wr_rd, if_neg (by omega), wr_rd, if_neg (by omega)]
/-! the second half's -/
theorem fa_G {A : Ab} (G : Gd A) {u κ : Nat} (hu : u < nU A) (hκ : κ < 4) (h8 : (fl A u).length < 8) {w a : Int32} (hw : κ ≤ 1 → ∃ x, x < 4 ∧ w = iN x) (T : Nat) : Gd (faA A u (fT κ T w a)) := by
  obtain ⟨g1, g2, g3, g4, g5, g6⟩ := G
  refine ⟨g1, g2, g3, fun v hv => ?_, g5, g6⟩
  have hfl : fl (faA A u (fT κ T w a)) v = if v = u then fl A u ++ [fT κ T w a] else fl A v := rfl
  rw [hfl]
  by_cases h : v = u
  · subst h
    rw [if_pos rfl, List.length_append]
    refine ⟨by simp; omega, fun f hf => ?_⟩
    rcases List.mem_append.mp hf with h | h
    · exact (g4 v hv).2 f h
    · simp at h
      subst h
      refine ⟨⟨κ, hκ, rfl⟩, fun h0 => ?_⟩
      have h0 : iN κ = iN 0 := h0
      rw [iN_inj (by omega) (by decide)] at h0
      obtain ⟨x, hx, hx2⟩ := hw (by omega)
      refine ⟨x, hx, ?_⟩
      show (if κ ≤ 1 then w else nO) = _
      rw [if_pos (by omega), hx2]
  · rw [if_neg h]
    exact g4 v hv
