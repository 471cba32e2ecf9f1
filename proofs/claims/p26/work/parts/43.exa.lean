theorem RCl.fr {σ τ : Wd} {A : Ab} (h : RCl σ A) (h1 : τ.1 1 = σ.1 1) (h2 : τ.2 = σ.2) : RCl τ A := by
  unfold RCl at h ⊢
  rw [h1, h2]; exact h
theorem RCf.fr {σ τ : Wd} {A : Ab} (h : RCf σ A) (h1 : τ.1 1 = σ.1 1) (h26 : τ.1 26 = σ.1 26) (h2 : τ.2 = σ.2) : RCf τ A := by
  unfold RCf rdF at h ⊢
  rw [h1, h26, h2]; exact h
theorem RCu.fr {σ τ : Wd} {A : Ab} (h : RCu σ A) (h1 : τ.1 21 = σ.1 21) (h2 : τ.1 22 = σ.1 22) (h3 : τ.1 23 = σ.1 23) (h4 : τ.1 24 = σ.1 24) : RCu τ A := by
  unfold RCu at h ⊢
  rw [h1, h2, h3, h4]; exact h
theorem RCd.fr {σ τ : Wd} {A : Ab} (h : RCd σ A) (h1 : τ.1 25 = σ.1 25) : RCd τ A := by
  unfold RCd at h ⊢
  rw [h1]; exact h
theorem RCe.fr {σ τ : Wd} {A : Ab} (h : RCe σ A) (h1 : τ.1 9 = σ.1 9) (h2 : τ.1 11 = σ.1 11) : RCe τ A := by
  unfold RCe at h ⊢
  rw [h1, h2]; exact h
theorem RCr.fr {σ τ : Wd} {A : Ab} (h : RCr σ A) (h1 : τ.1 5 = σ.1 5) (h2 : τ.1 6 = σ.1 6) : RCr τ A := by
  unfold RCr at h ⊢
  rw [h1, h2]; exact h
theorem RCs.fr {σ τ : Wd} {A : Ab} (h : RCs σ A) (h1 : τ.1 0 = σ.1 0) : RCs τ A := by
  unfold RCs at h ⊢
  rw [h1]; exact h
theorem RCg.fr {σ τ : Wd} {A : Ab} (h : RCg σ A) (h1 : τ.1 20 = σ.1 20) : RCg τ A := by
  unfold RCg at h ⊢
  rw [h1]; exact h
theorem xa_C {σ : Wd} {A : Ab} (C : RC σ A) {u : Nat} (hu : u < nU A) {e : Nat} (he : e < 3) : ∃ σ', f_X8_beginAgain (wr σ 0 0 8 (iN 1)) u (iN e) = some (.inl (), σ') ∧ CS σ σ' ∧ RC σ' (xaA A u e) := by
  have hH : RCl (wr σ 0 0 8 (iN 1)) A := C.1
  obtain ⟨σ', h1, h2, h3⟩ := xa_loop hH hu he
  have off : ∀ t, t ≠ 22 → t ≠ 23 → σ'.1 t = (wr σ 0 0 8 (iN 1)).1 t := fun t a b => by
    funext i k
    rw [h3 t i k, if_neg (fun z => by omega)]
  obtain ⟨H, F, U, D, E, R1, S, L⟩ := C
  refine ⟨σ', h1, fun t ht => ?_, ?_, ?_, ?_, ?_, ?_, ?_, ?_, ?_⟩
  · rw [off t (by omega) (by omega)]
    funext i k
    exact if_neg (fun z => by omega)
  · exact (RCl.fr H (off 1 (by decide) (by decide)) h2)
  · exact (RCf.fr F (off 1 (by decide) (by decide)) (off 26 (by decide) (by decide)) h2)
  · intro v hv
    obtain ⟨u1, u2, u3, u4, u5, u6⟩ := U v hv
    refine ⟨?_, ?_, ?_, fun k hk => ?_, fun k hk => ?_, fun k hk => ?_⟩
    · rw [off 21 (by decide) (by decide)]; exact u1
    · rw [off 21 (by decide) (by decide)]; exact u2
    · rw [off 21 (by decide) (by decide)]; exact u3
    · have := u4 k hk
      rw [h3, xaA_rd]
      by_cases hc : v = u ∧ k ≤ e
      · rw [if_pos ⟨Or.inl rfl, hc⟩, if_neg (by omega), if_pos ⟨Or.inl rfl, hc⟩]
      · rw [if_neg (fun z => hc z.2), if_neg (by omega), if_neg (fun z => hc z.2)]
        exact this
    · have := u5 k hk
      rw [h3, xaA_rd]
      by_cases hc : v = u ∧ k ≤ e
      · rw [if_pos ⟨Or.inr rfl, hc⟩, if_neg (by omega), if_pos ⟨Or.inr rfl, hc⟩]
      · rw [if_neg (fun z => hc z.2), if_neg (by omega), if_neg (fun z => hc z.2)]
        exact this
    · have := u6 k hk
      rw [off 24 (by decide) (by decide)]; exact this
  · exact (RCd.fr D (off 25 (by decide) (by decide)))
  · exact (RCe.fr E (off 9 (by decide) (by decide)) (off 11 (by decide) (by decide)))
  · exact (RCr.fr R1 (off 5 (by decide) (by decide)) (off 6 (by decide) (by decide)))
  · obtain ⟨s1, s2, s3, s4⟩ := S
    unfold RCs
    rw [off 0 (by decide) (by decide)]
    exact ⟨s1, s2, rfl, s4⟩
  · exact (RCg.fr L (off 20 (by decide) (by decide)))
