/-! who stands where -/
theorem idx_ne {f u : Nat} (l : List Nat) (h : ¬ f = u) : (f :: l).idxOf u = l.idxOf u + 1 := by
  have h2 : (f == u) = false := by simpa using h
  rw [List.idxOf_cons, h2]
  rfl
theorem k_behindL {σ : Wd} {A : Ab} (R : RCr σ A) {d u : Nat} (hd : d < 3) (hu6 : u < 6) (h6 : (rw_ A d).length ≤ 6) (hb : ∀ x, x ∈ rw_ A d → x < 6) : ∀ (n k j : Nat), (rw_ A d).length - j = k → k < n → u ∈ (rw_ A d).drop j → l_X6_behind_2 n σ (iN j) d (iN u) = some (.inl (iN ((rw_ A d).length - 1 - (j + ((rw_ A d).drop j).idxOf u))), σ)
  | n + 1, k, j, hk, hn, hm => by
    obtain ⟨r1, r2⟩ := R d hd
    rcases at_or (rw_ A d) j with ⟨f, hf, hl⟩ | hl
    · have hx := r2 j f hf
      have hx6 := hb f (List.mem_of_getElem? hf)
      rw [drop_at hf] at hm ⊢
      by_cases hfu : f = u
      · subst hfu
        rw [List.idxOf_cons_self]
        simp (disch := omega) only [gd_t, gd_T, bx_some, bx_thr, bd_def, nx_in, ↓nO_eq, l0, l1, l2, l3, l4, l5, l6, l7, l8, l30, l50, l64, l100, l200, l448, l1200, iN_add, iN_lt, iN_le, iN_inj, iN_clamp, iN_inb, iN_nO, nO_iN, nO_lt, iN_ltm, iN_lem, nO_le, iN_pred, if_pos, if_neg, ↓reduceIte, or_true, true_or, and_true, true_and, ne_eq, not_true_eq_false, not_false_eq_true, false_or, or_false, and_false, false_and, l_X6_behind_2, r1, hx, iN_sub]
        rw [Nat.add_zero]
      · have ih := k_behindL R hd hu6 h6 hb n ((rw_ A d).length - (j + 1)) (j + 1) rfl (by omega) ((List.mem_cons.mp hm).resolve_left (fun z => hfu z.symm))
        rw [idx_ne _ hfu]
        simp (disch := omega) only [gd_t, gd_T, bx_some, bx_thr, bd_def, nx_in, ↓nO_eq, l0, l1, l2, l3, l4, l5, l6, l7, l8, l30, l50, l64, l100, l200, l448, l1200, iN_add, iN_lt, iN_le, iN_inj, iN_clamp, iN_inb, iN_nO, nO_iN, nO_lt, iN_ltm, iN_lem, nO_le, iN_pred, if_pos, if_neg, ↓reduceIte, or_true, true_or, and_true, true_and, ne_eq, not_true_eq_false, not_false_eq_true, false_or, or_false, and_false, false_and, l_X6_behind_2, r1, hx, hfu, ih]
        rw [Nat.add_assoc j 1, Nat.add_comm 1]
    · rw [List.drop_eq_nil_of_le hl] at hm
      cases hm
theorem k_behind {σ : Wd} {A : Ab} (R : RCr σ A) {d u : Nat} (hd : d < 3) (hu6 : u < 6) (h6 : (rw_ A d).length ≤ 6) (hb : ∀ x, x ∈ rw_ A d → x < 6) (hm : u ∈ rw_ A d) : f_X6_behind σ d (iN u) = some (.inl (iN ((rw_ A d).length - 1 - (rw_ A d).idxOf u)), σ) := by
  have := k_behindL R hd hu6 h6 hb FU _ 0 rfl (by unfold FU; omega) (by rw [List.drop_zero]; exact hm)
  rw [List.drop_zero, Nat.zero_add] at this
  exact this
/-- as many different numbers under n as there are at most -/
theorem nodup_le : ∀ (n : Nat) (l : List Nat), l.Nodup → (∀ x, x ∈ l → x < n) → l.length ≤ n
  | 0, l, _, h => by
    cases l with
    | nil => exact Nat.le_refl _
    | cons a t => exact absurd (h a (List.mem_cons_self ..)) (Nat.not_lt_zero _)
  | n + 1, l, hd, h => by
    have h1 := nodup_le n (l.erase n) (hd.erase n) (fun x hx => by
      have h2 := (hd.mem_erase_iff.mp hx)
      have h3 := h x h2.2
      have h4 := h2.1
      omega)
    have h5 : l.length ≤ (l.erase n).length + 1 := by
      rw [List.length_erase]
      split <;> omega
    omega
theorem Gr.len {A : Ab} {aw : Nat → Prop} (W : Gr A aw) (g6 : nU A ≤ 6) {d : Nat} (hd : d < 3) : (rw_ A d).length ≤ 6 ∧ ∀ x, x ∈ rw_ A d → x < 6 :=
  ⟨Nat.le_trans (nodup_le _ _ (W.1 d hd).1 (fun x hx => ((W.1 d hd).2 x hx).1)) g6, fun x hx => Nat.lt_of_lt_of_le ((W.1 d hd).2 x hx).1 g6⟩
theorem neg3 {a p : Nat} (ha : a < 100) (hp : p < 2147483648) (h : a < 1 + p) : iN a - iN 1 - iN p < iN 0 := by
  rw [Int32.lt_iff_toInt_lt, Int32.toInt_sub, Int32.toInt_sub, iN_toInt (by omega), iN_toInt (by decide), iN_toInt hp, iN_toInt (by decide), Int.bmod_eq_of_le (n := (a : Int) - (1 : Nat)) (by omega) (by omega), Int.bmod_eq_of_le (by omega) (by omega)]
  omega
theorem nn_iN {p : Int32} (h : ¬ p < iN 0) : ∃ x, x < 2147483648 ∧ p = iN x := by
  have h2 : (iN 0).toInt ≤ p.toInt := Int32.le_iff_toInt_le.mp (lt_not.mp h)
  rw [iN_toInt (by decide)] at h2
  have h3 := Int32.toInt_lt p
  refine ⟨p.toInt.toNat, by omega, ?_⟩
  apply Int32.toInt_inj.mp
  rw [iN_toInt (by omega)]
  omega
theorem due_0 (A : Ab) (u k : Nat) : due A u (iN 0) k = (decide (bnd A k < A.1 35 u k) || decide (A.1 52 k 0 < A.1 36 u k)) := by
  unfold due
  rw [show A.1 35 u k + iN 0 = A.1 35 u k from Int32.add_zero _]
