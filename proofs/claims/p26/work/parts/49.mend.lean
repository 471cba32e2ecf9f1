/-! a FAULT goes -/
def flA (A : Ab) (u : Nat) (l : List Fa) : Ab := (A.1, fun v => if v = u then l else A.2.1 v, A.2.2)
theorem fl_flA (A : Ab) (u : Nat) (l : List Fa) (v : Nat) : fl (flA A u l) v = if v = u then l else fl A v := id rfl
theorem flA_flA (A : Ab) (u : Nat) (l m : List Fa) : flA (flA A u l) u m = flA A u m := by
  unfold flA
  refine Prod.ext rfl (Prod.ext ?_ rfl)
  funext v
  show (if v = u then m else (if v = u then l else A.2.1 v)) = if v = u then m else A.2.1 v
  by_cases h : v = u
  · rw [if_pos h, if_pos h]
  · rw [if_neg h, if_neg h, if_neg h]
theorem flA_self (A : Ab) (u : Nat) : flA A u (fl A u) = A := by
  refine Prod.ext rfl (Prod.ext ?_ rfl)
  funext v
  show (if v = u then A.2.1 u else A.2.1 v) = A.2.1 v
  by_cases h : v = u
  · rw [if_pos h, h]
  · rw [if_neg h]
theorem wp_one (σ : Wd) (i j c : Nat) : (wp σ i j c).1 = σ.1 := id rfl
theorem wp_two (σ : Wd) (i j c i' j' : Nat) : (wp σ i j c).2.1 i' j' = if i' = i ∧ j' = j then c else σ.2.1 i' j' := id rfl
theorem wp_thr (σ : Wd) (i j c : Nat) : (wp σ i j c).2.2 = σ.2.2 := id rfl
theorem wcp_one (σ : Wd) (i a b n : Nat) : (wcp σ i a b n).1 = σ.1 := id rfl
theorem wcp_two (σ : Wd) (i a b n i' j' : Nat) : (wcp σ i a b n).2.1 i' j' = if i' = i then (if b ≤ j' ∧ j' < b + n then σ.2.1 i (a + (j' - b)) else σ.2.1 i j') else σ.2.1 i' j' := id rfl
theorem wcp_thr (σ : Wd) (i a b n : Nat) : (wcp σ i a b n).2.2 = σ.2.2 := id rfl
theorem k_drop1 {σ : Wd} {A : Ab} (C : RC σ A) (g6 : nU A ≤ 6) {u : Nat} (hu : u < nU A) (h8 : (fl A u).length ≤ 8) {j : Nat} (hj : j < (fl A u).length) : ∃ σ', f_X8_dropFault σ u (iN j) = some (.inl (), σ') ∧ (∀ t i k, σ'.1 t i k = if t = 1 ∧ i = u + 2 ∧ k = 0 then σ.1 1 (u + 2) 0 + 1 else if t = 1 ∧ i = u + 2 ∧ k = 2 then iN ((fl A u).length - 1) else σ.1 t i k) ∧ (∀ i x, σ'.2.1 i x = if i = u + 2 then (if x = (fl A u).length - 1 then 0 else if j ≤ x ∧ x < (fl A u).length - 1 then σ.2.1 (u + 2) (x + 1) else σ.2.1 (u + 2) x) else σ.2.1 i x) ∧ σ'.2.2 = σ.2.2 := by
  have e8 := C.1.1
  obtain ⟨q1, q2, q3⟩ := C.2.1.1 u hu
  have hs := c_szf C.1 C.2.1 hu
  have hf := List.getElem?_eq_getElem hj
  have hc := (q3 j _ hf).1
  have hfl : σ.2.2 (20 + (u + 2)) ≠ 0 := q2 (fun z => by rw [z] at hj; exact absurd hj (Nat.not_lt_zero _))
  have hi8 : u + 2 < 8 := by omega
  have w1 : (wr σ 1 (u + 2) 0 (σ.1 1 (u + 2) 0 + iN 1)).1 1 (u + 2) 2 = iN (fl A u).length := by
    rw [wr_rd, if_neg (by omega)]; exact q1
  have head : ∀ σ', f_Jx4a65c_fastRemove_b59b0 σ u (iN j) = some (.inl (), σ') → f_X8_dropFault σ u (iN j) = some (.inl (), σ') := fun σ' hg => by
    simp (disch := omega) only [gd_t, gd_T, bx_some, bx_thr, bd_def, nx_in, ↓nO_eq, l0, l1, l2, l3, l4, l5, l6, l7, l8, l30, l50, l64, l100, l200, l448, l1200, iN_add, iN_lt, iN_le, iN_inj, iN_clamp, iN_inb, iN_nO, nO_iN, nO_lt, iN_ltm, iN_lem, nO_le, iN_pred, if_pos, if_neg, ↓reduceIte, or_true, true_or, and_true, true_and, ne_eq, not_true_eq_false, not_false_eq_true, false_or, or_false, and_false, false_and, f_X8_dropFault, hs, f_Jx4a65c_remove_915e3, f_J15_checkIndex_7cf53, f_J3_checkIndex_8e157, q1, hg]
  by_cases hlast : (fl A u).length - 1 ≤ j
  · refine ⟨wp (wr (wr σ 1 (u + 2) 0 (σ.1 1 (u + 2) 0 + iN 1)) 1 (u + 2) 2 (iN ((fl A u).length - 1))) (u + 2) ((fl A u).length - 1) 0, head _ ?_, fun t i k => ?_, fun i x => ?_, rfl⟩
    · simp (disch := omega) only [gd_t, gd_T, bx_some, bx_thr, bd_def, nx_in, ↓nO_eq, l0, l1, l2, l3, l4, l5, l6, l7, l8, l30, l50, l64, l100, l200, l448, l1200, iN_add, iN_lt, iN_le, iN_inj, iN_clamp, iN_inb, iN_nO, nO_iN, nO_lt, iN_ltm, iN_lem, nO_le, iN_pred, if_pos, if_neg, ↓reduceIte, or_true, true_or, and_true, true_and, ne_eq, not_true_eq_false, not_false_eq_true, false_or, or_false, and_false, false_and, f_Jx4a65c_fastRemove_b59b0, w1, iN_sub, wr_two]
    · rw [wp_one, wr_rd, wr_rd]
      by_cases h2 : t = 1 ∧ i = u + 2 ∧ k = 2
      · rw [if_pos h2, if_neg (by omega), if_pos h2]
      · rw [if_neg h2, if_neg h2]; rfl
    · rw [wp_two, wr_two, wr_two]
      by_cases h : i = u + 2
      · subst h
        by_cases hx : x = (fl A u).length - 1
        · rw [if_pos ⟨rfl, hx⟩, if_pos rfl, if_pos hx]
        · rw [if_neg (fun z => hx z.2), if_pos rfl, if_neg hx, if_neg (by omega)]
      · rw [if_neg (fun z => h z.1), if_neg h]
  · have hall : ∀ y, y < 10 → (wr σ 1 (u + 2) 0 (σ.1 1 (u + 2) 0 + iN 1)).2.1 (u + 2) y - 1 < (wr σ 1 (u + 2) 0 (σ.1 1 (u + 2) 0 + iN 1)).2.2 10 ∨ (wr σ 1 (u + 2) 0 (σ.1 1 (u + 2) 0 + iN 1)).2.1 (u + 2) y = 0 := fun y hy => by
      have := C.2.1.2 (u + 2) (by omega) (by omega) y hy
      rw [wr_two]
      omega
    refine ⟨wp (wr (wcp (wr σ 1 (u + 2) 0 (σ.1 1 (u + 2) 0 + iN 1)) (u + 2) (j + 1) j ((fl A u).length - 1 - j)) 1 (u + 2) 2 (iN ((fl A u).length - 1))) (u + 2) ((fl A u).length - 1) 0, head _ ?_, fun t i k => ?_, fun i x => ?_, rfl⟩
    · unfold f_Jx4a65c_fastRemove_b59b0
      have z0 : ∀ n, n < 2147483648 → ¬ iN n < 0 := fun n hn => by
        rw [show (0 : Int32) = iN 0 from rfl, iN_lt hn (by decide)]; omega
      rw [gd_t (by omega), bd_def, show (1 : Int32) = iN 1 from rfl, w1, iN_sub (by omega), bd_def, if_neg (by rw [iN_le (by omega) (by omega)]; exact hlast), gd_t ⟨hi8, hfl⟩, iN_add, gd_t (z0 _ (by omega)), gd_t (z0 _ (by omega)), iN_sub (by omega), gd_t (z0 _ (by omega)), iN_clamp (by omega), iN_clamp (by omega), iN_clamp (by omega), gd_t (by omega), gd_t (by omega), gd_t hall, bd_def, bd_def, gd_t ((iN_inb (by omega)).mpr (by omega)), iN_clamp (by omega), bd_def]
    · rw [wp_one, wr_rd, wcp_one, wr_rd]
      by_cases h2 : t = 1 ∧ i = u + 2 ∧ k = 2
      · rw [if_pos h2, if_neg (by omega), if_pos h2]
      · rw [if_neg h2, if_neg h2]; rfl
    · rw [wp_two, wr_two, wcp_two, wr_two]
      by_cases h : i = u + 2
      · subst h
        by_cases hx : x = (fl A u).length - 1
        · rw [if_pos ⟨rfl, hx⟩, if_pos rfl, if_pos hx]
        · rw [if_neg (fun z => hx z.2), if_pos rfl, if_pos rfl, if_neg hx]
          by_cases hx2 : j ≤ x ∧ x < (fl A u).length - 1
          · rw [if_pos (by omega), if_pos hx2, show j + 1 + (x - j) = x + 1 from by omega]
          · rw [if_neg (by omega), if_neg hx2]
      · rw [if_neg (fun z => h z.1), if_neg h, if_neg h]
theorem k_drop {σ : Wd} {A : Ab} (C : RC σ A) (g6 : nU A ≤ 6) {u : Nat} (hu : u < nU A) (h8 : (fl A u).length ≤ 8) {j : Nat} (hj : j < (fl A u).length) : ∃ σ', f_X8_dropFault σ u (iN j) = some (.inl (), σ') ∧ CS σ σ' ∧ RC σ' (flA A u ((fl A u).eraseIdx j)) := by
  obtain ⟨σ', d1, d2, d3, d4⟩ := k_drop1 C g6 hu h8 hj
  have off : ∀ t, t ≠ 1 → σ'.1 t = σ.1 t := fun t h => by
    funext i k
    rw [d2, if_neg (fun z => h z.1), if_neg (fun z => h z.1)]
  obtain ⟨⟨e8, e9, s0, s1, c0, c1, f0, f1⟩, F, U, D, E, R1, S, L⟩ := C
  obtain ⟨q1, q2, q3⟩ := F.1 u hu
  have hlen : ((fl A u).eraseIdx j).length = (fl A u).length - 1 := by
    rw [List.length_eraseIdx, if_pos hj]
  refine ⟨σ', d1, fun t ht => off t (by omega), ⟨?_, ?_, ?_, ?_, fun y hy => ?_, fun y hy => ?_, fun hne => ?_, fun hne => ?_⟩, ⟨fun v hv => ?_, fun i hi2 hi8 y hy => ?_⟩, ?_, ?_, ?_, ?_, ?_, ?_⟩
  · rw [d4]; exact e8
  · rw [d4]; exact e9
  · rw [d2, if_neg (by omega), if_neg (by omega)]; exact s0
  · rw [d2, if_neg (by omega), if_neg (by omega)]; exact s1
  · rw [d3, if_neg (by omega)]; exact c0 y hy
  · rw [d3, if_neg (by omega)]; exact c1 y hy
  · rw [d4]; exact f0 hne
  · rw [d4]; exact f1 hne
  · have hv : v < nU A := hv
    rw [fl_flA, d4]
    by_cases h : v = u
    · subst h
      rw [if_pos rfl, hlen]
      refine ⟨?_, fun _ => ?_, fun y g hg => ?_⟩
      · rw [d2, if_neg (by omega), if_pos ⟨rfl, rfl, rfl⟩]
      · exact q2 (fun z => by rw [z] at hj; exact absurd hj (Nat.not_lt_zero _))
      · have hy : y < (fl A v).length - 1 := by
          have := (List.getElem?_eq_some_iff.mp hg).1
          rw [hlen] at this
          exact this
        rw [List.getElem?_eraseIdx] at hg
        rw [d3, if_pos rfl, if_neg (by omega)]
        unfold rdF
        rw [off 26 (by decide)]
        by_cases hyj : y < j
        · rw [if_pos hyj] at hg
          rw [if_neg (by omega)]
          exact q3 y g hg
        · rw [if_neg hyj] at hg
          rw [if_pos (by omega)]
          exact q3 (y + 1) g hg
    · rw [if_neg h]
      obtain ⟨x1, x2, x3⟩ := F.1 v hv
      refine ⟨?_, x2, fun y g hg => ?_⟩
      · rw [d2, if_neg (by omega), if_neg (by omega)]; exact x1
      · rw [d3, if_neg (by omega)]
        unfold rdF
        rw [off 26 (by decide)]
        exact x3 y g hg
  · rw [d3, d4]
    by_cases h : i = u + 2
    · rw [if_pos h]
      split
      · exact Nat.zero_le _
      · split
        · by_cases hy9 : y + 1 < 10
          · exact F.2 (u + 2) (by omega) (by omega) (y + 1) hy9
          · omega
        · exact F.2 (u + 2) (by omega) (by omega) y hy
    · rw [if_neg h]; exact F.2 i hi2 hi8 y hy
  · exact RCu.fr U (off _ (by decide)) (off _ (by decide)) (off _ (by decide)) (off _ (by decide))
  · exact RCd.fr D (off _ (by decide))
  · exact RCe.fr E (off _ (by decide)) (off _ (by decide))
  · exact RCr.fr R1 (off _ (by decide)) (off _ (by decide))
  · exact RCs.fr S (off _ (by decide))
  · exact RCg.fr L (off _ (by decide))
