/-! a FAULT goes -/
def flA (A : Ab) (u : Nat) (l : List Fa) : Ab := (A.1, fun v => if v = u then l else A.2.1 v, A.2.2)
theorem fl_flA (A : Ab) (u : Nat) (l : List Fa) (v : Nat) : fl (flA A u l) v = if v = u then l else fl A v := id rfl
theorem flA_flA (A : Ab) (u : Nat) (l m : List Fa) : flA (flA A u l) u m = flA A u m := by
  unfold flA
  refine Prod.ext rfl (Prod.ext ?_ rfl)
  funext v
  show (if v = u then m else (if v = u then l else A.2.1 v)) = if v = u then m else A.2.1 v
  by_cases h : v = u
  · rw [if_pos h, if_pos h]
  · rw [if_neg h, if_neg h, if_neg h]
theorem flA_self (A : Ab) (u : Nat) : flA A u (fl A u) = A := by
  refine Prod.ext rfl (Prod.ext ?_ rfl)
  funext v
  show (if v = u then A.2.1 u else A.2.1 v) = A.2.1 v
  by_cases h : v = u
  · rw [if_pos h, h]
  · rw [if_neg h]
theorem wp_one (σ : Wd) (i j c : Nat) : (wp σ i j c).1 = σ.1 := id rfl
theorem wp_two (σ : Wd) (i j c i' j' : Nat) : (wp σ i j c).2.1 i' j' = if i' = i ∧ j' = j then c else σ.2.1 i' j' := id rfl
theorem wp_thr (σ : Wd) (i j c : Nat) : (wp σ i j c).2.2 = σ.2.2 := id rfl
theorem wcp_one (σ : Wd) (i a b n : Nat) : (wcp σ i a b n).1 = σ.1 := id rfl
theorem wcp_two (σ : Wd) (i a b n i' j' : Nat) : (wcp σ i a b n).2.1 i' j' = if i' = i then (if b ≤ j' ∧ j' < b + n then σ.2.1 i (a + (j' - b)) else σ.2.1 i j') else σ.2.1 i' j' := id rfl
theorem wcp_thr (σ : Wd) (i a b n : Nat) : (wcp σ i a b n).2.2 = σ.2.2 := id rfl
theorem k_drop1 {σ : Wd} {A : Ab} (C : RC σ A) (g6 : nU A ≤ 6) {u : Nat} (hu : u < nU A) (h8 : (fl A u).length ≤ 8) {j : Nat} (hj : j < (fl A u).length) : ∃ σ', f_X8_dropFault σ u (iN j) = some (.inl (), σ') ∧ (∀ t i k, σ'.1 t i k = if t = 1 ∧ i = u + 2 ∧ k = 0 then σ.1 1 (u + 2) 0 + 1 else if t = 1 ∧ i = u + 2 ∧ k = 2 then iN ((fl A u).length - 1) else σ.1 t i k) ∧ (∀ i x, σ'.2.1 i x = if i = u + 2 then (if x = (fl A u).length - 1 then 0 else if j ≤ x ∧ x < (fl A u).length - 1 then σ.2.1 (u + 2) (x + 1) else σ.2.1 (u + 2) x) else σ.2.1 i x) ∧ σ'.2.2 = σ.2.2 := by
  have e8 := C.1.1
  obtain ⟨q1, q2, q3⟩ := C.2.1.1 u hu
  have hs := c_szf C.1 C.2.1 hu
  have hf := List.getElem?_eq_getElem hj
  have hc := (q3 j _ hf).1
  have hfl : σ.2.2 (20 + (u + 2)) ≠ 0 := q2 (fun z => by rw [z] at hj; exact absurd hj (Nat.not_lt_zero _))
  have hi8 : u + 2 < 8 := by omega
  have w1 : (wr σ 1 (u + 2) 0 (σ.1 1 (u + 2) 0 + iN 1)).1 1 (u + 2) 2 = iN (fl A u).length := by
    rw [wr_rd, if_neg (by omega)]; exact q1
  have head : ∀ σ', f_Jx4a65c_fastRemove_b59b0 σ u (iN j) = some (.inl (), σ') → f_X8_dropFault σ u (iN j) = some (.inl (), σ') := fun σ' hg => by
    simp (disch := omega) only [gd_t, gd_T, bx_some, bx_thr, bd_def, nx_in, ↓nO_eq, l0, l1, l2, l3, l4, l5, l6, l7, l8, l30, l50, l64, l100, l200, l448, l1200, iN_add, iN_lt, iN_le, iN_inj, iN_clamp, iN_inb, iN_nO, nO_iN, nO_lt, iN_ltm, iN_lem, nO_le, iN_pred, if_pos, if_neg, ↓reduceIte, or_true, true_or, and_true, true_and, ne_eq, not_true_eq_false, not_false_eq_true, false_or, or_false, and_false, false_and, f_X8_dropFault, hs, f_Jx4a65c_remove_915e3, f_J15_checkIndex_7cf53, f_J3_checkIndex_8e157, q1, hg]
  by_cases hlast : (fl A u).length - 1 ≤ j
  · refine ⟨wp (wr (wr σ 1 (u + 2) 0 (σ.1 1 (u + 2) 0 + iN 1)) 1 (u + 2) 2 (iN ((fl A u).length - 1))) (u + 2) ((fl A u).length - 1) 0, head _ ?_, fun t i k => ?_, fun i x => ?_, rfl⟩
    · simp (disch := omega) only [gd_t, gd_T, bx_some, bx_thr, bd_def, nx_in, ↓nO_eq, l0, l1, l2, l3, l4, l5, l6, l7, l8, l30, l50, l64, l100, l200, l448, l1200, iN_add, iN_lt, iN_le, iN_inj, iN_clamp, iN_inb, iN_nO, nO_iN, nO_lt, iN_ltm, iN_lem, nO_le, iN_pred, if_pos, if_neg, ↓reduceIte, or_true, true_or, and_true, true_and, ne_eq, not_true_eq_false, not_false_eq_true, false_or, or_false, and_false, false_and, f_Jx4a65c_fastRemove_b59b0, w1, iN_sub, wr_two]
    · rw [wp_one, wr_rd, wr_rd]
      by_cases h2 : t = 1 ∧ i = u + 2 ∧ k = 2
      · rw [if_pos h2, if_neg (by omega), if_pos h2]
      · rw [if_neg h2, if_neg h2]; rfl
    · rw [wp_two, wr_two, wr_two]
      by_cases h : i = u + 2
      · subst h
        by_cases hx : x = (fl A u).length - 1
        · rw [if_pos ⟨rfl, hx⟩, if_pos rfl, if_pos hx]
        · rw [if_neg (fun z => hx z.2), if_pos rfl, if_neg hx, if_neg (by omega)]
      · rw [if_neg (fun z => h z.1), if_neg h]
  · have hall : ∀ y, y < 10 → (wr σ 1 (u + 2) 0 (σ.1 1 (u + 2) 0 + iN 1)).2.1 (u + 2) y - 1 < (wr σ 1 (u + 2) 0 (σ.1 1 (u + 2) 0 + iN 1)).2.2 10 ∨ (wr σ 1 (u + 2) 0 (σ.1 1 (u + 2) 0 + iN 1)).2.1 (u + 2) y = 0 := fun y hy => by
      have := C.2.1.2 (u + 2) (by omega) (by omega) y hy
      rw [wr_two]
      omega
    refine ⟨wp (wr (wcp (wr σ 1 (u + 2) 0 (σ.1 1 (u + 2) 0 + iN 1)) (u + 2) (j + 1) j ((fl A u).length - 1 - j)) 1 (u + 2) 2 (iN ((fl A u).length - 1))) (u + 2) ((fl A u).length - 1) 0, head _ ?_, fun t i k => ?_, fun i x => ?_, rfl⟩
    · unfold f_Jx4a65c_fastRemove_b59b0
      have z0 : ∀ n, n < 2147483648 → ¬ iN n < 0 := fun n hn => by
        rw [show (0 : Int32) = iN 0 from rfl, iN_lt hn (by decide)]; omega
      rw [gd_t (by omega), bd_def, show (1 : Int32) = iN 1 from rfl, w1, iN_sub (by omega), bd_def, if_neg (by rw [iN_le (by omega) (by omega)]; exact hlast), gd_t ⟨hi8, hfl⟩, iN_add, gd_t (z0 _ (by omega)), gd_t (z0 _ (by omega)), iN_sub (by omega), gd_t (z0 _ (by omega)), iN_clamp (by omega), iN_clamp (by omega), iN_clamp (by omega), gd_t (by omega), gd_t (by omega), gd_t hall, bd_def, bd_def, gd_t ((iN_inb (by omega)).mpr (by omega)), iN_clamp (by omega), bd_def]
    · rw [wp_one, wr_rd, wcp_one, wr_rd]
      by_cases h2 : t = 1 ∧ i = u + 2 ∧ k = 2
      · rw [if_pos h2, if_neg (by omega), if_pos h2]
      · rw [if_neg h2, if_neg h2]; rfl
    · rw [wp_two, wr_two, wcp_two, wr_two]
      by_cases h : i = u + 2
      · subst h
        by_cases hx : x = (fl A u).length - 1
        · rw [if_pos ⟨rfl, hx⟩, if_pos rfl, if_pos hx]
        · rw [if_neg (fun z => hx z.2), if_pos rfl, if_pos rfl, if_neg hx]
          by_cases hx2 : j ≤ x ∧ x < (fl A u).length - 1
          · rw [if_pos (by omega), if_pos hx2, show j + 1 + (x - j) = x + 1 from by omega]
          · rw [if_neg (by omega), if_neg hx2]
      · rw [if_neg (fun z => h z.1), if_neg h, if_neg h]
theorem k_drop {σ : Wd} {A : Ab} (C : RC σ A) (g6 : nU A ≤ 6) {u : Nat} (hu : u < nU A) (h8 : (fl A u).length ≤ 8) {j : Nat} (hj : j < (fl A u).length) : ∃ σ', f_X8_dropFault σ u (iN j) = some (.inl (), σ') ∧ CS σ σ' ∧ RC σ' (flA A u ((fl A u).eraseIdx j)) := by
  obtain ⟨σ', d1, d2, d3, d4⟩ := k_drop1 C g6 hu h8 hj
  have off : ∀ t, t ≠ 1 → σ'.1 t = σ.1 t := fun t h => by
    funext i k
    rw [d2, if_neg (fun z => h z.1), if_neg (fun z => h z.1)]
  obtain ⟨⟨e8, e9, s0, s1, c0, c1, f0, f1⟩, F, U, D, E, R1, S, L⟩ := C
  obtain ⟨q1, q2, q3⟩ := F.1 u hu
  have hlen : ((fl A u).eraseIdx j).length = (fl A u).length - 1 := by
    rw [List.length_eraseIdx, if_pos hj]
  refine ⟨σ', d1, fun t ht => off t (by omega), ⟨?_, ?_, ?_, ?_, fun y hy => ?_, fun y hy => ?_, fun hne => ?_, fun hne => ?_⟩, ⟨fun v hv => ?_, fun i hi2 hi8 y hy => ?_⟩, ?_, ?_, ?_, ?_, ?_, ?_⟩
  · rw [d4]; exact e8
  · rw [d4]; exact e9
  · rw [d2, if_neg (by omega), if_neg (by omega)]; exact s0
  · rw [d2, if_neg (by omega), if_neg (by omega)]; exact s1
  · rw [d3, if_neg (by omega)]; exact c0 y hy
  · rw [d3, if_neg (by omega)]; exact c1 y hy
  · rw [d4]; exact f0 hne
  · rw [d4]; exact f1 hne
  · have hv : v < nU A := hv
    rw [fl_flA, d4]
    by_cases h : v = u
    · subst h
      rw [if_pos rfl, hlen]
      refine ⟨?_, fun _ => ?_, fun y g hg => ?_⟩
      · rw [d2, if_neg (by omega), if_pos ⟨rfl, rfl, rfl⟩]
      · exact q2 (fun z => by rw [z] at hj; exact absurd hj (Nat.not_lt_zero _))
      · have hy : y < (fl A v).length - 1 := by
          have := (List.getElem?_eq_some_iff.mp hg).1
          rw [hlen] at this
          exact this
        rw [List.getElem?_eraseIdx] at hg
        rw [d3, if_pos rfl, if_neg (by omega)]
        unfold rdF
        rw [off 26 (by decide)]
        by_cases hyj : y < j
        · rw [if_pos hyj] at hg
          rw [if_neg (by omega)]
          exact q3 y g hg
        · rw [if_neg hyj] at hg
          rw [if_pos (by omega)]
          exact q3 (y + 1) g hg
    · rw [if_neg h]
      obtain ⟨x1, x2, x3⟩ := F.1 v hv
      refine ⟨?_, x2, fun y g hg => ?_⟩
      · rw [d2, if_neg (by omega), if_neg (by omega)]; exact x1
      · rw [d3, if_neg (by omega)]
        unfold rdF
        rw [off 26 (by decide)]
        exact x3 y g hg
  · rw [d3, d4]
    by_cases h : i = u + 2
    · rw [if_pos h]
      split
      · exact Nat.zero_le _
      · split
        · by_cases hy9 : y + 1 < 10
          · exact F.2 (u + 2) (by omega) (by omega) (y + 1) hy9
          · omega
        · exact F.2 (u + 2) (by omega) (by omega) y hy
    · rw [if_neg h]; exact F.2 i hi2 hi8 y hy
  · exact RCu.fr U (off _ (by decide)) (off _ (by decide)) (off _ (by decide)) (off _ (by decide))
  · exact RCd.fr D (off _ (by decide))
  · exact RCe.fr E (off _ (by decide)) (off _ (by decide))
  · exact RCr.fr R1 (off _ (by decide)) (off _ (by decide))
  · exact RCs.fr S (off _ (by decide))
  · exact RCg.fr L (off _ (by decide))
theorem m_goesL {u L : Nat} (hu : u < 6) (hL : L ≤ 8) (p : Int32) : ∀ (n m k : Nat) (σ : Wd), L - k = m → m < n → k ≤ L → 0 < L → σ.1 39 0 u = iN L → ∃ σ', l_X10_goes_7 n σ (iN (8 * u + k)) (iN u) p = some (.inl (), σ') ∧ σ'.2 = σ.2 ∧ ∀ t i x, σ'.1 t i x = if t = 39 ∧ i = 0 ∧ x = u then iN (L - 1) else if (40 ≤ t ∧ t ≤ 43) ∧ i = 0 ∧ 8 * u + k ≤ x ∧ x < 8 * u + (L - 1) then σ.1 t i (x + 1) else σ.1 t i x
  | n + 1, m, k, σ, hm, hn, hk, hL0, h39 => by
    have iu : inb (iN u) 6 := (iN_inb (by omega)).mpr hu
    have cu : (iN u).toNatClampNeg = u := iN_clamp (by omega)
    have x8 : (8 : Int32) * iN u + iN L = iN (8 * u + L) := by rw [show (8 : Int32) = iN 8 from rfl, iN_mul, iN_add]
    by_cases h : L - 1 ≤ k
    · refine ⟨wr σ 39 0 u (iN (L - 1)), ?_, rfl, fun t i x => ?_⟩
      · have hc : 8 * u + L - 1 ≤ 8 * u + k := by omega
        simp (disch := omega) only [gd_t, gd_T, bx_some, bx_thr, bd_def, nx_in, ↓nO_eq, l0, l1, l2, l3, l4, l5, l6, l7, l8, l30, l50, l64, l100, l200, l448, l1200, iN_add, iN_lt, iN_le, iN_inj, iN_clamp, iN_inb, iN_nO, nO_iN, nO_lt, iN_ltm, iN_lem, nO_le, iN_pred, if_pos, if_neg, ↓reduceIte, or_true, true_or, and_true, true_and, ne_eq, not_true_eq_false, not_false_eq_true, false_or, or_false, and_false, false_and, l_X10_goes_7, h39, iN_mul, iN_sub]
      · rw [wr_rd]
        by_cases h2 : t = 39 ∧ i = 0 ∧ x = u
        · rw [if_pos h2, if_pos h2]
        · rw [if_neg h2, if_neg h2, if_neg (by omega)]
    · have a1 : inb (iN (8 * u + k)) 48 := (iN_inb (by omega)).mpr (by omega)
      have a2 : inb (iN (8 * u + k + 1)) 48 := (iN_inb (by omega)).mpr (by omega)
      have hk1 : iN (8 * u + k) + 1 = iN (8 * u + k + 1) := iN_add _ 1
      have c1 : (iN (8 * u + k)).toNatClampNeg = 8 * u + k := iN_clamp (by omega)
      have c2 : (iN (8 * u + k + 1)).toNatClampNeg = 8 * u + k + 1 := iN_clamp (by omega)
      obtain ⟨σ', s1, s2, s3⟩ := m_goesL hu hL p n (L - (k + 1)) (k + 1) (wr (wr (wr (wr σ 40 0 (8 * u + k) (σ.1 40 0 (8 * u + k + 1))) 41 0 (8 * u + k) (σ.1 41 0 (8 * u + k + 1))) 42 0 (8 * u + k) (σ.1 42 0 (8 * u + k + 1))) 43 0 (8 * u + k) (σ.1 43 0 (8 * u + k + 1))) rfl (by omega) (by omega) hL0 (by
        rw [wr_rd, if_neg (by omega), wr_rd, if_neg (by omega), wr_rd, if_neg (by omega), wr_rd, if_neg (by omega)]
        exact h39)
      refine ⟨σ', ?_, s2, fun t i x => ?_⟩
      · unfold l_X10_goes_7
        have hc : ¬ ((8 : Int32) * iN u + iN L - 1 ≤ iN (8 * u + k)) := by
          rw [x8, show (1 : Int32) = iN 1 from rfl, iN_sub (by omega), iN_le (by omega) (by omega)]; omega
        have r1 : ∀ v, (wr σ 40 0 (8 * u + k) v).1 41 0 (8 * u + k + 1) = σ.1 41 0 (8 * u + k + 1) := fun v => by rw [wr_rd, if_neg (by omega)]
        have r2 : ∀ v w, (wr (wr σ 40 0 (8 * u + k) v) 41 0 (8 * u + k) w).1 42 0 (8 * u + k + 1) = σ.1 42 0 (8 * u + k + 1) := fun v w => by rw [wr_rd, if_neg (by omega), wr_rd, if_neg (by omega)]
        have r3 : ∀ v w z, (wr (wr (wr σ 40 0 (8 * u + k) v) 41 0 (8 * u + k) w) 42 0 (8 * u + k) z).1 43 0 (8 * u + k + 1) = σ.1 43 0 (8 * u + k + 1) := fun v w z => by rw [wr_rd, if_neg (by omega), wr_rd, if_neg (by omega), wr_rd, if_neg (by omega)]
        rw [gd_t iu, cu, h39, if_neg hc, hk1, gd_t a2, gd_t a1, c1, c2, bd_def, r1, bd_def, r2, bd_def, r3, bd_def]
        exact s1
      · rw [s3]
        simp only [wr_rd]
        by_cases h2 : t = 39 ∧ i = 0 ∧ x = u
        · rw [if_pos h2, if_pos h2]
        · rw [if_neg h2, if_neg h2]
          by_cases h3 : (40 ≤ t ∧ t ≤ 43) ∧ i = 0 ∧ 8 * u + k ≤ x ∧ x < 8 * u + (L - 1)
          · rw [if_pos h3]
            by_cases h4 : x = 8 * u + k
            · rw [if_neg (by omega)]
              have ht : t = 40 ∨ t = 41 ∨ t = 42 ∨ t = 43 := by omega
              have hi0 := h3.2.1
              rcases ht with rfl | rfl | rfl | rfl <;> simp [h4, hi0]
            · rw [if_pos (by omega), if_neg (by omega), if_neg (by omega), if_neg (by omega), if_neg (by omega)]
          · rw [if_neg h3, if_neg (by omega), if_neg (by omega), if_neg (by omega), if_neg (by omega), if_neg (by omega)]
theorem m_goes {σ : Wd} {A : Ab} (T : RR σ A) (g6 : nU A ≤ 6) {u : Nat} (hu : u < nU A) (h8 : ∀ v, v < nU A → (fl A v).length ≤ 8) {j : Nat} (hj : j < (fl A u).length) : ∃ σ', f_X10_goes σ (iN u) (iN j) = some (.inl (), σ') ∧ RS σ σ' ∧ RR σ' (flA A u ((fl A u).eraseIdx j)) ∧ (∀ t, ¬ (39 ≤ t ∧ t ≤ 43) → σ'.1 t = σ.1 t) := by
  have h8u := h8 u hu
  obtain ⟨⟨l1, l2, l3, l4, l5, l6⟩, F, U, D, E, R1, L, Z⟩ := T
  obtain ⟨q1, q2⟩ := F u hu
  obtain ⟨σ', s1, s2, s3⟩ := m_goesL (by omega : u < 6) h8u (iN j) FU _ j σ rfl (by unfold FU; omega) (by omega) (by omega) q1
  have off : ∀ t, ¬ (39 ≤ t ∧ t ≤ 43) → σ'.1 t = σ.1 t := fun t h => by
    funext i x
    rw [s3, if_neg (by omega), if_neg (by omega)]
  have hlen : ((fl A u).eraseIdx j).length = (fl A u).length - 1 := by
    rw [List.length_eraseIdx, if_pos hj]
  refine ⟨σ', ?_, ⟨fun t ht => off t (by omega), s2⟩, ⟨?_, fun v hv => ?_, ?_, ?_, ?_, ?_, ?_, fun v hv hv6 => ?_⟩, off⟩
  · unfold f_X10_goes
    rw [bd_def, show (8 : Int32) * iN u + iN j = iN (8 * u + j) from by rw [show (8 : Int32) = iN 8 from rfl, iN_mul, iN_add]]
    exact s1
  · exact RRl.fr (A := flA A u ((fl A u).eraseIdx j)) ⟨l1, l2, l3, l4, l5, l6⟩ (off 30 (by decide))
  · have hv : v < nU A := hv
    have h8v := h8 v hv
    rw [fl_flA]
    by_cases h : v = u
    · subst h
      rw [if_pos rfl, hlen]
      refine ⟨?_, fun y g hg => ?_⟩
      · rw [s3, if_pos ⟨rfl, rfl, rfl⟩]
      · have hy : y < (fl A v).length - 1 := by
          have := (List.getElem?_eq_some_iff.mp hg).1
          rw [hlen] at this
          exact this
        rw [List.getElem?_eraseIdx] at hg
        have hr : ∀ t, 40 ≤ t → t ≤ 43 → σ'.1 t 0 (8 * v + y) = if j ≤ y then σ.1 t 0 (8 * v + y + 1) else σ.1 t 0 (8 * v + y) := fun t ht1 ht2 => by
          rw [s3, if_neg (by omega)]
          by_cases hyj : j ≤ y
          · rw [if_pos (by omega), if_pos hyj]
          · rw [if_neg (by omega), if_neg hyj]
        rw [hr 40 (by decide) (by decide), hr 41 (by decide) (by decide), hr 42 (by decide) (by decide), hr 43 (by decide) (by decide)]
        by_cases hyj : y < j
        · rw [if_pos hyj] at hg
          rw [if_neg (by omega), if_neg (by omega), if_neg (by omega), if_neg (by omega)]
          exact q2 y g hg
        · rw [if_neg hyj] at hg
          rw [if_pos (by omega), if_pos (by omega), if_pos (by omega), if_pos (by omega)]
          exact q2 (y + 1) g hg
    · rw [if_neg h]
      obtain ⟨x1, x2⟩ := F v hv
      refine ⟨?_, fun y g hg => ?_⟩
      · rw [s3, if_neg (by omega), if_neg (by omega)]; exact x1
      · have hy := (List.getElem?_eq_some_iff.mp hg).1
        have hr : ∀ t, 40 ≤ t → t ≤ 43 → σ'.1 t 0 (8 * v + y) = σ.1 t 0 (8 * v + y) := fun t ht1 ht2 => by
          rw [s3, if_neg (by omega), if_neg (by omega)]
        rw [hr 40 (by decide) (by decide), hr 41 (by decide) (by decide), hr 42 (by decide) (by decide), hr 43 (by decide) (by decide)]
        exact x2 y g hg
  · exact RRu.fr U (fun t a b => off t (by omega))
  · exact RRd.fr D (fun t a b => off t (by omega))
  · exact RRe.fr E (fun t a b => off t (by omega))
  · exact RRr.fr R1 (off _ (by decide)) (off _ (by decide))
  · exact RRg.fr L (off _ (by decide))
  · have hv : nU A ≤ v := hv
    rw [off 35 (by decide), off 36 (by decide), s3, if_neg (by omega), if_neg (by omega)]
    exact Z v hv hv6
