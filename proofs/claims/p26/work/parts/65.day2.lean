/-! the day: who comes -/
def wea (a : Nat) (km : Int32) : Int32 := if a = 0 then km / 300 else km / 500
def grA (A : Ab) (u : Nat) (km : Int32) : Ab := (fun t i k => if t = 33 ∧ i = u ∧ k = 0 then A.1 33 u 0 + km else if t = 35 ∧ i = u then A.1 35 u k + km else if t = 34 ∧ i = u then A.1 34 u k - (wea k (A.1 33 u 0 + km) - wea k (A.1 33 u 0)) else A.1 t i k, A.2)
theorem grA_rd (A : Ab) (u : Nat) (km : Int32) (t i k : Nat) : (grA A u km).1 t i k = if t = 33 ∧ i = u ∧ k = 0 then A.1 33 u 0 + km else if t = 35 ∧ i = u then A.1 35 u k + km else if t = 34 ∧ i = u then A.1 34 u k - (wea k (A.1 33 u 0 + km) - wea k (A.1 33 u 0)) else A.1 t i k := id rfl
theorem k_wear {σ : Wd} {a : Nat} (ha : a < 4) (x : Int32) : f_X8_wear σ (iN a) x = some (.inl (wea a x), σ) := by
  unfold f_X8_wear wea
  by_cases h : a = 0
  · rw [h, if_pos (show iN 0 = 0 from rfl), if_pos rfl]
  · rw [if_neg (show ¬ iN a = 0 from by rw [show (0 : Int32) = iN 0 from rfl, iN_inj (by omega) (by decide)]; exact h), if_neg h]
theorem k_gr17 {σ : Wd} {u k : Nat} (hu : u < σ.2.2 8) (hk : k < 3) (n : Nat) (a2 a1 : Int32) : l_X8_grow_17 (n + 1) σ (iN k) a2 u a1 = l_X8_grow_17 n (wr σ 22 u k (σ.1 22 u k + a1)) (iN (k + 1)) a2 u a1 := by
  simp (disch := omega) only [gd_t, gd_T, bx_some, bx_thr, bd_def, nx_in, ↓nO_eq, l0, l1, l2, l3, l4, l5, l6, l7, l8, l30, l50, l64, l100, l200, l448, l1200, iN_add, iN_lt, iN_le, iN_inj, iN_clamp, iN_inb, iN_nO, nO_iN, nO_lt, iN_ltm, iN_lem, nO_le, iN_pred, if_pos, if_neg, ↓reduceIte, or_true, true_or, and_true, true_and, ne_eq, not_true_eq_false, not_false_eq_true, false_or, or_false, and_false, false_and, l_X8_grow_17]
theorem k_gr17e {σ : Wd} {u : Nat} (hu : u < σ.2.2 8) (n : Nat) (a2 a1 : Int32) : l_X8_grow_17 (n + 1) σ (iN 3) a2 u a1 = l_X8_grow_44 FU σ (iN 0) a2 u a1 := by
  simp (disch := omega) only [gd_t, gd_T, bx_some, bx_thr, bd_def, nx_in, ↓nO_eq, l0, l1, l2, l3, l4, l5, l6, l7, l8, l30, l50, l64, l100, l200, l448, l1200, iN_add, iN_lt, iN_le, iN_inj, iN_clamp, iN_inb, iN_nO, nO_iN, nO_lt, iN_ltm, iN_lem, nO_le, iN_pred, if_pos, if_neg, ↓reduceIte, or_true, true_or, and_true, true_and, ne_eq, not_true_eq_false, not_false_eq_true, false_or, or_false, and_false, false_and, l_X8_grow_17]
theorem k_gr44 {σ : Wd} {u k : Nat} (hu : u < σ.2.2 8) (hk : k < 4) (n : Nat) (a2 a1 : Int32) : l_X8_grow_44 (n + 1) σ (iN k) a2 u a1 = l_X8_grow_44 n (wr σ 24 u k (σ.1 24 u k - (wea k (σ.1 21 u 3) - wea k a2))) (iN (k + 1)) a2 u a1 := by
  simp (disch := omega) only [gd_t, gd_T, bx_some, bx_thr, bd_def, nx_in, ↓nO_eq, l0, l1, l2, l3, l4, l5, l6, l7, l8, l30, l50, l64, l100, l200, l448, l1200, iN_add, iN_lt, iN_le, iN_inj, iN_clamp, iN_inb, iN_nO, nO_iN, nO_lt, iN_ltm, iN_lem, nO_le, iN_pred, if_pos, if_neg, ↓reduceIte, or_true, true_or, and_true, true_and, ne_eq, not_true_eq_false, not_false_eq_true, false_or, or_false, and_false, false_and, l_X8_grow_44, k_wear (σ := σ) hk]
theorem k_gr44e {σ : Wd} {u : Nat} (hu : u < σ.2.2 8) (n : Nat) (a2 a1 : Int32) : l_X8_grow_44 (n + 1) σ (iN 4) a2 u a1 = some (.inl (), σ) := by
  simp (disch := omega) only [gd_t, gd_T, bx_some, bx_thr, bd_def, nx_in, ↓nO_eq, l0, l1, l2, l3, l4, l5, l6, l7, l8, l30, l50, l64, l100, l200, l448, l1200, iN_add, iN_lt, iN_le, iN_inj, iN_clamp, iN_inb, iN_nO, nO_iN, nO_lt, iN_ltm, iN_lem, nO_le, iN_pred, if_pos, if_neg, ↓reduceIte, or_true, true_or, and_true, true_and, ne_eq, not_true_eq_false, not_false_eq_true, false_or, or_false, and_false, false_and, l_X8_grow_44]
theorem k_grow {σ : Wd} {u : Nat} (hu : u < σ.2.2 8) (p0 : Int32) : ∃ σ', f_X8_grow σ u p0 = some (.inl (), σ') ∧ σ'.2 = σ.2 ∧ ∀ t i k, σ'.1 t i k = if t = 21 ∧ i = u ∧ k = 3 then σ.1 21 u 3 + p0 else if t = 22 ∧ i = u ∧ k < 3 then σ.1 22 u k + p0 else if t = 24 ∧ i = u ∧ k < 4 then σ.1 24 u k - (wea k (σ.1 21 u 3 + p0) - wea k (σ.1 21 u 3)) else σ.1 t i k := by
  obtain ⟨m, hm⟩ := FU_ge 5 (by decide)
  -- three steps, then four
  have h17 : ∀ ρ : Wd, u < ρ.2.2 8 → ∀ a2 a1, ∃ ρ', l_X8_grow_17 FU ρ (iN 0) a2 u a1 = l_X8_grow_44 FU ρ' (iN 0) a2 u a1 ∧ ρ'.2 = ρ.2 ∧ ∀ t i k, ρ'.1 t i k = if t = 22 ∧ i = u ∧ k < 3 then ρ.1 22 u k + a1 else ρ.1 t i k := fun ρ hρ a2 a1 => by
    have r1 : (wr ρ 22 u 0 (ρ.1 22 u 0 + a1)).1 22 u 1 = ρ.1 22 u 1 := by rw [wr_rd, if_neg (by omega)]
    have r2 : ∀ v, (wr (wr ρ 22 u 0 (ρ.1 22 u 0 + a1)) 22 u 1 v).1 22 u 2 = ρ.1 22 u 2 := fun v => by rw [wr_rd, if_neg (by omega), wr_rd, if_neg (by omega)]
    refine ⟨wr (wr (wr ρ 22 u 0 (ρ.1 22 u 0 + a1)) 22 u 1 (ρ.1 22 u 1 + a1)) 22 u 2 (ρ.1 22 u 2 + a1), ?_, rfl, fun t i k => ?_⟩
    · obtain ⟨m2, hm2⟩ : ∃ m2, FU = m2 + 1 + 1 + 1 + 1 := by
        obtain ⟨m2, hm2⟩ := FU_ge 4 (by decide)
        exact ⟨m2, by omega⟩
      have hl : ∀ n : Nat, n = FU → l_X8_grow_17 n ρ (iN 0) a2 u a1 = l_X8_grow_44 FU (wr (wr (wr ρ 22 u 0 (ρ.1 22 u 0 + a1)) 22 u 1 (ρ.1 22 u 1 + a1)) 22 u 2 (ρ.1 22 u 2 + a1)) (iN 0) a2 u a1 := fun n hn => by
        have hn2 : n = m2 + 1 + 1 + 1 + 1 := by omega
        rw [hn2, k_gr17 hρ (by decide), k_gr17 (σ := wr ρ 22 u 0 (ρ.1 22 u 0 + a1)) hρ (by decide), r1, k_gr17 (σ := wr (wr ρ 22 u 0 (ρ.1 22 u 0 + a1)) 22 u (0 + 1) (ρ.1 22 u 1 + a1)) hρ (by decide), r2, k_gr17e (σ := wr (wr (wr ρ 22 u 0 (ρ.1 22 u 0 + a1)) 22 u (0 + 1) (ρ.1 22 u 1 + a1)) 22 u (0 + 1 + 1) (ρ.1 22 u 2 + a1)) hρ]
      exact hl FU rfl
    · simp only [wr_rd]
      by_cases h : t = 22 ∧ i = u ∧ k < 3
      · obtain ⟨rfl, rfl, hk⟩ := h
        have : k = 0 ∨ k = 1 ∨ k = 2 := by omega
        rcases this with rfl | rfl | rfl <;> simp
      · rw [if_neg h, if_neg (by omega), if_neg (by omega), if_neg (by omega)]
  have h44 : ∀ ρ : Wd, u < ρ.2.2 8 → ∀ a2 a1, ∃ ρ', l_X8_grow_44 FU ρ (iN 0) a2 u a1 = some (.inl (), ρ') ∧ ρ'.2 = ρ.2 ∧ ∀ t i k, ρ'.1 t i k = if t = 24 ∧ i = u ∧ k < 4 then ρ.1 24 u k - (wea k (ρ.1 21 u 3) - wea k a2) else ρ.1 t i k := fun ρ hρ a2 a1 => by
    refine ⟨wr (wr (wr (wr ρ 24 u 0 (ρ.1 24 u 0 - (wea 0 (ρ.1 21 u 3) - wea 0 a2))) 24 u 1 (ρ.1 24 u 1 - (wea 1 (ρ.1 21 u 3) - wea 1 a2))) 24 u 2 (ρ.1 24 u 2 - (wea 2 (ρ.1 21 u 3) - wea 2 a2))) 24 u 3 (ρ.1 24 u 3 - (wea 3 (ρ.1 21 u 3) - wea 3 a2)), ?_, rfl, fun t i k => ?_⟩
    · have rd : ∀ (σ : Wd) (x : Nat) (v : Int32) (y : Nat), ¬ y = x → (wr σ 24 u x v).1 24 u y = σ.1 24 u y := fun σ x v y h => by rw [wr_rd, if_neg (fun z => h z.2.2)]
      have rd2 : ∀ (σ : Wd) (x : Nat) (v : Int32), (wr σ 24 u x v).1 21 u 3 = σ.1 21 u 3 := fun σ x v => by rw [wr_rd, if_neg (by omega)]
      have hl : ∀ n : Nat, n = FU → l_X8_grow_44 n ρ (iN 0) a2 u a1 = some (.inl (), wr (wr (wr (wr ρ 24 u 0 (ρ.1 24 u 0 - (wea 0 (ρ.1 21 u 3) - wea 0 a2))) 24 u 1 (ρ.1 24 u 1 - (wea 1 (ρ.1 21 u 3) - wea 1 a2))) 24 u 2 (ρ.1 24 u 2 - (wea 2 (ρ.1 21 u 3) - wea 2 a2))) 24 u 3 (ρ.1 24 u 3 - (wea 3 (ρ.1 21 u 3) - wea 3 a2))) := fun n hn => by
        have hn2 : n = m + 1 + 1 + 1 + 1 + 1 := by omega
        rw [hn2, k_gr44 hρ (by decide)]
        rw [k_gr44 (k := 0 + 1) (by exact hρ) (by decide), rd _ _ _ _ (by decide), rd2]
        rw [k_gr44 (k := 0 + 1 + 1) (by exact hρ) (by decide), rd _ _ _ _ (by decide), rd _ _ _ _ (by decide), rd2, rd2]
        rw [k_gr44 (k := 0 + 1 + 1 + 1) (by exact hρ) (by decide), rd _ _ _ _ (by decide), rd _ _ _ _ (by decide), rd _ _ _ _ (by decide), rd2, rd2, rd2]
        exact k_gr44e (by exact hρ) _ _ _
      exact hl FU rfl
    · simp only [wr_rd]
      by_cases h : t = 24 ∧ i = u ∧ k < 4
      · obtain ⟨rfl, rfl, hk⟩ := h
        have : k = 0 ∨ k = 1 ∨ k = 2 ∨ k = 3 := by omega
        rcases this with rfl | rfl | rfl | rfl <;> simp
      · rw [if_neg h, if_neg (by omega), if_neg (by omega), if_neg (by omega), if_neg (by omega)]
  obtain ⟨ρ1, q1, q2, q3⟩ := h17 (wr σ 21 u 3 (σ.1 21 u 3 + p0)) hu (σ.1 21 u 3) p0
  obtain ⟨ρ2, z1, z2, z3⟩ := h44 ρ1 (by rw [q2]; exact hu) (σ.1 21 u 3) p0
  refine ⟨ρ2, ?_, z2.trans q2, fun t i k => ?_⟩
  · unfold f_X8_grow
    rw [gd_t hu, bd_def]
    exact q1.trans z1
  · simp only [z3, q3, wr_rd]
    by_cases h1 : t = 21 ∧ i = u ∧ k = 3
    · obtain ⟨rfl, rfl, rfl⟩ := h1
      simp
    · by_cases h2 : t = 22 ∧ i = u ∧ k < 3
      · obtain ⟨rfl, rfl, h2⟩ := h2
        simp [h2]
      · by_cases h3 : t = 24 ∧ i = u ∧ k < 4
        · obtain ⟨rfl, rfl, h3⟩ := h3
          simp [h3]
        · simp only [if_neg h3, if_neg h2, if_neg h1]
theorem grow_C {σ : Wd} {A : Ab} (C : RC σ A) {u : Nat} (hu : u < nU A) (p0 : Int32) : ∃ σ', f_X8_grow σ u p0 = some (.inl (), σ') ∧ (∀ t, ¬ (21 ≤ t ∧ t ≤ 24) → σ'.1 t = σ.1 t) ∧ RC σ' (grA A u p0) := by
  obtain ⟨H, F, U, D, E, R1, S, L⟩ := C
  obtain ⟨σ', q1, q2, q3⟩ := k_grow (σ := σ) (u := u) (by rw [H.1]; exact hu) p0
  have off : ∀ t, ¬ (21 ≤ t ∧ t ≤ 24) → σ'.1 t = σ.1 t := fun t h => by
    funext i k
    rw [q3, if_neg (by omega), if_neg (by omega), if_neg (by omega)]
  refine ⟨σ', q1, off, RCl.fr H (off _ (by decide)) q2, RCf.fr F (off _ (by decide)) (off _ (by decide)) q2, fun v hv => ?_, ?_, ?_, RCr.fr R1 (off _ (by decide)) (off _ (by decide)), RCs.fr S (off _ (by decide)), RCg.fr L (off _ (by decide))⟩
  · obtain ⟨u1, u2, u3, u4, u5, u6⟩ := U v hv
    obtain ⟨y1, y2, y3, y4, y5, y6⟩ := U u hu
    refine ⟨?_, ?_, ?_, fun k hk => ?_, fun k hk => ?_, fun a ha => ?_⟩
    · rw [q3, if_neg (by omega), if_neg (by omega), if_neg (by omega), grA_rd, if_neg (by omega), if_neg (by omega), if_neg (by omega)]; exact u1
    · rw [q3, if_neg (by omega), if_neg (by omega), if_neg (by omega), grA_rd, if_neg (by omega), if_neg (by omega), if_neg (by omega)]; exact u2
    · rw [q3, grA_rd]
      by_cases h : v = u
      · rw [if_pos ⟨rfl, h, rfl⟩, if_pos ⟨rfl, h, rfl⟩, y3]
      · rw [if_neg (fun z => h z.2.1), if_neg (by omega), if_neg (by omega), if_neg (fun z => h z.2.1), if_neg (by omega), if_neg (by omega)]; exact u3
    · rw [q3, grA_rd]
      by_cases h : v = u
      · rw [if_neg (by omega), if_pos ⟨rfl, h, hk⟩, if_neg (by omega), if_pos ⟨rfl, h⟩, y4 k hk]
      · rw [if_neg (by omega), if_neg (fun z => h z.2.1), if_neg (by omega), if_neg (by omega), if_neg (fun z => h z.2), if_neg (by omega)]; exact u4 k hk
    · rw [q3, grA_rd, if_neg (by omega), if_neg (by omega), if_neg (by omega), if_neg (by omega), if_neg (by omega), if_neg (by omega)]; exact u5 k hk
    · rw [q3, grA_rd]
      by_cases h : v = u
      · rw [if_neg (by omega), if_neg (by omega), if_pos ⟨rfl, h, ha⟩, if_neg (by omega), if_neg (by omega), if_pos ⟨rfl, h⟩, y6 a ha, y3]
      · rw [if_neg (by omega), if_neg (by omega), if_neg (fun z => h z.2.1), if_neg (by omega), if_neg (by omega), if_neg (fun z => h z.2)]; exact u6 a ha
  · refine RCd.fr (A := grA A u p0) (fun k hk => ?_) (off _ (by decide))
    have := D k hk
    simp only [grA_rd]
    simp
    exact this
  · refine RCe.fr (A := grA A u p0) ⟨fun k hk => ?_, fun k hk => ?_⟩ (off _ (by decide)) (off _ (by decide))
    · have := E.1 k hk
      simp only [grA_rd]
      simp
      exact this
    · have := E.2 k hk
      simp only [grA_rd]
      simp
      exact this
