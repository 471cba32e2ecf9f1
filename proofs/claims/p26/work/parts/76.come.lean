/-! UNITS come and run, by the law's rows -/
theorem p_237 {σ : Wd} {c d j : Nat} (hc : c < 4) (hd : d < 3) (hj : j < 3) (k122 : Wd → Int32 → Int32 → Option ((Int32 ⊕ String) × Wd)) (n : Nat) (K a4 : Int32) : l_L_runs_237 k122 (n + 1) σ (iN (3 + j)) K (iN (16 * c)) (iN d) a4 = l_L_runs_237 k122 n (wr σ 71 0 (16 * c + (3 + j)) (σ.1 71 0 (16 * c + (3 + j)) - (K / 500 - σ.1 71 0 (16 * c + 1) / 500))) (iN (3 + (j + 1))) K (iN (16 * c)) (iN d) a4 := by
  have h1 : 3 + j + 1 = 3 + (j + 1) := rfl
  simp (disch := omega) only [gd_t, gd_T, bx_some, bx_thr, bd_def, nx_in, ↓nO_eq, l0, l1, l2, l3, l4, l5, l6, l7, l8, l9, l10, l12, l13, l16, l17, l18, l25, l30, l32, l33, l50, l64, l100, l200, l448, l1200, iN_add, iN_lt, iN_le, iN_inj, iN_clamp, iN_inb, iN_nO, nO_iN, nO_lt, iN_ltm, iN_lem, nO_le, iN_pred, if_pos, if_neg, ↓reduceIte, or_true, true_or, and_true, true_and, ne_eq, not_true_eq_false, not_false_eq_true, false_or, or_false, and_false, false_and, l_L_runs_237, h1]
theorem p_237e {σ : Wd} {c d : Nat} (hc : c < 4) (hd : d < 3) (k122 : Wd → Int32 → Int32 → Option ((Int32 ⊕ String) × Wd)) (n : Nat) (K a4 : Int32) : l_L_runs_237 k122 (n + 1) σ (iN 6) K (iN (16 * c)) (iN d) a4 = l_L_runs_289 k122 FU (wr σ 71 0 (16 * c + 1) K) (iN 6) (iN (16 * c)) (iN d) a4 := by
  simp (disch := omega) only [gd_t, gd_T, bx_some, bx_thr, bd_def, nx_in, ↓nO_eq, l0, l1, l2, l3, l4, l5, l6, l7, l8, l9, l10, l12, l13, l16, l17, l18, l25, l30, l32, l33, l50, l64, l100, l200, l448, l1200, iN_add, iN_lt, iN_le, iN_inj, iN_clamp, iN_inb, iN_nO, nO_iN, nO_lt, iN_ltm, iN_lem, nO_le, iN_pred, if_pos, if_neg, ↓reduceIte, or_true, true_or, and_true, true_and, ne_eq, not_true_eq_false, not_false_eq_true, false_or, or_false, and_false, false_and, l_L_runs_237]
theorem p_289 {σ : Wd} {c d j : Nat} (hc : c < 4) (hd : d < 3) (hj : j < 3) (k122 : Wd → Int32 → Int32 → Option ((Int32 ⊕ String) × Wd)) (n : Nat) (a4 : Int32) : l_L_runs_289 k122 (n + 1) σ (iN (6 + j)) (iN (16 * c)) (iN d) a4 = l_L_runs_289 k122 n (wr σ 71 0 (16 * c + (6 + j)) (σ.1 71 0 (16 * c + (6 + j)) + σ.1 75 0 (6 * d + 2))) (iN (6 + (j + 1))) (iN (16 * c)) (iN d) a4 := by
  have h1 : 6 + j + 1 = 6 + (j + 1) := rfl
  simp (disch := omega) only [gd_t, gd_T, bx_some, bx_thr, bd_def, nx_in, ↓nO_eq, l0, l1, l2, l3, l4, l5, l6, l7, l8, l9, l10, l12, l13, l16, l17, l18, l25, l30, l32, l33, l50, l64, l100, l200, l448, l1200, iN_add, iN_lt, iN_le, iN_inj, iN_clamp, iN_inb, iN_nO, nO_iN, nO_lt, iN_ltm, iN_lem, nO_le, iN_pred, if_pos, if_neg, ↓reduceIte, or_true, true_or, and_true, true_and, ne_eq, not_true_eq_false, not_false_eq_true, false_or, or_false, and_false, false_and, l_L_runs_289, iN_mul, h1]
theorem p_289e {σ : Wd} {c d : Nat} (k122 : Wd → Int32 → Int32 → Option ((Int32 ⊕ String) × Wd)) (n : Nat) (a4 : Int32) : l_L_runs_289 k122 (n + 1) σ (iN 9) (iN (16 * c)) (iN d) a4 = k122 σ (iN (d + 1)) a4 := by
  have h1 : iN d + 1 = iN (d + 1) := iN_add d 1
  rw [l_L_runs_289, if_pos (by decide), h1]
def gW5 (σ : Wd) (c : Nat) (K : Int32) : Wd :=
  bd (wr σ 71 0 (16 * c + (3 + 0)) (σ.1 71 0 (16 * c + (3 + 0)) - (K / 500 - σ.1 71 0 (16 * c + 1) / 500))) fun s1 =>
  bd (wr s1 71 0 (16 * c + (3 + 1)) (s1.1 71 0 (16 * c + (3 + 1)) - (K / 500 - s1.1 71 0 (16 * c + 1) / 500))) fun s2 =>
  wr s2 71 0 (16 * c + (3 + 2)) (s2.1 71 0 (16 * c + (3 + 2)) - (K / 500 - s2.1 71 0 (16 * c + 1) / 500))
def gW8 (σ : Wd) (c d : Nat) : Wd :=
  bd (wr σ 71 0 (16 * c + (6 + 0)) (σ.1 71 0 (16 * c + (6 + 0)) + σ.1 75 0 (6 * d + 2))) fun s1 =>
  bd (wr s1 71 0 (16 * c + (6 + 1)) (s1.1 71 0 (16 * c + (6 + 1)) + s1.1 75 0 (6 * d + 2))) fun s2 =>
  wr s2 71 0 (16 * c + (6 + 2)) (s2.1 71 0 (16 * c + (6 + 2)) + s2.1 75 0 (6 * d + 2))
theorem p_grow {σ : Wd} {c d : Nat} (hc : c < 4) (hd : d < 3) (k122 : Wd → Int32 → Int32 → Option ((Int32 ⊕ String) × Wd)) (K a4 : Int32) : l_L_runs_237 k122 FU σ (iN 3) K (iN (16 * c)) (iN d) a4 = k122 (gW8 (wr (gW5 σ c K) 71 0 (16 * c + 1) K) c d) (iN (d + 1)) a4 := by
  obtain ⟨m, hm⟩ := FU_ge 4 (by decide)
  have e1 : l_L_runs_237 k122 FU σ (iN 3) K (iN (16 * c)) (iN d) a4 = l_L_runs_289 k122 FU (wr (gW5 σ c K) 71 0 (16 * c + 1) K) (iN 6) (iN (16 * c)) (iN d) a4 := by
    rw [show l_L_runs_237 k122 FU σ (iN 3) K (iN (16 * c)) (iN d) a4 = l_L_runs_237 k122 (m + 4) σ (iN (3 + 0)) K (iN (16 * c)) (iN d) a4 by rw [hm]]
    rw [p_237 hc hd (by decide : 0 < 3), p_237 hc hd (by decide : 1 < 3), p_237 hc hd (by decide : 2 < 3)]
    exact p_237e hc hd k122 m K a4
  have e2 : ∀ τ : Wd, l_L_runs_289 k122 FU τ (iN 6) (iN (16 * c)) (iN d) a4 = k122 (gW8 τ c d) (iN (d + 1)) a4 := fun τ => by
    rw [show l_L_runs_289 k122 FU τ (iN 6) (iN (16 * c)) (iN d) a4 = l_L_runs_289 k122 (m + 4) τ (iN (6 + 0)) (iN (16 * c)) (iN d) a4 by rw [hm]]
    rw [p_289 hc hd (by decide : 0 < 3), p_289 hc hd (by decide : 1 < 3), p_289 hc hd (by decide : 2 < 3)]
    exact p_289e k122 m a4
  rw [e1, e2]
theorem gW5_rd (σ : Wd) (c : Nat) (K : Int32) (t i x : Nat) : (gW5 σ c K).1 t i x = if t = 71 ∧ i = 0 ∧ 16 * c + 3 ≤ x ∧ x < 16 * c + 6 then σ.1 t i x - (K / 500 - σ.1 71 0 (16 * c + 1) / 500) else σ.1 t i x := by
  unfold gW5
  simp only [bd_def, wr_rd]
  by_cases h : t = 71 ∧ i = 0
  · obtain ⟨rfl, rfl⟩ := h
    by_cases h3 : x = 16 * c + 3
    · subst h3; simp
    · by_cases h4 : x = 16 * c + 4
      · subst h4; simp
      · by_cases h5 : x = 16 * c + 5
        · subst h5; simp
        · rw [if_neg (by omega), if_neg (by omega), if_neg (by omega), if_neg (by omega)]
  · rw [if_neg (by omega), if_neg (by omega), if_neg (by omega), if_neg (by omega)]
theorem gW8_rd (σ : Wd) (c d t i x : Nat) : (gW8 σ c d).1 t i x = if t = 71 ∧ i = 0 ∧ 16 * c + 6 ≤ x ∧ x < 16 * c + 9 then σ.1 t i x + σ.1 75 0 (6 * d + 2) else σ.1 t i x := by
  unfold gW8
  simp only [bd_def, wr_rd]
  by_cases h : t = 71 ∧ i = 0
  · obtain ⟨rfl, rfl⟩ := h
    by_cases h3 : x = 16 * c + 6
    · subst h3; simp
    · by_cases h4 : x = 16 * c + 7
      · subst h4; simp
      · by_cases h5 : x = 16 * c + 8
        · subst h5; simp
        · rw [if_neg (by omega), if_neg (by omega), if_neg (by omega), if_neg (by omega)]
  · rw [if_neg (by omega), if_neg (by omega), if_neg (by omega), if_neg (by omega)]
/-- one UNIT came and ran -/
def cW (σ : Wd) (c d e L : Nat) : Wd :=
  bd (wr (wr (wr σ 74 0 (4 * e + L) (iN c)) 74 0 (12 + e) (iN (L + 1))) 71 0 (16 * c) (iN e)) fun s5 =>
  bd (s5.1 71 0 (16 * c + 1) + s5.1 75 0 (6 * d + 2)) fun K =>
  gW8 (wr (gW5 (wr s5 71 0 (16 * c + 2) (s5.1 71 0 (16 * c + 2) - (K / 300 - s5.1 71 0 (16 * c + 1) / 300))) c K) 71 0 (16 * c + 1) K) c d
theorem cW_off (σ : Wd) (c d e L : Nat) {t : Nat} (h1 : t ≠ 71) (h2 : t ≠ 74) : (cW σ c d e L).1 t = σ.1 t := by
  funext i x
  unfold cW
  simp only [bd_def]
  rw [gW8_rd, if_neg (by omega), wr_rd, if_neg (by omega), gW5_rd, if_neg (by omega), wr_rd, if_neg (by omega), wr_rd, if_neg (by omega), wr_rd, if_neg (by omega), wr_rd, if_neg (by omega)]
theorem cW_74 (σ : Wd) (c d e L : Nat) (x : Nat) : (cW σ c d e L).1 74 0 x = if x = 12 + e then iN (L + 1) else if x = 4 * e + L then iN c else σ.1 74 0 x := by
  unfold cW
  simp only [bd_def]
  rw [gW8_rd, if_neg (by omega), wr_rd, if_neg (by omega), gW5_rd, if_neg (by omega), wr_rd, if_neg (by omega), wr_rd, if_neg (by omega), wr_rd, wr_rd]
  simp
theorem cW_71 (σ : Wd) (c d e L : Nat) (x : Nat) : (cW σ c d e L).1 71 0 x = if x = 16 * c then iN e else if x = 16 * c + 1 then σ.1 71 0 (16 * c + 1) + σ.1 75 0 (6 * d + 2) else if x = 16 * c + 2 then σ.1 71 0 x - ((σ.1 71 0 (16 * c + 1) + σ.1 75 0 (6 * d + 2)) / 300 - σ.1 71 0 (16 * c + 1) / 300) else if 16 * c + 3 ≤ x ∧ x < 16 * c + 6 then σ.1 71 0 x - ((σ.1 71 0 (16 * c + 1) + σ.1 75 0 (6 * d + 2)) / 500 - σ.1 71 0 (16 * c + 1) / 500) else if 16 * c + 6 ≤ x ∧ x < 16 * c + 9 then σ.1 71 0 x + σ.1 75 0 (6 * d + 2) else σ.1 71 0 x := by
  unfold cW
  have s1 : ∀ y, y ≠ 16 * c → (wr (wr (wr σ 74 0 (4 * e + L) (iN c)) 74 0 (12 + e) (iN (L + 1))) 71 0 (16 * c) (iN e)).1 71 0 y = σ.1 71 0 y := fun y hy => by
    rw [wr_rd, if_neg (by omega), wr_rd, if_neg (by omega), wr_rd, if_neg (by omega)]
  have s0 : (wr (wr (wr σ 74 0 (4 * e + L) (iN c)) 74 0 (12 + e) (iN (L + 1))) 71 0 (16 * c) (iN e)).1 71 0 (16 * c) = iN e := by
    rw [wr_rd, if_pos ⟨rfl, rfl, rfl⟩]
  have s75 : ∀ y, (wr (wr (wr σ 74 0 (4 * e + L) (iN c)) 74 0 (12 + e) (iN (L + 1))) 71 0 (16 * c) (iN e)).1 75 0 y = σ.1 75 0 y := fun y => by
    rw [wr_rd, if_neg (by omega), wr_rd, if_neg (by omega), wr_rd, if_neg (by omega)]
  generalize wr (wr (wr σ 74 0 (4 * e + L) (iN c)) 74 0 (12 + e) (iN (L + 1))) 71 0 (16 * c) (iN e) = s5 at *
  simp only [bd_def]
  rw [s1 (16 * c + 1) (by omega), s1 (16 * c + 2) (by omega), s75]
  generalize hK : σ.1 71 0 (16 * c + 1) + σ.1 75 0 (6 * d + 2) = K at *
  have h75 : ∀ (τ : Wd) (y : Int32) (z : Nat), τ.1 75 0 z = σ.1 75 0 z → (wr τ 71 0 (16 * c + 1) y).1 75 0 z = σ.1 75 0 z := fun τ y z h => by
    rw [wr_rd, if_neg (by omega)]; exact h
  rw [gW8_rd, h75 _ K _ (by rw [gW5_rd, if_neg (by omega), wr_rd, if_neg (by omega), s75])]
  rw [wr_rd, gW5_rd, wr_rd, wr_rd, if_neg (show ¬ (71 = 71 ∧ 0 = 0 ∧ 16 * c + 1 = 16 * c + 2) by omega), s1 (16 * c + 1) (by omega)]
  by_cases h0 : x = 16 * c
  · subst h0
    rw [if_neg (by omega), if_neg (by omega), if_neg (by omega), if_neg (by omega), if_pos rfl, s0]
  · rw [s1 x h0, if_neg h0]
    by_cases h1 : x = 16 * c + 1
    · rw [if_neg (by omega), if_pos ⟨rfl, rfl, h1⟩, if_pos h1]
    · by_cases h2 : x = 16 * c + 2
      · rw [if_neg (by omega), if_neg (by omega), if_neg (by omega), if_pos ⟨rfl, rfl, h2⟩, if_neg h1, if_pos h2, h2]
      · by_cases h3 : 16 * c + 3 ≤ x ∧ x < 16 * c + 6
        · rw [if_neg (by omega), if_neg (by omega), if_pos (by omega), if_neg (by omega), if_neg h1, if_neg h2, if_pos h3]
        · by_cases h4 : 16 * c + 6 ≤ x ∧ x < 16 * c + 9
          · rw [if_pos (by omega), if_neg (by omega), if_neg (by omega), if_neg (by omega), if_neg h1, if_neg h2, if_neg h3, if_pos h4]
          · rw [if_neg (by omega), if_neg (by omega), if_neg (by omega), if_neg (by omega), if_neg h1, if_neg h2, if_neg h3, if_neg h4]
theorem p_122 {σ : Wd} {c d e L : Nat} (hc : c < 4) (hd : d < 3) (he : e < 3) (hL : L < 4) (hat : σ.1 77 0 d = iN c) (d1 : σ.1 75 0 (6 * d + 1) = iN e) (r1 : σ.1 74 0 (12 + e) = iN L) (n : Nat) (a4 : Int32) : l_L_runs_122 (n + 1) σ (iN d) a4 = l_L_runs_122 n (cW σ c d e L) (iN (d + 1)) a4 := by
  have hnn : ¬ iN c < iN 0 := by rw [iN_lt (by omega) (by decide)]; omega
  have h74 : (wr σ 74 0 (4 * e + L) (iN c)).1 74 0 (12 + e) = iN L := by
    rw [wr_rd, if_neg (by omega)]; exact r1
  have pg := fun (τ : Wd) (K : Int32) => p_grow (σ := τ) hc hd (l_L_runs_122 n) K a4
  unfold cW
  simp (disch := omega) only [gd_t, gd_T, bx_some, bx_thr, bd_def, nx_in, ↓nO_eq, l0, l1, l2, l3, l4, l5, l6, l7, l8, l9, l10, l12, l13, l16, l17, l18, l25, l30, l32, l33, l50, l64, l100, l200, l448, l1200, iN_add, iN_lt, iN_le, iN_inj, iN_clamp, iN_inb, iN_nO, nO_iN, nO_lt, iN_ltm, iN_lem, nO_le, iN_pred, if_pos, if_neg, ↓reduceIte, or_true, true_or, and_true, true_and, ne_eq, not_true_eq_false, not_false_eq_true, false_or, or_false, and_false, false_and, l_L_runs_122, hat, hnn, iN_mul, d1, r1, h74, pg]
theorem cmv_31 (A : Ab) (c d e v : Nat) (l : List Nat) : (rwA (grA (aw A 31 c 0 (A.1 45 d 0)) c (A.1 46 d 0)) e l).1 31 v 0 = if v = c then A.1 45 d 0 else A.1 31 v 0 := by
  show (grA (aw A 31 c 0 (A.1 45 d 0)) c (A.1 46 d 0)).1 31 v 0 = _
  rw [grA_rd, if_neg (by omega), if_neg (by omega), if_neg (by omega), aw_rd]
  by_cases h : v = c
  · rw [if_pos ⟨rfl, h, rfl⟩, if_pos h]
  · rw [if_neg (by omega), if_neg h]
theorem cmv_33 (A : Ab) (c d e v : Nat) (l : List Nat) : (rwA (grA (aw A 31 c 0 (A.1 45 d 0)) c (A.1 46 d 0)) e l).1 33 v 0 = if v = c then A.1 33 c 0 + A.1 46 d 0 else A.1 33 v 0 := by
  show (grA (aw A 31 c 0 (A.1 45 d 0)) c (A.1 46 d 0)).1 33 v 0 = _
  rw [grA_rd, aw_rd, if_neg (show ¬ (33 = 31 ∧ c = c ∧ 0 = 0) by omega)]
  by_cases h : v = c
  · rw [if_pos ⟨rfl, h, rfl⟩, if_pos h]
  · rw [if_neg (by omega), if_neg (by omega), if_neg (by omega), if_neg h, aw_rd, if_neg (by omega)]
theorem cmv_34 (A : Ab) (c d e v a : Nat) (l : List Nat) : (rwA (grA (aw A 31 c 0 (A.1 45 d 0)) c (A.1 46 d 0)) e l).1 34 v a = if v = c then A.1 34 c a - (wea a (A.1 33 c 0 + A.1 46 d 0) - wea a (A.1 33 c 0)) else A.1 34 v a := by
  show (grA (aw A 31 c 0 (A.1 45 d 0)) c (A.1 46 d 0)).1 34 v a = _
  rw [grA_rd, if_neg (by omega), if_neg (by omega)]
  by_cases h : v = c
  · rw [if_pos ⟨rfl, h⟩, if_pos h, aw_rd, if_neg (by omega), aw_rd, if_neg (by omega)]
  · rw [if_neg (by omega), if_neg h, aw_rd, if_neg (by omega)]
theorem cmv_35 (A : Ab) (c d e v a : Nat) (l : List Nat) : (rwA (grA (aw A 31 c 0 (A.1 45 d 0)) c (A.1 46 d 0)) e l).1 35 v a = if v = c then A.1 35 c a + A.1 46 d 0 else A.1 35 v a := by
  show (grA (aw A 31 c 0 (A.1 45 d 0)) c (A.1 46 d 0)).1 35 v a = _
  rw [grA_rd, if_neg (by omega)]
  by_cases h : v = c
  · rw [if_pos ⟨rfl, h⟩, if_pos h, aw_rd, if_neg (by omega)]
  · rw [if_neg (by omega), if_neg (by omega), if_neg h, aw_rd, if_neg (by omega)]
theorem cmv_36 (A : Ab) (c d e v a : Nat) (l : List Nat) : (rwA (grA (aw A 31 c 0 (A.1 45 d 0)) c (A.1 46 d 0)) e l).1 36 v a = A.1 36 v a := by
  show (grA (aw A 31 c 0 (A.1 45 d 0)) c (A.1 46 d 0)).1 36 v a = _
  rw [grA_rd, if_neg (by omega), if_neg (by omega), if_neg (by omega), aw_rd, if_neg (by omega)]
theorem p_cm {σ : Wd} {A : Ab} (B : RB σ A) (g4 : GxN A) (G : Gd A) {aw : Nat → Prop} (W : Gr A aw) {d c : Nat} (hd : d < 3) (hc : c ≤ 4) (hat : σ.1 77 0 d = chv 4 c) (hin : c < 4 → aw c) : ∃ σ', (∀ n a4, l_L_runs_122 (n + 1) σ (iN d) a4 = l_L_runs_122 n σ' (iN (d + 1)) a4) ∧ LSw σ σ' ∧ σ'.1 77 = σ.1 77 ∧ RB σ' (cm A d c) := by
  by_cases hcu : c = 4
  · have ec : chv 4 c = nO := if_pos hcu
    rw [ec] at hat
    refine ⟨σ, fun n a4 => ?_, LSw.rf σ, rfl, ?_⟩
    · have hneg : (nO < iN 0) = True := eq_true (by decide)
      simp (disch := omega) only [gd_t, gd_T, bx_some, bx_thr, bd_def, nx_in, ↓nO_eq, l0, l1, l2, l3, l4, l5, l6, l7, l8, l9, l10, l12, l13, l16, l17, l18, l25, l30, l32, l33, l50, l64, l100, l200, l448, l1200, iN_add, iN_lt, iN_le, iN_inj, iN_clamp, iN_inb, iN_nO, nO_iN, nO_lt, iN_ltm, iN_lem, nO_le, iN_pred, if_pos, if_neg, ↓reduceIte, or_true, true_or, and_true, true_and, ne_eq, not_true_eq_false, not_false_eq_true, false_or, or_false, and_false, false_and, l_L_runs_122, hat, hneg]
    · unfold cm
      rw [if_pos (by rw [g4.1]; exact hcu)]
      exact B
  · have ec : chv 4 c = iN c := if_neg hcu
    have hc4 : c < 4 := by omega
    have hcn : c < nU A := by rw [g4.1]; exact hc4
    have hdn : d < nD A := by rw [g4.2]; exact hd
    rw [ec] at hat
    obtain ⟨e, he, he2⟩ := (G.2.2.2.2.1 d hdn).1
    have hee : (A.1 45 d 0).toNatClampNeg = e := by rw [he2]; exact iN_clamp (by omega)
    have hni : ¬ c ∈ rw_ A e := (W.less G.1 hcn he (hin hc4)).2
    have hL : (rw_ A e).length < 4 := by
      have hnd : (c :: rw_ A e).Nodup := List.nodup_cons.mpr ⟨hni, (W.1 e he).1⟩
      have := nodup_le 4 (c :: rw_ A e) hnd (fun x hx => by
        rcases List.mem_cons.mp hx with rfl | hx
        · exact hc4
        · exact (W.len4 g4 he).2 x hx)
      simp at this
      omega
    obtain ⟨q0, q1, q2, q3, q4, q5⟩ := B.2.2.2.1 d hdn
    obtain ⟨r1, r2⟩ := B.2.2.1 e he
    obtain ⟨v0, v1, v2, v3, v4, v5⟩ := B.1 c hcn
    refine ⟨cW σ c d e (rw_ A e).length, fun n a4 => p_122 hc4 hd he hL hat (q1.trans he2) r1 n a4, ⟨rfl, fun t ht => cW_off σ c d e _ (by omega) (by omega)⟩, cW_off σ c d e _ (by decide) (by decide), ?_⟩
    unfold cm
    rw [if_neg (by rw [g4.1]; exact hcu), hee]
    refine ⟨fun v hv => ?_, ?_, fun x hx => ?_, ?_, ?_⟩
    · have hv4 : v < 4 := by have h : v < nU A := hv; rw [g4.1] at h; exact h
      obtain ⟨y0, y1, y2, y3, y4, y5⟩ := B.1 v hv
      by_cases h : v = c
      · subst h
        refine ⟨?_, ?_, fun a ha => ?_, fun k hk => ?_, fun k hk => ?_, ?_⟩
        · rw [cmv_31, if_pos rfl, cW_71, if_pos rfl, he2]
        · rw [cmv_33, if_pos rfl, cW_71, if_neg (by omega), if_pos rfl, v1, q2]
        · rw [cmv_34, if_pos rfl, cW_71, if_neg (by omega), if_neg (by omega), v1, q2]
          unfold wea
          by_cases ha0 : a = 0
          · subst ha0
            rw [if_pos (by omega), if_pos rfl, if_pos rfl, y2 0 (by decide)]
          · rw [if_neg (by omega), if_pos (by omega), if_neg ha0, if_neg ha0, y2 a ha]
        · rw [cmv_35, if_pos rfl, cW_71, if_neg (by omega), if_neg (by omega), if_neg (by omega), if_neg (by omega), if_pos (by omega), y3 k hk, q2]
        · rw [cmv_36, cW_71, if_neg (by omega), if_neg (by omega), if_neg (by omega), if_neg (by omega), if_neg (by omega)]
          exact y4 k hk
        · rw [cW_71, if_neg (by omega), if_neg (by omega), if_neg (by omega), if_neg (by omega), if_neg (by omega)]
          exact y5
      · have far : ∀ z, z < 16 → (cW σ c d e (rw_ A e).length).1 71 0 (16 * v + z) = σ.1 71 0 (16 * v + z) := fun z hz => by
          rw [cW_71, if_neg (by omega), if_neg (by omega), if_neg (by omega), if_neg (by omega), if_neg (by omega)]
        refine ⟨?_, ?_, fun a ha => ?_, fun k hk => ?_, fun k hk => ?_, ?_⟩
        · rw [cmv_31, if_neg h, ← y0]
          exact far 0 (by decide)
        · rw [cmv_33, if_neg h, ← y1]
          exact far 1 (by decide)
        · rw [cmv_34, if_neg h, ← y2 a ha, Nat.add_assoc]
          exact far (2 + a) (by omega)
        · rw [cmv_35, if_neg h, ← y3 k hk, Nat.add_assoc]
          exact far (6 + k) (by omega)
        · rw [cmv_36, ← y4 k hk, Nat.add_assoc]
          exact far (9 + k) (by omega)
        · rw [far 12 (by decide)]
          exact y5
    · intro v hv j f hf
      have := B.2.1 v hv j f hf
      rw [cW_off σ c d e _ (t := 72) (by decide) (by decide), cW_off σ c d e _ (t := 73) (by decide) (by decide)]
      exact this
    · obtain ⟨x1, x2⟩ := B.2.2.1 x hx
      have hr : rw_ (rwA (grA (Jvm.Pilot.CStablingroadLaw_law_r4569_fa4025.aw A 31 c 0 (A.1 45 d 0)) c (A.1 46 d 0)) e (rw_ A e ++ [c])) x = if x = e then rw_ A e ++ [c] else rw_ A x := rfl
      have hlx := (W.len4 g4 hx).1
      rw [hr]
      by_cases h : x = e
      · subst h
        rw [if_pos rfl]
        refine ⟨?_, fun j y hj => ?_⟩
        · rw [cW_74, if_pos rfl, List.length_append]; rfl
        · have hjl := (List.getElem?_eq_some_iff.mp hj).1
          rw [List.length_append, List.length_cons, List.length_nil] at hjl
          rw [cW_74, if_neg (by omega)]
          by_cases hj2 : j = (rw_ A x).length
          · subst hj2
            rw [if_pos rfl]
            rw [List.getElem?_append_right (Nat.le_refl _), Nat.sub_self] at hj
            cases hj
            rfl
          · rw [if_neg (by omega)]
            rw [List.getElem?_append_left (by omega)] at hj
            exact x2 j y hj
      · rw [if_neg h]
        refine ⟨?_, fun j y hj => ?_⟩
        · rw [cW_74, if_neg (by omega), if_neg (by omega)]
          exact x1
        · have hjl := (List.getElem?_eq_some_iff.mp hj).1
          rw [cW_74, if_neg (by omega), if_neg (by omega)]
          exact x2 j y hj
    · intro v hv
      have := B.2.2.2.1 v hv
      rw [cW_off σ c d e _ (t := 75) (by decide) (by decide)]
      exact this
    · have := B.2.2.2.2
      unfold RBe at this ⊢
      rw [cW_off σ c d e _ (t := 76) (by decide) (by decide)]
      exact this
