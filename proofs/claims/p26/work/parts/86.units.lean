/-! the units of the start -/
def a0 (t i : Nat) : Int32 := if t = 50 then (if i = 0 then iN 1000 else if i = 1 then iN 3000 else iN 9000) else if t = 51 then iN 10 else if t = 52 then (if i = 0 then iN 5 else if i = 1 then iN 20 else iN 60) else if t = 53 then nO else if t = 55 then nO else iN 0
def VA (A : Ab) : Prop := (∀ t, 50 ≤ t → t ≤ 55 → ∀ i k, A.1 t i k = a0 t i) ∧ ∀ i, A.1 30 i 0 = iN 0
def VU (A : Ab) (m : Nat) : Prop := ∀ u, u < m → fl A u = [] ∧ (∀ j, A.1 35 u j = iN 0) ∧ (∀ a, A.1 34 u a = 900) ∧ ∃ c, c < 3000 ∧ A.1 32 u 0 = iN c ∧ A.1 33 u 0 = iN c
def S1 (σ : Wd) (A : Ab) (k : Nat) : Prop := RC σ A ∧ Gd A ∧ Gr A (fun _ => False) ∧ (nU A = k ∧ nD A = 0 ∧ nT A = 0) ∧ RBu σ A ∧ RBr σ A ∧ VA A ∧ VU A k ∧ (∀ d, d < 3 → (rw_ A d).length ≤ k) ∧ (∀ x, 16 * k ≤ x → σ.1 71 0 x = iN 0) ∧ ∀ x, 13 ≤ x → σ.1 76 0 x = iN 0
def un1 (σ : Wd) (k d c : Nat) : Wd := axl (wr (wr σ 71 0 (16 * k) (iN d)) 71 0 (16 * k + 1) (iN c)) k 900
def un2 (σ : Wd) (k d c l : Nat) : Wd := wr (wr (un1 σ k d c) 74 0 (4 * d + l) (iN k)) 74 0 (12 + d) (iN (l + 1))
theorem un1_71 (σ : Wd) (k d c x : Nat) : (un1 σ k d c).1 71 0 x = if 16 * k + 2 ≤ x ∧ x < 16 * k + 6 then 900 else if x = 16 * k + 1 then iN c else if x = 16 * k then iN d else σ.1 71 0 x := by
  unfold un1
  rw [axl_71, wr_rd, wr_rd]
  by_cases h : 16 * k + 2 ≤ x ∧ x < 16 * k + 6
  · rw [if_pos h, if_pos h]
  · rw [if_neg h, if_neg h]
    by_cases h1 : x = 16 * k + 1
    · rw [if_pos ⟨rfl, rfl, h1⟩, if_pos h1]
    · rw [if_neg (by omega), if_neg h1]
      by_cases h2 : x = 16 * k
      · rw [if_pos ⟨rfl, rfl, h2⟩, if_pos h2]
      · rw [if_neg (by omega), if_neg h2]
theorem un1_off (σ : Wd) (k d c : Nat) {t : Nat} (ht : t ≠ 71) : (un1 σ k d c).1 t = σ.1 t := by
  unfold un1
  rw [axl_off _ _ _ ht]
  funext i x
  rw [wr_rd, if_neg (by omega), wr_rd, if_neg (by omega)]
theorem un2_71 (σ : Wd) (k d c l x : Nat) : (un2 σ k d c l).1 71 0 x = (un1 σ k d c).1 71 0 x := by
  unfold un2
  rw [wr_rd, if_neg (by omega), wr_rd, if_neg (by omega)]
theorem un2_74 (σ : Wd) (k d c l x : Nat) : (un2 σ k d c l).1 74 0 x = if x = 12 + d then iN (l + 1) else if x = 4 * d + l then iN k else σ.1 74 0 x := by
  unfold un2
  rw [wr_rd, wr_rd, un1_off _ _ _ _ (by decide)]
  by_cases h1 : x = 12 + d
  · rw [if_pos ⟨rfl, rfl, h1⟩, if_pos h1]
  · rw [if_neg (by omega), if_neg h1]
    by_cases h2 : x = 4 * d + l
    · rw [if_pos ⟨rfl, rfl, h2⟩, if_pos h2]
    · rw [if_neg (by omega), if_neg h2]
theorem un2_off (σ : Wd) (k d c l : Nat) {t : Nat} (ht : t ≠ 71) (h4 : t ≠ 74) : (un2 σ k d c l).1 t = σ.1 t := by
  unfold un2
  funext i x
  rw [wr_rd, if_neg (by omega), wr_rd, if_neg (by omega), un1_off _ _ _ _ ht]
theorem un2_S (σ : Wd) (k d c l : Nat) : LSw σ (un2 σ k d c l) := ⟨rfl, fun t ht => un2_off _ _ _ _ _ (by omega) (by omega)⟩
theorem u_136 (L : Nat) (xs : Nat → Int32) (k65 : KQ) {σ : Wd} {k d c l : Nat} (hk : k < 4) (hd : d < 3) (hl : l ≤ k) (r12 : σ.1 74 0 (12 + d) = iN l) (a12 a11 a10 a9 : Int32) {σ' : Wd} (q : f_X9_unit (un2 σ k d c l) (iN d) (iN c) = some (.inl (iN k), σ')) : l_L_law_136 L xs k65 FU (wr (wr σ 71 0 (16 * k) (iN d)) 71 0 (16 * k + 1) (iN c)) (iN 2) (iN d) (iN k) (iN 1) a12 a11 a10 a9 = k65 σ' (iN (k + 1)) (iN 1) a12 a11 a10 a9 := by
  obtain ⟨m, hm⟩ := FU_ge 5 (by decide)
  have step : ∀ j, j < 4 → ∀ (n : Nat) (τ : Wd), l_L_law_136 L xs k65 (n + 1) τ (iN (2 + j)) (iN d) (iN k) (iN 1) a12 a11 a10 a9 = l_L_law_136 L xs k65 n (wr τ 71 0 (16 * k + (2 + j)) 900) (iN (2 + (j + 1))) (iN d) (iN k) (iN 1) a12 a11 a10 a9 := fun j hj n τ => by
    have h6 : ¬ 6 ≤ 2 + j := by omega
    have h1 : 2 + j + 1 = 2 + (j + 1) := rfl
    simp (disch := omega) only [gd_t, gd_T, bx_some, bx_thr, bd_def, nx_in, ↓nO_eq, l0, l1, l2, l3, l4, l5, l6, l7, l8, l9, l10, l12, l13, l16, l17, l18, l25, l30, l32, l33, l50, l64, l100, l200, l448, l1200, iN_add, iN_lt, iN_le, iN_inj, iN_clamp, iN_inb, iN_nO, nO_iN, nO_lt, iN_ltm, iN_lem, nO_le, iN_pred, if_pos, if_neg, ↓reduceIte, or_true, true_or, and_true, true_and, ne_eq, not_true_eq_false, not_false_eq_true, false_or, or_false, and_false, false_and, l_L_law_136, h6, iN_mul, h1]
  generalize hσ0 : wr (wr σ 71 0 (16 * k) (iN d)) 71 0 (16 * k + 1) (iN c) = σ0
  rw [show l_L_law_136 L xs k65 FU σ0 (iN 2) (iN d) (iN k) (iN 1) a12 a11 a10 a9 = l_L_law_136 L xs k65 (m + 5) σ0 (iN (2 + 0)) (iN d) (iN k) (iN 1) a12 a11 a10 a9 by rw [hm]]
  rw [step 0 (by decide), step 1 (by decide), step 2 (by decide), step 3 (by decide)]
  have e1 : wr (wr (wr (wr σ0 71 0 (16 * k + (2 + 0)) 900) 71 0 (16 * k + (2 + 1)) 900) 71 0 (16 * k + (2 + 2)) 900) 71 0 (16 * k + (2 + 3)) 900 = un1 σ k d c := by subst hσ0; rfl
  rw [e1, l_L_law_136, if_pos (by decide)]
  have s1 : (un1 σ k d c).1 74 0 (12 + d) = iN l := by rw [un1_off _ _ _ _ (by decide)]; exact r12
  have s2 : (wr (un1 σ k d c) 74 0 (4 * d + l) (iN k)).1 74 0 (12 + d) = iN l := by rw [wr_rd, if_neg (by omega)]; exact s1
  have s3 : (un2 σ k d c l).1 71 0 (16 * k + 1) = iN c := by
    rw [un2_71, un1_71, if_neg (by omega), if_pos rfl]
  have s4 : wr (wr (un1 σ k d c) 74 0 (4 * d + l) (iN k)) 74 0 (12 + d) (iN (l + 1)) = un2 σ k d c l := rfl
  have n10 : ¬ iN 1 = iN 0 := by decide
  simp (disch := omega) only [gd_t, gd_T, bx_some, bx_thr, bd_def, nx_in, ↓nO_eq, l0, l1, l2, l3, l4, l5, l6, l7, l8, l9, l10, l12, l13, l16, l17, l18, l25, l30, l32, l33, l50, l64, l100, l200, l448, l1200, iN_add, iN_lt, iN_le, iN_inj, iN_clamp, iN_inb, iN_nO, nO_iN, nO_lt, iN_ltm, iN_lem, nO_le, iN_pred, if_pos, if_neg, ↓reduceIte, or_true, true_or, and_true, true_and, ne_eq, not_true_eq_false, not_false_eq_true, false_or, or_false, and_false, false_and, iN_mul, s1, s2, s4, s3, n10, q, bu_some, bv_some, l14, l20, l21, l31, l60, l67, l99, l300, l400, l1000, l1500, l2000, l3000, l9000, up_ok]
theorem u_102 (L : Nat) (xs : Nat → Int32) (k65 : KQ) {σ : Wd} {A : Ab} {k : Nat} (S : S1 σ A k) (hk : k < 4) {d : Nat} (hd : d < 3) (v a12 a11 a10 a9 : Int32) : ∃ σ' A', j_L_law_102 L xs k65 σ v (iN k) (iN 1) a12 a11 a10 a9 (iN d) = k65 σ' (iN (k + 1)) (iN 1) a12 a11 a10 a9 ∧ S1 σ' A' (k + 1) := by
  obtain ⟨C, G, W, ⟨n1, n2, n3⟩, U, R, va, vu, vr, z1, z6⟩ := S
  have hc := upM_lt (v / iN 16) (n := 3000) (by decide)
  generalize hc' : upM (v / iN 16) 3000 = c at *
  have hl := vr d hd
  obtain ⟨σ', q1, q2, q3, q4, q5⟩ := z_unit (C.ls (un2_S σ k d c (rw_ A d).length)) G W (by omega) hd (km := iN c) ⟨by show ¬ iN c < iN 0; rw [iN_lt (by omega) (by decide)]; omega, by show iN c ≤ iN 1000000; rw [iN_le (by omega) (by decide)]; omega⟩
  rw [n1] at q1
  have h136 := u_136 L xs k65 hk hd hl (R d hd).1 a12 a11 a10 a9 q1
  have t71 : ∀ x, σ'.1 71 0 x = (un1 σ k d c).1 71 0 x := fun x => by rw [q2 71 (by decide), un2_71]
  have t74 : ∀ x, σ'.1 74 0 x = if x = 12 + d then iN ((rw_ A d).length + 1) else if x = 4 * d + (rw_ A d).length then iN k else σ.1 74 0 x := fun x => by rw [q2 74 (by decide), un2_74]
  have t76 : σ'.1 76 = σ.1 76 := by rw [q2 76 (by decide), un2_off _ _ _ _ _ (by decide) (by decide)]
  have hrw : ∀ e, rw_ (unA A d (iN c)) e = if e = d then rw_ A d ++ [k] else rw_ A e := fun e => by
    rw [← n1]
    rfl
  have hfl : ∀ u, fl (unA A d (iN c)) u = if u = k then [] else fl A u := fun u => by
    rw [← n1]
    rfl
  have hrd : ∀ t i x, (unA A d (iN c)).1 t i x = if i = k ∧ t = 31 ∧ x = 0 then iN d else if i = k ∧ (t = 32 ∨ t = 33) ∧ x = 0 then iN c else if i = k ∧ (t = 35 ∨ t = 36) then 0 else if i = k ∧ t = 34 then 900 else A.1 t i x := fun t i x => by
    rw [← n1]
    rfl
  refine ⟨σ', unA A d (iN c), ?_, q3, q4, q5, ⟨?_, n2, n3⟩, fun u hu => ?_, fun e he => ?_, ⟨fun t h1 h2 i x => ?_, fun i => ?_⟩, fun u hu => ?_, fun e he => ?_, fun x hx => ?_, fun x hx => ?_⟩
  · rw [← h136]
    simp (disch := omega) only [gd_t, gd_T, bx_some, bx_thr, bd_def, nx_in, ↓nO_eq, l0, l1, l2, l3, l4, l5, l6, l7, l8, l9, l10, l12, l13, l16, l17, l18, l25, l30, l32, l33, l50, l64, l100, l200, l448, l1200, iN_add, iN_lt, iN_le, iN_inj, iN_clamp, iN_inb, iN_nO, nO_iN, nO_lt, iN_ltm, iN_lem, nO_le, iN_pred, if_pos, if_neg, ↓reduceIte, or_true, true_or, and_true, true_and, ne_eq, not_true_eq_false, not_false_eq_true, false_or, or_false, and_false, false_and, j_L_law_102, iN_mul, hc', bu_some, bv_some, l14, l20, l21, l31, l60, l67, l99, l300, l400, l1000, l1500, l2000, l3000, l9000, up_ok]
  · show nU A + 1 = k + 1
    rw [n1]
  · have hu : u < nU A + 1 := hu
    rw [n1] at hu
    by_cases hk' : u = k
    · subst hk'
      refine ⟨?_, ?_, fun a ha => ?_, fun j hj => ?_, fun j hj => ?_, ?_⟩
      · rw [t71, un1_71, if_neg (by omega), if_neg (by omega), if_pos rfl, hrd, if_pos ⟨rfl, rfl, rfl⟩]
      · rw [t71, un1_71, if_neg (by omega), if_pos rfl, hrd, if_neg (by omega), if_pos (by omega)]
      · rw [t71, un1_71, if_pos (by omega), hrd, if_neg (by omega), if_neg (by omega), if_neg (by omega), if_pos ⟨rfl, rfl⟩]
      · rw [t71, un1_71, if_neg (by omega), if_neg (by omega), if_neg (by omega), hrd, if_neg (by omega), if_neg (by omega), if_pos (by omega)]
        exact z1 _ (by omega)
      · rw [t71, un1_71, if_neg (by omega), if_neg (by omega), if_neg (by omega), hrd, if_neg (by omega), if_neg (by omega), if_pos (by omega)]
        exact z1 _ (by omega)
      · rw [t71, un1_71, if_neg (by omega), if_neg (by omega), if_neg (by omega), hfl, if_pos rfl]
        exact z1 _ (by omega)
    · obtain ⟨y0, y1, y2, y3, y4, y5⟩ := U u (by omega)
      have hA : ∀ t x, (unA A d (iN c)).1 t u x = A.1 t u x := fun t x => by
        rw [hrd, if_neg (by omega), if_neg (by omega), if_neg (by omega), if_neg (by omega)]
      have hB : ∀ x, x < 16 * k → σ'.1 71 0 x = σ.1 71 0 x := fun x hx => by
        rw [t71, un1_71, if_neg (by omega), if_neg (by omega), if_neg (by omega)]
      refine ⟨?_, ?_, fun a ha => ?_, fun j hj => ?_, fun j hj => ?_, ?_⟩
      · rw [hB _ (by omega), hA]; exact y0
      · rw [hB _ (by omega), hA]; exact y1
      · rw [hB _ (by omega), hA]; exact y2 a ha
      · rw [hB _ (by omega), hA]; exact y3 j hj
      · rw [hB _ (by omega), hA]; exact y4 j hj
      · rw [hB _ (by omega), hfl, if_neg hk']; exact y5
  · rw [hrw]
    have hle := vr e he
    by_cases hed : e = d
    · subst hed
      rw [if_pos rfl]
      refine ⟨?_, fun j x hx => ?_⟩
      · rw [t74, if_pos rfl, List.length_append]; rfl
      · by_cases hj : j < (rw_ A e).length
        · rw [List.getElem?_append_left hj] at hx
          rw [t74, if_neg (by omega), if_neg (by omega)]
          exact (R e he).2 j x hx
        · rw [List.getElem?_append_right (by omega)] at hx
          have hj2 : j - (rw_ A e).length = 0 := by
            cases h0 : j - (rw_ A e).length with
            | zero => rfl
            | succ z => rw [h0] at hx; cases hx
          rw [hj2] at hx
          cases hx
          rw [t74, if_neg (by omega), if_pos (by omega)]
    · rw [if_neg hed]
      refine ⟨?_, fun j x hx => ?_⟩
      · rw [t74, if_neg (by omega), if_neg (by omega)]
        exact (R e he).1
      · have hj : j < (rw_ A e).length := (List.getElem?_eq_some_iff.mp hx).1
        rw [t74, if_neg (by omega), if_neg (by omega)]
        exact (R e he).2 j x hx
  · rw [hrd, if_neg (by omega), if_neg (by omega), if_neg (by omega), if_neg (by omega)]
    exact va.1 t h1 h2 i x
  · rw [hrd, if_neg (by omega), if_neg (by omega), if_neg (by omega), if_neg (by omega)]
    exact va.2 i
  · by_cases hk' : u = k
    · subst hk'
      refine ⟨by rw [hfl, if_pos rfl], fun j => ?_, fun a => ?_, c, hc, ?_, ?_⟩
      · rw [hrd, if_neg (by omega), if_neg (by omega), if_pos (by omega)]; rfl
      · rw [hrd, if_neg (by omega), if_neg (by omega), if_neg (by omega), if_pos ⟨rfl, rfl⟩]
      · rw [hrd, if_neg (by omega), if_pos (by omega)]
      · rw [hrd, if_neg (by omega), if_pos (by omega)]
    · have hA : ∀ t x, (unA A d (iN c)).1 t u x = A.1 t u x := fun t x => by
        rw [hrd, if_neg (by omega), if_neg (by omega), if_neg (by omega), if_neg (by omega)]
      obtain ⟨v1, v2, v3, b, v4, v5, v6⟩ := vu u (by omega)
      exact ⟨by rw [hfl, if_neg hk']; exact v1, fun j => by rw [hA]; exact v2 j, fun a => by rw [hA]; exact v3 a, b, v4, by rw [hA]; exact v5, by rw [hA]; exact v6⟩
  · rw [hrw]
    have hle := vr e he
    by_cases hed : e = d
    · subst hed
      rw [if_pos rfl, List.length_append]
      show (rw_ A e).length + 1 ≤ k + 1
      omega
    · rw [if_neg hed]; omega
  · rw [t71, un1_71, if_neg (by omega), if_neg (by omega), if_neg (by omega)]
    exact z1 x (by omega)
  · rw [t76]; exact z6 x hx
theorem u_65 (L : Nat) (xs : Nat → Int32) (hL : L ≤ 260) {σ : Wd} {A : Ab} {k : Nat} (S : S1 σ A k) (hk : k < 4) (n : Nat) (a12 a11 a10 a9 : Int32) : ∃ σ' A', l_L_law_65 L xs (n + 1) σ (iN k) (iN 1) a12 a11 a10 a9 = l_L_law_65 L xs n σ' (iN (k + 1)) (iN 1) a12 a11 a10 a9 ∧ S1 σ' A' (k + 1) := by
  have n4 : ¬ (4 : Int32) ≤ iN k := by
    rw [l4, iN_le (by decide) (by omega)]; omega
  rw [l_L_law_65, if_neg n4, gd_t (cell_ok hL (by omega : k < 1000)), bd_def]
  generalize cellF L xs (iN k) = v
  have q1 : f_L_up σ v 4 = some (.inl (iN (upM v 4)), σ) := up_ok (n := 4) (by decide) (by decide)
  have q2 : f_L_up σ (v / 16) 3 = some (.inl (iN (upM (v / 16) 3)), σ) := up_ok (n := 3) (by decide) (by decide)
  rw [q1, bu_some]
  by_cases h3 : iN (upM v 4) = 3
  · rw [if_pos h3, q2, bu_some]
    exact u_102 L xs _ S hk (upM_lt (v / 16) (n := 3) (by decide)) v a12 a11 a10 a9
  · rw [if_neg h3]
    exact u_102 L xs _ S hk (by decide : 0 < 3) v a12 a11 a10 a9
