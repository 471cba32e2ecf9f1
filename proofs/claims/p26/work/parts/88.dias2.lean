/-! the diagrams of the start, up to the loop -/
theorem d_352 (L : Nat) (xs : Nat → Int32) (k233 : KQ) {σ : Wd} {A : Ab} {k : Nat} (C : RC σ A) (G : Gd A) (nk : nD A = k) (hk : k < 3) {a b : Nat} (ha : a < 3) (hb : b < 3) {N : Nat} (hN : 0 < N ∧ N ≤ 2000) (v x a12 a11 a10 a9 : Int32) : Dgo k233 σ A k a12 a11 a10 a9 (j_L_law_352 L xs k233 (wr (wr σ 75 0 (6 * k) (iN a)) 75 0 (6 * k + 1) (iN b)) v (iN k) (iN 1) a12 a11 a10 a9 (iN N) x (iN 1) (iN (6 * k + 2))) := by
  have hN0 := hN.1
  have hN1 := hN.2
  have hc := upM_lt x (n := N) hN.1
  have hl := upM_lt (v / 128) (n := 3) (by decide)
  generalize hc' : upM x N = c' at *
  generalize hl' : upM (v / 128) 3 = l at *
  by_cases h0 : upM (v / iN 16) 2 = 0
  · have e : j_L_law_352 L xs k233 (wr (wr σ 75 0 (6 * k) (iN a)) 75 0 (6 * k + 1) (iN b)) v (iN k) (iN 1) a12 a11 a10 a9 (iN N) x (iN 1) (iN (6 * k + 2)) = j_L_law_411 L xs k233 (wr (wr (wr (wr σ 75 0 (6 * k) (iN a)) 75 0 (6 * k + 1) (iN b)) 75 0 (6 * k + 2) (iN (1 + c'))) 75 0 (6 * k + 3) (iN l)) (iN k) (iN 1) a12 a11 a10 a9 (iN 3) (v / 256) (iN 1) (iN (6 * k + 4)) := by
      simp (disch := omega) only [gd_t, gd_T, bx_some, bx_thr, bd_def, nx_in, ↓nO_eq, l0, l1, l2, l3, l4, l5, l6, l7, l8, l9, l10, l12, l13, l16, l17, l18, l25, l30, l32, l33, l50, l64, l100, l200, l448, l1200, iN_add, iN_lt, iN_le, iN_inj, iN_clamp, iN_inb, iN_nO, nO_iN, nO_lt, iN_ltm, iN_lem, nO_le, iN_pred, if_pos, if_neg, ↓reduceIte, or_true, true_or, and_true, true_and, ne_eq, not_true_eq_false, not_false_eq_true, false_or, or_false, and_false, false_and, j_L_law_352, iN_mul, hc', hl', h0, bu_some, bv_some, l14, l20, l21, l31, l60, l67, l99, l300, l400, l1000, l1500, l2000, l3000, l9000, up_ok]
    rw [e]
    exact d_411 L xs k233 C G nk hk ha hb (by omega) (by omega) (by decide) _ _ _ _ _
  · have e : j_L_law_352 L xs k233 (wr (wr σ 75 0 (6 * k) (iN a)) 75 0 (6 * k + 1) (iN b)) v (iN k) (iN 1) a12 a11 a10 a9 (iN N) x (iN 1) (iN (6 * k + 2)) = j_L_law_411 L xs k233 (wr (wr (wr (wr σ 75 0 (6 * k) (iN a)) 75 0 (6 * k + 1) (iN b)) 75 0 (6 * k + 2) (iN (1 + c'))) 75 0 (6 * k + 3) (iN l)) (iN k) (iN 1) a12 a11 a10 a9 (iN 100) (v / 256) (iN 1) (iN (6 * k + 4)) := by
      have h2 := upM_lt (v / iN 16) (n := 2) (by decide)
      simp (disch := omega) only [gd_t, gd_T, bx_some, bx_thr, bd_def, nx_in, ↓nO_eq, l0, l1, l2, l3, l4, l5, l6, l7, l8, l9, l10, l12, l13, l16, l17, l18, l25, l30, l32, l33, l50, l64, l100, l200, l448, l1200, iN_add, iN_lt, iN_le, iN_inj, iN_clamp, iN_inb, iN_nO, nO_iN, nO_lt, iN_ltm, iN_lem, nO_le, iN_pred, if_pos, if_neg, ↓reduceIte, or_true, true_or, and_true, true_and, ne_eq, not_true_eq_false, not_false_eq_true, false_or, or_false, and_false, false_and, j_L_law_352, iN_mul, hc', hl', h0, bu_some, bv_some, l14, l20, l21, l31, l60, l67, l99, l300, l400, l1000, l1500, l2000, l3000, l9000, up_ok]
    rw [e]
    exact d_411 L xs k233 C G nk hk ha hb (by omega) (by omega) (by decide) _ _ _ _ _
theorem d_315 (L : Nat) (xs : Nat → Int32) (k233 : KQ) {σ : Wd} {A : Ab} {k : Nat} (C : RC σ A) (G : Gd A) (nk : nD A = k) (hk : k < 3) {a b : Nat} (ha : a < 3) (hb : b < 3) (v a12 a11 a10 a9 : Int32) : Dgo k233 σ A k a12 a11 a10 a9 (j_L_law_315 L xs k233 (wr σ 75 0 (6 * k) (iN a)) v (iN k) (iN 1) a12 a11 a10 a9 (iN b) (iN (6 * k + 1))) := by
  by_cases h0 : upM (v / iN 8) 3 = 0
  · have e : j_L_law_315 L xs k233 (wr σ 75 0 (6 * k) (iN a)) v (iN k) (iN 1) a12 a11 a10 a9 (iN b) (iN (6 * k + 1)) = j_L_law_352 L xs k233 (wr (wr σ 75 0 (6 * k) (iN a)) 75 0 (6 * k + 1) (iN b)) v (iN k) (iN 1) a12 a11 a10 a9 (iN 2000) (v / iN 64) (iN 1) (iN (6 * k + 2)) := by
      simp (disch := omega) only [gd_t, gd_T, bx_some, bx_thr, bd_def, nx_in, ↓nO_eq, l0, l1, l2, l3, l4, l5, l6, l7, l8, l9, l10, l12, l13, l16, l17, l18, l25, l30, l32, l33, l50, l64, l100, l200, l448, l1200, iN_add, iN_lt, iN_le, iN_inj, iN_clamp, iN_inb, iN_nO, nO_iN, nO_lt, iN_ltm, iN_lem, nO_le, iN_pred, if_pos, if_neg, ↓reduceIte, or_true, true_or, and_true, true_and, ne_eq, not_true_eq_false, not_false_eq_true, false_or, or_false, and_false, false_and, j_L_law_315, iN_mul, h0, bu_some, bv_some, l14, l20, l21, l31, l60, l67, l99, l300, l400, l1000, l1500, l2000, l3000, l9000, up_ok]
    rw [e]
    exact d_352 L xs k233 C G nk hk ha hb (by decide) _ _ _ _ _ _
  · have e : j_L_law_315 L xs k233 (wr σ 75 0 (6 * k) (iN a)) v (iN k) (iN 1) a12 a11 a10 a9 (iN b) (iN (6 * k + 1)) = j_L_law_352 L xs k233 (wr (wr σ 75 0 (6 * k) (iN a)) 75 0 (6 * k + 1) (iN b)) v (iN k) (iN 1) a12 a11 a10 a9 (iN 400) (v / iN 64) (iN 1) (iN (6 * k + 2)) := by
      have h2 := upM_lt (v / iN 8) (n := 3) (by decide)
      simp (disch := omega) only [gd_t, gd_T, bx_some, bx_thr, bd_def, nx_in, ↓nO_eq, l0, l1, l2, l3, l4, l5, l6, l7, l8, l9, l10, l12, l13, l16, l17, l18, l25, l30, l32, l33, l50, l64, l100, l200, l448, l1200, iN_add, iN_lt, iN_le, iN_inj, iN_clamp, iN_inb, iN_nO, nO_iN, nO_lt, iN_ltm, iN_lem, nO_le, iN_pred, if_pos, if_neg, ↓reduceIte, or_true, true_or, and_true, true_and, ne_eq, not_true_eq_false, not_false_eq_true, false_or, or_false, and_false, false_and, j_L_law_315, iN_mul, h0, bu_some, bv_some, l14, l20, l21, l31, l60, l67, l99, l300, l400, l1000, l1500, l2000, l3000, l9000, up_ok]
    rw [e]
    exact d_352 L xs k233 C G nk hk ha hb (by decide) _ _ _ _ _ _
theorem d_279 (L : Nat) (xs : Nat → Int32) (k233 : KQ) {σ : Wd} {A : Ab} {k : Nat} (C : RC σ A) (G : Gd A) (nk : nD A = k) (hk : k < 3) {a : Nat} (ha : a < 3) (v a12 a11 a10 a9 : Int32) : Dgo k233 σ A k a12 a11 a10 a9 (j_L_law_279 L xs k233 σ v (iN k) (iN 1) a12 a11 a10 a9 (iN a) (iN (6 * k))) := by
  have h5 := upM_lt (v / iN 32) (n := 5) (by decide)
  by_cases h0 : 3 ≤ upM (v / iN 32) 5
  · have e : j_L_law_279 L xs k233 σ v (iN k) (iN 1) a12 a11 a10 a9 (iN a) (iN (6 * k)) = j_L_law_315 L xs k233 (wr σ 75 0 (6 * k) (iN a)) v (iN k) (iN 1) a12 a11 a10 a9 (iN (upM (v / iN 64) 3)) (iN (6 * k + 1)) := by
      simp (disch := omega) only [gd_t, gd_T, bx_some, bx_thr, bd_def, nx_in, ↓nO_eq, l0, l1, l2, l3, l4, l5, l6, l7, l8, l9, l10, l12, l13, l16, l17, l18, l25, l30, l32, l33, l50, l64, l100, l200, l448, l1200, iN_add, iN_lt, iN_le, iN_inj, iN_clamp, iN_inb, iN_nO, nO_iN, nO_lt, iN_ltm, iN_lem, nO_le, iN_pred, if_pos, if_neg, ↓reduceIte, or_true, true_or, and_true, true_and, ne_eq, not_true_eq_false, not_false_eq_true, false_or, or_false, and_false, false_and, j_L_law_279, iN_mul, h0, bu_some, bv_some, l14, l20, l21, l31, l60, l67, l99, l300, l400, l1000, l1500, l2000, l3000, l9000, up_ok]
    rw [e]
    exact d_315 L xs k233 C G nk hk ha (upM_lt _ (by decide)) _ _ _ _ _
  · have e : j_L_law_279 L xs k233 σ v (iN k) (iN 1) a12 a11 a10 a9 (iN a) (iN (6 * k)) = j_L_law_315 L xs k233 (wr σ 75 0 (6 * k) (iN a)) v (iN k) (iN 1) a12 a11 a10 a9 (iN 0) (iN (6 * k + 1)) := by
      simp (disch := omega) only [gd_t, gd_T, bx_some, bx_thr, bd_def, nx_in, ↓nO_eq, l0, l1, l2, l3, l4, l5, l6, l7, l8, l9, l10, l12, l13, l16, l17, l18, l25, l30, l32, l33, l50, l64, l100, l200, l448, l1200, iN_add, iN_lt, iN_le, iN_inj, iN_clamp, iN_inb, iN_nO, nO_iN, nO_lt, iN_ltm, iN_lem, nO_le, iN_pred, if_pos, if_neg, ↓reduceIte, or_true, true_or, and_true, true_and, ne_eq, not_true_eq_false, not_false_eq_true, false_or, or_false, and_false, false_and, j_L_law_279, iN_mul, h0, bu_some, bv_some, l14, l20, l21, l31, l60, l67, l99, l300, l400, l1000, l1500, l2000, l3000, l9000, up_ok]
    rw [e]
    exact d_315 L xs k233 C G nk hk ha (by decide) _ _ _ _ _
theorem diA_rd (A : Ab) (a b c l w : Int32) (t i x : Nat) : (diA A a b c l w).1 t i x = if i = nD A ∧ x = 0 ∧ 44 ≤ t ∧ t ≤ 49 then (if t = 49 then nO else if t = 48 then w else if t = 47 then l else if t = 46 then c else if t = 45 then b else a) else A.1 t i x := by
  unfold diA
  show (aw (aw (aw (aw (aw (aw A 44 (nD A) 0 a) 45 (nD A) 0 b) 46 (nD A) 0 c) 47 (nD A) 0 l) 48 (nD A) 0 w) 49 (nD A) 0 nO).1 t i x = _
  rw [aw_rd, aw_rd, aw_rd, aw_rd, aw_rd, aw_rd]
  by_cases h : i = nD A ∧ x = 0 ∧ 44 ≤ t ∧ t ≤ 49
  · rw [if_pos h]
    obtain ⟨h1, h2, h3, h4⟩ := h
    have ht : t = 44 ∨ t = 45 ∨ t = 46 ∨ t = 47 ∨ t = 48 ∨ t = 49 := by omega
    rcases ht with rfl | rfl | rfl | rfl | rfl | rfl
    · rw [if_neg (by omega), if_neg (by omega), if_neg (by omega), if_neg (by omega), if_neg (by omega), if_pos ⟨rfl, h1, h2⟩]; rfl
    · rw [if_neg (by omega), if_neg (by omega), if_neg (by omega), if_neg (by omega), if_pos ⟨rfl, h1, h2⟩]; rfl
    · rw [if_neg (by omega), if_neg (by omega), if_neg (by omega), if_pos ⟨rfl, h1, h2⟩]; rfl
    · rw [if_neg (by omega), if_neg (by omega), if_pos ⟨rfl, h1, h2⟩]; rfl
    · rw [if_neg (by omega), if_pos ⟨rfl, h1, h2⟩]; rfl
    · rw [if_pos ⟨rfl, h1, h2⟩]; rfl
  · rw [if_neg h, if_neg (by omega), if_neg (by omega), if_neg (by omega), if_neg (by omega), if_neg (by omega), if_neg (by omega)]
theorem S2_up {σ : Wd} {A : Ab} {k : Nat} (S : S2 σ A k) (hk : k < 3) {a b c l w : Nat} (hc : 1 ≤ c ∧ c ≤ 2000) {σ' : Wd} (q2 : CS (dW σ k (iN a) (iN b) (iN c) (iN l) (iN w)) σ') (q3 : RC σ' (diA A (iN a) (iN b) (iN c) (iN l) (iN w))) (q4 : Gd (diA A (iN a) (iN b) (iN c) (iN l) (iN w))) : S2 (exW σ' k) (diA A (iN a) (iN b) (iN c) (iN l) (iN w)) (k + 1) := by
  obtain ⟨C, G, W, ⟨n1, n2, n3⟩, U, R, D, va, vu, vd, e7, z6⟩ := S
  have hrd := diA_rd A (iN a) (iN b) (iN c) (iN l) (iN w)
  rw [n2] at hrd
  have hN : nU (diA A (iN a) (iN b) (iN c) (iN l) (iN w)) = 4 ∧ nD (diA A (iN a) (iN b) (iN c) (iN l) (iN w)) = k + 1 ∧ nT (diA A (iN a) (iN b) (iN c) (iN l) (iN w)) = 0 := by
    refine ⟨n1, ?_, n3⟩
    show nD A + 1 = k + 1
    rw [n2]
  have hf : fl (diA A (iN a) (iN b) (iN c) (iN l) (iN w)) = fl A := rfl
  have hr : rw_ (diA A (iN a) (iN b) (iN c) (iN l) (iN w)) = rw_ A := rfl
  have t71 : (exW σ' k).1 71 = σ.1 71 := by rw [exW_off _ _ (by decide), q2 71 (by decide), dW_off _ _ _ _ _ _ _ (by decide)]
  have t74 : (exW σ' k).1 74 = σ.1 74 := by rw [exW_off _ _ (by decide), q2 74 (by decide), dW_off _ _ _ _ _ _ _ (by decide)]
  have t75 : (exW σ' k).1 75 = (dW σ k (iN a) (iN b) (iN c) (iN l) (iN w)).1 75 := by rw [exW_off _ _ (by decide), q2 75 (by decide)]
  have t76 : σ'.1 76 = σ.1 76 := by rw [q2 76 (by decide), dW_off _ _ _ _ _ _ _ (by decide)]
  generalize diA A (iN a) (iN b) (iN c) (iN l) (iN w) = B at *
  have hlo : ∀ t i x, ¬ (44 ≤ t ∧ t ≤ 49) → B.1 t i x = A.1 t i x := fun t i x h => by
    rw [hrd, if_neg (by omega)]
  refine ⟨q3.ls (exW_S σ' k), q4, ⟨fun d hd => ?_, fun u hu => ?_⟩, hN, fun u hu => ?_, fun d hd => ?_, fun d hd => ?_, ⟨fun t h1 h2 i x => ?_, fun i => ?_⟩, fun u hu => ?_, fun d hd => ?_, fun j hj => ?_, fun x hx => ?_⟩
  · rw [hr]
    obtain ⟨w1, w2⟩ := W.1 d hd
    refine ⟨w1, fun u hu => ?_⟩
    rw [hN.1, hlo _ _ _ (by omega), ← n1]
    exact w2 u hu
  · rw [hr]
    rw [hN.1, ← n1] at hu
    obtain ⟨d, h1, h2, h3⟩ := W.2 u hu
    exact ⟨d, h1, by rw [hlo _ _ _ (by omega)]; exact h2, h3⟩
  · rw [hN.1, ← n1] at hu
    obtain ⟨y0, y1, y2, y3, y4, y5⟩ := U u hu
    rw [t71, hf]
    exact ⟨by rw [hlo _ _ _ (by omega)]; exact y0, by rw [hlo _ _ _ (by omega)]; exact y1, fun a' ha' => by rw [hlo _ _ _ (by omega)]; exact y2 a' ha', fun j hj => by rw [hlo _ _ _ (by omega)]; exact y3 j hj, fun j hj => by rw [hlo _ _ _ (by omega)]; exact y4 j hj, y5⟩
  · rw [t74, hr]
    exact R d hd
  · rw [hN.2.1] at hd
    rw [t75]
    by_cases h : d = k
    · subst h
      obtain ⟨p0, p1, p2, p3, p4, p5⟩ := dW_at σ d (iN a) (iN b) (iN c) (iN l) (iN w)
      rw [p0, p1, p2, p3, p4, p5]
      have hx : ∀ t, 44 ≤ t ∧ t ≤ 49 → d = d ∧ 0 = 0 ∧ 44 ≤ t ∧ t ≤ 49 := fun t h => ⟨rfl, rfl, h⟩
      rw [hrd, if_pos (hx 44 (by decide)), hrd, if_pos (hx 45 (by decide)), hrd, if_pos (hx 46 (by decide)), hrd, if_pos (hx 47 (by decide)), hrd, if_pos (hx 48 (by decide)), hrd, if_pos (hx 49 (by decide))]
      exact ⟨rfl, rfl, rfl, rfl, rfl, rfl⟩
    · have hl : ∀ t, B.1 t d 0 = A.1 t d 0 := fun t => by rw [hrd, if_neg (by omega)]
      rw [dW_far _ _ _ _ _ _ _ (by omega), dW_far _ _ _ _ _ _ _ (by omega), dW_far _ _ _ _ _ _ _ (by omega), dW_far _ _ _ _ _ _ _ (by omega), dW_far _ _ _ _ _ _ _ (by omega), dW_far _ _ _ _ _ _ _ (by omega), hl, hl, hl, hl, hl, hl]
      exact D d (by rw [n2]; omega)
  · rw [hlo _ _ _ (by omega)]; exact va.1 t h1 h2 i x
  · rw [hlo _ _ _ (by omega)]; exact va.2 i
  · obtain ⟨v1, v2, v3, b', v4, v5, v6⟩ := vu u hu
    rw [hf]
    exact ⟨v1, fun j => by rw [hlo _ _ _ (by omega)]; exact v2 j, fun a' => by rw [hlo _ _ _ (by omega)]; exact v3 a', b', v4, by rw [hlo _ _ _ (by omega)]; exact v5, by rw [hlo _ _ _ (by omega)]; exact v6⟩
  · by_cases h : d = k
    · subst h
      refine ⟨⟨c, hc.1, hc.2, ?_⟩, ?_⟩
      · rw [hrd, if_pos ⟨rfl, rfl, by decide, by decide⟩]; rfl
      · rw [hrd, if_pos ⟨rfl, rfl, by decide, by decide⟩]; rfl
    · have hl : ∀ t, B.1 t d 0 = A.1 t d 0 := fun t => by rw [hrd, if_neg (by omega)]
      rw [hl, hl]
      exact vd d (by omega)
  · rw [exW_76, exW_76, exW_76, t76]
    by_cases h : j = k
    · subst h
      rw [if_neg (by omega), if_neg (by omega), if_pos rfl, if_neg (by omega), if_pos rfl, if_pos rfl]
      exact ⟨rfl, rfl, rfl⟩
    · rw [if_neg (by omega), if_neg (by omega), if_neg (by omega), if_neg (by omega), if_neg (by omega), if_neg (by omega), if_neg (by omega), if_neg (by omega), if_neg (by omega)]
      exact e7 j (by omega)
  · rw [exW_76, t76, if_neg (by omega), if_neg (by omega), if_neg (by omega)]
    exact z6 x hx
theorem d_233 (L : Nat) (xs : Nat → Int32) (hL : L ≤ 260) {σ : Wd} {A : Ab} {k : Nat} (S : S2 σ A k) (hk : k < 3) (n : Nat) (a12 a11 a10 a9 : Int32) : ∃ σ' A', l_L_law_233 L xs (n + 1) σ (iN k) (iN 1) a12 a11 a10 a9 = l_L_law_233 L xs n σ' (iN (k + 1)) (iN 1) a12 a11 a10 a9 ∧ S2 σ' A' (k + 1) := by
  have n3 : ¬ (3 : Int32) ≤ iN k := by
    rw [l3, iN_le (by decide) (by omega)]; omega
  have e4 : (4 : Int32) + iN k = iN (4 + k) := iN_add 4 k
  have e6 : (6 : Int32) * iN k = iN (6 * k) := iN_mul 6 k
  rw [l_L_law_233, if_neg n3, e4, gd_t (cell_ok hL (by omega : 4 + k < 1000)), bd_def, e6]
  generalize cellF L xs (iN (4 + k)) = v
  have q1 : f_L_up σ v 5 = some (.inl (iN (upM v 5)), σ) := up_ok (n := 5) (by decide) (by decide)
  have q2 : f_L_up σ (v / 16) 3 = some (.inl (iN (upM (v / 16) 3)), σ) := up_ok (n := 3) (by decide) (by decide)
  rw [q1, bu_some]
  have hgo : ∀ a, a < 3 → ∃ σ' A', j_L_law_279 L xs (l_L_law_233 L xs n) σ v (iN k) (iN 1) a12 a11 a10 a9 (iN a) (iN (6 * k)) = l_L_law_233 L xs n σ' (iN (k + 1)) (iN 1) a12 a11 a10 a9 ∧ S2 σ' A' (k + 1) := fun a ha => by
    obtain ⟨a', b, c, l, w, h1, h2, h3, h4, h5, σ', g1, g2, g3, g4⟩ := d_279 L xs (l_L_law_233 L xs n) S.1 S.2.1 S.2.2.2.1.2.1 hk ha v a12 a11 a10 a9
    exact ⟨_, _, g1, S2_up S hk h3 g2 g3 g4⟩
  by_cases h3 : (3 : Int32) ≤ iN (upM v 5)
  · rw [if_pos h3, q2, bu_some]
    exact hgo _ (upM_lt (v / 16) (n := 3) (by decide))
  · rw [if_neg h3]
    exact hgo 0 (by decide)
