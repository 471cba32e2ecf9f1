/-! the day -/
def inc (σ : Wd) (k : Nat) : Wd := bd (wr σ 71 0 (16 * k + 9) (σ.1 71 0 (16 * k + 9) + iN 1)) fun s1 => bd (wr s1 71 0 (16 * k + 10) (s1.1 71 0 (16 * k + 10) + iN 1)) fun s2 => wr s2 71 0 (16 * k + 11) (s2.1 71 0 (16 * k + 11) + iN 1)
theorem inc_off (σ : Wd) (k : Nat) {t : Nat} (ht : t ≠ 71) : (inc σ k).1 t = σ.1 t := by
  funext i x
  unfold inc
  rw [bd_def, bd_def, wr_rd, if_neg (by omega), wr_rd, if_neg (by omega), wr_rd, if_neg (by omega)]
theorem inc_71 (σ : Wd) (k x : Nat) : (inc σ k).1 71 0 x = if 16 * k + 9 ≤ x ∧ x < 16 * k + 12 then σ.1 71 0 x + iN 1 else σ.1 71 0 x := by
  unfold inc
  rw [bd_def, bd_def, wr_rd]
  by_cases h3 : x = 16 * k + 11
  · subst h3
    rw [if_pos ⟨rfl, rfl, rfl⟩, if_pos (by omega), wr_rd, if_neg (by omega), wr_rd, if_neg (by omega)]
  · rw [if_neg (by omega), wr_rd]
    by_cases h2 : x = 16 * k + 10
    · subst h2
      rw [if_pos ⟨rfl, rfl, rfl⟩, if_pos (by omega), wr_rd, if_neg (by omega)]
    · rw [if_neg (by omega), wr_rd]
      by_cases h1 : x = 16 * k + 9
      · subst h1
        rw [if_pos ⟨rfl, rfl, rfl⟩, if_pos (by omega)]
      · rw [if_neg (by omega), if_neg (by omega)]
theorem inc_B {σ : Wd} {A : Ab} (g4 : GxN A) {k : Nat} (hk : k < 4) (B : RB σ (olA A k)) : RB (inc σ k) (olA A (k + 1)) := by
  obtain ⟨U, F, R, D, E1, E2⟩ := B
  have B2 : RBf (inc σ k) (olA A k) ∧ RBr (inc σ k) (olA A k) ∧ RBd (inc σ k) (olA A k) ∧ RBe (inc σ k) (olA A k) := by
    unfold RBf RBr RBd RBe
    rw [inc_off σ k (t := 72) (by decide), inc_off σ k (t := 73) (by decide), inc_off σ k (t := 74) (by decide), inc_off σ k (t := 75) (by decide), inc_off σ k (t := 76) (by decide)]
    exact ⟨F, R, D, E1, E2⟩
  refine ⟨fun w hw => ?_, B2.1, B2.2.1, B2.2.2.1, B2.2.2.2⟩
  obtain ⟨y0, y1, y2, y3, y4, y5⟩ := U w hw
  refine ⟨?_, ?_, fun a ha => ?_, fun j hj => ?_, fun j hj => ?_, ?_⟩
  · rw [inc_71, if_neg (by omega)]; exact y0
  · rw [inc_71, if_neg (by omega)]; exact y1
  · rw [inc_71, if_neg (by omega)]; exact y2 a ha
  · rw [inc_71, if_neg (by omega)]; exact y3 j hj
  · have y4 := y4 j hj
    rw [olA_rd] at y4
    rw [inc_71, olA_rd, y4]
    by_cases h : w = k
    · rw [if_pos (by omega), if_neg (by omega), if_pos (by omega)]
    · rw [if_neg (by omega)]
      by_cases h2 : w < k
      · rw [if_pos ⟨rfl, h2⟩, if_pos (by omega)]
      · rw [if_neg (by omega), if_neg (by omega)]
  · rw [inc_71, if_neg (by omega)]; exact y5
theorem d_1817 (L : Nat) (xs : Nat → Int32) (k600 : KQ) {σ : Wd} {k : Nat} (hk : k < 4) (n : Nat) (a10 a20 a14 a9 : Int32) : l_L_law_1817 L xs k600 (n + 1) σ (iN k) a10 a20 a14 a9 = l_L_law_1817 L xs k600 n (inc σ k) (iN (k + 1)) a10 a20 a14 a9 := by
  obtain ⟨m, hm⟩ := FU_ge 4 (by decide)
  have step : ∀ j, 9 ≤ j → j < 12 → ∀ (q : Nat) (τ : Wd), l_L_law_1827 L xs (l_L_law_1817 L xs k600 n) (q + 1) τ (iN j) (iN k) a10 a20 a14 a9 = l_L_law_1827 L xs (l_L_law_1817 L xs k600 n) q (wr τ 71 0 (16 * k + j) (τ.1 71 0 (16 * k + j) + iN 1)) (iN (j + 1)) (iN k) a10 a20 a14 a9 := fun j h1 h2 q τ => by
    have h12 : ¬ 12 ≤ j := by omega
    simp (disch := omega) only [gd_t, gd_T, bx_some, bx_thr, bd_def, nx_in, ↓nO_eq, l0, l1, l2, l3, l4, l5, l6, l7, l8, l9, l10, l12, l13, l16, l17, l18, l25, l30, l32, l33, l50, l64, l100, l200, l448, l1200, iN_add, iN_lt, iN_le, iN_inj, iN_clamp, iN_inb, iN_nO, nO_iN, nO_lt, iN_ltm, iN_lem, nO_le, iN_pred, if_pos, if_neg, ↓reduceIte, or_true, true_or, and_true, true_and, ne_eq, not_true_eq_false, not_false_eq_true, false_or, or_false, and_false, false_and, l_L_law_1827, h12, iN_mul]
  have e : l_L_law_1827 L xs (l_L_law_1817 L xs k600 n) FU σ (iN 9) (iN k) a10 a20 a14 a9 = l_L_law_1817 L xs k600 n (inc σ k) (iN (k + 1)) a10 a20 a14 a9 := by
    rw [hm, step 9 (by decide) (by decide), step 10 (by decide) (by decide), step 11 (by decide) (by decide)]
    rw [l_L_law_1827, if_pos (by decide)]
    rw [show iN k + 1 = iN (k + 1) from iN_add k 1]
    rfl
  rw [← e]
  have h4 : ¬ 4 ≤ k := by omega
  simp (disch := omega) only [gd_t, gd_T, bx_some, bx_thr, bd_def, nx_in, ↓nO_eq, l0, l1, l2, l3, l4, l5, l6, l7, l8, l9, l10, l12, l13, l16, l17, l18, l25, l30, l32, l33, l50, l64, l100, l200, l448, l1200, iN_add, iN_lt, iN_le, iN_inj, iN_clamp, iN_inb, iN_nO, nO_iN, nO_lt, iN_ltm, iN_lem, nO_le, iN_pred, if_pos, if_neg, ↓reduceIte, or_true, true_or, and_true, true_and, ne_eq, not_true_eq_false, not_false_eq_true, false_or, or_false, and_false, false_and, l_L_law_1817, h4]
/-- what the day adds, one by one -/
theorem GqA.cm {A : Ab} {m : Nat} (hm : m ≤ 200) (h : GqA A m) (g4 : GxN A) (gd9 : Gxd A) {d c : Nat} (hd : d < 3) (hc : c ≤ 4) : GqA (cm A d c) (m + 1) := by
  unfold Jvm.Pilot.CStablingroadLaw_law_r4569_fa4025.cm
  by_cases hcu : c = 4
  · rw [if_pos (by rw [g4.1]; exact hcu)]
    intro u hu
    obtain ⟨h1, h2, h3, h4⟩ := h u hu
    refine ⟨fun k hk => ?_, fun a ha => ?_, ?_, h4⟩
    · obtain ⟨x, x1, x2⟩ := h1 k hk
      exact ⟨x, by omega, x2⟩
    · obtain ⟨z, z1, z2, z3⟩ := h2 a ha
      exact ⟨z, by omega, z2, z3⟩
    · obtain ⟨x, x1, x2⟩ := h3
      exact ⟨x, by omega, x2⟩
  · rw [if_neg (by rw [g4.1]; exact hcu)]
    have hc4 : c < 4 := by omega
    intro u hu
    obtain ⟨h1, h2, h3, h4⟩ := h u hu
    obtain ⟨km, k1, k2, k3⟩ := (gd9 d hd).1
    refine ⟨fun k hk => ?_, fun a ha => ?_, ?_, h4⟩
    · rw [cmv_35]
      obtain ⟨x, x1, x2⟩ := h1 k hk
      by_cases huc : u = c
      · subst huc
        rw [if_pos rfl, x2, k3]
        exact ⟨x + km, by omega, iN_add _ _⟩
      · rw [if_neg huc]
        exact ⟨x, by omega, x2⟩
    · rw [cmv_34]
      obtain ⟨z, z1, z2, z3⟩ := h2 a ha
      by_cases huc : u = c
      · subst huc
        obtain ⟨K, K1, K2⟩ := h3
        have hw : ∃ w : Nat, w ≤ 7 ∧ wea a (A.1 33 u 0 + A.1 46 d 0) - wea a (A.1 33 u 0) = iN w := by
          rw [K2, k3, iN_add]
          unfold wea
          by_cases ha0 : a = 0
          · rw [if_pos ha0, if_pos ha0, show (300 : Int32) = iN 300 from rfl, iN_div (by omega) (by decide), iN_div (by omega) (by decide), iN_sub (by omega)]
            exact ⟨_, by omega, rfl⟩
          · rw [if_neg ha0, if_neg ha0, show (500 : Int32) = iN 500 from rfl, iN_div (by omega) (by decide), iN_div (by omega) (by decide), iN_sub (by omega)]
            exact ⟨_, by omega, rfl⟩
        obtain ⟨w, w1, w2⟩ := hw
        rw [if_pos rfl, w2, z3, iZ_iN, iZ_sub]
        exact ⟨z - w, by omega, by omega, rfl⟩
      · rw [if_neg huc]
        exact ⟨z, by omega, z2, z3⟩
    · rw [cmv_33]
      obtain ⟨K, K1, K2⟩ := h3
      by_cases huc : u = c
      · subst huc
        rw [if_pos rfl, K2, k3]
        exact ⟨K + km, by omega, iN_add _ _⟩
      · rw [if_neg huc]
        exact ⟨K, by omega, K2⟩
theorem cm_33 {A : Ab} (g4 : GxN A) {d c u : Nat} (hu : u < 4) (hc : c ≤ 4) : (cm A d c).1 33 u 0 = A.1 33 u 0 + if c = u then A.1 46 d 0 else 0 := by
  unfold cm
  by_cases hcu : c = 4
  · rw [if_pos (by rw [g4.1]; exact hcu), if_neg (by omega), Int32.add_zero]
  · rw [if_neg (by rw [g4.1]; exact hcu), cmv_33]
    by_cases h : u = c
    · rw [if_pos h, if_pos h.symm, h]
    · rw [if_neg h, if_neg (fun z => h z.symm), Int32.add_zero]
theorem cnt_set {p q : Nat → Bool} {T : Nat} (hp : p T = false) (hq : ∀ t, t ≠ T → q t = p t) : ∀ (k i : Nat), cntF q i k = cntF p i k + if i ≤ T ∧ T < i + k ∧ q T = true then 1 else 0
  | 0, i => by
    rw [if_neg (by omega)]; rfl
  | k + 1, i => by
    show (if q i = true then 1 else 0) + cntF q (i + 1) k = (if p i = true then 1 else 0) + cntF p (i + 1) k + _
    rw [cnt_set hp hq k (i + 1)]
    by_cases hi : i = T
    · subst hi
      rw [hp, if_neg (show ¬ (false = true) by decide), if_neg (show ¬ (i + 1 ≤ i ∧ i < i + 1 + k ∧ q i = true) by omega)]
      by_cases hqi : q i = true
      · rw [if_pos hqi, if_pos ⟨Nat.le_refl _, by omega, hqi⟩]
        omega
      · rw [if_neg hqi, if_neg (fun z => hqi z.2.2)]
        omega
    · rw [hq i hi]
      have hiff : (i + 1 ≤ T ∧ T < i + 1 + k ∧ q T = true) ↔ (i ≤ T ∧ T < i + (k + 1) ∧ q T = true) := by
        constructor
        · rintro ⟨a, b, c⟩; exact ⟨by omega, by omega, c⟩
        · rintro ⟨a, b, c⟩; exact ⟨by omega, by omega, c⟩
      by_cases h : i ≤ T ∧ T < i + (k + 1) ∧ q T = true
      · rw [if_pos h, if_pos (hiff.mpr h)]
        omega
      · rw [if_neg h, if_neg (fun z => h (hiff.mp z))]
        omega
/-- the value behind a day, in its parts -/
theorem dy_parts {A : Ab} (g4 : GxN A) (gr : Gxr A) (gT : nT A < 200) {x y z : Nat} (hL : bestA A = [x, y, z]) (hx : x ≤ 4) (hy : y ≤ 4) (hz : z ≤ 4) : (∀ d t, d < 3 → (dyB A).1 55 d t = if t = nT A then chv 4 (if d = 0 then x else if d = 1 then y else z) else A.1 55 d t) ∧ (∀ d, (dyB A).1 46 d 0 = A.1 46 d 0) ∧ (∀ u, (dyB A).1 32 u 0 = A.1 32 u 0) ∧ ∀ u, u < 4 → (dyB A).1 33 u 0 = A.1 33 u 0 + (if x = u then A.1 46 0 0 else 0) + (if y = u then A.1 46 1 0 else 0) + (if z = u then A.1 46 2 0 else 0) := by
  have e : dyB A = cm (cm (cm (lv (lv (lv A 0 x) 1 y) 2 z) 0 x) 1 y) 2 z := by
    unfold dyB
    rw [hL]
    rfl
  obtain ⟨a1, a2, a3⟩ := lv_nums A 0 x
  obtain ⟨b1, b2, b3⟩ := lv_nums (lv A 0 x) 1 y
  obtain ⟨c1, c2, c3⟩ := lv_nums (lv (lv A 0 x) 1 y) 2 z
  have g1 : GxN (lv A 0 x) := g4.sm a1
  have g2 : GxN (lv (lv A 0 x) 1 y) := g1.sm b1
  have g3 : GxN (lv (lv (lv A 0 x) 1 y) 2 z) := g2.sm c1
  have t1 : nT (lv A 0 x) = nT A := congrFun a1 2
  have t2 : nT (lv (lv A 0 x) 1 y) = nT A := (congrFun b1 2).trans t1
  obtain ⟨d1, d2, d3, -⟩ := cm_nums (lv (lv (lv A 0 x) 1 y) 2 z) 0 x
  have g5 := g3.sm d1
  obtain ⟨e1, e2, e3, -⟩ := cm_nums (cm (lv (lv (lv A 0 x) 1 y) 2 z) 0 x) 1 y
  have g6 := g5.sm e1
  obtain ⟨f1, f2, f3, -⟩ := cm_nums (cm (cm (lv (lv (lv A 0 x) 1 y) 2 z) 0 x) 1 y) 2 z
  have h46 : ∀ d, (lv (lv (lv A 0 x) 1 y) 2 z).1 46 d 0 = A.1 46 d 0 := fun d => (c3 46 d 0 (by decide) (by decide)).trans ((b3 46 d 0 (by decide) (by decide)).trans (a3 46 d 0 (by decide) (by decide)))
  refine ⟨fun d t hd => ?_, fun d => ?_, fun u => ?_, fun u hu => ?_⟩
  · rw [e, f3 55 d t (by decide) (by decide) (by decide) (by decide), e3 55 d t (by decide) (by decide) (by decide) (by decide), d3 55 d t (by decide) (by decide) (by decide) (by decide)]
    rw [lv_log, lv_log, lv_log, t2, t1, g2.1, g1.1, g4.1]
    have h3 : d = 0 ∨ d = 1 ∨ d = 2 := by omega
    by_cases ht : t = nT A
    · rw [if_pos ht]
      rcases h3 with rfl | rfl | rfl
      · rw [if_neg (by omega), if_neg (by omega), if_pos ⟨rfl, ht⟩]; rfl
      · rw [if_neg (by omega), if_pos ⟨rfl, ht⟩]; rfl
      · rw [if_pos ⟨rfl, ht⟩]; rfl
    · rw [if_neg ht, if_neg (fun w => ht w.2), if_neg (fun w => ht w.2), if_neg (fun w => ht w.2)]
  · rw [e, f3 46 d 0 (by decide) (by decide) (by decide) (by decide), e3 46 d 0 (by decide) (by decide) (by decide) (by decide), d3 46 d 0 (by decide) (by decide) (by decide) (by decide)]
    exact h46 d
  · rw [e, f3 32 u 0 (by decide) (by decide) (by decide) (by decide), e3 32 u 0 (by decide) (by decide) (by decide) (by decide), d3 32 u 0 (by decide) (by decide) (by decide) (by decide), c3 32 u 0 (by decide) (by decide), b3 32 u 0 (by decide) (by decide), a3 32 u 0 (by decide) (by decide)]
  · rw [e, cm_33 g6 hu hz, cm_33 g5 hu hy, cm_33 g3 hu hx]
    rw [e3 46 2 0 (by decide) (by decide) (by decide) (by decide), d3 46 2 0 (by decide) (by decide) (by decide) (by decide), d3 46 1 0 (by decide) (by decide) (by decide) (by decide), h46, h46, h46]
    rw [c3 33 u 0 (by decide) (by decide), b3 33 u 0 (by decide) (by decide), a3 33 u 0 (by decide) (by decide)]
theorem km_one (k n : Int32) (b : Bool) (N : Nat) : k * iN (N + if b = true then 1 else 0) = k * iN N + if b = true then k else 0 := by
  cases b
  · show k * iN (N + 0) = k * iN N + 0
    rw [Nat.add_zero, Int32.add_zero]
  · show k * iN (N + 1) = k * iN N + k
    rw [← iN_add, Int32.mul_add, show iN 1 = 1 from rfl, Int32.mul_one]
theorem dy_km {A : Ab} (g4 : GxN A) (gr : Gxr A) (gT : nT A < 200) {x y z : Nat} (hL : bestA A = [x, y, z]) (hx : x ≤ 4) (hy : y ≤ 4) (hz : z ≤ 4) : Gxr (dyA (dyB A)) := by
  obtain ⟨p1, p2, p3, p4⟩ := dy_parts g4 gr gT hL hx hy hz
  have sm : nT (dyB A) = nT A := by
    have e : dyB A = cm (cm (cm (lv (lv (lv A 0 x) 1 y) 2 z) 0 x) 1 y) 2 z := by
      unfold dyB
      rw [hL]
      rfl
    rw [e]
    have f1 := congrFun (cm_nums (cm (cm (lv (lv (lv A 0 x) 1 y) 2 z) 0 x) 1 y) 2 z).1 2
    have e1 := congrFun (cm_nums (cm (lv (lv (lv A 0 x) 1 y) 2 z) 0 x) 1 y).1 2
    have d1 := congrFun (cm_nums (lv (lv (lv A 0 x) 1 y) 2 z) 0 x).1 2
    have c1 := congrFun (lv_nums (lv (lv A 0 x) 1 y) 2 z).1 2
    have b1 := congrFun (lv_nums (lv A 0 x) 1 y).1 2
    have a1 := congrFun (lv_nums A 0 x).1 2
    exact f1.trans (e1.trans (d1.trans (c1.trans (b1.trans a1))))
  have q55 : ∀ d t, (dyA (dyB A)).1 55 d t = (dyB A).1 55 d t := fun _ _ => rfl
  have hnT : nT (dyA (dyB A)) = nT A + 1 := by
    show nT (dyB A) + 1 = _
    rw [sm]
  refine ⟨fun d hd t ht ht2 => ?_, fun u hu => ?_⟩
  · rw [hnT] at ht
    rw [q55, p1 d t hd, if_neg (by omega)]
    exact gr.1 d hd t (by omega) ht2
  · show (dyB A).1 33 u 0 = (dyB A).1 32 u 0 + sumF (kmD (dyA (dyB A)) u) 0 3
    have hk : ∀ d, d < 3 → kmD (dyA (dyB A)) u d = kmD A u d + if (if d = 0 then x else if d = 1 then y else z) = u then A.1 46 d 0 else 0 := fun d hd => by
      unfold kmD
      have h46 : (dyA (dyB A)).1 46 d 0 = A.1 46 d 0 := p2 d
      generalize hw : (if d = 0 then x else if d = 1 then y else z) = w
      have hw4 : w ≤ 4 := by
        rw [← hw]
        split
        · exact hx
        · split
          · exact hy
          · exact hz
      have hcnt := cnt_set (p := ran1 A u d) (q := ran1 (dyA (dyB A)) u d) (T := nT A) (by
        unfold ran1
        rw [gr.1 d hd (nT A) (Nat.le_refl _) gT]
        exact decide_eq_false (by rw [nO_iN (by omega)]; exact id)) (fun t ht => by
        unfold ran1
        rw [q55, p1 d t hd, if_neg ht]) 200 0
      have hq : ran1 (dyA (dyB A)) u d (nT A) = decide (w = u) := by
        unfold ran1
        rw [q55, p1 d _ hd, if_pos rfl, hw]
        unfold chv
        by_cases h4 : w = 4
        · rw [if_pos h4, decide_eq_false (show ¬ w = u by omega)]
          exact decide_eq_false (by rw [nO_iN (by omega)]; exact id)
        · rw [if_neg h4]
          exact decide_eq_decide.mpr (iN_inj (by omega) (by omega))
      rw [h46, hcnt, hq]
      by_cases h : w = u
      · rw [if_pos ⟨Nat.zero_le _, by omega, decide_eq_true h⟩, if_pos h]
        exact km_one _ 0 true _
      · rw [if_neg (fun v => h (of_decide_eq_true v.2.2)), if_neg h, Nat.add_zero, Int32.add_zero]
    have hs : ∀ f : Nat → Int32, sumF f 0 3 = f 0 + (f 1 + (f 2 + 0)) := fun f => rfl
    have g0 := gr.2 u hu
    rw [hs] at g0
    rw [p4 u hu, p3, hs, hk 0 (by decide), hk 1 (by decide), hk 2 (by decide), g0]
    simp only [if_pos, if_neg, show ¬ (1 = 0) by decide, show ¬ (2 = 0) by decide, show ¬ (2 = 1) by decide, if_false, if_true]
    generalize (if x = u then A.1 46 0 0 else 0) = a
    generalize (if y = u then A.1 46 1 0 else 0) = b
    generalize (if z = u then A.1 46 2 0 else 0) = c
    generalize kmD A u 0 = d
    generalize kmD A u 1 = e
    generalize kmD A u 2 = f
    generalize A.1 32 u 0 = g
    grind
