/-! the best of all 125 -/
/-- who may be given, none always -/
def mcA (A : Ab) (d c : Nat) : Bool := decide (c = 4) || mayA A d c
theorem lk1 {A : Ab} (g4 : GxN A) (G : Gd A) {d c : Nat} (hd : d < 3) : lk (PA A) d [c] = if c = 4 then (PA A).2.2.1 d else 0 := by
  have h : (PA A).1 = 4 := g4.1
  simp [lk, h]
theorem hm1 {A : Ab} (g4 : GxN A) {d c : Nat} : hm (PA A) d [c] = if ¬ c = 4 ∧ homA A d c = true then 1 else 0 := by
  have h : (PA A).1 = 4 := g4.1
  show (if ¬ c = (PA A).1 ∧ homA A d c = true then 1 else 0) + 0 = _
  rw [h, Nat.add_zero]
theorem al_202 {σ : Wd} {A : Ab} (B : RB σ A) {t : Nat} (ht : t ≤ 60) (g4 : GxN A) (gk : Gxk A t) (ge : Gxe A) (G : Gd A) {k c : Nat} (hk : k < 3) (hc : c ≤ 4) (k88 : Wd → Int32 → Int32 → Int32 → Int32 → Int32 → Int32 → Int32 → Int32 → Int32 → Int32 → Int32 → Option ((Int32 ⊕ String) × Wd)) (h l w : Nat) (m a12 a11 a10 a9 a8 a7 a5 : Int32) : j_L_allocates_202 k88 σ m (iN c) (iN k) (iN h) a12 a11 a10 a9 a8 a7 a5 (iN w) (iN l) = k88 σ (iN (k + 1)) (iN (h + hm (PA A) k [c])) (iN (l + w)) m a12 a11 a10 a9 a8 a7 a5 := by
  have d1 := (B.2.2.2.1 k (by rw [g4.2]; exact hk)).2.1
  rw [hm1 g4]
  by_cases h4 : c = 4
  · subst h4
    simp (disch := omega) only [gd_t, gd_T, bx_some, bx_thr, bd_def, nx_in, ↓nO_eq, l0, l1, l2, l3, l4, l5, l6, l7, l8, l9, l10, l12, l13, l16, l17, l18, l25, l30, l32, l33, l50, l64, l100, l200, l448, l1200, iN_add, iN_lt, iN_le, iN_inj, iN_clamp, iN_inb, iN_nO, nO_iN, nO_lt, iN_ltm, iN_lem, nO_le, iN_pred, if_pos, if_neg, ↓reduceIte, or_true, true_or, and_true, true_and, ne_eq, not_true_eq_false, not_false_eq_true, false_or, or_false, and_false, false_and, j_L_allocates_202, Nat.add_zero]
  · have hc4 : c < 4 := by omega
    have hs := s_soon B ht g4 gk ge hc4
    unfold homA
    by_cases h45 : A.1 45 k 0 = iN 0
    · cases hb : soonS A c
      · rw [hb] at hs
        simp (disch := omega) only [gd_t, gd_T, bx_some, bx_thr, bd_def, nx_in, ↓nO_eq, l0, l1, l2, l3, l4, l5, l6, l7, l8, l9, l10, l12, l13, l16, l17, l18, l25, l30, l32, l33, l50, l64, l100, l200, l448, l1200, iN_add, iN_lt, iN_le, iN_inj, iN_clamp, iN_inb, iN_nO, nO_iN, nO_lt, iN_ltm, iN_lem, nO_le, iN_pred, if_pos, if_neg, ↓reduceIte, or_true, true_or, and_true, true_and, ne_eq, not_true_eq_false, not_false_eq_true, false_or, or_false, and_false, false_and, j_L_allocates_202, iN_mul, d1, h45, hs, bI_f, decide_true, Bool.and_false, Bool.false_eq_true, Nat.add_zero]
      · rw [hb] at hs
        have n10 : ¬ iN 1 = iN 0 := by decide
        simp (disch := omega) only [gd_t, gd_T, bx_some, bx_thr, bd_def, nx_in, ↓nO_eq, l0, l1, l2, l3, l4, l5, l6, l7, l8, l9, l10, l12, l13, l16, l17, l18, l25, l30, l32, l33, l50, l64, l100, l200, l448, l1200, iN_add, iN_lt, iN_le, iN_inj, iN_clamp, iN_inb, iN_nO, nO_iN, nO_lt, iN_ltm, iN_lem, nO_le, iN_pred, if_pos, if_neg, ↓reduceIte, or_true, true_or, and_true, true_and, ne_eq, not_true_eq_false, not_false_eq_true, false_or, or_false, and_false, false_and, j_L_allocates_202, iN_mul, d1, h45, hs, bI_t, n10, decide_true, Bool.and_self, h4]
    · simp (disch := omega) only [gd_t, gd_T, bx_some, bx_thr, bd_def, nx_in, ↓nO_eq, l0, l1, l2, l3, l4, l5, l6, l7, l8, l9, l10, l12, l13, l16, l17, l18, l25, l30, l32, l33, l50, l64, l100, l200, l448, l1200, iN_add, iN_lt, iN_le, iN_inj, iN_clamp, iN_inb, iN_nO, nO_iN, nO_lt, iN_ltm, iN_lem, nO_le, iN_pred, if_pos, if_neg, ↓reduceIte, or_true, true_or, and_true, true_and, ne_eq, not_true_eq_false, not_false_eq_true, false_or, or_false, and_false, false_and, j_L_allocates_202, iN_mul, d1, h45, decide_false, Bool.false_and, Bool.false_eq_true, Nat.add_zero]
theorem al_179 {σ : Wd} {A : Ab} (B : RB σ A) {t : Nat} (ht : t ≤ 60) (g4 : GxN A) (gk : Gxk A t) (ge : Gxe A) (G : Gd A) {k c : Nat} (hk : k < 3) (hc : c ≤ 4) (k88 : Wd → Int32 → Int32 → Int32 → Int32 → Int32 → Int32 → Int32 → Int32 → Int32 → Int32 → Int32 → Option ((Int32 ⊕ String) × Wd)) (h l : Nat) (m a12 a11 a10 a9 a8 a7 a5 : Int32) : j_L_allocates_179 k88 σ (iN c) (iN k) (iN h) (iN l) a12 a11 a10 a9 a8 a7 a5 m = k88 σ (iN (k + 1)) (iN (h + hm (PA A) k [c])) (iN (l + lk (PA A) k [c])) m a12 a11 a10 a9 a8 a7 a5 := by
  have hkA : k < nD A := by rw [g4.2]; exact hk
  have d4 := (B.2.2.2.1 k hkA).2.2.2.2.1
  rw [lk1 g4 G hk]
  rw [(PA_w G hkA).1] at d4
  by_cases h4 : c = 4
  · subst h4
    have := al_202 B ht g4 gk ge G hk (Nat.le_refl 4) k88 h l ((PA A).2.2.1 k) m a12 a11 a10 a9 a8 a7 a5
    simp (disch := omega) only [gd_t, gd_T, bx_some, bx_thr, bd_def, nx_in, ↓nO_eq, l0, l1, l2, l3, l4, l5, l6, l7, l8, l9, l10, l12, l13, l16, l17, l18, l25, l30, l32, l33, l50, l64, l100, l200, l448, l1200, iN_add, iN_lt, iN_le, iN_inj, iN_clamp, iN_inb, iN_nO, nO_iN, nO_lt, iN_ltm, iN_lem, nO_le, iN_pred, if_pos, if_neg, ↓reduceIte, or_true, true_or, and_true, true_and, ne_eq, not_true_eq_false, not_false_eq_true, false_or, or_false, and_false, false_and, j_L_allocates_179, iN_mul, d4, this]
  · have := al_202 B ht g4 gk ge G hk hc k88 h l 0 m a12 a11 a10 a9 a8 a7 a5
    simp (disch := omega) only [gd_t, gd_T, bx_some, bx_thr, bd_def, nx_in, ↓nO_eq, l0, l1, l2, l3, l4, l5, l6, l7, l8, l9, l10, l12, l13, l16, l17, l18, l25, l30, l32, l33, l50, l64, l100, l200, l448, l1200, iN_add, iN_lt, iN_le, iN_inj, iN_clamp, iN_inb, iN_nO, nO_iN, nO_lt, iN_ltm, iN_lem, nO_le, iN_pred, if_pos, if_neg, ↓reduceIte, or_true, true_or, and_true, true_and, ne_eq, not_true_eq_false, not_false_eq_true, false_or, or_false, and_false, false_and, j_L_allocates_179, h4, this]
theorem al_117 {σ : Wd} {A : Ab} (B : RB σ A) {t : Nat} (ht : t ≤ 60) (g4 : GxN A) (gk : Gxk A t) (ge : Gxe A) (gd9 : Gxd A) (G : Gd A) {k c : Nat} (hk : k < 3) (hc : c ≤ 4) (k88 : Wd → Int32 → Int32 → Int32 → Int32 → Int32 → Int32 → Int32 → Int32 → Int32 → Int32 → Int32 → Option ((Int32 ⊕ String) × Wd)) (h l : Nat) (m : Bool) (a12 a11 a10 a9 a8 a7 : Int32) : j_L_allocates_117 k88 σ (iN k) (iN h) (iN l) (bI m) a12 a11 a10 a9 a8 a7 (iN (nT A)) (iN c) = k88 σ (iN (k + 1)) (iN (h + hm (PA A) k [c])) (iN (l + lk (PA A) k [c])) (bI (m && mcA A k c)) a12 a11 a10 a9 a8 a7 (iN (nT A)) := by
  have hkA : k < nD A := by rw [g4.2]; exact hk
  have d5 := (B.2.2.2.1 k hkA).2.2.2.2.2
  have e := fun m => al_179 B ht g4 gk ge G hk hc k88 h l m a12 a11 a10 a9 a8 a7 (iN (nT A))
  have n10 : ¬ iN 1 = iN 0 := by decide
  cases m
  · simp (disch := omega) only [gd_t, gd_T, bx_some, bx_thr, bd_def, nx_in, ↓nO_eq, l0, l1, l2, l3, l4, l5, l6, l7, l8, l9, l10, l12, l13, l16, l17, l18, l25, l30, l32, l33, l50, l64, l100, l200, l448, l1200, iN_add, iN_lt, iN_le, iN_inj, iN_clamp, iN_inb, iN_nO, nO_iN, nO_lt, iN_ltm, iN_lem, nO_le, iN_pred, if_pos, if_neg, ↓reduceIte, or_true, true_or, and_true, true_and, ne_eq, not_true_eq_false, not_false_eq_true, false_or, or_false, and_false, false_and, j_L_allocates_117, j_L_allocates_178, e, bI_f, Bool.false_and]
  · unfold mcA
    by_cases h4 : c = 4
    · subst h4
      simp (disch := omega) only [gd_t, gd_T, bx_some, bx_thr, bd_def, nx_in, ↓nO_eq, l0, l1, l2, l3, l4, l5, l6, l7, l8, l9, l10, l12, l13, l16, l17, l18, l25, l30, l32, l33, l50, l64, l100, l200, l448, l1200, iN_add, iN_lt, iN_le, iN_inj, iN_clamp, iN_inb, iN_nO, nO_iN, nO_lt, iN_ltm, iN_lem, nO_le, iN_pred, if_pos, if_neg, ↓reduceIte, or_true, true_or, and_true, true_and, ne_eq, not_true_eq_false, not_false_eq_true, false_or, or_false, and_false, false_and, j_L_allocates_117, j_L_allocates_174, e, bI_t, n10, decide_true, Bool.true_or, Bool.and_self]
    · have hc4 : c < 4 := by omega
      have hw := w_why B g4 ht gk ge G hc4 hk
      unfold mayA
      by_cases h0 : rsn A c k = iN 0
      · rcases (gd9 k hk).2 with hp | ⟨q, hq, hp⟩
        · rw [hp] at d5
          have hneg : (nO < iN 0) = True := eq_true (by decide)
          simp (disch := omega) only [gd_t, gd_T, bx_some, bx_thr, bd_def, nx_in, ↓nO_eq, l0, l1, l2, l3, l4, l5, l6, l7, l8, l9, l10, l12, l13, l16, l17, l18, l25, l30, l32, l33, l50, l64, l100, l200, l448, l1200, iN_add, iN_lt, iN_le, iN_inj, iN_clamp, iN_inb, iN_nO, nO_iN, nO_lt, iN_ltm, iN_lem, nO_le, iN_pred, if_pos, if_neg, ↓reduceIte, or_true, true_or, and_true, true_and, ne_eq, not_true_eq_false, not_false_eq_true, false_or, or_false, and_false, false_and, j_L_allocates_117, j_L_allocates_174, e, bI_t, n10, hw, h0, iN_mul, d5, hp, hneg, h4, decide_true, decide_false, Bool.true_or, Bool.true_and, Bool.or_true, Bool.and_self]
        · rw [hp] at d5
          have hnn : ¬ iN q < iN 0 := by rw [iN_lt (by omega) (by decide)]; omega
          by_cases hqc : q = c
          · subst hqc
            simp (disch := omega) only [gd_t, gd_T, bx_some, bx_thr, bd_def, nx_in, ↓nO_eq, l0, l1, l2, l3, l4, l5, l6, l7, l8, l9, l10, l12, l13, l16, l17, l18, l25, l30, l32, l33, l50, l64, l100, l200, l448, l1200, iN_add, iN_lt, iN_le, iN_inj, iN_clamp, iN_inb, iN_nO, nO_iN, nO_lt, iN_ltm, iN_lem, nO_le, iN_pred, if_pos, if_neg, ↓reduceIte, or_true, true_or, and_true, true_and, ne_eq, not_true_eq_false, not_false_eq_true, false_or, or_false, and_false, false_and, j_L_allocates_117, j_L_allocates_174, e, bI_t, n10, hw, h0, iN_mul, d5, hp, h4, decide_true, decide_false, Bool.false_or, Bool.true_and, Bool.or_true, Bool.and_self]
          · simp (disch := omega) only [gd_t, gd_T, bx_some, bx_thr, bd_def, nx_in, ↓nO_eq, l0, l1, l2, l3, l4, l5, l6, l7, l8, l9, l10, l12, l13, l16, l17, l18, l25, l30, l32, l33, l50, l64, l100, l200, l448, l1200, iN_add, iN_lt, iN_le, iN_inj, iN_clamp, iN_inb, iN_nO, nO_iN, nO_lt, iN_ltm, iN_lem, nO_le, iN_pred, if_pos, if_neg, ↓reduceIte, or_true, true_or, and_true, true_and, ne_eq, not_true_eq_false, not_false_eq_true, false_or, or_false, and_false, false_and, j_L_allocates_117, j_L_allocates_174, j_L_allocates_178, e, bI_t, bI_f, n10, hw, h0, iN_mul, d5, hp, h4, hqc, decide_true, decide_false, Bool.or_self, Bool.true_and, Bool.and_false, Bool.false_or]
      · simp (disch := omega) only [gd_t, gd_T, bx_some, bx_thr, bd_def, nx_in, ↓nO_eq, l0, l1, l2, l3, l4, l5, l6, l7, l8, l9, l10, l12, l13, l16, l17, l18, l25, l30, l32, l33, l50, l64, l100, l200, l448, l1200, iN_add, iN_lt, iN_le, iN_inj, iN_clamp, iN_inb, iN_nO, nO_iN, nO_lt, iN_ltm, iN_lem, nO_le, iN_pred, if_pos, if_neg, ↓reduceIte, or_true, true_or, and_true, true_and, ne_eq, not_true_eq_false, not_false_eq_true, false_or, or_false, and_false, false_and, j_L_allocates_117, j_L_allocates_178, e, bI_t, bI_f, n10, hw, h0, h4, decide_false, Bool.or_self, Bool.false_and, Bool.and_false]
/-- none or apart -/
def ok1 (x y z : Nat) : Bool := (decide (x = 4) || (decide (¬ x = y) && decide (¬ x = z))) && (decide (y = 4) || decide (¬ y = z))
theorem alw3 {A : Ab} (g4 : GxN A) {x y z : Nat} (hx : x ≤ 4) (hy : y ≤ 4) (hz : z ≤ 4) : alw (PA A) 0 (fr0 A) [x, y, z] = (((ok1 x y z && mcA A 0 x) && mcA A 1 y) && mcA A 2 z) := by
  have h : (PA A).1 = 4 := g4.1
  have h2 : (PA A).2.1 = mayA A := rfl
  have f0 : ∀ u, fr0 A u = decide (u < 4) := fun u => by unfold fr0; rw [g4.1]
  have l4 : ∀ u, u ≤ 4 → ¬ u = 4 → u < 4 := fun u a b => by omega
  unfold ok1 mcA
  by_cases ha : x = 4
  · subst ha
    by_cases hb : y = 4
    · subst hb
      by_cases hc : z = 4
      · subst hc
        simp [alw, h]
      · simp [alw, h, h2, f0, l4 z hz hc, hc]
    · by_cases hc : z = 4
      · subst hc
        simp [alw, h, h2, f0, l4 y hy hb, hb]
      · by_cases hyz : y = z
        · subst hyz
          simp [alw, h, h2, f0, rm, l4 y hy hb, hb]
        · have hzy : ¬ z = y := fun w => hyz w.symm
          simp [alw, h, h2, f0, rm, l4 y hy hb, l4 z hz hc, hb, hc, hyz, hzy]
  · by_cases hb : y = 4
    · subst hb
      by_cases hc : z = 4
      · subst hc
        simp [alw, h, h2, f0, l4 x hx ha, ha]
      · by_cases hxz : x = z
        · subst hxz
          simp [alw, h, h2, f0, rm, l4 x hx ha, ha]
        · have hzx : ¬ z = x := fun w => hxz w.symm
          simp [alw, h, h2, f0, rm, l4 x hx ha, l4 z hz hc, ha, hc, hxz, hzx]
    · by_cases hxy : x = y
      · subst hxy
        by_cases hc : z = 4
        · subst hc
          simp [alw, h, h2, f0, rm, l4 x hx ha, ha]
        · simp [alw, h, h2, f0, rm, l4 x hx ha, ha, hc]
      · have hyx : ¬ y = x := fun w => hxy w.symm
        by_cases hc : z = 4
        · subst hc
          simp [alw, h, h2, f0, rm, l4 x hx ha, l4 y hy hb, ha, hb, hxy, hyx]
        · by_cases hxz : x = z
          · subst hxz
            simp [alw, h, h2, f0, rm, l4 x hx ha, l4 y hy hb, ha, hb, hxy, hyx]
          · have hzx : ¬ z = x := fun w => hxz w.symm
            by_cases hyz : y = z
            · subst hyz
              simp [alw, h, h2, f0, rm, l4 x hx ha, l4 y hy hb, ha, hb, hxy, hyx]
            · have hzy : ¬ z = y := fun w => hyz w.symm
              simp [alw, h, h2, f0, rm, l4 x hx ha, l4 y hy hb, l4 z hz hc, ha, hb, hc, hxy, hyx, hxz, hzx, hyz, hzy, Bool.and_assoc]
/-- what the law remembers of the best so far -/
def LA (A : Ab) (acc : Option (List Nat)) (σ : Wd) (bh bl : Int32) : Prop := match acc with
  | none => bl = iN 1000 ∧ bh = nO
  | some b => bl = iN (lk (PA A) 0 b) ∧ bh = iN (hm (PA A) 0 b) ∧ b.length = 3 ∧ ∀ d c, b[d]? = some c → σ.1 77 0 d = chv 4 c
def F77 (σ σ' : Wd) : Prop := σ'.2 = σ.2 ∧ ∀ t, t ≠ 77 → σ'.1 t = σ.1 t
theorem F77.rf (σ : Wd) : F77 σ σ := ⟨rfl, fun _ _ => rfl⟩
theorem F77.tr {a b c : Wd} (h : F77 a b) (h2 : F77 b c) : F77 a c := ⟨h2.1.trans h.1, fun t x => (h2.2 t x).trans (h.2 t x)⟩
theorem RB.f77 {σ τ : Wd} {A : Ab} (h : RB σ A) (hF : F77 σ τ) : RB τ A := h.fr (fun t h1 h2 => hF.2 t (by omega))
def w77 (σ : Wd) (a b c : Int32) : Wd := wr (wr (wr σ 77 0 0 a) 77 0 1 b) 77 0 2 c
theorem w77_F (σ : Wd) (a b c : Int32) : F77 σ (w77 σ a b c) := ⟨rfl, fun t ht => by
  funext i k
  unfold w77
  rw [wr_rd, if_neg (by omega), wr_rd, if_neg (by omega), wr_rd, if_neg (by omega)]⟩
theorem al_276 {σ : Wd} {x y z : Nat} (hx : x ≤ 4) (hy : y ≤ 4) (hz : z ≤ 4) (k11 : Wd → Int32 → Int32 → Int32 → Int32 → Option ((Int32 ⊕ String) × Wd)) (a15 a14 a9 a5 : Int32) : j_L_allocates_276 k11 σ a15 a14 (iN z) (iN y) (iN x) a9 a5 = k11 (w77 σ (chv 4 x) (chv 4 y) (chv 4 z)) (a9 + 1) a15 a14 a5 := by
  have key : ∀ (τ : Wd), j_L_allocates_315 k11 τ a15 a14 (iN z) a9 a5 (chv 4 y) (iN 1) = k11 (wr (wr τ 77 0 1 (chv 4 y)) 77 0 2 (chv 4 z)) (a9 + 1) a15 a14 a5 := fun τ => by
    by_cases h : z = 4
    · subst h
      simp (disch := omega) only [gd_t, gd_T, bx_some, bx_thr, bd_def, nx_in, ↓nO_eq, l0, l1, l2, l3, l4, l5, l6, l7, l8, l9, l10, l12, l13, l16, l17, l18, l25, l30, l32, l33, l50, l64, l100, l200, l448, l1200, iN_add, iN_lt, iN_le, iN_inj, iN_clamp, iN_inb, iN_nO, nO_iN, nO_lt, iN_ltm, iN_lem, nO_le, iN_pred, if_pos, if_neg, ↓reduceIte, or_true, true_or, and_true, true_and, ne_eq, not_true_eq_false, not_false_eq_true, false_or, or_false, and_false, false_and, j_L_allocates_315, chv]
    · simp (disch := omega) only [gd_t, gd_T, bx_some, bx_thr, bd_def, nx_in, ↓nO_eq, l0, l1, l2, l3, l4, l5, l6, l7, l8, l9, l10, l12, l13, l16, l17, l18, l25, l30, l32, l33, l50, l64, l100, l200, l448, l1200, iN_add, iN_lt, iN_le, iN_inj, iN_clamp, iN_inb, iN_nO, nO_iN, nO_lt, iN_ltm, iN_lem, nO_le, iN_pred, if_pos, if_neg, ↓reduceIte, or_true, true_or, and_true, true_and, ne_eq, not_true_eq_false, not_false_eq_true, false_or, or_false, and_false, false_and, j_L_allocates_315, chv, h]
  have key2 : ∀ (τ : Wd), j_L_allocates_299 k11 τ a15 a14 (iN z) (iN y) a9 a5 (chv 4 x) (iN 0) = k11 (w77 τ (chv 4 x) (chv 4 y) (chv 4 z)) (a9 + 1) a15 a14 a5 := fun τ => by
    have k2 := key (wr τ 77 0 0 (chv 4 x))
    unfold w77
    by_cases h : y = 4
    · subst h
      have e : chv 4 4 = nO := if_pos rfl
      rw [e] at k2 ⊢
      simp (disch := omega) only [gd_t, gd_T, bx_some, bx_thr, bd_def, nx_in, ↓nO_eq, l0, l1, l2, l3, l4, l5, l6, l7, l8, l9, l10, l12, l13, l16, l17, l18, l25, l30, l32, l33, l50, l64, l100, l200, l448, l1200, iN_add, iN_lt, iN_le, iN_inj, iN_clamp, iN_inb, iN_nO, nO_iN, nO_lt, iN_ltm, iN_lem, nO_le, iN_pred, if_pos, if_neg, ↓reduceIte, or_true, true_or, and_true, true_and, ne_eq, not_true_eq_false, not_false_eq_true, false_or, or_false, and_false, false_and, j_L_allocates_299, k2]
    · have e : chv 4 y = iN y := if_neg h
      rw [e] at k2 ⊢
      simp (disch := omega) only [gd_t, gd_T, bx_some, bx_thr, bd_def, nx_in, ↓nO_eq, l0, l1, l2, l3, l4, l5, l6, l7, l8, l9, l10, l12, l13, l16, l17, l18, l25, l30, l32, l33, l50, l64, l100, l200, l448, l1200, iN_add, iN_lt, iN_le, iN_inj, iN_clamp, iN_inb, iN_nO, nO_iN, nO_lt, iN_ltm, iN_lem, nO_le, iN_pred, if_pos, if_neg, ↓reduceIte, or_true, true_or, and_true, true_and, ne_eq, not_true_eq_false, not_false_eq_true, false_or, or_false, and_false, false_and, j_L_allocates_299, k2, h]
  have k3 := key2 σ
  by_cases h : x = 4
  · subst h
    have e : chv 4 4 = nO := if_pos rfl
    rw [e] at k3 ⊢
    simp (disch := omega) only [gd_t, gd_T, bx_some, bx_thr, bd_def, nx_in, ↓nO_eq, l0, l1, l2, l3, l4, l5, l6, l7, l8, l9, l10, l12, l13, l16, l17, l18, l25, l30, l32, l33, l50, l64, l100, l200, l448, l1200, iN_add, iN_lt, iN_le, iN_inj, iN_clamp, iN_inb, iN_nO, nO_iN, nO_lt, iN_ltm, iN_lem, nO_le, iN_pred, if_pos, if_neg, ↓reduceIte, or_true, true_or, and_true, true_and, ne_eq, not_true_eq_false, not_false_eq_true, false_or, or_false, and_false, false_and, j_L_allocates_276, k3]
  · have e : chv 4 x = iN x := if_neg h
    rw [e] at k3 ⊢
    simp (disch := omega) only [gd_t, gd_T, bx_some, bx_thr, bd_def, nx_in, ↓nO_eq, l0, l1, l2, l3, l4, l5, l6, l7, l8, l9, l10, l12, l13, l16, l17, l18, l25, l30, l32, l33, l50, l64, l100, l200, l448, l1200, iN_add, iN_lt, iN_le, iN_inj, iN_clamp, iN_inb, iN_nO, nO_iN, nO_lt, iN_ltm, iN_lem, nO_le, iN_pred, if_pos, if_neg, ↓reduceIte, or_true, true_or, and_true, true_and, ne_eq, not_true_eq_false, not_false_eq_true, false_or, or_false, and_false, false_and, j_L_allocates_276, k3, h]
theorem al_88 {σ : Wd} {A : Ab} (B : RB σ A) {t : Nat} (ht : t ≤ 60) (g4 : GxN A) (gk : Gxk A t) (ge : Gxe A) (gd9 : Gxd A) (G : Gd A) {x y z : Nat} (hx : x ≤ 4) (hy : y ≤ 4) (hz : z ≤ 4) (k11 : Wd → Int32 → Int32 → Int32 → Int32 → Option ((Int32 ⊕ String) × Wd)) (m : Bool) (a9 a8 a7 : Int32) : ∃ q, l_L_allocates_88 k11 FU σ (iN 0) (iN 0) (iN 0) (bI m) (iN z) (iN y) (iN x) a9 a8 a7 (iN (nT A)) = l_L_allocates_88 k11 (q + 1) σ (iN 3) (iN (hm (PA A) 0 [x, y, z])) (iN (lk (PA A) 0 [x, y, z])) (bI (((m && mcA A 0 x) && mcA A 1 y) && mcA A 2 z)) (iN z) (iN y) (iN x) a9 a8 a7 (iN (nT A)) := by
  obtain ⟨q, hq⟩ := FU_ge 4 (by decide)
  refine ⟨q, ?_⟩
  have e0 := al_117 B ht g4 gk ge gd9 G (by decide : 0 < 3) hx (l_L_allocates_88 k11 (q + 3)) 0 0 m (iN z) (iN y) (iN x) a9 a8 a7
  have e1 := al_117 B ht g4 gk ge gd9 G (by decide : 1 < 3) hy (l_L_allocates_88 k11 (q + 2)) (0 + hm (PA A) 0 [x]) (0 + lk (PA A) 0 [x]) (m && mcA A 0 x) (iN z) (iN y) (iN x) a9 a8 a7
  have e2 := al_117 B ht g4 gk ge gd9 G (by decide : 2 < 3) hz (l_L_allocates_88 k11 (q + 1)) (0 + hm (PA A) 0 [x] + hm (PA A) 1 [y]) (0 + lk (PA A) 0 [x] + lk (PA A) 1 [y]) ((m && mcA A 0 x) && mcA A 1 y) (iN z) (iN y) (iN x) a9 a8 a7
  have s0 : l_L_allocates_88 k11 (q + 4) σ (iN 0) (iN 0) (iN 0) (bI m) (iN z) (iN y) (iN x) a9 a8 a7 (iN (nT A)) = j_L_allocates_117 (l_L_allocates_88 k11 (q + 3)) σ (iN 0) (iN 0) (iN 0) (bI m) (iN z) (iN y) (iN x) a9 a8 a7 (iN (nT A)) (iN x) := by
    rw [l_L_allocates_88, if_neg (by decide), if_pos (show iN 0 = 0 from rfl)]
  have s1 : ∀ (h l : Int32) (b : Bool), l_L_allocates_88 k11 (q + 3) σ (iN 1) h l (bI b) (iN z) (iN y) (iN x) a9 a8 a7 (iN (nT A)) = j_L_allocates_117 (l_L_allocates_88 k11 (q + 2)) σ (iN 1) h l (bI b) (iN z) (iN y) (iN x) a9 a8 a7 (iN (nT A)) (iN y) := fun h l b => by
    rw [l_L_allocates_88, if_neg (by decide), if_neg (by decide), if_pos (show iN 1 = 1 from rfl)]
  have s2 : ∀ (h l : Int32) (b : Bool), l_L_allocates_88 k11 (q + 2) σ (iN 2) h l (bI b) (iN z) (iN y) (iN x) a9 a8 a7 (iN (nT A)) = j_L_allocates_117 (l_L_allocates_88 k11 (q + 1)) σ (iN 2) h l (bI b) (iN z) (iN y) (iN x) a9 a8 a7 (iN (nT A)) (iN z) := fun h l b => by
    rw [l_L_allocates_88, if_neg (by decide), if_neg (by decide), if_neg (by decide)]
  have hh : hm (PA A) 0 [x, y, z] = 0 + hm (PA A) 0 [x] + hm (PA A) 1 [y] + hm (PA A) 2 [z] := by
    rw [show [x, y, z] = [x] ++ [y, z] from rfl, hm_app, show [y, z] = [y] ++ [z] from rfl, hm_app]
    simp [Nat.add_assoc]
  have hl : lk (PA A) 0 [x, y, z] = 0 + lk (PA A) 0 [x] + lk (PA A) 1 [y] + lk (PA A) 2 [z] := by
    rw [show [x, y, z] = [x] ++ [y, z] from rfl, lk_app, show [y, z] = [y] ++ [z] from rfl, lk_app]
    simp [Nat.add_assoc]
  rw [hq, s0, e0, s1, e1, s2, e2, hh, hl]
theorem al_end {σ : Wd} {A : Ab} (g4 : GxN A) (G : Gd A) {x y z : Nat} (hx : x ≤ 4) (hy : y ≤ 4) (hz : z ≤ 4) (k11 : Wd → Int32 → Int32 → Int32 → Int32 → Option ((Int32 ⊕ String) × Wd)) {acc : Option (List Nat)} {bh bl : Int32} (L : LA A acc σ bh bl) (a9 : Int32) (q : Nat) : ∃ σ' bh' bl', l_L_allocates_88 k11 (q + 1) σ (iN 3) (iN (hm (PA A) 0 [x, y, z])) (iN (lk (PA A) 0 [x, y, z])) (bI (alw (PA A) 0 (fr0 A) [x, y, z])) (iN z) (iN y) (iN x) a9 bh bl (iN (nT A)) = k11 σ' (a9 + 1) bh' bl' (iN (nT A)) ∧ F77 σ σ' ∧ LA A (upa A acc [x, y, z]) σ' bh' bl' := by
  have hw : ∀ d, d < 6 → (PA A).2.2.1 d ≤ 100 := fun d _ => (PA_w1 G d).2
  have hlk : lk (PA A) 0 [x, y, z] ≤ 100 * 3 := lk_le (PA A) hw [x, y, z] 0 (Nat.le_of_ble_eq_true rfl)
  have hhm : hm (PA A) 0 [x, y, z] ≤ 3 := hm_le (PA A) [x, y, z] 0
  have n10 : ¬ iN 1 = iN 0 := by decide
  have hnew : LA A (some [x, y, z]) (w77 σ (chv 4 x) (chv 4 y) (chv 4 z)) (iN (hm (PA A) 0 [x, y, z])) (iN (lk (PA A) 0 [x, y, z])) := by
    refine ⟨rfl, rfl, rfl, fun d c h => ?_⟩
    unfold w77
    match d, h with
    | 0, h => cases h; simp [wr_rd]
    | 1, h => cases h; simp [wr_rd]
    | 2, h => cases h; simp [wr_rd]
    | d + 3, h => simp at h
  unfold upa
  cases hal : alw (PA A) 0 (fr0 A) [x, y, z]
  · refine ⟨σ, bh, bl, ?_, F77.rf σ, L⟩
    simp (disch := omega) only [gd_t, gd_T, bx_some, bx_thr, bd_def, nx_in, ↓nO_eq, l0, l1, l2, l3, l4, l5, l6, l7, l8, l9, l10, l12, l13, l16, l17, l18, l25, l30, l32, l33, l50, l64, l100, l200, l448, l1200, iN_add, iN_lt, iN_le, iN_inj, iN_clamp, iN_inb, iN_nO, nO_iN, nO_lt, iN_ltm, iN_lem, nO_le, iN_pred, if_pos, if_neg, ↓reduceIte, or_true, true_or, and_true, true_and, ne_eq, not_true_eq_false, not_false_eq_true, false_or, or_false, and_false, false_and, l_L_allocates_88, bI_f]
  · match acc, L with
    | none, L =>
      obtain ⟨rfl, rfl⟩ := L
      refine ⟨_, _, _, ?_, w77_F σ _ _ _, hnew⟩
      have h1 : lk (PA A) 0 [x, y, z] < 1000 := by omega
      simp (disch := omega) only [gd_t, gd_T, bx_some, bx_thr, bd_def, nx_in, ↓nO_eq, l0, l1, l2, l3, l4, l5, l6, l7, l8, l9, l10, l12, l13, l16, l17, l18, l25, l30, l32, l33, l50, l64, l100, l200, l448, l1200, iN_add, iN_lt, iN_le, iN_inj, iN_clamp, iN_inb, iN_nO, nO_iN, nO_lt, iN_ltm, iN_lem, nO_le, iN_pred, if_pos, if_neg, ↓reduceIte, or_true, true_or, and_true, true_and, ne_eq, not_true_eq_false, not_false_eq_true, false_or, or_false, and_false, false_and, l_L_allocates_88, bI_t, n10, h1, al_276 hx hy hz]
    | some b, L =>
      have L0 := L
      obtain ⟨rfl, rfl, lb, lr⟩ := L
      have hbl : lk (PA A) 0 b ≤ 100 * b.length := lk_le (PA A) hw b 0 (by omega)
      have hbh : hm (PA A) 0 b ≤ b.length := hm_le (PA A) b 0
      have hcs := cst_lt (P := PA A) (a := [x, y, z]) (b := b) (d := 0) (Nat.le_of_ble_eq_true rfl) (by omega)
      have hst : stp (cst (PA A) 0) (some b) [x, y, z] = if cst (PA A) 0 [x, y, z] < cst (PA A) 0 b then some [x, y, z] else some b := rfl
      rw [if_pos rfl, hst]
      by_cases h1 : lk (PA A) 0 [x, y, z] < lk (PA A) 0 b
      · rw [if_pos (hcs.mpr (Or.inl h1))]
        refine ⟨_, _, _, ?_, w77_F σ _ _ _, hnew⟩
        simp (disch := omega) only [gd_t, gd_T, bx_some, bx_thr, bd_def, nx_in, ↓nO_eq, l0, l1, l2, l3, l4, l5, l6, l7, l8, l9, l10, l12, l13, l16, l17, l18, l25, l30, l32, l33, l50, l64, l100, l200, l448, l1200, iN_add, iN_lt, iN_le, iN_inj, iN_clamp, iN_inb, iN_nO, nO_iN, nO_lt, iN_ltm, iN_lem, nO_le, iN_pred, if_pos, if_neg, ↓reduceIte, or_true, true_or, and_true, true_and, ne_eq, not_true_eq_false, not_false_eq_true, false_or, or_false, and_false, false_and, l_L_allocates_88, bI_t, n10, h1, al_276 hx hy hz]
      · by_cases h2 : lk (PA A) 0 [x, y, z] = lk (PA A) 0 b
        · by_cases h3 : hm (PA A) 0 b < hm (PA A) 0 [x, y, z]
          · rw [if_pos (hcs.mpr (Or.inr ⟨h2, h3⟩))]
            refine ⟨_, _, _, ?_, w77_F σ _ _ _, hnew⟩
            have h3' : ¬ hm (PA A) 0 [x, y, z] ≤ hm (PA A) 0 b := by omega
            simp (disch := omega) only [gd_t, gd_T, bx_some, bx_thr, bd_def, nx_in, ↓nO_eq, l0, l1, l2, l3, l4, l5, l6, l7, l8, l9, l10, l12, l13, l16, l17, l18, l25, l30, l32, l33, l50, l64, l100, l200, l448, l1200, iN_add, iN_lt, iN_le, iN_inj, iN_clamp, iN_inb, iN_nO, nO_iN, nO_lt, iN_ltm, iN_lem, nO_le, iN_pred, if_pos, if_neg, ↓reduceIte, or_true, true_or, and_true, true_and, ne_eq, not_true_eq_false, not_false_eq_true, false_or, or_false, and_false, false_and, l_L_allocates_88, bI_t, n10, h1, h2, h3', al_276 hx hy hz]
          · rw [if_neg (fun w => (hcs.mp w).elim h1 (fun v => h3 v.2))]
            refine ⟨σ, _, _, ?_, F77.rf σ, L0⟩
            have h3' : hm (PA A) 0 [x, y, z] ≤ hm (PA A) 0 b := by omega
            simp (disch := omega) only [gd_t, gd_T, bx_some, bx_thr, bd_def, nx_in, ↓nO_eq, l0, l1, l2, l3, l4, l5, l6, l7, l8, l9, l10, l12, l13, l16, l17, l18, l25, l30, l32, l33, l50, l64, l100, l200, l448, l1200, iN_add, iN_lt, iN_le, iN_inj, iN_clamp, iN_inb, iN_nO, nO_iN, nO_lt, iN_ltm, iN_lem, nO_le, iN_pred, if_pos, if_neg, ↓reduceIte, or_true, true_or, and_true, true_and, ne_eq, not_true_eq_false, not_false_eq_true, false_or, or_false, and_false, false_and, l_L_allocates_88, bI_t, n10, h1, h2, h3', Nat.lt_irrefl]
        · rw [if_neg (fun w => (hcs.mp w).elim h1 (fun v => h2 v.1))]
          refine ⟨σ, _, _, ?_, F77.rf σ, L0⟩
          simp (disch := omega) only [gd_t, gd_T, bx_some, bx_thr, bd_def, nx_in, ↓nO_eq, l0, l1, l2, l3, l4, l5, l6, l7, l8, l9, l10, l12, l13, l16, l17, l18, l25, l30, l32, l33, l50, l64, l100, l200, l448, l1200, iN_add, iN_lt, iN_le, iN_inj, iN_clamp, iN_inb, iN_nO, nO_iN, nO_lt, iN_ltm, iN_lem, nO_le, iN_pred, if_pos, if_neg, ↓reduceIte, or_true, true_or, and_true, true_and, ne_eq, not_true_eq_false, not_false_eq_true, false_or, or_false, and_false, false_and, l_L_allocates_88, bI_t, n10, h1, h2]
theorem al_11 {σ : Wd} {A : Ab} (B : RB σ A) {t : Nat} (ht : t ≤ 60) (g4 : GxN A) (gk : Gxk A t) (ge : Gxe A) (gd9 : Gxd A) (G : Gd A) {x y z : Nat} (hx : x ≤ 4) (hy : y ≤ 4) (hz : z ≤ 4) {acc : Option (List Nat)} {bh bl : Int32} (L : LA A acc σ bh bl) (n : Nat) : ∃ σ' bh' bl', l_L_allocates_11 (n + 1) σ (iN (25 * x + 5 * y + z)) bh bl (iN (nT A)) = l_L_allocates_11 n σ' (iN (25 * x + 5 * y + z + 1)) bh' bl' (iN (nT A)) ∧ F77 σ σ' ∧ LA A (upa A acc [x, y, z]) σ' bh' bl' := by
  have i1 : (25 * x + 5 * y + z) / 25 = x := by omega
  have i2 : (25 * x + 5 * y + z) / 5 = 5 * x + y := by omega
  have i3 : 5 * x + y - (5 * x + y) / 5 * 5 = y := by omega
  have i4 : 25 * x + 5 * y + z - (5 * x + y) * 5 = z := by omega
  have hall : ∀ m, m = ok1 x y z → l_L_allocates_11 (n + 1) σ (iN (25 * x + 5 * y + z)) bh bl (iN (nT A)) = l_L_allocates_88 (l_L_allocates_11 n) FU σ (iN 0) (iN 0) (iN 0) (bI m) (iN z) (iN y) (iN x) (iN (25 * x + 5 * y + z)) bh bl (iN (nT A)) := fun m hm => by
    subst hm
    have h125 : ¬ 125 ≤ 25 * x + 5 * y + z := by omega
    have l125 : (125 : Int32) = iN 125 := id rfl
    unfold ok1
    by_cases ha : x = 4
    · subst ha
      by_cases hb : y = 4
      · subst hb
        simp (disch := omega) only [gd_t, gd_T, bx_some, bx_thr, bd_def, nx_in, ↓nO_eq, l0, l1, l2, l3, l4, l5, l6, l7, l8, l9, l10, l12, l13, l16, l17, l18, l25, l30, l32, l33, l50, l64, l100, l200, l448, l1200, iN_add, iN_lt, iN_le, iN_inj, iN_clamp, iN_inb, iN_nO, nO_iN, nO_lt, iN_ltm, iN_lem, nO_le, iN_pred, if_pos, if_neg, ↓reduceIte, or_true, true_or, and_true, true_and, ne_eq, not_true_eq_false, not_false_eq_true, false_or, or_false, and_false, false_and, l_L_allocates_11, l125, h125, iN_div, iN_mul, iN_sub, i1, i2, i3, i4, j_L_allocates_59, j_L_allocates_72, j_L_allocates_77, decide_true, Bool.true_or, Bool.and_self, bI_t]
      · by_cases hyz : y = z
        · subst hyz
          simp (disch := omega) only [gd_t, gd_T, bx_some, bx_thr, bd_def, nx_in, ↓nO_eq, l0, l1, l2, l3, l4, l5, l6, l7, l8, l9, l10, l12, l13, l16, l17, l18, l25, l30, l32, l33, l50, l64, l100, l200, l448, l1200, iN_add, iN_lt, iN_le, iN_inj, iN_clamp, iN_inb, iN_nO, nO_iN, nO_lt, iN_ltm, iN_lem, nO_le, iN_pred, if_pos, if_neg, ↓reduceIte, or_true, true_or, and_true, true_and, ne_eq, not_true_eq_false, not_false_eq_true, false_or, or_false, and_false, false_and, l_L_allocates_11, l125, h125, iN_div, iN_mul, iN_sub, i1, i2, i3, i4, j_L_allocates_59, j_L_allocates_76, j_L_allocates_77, hb, decide_true, decide_false, Bool.true_or, Bool.or_self, Bool.and_false, bI_f]
        · simp (disch := omega) only [gd_t, gd_T, bx_some, bx_thr, bd_def, nx_in, ↓nO_eq, l0, l1, l2, l3, l4, l5, l6, l7, l8, l9, l10, l12, l13, l16, l17, l18, l25, l30, l32, l33, l50, l64, l100, l200, l448, l1200, iN_add, iN_lt, iN_le, iN_inj, iN_clamp, iN_inb, iN_nO, nO_iN, nO_lt, iN_ltm, iN_lem, nO_le, iN_pred, if_pos, if_neg, ↓reduceIte, or_true, true_or, and_true, true_and, ne_eq, not_true_eq_false, not_false_eq_true, false_or, or_false, and_false, false_and, l_L_allocates_11, l125, h125, iN_div, iN_mul, iN_sub, i1, i2, i3, i4, j_L_allocates_59, j_L_allocates_72, j_L_allocates_77, hb, hyz, decide_true, decide_false, Bool.true_or, Bool.or_true, Bool.and_self, bI_t]
    · by_cases hxy : x = y
      · subst hxy
        simp (disch := omega) only [gd_t, gd_T, bx_some, bx_thr, bd_def, nx_in, ↓nO_eq, l0, l1, l2, l3, l4, l5, l6, l7, l8, l9, l10, l12, l13, l16, l17, l18, l25, l30, l32, l33, l50, l64, l100, l200, l448, l1200, iN_add, iN_lt, iN_le, iN_inj, iN_clamp, iN_inb, iN_nO, nO_iN, nO_lt, iN_ltm, iN_lem, nO_le, iN_pred, if_pos, if_neg, ↓reduceIte, or_true, true_or, and_true, true_and, ne_eq, not_true_eq_false, not_false_eq_true, false_or, or_false, and_false, false_and, l_L_allocates_11, l125, h125, iN_div, iN_mul, iN_sub, i1, i2, i3, i4, j_L_allocates_76, j_L_allocates_77, ha, decide_true, decide_false, Bool.false_and, Bool.or_self, bI_f]
      · by_cases hxz : x = z
        · subst hxz
          simp (disch := omega) only [gd_t, gd_T, bx_some, bx_thr, bd_def, nx_in, ↓nO_eq, l0, l1, l2, l3, l4, l5, l6, l7, l8, l9, l10, l12, l13, l16, l17, l18, l25, l30, l32, l33, l50, l64, l100, l200, l448, l1200, iN_add, iN_lt, iN_le, iN_inj, iN_clamp, iN_inb, iN_nO, nO_iN, nO_lt, iN_ltm, iN_lem, nO_le, iN_pred, if_pos, if_neg, ↓reduceIte, or_true, true_or, and_true, true_and, ne_eq, not_true_eq_false, not_false_eq_true, false_or, or_false, and_false, false_and, l_L_allocates_11, l125, h125, iN_div, iN_mul, iN_sub, i1, i2, i3, i4, j_L_allocates_76, j_L_allocates_77, ha, hxy, decide_true, decide_false, Bool.and_false, Bool.false_and, Bool.or_self, bI_f]
        · by_cases hb : y = 4
          · subst hb
            simp (disch := omega) only [gd_t, gd_T, bx_some, bx_thr, bd_def, nx_in, ↓nO_eq, l0, l1, l2, l3, l4, l5, l6, l7, l8, l9, l10, l12, l13, l16, l17, l18, l25, l30, l32, l33, l50, l64, l100, l200, l448, l1200, iN_add, iN_lt, iN_le, iN_inj, iN_clamp, iN_inb, iN_nO, nO_iN, nO_lt, iN_ltm, iN_lem, nO_le, iN_pred, if_pos, if_neg, ↓reduceIte, or_true, true_or, and_true, true_and, ne_eq, not_true_eq_false, not_false_eq_true, false_or, or_false, and_false, false_and, l_L_allocates_11, l125, h125, iN_div, iN_mul, iN_sub, i1, i2, i3, i4, j_L_allocates_59, j_L_allocates_72, j_L_allocates_77, ha, hxy, hxz, decide_true, decide_false, Bool.false_or, Bool.true_or, Bool.and_self, bI_t]
          · by_cases hyz : y = z
            · subst hyz
              simp (disch := omega) only [gd_t, gd_T, bx_some, bx_thr, bd_def, nx_in, ↓nO_eq, l0, l1, l2, l3, l4, l5, l6, l7, l8, l9, l10, l12, l13, l16, l17, l18, l25, l30, l32, l33, l50, l64, l100, l200, l448, l1200, iN_add, iN_lt, iN_le, iN_inj, iN_clamp, iN_inb, iN_nO, nO_iN, nO_lt, iN_ltm, iN_lem, nO_le, iN_pred, if_pos, if_neg, ↓reduceIte, or_true, true_or, and_true, true_and, ne_eq, not_true_eq_false, not_false_eq_true, false_or, or_false, and_false, false_and, l_L_allocates_11, l125, h125, iN_div, iN_mul, iN_sub, i1, i2, i3, i4, j_L_allocates_59, j_L_allocates_76, j_L_allocates_77, ha, hxy, hb, decide_true, decide_false, Bool.or_self, Bool.and_false, bI_f]
            · simp (disch := omega) only [gd_t, gd_T, bx_some, bx_thr, bd_def, nx_in, ↓nO_eq, l0, l1, l2, l3, l4, l5, l6, l7, l8, l9, l10, l12, l13, l16, l17, l18, l25, l30, l32, l33, l50, l64, l100, l200, l448, l1200, iN_add, iN_lt, iN_le, iN_inj, iN_clamp, iN_inb, iN_nO, nO_iN, nO_lt, iN_ltm, iN_lem, nO_le, iN_pred, if_pos, if_neg, ↓reduceIte, or_true, true_or, and_true, true_and, ne_eq, not_true_eq_false, not_false_eq_true, false_or, or_false, and_false, false_and, l_L_allocates_11, l125, h125, iN_div, iN_mul, iN_sub, i1, i2, i3, i4, j_L_allocates_59, j_L_allocates_72, j_L_allocates_77, ha, hxy, hxz, hb, hyz, decide_true, decide_false, Bool.false_or, Bool.or_true, Bool.and_self, bI_t]
  obtain ⟨q, hq⟩ := al_88 B ht g4 gk ge gd9 G hx hy hz (l_L_allocates_11 n) (ok1 x y z) (iN (25 * x + 5 * y + z)) bh bl
  rw [hall _ rfl, hq, ← alw3 g4 hx hy hz]
  have e := al_end g4 G hx hy hz (l_L_allocates_11 n) L (iN (25 * x + 5 * y + z)) q
  rw [show iN (25 * x + 5 * y + z) + 1 = iN (25 * x + 5 * y + z + 1) from iN_add _ 1] at e
  exact e
def dg (i : Nat) : List Nat := [i / 25, i / 5 % 5, i % 5]
theorem dg_Al : (List.range 125).map dg = Al 4 3 := by decide +kernel
theorem al_L {A : Ab} {t : Nat} (ht : t ≤ 60) (g4 : GxN A) (gk : Gxk A t) (ge : Gxe A) (gd9 : Gxd A) (G : Gd A) : ∀ (k i : Nat) (σ : Wd) (acc : Option (List Nat)) (bh bl : Int32) (n : Nat), i + k = 125 → k < n → RB σ A → LA A acc σ bh bl → ∃ σ' bh' bl', l_L_allocates_11 n σ (iN i) bh bl (iN (nT A)) = some (.inl bl', σ') ∧ F77 σ σ' ∧ LA A (((List.range' i k).map dg).foldl (upa A) acc) σ' bh' bl'
  | 0, i, σ, acc, bh, bl, n + 1, hi, hn, B, L => by
    have : i = 125 := by omega
    subst this
    refine ⟨σ, bh, bl, ?_, F77.rf σ, L⟩
    have l125 : (125 : Int32) = iN 125 := id rfl
    simp (disch := omega) only [gd_t, gd_T, bx_some, bx_thr, bd_def, nx_in, ↓nO_eq, l0, l1, l2, l3, l4, l5, l6, l7, l8, l9, l10, l12, l13, l16, l17, l18, l25, l30, l32, l33, l50, l64, l100, l200, l448, l1200, iN_add, iN_lt, iN_le, iN_inj, iN_clamp, iN_inb, iN_nO, nO_iN, nO_lt, iN_ltm, iN_lem, nO_le, iN_pred, if_pos, if_neg, ↓reduceIte, or_true, true_or, and_true, true_and, ne_eq, not_true_eq_false, not_false_eq_true, false_or, or_false, and_false, false_and, l_L_allocates_11, l125, Nat.le_refl]
  | k + 1, i, σ, acc, bh, bl, n + 1, hi, hn, B, L => by
    have e : i = 25 * (i / 25) + 5 * (i / 5 % 5) + i % 5 := by omega
    obtain ⟨σ1, bh1, bl1, h1, h2, h3⟩ := al_11 B ht g4 gk ge gd9 G (x := i / 25) (y := i / 5 % 5) (z := i % 5) (by omega) (by omega) (by omega) L n
    rw [← e] at h1
    obtain ⟨σ2, bh2, bl2, h4, h5, h6⟩ := al_L ht g4 gk ge gd9 G k (i + 1) σ1 (upa A acc (dg i)) bh1 bl1 n (by omega) (by omega) (B.f77 h2) h3
    refine ⟨σ2, bh2, bl2, h1.trans h4, h2.tr h5, ?_⟩
    rw [List.range'_succ, List.map_cons, List.foldl_cons]
    exact h6
/-- the best is given -/
def Gvn (A : Ab) (σ : Wd) : Prop := ∀ d c, (bestA A)[d]? = some c → σ.1 77 0 d = chv 4 c
theorem al_fold {A : Ab} (g4 : GxN A) (G : Gd A) : ((List.range' 0 125).map dg).foldl (upa A) none = some (bestA A) := by
  have hP : (PA A).1 = 4 := g4.1
  rw [← List.range_eq_range', dg_Al]
  have hb := (best_all (PA A) (fun d => (PA_w1 G d).1) 3 (fr0 A)).1
  rw [← Al_En, hP, fold_filter] at hb
  unfold bestA
  rw [g4.2]
  exact hb
theorem al_ok1 {σ : Wd} {A : Ab} (B : RB σ A) {t : Nat} (ht : t ≤ 60) (g4 : GxN A) (gk : Gxk A t) (ge : Gxe A) (gd9 : Gxd A) (G : Gd A) : ∃ σ' bh bl, f_L_allocates σ (iN (nT A)) = some (.inl bl, σ') ∧ F77 σ σ' ∧ LA A (some (bestA A)) σ' bh bl := by
  rw [← al_fold g4 G]
  exact al_L ht g4 gk ge gd9 G 125 0 σ none nO (iN 1000) FU rfl (by unfold FU; omega) B ⟨rfl, rfl⟩
theorem al_ok {σ : Wd} {A : Ab} (B : RB σ A) {t : Nat} (ht : t ≤ 60) (g4 : GxN A) (gk : Gxk A t) (ge : Gxe A) (gd9 : Gxd A) (G : Gd A) : ∃ σ', f_L_allocates σ (iN (nT A)) = some (.inl (iN (lk (PA A) 0 (bestA A))), σ') ∧ F77 σ σ' ∧ Gvn A σ' := by
  obtain ⟨σ', bh, bl, h1, h2, h3⟩ := al_ok1 B ht g4 gk ge gd9 G
  obtain ⟨rfl, rfl, -, h4⟩ := h3
  exact ⟨σ', h1, h2, h4⟩
