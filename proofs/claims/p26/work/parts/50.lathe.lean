theorem fl_G {A : Ab} (G : Gd A) {u : Nat} {l : List Fa} (h1 : l.length ≤ (fl A u).length) (h2 : ∀ f, f ∈ l → f ∈ fl A u) : Gd (flA A u l) := by
  obtain ⟨g1, g2, g3, g4, g5, g6⟩ := G
  refine ⟨g1, g2, g3, fun v hv => ?_, g5, g6⟩
  rw [fl_flA]
  by_cases h : v = u
  · rw [if_pos h]
    have := g4 v hv
    rw [h] at this
    exact ⟨Nat.le_trans h1 this.1, fun f hf => this.2 f (h2 f hf)⟩
  · rw [if_neg h]; exact g4 v hv
/-! the lathe -/
def ds (a : Nat) : List Fa → Int32
  | [] => 0
  | f :: l => (if f.1 = iN 0 ∧ f.2.2.1.toNatClampNeg = a then f.2.2.2 else 0) + ds a l
theorem ds_app (a : Nat) (m : List Fa) : ∀ l : List Fa, ds a (l ++ m) = ds a l + ds a m
  | [] => by
    show ds a m = 0 + ds a m
    rw [Int32.zero_add]
  | f :: l => by
    show (if f.1 = iN 0 ∧ f.2.2.1.toNatClampNeg = a then f.2.2.2 else 0) + ds a (l ++ m) = (if f.1 = iN 0 ∧ f.2.2.1.toNatClampNeg = a then f.2.2.2 else 0) + ds a l + ds a m
    rw [ds_app a m l, Int32.add_assoc]
def nfl (f : Fa) : Bool := decide (¬ f.1 = iN 0)
def okF (f : Fa) : Prop := f.1 = iN 0 → ∃ a, a < 4 ∧ f.2.2.1 = iN a
def pr : Nat → Int32
  | 0 => nO
  | n + 1 => iN n
theorem pr_add (n : Nat) : iN n + (-1 : Int32) = pr n := by
  cases n with
  | zero => decide
  | succ n => exact iN_pred n
theorem pr_sub (n : Nat) : iN n - 1 = pr n := by
  rw [Int32.sub_eq_add_neg]
  exact pr_add n
theorem k_depthL {σ : Wd} {A : Ab} (C : RC σ A) (g6 : nU A ≤ 6) {u : Nat} (hu : u < nU A) (g8 : (fl A u).length ≤ 8) (hk : ∀ f, f ∈ fl A u → okF f) {a : Nat} (ha : a < 4) : ∀ (n k j : Nat) (acc : Int32), (fl A u).length - j = k → k < n → j ≤ 8 → l_X8_depthOnAxle_4 n σ (iN j) acc u (iN a) = some (.inl (acc + ds a ((fl A u).drop j)), σ)
  | n + 1, k, j, acc, hkk, hn, hj8 => by
    have e8 := C.1.1
    have hs := c_szf C.1 C.2.1 hu
    rcases at_or (fl A u) j with ⟨f, hf, hl⟩ | hl
    · obtain ⟨x, x1, x2, x3⟩ := k_faultAt C.1 C.2.1 g6 hu g8 hf
      have y0 : σ.1 26 x 0 = f.1 := by rw [← x3]; rfl
      have y2 : σ.1 26 x 2 = f.2.2.1 := by rw [← x3]; rfl
      have y3 : σ.1 26 x 3 = f.2.2.2 := by rw [← x3]; rfl
      have ih := fun acc => k_depthL C g6 hu g8 hk ha n ((fl A u).length - (j + 1)) (j + 1) acc rfl (by omega) (by omega)
      rw [drop_at hf]
      rw [show ds a (f :: (fl A u).drop (j + 1)) = (if f.1 = iN 0 ∧ f.2.2.1.toNatClampNeg = a then f.2.2.2 else 0) + ds a ((fl A u).drop (j + 1)) from rfl]
      by_cases h0 : f.1 = iN 0
      · obtain ⟨b, hb, hb2⟩ := hk f (List.mem_of_getElem? hf) h0
        by_cases h1 : b = a
        · subst h1
          have hcc : f.1 = iN 0 ∧ f.2.2.1.toNatClampNeg = b := ⟨h0, by rw [hb2]; exact iN_clamp (by omega)⟩
          rw [if_pos hcc]
          simp (disch := omega) only [gd_t, gd_T, bx_some, bx_thr, bd_def, nx_in, ↓nO_eq, l0, l1, l2, l3, l4, l5, l6, l7, l8, l30, l50, l64, l100, l200, l448, l1200, iN_add, iN_lt, iN_le, iN_inj, iN_clamp, iN_inb, iN_nO, nO_iN, nO_lt, iN_ltm, iN_lem, nO_le, iN_pred, if_pos, if_neg, ↓reduceIte, or_true, true_or, and_true, true_and, ne_eq, not_true_eq_false, not_false_eq_true, false_or, or_false, and_false, false_and, l_X8_depthOnAxle_4, hs, x1, y0, y2, y3, h0, hb2, ih]
          rw [Int32.add_assoc]
        · have h2 : ¬ iN b = iN a := by rw [iN_inj (by omega) (by omega)]; exact h1
          have hcc : ¬ (f.1 = iN 0 ∧ f.2.2.1.toNatClampNeg = a) := fun z => h1 (by rw [← z.2, hb2]; exact (iN_clamp (by omega)).symm)
          rw [if_neg hcc, Int32.zero_add]
          simp (disch := omega) only [gd_t, gd_T, bx_some, bx_thr, bd_def, nx_in, ↓nO_eq, l0, l1, l2, l3, l4, l5, l6, l7, l8, l30, l50, l64, l100, l200, l448, l1200, iN_add, iN_lt, iN_le, iN_inj, iN_clamp, iN_inb, iN_nO, nO_iN, nO_lt, iN_ltm, iN_lem, nO_le, iN_pred, if_pos, if_neg, ↓reduceIte, or_true, true_or, and_true, true_and, ne_eq, not_true_eq_false, not_false_eq_true, false_or, or_false, and_false, false_and, l_X8_depthOnAxle_4, hs, x1, y0, y2, y3, h0, hb2, h1, ih]
      · have hcc : ¬ (f.1 = iN 0 ∧ f.2.2.1.toNatClampNeg = a) := fun z => h0 z.1
        rw [if_neg hcc, Int32.zero_add]
        simp (disch := omega) only [gd_t, gd_T, bx_some, bx_thr, bd_def, nx_in, ↓nO_eq, l0, l1, l2, l3, l4, l5, l6, l7, l8, l30, l50, l64, l100, l200, l448, l1200, iN_add, iN_lt, iN_le, iN_inj, iN_clamp, iN_inb, iN_nO, nO_iN, nO_lt, iN_ltm, iN_lem, nO_le, iN_pred, if_pos, if_neg, ↓reduceIte, or_true, true_or, and_true, true_and, ne_eq, not_true_eq_false, not_false_eq_true, false_or, or_false, and_false, false_and, l_X8_depthOnAxle_4, hs, x1, y0, h0, ih]
    · rw [List.drop_eq_nil_of_le hl, show ds a [] = 0 from rfl, Int32.add_zero]
      simp (disch := omega) only [gd_t, gd_T, bx_some, bx_thr, bd_def, nx_in, ↓nO_eq, l0, l1, l2, l3, l4, l5, l6, l7, l8, l30, l50, l64, l100, l200, l448, l1200, iN_add, iN_lt, iN_le, iN_inj, iN_clamp, iN_inb, iN_nO, nO_iN, nO_lt, iN_ltm, iN_lem, nO_le, iN_pred, if_pos, if_neg, ↓reduceIte, or_true, true_or, and_true, true_and, ne_eq, not_true_eq_false, not_false_eq_true, false_or, or_false, and_false, false_and, l_X8_depthOnAxle_4, hs]
theorem k_depth {σ : Wd} {A : Ab} (C : RC σ A) (g6 : nU A ≤ 6) {u : Nat} (hu : u < nU A) (g8 : (fl A u).length ≤ 8) (hk : ∀ f, f ∈ fl A u → okF f) {a : Nat} (ha : a < 4) : f_X8_depthOnAxle σ u (iN a) = some (.inl (ds a (fl A u)), σ) := by
  have := k_depthL C g6 hu g8 hk ha FU _ 0 0 rfl (by unfold FU; omega) (by decide)
  rw [List.drop_zero, Int32.zero_add] at this
  exact this
theorem erase_mid {α : Type} (x : α) (r : List α) : ∀ p : List α, (p ++ x :: r).eraseIdx p.length = p ++ r
  | [] => rfl
  | y :: p => by
    show y :: (p ++ x :: r).eraseIdx p.length = y :: (p ++ r)
    rw [erase_mid x r p]
theorem at_mid {α : Type} (x : α) (r : List α) (p : List α) : (p ++ x :: r)[p.length]? = some x := by
  rw [List.getElem?_append_right (Nat.le_refl _), Nat.sub_self]
  rfl
theorem dropFlats_s (n : Nat) (σ : Wd) (a1 : Int32) (ua0 : Nat) : l_X8_dropFlats_10 (n + 1) σ a1 ua0 = if a1 < 0 then some (.inl (), σ) else gd (ua0 < σ.2.2 8) <| bx (f_X8_faultAtPlace σ ua0 a1) fun v3 σ4 => gd (v3 < σ4.2.2 10) <| if (σ4.1 26 v3 0) = 0 then gd (ua0 < σ4.2.2 8) <| bx (f_X8_dropFault σ4 ua0 a1) fun v5 σ6 => (l_X8_dropFlats_10 n) σ6 (a1 + (-1)) ua0 else (l_X8_dropFlats_10 n) σ4 (a1 + (-1)) ua0 := id rfl
theorem k_flats {u : Nat} : ∀ (n : Nat) (p r : List Fa) (fu : Nat) (σ : Wd) (A : Ab), p.length = n → n < fu → RC σ A → nU A ≤ 6 → u < nU A → fl A u = p ++ r → (p ++ r).length ≤ 8 → ∃ σ', l_X8_dropFlats_10 fu σ (pr n) u = some (.inl (), σ') ∧ CS σ σ' ∧ RC σ' (flA A u (p.filter nfl ++ r))
  | 0, p, r, fu, σ, A, hp, hn, C, g6, hu, hl, h8 => by
    obtain ⟨m, rfl⟩ : ∃ m, fu = m + 1 := ⟨fu - 1, by omega⟩
    have : p = [] := List.eq_nil_of_length_eq_zero hp
    subst this
    refine ⟨σ, ?_, CS.rf σ, ?_⟩
    · unfold l_X8_dropFlats_10 pr
      rw [if_pos (by decide)]
    · rw [List.filter_nil, ← hl, flA_self]; exact C
  | n + 1, p, r, fu, σ, A, hp, hn, C, g6, hu, hl, h8 => by
    obtain ⟨m, rfl⟩ : ∃ m, fu = m + 1 := ⟨fu - 1, by omega⟩
    rcases List.eq_nil_or_concat p with hnil | ⟨p', x, hpx⟩
    · rw [hnil] at hp
      exact absurd hp (by simp)
    · rw [hpx] at hp hl h8 ⊢
      simp only [List.concat_eq_append, List.append_assoc, List.singleton_append] at hp hl h8 ⊢
      have hpl : p'.length = n := by simpa using hp
      have e8 := C.1.1
      have hj : (fl A u)[n]? = some x := by rw [hl, ← hpl]; exact at_mid x r p'
      have hjl : n < (fl A u).length := (List.getElem?_eq_some_iff.mp hj).1
      have g8 : (fl A u).length ≤ 8 := by rw [hl]; exact h8
      obtain ⟨y, x1, x2, x3⟩ := k_faultAt C.1 C.2.1 g6 hu g8 hj
      have y0 : σ.1 26 y 0 = x.1 := by rw [← x3]; rfl
      have hnn : ¬ iN n < 0 := by rw [show (0 : Int32) = iN 0 from rfl, iN_lt (by omega) (by decide)]; omega
      have hstep : l_X8_dropFlats_10 (m + 1) σ (pr (n + 1)) u = if x.1 = 0 then gd (u < σ.2.2 8) (bx (f_X8_dropFault σ u (iN n)) fun v5 σ6 => (l_X8_dropFlats_10 m) σ6 (pr n) u) else (l_X8_dropFlats_10 m) σ (pr n) u := by
        rw [show pr (n + 1) = iN n from rfl, dropFlats_s, if_neg hnn, gd_t (by omega), x1, bx_some, gd_t x2, y0, pr_add]
      rw [hstep]
      by_cases h0 : x.1 = 0
      · obtain ⟨σ1, d1, d2, d3⟩ := k_drop C g6 hu g8 hjl
        have hne : nfl x = false := by unfold nfl; simp; exact h0
        rw [hl, ← hpl, erase_mid] at d3
        have hl' : fl (flA A u (p' ++ r)) u = p' ++ r := by rw [fl_flA, if_pos rfl]
        obtain ⟨σ2, q1, q2, q3⟩ := k_flats n p' r m σ1 (flA A u (p' ++ r)) hpl (by omega) d3 g6 hu hl' (by simp at h8 ⊢; omega)
        refine ⟨σ2, ?_, d2.tr q2, ?_⟩
        · rw [if_pos h0, gd_t (by omega), d1, bx_some, q1]
        · rw [flA_flA] at q3
          rw [List.filter_append, List.filter_cons_of_neg (by rw [hne]; decide), List.filter_nil, List.append_nil]
          exact q3
      · have hne : nfl x = true := by unfold nfl; simp; exact h0
        obtain ⟨σ2, q1, q2, q3⟩ := k_flats n p' (x :: r) m σ A hpl (by omega) C g6 hu hl h8
        refine ⟨σ2, ?_, q2, ?_⟩
        · rw [if_neg h0, q1]
        · rw [List.filter_append, List.filter_cons_of_pos hne, List.filter_nil, List.append_assoc]
          exact q3
