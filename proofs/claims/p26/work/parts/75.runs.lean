/-! who stands where, by the law's rows -/
theorem p_placeL {σ : Wd} {d u : Nat} {l : List Nat} (hd : d < 3) (hu : u < 4) (h4 : l.length ≤ 4) (hb : ∀ x, x ∈ l → x < 4) (hnd : l.Nodup) (h0 : σ.1 71 0 (16 * u) = iN d) (r1 : σ.1 74 0 (12 + d) = iN l.length) (r2 : ∀ j x, l[j]? = some x → σ.1 74 0 (4 * d + j) = iN x) : ∀ (n k j a : Nat), l.length - j = k → k < n → j ≤ 4 → l_L_place_5 n σ (iN j) (iN a) (iN u) = some (.inl (iN (if u ∈ l.drop j then l.idxOf u else a)), σ)
  | n + 1, k, j, a, hk, hn, hj => by
    rcases at_or l j with ⟨f, hf, hl⟩ | hl
    · have hx := r2 j f hf
      have hx4 := hb f (List.mem_of_getElem? hf)
      have ih := fun a => p_placeL hd hu h4 hb hnd h0 r1 r2 n (l.length - (j + 1)) (j + 1) a rfl (by omega) (by omega)
      have hl' : ¬ l.length ≤ j := by omega
      rw [drop_at hf]
      by_cases hfu : f = u
      · subst hfu
        have hidx : l.idxOf f = j := by
          have hlt : j < l.length := hl
          have e := (List.getElem?_eq_some_iff.mp hf).2
          rw [← e]
          exact hnd.idxOf_getElem j hlt
        have hnm : ¬ f ∈ l.drop (j + 1) := by
          have hnd2 : (l.drop j).Nodup := hnd.sublist (List.drop_sublist j l)
          rw [drop_at hf] at hnd2
          exact (List.nodup_cons.mp hnd2).1
        have e := ih j
        rw [if_neg hnm] at e
        rw [if_pos (List.mem_cons_self ..), hidx, ← e]
        simp (disch := omega) only [gd_t, gd_T, bx_some, bx_thr, bd_def, nx_in, ↓nO_eq, l0, l1, l2, l3, l4, l5, l6, l7, l8, l9, l10, l12, l13, l16, l17, l18, l25, l30, l32, l33, l50, l64, l100, l200, l448, l1200, iN_add, iN_lt, iN_le, iN_inj, iN_clamp, iN_inb, iN_nO, nO_iN, nO_lt, iN_ltm, iN_lem, nO_le, iN_pred, if_pos, if_neg, ↓reduceIte, or_true, true_or, and_true, true_and, ne_eq, not_true_eq_false, not_false_eq_true, false_or, or_false, and_false, false_and, l_L_place_5, h0, r1, hl', hx, iN_mul]
      · have hmem : (u ∈ f :: l.drop (j + 1)) ↔ u ∈ l.drop (j + 1) := by
          rw [List.mem_cons]
          exact ⟨fun z => z.resolve_left (fun w => hfu w.symm), Or.inr⟩
        have e2 : (if u ∈ f :: l.drop (j + 1) then l.idxOf u else a) = if u ∈ l.drop (j + 1) then l.idxOf u else a := by
          by_cases h : u ∈ l.drop (j + 1)
          · rw [if_pos h, if_pos (hmem.mpr h)]
          · rw [if_neg h, if_neg (fun z => h (hmem.mp z))]
        rw [e2, ← ih a]
        simp (disch := omega) only [gd_t, gd_T, bx_some, bx_thr, bd_def, nx_in, ↓nO_eq, l0, l1, l2, l3, l4, l5, l6, l7, l8, l9, l10, l12, l13, l16, l17, l18, l25, l30, l32, l33, l50, l64, l100, l200, l448, l1200, iN_add, iN_lt, iN_le, iN_inj, iN_clamp, iN_inb, iN_nO, nO_iN, nO_lt, iN_ltm, iN_lem, nO_le, iN_pred, if_pos, if_neg, ↓reduceIte, or_true, true_or, and_true, true_and, ne_eq, not_true_eq_false, not_false_eq_true, false_or, or_false, and_false, false_and, l_L_place_5, h0, r1, hl', hx, iN_mul, hfu]
    · rw [List.drop_eq_nil_of_le hl, if_neg (fun z => by cases z)]
      simp (disch := omega) only [gd_t, gd_T, bx_some, bx_thr, bd_def, nx_in, ↓nO_eq, l0, l1, l2, l3, l4, l5, l6, l7, l8, l9, l10, l12, l13, l16, l17, l18, l25, l30, l32, l33, l50, l64, l100, l200, l448, l1200, iN_add, iN_lt, iN_le, iN_inj, iN_clamp, iN_inb, iN_nO, nO_iN, nO_lt, iN_ltm, iN_lem, nO_le, iN_pred, if_pos, if_neg, ↓reduceIte, or_true, true_or, and_true, true_and, ne_eq, not_true_eq_false, not_false_eq_true, false_or, or_false, and_false, false_and, l_L_place_5, h0, r1, iN_mul, hl]
theorem p_place {σ : Wd} {d u : Nat} {l : List Nat} (hd : d < 3) (hu : u < 4) (h4 : l.length ≤ 4) (hb : ∀ x, x ∈ l → x < 4) (hnd : l.Nodup) (h0 : σ.1 71 0 (16 * u) = iN d) (r1 : σ.1 74 0 (12 + d) = iN l.length) (r2 : ∀ j x, l[j]? = some x → σ.1 74 0 (4 * d + j) = iN x) (hm : u ∈ l) : f_L_place σ (iN u) = some (.inl (iN (l.idxOf u)), σ) := by
  have h := p_placeL hd hu h4 hb hnd h0 r1 r2 FU _ 0 0 rfl (by unfold FU; omega) (by decide)
  rw [List.drop_zero, if_pos hm] at h
  exact h
theorem Gr.len4 {A : Ab} {aw : Nat → Prop} (W : Gr A aw) (g4 : GxN A) {d : Nat} (hd : d < 3) : (rw_ A d).length ≤ 4 ∧ ∀ x, x ∈ rw_ A d → x < 4 :=
  ⟨nodup_le 4 _ (W.1 d hd).1 (fun x hx => by have := ((W.1 d hd).2 x hx).1; rw [g4.1] at this; exact this), fun x hx => by have := ((W.1 d hd).2 x hx).1; rw [g4.1] at this; exact this⟩
/-- what the law's own rows change -/
def LSw (σ σ' : Wd) : Prop := σ'.2 = σ.2 ∧ ∀ t, ¬ (71 ≤ t ∧ t ≤ 77) → σ'.1 t = σ.1 t
theorem LSw.rf (σ : Wd) : LSw σ σ := ⟨rfl, fun _ _ => rfl⟩
theorem LSw.tr {a b c : Wd} (h : LSw a b) (h2 : LSw b c) : LSw a c := ⟨h2.1.trans h.1, fun t x => (h2.2 t x).trans (h.2 t x)⟩
theorem LSw.wr {σ τ : Wd} (h : LSw σ τ) {t i k : Nat} {v : Int32} (ht : 71 ≤ t ∧ t ≤ 77) : LSw σ (wr τ t i k v) := ⟨h.1, fun t' ht' => by
  funext i' k'
  rw [wr_rd, if_neg (by omega)]
  exact congrFun (congrFun (h.2 t' ht') i') k'⟩
theorem F77.ls {σ σ' : Wd} (h : F77 σ σ') : LSw σ σ' := ⟨h.1, fun t ht => h.2 t (by omega)⟩
theorem RC.ls {σ τ : Wd} {A : Ab} (h : RC σ A) (h1 : LSw σ τ) : RC τ A := h.fr (fun t ht => h1.2 t (by omega)) h1.1
theorem p_shift {d L : Nat} (hd : d < 3) (hL : L ≤ 4) (k6 : Wd → Int32 → Int32 → Option ((Int32 ⊕ String) × Wd)) (a4 a5 : Int32) : ∀ (n m k : Nat) (σ : Wd), L - k = m → m < n → k ≤ L → 0 < L → σ.1 74 0 (12 + d) = iN L → ∃ σ', l_L_runs_62 k6 n σ (iN k) a4 (iN d) a5 = k6 σ' (a5 + 1) a4 ∧ σ'.2 = σ.2 ∧ ∀ t i x, σ'.1 t i x = if t = 74 ∧ i = 0 ∧ x = 12 + d then iN (L - 1) else if t = 74 ∧ i = 0 ∧ 4 * d + k ≤ x ∧ x < 4 * d + (L - 1) then σ.1 t i (x + 1) else σ.1 t i x
  | n + 1, m, k, σ, hm, hn, hk, hL0, h74 => by
    by_cases h : L - 1 ≤ k
    · refine ⟨wr σ 74 0 (12 + d) (iN (L - 1)), ?_, rfl, fun t i x => ?_⟩
      · simp (disch := omega) only [gd_t, gd_T, bx_some, bx_thr, bd_def, nx_in, ↓nO_eq, l0, l1, l2, l3, l4, l5, l6, l7, l8, l9, l10, l12, l13, l16, l17, l18, l25, l30, l32, l33, l50, l64, l100, l200, l448, l1200, iN_add, iN_lt, iN_le, iN_inj, iN_clamp, iN_inb, iN_nO, nO_iN, nO_lt, iN_ltm, iN_lem, nO_le, iN_pred, if_pos, if_neg, ↓reduceIte, or_true, true_or, and_true, true_and, ne_eq, not_true_eq_false, not_false_eq_true, false_or, or_false, and_false, false_and, l_L_runs_62, h74, iN_sub]
      · rw [wr_rd]
        by_cases h2 : t = 74 ∧ i = 0 ∧ x = 12 + d
        · rw [if_pos h2, if_pos h2]
        · rw [if_neg h2, if_neg h2, if_neg (by omega)]
    · obtain ⟨σ', s1, s2, s3⟩ := p_shift hd hL k6 a4 a5 n (L - (k + 1)) (k + 1) (wr σ 74 0 (4 * d + k) (σ.1 74 0 (4 * d + k + 1))) rfl (by omega) (by omega) hL0 (by
        rw [wr_rd, if_neg (by omega)]
        exact h74)
      refine ⟨σ', ?_, s2, fun t i x => ?_⟩
      · rw [← s1]
        have hc : ¬ L - 1 ≤ k := h
        simp (disch := omega) only [gd_t, gd_T, bx_some, bx_thr, bd_def, nx_in, ↓nO_eq, l0, l1, l2, l3, l4, l5, l6, l7, l8, l9, l10, l12, l13, l16, l17, l18, l25, l30, l32, l33, l50, l64, l100, l200, l448, l1200, iN_add, iN_lt, iN_le, iN_inj, iN_clamp, iN_inb, iN_nO, nO_iN, nO_lt, iN_ltm, iN_lem, nO_le, iN_pred, if_pos, if_neg, ↓reduceIte, or_true, true_or, and_true, true_and, ne_eq, not_true_eq_false, not_false_eq_true, false_or, or_false, and_false, false_and, l_L_runs_62, h74, iN_sub, iN_mul]
      · rw [s3, wr_rd, wr_rd]
        by_cases h2 : t = 74 ∧ i = 0 ∧ x = 12 + d
        · rw [if_pos h2, if_pos h2]
        · rw [if_neg h2, if_neg h2]
          by_cases h3 : t = 74 ∧ i = 0 ∧ 4 * d + k ≤ x ∧ x < 4 * d + (L - 1)
          · rw [if_pos h3]
            by_cases h4 : x = 4 * d + k
            · rw [if_neg (by omega), if_pos ⟨h3.1, h3.2.1, h4⟩, h3.1, h3.2.1, h4]
            · rw [if_pos (by omega), if_neg (by omega)]
          · rw [if_neg h3, if_neg (by omega), if_neg (by omega)]
theorem p_lv {σ : Wd} {A : Ab} (B : RB σ A) (g4 : GxN A) {aw : Nat → Prop} (W : Gr A aw) {d c : Nat} (hd : d < 3) (hc : c ≤ 4) (hat : σ.1 77 0 d = chv 4 c) (hin : c < 4 → ¬ aw c) (a4 : Int32) : ∃ σ' s, (∀ n, l_L_runs_6 (n + 1) σ (iN d) a4 = l_L_runs_6 n σ' (iN (d + 1)) (a4 + s)) ∧ LSw σ σ' ∧ σ'.1 77 = σ.1 77 ∧ RB σ' (lv A d c) ∧ (lv A d c).1 30 2 0 = A.1 30 2 0 + s := by
  by_cases hcu : c = 4
  · have ec : chv 4 c = nO := if_pos hcu
    rw [ec] at hat
    refine ⟨σ, 0, fun n => ?_, LSw.rf σ, rfl, ?_, ?_⟩
    · have hneg : (nO < iN 0) = True := eq_true (by decide)
      have h0 : a4 + iN 0 = a4 := Int32.add_zero a4
      simp (disch := omega) only [gd_t, gd_T, bx_some, bx_thr, bd_def, nx_in, ↓nO_eq, l0, l1, l2, l3, l4, l5, l6, l7, l8, l9, l10, l12, l13, l16, l17, l18, l25, l30, l32, l33, l50, l64, l100, l200, l448, l1200, iN_add, iN_lt, iN_le, iN_inj, iN_clamp, iN_inb, iN_nO, nO_iN, nO_lt, iN_ltm, iN_lem, nO_le, iN_pred, if_pos, if_neg, ↓reduceIte, or_true, true_or, and_true, true_and, ne_eq, not_true_eq_false, not_false_eq_true, false_or, or_false, and_false, false_and, l_L_runs_6, hat, hneg, h0]
    · unfold lv
      rw [if_pos (by rw [g4.1]; exact hcu)]
      exact B
    · unfold lv
      rw [if_pos (by rw [g4.1]; exact hcu), aw_rd, if_neg (by omega)]
      exact (Int32.add_zero _).symm
  · have ec : chv 4 c = iN c := if_neg hcu
    have hc4 : c < 4 := by omega
    have hcn : c < nU A := by rw [g4.1]; exact hc4
    rw [ec] at hat
    obtain ⟨e1, e2, e3⟩ := W.row hcn (hin hc4)
    obtain ⟨h6, hb⟩ := W.len4 g4 e1
    have hlt := List.idxOf_lt_length_of_mem e3
    have u2 : σ.1 71 0 (16 * c) = iN (dpt A c) := (B.1 c hcn).1.trans e2
    obtain ⟨r1, r2⟩ := B.2.2.1 _ e1
    have hp := p_place e1 hc4 h6 hb (W.1 _ e1).1 u2 r1 r2 e3
    have hnn : ¬ iN c < iN 0 := by rw [iN_lt (by omega) (by decide)]; omega
    have sh := fun n => p_shift e1 h6 (l_L_runs_6 n) (a4 + iN ((rw_ A (dpt A c)).length - 1 - (rw_ A (dpt A c)).idxOf c)) (iN d) FU _ ((rw_ A (dpt A c)).idxOf c) σ rfl (by unfold FU; omega) (by omega) (by omega) r1
    obtain ⟨σ', q1, q2, q3⟩ := p_shift e1 h6 (l_L_runs_6 0) (a4 + iN ((rw_ A (dpt A c)).length - 1 - (rw_ A (dpt A c)).idxOf c)) (iN d) FU _ ((rw_ A (dpt A c)).idxOf c) σ rfl (by unfold FU; omega) (by omega) (by omega) r1
    have hall : ∀ n, l_L_runs_62 (l_L_runs_6 n) FU σ (iN ((rw_ A (dpt A c)).idxOf c)) (a4 + iN ((rw_ A (dpt A c)).length - 1 - (rw_ A (dpt A c)).idxOf c)) (iN (dpt A c)) (iN d) = l_L_runs_6 n σ' (iN d + 1) (a4 + iN ((rw_ A (dpt A c)).length - 1 - (rw_ A (dpt A c)).idxOf c)) := fun n => by
      obtain ⟨τ, t1, t2, t3⟩ := sh n
      have : τ = σ' := Prod.ext (funext fun t => funext fun i => funext fun x => (t3 t i x).trans (q3 t i x).symm) (t2.trans q2.symm)
      rw [t1, this]
    have off : ∀ t, t ≠ 74 → σ'.1 t = σ.1 t := fun t ht => by
      funext i x
      rw [q3, if_neg (by omega), if_neg (by omega)]
    refine ⟨σ', iN ((rw_ A (dpt A c)).length - 1 - (rw_ A (dpt A c)).idxOf c), fun n => ?_, ⟨q2, fun t ht => off t (by omega)⟩, off 77 (by decide), ?_, ?_⟩
    · have h2 := hall n
      simp (disch := omega) only [gd_t, gd_T, bx_some, bx_thr, bd_def, nx_in, ↓nO_eq, l0, l1, l2, l3, l4, l5, l6, l7, l8, l9, l10, l12, l13, l16, l17, l18, l25, l30, l32, l33, l50, l64, l100, l200, l448, l1200, iN_add, iN_lt, iN_le, iN_inj, iN_clamp, iN_inb, iN_nO, nO_iN, nO_lt, iN_ltm, iN_lem, nO_le, iN_pred, if_pos, if_neg, ↓reduceIte, or_true, true_or, and_true, true_and, ne_eq, not_true_eq_false, not_false_eq_true, false_or, or_false, and_false, false_and, l_L_runs_6, hat, hnn, iN_mul, u2, hp, r1, iN_sub, h2]
    · unfold lv
      rw [if_neg (by rw [g4.1]; exact hcu)]
      refine ⟨?_, ?_, fun e he => ?_, ?_, ?_⟩
      · intro v hv
        have := B.1 v hv
        rw [off 71 (by decide)]
        exact this
      · intro v hv j f hf
        have := B.2.1 v hv j f hf
        rw [off 72 (by decide), off 73 (by decide)]
        exact this
      · obtain ⟨x1, x2⟩ := B.2.2.1 e he
        have hle := (W.len4 g4 he).1
        have hr : rw_ (rwA (Jvm.Pilot.CStablingroadLaw_law_r4569_fa4025.aw (Jvm.Pilot.CStablingroadLaw_law_r4569_fa4025.aw A 55 d (nT A) (iN c)) 30 2 0 (A.1 30 2 0 + iN ((rw_ A (dpt A c)).length - 1 - (rw_ A (dpt A c)).idxOf c))) (dpt A c) (wo c (rw_ A (dpt A c)))) e = if e = dpt A c then wo c (rw_ A (dpt A c)) else rw_ A e := rfl
        rw [hr]
        generalize hdp : dpt A c = D at *
        by_cases h : e = D
        · subst h
          rw [if_pos rfl, ← wo_idx c _ (W.1 _ he).1 e3, List.length_eraseIdx, if_pos hlt]
          refine ⟨?_, fun j x hx => ?_⟩
          · rw [q3, if_pos ⟨rfl, rfl, rfl⟩]
          · have hjl : j < (rw_ A e).length - 1 := by
              have := (List.getElem?_eq_some_iff.mp hx).1
              rw [List.length_eraseIdx, if_pos hlt] at this
              exact this
            rw [List.getElem?_eraseIdx] at hx
            rw [q3, if_neg (by omega)]
            by_cases hj : j < (rw_ A e).idxOf c
            · rw [if_pos hj] at hx
              rw [if_neg (by omega)]
              exact x2 j x hx
            · rw [if_neg hj] at hx
              rw [if_pos (by omega)]
              exact x2 (j + 1) x hx
        · rw [if_neg h]
          refine ⟨?_, fun j x hx => ?_⟩
          · rw [q3, if_neg (by omega), if_neg (by omega)]
            exact x1
          · have hjl := (List.getElem?_eq_some_iff.mp hx).1
            rw [q3, if_neg (by omega), if_neg (by omega)]
            exact x2 j x hx
      · intro v hv
        have := B.2.2.2.1 v hv
        rw [off 75 (by decide)]
        exact this
      · have := B.2.2.2.2
        unfold RBe at this ⊢
        rw [off 76 (by decide)]
        exact this
    · unfold lv
      rw [if_neg (by rw [g4.1]; exact hcu)]
      show (Jvm.Pilot.CStablingroadLaw_law_r4569_fa4025.aw (Jvm.Pilot.CStablingroadLaw_law_r4569_fa4025.aw A 55 d (nT A) (iN c)) 30 2 0 (A.1 30 2 0 + iN ((rw_ A (dpt A c)).length - 1 - (rw_ A (dpt A c)).idxOf c))).1 30 2 0 = _
      rw [aw_rd, if_pos ⟨rfl, rfl, rfl⟩]
