/-! all leave, all come -/
theorem GxN.sm {A B : Ab} (g : GxN A) (h : Sm A B) : GxN B := ⟨(congrFun h 0).trans g.1, (congrFun h 1).trans g.2⟩
theorem p_lvs {L : List Nat} (hL : L.length = 3) (hLn : ∀ c, c ∈ L → c ≤ 4) (hN : NdU 4 L) : ∀ (r p : List Nat) (fu : Nat) (σ : Wd) (A : Ab) (a4 : Int32), L = p ++ r → r.length < fu → RB σ A → GxN A → Gr A (fun u => u ∈ p) → (∀ d c, L[d]? = some c → σ.1 77 0 d = chv 4 c) → ∃ σ' s, l_L_runs_6 fu σ (iN p.length) a4 = l_L_runs_122 FU σ' (iN 0) (a4 + s) ∧ LSw σ σ' ∧ σ'.1 77 = σ.1 77 ∧ RB σ' (lvs A p.length r) ∧ (lvs A p.length r).1 30 2 0 = A.1 30 2 0 + s
  | [], p, fu, σ, A, a4, hp, hfu, B, g4, W, hg => by
    obtain ⟨f, rfl⟩ : ∃ f, fu = f + 1 := ⟨fu - 1, by simp at hfu; omega⟩
    rw [List.append_nil] at hp
    subst hp
    refine ⟨σ, 0, ?_, LSw.rf σ, rfl, B, (Int32.add_zero _).symm⟩
    rw [Int32.add_zero, hL]
    simp (disch := omega) only [gd_t, gd_T, bx_some, bx_thr, bd_def, nx_in, ↓nO_eq, l0, l1, l2, l3, l4, l5, l6, l7, l8, l9, l10, l12, l13, l16, l17, l18, l25, l30, l32, l33, l50, l64, l100, l200, l448, l1200, iN_add, iN_lt, iN_le, iN_inj, iN_clamp, iN_inb, iN_nO, nO_iN, nO_lt, iN_ltm, iN_lem, nO_le, iN_pred, if_pos, if_neg, ↓reduceIte, or_true, true_or, and_true, true_and, ne_eq, not_true_eq_false, not_false_eq_true, false_or, or_false, and_false, false_and, l_L_runs_6]
  | c :: r, p, fu, σ, A, a4, hp, hfu, B, g4, W, hg => by
    obtain ⟨f, rfl⟩ : ∃ f, fu = f + 1 := ⟨fu - 1, by simp at hfu; omega⟩
    have hLc : L[p.length]? = some c := by rw [hp]; exact at_mid c r p
    have hlt := (List.getElem?_eq_some_iff.mp hLc).1
    have hcn := hLn c (List.mem_of_getElem? hLc)
    have hg1 := hg _ _ hLc
    have hin : c < 4 → ¬ c ∈ p := fun hc => (NdU.mid (p := p) (by rw [← hp]; exact hN) (by omega)).1
    obtain ⟨σ1, s1, q1, q2, q3, q4, q5⟩ := p_lv B g4 W (d := p.length) (c := c) (by omega) hcn hg1 hin a4
    obtain ⟨n1, _, _⟩ := lv_nums A p.length c
    have W1 := lv_W W (d := p.length) (c := c) (by rw [g4.1]; exact hcn) (fun hc => hin (by rw [g4.1] at hc; exact hc))
    obtain ⟨σ2, s2, z1, z2, z3, z4, z5⟩ := p_lvs hL hLn hN r (p ++ [c]) f σ1 (lv A p.length c) (a4 + s1) (by rw [hp]; simp) (by simp at hfu; omega) q4 (g4.sm n1) W1 (fun d x hd => by rw [q3]; exact hg d x hd)
    have hpl : (p ++ [c]).length = p.length + 1 := by simp
    rw [hpl] at z1 z4 z5
    refine ⟨σ2, s1 + s2, ?_, q2.tr z2, z3.trans q3, z4, ?_⟩
    · rw [q1 f, z1, Int32.add_assoc]
    · show (lvs (lv A p.length c) (p.length + 1) r).1 30 2 0 = _
      rw [z5, q5, Int32.add_assoc]
theorem cm_30 (A : Ab) (d c : Nat) : (cm A d c).1 30 = A.1 30 := by
  funext i k
  exact (cm_nums A d c).2.2.1 30 i k (by decide) (by decide) (by decide) (by decide)
theorem p_cms {L : List Nat} (hL : L.length = 3) (hLn : ∀ c, c ∈ L → c ≤ 4) (hN : NdU 4 L) (a4 : Int32) : ∀ (r p : List Nat) (fu : Nat) (σ : Wd) (A : Ab), L = p ++ r → r.length < fu → RB σ A → GxN A → Gd A → Gr A (fun u => u ∈ r) → (∀ d c, L[d]? = some c → σ.1 77 0 d = chv 4 c) → ∃ σ', l_L_runs_122 fu σ (iN p.length) a4 = some (.inl a4, σ') ∧ LSw σ σ' ∧ σ'.1 77 = σ.1 77 ∧ RB σ' (cms A p.length r) ∧ (cms A p.length r).1 30 = A.1 30
  | [], p, fu, σ, A, hp, hfu, B, g4, G, W, hg => by
    obtain ⟨f, rfl⟩ : ∃ f, fu = f + 1 := ⟨fu - 1, by simp at hfu; omega⟩
    rw [List.append_nil] at hp
    subst hp
    refine ⟨σ, ?_, LSw.rf σ, rfl, B, rfl⟩
    rw [hL]
    simp (disch := omega) only [gd_t, gd_T, bx_some, bx_thr, bd_def, nx_in, ↓nO_eq, l0, l1, l2, l3, l4, l5, l6, l7, l8, l9, l10, l12, l13, l16, l17, l18, l25, l30, l32, l33, l50, l64, l100, l200, l448, l1200, iN_add, iN_lt, iN_le, iN_inj, iN_clamp, iN_inb, iN_nO, nO_iN, nO_lt, iN_ltm, iN_lem, nO_le, iN_pred, if_pos, if_neg, ↓reduceIte, or_true, true_or, and_true, true_and, ne_eq, not_true_eq_false, not_false_eq_true, false_or, or_false, and_false, false_and, l_L_runs_122]
  | c :: r, p, fu, σ, A, hp, hfu, B, g4, G, W, hg => by
    obtain ⟨f, rfl⟩ : ∃ f, fu = f + 1 := ⟨fu - 1, by simp at hfu; omega⟩
    have hLc : L[p.length]? = some c := by rw [hp]; exact at_mid c r p
    have hlt := (List.getElem?_eq_some_iff.mp hLc).1
    have hcn := hLn c (List.mem_of_getElem? hLc)
    have hg1 := hg _ _ hLc
    obtain ⟨σ1, q1, q2, q3, q4⟩ := p_cm B g4 G W (d := p.length) (c := c) (by omega) hcn hg1 (fun hc => List.mem_cons_self ..)
    obtain ⟨n1, _, _⟩ := cm_nums A p.length c
    have W1 := cm_W G (d := p.length) (c := c) (by rw [g4.2]; omega) W (by rw [g4.1]; exact hcn) (fun hc => (NdU.mid (p := p) (by rw [← hp]; exact hN) (by rw [g4.1] at hc; exact hc)).2)
    obtain ⟨σ2, z1, z2, z3, z4, z5⟩ := p_cms hL hLn hN a4 r (p ++ [c]) f σ1 (cm A p.length c) (by rw [hp]; simp) (by simp at hfu; omega) q4 (g4.sm n1) (cm_G G _ _) W1 (fun d x hd => by rw [q3]; exact hg d x hd)
    have hpl : (p ++ [c]).length = p.length + 1 := by simp
    rw [hpl] at z1 z4 z5
    exact ⟨σ2, (q1 f a4).trans z1, q2.tr z2, z3.trans q3, z4, z5.trans (cm_30 A _ _)⟩
theorem p_runs {σ : Wd} {A : Ab} (B : RB σ A) (g4 : GxN A) (G : Gd A) (W : Gr A (fun _ => False)) (hv : Gvn A σ) : ∃ σ' s, f_L_runs σ = some (.inl s, σ') ∧ LSw σ σ' ∧ σ'.1 77 = σ.1 77 ∧ RB σ' (dyB A) ∧ (dyB A).1 30 2 0 = A.1 30 2 0 + s := by
  obtain ⟨hL, hLn⟩ := bestA_len A
  rw [g4.1] at hLn
  rw [g4.2] at hL
  have hN := best_nd A
  rw [g4.1] at hN
  have W0 : Gr A (fun u => u ∈ ([] : List Nat)) := ⟨fun x hx => ⟨(W.1 x hx).1, fun u hu => ⟨((W.1 x hx).2 u hu).1, ((W.1 x hx).2 u hu).2.1, fun z => by cases z⟩⟩, fun u hu => by
    obtain ⟨x, hx, y1, y2⟩ := W.2 u hu
    exact ⟨x, hx, y1, Or.inr (y2.resolve_left id)⟩⟩
  obtain ⟨σ1, s, a1, a2, a3, a4, a5⟩ := p_lvs hL hLn hN (bestA A) [] FU σ A (iN 0) rfl (by unfold FU; omega) B g4 W0 hv
  obtain ⟨hL', hLn'⟩ := bestA_len A
  obtain ⟨G1, W1, sm1⟩ := lvs_ok (n := nU A) (q := nD A) hL' hLn' (best_nd A) (bestA A) [] A rfl G W0 rfl rfl
  obtain ⟨σ2, b1, b2, b3, b4, b5⟩ := p_cms hL hLn hN (iN 0 + s) (bestA A) [] FU σ1 (lvs A 0 (bestA A)) rfl (by unfold FU; omega) a4 (g4.sm sm1) G1 W1 (fun d c hd => by rw [a3]; exact hv d c hd)
  refine ⟨σ2, s, ?_, a2.tr b2, b3.trans a3, b4, ?_⟩
  · have h0 : iN 0 + s = s := Int32.zero_add s
    have a1' : l_L_runs_6 FU σ (iN 0) (iN 0) = l_L_runs_122 FU σ1 (iN 0) (iN 0 + s) := a1
    have b1' : l_L_runs_122 FU σ1 (iN 0) (iN 0 + s) = some (.inl (iN 0 + s), σ2) := b1
    rw [h0] at b1' a1'
    unfold f_L_runs
    exact a1'.trans b1'
  · show (cms (lvs A 0 (bestA A)) 0 (bestA A)).1 30 2 0 = _
    rw [show (cms (lvs A 0 (bestA A)) 0 (bestA A)).1 30 = (lvs A 0 (bestA A)).1 30 from b5]
    exact a5
