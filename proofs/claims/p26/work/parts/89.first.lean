/-! from the first state to the last -/
def liW (σ : Wd) : Wd := wr (wr (wr (wr σ 76 0 (9 + 0) nO) 76 0 (9 + 1) nO) 76 0 (9 + 2) nO) 76 0 (9 + 3) nO
theorem liW_S (σ : Wd) : LSw σ (liW σ) := ((((LSw.rf σ).wr (by decide)).wr (by decide)).wr (by decide)).wr (by decide)
theorem liW_off (σ : Wd) {t : Nat} (ht : t ≠ 76) : (liW σ).1 t = σ.1 t := by
  funext i x
  unfold liW
  rw [wr_rd, if_neg (by omega), wr_rd, if_neg (by omega), wr_rd, if_neg (by omega), wr_rd, if_neg (by omega)]
theorem liW_76 (σ : Wd) (x : Nat) : (liW σ).1 76 0 x = if 9 ≤ x ∧ x < 13 then nO else σ.1 76 0 x := by
  unfold liW
  rw [wr_rd, wr_rd, wr_rd, wr_rd]
  by_cases h : 9 ≤ x ∧ x < 13
  · rw [if_pos h]
    by_cases h3 : x = 9 + 3
    · rw [if_pos ⟨rfl, rfl, h3⟩]
    · rw [if_neg (by omega)]
      by_cases h2 : x = 9 + 2
      · rw [if_pos ⟨rfl, rfl, h2⟩]
      · rw [if_neg (by omega)]
        by_cases h1 : x = 9 + 1
        · rw [if_pos ⟨rfl, rfl, h1⟩]
        · rw [if_neg (by omega), if_pos (by omega)]
  · rw [if_neg h, if_neg (by omega), if_neg (by omega), if_neg (by omega), if_neg (by omega)]
theorem i_575 (L : Nat) (xs : Nat → Int32) (σ : Wd) (a12 a11 a10 a9 : Int32) : l_L_law_575 L xs FU σ (iN 0) (iN 1) a12 a11 a10 a9 = l_L_law_600 L xs 100 (liW σ) (iN 7) (iN 1) a12 a11 a10 a9 := by
  obtain ⟨m, hm⟩ := FU_ge 5 (by decide)
  have step : ∀ k, k < 4 → ∀ (n : Nat) (τ : Wd), l_L_law_575 L xs (n + 1) τ (iN k) (iN 1) a12 a11 a10 a9 = l_L_law_575 L xs n (wr τ 76 0 (9 + k) nO) (iN (k + 1)) (iN 1) a12 a11 a10 a9 := fun k hk n τ => by
    have h4 : ¬ 4 ≤ k := by omega
    simp (disch := omega) only [gd_t, gd_T, bx_some, bx_thr, bd_def, nx_in, ↓nO_eq, l0, l1, l2, l3, l4, l5, l6, l7, l8, l9, l10, l12, l13, l16, l17, l18, l25, l30, l32, l33, l50, l64, l100, l200, l448, l1200, iN_add, iN_lt, iN_le, iN_inj, iN_clamp, iN_inb, iN_nO, nO_iN, nO_lt, iN_ltm, iN_lem, nO_le, iN_pred, if_pos, if_neg, ↓reduceIte, or_true, true_or, and_true, true_and, ne_eq, not_true_eq_false, not_false_eq_true, false_or, or_false, and_false, false_and, l_L_law_575, h4]
  rw [hm, show m + 5 = m + 4 + 1 from rfl, step 0 (by decide), show m + 4 = m + 3 + 1 from rfl, step 1 (by decide), show m + 3 = m + 2 + 1 from rfl, step 2 (by decide), show m + 2 = m + 1 + 1 from rfl, step 3 (by decide)]
  rw [l_L_law_575, if_pos (by decide)]
  rfl
theorem cnt_f : ∀ (k i : Nat), cntF (fun _ => false) i k = 0
  | 0, i => rfl
  | k + 1, i => by
    show (if false = true then 1 else 0) + cntF (fun _ => false) (i + 1) k = 0
    rw [cnt_f k (i + 1)]
    rfl
theorem cnt_no (A : Ab) (h : ∀ i k, A.1 55 i k = nO) (u d : Nat) (hu : u < 4) : cntF (ran1 A u d) 0 200 = 0 := by
  have e := cntF_congr (p := ran1 A u d) (q := fun _ => false) (k := 200) (i := 0) (fun j _ _ => by
    unfold ran1
    rw [h]
    refine decide_eq_false (fun hx => ?_)
    rw [nO_iN (by omega)] at hx
    exact hx)
  rw [e]
  exact cnt_f 200 0
theorem i_Kt {σ : Wd} {A : Ab} (S : S2 σ A 3) : Kt (liW σ) A 0 := by
  obtain ⟨C, G, W, ⟨n1, n2, n3⟩, U, R, D, va, vu, vd, e7, z6⟩ := S
  have h50 : ∀ k, A.1 50 k 0 = a0 50 k := fun k => va.1 50 (by decide) (by decide) k 0
  have h51 : ∀ k, A.1 51 k 0 = a0 51 k := fun k => va.1 51 (by decide) (by decide) k 0
  have h52 : ∀ k, A.1 52 k 0 = a0 52 k := fun k => va.1 52 (by decide) (by decide) k 0
  have h53 : ∀ k, A.1 53 k 0 = nO := fun k => va.1 53 (by decide) (by decide) k 0
  have h54 : ∀ k, A.1 54 k 0 = iN 0 := fun k => va.1 54 (by decide) (by decide) k 0
  have h55 : ∀ i k, A.1 55 i k = nO := fun i k => va.1 55 (by decide) (by decide) i k
  have hf : ∀ u, u < 4 → fl A u = [] := fun u hu => (vu u hu).1
  refine ⟨C.ls (liW_S σ), ⟨fun u hu => ?_, fun u hu j f hj => ?_, fun d hd => ?_, fun d hd => ?_, fun k hk => ?_, fun k hk => ?_⟩, G, W, ⟨⟨n1, n2⟩, by omega, fun u hu => ⟨fun k hk => ⟨0, Nat.zero_le _, (vu u hu).2.1 k⟩, fun a ha => ⟨900, by decide, by decide, (vu u hu).2.2.1 a⟩, ?_, fun f hf' => ?_⟩, ⟨fun k hk => ?_, fun k _ => Or.inl (h53 k)⟩, fun d hd => ⟨(vd d hd).1, Or.inl (vd d hd).2⟩, fun d _ t _ _ => h55 d t, fun u hu => ?_⟩, by decide⟩
  · rw [liW_off _ (by decide)]; exact U u hu
  · rw [hf u (by omega)] at hj; cases hj
  · rw [liW_off _ (by decide)]; exact R d hd
  · rw [liW_off _ (by decide)]; exact D d hd
  · rw [liW_76, if_neg (by omega), liW_76, if_neg (by omega), liW_76, if_neg (by omega), h50, h51, h52]
    exact e7 k hk
  · rw [liW_76, if_pos (by omega), liW_76, if_neg (by omega), h53, h54]
    exact ⟨rfl, z6 _ (by omega)⟩
  · obtain ⟨b, v4, v5, v6⟩ := (vu u hu).2.2.2
    exact ⟨b, by omega, v6⟩
  · rw [hf u hu] at hf'; cases hf'
  · rw [h50]
    have h3 : k = 0 ∨ k = 1 ∨ k = 2 := by omega
    rcases h3 with rfl | rfl | rfl
    · exact ⟨1000, by decide, rfl⟩
    · exact ⟨3000, by decide, rfl⟩
    · exact ⟨9000, by decide, rfl⟩
  · obtain ⟨b, v4, v5, v6⟩ := (vu u (by omega)).2.2.2
    have e := sumF_congr (p := kmD A u) (q := fun _ => iN 0) (k := 3) (i := 0) (fun j _ _ => by
      unfold kmD
      rw [cnt_no A h55 u j (by omega)]
      exact Int32.mul_zero)
    rw [e, v5, v6]
    show iN b = iN b + iN 0
    rw [iN_add]
    rfl
theorem f_first (L : Nat) (xs : Nat → Int32) (hL : L ≤ 260) {σ : Wd} {A : Ab} (S : S1 σ A 0) : f_law L xs σ = some () := by
  show l_L_law_65 L xs 8 σ (iN 0) (iN 1) (iN 0) (iN 0) (iN 0) (iN 0) = some ()
  obtain ⟨σ1, A1, p1, S⟩ := u_65 L xs hL S (by decide) 7 (iN 0) (iN 0) (iN 0) (iN 0)
  obtain ⟨σ2, A2, p2, S⟩ := u_65 L xs hL S (by decide) 6 (iN 0) (iN 0) (iN 0) (iN 0)
  obtain ⟨σ3, A3, p3, S⟩ := u_65 L xs hL S (by decide) 5 (iN 0) (iN 0) (iN 0) (iN 0)
  obtain ⟨σ4, A4, p4, S⟩ := u_65 L xs hL S (by decide) 4 (iN 0) (iN 0) (iN 0) (iN 0)
  have T : S2 σ4 A4 0 := by
    obtain ⟨C, G, W, ⟨n1, n2, n3⟩, U, R, va, vu, vr, z1, z6⟩ := S
    exact ⟨C, G, W, ⟨n1, n2, n3⟩, U, R, fun d hd => absurd hd (by omega), va, vu, fun d hd => absurd hd (Nat.not_lt_zero _), fun d hd => absurd hd (Nat.not_lt_zero _), z6⟩
  have p5 : l_L_law_65 L xs 4 σ4 (iN 4) (iN 1) (iN 0) (iN 0) (iN 0) (iN 0) = l_L_law_233 L xs 8 σ4 (iN 0) (iN 1) (iN 0) (iN 0) (iN 0) (iN 0) := by
    rw [l_L_law_65, if_pos (by decide)]
    rfl
  obtain ⟨σ5, A5, p6, T⟩ := d_233 L xs hL T (by decide) 7 (iN 0) (iN 0) (iN 0) (iN 0)
  obtain ⟨σ6, A6, p7, T⟩ := d_233 L xs hL T (by decide) 6 (iN 0) (iN 0) (iN 0) (iN 0)
  obtain ⟨σ7, A7, p8, T⟩ := d_233 L xs hL T (by decide) 5 (iN 0) (iN 0) (iN 0) (iN 0)
  have p9 : l_L_law_233 L xs 5 σ7 (iN 3) (iN 1) (iN 0) (iN 0) (iN 0) (iN 0) = l_L_law_575 L xs FU σ7 (iN 0) (iN 1) (iN 0) (iN 0) (iN 0) (iN 0) := by
    rw [l_L_law_233, if_pos (by decide)]
    rfl
  have K := i_Kt T
  have h0 : ∀ i, A7.1 30 i 0 = iN 0 := T.2.2.2.2.2.2.2.1.2
  have nt : nT A7 = 0 := T.2.2.2.1.2.2
  have r := t_run L xs hL 60 100 0 (liW σ7) A7 rfl (by decide) (by decide) K ⟨Or.inl (h0 3), Or.inl (h0 4)⟩
  rw [h0, h0, h0, nt] at r
  exact p1.trans (p2.trans (p3.trans (p4.trans (p5.trans (p6.trans (p7.trans (p8.trans (p9.trans ((i_575 L xs σ7 _ _ _ _).trans r)))))))))
