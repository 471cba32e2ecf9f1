/-! the reference's runs -/
/-! one comes -/
def cm (A : Ab) (d c : Nat) : Ab := if c = nU A then A else rwA (grA (aw A 31 c 0 (A.1 45 d 0)) c (A.1 46 d 0)) (A.1 45 d 0).toNatClampNeg (rw_ A (A.1 45 d 0).toNatClampNeg ++ [c])
theorem Gr.less {A : Ab} {aw : Nat → Prop} (W : Gr A aw) (g6 : nU A ≤ 6) {c e : Nat} (hc : c < nU A) (he : e < 3) (ha : aw c) : (rw_ A e).length < 6 ∧ ¬ c ∈ rw_ A e := by
  obtain ⟨w1, w2⟩ := W.1 e he
  have hn : ¬ c ∈ rw_ A e := fun z => (w2 c z).2.2 ha
  refine ⟨?_, hn⟩
  have hd : (c :: rw_ A e).Nodup := List.nodup_cons.mpr ⟨hn, w1⟩
  have := nodup_le (nU A) (c :: rw_ A e) hd (fun x hx => by
    rcases List.mem_cons.mp hx with rfl | hx
    · exact hc
    · exact (w2 x hx).1)
  simp at this
  omega
theorem k_cm {σ : Wd} {A : Ab} (C : RC σ A) (G : Gd A) {aw : Nat → Prop} (W : Gr A aw) {d c : Nat} (hd : d < nD A) (hc : c ≤ nU A) (hat : f_X3_at_16 σ (iN d) nO = some (.inl (chv (nU A) c), σ)) (hin : c < nU A → aw c) : ∃ σ', (∀ n, l_X9_comeToDepots_2 (n + 1) σ (iN d) = l_X9_comeToDepots_2 n σ' (iN (d + 1))) ∧ CS σ σ' ∧ (∀ t, 12 ≤ t ∧ t ≤ 18 → σ'.1 t = σ.1 t) ∧ RC σ' (cm A d c) := by
  have g6 := G.1
  have g7 := G.2.1
  have hs1 := c_sz1 C.1
  by_cases hcu : c = nU A
  · have ec : chv (nU A) c = nO := if_pos hcu
    rw [ec] at hat
    refine ⟨σ, fun n => ?_, CS.rf σ, fun _ _ => rfl, ?_⟩
    · simp (disch := omega) only [gd_t, gd_T, bx_some, bx_thr, bd_def, nx_in, ↓nO_eq, l0, l1, l2, l3, l4, l5, l6, l7, l8, l30, l50, l64, l100, l200, l448, l1200, iN_add, iN_lt, iN_le, iN_inj, iN_clamp, iN_inb, iN_nO, nO_iN, nO_lt, iN_ltm, iN_lem, nO_le, iN_pred, if_pos, if_neg, ↓reduceIte, or_true, true_or, and_true, true_and, ne_eq, not_true_eq_false, not_false_eq_true, false_or, or_false, and_false, false_and, l_X9_comeToDepots_2, hs1, f_X3_givenTo, hat]
    · unfold cm
      rw [if_pos hcu]
      exact C
  · have ec : chv (nU A) c = iN c := if_neg hcu
    have hcn : c < nU A := by omega
    rw [ec] at hat
    obtain ⟨e, he, he2⟩ := (G.2.2.2.2.1 d hd).1
    have hee : (A.1 45 d 0).toNatClampNeg = e := by rw [he2]; exact iN_clamp (by omega)
    obtain ⟨h6, hni⟩ := W.less g6 hcn he (hin hcn)
    obtain ⟨d0, d1, d2, _⟩ := C.2.2.2.1 d hd
    have hdi := c_diagramAt C.1 g7 hd
    have hui := c_unitAt C.1 g6 hcn
    have e8 := C.1.1
    have e9 := C.1.2.1
    have C1 : RC (wr σ 21 c 2 (A.1 45 d 0)) (Jvm.Pilot.CStablingroadLaw_law_r4569_fa4025.aw A 31 c 0 (A.1 45 d 0)) := by
      obtain ⟨H, F, U, D, E, R1, S, L⟩ := C
      refine ⟨H, F, fun v hv => ?_, D, E, R1, S, L⟩
      obtain ⟨u1, u2, u3, u4, u5, u6⟩ := U v hv
      refine ⟨(by rw [wr_rd, if_neg (by omega)]; exact u1), ?_, (by rw [wr_rd, if_neg (by omega)]; exact u3), u4, u5, u6⟩
      rw [wr_rd, aw_rd]
      by_cases h : v = c
      · rw [if_pos ⟨rfl, h, rfl⟩, if_pos ⟨rfl, h, rfl⟩]
      · rw [if_neg (fun z => h z.2.1), if_neg (fun z => h z.2.1)]; exact u2
    have d1' : (wr σ 21 c 2 (A.1 45 d 0)).1 25 d 2 = A.1 46 d 0 := d2
    obtain ⟨σ1, q1, q2, q3⟩ := grow_C C1 (u := c) hcn (A.1 46 d 0)
    have h25 : σ1.1 25 d 1 = iN e := by
      rw [q2 25 (by decide)]
      exact d1.trans he2
    have hro := c_rowAt (σ := σ1) he
    have hco := k_come q3.2.2.2.2.2.1 (d := e) (u := c) he h6
    have hrw : rw_ (grA (Jvm.Pilot.CStablingroadLaw_law_r4569_fa4025.aw A 31 c 0 (A.1 45 d 0)) c (A.1 46 d 0)) = rw_ A := rfl
    rw [hrw] at hco
    have h8 : c < σ1.2.2 8 := by rw [q3.1.1]; exact hcn
    have h9 : d < σ1.2.2 9 := by rw [q3.1.2.1]; exact hd
    refine ⟨wr (wr σ1 6 e (rw_ A e).length (iN c)) 5 e 1 (iN ((rw_ A e).length + 1)), fun n => ?_, fun t ht => ?_, fun t ht => ?_, ?_⟩
    · simp (disch := omega) only [gd_t, gd_T, bx_some, bx_thr, bd_def, nx_in, ↓nO_eq, l0, l1, l2, l3, l4, l5, l6, l7, l8, l30, l50, l64, l100, l200, l448, l1200, iN_add, iN_lt, iN_le, iN_inj, iN_clamp, iN_inb, iN_nO, nO_iN, nO_lt, iN_ltm, iN_lem, nO_le, iN_pred, if_pos, if_neg, ↓reduceIte, or_true, true_or, and_true, true_and, ne_eq, not_true_eq_false, not_false_eq_true, false_or, or_false, and_false, false_and, l_X9_comeToDepots_2, hs1, f_X3_givenTo, hat, hdi, hui, d1, d1', q1, h25, hro, hco, wr_two]
    · funext i k
      rw [wr_rd, if_neg (by omega), wr_rd, if_neg (by omega), q2 t (by omega), wr_rd, if_neg (by omega)]
    · funext i k
      rw [wr_rd, if_neg (by omega), wr_rd, if_neg (by omega), q2 t (by omega), wr_rd, if_neg (by omega)]
    · unfold cm
      rw [if_neg hcu, hee]
      have hr2 := come_R q3.2.2.2.2.2.1 (d := e) (u := c) he
      rw [hrw] at hr2
      obtain ⟨H, F, U, D, E, R1, S, L⟩ := q3
      exact ⟨H, F, U, D, E, hr2, S, L⟩
