/-! one UNIT more -/
def rwA (A : Ab) (d : Nat) (l : List Nat) : Ab := (A.1, A.2.1, fun d' => if d' = d then l else A.2.2.1 d', A.2.2.2)
theorem k_come {σ : Wd} {A : Ab} (R : RCr σ A) {d u : Nat} (hd : d < 3) (h6 : (rw_ A d).length < 6) : f_X6_come σ d (iN u) = some (.inl (), wr (wr σ 6 d (rw_ A d).length (iN u)) 5 d 1 (iN ((rw_ A d).length + 1))) := by
  obtain ⟨r1, r2⟩ := R d hd
  simp (disch := omega) only [gd_t, gd_T, bx_some, bx_thr, bd_def, nx_in, ↓nO_eq, l0, l1, l2, l3, l4, l5, l6, l7, l8, l30, l50, l64, l100, l200, l448, l1200, iN_add, iN_lt, iN_le, iN_inj, iN_clamp, iN_inb, iN_nO, nO_iN, nO_lt, iN_ltm, iN_lem, nO_le, iN_pred, if_pos, if_neg, ↓reduceIte, or_true, true_or, and_true, true_and, ne_eq, not_true_eq_false, not_false_eq_true, false_or, or_false, and_false, false_and, f_X6_come, r1, wr_rd]
theorem come_R {σ : Wd} {A : Ab} (R : RCr σ A) {d u : Nat} (hd : d < 3) : RCr (wr (wr σ 6 d (rw_ A d).length (iN u)) 5 d 1 (iN ((rw_ A d).length + 1))) (rwA A d (rw_ A d ++ [u])) := by
  intro e he
  obtain ⟨r1, r2⟩ := R e he
  have hr : rw_ (rwA A d (rw_ A d ++ [u])) e = if e = d then rw_ A d ++ [u] else rw_ A e := rfl
  by_cases h : e = d
  · subst h
    rw [hr, if_pos rfl]
    refine ⟨?_, fun j x hx => ?_⟩
    · rw [List.length_append, wr_same]; rfl
    · rw [wr_rd, if_neg (fun z => by cases z.1), wr_rd]
      by_cases hj : j = (rw_ A e).length
      · rw [if_pos ⟨rfl, rfl, hj⟩]
        rw [hj, List.getElem?_append_right (Nat.le_refl _), Nat.sub_self] at hx
        cases hx
        rfl
      · rw [if_neg (fun z => hj z.2.2)]
        have hj2 : j < (rw_ A e).length := by
          have := (List.getElem?_eq_some_iff.mp hx).1
          rw [List.length_append] at this
          simp at this
          omega
        rw [List.getElem?_append_left hj2] at hx
        exact r2 j x hx
  · rw [hr, if_neg h]
    refine ⟨?_, fun j x hx => ?_⟩
    · rw [wr_rd, if_neg (fun z => h z.2.1), wr_rd, if_neg (fun z => by cases z.1)]
      exact r1
    · rw [wr_rd, if_neg (fun z => by cases z.1), wr_rd, if_neg (fun z => h z.2.1)]
      exact r2 j x hx
def unA (A : Ab) (d : Nat) (km : Int32) : Ab := (fun t i k => if i = nU A ∧ t = 31 ∧ k = 0 then iN d else if i = nU A ∧ (t = 32 ∨ t = 33) ∧ k = 0 then km else if i = nU A ∧ (t = 35 ∨ t = 36) then 0 else if i = nU A ∧ t = 34 then 900 else A.1 t i k, fun u => if u = nU A then [] else A.2.1 u, fun e => if e = d then rw_ A d ++ [nU A] else A.2.2.1 e, fun x => if x = 0 then nU A + 1 else A.2.2.2 x)
theorem unA_rd (A : Ab) (d : Nat) (km : Int32) (t i k : Nat) : (unA A d km).1 t i k = if i = nU A ∧ t = 31 ∧ k = 0 then iN d else if i = nU A ∧ (t = 32 ∨ t = 33) ∧ k = 0 then km else if i = nU A ∧ (t = 35 ∨ t = 36) then 0 else if i = nU A ∧ t = 34 then 900 else A.1 t i k := id rfl
theorem nuU_rd (σ : Wd) (p0 p1 : Int32) (t i k : Nat) : (nuU σ p0 p1).1 t i k = if t = 21 ∧ i = σ.2.2 8 then (if k = 2 then p0 else p1) else if (t = 1 ∧ i = σ.2.2 8 + 2) ∨ ((t = 22 ∨ t = 23) ∧ i = σ.2.2 8) then 0 else if t = 24 ∧ i = σ.2.2 8 then 900 else σ.1 t i k := id rfl
theorem nuU_q (σ : Wd) (p0 p1 : Int32) (x : Nat) : (nuU σ p0 p1).2.2 x = if x = 8 then σ.2.2 8 + 1 else if x = 22 + σ.2.2 8 then 0 else σ.2.2 x := id rfl
def uW (σ : Wd) (p0 p1 : Int32) : Wd := wadd (nuU σ p0 p1) 0 (σ.2.2 8)
theorem uW_rd (σ : Wd) (p0 p1 : Int32) (t i k : Nat) (h : ¬ (t = 1 ∧ i = 0)) : (uW σ p0 p1).1 t i k = if t = 21 ∧ i = σ.2.2 8 then (if k = 2 then p0 else p1) else if (t = 1 ∧ i = σ.2.2 8 + 2) ∨ ((t = 22 ∨ t = 23) ∧ i = σ.2.2 8) then 0 else if t = 24 ∧ i = σ.2.2 8 then 900 else σ.1 t i k := by
  unfold uW
  rw [wadd_mem h]
  rfl
theorem uW_off (σ : Wd) (p0 p1 : Int32) {t : Nat} (h1 : t ≠ 1) (h2 : ¬ (21 ≤ t ∧ t ≤ 24)) : (uW σ p0 p1).1 t = σ.1 t := by
  funext i k
  rw [uW_rd _ _ _ _ _ _ (fun z => h1 z.1), if_neg (by omega), if_neg (by omega), if_neg (by omega)]
theorem un_C {σ : Wd} {A : Ab} (C : RC σ A) (hq : nU A < 6) {d : Nat} (hd : d < 3) (h6 : (rw_ A d).length < 6) (km : Int32) : RC (wr (wr (uW σ (iN d) km) 6 d (rw_ A d).length (iN (nU A))) 5 d 1 (iN ((rw_ A d).length + 1))) (unA A d km) := by
  obtain ⟨⟨e8, e9, s0, s1, c0, c1, f0, f1⟩, F, U, D, E, R1, S, L⟩ := C
  have two : ∀ i j, (uW σ (iN d) km).2.1 i j = if i = 0 then (if j = nU A then nU A + 1 else if σ.2.2 20 = 0 then 0 else σ.2.1 0 j) else σ.2.1 i j := fun i j => by
    show (if i = 0 then (if j = ((nuU σ (iN d) km).1 1 0 2).toNatClampNeg then σ.2.2 8 + 1 else if (nuU σ (iN d) km).2.2 20 = 0 then 0 else σ.2.1 0 j) else σ.2.1 i j) = _
    have q : (nuU σ (iN d) km).1 1 0 2 = iN (nU A) := by
      rw [nuU_rd, if_neg (by omega), if_neg (by omega), if_neg (by omega), s0]
    have q2 : (nuU σ (iN d) km).2.2 20 = σ.2.2 20 := by
      rw [nuU_q, if_neg (by omega), if_neg (by omega)]
    rw [q, iN_clamp (by omega), e8, q2]
  have thr : ∀ x, (uW σ (iN d) km).2.2 x = if x = 20 then 1 else if x = 8 then nU A + 1 else if x = 22 + nU A then 0 else σ.2.2 x := fun x => by
    show (if x = 20 then 1 else if x = 8 then σ.2.2 8 + 1 else if x = 22 + σ.2.2 8 then 0 else σ.2.2 x) = _
    rw [e8]
  have rd1 : ∀ (ρ : Wd) (a b : Nat) (x y : Int32) (t : Nat), t ≠ 5 → t ≠ 6 → (wr (wr ρ 6 d a x) 5 d b y).1 t = ρ.1 t := fun ρ a b x y t h1 h2 => by
    funext i k
    rw [wr_rd, if_neg (fun z => h1 z.1), wr_rd, if_neg (fun z => h2 z.1)]
  have go : ∀ t, t ≠ 1 → ¬ (21 ≤ t ∧ t ≤ 24) → t ≠ 5 → t ≠ 6 → (wr (wr (uW σ (iN d) km) 6 d (rw_ A d).length (iN (nU A))) 5 d 1 (iN ((rw_ A d).length + 1))).1 t = σ.1 t := fun t h1 h2 h3 h4 => by
    rw [rd1 _ _ _ _ _ t h3 h4, uW_off _ _ _ h1 h2]
  have sz : (uW σ (iN d) km).1 1 0 2 = iN (nU A + 1) := by
    show (nuU σ (iN d) km).1 1 0 2 + 1 = _
    have q : (nuU σ (iN d) km).1 1 0 2 = iN (nU A) := by
      rw [nuU_rd, if_neg (by omega), if_neg (by omega), if_neg (by omega), s0]
    rw [q]; exact iN_add _ 1
  refine ⟨⟨?_, ?_, ?_, ?_, fun j hj => ?_, fun j hj => ?_, fun _ => ?_, fun hne => ?_⟩, ⟨fun u hu => ?_, fun i hi2 hi8 j hj => ?_⟩, fun u hu => ?_, ?_, ?_, ?_, ?_, ?_⟩
  · rw [wr_two, wr_two, thr]; rfl
  · rw [wr_two, wr_two, thr, if_neg (by decide), if_neg (by decide), if_neg (by omega)]; exact e9
  · rw [rd1 _ _ _ _ _ 1 (by decide) (by decide), sz]; rfl
  · rw [rd1 _ _ _ _ _ 1 (by decide) (by decide), uW_rd _ _ _ _ _ _ (by decide), if_neg (by omega), if_neg (by omega), if_neg (by omega)]; exact s1
  · rw [wr_two, wr_two, two, if_pos rfl]
    show _ = if j < nU A + 1 then j + 1 else 0
    by_cases h : j = nU A
    · rw [if_pos h, if_pos (by omega), h]
    · rw [if_neg h]
      by_cases h2 : σ.2.2 20 = 0
      · rw [if_pos h2]
        have : nU A = 0 := by
          by_cases h3 : nU A = 0
          · exact h3
          · exact absurd h2 (f0 h3)
        rw [if_neg (by omega)]
      · rw [if_neg h2, c0 j hj]
        by_cases h3 : j < nU A
        · rw [if_pos h3, if_pos (by omega)]
        · rw [if_neg h3, if_neg (by omega)]
  · rw [wr_two, wr_two, two]; exact c1 j hj
  · rw [wr_two, wr_two, thr, if_pos rfl]; decide
  · rw [wr_two, wr_two, thr, if_neg (by decide), if_neg (by decide), if_neg (by omega)]; exact f1 hne
  · have hu : u < nU A + 1 := hu
    have hfl : fl (unA A d km) u = if u = nU A then [] else fl A u := rfl
    rw [rd1 _ _ _ _ _ 1 (by decide) (by decide), uW_rd _ _ _ _ _ _ (by omega), if_neg (by omega), wr_two, wr_two, thr, hfl]
    by_cases h : u = nU A
    · rw [if_pos h, if_pos (Or.inl ⟨rfl, by omega⟩)]
      exact ⟨rfl, fun z => absurd rfl z, fun j f hf => by simp at hf⟩
    · obtain ⟨q1, q2, q3⟩ := F.1 u (by omega)
      rw [if_neg h, if_neg (by omega), if_neg (by omega), if_neg (by omega), if_neg (by omega), if_neg (by omega)]
      refine ⟨q1, q2, fun j f hf => ?_⟩
      rw [two, if_neg (by omega), thr, if_neg (by decide), if_neg (by decide), if_neg (by omega)]
      unfold rdF
      rw [go 26 (by decide) (by decide) (by decide) (by decide)]
      exact q3 j f hf
  · rw [wr_two, wr_two, two, if_neg (by omega), thr, if_neg (by decide), if_neg (by decide), if_neg (by omega)]
    exact F.2 i hi2 hi8 j hj
  · have hu : u < nU A + 1 := hu
    rw [rd1 _ _ _ _ _ 21 (by decide) (by decide), rd1 _ _ _ _ _ 22 (by decide) (by decide), rd1 _ _ _ _ _ 23 (by decide) (by decide), rd1 _ _ _ _ _ 24 (by decide) (by decide)]
    by_cases h : u = nU A
    · subst h
      refine ⟨?_, ?_, ?_, fun k hk => ?_, fun k hk => ?_, fun k hk => ?_⟩ <;> rw [uW_rd _ _ _ _ _ _ (by omega), unA_rd, e8] <;> simp
    · have := U u (by omega)
      refine ⟨?_, ?_, ?_, fun k hk => ?_, fun k hk => ?_, fun k hk => ?_⟩ <;> rw [uW_rd _ _ _ _ _ _ (by omega), unA_rd, e8, if_neg (by omega), if_neg (by omega), if_neg (by omega), if_neg (fun z => h z.1), if_neg (fun z => h z.1), if_neg (fun z => h z.1), if_neg (fun z => h z.1)]
      · exact this.1
      · exact this.2.1
      · exact this.2.2.1
      · exact this.2.2.2.1 k hk
      · exact this.2.2.2.2.1 k hk
      · exact this.2.2.2.2.2 k hk
  · refine RCd.fr (σ := σ) (A := unA A d km) (fun k hk => ?_) (go 25 (by decide) (by decide) (by decide) (by decide))
    have := D k hk
    simp only [unA_rd]
    simp
    exact this
  · refine RCe.fr (σ := σ) (A := unA A d km) ⟨fun k hk => ?_, fun k hk => ?_⟩ (go 9 (by decide) (by decide) (by decide) (by decide)) (go 11 (by decide) (by decide) (by decide) (by decide))
    · have := E.1 k hk
      simp only [unA_rd]
      simp
      exact this
    · have := E.2 k hk
      simp only [unA_rd]
      simp
      exact this
  · exact come_R (RCr.fr R1 (uW_off _ _ _ (by decide) (by decide)) (uW_off _ _ _ (by decide) (by decide))) hd
  · refine RCs.fr (σ := σ) (A := unA A d km) ?_ (go 0 (by decide) (by decide) (by decide) (by decide))
    obtain ⟨z1, z2, z3, z4⟩ := S
    refine ⟨z1, ?_, ?_, ?_⟩ <;> simp only [unA_rd] <;> simp <;> assumption
  · refine RCg.fr (σ := σ) (A := unA A d km) (fun k hk t ht => ?_) (go 20 (by decide) (by decide) (by decide) (by decide))
    have := L k hk t ht
    simp only [unA_rd]
    simp
    exact this
