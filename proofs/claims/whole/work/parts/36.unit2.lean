def ax4 (σ : Wd) (n : Nat) (v : Int32) : Wd := wr (wr (wr (wr σ 34 0 (4 * n) v) 34 0 (4 * n + 1) v) 34 0 (4 * n + 2) v) 34 0 (4 * n + 3) v
theorem ax4_rd (σ : Wd) (n : Nat) (v : Int32) (t i x : Nat) : (ax4 σ n v).1 t i x = if t = 34 ∧ i = 0 ∧ 4 * n ≤ x ∧ x < 4 * n + 4 then v else σ.1 t i x := by
  unfold ax4
  simp only [wr_rd]
  repeat' split
  all_goals first | rfl | omega
theorem ax4_S {ρ σ : Wd} (h : RS ρ σ) (n : Nat) (v : Int32) : RS ρ (ax4 σ n v) := (((h.wr (by decide)).wr (by decide)).wr (by decide)).wr (by decide)
def uM0 (σ : Wd) (n : Nat) (km : Int32) : Wd := ax4 (wr (wr (wr σ 30 0 0 0) 33 0 n km) 32 0 n km) n 900
def uM (σ : Wd) (n d L : Nat) (km : Int32) : Wd := wr (wr (wr (wr (uM0 σ n km) 31 0 n (iN d)) 37 0 (6 * d + L) (iN n)) 38 0 d (iN (L + 1))) 30 0 5 (iN (n + 1))
theorem uM_S (σ : Wd) (n d L : Nat) (km : Int32) : RS σ (uM σ n d L km) :=
  ((((ax4_S ((((RS.rf σ).wr (by decide)).wr (by decide)).wr (by decide)) n 900).wr (by decide)).wr (by decide)).wr (by decide)).wr (by decide)
theorem uM_off (σ : Wd) (n d L : Nat) (km : Int32) {t : Nat} (h : t ≠ 30 ∧ t ≠ 31 ∧ t ≠ 32 ∧ t ≠ 33 ∧ t ≠ 34 ∧ t ≠ 37 ∧ t ≠ 38) : (uM σ n d L km).1 t = σ.1 t := by
  funext i k
  unfold uM uM0
  rw [wr_rd, if_neg (by omega), wr_rd, if_neg (by omega), wr_rd, if_neg (by omega), wr_rd, if_neg (by omega), ax4_rd, if_neg (by omega), wr_rd, if_neg (by omega), wr_rd, if_neg (by omega), wr_rd, if_neg (by omega)]
theorem uM_30 (σ : Wd) (n d L : Nat) (km : Int32) (k : Nat) : (uM σ n d L km).1 30 0 k = if k = 5 then iN (n + 1) else if k = 0 then 0 else σ.1 30 0 k := by
  unfold uM uM0
  rw [wr_rd]
  by_cases h : k = 5
  · rw [if_pos ⟨rfl, rfl, h⟩, if_pos h]
  · rw [if_neg (by omega), if_neg h, wr_rd, if_neg (by omega), wr_rd, if_neg (by omega), wr_rd, if_neg (by omega), ax4_rd, if_neg (by omega), wr_rd, if_neg (by omega), wr_rd, if_neg (by omega), wr_rd]
    by_cases h0 : k = 0
    · rw [if_pos ⟨rfl, rfl, h0⟩, if_pos h0]
    · rw [if_neg (by omega), if_neg h0]
theorem uM_u (σ : Wd) (n d L : Nat) (km : Int32) (t x : Nat) (ht : t = 31 ∨ t = 32 ∨ t = 33 ∨ t = 34) : (uM σ n d L km).1 t 0 x = if t = 31 then (if x = n then iN d else σ.1 31 0 x) else if t = 34 then (if 4 * n ≤ x ∧ x < 4 * n + 4 then 900 else σ.1 34 0 x) else if x = n then km else σ.1 t 0 x := by
  unfold uM uM0
  simp only [wr_rd, ax4_rd]
  rcases ht with rfl | rfl | rfl | rfl
  · simp
  · simp
  · simp
  · simp
theorem un_R {σ : Wd} {A : Ab} (T : RR σ A) (hq : nU A < 6) {d : Nat} (hd : d < 3) (h6 : (rw_ A d).length < 6) (hA : ∀ e, e < 3 → (rw_ A e).length ≤ 6) (km : Int32) : RR (uM σ (nU A) d (rw_ A d).length km) (unA A d km) := by
  obtain ⟨⟨l1, l2, l3, l4, l5, l6⟩, F, U, D, E, R1, L, Z⟩ := T
  obtain ⟨z0, z1⟩ := Z (nU A) (Nat.le_refl _) hq
  have off : ∀ {t : Nat}, (t ≠ 30 ∧ t ≠ 31 ∧ t ≠ 32 ∧ t ≠ 33 ∧ t ≠ 34 ∧ t ≠ 37 ∧ t ≠ 38) → (uM σ (nU A) d (rw_ A d).length km).1 t = σ.1 t := fun h => uM_off _ _ _ _ _ h
  have uu : ∀ (t x : Nat), (t = 31 ∨ t = 32 ∨ t = 33 ∨ t = 34) → _ := fun t x h => uM_u σ (nU A) d (rw_ A d).length km t x h
  refine ⟨⟨?_, ?_, ?_, ?_, ?_, ?_⟩, fun u hu => ?_, fun u hu => ?_, ?_, ?_, ?_, ?_, fun v hv hv6 => ?_⟩
  · rw [uM_30, if_pos rfl]; rfl
  · rw [uM_30]; exact l2
  · rw [uM_30]; exact l3
  · rw [uM_30, unA_rd]; simp; exact l4
  · rw [uM_30, unA_rd]; simp; exact l5
  · rw [uM_30, unA_rd]; simp; exact l6
  · have hu : u < nU A + 1 := hu
    have hfl : fl (unA A d km) u = if u = nU A then [] else fl A u := rfl
    rw [off (by decide), off (by decide), off (by decide), off (by decide), off (by decide), hfl]
    by_cases h : u = nU A
    · rw [if_pos h, h]
      exact ⟨z0, fun j f hf => by simp at hf⟩
    · rw [if_neg h]
      exact F u (by omega)
  · have hu : u < nU A + 1 := hu
    rw [off (t := 35) (by decide), off (t := 36) (by decide)]
    by_cases h : u = nU A
    · subst h
      refine ⟨?_, ?_, ?_, fun k hk => ?_, fun k hk => ?_, fun k hk => ?_⟩
      · rw [uu _ _ (by decide), unA_rd]; simp
      · rw [uu _ _ (by decide), unA_rd]; simp
      · rw [uu _ _ (by decide), unA_rd]; simp
      · rw [unA_rd, (z1 k hk).1]; simp
      · rw [unA_rd, (z1 k hk).2]; simp
      · rw [uu _ _ (by decide), unA_rd]
        simp
        intro h
        omega
    · have := U u (by omega)
      refine ⟨?_, ?_, ?_, fun k hk => ?_, fun k hk => ?_, fun k hk => ?_⟩
      · rw [uu _ _ (by decide), unA_rd]; simp [h]; exact this.1
      · rw [uu _ _ (by decide), unA_rd]; simp [h]; exact this.2.1
      · rw [uu _ _ (by decide), unA_rd]; simp [h]; exact this.2.2.1
      · rw [unA_rd]; simp [h]; exact this.2.2.2.1 k hk
      · rw [unA_rd]; simp [h]; exact this.2.2.2.2.1 k hk
      · rw [uu _ _ (by decide), unA_rd, if_neg (by decide), if_pos rfl, if_neg (by omega)]; simp [h]; exact this.2.2.2.2.2 k hk
  · refine RRd.fr (σ := σ) (A := unA A d km) (fun k hk => ?_) (fun t a b => off (by omega))
    have := D k hk
    simp only [unA_rd]
    simp
    exact this
  · refine RRe.fr (σ := σ) (A := unA A d km) ⟨fun k hk => ?_, fun k hk => ?_⟩ (fun t a b => off (by omega))
    · have := E.1 k hk
      simp only [unA_rd]
      simp
      exact this
    · have := E.2 k hk
      simp only [unA_rd]
      simp
      exact this
  · have h0 : RRr (uM0 σ (nU A) km) A := RRr.fr R1 (by
      funext i k
      unfold uM0
      rw [ax4_rd, if_neg (by omega), wr_rd, if_neg (by omega), wr_rd, if_neg (by omega), wr_rd, if_neg (by omega)]) (by
      funext i k
      unfold uM0
      rw [ax4_rd, if_neg (by omega), wr_rd, if_neg (by omega), wr_rd, if_neg (by omega), wr_rd, if_neg (by omega)])
    exact mcome_R h0 (u := nU A) hd h6 hA
  · refine RRg.fr (σ := σ) (A := unA A d km) (fun k hk t ht => ?_) (off (by decide))
    have := L k hk t ht
    simp only [unA_rd]
    simp
    exact this
  · have hv : nU A + 1 ≤ v := hv
    rw [off (t := 39) (by decide), off (t := 35) (by decide), off (t := 36) (by decide)]
    exact Z v (by omega) hv6
theorem m_unit1 {ρ : Wd} {n d k m : Nat} {x : Int32} (hn : n < 6) (hρ : ρ.1 30 0 5 = iN n) (hk : k < 4) : l_X10_unit_76 (m + 1) ρ (iN k) (iN d) x = l_X10_unit_76 m (wr ρ 34 0 (4 * n + k) 900) (iN (k + 1)) (iN d) x := by
  simp (disch := omega) only [gd_t, gd_T, bx_some, bx_thr, bd_def, nx_in, ↓nO_eq, l0, l1, l2, l3, l4, l5, l6, l7, l8, l30, l50, l64, l100, l200, l448, l1200, iN_add, iN_lt, iN_le, iN_inj, iN_clamp, iN_inb, iN_nO, nO_iN, nO_lt, iN_ltm, iN_lem, nO_le, iN_pred, if_pos, if_neg, ↓reduceIte, or_true, true_or, and_true, true_and, ne_eq, not_true_eq_false, not_false_eq_true, false_or, or_false, and_false, false_and, l_X10_unit_76, hρ, iN_mul]
theorem m_unit4 {ρ : Wd} {n d m : Nat} {x : Int32} (hρ : ρ.1 30 0 5 = iN n) : l_X10_unit_76 (m + 1) ρ (iN 4) (iN d) x = bx (f_X10_comes ρ (iN n) (iN d)) fun v6 σ7 => bd (wr σ7 30 0 5 ((σ7.1 30 0 5) + iN 1)) fun σ8 => some (.inl ((σ8.1 30 0 5) - iN 1), σ8) := by
  simp (disch := omega) only [gd_t, gd_T, bx_some, bx_thr, bd_def, nx_in, ↓nO_eq, l0, l1, l2, l3, l4, l5, l6, l7, l8, l30, l50, l64, l100, l200, l448, l1200, iN_add, iN_lt, iN_le, iN_inj, iN_clamp, iN_inb, iN_nO, nO_iN, nO_lt, iN_ltm, iN_lem, nO_le, iN_pred, if_pos, if_neg, ↓reduceIte, or_true, true_or, and_true, true_and, ne_eq, not_true_eq_false, not_false_eq_true, false_or, or_false, and_false, false_and, l_X10_unit_76, hρ]
theorem m_unitL {ρ : Wd} {n d L : Nat} {x : Int32} (hn : n < 6) (hd : d < 3) (hL : L < 6) (hρ : ρ.1 30 0 5 = iN n) (hl : ρ.1 38 0 d = iN L) : l_X10_unit_76 FU ρ (iN 0) (iN d) x = some (.inl (iN n), wr (wr (wr (wr (ax4 ρ n 900) 31 0 n (iN d)) 37 0 (6 * d + L) (iN n)) 38 0 d (iN (L + 1))) 30 0 5 (iN (n + 1))) := by
  obtain ⟨m, hm⟩ := FU_ge 5 (by decide)
  rw [hm]
  have w34 : ∀ (σ : Wd) (y : Nat) (v : Int32), (wr σ 34 0 y v).1 30 0 5 = σ.1 30 0 5 := fun _ _ _ => rfl
  rw [m_unit1 (m := m + 4) hn hρ (by decide), m_unit1 (m := m + 3) hn (by rw [w34]; exact hρ) (by decide), m_unit1 (m := m + 2) hn (by rw [w34, w34]; exact hρ) (by decide), m_unit1 (m := m + 1) hn (by rw [w34, w34, w34]; exact hρ) (by decide)]
  rw [show wr (wr (wr (wr ρ 34 0 (4 * n + 0) 900) 34 0 (4 * n + (0 + 1)) 900) 34 0 (4 * n + (0 + 1 + 1)) 900) 34 0 (4 * n + (0 + 1 + 1 + 1)) 900 = ax4 ρ n 900 from rfl, show (0 + 1 + 1 + 1 + 1 : Nat) = 4 from rfl]
  have q5 : (ax4 ρ n 900).1 30 0 5 = iN n := by rw [ax4_rd, if_neg (by omega)]; exact hρ
  have q38 : (ax4 ρ n 900).1 38 0 d = iN L := by rw [ax4_rd, if_neg (by omega)]; exact hl
  rw [m_unit4 q5, m_comes hd hn hL q38, bx_some, bd_def, wr_same]
  have e5 : (wr (wr (wr (ax4 ρ n 900) 31 0 n (iN d)) 37 0 (6 * d + L) (iN n)) 38 0 d (iN (L + 1))).1 30 0 5 = iN n := by
    rw [wr_rd, if_neg (by omega), wr_rd, if_neg (by omega), wr_rd, if_neg (by omega)]
    exact q5
  rw [e5, iN_add, iN_sub (by omega), Nat.add_sub_cancel]
theorem m_unit {τ : Wd} {A : Ab} (T : RR τ A) (hq : nU A < 6) {d : Nat} (hd : d < 3) (h6 : (rw_ A d).length < 6) {km : Int32} (hk : ¬ km < 0 ∧ km ≤ 1000000) : f_X10_unit τ (iN d) km = some (.inl (iN (nU A)), uM τ (nU A) d (rw_ A d).length km) := by
  have tq := T.1.1
  have tl := (T.2.2.2.2.2.1 d hd).1
  have n10 : ¬ iN 1 = 0 := by decide
  have hr : f_X10_between τ km 0 1000000 = some (.inl (iN 1), τ) := bt_in hk.1 hk.2
  have t1 : inb (iN (nU A)) 6 := (iN_inb (by omega)).mpr hq
  have t2 : (iN (nU A)).toNatClampNeg = nU A := iN_clamp (by omega)
  unfold f_X10_unit
  rw [m_isDepot hd, bx_some, if_neg n10, hr, bx_some, if_neg n10, tq, if_neg (by rw [show (6 : Int32) = iN 6 from rfl, iN_inj (by omega) (by decide)]; omega)]
  unfold j_X10_unit_42
  have t0 : (wr τ 30 0 0 0).1 30 0 5 = iN (nU A) := by rw [wr_rd, if_neg (by omega)]; exact tq
  have t3 : (wr (wr τ 30 0 0 0) 33 0 (nU A) km).1 30 0 5 = iN (nU A) := by rw [wr_rd, if_neg (by omega)]; exact t0
  have t4 : (wr (wr (wr τ 30 0 0 0) 33 0 (nU A) km) 32 0 (nU A) km).1 30 0 5 = iN (nU A) := by rw [wr_rd, if_neg (by omega)]; exact t3
  have t5 : (wr (wr (wr τ 30 0 0 0) 33 0 (nU A) km) 32 0 (nU A) km).1 38 0 d = iN (rw_ A d).length := by rw [wr_rd, if_neg (by omega), wr_rd, if_neg (by omega), wr_rd, if_neg (by omega)]; exact tl
  rw [bd_def, if_pos (by rw [wr_same]; decide), t0, gd_t t1, bd_def, t2, t3, gd_t t1, bd_def, t2]
  rw [show (0 : Int32) = iN 0 from rfl] at t4 t5 ⊢
  rw [m_unitL hq hd h6 t4 t5]
  rfl
theorem okU_in {σ : Wd} {A : Ab} (H : RCl σ A) : okU σ = true := by
  unfold okU
  refine List.all_eq_true.mpr (fun j hj => ?_)
  have hj := List.mem_range.mp hj
  have hcd := H.2.2.2.2.1 j hj
  rw [hcd, H.1]
  by_cases h3 : j < nU A
  · rw [if_pos h3]; simp [h3]
  · rw [if_neg h3]; simp
theorem add_ok {x y : Nat} {v : Int32} (hv : v = iN y) (hy : y < 10) (h : y ≠ 0 → x ≠ 0) : (x = 0 ∧ v = 0) ∨ (x ≠ 0 ∧ ¬ v = 10 ∧ inb v 10) := by
  rw [hv]
  have h2 : ¬ iN y = 10 := by
    rw [show (10 : Int32) = iN 10 from rfl, iN_inj (by omega) (by decide)]; omega
  by_cases h0 : y = 0
  · by_cases hf : x = 0
    · exact Or.inl ⟨hf, by rw [h0]; rfl⟩
    · exact Or.inr ⟨hf, h2, (iN_inb (by omega)).mpr hy⟩
  · exact Or.inr ⟨h h0, h2, (iN_inb (by omega)).mpr hy⟩
theorem k_unit {σ : Wd} {A : Ab} (C : RC σ A) (hq : nU A < 6) {d : Nat} (hd : d < 3) (h6 : (rw_ A d).length < 6) {km : Int32} (hk : ¬ km < 0 ∧ km ≤ 1000000) : f_X9_unit σ (iN d) km = some (.inl (iN (nU A)), wr (wr (uW σ (iN d) km) 6 d (rw_ A d).length (iN (nU A))) 5 d 1 (iN ((rw_ A d).length + 1))) := by
  have e8 := C.1.1
  have s0 := C.1.2.2.1
  have f0 := C.1.2.2.2.2.2.2.1
  have hlt : σ.2.2 8 < (nuU σ (iN d) km).2.2 8 := by
    rw [nuU_q, if_pos rfl]; omega
  have q : (nuU σ (iN d) km).1 1 0 2 = iN (nU A) := by
    rw [nuU_rd, if_neg (by omega), if_neg (by omega), if_neg (by omega), s0]
  have q2 : (nuU σ (iN d) km).2.2 (20 + 0) = σ.2.2 20 := by
    rw [nuU_q, if_neg (by omega), if_neg (by omega)]
  have hadd := add_ok (x := (nuU σ (iN d) km).2.2 (20 + 0)) q (by omega) (fun h => by rw [q2]; exact f0 h)
  have R1 : RCr (uW σ (iN d) km) A := RCr.fr C.2.2.2.2.2.1 (uW_off _ _ _ (by decide) (by decide)) (uW_off _ _ _ (by decide) (by decide))
  unfold f_X9_unit
  rw [c_rowAt hd, bx_some, rg_in (lo := 0) (hi := 1000000) hk.1 hk.2, bx_some, c_sz0 C.1, bx_some, if_pos (show iN (nU A) < 6 from (iN_lt (b := 6) (by omega) (by decide)).mpr hq), gd_t hd, gd_t (okU_in C.1), bd_def, gd_t hlt, gd_t hadd, bd_def]
  change nx (nx (nx (bx (f_X6_come (uW σ (iN d) km) d (iN (nU A))) _))) = _
  rw [k_come R1 hd h6, bx_some, nx_in, nx_in, nx_in]
theorem ujn {σ : Wd} {a b : Int32} {k : Nat} (hk : 0 < k) (h2 : k < 10) : j_X10_unit_42 σ a b (iN k) = some (.inl 0, wr σ 30 0 0 (iN k)) := by
  unfold j_X10_unit_42
  rw [bd_def, if_neg (by rw [wr_same, show (0 : Int32) = iN 0 from rfl, iN_le (by omega) (by decide)]; omega)]
theorem un_G {A : Ab} (G : Gd A) (hq : nU A < 6) (d : Nat) (km : Int32) : Gd (unA A d km) := by
  obtain ⟨g1, g2, g3, g4, g5, g6⟩ := G
  refine ⟨?_, g2, g3, fun u hu => ?_, fun x hx => ?_, fun x hx hx2 t ht => ?_⟩
  · show nU A + 1 ≤ 6
    omega
  · have hu : u < nU A + 1 := hu
    have hfl : fl (unA A d km) u = if u = nU A then [] else fl A u := rfl
    rw [hfl]
    by_cases h : u = nU A
    · rw [if_pos h]
      exact ⟨Nat.zero_le _, fun f hf => by cases hf⟩
    · rw [if_neg h]
      exact g4 u (by omega)
  · have := g5 x hx
    simp only [unA_rd]
    simp
    exact this
  · have := g6 x hx hx2 t ht
    simp only [unA_rd]
    simp
    exact this
theorem un_W {A : Ab} (W : Gr A (fun _ => False)) {d : Nat} (hd : d < 3) (km : Int32) : Gr (unA A d km) (fun _ => False) := by
  have hr : ∀ e, rw_ (unA A d km) e = if e = d then rw_ A d ++ [nU A] else rw_ A e := fun e => rfl
  have h31 : ∀ u, (unA A d km).1 31 u 0 = if u = nU A then iN d else A.1 31 u 0 := fun u => by
    rw [unA_rd]; simp
  refine ⟨fun e he => ?_, fun u hu => ?_⟩
  · obtain ⟨w1, w2⟩ := W.1 e he
    rw [hr]
    by_cases h : e = d
    · subst h
      rw [if_pos rfl]
      refine ⟨?_, fun u hu => ?_⟩
      · rw [List.nodup_append]
        refine ⟨w1, by simp, fun a ha b hb => ?_⟩
        have := (w2 a ha).1
        simp at hb
        omega
      · rcases List.mem_append.mp hu with h | h
        · obtain ⟨y1, y2, y3⟩ := w2 u h
          refine ⟨Nat.lt_succ_of_lt y1, ?_, y3⟩
          rw [h31, if_neg (by omega)]; exact y2
        · simp at h
          subst h
          refine ⟨Nat.lt_succ_self _, ?_, id⟩
          rw [h31, if_pos rfl]
    · rw [if_neg h]
      refine ⟨w1, fun u hu => ?_⟩
      obtain ⟨y1, y2, y3⟩ := w2 u hu
      refine ⟨Nat.lt_succ_of_lt y1, ?_, y3⟩
      rw [h31, if_neg (by omega)]; exact y2
  · have hu : u < nU A + 1 := hu
    rw [h31]
    by_cases h : u = nU A
    · refine ⟨d, hd, by rw [if_pos h], Or.inr ?_⟩
      rw [hr, if_pos rfl, h]
      simp
    · obtain ⟨e, he, y1, y2⟩ := W.2 u (by omega)
      refine ⟨e, he, by rw [if_neg h]; exact y1, Or.inr ?_⟩
      rw [hr]
      by_cases h2 : e = d
      · rw [if_pos h2, ← h2]
        exact List.mem_append_left _ (y2.resolve_left id)
      · rw [if_neg h2]
        exact y2.resolve_left id
theorem st_unit {σ : Wd} (I : Inv σ) (w1 w2 : Int32) : ∃ σ', c_unit σ w1 w2 = some σ' ∧ Inv σ' := by
  obtain ⟨A, C, R, G, W⟩ := I
  have g6 := G.1
  rcases rng w1 3 (by decide) with ⟨d, hd, rfl⟩ | h1
  · by_cases hk : ¬ w2 < 0 ∧ w2 ≤ 1000000
    · have n10 : ¬ iN 1 = 0 := by decide
      by_cases hq : nU A < 6
      · have h6 : (rw_ A d).length < 6 := Nat.lt_of_le_of_lt (nodup_le _ _ (W.1 d hd).1 (fun x hx => ((W.1 d hd).2 x hx).1)) hq
        have hS : CS σ (wr (wr (uW σ (iN d) w2) 6 d (rw_ A d).length (iN (nU A))) 5 d 1 (iN ((rw_ A d).length + 1))) := fun t ht => by
          funext i k
          rw [wr_rd, if_neg (by omega), wr_rd, if_neg (by omega), uW_off _ _ _ (by omega) (by omega)]
        exact ok_in R hS (k_unit C hq hd h6 hk) (un_C C hq hd h6 w2) (fun τ T => ⟨_, m_unit T hq hd h6 hk, by rw [uM_30]; rfl, uM_S _ _ _ _ _, un_R T hq hd h6 (fun e he => (W.len g6 he).1) w2⟩) (un_G G hq d w2) (un_W W hd w2)
      · have hq6 : nU A = 6 := by omega
        refine ok_ex C R (k := 3) (E := "java/lang/IllegalStateException") ?_ wk3 (by decide) (thr_ok (fun τ T => ?_)) G W
        · unfold f_X9_unit
          rw [c_rowAt hd, bx_some, rg_in (lo := 0) (hi := 1000000) hk.1 hk.2, bx_some, c_sz0 C.1, bx_some, if_neg (by rw [hq6]; decide)]
        · have hr : f_X10_between τ w2 0 1000000 = some (.inl (iN 1), τ) := bt_in hk.1 hk.2
          unfold f_X10_unit
          rw [m_isDepot hd, bx_some, if_neg n10, hr, bx_some, if_neg n10, T.1.1, hq6, if_pos (show iN 6 = 6 from rfl)]
          exact ujn (k := 3) (by decide) (by decide)
    · have n10 : ¬ iN 1 = 0 := by decide
      refine ok_ex C R (k := 2) (E := "java/lang/IllegalArgumentException") ?_ wk2 (by decide) (thr_ok (fun τ T => ?_)) G W
      · unfold f_X9_unit
        rw [c_rowAt hd, bx_some, rg_out (lo := 0) (hi := 1000000) hk, bx_thr]
      · have hr : f_X10_between τ w2 0 1000000 = some (.inl (iN 0), τ) := bt_out hk
        unfold f_X10_unit
        rw [m_isDepot hd, bx_some, if_neg n10, hr, bx_some, if_pos (show iN 0 = 0 from rfl)]
        exact ujn (k := 2) (by decide) (by decide)
  · refine ok_ex C R (k := 1) (E := "java/lang/IndexOutOfBoundsException") ?_ wk1 (by decide) (thr_ok (fun τ T => ?_)) G W
    · unfold f_X9_unit
      rw [c_rowAt_no h1, bx_thr]
    · unfold f_X10_unit
      rw [m_isDepot_no h1, bx_some, if_pos (show iN 0 = 0 from rfl)]
      exact ujn (k := 1) (by decide) (by decide)
