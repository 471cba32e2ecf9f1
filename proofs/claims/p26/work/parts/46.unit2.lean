def ax4 (σ : Wd) (n : Nat) (v : Int32) : Wd := wr (wr (wr (wr σ 34 0 (4 * n) v) 34 0 (4 * n + 1) v) 34 0 (4 * n + 2) v) 34 0 (4 * n + 3) v
theorem ax4_rd (σ : Wd) (n : Nat) (v : Int32) (t i x : Nat) : (ax4 σ n v).1 t i x = if t = 34 ∧ i = 0 ∧ 4 * n ≤ x ∧ x < 4 * n + 4 then v else σ.1 t i x := by
  unfold ax4
  simp only [wr_rd]
  repeat' split
  all_goals first | rfl | omega
def uM0 (σ : Wd) (n : Nat) (km : Int32) : Wd := ax4 (wr (wr (wr σ 30 0 0 0) 33 0 n km) 32 0 n km) n 900
def uM (σ : Wd) (n d L : Nat) (km : Int32) : Wd := wr (wr (wr (wr (uM0 σ n km) 31 0 n (iN d)) 37 0 (6 * d + L) (iN n)) 38 0 d (iN (L + 1))) 30 0 5 (iN (n + 1))
theorem uM_off (σ : Wd) (n d L : Nat) (km : Int32) {t : Nat} (h : t ≠ 30 ∧ t ≠ 31 ∧ t ≠ 32 ∧ t ≠ 33 ∧ t ≠ 34 ∧ t ≠ 37 ∧ t ≠ 38) : (uM σ n d L km).1 t = σ.1 t := by
  funext i k
  unfold uM uM0
  rw [wr_rd, if_neg (by omega), wr_rd, if_neg (by omega), wr_rd, if_neg (by omega), wr_rd, if_neg (by omega), ax4_rd, if_neg (by omega), wr_rd, if_neg (by omega), wr_rd, if_neg (by omega), wr_rd, if_neg (by omega)]
theorem uM_30 (σ : Wd) (n d L : Nat) (km : Int32) (k : Nat) : (uM σ n d L km).1 30 0 k = if k = 5 then iN (n + 1) else if k = 0 then 0 else σ.1 30 0 k := by
  unfold uM uM0
  rw [wr_rd]
  by_cases h : k = 5
  · rw [if_pos ⟨rfl, rfl, h⟩, if_pos h]
  · rw [if_neg (by omega), if_neg h, wr_rd, if_neg (by omega), wr_rd, if_neg (by omega), wr_rd, if_neg (by omega), ax4_rd, if_neg (by omega), wr_rd, if_neg (by omega), wr_rd, if_neg (by omega), wr_rd]
    by_cases h0 : k = 0
    · rw [if_pos ⟨rfl, rfl, h0⟩, if_pos h0]
    · rw [if_neg (by omega), if_neg h0]
theorem uM_u (σ : Wd) (n d L : Nat) (km : Int32) (t x : Nat) (ht : t = 31 ∨ t = 32 ∨ t = 33 ∨ t = 34) : (uM σ n d L km).1 t 0 x = if t = 31 then (if x = n then iN d else σ.1 31 0 x) else if t = 34 then (if 4 * n ≤ x ∧ x < 4 * n + 4 then 900 else σ.1 34 0 x) else if x = n then km else σ.1 t 0 x := by
  unfold uM uM0
  simp only [wr_rd, ax4_rd]
  rcases ht with rfl | rfl | rfl | rfl
  · simp
  · simp
  · simp
  · simp
theorem okU_in {σ : Wd} {A : Ab} (H : RCl σ A) : okU σ = true := by
  unfold okU
  refine List.all_eq_true.mpr (fun j hj => ?_)
  have hj := List.mem_range.mp hj
  have hcd := H.2.2.2.2.1 j hj
  rw [hcd, H.1]
  by_cases h3 : j < nU A
  · rw [if_pos h3]; simp [h3]
  · rw [if_neg h3]; simp
theorem add_ok {x y : Nat} {v : Int32} (hv : v = iN y) (hy : y < 10) (h : y ≠ 0 → x ≠ 0) : (x = 0 ∧ v = 0) ∨ (x ≠ 0 ∧ ¬ v = 10 ∧ inb v 10) := by
  rw [hv]
  have h2 : ¬ iN y = 10 := by
    rw [show (10 : Int32) = iN 10 from rfl, iN_inj (by omega) (by decide)]; omega
  by_cases h0 : y = 0
  · by_cases hf : x = 0
    · exact Or.inl ⟨hf, by rw [h0]; rfl⟩
    · exact Or.inr ⟨hf, h2, (iN_inb (by omega)).mpr hy⟩
  · exact Or.inr ⟨h h0, h2, (iN_inb (by omega)).mpr hy⟩
theorem k_unit {σ : Wd} {A : Ab} (C : RC σ A) (hq : nU A < 6) {d : Nat} (hd : d < 3) (h6 : (rw_ A d).length < 6) {km : Int32} (hk : ¬ km < 0 ∧ km ≤ 1000000) : f_X9_unit σ (iN d) km = some (.inl (iN (nU A)), wr (wr (uW σ (iN d) km) 6 d (rw_ A d).length (iN (nU A))) 5 d 1 (iN ((rw_ A d).length + 1))) := by
  have e8 := C.1.1
  have s0 := C.1.2.2.1
  have f0 := C.1.2.2.2.2.2.2.1
  have hlt : σ.2.2 8 < (nuU σ (iN d) km).2.2 8 := by
    rw [nuU_q, if_pos rfl]; omega
  have q : (nuU σ (iN d) km).1 1 0 2 = iN (nU A) := by
    rw [nuU_rd, if_neg (by omega), if_neg (by omega), if_neg (by omega), s0]
  have q2 : (nuU σ (iN d) km).2.2 (20 + 0) = σ.2.2 20 := by
    rw [nuU_q, if_neg (by omega), if_neg (by omega)]
  have hadd := add_ok (x := (nuU σ (iN d) km).2.2 (20 + 0)) q (by omega) (fun h => by rw [q2]; exact f0 h)
  have R1 : RCr (uW σ (iN d) km) A := RCr.fr C.2.2.2.2.2.1 (uW_off _ _ _ (by decide) (by decide)) (uW_off _ _ _ (by decide) (by decide))
  unfold f_X9_unit
  rw [c_rowAt hd, bx_some, rg_in (lo := 0) (hi := 1000000) hk.1 hk.2, bx_some, c_sz0 C.1, bx_some, if_pos (show iN (nU A) < 6 from (iN_lt (b := 6) (by omega) (by decide)).mpr hq), gd_t hd, gd_t (okU_in C.1), bd_def, gd_t hlt, gd_t hadd, bd_def]
  change nx (nx (nx (bx (f_X6_come (uW σ (iN d) km) d (iN (nU A))) _))) = _
  rw [k_come R1 hd h6, bx_some, nx_in, nx_in, nx_in]
theorem un_G {A : Ab} (G : Gd A) (hq : nU A < 6) (d : Nat) (km : Int32) : Gd (unA A d km) := by
  obtain ⟨g1, g2, g3, g4, g5, g6⟩ := G
  refine ⟨?_, g2, g3, fun u hu => ?_, fun x hx => ?_, fun x hx hx2 t ht => ?_⟩
  · show nU A + 1 ≤ 6
    omega
  · have hu : u < nU A + 1 := hu
    have hfl : fl (unA A d km) u = if u = nU A then [] else fl A u := rfl
    rw [hfl]
    by_cases h : u = nU A
    · rw [if_pos h]
      exact ⟨Nat.zero_le _, fun f hf => by cases hf⟩
    · rw [if_neg h]
      exact g4 u (by omega)
  · have := g5 x hx
    simp only [unA_rd]
    simp
    exact this
  · have := g6 x hx hx2 t ht
    simp only [unA_rd]
    simp
    exact this
theorem un_W {A : Ab} (W : Gr A (fun _ => False)) {d : Nat} (hd : d < 3) (km : Int32) : Gr (unA A d km) (fun _ => False) := by
  have hr : ∀ e, rw_ (unA A d km) e = if e = d then rw_ A d ++ [nU A] else rw_ A e := fun e => rfl
  have h31 : ∀ u, (unA A d km).1 31 u 0 = if u = nU A then iN d else A.1 31 u 0 := fun u => by
    rw [unA_rd]; simp
  refine ⟨fun e he => ?_, fun u hu => ?_⟩
  · obtain ⟨w1, w2⟩ := W.1 e he
    rw [hr]
    by_cases h : e = d
    · subst h
      rw [if_pos rfl]
      refine ⟨?_, fun u hu => ?_⟩
      · rw [List.nodup_append]
        refine ⟨w1, by simp, fun a ha b hb => ?_⟩
        have := (w2 a ha).1
        simp at hb
        omega
      · rcases List.mem_append.mp hu with h | h
        · obtain ⟨y1, y2, y3⟩ := w2 u h
          refine ⟨Nat.lt_succ_of_lt y1, ?_, y3⟩
          rw [h31, if_neg (by omega)]; exact y2
        · simp at h
          subst h
          refine ⟨Nat.lt_succ_self _, ?_, id⟩
          rw [h31, if_pos rfl]
    · rw [if_neg h]
      refine ⟨w1, fun u hu => ?_⟩
      obtain ⟨y1, y2, y3⟩ := w2 u hu
      refine ⟨Nat.lt_succ_of_lt y1, ?_, y3⟩
      rw [h31, if_neg (by omega)]; exact y2
  · have hu : u < nU A + 1 := hu
    rw [h31]
    by_cases h : u = nU A
    · refine ⟨d, hd, by rw [if_pos h], Or.inr ?_⟩
      rw [hr, if_pos rfl, h]
      simp
    · obtain ⟨e, he, y1, y2⟩ := W.2 u (by omega)
      refine ⟨e, he, by rw [if_neg h]; exact y1, Or.inr ?_⟩
      rw [hr]
      by_cases h2 : e = d
      · rw [if_pos h2, ← h2]
        exact List.mem_append_left _ (y2.resolve_left id)
      · rw [if_neg h2]
        exact y2.resolve_left id
