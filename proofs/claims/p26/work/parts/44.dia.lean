/-! one DIAGRAM more -/
def cn (A : Ab) (x v : Nat) : Ab := (A.1, A.2.1, A.2.2.1, fun y => if y = x then v else A.2.2.2 y)
def diA (A : Ab) (a b c l w : Int32) : Ab := cn (aw (aw (aw (aw (aw (aw A 44 (nD A) 0 a) 45 (nD A) 0 b) 46 (nD A) 0 c) 47 (nD A) 0 l) 48 (nD A) 0 w) 49 (nD A) 0 nO) 1 (nD A + 1)
def diW (σ : Wd) (a b c l w : Int32) : Wd := wadd (stO (nuO σ 25 9) 25 (σ.2.2 9) (vsO [a, b, c, l, w, (-1 : Int32)])) 1 (σ.2.2 9)
theorem di_rd (σ : Wd) (a b c l w : Int32) {t : Nat} (h1 : t ≠ 1) (h2 : t ≠ 25) : (diW σ a b c l w).1 t = σ.1 t := by
  funext i k
  unfold diW
  rw [wadd_mem (fun z => h1 z.1)]
  show (if t = 25 ∧ i = σ.2.2 9 then vsO [a, b, c, l, w, (-1 : Int32)] else fun k' => if t = 25 ∧ i = σ.2.2 9 then 0 else σ.1 t i k') k = _
  rw [if_neg (fun z => h2 z.1), if_neg (fun z => h2 z.1)]
theorem di_C {σ : Wd} {A : Ab} (C : RC σ A) (hq : nD A < 6) (a b c l w : Int32) : RC (diW σ a b c l w) (diA A a b c l w) := by
  obtain ⟨⟨e8, e9, s0, s1, c0, c1, f0, f1⟩, F, U, D, E, R1, S, L⟩ := C
  have one : ∀ i k, (diW σ a b c l w).1 1 i k = if i = 1 then (if k = 0 then σ.1 1 1 0 + 1 else if k = 2 then σ.1 1 1 2 + 1 else σ.1 1 1 k) else σ.1 1 i k := fun i k => by
    by_cases h : i = 1
    · subst h; rfl
    · rw [if_neg h]
      exact if_neg (fun z => h z.2)
  have two : ∀ i j, (diW σ a b c l w).2.1 i j = if i = 1 then (if j = nD A then nD A + 1 else if σ.2.2 21 = 0 then 0 else σ.2.1 1 j) else σ.2.1 i j := fun i j => by
    show (if i = 1 then (if j = (σ.1 1 1 2).toNatClampNeg then σ.2.2 9 + 1 else if σ.2.2 21 = 0 then 0 else σ.2.1 1 j) else σ.2.1 i j) = _
    rw [s1, iN_clamp (by omega), e9]
  have thr : ∀ x, (diW σ a b c l w).2.2 x = if x = 21 then 1 else if x = 9 then nD A + 1 else σ.2.2 x := fun x => by
    show (if x = 21 then 1 else if x = 9 then σ.2.2 9 + 1 else σ.2.2 x) = _
    rw [e9]
  refine ⟨⟨?_, ?_, ?_, ?_, fun j hj => ?_, fun j hj => ?_, fun hne => ?_, fun _ => ?_⟩, ⟨fun u hu => ?_, fun i hi2 hi8 j hj => ?_⟩, ?_, fun d hd => ?_, ?_, ?_, ?_, ?_⟩
  · rw [thr]; exact e8
  · rw [thr]; rfl
  · rw [one]; exact s0
  · rw [one]
    show σ.1 1 1 2 + 1 = iN (nD A + 1)
    rw [s1]; exact iN_add _ 1
  · rw [two]; exact c0 j hj
  · rw [two, if_pos rfl]
    show _ = if j < nD A + 1 then j + 1 else 0
    by_cases h : j = nD A
    · rw [if_pos h, if_pos (by omega), h]
    · rw [if_neg h]
      by_cases h2 : σ.2.2 21 = 0
      · rw [if_pos h2]
        have : nD A = 0 := by
          by_cases h3 : nD A = 0
          · exact h3
          · exact absurd h2 (f1 h3)
        rw [if_neg (by omega)]
      · rw [if_neg h2, c1 j hj]
        by_cases h3 : j < nD A
        · rw [if_pos h3, if_pos (by omega)]
        · rw [if_neg h3, if_neg (by omega)]
  · rw [thr]; exact f0 hne
  · rw [thr, if_pos rfl]; decide
  · obtain ⟨q1, q2, q3⟩ := F.1 u hu
    refine ⟨?_, fun h => ?_, fun j f hf => ?_⟩
    · rw [one, if_neg (by omega)]; exact q1
    · rw [thr, if_neg (by omega), if_neg (by omega)]; exact q2 h
    · rw [two, if_neg (by omega), thr, if_neg (by decide), if_neg (by decide)]
      unfold rdF
      rw [di_rd σ a b c l w (by decide) (by decide)]
      exact q3 j f hf
  · rw [two, if_neg (by omega), thr, if_neg (by decide), if_neg (by decide)]
    exact F.2 i hi2 hi8 j hj
  · exact RCu.fr U (di_rd σ a b c l w (by decide) (by decide)) (di_rd σ a b c l w (by decide) (by decide)) (di_rd σ a b c l w (by decide) (by decide)) (di_rd σ a b c l w (by decide) (by decide))
  · have hd : d < nD A + 1 := hd
    have rd : ∀ k, (diW σ a b c l w).1 25 d k = if d = nD A then vsO [a, b, c, l, w, (-1 : Int32)] k else σ.1 25 d k := fun k => by
      unfold diW
      rw [wadd_mem (fun z => by cases z.1), st_rd, e9]
      by_cases h : d = nD A
      · rw [if_pos h, if_pos ⟨rfl, h⟩]
      · rw [if_neg h, if_neg (fun z => h z.2)]
        exact congrFun (nu_mem (fun z => h (z.2.trans e9))) k
    by_cases h : d = nD A
    · subst h
      rw [rd, rd, rd, rd, rd, rd]
      simp [diA, cn, aw_rd, vsO]
      rfl
    · have := D d (by omega)
      rw [rd, rd, rd, rd, rd, rd]
      simp [diA, cn, aw_rd, h, this]
  · exact RCe.fr E (di_rd σ a b c l w (by decide) (by decide)) (di_rd σ a b c l w (by decide) (by decide))
  · exact RCr.fr R1 (di_rd σ a b c l w (by decide) (by decide)) (di_rd σ a b c l w (by decide) (by decide))
  · exact RCs.fr S (di_rd σ a b c l w (by decide) (by decide))
  · exact RCg.fr L (di_rd σ a b c l w (by decide) (by decide))
def diM (σ : Wd) (q : Nat) (a b c l w : Int32) : Wd := wr (wr (wr (wr (wr (wr (wr (wr σ 30 0 0 (iN 0)) 44 0 q a) 45 0 q b) 46 0 q c) 47 0 q l) 48 0 q w) 49 0 q nO) 30 0 19 (iN (q + 1))
theorem in_r {p : Int32} {lo hi : Nat} (hl : lo ≤ hi) (hh : hi < 2147483648) (h1 : ¬ p < iN lo) (h2 : p ≤ iN hi) : ∃ x, lo ≤ x ∧ x ≤ hi ∧ p = iN x := by
  have h3 : ¬ p < iN 0 := fun z => h1 (Int32.lt_of_lt_of_le z ((iN_le (by decide) (by omega)).mpr (Nat.zero_le _)))
  obtain ⟨x, hx, rfl⟩ := nn_iN h3
  rw [iN_lt hx (by omega)] at h1
  rw [iN_le hx hh] at h2
  exact ⟨x, by omega, h2, rfl⟩
theorem di_G {A : Ab} (G : Gd A) (hq : nD A < 6) {a c l : Int32} {x w : Nat} (hx : x < 3) (hw1 : 1 ≤ w) (hw2 : w ≤ 100) : Gd (diA A a (iN x) c l (iN w)) := by
  obtain ⟨g1, g2, g3, g4, g5, g6⟩ := G
  refine ⟨g1, ?_, g3, g4, fun d hd => ?_, fun d hd hd2 t ht => ?_⟩
  · show nD A + 1 ≤ 6
    omega
  · have hd : d < nD A + 1 := hd
    by_cases h : d = nD A
    · subst h
      exact ⟨⟨x, hx, by simp [diA, cn, aw_rd]⟩, w, hw1, hw2, by simp [diA, cn, aw_rd]⟩
    · obtain ⟨⟨y, hy, hy2⟩, v, hv1, hv2, hv3⟩ := g5 d (by omega)
      exact ⟨⟨y, hy, by simp [diA, cn, aw_rd, h, hy2]⟩, v, hv1, hv2, by simp [diA, cn, aw_rd, h, hv3]⟩
  · have hd2 : nD A + 1 ≤ d := hd2
    exact g6 d hd (by omega) t ht
