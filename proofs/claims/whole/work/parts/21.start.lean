def m0 (t i k : Nat) : Int32 := match t with
  | 9 => match i with
    | 0 => match k with
      | 0 => 1000
      | 1 => 10
      | _ => 5
    | 1 => match k with
      | 0 => 3000
      | 1 => 10
      | _ => 20
    | _ => match k with
      | 0 => 9000
      | 1 => 10
      | _ => 60
  | 11 => match k with
    | 0 => -1
    | _ => 0
  | 20 => -1
  | 50 => (upd (upd (upd (fun _ => 0) (0 : Int32).toNatClampNeg (1000 : Int32)) (1 : Int32).toNatClampNeg (3000 : Int32)) (2 : Int32).toNatClampNeg (9000 : Int32)) k
  | 51 => (upd (upd (upd (fun _ => 0) (0 : Int32).toNatClampNeg (10 : Int32)) ((0 : Int32) + 1).toNatClampNeg (10 : Int32)) (((0 : Int32) + 1) + 1).toNatClampNeg (10 : Int32)) k
  | 52 => (upd (upd (upd (fun _ => 0) (0 : Int32).toNatClampNeg (5 : Int32)) (1 : Int32).toNatClampNeg (20 : Int32)) (2 : Int32).toNatClampNeg (60 : Int32)) k
  | 53 => (upd (upd (upd (upd (fun _ => 0) (0 : Int32).toNatClampNeg (-1 : Int32)) ((0 : Int32) + 1).toNatClampNeg (-1 : Int32)) (((0 : Int32) + 1) + 1).toNatClampNeg (-1 : Int32)) ((((0 : Int32) + 1) + 1) + 1).toNatClampNeg (-1 : Int32)) k
  | 55 => -1
  | _ => 0
/-- the first world -/
def W0 : Wd := (m0, fun _ _ => 0, fun _ => 0)
def keys0 : List (Nat × Nat) := (0, 0) :: (1, 0) :: (1, 1) :: (4, 0) :: (7, 0) :: (8, 0) :: (9, 0) :: (9, 1) :: (9, 2) :: (10, 0) :: (11, 0) :: (11, 1) :: (11, 2) :: (11, 3) :: (12, 0) :: (13, 0) :: (14, 0) :: (15, 0) :: (16, 0) :: (17, 0) :: (18, 0) :: (19, 0) :: (20, 0) :: (5, 0) :: (6, 0) :: (5, 1) :: (6, 1) :: (5, 2) :: (6, 2) :: (30, 0) :: (31, 0) :: (32, 0) :: (33, 0) :: (34, 0) :: (35, 0) :: (36, 0) :: (37, 0) :: (38, 0) :: (39, 0) :: (40, 0) :: (41, 0) :: (42, 0) :: (43, 0) :: (44, 0) :: (45, 0) :: (46, 0) :: (47, 0) :: (48, 0) :: (49, 0) :: (50, 0) :: (51, 0) :: (52, 0) :: (53, 0) :: (54, 0) :: (55, 0) :: (56, 0) :: (57, 0) :: (58, 0) :: (59, 0) :: (60, 0) :: (70, 0) :: []
theorem keys0_all {t i : Nat} (h : lvp W0 t i) : (t, i) ∈ keys0 := by
  have h1 := h.1
  have h27 : t ≠ 27 := fun z => h.2 z rfl
  have hall : ((List.range 71).all fun t => (t == 27) || (List.range (lim W0 t)).all fun i => decide ((t, i) ∈ keys0)) = true := by decide +kernel
  by_cases ht : t < 71
  · have h2 := List.all_eq_true.mp hall t (List.mem_range.mpr ht)
    rw [Bool.or_eq_true] at h2
    rcases h2 with h2 | h2
    · exact absurd (by simpa using h2) h27
    · have h3 := List.all_eq_true.mp h2 i (List.mem_range.mpr h1)
      exact of_decide_eq_true h3
  · have h0 : lim W0 t = 0 := by
      unfold lim
      split <;> first | rfl | omega
    omega
theorem HW.ofList {X : Xt} {ad : Ad} {σ : Wd} {H : Heap} {ws : va_W} (ks : List (Nat × Nat)) (hP : va_P X.2.1 vwCl ws H) (hD : va_D (Az X) ws) (h : ∀ t i, lvp σ t i → ∃ (k : Nat) (e : va_E), ws[k]? = some (ad t i, e) ∧ ks[k]? = some (t, i) ∧ (va_at X.2.1 vwCl (ad t i, e) H → va_at X.2.1 vwCl (ad t i, cellv X ad σ t i) H)) : HW X ad σ H := by
  refine ⟨fun t i hl => ?_, fun t i t' i' h1 h2 h3 => ?_⟩
  · obtain ⟨k, e, g1, g2, g3⟩ := h t i hl
    exact ⟨g3 (hP k _ g1), hD.2 k _ g1⟩
  · obtain ⟨k, e, g1, g2, -⟩ := h t i h1
    obtain ⟨k', e', g1', g2', -⟩ := h t' i' h2
    have e1 := hD.1 k k' _ _ g1 g1' h3
    subst e1
    have e2 := g2.symm.trans g2'
    cases e2
    exact ⟨rfl, rfl⟩
def adZ (l : List ((Nat × Nat) × Nat)) : Ad := fun t i => (l.lookup (t, i)).getD 0
def adS (x0 a1 a3 a5 a6 a7 a8 a9 a10 a11 a12 a13 a14 a15 a17 a18 a19 a20 a21 a22 a23 a25 a26 a28 a29 a31 a32 a34 a35 y0 m1 m2 m3 m4 m5 m6 m7 m8 m9 m10 m11 m12 m13 m14 m15 m16 m17 m18 m19 m20 m21 m22 m23 m24 m25 m26 m27 m28 m29 m30 z0 : Nat) : Ad := adZ (((0, 0), x0) :: ((1, 0), a1) :: ((1, 1), a3) :: ((4, 0), a5) :: ((7, 0), a6) :: ((8, 0), a7) :: ((9, 0), a8) :: ((9, 1), a9) :: ((9, 2), a10) :: ((10, 0), a11) :: ((11, 0), a12) :: ((11, 1), a13) :: ((11, 2), a14) :: ((11, 3), a15) :: ((12, 0), a17) :: ((13, 0), a18) :: ((14, 0), a19) :: ((15, 0), a20) :: ((16, 0), a21) :: ((17, 0), a22) :: ((18, 0), a23) :: ((19, 0), a25) :: ((20, 0), a26) :: ((5, 0), a28) :: ((6, 0), a29) :: ((5, 1), a31) :: ((6, 1), a32) :: ((5, 2), a34) :: ((6, 2), a35) :: ((30, 0), y0) :: ((31, 0), m1) :: ((32, 0), m2) :: ((33, 0), m3) :: ((34, 0), m4) :: ((35, 0), m5) :: ((36, 0), m6) :: ((37, 0), m7) :: ((38, 0), m8) :: ((39, 0), m9) :: ((40, 0), m10) :: ((41, 0), m11) :: ((42, 0), m12) :: ((43, 0), m13) :: ((44, 0), m14) :: ((45, 0), m15) :: ((46, 0), m16) :: ((47, 0), m17) :: ((48, 0), m18) :: ((49, 0), m19) :: ((50, 0), m20) :: ((51, 0), m21) :: ((52, 0), m22) :: ((53, 0), m23) :: ((54, 0), m24) :: ((55, 0), m25) :: ((56, 0), m26) :: ((57, 0), m27) :: ((58, 0), m28) :: ((59, 0), m29) :: ((60, 0), m30) :: ((70, 0), z0) :: [])
theorem HW.start {X : Xt} {H : Heap} {x0 a1 a3 a5 a6 a7 a8 a9 a10 a11 a12 a13 a14 a15 a17 a18 a19 a20 a21 a22 a23 a25 a26 a28 a29 a31 a32 a34 a35 y0 m1 m2 m3 m4 m5 m6 m7 m8 m9 m10 m11 m12 m13 m14 m15 m16 m17 m18 m19 m20 m21 m22 m23 m24 m25 m26 m27 m28 m29 m30 z0 : Nat} (hP : va_P X.2.1 vwCl ((x0, .inr (10, [.ref a1, .ref a3, .ref a5, .ref a6, .ref a17, .ref a25, .int (0 : Int32), .int (0 : Int32), .int (0 : Int32), .int (0 : Int32)])) :: (a1, .inr (0, [.int (0 : Int32), .ref X.2.2.2.2, .int 0])) :: (a3, .inr (0, [.int (0 : Int32), .ref X.2.2.2.2, .int 0])) :: (a5, .inl (X.2.2.1 4, 3, .inr (.inr (.inr (.inr (va_up (va_up (va_up (fun _ => none) (0 : Int32).toNatClampNeg (some a28)) ((0 : Int32) + 1).toNatClampNeg (some a31)) (((0 : Int32) + 1) + 1).toNatClampNeg (some a34))))))) :: (a6, .inr (8, [.ref a7, .ref a11])) :: (a7, .inl (X.2.2.1 2, 3, .inr (.inr (.inr (.inr (va_up (va_up (va_up (fun _ => none) (0 : Int32).toNatClampNeg (some a8)) (1 : Int32).toNatClampNeg (some a9)) (2 : Int32).toNatClampNeg (some a10))))))) :: (a8, .inr (2, [.int (1000 : Int32), .int (10 : Int32), .int (5 : Int32)])) :: (a9, .inr (2, [.int (3000 : Int32), .int (10 : Int32), .int (20 : Int32)])) :: (a10, .inr (2, [.int (9000 : Int32), .int (10 : Int32), .int (60 : Int32)])) :: (a11, .inl (X.2.2.1 3, 4, .inr (.inr (.inr (.inr (va_up (va_up (va_up (va_up (fun _ => none) (0 : Int32).toNatClampNeg (some a12)) (1 : Int32).toNatClampNeg (some a13)) (2 : Int32).toNatClampNeg (some a14)) (3 : Int32).toNatClampNeg (some a15))))))) :: (a12, .inr (6, [.int (-1 : Int32), .int (0 : Int32)])) :: (a13, .inr (6, [.int (-1 : Int32), .int (0 : Int32)])) :: (a14, .inr (6, [.int (-1 : Int32), .int (0 : Int32)])) :: (a15, .inr (6, [.int (-1 : Int32), .int (0 : Int32)])) :: (a17, .inr (4, [.ref a18, .ref a19, .ref a20, .ref a21, .ref a22, .ref a23, .int (0 : Int32), .int (0 : Int32)])) :: (a18, .inl (X.2.2.1 0, 6, .inl (fun _ => 0))) :: (a19, .inl (X.2.2.1 0, 6, .inl (fun _ => 0))) :: (a20, .inl (X.2.2.1 0, 6, .inl (fun _ => 0))) :: (a21, .inl (X.2.2.1 0, 6, .inl (fun _ => 0))) :: (a22, .inl (X.2.2.1 0, 6, .inl (fun _ => 0))) :: (a23, .inl (X.2.2.1 0, 448, .inl (fun _ => 0))) :: (a25, .inr (5, [.ref a26])) :: (a26, .inl (X.2.2.1 0, 1200, .inl (fun _ => (-1 : Int32)))) :: (a28, .inr (7, [.ref a29, .int (0 : Int32)])) :: (a29, .inl (X.2.2.1 0, 6, .inl (fun _ => 0))) :: (a31, .inr (7, [.ref a32, .int (0 : Int32)])) :: (a32, .inl (X.2.2.1 0, 6, .inl (fun _ => 0))) :: (a34, .inr (7, [.ref a35, .int (0 : Int32)])) :: (a35, .inl (X.2.2.1 0, 6, .inl (fun _ => 0))) :: (y0, .inr (11, (.int 0 :: .int 0 :: .int 0 :: .int 0 :: .int 0 :: .int 0 :: .ref m1 :: .ref m2 :: .ref m3 :: .ref m4 :: .ref m5 :: .ref m6 :: .ref m7 :: .ref m8 :: .ref m9 :: .ref m10 :: .ref m11 :: .ref m12 :: .ref m13 :: .int 0 :: .ref m14 :: .ref m15 :: .ref m16 :: .ref m17 :: .ref m18 :: .ref m19 :: .ref m20 :: .ref m21 :: .ref m22 :: .ref m23 :: .ref m24 :: .ref m25 :: .ref m26 :: .ref m27 :: .ref m28 :: .ref m29 :: .ref m30 :: .int 0 :: .int 0 :: []))) :: (m1, .inl (X.2.2.1 0, 6, .inl (fun _ => 0))) :: (m2, .inl (X.2.2.1 0, 6, .inl (fun _ => 0))) :: (m3, .inl (X.2.2.1 0, 6, .inl (fun _ => 0))) :: (m4, .inl (X.2.2.1 0, 24, .inl (fun _ => 0))) :: (m5, .inl (X.2.2.1 0, 18, .inl (fun _ => 0))) :: (m6, .inl (X.2.2.1 0, 18, .inl (fun _ => 0))) :: (m7, .inl (X.2.2.1 0, 18, .inl (fun _ => 0))) :: (m8, .inl (X.2.2.1 0, 3, .inl (fun _ => 0))) :: (m9, .inl (X.2.2.1 0, 6, .inl (fun _ => 0))) :: (m10, .inl (X.2.2.1 0, 48, .inl (fun _ => 0))) :: (m11, .inl (X.2.2.1 0, 48, .inl (fun _ => 0))) :: (m12, .inl (X.2.2.1 0, 48, .inl (fun _ => 0))) :: (m13, .inl (X.2.2.1 0, 48, .inl (fun _ => 0))) :: (m14, .inl (X.2.2.1 0, 6, .inl (fun _ => 0))) :: (m15, .inl (X.2.2.1 0, 6, .inl (fun _ => 0))) :: (m16, .inl (X.2.2.1 0, 6, .inl (fun _ => 0))) :: (m17, .inl (X.2.2.1 0, 6, .inl (fun _ => 0))) :: (m18, .inl (X.2.2.1 0, 6, .inl (fun _ => 0))) :: (m19, .inl (X.2.2.1 0, 6, .inl (fun _ => 0))) :: (m20, .inl (X.2.2.1 0, 3, .inl (upd (upd (upd (fun _ => 0) (0 : Int32).toNatClampNeg (1000 : Int32)) (1 : Int32).toNatClampNeg (3000 : Int32)) (2 : Int32).toNatClampNeg (9000 : Int32)))) :: (m21, .inl (X.2.2.1 0, 3, .inl (upd (upd (upd (fun _ => 0) (0 : Int32).toNatClampNeg (10 : Int32)) ((0 : Int32) + 1).toNatClampNeg (10 : Int32)) (((0 : Int32) + 1) + 1).toNatClampNeg (10 : Int32)))) :: (m22, .inl (X.2.2.1 0, 3, .inl (upd (upd (upd (fun _ => 0) (0 : Int32).toNatClampNeg (5 : Int32)) (1 : Int32).toNatClampNeg (20 : Int32)) (2 : Int32).toNatClampNeg (60 : Int32)))) :: (m23, .inl (X.2.2.1 0, 4, .inl (upd (upd (upd (upd (fun _ => 0) (0 : Int32).toNatClampNeg (-1 : Int32)) ((0 : Int32) + 1).toNatClampNeg (-1 : Int32)) (((0 : Int32) + 1) + 1).toNatClampNeg (-1 : Int32)) ((((0 : Int32) + 1) + 1) + 1).toNatClampNeg (-1 : Int32)))) :: (m24, .inl (X.2.2.1 0, 4, .inl (fun _ => 0))) :: (m25, .inl (X.2.2.1 0, 1200, .inl (fun _ => (-1)))) :: (m26, .inl (X.2.2.1 0, 6, .inl (fun _ => 0))) :: (m27, .inl (X.2.2.1 0, 6, .inl (fun _ => 0))) :: (m28, .inl (X.2.2.1 1, 6, .inl (fun _ => 0))) :: (m29, .inl (X.2.2.1 1, 36, .inl (fun _ => 0))) :: (m30, .inl (X.2.2.1 1, 6, .inl (fun _ => 0))) :: (z0, .inl (X.2.2.1 6, 1, .inr (.inl (fun _ => (0 : Int32).toInt64)))) :: []) H) (hD : va_D (Az X) ((x0, .inr (10, [.ref a1, .ref a3, .ref a5, .ref a6, .ref a17, .ref a25, .int (0 : Int32), .int (0 : Int32), .int (0 : Int32), .int (0 : Int32)])) :: (a1, .inr (0, [.int (0 : Int32), .ref X.2.2.2.2, .int 0])) :: (a3, .inr (0, [.int (0 : Int32), .ref X.2.2.2.2, .int 0])) :: (a5, .inl (X.2.2.1 4, 3, .inr (.inr (.inr (.inr (va_up (va_up (va_up (fun _ => none) (0 : Int32).toNatClampNeg (some a28)) ((0 : Int32) + 1).toNatClampNeg (some a31)) (((0 : Int32) + 1) + 1).toNatClampNeg (some a34))))))) :: (a6, .inr (8, [.ref a7, .ref a11])) :: (a7, .inl (X.2.2.1 2, 3, .inr (.inr (.inr (.inr (va_up (va_up (va_up (fun _ => none) (0 : Int32).toNatClampNeg (some a8)) (1 : Int32).toNatClampNeg (some a9)) (2 : Int32).toNatClampNeg (some a10))))))) :: (a8, .inr (2, [.int (1000 : Int32), .int (10 : Int32), .int (5 : Int32)])) :: (a9, .inr (2, [.int (3000 : Int32), .int (10 : Int32), .int (20 : Int32)])) :: (a10, .inr (2, [.int (9000 : Int32), .int (10 : Int32), .int (60 : Int32)])) :: (a11, .inl (X.2.2.1 3, 4, .inr (.inr (.inr (.inr (va_up (va_up (va_up (va_up (fun _ => none) (0 : Int32).toNatClampNeg (some a12)) (1 : Int32).toNatClampNeg (some a13)) (2 : Int32).toNatClampNeg (some a14)) (3 : Int32).toNatClampNeg (some a15))))))) :: (a12, .inr (6, [.int (-1 : Int32), .int (0 : Int32)])) :: (a13, .inr (6, [.int (-1 : Int32), .int (0 : Int32)])) :: (a14, .inr (6, [.int (-1 : Int32), .int (0 : Int32)])) :: (a15, .inr (6, [.int (-1 : Int32), .int (0 : Int32)])) :: (a17, .inr (4, [.ref a18, .ref a19, .ref a20, .ref a21, .ref a22, .ref a23, .int (0 : Int32), .int (0 : Int32)])) :: (a18, .inl (X.2.2.1 0, 6, .inl (fun _ => 0))) :: (a19, .inl (X.2.2.1 0, 6, .inl (fun _ => 0))) :: (a20, .inl (X.2.2.1 0, 6, .inl (fun _ => 0))) :: (a21, .inl (X.2.2.1 0, 6, .inl (fun _ => 0))) :: (a22, .inl (X.2.2.1 0, 6, .inl (fun _ => 0))) :: (a23, .inl (X.2.2.1 0, 448, .inl (fun _ => 0))) :: (a25, .inr (5, [.ref a26])) :: (a26, .inl (X.2.2.1 0, 1200, .inl (fun _ => (-1 : Int32)))) :: (a28, .inr (7, [.ref a29, .int (0 : Int32)])) :: (a29, .inl (X.2.2.1 0, 6, .inl (fun _ => 0))) :: (a31, .inr (7, [.ref a32, .int (0 : Int32)])) :: (a32, .inl (X.2.2.1 0, 6, .inl (fun _ => 0))) :: (a34, .inr (7, [.ref a35, .int (0 : Int32)])) :: (a35, .inl (X.2.2.1 0, 6, .inl (fun _ => 0))) :: (y0, .inr (11, (.int 0 :: .int 0 :: .int 0 :: .int 0 :: .int 0 :: .int 0 :: .ref m1 :: .ref m2 :: .ref m3 :: .ref m4 :: .ref m5 :: .ref m6 :: .ref m7 :: .ref m8 :: .ref m9 :: .ref m10 :: .ref m11 :: .ref m12 :: .ref m13 :: .int 0 :: .ref m14 :: .ref m15 :: .ref m16 :: .ref m17 :: .ref m18 :: .ref m19 :: .ref m20 :: .ref m21 :: .ref m22 :: .ref m23 :: .ref m24 :: .ref m25 :: .ref m26 :: .ref m27 :: .ref m28 :: .ref m29 :: .ref m30 :: .int 0 :: .int 0 :: []))) :: (m1, .inl (X.2.2.1 0, 6, .inl (fun _ => 0))) :: (m2, .inl (X.2.2.1 0, 6, .inl (fun _ => 0))) :: (m3, .inl (X.2.2.1 0, 6, .inl (fun _ => 0))) :: (m4, .inl (X.2.2.1 0, 24, .inl (fun _ => 0))) :: (m5, .inl (X.2.2.1 0, 18, .inl (fun _ => 0))) :: (m6, .inl (X.2.2.1 0, 18, .inl (fun _ => 0))) :: (m7, .inl (X.2.2.1 0, 18, .inl (fun _ => 0))) :: (m8, .inl (X.2.2.1 0, 3, .inl (fun _ => 0))) :: (m9, .inl (X.2.2.1 0, 6, .inl (fun _ => 0))) :: (m10, .inl (X.2.2.1 0, 48, .inl (fun _ => 0))) :: (m11, .inl (X.2.2.1 0, 48, .inl (fun _ => 0))) :: (m12, .inl (X.2.2.1 0, 48, .inl (fun _ => 0))) :: (m13, .inl (X.2.2.1 0, 48, .inl (fun _ => 0))) :: (m14, .inl (X.2.2.1 0, 6, .inl (fun _ => 0))) :: (m15, .inl (X.2.2.1 0, 6, .inl (fun _ => 0))) :: (m16, .inl (X.2.2.1 0, 6, .inl (fun _ => 0))) :: (m17, .inl (X.2.2.1 0, 6, .inl (fun _ => 0))) :: (m18, .inl (X.2.2.1 0, 6, .inl (fun _ => 0))) :: (m19, .inl (X.2.2.1 0, 6, .inl (fun _ => 0))) :: (m20, .inl (X.2.2.1 0, 3, .inl (upd (upd (upd (fun _ => 0) (0 : Int32).toNatClampNeg (1000 : Int32)) (1 : Int32).toNatClampNeg (3000 : Int32)) (2 : Int32).toNatClampNeg (9000 : Int32)))) :: (m21, .inl (X.2.2.1 0, 3, .inl (upd (upd (upd (fun _ => 0) (0 : Int32).toNatClampNeg (10 : Int32)) ((0 : Int32) + 1).toNatClampNeg (10 : Int32)) (((0 : Int32) + 1) + 1).toNatClampNeg (10 : Int32)))) :: (m22, .inl (X.2.2.1 0, 3, .inl (upd (upd (upd (fun _ => 0) (0 : Int32).toNatClampNeg (5 : Int32)) (1 : Int32).toNatClampNeg (20 : Int32)) (2 : Int32).toNatClampNeg (60 : Int32)))) :: (m23, .inl (X.2.2.1 0, 4, .inl (upd (upd (upd (upd (fun _ => 0) (0 : Int32).toNatClampNeg (-1 : Int32)) ((0 : Int32) + 1).toNatClampNeg (-1 : Int32)) (((0 : Int32) + 1) + 1).toNatClampNeg (-1 : Int32)) ((((0 : Int32) + 1) + 1) + 1).toNatClampNeg (-1 : Int32)))) :: (m24, .inl (X.2.2.1 0, 4, .inl (fun _ => 0))) :: (m25, .inl (X.2.2.1 0, 1200, .inl (fun _ => (-1)))) :: (m26, .inl (X.2.2.1 0, 6, .inl (fun _ => 0))) :: (m27, .inl (X.2.2.1 0, 6, .inl (fun _ => 0))) :: (m28, .inl (X.2.2.1 1, 6, .inl (fun _ => 0))) :: (m29, .inl (X.2.2.1 1, 36, .inl (fun _ => 0))) :: (m30, .inl (X.2.2.1 1, 6, .inl (fun _ => 0))) :: (z0, .inl (X.2.2.1 6, 1, .inr (.inl (fun _ => (0 : Int32).toInt64)))) :: [])) : HW X (adS x0 a1 a3 a5 a6 a7 a8 a9 a10 a11 a12 a13 a14 a15 a17 a18 a19 a20 a21 a22 a23 a25 a26 a28 a29 a31 a32 a34 a35 y0 m1 m2 m3 m4 m5 m6 m7 m8 m9 m10 m11 m12 m13 m14 m15 m16 m17 m18 m19 m20 m21 m22 m23 m24 m25 m26 m27 m28 m29 m30 z0) W0 H := by
  refine HW.ofList keys0 hP hD (fun t i hl => ?_)
  have hm := keys0_all hl
  simp only [keys0, List.mem_cons, List.not_mem_nil, or_false, Prod.mk.injEq] at hm
  rcases hm with ⟨rfl, rfl⟩ | ⟨rfl, rfl⟩ | ⟨rfl, rfl⟩ | ⟨rfl, rfl⟩ | ⟨rfl, rfl⟩ | ⟨rfl, rfl⟩ | ⟨rfl, rfl⟩ | ⟨rfl, rfl⟩ | ⟨rfl, rfl⟩ | ⟨rfl, rfl⟩ | ⟨rfl, rfl⟩ | ⟨rfl, rfl⟩ | ⟨rfl, rfl⟩ | ⟨rfl, rfl⟩ | ⟨rfl, rfl⟩ | ⟨rfl, rfl⟩ | ⟨rfl, rfl⟩ | ⟨rfl, rfl⟩ | ⟨rfl, rfl⟩ | ⟨rfl, rfl⟩ | ⟨rfl, rfl⟩ | ⟨rfl, rfl⟩ | ⟨rfl, rfl⟩ | ⟨rfl, rfl⟩ | ⟨rfl, rfl⟩ | ⟨rfl, rfl⟩ | ⟨rfl, rfl⟩ | ⟨rfl, rfl⟩ | ⟨rfl, rfl⟩ | ⟨rfl, rfl⟩ | ⟨rfl, rfl⟩ | ⟨rfl, rfl⟩ | ⟨rfl, rfl⟩ | ⟨rfl, rfl⟩ | ⟨rfl, rfl⟩ | ⟨rfl, rfl⟩ | ⟨rfl, rfl⟩ | ⟨rfl, rfl⟩ | ⟨rfl, rfl⟩ | ⟨rfl, rfl⟩ | ⟨rfl, rfl⟩ | ⟨rfl, rfl⟩ | ⟨rfl, rfl⟩ | ⟨rfl, rfl⟩ | ⟨rfl, rfl⟩ | ⟨rfl, rfl⟩ | ⟨rfl, rfl⟩ | ⟨rfl, rfl⟩ | ⟨rfl, rfl⟩ | ⟨rfl, rfl⟩ | ⟨rfl, rfl⟩ | ⟨rfl, rfl⟩ | ⟨rfl, rfl⟩ | ⟨rfl, rfl⟩ | ⟨rfl, rfl⟩ | ⟨rfl, rfl⟩ | ⟨rfl, rfl⟩ | ⟨rfl, rfl⟩ | ⟨rfl, rfl⟩ | ⟨rfl, rfl⟩ | ⟨rfl, rfl⟩
  · exact ⟨0, _, rfl, rfl, id⟩
  · exact ⟨1, _, rfl, rfl, id⟩
  · exact ⟨2, _, rfl, rfl, id⟩
  · refine ⟨3, _, rfl, rfl, va_at_refs (fun j hj => ?_)⟩
    match j, hj with
    | 0, _ => rfl
    | 1, _ => rfl
    | 2, _ => rfl
  · exact ⟨4, _, rfl, rfl, id⟩
  · refine ⟨5, _, rfl, rfl, va_at_refs (fun j hj => ?_)⟩
    match j, hj with
    | 0, _ => rfl
    | 1, _ => rfl
    | 2, _ => rfl
  · exact ⟨6, _, rfl, rfl, id⟩
  · exact ⟨7, _, rfl, rfl, id⟩
  · exact ⟨8, _, rfl, rfl, id⟩
  · refine ⟨9, _, rfl, rfl, va_at_refs (fun j hj => ?_)⟩
    match j, hj with
    | 0, _ => rfl
    | 1, _ => rfl
    | 2, _ => rfl
    | 3, _ => rfl
  · exact ⟨10, _, rfl, rfl, id⟩
  · exact ⟨11, _, rfl, rfl, id⟩
  · exact ⟨12, _, rfl, rfl, id⟩
  · exact ⟨13, _, rfl, rfl, id⟩
  · exact ⟨14, _, rfl, rfl, id⟩
  · exact ⟨15, _, rfl, rfl, id⟩
  · exact ⟨16, _, rfl, rfl, id⟩
  · exact ⟨17, _, rfl, rfl, id⟩
  · exact ⟨18, _, rfl, rfl, id⟩
  · exact ⟨19, _, rfl, rfl, id⟩
  · exact ⟨20, _, rfl, rfl, id⟩
  · exact ⟨21, _, rfl, rfl, id⟩
  · exact ⟨22, _, rfl, rfl, id⟩
  · exact ⟨23, _, rfl, rfl, id⟩
  · exact ⟨24, _, rfl, rfl, id⟩
  · exact ⟨25, _, rfl, rfl, id⟩
  · exact ⟨26, _, rfl, rfl, id⟩
  · exact ⟨27, _, rfl, rfl, id⟩
  · exact ⟨28, _, rfl, rfl, id⟩
  · exact ⟨29, _, rfl, rfl, id⟩
  · exact ⟨30, _, rfl, rfl, id⟩
  · exact ⟨31, _, rfl, rfl, id⟩
  · exact ⟨32, _, rfl, rfl, id⟩
  · exact ⟨33, _, rfl, rfl, id⟩
  · exact ⟨34, _, rfl, rfl, id⟩
  · exact ⟨35, _, rfl, rfl, id⟩
  · exact ⟨36, _, rfl, rfl, id⟩
  · exact ⟨37, _, rfl, rfl, id⟩
  · exact ⟨38, _, rfl, rfl, id⟩
  · exact ⟨39, _, rfl, rfl, id⟩
  · exact ⟨40, _, rfl, rfl, id⟩
  · exact ⟨41, _, rfl, rfl, id⟩
  · exact ⟨42, _, rfl, rfl, id⟩
  · exact ⟨43, _, rfl, rfl, id⟩
  · exact ⟨44, _, rfl, rfl, id⟩
  · exact ⟨45, _, rfl, rfl, id⟩
  · exact ⟨46, _, rfl, rfl, id⟩
  · exact ⟨47, _, rfl, rfl, id⟩
  · exact ⟨48, _, rfl, rfl, id⟩
  · exact ⟨49, _, rfl, rfl, id⟩
  · exact ⟨50, _, rfl, rfl, id⟩
  · exact ⟨51, _, rfl, rfl, id⟩
  · exact ⟨52, _, rfl, rfl, id⟩
  · exact ⟨53, _, rfl, rfl, id⟩
  · exact ⟨54, _, rfl, rfl, id⟩
  · exact ⟨55, _, rfl, rfl, id⟩
  · exact ⟨56, _, rfl, rfl, id⟩
  · exact ⟨57, _, rfl, rfl, id⟩
  · exact ⟨58, _, rfl, rfl, id⟩
  · exact ⟨59, _, rfl, rfl, id⟩
  · exact ⟨60, _, rfl, rfl, id⟩
