/-! the first world -/
def m0 (t i k : Nat) : Int32 := match t with
  | 9 => match i with
    | 0 => match k with
      | 0 => 1000
      | 1 => 10
      | _ => 5
    | 1 => match k with
      | 0 => 3000
      | 1 => 10
      | _ => 20
    | _ => match k with
      | 0 => 9000
      | 1 => 10
      | _ => 60
  | 11 => match k with
    | 0 => -1
    | _ => 0
  | 20 => -1
  | _ => 0
/-- the first world -/
def W0 : Wd := (m0, fun _ _ => 0, fun _ => 0)
def keys0 : List (Nat × Nat) := (0, 0) :: (1, 0) :: (1, 1) :: (4, 0) :: (7, 0) :: (8, 0) :: (9, 0) :: (9, 1) :: (9, 2) :: (10, 0) :: (11, 0) :: (11, 1) :: (11, 2) :: (11, 3) :: (12, 0) :: (13, 0) :: (14, 0) :: (15, 0) :: (16, 0) :: (17, 0) :: (18, 0) :: (19, 0) :: (20, 0) :: (5, 0) :: (6, 0) :: (5, 1) :: (6, 1) :: (5, 2) :: (6, 2) :: (71, 0) :: (72, 0) :: (73, 0) :: (74, 0) :: (75, 0) :: (76, 0) :: (77, 0) :: []
theorem keys0_all {t i : Nat} (h : lvp W0 t i) : (t, i) ∈ keys0 := by
  have h1 := h.1
  have h27 : t ≠ 27 := fun z => h.2 z rfl
  have hall : ((List.range 78).all fun t => (t == 27) || (List.range (lim W0 t)).all fun i => decide ((t, i) ∈ keys0)) = true := by decide +kernel
  by_cases ht : t < 78
  · have h2 := List.all_eq_true.mp hall t (List.mem_range.mpr ht)
    rw [Bool.or_eq_true] at h2
    rcases h2 with h2 | h2
    · exact absurd (by simpa using h2) h27
    · have h3 := List.all_eq_true.mp h2 i (List.mem_range.mpr h1)
      exact of_decide_eq_true h3
  · have h0 : lim W0 t = 0 := by
      unfold lim
      split <;> first | rfl | omega
    omega
theorem HW.ofList {X : Xt} {ad : Ad} {σ : Wd} {H : Heap} {ws : va_W} (ks : List (Nat × Nat)) (hP : va_P X.2.1 vwCl ws H) (hD : va_D (Az X) ws) (h : ∀ t i, lvp σ t i → ∃ (k : Nat) (e : va_E), ws[k]? = some (ad t i, e) ∧ ks[k]? = some (t, i) ∧ (va_at X.2.1 vwCl (ad t i, e) H → va_at X.2.1 vwCl (ad t i, cellv X ad σ t i) H)) : HW X ad σ H := by
  refine ⟨fun t i hl => ?_, fun t i t' i' h1 h2 h3 => ?_⟩
  · obtain ⟨k, e, g1, g2, g3⟩ := h t i hl
    exact ⟨g3 (hP k _ g1), hD.2 k _ g1⟩
  · obtain ⟨k, e, g1, g2, -⟩ := h t i h1
    obtain ⟨k', e', g1', g2', -⟩ := h t' i' h2
    have e1 := hD.1 k k' _ _ g1 g1' h3
    subst e1
    have e2 := g2.symm.trans g2'
    cases e2
    exact ⟨rfl, rfl⟩
def adZ (l : List ((Nat × Nat) × Nat)) : Ad := fun t i => (l.lookup (t, i)).getD 0
def adS (x0 a1 a3 a5 a6 a7 a8 a9 a10 a11 a12 a13 a14 a15 a17 a18 a19 a20 a21 a22 a23 a25 a26 a28 a29 a31 a32 a34 a35 z71 z72 z73 z74 z75 z76 z77 : Nat) : Ad := adZ (((0, 0), x0) :: ((1, 0), a1) :: ((1, 1), a3) :: ((4, 0), a5) :: ((7, 0), a6) :: ((8, 0), a7) :: ((9, 0), a8) :: ((9, 1), a9) :: ((9, 2), a10) :: ((10, 0), a11) :: ((11, 0), a12) :: ((11, 1), a13) :: ((11, 2), a14) :: ((11, 3), a15) :: ((12, 0), a17) :: ((13, 0), a18) :: ((14, 0), a19) :: ((15, 0), a20) :: ((16, 0), a21) :: ((17, 0), a22) :: ((18, 0), a23) :: ((19, 0), a25) :: ((20, 0), a26) :: ((5, 0), a28) :: ((6, 0), a29) :: ((5, 1), a31) :: ((6, 1), a32) :: ((5, 2), a34) :: ((6, 2), a35) :: ((71, 0), z71) :: ((72, 0), z72) :: ((73, 0), z73) :: ((74, 0), z74) :: ((75, 0), z75) :: ((76, 0), z76) :: ((77, 0), z77) :: [])
theorem HW.start {X : Xt} {H : Heap} {x0 a1 a3 a5 a6 a7 a8 a9 a10 a11 a12 a13 a14 a15 a17 a18 a19 a20 a21 a22 a23 a25 a26 a28 a29 a31 a32 a34 a35 z71 z72 z73 z74 z75 z76 z77 : Nat} (hP : va_P X.2.1 vwCl ((x0, .inr (10, [.ref a1, .ref a3, .ref a5, .ref a6, .ref a17, .ref a25, .int (0 : Int32), .int (0 : Int32), .int (0 : Int32), .int (0 : Int32)])) :: (a1, .inr (0, [.int (0 : Int32), .ref X.2.2.2.2, .int 0])) :: (a3, .inr (0, [.int (0 : Int32), .ref X.2.2.2.2, .int 0])) :: (a5, .inl (X.2.2.1 4, 3, .inr (.inr (.inr (.inr (va_up (va_up (va_up (fun _ => none) (0 : Int32).toNatClampNeg (some a28)) ((0 : Int32) + 1).toNatClampNeg (some a31)) (((0 : Int32) + 1) + 1).toNatClampNeg (some a34))))))) :: (a6, .inr (8, [.ref a7, .ref a11])) :: (a7, .inl (X.2.2.1 2, 3, .inr (.inr (.inr (.inr (va_up (va_up (va_up (fun _ => none) (0 : Int32).toNatClampNeg (some a8)) (1 : Int32).toNatClampNeg (some a9)) (2 : Int32).toNatClampNeg (some a10))))))) :: (a8, .inr (2, [.int (1000 : Int32), .int (10 : Int32), .int (5 : Int32)])) :: (a9, .inr (2, [.int (3000 : Int32), .int (10 : Int32), .int (20 : Int32)])) :: (a10, .inr (2, [.int (9000 : Int32), .int (10 : Int32), .int (60 : Int32)])) :: (a11, .inl (X.2.2.1 3, 4, .inr (.inr (.inr (.inr (va_up (va_up (va_up (va_up (fun _ => none) (0 : Int32).toNatClampNeg (some a12)) (1 : Int32).toNatClampNeg (some a13)) (2 : Int32).toNatClampNeg (some a14)) (3 : Int32).toNatClampNeg (some a15))))))) :: (a12, .inr (6, [.int (-1 : Int32), .int (0 : Int32)])) :: (a13, .inr (6, [.int (-1 : Int32), .int (0 : Int32)])) :: (a14, .inr (6, [.int (-1 : Int32), .int (0 : Int32)])) :: (a15, .inr (6, [.int (-1 : Int32), .int (0 : Int32)])) :: (a17, .inr (4, [.ref a18, .ref a19, .ref a20, .ref a21, .ref a22, .ref a23, .int (0 : Int32), .int (0 : Int32)])) :: (a18, .inl (X.2.2.1 0, 6, .inl (fun _ => 0))) :: (a19, .inl (X.2.2.1 0, 6, .inl (fun _ => 0))) :: (a20, .inl (X.2.2.1 0, 6, .inl (fun _ => 0))) :: (a21, .inl (X.2.2.1 0, 6, .inl (fun _ => 0))) :: (a22, .inl (X.2.2.1 0, 6, .inl (fun _ => 0))) :: (a23, .inl (X.2.2.1 0, 448, .inl (fun _ => 0))) :: (a25, .inr (5, [.ref a26])) :: (a26, .inl (X.2.2.1 0, 1200, .inl (fun _ => (-1 : Int32)))) :: (a28, .inr (7, [.ref a29, .int (0 : Int32)])) :: (a29, .inl (X.2.2.1 0, 6, .inl (fun _ => 0))) :: (a31, .inr (7, [.ref a32, .int (0 : Int32)])) :: (a32, .inl (X.2.2.1 0, 6, .inl (fun _ => 0))) :: (a34, .inr (7, [.ref a35, .int (0 : Int32)])) :: (a35, .inl (X.2.2.1 0, 6, .inl (fun _ => 0))) :: (z71, .inl (X.2.2.1 0, 64, .inl (fun _ => 0))) :: (z72, .inl (X.2.2.1 0, 64, .inl (fun _ => 0))) :: (z73, .inl (X.2.2.1 0, 64, .inl (fun _ => 0))) :: (z74, .inl (X.2.2.1 0, 16, .inl (fun _ => 0))) :: (z75, .inl (X.2.2.1 0, 18, .inl (fun _ => 0))) :: (z76, .inl (X.2.2.1 0, 17, .inl (fun _ => 0))) :: (z77, .inl (X.2.2.1 0, 3, .inl (fun _ => 0))) :: []) H) (hD : va_D (Az X) ((x0, .inr (10, [.ref a1, .ref a3, .ref a5, .ref a6, .ref a17, .ref a25, .int (0 : Int32), .int (0 : Int32), .int (0 : Int32), .int (0 : Int32)])) :: (a1, .inr (0, [.int (0 : Int32), .ref X.2.2.2.2, .int 0])) :: (a3, .inr (0, [.int (0 : Int32), .ref X.2.2.2.2, .int 0])) :: (a5, .inl (X.2.2.1 4, 3, .inr (.inr (.inr (.inr (va_up (va_up (va_up (fun _ => none) (0 : Int32).toNatClampNeg (some a28)) ((0 : Int32) + 1).toNatClampNeg (some a31)) (((0 : Int32) + 1) + 1).toNatClampNeg (some a34))))))) :: (a6, .inr (8, [.ref a7, .ref a11])) :: (a7, .inl (X.2.2.1 2, 3, .inr (.inr (.inr (.inr (va_up (va_up (va_up (fun _ => none) (0 : Int32).toNatClampNeg (some a8)) (1 : Int32).toNatClampNeg (some a9)) (2 : Int32).toNatClampNeg (some a10))))))) :: (a8, .inr (2, [.int (1000 : Int32), .int (10 : Int32), .int (5 : Int32)])) :: (a9, .inr (2, [.int (3000 : Int32), .int (10 : Int32), .int (20 : Int32)])) :: (a10, .inr (2, [.int (9000 : Int32), .int (10 : Int32), .int (60 : Int32)])) :: (a11, .inl (X.2.2.1 3, 4, .inr (.inr (.inr (.inr (va_up (va_up (va_up (va_up (fun _ => none) (0 : Int32).toNatClampNeg (some a12)) (1 : Int32).toNatClampNeg (some a13)) (2 : Int32).toNatClampNeg (some a14)) (3 : Int32).toNatClampNeg (some a15))))))) :: (a12, .inr (6, [.int (-1 : Int32), .int (0 : Int32)])) :: (a13, .inr (6, [.int (-1 : Int32), .int (0 : Int32)])) :: (a14, .inr (6, [.int (-1 : Int32), .int (0 : Int32)])) :: (a15, .inr (6, [.int (-1 : Int32), .int (0 : Int32)])) :: (a17, .inr (4, [.ref a18, .ref a19, .ref a20, .ref a21, .ref a22, .ref a23, .int (0 : Int32), .int (0 : Int32)])) :: (a18, .inl (X.2.2.1 0, 6, .inl (fun _ => 0))) :: (a19, .inl (X.2.2.1 0, 6, .inl (fun _ => 0))) :: (a20, .inl (X.2.2.1 0, 6, .inl (fun _ => 0))) :: (a21, .inl (X.2.2.1 0, 6, .inl (fun _ => 0))) :: (a22, .inl (X.2.2.1 0, 6, .inl (fun _ => 0))) :: (a23, .inl (X.2.2.1 0, 448, .inl (fun _ => 0))) :: (a25, .inr (5, [.ref a26])) :: (a26, .inl (X.2.2.1 0, 1200, .inl (fun _ => (-1 : Int32)))) :: (a28, .inr (7, [.ref a29, .int (0 : Int32)])) :: (a29, .inl (X.2.2.1 0, 6, .inl (fun _ => 0))) :: (a31, .inr (7, [.ref a32, .int (0 : Int32)])) :: (a32, .inl (X.2.2.1 0, 6, .inl (fun _ => 0))) :: (a34, .inr (7, [.ref a35, .int (0 : Int32)])) :: (a35, .inl (X.2.2.1 0, 6, .inl (fun _ => 0))) :: (z71, .inl (X.2.2.1 0, 64, .inl (fun _ => 0))) :: (z72, .inl (X.2.2.1 0, 64, .inl (fun _ => 0))) :: (z73, .inl (X.2.2.1 0, 64, .inl (fun _ => 0))) :: (z74, .inl (X.2.2.1 0, 16, .inl (fun _ => 0))) :: (z75, .inl (X.2.2.1 0, 18, .inl (fun _ => 0))) :: (z76, .inl (X.2.2.1 0, 17, .inl (fun _ => 0))) :: (z77, .inl (X.2.2.1 0, 3, .inl (fun _ => 0))) :: [])) : HW X (adS x0 a1 a3 a5 a6 a7 a8 a9 a10 a11 a12 a13 a14 a15 a17 a18 a19 a20 a21 a22 a23 a25 a26 a28 a29 a31 a32 a34 a35 z71 z72 z73 z74 z75 z76 z77) W0 H := by
  refine HW.ofList keys0 hP hD (fun t i hl => ?_)
  have hm := keys0_all hl
  simp only [keys0, List.mem_cons, List.not_mem_nil, or_false, Prod.mk.injEq] at hm
  rcases hm with ⟨rfl, rfl⟩ | ⟨rfl, rfl⟩ | ⟨rfl, rfl⟩ | ⟨rfl, rfl⟩ | ⟨rfl, rfl⟩ | ⟨rfl, rfl⟩ | ⟨rfl, rfl⟩ | ⟨rfl, rfl⟩ | ⟨rfl, rfl⟩ | ⟨rfl, rfl⟩ | ⟨rfl, rfl⟩ | ⟨rfl, rfl⟩ | ⟨rfl, rfl⟩ | ⟨rfl, rfl⟩ | ⟨rfl, rfl⟩ | ⟨rfl, rfl⟩ | ⟨rfl, rfl⟩ | ⟨rfl, rfl⟩ | ⟨rfl, rfl⟩ | ⟨rfl, rfl⟩ | ⟨rfl, rfl⟩ | ⟨rfl, rfl⟩ | ⟨rfl, rfl⟩ | ⟨rfl, rfl⟩ | ⟨rfl, rfl⟩ | ⟨rfl, rfl⟩ | ⟨rfl, rfl⟩ | ⟨rfl, rfl⟩ | ⟨rfl, rfl⟩ | ⟨rfl, rfl⟩ | ⟨rfl, rfl⟩ | ⟨rfl, rfl⟩ | ⟨rfl, rfl⟩ | ⟨rfl, rfl⟩ | ⟨rfl, rfl⟩ | ⟨rfl, rfl⟩
  · exact ⟨0, _, rfl, rfl, id⟩
  · exact ⟨1, _, rfl, rfl, id⟩
  · exact ⟨2, _, rfl, rfl, id⟩
  · refine ⟨3, _, rfl, rfl, va_at_refs (fun j hj => ?_)⟩
    match j, hj with
    | 0, _ => rfl
    | 1, _ => rfl
    | 2, _ => rfl
  · exact ⟨4, _, rfl, rfl, id⟩
  · refine ⟨5, _, rfl, rfl, va_at_refs (fun j hj => ?_)⟩
    match j, hj with
    | 0, _ => rfl
    | 1, _ => rfl
    | 2, _ => rfl
  · exact ⟨6, _, rfl, rfl, id⟩
  · exact ⟨7, _, rfl, rfl, id⟩
  · exact ⟨8, _, rfl, rfl, id⟩
  · refine ⟨9, _, rfl, rfl, va_at_refs (fun j hj => ?_)⟩
    match j, hj with
    | 0, _ => rfl
    | 1, _ => rfl
    | 2, _ => rfl
    | 3, _ => rfl
  · exact ⟨10, _, rfl, rfl, id⟩
  · exact ⟨11, _, rfl, rfl, id⟩
  · exact ⟨12, _, rfl, rfl, id⟩
  · exact ⟨13, _, rfl, rfl, id⟩
  · exact ⟨14, _, rfl, rfl, id⟩
  · exact ⟨15, _, rfl, rfl, id⟩
  · exact ⟨16, _, rfl, rfl, id⟩
  · exact ⟨17, _, rfl, rfl, id⟩
  · exact ⟨18, _, rfl, rfl, id⟩
  · exact ⟨19, _, rfl, rfl, id⟩
  · exact ⟨20, _, rfl, rfl, id⟩
  · exact ⟨21, _, rfl, rfl, id⟩
  · exact ⟨22, _, rfl, rfl, id⟩
  · exact ⟨23, _, rfl, rfl, id⟩
  · exact ⟨24, _, rfl, rfl, id⟩
  · exact ⟨25, _, rfl, rfl, id⟩
  · exact ⟨26, _, rfl, rfl, id⟩
  · exact ⟨27, _, rfl, rfl, id⟩
  · exact ⟨28, _, rfl, rfl, id⟩
  · exact ⟨29, _, rfl, rfl, id⟩
  · exact ⟨30, _, rfl, rfl, id⟩
  · exact ⟨31, _, rfl, rfl, id⟩
  · exact ⟨32, _, rfl, rfl, id⟩
  · exact ⟨33, _, rfl, rfl, id⟩
  · exact ⟨34, _, rfl, rfl, id⟩
  · exact ⟨35, _, rfl, rfl, id⟩
