def step (σ : Wd) (op w1 w2 w3 w4 w5 : Int32) : Option Wd :=
  if op = 0 then c_unit σ w1 w2 else
  if op = 1 then c_diagram σ w1 w2 w3 w4 w5 else
  if op = 2 then c_exam σ w1 w2 w3 w4 else
  if op = 3 then c_list σ w1 w2 w3 else
  if op = 4 then c_fault σ w1 w2 w3 w4 else
  if op = 5 then c_pin σ w1 w2 else
  if op = 6 then c_whyNot σ w1 w2 else
  if op = 7 then c_allocation σ w1 else
  if op = 8 then c_allocationAnew σ w1 else
  if op = 9 then c_lack σ else
  if op = 10 then c_day σ else
  if op = 11 then c_examine σ w1 w2 else
  if op = 12 then c_lathe σ w1 else
  if op = 13 then c_mend σ w1 w2 else
  if op = 14 then c_today σ else
  if op = 15 then c_about σ w1 w2 else
  if op = 16 then c_clock σ w1 w2 w3 else
  if op = 17 then c_axle σ w1 w2 else
  if op = 18 then c_faultAt σ w1 w2 w3 else
  if op = 19 then c_stands σ w1 w2 else
  if op = 20 then c_shunts σ else
  if op = 21 then c_ran σ w1 w2 else
  if op = 22 then c_kmAnew σ w1 else
  some σ
theorem tsw_out23 {x : Int32} (e0 : ¬ x = 0) (e1 : ¬ x = 1) (e2 : ¬ x = 2) (e3 : ¬ x = 3) (e4 : ¬ x = 4) (e5 : ¬ x = 5) (e6 : ¬ x = 6) (e7 : ¬ x = 7) (e8 : ¬ x = 8) (e9 : ¬ x = 9) (e10 : ¬ x = 10) (e11 : ¬ x = 11) (e12 : ¬ x = 12) (e13 : ¬ x = 13) (e14 : ¬ x = 14) (e15 : ¬ x = 15) (e16 : ¬ x = 16) (e17 : ¬ x = 17) (e18 : ¬ x = 18) (e19 : ¬ x = 19) (e20 : ¬ x = 20) (e21 : ¬ x = 21) (e22 : ¬ x = 22) : x.toInt < 0 ∨ 22 < x.toInt := by
  have a0 := tsw_ne 0 0 (by decide) e0
  have a1 := tsw_ne 1 1 (by decide) e1
  have a2 := tsw_ne 2 2 (by decide) e2
  have a3 := tsw_ne 3 3 (by decide) e3
  have a4 := tsw_ne 4 4 (by decide) e4
  have a5 := tsw_ne 5 5 (by decide) e5
  have a6 := tsw_ne 6 6 (by decide) e6
  have a7 := tsw_ne 7 7 (by decide) e7
  have a8 := tsw_ne 8 8 (by decide) e8
  have a9 := tsw_ne 9 9 (by decide) e9
  have a10 := tsw_ne 10 10 (by decide) e10
  have a11 := tsw_ne 11 11 (by decide) e11
  have a12 := tsw_ne 12 12 (by decide) e12
  have a13 := tsw_ne 13 13 (by decide) e13
  have a14 := tsw_ne 14 14 (by decide) e14
  have a15 := tsw_ne 15 15 (by decide) e15
  have a16 := tsw_ne 16 16 (by decide) e16
  have a17 := tsw_ne 17 17 (by decide) e17
  have a18 := tsw_ne 18 18 (by decide) e18
  have a19 := tsw_ne 19 19 (by decide) e19
  have a20 := tsw_ne 20 20 (by decide) e20
  have a21 := tsw_ne 21 21 (by decide) e21
  have a22 := tsw_ne 22 22 (by decide) e22
  omega
theorem l_step (X : Xt) (hst : X.1.stackTraces = false) (b L : Nat) (xs : Nat → Int32) (cs : Nat × Nat) (ad : Ad) (σ σ' : Wd) (i : Int32) (hcs : cs.1 + 6 ≤ 601024 ∧ cs.2 + 30 ≤ 7293033) (h0 : inb i L) (h1 : inb (i + 1) L) (h2 : inb (i + 2) L) (h3 : inb (i + 3) L) (h4 : inb (i + 4) L) (h5 : inb (i + 5) L) (hc : step σ (xs i.toNatClampNeg &&& 31) (xs (i + 1).toNatClampNeg) (xs (i + 2).toNatClampNeg) (xs (i + 3).toNatClampNeg) (xs (i + 4).toNatClampNeg) (xs (i + 5).toNatClampNeg) = some σ') (hK : ∀ ad', Fx ad ad' → Lw X b L xs (cs.1 + 6, cs.2 + 30) ad' σ' 1611 (lvB b ad' i) []) : Lw X b L xs cs ad σ 33 (lvB b ad i) [] := by
  refine q_aload_n 0 rfl dL_law_33 ?_
  refine q_iload 4 rfl dL_law_34 ?_
  refine q_sld h0 dL_law_36 ?_
  refine q_bipush 31 (by decide) dL_law_37 ?_
  refine q_iand dL_law_39 ?_
  unfold step at hc
  by_cases e0 : xs i.toNatClampNeg &&& 31 = 0
  · rw [if_pos e0] at hc
    exact q_tswIn (off := 108) 148 e0 dL_law_40 (by decide) (by decide) (by decide) (by decide) (by decide) (lc_unit X hst b L xs cs ad σ σ' i hcs h1 h2 h3 h4 h5 hc hK)
  rw [if_neg e0] at hc
  by_cases e1 : xs i.toNatClampNeg &&& 31 = 1
  · rw [if_pos e1] at hc
    exact q_tswIn (off := 176) 216 e1 dL_law_40 (by decide) (by decide) (by decide) (by decide) (by decide) (lc_diagram X hst b L xs cs ad σ σ' i hcs h1 h2 h3 h4 h5 hc hK)
  rw [if_neg e1] at hc
  by_cases e2 : xs i.toNatClampNeg &&& 31 = 2
  · rw [if_pos e2] at hc
    exact q_tswIn (off := 280) 320 e2 dL_law_40 (by decide) (by decide) (by decide) (by decide) (by decide) (lc_exam X hst b L xs cs ad σ σ' i hcs h1 h2 h3 h4 h5 hc hK)
  rw [if_neg e2] at hc
  by_cases e3 : xs i.toNatClampNeg &&& 31 = 3
  · rw [if_pos e3] at hc
    exact q_tswIn (off := 372) 412 e3 dL_law_40 (by decide) (by decide) (by decide) (by decide) (by decide) (lc_list X hst b L xs cs ad σ σ' i hcs h1 h2 h3 h4 h5 hc hK)
  rw [if_neg e3] at hc
  by_cases e4 : xs i.toNatClampNeg &&& 31 = 4
  · rw [if_pos e4] at hc
    exact q_tswIn (off := 452) 492 e4 dL_law_40 (by decide) (by decide) (by decide) (by decide) (by decide) (lc_fault X hst b L xs cs ad σ σ' i hcs h1 h2 h3 h4 h5 hc hK)
  rw [if_neg e4] at hc
  by_cases e5 : xs i.toNatClampNeg &&& 31 = 5
  · rw [if_pos e5] at hc
    exact q_tswIn (off := 544) 584 e5 dL_law_40 (by decide) (by decide) (by decide) (by decide) (by decide) (lc_pin X hst b L xs cs ad σ σ' i hcs h1 h2 h3 h4 h5 hc hK)
  rw [if_neg e5] at hc
  by_cases e6 : xs i.toNatClampNeg &&& 31 = 6
  · rw [if_pos e6] at hc
    exact q_tswIn (off := 612) 652 e6 dL_law_40 (by decide) (by decide) (by decide) (by decide) (by decide) (lc_whyNot X hst b L xs cs ad σ σ' i hcs h1 h2 h3 h4 h5 hc hK)
  rw [if_neg e6] at hc
  by_cases e7 : xs i.toNatClampNeg &&& 31 = 7
  · rw [if_pos e7] at hc
    exact q_tswIn (off := 680) 720 e7 dL_law_40 (by decide) (by decide) (by decide) (by decide) (by decide) (lc_allocation X hst b L xs cs ad σ σ' i hcs h1 h2 h3 h4 h5 hc hK)
  rw [if_neg e7] at hc
  by_cases e8 : xs i.toNatClampNeg &&& 31 = 8
  · rw [if_pos e8] at hc
    exact q_tswIn (off := 736) 776 e8 dL_law_40 (by decide) (by decide) (by decide) (by decide) (by decide) (lc_allocationAnew X hst b L xs cs ad σ σ' i hcs h1 h2 h3 h4 h5 hc hK)
  rw [if_neg e8] at hc
  by_cases e9 : xs i.toNatClampNeg &&& 31 = 9
  · rw [if_pos e9] at hc
    exact q_tswIn (off := 792) 832 e9 dL_law_40 (by decide) (by decide) (by decide) (by decide) (by decide) (lc_lack X hst b L xs cs ad σ σ' i hcs h1 h2 h3 h4 h5 hc hK)
  rw [if_neg e9] at hc
  by_cases e10 : xs i.toNatClampNeg &&& 31 = 10
  · rw [if_pos e10] at hc
    exact q_tswIn (off := 805) 845 e10 dL_law_40 (by decide) (by decide) (by decide) (by decide) (by decide) (lc_day X hst b L xs cs ad σ σ' i hcs h1 h2 h3 h4 h5 hc hK)
  rw [if_neg e10] at hc
  by_cases e11 : xs i.toNatClampNeg &&& 31 = 11
  · rw [if_pos e11] at hc
    exact q_tswIn (off := 849) 889 e11 dL_law_40 (by decide) (by decide) (by decide) (by decide) (by decide) (lc_examine X hst b L xs cs ad σ σ' i hcs h1 h2 h3 h4 h5 hc hK)
  rw [if_neg e11] at hc
  by_cases e12 : xs i.toNatClampNeg &&& 31 = 12
  · rw [if_pos e12] at hc
    exact q_tswIn (off := 917) 957 e12 dL_law_40 (by decide) (by decide) (by decide) (by decide) (by decide) (lc_lathe X hst b L xs cs ad σ σ' i hcs h1 h2 h3 h4 h5 hc hK)
  rw [if_neg e12] at hc
  by_cases e13 : xs i.toNatClampNeg &&& 31 = 13
  · rw [if_pos e13] at hc
    exact q_tswIn (off := 973) 1013 e13 dL_law_40 (by decide) (by decide) (by decide) (by decide) (by decide) (lc_mend X hst b L xs cs ad σ σ' i hcs h1 h2 h3 h4 h5 hc hK)
  rw [if_neg e13] at hc
  by_cases e14 : xs i.toNatClampNeg &&& 31 = 14
  · rw [if_pos e14] at hc
    exact q_tswIn (off := 1041) 1081 e14 dL_law_40 (by decide) (by decide) (by decide) (by decide) (by decide) (lc_today X hst b L xs cs ad σ σ' i hcs h1 h2 h3 h4 h5 hc hK)
  rw [if_neg e14] at hc
  by_cases e15 : xs i.toNatClampNeg &&& 31 = 15
  · rw [if_pos e15] at hc
    exact q_tswIn (off := 1054) 1094 e15 dL_law_40 (by decide) (by decide) (by decide) (by decide) (by decide) (lc_about X hst b L xs cs ad σ σ' i hcs h1 h2 h3 h4 h5 hc hK)
  rw [if_neg e15] at hc
  by_cases e16 : xs i.toNatClampNeg &&& 31 = 16
  · rw [if_pos e16] at hc
    exact q_tswIn (off := 1122) 1162 e16 dL_law_40 (by decide) (by decide) (by decide) (by decide) (by decide) (lc_clock X hst b L xs cs ad σ σ' i hcs h1 h2 h3 h4 h5 hc hK)
  rw [if_neg e16] at hc
  by_cases e17 : xs i.toNatClampNeg &&& 31 = 17
  · rw [if_pos e17] at hc
    exact q_tswIn (off := 1218) 1258 e17 dL_law_40 (by decide) (by decide) (by decide) (by decide) (by decide) (lc_axle X hst b L xs cs ad σ σ' i hcs h1 h2 h3 h4 h5 hc hK)
  rw [if_neg e17] at hc
  by_cases e18 : xs i.toNatClampNeg &&& 31 = 18
  · rw [if_pos e18] at hc
    exact q_tswIn (off := 1286) 1326 e18 dL_law_40 (by decide) (by decide) (by decide) (by decide) (by decide) (lc_faultAt X hst b L xs cs ad σ σ' i hcs h1 h2 h3 h4 h5 hc hK)
  rw [if_neg e18] at hc
  by_cases e19 : xs i.toNatClampNeg &&& 31 = 19
  · rw [if_pos e19] at hc
    exact q_tswIn (off := 1366) 1406 e19 dL_law_40 (by decide) (by decide) (by decide) (by decide) (by decide) (lc_stands X hst b L xs cs ad σ σ' i hcs h1 h2 h3 h4 h5 hc hK)
  rw [if_neg e19] at hc
  by_cases e20 : xs i.toNatClampNeg &&& 31 = 20
  · rw [if_pos e20] at hc
    exact q_tswIn (off := 1434) 1474 e20 dL_law_40 (by decide) (by decide) (by decide) (by decide) (by decide) (lc_shunts X hst b L xs cs ad σ σ' i hcs h1 h2 h3 h4 h5 hc hK)
  rw [if_neg e20] at hc
  by_cases e21 : xs i.toNatClampNeg &&& 31 = 21
  · rw [if_pos e21] at hc
    exact q_tswIn (off := 1447) 1487 e21 dL_law_40 (by decide) (by decide) (by decide) (by decide) (by decide) (lc_ran X hst b L xs cs ad σ σ' i hcs h1 h2 h3 h4 h5 hc hK)
  rw [if_neg e21] at hc
  by_cases e22 : xs i.toNatClampNeg &&& 31 = 22
  · rw [if_pos e22] at hc
    exact q_tswIn (off := 1515) 1555 e22 dL_law_40 (by decide) (by decide) (by decide) (by decide) (by decide) (lc_kmAnew X hst b L xs cs ad σ σ' i hcs h1 h2 h3 h4 h5 hc hK)
  rw [if_neg e22] at hc
  cases hc
  exact q_tswOut 1611 dL_law_40 (tsw_out23 e0 e1 e2 e3 e4 e5 e6 e7 e8 e9 e10 e11 e12 e13 e14 e15 e16 e17 e18 e19 e20 e21 e22) (by decide) (q_widen (Nat.le_add_right _ _) (Nat.le_add_right _ _) (hK ad (Fx.rf ad)))
theorem ofN {n : Nat} (h : n < 2 ^ 31) : (Int32.ofNat n).toInt = n := Int32.toInt_ofNat_of_lt h
theorem clampN {n : Nat} (h : n < 2 ^ 31) : (Int32.ofNat n).toNatClampNeg = n := by
  show (Int32.ofNat n).toInt.toNat = n
  rw [ofN h]
  rfl
theorem inbN {n L : Nat} (h : n < L) (hL : L ≤ 3072) : inb (Int32.ofNat n) L := by
  have h31 : n < 2 ^ 31 := by omega
  refine ⟨fun z => ?_, by rw [clampN h31]; exact h⟩
  have z2 := Int32.lt_iff_toInt_lt.mp z
  rw [ofN h31] at z2
  have z3 : (n : Int) < 0 := z2
  omega
theorem ofNk (n k : Nat) : Int32.ofNat n + Int32.ofNat k = Int32.ofNat (n + k) := (Int32.ofNat_add n k).symm
theorem l_back {X : Xt} {b L : Nat} {xs : Nat → Int32} {cs : Nat × Nat} {ad : Ad} {σ : Wd} {i : Int32} (k : Lw X b L xs cs ad σ 23 (lvB b ad (i + 6)) []) : Lw X b L xs cs ad σ 1611 (lvB b ad i) [] := by
  refine q_iinc 6 [(4, .int _), (0, .ref _), (1, .ref _), (2, .ref _), (3, .ref _)] 4 rfl (by decide) rfl (by decide) dL_law_1611 ?_
  refine q_goto 23 dL_law_1614 (by decide) ?_
  exact q_sub [1, 2, 3, 4, 0] rfl k
/-- every step from the j-th on comes to a next one -/
def okRun (xs : Nat → Int32) (L : Nat) : Nat → Nat → Wd → Prop
  | 0, _, _ => True
  | n + 1, j, σ => 6 * j + 6 ≤ L → ∃ σ', step σ (xs (6 * j) &&& 31) (xs (6 * j + 1)) (xs (6 * j + 2)) (xs (6 * j + 3)) (xs (6 * j + 4)) (xs (6 * j + 5)) = some σ' ∧ okRun xs L n (j + 1) σ'
theorem l_loop (X : Xt) (hst : X.1.stackTraces = false) (b L : Nat) (hL : L ≤ 3072) (xs : Nat → Int32) : ∀ (n j : Nat) (cs : Nat × Nat) (ad : Ad) (σ : Wd), okRun xs L n j σ → L < 6 * (j + n) + 6 → 6 * j ≤ L → cs.1 + 6 * n ≤ 601024 → cs.2 + 30 * n ≤ 7293033 → Lw X b L xs cs ad σ 23 (lvB b ad (Int32.ofNat (6 * j))) [] := by
  intro n
  induction n with
  | zero =>
    intro j cs ad σ hr hn hj hc1 hc2
    refine q_iload 4 rfl dL_law_23 ?_
    refine q_aload_n 0 rfl dL_law_25 ?_
    refine q_slen dL_law_26 ?_
    refine q_bipush 6 (by decide) dL_law_27 ?_
    refine q_isub dL_law_29 ?_
    refine q_icmp_gt 1617 dL_law_30 (by decide) (fun _ => ?_) (fun hc => absurd ?_ hc)
    · refine q_iconst 1 (by decide) dL_law_1617 ?_
      exact q_end ⟨by omega, by omega⟩ dL_law_1618
    · refine Int32.lt_iff_toInt_lt.mpr ?_
      rw [ofN (n := 6 * j) (by omega), Int32.toInt_sub, ofN (n := L) (by omega), show (6 : Int32).toInt = 6 from by decide, Int.bmod_eq_of_le (by omega) (by omega)]
      omega
  | succ n ih =>
    intro j cs ad σ hr hn hj hc1 hc2
    refine q_iload 4 rfl dL_law_23 ?_
    refine q_aload_n 0 rfl dL_law_25 ?_
    refine q_slen dL_law_26 ?_
    refine q_bipush 6 (by decide) dL_law_27 ?_
    refine q_isub dL_law_29 ?_
    refine q_icmp_gt 1617 dL_law_30 (by decide) (fun _ => ?_) (fun hc => ?_)
    · refine q_iconst 1 (by decide) dL_law_1617 ?_
      exact q_end ⟨by omega, by omega⟩ dL_law_1618
    · have hle : 6 * j + 6 ≤ L := by
        refine Nat.le_of_not_lt (fun z => hc (Int32.lt_iff_toInt_lt.mpr ?_))
        rw [ofN (n := 6 * j) (by omega), Int32.toInt_sub, ofN (n := L) (by omega), show (6 : Int32).toInt = 6 from by decide, Int.bmod_eq_of_le (by omega) (by omega)]
        omega
      obtain ⟨σ', hs, hr2⟩ := hr hle
      have k1 : Int32.ofNat (6 * j) + 1 = Int32.ofNat (6 * j + 1) := ofNk (6 * j) 1
      have k2 : Int32.ofNat (6 * j) + 2 = Int32.ofNat (6 * j + 2) := ofNk (6 * j) 2
      have k3 : Int32.ofNat (6 * j) + 3 = Int32.ofNat (6 * j + 3) := ofNk (6 * j) 3
      have k4 : Int32.ofNat (6 * j) + 4 = Int32.ofNat (6 * j + 4) := ofNk (6 * j) 4
      have k5 : Int32.ofNat (6 * j) + 5 = Int32.ofNat (6 * j + 5) := ofNk (6 * j) 5
      have k6 : Int32.ofNat (6 * j) + 6 = Int32.ofNat (6 * (j + 1)) := ofNk (6 * j) 6
      refine l_step X hst b L xs cs ad σ σ' (Int32.ofNat (6 * j)) ⟨by omega, by omega⟩ (inbN (by omega) hL) (by rw [k1]; exact inbN (by omega) hL) (by rw [k2]; exact inbN (by omega) hL) (by rw [k3]; exact inbN (by omega) hL) (by rw [k4]; exact inbN (by omega) hL) (by rw [k5]; exact inbN (by omega) hL) ?_ (fun ad' hfx => l_back ?_)
      · rw [k1, k2, k3, k4, k5, clampN (n := 6 * j) (by omega), clampN (n := 6 * j + 1) (by omega), clampN (n := 6 * j + 2) (by omega), clampN (n := 6 * j + 3) (by omega), clampN (n := 6 * j + 4) (by omega), clampN (n := 6 * j + 5) (by omega)]
        exact hs
      · rw [k6]
        exact ih (j + 1) (cs.1 + 6, cs.2 + 30) ad' σ' hr2 (by omega) (by omega) (by show cs.1 + 6 + 6 * n ≤ _; omega) (by show cs.2 + 30 + 30 * n ≤ _; omega)
