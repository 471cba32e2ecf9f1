theorem w_0 : Cond.fieldLink RX0 9 "Stablingroad$Diagram" "pinnedTo" "I" ∈ G_ := gt2 203 (by decide +kernel) (by decide +kernel)
theorem w_1 : Cond.fieldLink RX1 7 "Stablingroad$Exam" "limit" "I" ∈ G_ := gt1 75 (by decide +kernel) (by decide +kernel)
theorem w_2 : Cond.fieldLink RX1 13 "Stablingroad$Exam" "tolerance" "I" ∈ G_ := gt1 77 (by decide +kernel) (by decide +kernel)
theorem w_3 : Cond.methodLink RX1 19 yX1_bound ∈ G_ := gt3 71 (by decide +kernel) (by decide +kernel)
theorem w_4 : Cond.instanceMethod yX1_bound ∈ G_ := gt2 231 (by decide +kernel) (by decide +kernel)
theorem w_5 : Cond.selects RX1 yX1_bound yX1_bound ∈ G_ := gt2 232 (by decide +kernel) (by decide +kernel)
theorem w_6 : Cond.initialized RX1 ∈ G_ := gt1 6 (by decide +kernel) (by decide +kernel)
theorem w_7 : Cond.code yX1_bound cX1_bound 1 (some (.int)) ∈ G_ := gt2 233 (by decide +kernel) (by decide +kernel)
theorem w_8 : Cond.fieldLink RX1 16 "Stablingroad$Exam" "days" "I" ∈ G_ := gt1 79 (by decide +kernel) (by decide +kernel)
theorem w_9 : Cond.fieldLink RX5 9 "Stablingroad$Permit" "days" "I" ∈ G_ := gt1 95 (by decide +kernel) (by decide +kernel)
theorem w_10 : Cond.fieldLink RX5 15 "Stablingroad$Permit" "worstLine" "I" ∈ G_ := gt1 97 (by decide +kernel) (by decide +kernel)
theorem w_11 : Cond.fieldLink RX2 9 "Stablingroad$Fault" "kind" "I" ∈ G_ := gt4 66 (by decide +kernel) (by decide +kernel)
theorem w_12 : Cond.fieldLink RX2 21 "Stablingroad$Fault" "amount" "I" ∈ G_ := gt4 76 (by decide +kernel) (by decide +kernel)
theorem w_13 : Cond.fieldLink RX6 15 "Stablingroad$Row" "count" "I" ∈ G_ := gt1 162 (by decide +kernel) (by decide +kernel)
theorem w_14 : Cond.fieldLink RX6 9 "Stablingroad$Row" "standing" "[I" ∈ G_ := gt1 161 (by decide +kernel) (by decide +kernel)
theorem w_15 : Cond.fieldLink RX4 9 "Stablingroad$Past" "runners" "[I" ∈ G_ := gt1 152 (by decide +kernel) (by decide +kernel)
theorem w_16 : Cond.methodLink RX4 21 yX4_unitThatRan ∈ G_ := gt4 112 (by decide +kernel) (by decide +kernel)
theorem w_17 : Cond.instanceMethod yX4_unitThatRan ∈ G_ := gt3 212 (by decide +kernel) (by decide +kernel)
theorem w_18 : Cond.selects RX4 yX4_unitThatRan yX4_unitThatRan ∈ G_ := gt3 213 (by decide +kernel) (by decide +kernel)
theorem w_19 : Cond.initialized RX4 ∈ G_ := gt1 9 (by decide +kernel) (by decide +kernel)
theorem w_20 : Cond.code yX4_unitThatRan cX4_unitThatRan 4 (some (.int)) ∈ G_ := gt3 214 (by decide +kernel) (by decide +kernel)
theorem w_21 : Cond.fieldLink RX8 18 "Stablingroad$Unit" "kmClocks" "[I" ∈ G_ := gt2 94 (by decide +kernel) (by decide +kernel)
theorem w_22 : Cond.fieldLink RX8 22 "Stablingroad$Unit" "dayClocks" "[I" ∈ G_ := gt2 95 (by decide +kernel) (by decide +kernel)
theorem w_23 : Cond.fieldLink RX8 25 "Stablingroad$Unit" "axles" "[I" ∈ G_ := gt2 96 (by decide +kernel) (by decide +kernel)
theorem w_24 : Cond.fieldLink RX8 32 "Stablingroad$Unit" "km" "I" ∈ G_ := gt2 92 (by decide +kernel) (by decide +kernel)
theorem w_25 : Cond.methodLink RX8 44 yX8_wear ∈ G_ := gt3 188 (by decide +kernel) (by decide +kernel)
theorem w_26 : Cond.static yX8_wear ∈ G_ := gt3 189 (by decide +kernel) (by decide +kernel)
theorem w_27 : Cond.initialized RX8 ∈ G_ := gt1 18 (by decide +kernel) (by decide +kernel)
theorem w_28 : Cond.code yX8_wear cX8_wear 2 (some (.int)) ∈ G_ := gt3 190 (by decide +kernel) (by decide +kernel)
theorem w_29 : Cond.methodLink RX8 48 yX8_axleSize ∈ G_ := gt3 106 (by decide +kernel) (by decide +kernel)
theorem w_30 : Cond.instanceMethod yX8_axleSize ∈ G_ := gt3 107 (by decide +kernel) (by decide +kernel)
theorem w_31 : Cond.selects RX8 yX8_axleSize yX8_axleSize ∈ G_ := gt3 108 (by decide +kernel) (by decide +kernel)
theorem w_32 : Cond.code yX8_axleSize cX8_axleSize 2 (some (.int)) ∈ G_ := gt3 109 (by decide +kernel) (by decide +kernel)
theorem w_33 : Cond.methodLink RX8 52 Lib.Math.max.name ∈ G_ := gt3 115 (by decide +kernel) (by decide +kernel)
theorem w_34 : Cond.static Lib.Math.max.name ∈ G_ := gt2 132 (by decide +kernel) (by decide +kernel)
theorem w_35 : Cond.initialized "java/lang/Math" ∈ G_ := gt1 20 (by decide +kernel) (by decide +kernel)
theorem w_36 : Cond.code Lib.Math.max.name Lib.Math.max.code 2 (some .int) ∈ G_ := gt2 133 (by decide +kernel) (by decide +kernel)
theorem w_37 : Cond.methodLink RX8 57 Lib.Math.min.name ∈ G_ := gt3 110 (by decide +kernel) (by decide +kernel)
theorem w_38 : Cond.static Lib.Math.min.name ∈ G_ := gt2 166 (by decide +kernel) (by decide +kernel)
theorem w_39 : Cond.code Lib.Math.min.name Lib.Math.min.code 2 (some .int) ∈ G_ := gt2 167 (by decide +kernel) (by decide +kernel)
def f_X0_isOpenTo (σ : Wd) (i : Nat) (p0 : Int32) : Option ((Int32 ⊕ String) × Wd) :=
  gd (i < σ.2.2 9) <|
  if (σ.1 25 i 5) = (-1 : Int32) then
    some (.inl (1 : Int32), σ)
  else
    if (σ.1 25 i 5) = p0 then
      some (.inl (1 : Int32), σ)
    else
      some (.inl (0 : Int32), σ)
theorem nc_X0_isOpenTo (X : Xt) (hst : X.1.stackTraces = false) (ad : Ad) (σ : Wd) (i : Nat) (p0 : Int32) : NC X (fun a => a = ad) yX0_isOpenTo cX0_isOpenTo 2 (some (.boolean)) 0 0 vI (0, 0) ad σ [.ref (ad 25 i), .int p0] (f_X0_isOpenTo σ i p0) := by
  unfold f_X0_isOpenTo
  refine NC.intro RX0 rfl hst (by decide) (Nat.le_of_ble_eq_true rfl) (lv := [(0, .ref _), (1, .int _)]) rfl ?_
  refine r_aload_n 0 rfl dX0_isOpenTo_0 ?_
  refine r_gd (fun h1 => ?_)
  refine r_getf 5 (lvd_25 h1) (cell_25 _ _ _ _) rfl (by decide) in_1 w_0 rfl dX0_isOpenTo_1 ?_
  refine r_iconst (-1) (by decide) dX0_isOpenTo_4 ?_
  refine r_icmp_eq 16 dX0_isOpenTo_5 (by decide) ?_ ?_
  · refine r_iconst (1) (by decide) dX0_isOpenTo_16 ?_
    refine r_goto 21 dX0_isOpenTo_17 (by decide) ?_
    exact r_zret rfl rfl rfl rfl dX0_isOpenTo_21
  · refine r_aload_n 0 rfl dX0_isOpenTo_8 ?_
    refine r_getf 5 (lvd_25 h1) (cell_25 _ _ _ _) rfl (by decide) in_1 w_0 rfl dX0_isOpenTo_9 ?_
    refine r_iload_n 1 rfl dX0_isOpenTo_12 ?_
    refine r_icmp_ne 20 dX0_isOpenTo_13 (by decide) ?_ ?_
    · refine r_iconst (1) (by decide) dX0_isOpenTo_16 ?_
      refine r_goto 21 dX0_isOpenTo_17 (by decide) ?_
      exact r_zret rfl rfl rfl rfl dX0_isOpenTo_21
    · refine r_iconst (0) (by decide) dX0_isOpenTo_20 ?_
      exact r_zret rfl rfl rfl rfl dX0_isOpenTo_21
def f_X1_bound (σ : Wd) (i : Nat) : Option ((Int32 ⊕ String) × Wd) :=
  gd (i < 3) <|
  some (.inl ((σ.1 9 i 0) + (((σ.1 9 i 0) * (σ.1 9 i 1)) / (100 : Int32))), σ)
theorem nc_X1_bound (X : Xt) (hst : X.1.stackTraces = false) (ad : Ad) (σ : Wd) (i : Nat) : NC X (fun a => a = ad) yX1_bound cX1_bound 1 (some (.int)) 0 0 vI (0, 0) ad σ [.ref (ad 9 i)] (f_X1_bound σ i) := by
  unfold f_X1_bound
  refine NC.intro RX1 rfl hst (by decide) (Nat.le_of_ble_eq_true rfl) (lv := [(0, .ref _)]) rfl ?_
  refine r_aload_n 0 rfl dX1_bound_0 ?_
  refine r_gd (fun h1 => ?_)
  refine r_getf 0 (lvb_9 h1) (cell_9 _ _ _ _) rfl (by decide) in_2 w_1 rfl dX1_bound_1 ?_
  refine r_aload_n 0 rfl dX1_bound_4 ?_
  refine r_getf 0 (lvb_9 h1) (cell_9 _ _ _ _) rfl (by decide) in_2 w_1 rfl dX1_bound_5 ?_
  refine r_aload_n 0 rfl dX1_bound_8 ?_
  refine r_getf 1 (lvb_9 h1) (cell_9 _ _ _ _) rfl (by decide) in_2 w_2 rfl dX1_bound_9 ?_
  refine r_imul dX1_bound_12 ?_
  refine r_bipush (100) (by decide) dX1_bound_13 ?_
  refine r_idiv (by decide) dX1_bound_15 ?_
  refine r_iadd dX1_bound_16 ?_
  exact r_iret rfl rfl rfl dX1_bound_17
def f_X1_isOverdue (σ : Wd) (i : Nat) (p0 : Int32) (p1 : Int32) : Option ((Int32 ⊕ String) × Wd) :=
  gd (i < 3) <|
  bx (f_X1_bound σ i) fun v1 σ2 =>
  if v1 < p0 then
    some (.inl (1 : Int32), σ2)
  else
    if p1 ≤ (σ2.1 9 i 2) then
      some (.inl (0 : Int32), σ2)
    else
      some (.inl (1 : Int32), σ2)
theorem nc_X1_isOverdue (X : Xt) (hst : X.1.stackTraces = false) (ad : Ad) (σ : Wd) (i : Nat) (p0 : Int32) (p1 : Int32) : NC X (fun a => a = ad) yX1_isOverdue cX1_isOverdue 3 (some (.boolean)) 1 20 vI (0, 0) ad σ [.ref (ad 9 i), .int p0, .int p1] (f_X1_isOverdue σ i p0 p1) := by
  unfold f_X1_isOverdue
  refine NC.intro RX1 rfl hst (by decide) (Nat.le_of_ble_eq_true rfl) (lv := [(0, .ref _), (1, .int _), (2, .int _)]) rfl ?_
  refine r_iload_n 1 rfl dX1_isOverdue_0 ?_
  refine r_aload_n 0 rfl dX1_isOverdue_1 ?_
  refine r_gd (fun h1 => ?_)
  refine r_callV (n := 0) (As := []) (cell_9 _ _ _ _) (lvb_9 h1) rfl (nc_X1_bound X hst ad _ _) (fun _ h => h) rfl ⟨rfl, by decide, by decide, by decide +kernel⟩ w_3 w_4 w_5 w_6 w_7 rfl rfl (Nat.le_of_ble_eq_true rfl) ⟨by decide, by decide⟩ dX1_isOverdue_2 (fun v1 σ2 => ?_)
  refine r_icmp_gt 16 dX1_isOverdue_5 (by decide) ?_ ?_
  · refine r_iconst (1) (by decide) dX1_isOverdue_16 ?_
    refine r_goto 21 dX1_isOverdue_17 (by decide) ?_
    exact r_zret rfl rfl rfl rfl dX1_isOverdue_21
  · refine r_iload_n 2 rfl dX1_isOverdue_8 ?_
    refine r_aload_n 0 rfl dX1_isOverdue_9 ?_
    refine r_getf 2 (lvb_9 h1) (cell_9 _ _ _ _) rfl (by decide) in_2 w_8 rfl dX1_isOverdue_10 ?_
    refine r_icmp_le 20 dX1_isOverdue_13 (by decide) ?_ ?_
    · refine r_iconst (0) (by decide) dX1_isOverdue_20 ?_
      exact r_zret rfl rfl rfl rfl dX1_isOverdue_21
    · refine r_iconst (1) (by decide) dX1_isOverdue_16 ?_
      refine r_goto 21 dX1_isOverdue_17 (by decide) ?_
      exact r_zret rfl rfl rfl rfl dX1_isOverdue_21
def f_X1_isNear (σ : Wd) (i : Nat) (p0 : Int32) : Option ((Int32 ⊕ String) × Wd) :=
  gd (i < 3) <|
  if (p0 * (100 : Int32)) < ((80 : Int32) * (σ.1 9 i 0)) then
    some (.inl (0 : Int32), σ)
  else
    some (.inl (1 : Int32), σ)
theorem nc_X1_isNear (X : Xt) (hst : X.1.stackTraces = false) (ad : Ad) (σ : Wd) (i : Nat) (p0 : Int32) : NC X (fun a => a = ad) yX1_isNear cX1_isNear 2 (some (.boolean)) 0 0 vI (0, 0) ad σ [.ref (ad 9 i), .int p0] (f_X1_isNear σ i p0) := by
  unfold f_X1_isNear
  refine NC.intro RX1 rfl hst (by decide) (Nat.le_of_ble_eq_true rfl) (lv := [(0, .ref _), (1, .int _)]) rfl ?_
  refine r_iload_n 1 rfl dX1_isNear_0 ?_
  refine r_bipush (100) (by decide) dX1_isNear_1 ?_
  refine r_imul dX1_isNear_3 ?_
  refine r_bipush (80) (by decide) dX1_isNear_4 ?_
  refine r_aload_n 0 rfl dX1_isNear_6 ?_
  refine r_gd (fun h1 => ?_)
  refine r_getf 0 (lvb_9 h1) (cell_9 _ _ _ _) rfl (by decide) in_2 w_1 rfl dX1_isNear_7 ?_
  refine r_imul dX1_isNear_10 ?_
  refine r_icmp_lt 18 dX1_isNear_11 (by decide) ?_ ?_
  · refine r_iconst (0) (by decide) dX1_isNear_18 ?_
    exact r_zret rfl rfl rfl rfl dX1_isNear_19
  · refine r_iconst (1) (by decide) dX1_isNear_14 ?_
    refine r_goto 19 dX1_isNear_15 (by decide) ?_
    exact r_zret rfl rfl rfl rfl dX1_isNear_19
def f_X5_forbids (σ : Wd) (i : Nat) (p0 : Int32) (p1 : Int32) : Option ((Int32 ⊕ String) × Wd) :=
  gd (i < 4) <|
  if (σ.1 11 i 0) = (-1 : Int32) then
    some (.inl (1 : Int32), σ)
  else
    if (σ.1 11 i 0) < p0 then
      some (.inl (1 : Int32), σ)
    else
      if p1 ≤ (σ.1 11 i 1) then
        some (.inl (0 : Int32), σ)
      else
        some (.inl (1 : Int32), σ)
theorem nc_X5_forbids (X : Xt) (hst : X.1.stackTraces = false) (ad : Ad) (σ : Wd) (i : Nat) (p0 : Int32) (p1 : Int32) : NC X (fun a => a = ad) yX5_forbids cX5_forbids 3 (some (.boolean)) 0 0 vI (0, 0) ad σ [.ref (ad 11 i), .int p0, .int p1] (f_X5_forbids σ i p0 p1) := by
  unfold f_X5_forbids
  refine NC.intro RX5 rfl hst (by decide) (Nat.le_of_ble_eq_true rfl) (lv := [(0, .ref _), (1, .int _), (2, .int _)]) rfl ?_
  refine r_aload_n 0 rfl dX5_forbids_0 ?_
  refine r_gd (fun h1 => ?_)
  refine r_getf 0 (lvb_11 h1) (cell_11 _ _ _ _) rfl (by decide) in_6 w_9 rfl dX5_forbids_1 ?_
  refine r_iconst (-1) (by decide) dX5_forbids_4 ?_
  refine r_icmp_eq 24 dX5_forbids_5 (by decide) ?_ ?_
  · refine r_iconst (1) (by decide) dX5_forbids_24 ?_
    refine r_goto 29 dX5_forbids_25 (by decide) ?_
    exact r_zret rfl rfl rfl rfl dX5_forbids_29
  · refine r_iload_n 1 rfl dX5_forbids_8 ?_
    refine r_aload_n 0 rfl dX5_forbids_9 ?_
    refine r_getf 0 (lvb_11 h1) (cell_11 _ _ _ _) rfl (by decide) in_6 w_9 rfl dX5_forbids_10 ?_
    refine r_icmp_gt 24 dX5_forbids_13 (by decide) ?_ ?_
    · refine r_iconst (1) (by decide) dX5_forbids_24 ?_
      refine r_goto 29 dX5_forbids_25 (by decide) ?_
      exact r_zret rfl rfl rfl rfl dX5_forbids_29
    · refine r_iload_n 2 rfl dX5_forbids_16 ?_
      refine r_aload_n 0 rfl dX5_forbids_17 ?_
      refine r_getf 1 (lvb_11 h1) (cell_11 _ _ _ _) rfl (by decide) in_6 w_10 rfl dX5_forbids_18 ?_
      refine r_icmp_le 28 dX5_forbids_21 (by decide) ?_ ?_
      · refine r_iconst (0) (by decide) dX5_forbids_28 ?_
        exact r_zret rfl rfl rfl rfl dX5_forbids_29
      · refine r_iconst (1) (by decide) dX5_forbids_24 ?_
        refine r_goto 29 dX5_forbids_25 (by decide) ?_
        exact r_zret rfl rfl rfl rfl dX5_forbids_29
def j_X2_isGrave_15 (σ : Wd) (ua0 : Nat) : Option ((Int32 ⊕ String) × Wd) :=
  gd (ua0 < σ.2.2 10) <|
  if (σ.1 26 ua0 0) = (2 : Int32) then
    if (σ.1 26 ua0 3) ≤ (50 : Int32) then
      some (.inl (0 : Int32), σ)
    else
      some (.inl (1 : Int32), σ)
  else
    some (.inl (0 : Int32), σ)
def f_X2_isGrave (σ : Wd) (i : Nat) : Option ((Int32 ⊕ String) × Wd) :=
  gd (i < σ.2.2 10) <|
  if (σ.1 26 i 0) = 0 then
    if (4 : Int32) < (σ.1 26 i 3) then
      some (.inl (1 : Int32), σ)
    else
      j_X2_isGrave_15 σ i
  else
    j_X2_isGrave_15 σ i
theorem bj_X2_isGrave_15 (X : Xt) (hst : X.1.stackTraces = false) (ad : Ad) (σ : Wd) (ua0 : Nat) : Bk X (fun a => a = ad) cX2_isGrave 1 RX2 (some (.boolean)) 0 0 vI (0, 0) (0, 0) ad σ 15 [(0, .ref (ad 26 ua0))] [] (j_X2_isGrave_15 σ ua0) := by
  unfold j_X2_isGrave_15
  refine r_aload_n 0 rfl dX2_isGrave_15 ?_
  refine r_gd (fun h2 => ?_)
  refine r_getf 0 (lvd_26 h2) (cell_26 _ _ _ _) rfl (by decide) in_3 w_11 rfl dX2_isGrave_16 ?_
  refine r_iconst (2) (by decide) dX2_isGrave_19 ?_
  refine r_icmp_ne 36 dX2_isGrave_20 (by decide) ?_ ?_
  · refine r_aload_n 0 rfl dX2_isGrave_23 ?_
    refine r_getf 3 (lvd_26 h2) (cell_26 _ _ _ _) rfl (by decide) in_3 w_12 rfl dX2_isGrave_24 ?_
    refine r_bipush (50) (by decide) dX2_isGrave_27 ?_
    refine r_icmp_le 36 dX2_isGrave_29 (by decide) ?_ ?_
    · refine r_iconst (0) (by decide) dX2_isGrave_36 ?_
      exact r_zret rfl rfl rfl rfl dX2_isGrave_37
    · refine r_iconst (1) (by decide) dX2_isGrave_32 ?_
      refine r_goto 37 dX2_isGrave_33 (by decide) ?_
      exact r_zret rfl rfl rfl rfl dX2_isGrave_37
  · refine r_iconst (0) (by decide) dX2_isGrave_36 ?_
    exact r_zret rfl rfl rfl rfl dX2_isGrave_37
theorem nc_X2_isGrave (X : Xt) (hst : X.1.stackTraces = false) (ad : Ad) (σ : Wd) (i : Nat) : NC X (fun a => a = ad) yX2_isGrave cX2_isGrave 1 (some (.boolean)) 0 0 vI (0, 0) ad σ [.ref (ad 26 i)] (f_X2_isGrave σ i) := by
  unfold f_X2_isGrave
  refine NC.intro RX2 rfl hst (by decide) (Nat.le_of_ble_eq_true rfl) (lv := [(0, .ref _)]) rfl ?_
  refine r_aload_n 0 rfl dX2_isGrave_0 ?_
  refine r_gd (fun h1 => ?_)
  refine r_getf 0 (lvd_26 h1) (cell_26 _ _ _ _) rfl (by decide) in_3 w_11 rfl dX2_isGrave_1 ?_
  refine r_if_ne 15 dX2_isGrave_4 (by decide) ?_ ?_
  · refine r_aload_n 0 rfl dX2_isGrave_7 ?_
    refine r_getf 3 (lvd_26 h1) (cell_26 _ _ _ _) rfl (by decide) in_3 w_12 rfl dX2_isGrave_8 ?_
    refine r_iconst (4) (by decide) dX2_isGrave_11 ?_
    refine r_icmp_gt 32 dX2_isGrave_12 (by decide) ?_ ?_
    · refine r_iconst (1) (by decide) dX2_isGrave_32 ?_
      refine r_goto 37 dX2_isGrave_33 (by decide) ?_
      exact r_zret rfl rfl rfl rfl dX2_isGrave_37
    · exact r_sub [0] rfl ((bj_X2_isGrave_15 X hst ad) _ _)
  · exact r_sub [0] rfl ((bj_X2_isGrave_15 X hst ad) _ _)
def f_X6_come (σ : Wd) (i : Nat) (p0 : Int32) : Option ((Unit ⊕ String) × Wd) :=
  gd (i < 3) <|
  if (σ.1 5 i 1) < 0 then
    some (.inl (), σ)
  else
    if (6 : Int32) ≤ (σ.1 5 i 1) then
      some (.inl (), σ)
    else
      gd (inb (σ.1 5 i 1) 6) <|
      bd (wr σ 6 i (σ.1 5 i 1).toNatClampNeg p0) fun σ1 =>
      bd (wr σ1 5 i 1 ((σ1.1 5 i 1) + (1 : Int32))) fun σ2 =>
      some (.inl (), σ2)
theorem nc_X6_come (X : Xt) (hst : X.1.stackTraces = false) (ad : Ad) (σ : Wd) (i : Nat) (p0 : Int32) : NC X (fun a => a = ad) yX6_come cX6_come 2 none 0 0 vV (0, 0) ad σ [.ref (ad 5 i), .int p0] (f_X6_come σ i p0) := by
  unfold f_X6_come
  refine NC.intro RX6 rfl hst (by decide) (Nat.le_of_ble_eq_true rfl) (lv := [(0, .ref _), (1, .int _)]) rfl ?_
  refine r_aload_n 0 rfl dX6_come_0 ?_
  refine r_gd (fun h1 => ?_)
  refine r_getf 1 (lvb_5 h1) (cell_5 _ _ _ _) rfl (by decide) in_7 w_13 rfl dX6_come_1 ?_
  refine r_if_lt 39 dX6_come_4 (by decide) ?_ ?_
  · exact r_vret rfl rfl rfl dX6_come_39
  · refine r_aload_n 0 rfl dX6_come_7 ?_
    refine r_getf 1 (lvb_5 h1) (cell_5 _ _ _ _) rfl (by decide) in_7 w_13 rfl dX6_come_8 ?_
    refine r_aload_n 0 rfl dX6_come_11 ?_
    refine r_getf 0 (lvb_5 h1) (cell_5 _ _ _ _) rfl (by decide) in_7 w_14 rfl dX6_come_12 ?_
    refine r_alen (6) (lvb_6 h1) (cell_6 _ _ _ _) rfl rfl dX6_come_15 ?_
    refine r_icmp_ge 39 dX6_come_16 (by decide) ?_ ?_
    · exact r_vret rfl rfl rfl dX6_come_39
    · refine r_aload_n 0 rfl dX6_come_19 ?_
      refine r_getf 0 (lvb_5 h1) (cell_5 _ _ _ _) rfl (by decide) in_7 w_14 rfl dX6_come_20 ?_
      refine r_aload_n 0 rfl dX6_come_23 ?_
      refine r_getf 1 (lvb_5 h1) (cell_5 _ _ _ _) rfl (by decide) in_7 w_13 rfl dX6_come_24 ?_
      refine r_iload_n 1 rfl dX6_come_27 ?_
      refine r_gd (fun h2 => ?_)
      refine r_bd ?_
      refine r_iastore (lvb_6 h1) (ia_6 _ _ _) h2 dX6_come_28 ?_
      refine r_aload_n 0 rfl dX6_come_29 ?_
      refine r_dup rfl dX6_come_30 ?_
      refine r_getf 1 (lvb_5 h1) (cell_5 _ _ _ _) rfl (by decide) in_7 w_13 rfl dX6_come_31 ?_
      refine r_iconst (1) (by decide) dX6_come_34 ?_
      refine r_iadd dX6_come_35 ?_
      refine r_bd ?_
      refine r_putf 1 tyX6 tyX6_ok nmX6 (lvb_5 h1) (cell_5 _ _ _ _) (wrc_5_1 _ _ _ _ _) rfl (by decide) (Nat.le_of_ble_eq_true rfl) in_7 w_13 rfl rfl rfl dX6_come_36 ?_
      exact r_vret rfl rfl rfl dX6_come_39
def l_X6_leave_4 : Nat → Wd → Int32 → Int32 → Nat → Int32 → Option ((Unit ⊕ String) × Wd)
  | 0, _, _, _, _, _ => none
  | n + 1, σ, a3, a2, ua0, a1 =>
  gd (ua0 < 3) <|
  if (σ.1 5 ua0 1) ≤ a3 then
    bd (wr σ 5 ua0 1 a2) fun σ1 =>
    some (.inl (), σ1)
  else
    if (6 : Int32) ≤ a3 then
      bd (wr σ 5 ua0 1 a2) fun σ2 =>
      some (.inl (), σ2)
    else
      gd (inb a3 6) <|
      bd ((σ.1 6 ua0 a3.toNatClampNeg)) fun x3 =>
      if x3 = a1 then
        (l_X6_leave_4 n) σ (a3 + 1) a2 ua0 a1
      else
        if (6 : Int32) ≤ a2 then
          (l_X6_leave_4 n) σ (a3 + 1) a2 ua0 a1
        else
          gd (inb a2 6) <|
          bd (wr σ 6 ua0 a2.toNatClampNeg x3) fun σ4 =>
          (l_X6_leave_4 n) σ4 (a3 + 1) (a2 + 1) ua0 a1
def f_X6_leave (σ : Wd) (i : Nat) (p0 : Int32) : Option ((Unit ⊕ String) × Wd) :=
  l_X6_leave_4 FU σ (0 : Int32) (0 : Int32) i p0
theorem bl_X6_leave_4 (X : Xt) (hst : X.1.stackTraces = false) (ad : Ad) : ∀ (n : Nat) (σ : Wd) (a3 : Int32) (a2 : Int32) (ua0 : Nat) (a1 : Int32), Bk X (fun a => a = ad) cX6_leave 5 RX6 none 0 0 vV (0, 0) (0, 0) ad σ 4 [(3, .int a3), (2, .int a2), (0, .ref (ad 5 ua0)), (1, .int a1)] [] (l_X6_leave_4 n σ a3 a2 ua0 a1) := by
  intro n
  induction n with
  | zero => intros; exact r_none
  | succ n ih =>
  intro σ a3 a2 ua0 a1
  rw [l_X6_leave_4]
  refine r_iload_n 0 rfl dX6_leave_4 ?_
  refine r_aload_n 2 rfl dX6_leave_5 ?_
  refine r_gd (fun h1 => ?_)
  refine r_getf 1 (lvb_5 h1) (cell_5 _ _ _ _) rfl (by decide) in_7 w_13 rfl dX6_leave_6 ?_
  refine r_icmp_ge 61 dX6_leave_9 (by decide) ?_ ?_
  · refine r_aload_n 2 rfl dX6_leave_61 ?_
    refine r_iload_n 1 rfl dX6_leave_62 ?_
    refine r_bd ?_
    refine r_putf 1 tyX6 tyX6_ok nmX6 (lvb_5 h1) (cell_5 _ _ _ _) (wrc_5_1 _ _ _ _ _) rfl (by decide) (Nat.le_of_ble_eq_true rfl) in_7 w_13 rfl rfl rfl dX6_leave_63 ?_
    exact r_vret rfl rfl rfl dX6_leave_66
  · refine r_iload_n 0 rfl dX6_leave_12 ?_
    refine r_aload_n 2 rfl dX6_leave_13 ?_
    refine r_getf 0 (lvb_5 h1) (cell_5 _ _ _ _) rfl (by decide) in_7 w_14 rfl dX6_leave_14 ?_
    refine r_alen (6) (lvb_6 h1) (cell_6 _ _ _ _) rfl rfl dX6_leave_17 ?_
    refine r_icmp_ge 61 dX6_leave_18 (by decide) ?_ ?_
    · refine r_aload_n 2 rfl dX6_leave_61 ?_
      refine r_iload_n 1 rfl dX6_leave_62 ?_
      refine r_bd ?_
      refine r_putf 1 tyX6 tyX6_ok nmX6 (lvb_5 h1) (cell_5 _ _ _ _) (wrc_5_1 _ _ _ _ _) rfl (by decide) (Nat.le_of_ble_eq_true rfl) in_7 w_13 rfl rfl rfl dX6_leave_63 ?_
      exact r_vret rfl rfl rfl dX6_leave_66
    · refine r_aload_n 2 rfl dX6_leave_21 ?_
      refine r_getf 0 (lvb_5 h1) (cell_5 _ _ _ _) rfl (by decide) in_7 w_14 rfl dX6_leave_22 ?_
      refine r_iload_n 0 rfl dX6_leave_25 ?_
      refine r_gd (fun h2 => ?_)
      refine r_iaload (lvb_6 h1) (cell_6 _ _ _ _) h2 dX6_leave_26 ?_
      refine r_bd ?_
      refine r_istore [(4, .int _), (3, .int _), (2, .int _), (0, .ref _), (1, .int _)] rfl (by decide) dX6_leave_27 ?_
      refine r_iload 0 rfl dX6_leave_29 ?_
      refine r_iload_n 4 rfl dX6_leave_31 ?_
      refine r_icmp_eq 55 dX6_leave_32 (by decide) ?_ ?_
      · refine r_iinc (1) [(3, .int _), (4, .int _), (2, .int _), (0, .ref _), (1, .int _)] 1 rfl (by decide) rfl (by decide) dX6_leave_55 ?_
        refine r_goto 4 dX6_leave_58 (by decide) ?_
        exact r_sub [0, 2, 3, 4] rfl (ih _ _ _ _ _)
      · refine r_iload_n 2 rfl dX6_leave_35 ?_
        refine r_aload_n 3 rfl dX6_leave_36 ?_
        refine r_getf 0 (lvb_5 h1) (cell_5 _ _ _ _) rfl (by decide) in_7 w_14 rfl dX6_leave_37 ?_
        refine r_alen (6) (lvb_6 h1) (cell_6 _ _ _ _) rfl rfl dX6_leave_40 ?_
        refine r_icmp_ge 55 dX6_leave_41 (by decide) ?_ ?_
        · refine r_iinc (1) [(3, .int _), (4, .int _), (2, .int _), (0, .ref _), (1, .int _)] 1 rfl (by decide) rfl (by decide) dX6_leave_55 ?_
          refine r_goto 4 dX6_leave_58 (by decide) ?_
          exact r_sub [0, 2, 3, 4] rfl (ih _ _ _ _ _)
        · refine r_aload_n 3 rfl dX6_leave_44 ?_
          refine r_getf 0 (lvb_5 h1) (cell_5 _ _ _ _) rfl (by decide) in_7 w_14 rfl dX6_leave_45 ?_
          refine r_iload_n 2 rfl dX6_leave_48 ?_
          refine r_iload 0 rfl dX6_leave_49 ?_
          refine r_gd (fun h3 => ?_)
          refine r_bd ?_
          refine r_iastore (lvb_6 h1) (ia_6 _ _ _) h3 dX6_leave_51 ?_
          refine r_iinc (1) [(2, .int _), (4, .int _), (3, .int _), (0, .ref _), (1, .int _)] 2 rfl (by decide) rfl (by decide) dX6_leave_52 ?_
          refine r_iinc (1) [(3, .int _), (2, .int _), (4, .int _), (0, .ref _), (1, .int _)] 2 rfl (by decide) rfl (by decide) dX6_leave_55 ?_
          refine r_goto 4 dX6_leave_58 (by decide) ?_
          exact r_sub [0, 1, 3, 4] rfl (ih _ _ _ _ _)
theorem nc_X6_leave (X : Xt) (hst : X.1.stackTraces = false) (ad : Ad) (σ : Wd) (i : Nat) (p0 : Int32) : NC X (fun a => a = ad) yX6_leave cX6_leave 5 none 0 0 vV (0, 0) ad σ [.ref (ad 5 i), .int p0] (f_X6_leave σ i p0) := by
  unfold f_X6_leave
  refine NC.intro RX6 rfl hst (by decide) (Nat.le_of_ble_eq_true rfl) (lv := [(0, .ref _), (1, .int _)]) rfl ?_
  refine r_iconst (0) (by decide) dX6_leave_0 ?_
  refine r_istore_n [(2, .int _), (0, .ref _), (1, .int _)] rfl (by decide) dX6_leave_1 ?_
  refine r_iconst (0) (by decide) dX6_leave_2 ?_
  refine r_istore_n [(3, .int _), (2, .int _), (0, .ref _), (1, .int _)] rfl (by decide) dX6_leave_3 ?_
  exact r_sub [0, 1, 2, 3] rfl ((bl_X6_leave_4 X hst ad FU) _ _ _ _ _)
def l_X6_behind_2 : Nat → Wd → Int32 → Nat → Int32 → Option ((Int32 ⊕ String) × Wd)
  | 0, _, _, _, _ => none
  | n + 1, σ, a2, ua0, a1 =>
  gd (ua0 < 3) <|
  if (σ.1 5 ua0 1) ≤ a2 then
    some (.inl (0 : Int32), σ)
  else
    if (6 : Int32) ≤ a2 then
      some (.inl (0 : Int32), σ)
    else
      gd (inb a2 6) <|
      if (σ.1 6 ua0 a2.toNatClampNeg) = a1 then
        some (.inl (((σ.1 5 ua0 1) - (1 : Int32)) - a2), σ)
      else
        (l_X6_behind_2 n) σ (a2 + 1) ua0 a1
def f_X6_behind (σ : Wd) (i : Nat) (p0 : Int32) : Option ((Int32 ⊕ String) × Wd) :=
  l_X6_behind_2 FU σ (0 : Int32) i p0
theorem bl_X6_behind_2 (X : Xt) (hst : X.1.stackTraces = false) (ad : Ad) : ∀ (n : Nat) (σ : Wd) (a2 : Int32) (ua0 : Nat) (a1 : Int32), Bk X (fun a => a = ad) cX6_behind 3 RX6 (some (.int)) 0 0 vI (0, 0) (0, 0) ad σ 2 [(2, .int a2), (0, .ref (ad 5 ua0)), (1, .int a1)] [] (l_X6_behind_2 n σ a2 ua0 a1) := by
  intro n
  induction n with
  | zero => intros; exact r_none
  | succ n ih =>
  intro σ a2 ua0 a1
  rw [l_X6_behind_2]
  refine r_iload_n 0 rfl dX6_behind_2 ?_
  refine r_aload_n 1 rfl dX6_behind_3 ?_
  refine r_gd (fun h1 => ?_)
  refine r_getf 1 (lvb_5 h1) (cell_5 _ _ _ _) rfl (by decide) in_7 w_13 rfl dX6_behind_4 ?_
  refine r_icmp_ge 44 dX6_behind_7 (by decide) ?_ ?_
  · refine r_iconst (0) (by decide) dX6_behind_44 ?_
    exact r_iret rfl rfl rfl dX6_behind_45
  · refine r_iload_n 0 rfl dX6_behind_10 ?_
    refine r_aload_n 1 rfl dX6_behind_11 ?_
    refine r_getf 0 (lvb_5 h1) (cell_5 _ _ _ _) rfl (by decide) in_7 w_14 rfl dX6_behind_12 ?_
    refine r_alen (6) (lvb_6 h1) (cell_6 _ _ _ _) rfl rfl dX6_behind_15 ?_
    refine r_icmp_ge 44 dX6_behind_16 (by decide) ?_ ?_
    · refine r_iconst (0) (by decide) dX6_behind_44 ?_
      exact r_iret rfl rfl rfl dX6_behind_45
    · refine r_aload_n 1 rfl dX6_behind_19 ?_
      refine r_getf 0 (lvb_5 h1) (cell_5 _ _ _ _) rfl (by decide) in_7 w_14 rfl dX6_behind_20 ?_
      refine r_iload_n 0 rfl dX6_behind_23 ?_
      refine r_gd (fun h2 => ?_)
      refine r_iaload (lvb_6 h1) (cell_6 _ _ _ _) h2 dX6_behind_24 ?_
      refine r_iload_n 2 rfl dX6_behind_25 ?_
      refine r_icmp_ne 38 dX6_behind_26 (by decide) ?_ ?_
      · refine r_aload_n 1 rfl dX6_behind_29 ?_
        refine r_getf 1 (lvb_5 h1) (cell_5 _ _ _ _) rfl (by decide) in_7 w_13 rfl dX6_behind_30 ?_
        refine r_iconst (1) (by decide) dX6_behind_33 ?_
        refine r_isub dX6_behind_34 ?_
        refine r_iload_n 0 rfl dX6_behind_35 ?_
        refine r_isub dX6_behind_36 ?_
        exact r_iret rfl rfl rfl dX6_behind_37
      · refine r_iinc (1) [(2, .int _), (0, .ref _), (1, .int _)] 0 rfl (by decide) rfl (by decide) dX6_behind_38 ?_
        refine r_goto 2 dX6_behind_41 (by decide) ?_
        exact r_sub [0, 1, 2] rfl (ih _ _ _ _)
theorem nc_X6_behind (X : Xt) (hst : X.1.stackTraces = false) (ad : Ad) (σ : Wd) (i : Nat) (p0 : Int32) : NC X (fun a => a = ad) yX6_behind cX6_behind 3 (some (.int)) 0 0 vI (0, 0) ad σ [.ref (ad 5 i), .int p0] (f_X6_behind σ i p0) := by
  unfold f_X6_behind
  refine NC.intro RX6 rfl hst (by decide) (Nat.le_of_ble_eq_true rfl) (lv := [(0, .ref _), (1, .int _)]) rfl ?_
  refine r_iconst (0) (by decide) dX6_behind_0 ?_
  refine r_istore_n [(2, .int _), (0, .ref _), (1, .int _)] rfl (by decide) dX6_behind_1 ?_
  exact r_sub [0, 1, 2] rfl ((bl_X6_behind_2 X hst ad FU) _ _ _ _)
def f_X6_fromExit (σ : Wd) (i : Nat) (p0 : Int32) : Option ((Int32 ⊕ String) × Wd) :=
  gd (i < 3) <|
  bd ((((σ.1 5 i 1) - (1 : Int32)) - p0)) fun x1 =>
  if x1 < 0 then
    some (.inl (-1 : Int32), σ)
  else
    if (6 : Int32) ≤ x1 then
      some (.inl (-1 : Int32), σ)
    else
      gd (inb x1 6) <|
      some (.inl (σ.1 6 i x1.toNatClampNeg), σ)
theorem nc_X6_fromExit (X : Xt) (hst : X.1.stackTraces = false) (ad : Ad) (σ : Wd) (i : Nat) (p0 : Int32) : NC X (fun a => a = ad) yX6_fromExit cX6_fromExit 3 (some (.int)) 0 0 vI (0, 0) ad σ [.ref (ad 5 i), .int p0] (f_X6_fromExit σ i p0) := by
  unfold f_X6_fromExit
  refine NC.intro RX6 rfl hst (by decide) (Nat.le_of_ble_eq_true rfl) (lv := [(0, .ref _), (1, .int _)]) rfl ?_
  refine r_aload_n 0 rfl dX6_fromExit_0 ?_
  refine r_gd (fun h1 => ?_)
  refine r_getf 1 (lvb_5 h1) (cell_5 _ _ _ _) rfl (by decide) in_7 w_13 rfl dX6_fromExit_1 ?_
  refine r_iconst (1) (by decide) dX6_fromExit_4 ?_
  refine r_isub dX6_fromExit_5 ?_
  refine r_iload_n 1 rfl dX6_fromExit_6 ?_
  refine r_isub dX6_fromExit_7 ?_
  refine r_bd ?_
  refine r_istore_n [(2, .int _), (0, .ref _), (1, .int _)] rfl (by decide) dX6_fromExit_8 ?_
  refine r_iload_n 0 rfl dX6_fromExit_9 ?_
  refine r_if_lt 31 dX6_fromExit_10 (by decide) ?_ ?_
  · refine r_iconst (-1) (by decide) dX6_fromExit_31 ?_
    exact r_iret rfl rfl rfl dX6_fromExit_32
  · refine r_iload_n 0 rfl dX6_fromExit_13 ?_
    refine r_aload_n 1 rfl dX6_fromExit_14 ?_
    refine r_getf 0 (lvb_5 h1) (cell_5 _ _ _ _) rfl (by decide) in_7 w_14 rfl dX6_fromExit_15 ?_
    refine r_alen (6) (lvb_6 h1) (cell_6 _ _ _ _) rfl rfl dX6_fromExit_18 ?_
    refine r_icmp_ge 31 dX6_fromExit_19 (by decide) ?_ ?_
    · refine r_iconst (-1) (by decide) dX6_fromExit_31 ?_
      exact r_iret rfl rfl rfl dX6_fromExit_32
    · refine r_aload_n 1 rfl dX6_fromExit_22 ?_
      refine r_getf 0 (lvb_5 h1) (cell_5 _ _ _ _) rfl (by decide) in_7 w_14 rfl dX6_fromExit_23 ?_
      refine r_iload_n 0 rfl dX6_fromExit_26 ?_
      refine r_gd (fun h2 => ?_)
      refine r_iaload (lvb_6 h1) (cell_6 _ _ _ _) h2 dX6_fromExit_27 ?_
      refine r_goto 32 dX6_fromExit_28 (by decide) ?_
      exact r_iret rfl rfl rfl dX6_fromExit_32
def f_X4_record (σ : Wd) (p0 : Int32) (p1 : Int32) (p2 : Int32) : Option ((Unit ⊕ String) × Wd) :=
  bd (((p1 * (6 : Int32)) + p0)) fun x1 =>
  if x1 < 0 then
    some (.inl (), σ)
  else
    if (1200 : Int32) ≤ x1 then
      some (.inl (), σ)
    else
      gd (inb x1 1200) <|
      bd (wr σ 20 0 x1.toNatClampNeg p2) fun σ2 =>
      some (.inl (), σ2)
theorem nc_X4_record (X : Xt) (hst : X.1.stackTraces = false) (ad : Ad) (σ : Wd) (p0 : Int32) (p1 : Int32) (p2 : Int32) : NC X (fun a => a = ad) yX4_record cX4_record 5 none 0 0 vV (0, 0) ad σ [.ref (ad 19 0), .int p0, .int p1, .int p2] (f_X4_record σ p0 p1 p2) := by
  unfold f_X4_record
  refine NC.intro RX4 rfl hst (by decide) (Nat.le_of_ble_eq_true rfl) (lv := [(0, .ref _), (1, .int _), (2, .int _), (3, .int _)]) rfl ?_
  refine r_iload_n 2 rfl dX4_record_0 ?_
  refine r_bipush (6) (by decide) dX4_record_1 ?_
  refine r_imul dX4_record_3 ?_
  refine r_iload_n 1 rfl dX4_record_4 ?_
  refine r_iadd dX4_record_5 ?_
  refine r_bd ?_
  refine r_istore [(4, .int _), (0, .ref _), (1, .int _), (2, .int _), (3, .int _)] rfl (by decide) dX4_record_6 ?_
  refine r_iload 0 rfl dX4_record_8 ?_
  refine r_if_lt 31 dX4_record_10 (by decide) ?_ ?_
  · exact r_vret rfl rfl rfl dX4_record_31
  · refine r_iload 0 rfl dX4_record_13 ?_
    refine r_aload_n 1 rfl dX4_record_15 ?_
    refine r_getf 0 (lvs_19 _) (cell_19 _ _ _ _) rfl (by decide) in_5 w_15 rfl dX4_record_16 ?_
    refine r_alen (1200) (lvs_20 _) (cell_20 _ _ _ _) rfl rfl dX4_record_19 ?_
    refine r_icmp_ge 31 dX4_record_20 (by decide) ?_ ?_
    · exact r_vret rfl rfl rfl dX4_record_31
    · refine r_aload_n 1 rfl dX4_record_23 ?_
      refine r_getf 0 (lvs_19 _) (cell_19 _ _ _ _) rfl (by decide) in_5 w_15 rfl dX4_record_24 ?_
      refine r_iload 0 rfl dX4_record_27 ?_
      refine r_iload_n 4 rfl dX4_record_29 ?_
      refine r_gd (fun h1 => ?_)
      refine r_bd ?_
      refine r_iastore (lvs_20 _) (ia_20 _ _ _) h1 dX4_record_30 ?_
      exact r_vret rfl rfl rfl dX4_record_31
def f_X4_unitThatRan (σ : Wd) (p0 : Int32) (p1 : Int32) : Option ((Int32 ⊕ String) × Wd) :=
  bd (((p1 * (6 : Int32)) + p0)) fun x1 =>
  if x1 < 0 then
    some (.inl (-1 : Int32), σ)
  else
    if (1200 : Int32) ≤ x1 then
      some (.inl (-1 : Int32), σ)
    else
      gd (inb x1 1200) <|
      some (.inl (σ.1 20 0 x1.toNatClampNeg), σ)
theorem nc_X4_unitThatRan (X : Xt) (hst : X.1.stackTraces = false) (ad : Ad) (σ : Wd) (p0 : Int32) (p1 : Int32) : NC X (fun a => a = ad) yX4_unitThatRan cX4_unitThatRan 4 (some (.int)) 0 0 vI (0, 0) ad σ [.ref (ad 19 0), .int p0, .int p1] (f_X4_unitThatRan σ p0 p1) := by
  unfold f_X4_unitThatRan
  refine NC.intro RX4 rfl hst (by decide) (Nat.le_of_ble_eq_true rfl) (lv := [(0, .ref _), (1, .int _), (2, .int _)]) rfl ?_
  refine r_iload_n 2 rfl dX4_unitThatRan_0 ?_
  refine r_bipush (6) (by decide) dX4_unitThatRan_1 ?_
  refine r_imul dX4_unitThatRan_3 ?_
  refine r_iload_n 1 rfl dX4_unitThatRan_4 ?_
  refine r_iadd dX4_unitThatRan_5 ?_
  refine r_bd ?_
  refine r_istore_n [(3, .int _), (0, .ref _), (1, .int _), (2, .int _)] rfl (by decide) dX4_unitThatRan_6 ?_
  refine r_iload_n 0 rfl dX4_unitThatRan_7 ?_
  refine r_if_lt 29 dX4_unitThatRan_8 (by decide) ?_ ?_
  · refine r_iconst (-1) (by decide) dX4_unitThatRan_29 ?_
    exact r_iret rfl rfl rfl dX4_unitThatRan_30
  · refine r_iload_n 0 rfl dX4_unitThatRan_11 ?_
    refine r_aload_n 1 rfl dX4_unitThatRan_12 ?_
    refine r_getf 0 (lvs_19 _) (cell_19 _ _ _ _) rfl (by decide) in_5 w_15 rfl dX4_unitThatRan_13 ?_
    refine r_alen (1200) (lvs_20 _) (cell_20 _ _ _ _) rfl rfl dX4_unitThatRan_16 ?_
    refine r_icmp_ge 29 dX4_unitThatRan_17 (by decide) ?_ ?_
    · refine r_iconst (-1) (by decide) dX4_unitThatRan_29 ?_
      exact r_iret rfl rfl rfl dX4_unitThatRan_30
    · refine r_aload_n 1 rfl dX4_unitThatRan_20 ?_
      refine r_getf 0 (lvs_19 _) (cell_19 _ _ _ _) rfl (by decide) in_5 w_15 rfl dX4_unitThatRan_21 ?_
      refine r_iload_n 0 rfl dX4_unitThatRan_24 ?_
      refine r_gd (fun h1 => ?_)
      refine r_iaload (lvs_20 _) (cell_20 _ _ _ _) h1 dX4_unitThatRan_25 ?_
      refine r_goto 30 dX4_unitThatRan_26 (by decide) ?_
      exact r_iret rfl rfl rfl dX4_unitThatRan_30
def l_X4_timesThatRan_5 : Nat → Wd → Int32 → Int32 → Int32 → Int32 → Option ((Int32 ⊕ String) × Wd)
  | 0, _, _, _, _, _ => none
  | n + 1, σ, a4, a3, a1, a2 =>
  if (200 : Int32) ≤ a4 then
    some (.inl a3, σ)
  else
    bx (f_X4_unitThatRan σ a1 a4) fun v1 σ2 =>
    if v1 = a2 then
      (l_X4_timesThatRan_5 n) σ2 (a4 + 1) (a3 + 1) a1 a2
    else
      (l_X4_timesThatRan_5 n) σ2 (a4 + 1) a3 a1 a2
def f_X4_timesThatRan (σ : Wd) (p0 : Int32) (p1 : Int32) : Option ((Int32 ⊕ String) × Wd) :=
  l_X4_timesThatRan_5 FU σ (0 : Int32) (0 : Int32) p0 p1
theorem bl_X4_timesThatRan_5 (X : Xt) (hst : X.1.stackTraces = false) (ad : Ad) : ∀ (n : Nat) (σ : Wd) (a4 : Int32) (a3 : Int32) (a1 : Int32) (a2 : Int32), Bk X (fun a => a = ad) cX4_timesThatRan 5 RX4 (some (.int)) 1 23 vI (0, 0) (0, 0) ad σ 5 [(4, .int a4), (3, .int a3), (0, .ref (ad 19 0)), (1, .int a1), (2, .int a2)] [] (l_X4_timesThatRan_5 n σ a4 a3 a1 a2) := by
  intro n
  induction n with
  | zero => intros; exact r_none
  | succ n ih =>
  intro σ a4 a3 a1 a2
  rw [l_X4_timesThatRan_5]
  refine r_iload 0 rfl dX4_timesThatRan_5 ?_
  refine r_sipush (200) (by decide) dX4_timesThatRan_7 ?_
  refine r_icmp_ge 33 dX4_timesThatRan_10 (by decide) ?_ ?_
  · refine r_iload_n 1 rfl dX4_timesThatRan_33 ?_
    exact r_iret rfl rfl rfl dX4_timesThatRan_34
  · refine r_aload_n 2 rfl dX4_timesThatRan_13 ?_
    refine r_iload_n 3 rfl dX4_timesThatRan_14 ?_
    refine r_iload 0 rfl dX4_timesThatRan_15 ?_
    refine r_callV (n := 2) (As := [.int _, .int _]) (cell_19 _ _ _ _) (lvs_19 _) rfl (nc_X4_unitThatRan X hst ad _ _ _) (fun _ h => h) rfl ⟨rfl, by decide, by decide, by decide +kernel⟩ w_16 w_17 w_18 w_19 w_20 rfl rfl (Nat.le_of_ble_eq_true rfl) ⟨by decide, by decide⟩ dX4_timesThatRan_17 (fun v1 σ2 => ?_)
    refine r_iload_n 4 rfl dX4_timesThatRan_20 ?_
    refine r_icmp_ne 27 dX4_timesThatRan_21 (by decide) ?_ ?_
    · refine r_iinc (1) [(3, .int _), (4, .int _), (0, .ref _), (1, .int _), (2, .int _)] 1 rfl (by decide) rfl (by decide) dX4_timesThatRan_24 ?_
      refine r_iinc (1) [(4, .int _), (3, .int _), (0, .ref _), (1, .int _), (2, .int _)] 1 rfl (by decide) rfl (by decide) dX4_timesThatRan_27 ?_
      refine r_goto 5 dX4_timesThatRan_30 (by decide) ?_
      exact r_sub [0, 1, 2, 3, 4] rfl (ih _ _ _ _ _)
    · refine r_iinc (1) [(4, .int _), (3, .int _), (0, .ref _), (1, .int _), (2, .int _)] 0 rfl (by decide) rfl (by decide) dX4_timesThatRan_27 ?_
      refine r_goto 5 dX4_timesThatRan_30 (by decide) ?_
      exact r_sub [0, 1, 2, 3, 4] rfl (ih _ _ _ _ _)
theorem nc_X4_timesThatRan (X : Xt) (hst : X.1.stackTraces = false) (ad : Ad) (σ : Wd) (p0 : Int32) (p1 : Int32) : NC X (fun a => a = ad) yX4_timesThatRan cX4_timesThatRan 5 (some (.int)) 1 23 vI (0, 0) ad σ [.ref (ad 19 0), .int p0, .int p1] (f_X4_timesThatRan σ p0 p1) := by
  unfold f_X4_timesThatRan
  refine NC.intro RX4 rfl hst (by decide) (Nat.le_of_ble_eq_true rfl) (lv := [(0, .ref _), (1, .int _), (2, .int _)]) rfl ?_
  refine r_iconst (0) (by decide) dX4_timesThatRan_0 ?_
  refine r_istore_n [(3, .int _), (0, .ref _), (1, .int _), (2, .int _)] rfl (by decide) dX4_timesThatRan_1 ?_
  refine r_iconst (0) (by decide) dX4_timesThatRan_2 ?_
  refine r_istore [(4, .int _), (3, .int _), (0, .ref _), (1, .int _), (2, .int _)] rfl (by decide) dX4_timesThatRan_3 ?_
  exact r_sub [0, 1, 2, 3, 4] rfl ((bl_X4_timesThatRan_5 X hst ad FU) _ _ _ _ _)
def f_X8_kmSince (σ : Wd) (i : Nat) (p0 : Int32) : Option ((Int32 ⊕ String) × Wd) :=
  if p0 < 0 then
    some (.inl (0 : Int32), σ)
  else
    gd (i < σ.2.2 8) <|
    if (3 : Int32) ≤ p0 then
      some (.inl (0 : Int32), σ)
    else
      gd (inb p0 3) <|
      some (.inl (σ.1 22 i p0.toNatClampNeg), σ)
theorem nc_X8_kmSince (X : Xt) (hst : X.1.stackTraces = false) (ad : Ad) (σ : Wd) (i : Nat) (p0 : Int32) : NC X (fun a => a = ad) yX8_kmSince cX8_kmSince 2 (some (.int)) 0 0 vI (0, 0) ad σ [.ref (ad 21 i), .int p0] (f_X8_kmSince σ i p0) := by
  unfold f_X8_kmSince
  refine NC.intro RX8 rfl hst (by decide) (Nat.le_of_ble_eq_true rfl) (lv := [(0, .ref _), (1, .int _)]) rfl ?_
  refine r_iload_n 1 rfl dX8_kmSince_0 ?_
  refine r_if_lt 22 dX8_kmSince_1 (by decide) ?_ ?_
  · refine r_iconst (0) (by decide) dX8_kmSince_22 ?_
    exact r_iret rfl rfl rfl dX8_kmSince_23
  · refine r_iload_n 1 rfl dX8_kmSince_4 ?_
    refine r_aload_n 0 rfl dX8_kmSince_5 ?_
    refine r_gd (fun h1 => ?_)
    refine r_getf 4 (lvd_21 h1) (cell_21 _ _ _ _) rfl (by decide) in_9 w_21 rfl dX8_kmSince_6 ?_
    refine r_alen (3) (lvd_22 h1) (cell_22 _ _ _ _) rfl rfl dX8_kmSince_9 ?_
    refine r_icmp_ge 22 dX8_kmSince_10 (by decide) ?_ ?_
    · refine r_iconst (0) (by decide) dX8_kmSince_22 ?_
      exact r_iret rfl rfl rfl dX8_kmSince_23
    · refine r_aload_n 0 rfl dX8_kmSince_13 ?_
      refine r_getf 4 (lvd_21 h1) (cell_21 _ _ _ _) rfl (by decide) in_9 w_21 rfl dX8_kmSince_14 ?_
      refine r_iload_n 1 rfl dX8_kmSince_17 ?_
      refine r_gd (fun h2 => ?_)
      refine r_iaload (lvd_22 h1) (cell_22 _ _ _ _) h2 dX8_kmSince_18 ?_
      refine r_goto 23 dX8_kmSince_19 (by decide) ?_
      exact r_iret rfl rfl rfl dX8_kmSince_23
def f_X8_daysSince (σ : Wd) (i : Nat) (p0 : Int32) : Option ((Int32 ⊕ String) × Wd) :=
  if p0 < 0 then
    some (.inl (0 : Int32), σ)
  else
    gd (i < σ.2.2 8) <|
    if (3 : Int32) ≤ p0 then
      some (.inl (0 : Int32), σ)
    else
      gd (inb p0 3) <|
      some (.inl (σ.1 23 i p0.toNatClampNeg), σ)
theorem nc_X8_daysSince (X : Xt) (hst : X.1.stackTraces = false) (ad : Ad) (σ : Wd) (i : Nat) (p0 : Int32) : NC X (fun a => a = ad) yX8_daysSince cX8_daysSince 2 (some (.int)) 0 0 vI (0, 0) ad σ [.ref (ad 21 i), .int p0] (f_X8_daysSince σ i p0) := by
  unfold f_X8_daysSince
  refine NC.intro RX8 rfl hst (by decide) (Nat.le_of_ble_eq_true rfl) (lv := [(0, .ref _), (1, .int _)]) rfl ?_
  refine r_iload_n 1 rfl dX8_daysSince_0 ?_
  refine r_if_lt 22 dX8_daysSince_1 (by decide) ?_ ?_
  · refine r_iconst (0) (by decide) dX8_daysSince_22 ?_
    exact r_iret rfl rfl rfl dX8_daysSince_23
  · refine r_iload_n 1 rfl dX8_daysSince_4 ?_
    refine r_aload_n 0 rfl dX8_daysSince_5 ?_
    refine r_gd (fun h1 => ?_)
    refine r_getf 5 (lvd_21 h1) (cell_21 _ _ _ _) rfl (by decide) in_9 w_22 rfl dX8_daysSince_6 ?_
    refine r_alen (3) (lvd_23 h1) (cell_23 _ _ _ _) rfl rfl dX8_daysSince_9 ?_
    refine r_icmp_ge 22 dX8_daysSince_10 (by decide) ?_ ?_
    · refine r_iconst (0) (by decide) dX8_daysSince_22 ?_
      exact r_iret rfl rfl rfl dX8_daysSince_23
    · refine r_aload_n 0 rfl dX8_daysSince_13 ?_
      refine r_getf 5 (lvd_21 h1) (cell_21 _ _ _ _) rfl (by decide) in_9 w_22 rfl dX8_daysSince_14 ?_
      refine r_iload_n 1 rfl dX8_daysSince_17 ?_
      refine r_gd (fun h2 => ?_)
      refine r_iaload (lvd_23 h1) (cell_23 _ _ _ _) h2 dX8_daysSince_18 ?_
      refine r_goto 23 dX8_daysSince_19 (by decide) ?_
      exact r_iret rfl rfl rfl dX8_daysSince_23
def f_X8_axleSize (σ : Wd) (i : Nat) (p0 : Int32) : Option ((Int32 ⊕ String) × Wd) :=
  if p0 < 0 then
    some (.inl (0 : Int32), σ)
  else
    gd (i < σ.2.2 8) <|
    if (4 : Int32) ≤ p0 then
      some (.inl (0 : Int32), σ)
    else
      gd (inb p0 4) <|
      some (.inl (σ.1 24 i p0.toNatClampNeg), σ)
theorem nc_X8_axleSize (X : Xt) (hst : X.1.stackTraces = false) (ad : Ad) (σ : Wd) (i : Nat) (p0 : Int32) : NC X (fun a => a = ad) yX8_axleSize cX8_axleSize 2 (some (.int)) 0 0 vI (0, 0) ad σ [.ref (ad 21 i), .int p0] (f_X8_axleSize σ i p0) := by
  unfold f_X8_axleSize
  refine NC.intro RX8 rfl hst (by decide) (Nat.le_of_ble_eq_true rfl) (lv := [(0, .ref _), (1, .int _)]) rfl ?_
  refine r_iload_n 1 rfl dX8_axleSize_0 ?_
  refine r_if_lt 22 dX8_axleSize_1 (by decide) ?_ ?_
  · refine r_iconst (0) (by decide) dX8_axleSize_22 ?_
    exact r_iret rfl rfl rfl dX8_axleSize_23
  · refine r_iload_n 1 rfl dX8_axleSize_4 ?_
    refine r_aload_n 0 rfl dX8_axleSize_5 ?_
    refine r_gd (fun h1 => ?_)
    refine r_getf 6 (lvd_21 h1) (cell_21 _ _ _ _) rfl (by decide) in_9 w_23 rfl dX8_axleSize_6 ?_
    refine r_alen (4) (lvd_24 h1) (cell_24 _ _ _ _) rfl rfl dX8_axleSize_9 ?_
    refine r_icmp_ge 22 dX8_axleSize_10 (by decide) ?_ ?_
    · refine r_iconst (0) (by decide) dX8_axleSize_22 ?_
      exact r_iret rfl rfl rfl dX8_axleSize_23
    · refine r_aload_n 0 rfl dX8_axleSize_13 ?_
      refine r_getf 6 (lvd_21 h1) (cell_21 _ _ _ _) rfl (by decide) in_9 w_23 rfl dX8_axleSize_14 ?_
      refine r_iload_n 1 rfl dX8_axleSize_17 ?_
      refine r_gd (fun h2 => ?_)
      refine r_iaload (lvd_24 h1) (cell_24 _ _ _ _) h2 dX8_axleSize_18 ?_
      refine r_goto 23 dX8_axleSize_19 (by decide) ?_
      exact r_iret rfl rfl rfl dX8_axleSize_23
def f_X8_wear (σ : Wd) (p0 : Int32) (p1 : Int32) : Option ((Int32 ⊕ String) × Wd) :=
  if p0 = 0 then
    some (.inl (p1 / (300 : Int32)), σ)
  else
    some (.inl (p1 / (500 : Int32)), σ)
theorem nc_X8_wear (X : Xt) (hst : X.1.stackTraces = false) (ad : Ad) (σ : Wd) (p0 : Int32) (p1 : Int32) : NC X (fun a => a = ad) yX8_wear cX8_wear 2 (some (.int)) 0 0 vI (0, 0) ad σ [.int p0, .int p1] (f_X8_wear σ p0 p1) := by
  unfold f_X8_wear
  refine NC.intro RX8 rfl hst (by decide) (Nat.le_of_ble_eq_true rfl) (lv := [(0, .int _), (1, .int _)]) rfl ?_
  refine r_iload_n 0 rfl dX8_wear_0 ?_
  refine r_if_ne 12 dX8_wear_1 (by decide) ?_ ?_
  · refine r_iload_n 1 rfl dX8_wear_4 ?_
    refine r_sipush (300) (by decide) dX8_wear_5 ?_
    refine r_idiv (by decide) dX8_wear_8 ?_
    refine r_goto 17 dX8_wear_9 (by decide) ?_
    exact r_iret rfl rfl rfl dX8_wear_17
  · refine r_iload_n 1 rfl dX8_wear_12 ?_
    refine r_sipush (500) (by decide) dX8_wear_13 ?_
    refine r_idiv (by decide) dX8_wear_16 ?_
    exact r_iret rfl rfl rfl dX8_wear_17
def l_X8_grow_44 : Nat → Wd → Int32 → Int32 → Nat → Int32 → Option ((Unit ⊕ String) × Wd)
  | 0, _, _, _, _, _ => none
  | n + 1, σ, a3, a2, ua0, a1 =>
  gd (ua0 < σ.2.2 8) <|
  if (4 : Int32) ≤ a3 then
    some (.inl (), σ)
  else
    gd (inb a3 4) <|
    bx (f_X8_wear σ a3 (σ.1 21 ua0 3)) fun v2 σ3 =>
    bx (f_X8_wear σ3 a3 a2) fun v4 σ5 =>
    gd (ua0 < σ5.2.2 8) <|
    bd (wr σ5 24 ua0 a3.toNatClampNeg ((σ.1 24 ua0 a3.toNatClampNeg) - (v2 - v4))) fun σ6 =>
    (l_X8_grow_44 n) σ6 (a3 + 1) a2 ua0 a1
def l_X8_grow_17 : Nat → Wd → Int32 → Int32 → Nat → Int32 → Option ((Unit ⊕ String) × Wd)
  | 0, _, _, _, _, _ => none
  | n + 1, σ, a3, a2, ua0, a1 =>
  gd (ua0 < σ.2.2 8) <|
  if (3 : Int32) ≤ a3 then
    l_X8_grow_44 FU σ (0 : Int32) a2 ua0 a1
  else
    gd (inb a3 3) <|
    bd (wr σ 22 ua0 a3.toNatClampNeg ((σ.1 22 ua0 a3.toNatClampNeg) + a1)) fun σ7 =>
    (l_X8_grow_17 n) σ7 (a3 + 1) a2 ua0 a1
def f_X8_grow (σ : Wd) (i : Nat) (p0 : Int32) : Option ((Unit ⊕ String) × Wd) :=
  gd (i < σ.2.2 8) <|
  bd (wr σ 21 i 3 ((σ.1 21 i 3) + p0)) fun σ1 =>
  l_X8_grow_17 FU σ1 (0 : Int32) (σ.1 21 i 3) i p0
theorem bl_X8_grow_44 (X : Xt) (hst : X.1.stackTraces = false) (ad : Ad) : ∀ (n : Nat) (σ : Wd) (a3 : Int32) (a2 : Int32) (ua0 : Nat) (a1 : Int32), Bk X (fun a => a = ad) cX8_grow 4 RX8 none 1 21 vV (0, 0) (0, 0) ad σ 44 [(3, .int a3), (2, .int a2), (0, .ref (ad 21 ua0)), (1, .int a1)] [] (l_X8_grow_44 n σ a3 a2 ua0 a1) := by
  intro n
  induction n with
  | zero => intros; exact r_none
  | succ n ih =>
  intro σ a3 a2 ua0 a1
  rw [l_X8_grow_44]
  refine r_iload_n 0 rfl dX8_grow_44 ?_
  refine r_aload_n 2 rfl dX8_grow_45 ?_
  refine r_gd (fun h3 => ?_)
  refine r_getf 6 (lvd_21 h3) (cell_21 _ _ _ _) rfl (by decide) in_9 w_23 rfl dX8_grow_46 ?_
  refine r_alen (4) (lvd_24 h3) (cell_24 _ _ _ _) rfl rfl dX8_grow_49 ?_
  refine r_icmp_ge 82 dX8_grow_50 (by decide) ?_ ?_
  · exact r_vret rfl rfl rfl dX8_grow_82
  · refine r_aload_n 2 rfl dX8_grow_53 ?_
    refine r_getf 6 (lvd_21 h3) (cell_21 _ _ _ _) rfl (by decide) in_9 w_23 rfl dX8_grow_54 ?_
    refine r_iload_n 0 rfl dX8_grow_57 ?_
    refine r_dup2 rfl rfl dX8_grow_58 ?_
    refine r_gd (fun h4 => ?_)
    refine r_iaload (lvd_24 h3) (cell_24 _ _ _ _) h4 dX8_grow_59 ?_
    refine r_iload_n 0 rfl dX8_grow_60 ?_
    refine r_aload_n 2 rfl dX8_grow_61 ?_
    refine r_getf 3 (lvd_21 h3) (cell_21 _ _ _ _) rfl (by decide) in_9 w_24 rfl dX8_grow_62 ?_
    refine r_callS (n := 2) (As := [.int _, .int _]) (nc_X8_wear X hst ad _ _ _) (fun _ h => h) rfl ⟨by decide, by decide, by decide +kernel⟩ w_25 w_26 w_27 w_28 rfl rfl (Nat.le_of_ble_eq_true rfl) ⟨by decide, by decide⟩ dX8_grow_65 (fun v2 σ3 => ?_)
    refine r_iload_n 0 rfl dX8_grow_68 ?_
    refine r_iload_n 1 rfl dX8_grow_69 ?_
    refine r_callS (n := 2) (As := [.int _, .int _]) (nc_X8_wear X hst ad _ _ _) (fun _ h => h) rfl ⟨by decide, by decide, by decide +kernel⟩ w_25 w_26 w_27 w_28 rfl rfl (Nat.le_of_ble_eq_true rfl) ⟨by decide, by decide⟩ dX8_grow_70 (fun v4 σ5 => ?_)
    refine r_isub dX8_grow_73 ?_
    refine r_isub dX8_grow_74 ?_
    refine r_gd (fun h5 => ?_)
    refine r_bd ?_
    refine r_iastore (lvd_24 h5) (ia_24 _ _ _) h4 dX8_grow_75 ?_
    refine r_iinc (1) [(3, .int _), (2, .int _), (0, .ref _), (1, .int _)] 0 rfl (by decide) rfl (by decide) dX8_grow_76 ?_
    refine r_goto 44 dX8_grow_79 (by decide) ?_
    exact r_sub [0, 1, 2, 3] rfl (ih _ _ _ _ _)
theorem bl_X8_grow_17 (X : Xt) (hst : X.1.stackTraces = false) (ad : Ad) : ∀ (n : Nat) (σ : Wd) (a3 : Int32) (a2 : Int32) (ua0 : Nat) (a1 : Int32), Bk X (fun a => a = ad) cX8_grow 4 RX8 none 1 21 vV (0, 0) (0, 0) ad σ 17 [(3, .int a3), (2, .int a2), (0, .ref (ad 21 ua0)), (1, .int a1)] [] (l_X8_grow_17 n σ a3 a2 ua0 a1) := by
  intro n
  induction n with
  | zero => intros; exact r_none
  | succ n ih =>
  intro σ a3 a2 ua0 a1
  rw [l_X8_grow_17]
  refine r_iload_n 0 rfl dX8_grow_17 ?_
  refine r_aload_n 2 rfl dX8_grow_18 ?_
  refine r_gd (fun h2 => ?_)
  refine r_getf 4 (lvd_21 h2) (cell_21 _ _ _ _) rfl (by decide) in_9 w_21 rfl dX8_grow_19 ?_
  refine r_alen (3) (lvd_22 h2) (cell_22 _ _ _ _) rfl rfl dX8_grow_22 ?_
  refine r_icmp_ge 42 dX8_grow_23 (by decide) ?_ ?_
  · refine r_iconst (0) (by decide) dX8_grow_42 ?_
    refine r_istore_n [(3, .int _), (2, .int _), (0, .ref _), (1, .int _)] rfl (by decide) dX8_grow_43 ?_
    exact r_sub [0, 1, 2, 3] rfl ((bl_X8_grow_44 X hst ad FU) _ _ _ _ _)
  · refine r_aload_n 2 rfl dX8_grow_26 ?_
    refine r_getf 4 (lvd_21 h2) (cell_21 _ _ _ _) rfl (by decide) in_9 w_21 rfl dX8_grow_27 ?_
    refine r_iload_n 0 rfl dX8_grow_30 ?_
    refine r_dup2 rfl rfl dX8_grow_31 ?_
    refine r_gd (fun h6 => ?_)
    refine r_iaload (lvd_22 h2) (cell_22 _ _ _ _) h6 dX8_grow_32 ?_
    refine r_iload_n 3 rfl dX8_grow_33 ?_
    refine r_iadd dX8_grow_34 ?_
    refine r_bd ?_
    refine r_iastore (lvd_22 h2) (ia_22 _ _ _) h6 dX8_grow_35 ?_
    refine r_iinc (1) [(3, .int _), (2, .int _), (0, .ref _), (1, .int _)] 0 rfl (by decide) rfl (by decide) dX8_grow_36 ?_
    refine r_goto 17 dX8_grow_39 (by decide) ?_
    exact r_sub [0, 1, 2, 3] rfl (ih _ _ _ _ _)
theorem nc_X8_grow (X : Xt) (hst : X.1.stackTraces = false) (ad : Ad) (σ : Wd) (i : Nat) (p0 : Int32) : NC X (fun a => a = ad) yX8_grow cX8_grow 4 none 1 21 vV (0, 0) ad σ [.ref (ad 21 i), .int p0] (f_X8_grow σ i p0) := by
  unfold f_X8_grow
  refine NC.intro RX8 rfl hst (by decide) (Nat.le_of_ble_eq_true rfl) (lv := [(0, .ref _), (1, .int _)]) rfl ?_
  refine r_aload_n 0 rfl dX8_grow_0 ?_
  refine r_gd (fun h1 => ?_)
  refine r_getf 3 (lvd_21 h1) (cell_21 _ _ _ _) rfl (by decide) in_9 w_24 rfl dX8_grow_1 ?_
  refine r_istore_n [(2, .int _), (0, .ref _), (1, .int _)] rfl (by decide) dX8_grow_4 ?_
  refine r_aload_n 1 rfl dX8_grow_5 ?_
  refine r_dup rfl dX8_grow_6 ?_
  refine r_getf 3 (lvd_21 h1) (cell_21 _ _ _ _) rfl (by decide) in_9 w_24 rfl dX8_grow_7 ?_
  refine r_iload_n 2 rfl dX8_grow_10 ?_
  refine r_iadd dX8_grow_11 ?_
  refine r_bd ?_
  refine r_putf 3 tyX8 tyX8_ok nmX8 (lvd_21 h1) (cell_21 _ _ _ _) (wrc_21_3 _ _ _ _ _) rfl (by decide) (Nat.le_of_ble_eq_true rfl) in_9 w_24 rfl rfl rfl dX8_grow_12 ?_
  refine r_iconst (0) (by decide) dX8_grow_15 ?_
  refine r_istore_n [(3, .int _), (2, .int _), (0, .ref _), (1, .int _)] rfl (by decide) dX8_grow_16 ?_
  exact r_sub [0, 1, 2, 3] rfl ((bl_X8_grow_17 X hst ad FU) _ _ _ _ _)
def l_X8_growOlder_2 : Nat → Wd → Int32 → Nat → Option ((Unit ⊕ String) × Wd)
  | 0, _, _, _ => none
  | n + 1, σ, a1, ua0 =>
  gd (ua0 < σ.2.2 8) <|
  if (3 : Int32) ≤ a1 then
    some (.inl (), σ)
  else
    gd (inb a1 3) <|
    bd (wr σ 23 ua0 a1.toNatClampNeg ((σ.1 23 ua0 a1.toNatClampNeg) + (1 : Int32))) fun σ1 =>
    (l_X8_growOlder_2 n) σ1 (a1 + 1) ua0
def f_X8_growOlder (σ : Wd) (i : Nat) : Option ((Unit ⊕ String) × Wd) :=
  l_X8_growOlder_2 FU σ (0 : Int32) i
theorem bl_X8_growOlder_2 (X : Xt) (hst : X.1.stackTraces = false) (ad : Ad) : ∀ (n : Nat) (σ : Wd) (a1 : Int32) (ua0 : Nat), Bk X (fun a => a = ad) cX8_growOlder 2 RX8 none 0 0 vV (0, 0) (0, 0) ad σ 2 [(1, .int a1), (0, .ref (ad 21 ua0))] [] (l_X8_growOlder_2 n σ a1 ua0) := by
  intro n
  induction n with
  | zero => intros; exact r_none
  | succ n ih =>
  intro σ a1 ua0
  rw [l_X8_growOlder_2]
  refine r_iload_n 0 rfl dX8_growOlder_2 ?_
  refine r_aload_n 1 rfl dX8_growOlder_3 ?_
  refine r_gd (fun h1 => ?_)
  refine r_getf 5 (lvd_21 h1) (cell_21 _ _ _ _) rfl (by decide) in_9 w_22 rfl dX8_growOlder_4 ?_
  refine r_alen (3) (lvd_23 h1) (cell_23 _ _ _ _) rfl rfl dX8_growOlder_7 ?_
  refine r_icmp_ge 27 dX8_growOlder_8 (by decide) ?_ ?_
  · exact r_vret rfl rfl rfl dX8_growOlder_27
  · refine r_aload_n 1 rfl dX8_growOlder_11 ?_
    refine r_getf 5 (lvd_21 h1) (cell_21 _ _ _ _) rfl (by decide) in_9 w_22 rfl dX8_growOlder_12 ?_
    refine r_iload_n 0 rfl dX8_growOlder_15 ?_
    refine r_dup2 rfl rfl dX8_growOlder_16 ?_
    refine r_gd (fun h2 => ?_)
    refine r_iaload (lvd_23 h1) (cell_23 _ _ _ _) h2 dX8_growOlder_17 ?_
    refine r_iconst (1) (by decide) dX8_growOlder_18 ?_
    refine r_iadd dX8_growOlder_19 ?_
    refine r_bd ?_
    refine r_iastore (lvd_23 h1) (ia_23 _ _ _) h2 dX8_growOlder_20 ?_
    refine r_iinc (1) [(1, .int _), (0, .ref _)] 0 rfl (by decide) rfl (by decide) dX8_growOlder_21 ?_
    refine r_goto 2 dX8_growOlder_24 (by decide) ?_
    exact r_sub [0, 1] rfl (ih _ _ _)
theorem nc_X8_growOlder (X : Xt) (hst : X.1.stackTraces = false) (ad : Ad) (σ : Wd) (i : Nat) : NC X (fun a => a = ad) yX8_growOlder cX8_growOlder 2 none 0 0 vV (0, 0) ad σ [.ref (ad 21 i)] (f_X8_growOlder σ i) := by
  unfold f_X8_growOlder
  refine NC.intro RX8 rfl hst (by decide) (Nat.le_of_ble_eq_true rfl) (lv := [(0, .ref _)]) rfl ?_
  refine r_iconst (0) (by decide) dX8_growOlder_0 ?_
  refine r_istore_n [(1, .int _), (0, .ref _)] rfl (by decide) dX8_growOlder_1 ?_
  exact r_sub [0, 1] rfl ((bl_X8_growOlder_2 X hst ad FU) _ _ _)
def l_X8_beginAgain_2 : Nat → Wd → Int32 → Nat → Int32 → Option ((Unit ⊕ String) × Wd)
  | 0, _, _, _, _ => none
  | n + 1, σ, a2, ua0, a1 =>
  if a1 < a2 then
    some (.inl (), σ)
  else
    gd (ua0 < σ.2.2 8) <|
    if (3 : Int32) ≤ a2 then
      some (.inl (), σ)
    else
      if (3 : Int32) ≤ a2 then
        some (.inl (), σ)
      else
        gd (inb a2 3) <|
        bd (wr σ 22 ua0 a2.toNatClampNeg (0 : Int32)) fun σ1 =>
        bd (wr σ1 23 ua0 a2.toNatClampNeg (0 : Int32)) fun σ2 =>
        (l_X8_beginAgain_2 n) σ2 (a2 + 1) ua0 a1
def f_X8_beginAgain (σ : Wd) (i : Nat) (p0 : Int32) : Option ((Unit ⊕ String) × Wd) :=
  l_X8_beginAgain_2 FU σ (0 : Int32) i p0
theorem bl_X8_beginAgain_2 (X : Xt) (hst : X.1.stackTraces = false) (ad : Ad) : ∀ (n : Nat) (σ : Wd) (a2 : Int32) (ua0 : Nat) (a1 : Int32), Bk X (fun a => a = ad) cX8_beginAgain 3 RX8 none 0 0 vV (0, 0) (0, 0) ad σ 2 [(2, .int a2), (0, .ref (ad 21 ua0)), (1, .int a1)] [] (l_X8_beginAgain_2 n σ a2 ua0 a1) := by
  intro n
  induction n with
  | zero => intros; exact r_none
  | succ n ih =>
  intro σ a2 ua0 a1
  rw [l_X8_beginAgain_2]
  refine r_iload_n 0 rfl dX8_beginAgain_2 ?_
  refine r_iload_n 2 rfl dX8_beginAgain_3 ?_
  refine r_icmp_gt 45 dX8_beginAgain_4 (by decide) ?_ ?_
  · exact r_vret rfl rfl rfl dX8_beginAgain_45
  · refine r_iload_n 0 rfl dX8_beginAgain_7 ?_
    refine r_aload_n 1 rfl dX8_beginAgain_8 ?_
    refine r_gd (fun h1 => ?_)
    refine r_getf 4 (lvd_21 h1) (cell_21 _ _ _ _) rfl (by decide) in_9 w_21 rfl dX8_beginAgain_9 ?_
    refine r_alen (3) (lvd_22 h1) (cell_22 _ _ _ _) rfl rfl dX8_beginAgain_12 ?_
    refine r_icmp_ge 45 dX8_beginAgain_13 (by decide) ?_ ?_
    · exact r_vret rfl rfl rfl dX8_beginAgain_45
    · refine r_iload_n 0 rfl dX8_beginAgain_16 ?_
      refine r_aload_n 1 rfl dX8_beginAgain_17 ?_
      refine r_getf 5 (lvd_21 h1) (cell_21 _ _ _ _) rfl (by decide) in_9 w_22 rfl dX8_beginAgain_18 ?_
      refine r_alen (3) (lvd_23 h1) (cell_23 _ _ _ _) rfl rfl dX8_beginAgain_21 ?_
      refine r_icmp_ge 45 dX8_beginAgain_22 (by decide) ?_ ?_
      · exact r_vret rfl rfl rfl dX8_beginAgain_45
      · refine r_aload_n 1 rfl dX8_beginAgain_25 ?_
        refine r_getf 4 (lvd_21 h1) (cell_21 _ _ _ _) rfl (by decide) in_9 w_21 rfl dX8_beginAgain_26 ?_
        refine r_iload_n 0 rfl dX8_beginAgain_29 ?_
        refine r_iconst (0) (by decide) dX8_beginAgain_30 ?_
        refine r_gd (fun h2 => ?_)
        refine r_bd ?_
        refine r_iastore (lvd_22 h1) (ia_22 _ _ _) h2 dX8_beginAgain_31 ?_
        refine r_aload_n 1 rfl dX8_beginAgain_32 ?_
        refine r_getf 5 (lvd_21 h1) (cell_21 _ _ _ _) rfl (by decide) in_9 w_22 rfl dX8_beginAgain_33 ?_
        refine r_iload_n 0 rfl dX8_beginAgain_36 ?_
        refine r_iconst (0) (by decide) dX8_beginAgain_37 ?_
        refine r_bd ?_
        refine r_iastore (lvd_23 h1) (ia_23 _ _ _) h2 dX8_beginAgain_38 ?_
        refine r_iinc (1) [(2, .int _), (0, .ref _), (1, .int _)] 0 rfl (by decide) rfl (by decide) dX8_beginAgain_39 ?_
        refine r_goto 2 dX8_beginAgain_42 (by decide) ?_
        exact r_sub [0, 1, 2] rfl (ih _ _ _ _)
theorem nc_X8_beginAgain (X : Xt) (hst : X.1.stackTraces = false) (ad : Ad) (σ : Wd) (i : Nat) (p0 : Int32) : NC X (fun a => a = ad) yX8_beginAgain cX8_beginAgain 3 none 0 0 vV (0, 0) ad σ [.ref (ad 21 i), .int p0] (f_X8_beginAgain σ i p0) := by
  unfold f_X8_beginAgain
  refine NC.intro RX8 rfl hst (by decide) (Nat.le_of_ble_eq_true rfl) (lv := [(0, .ref _), (1, .int _)]) rfl ?_
  refine r_iconst (0) (by decide) dX8_beginAgain_0 ?_
  refine r_istore_n [(2, .int _), (0, .ref _), (1, .int _)] rfl (by decide) dX8_beginAgain_1 ?_
  exact r_sub [0, 1, 2] rfl ((bl_X8_beginAgain_2 X hst ad FU) _ _ _ _)
def l_X8_greatestAxle_8 : Nat → Wd → Int32 → Int32 → Nat → Option ((Int32 ⊕ String) × Wd)
  | 0, _, _, _, _ => none
  | n + 1, σ, a2, a1, ua0 =>
  gd (ua0 < σ.2.2 8) <|
  if (4 : Int32) ≤ a2 then
    some (.inl a1, σ)
  else
    gd (inb a2 4) <|
    bd ((if a1 < (σ.1 24 ua0 a2.toNatClampNeg) then (σ.1 24 ua0 a2.toNatClampNeg) else a1)) fun x4 =>
    (l_X8_greatestAxle_8 n) σ (a2 + 1) x4 ua0
def f_X8_greatestAxle (σ : Wd) (i : Nat) : Option ((Int32 ⊕ String) × Wd) :=
  gd (i < σ.2.2 8) <|
  bx (f_X8_axleSize σ i (0 : Int32)) fun v1 σ2 =>
  l_X8_greatestAxle_8 FU σ2 (1 : Int32) v1 i
theorem bl_X8_greatestAxle_8 (X : Xt) (hst : X.1.stackTraces = false) (ad : Ad) : ∀ (n : Nat) (σ : Wd) (a2 : Int32) (a1 : Int32) (ua0 : Nat), Bk X (fun a => a = ad) cX8_greatestAxle 3 RX8 (some (.int)) 1 21 vI (0, 0) (0, 0) ad σ 8 [(2, .int a2), (1, .int a1), (0, .ref (ad 21 ua0))] [] (l_X8_greatestAxle_8 n σ a2 a1 ua0) := by
  intro n
  induction n with
  | zero => intros; exact r_none
  | succ n ih =>
  intro σ a2 a1 ua0
  rw [l_X8_greatestAxle_8]
  refine r_iload_n 0 rfl dX8_greatestAxle_8 ?_
  refine r_aload_n 2 rfl dX8_greatestAxle_9 ?_
  refine r_gd (fun h2 => ?_)
  refine r_getf 6 (lvd_21 h2) (cell_21 _ _ _ _) rfl (by decide) in_9 w_23 rfl dX8_greatestAxle_10 ?_
  refine r_alen (4) (lvd_24 h2) (cell_24 _ _ _ _) rfl rfl dX8_greatestAxle_13 ?_
  refine r_icmp_ge 34 dX8_greatestAxle_14 (by decide) ?_ ?_
  · refine r_iload_n 1 rfl dX8_greatestAxle_34 ?_
    exact r_iret rfl rfl rfl dX8_greatestAxle_35
  · refine r_iload_n 1 rfl dX8_greatestAxle_17 ?_
    refine r_aload_n 2 rfl dX8_greatestAxle_18 ?_
    refine r_getf 6 (lvd_21 h2) (cell_21 _ _ _ _) rfl (by decide) in_9 w_23 rfl dX8_greatestAxle_19 ?_
    refine r_iload_n 0 rfl dX8_greatestAxle_22 ?_
    refine r_gd (fun h3 => ?_)
    refine r_iaload (lvd_24 h2) (cell_24 _ _ _ _) h3 dX8_greatestAxle_23 ?_
    refine r_mmax w_33 w_34 w_35 w_36 (by decide) (Nat.le_of_ble_eq_true rfl) dX8_greatestAxle_24 ?_
    refine r_bd ?_
    refine r_istore_n [(1, .int _), (2, .int _), (0, .ref _)] rfl (by decide) dX8_greatestAxle_27 ?_
    refine r_iinc (1) [(2, .int _), (1, .int _), (0, .ref _)] 1 rfl (by decide) rfl (by decide) dX8_greatestAxle_28 ?_
    refine r_goto 8 dX8_greatestAxle_31 (by decide) ?_
    exact r_sub [0, 1, 2] rfl (ih _ _ _ _)
theorem nc_X8_greatestAxle (X : Xt) (hst : X.1.stackTraces = false) (ad : Ad) (σ : Wd) (i : Nat) : NC X (fun a => a = ad) yX8_greatestAxle cX8_greatestAxle 3 (some (.int)) 1 21 vI (0, 0) ad σ [.ref (ad 21 i)] (f_X8_greatestAxle σ i) := by
  unfold f_X8_greatestAxle
  refine NC.intro RX8 rfl hst (by decide) (Nat.le_of_ble_eq_true rfl) (lv := [(0, .ref _)]) rfl ?_
  refine r_aload_n 0 rfl dX8_greatestAxle_0 ?_
  refine r_iconst (0) (by decide) dX8_greatestAxle_1 ?_
  refine r_gd (fun h1 => ?_)
  refine r_callV (n := 1) (As := [.int _]) (cell_21 _ _ _ _) (lvd_21 h1) rfl (nc_X8_axleSize X hst ad _ _ _) (fun _ h => h) rfl ⟨rfl, by decide, by decide, by decide +kernel⟩ w_29 w_30 w_31 w_27 w_32 rfl rfl (Nat.le_of_ble_eq_true rfl) ⟨by decide, by decide⟩ dX8_greatestAxle_2 (fun v1 σ2 => ?_)
  refine r_istore_n [(1, .int _), (0, .ref _)] rfl (by decide) dX8_greatestAxle_5 ?_
  refine r_iconst (1) (by decide) dX8_greatestAxle_6 ?_
  refine r_istore_n [(2, .int _), (1, .int _), (0, .ref _)] rfl (by decide) dX8_greatestAxle_7 ?_
  exact r_sub [0, 1, 2] rfl ((bl_X8_greatestAxle_8 X hst ad FU) _ _ _ _)
def l_X8_leastAxle_8 : Nat → Wd → Int32 → Int32 → Nat → Option ((Int32 ⊕ String) × Wd)
  | 0, _, _, _, _ => none
  | n + 1, σ, a2, a1, ua0 =>
  gd (ua0 < σ.2.2 8) <|
  if (4 : Int32) ≤ a2 then
    some (.inl a1, σ)
  else
    gd (inb a2 4) <|
    bd ((if (σ.1 24 ua0 a2.toNatClampNeg) < a1 then (σ.1 24 ua0 a2.toNatClampNeg) else a1)) fun x4 =>
    (l_X8_leastAxle_8 n) σ (a2 + 1) x4 ua0
def f_X8_leastAxle (σ : Wd) (i : Nat) : Option ((Int32 ⊕ String) × Wd) :=
  gd (i < σ.2.2 8) <|
  bx (f_X8_axleSize σ i (0 : Int32)) fun v1 σ2 =>
  l_X8_leastAxle_8 FU σ2 (1 : Int32) v1 i
theorem bl_X8_leastAxle_8 (X : Xt) (hst : X.1.stackTraces = false) (ad : Ad) : ∀ (n : Nat) (σ : Wd) (a2 : Int32) (a1 : Int32) (ua0 : Nat), Bk X (fun a => a = ad) cX8_leastAxle 3 RX8 (some (.int)) 1 21 vI (0, 0) (0, 0) ad σ 8 [(2, .int a2), (1, .int a1), (0, .ref (ad 21 ua0))] [] (l_X8_leastAxle_8 n σ a2 a1 ua0) := by
  intro n
  induction n with
  | zero => intros; exact r_none
  | succ n ih =>
  intro σ a2 a1 ua0
  rw [l_X8_leastAxle_8]
  refine r_iload_n 0 rfl dX8_leastAxle_8 ?_
  refine r_aload_n 2 rfl dX8_leastAxle_9 ?_
  refine r_gd (fun h2 => ?_)
  refine r_getf 6 (lvd_21 h2) (cell_21 _ _ _ _) rfl (by decide) in_9 w_23 rfl dX8_leastAxle_10 ?_
  refine r_alen (4) (lvd_24 h2) (cell_24 _ _ _ _) rfl rfl dX8_leastAxle_13 ?_
  refine r_icmp_ge 34 dX8_leastAxle_14 (by decide) ?_ ?_
  · refine r_iload_n 1 rfl dX8_leastAxle_34 ?_
    exact r_iret rfl rfl rfl dX8_leastAxle_35
  · refine r_iload_n 1 rfl dX8_leastAxle_17 ?_
    refine r_aload_n 2 rfl dX8_leastAxle_18 ?_
    refine r_getf 6 (lvd_21 h2) (cell_21 _ _ _ _) rfl (by decide) in_9 w_23 rfl dX8_leastAxle_19 ?_
    refine r_iload_n 0 rfl dX8_leastAxle_22 ?_
    refine r_gd (fun h3 => ?_)
    refine r_iaload (lvd_24 h2) (cell_24 _ _ _ _) h3 dX8_leastAxle_23 ?_
    refine r_mmin w_37 w_38 w_35 w_39 (by decide) (Nat.le_of_ble_eq_true rfl) dX8_leastAxle_24 ?_
    refine r_bd ?_
    refine r_istore_n [(1, .int _), (2, .int _), (0, .ref _)] rfl (by decide) dX8_leastAxle_27 ?_
    refine r_iinc (1) [(2, .int _), (1, .int _), (0, .ref _)] 1 rfl (by decide) rfl (by decide) dX8_leastAxle_28 ?_
    refine r_goto 8 dX8_leastAxle_31 (by decide) ?_
    exact r_sub [0, 1, 2] rfl (ih _ _ _ _)
theorem nc_X8_leastAxle (X : Xt) (hst : X.1.stackTraces = false) (ad : Ad) (σ : Wd) (i : Nat) : NC X (fun a => a = ad) yX8_leastAxle cX8_leastAxle 3 (some (.int)) 1 21 vI (0, 0) ad σ [.ref (ad 21 i)] (f_X8_leastAxle σ i) := by
  unfold f_X8_leastAxle
  refine NC.intro RX8 rfl hst (by decide) (Nat.le_of_ble_eq_true rfl) (lv := [(0, .ref _)]) rfl ?_
  refine r_aload_n 0 rfl dX8_leastAxle_0 ?_
  refine r_iconst (0) (by decide) dX8_leastAxle_1 ?_
  refine r_gd (fun h1 => ?_)
  refine r_callV (n := 1) (As := [.int _]) (cell_21 _ _ _ _) (lvd_21 h1) rfl (nc_X8_axleSize X hst ad _ _ _) (fun _ h => h) rfl ⟨rfl, by decide, by decide, by decide +kernel⟩ w_29 w_30 w_31 w_27 w_32 rfl rfl (Nat.le_of_ble_eq_true rfl) ⟨by decide, by decide⟩ dX8_leastAxle_2 (fun v1 σ2 => ?_)
  refine r_istore_n [(1, .int _), (0, .ref _)] rfl (by decide) dX8_leastAxle_5 ?_
  refine r_iconst (1) (by decide) dX8_leastAxle_6 ?_
  refine r_istore_n [(2, .int _), (1, .int _), (0, .ref _)] rfl (by decide) dX8_leastAxle_7 ?_
  exact r_sub [0, 1, 2] rfl ((bl_X8_leastAxle_8 X hst ad FU) _ _ _ _)
