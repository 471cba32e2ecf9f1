theorem w_40 : Cond.methodLink RX3 37 Lib.Math.min.name ∈ G_ := gt3 39 (by decide +kernel) (by decide +kernel)
theorem w_41 : Cond.methodLink RX3 43 Lib.Math.max.name ∈ G_ := gt3 40 (by decide +kernel) (by decide +kernel)
theorem w_42 : Cond.fieldLink RX3 30 "Stablingroad$Morning" "unitCount" "I" ∈ G_ := gt1 123 (by decide +kernel) (by decide +kernel)
theorem w_43 : Cond.fieldLink RX3 34 "Stablingroad$Morning" "diagramCount" "I" ∈ G_ := gt1 124 (by decide +kernel) (by decide +kernel)
theorem w_44 : Cond.fieldLink RX3 9 "Stablingroad$Morning" "weights" "[I" ∈ G_ := gt1 117 (by decide +kernel) (by decide +kernel)
theorem w_45 : Cond.fieldLink RX3 15 "Stablingroad$Morning" "takers" "[I" ∈ G_ := gt1 118 (by decide +kernel) (by decide +kernel)
theorem w_46 : Cond.fieldLink RX3 18 "Stablingroad$Morning" "homers" "[I" ∈ G_ := gt1 119 (by decide +kernel) (by decide +kernel)
theorem w_47 : Cond.fieldLink RX3 21 "Stablingroad$Morning" "given" "[I" ∈ G_ := gt1 120 (by decide +kernel) (by decide +kernel)
theorem w_48 : Cond.methodLink RX3 46 yX3_at ∈ G_ := gt3 150 (by decide +kernel) (by decide +kernel)
theorem w_49 : Cond.static yX3_at ∈ G_ := gt3 151 (by decide +kernel) (by decide +kernel)
theorem w_50 : Cond.initialized RX3 ∈ G_ := gt1 8 (by decide +kernel) (by decide +kernel)
theorem w_51 : Cond.code yX3_at cX3_at 3 (some (.int)) ∈ G_ := gt3 152 (by decide +kernel) (by decide +kernel)
theorem w_52 : Cond.methodLink RX3 50 yX3_lackOf ∈ G_ := gt3 199 (by decide +kernel) (by decide +kernel)
theorem w_53 : Cond.instanceMethod yX3_lackOf ∈ G_ := gt3 201 (by decide +kernel) (by decide +kernel)
theorem w_54 : Cond.selects RX3 yX3_lackOf yX3_lackOf ∈ G_ := gsl 16 (by decide +kernel) (by decide +kernel)
theorem w_55 : Cond.code yX3_lackOf cX3_lackOf 4 (some (.int)) ∈ G_ := gt3 202 (by decide +kernel) (by decide +kernel)
theorem w_56 : Cond.fieldLink RX3 27 "Stablingroad$Morning" "leastCosts" "[I" ∈ G_ := gt1 122 (by decide +kernel) (by decide +kernel)
theorem w_57 : Cond.methodLink RX3 68 yX3_without ∈ G_ := gt3 147 (by decide +kernel) (by decide +kernel)
theorem w_58 : Cond.static yX3_without ∈ G_ := gt3 148 (by decide +kernel) (by decide +kernel)
theorem w_59 : Cond.code yX3_without cX3_without 2 (some (.int)) ∈ G_ := gt3 149 (by decide +kernel) (by decide +kernel)
theorem w_60 : Cond.methodLink RX3 54 yX3_has ∈ G_ := gt3 153 (by decide +kernel) (by decide +kernel)
theorem w_61 : Cond.static yX3_has ∈ G_ := gt3 154 (by decide +kernel) (by decide +kernel)
theorem w_62 : Cond.code yX3_has cX3_has 2 (some (.boolean)) ∈ G_ := gt3 155 (by decide +kernel) (by decide +kernel)
theorem w_63 : Cond.methodLink RX3 74 yX3_costWith ∈ G_ := gt3 143 (by decide +kernel) (by decide +kernel)
theorem w_64 : Cond.instanceMethod yX3_costWith ∈ G_ := gt3 145 (by decide +kernel) (by decide +kernel)
theorem w_65 : Cond.selects RX3 yX3_costWith yX3_costWith ∈ G_ := gsl 12 (by decide +kernel) (by decide +kernel)
theorem w_66 : Cond.code yX3_costWith cX3_costWith 5 (some (.int)) ∈ G_ := gt3 146 (by decide +kernel) (by decide +kernel)
theorem w_67 : Cond.methodLink RX3 71 yX3_leastCostFrom ∈ G_ := gt3 139 (by decide +kernel) (by decide +kernel)
theorem w_68 : Cond.instanceMethod yX3_leastCostFrom ∈ G_ := gt3 141 (by decide +kernel) (by decide +kernel)
theorem w_69 : Cond.selects RX3 yX3_leastCostFrom yX3_leastCostFrom ∈ G_ := gsl 11 (by decide +kernel) (by decide +kernel)
theorem w_70 : Cond.code yX3_leastCostFrom cX3_leastCostFrom 6 (some (.int)) ∈ G_ := gt3 142 (by decide +kernel) (by decide +kernel)
theorem w_71 : Cond.methodLink RX3 64 yX3_put ∈ G_ := gt3 136 (by decide +kernel) (by decide +kernel)
theorem w_72 : Cond.static yX3_put ∈ G_ := gt3 137 (by decide +kernel) (by decide +kernel)
theorem w_73 : Cond.code yX3_put cX3_put 3 none ∈ G_ := gt3 138 (by decide +kernel) (by decide +kernel)
theorem w_74 : Cond.methodLink RX3 58 yX3_fillLeastCosts ∈ G_ := gt3 132 (by decide +kernel) (by decide +kernel)
theorem w_75 : Cond.instanceMethod yX3_fillLeastCosts ∈ G_ := gt3 134 (by decide +kernel) (by decide +kernel)
theorem w_76 : Cond.selects RX3 yX3_fillLeastCosts yX3_fillLeastCosts ∈ G_ := gsl 10 (by decide +kernel) (by decide +kernel)
theorem w_77 : Cond.code yX3_fillLeastCosts cX3_fillLeastCosts 4 none ∈ G_ := gt3 135 (by decide +kernel) (by decide +kernel)
theorem w_78 : Cond.methodLink RX3 61 yX3_lowestOfLeastCost ∈ G_ := gt3 156 (by decide +kernel) (by decide +kernel)
theorem w_79 : Cond.instanceMethod yX3_lowestOfLeastCost ∈ G_ := gt3 158 (by decide +kernel) (by decide +kernel)
theorem w_80 : Cond.selects RX3 yX3_lowestOfLeastCost yX3_lowestOfLeastCost ∈ G_ := gsl 13 (by decide +kernel) (by decide +kernel)
theorem w_81 : Cond.code yX3_lowestOfLeastCost cX3_lowestOfLeastCost 6 (some (.int)) ∈ G_ := gt3 159 (by decide +kernel) (by decide +kernel)
theorem w_82 : Cond.fieldLink RX3 24 "Stablingroad$Morning" "trial" "[I" ∈ G_ := gt1 121 (by decide +kernel) (by decide +kernel)
theorem w_83 : Cond.methodLink RX3 78 yX3_firstChoice ∈ G_ := gt4 159 (by decide +kernel) (by decide +kernel)
theorem w_84 : Cond.instanceMethod yX3_firstChoice ∈ G_ := gt4 161 (by decide +kernel) (by decide +kernel)
theorem w_85 : Cond.selects RX3 yX3_firstChoice yX3_firstChoice ∈ G_ := gsl 20 (by decide +kernel) (by decide +kernel)
theorem w_86 : Cond.code yX3_firstChoice cX3_firstChoice 1 (some (.int)) ∈ G_ := gt4 162 (by decide +kernel) (by decide +kernel)
theorem w_87 : Cond.methodLink RX3 107 yX3_homingOf ∈ G_ := gt4 176 (by decide +kernel) (by decide +kernel)
theorem w_88 : Cond.instanceMethod yX3_homingOf ∈ G_ := gt4 178 (by decide +kernel) (by decide +kernel)
theorem w_89 : Cond.selects RX3 yX3_homingOf yX3_homingOf ∈ G_ := gsl 24 (by decide +kernel) (by decide +kernel)
theorem w_90 : Cond.code yX3_homingOf cX3_homingOf 5 (some (.int)) ∈ G_ := gt4 179 (by decide +kernel) (by decide +kernel)
def f_X3_begin (σ : Wd) (p0 : Int32) : Option ((Unit ⊕ String) × Wd) :=
  bd (wr σ 12 0 6 (if (0 : Int32) < (if (6 : Int32) < p0 then (6 : Int32) else p0) then (if (6 : Int32) < p0 then (6 : Int32) else p0) else (0 : Int32))) fun σ3 =>
  bd (wr σ3 12 0 7 (0 : Int32)) fun σ4 =>
  some (.inl (), σ4)
theorem nc_X3_begin (X : Xt) (hst : X.1.stackTraces = false) (ad : Ad) (σ : Wd) (p0 : Int32) : NC X (fun a => a = ad) yX3_begin cX3_begin 2 none 1 15 vV (0, 0) ad σ [.ref (ad 12 0), .int p0] (f_X3_begin σ p0) := by
  unfold f_X3_begin
  refine NC.intro RX3 rfl hst (by decide) (Nat.le_of_ble_eq_true rfl) (lv := [(0, .ref _), (1, .int _)]) rfl ?_
  refine r_aload_n 0 rfl dX3_begin_0 ?_
  refine r_iconst (0) (by decide) dX3_begin_1 ?_
  refine r_iload_n 1 rfl dX3_begin_2 ?_
  refine r_bipush (6) (by decide) dX3_begin_3 ?_
  refine r_mmin w_40 w_38 w_35 w_39 (by decide) (Nat.le_of_ble_eq_true rfl) dX3_begin_5 ?_
  refine r_mmax w_41 w_34 w_35 w_36 (by decide) (Nat.le_of_ble_eq_true rfl) dX3_begin_8 ?_
  refine r_bd ?_
  refine r_putf 6 tyX3 tyX3_ok nmX3 (lvs_12 _) (cell_12 _ _ _ _) (wrc_12_6 _ _ _ _ _) rfl (by decide) (Nat.le_of_ble_eq_true rfl) in_4 w_42 rfl rfl rfl dX3_begin_11 ?_
  refine r_aload_n 0 rfl dX3_begin_14 ?_
  refine r_iconst (0) (by decide) dX3_begin_15 ?_
  refine r_bd ?_
  refine r_putf 7 tyX3 tyX3_ok nmX3 (lvs_12 _) (cell_12 _ _ _ _) (wrc_12_7 _ _ _ _ _) rfl (by decide) (Nat.le_of_ble_eq_true rfl) in_4 w_43 rfl rfl rfl dX3_begin_16 ?_
  exact r_vret rfl rfl rfl dX3_begin_19
def f_X3_addDiagram (σ : Wd) (p0 : Int32) (p1 : Int32) (p2 : Int32) : Option ((Unit ⊕ String) × Wd) :=
  if (σ.1 12 0 7) < 0 then
    some (.inl (), σ)
  else
    if (6 : Int32) ≤ (σ.1 12 0 7) then
      some (.inl (), σ)
    else
      if (6 : Int32) ≤ (σ.1 12 0 7) then
        some (.inl (), σ)
      else
        if (6 : Int32) ≤ (σ.1 12 0 7) then
          some (.inl (), σ)
        else
          gd (inb (σ.1 12 0 7) 6) <|
          bd (wr σ 13 0 (σ.1 12 0 7).toNatClampNeg p0) fun σ1 =>
          bd (wr σ1 14 0 (σ.1 12 0 7).toNatClampNeg p1) fun σ2 =>
          bd (wr σ2 15 0 (σ.1 12 0 7).toNatClampNeg p2) fun σ3 =>
          bd (wr σ3 12 0 7 ((σ3.1 12 0 7) + (1 : Int32))) fun σ4 =>
          some (.inl (), σ4)
theorem nc_X3_addDiagram (X : Xt) (hst : X.1.stackTraces = false) (ad : Ad) (σ : Wd) (p0 : Int32) (p1 : Int32) (p2 : Int32) : NC X (fun a => a = ad) yX3_addDiagram cX3_addDiagram 5 none 0 0 vV (0, 0) ad σ [.ref (ad 12 0), .int p0, .int p1, .int p2] (f_X3_addDiagram σ p0 p1 p2) := by
  unfold f_X3_addDiagram
  refine NC.intro RX3 rfl hst (by decide) (Nat.le_of_ble_eq_true rfl) (lv := [(0, .ref _), (1, .int _), (2, .int _), (3, .int _)]) rfl ?_
  refine r_aload_n 0 rfl dX3_addDiagram_0 ?_
  refine r_getf 7 (lvs_12 _) (cell_12 _ _ _ _) rfl (by decide) in_4 w_43 rfl dX3_addDiagram_1 ?_
  refine r_istore [(4, .int _), (0, .ref _), (1, .int _), (2, .int _), (3, .int _)] rfl (by decide) dX3_addDiagram_4 ?_
  refine r_iload 0 rfl dX3_addDiagram_6 ?_
  refine r_if_lt 75 dX3_addDiagram_8 (by decide) ?_ ?_
  · exact r_vret rfl rfl rfl dX3_addDiagram_75
  · refine r_iload 0 rfl dX3_addDiagram_11 ?_
    refine r_aload_n 1 rfl dX3_addDiagram_13 ?_
    refine r_getf 0 (lvs_12 _) (cell_12 _ _ _ _) rfl (by decide) in_4 w_44 rfl dX3_addDiagram_14 ?_
    refine r_alen (6) (lvs_13 _) (cell_13 _ _ _ _) rfl rfl dX3_addDiagram_17 ?_
    refine r_icmp_ge 75 dX3_addDiagram_18 (by decide) ?_ ?_
    · exact r_vret rfl rfl rfl dX3_addDiagram_75
    · refine r_iload 0 rfl dX3_addDiagram_21 ?_
      refine r_aload_n 1 rfl dX3_addDiagram_23 ?_
      refine r_getf 1 (lvs_12 _) (cell_12 _ _ _ _) rfl (by decide) in_4 w_45 rfl dX3_addDiagram_24 ?_
      refine r_alen (6) (lvs_14 _) (cell_14 _ _ _ _) rfl rfl dX3_addDiagram_27 ?_
      refine r_icmp_ge 75 dX3_addDiagram_28 (by decide) ?_ ?_
      · exact r_vret rfl rfl rfl dX3_addDiagram_75
      · refine r_iload 0 rfl dX3_addDiagram_31 ?_
        refine r_aload_n 1 rfl dX3_addDiagram_33 ?_
        refine r_getf 2 (lvs_12 _) (cell_12 _ _ _ _) rfl (by decide) in_4 w_46 rfl dX3_addDiagram_34 ?_
        refine r_alen (6) (lvs_15 _) (cell_15 _ _ _ _) rfl rfl dX3_addDiagram_37 ?_
        refine r_icmp_ge 75 dX3_addDiagram_38 (by decide) ?_ ?_
        · exact r_vret rfl rfl rfl dX3_addDiagram_75
        · refine r_aload_n 1 rfl dX3_addDiagram_41 ?_
          refine r_getf 0 (lvs_12 _) (cell_12 _ _ _ _) rfl (by decide) in_4 w_44 rfl dX3_addDiagram_42 ?_
          refine r_iload 0 rfl dX3_addDiagram_45 ?_
          refine r_iload_n 2 rfl dX3_addDiagram_47 ?_
          refine r_gd (fun h1 => ?_)
          refine r_bd ?_
          refine r_iastore (lvs_13 _) (ia_13 _ _ _) h1 dX3_addDiagram_48 ?_
          refine r_aload_n 1 rfl dX3_addDiagram_49 ?_
          refine r_getf 1 (lvs_12 _) (cell_12 _ _ _ _) rfl (by decide) in_4 w_45 rfl dX3_addDiagram_50 ?_
          refine r_iload 0 rfl dX3_addDiagram_53 ?_
          refine r_iload_n 3 rfl dX3_addDiagram_55 ?_
          refine r_bd ?_
          refine r_iastore (lvs_14 _) (ia_14 _ _ _) h1 dX3_addDiagram_56 ?_
          refine r_aload_n 1 rfl dX3_addDiagram_57 ?_
          refine r_getf 2 (lvs_12 _) (cell_12 _ _ _ _) rfl (by decide) in_4 w_46 rfl dX3_addDiagram_58 ?_
          refine r_iload 0 rfl dX3_addDiagram_61 ?_
          refine r_iload_n 4 rfl dX3_addDiagram_63 ?_
          refine r_bd ?_
          refine r_iastore (lvs_15 _) (ia_15 _ _ _) h1 dX3_addDiagram_64 ?_
          refine r_aload_n 1 rfl dX3_addDiagram_65 ?_
          refine r_dup rfl dX3_addDiagram_66 ?_
          refine r_getf 7 (lvs_12 _) (cell_12 _ _ _ _) rfl (by decide) in_4 w_43 rfl dX3_addDiagram_67 ?_
          refine r_iconst (1) (by decide) dX3_addDiagram_70 ?_
          refine r_iadd dX3_addDiagram_71 ?_
          refine r_bd ?_
          refine r_putf 7 tyX3 tyX3_ok nmX3 (lvs_12 _) (cell_12 _ _ _ _) (wrc_12_7 _ _ _ _ _) rfl (by decide) (Nat.le_of_ble_eq_true rfl) in_4 w_43 rfl rfl rfl dX3_addDiagram_72 ?_
          exact r_vret rfl rfl rfl dX3_addDiagram_75
def f_X3_at_16 (σ : Wd) (p1 : Int32) (p2 : Int32) : Option ((Int32 ⊕ String) × Wd) :=
  if p1 < 0 then
    some (.inl p2, σ)
  else
    if (6 : Int32) ≤ p1 then
      some (.inl p2, σ)
    else
      gd (inb p1 6) <|
      some (.inl (σ.1 16 0 p1.toNatClampNeg), σ)
theorem nc_X3_at_16 (X : Xt) (hst : X.1.stackTraces = false) (ad : Ad) (σ : Wd) (p1 : Int32) (p2 : Int32) : NC X (fun a => a = ad) yX3_at cX3_at 3 (some (.int)) 0 0 vI (0, 0) ad σ [.ref (ad 16 0), .int p1, .int p2] (f_X3_at_16 σ p1 p2) := by
  unfold f_X3_at_16
  refine NC.intro RX3 rfl hst (by decide) (Nat.le_of_ble_eq_true rfl) (lv := [(0, .ref _), (1, .int _), (2, .int _)]) rfl ?_
  refine r_iload_n 1 rfl dX3_at_0 ?_
  refine r_if_lt 16 dX3_at_1 (by decide) ?_ ?_
  · refine r_iload_n 2 rfl dX3_at_16 ?_
    exact r_iret rfl rfl rfl dX3_at_17
  · refine r_iload_n 1 rfl dX3_at_4 ?_
    refine r_aload_n 0 rfl dX3_at_5 ?_
    refine r_alen (6) (lvs_16 _) (cell_16 _ _ _ _) rfl rfl dX3_at_6 ?_
    refine r_icmp_ge 16 dX3_at_7 (by decide) ?_ ?_
    · refine r_iload_n 2 rfl dX3_at_16 ?_
      exact r_iret rfl rfl rfl dX3_at_17
    · refine r_aload_n 0 rfl dX3_at_10 ?_
      refine r_iload_n 1 rfl dX3_at_11 ?_
      refine r_gd (fun h1 => ?_)
      refine r_iaload (lvs_16 _) (cell_16 _ _ _ _) h1 dX3_at_12 ?_
      refine r_goto 17 dX3_at_13 (by decide) ?_
      exact r_iret rfl rfl rfl dX3_at_17
def f_X3_givenTo (σ : Wd) (p0 : Int32) : Option ((Int32 ⊕ String) × Wd) :=
  bx (f_X3_at_16 σ p0 (-1 : Int32)) fun v1 σ2 =>
  some (.inl v1, σ2)
theorem nc_X3_givenTo (X : Xt) (hst : X.1.stackTraces = false) (ad : Ad) (σ : Wd) (p0 : Int32) : NC X (fun a => a = ad) yX3_givenTo cX3_givenTo 2 (some (.int)) 1 22 vI (0, 0) ad σ [.ref (ad 12 0), .int p0] (f_X3_givenTo σ p0) := by
  unfold f_X3_givenTo
  refine NC.intro RX3 rfl hst (by decide) (Nat.le_of_ble_eq_true rfl) (lv := [(0, .ref _), (1, .int _)]) rfl ?_
  refine r_aload_n 0 rfl dX3_givenTo_0 ?_
  refine r_getf 3 (lvs_12 _) (cell_12 _ _ _ _) rfl (by decide) in_4 w_47 rfl dX3_givenTo_1 ?_
  refine r_iload_n 1 rfl dX3_givenTo_4 ?_
  refine r_iconst (-1) (by decide) dX3_givenTo_5 ?_
  refine r_callS (n := 3) (As := [.ref _, .int _, .int _]) (nc_X3_at_16 X hst ad _ _ _) (fun _ h => h) rfl ⟨by decide, by decide, by decide +kernel⟩ w_48 w_49 w_50 w_51 rfl rfl (Nat.le_of_ble_eq_true rfl) ⟨by decide, by decide⟩ dX3_givenTo_6 (fun v1 σ2 => ?_)
  exact r_iret rfl rfl rfl dX3_givenTo_9
def f_X3_at_13 (σ : Wd) (p1 : Int32) (p2 : Int32) : Option ((Int32 ⊕ String) × Wd) :=
  if p1 < 0 then
    some (.inl p2, σ)
  else
    if (6 : Int32) ≤ p1 then
      some (.inl p2, σ)
    else
      gd (inb p1 6) <|
      some (.inl (σ.1 13 0 p1.toNatClampNeg), σ)
theorem nc_X3_at_13 (X : Xt) (hst : X.1.stackTraces = false) (ad : Ad) (σ : Wd) (p1 : Int32) (p2 : Int32) : NC X (fun a => a = ad) yX3_at cX3_at 3 (some (.int)) 0 0 vI (0, 0) ad σ [.ref (ad 13 0), .int p1, .int p2] (f_X3_at_13 σ p1 p2) := by
  unfold f_X3_at_13
  refine NC.intro RX3 rfl hst (by decide) (Nat.le_of_ble_eq_true rfl) (lv := [(0, .ref _), (1, .int _), (2, .int _)]) rfl ?_
  refine r_iload_n 1 rfl dX3_at_0 ?_
  refine r_if_lt 16 dX3_at_1 (by decide) ?_ ?_
  · refine r_iload_n 2 rfl dX3_at_16 ?_
    exact r_iret rfl rfl rfl dX3_at_17
  · refine r_iload_n 1 rfl dX3_at_4 ?_
    refine r_aload_n 0 rfl dX3_at_5 ?_
    refine r_alen (6) (lvs_13 _) (cell_13 _ _ _ _) rfl rfl dX3_at_6 ?_
    refine r_icmp_ge 16 dX3_at_7 (by decide) ?_ ?_
    · refine r_iload_n 2 rfl dX3_at_16 ?_
      exact r_iret rfl rfl rfl dX3_at_17
    · refine r_aload_n 0 rfl dX3_at_10 ?_
      refine r_iload_n 1 rfl dX3_at_11 ?_
      refine r_gd (fun h1 => ?_)
      refine r_iaload (lvs_13 _) (cell_13 _ _ _ _) h1 dX3_at_12 ?_
      refine r_goto 17 dX3_at_13 (by decide) ?_
      exact r_iret rfl rfl rfl dX3_at_17
def l_X3_lackOf_16_4 : Nat → Wd → Int32 → Int32 → Option ((Int32 ⊕ String) × Wd)
  | 0, _, _, _ => none
  | n + 1, σ, a3, a2 =>
  if (σ.1 12 0 7) ≤ a3 then
    some (.inl a2, σ)
  else
    bx (f_X3_at_16 σ a3 (-1 : Int32)) fun v1 σ2 =>
    if v1 = (-1 : Int32) then
      bx (f_X3_at_13 σ2 a3 (0 : Int32)) fun v3 σ4 =>
      (l_X3_lackOf_16_4 n) σ4 (a3 + 1) (a2 + v3)
    else
      (l_X3_lackOf_16_4 n) σ2 (a3 + 1) a2
def f_X3_lackOf_16 (σ : Wd) : Option ((Int32 ⊕ String) × Wd) :=
  l_X3_lackOf_16_4 FU σ (0 : Int32) (0 : Int32)
theorem bl_X3_lackOf_16_4 (X : Xt) (hst : X.1.stackTraces = false) (ad : Ad) : ∀ (n : Nat) (σ : Wd) (a3 : Int32) (a2 : Int32), Bk X (fun a => a = ad) cX3_lackOf 4 RX3 (some (.int)) 1 22 vI (0, 0) (0, 0) ad σ 4 [(3, .int a3), (2, .int a2), (0, .ref (ad 12 0)), (1, .ref (ad 16 0))] [] (l_X3_lackOf_16_4 n σ a3 a2) := by
  intro n
  induction n with
  | zero => intros; exact r_none
  | succ n ih =>
  intro σ a3 a2
  rw [l_X3_lackOf_16_4]
  refine r_iload_n 0 rfl dX3_lackOf_4 ?_
  refine r_aload_n 2 rfl dX3_lackOf_5 ?_
  refine r_getf 7 (lvs_12 _) (cell_12 _ _ _ _) rfl (by decide) in_4 w_43 rfl dX3_lackOf_6 ?_
  refine r_icmp_ge 40 dX3_lackOf_9 (by decide) ?_ ?_
  · refine r_iload_n 1 rfl dX3_lackOf_40 ?_
    exact r_iret rfl rfl rfl dX3_lackOf_41
  · refine r_aload_n 3 rfl dX3_lackOf_12 ?_
    refine r_iload_n 0 rfl dX3_lackOf_13 ?_
    refine r_iconst (-1) (by decide) dX3_lackOf_14 ?_
    refine r_callS (n := 3) (As := [.ref _, .int _, .int _]) (nc_X3_at_16 X hst ad _ _ _) (fun _ h => h) rfl ⟨by decide, by decide, by decide +kernel⟩ w_48 w_49 w_50 w_51 rfl rfl (Nat.le_of_ble_eq_true rfl) ⟨by decide, by decide⟩ dX3_lackOf_15 (fun v1 σ2 => ?_)
    refine r_iconst (-1) (by decide) dX3_lackOf_18 ?_
    refine r_icmp_ne 34 dX3_lackOf_19 (by decide) ?_ ?_
    · refine r_iload_n 1 rfl dX3_lackOf_22 ?_
      refine r_aload_n 2 rfl dX3_lackOf_23 ?_
      refine r_getf 0 (lvs_12 _) (cell_12 _ _ _ _) rfl (by decide) in_4 w_44 rfl dX3_lackOf_24 ?_
      refine r_iload_n 0 rfl dX3_lackOf_27 ?_
      refine r_iconst (0) (by decide) dX3_lackOf_28 ?_
      refine r_callS (n := 3) (As := [.ref _, .int _, .int _]) (nc_X3_at_13 X hst ad _ _ _) (fun _ h => h) rfl ⟨by decide, by decide, by decide +kernel⟩ w_48 w_49 w_50 w_51 rfl rfl (Nat.le_of_ble_eq_true rfl) ⟨by decide, by decide⟩ dX3_lackOf_29 (fun v3 σ4 => ?_)
      refine r_iadd dX3_lackOf_32 ?_
      refine r_istore_n [(2, .int _), (3, .int _), (0, .ref _), (1, .ref _)] rfl (by decide) dX3_lackOf_33 ?_
      refine r_iinc (1) [(3, .int _), (2, .int _), (0, .ref _), (1, .ref _)] 1 rfl (by decide) rfl (by decide) dX3_lackOf_34 ?_
      refine r_goto 4 dX3_lackOf_37 (by decide) ?_
      exact r_sub [0, 1, 2, 3] rfl (ih _ _ _)
    · refine r_iinc (1) [(3, .int _), (2, .int _), (0, .ref _), (1, .ref _)] 0 rfl (by decide) rfl (by decide) dX3_lackOf_34 ?_
      refine r_goto 4 dX3_lackOf_37 (by decide) ?_
      exact r_sub [0, 1, 2, 3] rfl (ih _ _ _)
theorem nc_X3_lackOf_16 (X : Xt) (hst : X.1.stackTraces = false) (ad : Ad) (σ : Wd) : NC X (fun a => a = ad) yX3_lackOf cX3_lackOf 4 (some (.int)) 1 22 vI (0, 0) ad σ [.ref (ad 12 0), .ref (ad 16 0)] (f_X3_lackOf_16 σ) := by
  unfold f_X3_lackOf_16
  refine NC.intro RX3 rfl hst (by decide) (Nat.le_of_ble_eq_true rfl) (lv := [(0, .ref _), (1, .ref _)]) rfl ?_
  refine r_iconst (0) (by decide) dX3_lackOf_0 ?_
  refine r_istore_n [(2, .int _), (0, .ref _), (1, .ref _)] rfl (by decide) dX3_lackOf_1 ?_
  refine r_iconst (0) (by decide) dX3_lackOf_2 ?_
  refine r_istore_n [(3, .int _), (2, .int _), (0, .ref _), (1, .ref _)] rfl (by decide) dX3_lackOf_3 ?_
  exact r_sub [0, 1, 2, 3] rfl ((bl_X3_lackOf_16_4 X hst ad FU) _ _ _)
def f_X3_lackOfGiven (σ : Wd) : Option ((Int32 ⊕ String) × Wd) :=
  bx (f_X3_lackOf_16 σ) fun v1 σ2 =>
  some (.inl v1, σ2)
theorem nc_X3_lackOfGiven (X : Xt) (hst : X.1.stackTraces = false) (ad : Ad) (σ : Wd) : NC X (fun a => a = ad) yX3_lackOfGiven cX3_lackOfGiven 1 (some (.int)) 2 45 vI (0, 0) ad σ [.ref (ad 12 0)] (f_X3_lackOfGiven σ) := by
  unfold f_X3_lackOfGiven
  refine NC.intro RX3 rfl hst (by decide) (Nat.le_of_ble_eq_true rfl) (lv := [(0, .ref _)]) rfl ?_
  refine r_aload_n 0 rfl dX3_lackOfGiven_0 ?_
  refine r_aload_n 0 rfl dX3_lackOfGiven_1 ?_
  refine r_getf 3 (lvs_12 _) (cell_12 _ _ _ _) rfl (by decide) in_4 w_47 rfl dX3_lackOfGiven_2 ?_
  refine r_callV (n := 1) (As := [.ref _]) (cell_12 _ _ _ _) (lvs_12 _) rfl (nc_X3_lackOf_16 X hst ad _) (fun _ h => h) rfl ⟨rfl, by decide, by decide, by decide +kernel⟩ w_52 w_53 w_54 w_50 w_55 rfl rfl (Nat.le_of_ble_eq_true rfl) ⟨by decide, by decide⟩ dX3_lackOfGiven_5 (fun v1 σ2 => ?_)
  exact r_iret rfl rfl rfl dX3_lackOfGiven_8
def f_X3_without (σ : Wd) (p0 : Int32) (p1 : Int32) : Option ((Int32 ⊕ String) × Wd) :=
  if p1 = (-1 : Int32) then
    some (.inl p0, σ)
  else
    some (.inl (p0 &&& (((1 : Int32) <<< (p1 &&& 31)) ^^^ (-1 : Int32))), σ)
theorem nc_X3_without (X : Xt) (hst : X.1.stackTraces = false) (ad : Ad) (σ : Wd) (p0 : Int32) (p1 : Int32) : NC X (fun a => a = ad) yX3_without cX3_without 2 (some (.int)) 0 0 vI (0, 0) ad σ [.int p0, .int p1] (f_X3_without σ p0 p1) := by
  unfold f_X3_without
  refine NC.intro RX3 rfl hst (by decide) (Nat.le_of_ble_eq_true rfl) (lv := [(0, .int _), (1, .int _)]) rfl ?_
  refine r_iload_n 1 rfl dX3_without_0 ?_
  refine r_iconst (-1) (by decide) dX3_without_1 ?_
  refine r_icmp_ne 9 dX3_without_2 (by decide) ?_ ?_
  · refine r_iload_n 0 rfl dX3_without_5 ?_
    refine r_goto 16 dX3_without_6 (by decide) ?_
    exact r_iret rfl rfl rfl dX3_without_16
  · refine r_iload_n 0 rfl dX3_without_9 ?_
    refine r_iconst (1) (by decide) dX3_without_10 ?_
    refine r_iload_n 1 rfl dX3_without_11 ?_
    refine r_ishl dX3_without_12 ?_
    refine r_iconst (-1) (by decide) dX3_without_13 ?_
    refine r_ixor dX3_without_14 ?_
    refine r_iand dX3_without_15 ?_
    exact r_iret rfl rfl rfl dX3_without_16
def f_X3_at_18 (σ : Wd) (p1 : Int32) (p2 : Int32) : Option ((Int32 ⊕ String) × Wd) :=
  if p1 < 0 then
    some (.inl p2, σ)
  else
    if (448 : Int32) ≤ p1 then
      some (.inl p2, σ)
    else
      gd (inb p1 448) <|
      some (.inl (σ.1 18 0 p1.toNatClampNeg), σ)
theorem nc_X3_at_18 (X : Xt) (hst : X.1.stackTraces = false) (ad : Ad) (σ : Wd) (p1 : Int32) (p2 : Int32) : NC X (fun a => a = ad) yX3_at cX3_at 3 (some (.int)) 0 0 vI (0, 0) ad σ [.ref (ad 18 0), .int p1, .int p2] (f_X3_at_18 σ p1 p2) := by
  unfold f_X3_at_18
  refine NC.intro RX3 rfl hst (by decide) (Nat.le_of_ble_eq_true rfl) (lv := [(0, .ref _), (1, .int _), (2, .int _)]) rfl ?_
  refine r_iload_n 1 rfl dX3_at_0 ?_
  refine r_if_lt 16 dX3_at_1 (by decide) ?_ ?_
  · refine r_iload_n 2 rfl dX3_at_16 ?_
    exact r_iret rfl rfl rfl dX3_at_17
  · refine r_iload_n 1 rfl dX3_at_4 ?_
    refine r_aload_n 0 rfl dX3_at_5 ?_
    refine r_alen (448) (lvs_18 _) (cell_18 _ _ _ _) rfl rfl dX3_at_6 ?_
    refine r_icmp_ge 16 dX3_at_7 (by decide) ?_ ?_
    · refine r_iload_n 2 rfl dX3_at_16 ?_
      exact r_iret rfl rfl rfl dX3_at_17
    · refine r_aload_n 0 rfl dX3_at_10 ?_
      refine r_iload_n 1 rfl dX3_at_11 ?_
      refine r_gd (fun h1 => ?_)
      refine r_iaload (lvs_18 _) (cell_18 _ _ _ _) h1 dX3_at_12 ?_
      refine r_goto 17 dX3_at_13 (by decide) ?_
      exact r_iret rfl rfl rfl dX3_at_17
def f_X3_at_15 (σ : Wd) (p1 : Int32) (p2 : Int32) : Option ((Int32 ⊕ String) × Wd) :=
  if p1 < 0 then
    some (.inl p2, σ)
  else
    if (6 : Int32) ≤ p1 then
      some (.inl p2, σ)
    else
      gd (inb p1 6) <|
      some (.inl (σ.1 15 0 p1.toNatClampNeg), σ)
theorem nc_X3_at_15 (X : Xt) (hst : X.1.stackTraces = false) (ad : Ad) (σ : Wd) (p1 : Int32) (p2 : Int32) : NC X (fun a => a = ad) yX3_at cX3_at 3 (some (.int)) 0 0 vI (0, 0) ad σ [.ref (ad 15 0), .int p1, .int p2] (f_X3_at_15 σ p1 p2) := by
  unfold f_X3_at_15
  refine NC.intro RX3 rfl hst (by decide) (Nat.le_of_ble_eq_true rfl) (lv := [(0, .ref _), (1, .int _), (2, .int _)]) rfl ?_
  refine r_iload_n 1 rfl dX3_at_0 ?_
  refine r_if_lt 16 dX3_at_1 (by decide) ?_ ?_
  · refine r_iload_n 2 rfl dX3_at_16 ?_
    exact r_iret rfl rfl rfl dX3_at_17
  · refine r_iload_n 1 rfl dX3_at_4 ?_
    refine r_aload_n 0 rfl dX3_at_5 ?_
    refine r_alen (6) (lvs_15 _) (cell_15 _ _ _ _) rfl rfl dX3_at_6 ?_
    refine r_icmp_ge 16 dX3_at_7 (by decide) ?_ ?_
    · refine r_iload_n 2 rfl dX3_at_16 ?_
      exact r_iret rfl rfl rfl dX3_at_17
    · refine r_aload_n 0 rfl dX3_at_10 ?_
      refine r_iload_n 1 rfl dX3_at_11 ?_
      refine r_gd (fun h1 => ?_)
      refine r_iaload (lvs_15 _) (cell_15 _ _ _ _) h1 dX3_at_12 ?_
      refine r_goto 17 dX3_at_13 (by decide) ?_
      exact r_iret rfl rfl rfl dX3_at_17
def f_X3_has (σ : Wd) (p0 : Int32) (p1 : Int32) : Option ((Int32 ⊕ String) × Wd) :=
  if ((p0 >>> (p1 &&& 31)) &&& (1 : Int32)) = (1 : Int32) then
    some (.inl (1 : Int32), σ)
  else
    some (.inl (0 : Int32), σ)
theorem nc_X3_has (X : Xt) (hst : X.1.stackTraces = false) (ad : Ad) (σ : Wd) (p0 : Int32) (p1 : Int32) : NC X (fun a => a = ad) yX3_has cX3_has 2 (some (.boolean)) 0 0 vI (0, 0) ad σ [.int p0, .int p1] (f_X3_has σ p0 p1) := by
  unfold f_X3_has
  refine NC.intro RX3 rfl hst (by decide) (Nat.le_of_ble_eq_true rfl) (lv := [(0, .int _), (1, .int _)]) rfl ?_
  refine r_iload_n 0 rfl dX3_has_0 ?_
  refine r_iload_n 1 rfl dX3_has_1 ?_
  refine r_ishr dX3_has_2 ?_
  refine r_iconst (1) (by decide) dX3_has_3 ?_
  refine r_iand dX3_has_4 ?_
  refine r_iconst (1) (by decide) dX3_has_5 ?_
  refine r_icmp_ne 13 dX3_has_6 (by decide) ?_ ?_
  · refine r_iconst (1) (by decide) dX3_has_9 ?_
    refine r_goto 14 dX3_has_10 (by decide) ?_
    exact r_zret rfl rfl rfl rfl dX3_has_14
  · refine r_iconst (0) (by decide) dX3_has_13 ?_
    exact r_zret rfl rfl rfl rfl dX3_has_14
def f_X3_costWith (σ : Wd) (p0 : Int32) (p1 : Int32) (p2 : Int32) : Option ((Int32 ⊕ String) × Wd) :=
  bx (f_X3_without σ p2 p1) fun v1 σ2 =>
  bx (f_X3_at_18 σ2 (((p0 + (1 : Int32)) * (64 : Int32)) + v1) (0 : Int32)) fun v3 σ4 =>
  if p1 = (-1 : Int32) then
    bx (f_X3_at_13 σ4 p0 (0 : Int32)) fun v5 σ6 =>
    some (.inl (v3 + (v5 * (7 : Int32))), σ6)
  else
    bx (f_X3_at_15 σ4 p0 (0 : Int32)) fun v7 σ8 =>
    bx (f_X3_has σ8 v7 p1) fun v9 σ10 =>
    if v9 = 0 then
      some (.inl v3, σ10)
    else
      some (.inl (v3 - (1 : Int32)), σ10)
theorem nc_X3_costWith (X : Xt) (hst : X.1.stackTraces = false) (ad : Ad) (σ : Wd) (p0 : Int32) (p1 : Int32) (p2 : Int32) : NC X (fun a => a = ad) yX3_costWith cX3_costWith 5 (some (.int)) 1 22 vI (0, 0) ad σ [.ref (ad 12 0), .int p0, .int p1, .int p2] (f_X3_costWith σ p0 p1 p2) := by
  unfold f_X3_costWith
  refine NC.intro RX3 rfl hst (by decide) (Nat.le_of_ble_eq_true rfl) (lv := [(0, .ref _), (1, .int _), (2, .int _), (3, .int _)]) rfl ?_
  refine r_aload_n 0 rfl dX3_costWith_0 ?_
  refine r_getf 5 (lvs_12 _) (cell_12 _ _ _ _) rfl (by decide) in_4 w_56 rfl dX3_costWith_1 ?_
  refine r_iload_n 1 rfl dX3_costWith_4 ?_
  refine r_iconst (1) (by decide) dX3_costWith_5 ?_
  refine r_iadd dX3_costWith_6 ?_
  refine r_bipush (64) (by decide) dX3_costWith_7 ?_
  refine r_imul dX3_costWith_9 ?_
  refine r_iload_n 3 rfl dX3_costWith_10 ?_
  refine r_iload_n 2 rfl dX3_costWith_11 ?_
  refine r_callS (n := 2) (As := [.int _, .int _]) (nc_X3_without X hst ad _ _ _) (fun _ h => h) rfl ⟨by decide, by decide, by decide +kernel⟩ w_57 w_58 w_50 w_59 rfl rfl (Nat.le_of_ble_eq_true rfl) ⟨by decide, by decide⟩ dX3_costWith_12 (fun v1 σ2 => ?_)
  refine r_iadd dX3_costWith_15 ?_
  refine r_iconst (0) (by decide) dX3_costWith_16 ?_
  refine r_callS (n := 3) (As := [.ref _, .int _, .int _]) (nc_X3_at_18 X hst ad _ _ _) (fun _ h => h) rfl ⟨by decide, by decide, by decide +kernel⟩ w_48 w_49 w_50 w_51 rfl rfl (Nat.le_of_ble_eq_true rfl) ⟨by decide, by decide⟩ dX3_costWith_17 (fun v3 σ4 => ?_)
  refine r_istore [(4, .int _), (0, .ref _), (1, .int _), (2, .int _), (3, .int _)] rfl (by decide) dX3_costWith_20 ?_
  refine r_iload_n 3 rfl dX3_costWith_22 ?_
  refine r_iconst (-1) (by decide) dX3_costWith_23 ?_
  refine r_icmp_ne 43 dX3_costWith_24 (by decide) ?_ ?_
  · refine r_iload 0 rfl dX3_costWith_27 ?_
    refine r_aload_n 1 rfl dX3_costWith_29 ?_
    refine r_getf 0 (lvs_12 _) (cell_12 _ _ _ _) rfl (by decide) in_4 w_44 rfl dX3_costWith_30 ?_
    refine r_iload_n 2 rfl dX3_costWith_33 ?_
    refine r_iconst (0) (by decide) dX3_costWith_34 ?_
    refine r_callS (n := 3) (As := [.ref _, .int _, .int _]) (nc_X3_at_13 X hst ad _ _ _) (fun _ h => h) rfl ⟨by decide, by decide, by decide +kernel⟩ w_48 w_49 w_50 w_51 rfl rfl (Nat.le_of_ble_eq_true rfl) ⟨by decide, by decide⟩ dX3_costWith_35 (fun v5 σ6 => ?_)
    refine r_bipush (7) (by decide) dX3_costWith_38 ?_
    refine r_imul dX3_costWith_40 ?_
    refine r_iadd dX3_costWith_41 ?_
    exact r_iret rfl rfl rfl dX3_costWith_42
  · refine r_aload_n 1 rfl dX3_costWith_43 ?_
    refine r_getf 2 (lvs_12 _) (cell_12 _ _ _ _) rfl (by decide) in_4 w_46 rfl dX3_costWith_44 ?_
    refine r_iload_n 2 rfl dX3_costWith_47 ?_
    refine r_iconst (0) (by decide) dX3_costWith_48 ?_
    refine r_callS (n := 3) (As := [.ref _, .int _, .int _]) (nc_X3_at_15 X hst ad _ _ _) (fun _ h => h) rfl ⟨by decide, by decide, by decide +kernel⟩ w_48 w_49 w_50 w_51 rfl rfl (Nat.le_of_ble_eq_true rfl) ⟨by decide, by decide⟩ dX3_costWith_49 (fun v7 σ8 => ?_)
    refine r_iload_n 3 rfl dX3_costWith_52 ?_
    refine r_callS (n := 2) (As := [.int _, .int _]) (nc_X3_has X hst ad _ _ _) (fun _ h => h) rfl ⟨by decide, by decide, by decide +kernel⟩ w_60 w_61 w_50 w_62 rfl rfl (Nat.le_of_ble_eq_true rfl) ⟨by decide, by decide⟩ dX3_costWith_53 (fun v9 σ10 => ?_)
    refine r_if_eq 66 dX3_costWith_56 (by decide) ?_ ?_
    · refine r_iload 0 rfl dX3_costWith_66 ?_
      exact r_iret rfl rfl rfl dX3_costWith_68
    · refine r_iload 0 rfl dX3_costWith_59 ?_
      refine r_iconst (1) (by decide) dX3_costWith_61 ?_
      refine r_isub dX3_costWith_62 ?_
      refine r_goto 68 dX3_costWith_63 (by decide) ?_
      exact r_iret rfl rfl rfl dX3_costWith_68
def f_X3_at_14 (σ : Wd) (p1 : Int32) (p2 : Int32) : Option ((Int32 ⊕ String) × Wd) :=
  if p1 < 0 then
    some (.inl p2, σ)
  else
    if (6 : Int32) ≤ p1 then
      some (.inl p2, σ)
    else
      gd (inb p1 6) <|
      some (.inl (σ.1 14 0 p1.toNatClampNeg), σ)
theorem nc_X3_at_14 (X : Xt) (hst : X.1.stackTraces = false) (ad : Ad) (σ : Wd) (p1 : Int32) (p2 : Int32) : NC X (fun a => a = ad) yX3_at cX3_at 3 (some (.int)) 0 0 vI (0, 0) ad σ [.ref (ad 14 0), .int p1, .int p2] (f_X3_at_14 σ p1 p2) := by
  unfold f_X3_at_14
  refine NC.intro RX3 rfl hst (by decide) (Nat.le_of_ble_eq_true rfl) (lv := [(0, .ref _), (1, .int _), (2, .int _)]) rfl ?_
  refine r_iload_n 1 rfl dX3_at_0 ?_
  refine r_if_lt 16 dX3_at_1 (by decide) ?_ ?_
  · refine r_iload_n 2 rfl dX3_at_16 ?_
    exact r_iret rfl rfl rfl dX3_at_17
  · refine r_iload_n 1 rfl dX3_at_4 ?_
    refine r_aload_n 0 rfl dX3_at_5 ?_
    refine r_alen (6) (lvs_14 _) (cell_14 _ _ _ _) rfl rfl dX3_at_6 ?_
    refine r_icmp_ge 16 dX3_at_7 (by decide) ?_ ?_
    · refine r_iload_n 2 rfl dX3_at_16 ?_
      exact r_iret rfl rfl rfl dX3_at_17
    · refine r_aload_n 0 rfl dX3_at_10 ?_
      refine r_iload_n 1 rfl dX3_at_11 ?_
      refine r_gd (fun h1 => ?_)
      refine r_iaload (lvs_14 _) (cell_14 _ _ _ _) h1 dX3_at_12 ?_
      refine r_goto 17 dX3_at_13 (by decide) ?_
      exact r_iret rfl rfl rfl dX3_at_17
def l_X3_leastCostFrom_24 : Nat → Wd → Int32 → Int32 → Int32 → Int32 → Int32 → Option ((Int32 ⊕ String) × Wd)
  | 0, _, _, _, _, _, _ => none
  | n + 1, σ, a5, a4, a3, a1, a2 =>
  if (σ.1 12 0 6) ≤ a5 then
    some (.inl a3, σ)
  else
    bx (f_X3_has σ a4 a5) fun v5 σ6 =>
    if v5 = 0 then
      (l_X3_leastCostFrom_24 n) σ6 (a5 + 1) a4 a3 a1 a2
    else
      bx (f_X3_costWith σ6 a1 a5 a2) fun v7 σ8 =>
      bd ((if v7 < a3 then v7 else a3)) fun x10 =>
      (l_X3_leastCostFrom_24 n) σ8 (a5 + 1) a4 x10 a1 a2
def f_X3_leastCostFrom (σ : Wd) (p0 : Int32) (p1 : Int32) : Option ((Int32 ⊕ String) × Wd) :=
  bx (f_X3_costWith σ p0 (-1 : Int32) p1) fun v1 σ2 =>
  bx (f_X3_at_14 σ2 p0 (0 : Int32)) fun v3 σ4 =>
  l_X3_leastCostFrom_24 FU σ4 (0 : Int32) (p1 &&& v3) v1 p0 p1
theorem bl_X3_leastCostFrom_24 (X : Xt) (hst : X.1.stackTraces = false) (ad : Ad) : ∀ (n : Nat) (σ : Wd) (a5 : Int32) (a4 : Int32) (a3 : Int32) (a1 : Int32) (a2 : Int32), Bk X (fun a => a = ad) cX3_leastCostFrom 6 RX3 (some (.int)) 2 46 vI (0, 0) (0, 0) ad σ 24 [(5, .int a5), (4, .int a4), (3, .int a3), (0, .ref (ad 12 0)), (1, .int a1), (2, .int a2)] [] (l_X3_leastCostFrom_24 n σ a5 a4 a3 a1 a2) := by
  intro n
  induction n with
  | zero => intros; exact r_none
  | succ n ih =>
  intro σ a5 a4 a3 a1 a2
  rw [l_X3_leastCostFrom_24]
  refine r_iload 0 rfl dX3_leastCostFrom_24 ?_
  refine r_aload_n 3 rfl dX3_leastCostFrom_26 ?_
  refine r_getf 6 (lvs_12 _) (cell_12 _ _ _ _) rfl (by decide) in_4 w_42 rfl dX3_leastCostFrom_27 ?_
  refine r_icmp_ge 62 dX3_leastCostFrom_30 (by decide) ?_ ?_
  · refine r_iload_n 2 rfl dX3_leastCostFrom_62 ?_
    exact r_iret rfl rfl rfl dX3_leastCostFrom_63
  · refine r_iload 1 rfl dX3_leastCostFrom_33 ?_
    refine r_iload 0 rfl dX3_leastCostFrom_35 ?_
    refine r_callS (n := 2) (As := [.int _, .int _]) (nc_X3_has X hst ad _ _ _) (fun _ h => h) rfl ⟨by decide, by decide, by decide +kernel⟩ w_60 w_61 w_50 w_62 rfl rfl (Nat.le_of_ble_eq_true rfl) ⟨by decide, by decide⟩ dX3_leastCostFrom_37 (fun v5 σ6 => ?_)
    refine r_if_eq 56 dX3_leastCostFrom_40 (by decide) ?_ ?_
    · refine r_iinc (1) [(5, .int _), (4, .int _), (3, .int _), (0, .ref _), (1, .int _), (2, .int _)] 0 rfl (by decide) rfl (by decide) dX3_leastCostFrom_56 ?_
      refine r_goto 24 dX3_leastCostFrom_59 (by decide) ?_
      exact r_sub [0, 1, 2, 3, 4, 5] rfl (ih _ _ _ _ _ _)
    · refine r_iload_n 2 rfl dX3_leastCostFrom_43 ?_
      refine r_aload_n 3 rfl dX3_leastCostFrom_44 ?_
      refine r_iload_n 4 rfl dX3_leastCostFrom_45 ?_
      refine r_iload 0 rfl dX3_leastCostFrom_46 ?_
      refine r_iload_n 5 rfl dX3_leastCostFrom_48 ?_
      refine r_callV (n := 3) (As := [.int _, .int _, .int _]) (cell_12 _ _ _ _) (lvs_12 _) rfl (nc_X3_costWith X hst ad _ _ _ _) (fun _ h => h) rfl ⟨rfl, by decide, by decide, by decide +kernel⟩ w_63 w_64 w_65 w_50 w_66 rfl rfl (Nat.le_of_ble_eq_true rfl) ⟨by decide, by decide⟩ dX3_leastCostFrom_49 (fun v7 σ8 => ?_)
      refine r_mmin w_40 w_38 w_35 w_39 (by decide) (Nat.le_of_ble_eq_true rfl) dX3_leastCostFrom_52 ?_
      refine r_bd ?_
      refine r_istore_n [(3, .int _), (5, .int _), (4, .int _), (0, .ref _), (1, .int _), (2, .int _)] rfl (by decide) dX3_leastCostFrom_55 ?_
      refine r_iinc (1) [(5, .int _), (3, .int _), (4, .int _), (0, .ref _), (1, .int _), (2, .int _)] 1 rfl (by decide) rfl (by decide) dX3_leastCostFrom_56 ?_
      refine r_goto 24 dX3_leastCostFrom_59 (by decide) ?_
      exact r_sub [0, 2, 1, 3, 4, 5] rfl (ih _ _ _ _ _ _)
theorem nc_X3_leastCostFrom (X : Xt) (hst : X.1.stackTraces = false) (ad : Ad) (σ : Wd) (p0 : Int32) (p1 : Int32) : NC X (fun a => a = ad) yX3_leastCostFrom cX3_leastCostFrom 6 (some (.int)) 2 46 vI (0, 0) ad σ [.ref (ad 12 0), .int p0, .int p1] (f_X3_leastCostFrom σ p0 p1) := by
  unfold f_X3_leastCostFrom
  refine NC.intro RX3 rfl hst (by decide) (Nat.le_of_ble_eq_true rfl) (lv := [(0, .ref _), (1, .int _), (2, .int _)]) rfl ?_
  refine r_aload_n 0 rfl dX3_leastCostFrom_0 ?_
  refine r_iload_n 1 rfl dX3_leastCostFrom_1 ?_
  refine r_iconst (-1) (by decide) dX3_leastCostFrom_2 ?_
  refine r_iload_n 2 rfl dX3_leastCostFrom_3 ?_
  refine r_callV (n := 3) (As := [.int _, .int _, .int _]) (cell_12 _ _ _ _) (lvs_12 _) rfl (nc_X3_costWith X hst ad _ _ _ _) (fun _ h => h) rfl ⟨rfl, by decide, by decide, by decide +kernel⟩ w_63 w_64 w_65 w_50 w_66 rfl rfl (Nat.le_of_ble_eq_true rfl) ⟨by decide, by decide⟩ dX3_leastCostFrom_4 (fun v1 σ2 => ?_)
  refine r_istore_n [(3, .int _), (0, .ref _), (1, .int _), (2, .int _)] rfl (by decide) dX3_leastCostFrom_7 ?_
  refine r_iload_n 3 rfl dX3_leastCostFrom_8 ?_
  refine r_aload_n 1 rfl dX3_leastCostFrom_9 ?_
  refine r_getf 1 (lvs_12 _) (cell_12 _ _ _ _) rfl (by decide) in_4 w_45 rfl dX3_leastCostFrom_10 ?_
  refine r_iload_n 2 rfl dX3_leastCostFrom_13 ?_
  refine r_iconst (0) (by decide) dX3_leastCostFrom_14 ?_
  refine r_callS (n := 3) (As := [.ref _, .int _, .int _]) (nc_X3_at_14 X hst ad _ _ _) (fun _ h => h) rfl ⟨by decide, by decide, by decide +kernel⟩ w_48 w_49 w_50 w_51 rfl rfl (Nat.le_of_ble_eq_true rfl) ⟨by decide, by decide⟩ dX3_leastCostFrom_15 (fun v3 σ4 => ?_)
  refine r_iand dX3_leastCostFrom_18 ?_
  refine r_istore [(4, .int _), (3, .int _), (0, .ref _), (1, .int _), (2, .int _)] rfl (by decide) dX3_leastCostFrom_19 ?_
  refine r_iconst (0) (by decide) dX3_leastCostFrom_21 ?_
  refine r_istore [(5, .int _), (4, .int _), (3, .int _), (0, .ref _), (1, .int _), (2, .int _)] rfl (by decide) dX3_leastCostFrom_22 ?_
  exact r_sub [0, 1, 2, 3, 4, 5] rfl ((bl_X3_leastCostFrom_24 X hst ad FU) _ _ _ _ _ _)
def f_X3_put_18 (σ : Wd) (p1 : Int32) (p2 : Int32) : Option ((Unit ⊕ String) × Wd) :=
  if p1 < 0 then
    some (.inl (), σ)
  else
    if (448 : Int32) ≤ p1 then
      some (.inl (), σ)
    else
      gd (inb p1 448) <|
      bd (wr σ 18 0 p1.toNatClampNeg p2) fun σ1 =>
      some (.inl (), σ1)
theorem nc_X3_put_18 (X : Xt) (hst : X.1.stackTraces = false) (ad : Ad) (σ : Wd) (p1 : Int32) (p2 : Int32) : NC X (fun a => a = ad) yX3_put cX3_put 3 none 0 0 vV (0, 0) ad σ [.ref (ad 18 0), .int p1, .int p2] (f_X3_put_18 σ p1 p2) := by
  unfold f_X3_put_18
  refine NC.intro RX3 rfl hst (by decide) (Nat.le_of_ble_eq_true rfl) (lv := [(0, .ref _), (1, .int _), (2, .int _)]) rfl ?_
  refine r_iload_n 1 rfl dX3_put_0 ?_
  refine r_if_lt 14 dX3_put_1 (by decide) ?_ ?_
  · exact r_vret rfl rfl rfl dX3_put_14
  · refine r_iload_n 1 rfl dX3_put_4 ?_
    refine r_aload_n 0 rfl dX3_put_5 ?_
    refine r_alen (448) (lvs_18 _) (cell_18 _ _ _ _) rfl rfl dX3_put_6 ?_
    refine r_icmp_ge 14 dX3_put_7 (by decide) ?_ ?_
    · exact r_vret rfl rfl rfl dX3_put_14
    · refine r_aload_n 0 rfl dX3_put_10 ?_
      refine r_iload_n 1 rfl dX3_put_11 ?_
      refine r_iload_n 2 rfl dX3_put_12 ?_
      refine r_gd (fun h1 => ?_)
      refine r_bd ?_
      refine r_iastore (lvs_18 _) (ia_18 _ _ _) h1 dX3_put_13 ?_
      exact r_vret rfl rfl rfl dX3_put_14
def l_X3_fillLeastCosts_50 (k44 : Wd → Int32 → Int32 → Option ((Unit ⊕ String) × Wd)) : Nat → Wd → Int32 → Int32 → Int32 → Option ((Unit ⊕ String) × Wd)
  | 0, _, _, _, _ => none
  | n + 1, σ, a3, a2, a1 =>
  if a1 ≤ a3 then
    k44 σ (a2 + (-1)) a1
  else
    bx (f_X3_leastCostFrom σ a2 a3) fun v3 σ4 =>
    bx (f_X3_put_18 σ4 ((a2 * (64 : Int32)) + a3) v3) fun v5 σ6 =>
    (l_X3_fillLeastCosts_50 k44 n) σ6 (a3 + 1) a2 a1
def l_X3_fillLeastCosts_44 : Nat → Wd → Int32 → Int32 → Option ((Unit ⊕ String) × Wd)
  | 0, _, _, _ => none
  | n + 1, σ, a2, a1 =>
  if a2 < 0 then
    some (.inl (), σ)
  else
    l_X3_fillLeastCosts_50 (l_X3_fillLeastCosts_44 n) FU σ (0 : Int32) a2 a1
def l_X3_fillLeastCosts_9 : Nat → Wd → Int32 → Int32 → Option ((Unit ⊕ String) × Wd)
  | 0, _, _, _ => none
  | n + 1, σ, a2, a1 =>
  if a1 ≤ a2 then
    bd (((σ.1 12 0 7) - (1 : Int32))) fun x2 =>
    l_X3_fillLeastCosts_44 FU σ x2 a1
  else
    bx (f_X3_put_18 σ (((σ.1 12 0 7) * (64 : Int32)) + a2) (0 : Int32)) fun v7 σ8 =>
    (l_X3_fillLeastCosts_9 n) σ8 (a2 + 1) a1
def f_X3_fillLeastCosts (σ : Wd) : Option ((Unit ⊕ String) × Wd) :=
  bd (((1 : Int32) <<< ((σ.1 12 0 6) &&& 31))) fun x1 =>
  l_X3_fillLeastCosts_9 FU σ (0 : Int32) x1
theorem bl_X3_fillLeastCosts_50 (X : Xt) (hst : X.1.stackTraces = false) (ad : Ad) {k44 : Wd → Int32 → Int32 → Option ((Unit ⊕ String) × Wd)} (hk44 : ∀ (σ : Wd) (a2 : Int32) (a1 : Int32), Bk X (fun a => a = ad) cX3_fillLeastCosts 4 RX3 none 3 71 vV (0, 0) (0, 0) ad σ 44 [(2, .int a2), (1, .int a1), (0, .ref (ad 12 0))] [] (k44 σ a2 a1)) : ∀ (n : Nat) (σ : Wd) (a3 : Int32) (a2 : Int32) (a1 : Int32), Bk X (fun a => a = ad) cX3_fillLeastCosts 4 RX3 none 3 71 vV (0, 0) (0, 0) ad σ 50 [(3, .int a3), (2, .int a2), (1, .int a1), (0, .ref (ad 12 0))] [] (l_X3_fillLeastCosts_50 k44 n σ a3 a2 a1) := by
  intro n
  induction n with
  | zero => intros; exact r_none
  | succ n ih =>
  intro σ a3 a2 a1
  rw [l_X3_fillLeastCosts_50]
  refine r_iload_n 0 rfl dX3_fillLeastCosts_50 ?_
  refine r_iload_n 2 rfl dX3_fillLeastCosts_51 ?_
  refine r_icmp_ge 80 dX3_fillLeastCosts_52 (by decide) ?_ ?_
  · refine r_iinc (-1) [(2, .int _), (3, .int _), (1, .int _), (0, .ref _)] 1 rfl (by decide) rfl (by decide) dX3_fillLeastCosts_80 ?_
    refine r_goto 44 dX3_fillLeastCosts_83 (by decide) ?_
    exact r_sub [0, 2, 3] rfl (hk44 _ _ _)
  · refine r_aload_n 3 rfl dX3_fillLeastCosts_55 ?_
    refine r_getf 5 (lvs_12 _) (cell_12 _ _ _ _) rfl (by decide) in_4 w_56 rfl dX3_fillLeastCosts_56 ?_
    refine r_iload_n 1 rfl dX3_fillLeastCosts_59 ?_
    refine r_bipush (64) (by decide) dX3_fillLeastCosts_60 ?_
    refine r_imul dX3_fillLeastCosts_62 ?_
    refine r_iload_n 0 rfl dX3_fillLeastCosts_63 ?_
    refine r_iadd dX3_fillLeastCosts_64 ?_
    refine r_aload_n 3 rfl dX3_fillLeastCosts_65 ?_
    refine r_iload_n 1 rfl dX3_fillLeastCosts_66 ?_
    refine r_iload_n 0 rfl dX3_fillLeastCosts_67 ?_
    refine r_callV (n := 2) (As := [.int _, .int _]) (cell_12 _ _ _ _) (lvs_12 _) rfl (nc_X3_leastCostFrom X hst ad _ _ _) (fun _ h => h) rfl ⟨rfl, by decide, by decide, by decide +kernel⟩ w_67 w_68 w_69 w_50 w_70 rfl rfl (Nat.le_of_ble_eq_true rfl) ⟨by decide, by decide⟩ dX3_fillLeastCosts_68 (fun v3 σ4 => ?_)
    refine r_callS (n := 3) (As := [.ref _, .int _, .int _]) (nc_X3_put_18 X hst ad _ _ _) (fun _ h => h) rfl ⟨by decide, by decide, by decide +kernel⟩ w_71 w_72 w_50 w_73 rfl rfl (Nat.le_of_ble_eq_true rfl) ⟨by decide, by decide⟩ dX3_fillLeastCosts_71 (fun v5 σ6 => ?_)
    refine r_iinc (1) [(3, .int _), (2, .int _), (1, .int _), (0, .ref _)] 0 rfl (by decide) rfl (by decide) dX3_fillLeastCosts_74 ?_
    refine r_goto 50 dX3_fillLeastCosts_77 (by decide) ?_
    exact r_sub [0, 1, 2, 3] rfl (ih _ _ _ _)
theorem bl_X3_fillLeastCosts_44 (X : Xt) (hst : X.1.stackTraces = false) (ad : Ad) : ∀ (n : Nat) (σ : Wd) (a2 : Int32) (a1 : Int32), Bk X (fun a => a = ad) cX3_fillLeastCosts 4 RX3 none 3 71 vV (0, 0) (0, 0) ad σ 44 [(2, .int a2), (1, .int a1), (0, .ref (ad 12 0))] [] (l_X3_fillLeastCosts_44 n σ a2 a1) := by
  intro n
  induction n with
  | zero => intros; exact r_none
  | succ n ih =>
  intro σ a2 a1
  rw [l_X3_fillLeastCosts_44]
  refine r_iload_n 0 rfl dX3_fillLeastCosts_44 ?_
  refine r_if_lt 86 dX3_fillLeastCosts_45 (by decide) ?_ ?_
  · exact r_vret rfl rfl rfl dX3_fillLeastCosts_86
  · refine r_iconst (0) (by decide) dX3_fillLeastCosts_48 ?_
    refine r_istore_n [(3, .int _), (2, .int _), (1, .int _), (0, .ref _)] rfl (by decide) dX3_fillLeastCosts_49 ?_
    exact r_sub [0, 1, 2, 3] rfl ((bl_X3_fillLeastCosts_50 X hst ad ih FU) _ _ _ _)
theorem bl_X3_fillLeastCosts_9 (X : Xt) (hst : X.1.stackTraces = false) (ad : Ad) : ∀ (n : Nat) (σ : Wd) (a2 : Int32) (a1 : Int32), Bk X (fun a => a = ad) cX3_fillLeastCosts 4 RX3 none 3 71 vV (0, 0) (0, 0) ad σ 9 [(2, .int a2), (1, .int a1), (0, .ref (ad 12 0))] [] (l_X3_fillLeastCosts_9 n σ a2 a1) := by
  intro n
  induction n with
  | zero => intros; exact r_none
  | succ n ih =>
  intro σ a2 a1
  rw [l_X3_fillLeastCosts_9]
  refine r_iload_n 0 rfl dX3_fillLeastCosts_9 ?_
  refine r_iload_n 1 rfl dX3_fillLeastCosts_10 ?_
  refine r_icmp_ge 37 dX3_fillLeastCosts_11 (by decide) ?_ ?_
  · refine r_aload_n 2 rfl dX3_fillLeastCosts_37 ?_
    refine r_getf 7 (lvs_12 _) (cell_12 _ _ _ _) rfl (by decide) in_4 w_43 rfl dX3_fillLeastCosts_38 ?_
    refine r_iconst (1) (by decide) dX3_fillLeastCosts_41 ?_
    refine r_isub dX3_fillLeastCosts_42 ?_
    refine r_bd ?_
    refine r_istore_n [(2, .int _), (1, .int _), (0, .ref _)] rfl (by decide) dX3_fillLeastCosts_43 ?_
    exact r_sub [0, 1, 2] rfl ((bl_X3_fillLeastCosts_44 X hst ad FU) _ _ _)
  · refine r_aload_n 2 rfl dX3_fillLeastCosts_14 ?_
    refine r_getf 5 (lvs_12 _) (cell_12 _ _ _ _) rfl (by decide) in_4 w_56 rfl dX3_fillLeastCosts_15 ?_
    refine r_aload_n 2 rfl dX3_fillLeastCosts_18 ?_
    refine r_getf 7 (lvs_12 _) (cell_12 _ _ _ _) rfl (by decide) in_4 w_43 rfl dX3_fillLeastCosts_19 ?_
    refine r_bipush (64) (by decide) dX3_fillLeastCosts_22 ?_
    refine r_imul dX3_fillLeastCosts_24 ?_
    refine r_iload_n 0 rfl dX3_fillLeastCosts_25 ?_
    refine r_iadd dX3_fillLeastCosts_26 ?_
    refine r_iconst (0) (by decide) dX3_fillLeastCosts_27 ?_
    refine r_callS (n := 3) (As := [.ref _, .int _, .int _]) (nc_X3_put_18 X hst ad _ _ _) (fun _ h => h) rfl ⟨by decide, by decide, by decide +kernel⟩ w_71 w_72 w_50 w_73 rfl rfl (Nat.le_of_ble_eq_true rfl) ⟨by decide, by decide⟩ dX3_fillLeastCosts_28 (fun v7 σ8 => ?_)
    refine r_iinc (1) [(2, .int _), (1, .int _), (0, .ref _)] 0 rfl (by decide) rfl (by decide) dX3_fillLeastCosts_31 ?_
    refine r_goto 9 dX3_fillLeastCosts_34 (by decide) ?_
    exact r_sub [0, 1, 2] rfl (ih _ _ _)
theorem nc_X3_fillLeastCosts (X : Xt) (hst : X.1.stackTraces = false) (ad : Ad) (σ : Wd) : NC X (fun a => a = ad) yX3_fillLeastCosts cX3_fillLeastCosts 4 none 3 71 vV (0, 0) ad σ [.ref (ad 12 0)] (f_X3_fillLeastCosts σ) := by
  unfold f_X3_fillLeastCosts
  refine NC.intro RX3 rfl hst (by decide) (Nat.le_of_ble_eq_true rfl) (lv := [(0, .ref _)]) rfl ?_
  refine r_iconst (1) (by decide) dX3_fillLeastCosts_0 ?_
  refine r_aload_n 0 rfl dX3_fillLeastCosts_1 ?_
  refine r_getf 6 (lvs_12 _) (cell_12 _ _ _ _) rfl (by decide) in_4 w_42 rfl dX3_fillLeastCosts_2 ?_
  refine r_ishl dX3_fillLeastCosts_5 ?_
  refine r_bd ?_
  refine r_istore_n [(1, .int _), (0, .ref _)] rfl (by decide) dX3_fillLeastCosts_6 ?_
  refine r_iconst (0) (by decide) dX3_fillLeastCosts_7 ?_
  refine r_istore_n [(2, .int _), (1, .int _), (0, .ref _)] rfl (by decide) dX3_fillLeastCosts_8 ?_
  exact r_sub [0, 1, 2] rfl ((bl_X3_fillLeastCosts_9 X hst ad FU) _ _ _)
def l_X3_lowestOfLeastCost_31 : Nat → Wd → Int32 → Int32 → Int32 → Int32 → Int32 → Option ((Int32 ⊕ String) × Wd)
  | 0, _, _, _, _, _, _ => none
  | n + 1, σ, a5, a4, a3, a1, a2 =>
  if (σ.1 12 0 6) ≤ a5 then
    some (.inl (-1 : Int32), σ)
  else
    bx (f_X3_has σ a4 a5) fun v5 σ6 =>
    if v5 = 0 then
      (l_X3_lowestOfLeastCost_31 n) σ6 (a5 + 1) a4 a3 a1 a2
    else
      bx (f_X3_costWith σ6 a1 a5 a2) fun v7 σ8 =>
      if v7 = a3 then
        some (.inl a5, σ8)
      else
        (l_X3_lowestOfLeastCost_31 n) σ8 (a5 + 1) a4 a3 a1 a2
def f_X3_lowestOfLeastCost (σ : Wd) (p0 : Int32) (p1 : Int32) : Option ((Int32 ⊕ String) × Wd) :=
  bx (f_X3_at_18 σ ((p0 * (64 : Int32)) + p1) (0 : Int32)) fun v1 σ2 =>
  bx (f_X3_at_14 σ2 p0 (0 : Int32)) fun v3 σ4 =>
  l_X3_lowestOfLeastCost_31 FU σ4 (0 : Int32) (p1 &&& v3) v1 p0 p1
theorem bl_X3_lowestOfLeastCost_31 (X : Xt) (hst : X.1.stackTraces = false) (ad : Ad) : ∀ (n : Nat) (σ : Wd) (a5 : Int32) (a4 : Int32) (a3 : Int32) (a1 : Int32) (a2 : Int32), Bk X (fun a => a = ad) cX3_lowestOfLeastCost 6 RX3 (some (.int)) 2 46 vI (0, 0) (0, 0) ad σ 31 [(5, .int a5), (4, .int a4), (3, .int a3), (0, .ref (ad 12 0)), (1, .int a1), (2, .int a2)] [] (l_X3_lowestOfLeastCost_31 n σ a5 a4 a3 a1 a2) := by
  intro n
  induction n with
  | zero => intros; exact r_none
  | succ n ih =>
  intro σ a5 a4 a3 a1 a2
  rw [l_X3_lowestOfLeastCost_31]
  refine r_iload 0 rfl dX3_lowestOfLeastCost_31 ?_
  refine r_aload_n 3 rfl dX3_lowestOfLeastCost_33 ?_
  refine r_getf 6 (lvs_12 _) (cell_12 _ _ _ _) rfl (by decide) in_4 w_42 rfl dX3_lowestOfLeastCost_34 ?_
  refine r_icmp_ge 71 dX3_lowestOfLeastCost_37 (by decide) ?_ ?_
  · refine r_iconst (-1) (by decide) dX3_lowestOfLeastCost_71 ?_
    exact r_iret rfl rfl rfl dX3_lowestOfLeastCost_72
  · refine r_iload 1 rfl dX3_lowestOfLeastCost_40 ?_
    refine r_iload 0 rfl dX3_lowestOfLeastCost_42 ?_
    refine r_callS (n := 2) (As := [.int _, .int _]) (nc_X3_has X hst ad _ _ _) (fun _ h => h) rfl ⟨by decide, by decide, by decide +kernel⟩ w_60 w_61 w_50 w_62 rfl rfl (Nat.le_of_ble_eq_true rfl) ⟨by decide, by decide⟩ dX3_lowestOfLeastCost_44 (fun v5 σ6 => ?_)
    refine r_if_eq 65 dX3_lowestOfLeastCost_47 (by decide) ?_ ?_
    · refine r_iinc (1) [(5, .int _), (4, .int _), (3, .int _), (0, .ref _), (1, .int _), (2, .int _)] 0 rfl (by decide) rfl (by decide) dX3_lowestOfLeastCost_65 ?_
      refine r_goto 31 dX3_lowestOfLeastCost_68 (by decide) ?_
      exact r_sub [0, 1, 2, 3, 4, 5] rfl (ih _ _ _ _ _ _)
    · refine r_aload_n 3 rfl dX3_lowestOfLeastCost_50 ?_
      refine r_iload_n 4 rfl dX3_lowestOfLeastCost_51 ?_
      refine r_iload 0 rfl dX3_lowestOfLeastCost_52 ?_
      refine r_iload_n 5 rfl dX3_lowestOfLeastCost_54 ?_
      refine r_callV (n := 3) (As := [.int _, .int _, .int _]) (cell_12 _ _ _ _) (lvs_12 _) rfl (nc_X3_costWith X hst ad _ _ _ _) (fun _ h => h) rfl ⟨rfl, by decide, by decide, by decide +kernel⟩ w_63 w_64 w_65 w_50 w_66 rfl rfl (Nat.le_of_ble_eq_true rfl) ⟨by decide, by decide⟩ dX3_lowestOfLeastCost_55 (fun v7 σ8 => ?_)
      refine r_iload_n 2 rfl dX3_lowestOfLeastCost_58 ?_
      refine r_icmp_ne 65 dX3_lowestOfLeastCost_59 (by decide) ?_ ?_
      · refine r_iload 0 rfl dX3_lowestOfLeastCost_62 ?_
        exact r_iret rfl rfl rfl dX3_lowestOfLeastCost_64
      · refine r_iinc (1) [(5, .int _), (4, .int _), (3, .int _), (0, .ref _), (1, .int _), (2, .int _)] 0 rfl (by decide) rfl (by decide) dX3_lowestOfLeastCost_65 ?_
        refine r_goto 31 dX3_lowestOfLeastCost_68 (by decide) ?_
        exact r_sub [0, 1, 2, 3, 4, 5] rfl (ih _ _ _ _ _ _)
theorem nc_X3_lowestOfLeastCost (X : Xt) (hst : X.1.stackTraces = false) (ad : Ad) (σ : Wd) (p0 : Int32) (p1 : Int32) : NC X (fun a => a = ad) yX3_lowestOfLeastCost cX3_lowestOfLeastCost 6 (some (.int)) 2 46 vI (0, 0) ad σ [.ref (ad 12 0), .int p0, .int p1] (f_X3_lowestOfLeastCost σ p0 p1) := by
  unfold f_X3_lowestOfLeastCost
  refine NC.intro RX3 rfl hst (by decide) (Nat.le_of_ble_eq_true rfl) (lv := [(0, .ref _), (1, .int _), (2, .int _)]) rfl ?_
  refine r_aload_n 0 rfl dX3_lowestOfLeastCost_0 ?_
  refine r_getf 5 (lvs_12 _) (cell_12 _ _ _ _) rfl (by decide) in_4 w_56 rfl dX3_lowestOfLeastCost_1 ?_
  refine r_iload_n 1 rfl dX3_lowestOfLeastCost_4 ?_
  refine r_bipush (64) (by decide) dX3_lowestOfLeastCost_5 ?_
  refine r_imul dX3_lowestOfLeastCost_7 ?_
  refine r_iload_n 2 rfl dX3_lowestOfLeastCost_8 ?_
  refine r_iadd dX3_lowestOfLeastCost_9 ?_
  refine r_iconst (0) (by decide) dX3_lowestOfLeastCost_10 ?_
  refine r_callS (n := 3) (As := [.ref _, .int _, .int _]) (nc_X3_at_18 X hst ad _ _ _) (fun _ h => h) rfl ⟨by decide, by decide, by decide +kernel⟩ w_48 w_49 w_50 w_51 rfl rfl (Nat.le_of_ble_eq_true rfl) ⟨by decide, by decide⟩ dX3_lowestOfLeastCost_11 (fun v1 σ2 => ?_)
  refine r_istore_n [(3, .int _), (0, .ref _), (1, .int _), (2, .int _)] rfl (by decide) dX3_lowestOfLeastCost_14 ?_
  refine r_iload_n 3 rfl dX3_lowestOfLeastCost_15 ?_
  refine r_aload_n 1 rfl dX3_lowestOfLeastCost_16 ?_
  refine r_getf 1 (lvs_12 _) (cell_12 _ _ _ _) rfl (by decide) in_4 w_45 rfl dX3_lowestOfLeastCost_17 ?_
  refine r_iload_n 2 rfl dX3_lowestOfLeastCost_20 ?_
  refine r_iconst (0) (by decide) dX3_lowestOfLeastCost_21 ?_
  refine r_callS (n := 3) (As := [.ref _, .int _, .int _]) (nc_X3_at_14 X hst ad _ _ _) (fun _ h => h) rfl ⟨by decide, by decide, by decide +kernel⟩ w_48 w_49 w_50 w_51 rfl rfl (Nat.le_of_ble_eq_true rfl) ⟨by decide, by decide⟩ dX3_lowestOfLeastCost_22 (fun v3 σ4 => ?_)
  refine r_iand dX3_lowestOfLeastCost_25 ?_
  refine r_istore [(4, .int _), (3, .int _), (0, .ref _), (1, .int _), (2, .int _)] rfl (by decide) dX3_lowestOfLeastCost_26 ?_
  refine r_iconst (0) (by decide) dX3_lowestOfLeastCost_28 ?_
  refine r_istore [(5, .int _), (4, .int _), (3, .int _), (0, .ref _), (1, .int _), (2, .int _)] rfl (by decide) dX3_lowestOfLeastCost_29 ?_
  exact r_sub [0, 1, 2, 3, 4, 5] rfl ((bl_X3_lowestOfLeastCost_31 X hst ad FU) _ _ _ _ _ _)
def f_X3_put_16 (σ : Wd) (p1 : Int32) (p2 : Int32) : Option ((Unit ⊕ String) × Wd) :=
  if p1 < 0 then
    some (.inl (), σ)
  else
    if (6 : Int32) ≤ p1 then
      some (.inl (), σ)
    else
      gd (inb p1 6) <|
      bd (wr σ 16 0 p1.toNatClampNeg p2) fun σ1 =>
      some (.inl (), σ1)
theorem nc_X3_put_16 (X : Xt) (hst : X.1.stackTraces = false) (ad : Ad) (σ : Wd) (p1 : Int32) (p2 : Int32) : NC X (fun a => a = ad) yX3_put cX3_put 3 none 0 0 vV (0, 0) ad σ [.ref (ad 16 0), .int p1, .int p2] (f_X3_put_16 σ p1 p2) := by
  unfold f_X3_put_16
  refine NC.intro RX3 rfl hst (by decide) (Nat.le_of_ble_eq_true rfl) (lv := [(0, .ref _), (1, .int _), (2, .int _)]) rfl ?_
  refine r_iload_n 1 rfl dX3_put_0 ?_
  refine r_if_lt 14 dX3_put_1 (by decide) ?_ ?_
  · exact r_vret rfl rfl rfl dX3_put_14
  · refine r_iload_n 1 rfl dX3_put_4 ?_
    refine r_aload_n 0 rfl dX3_put_5 ?_
    refine r_alen (6) (lvs_16 _) (cell_16 _ _ _ _) rfl rfl dX3_put_6 ?_
    refine r_icmp_ge 14 dX3_put_7 (by decide) ?_ ?_
    · exact r_vret rfl rfl rfl dX3_put_14
    · refine r_aload_n 0 rfl dX3_put_10 ?_
      refine r_iload_n 1 rfl dX3_put_11 ?_
      refine r_iload_n 2 rfl dX3_put_12 ?_
      refine r_gd (fun h1 => ?_)
      refine r_bd ?_
      refine r_iastore (lvs_16 _) (ia_16 _ _ _) h1 dX3_put_13 ?_
      exact r_vret rfl rfl rfl dX3_put_14
def l_X3_allocateByParts_15 : Nat → Wd → Int32 → Int32 → Option ((Unit ⊕ String) × Wd)
  | 0, _, _, _ => none
  | n + 1, σ, a2, a1 =>
  if (σ.1 12 0 7) ≤ a2 then
    some (.inl (), σ)
  else
    bx (f_X3_lowestOfLeastCost σ a2 a1) fun v4 σ5 =>
    bx (f_X3_put_16 σ5 a2 v4) fun v6 σ7 =>
    bx (f_X3_without σ7 a1 v4) fun v8 σ9 =>
    (l_X3_allocateByParts_15 n) σ9 (a2 + 1) v8
def f_X3_allocateByParts (σ : Wd) : Option ((Unit ⊕ String) × Wd) :=
  bx (f_X3_fillLeastCosts σ) fun v1 σ2 =>
  bd ((((1 : Int32) <<< ((σ2.1 12 0 6) &&& 31)) - (1 : Int32))) fun x3 =>
  l_X3_allocateByParts_15 FU σ2 (0 : Int32) x3
theorem bl_X3_allocateByParts_15 (X : Xt) (hst : X.1.stackTraces = false) (ad : Ad) : ∀ (n : Nat) (σ : Wd) (a2 : Int32) (a1 : Int32), Bk X (fun a => a = ad) cX3_allocateByParts 4 RX3 none 4 94 vV (0, 0) (0, 0) ad σ 15 [(2, .int a2), (1, .int a1), (0, .ref (ad 12 0))] [] (l_X3_allocateByParts_15 n σ a2 a1) := by
  intro n
  induction n with
  | zero => intros; exact r_none
  | succ n ih =>
  intro σ a2 a1
  rw [l_X3_allocateByParts_15]
  refine r_iload_n 0 rfl dX3_allocateByParts_15 ?_
  refine r_aload_n 2 rfl dX3_allocateByParts_16 ?_
  refine r_getf 7 (lvs_12 _) (cell_12 _ _ _ _) rfl (by decide) in_4 w_43 rfl dX3_allocateByParts_17 ?_
  refine r_icmp_ge 51 dX3_allocateByParts_20 (by decide) ?_ ?_
  · exact r_vret rfl rfl rfl dX3_allocateByParts_51
  · refine r_aload_n 2 rfl dX3_allocateByParts_23 ?_
    refine r_iload_n 0 rfl dX3_allocateByParts_24 ?_
    refine r_iload_n 1 rfl dX3_allocateByParts_25 ?_
    refine r_callV (n := 2) (As := [.int _, .int _]) (cell_12 _ _ _ _) (lvs_12 _) rfl (nc_X3_lowestOfLeastCost X hst ad _ _ _) (fun _ h => h) rfl ⟨rfl, by decide, by decide, by decide +kernel⟩ w_78 w_79 w_80 w_50 w_81 rfl rfl (Nat.le_of_ble_eq_true rfl) ⟨by decide, by decide⟩ dX3_allocateByParts_26 (fun v4 σ5 => ?_)
    refine r_istore_n [(3, .int _), (2, .int _), (1, .int _), (0, .ref _)] rfl (by decide) dX3_allocateByParts_29 ?_
    refine r_aload_n 3 rfl dX3_allocateByParts_30 ?_
    refine r_getf 3 (lvs_12 _) (cell_12 _ _ _ _) rfl (by decide) in_4 w_47 rfl dX3_allocateByParts_31 ?_
    refine r_iload_n 1 rfl dX3_allocateByParts_34 ?_
    refine r_iload_n 0 rfl dX3_allocateByParts_35 ?_
    refine r_callS (n := 3) (As := [.ref _, .int _, .int _]) (nc_X3_put_16 X hst ad _ _ _) (fun _ h => h) rfl ⟨by decide, by decide, by decide +kernel⟩ w_71 w_72 w_50 w_73 rfl rfl (Nat.le_of_ble_eq_true rfl) ⟨by decide, by decide⟩ dX3_allocateByParts_36 (fun v6 σ7 => ?_)
    refine r_iload_n 2 rfl dX3_allocateByParts_39 ?_
    refine r_iload_n 0 rfl dX3_allocateByParts_40 ?_
    refine r_callS (n := 2) (As := [.int _, .int _]) (nc_X3_without X hst ad _ _ _) (fun _ h => h) rfl ⟨by decide, by decide, by decide +kernel⟩ w_57 w_58 w_50 w_59 rfl rfl (Nat.le_of_ble_eq_true rfl) ⟨by decide, by decide⟩ dX3_allocateByParts_41 (fun v8 σ9 => ?_)
    refine r_istore_n [(1, .int _), (3, .int _), (2, .int _), (0, .ref _)] rfl (by decide) dX3_allocateByParts_44 ?_
    refine r_iinc (1) [(2, .int _), (1, .int _), (3, .int _), (0, .ref _)] 2 rfl (by decide) rfl (by decide) dX3_allocateByParts_45 ?_
    refine r_goto 15 dX3_allocateByParts_48 (by decide) ?_
    exact r_sub [0, 1, 3] rfl (ih _ _ _)
theorem nc_X3_allocateByParts (X : Xt) (hst : X.1.stackTraces = false) (ad : Ad) (σ : Wd) : NC X (fun a => a = ad) yX3_allocateByParts cX3_allocateByParts 4 none 4 94 vV (0, 0) ad σ [.ref (ad 12 0)] (f_X3_allocateByParts σ) := by
  unfold f_X3_allocateByParts
  refine NC.intro RX3 rfl hst (by decide) (Nat.le_of_ble_eq_true rfl) (lv := [(0, .ref _)]) rfl ?_
  refine r_aload_n 0 rfl dX3_allocateByParts_0 ?_
  refine r_callV (n := 0) (As := []) (cell_12 _ _ _ _) (lvs_12 _) rfl (nc_X3_fillLeastCosts X hst ad _) (fun _ h => h) rfl ⟨rfl, by decide, by decide, by decide +kernel⟩ w_74 w_75 w_76 w_50 w_77 rfl rfl (Nat.le_of_ble_eq_true rfl) ⟨by decide, by decide⟩ dX3_allocateByParts_1 (fun v1 σ2 => ?_)
  refine r_iconst (1) (by decide) dX3_allocateByParts_4 ?_
  refine r_aload_n 0 rfl dX3_allocateByParts_5 ?_
  refine r_getf 6 (lvs_12 _) (cell_12 _ _ _ _) rfl (by decide) in_4 w_42 rfl dX3_allocateByParts_6 ?_
  refine r_ishl dX3_allocateByParts_9 ?_
  refine r_iconst (1) (by decide) dX3_allocateByParts_10 ?_
  refine r_isub dX3_allocateByParts_11 ?_
  refine r_bd ?_
  refine r_istore_n [(1, .int _), (0, .ref _)] rfl (by decide) dX3_allocateByParts_12 ?_
  refine r_iconst (0) (by decide) dX3_allocateByParts_13 ?_
  refine r_istore_n [(2, .int _), (1, .int _), (0, .ref _)] rfl (by decide) dX3_allocateByParts_14 ?_
  exact r_sub [0, 1, 2] rfl ((bl_X3_allocateByParts_15 X hst ad FU) _ _ _)
def f_X3_firstChoice (σ : Wd) : Option ((Int32 ⊕ String) × Wd) :=
  if (σ.1 12 0 6) = 0 then
    some (.inl (-1 : Int32), σ)
  else
    some (.inl (0 : Int32), σ)
theorem nc_X3_firstChoice (X : Xt) (hst : X.1.stackTraces = false) (ad : Ad) (σ : Wd) : NC X (fun a => a = ad) yX3_firstChoice cX3_firstChoice 1 (some (.int)) 0 0 vI (0, 0) ad σ [.ref (ad 12 0)] (f_X3_firstChoice σ) := by
  unfold f_X3_firstChoice
  refine NC.intro RX3 rfl hst (by decide) (Nat.le_of_ble_eq_true rfl) (lv := [(0, .ref _)]) rfl ?_
  refine r_aload_n 0 rfl dX3_firstChoice_0 ?_
  refine r_getf 6 (lvs_12 _) (cell_12 _ _ _ _) rfl (by decide) in_4 w_42 rfl dX3_firstChoice_1 ?_
  refine r_if_ne 11 dX3_firstChoice_4 (by decide) ?_ ?_
  · refine r_iconst (-1) (by decide) dX3_firstChoice_7 ?_
    refine r_goto 12 dX3_firstChoice_8 (by decide) ?_
    exact r_iret rfl rfl rfl dX3_firstChoice_12
  · refine r_iconst (0) (by decide) dX3_firstChoice_11 ?_
    exact r_iret rfl rfl rfl dX3_firstChoice_12
def l_X3_howManyTrials_4 : Nat → Wd → Int32 → Int32 → Option ((Int32 ⊕ String) × Wd)
  | 0, _, _, _ => none
  | n + 1, σ, a2, a1 =>
  if (σ.1 12 0 7) ≤ a2 then
    some (.inl a1, σ)
  else
    bd ((a1 * ((σ.1 12 0 6) + (1 : Int32)))) fun x1 =>
    (l_X3_howManyTrials_4 n) σ (a2 + 1) x1
def f_X3_howManyTrials (σ : Wd) : Option ((Int32 ⊕ String) × Wd) :=
  l_X3_howManyTrials_4 FU σ (0 : Int32) (1 : Int32)
theorem bl_X3_howManyTrials_4 (X : Xt) (hst : X.1.stackTraces = false) (ad : Ad) : ∀ (n : Nat) (σ : Wd) (a2 : Int32) (a1 : Int32), Bk X (fun a => a = ad) cX3_howManyTrials 3 RX3 (some (.int)) 0 0 vI (0, 0) (0, 0) ad σ 4 [(2, .int a2), (1, .int a1), (0, .ref (ad 12 0))] [] (l_X3_howManyTrials_4 n σ a2 a1) := by
  intro n
  induction n with
  | zero => intros; exact r_none
  | succ n ih =>
  intro σ a2 a1
  rw [l_X3_howManyTrials_4]
  refine r_iload_n 0 rfl dX3_howManyTrials_4 ?_
  refine r_aload_n 2 rfl dX3_howManyTrials_5 ?_
  refine r_getf 7 (lvs_12 _) (cell_12 _ _ _ _) rfl (by decide) in_4 w_43 rfl dX3_howManyTrials_6 ?_
  refine r_icmp_ge 27 dX3_howManyTrials_9 (by decide) ?_ ?_
  · refine r_iload_n 1 rfl dX3_howManyTrials_27 ?_
    exact r_iret rfl rfl rfl dX3_howManyTrials_28
  · refine r_iload_n 1 rfl dX3_howManyTrials_12 ?_
    refine r_aload_n 2 rfl dX3_howManyTrials_13 ?_
    refine r_getf 6 (lvs_12 _) (cell_12 _ _ _ _) rfl (by decide) in_4 w_42 rfl dX3_howManyTrials_14 ?_
    refine r_iconst (1) (by decide) dX3_howManyTrials_17 ?_
    refine r_iadd dX3_howManyTrials_18 ?_
    refine r_imul dX3_howManyTrials_19 ?_
    refine r_bd ?_
    refine r_istore_n [(1, .int _), (2, .int _), (0, .ref _)] rfl (by decide) dX3_howManyTrials_20 ?_
    refine r_iinc (1) [(2, .int _), (1, .int _), (0, .ref _)] 1 rfl (by decide) rfl (by decide) dX3_howManyTrials_21 ?_
    refine r_goto 4 dX3_howManyTrials_24 (by decide) ?_
    exact r_sub [0, 1, 2] rfl (ih _ _ _)
theorem nc_X3_howManyTrials (X : Xt) (hst : X.1.stackTraces = false) (ad : Ad) (σ : Wd) : NC X (fun a => a = ad) yX3_howManyTrials cX3_howManyTrials 3 (some (.int)) 0 0 vI (0, 0) ad σ [.ref (ad 12 0)] (f_X3_howManyTrials σ) := by
  unfold f_X3_howManyTrials
  refine NC.intro RX3 rfl hst (by decide) (Nat.le_of_ble_eq_true rfl) (lv := [(0, .ref _)]) rfl ?_
  refine r_iconst (1) (by decide) dX3_howManyTrials_0 ?_
  refine r_istore_n [(1, .int _), (0, .ref _)] rfl (by decide) dX3_howManyTrials_1 ?_
  refine r_iconst (0) (by decide) dX3_howManyTrials_2 ?_
  refine r_istore_n [(2, .int _), (1, .int _), (0, .ref _)] rfl (by decide) dX3_howManyTrials_3 ?_
  exact r_sub [0, 1, 2] rfl ((bl_X3_howManyTrials_4 X hst ad FU) _ _ _)
def f_X3_at_17 (σ : Wd) (p1 : Int32) (p2 : Int32) : Option ((Int32 ⊕ String) × Wd) :=
  if p1 < 0 then
    some (.inl p2, σ)
  else
    if (6 : Int32) ≤ p1 then
      some (.inl p2, σ)
    else
      gd (inb p1 6) <|
      some (.inl (σ.1 17 0 p1.toNatClampNeg), σ)
theorem nc_X3_at_17 (X : Xt) (hst : X.1.stackTraces = false) (ad : Ad) (σ : Wd) (p1 : Int32) (p2 : Int32) : NC X (fun a => a = ad) yX3_at cX3_at 3 (some (.int)) 0 0 vI (0, 0) ad σ [.ref (ad 17 0), .int p1, .int p2] (f_X3_at_17 σ p1 p2) := by
  unfold f_X3_at_17
  refine NC.intro RX3 rfl hst (by decide) (Nat.le_of_ble_eq_true rfl) (lv := [(0, .ref _), (1, .int _), (2, .int _)]) rfl ?_
  refine r_iload_n 1 rfl dX3_at_0 ?_
  refine r_if_lt 16 dX3_at_1 (by decide) ?_ ?_
  · refine r_iload_n 2 rfl dX3_at_16 ?_
    exact r_iret rfl rfl rfl dX3_at_17
  · refine r_iload_n 1 rfl dX3_at_4 ?_
    refine r_aload_n 0 rfl dX3_at_5 ?_
    refine r_alen (6) (lvs_17 _) (cell_17 _ _ _ _) rfl rfl dX3_at_6 ?_
    refine r_icmp_ge 16 dX3_at_7 (by decide) ?_ ?_
    · refine r_iload_n 2 rfl dX3_at_16 ?_
      exact r_iret rfl rfl rfl dX3_at_17
    · refine r_aload_n 0 rfl dX3_at_10 ?_
      refine r_iload_n 1 rfl dX3_at_11 ?_
      refine r_gd (fun h1 => ?_)
      refine r_iaload (lvs_17 _) (cell_17 _ _ _ _) h1 dX3_at_12 ?_
      refine r_goto 17 dX3_at_13 (by decide) ?_
      exact r_iret rfl rfl rfl dX3_at_17
def f_X3_put_17 (σ : Wd) (p1 : Int32) (p2 : Int32) : Option ((Unit ⊕ String) × Wd) :=
  if p1 < 0 then
    some (.inl (), σ)
  else
    if (6 : Int32) ≤ p1 then
      some (.inl (), σ)
    else
      gd (inb p1 6) <|
      bd (wr σ 17 0 p1.toNatClampNeg p2) fun σ1 =>
      some (.inl (), σ1)
theorem nc_X3_put_17 (X : Xt) (hst : X.1.stackTraces = false) (ad : Ad) (σ : Wd) (p1 : Int32) (p2 : Int32) : NC X (fun a => a = ad) yX3_put cX3_put 3 none 0 0 vV (0, 0) ad σ [.ref (ad 17 0), .int p1, .int p2] (f_X3_put_17 σ p1 p2) := by
  unfold f_X3_put_17
  refine NC.intro RX3 rfl hst (by decide) (Nat.le_of_ble_eq_true rfl) (lv := [(0, .ref _), (1, .int _), (2, .int _)]) rfl ?_
  refine r_iload_n 1 rfl dX3_put_0 ?_
  refine r_if_lt 14 dX3_put_1 (by decide) ?_ ?_
  · exact r_vret rfl rfl rfl dX3_put_14
  · refine r_iload_n 1 rfl dX3_put_4 ?_
    refine r_aload_n 0 rfl dX3_put_5 ?_
    refine r_alen (6) (lvs_17 _) (cell_17 _ _ _ _) rfl rfl dX3_put_6 ?_
    refine r_icmp_ge 14 dX3_put_7 (by decide) ?_ ?_
    · exact r_vret rfl rfl rfl dX3_put_14
    · refine r_aload_n 0 rfl dX3_put_10 ?_
      refine r_iload_n 1 rfl dX3_put_11 ?_
      refine r_iload_n 2 rfl dX3_put_12 ?_
      refine r_gd (fun h1 => ?_)
      refine r_bd ?_
      refine r_iastore (lvs_17 _) (ia_17 _ _ _) h1 dX3_put_13 ?_
      exact r_vret rfl rfl rfl dX3_put_14
def l_X3_stepTrial_7 : Nat → Wd → Int32 → Option ((Unit ⊕ String) × Wd)
  | 0, _, _ => none
  | n + 1, σ, a1 =>
  if a1 < 0 then
    some (.inl (), σ)
  else
    bx (f_X3_at_17 σ a1 (-1 : Int32)) fun v2 σ3 =>
    if v2 = (-1 : Int32) then
      bx (f_X3_firstChoice σ3) fun v4 σ5 =>
      bx (f_X3_put_17 σ5 a1 v4) fun v6 σ7 =>
      (l_X3_stepTrial_7 n) σ7 (a1 + (-1))
    else
      if (σ3.1 12 0 6) ≤ (v2 + (1 : Int32)) then
        bx (f_X3_put_17 σ3 a1 (-1 : Int32)) fun v8 σ9 =>
        some (.inl (), σ9)
      else
        bx (f_X3_put_17 σ3 a1 (v2 + (1 : Int32))) fun v10 σ11 =>
        some (.inl (), σ11)
def f_X3_stepTrial (σ : Wd) : Option ((Unit ⊕ String) × Wd) :=
  bd (((σ.1 12 0 7) - (1 : Int32))) fun x1 =>
  l_X3_stepTrial_7 FU σ x1
theorem bl_X3_stepTrial_7 (X : Xt) (hst : X.1.stackTraces = false) (ad : Ad) : ∀ (n : Nat) (σ : Wd) (a1 : Int32), Bk X (fun a => a = ad) cX3_stepTrial 3 RX3 none 1 22 vV (0, 0) (0, 0) ad σ 7 [(1, .int a1), (0, .ref (ad 12 0))] [] (l_X3_stepTrial_7 n σ a1) := by
  intro n
  induction n with
  | zero => intros; exact r_none
  | succ n ih =>
  intro σ a1
  rw [l_X3_stepTrial_7]
  refine r_iload_n 0 rfl dX3_stepTrial_7 ?_
  refine r_if_lt 70 dX3_stepTrial_8 (by decide) ?_ ?_
  · exact r_vret rfl rfl rfl dX3_stepTrial_70
  · refine r_aload_n 1 rfl dX3_stepTrial_11 ?_
    refine r_getf 4 (lvs_12 _) (cell_12 _ _ _ _) rfl (by decide) in_4 w_82 rfl dX3_stepTrial_12 ?_
    refine r_iload_n 0 rfl dX3_stepTrial_15 ?_
    refine r_iconst (-1) (by decide) dX3_stepTrial_16 ?_
    refine r_callS (n := 3) (As := [.ref _, .int _, .int _]) (nc_X3_at_17 X hst ad _ _ _) (fun _ h => h) rfl ⟨by decide, by decide, by decide +kernel⟩ w_48 w_49 w_50 w_51 rfl rfl (Nat.le_of_ble_eq_true rfl) ⟨by decide, by decide⟩ dX3_stepTrial_17 (fun v2 σ3 => ?_)
    refine r_istore_n [(2, .int _), (1, .int _), (0, .ref _)] rfl (by decide) dX3_stepTrial_20 ?_
    refine r_iload_n 0 rfl dX3_stepTrial_21 ?_
    refine r_iconst (-1) (by decide) dX3_stepTrial_22 ?_
    refine r_icmp_eq 52 dX3_stepTrial_23 (by decide) ?_ ?_
    · refine r_aload_n 2 rfl dX3_stepTrial_52 ?_
      refine r_getf 4 (lvs_12 _) (cell_12 _ _ _ _) rfl (by decide) in_4 w_82 rfl dX3_stepTrial_53 ?_
      refine r_iload_n 1 rfl dX3_stepTrial_56 ?_
      refine r_aload_n 2 rfl dX3_stepTrial_57 ?_
      refine r_callV (n := 0) (As := []) (cell_12 _ _ _ _) (lvs_12 _) rfl (nc_X3_firstChoice X hst ad _) (fun _ h => h) rfl ⟨rfl, by decide, by decide, by decide +kernel⟩ w_83 w_84 w_85 w_50 w_86 rfl rfl (Nat.le_of_ble_eq_true rfl) ⟨by decide, by decide⟩ dX3_stepTrial_58 (fun v4 σ5 => ?_)
      refine r_callS (n := 3) (As := [.ref _, .int _, .int _]) (nc_X3_put_17 X hst ad _ _ _) (fun _ h => h) rfl ⟨by decide, by decide, by decide +kernel⟩ w_71 w_72 w_50 w_73 rfl rfl (Nat.le_of_ble_eq_true rfl) ⟨by decide, by decide⟩ dX3_stepTrial_61 (fun v6 σ7 => ?_)
      refine r_iinc (-1) [(1, .int _), (2, .int _), (0, .ref _)] 1 rfl (by decide) rfl (by decide) dX3_stepTrial_64 ?_
      refine r_goto 7 dX3_stepTrial_67 (by decide) ?_
      exact r_sub [0, 2] rfl (ih _ _)
    · refine r_aload_n 2 rfl dX3_stepTrial_26 ?_
      refine r_getf 4 (lvs_12 _) (cell_12 _ _ _ _) rfl (by decide) in_4 w_82 rfl dX3_stepTrial_27 ?_
      refine r_iload_n 1 rfl dX3_stepTrial_30 ?_
      refine r_iload_n 0 rfl dX3_stepTrial_31 ?_
      refine r_iconst (1) (by decide) dX3_stepTrial_32 ?_
      refine r_iadd dX3_stepTrial_33 ?_
      refine r_aload_n 2 rfl dX3_stepTrial_34 ?_
      refine r_getf 6 (lvs_12 _) (cell_12 _ _ _ _) rfl (by decide) in_4 w_42 rfl dX3_stepTrial_35 ?_
      refine r_icmp_ge 47 dX3_stepTrial_38 (by decide) ?_ ?_
      · refine r_iconst (-1) (by decide) dX3_stepTrial_47 ?_
        refine r_callS (n := 3) (As := [.ref _, .int _, .int _]) (nc_X3_put_17 X hst ad _ _ _) (fun _ h => h) rfl ⟨by decide, by decide, by decide +kernel⟩ w_71 w_72 w_50 w_73 rfl rfl (Nat.le_of_ble_eq_true rfl) ⟨by decide, by decide⟩ dX3_stepTrial_48 (fun v8 σ9 => ?_)
        exact r_vret rfl rfl rfl dX3_stepTrial_51
      · refine r_iload_n 0 rfl dX3_stepTrial_41 ?_
        refine r_iconst (1) (by decide) dX3_stepTrial_42 ?_
        refine r_iadd dX3_stepTrial_43 ?_
        refine r_goto 48 dX3_stepTrial_44 (by decide) ?_
        refine r_callS (n := 3) (As := [.ref _, .int _, .int _]) (nc_X3_put_17 X hst ad _ _ _) (fun _ h => h) rfl ⟨by decide, by decide, by decide +kernel⟩ w_71 w_72 w_50 w_73 rfl rfl (Nat.le_of_ble_eq_true rfl) ⟨by decide, by decide⟩ dX3_stepTrial_48 (fun v10 σ11 => ?_)
        exact r_vret rfl rfl rfl dX3_stepTrial_51
theorem nc_X3_stepTrial (X : Xt) (hst : X.1.stackTraces = false) (ad : Ad) (σ : Wd) : NC X (fun a => a = ad) yX3_stepTrial cX3_stepTrial 3 none 1 22 vV (0, 0) ad σ [.ref (ad 12 0)] (f_X3_stepTrial σ) := by
  unfold f_X3_stepTrial
  refine NC.intro RX3 rfl hst (by decide) (Nat.le_of_ble_eq_true rfl) (lv := [(0, .ref _)]) rfl ?_
  refine r_aload_n 0 rfl dX3_stepTrial_0 ?_
  refine r_getf 7 (lvs_12 _) (cell_12 _ _ _ _) rfl (by decide) in_4 w_43 rfl dX3_stepTrial_1 ?_
  refine r_iconst (1) (by decide) dX3_stepTrial_4 ?_
  refine r_isub dX3_stepTrial_5 ?_
  refine r_bd ?_
  refine r_istore_n [(1, .int _), (0, .ref _)] rfl (by decide) dX3_stepTrial_6 ?_
  exact r_sub [0, 1] rfl ((bl_X3_stepTrial_7 X hst ad FU) _ _)
def l_X3_trialIsAllowed_4 : Nat → Wd → Int32 → Int32 → Option ((Int32 ⊕ String) × Wd)
  | 0, _, _, _ => none
  | n + 1, σ, a2, a1 =>
  if (σ.1 12 0 7) ≤ a2 then
    some (.inl (1 : Int32), σ)
  else
    bx (f_X3_at_17 σ a2 (-1 : Int32)) fun v1 σ2 =>
    if v1 = (-1 : Int32) then
      (l_X3_trialIsAllowed_4 n) σ2 (a2 + 1) a1
    else
      bx (f_X3_has σ2 a1 v1) fun v3 σ4 =>
      if v3 = 0 then
        bx (f_X3_at_14 σ4 a2 (0 : Int32)) fun v5 σ6 =>
        bx (f_X3_has σ6 v5 v1) fun v7 σ8 =>
        if v7 = 0 then
          some (.inl (0 : Int32), σ8)
        else
          bd ((a1 ||| ((1 : Int32) <<< (v1 &&& 31)))) fun x9 =>
          (l_X3_trialIsAllowed_4 n) σ8 (a2 + 1) x9
      else
        some (.inl (0 : Int32), σ4)
def f_X3_trialIsAllowed (σ : Wd) : Option ((Int32 ⊕ String) × Wd) :=
  l_X3_trialIsAllowed_4 FU σ (0 : Int32) (0 : Int32)
theorem bl_X3_trialIsAllowed_4 (X : Xt) (hst : X.1.stackTraces = false) (ad : Ad) : ∀ (n : Nat) (σ : Wd) (a2 : Int32) (a1 : Int32), Bk X (fun a => a = ad) cX3_trialIsAllowed 4 RX3 (some (.boolean)) 1 22 vI (0, 0) (0, 0) ad σ 4 [(2, .int a2), (1, .int a1), (0, .ref (ad 12 0))] [] (l_X3_trialIsAllowed_4 n σ a2 a1) := by
  intro n
  induction n with
  | zero => intros; exact r_none
  | succ n ih =>
  intro σ a2 a1
  rw [l_X3_trialIsAllowed_4]
  refine r_iload_n 0 rfl dX3_trialIsAllowed_4 ?_
  refine r_aload_n 2 rfl dX3_trialIsAllowed_5 ?_
  refine r_getf 7 (lvs_12 _) (cell_12 _ _ _ _) rfl (by decide) in_4 w_43 rfl dX3_trialIsAllowed_6 ?_
  refine r_icmp_ge 65 dX3_trialIsAllowed_9 (by decide) ?_ ?_
  · refine r_iconst (1) (by decide) dX3_trialIsAllowed_65 ?_
    exact r_zret rfl rfl rfl rfl dX3_trialIsAllowed_66
  · refine r_aload_n 2 rfl dX3_trialIsAllowed_12 ?_
    refine r_getf 4 (lvs_12 _) (cell_12 _ _ _ _) rfl (by decide) in_4 w_82 rfl dX3_trialIsAllowed_13 ?_
    refine r_iload_n 0 rfl dX3_trialIsAllowed_16 ?_
    refine r_iconst (-1) (by decide) dX3_trialIsAllowed_17 ?_
    refine r_callS (n := 3) (As := [.ref _, .int _, .int _]) (nc_X3_at_17 X hst ad _ _ _) (fun _ h => h) rfl ⟨by decide, by decide, by decide +kernel⟩ w_48 w_49 w_50 w_51 rfl rfl (Nat.le_of_ble_eq_true rfl) ⟨by decide, by decide⟩ dX3_trialIsAllowed_18 (fun v1 σ2 => ?_)
    refine r_istore_n [(3, .int _), (2, .int _), (1, .int _), (0, .ref _)] rfl (by decide) dX3_trialIsAllowed_21 ?_
    refine r_iload_n 0 rfl dX3_trialIsAllowed_22 ?_
    refine r_iconst (-1) (by decide) dX3_trialIsAllowed_23 ?_
    refine r_icmp_eq 59 dX3_trialIsAllowed_24 (by decide) ?_ ?_
    · refine r_iinc (1) [(2, .int _), (3, .int _), (1, .int _), (0, .ref _)] 1 rfl (by decide) rfl (by decide) dX3_trialIsAllowed_59 ?_
      refine r_goto 4 dX3_trialIsAllowed_62 (by decide) ?_
      exact r_sub [0, 2, 3] rfl (ih _ _ _)
    · refine r_iload_n 2 rfl dX3_trialIsAllowed_27 ?_
      refine r_iload_n 0 rfl dX3_trialIsAllowed_28 ?_
      refine r_callS (n := 2) (As := [.int _, .int _]) (nc_X3_has X hst ad _ _ _) (fun _ h => h) rfl ⟨by decide, by decide, by decide +kernel⟩ w_60 w_61 w_50 w_62 rfl rfl (Nat.le_of_ble_eq_true rfl) ⟨by decide, by decide⟩ dX3_trialIsAllowed_29 (fun v3 σ4 => ?_)
      refine r_if_ne 51 dX3_trialIsAllowed_32 (by decide) ?_ ?_
      · refine r_aload_n 3 rfl dX3_trialIsAllowed_35 ?_
        refine r_getf 1 (lvs_12 _) (cell_12 _ _ _ _) rfl (by decide) in_4 w_45 rfl dX3_trialIsAllowed_36 ?_
        refine r_iload_n 1 rfl dX3_trialIsAllowed_39 ?_
        refine r_iconst (0) (by decide) dX3_trialIsAllowed_40 ?_
        refine r_callS (n := 3) (As := [.ref _, .int _, .int _]) (nc_X3_at_14 X hst ad _ _ _) (fun _ h => h) rfl ⟨by decide, by decide, by decide +kernel⟩ w_48 w_49 w_50 w_51 rfl rfl (Nat.le_of_ble_eq_true rfl) ⟨by decide, by decide⟩ dX3_trialIsAllowed_41 (fun v5 σ6 => ?_)
        refine r_iload_n 0 rfl dX3_trialIsAllowed_44 ?_
        refine r_callS (n := 2) (As := [.int _, .int _]) (nc_X3_has X hst ad _ _ _) (fun _ h => h) rfl ⟨by decide, by decide, by decide +kernel⟩ w_60 w_61 w_50 w_62 rfl rfl (Nat.le_of_ble_eq_true rfl) ⟨by decide, by decide⟩ dX3_trialIsAllowed_45 (fun v7 σ8 => ?_)
        refine r_if_ne 53 dX3_trialIsAllowed_48 (by decide) ?_ ?_
        · refine r_iconst (0) (by decide) dX3_trialIsAllowed_51 ?_
          exact r_zret rfl rfl rfl rfl dX3_trialIsAllowed_52
        · refine r_iload_n 2 rfl dX3_trialIsAllowed_53 ?_
          refine r_iconst (1) (by decide) dX3_trialIsAllowed_54 ?_
          refine r_iload_n 0 rfl dX3_trialIsAllowed_55 ?_
          refine r_ishl dX3_trialIsAllowed_56 ?_
          refine r_ior dX3_trialIsAllowed_57 ?_
          refine r_bd ?_
          refine r_istore_n [(1, .int _), (3, .int _), (2, .int _), (0, .ref _)] rfl (by decide) dX3_trialIsAllowed_58 ?_
          refine r_iinc (1) [(2, .int _), (1, .int _), (3, .int _), (0, .ref _)] 2 rfl (by decide) rfl (by decide) dX3_trialIsAllowed_59 ?_
          refine r_goto 4 dX3_trialIsAllowed_62 (by decide) ?_
          exact r_sub [0, 1, 3] rfl (ih _ _ _)
      · refine r_iconst (0) (by decide) dX3_trialIsAllowed_51 ?_
        exact r_zret rfl rfl rfl rfl dX3_trialIsAllowed_52
theorem nc_X3_trialIsAllowed (X : Xt) (hst : X.1.stackTraces = false) (ad : Ad) (σ : Wd) : NC X (fun a => a = ad) yX3_trialIsAllowed cX3_trialIsAllowed 4 (some (.boolean)) 1 22 vI (0, 0) ad σ [.ref (ad 12 0)] (f_X3_trialIsAllowed σ) := by
  unfold f_X3_trialIsAllowed
  refine NC.intro RX3 rfl hst (by decide) (Nat.le_of_ble_eq_true rfl) (lv := [(0, .ref _)]) rfl ?_
  refine r_iconst (0) (by decide) dX3_trialIsAllowed_0 ?_
  refine r_istore_n [(1, .int _), (0, .ref _)] rfl (by decide) dX3_trialIsAllowed_1 ?_
  refine r_iconst (0) (by decide) dX3_trialIsAllowed_2 ?_
  refine r_istore_n [(2, .int _), (1, .int _), (0, .ref _)] rfl (by decide) dX3_trialIsAllowed_3 ?_
  exact r_sub [0, 1, 2] rfl ((bl_X3_trialIsAllowed_4 X hst ad FU) _ _ _)
def l_X3_lackOf_17_4 : Nat → Wd → Int32 → Int32 → Option ((Int32 ⊕ String) × Wd)
  | 0, _, _, _ => none
  | n + 1, σ, a3, a2 =>
  if (σ.1 12 0 7) ≤ a3 then
    some (.inl a2, σ)
  else
    bx (f_X3_at_17 σ a3 (-1 : Int32)) fun v1 σ2 =>
    if v1 = (-1 : Int32) then
      bx (f_X3_at_13 σ2 a3 (0 : Int32)) fun v3 σ4 =>
      (l_X3_lackOf_17_4 n) σ4 (a3 + 1) (a2 + v3)
    else
      (l_X3_lackOf_17_4 n) σ2 (a3 + 1) a2
def f_X3_lackOf_17 (σ : Wd) : Option ((Int32 ⊕ String) × Wd) :=
  l_X3_lackOf_17_4 FU σ (0 : Int32) (0 : Int32)
theorem bl_X3_lackOf_17_4 (X : Xt) (hst : X.1.stackTraces = false) (ad : Ad) : ∀ (n : Nat) (σ : Wd) (a3 : Int32) (a2 : Int32), Bk X (fun a => a = ad) cX3_lackOf 4 RX3 (some (.int)) 1 22 vI (0, 0) (0, 0) ad σ 4 [(3, .int a3), (2, .int a2), (0, .ref (ad 12 0)), (1, .ref (ad 17 0))] [] (l_X3_lackOf_17_4 n σ a3 a2) := by
  intro n
  induction n with
  | zero => intros; exact r_none
  | succ n ih =>
  intro σ a3 a2
  rw [l_X3_lackOf_17_4]
  refine r_iload_n 0 rfl dX3_lackOf_4 ?_
  refine r_aload_n 2 rfl dX3_lackOf_5 ?_
  refine r_getf 7 (lvs_12 _) (cell_12 _ _ _ _) rfl (by decide) in_4 w_43 rfl dX3_lackOf_6 ?_
  refine r_icmp_ge 40 dX3_lackOf_9 (by decide) ?_ ?_
  · refine r_iload_n 1 rfl dX3_lackOf_40 ?_
    exact r_iret rfl rfl rfl dX3_lackOf_41
  · refine r_aload_n 3 rfl dX3_lackOf_12 ?_
    refine r_iload_n 0 rfl dX3_lackOf_13 ?_
    refine r_iconst (-1) (by decide) dX3_lackOf_14 ?_
    refine r_callS (n := 3) (As := [.ref _, .int _, .int _]) (nc_X3_at_17 X hst ad _ _ _) (fun _ h => h) rfl ⟨by decide, by decide, by decide +kernel⟩ w_48 w_49 w_50 w_51 rfl rfl (Nat.le_of_ble_eq_true rfl) ⟨by decide, by decide⟩ dX3_lackOf_15 (fun v1 σ2 => ?_)
    refine r_iconst (-1) (by decide) dX3_lackOf_18 ?_
    refine r_icmp_ne 34 dX3_lackOf_19 (by decide) ?_ ?_
    · refine r_iload_n 1 rfl dX3_lackOf_22 ?_
      refine r_aload_n 2 rfl dX3_lackOf_23 ?_
      refine r_getf 0 (lvs_12 _) (cell_12 _ _ _ _) rfl (by decide) in_4 w_44 rfl dX3_lackOf_24 ?_
      refine r_iload_n 0 rfl dX3_lackOf_27 ?_
      refine r_iconst (0) (by decide) dX3_lackOf_28 ?_
      refine r_callS (n := 3) (As := [.ref _, .int _, .int _]) (nc_X3_at_13 X hst ad _ _ _) (fun _ h => h) rfl ⟨by decide, by decide, by decide +kernel⟩ w_48 w_49 w_50 w_51 rfl rfl (Nat.le_of_ble_eq_true rfl) ⟨by decide, by decide⟩ dX3_lackOf_29 (fun v3 σ4 => ?_)
      refine r_iadd dX3_lackOf_32 ?_
      refine r_istore_n [(2, .int _), (3, .int _), (0, .ref _), (1, .ref _)] rfl (by decide) dX3_lackOf_33 ?_
      refine r_iinc (1) [(3, .int _), (2, .int _), (0, .ref _), (1, .ref _)] 1 rfl (by decide) rfl (by decide) dX3_lackOf_34 ?_
      refine r_goto 4 dX3_lackOf_37 (by decide) ?_
      exact r_sub [0, 1, 2, 3] rfl (ih _ _ _)
    · refine r_iinc (1) [(3, .int _), (2, .int _), (0, .ref _), (1, .ref _)] 0 rfl (by decide) rfl (by decide) dX3_lackOf_34 ?_
      refine r_goto 4 dX3_lackOf_37 (by decide) ?_
      exact r_sub [0, 1, 2, 3] rfl (ih _ _ _)
theorem nc_X3_lackOf_17 (X : Xt) (hst : X.1.stackTraces = false) (ad : Ad) (σ : Wd) : NC X (fun a => a = ad) yX3_lackOf cX3_lackOf 4 (some (.int)) 1 22 vI (0, 0) ad σ [.ref (ad 12 0), .ref (ad 17 0)] (f_X3_lackOf_17 σ) := by
  unfold f_X3_lackOf_17
  refine NC.intro RX3 rfl hst (by decide) (Nat.le_of_ble_eq_true rfl) (lv := [(0, .ref _), (1, .ref _)]) rfl ?_
  refine r_iconst (0) (by decide) dX3_lackOf_0 ?_
  refine r_istore_n [(2, .int _), (0, .ref _), (1, .ref _)] rfl (by decide) dX3_lackOf_1 ?_
  refine r_iconst (0) (by decide) dX3_lackOf_2 ?_
  refine r_istore_n [(3, .int _), (2, .int _), (0, .ref _), (1, .ref _)] rfl (by decide) dX3_lackOf_3 ?_
  exact r_sub [0, 1, 2, 3] rfl ((bl_X3_lackOf_17_4 X hst ad FU) _ _ _)
def l_X3_homingOf_17_4 : Nat → Wd → Int32 → Int32 → Option ((Int32 ⊕ String) × Wd)
  | 0, _, _, _ => none
  | n + 1, σ, a3, a2 =>
  if (σ.1 12 0 7) ≤ a3 then
    some (.inl a2, σ)
  else
    bx (f_X3_at_17 σ a3 (-1 : Int32)) fun v1 σ2 =>
    if v1 = (-1 : Int32) then
      (l_X3_homingOf_17_4 n) σ2 (a3 + 1) a2
    else
      bx (f_X3_at_15 σ2 a3 (0 : Int32)) fun v3 σ4 =>
      bx (f_X3_has σ4 v3 v1) fun v5 σ6 =>
      if v5 = 0 then
        (l_X3_homingOf_17_4 n) σ6 (a3 + 1) a2
      else
        (l_X3_homingOf_17_4 n) σ6 (a3 + 1) (a2 + 1)
def f_X3_homingOf_17 (σ : Wd) : Option ((Int32 ⊕ String) × Wd) :=
  l_X3_homingOf_17_4 FU σ (0 : Int32) (0 : Int32)
theorem bl_X3_homingOf_17_4 (X : Xt) (hst : X.1.stackTraces = false) (ad : Ad) : ∀ (n : Nat) (σ : Wd) (a3 : Int32) (a2 : Int32), Bk X (fun a => a = ad) cX3_homingOf 5 RX3 (some (.int)) 1 22 vI (0, 0) (0, 0) ad σ 4 [(3, .int a3), (2, .int a2), (0, .ref (ad 12 0)), (1, .ref (ad 17 0))] [] (l_X3_homingOf_17_4 n σ a3 a2) := by
  intro n
  induction n with
  | zero => intros; exact r_none
  | succ n ih =>
  intro σ a3 a2
  rw [l_X3_homingOf_17_4]
  refine r_iload_n 0 rfl dX3_homingOf_4 ?_
  refine r_aload_n 2 rfl dX3_homingOf_5 ?_
  refine r_getf 7 (lvs_12 _) (cell_12 _ _ _ _) rfl (by decide) in_4 w_43 rfl dX3_homingOf_6 ?_
  refine r_icmp_ge 52 dX3_homingOf_9 (by decide) ?_ ?_
  · refine r_iload_n 1 rfl dX3_homingOf_52 ?_
    exact r_iret rfl rfl rfl dX3_homingOf_53
  · refine r_aload_n 3 rfl dX3_homingOf_12 ?_
    refine r_iload_n 0 rfl dX3_homingOf_13 ?_
    refine r_iconst (-1) (by decide) dX3_homingOf_14 ?_
    refine r_callS (n := 3) (As := [.ref _, .int _, .int _]) (nc_X3_at_17 X hst ad _ _ _) (fun _ h => h) rfl ⟨by decide, by decide, by decide +kernel⟩ w_48 w_49 w_50 w_51 rfl rfl (Nat.le_of_ble_eq_true rfl) ⟨by decide, by decide⟩ dX3_homingOf_15 (fun v1 σ2 => ?_)
    refine r_istore [(4, .int _), (3, .int _), (2, .int _), (0, .ref _), (1, .ref _)] rfl (by decide) dX3_homingOf_18 ?_
    refine r_iload 0 rfl dX3_homingOf_20 ?_
    refine r_iconst (-1) (by decide) dX3_homingOf_22 ?_
    refine r_icmp_eq 46 dX3_homingOf_23 (by decide) ?_ ?_
    · refine r_iinc (1) [(3, .int _), (4, .int _), (2, .int _), (0, .ref _), (1, .ref _)] 1 rfl (by decide) rfl (by decide) dX3_homingOf_46 ?_
      refine r_goto 4 dX3_homingOf_49 (by decide) ?_
      exact r_sub [0, 2, 3, 4] rfl (ih _ _ _)
    · refine r_aload_n 3 rfl dX3_homingOf_26 ?_
      refine r_getf 2 (lvs_12 _) (cell_12 _ _ _ _) rfl (by decide) in_4 w_46 rfl dX3_homingOf_27 ?_
      refine r_iload_n 1 rfl dX3_homingOf_30 ?_
      refine r_iconst (0) (by decide) dX3_homingOf_31 ?_
      refine r_callS (n := 3) (As := [.ref _, .int _, .int _]) (nc_X3_at_15 X hst ad _ _ _) (fun _ h => h) rfl ⟨by decide, by decide, by decide +kernel⟩ w_48 w_49 w_50 w_51 rfl rfl (Nat.le_of_ble_eq_true rfl) ⟨by decide, by decide⟩ dX3_homingOf_32 (fun v3 σ4 => ?_)
      refine r_iload 0 rfl dX3_homingOf_35 ?_
      refine r_callS (n := 2) (As := [.int _, .int _]) (nc_X3_has X hst ad _ _ _) (fun _ h => h) rfl ⟨by decide, by decide, by decide +kernel⟩ w_60 w_61 w_50 w_62 rfl rfl (Nat.le_of_ble_eq_true rfl) ⟨by decide, by decide⟩ dX3_homingOf_37 (fun v5 σ6 => ?_)
      refine r_if_eq 46 dX3_homingOf_40 (by decide) ?_ ?_
      · refine r_iinc (1) [(3, .int _), (4, .int _), (2, .int _), (0, .ref _), (1, .ref _)] 1 rfl (by decide) rfl (by decide) dX3_homingOf_46 ?_
        refine r_goto 4 dX3_homingOf_49 (by decide) ?_
        exact r_sub [0, 2, 3, 4] rfl (ih _ _ _)
      · refine r_iinc (1) [(2, .int _), (4, .int _), (3, .int _), (0, .ref _), (1, .ref _)] 2 rfl (by decide) rfl (by decide) dX3_homingOf_43 ?_
        refine r_iinc (1) [(3, .int _), (2, .int _), (4, .int _), (0, .ref _), (1, .ref _)] 2 rfl (by decide) rfl (by decide) dX3_homingOf_46 ?_
        refine r_goto 4 dX3_homingOf_49 (by decide) ?_
        exact r_sub [0, 1, 3, 4] rfl (ih _ _ _)
theorem nc_X3_homingOf_17 (X : Xt) (hst : X.1.stackTraces = false) (ad : Ad) (σ : Wd) : NC X (fun a => a = ad) yX3_homingOf cX3_homingOf 5 (some (.int)) 1 22 vI (0, 0) ad σ [.ref (ad 12 0), .ref (ad 17 0)] (f_X3_homingOf_17 σ) := by
  unfold f_X3_homingOf_17
  refine NC.intro RX3 rfl hst (by decide) (Nat.le_of_ble_eq_true rfl) (lv := [(0, .ref _), (1, .ref _)]) rfl ?_
  refine r_iconst (0) (by decide) dX3_homingOf_0 ?_
  refine r_istore_n [(2, .int _), (0, .ref _), (1, .ref _)] rfl (by decide) dX3_homingOf_1 ?_
  refine r_iconst (0) (by decide) dX3_homingOf_2 ?_
  refine r_istore_n [(3, .int _), (2, .int _), (0, .ref _), (1, .ref _)] rfl (by decide) dX3_homingOf_3 ?_
  exact r_sub [0, 1, 2, 3] rfl ((bl_X3_homingOf_17_4 X hst ad FU) _ _ _)
def l_X3_homingOf_16_4 : Nat → Wd → Int32 → Int32 → Option ((Int32 ⊕ String) × Wd)
  | 0, _, _, _ => none
  | n + 1, σ, a3, a2 =>
  if (σ.1 12 0 7) ≤ a3 then
    some (.inl a2, σ)
  else
    bx (f_X3_at_16 σ a3 (-1 : Int32)) fun v1 σ2 =>
    if v1 = (-1 : Int32) then
      (l_X3_homingOf_16_4 n) σ2 (a3 + 1) a2
    else
      bx (f_X3_at_15 σ2 a3 (0 : Int32)) fun v3 σ4 =>
      bx (f_X3_has σ4 v3 v1) fun v5 σ6 =>
      if v5 = 0 then
        (l_X3_homingOf_16_4 n) σ6 (a3 + 1) a2
      else
        (l_X3_homingOf_16_4 n) σ6 (a3 + 1) (a2 + 1)
def f_X3_homingOf_16 (σ : Wd) : Option ((Int32 ⊕ String) × Wd) :=
  l_X3_homingOf_16_4 FU σ (0 : Int32) (0 : Int32)
theorem bl_X3_homingOf_16_4 (X : Xt) (hst : X.1.stackTraces = false) (ad : Ad) : ∀ (n : Nat) (σ : Wd) (a3 : Int32) (a2 : Int32), Bk X (fun a => a = ad) cX3_homingOf 5 RX3 (some (.int)) 1 22 vI (0, 0) (0, 0) ad σ 4 [(3, .int a3), (2, .int a2), (0, .ref (ad 12 0)), (1, .ref (ad 16 0))] [] (l_X3_homingOf_16_4 n σ a3 a2) := by
  intro n
  induction n with
  | zero => intros; exact r_none
  | succ n ih =>
  intro σ a3 a2
  rw [l_X3_homingOf_16_4]
  refine r_iload_n 0 rfl dX3_homingOf_4 ?_
  refine r_aload_n 2 rfl dX3_homingOf_5 ?_
  refine r_getf 7 (lvs_12 _) (cell_12 _ _ _ _) rfl (by decide) in_4 w_43 rfl dX3_homingOf_6 ?_
  refine r_icmp_ge 52 dX3_homingOf_9 (by decide) ?_ ?_
  · refine r_iload_n 1 rfl dX3_homingOf_52 ?_
    exact r_iret rfl rfl rfl dX3_homingOf_53
  · refine r_aload_n 3 rfl dX3_homingOf_12 ?_
    refine r_iload_n 0 rfl dX3_homingOf_13 ?_
    refine r_iconst (-1) (by decide) dX3_homingOf_14 ?_
    refine r_callS (n := 3) (As := [.ref _, .int _, .int _]) (nc_X3_at_16 X hst ad _ _ _) (fun _ h => h) rfl ⟨by decide, by decide, by decide +kernel⟩ w_48 w_49 w_50 w_51 rfl rfl (Nat.le_of_ble_eq_true rfl) ⟨by decide, by decide⟩ dX3_homingOf_15 (fun v1 σ2 => ?_)
    refine r_istore [(4, .int _), (3, .int _), (2, .int _), (0, .ref _), (1, .ref _)] rfl (by decide) dX3_homingOf_18 ?_
    refine r_iload 0 rfl dX3_homingOf_20 ?_
    refine r_iconst (-1) (by decide) dX3_homingOf_22 ?_
    refine r_icmp_eq 46 dX3_homingOf_23 (by decide) ?_ ?_
    · refine r_iinc (1) [(3, .int _), (4, .int _), (2, .int _), (0, .ref _), (1, .ref _)] 1 rfl (by decide) rfl (by decide) dX3_homingOf_46 ?_
      refine r_goto 4 dX3_homingOf_49 (by decide) ?_
      exact r_sub [0, 2, 3, 4] rfl (ih _ _ _)
    · refine r_aload_n 3 rfl dX3_homingOf_26 ?_
      refine r_getf 2 (lvs_12 _) (cell_12 _ _ _ _) rfl (by decide) in_4 w_46 rfl dX3_homingOf_27 ?_
      refine r_iload_n 1 rfl dX3_homingOf_30 ?_
      refine r_iconst (0) (by decide) dX3_homingOf_31 ?_
      refine r_callS (n := 3) (As := [.ref _, .int _, .int _]) (nc_X3_at_15 X hst ad _ _ _) (fun _ h => h) rfl ⟨by decide, by decide, by decide +kernel⟩ w_48 w_49 w_50 w_51 rfl rfl (Nat.le_of_ble_eq_true rfl) ⟨by decide, by decide⟩ dX3_homingOf_32 (fun v3 σ4 => ?_)
      refine r_iload 0 rfl dX3_homingOf_35 ?_
      refine r_callS (n := 2) (As := [.int _, .int _]) (nc_X3_has X hst ad _ _ _) (fun _ h => h) rfl ⟨by decide, by decide, by decide +kernel⟩ w_60 w_61 w_50 w_62 rfl rfl (Nat.le_of_ble_eq_true rfl) ⟨by decide, by decide⟩ dX3_homingOf_37 (fun v5 σ6 => ?_)
      refine r_if_eq 46 dX3_homingOf_40 (by decide) ?_ ?_
      · refine r_iinc (1) [(3, .int _), (4, .int _), (2, .int _), (0, .ref _), (1, .ref _)] 1 rfl (by decide) rfl (by decide) dX3_homingOf_46 ?_
        refine r_goto 4 dX3_homingOf_49 (by decide) ?_
        exact r_sub [0, 2, 3, 4] rfl (ih _ _ _)
      · refine r_iinc (1) [(2, .int _), (4, .int _), (3, .int _), (0, .ref _), (1, .ref _)] 2 rfl (by decide) rfl (by decide) dX3_homingOf_43 ?_
        refine r_iinc (1) [(3, .int _), (2, .int _), (4, .int _), (0, .ref _), (1, .ref _)] 2 rfl (by decide) rfl (by decide) dX3_homingOf_46 ?_
        refine r_goto 4 dX3_homingOf_49 (by decide) ?_
        exact r_sub [0, 1, 3, 4] rfl (ih _ _ _)
theorem nc_X3_homingOf_16 (X : Xt) (hst : X.1.stackTraces = false) (ad : Ad) (σ : Wd) : NC X (fun a => a = ad) yX3_homingOf cX3_homingOf 5 (some (.int)) 1 22 vI (0, 0) ad σ [.ref (ad 12 0), .ref (ad 16 0)] (f_X3_homingOf_16 σ) := by
  unfold f_X3_homingOf_16
  refine NC.intro RX3 rfl hst (by decide) (Nat.le_of_ble_eq_true rfl) (lv := [(0, .ref _), (1, .ref _)]) rfl ?_
  refine r_iconst (0) (by decide) dX3_homingOf_0 ?_
  refine r_istore_n [(2, .int _), (0, .ref _), (1, .ref _)] rfl (by decide) dX3_homingOf_1 ?_
  refine r_iconst (0) (by decide) dX3_homingOf_2 ?_
  refine r_istore_n [(3, .int _), (2, .int _), (0, .ref _), (1, .ref _)] rfl (by decide) dX3_homingOf_3 ?_
  exact r_sub [0, 1, 2, 3] rfl ((bl_X3_homingOf_16_4 X hst ad FU) _ _ _)
def f_X3_trialIsBetter (σ : Wd) : Option ((Int32 ⊕ String) × Wd) :=
  bx (f_X3_lackOf_17 σ) fun v1 σ2 =>
  bx (f_X3_lackOf_16 σ2) fun v3 σ4 =>
  if v1 < v3 then
    some (.inl (1 : Int32), σ4)
  else
    if v1 = v3 then
      bx (f_X3_homingOf_17 σ4) fun v5 σ6 =>
      bx (f_X3_homingOf_16 σ6) fun v7 σ8 =>
      if v5 ≤ v7 then
        some (.inl (0 : Int32), σ8)
      else
        some (.inl (1 : Int32), σ8)
    else
      some (.inl (0 : Int32), σ4)
theorem nc_X3_trialIsBetter (X : Xt) (hst : X.1.stackTraces = false) (ad : Ad) (σ : Wd) : NC X (fun a => a = ad) yX3_trialIsBetter cX3_trialIsBetter 3 (some (.boolean)) 2 46 vI (0, 0) ad σ [.ref (ad 12 0)] (f_X3_trialIsBetter σ) := by
  unfold f_X3_trialIsBetter
  refine NC.intro RX3 rfl hst (by decide) (Nat.le_of_ble_eq_true rfl) (lv := [(0, .ref _)]) rfl ?_
  refine r_aload_n 0 rfl dX3_trialIsBetter_0 ?_
  refine r_aload_n 0 rfl dX3_trialIsBetter_1 ?_
  refine r_getf 4 (lvs_12 _) (cell_12 _ _ _ _) rfl (by decide) in_4 w_82 rfl dX3_trialIsBetter_2 ?_
  refine r_callV (n := 1) (As := [.ref _]) (cell_12 _ _ _ _) (lvs_12 _) rfl (nc_X3_lackOf_17 X hst ad _) (fun _ h => h) rfl ⟨rfl, by decide, by decide, by decide +kernel⟩ w_52 w_53 w_54 w_50 w_55 rfl rfl (Nat.le_of_ble_eq_true rfl) ⟨by decide, by decide⟩ dX3_trialIsBetter_5 (fun v1 σ2 => ?_)
  refine r_istore_n [(1, .int _), (0, .ref _)] rfl (by decide) dX3_trialIsBetter_8 ?_
  refine r_aload_n 1 rfl dX3_trialIsBetter_9 ?_
  refine r_aload_n 1 rfl dX3_trialIsBetter_10 ?_
  refine r_getf 3 (lvs_12 _) (cell_12 _ _ _ _) rfl (by decide) in_4 w_47 rfl dX3_trialIsBetter_11 ?_
  refine r_callV (n := 1) (As := [.ref _]) (cell_12 _ _ _ _) (lvs_12 _) rfl (nc_X3_lackOf_16 X hst ad _) (fun _ h => h) rfl ⟨rfl, by decide, by decide, by decide +kernel⟩ w_52 w_53 w_54 w_50 w_55 rfl rfl (Nat.le_of_ble_eq_true rfl) ⟨by decide, by decide⟩ dX3_trialIsBetter_14 (fun v3 σ4 => ?_)
  refine r_istore_n [(2, .int _), (1, .int _), (0, .ref _)] rfl (by decide) dX3_trialIsBetter_17 ?_
  refine r_iload_n 1 rfl dX3_trialIsBetter_18 ?_
  refine r_iload_n 0 rfl dX3_trialIsBetter_19 ?_
  refine r_icmp_lt 47 dX3_trialIsBetter_20 (by decide) ?_ ?_
  · refine r_iconst (1) (by decide) dX3_trialIsBetter_47 ?_
    refine r_goto 52 dX3_trialIsBetter_48 (by decide) ?_
    exact r_zret rfl rfl rfl rfl dX3_trialIsBetter_52
  · refine r_iload_n 1 rfl dX3_trialIsBetter_23 ?_
    refine r_iload_n 0 rfl dX3_trialIsBetter_24 ?_
    refine r_icmp_ne 51 dX3_trialIsBetter_25 (by decide) ?_ ?_
    · refine r_aload_n 2 rfl dX3_trialIsBetter_28 ?_
      refine r_aload_n 2 rfl dX3_trialIsBetter_29 ?_
      refine r_getf 4 (lvs_12 _) (cell_12 _ _ _ _) rfl (by decide) in_4 w_82 rfl dX3_trialIsBetter_30 ?_
      refine r_callV (n := 1) (As := [.ref _]) (cell_12 _ _ _ _) (lvs_12 _) rfl (nc_X3_homingOf_17 X hst ad _) (fun _ h => h) rfl ⟨rfl, by decide, by decide, by decide +kernel⟩ w_87 w_88 w_89 w_50 w_90 rfl rfl (Nat.le_of_ble_eq_true rfl) ⟨by decide, by decide⟩ dX3_trialIsBetter_33 (fun v5 σ6 => ?_)
      refine r_aload_n 2 rfl dX3_trialIsBetter_36 ?_
      refine r_aload_n 2 rfl dX3_trialIsBetter_37 ?_
      refine r_getf 3 (lvs_12 _) (cell_12 _ _ _ _) rfl (by decide) in_4 w_47 rfl dX3_trialIsBetter_38 ?_
      refine r_callV (n := 1) (As := [.ref _]) (cell_12 _ _ _ _) (lvs_12 _) rfl (nc_X3_homingOf_16 X hst ad _) (fun _ h => h) rfl ⟨rfl, by decide, by decide, by decide +kernel⟩ w_87 w_88 w_89 w_50 w_90 rfl rfl (Nat.le_of_ble_eq_true rfl) ⟨by decide, by decide⟩ dX3_trialIsBetter_41 (fun v7 σ8 => ?_)
      refine r_icmp_le 51 dX3_trialIsBetter_44 (by decide) ?_ ?_
      · refine r_iconst (0) (by decide) dX3_trialIsBetter_51 ?_
        exact r_zret rfl rfl rfl rfl dX3_trialIsBetter_52
      · refine r_iconst (1) (by decide) dX3_trialIsBetter_47 ?_
        refine r_goto 52 dX3_trialIsBetter_48 (by decide) ?_
        exact r_zret rfl rfl rfl rfl dX3_trialIsBetter_52
    · refine r_iconst (0) (by decide) dX3_trialIsBetter_51 ?_
      exact r_zret rfl rfl rfl rfl dX3_trialIsBetter_52
