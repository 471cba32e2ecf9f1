theorem w_479 : Cond.constant RX9 65 (1000000) ∈ G_ := gt2 35 (by decide +kernel) (by decide +kernel)
theorem w_480 : Cond.instantiable RX8 7 ∈ G_ := gt2 76 (by decide +kernel) (by decide +kernel)
theorem w_481 : Cond.methodLink RX9 83 yX8_init ∈ G_ := gt2 77 (by decide +kernel) (by decide +kernel)
theorem w_482 : Cond.instanceMethod yX8_init ∈ G_ := gt2 78 (by decide +kernel) (by decide +kernel)
theorem w_483 : Cond.code yX8_init cX8_init 3 none ∈ G_ := gt2 79 (by decide +kernel) (by decide +kernel)
theorem w_484 : Cond.castable "Stablingroad$Unit" "java/lang/Object" ∈ NW_ := nt4 198 (by decide +kernel) (by decide +kernel)
theorem w_485 : Cond.methodLink RX9 86 yJx4a65c_add_9ea2d ∈ G_ := gt2 112 (by decide +kernel) (by decide +kernel)
theorem w_486 : Cond.instanceMethod yJx4a65c_add_9ea2d ∈ G_ := gt2 113 (by decide +kernel) (by decide +kernel)
theorem w_487 : Cond.selects RJx4a65c yJx4a65c_add_9ea2d yJx4a65c_add_9ea2d ∈ G_ := gt2 114 (by decide +kernel) (by decide +kernel)
theorem w_488 : Cond.code yJx4a65c_add_9ea2d cJx4a65c_add_9ea2d 2 (some (.boolean)) ∈ G_ := gt2 115 (by decide +kernel) (by decide +kernel)
theorem w_489 : Cond.instantiable RX0 6 ∈ G_ := gt2 187 (by decide +kernel) (by decide +kernel)
theorem w_490 : Cond.methodLink RX9 101 yX0_init ∈ G_ := gt2 188 (by decide +kernel) (by decide +kernel)
theorem w_491 : Cond.instanceMethod yX0_init ∈ G_ := gt2 189 (by decide +kernel) (by decide +kernel)
theorem w_492 : Cond.code yX0_init cX0_init 6 none ∈ G_ := gt2 190 (by decide +kernel) (by decide +kernel)
theorem w_493 : Cond.castable "Stablingroad$Diagram" "java/lang/Object" ∈ NW_ := nt4 199 (by decide +kernel) (by decide +kernel)
theorem w_494 : Cond.classLink RX9 142 "Stablingroad$Fault" ∈ G_ := gt4 60 (by decide +kernel) (by decide +kernel)
theorem w_495 : Cond.instantiable RX2 4 ∈ G_ := gt4 61 (by decide +kernel) (by decide +kernel)
theorem w_496 : Cond.methodLink RX9 144 yX2_init ∈ G_ := gt4 62 (by decide +kernel) (by decide +kernel)
theorem w_497 : Cond.instanceMethod yX2_init ∈ G_ := gt4 63 (by decide +kernel) (by decide +kernel)
theorem w_498 : Cond.code yX2_init cX2_init 5 none ∈ G_ := gt4 64 (by decide +kernel) (by decide +kernel)
def f_X9_unit (σ : Wd) (p0 : Int32) (p1 : Int32) : Option ((Int32 ⊕ String) × Wd) :=
  bx (f_X9_rowAt σ p0) fun v1 σ2 =>
  bx (f_X9_checkRange σ2 p1 (0 : Int32) (1000000 : Int32)) fun v3 σ4 =>
  bx (f_Jx4a65c_size_8abf5 σ4 0) fun v5 σ6 =>
  if v5 < (6 : Int32) then
    gd (v1 < 3) <|
    gd (okU σ6 = true) <|
    nx <| bd (nuU σ6 p0 p1) fun σ7 =>
    gd ((σ6.2.2 8) < σ7.2.2 8) <|
    gd ((σ7.2.2 (20 + 0) = 0 ∧ σ7.1 1 0 2 = 0) ∨ (σ7.2.2 (20 + 0) ≠ 0 ∧ ¬ σ7.1 1 0 2 = 10 ∧ inb (σ7.1 1 0 2) 10)) <|
    nx <| bd (wadd σ7 0 (σ6.2.2 8)) fun σ8 =>
    nx <| bx (f_X6_come σ8 v1 v5) fun v9 σ10 =>
    some (.inl v5, σ10)
  else
    some (.inr "java/lang/IllegalStateException", σ6)
theorem nc_X9_unit (X : Xt) (hst : X.1.stackTraces = false) (ad : Ad) (σ : Wd) (p0 : Int32) (p1 : Int32) : NC X (Fx ad) yX9_unit cX9_unit 5 (some (.int)) 7 104 vI (6, 30) ad σ [.ref (ad 0 0), .int p0, .int p1] (f_X9_unit σ p0 p1) := by
  unfold f_X9_unit
  refine NC.intro RX9 rfl hst (by decide) (Nat.le_of_ble_eq_true rfl) (lv := [(0, .ref _), (1, .int _), (2, .int _)]) rfl ?_
  refine r_aload_n 0 rfl dX9_unit_0 ?_
  refine r_iload_n 1 rfl dX9_unit_1 ?_
  refine r_callV (n := 1) (As := [.int _]) (cell_0 _ _ _ _) (lvs_0 _) rfl (nc_X9_rowAt X hst ad _ _) (fun _ h => h) (Fx.rf _) ⟨rfl, by decide, by decide, by decide +kernel⟩ w_324 w_325 w_326 w_203 w_327 rfl rfl (Nat.le_of_ble_eq_true rfl) ⟨by decide, by decide⟩ dX9_unit_2 (fun v1 σ2 => ?_)
  refine r_astore_n [(3, .ref _), (0, .ref _), (1, .int _), (2, .int _)] rfl (by decide) dX9_unit_5 ?_
  refine r_iload_n 3 rfl dX9_unit_6 ?_
  refine r_iconst (0) (by decide) dX9_unit_7 ?_
  refine r_ldc (1000000) w_479 dX9_unit_8 ?_
  refine r_callS (n := 3) (As := [.int _, .int _, .int _]) (nc_X9_checkRange X hst ad _ _ _ _) (fun _ h => h) (Fx.rf _) ⟨by decide, by decide, by decide +kernel⟩ w_201 w_202 w_203 w_204 rfl rfl (Nat.le_of_ble_eq_true rfl) ⟨by decide, by decide⟩ dX9_unit_10 (fun v3 σ4 => ?_)
  refine r_aload_n 1 rfl dX9_unit_13 ?_
  refine r_getf 0 (lvs_0 _) (cell_0 _ _ _ _) rfl (by decide) in_10 w_225 rfl dX9_unit_14 ?_
  refine r_callV (n := 0) (As := []) (cell_1 _ _ _ _) (lvl_0 _) rfl (nc_Jx4a65c_size_8abf5 X hst ad _ _) (fun _ h => h) (Fx.rf _) ⟨rfl, by decide, by decide, by decide +kernel⟩ w_217 w_140 w_141 w_104 w_142 rfl rfl (Nat.le_of_ble_eq_true rfl) ⟨by decide, by decide⟩ dX9_unit_17 (fun v5 σ6 => ?_)
  refine r_istore [(4, .int _), (3, .ref _), (0, .ref _), (1, .int _), (2, .int _)] rfl (by decide) dX9_unit_20 ?_
  refine r_iload 0 rfl dX9_unit_22 ?_
  refine r_bipush (6) (by decide) dX9_unit_24 ?_
  refine r_icmp_lt 39 dX9_unit_26 (by decide) ?_ ?_
  · refine r_aload_n 2 rfl dX9_unit_39 ?_
    refine r_getf 0 (lvs_0 _) (cell_0 _ _ _ _) rfl (by decide) in_10 w_225 rfl dX9_unit_40 ?_
    refine r_gd (fun h1 => ?_)
    refine r_gd (fun h2 => ?_)
    refine r_newU (k1 := 3) (k2 := 4) hst rfl rfl w_229 w_480 w_27 w_481 w_482 w_483 (okU_at h2) ⟨_, _, lvs_0 _⟩ (Nat.le_of_ble_eq_true rfl) (Nat.le_of_ble_eq_true rfl) (Nat.le_of_ble_eq_true rfl) ⟨by decide, by decide⟩ dX9_unit_43 dX9_unit_46 dX9_unit_47 dX9_unit_48 dX9_unit_49 (5, 20) rfl (fun a1 hla1 hFa1 => ?_)
    rw [← hla1 5 v1 (lvb_5 h1), ← hla1 0 0 (lvs_0 _), ← hla1 1 0 (lvl_0 _)]
    refine r_bd ?_
    refine r_gd (fun h3 => ?_)
    refine r_gd (fun h4 => ?_)
    refine r_add (li := 0) hst (by decide) (lvl_0 _) (lvd_21 h3) (cell_21 _ _ _ _) rfl w_484 h4 w_485 w_486 w_487 w_104 w_488 (Nat.le_of_ble_eq_true rfl) ⟨by decide, by decide⟩ ⟨by decide, by decide⟩ dX9_unit_52 (6, 30) rfl (fun a2 hla2 hFa2 => ?_)
    rw [← hla2 5 v1 (lvb_5 h1), ← hla2 0 0 (lvs_0 _)]
    refine r_bd ?_
    refine r_pop rfl dX9_unit_55 ?_
    refine r_aload_n 1 rfl dX9_unit_56 ?_
    refine r_iload 0 rfl dX9_unit_57 ?_
    refine r_callVN (n := 1) (As := [.int _]) (cell_5 _ _ _ _) (lvb_5 h1) rfl (nc_X6_come X hst a2 _ _ _) (fun _ h => h) ⟨by decide, by decide⟩ ⟨rfl, by decide, by decide, by decide +kernel⟩ w_347 w_348 w_349 w_332 w_350 rfl rfl (Nat.le_of_ble_eq_true rfl) ⟨by decide, by decide⟩ dX9_unit_59 (fun v9 σ10 => ?_)
    refine r_iload 0 rfl dX9_unit_62 ?_
    exact r_iret (kc := (6, 30)) rfl rfl (hFa1.tr hFa2) dX9_unit_64
  · exact r_throw (text := "there are 6 units") at_4 (by decide +kernel) (Fx.rf _) dX9_unit_29 dX9_unit_32 dX9_unit_33 dX9_unit_35 dX9_unit_38 (by decide) (Nat.le_of_ble_eq_true rfl)
def f_X9_diagram (σ : Wd) (p0 : Int32) (p1 : Int32) (p2 : Int32) (p3 : Int32) (p4 : Int32) : Option ((Int32 ⊕ String) × Wd) :=
  bx (f_X9_checkNumber σ p0 (3 : Int32)) fun v1 σ2 =>
  bx (f_X9_checkNumber σ2 p1 (3 : Int32)) fun v3 σ4 =>
  bx (f_X9_checkRange σ4 p2 (1 : Int32) (2000 : Int32)) fun v5 σ6 =>
  bx (f_X9_checkRange σ6 p3 (0 : Int32) (2 : Int32)) fun v7 σ8 =>
  bx (f_X9_checkRange σ8 p4 (1 : Int32) (100 : Int32)) fun v9 σ10 =>
  bx (f_Jx4a65c_size_8abf5 σ10 1) fun v11 σ12 =>
  if v11 < (6 : Int32) then
    gd (okO σ12 25 9 = true) <|
    nx <| bd (nuO σ12 25 9) fun σ13 =>
    gd ((σ12.2.2 9) < σ13.2.2 9) <|
    nx <| bd (stO σ13 25 (σ12.2.2 9) (vsO [p0, p1, p2, p3, p4, (-1 : Int32)])) fun σ14 =>
    gd ((σ14.2.2 (20 + 1) = 0 ∧ σ14.1 1 1 2 = 0) ∨ (σ14.2.2 (20 + 1) ≠ 0 ∧ ¬ σ14.1 1 1 2 = 10 ∧ inb (σ14.1 1 1 2) 10)) <|
    nx <| bd (wadd σ14 1 (σ12.2.2 9)) fun σ15 =>
    some (.inl v11, σ15)
  else
    some (.inr "java/lang/IllegalStateException", σ12)
theorem nc_X9_diagram (X : Xt) (hst : X.1.stackTraces = false) (ad : Ad) (σ : Wd) (p0 : Int32) (p1 : Int32) (p2 : Int32) (p3 : Int32) (p4 : Int32) : NC X (Fx ad) yX9_diagram cX9_diagram 7 (some (.int)) 7 104 vI (2, 16) ad σ [.ref (ad 0 0), .int p0, .int p1, .int p2, .int p3, .int p4] (f_X9_diagram σ p0 p1 p2 p3 p4) := by
  unfold f_X9_diagram
  refine NC.intro RX9 rfl hst (by decide) (Nat.le_of_ble_eq_true rfl) (lv := [(0, .ref _), (1, .int _), (2, .int _), (3, .int _), (4, .int _), (5, .int _)]) rfl ?_
  refine r_iload_n 1 rfl dX9_diagram_0 ?_
  refine r_iconst (3) (by decide) dX9_diagram_1 ?_
  refine r_callS (n := 2) (As := [.int _, .int _]) (nc_X9_checkNumber X hst ad _ _ _) (fun _ h => h) (Fx.rf _) ⟨by decide, by decide, by decide +kernel⟩ w_226 w_227 w_203 w_228 rfl rfl (Nat.le_of_ble_eq_true rfl) ⟨by decide, by decide⟩ dX9_diagram_2 (fun v1 σ2 => ?_)
  refine r_iload_n 2 rfl dX9_diagram_5 ?_
  refine r_iconst (3) (by decide) dX9_diagram_6 ?_
  refine r_callS (n := 2) (As := [.int _, .int _]) (nc_X9_checkNumber X hst ad _ _ _) (fun _ h => h) (Fx.rf _) ⟨by decide, by decide, by decide +kernel⟩ w_226 w_227 w_203 w_228 rfl rfl (Nat.le_of_ble_eq_true rfl) ⟨by decide, by decide⟩ dX9_diagram_7 (fun v3 σ4 => ?_)
  refine r_iload_n 3 rfl dX9_diagram_10 ?_
  refine r_iconst (1) (by decide) dX9_diagram_11 ?_
  refine r_sipush (2000) (by decide) dX9_diagram_12 ?_
  refine r_callS (n := 3) (As := [.int _, .int _, .int _]) (nc_X9_checkRange X hst ad _ _ _ _) (fun _ h => h) (Fx.rf _) ⟨by decide, by decide, by decide +kernel⟩ w_201 w_202 w_203 w_204 rfl rfl (Nat.le_of_ble_eq_true rfl) ⟨by decide, by decide⟩ dX9_diagram_15 (fun v5 σ6 => ?_)
  refine r_iload 4 rfl dX9_diagram_18 ?_
  refine r_iconst (0) (by decide) dX9_diagram_20 ?_
  refine r_iconst (2) (by decide) dX9_diagram_21 ?_
  refine r_callS (n := 3) (As := [.int _, .int _, .int _]) (nc_X9_checkRange X hst ad _ _ _ _) (fun _ h => h) (Fx.rf _) ⟨by decide, by decide, by decide +kernel⟩ w_201 w_202 w_203 w_204 rfl rfl (Nat.le_of_ble_eq_true rfl) ⟨by decide, by decide⟩ dX9_diagram_22 (fun v7 σ8 => ?_)
  refine r_iload 5 rfl dX9_diagram_25 ?_
  refine r_iconst (1) (by decide) dX9_diagram_27 ?_
  refine r_bipush (100) (by decide) dX9_diagram_28 ?_
  refine r_callS (n := 3) (As := [.int _, .int _, .int _]) (nc_X9_checkRange X hst ad _ _ _ _) (fun _ h => h) (Fx.rf _) ⟨by decide, by decide, by decide +kernel⟩ w_201 w_202 w_203 w_204 rfl rfl (Nat.le_of_ble_eq_true rfl) ⟨by decide, by decide⟩ dX9_diagram_30 (fun v9 σ10 => ?_)
  refine r_aload_n 0 rfl dX9_diagram_33 ?_
  refine r_getf 1 (lvs_0 _) (cell_0 _ _ _ _) rfl (by decide) in_10 w_216 rfl dX9_diagram_34 ?_
  refine r_callV (n := 0) (As := []) (cell_1 _ _ _ _) (lvl_1 _) rfl (nc_Jx4a65c_size_8abf5 X hst ad _ _) (fun _ h => h) (Fx.rf _) ⟨rfl, by decide, by decide, by decide +kernel⟩ w_217 w_140 w_141 w_104 w_142 rfl rfl (Nat.le_of_ble_eq_true rfl) ⟨by decide, by decide⟩ dX9_diagram_37 (fun v11 σ12 => ?_)
  refine r_istore [(6, .int _), (0, .ref _), (1, .int _), (2, .int _), (3, .int _), (4, .int _), (5, .int _)] rfl (by decide) dX9_diagram_40 ?_
  refine r_iload 0 rfl dX9_diagram_42 ?_
  refine r_bipush (6) (by decide) dX9_diagram_44 ?_
  refine r_icmp_lt 59 dX9_diagram_46 (by decide) ?_ ?_
  · refine r_aload_n 1 rfl dX9_diagram_59 ?_
    refine r_getf 1 (lvs_0 _) (cell_0 _ _ _ _) rfl (by decide) in_10 w_216 rfl dX9_diagram_60 ?_
    refine r_gd (fun h1 => ?_)
    refine r_newO tyX0 tyX0_ok (Or.inl ⟨rfl, rfl⟩) rfl in_1 w_219 w_489 w_290 (fun _ => nuc_25 _ _ _) (by decide) (okO_at h1) ⟨_, _, lvs_0 _⟩ (by decide) (by decide) dX9_diagram_63 (1, 6) rfl (fun a1 hla1 hFa1 => ?_)
    rw [← hla1 0 0 (lvs_0 _), ← hla1 1 1 (lvl_1 _)]
    refine r_bd ?_
    refine r_dup rfl dX9_diagram_66 ?_
    refine r_iload_n 2 rfl dX9_diagram_67 ?_
    refine r_iload_n 3 rfl dX9_diagram_68 ?_
    refine r_iload_n 4 rfl dX9_diagram_69 ?_
    refine r_iload 5 rfl dX9_diagram_70 ?_
    refine r_iload 6 rfl dX9_diagram_72 ?_
    refine r_gd (fun h2 => ?_)
    refine r_ctorO (n := 5) (As := [.int _, .int _, .int _, .int _, .int _]) (lvd_25 h2) (nuc_25 _ _ _) (ci_X0_init X hst _ _ _ _ _ _) (stc_25 _ _ _ _ _ _ _ _ _ _) ⟨by decide, by decide, by decide +kernel⟩ rfl w_490 w_491 w_290 w_492 rfl rfl (Nat.le_of_ble_eq_true rfl) ⟨by decide, by decide⟩ ⟨by decide, by decide⟩ dX9_diagram_74 ?_
    refine r_bd ?_
    refine r_gd (fun h3 => ?_)
    refine r_add (li := 1) hst (by decide) (lvl_1 _) (lvd_25 h2) (cell_25 _ _ _ _) rfl w_493 h3 w_485 w_486 w_487 w_104 w_488 (Nat.le_of_ble_eq_true rfl) ⟨by decide, by decide⟩ ⟨by decide, by decide⟩ dX9_diagram_77 (2, 16) rfl (fun a2 hla2 hFa2 => ?_)
    rw [← hla2 0 0 (lvs_0 _)]
    refine r_bd ?_
    refine r_pop rfl dX9_diagram_80 ?_
    refine r_iload 0 rfl dX9_diagram_81 ?_
    exact r_iret (kc := (2, 16)) rfl rfl (hFa1.tr hFa2) dX9_diagram_83
  · exact r_throw (text := "there are 6 diagrams") at_4 (by decide +kernel) (Fx.rf _) dX9_diagram_49 dX9_diagram_52 dX9_diagram_53 dX9_diagram_55 dX9_diagram_58 (by decide) (Nat.le_of_ble_eq_true rfl)
def j_X9_fault_84 (σ : Wd) (a7 : Int32) (a6 : Int32) (ua5 : Nat) (a1 : Int32) (a2 : Int32) (a3 : Int32) (a4 : Int32) : Option ((Int32 ⊕ String) × Wd) :=
  gd (ua5 < σ.2.2 8) <|
  bx (f_Jx4a65c_size_8abf5 σ (ua5 + 2)) fun v5 σ6 =>
  if v5 < (8 : Int32) then
    gd (ua5 < σ6.2.2 8) <|
    gd (okO σ6 26 10 = true) <|
    nx <| bd (nuO σ6 26 10) fun σ7 =>
    if a6 = 0 then
      if a7 = 0 then
        gd ((σ6.2.2 10) < σ7.2.2 10) <|
        nx <| bd (stO σ7 26 (σ6.2.2 10) (vsO [a2, (σ7.1 0 0 6), (-1 : Int32), (-1 : Int32)])) fun σ8 =>
        gd (ua5 < σ8.2.2 8) <|
        gd ((ua5 + 2) < 8) <|
        gd ((σ8.2.2 (20 + (ua5 + 2)) = 0 ∧ σ8.1 1 (ua5 + 2) 2 = 0) ∨ (σ8.2.2 (20 + (ua5 + 2)) ≠ 0 ∧ ¬ σ8.1 1 (ua5 + 2) 2 = 10 ∧ inb (σ8.1 1 (ua5 + 2) 2) 10)) <|
        nx <| bd (wadd σ8 (ua5 + 2) (σ6.2.2 10)) fun σ9 =>
        gd (ua5 < σ9.2.2 8) <|
        nx <| bx (f_Jx4a65c_size_8abf5 σ9 (ua5 + 2)) fun v10 σ11 =>
        some (.inl v10, σ11)
      else
        gd ((σ6.2.2 10) < σ7.2.2 10) <|
        nx <| bd (stO σ7 26 (σ6.2.2 10) (vsO [a2, (σ7.1 0 0 6), (-1 : Int32), a4])) fun σ12 =>
        gd (ua5 < σ12.2.2 8) <|
        gd ((ua5 + 2) < 8) <|
        gd ((σ12.2.2 (20 + (ua5 + 2)) = 0 ∧ σ12.1 1 (ua5 + 2) 2 = 0) ∨ (σ12.2.2 (20 + (ua5 + 2)) ≠ 0 ∧ ¬ σ12.1 1 (ua5 + 2) 2 = 10 ∧ inb (σ12.1 1 (ua5 + 2) 2) 10)) <|
        nx <| bd (wadd σ12 (ua5 + 2) (σ6.2.2 10)) fun σ13 =>
        gd (ua5 < σ13.2.2 8) <|
        nx <| bx (f_Jx4a65c_size_8abf5 σ13 (ua5 + 2)) fun v14 σ15 =>
        some (.inl v14, σ15)
    else
      if a7 = 0 then
        gd ((σ6.2.2 10) < σ7.2.2 10) <|
        nx <| bd (stO σ7 26 (σ6.2.2 10) (vsO [a2, (σ7.1 0 0 6), a3, (-1 : Int32)])) fun σ16 =>
        gd (ua5 < σ16.2.2 8) <|
        gd ((ua5 + 2) < 8) <|
        gd ((σ16.2.2 (20 + (ua5 + 2)) = 0 ∧ σ16.1 1 (ua5 + 2) 2 = 0) ∨ (σ16.2.2 (20 + (ua5 + 2)) ≠ 0 ∧ ¬ σ16.1 1 (ua5 + 2) 2 = 10 ∧ inb (σ16.1 1 (ua5 + 2) 2) 10)) <|
        nx <| bd (wadd σ16 (ua5 + 2) (σ6.2.2 10)) fun σ17 =>
        gd (ua5 < σ17.2.2 8) <|
        nx <| bx (f_Jx4a65c_size_8abf5 σ17 (ua5 + 2)) fun v18 σ19 =>
        some (.inl v18, σ19)
      else
        gd ((σ6.2.2 10) < σ7.2.2 10) <|
        nx <| bd (stO σ7 26 (σ6.2.2 10) (vsO [a2, (σ7.1 0 0 6), a3, a4])) fun σ20 =>
        gd (ua5 < σ20.2.2 8) <|
        gd ((ua5 + 2) < 8) <|
        gd ((σ20.2.2 (20 + (ua5 + 2)) = 0 ∧ σ20.1 1 (ua5 + 2) 2 = 0) ∨ (σ20.2.2 (20 + (ua5 + 2)) ≠ 0 ∧ ¬ σ20.1 1 (ua5 + 2) 2 = 10 ∧ inb (σ20.1 1 (ua5 + 2) 2) 10)) <|
        nx <| bd (wadd σ20 (ua5 + 2) (σ6.2.2 10)) fun σ21 =>
        gd (ua5 < σ21.2.2 8) <|
        nx <| bx (f_Jx4a65c_size_8abf5 σ21 (ua5 + 2)) fun v22 σ23 =>
        some (.inl v22, σ23)
  else
    some (.inr "java/lang/IllegalStateException", σ6)
def j_X9_fault_81 (σ : Wd) (a7 : Int32) (a6 : Int32) (ua5 : Nat) (a1 : Int32) (a2 : Int32) (a3 : Int32) (a4 : Int32) (s0 : Int32) (s1 : Int32) (s2 : Int32) : Option ((Int32 ⊕ String) × Wd) :=
  bx (f_X9_checkRange σ s2 s1 s0) fun v24 σ25 =>
  j_X9_fault_84 σ25 a7 a6 ua5 a1 a2 a3 a4
def j_X9_fault_62 (σ : Wd) (a7 : Int32) (a6 : Int32) (ua5 : Nat) (a1 : Int32) (a2 : Int32) (a3 : Int32) (a4 : Int32) : Option ((Int32 ⊕ String) × Wd) :=
  if a7 = 0 then
    j_X9_fault_84 σ a7 a6 ua5 a1 a2 a3 a4
  else
    if a2 = 0 then
      j_X9_fault_81 σ a7 a6 ua5 a1 a2 a3 a4 (20 : Int32) (1 : Int32) a4
    else
      j_X9_fault_81 σ a7 a6 ua5 a1 a2 a3 a4 (100 : Int32) (1 : Int32) a4
def j_X9_fault_59 (σ : Wd) (a7 : Int32) (a6 : Int32) (ua5 : Nat) (a1 : Int32) (a2 : Int32) (a3 : Int32) (a4 : Int32) (s0 : Int32) (s1 : Int32) : Option ((Int32 ⊕ String) × Wd) :=
  bx (f_X9_checkNumber σ s1 s0) fun v26 σ27 =>
  j_X9_fault_62 σ27 a7 a6 ua5 a1 a2 a3 a4
def j_X9_fault_42 (σ : Wd) (a6 : Int32) (ua5 : Nat) (a1 : Int32) (a2 : Int32) (a3 : Int32) (a4 : Int32) (s0 : Int32) : Option ((Int32 ⊕ String) × Wd) :=
  if a6 = 0 then
    j_X9_fault_62 σ s0 a6 ua5 a1 a2 a3 a4
  else
    if a2 = 0 then
      j_X9_fault_59 σ s0 a6 ua5 a1 a2 a3 a4 (4 : Int32) a3
    else
      j_X9_fault_59 σ s0 a6 ua5 a1 a2 a3 a4 (4 : Int32) a3
def j_X9_fault_37 (σ : Wd) (a6 : Int32) (ua5 : Nat) (a1 : Int32) (a2 : Int32) (a3 : Int32) (a4 : Int32) : Option ((Int32 ⊕ String) × Wd) :=
  j_X9_fault_42 σ a6 ua5 a1 a2 a3 a4 (1 : Int32)
def j_X9_fault_26 (σ : Wd) (ua5 : Nat) (a1 : Int32) (a2 : Int32) (a3 : Int32) (a4 : Int32) (s0 : Int32) : Option ((Int32 ⊕ String) × Wd) :=
  if a2 = 0 then
    j_X9_fault_37 σ s0 ua5 a1 a2 a3 a4
  else
    if a2 = (2 : Int32) then
      j_X9_fault_37 σ s0 ua5 a1 a2 a3 a4
    else
      j_X9_fault_42 σ s0 ua5 a1 a2 a3 a4 (0 : Int32)
def j_X9_fault_21 (σ : Wd) (ua5 : Nat) (a1 : Int32) (a2 : Int32) (a3 : Int32) (a4 : Int32) : Option ((Int32 ⊕ String) × Wd) :=
  j_X9_fault_26 σ ua5 a1 a2 a3 a4 (1 : Int32)
def f_X9_fault (σ : Wd) (p0 : Int32) (p1 : Int32) (p2 : Int32) (p3 : Int32) : Option ((Int32 ⊕ String) × Wd) :=
  bx (f_X9_unitAt σ p0) fun v1 σ2 =>
  bx (f_X9_checkNumber σ2 p1 (4 : Int32)) fun v3 σ4 =>
  if p1 = 0 then
    j_X9_fault_21 σ4 v1 p0 p1 p2 p3
  else
    if p1 = (1 : Int32) then
      j_X9_fault_21 σ4 v1 p0 p1 p2 p3
    else
      j_X9_fault_26 σ4 v1 p0 p1 p2 p3 (0 : Int32)
theorem bj_X9_fault_84 (X : Xt) (hst : X.1.stackTraces = false) (ad : Ad) (σ : Wd) (a7 : Int32) (a6 : Int32) (ua5 : Nat) (a1 : Int32) (a2 : Int32) (a3 : Int32) (a4 : Int32) : Bk X (Fx ad) cX9_fault 8 RX9 (some (.int)) 7 104 vI (2, 14) (0, 0) ad σ 84 [(7, .int a7), (6, .int a6), (5, .ref (ad 21 ua5)), (0, .ref (ad 0 0)), (1, .int a1), (2, .int a2), (3, .int a3), (4, .int a4)] [] (j_X9_fault_84 σ a7 a6 ua5 a1 a2 a3 a4) := by
  unfold j_X9_fault_84
  refine r_aload 2 rfl dX9_fault_84 ?_
  refine r_gd (fun h1 => ?_)
  refine r_getf 1 (lvd_21 h1) (cell_21 _ _ _ _) rfl (by decide) in_9 w_373 rfl dX9_fault_86 ?_
  refine r_callV (n := 0) (As := []) (cell_1 _ _ _ _) (lvl_f h1) rfl (nc_Jx4a65c_size_8abf5 X hst ad _ _) (fun _ h => h) (Fx.rf _) ⟨rfl, by decide, by decide, by decide +kernel⟩ w_217 w_140 w_141 w_104 w_142 rfl rfl (Nat.le_of_ble_eq_true rfl) ⟨by decide, by decide⟩ dX9_fault_89 (fun v5 σ6 => ?_)
  refine r_bipush (8) (by decide) dX9_fault_92 ?_
  refine r_icmp_lt 107 dX9_fault_94 (by decide) ?_ ?_
  · refine r_aload 2 rfl dX9_fault_107 ?_
    refine r_gd (fun h2 => ?_)
    refine r_getf 1 (lvd_21 h2) (cell_21 _ _ _ _) rfl (by decide) in_9 w_373 rfl dX9_fault_109 ?_
    refine r_gd (fun h3 => ?_)
    refine r_newO tyX2 tyX2_ok (Or.inr ⟨rfl, rfl⟩) rfl in_3 w_494 w_495 w_257 (fun _ => nuc_26 _ _ _) (by decide) (okO_at h3) ⟨_, _, lvs_0 _⟩ (by decide) (by decide) dX9_fault_112 (1, 4) rfl (fun a1 hla1 hFa1 => ?_)
    rw [← hla1 21 ua5 (lvd_21 h2), ← hla1 0 0 (lvs_0 _), ← hla1 1 (ua5 + 2) (lvl_f h2)]
    refine r_bd ?_
    refine r_dup rfl dX9_fault_115 ?_
    refine r_iload_n 5 rfl dX9_fault_116 ?_
    refine r_aload_n 3 rfl dX9_fault_117 ?_
    refine r_getf 6 (lvs_0 _) (cell_0 _ _ _ _) rfl (by decide) in_10 w_234 rfl dX9_fault_118 ?_
    refine r_iload 1 rfl dX9_fault_121 ?_
    refine r_if_eq 130 dX9_fault_123 (by decide) ?_ ?_
    · refine r_iconst (-1) (by decide) dX9_fault_130 ?_
      refine r_iload 0 rfl dX9_fault_131 ?_
      refine r_if_eq 141 dX9_fault_133 (by decide) ?_ ?_
      · refine r_iconst (-1) (by decide) dX9_fault_141 ?_
        refine r_gd (fun h4 => ?_)
        refine r_ctorO (n := 4) (As := [.int _, .int _, .int _, .int _]) (lvd_26 h4) (nuc_26 _ _ _) (ci_X2_init X hst _ _ _ _ _) (stc_26 _ _ _ _ _ _ _ _) ⟨by decide, by decide, by decide +kernel⟩ rfl w_496 w_497 w_257 w_498 rfl rfl (Nat.le_of_ble_eq_true rfl) ⟨by decide, by decide⟩ ⟨by decide, by decide⟩ dX9_fault_142 ?_
        refine r_bd ?_
        refine r_gd (fun h5 => ?_)
        refine r_gd (fun h6 => ?_)
        refine r_gd (fun h7 => ?_)
        refine r_add (li := (ua5 + 2)) hst h6 (lvl_f h5) (lvd_26 h4) (cell_26 _ _ _ _) rfl w_112 h7 w_485 w_486 w_487 w_104 w_488 (Nat.le_of_ble_eq_true rfl) ⟨by decide, by decide⟩ ⟨by decide, by decide⟩ dX9_fault_145 (2, 14) rfl (fun a2 hla2 hFa2 => ?_)
        rw [← hla2 21 ua5 (lvd_21 h5), ← hla2 0 0 (lvs_0 _)]
        refine r_bd ?_
        refine r_pop rfl dX9_fault_148 ?_
        refine r_aload 2 rfl dX9_fault_149 ?_
        refine r_gd (fun h8 => ?_)
        refine r_getf 1 (lvd_21 h8) (cell_21 _ _ _ _) rfl (by decide) in_9 w_373 rfl dX9_fault_151 ?_
        refine r_callVN (n := 0) (As := []) (cell_1 _ _ _ _) (lvl_f h8) rfl (nc_Jx4a65c_size_8abf5 X hst a2 _ _) (fun _ h => h) ⟨by decide, by decide⟩ ⟨rfl, by decide, by decide, by decide +kernel⟩ w_217 w_140 w_141 w_104 w_142 rfl rfl (Nat.le_of_ble_eq_true rfl) ⟨by decide, by decide⟩ dX9_fault_154 (fun v10 σ11 => ?_)
        exact r_iret (kc := (2, 14)) rfl rfl (hFa1.tr hFa2) dX9_fault_157
      · refine r_iload 7 rfl dX9_fault_136 ?_
        refine r_goto 142 dX9_fault_138 (by decide) ?_
        refine r_gd (fun h9 => ?_)
        refine r_ctorO (n := 4) (As := [.int _, .int _, .int _, .int _]) (lvd_26 h9) (nuc_26 _ _ _) (ci_X2_init X hst _ _ _ _ _) (stc_26 _ _ _ _ _ _ _ _) ⟨by decide, by decide, by decide +kernel⟩ rfl w_496 w_497 w_257 w_498 rfl rfl (Nat.le_of_ble_eq_true rfl) ⟨by decide, by decide⟩ ⟨by decide, by decide⟩ dX9_fault_142 ?_
        refine r_bd ?_
        refine r_gd (fun h10 => ?_)
        refine r_gd (fun h11 => ?_)
        refine r_gd (fun h12 => ?_)
        refine r_add (li := (ua5 + 2)) hst h11 (lvl_f h10) (lvd_26 h9) (cell_26 _ _ _ _) rfl w_112 h12 w_485 w_486 w_487 w_104 w_488 (Nat.le_of_ble_eq_true rfl) ⟨by decide, by decide⟩ ⟨by decide, by decide⟩ dX9_fault_145 (2, 14) rfl (fun a3 hla3 hFa3 => ?_)
        rw [← hla3 21 ua5 (lvd_21 h10), ← hla3 0 0 (lvs_0 _)]
        refine r_bd ?_
        refine r_pop rfl dX9_fault_148 ?_
        refine r_aload 2 rfl dX9_fault_149 ?_
        refine r_gd (fun h13 => ?_)
        refine r_getf 1 (lvd_21 h13) (cell_21 _ _ _ _) rfl (by decide) in_9 w_373 rfl dX9_fault_151 ?_
        refine r_callVN (n := 0) (As := []) (cell_1 _ _ _ _) (lvl_f h13) rfl (nc_Jx4a65c_size_8abf5 X hst a3 _ _) (fun _ h => h) ⟨by decide, by decide⟩ ⟨rfl, by decide, by decide, by decide +kernel⟩ w_217 w_140 w_141 w_104 w_142 rfl rfl (Nat.le_of_ble_eq_true rfl) ⟨by decide, by decide⟩ dX9_fault_154 (fun v14 σ15 => ?_)
        exact r_iret (kc := (2, 14)) rfl rfl (hFa1.tr hFa3) dX9_fault_157
    · refine r_iload_n 6 rfl dX9_fault_126 ?_
      refine r_goto 131 dX9_fault_127 (by decide) ?_
      refine r_iload 0 rfl dX9_fault_131 ?_
      refine r_if_eq 141 dX9_fault_133 (by decide) ?_ ?_
      · refine r_iconst (-1) (by decide) dX9_fault_141 ?_
        refine r_gd (fun h14 => ?_)
        refine r_ctorO (n := 4) (As := [.int _, .int _, .int _, .int _]) (lvd_26 h14) (nuc_26 _ _ _) (ci_X2_init X hst _ _ _ _ _) (stc_26 _ _ _ _ _ _ _ _) ⟨by decide, by decide, by decide +kernel⟩ rfl w_496 w_497 w_257 w_498 rfl rfl (Nat.le_of_ble_eq_true rfl) ⟨by decide, by decide⟩ ⟨by decide, by decide⟩ dX9_fault_142 ?_
        refine r_bd ?_
        refine r_gd (fun h15 => ?_)
        refine r_gd (fun h16 => ?_)
        refine r_gd (fun h17 => ?_)
        refine r_add (li := (ua5 + 2)) hst h16 (lvl_f h15) (lvd_26 h14) (cell_26 _ _ _ _) rfl w_112 h17 w_485 w_486 w_487 w_104 w_488 (Nat.le_of_ble_eq_true rfl) ⟨by decide, by decide⟩ ⟨by decide, by decide⟩ dX9_fault_145 (2, 14) rfl (fun a4 hla4 hFa4 => ?_)
        rw [← hla4 21 ua5 (lvd_21 h15), ← hla4 0 0 (lvs_0 _)]
        refine r_bd ?_
        refine r_pop rfl dX9_fault_148 ?_
        refine r_aload 2 rfl dX9_fault_149 ?_
        refine r_gd (fun h18 => ?_)
        refine r_getf 1 (lvd_21 h18) (cell_21 _ _ _ _) rfl (by decide) in_9 w_373 rfl dX9_fault_151 ?_
        refine r_callVN (n := 0) (As := []) (cell_1 _ _ _ _) (lvl_f h18) rfl (nc_Jx4a65c_size_8abf5 X hst a4 _ _) (fun _ h => h) ⟨by decide, by decide⟩ ⟨rfl, by decide, by decide, by decide +kernel⟩ w_217 w_140 w_141 w_104 w_142 rfl rfl (Nat.le_of_ble_eq_true rfl) ⟨by decide, by decide⟩ dX9_fault_154 (fun v18 σ19 => ?_)
        exact r_iret (kc := (2, 14)) rfl rfl (hFa1.tr hFa4) dX9_fault_157
      · refine r_iload 7 rfl dX9_fault_136 ?_
        refine r_goto 142 dX9_fault_138 (by decide) ?_
        refine r_gd (fun h19 => ?_)
        refine r_ctorO (n := 4) (As := [.int _, .int _, .int _, .int _]) (lvd_26 h19) (nuc_26 _ _ _) (ci_X2_init X hst _ _ _ _ _) (stc_26 _ _ _ _ _ _ _ _) ⟨by decide, by decide, by decide +kernel⟩ rfl w_496 w_497 w_257 w_498 rfl rfl (Nat.le_of_ble_eq_true rfl) ⟨by decide, by decide⟩ ⟨by decide, by decide⟩ dX9_fault_142 ?_
        refine r_bd ?_
        refine r_gd (fun h20 => ?_)
        refine r_gd (fun h21 => ?_)
        refine r_gd (fun h22 => ?_)
        refine r_add (li := (ua5 + 2)) hst h21 (lvl_f h20) (lvd_26 h19) (cell_26 _ _ _ _) rfl w_112 h22 w_485 w_486 w_487 w_104 w_488 (Nat.le_of_ble_eq_true rfl) ⟨by decide, by decide⟩ ⟨by decide, by decide⟩ dX9_fault_145 (2, 14) rfl (fun a5 hla5 hFa5 => ?_)
        rw [← hla5 21 ua5 (lvd_21 h20), ← hla5 0 0 (lvs_0 _)]
        refine r_bd ?_
        refine r_pop rfl dX9_fault_148 ?_
        refine r_aload 2 rfl dX9_fault_149 ?_
        refine r_gd (fun h23 => ?_)
        refine r_getf 1 (lvd_21 h23) (cell_21 _ _ _ _) rfl (by decide) in_9 w_373 rfl dX9_fault_151 ?_
        refine r_callVN (n := 0) (As := []) (cell_1 _ _ _ _) (lvl_f h23) rfl (nc_Jx4a65c_size_8abf5 X hst a5 _ _) (fun _ h => h) ⟨by decide, by decide⟩ ⟨rfl, by decide, by decide, by decide +kernel⟩ w_217 w_140 w_141 w_104 w_142 rfl rfl (Nat.le_of_ble_eq_true rfl) ⟨by decide, by decide⟩ dX9_fault_154 (fun v22 σ23 => ?_)
        exact r_iret (kc := (2, 14)) rfl rfl (hFa1.tr hFa5) dX9_fault_157
  · exact r_throw (text := "the unit has 8 faults") at_4 (by decide +kernel) (Fx.rf _) dX9_fault_97 dX9_fault_100 dX9_fault_101 dX9_fault_103 dX9_fault_106 (by decide) (Nat.le_of_ble_eq_true rfl)
theorem bj_X9_fault_81 (X : Xt) (hst : X.1.stackTraces = false) (ad : Ad) (σ : Wd) (a7 : Int32) (a6 : Int32) (ua5 : Nat) (a1 : Int32) (a2 : Int32) (a3 : Int32) (a4 : Int32) (s0 : Int32) (s1 : Int32) (s2 : Int32) : Bk X (Fx ad) cX9_fault 8 RX9 (some (.int)) 7 104 vI (2, 14) (0, 0) ad σ 81 [(7, .int a7), (6, .int a6), (5, .ref (ad 21 ua5)), (0, .ref (ad 0 0)), (1, .int a1), (2, .int a2), (3, .int a3), (4, .int a4)] [.int s0, .int s1, .int s2] (j_X9_fault_81 σ a7 a6 ua5 a1 a2 a3 a4 s0 s1 s2) := by
  unfold j_X9_fault_81
  refine r_callS (n := 3) (As := [.int _, .int _, .int _]) (nc_X9_checkRange X hst ad _ _ _ _) (fun _ h => h) (Fx.rf _) ⟨by decide, by decide, by decide +kernel⟩ w_201 w_202 w_203 w_204 rfl rfl (Nat.le_of_ble_eq_true rfl) ⟨by decide, by decide⟩ dX9_fault_81 (fun v24 σ25 => ?_)
  exact r_sub [0, 1, 2, 3, 4, 5, 6, 7] rfl ((bj_X9_fault_84 X hst ad) _ _ _ _ _ _ _ _)
theorem bj_X9_fault_62 (X : Xt) (hst : X.1.stackTraces = false) (ad : Ad) (σ : Wd) (a7 : Int32) (a6 : Int32) (ua5 : Nat) (a1 : Int32) (a2 : Int32) (a3 : Int32) (a4 : Int32) : Bk X (Fx ad) cX9_fault 8 RX9 (some (.int)) 7 104 vI (2, 14) (0, 0) ad σ 62 [(7, .int a7), (6, .int a6), (5, .ref (ad 21 ua5)), (0, .ref (ad 0 0)), (1, .int a1), (2, .int a2), (3, .int a3), (4, .int a4)] [] (j_X9_fault_62 σ a7 a6 ua5 a1 a2 a3 a4) := by
  unfold j_X9_fault_62
  refine r_iload 0 rfl dX9_fault_62 ?_
  refine r_if_eq 84 dX9_fault_64 (by decide) ?_ ?_
  · exact r_sub [0, 1, 2, 3, 4, 5, 6, 7] rfl ((bj_X9_fault_84 X hst ad) _ _ _ _ _ _ _ _)
  · refine r_iload 7 rfl dX9_fault_67 ?_
    refine r_iconst (1) (by decide) dX9_fault_69 ?_
    refine r_iload_n 5 rfl dX9_fault_70 ?_
    refine r_if_ne 79 dX9_fault_71 (by decide) ?_ ?_
    · refine r_bipush (20) (by decide) dX9_fault_74 ?_
      refine r_goto 81 dX9_fault_76 (by decide) ?_
      exact r_sub [0, 1, 2, 3, 4, 5, 6, 7] rfl ((bj_X9_fault_81 X hst ad) _ _ _ _ _ _ _ _ _ _ _)
    · refine r_bipush (100) (by decide) dX9_fault_79 ?_
      exact r_sub [0, 1, 2, 3, 4, 5, 6, 7] rfl ((bj_X9_fault_81 X hst ad) _ _ _ _ _ _ _ _ _ _ _)
theorem bj_X9_fault_59 (X : Xt) (hst : X.1.stackTraces = false) (ad : Ad) (σ : Wd) (a7 : Int32) (a6 : Int32) (ua5 : Nat) (a1 : Int32) (a2 : Int32) (a3 : Int32) (a4 : Int32) (s0 : Int32) (s1 : Int32) : Bk X (Fx ad) cX9_fault 8 RX9 (some (.int)) 7 104 vI (2, 14) (0, 0) ad σ 59 [(7, .int a7), (6, .int a6), (5, .ref (ad 21 ua5)), (0, .ref (ad 0 0)), (1, .int a1), (2, .int a2), (3, .int a3), (4, .int a4)] [.int s0, .int s1] (j_X9_fault_59 σ a7 a6 ua5 a1 a2 a3 a4 s0 s1) := by
  unfold j_X9_fault_59
  refine r_callS (n := 2) (As := [.int _, .int _]) (nc_X9_checkNumber X hst ad _ _ _) (fun _ h => h) (Fx.rf _) ⟨by decide, by decide, by decide +kernel⟩ w_226 w_227 w_203 w_228 rfl rfl (Nat.le_of_ble_eq_true rfl) ⟨by decide, by decide⟩ dX9_fault_59 (fun v26 σ27 => ?_)
  exact r_sub [0, 1, 2, 3, 4, 5, 6, 7] rfl ((bj_X9_fault_62 X hst ad) _ _ _ _ _ _ _ _)
theorem bj_X9_fault_42 (X : Xt) (hst : X.1.stackTraces = false) (ad : Ad) (σ : Wd) (a6 : Int32) (ua5 : Nat) (a1 : Int32) (a2 : Int32) (a3 : Int32) (a4 : Int32) (s0 : Int32) : Bk X (Fx ad) cX9_fault 8 RX9 (some (.int)) 7 104 vI (2, 14) (0, 0) ad σ 42 [(6, .int a6), (5, .ref (ad 21 ua5)), (0, .ref (ad 0 0)), (1, .int a1), (2, .int a2), (3, .int a3), (4, .int a4)] [.int s0] (j_X9_fault_42 σ a6 ua5 a1 a2 a3 a4 s0) := by
  unfold j_X9_fault_42
  refine r_istore [(7, .int _), (6, .int _), (5, .ref _), (0, .ref _), (1, .int _), (2, .int _), (3, .int _), (4, .int _)] rfl (by decide) dX9_fault_42 ?_
  refine r_iload 1 rfl dX9_fault_44 ?_
  refine r_if_eq 62 dX9_fault_46 (by decide) ?_ ?_
  · exact r_sub [0, 1, 2, 3, 4, 5, 6, 7] rfl ((bj_X9_fault_62 X hst ad) _ _ _ _ _ _ _ _)
  · refine r_iload_n 6 rfl dX9_fault_49 ?_
    refine r_iload_n 5 rfl dX9_fault_50 ?_
    refine r_if_ne 58 dX9_fault_51 (by decide) ?_ ?_
    · refine r_iconst (4) (by decide) dX9_fault_54 ?_
      refine r_goto 59 dX9_fault_55 (by decide) ?_
      exact r_sub [0, 1, 2, 3, 4, 5, 6, 7] rfl ((bj_X9_fault_59 X hst ad) _ _ _ _ _ _ _ _ _ _)
    · refine r_iconst (4) (by decide) dX9_fault_58 ?_
      exact r_sub [0, 1, 2, 3, 4, 5, 6, 7] rfl ((bj_X9_fault_59 X hst ad) _ _ _ _ _ _ _ _ _ _)
theorem bj_X9_fault_37 (X : Xt) (hst : X.1.stackTraces = false) (ad : Ad) (σ : Wd) (a6 : Int32) (ua5 : Nat) (a1 : Int32) (a2 : Int32) (a3 : Int32) (a4 : Int32) : Bk X (Fx ad) cX9_fault 8 RX9 (some (.int)) 7 104 vI (2, 14) (0, 0) ad σ 37 [(6, .int a6), (5, .ref (ad 21 ua5)), (0, .ref (ad 0 0)), (1, .int a1), (2, .int a2), (3, .int a3), (4, .int a4)] [] (j_X9_fault_37 σ a6 ua5 a1 a2 a3 a4) := by
  unfold j_X9_fault_37
  refine r_iconst (1) (by decide) dX9_fault_37 ?_
  refine r_goto 42 dX9_fault_38 (by decide) ?_
  exact r_sub [0, 1, 2, 3, 4, 5, 6] rfl ((bj_X9_fault_42 X hst ad) _ _ _ _ _ _ _ _)
theorem bj_X9_fault_26 (X : Xt) (hst : X.1.stackTraces = false) (ad : Ad) (σ : Wd) (ua5 : Nat) (a1 : Int32) (a2 : Int32) (a3 : Int32) (a4 : Int32) (s0 : Int32) : Bk X (Fx ad) cX9_fault 8 RX9 (some (.int)) 7 104 vI (2, 14) (0, 0) ad σ 26 [(5, .ref (ad 21 ua5)), (0, .ref (ad 0 0)), (1, .int a1), (2, .int a2), (3, .int a3), (4, .int a4)] [.int s0] (j_X9_fault_26 σ ua5 a1 a2 a3 a4 s0) := by
  unfold j_X9_fault_26
  refine r_istore [(6, .int _), (5, .ref _), (0, .ref _), (1, .int _), (2, .int _), (3, .int _), (4, .int _)] rfl (by decide) dX9_fault_26 ?_
  refine r_iload_n 4 rfl dX9_fault_28 ?_
  refine r_if_eq 37 dX9_fault_29 (by decide) ?_ ?_
  · exact r_sub [0, 1, 2, 3, 4, 5, 6] rfl ((bj_X9_fault_37 X hst ad) _ _ _ _ _ _ _)
  · refine r_iload_n 4 rfl dX9_fault_32 ?_
    refine r_iconst (2) (by decide) dX9_fault_33 ?_
    refine r_icmp_ne 41 dX9_fault_34 (by decide) ?_ ?_
    · exact r_sub [0, 1, 2, 3, 4, 5, 6] rfl ((bj_X9_fault_37 X hst ad) _ _ _ _ _ _ _)
    · refine r_iconst (0) (by decide) dX9_fault_41 ?_
      exact r_sub [0, 1, 2, 3, 4, 5, 6] rfl ((bj_X9_fault_42 X hst ad) _ _ _ _ _ _ _ _)
theorem bj_X9_fault_21 (X : Xt) (hst : X.1.stackTraces = false) (ad : Ad) (σ : Wd) (ua5 : Nat) (a1 : Int32) (a2 : Int32) (a3 : Int32) (a4 : Int32) : Bk X (Fx ad) cX9_fault 8 RX9 (some (.int)) 7 104 vI (2, 14) (0, 0) ad σ 21 [(5, .ref (ad 21 ua5)), (0, .ref (ad 0 0)), (1, .int a1), (2, .int a2), (3, .int a3), (4, .int a4)] [] (j_X9_fault_21 σ ua5 a1 a2 a3 a4) := by
  unfold j_X9_fault_21
  refine r_iconst (1) (by decide) dX9_fault_21 ?_
  refine r_goto 26 dX9_fault_22 (by decide) ?_
  exact r_sub [0, 1, 2, 3, 4, 5] rfl ((bj_X9_fault_26 X hst ad) _ _ _ _ _ _ _)
theorem nc_X9_fault (X : Xt) (hst : X.1.stackTraces = false) (ad : Ad) (σ : Wd) (p0 : Int32) (p1 : Int32) (p2 : Int32) (p3 : Int32) : NC X (Fx ad) yX9_fault cX9_fault 8 (some (.int)) 7 104 vI (2, 14) ad σ [.ref (ad 0 0), .int p0, .int p1, .int p2, .int p3] (f_X9_fault σ p0 p1 p2 p3) := by
  unfold f_X9_fault
  refine NC.intro RX9 rfl hst (by decide) (Nat.le_of_ble_eq_true rfl) (lv := [(0, .ref _), (1, .int _), (2, .int _), (3, .int _), (4, .int _)]) rfl ?_
  refine r_aload_n 0 rfl dX9_fault_0 ?_
  refine r_iload_n 1 rfl dX9_fault_1 ?_
  refine r_callV (n := 1) (As := [.int _]) (cell_0 _ _ _ _) (lvs_0 _) rfl (nc_X9_unitAt X hst ad _ _) (fun _ h => h) (Fx.rf _) ⟨rfl, by decide, by decide, by decide +kernel⟩ w_230 w_231 w_232 w_203 w_233 rfl rfl (Nat.le_of_ble_eq_true rfl) ⟨by decide, by decide⟩ dX9_fault_2 (fun v1 σ2 => ?_)
  refine r_astore [(5, .ref _), (0, .ref _), (1, .int _), (2, .int _), (3, .int _), (4, .int _)] rfl (by decide) dX9_fault_5 ?_
  refine r_iload_n 3 rfl dX9_fault_7 ?_
  refine r_iconst (4) (by decide) dX9_fault_8 ?_
  refine r_callS (n := 2) (As := [.int _, .int _]) (nc_X9_checkNumber X hst ad _ _ _) (fun _ h => h) (Fx.rf _) ⟨by decide, by decide, by decide +kernel⟩ w_226 w_227 w_203 w_228 rfl rfl (Nat.le_of_ble_eq_true rfl) ⟨by decide, by decide⟩ dX9_fault_9 (fun v3 σ4 => ?_)
  refine r_iload_n 3 rfl dX9_fault_12 ?_
  refine r_if_eq 21 dX9_fault_13 (by decide) ?_ ?_
  · exact r_sub [0, 1, 2, 3, 4, 5] rfl ((bj_X9_fault_21 X hst ad) _ _ _ _ _ _)
  · refine r_iload_n 3 rfl dX9_fault_16 ?_
    refine r_iconst (1) (by decide) dX9_fault_17 ?_
    refine r_icmp_ne 25 dX9_fault_18 (by decide) ?_ ?_
    · exact r_sub [0, 1, 2, 3, 4, 5] rfl ((bj_X9_fault_21 X hst ad) _ _ _ _ _ _)
    · refine r_iconst (0) (by decide) dX9_fault_25 ?_
      exact r_sub [0, 1, 2, 3, 4, 5] rfl ((bj_X9_fault_26 X hst ad) _ _ _ _ _ _ _)
