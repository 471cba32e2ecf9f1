theorem w_91 : Cond.fieldLink RJx4a65c 48 "java/util/ArrayList" "size" "I" ∈ G_ := gt1 49 (by decide +kernel) (by decide +kernel)
theorem w_92 : Cond.methodLink RJ15 105 yJ3_checkIndex_8e157 ∈ G_ := gt3 18 (by decide +kernel) (by decide +kernel)
theorem w_93 : Cond.static yJ3_checkIndex_8e157 ∈ G_ := gt3 19 (by decide +kernel) (by decide +kernel)
theorem w_94 : Cond.initialized RJ3 ∈ G_ := gt1 24 (by decide +kernel) (by decide +kernel)
theorem w_95 : Cond.code yJ3_checkIndex_8e157 cJ3_checkIndex_8e157 3 (some (.int)) ∈ G_ := gt3 20 (by decide +kernel) (by decide +kernel)
theorem w_96 : Cond.methodLink RJx4a65c 118 yJ15_checkIndex_7cf53 ∈ G_ := gt3 15 (by decide +kernel) (by decide +kernel)
theorem w_97 : Cond.static yJ15_checkIndex_7cf53 ∈ G_ := gt3 16 (by decide +kernel) (by decide +kernel)
theorem w_98 : Cond.initialized RJ15 ∈ G_ := gt1 23 (by decide +kernel) (by decide +kernel)
theorem w_99 : Cond.code yJ15_checkIndex_7cf53 cJ15_checkIndex_7cf53 2 (some (.int)) ∈ G_ := gt3 17 (by decide +kernel) (by decide +kernel)
theorem w_100 : Cond.fieldLink RJx4a65c 9 "java/util/ArrayList" "elementData" "[Ljava/lang/Object;" ∈ G_ := gt1 48 (by decide +kernel) (by decide +kernel)
theorem w_101 : Cond.methodLink RJx4a65c 123 yJx4a65c_elementData_915e3 ∈ G_ := gt3 21 (by decide +kernel) (by decide +kernel)
theorem w_102 : Cond.instanceMethod yJx4a65c_elementData_915e3 ∈ G_ := gt3 22 (by decide +kernel) (by decide +kernel)
theorem w_103 : Cond.selects RJx4a65c yJx4a65c_elementData_915e3 yJx4a65c_elementData_915e3 ∈ G_ := gt3 23 (by decide +kernel) (by decide +kernel)
theorem w_104 : Cond.initialized RJx4a65c ∈ G_ := gt1 4 (by decide +kernel) (by decide +kernel)
theorem w_105 : Cond.code yJx4a65c_elementData_915e3 cJx4a65c_elementData_915e3 2 (some ((.object "java/lang/Object"))) ∈ G_ := gt3 24 (by decide +kernel) (by decide +kernel)
theorem w_106 : Cond.fieldLink RJx4a65c 63 "java/util/ArrayList" "modCount" "I" ∈ G_ := gt1 51 (by decide +kernel) (by decide +kernel)
theorem w_107 : Cond.sameField "java/util/ArrayList" "java/util/AbstractList" "modCount" "I" ∈ G_ := gt1 52 (by decide +kernel) (by decide +kernel)
theorem w_108 : Cond.methodLink RJx4a65c 112 arraycopyName ∈ G_ := gt4 44 (by decide +kernel) (by decide +kernel)
theorem w_109 : Cond.native arraycopyName ∈ G_ := gt2 170 (by decide +kernel) (by decide +kernel)
theorem w_110 : Cond.static arraycopyName ∈ G_ := gt2 169 (by decide +kernel) (by decide +kernel)
theorem w_111 : Cond.initialized "java/lang/System" ∈ G_ := gt1 21 (by decide +kernel) (by decide +kernel)
theorem w_112 : Cond.castable "Stablingroad$Fault" "java/lang/Object" ∈ NW_ := nt4 200 (by decide +kernel) (by decide +kernel)
theorem w_113 : Cond.methodLink RJx4a65c 144 yJx4a65c_fastRemove_b59b0 ∈ G_ := gt4 40 (by decide +kernel) (by decide +kernel)
theorem w_114 : Cond.instanceMethod yJx4a65c_fastRemove_b59b0 ∈ G_ := gt4 42 (by decide +kernel) (by decide +kernel)
theorem w_115 : Cond.selects RJx4a65c yJx4a65c_fastRemove_b59b0 yJx4a65c_fastRemove_b59b0 ∈ G_ := gsl 19 (by decide +kernel) (by decide +kernel)
theorem w_116 : Cond.code yJx4a65c_fastRemove_b59b0 cJx4a65c_fastRemove_b59b0 4 none ∈ G_ := gt4 43 (by decide +kernel) (by decide +kernel)
def f_Jx4a65c_size_8abf5 (σ : Wd) (i : Nat) : Option ((Int32 ⊕ String) × Wd) :=
  gd (i < 2 + σ.2.2 8) <|
  some (.inl (σ.1 1 i 2), σ)
theorem nc_Jx4a65c_size_8abf5 (X : Xt) (hst : X.1.stackTraces = false) (ad : Ad) (σ : Wd) (i : Nat) : NC X (fun a => a = ad) yJx4a65c_size_8abf5 cJx4a65c_size_8abf5 1 (some (.int)) 0 0 vI (0, 0) ad σ [.ref (ad 1 i)] (f_Jx4a65c_size_8abf5 σ i) := by
  unfold f_Jx4a65c_size_8abf5
  refine NC.intro RJx4a65c rfl hst (by decide) (Nat.le_of_ble_eq_true rfl) (lv := [(0, .ref _)]) rfl ?_
  refine r_aload_n 0 rfl dJx4a65c_size_8abf5_0 ?_
  refine r_gd (fun h1 => ?_)
  refine r_getf 2 (lvl_g h1) (cell_1 _ _ _ _) rfl (by decide) in_0 w_91 rfl dJx4a65c_size_8abf5_1 ?_
  exact r_iret rfl rfl rfl dJx4a65c_size_8abf5_4
def f_J3_checkIndex_8e157 (σ : Wd) (p0 : Int32) (p1 : Int32) : Option ((Int32 ⊕ String) × Wd) :=
  if p0 < 0 then
    none
  else
    if p0 < p1 then
      some (.inl p0, σ)
    else
      none
theorem nc_J3_checkIndex_8e157 (X : Xt) (hst : X.1.stackTraces = false) (ad : Ad) (σ : Wd) (p0 : Int32) (p1 : Int32) : NC X (fun a => a = ad) yJ3_checkIndex_8e157 cJ3_checkIndex_8e157 3 (some (.int)) 0 0 vI (0, 0) ad σ [.int p0, .int p1, .null] (f_J3_checkIndex_8e157 σ p0 p1) := by
  unfold f_J3_checkIndex_8e157
  refine NC.intro RJ3 rfl hst (by decide) (Nat.le_of_ble_eq_true rfl) (lv := [(0, .int _), (1, .int _), (2, .null)]) rfl ?_
  refine r_iload_n 0 rfl dJ3_checkIndex_8e157_0 ?_
  refine r_if_lt 9 dJ3_checkIndex_8e157_1 (by decide) ?_ ?_
  · exact r_none
  · refine r_iload_n 0 rfl dJ3_checkIndex_8e157_4 ?_
    refine r_iload_n 1 rfl dJ3_checkIndex_8e157_5 ?_
    refine r_icmp_lt 16 dJ3_checkIndex_8e157_6 (by decide) ?_ ?_
    · refine r_iload_n 0 rfl dJ3_checkIndex_8e157_16 ?_
      exact r_iret rfl rfl rfl dJ3_checkIndex_8e157_17
    · exact r_none
def f_J15_checkIndex_7cf53 (σ : Wd) (p0 : Int32) (p1 : Int32) : Option ((Int32 ⊕ String) × Wd) :=
  bx (f_J3_checkIndex_8e157 σ p0 p1) fun v1 σ2 =>
  some (.inl v1, σ2)
theorem nc_J15_checkIndex_7cf53 (X : Xt) (hst : X.1.stackTraces = false) (ad : Ad) (σ : Wd) (p0 : Int32) (p1 : Int32) : NC X (fun a => a = ad) yJ15_checkIndex_7cf53 cJ15_checkIndex_7cf53 2 (some (.int)) 1 22 vI (0, 0) ad σ [.int p0, .int p1] (f_J15_checkIndex_7cf53 σ p0 p1) := by
  unfold f_J15_checkIndex_7cf53
  refine NC.intro RJ15 rfl hst (by decide) (Nat.le_of_ble_eq_true rfl) (lv := [(0, .int _), (1, .int _)]) rfl ?_
  refine r_iload_n 0 rfl dJ15_checkIndex_7cf53_0 ?_
  refine r_iload_n 1 rfl dJ15_checkIndex_7cf53_1 ?_
  refine r_null dJ15_checkIndex_7cf53_2 ?_
  refine r_callS (n := 3) (As := [.int _, .int _, .null]) (nc_J3_checkIndex_8e157 X hst ad _ _ _) (fun _ h => h) rfl ⟨by decide, by decide, by decide +kernel⟩ w_92 w_93 w_94 w_95 rfl rfl (Nat.le_of_ble_eq_true rfl) ⟨by decide, by decide⟩ dJ15_checkIndex_7cf53_3 (fun v1 σ2 => ?_)
  exact r_iret rfl rfl rfl dJ15_checkIndex_7cf53_6
def f_Jx4a65c_elementData_915e3 (σ : Wd) (i : Nat) (p0 : Int32) : Option ((Nat ⊕ String) × Wd) :=
  gd (i < 2 + σ.2.2 8) <|
  gd (i < 8 ∧ σ.2.2 (20 + i) ≠ 0) <|
  gd (inb p0 10) <|
  gd (σ.2.1 i p0.toNatClampNeg ≠ 0) <|
  some (.inl (σ.2.1 i p0.toNatClampNeg - 1), σ)
theorem nc_Jx4a65c_elementData_915e3 (X : Xt) (hst : X.1.stackTraces = false) (ad : Ad) (σ : Wd) (i : Nat) (p0 : Int32) : NC X (fun a => a = ad) yJx4a65c_elementData_915e3 cJx4a65c_elementData_915e3 2 (some ((.object "java/lang/Object"))) 0 0 (vE ad i) (0, 0) ad σ [.ref (ad 1 i), .int p0] (f_Jx4a65c_elementData_915e3 σ i p0) := by
  unfold f_Jx4a65c_elementData_915e3
  refine NC.intro RJx4a65c rfl hst (by decide) (Nat.le_of_ble_eq_true rfl) (lv := [(0, .ref _), (1, .int _)]) rfl ?_
  refine r_aload_n 0 rfl dJx4a65c_elementData_915e3_0 ?_
  refine r_gd (fun h1 => ?_)
  refine r_gd (fun h2 => ?_)
  refine r_getE h2 (lvl_g h1) w_100 dJx4a65c_elementData_915e3_1 ?_
  refine r_iload_n 1 rfl dJx4a65c_elementData_915e3_4 ?_
  refine r_gd (fun h3 => ?_)
  refine r_gd (fun h4 => ?_)
  refine r_aaloadE h2 h3 h4 dJx4a65c_elementData_915e3_5 ?_
  exact r_aret rfl rfl rfl dJx4a65c_elementData_915e3_6
def f_Jx4a65c_get_915e3 (σ : Wd) (i : Nat) (p0 : Int32) : Option ((Nat ⊕ String) × Wd) :=
  gd (i < 2 + σ.2.2 8) <|
  bx (f_J15_checkIndex_7cf53 σ p0 (σ.1 1 i 2)) fun v1 σ2 =>
  gd (i < 2 + σ2.2.2 8) <|
  bx (f_Jx4a65c_elementData_915e3 σ2 i p0) fun v3 σ4 =>
  some (.inl v3, σ4)
theorem nc_Jx4a65c_get_915e3 (X : Xt) (hst : X.1.stackTraces = false) (ad : Ad) (σ : Wd) (i : Nat) (p0 : Int32) : NC X (fun a => a = ad) yJx4a65c_get_915e3 cJx4a65c_get_915e3 2 (some ((.object "java/lang/Object"))) 2 43 (vE ad i) (0, 0) ad σ [.ref (ad 1 i), .int p0] (f_Jx4a65c_get_915e3 σ i p0) := by
  unfold f_Jx4a65c_get_915e3
  refine NC.intro RJx4a65c rfl hst (by decide) (Nat.le_of_ble_eq_true rfl) (lv := [(0, .ref _), (1, .int _)]) rfl ?_
  refine r_iload_n 1 rfl dJx4a65c_get_915e3_0 ?_
  refine r_aload_n 0 rfl dJx4a65c_get_915e3_1 ?_
  refine r_gd (fun h1 => ?_)
  refine r_getf 2 (lvl_g h1) (cell_1 _ _ _ _) rfl (by decide) in_0 w_91 rfl dJx4a65c_get_915e3_2 ?_
  refine r_callS (n := 2) (As := [.int _, .int _]) (nc_J15_checkIndex_7cf53 X hst ad _ _ _) (fun _ h => h) rfl ⟨by decide, by decide, by decide +kernel⟩ w_96 w_97 w_98 w_99 rfl rfl (Nat.le_of_ble_eq_true rfl) ⟨by decide, by decide⟩ dJx4a65c_get_915e3_5 (fun v1 σ2 => ?_)
  refine r_pop rfl dJx4a65c_get_915e3_8 ?_
  refine r_aload_n 0 rfl dJx4a65c_get_915e3_9 ?_
  refine r_iload_n 1 rfl dJx4a65c_get_915e3_10 ?_
  refine r_gd (fun h2 => ?_)
  refine r_callV (n := 1) (As := [.int _]) (cell_1 _ _ _ _) (lvl_g h2) rfl (nc_Jx4a65c_elementData_915e3 X hst ad _ _ _) (fun _ h => h) rfl ⟨rfl, by decide, by decide, by decide +kernel⟩ w_101 w_102 w_103 w_104 w_105 rfl rfl (Nat.le_of_ble_eq_true rfl) ⟨by decide, by decide⟩ dJx4a65c_get_915e3_11 (fun v3 σ4 => ?_)
  exact r_aret rfl rfl rfl dJx4a65c_get_915e3_14
def f_Jx4a65c_fastRemove_b59b0 (σ : Wd) (i : Nat) (p1 : Int32) : Option ((Unit ⊕ String) × Wd) :=
  gd (i < σ.2.2 8) <|
  bd (wr σ 1 (i + 2) 0 ((σ.1 1 (i + 2) 0) + (1 : Int32))) fun σ1 =>
  bd (((σ1.1 1 (i + 2) 2) - (1 : Int32))) fun x2 =>
  if ((σ1.1 1 (i + 2) 2) - (1 : Int32)) ≤ p1 then
    bd (wr σ1 1 (i + 2) 2 x2) fun σ3 =>
    gd ((i + 2) < 8 ∧ σ3.2.2 (20 + (i + 2)) ≠ 0) <|
    gd (inb x2 10) <|
    bd (wp σ3 (i + 2) x2.toNatClampNeg 0) fun σ4 =>
    some (.inl (), σ4)
  else
    gd ((i + 2) < 8 ∧ σ1.2.2 (20 + (i + 2)) ≠ 0) <|
    gd (¬ (p1 + (1 : Int32)) < 0) <|
    gd (¬ p1 < 0) <|
    gd (¬ (x2 - p1) < 0) <|
    gd ((p1 + (1 : Int32)).toNatClampNeg + (x2 - p1).toNatClampNeg ≤ 10) <|
    gd (p1.toNatClampNeg + (x2 - p1).toNatClampNeg ≤ 10) <|
    gd (∀ j, j < 10 → σ1.2.1 (i + 2) j - 1 < σ1.2.2 10 ∨ σ1.2.1 (i + 2) j = 0) <|
    bd (wcp σ1 (i + 2) (p1 + (1 : Int32)).toNatClampNeg p1.toNatClampNeg (x2 - p1).toNatClampNeg) fun σ5 =>
    bd (wr σ5 1 (i + 2) 2 x2) fun σ6 =>
    gd (inb x2 10) <|
    bd (wp σ6 (i + 2) x2.toNatClampNeg 0) fun σ7 =>
    some (.inl (), σ7)
theorem nc_Jx4a65c_fastRemove_b59b0 (X : Xt) (hst : X.1.stackTraces = false) (ad : Ad) (σ : Wd) (i : Nat) (p1 : Int32) : NC X (fun a => a = ad) yJx4a65c_fastRemove_b59b0 cJx4a65c_fastRemove_b59b0 4 none 1 20 vV (0, 0) ad σ [.ref (ad 1 (i + 2)), .ref (ad 27 (i + 2)), .int p1] (f_Jx4a65c_fastRemove_b59b0 σ i p1) := by
  unfold f_Jx4a65c_fastRemove_b59b0
  refine NC.intro RJx4a65c rfl hst (by decide) (Nat.le_of_ble_eq_true rfl) (lv := [(0, .ref _), (1, .ref _), (2, .int _)]) rfl ?_
  refine r_aload_n 0 rfl dJx4a65c_fastRemove_b59b0_0 ?_
  refine r_dup rfl dJx4a65c_fastRemove_b59b0_1 ?_
  refine r_gd (fun h1 => ?_)
  refine r_getfS 0 (lvl_f h1) (cell_1 _ _ _ _) rfl (by decide) in_0 w_106 w_107 rfl dJx4a65c_fastRemove_b59b0_2 ?_
  refine r_iconst (1) (by decide) dJx4a65c_fastRemove_b59b0_5 ?_
  refine r_iadd dJx4a65c_fastRemove_b59b0_6 ?_
  refine r_bd ?_
  refine r_putfS 0 tyJx4a65c tyJx4a65c_ok nmJx4a65c (lvl_f h1) (cell_1 _ _ _ _) (wrc_1_0 _ _ _ _ _) rfl (by decide) (Nat.le_of_ble_eq_true rfl) in_0 w_106 w_107 rfl rfl rfl dJx4a65c_fastRemove_b59b0_7 ?_
  refine r_aload_n 0 rfl dJx4a65c_fastRemove_b59b0_10 ?_
  refine r_getf 2 (lvl_f h1) (cell_1 _ _ _ _) rfl (by decide) in_0 w_91 rfl dJx4a65c_fastRemove_b59b0_11 ?_
  refine r_iconst (1) (by decide) dJx4a65c_fastRemove_b59b0_14 ?_
  refine r_isub dJx4a65c_fastRemove_b59b0_15 ?_
  refine r_dup rfl dJx4a65c_fastRemove_b59b0_16 ?_
  refine r_bd ?_
  refine r_istore_n [(3, .int _), (0, .ref _), (1, .ref _), (2, .int _)] rfl (by decide) dJx4a65c_fastRemove_b59b0_17 ?_
  refine r_iload_n 3 rfl dJx4a65c_fastRemove_b59b0_18 ?_
  refine r_icmp_le 34 dJx4a65c_fastRemove_b59b0_19 (by decide) ?_ ?_
  · refine r_aload_n 2 rfl dJx4a65c_fastRemove_b59b0_34 ?_
    refine r_aload_n 1 rfl dJx4a65c_fastRemove_b59b0_35 ?_
    refine r_iload_n 0 rfl dJx4a65c_fastRemove_b59b0_36 ?_
    refine r_dup_x1 rfl rfl dJx4a65c_fastRemove_b59b0_37 ?_
    refine r_bd ?_
    refine r_putf 2 tyJx4a65c tyJx4a65c_ok nmJx4a65c (lvl_f h1) (cell_1 _ _ _ _) (wrc_1_2 _ _ _ _ _) rfl (by decide) (Nat.le_of_ble_eq_true rfl) in_0 w_91 rfl rfl rfl dJx4a65c_fastRemove_b59b0_38 ?_
    refine r_null dJx4a65c_fastRemove_b59b0_41 ?_
    refine r_gd (fun h2 => ?_)
    refine r_gd (fun h3 => ?_)
    refine r_bd ?_
    refine r_aastoreN h2 h3 dJx4a65c_fastRemove_b59b0_42 ?_
    exact r_vret rfl rfl rfl dJx4a65c_fastRemove_b59b0_43
  · refine r_aload_n 2 rfl dJx4a65c_fastRemove_b59b0_22 ?_
    refine r_iload_n 3 rfl dJx4a65c_fastRemove_b59b0_23 ?_
    refine r_iconst (1) (by decide) dJx4a65c_fastRemove_b59b0_24 ?_
    refine r_iadd dJx4a65c_fastRemove_b59b0_25 ?_
    refine r_aload_n 2 rfl dJx4a65c_fastRemove_b59b0_26 ?_
    refine r_iload_n 3 rfl dJx4a65c_fastRemove_b59b0_27 ?_
    refine r_iload_n 0 rfl dJx4a65c_fastRemove_b59b0_28 ?_
    refine r_iload_n 3 rfl dJx4a65c_fastRemove_b59b0_29 ?_
    refine r_isub dJx4a65c_fastRemove_b59b0_30 ?_
    refine r_gd (fun h4 => ?_)
    refine r_gd (fun h5 => ?_)
    refine r_gd (fun h6 => ?_)
    refine r_gd (fun h7 => ?_)
    refine r_gd (fun h8 => ?_)
    refine r_gd (fun h9 => ?_)
    refine r_gd (fun h10 => ?_)
    refine r_bd ?_
    refine r_copyE h4 h10 w_108 w_109 w_110 w_111 w_112 h5 h6 h7 h8 h9 (by decide) (Nat.le_of_ble_eq_true rfl) dJx4a65c_fastRemove_b59b0_31 ?_
    refine r_aload_n 2 rfl dJx4a65c_fastRemove_b59b0_34 ?_
    refine r_aload_n 1 rfl dJx4a65c_fastRemove_b59b0_35 ?_
    refine r_iload_n 0 rfl dJx4a65c_fastRemove_b59b0_36 ?_
    refine r_dup_x1 rfl rfl dJx4a65c_fastRemove_b59b0_37 ?_
    refine r_bd ?_
    refine r_putf 2 tyJx4a65c tyJx4a65c_ok nmJx4a65c (lvl_f h1) (cell_1 _ _ _ _) (wrc_1_2 _ _ _ _ _) rfl (by decide) (Nat.le_of_ble_eq_true rfl) in_0 w_91 rfl rfl rfl dJx4a65c_fastRemove_b59b0_38 ?_
    refine r_null dJx4a65c_fastRemove_b59b0_41 ?_
    refine r_gd (fun h11 => ?_)
    refine r_bd ?_
    refine r_aastoreN h4 h11 dJx4a65c_fastRemove_b59b0_42 ?_
    exact r_vret rfl rfl rfl dJx4a65c_fastRemove_b59b0_43
def f_Jx4a65c_remove_915e3 (σ : Wd) (i : Nat) (p0 : Int32) : Option ((Nat ⊕ String) × Wd) :=
  gd (i < σ.2.2 8) <|
  bx (f_J15_checkIndex_7cf53 σ p0 (σ.1 1 (i + 2) 2)) fun v1 σ2 =>
  gd (i < σ2.2.2 8) <|
  gd ((i + 2) < 8 ∧ σ2.2.2 (20 + (i + 2)) ≠ 0) <|
  gd (inb p0 10) <|
  gd (σ2.2.1 (i + 2) p0.toNatClampNeg ≠ 0) <|
  bx (f_Jx4a65c_fastRemove_b59b0 σ2 i p0) fun v3 σ4 =>
  some (.inl (σ2.2.1 (i + 2) p0.toNatClampNeg - 1), σ4)
theorem nc_Jx4a65c_remove_915e3 (X : Xt) (hst : X.1.stackTraces = false) (ad : Ad) (σ : Wd) (i : Nat) (p0 : Int32) : NC X (fun a => a = ad) yJx4a65c_remove_915e3 cJx4a65c_remove_915e3 4 (some ((.object "java/lang/Object"))) 2 43 (vE ad (i + 2)) (0, 0) ad σ [.ref (ad 1 (i + 2)), .int p0] (f_Jx4a65c_remove_915e3 σ i p0) := by
  unfold f_Jx4a65c_remove_915e3
  refine NC.intro RJx4a65c rfl hst (by decide) (Nat.le_of_ble_eq_true rfl) (lv := [(0, .ref _), (1, .int _)]) rfl ?_
  refine r_iload_n 1 rfl dJx4a65c_remove_915e3_0 ?_
  refine r_aload_n 0 rfl dJx4a65c_remove_915e3_1 ?_
  refine r_gd (fun h1 => ?_)
  refine r_getf 2 (lvl_f h1) (cell_1 _ _ _ _) rfl (by decide) in_0 w_91 rfl dJx4a65c_remove_915e3_2 ?_
  refine r_callS (n := 2) (As := [.int _, .int _]) (nc_J15_checkIndex_7cf53 X hst ad _ _ _) (fun _ h => h) rfl ⟨by decide, by decide, by decide +kernel⟩ w_96 w_97 w_98 w_99 rfl rfl (Nat.le_of_ble_eq_true rfl) ⟨by decide, by decide⟩ dJx4a65c_remove_915e3_5 (fun v1 σ2 => ?_)
  refine r_pop rfl dJx4a65c_remove_915e3_8 ?_
  refine r_aload_n 0 rfl dJx4a65c_remove_915e3_9 ?_
  refine r_gd (fun h2 => ?_)
  refine r_gd (fun h3 => ?_)
  refine r_getE h3 (lvl_f h2) w_100 dJx4a65c_remove_915e3_10 ?_
  refine r_astore_n [(2, .ref _), (0, .ref _), (1, .int _)] rfl (by decide) dJx4a65c_remove_915e3_13 ?_
  refine r_aload_n 0 rfl dJx4a65c_remove_915e3_14 ?_
  refine r_iload_n 2 rfl dJx4a65c_remove_915e3_15 ?_
  refine r_gd (fun h4 => ?_)
  refine r_gd (fun h5 => ?_)
  refine r_aaloadE h3 h4 h5 dJx4a65c_remove_915e3_16 ?_
  refine r_astore_n [(3, .ref _), (2, .ref _), (0, .ref _), (1, .int _)] rfl (by decide) dJx4a65c_remove_915e3_17 ?_
  refine r_aload_n 2 rfl dJx4a65c_remove_915e3_18 ?_
  refine r_aload_n 1 rfl dJx4a65c_remove_915e3_19 ?_
  refine r_iload_n 3 rfl dJx4a65c_remove_915e3_20 ?_
  refine r_callV (n := 2) (As := [.ref _, .int _]) (cell_1 _ _ _ _) (lvl_f h2) rfl (nc_Jx4a65c_fastRemove_b59b0 X hst ad _ _ _) (fun _ h => h) rfl ⟨rfl, by decide, by decide, by decide +kernel⟩ w_113 w_114 w_115 w_104 w_116 rfl rfl (Nat.le_of_ble_eq_true rfl) ⟨by decide, by decide⟩ dJx4a65c_remove_915e3_21 (fun v3 σ4 => ?_)
  refine r_aload_n 0 rfl dJx4a65c_remove_915e3_24 ?_
  exact r_aret rfl rfl rfl dJx4a65c_remove_915e3_25
def l_J7_fill_53178_16_5 : Nat → Wd → Int32 → Int32 → Int32 → Option ((Unit ⊕ String) × Wd)
  | 0, _, _, _, _ => none
  | n + 1, σ, a3, a2, a1 =>
  if a3 ≤ a2 then
    some (.inl (), σ)
  else
    gd (inb a2 6) <|
    bd (wr σ 16 0 a2.toNatClampNeg a1) fun σ1 =>
    (l_J7_fill_53178_16_5 n) σ1 a3 (a2 + 1) a1
def f_J7_fill_53178_16 (σ : Wd) (p1 : Int32) : Option ((Unit ⊕ String) × Wd) :=
  l_J7_fill_53178_16_5 FU σ (6 : Int32) (0 : Int32) p1
theorem bl_J7_fill_53178_16_5 (X : Xt) (hst : X.1.stackTraces = false) (ad : Ad) : ∀ (n : Nat) (σ : Wd) (a3 : Int32) (a2 : Int32) (a1 : Int32), Bk X (fun a => a = ad) cJ7_fill_53178 4 RJ7 none 0 0 vV (0, 0) (0, 0) ad σ 5 [(3, .int a3), (2, .int a2), (0, .ref (ad 16 0)), (1, .int a1)] [] (l_J7_fill_53178_16_5 n σ a3 a2 a1) := by
  intro n
  induction n with
  | zero => intros; exact r_none
  | succ n ih =>
  intro σ a3 a2 a1
  rw [l_J7_fill_53178_16_5]
  refine r_iload_n 1 rfl dJ7_fill_53178_5 ?_
  refine r_iload_n 0 rfl dJ7_fill_53178_6 ?_
  refine r_icmp_ge 20 dJ7_fill_53178_7 (by decide) ?_ ?_
  · exact r_vret rfl rfl rfl dJ7_fill_53178_20
  · refine r_aload_n 2 rfl dJ7_fill_53178_10 ?_
    refine r_iload_n 1 rfl dJ7_fill_53178_11 ?_
    refine r_iload_n 3 rfl dJ7_fill_53178_12 ?_
    refine r_gd (fun h1 => ?_)
    refine r_bd ?_
    refine r_iastore (lvs_16 _) (ia_16 _ _ _) h1 dJ7_fill_53178_13 ?_
    refine r_iinc (1) [(2, .int _), (3, .int _), (0, .ref _), (1, .int _)] 1 rfl (by decide) rfl (by decide) dJ7_fill_53178_14 ?_
    refine r_goto 5 dJ7_fill_53178_17 (by decide) ?_
    exact r_sub [1, 0, 2, 3] rfl (ih _ _ _ _)
theorem nc_J7_fill_53178_16 (X : Xt) (hst : X.1.stackTraces = false) (ad : Ad) (σ : Wd) (p1 : Int32) : NC X (fun a => a = ad) yJ7_fill_53178 cJ7_fill_53178 4 none 0 0 vV (0, 0) ad σ [.ref (ad 16 0), .int p1] (f_J7_fill_53178_16 σ p1) := by
  unfold f_J7_fill_53178_16
  refine NC.intro RJ7 rfl hst (by decide) (Nat.le_of_ble_eq_true rfl) (lv := [(0, .ref _), (1, .int _)]) rfl ?_
  refine r_iconst (0) (by decide) dJ7_fill_53178_0 ?_
  refine r_istore_n [(2, .int _), (0, .ref _), (1, .int _)] rfl (by decide) dJ7_fill_53178_1 ?_
  refine r_aload_n 1 rfl dJ7_fill_53178_2 ?_
  refine r_alen (6) (lvs_16 _) (cell_16 _ _ _ _) rfl rfl dJ7_fill_53178_3 ?_
  refine r_istore_n [(3, .int _), (2, .int _), (0, .ref _), (1, .int _)] rfl (by decide) dJ7_fill_53178_4 ?_
  exact r_sub [0, 1, 2, 3] rfl ((bl_J7_fill_53178_16_5 X hst ad FU) _ _ _ _)
def l_J7_fill_53178_17_5 : Nat → Wd → Int32 → Int32 → Int32 → Option ((Unit ⊕ String) × Wd)
  | 0, _, _, _, _ => none
  | n + 1, σ, a3, a2, a1 =>
  if a3 ≤ a2 then
    some (.inl (), σ)
  else
    gd (inb a2 6) <|
    bd (wr σ 17 0 a2.toNatClampNeg a1) fun σ1 =>
    (l_J7_fill_53178_17_5 n) σ1 a3 (a2 + 1) a1
def f_J7_fill_53178_17 (σ : Wd) (p1 : Int32) : Option ((Unit ⊕ String) × Wd) :=
  l_J7_fill_53178_17_5 FU σ (6 : Int32) (0 : Int32) p1
theorem bl_J7_fill_53178_17_5 (X : Xt) (hst : X.1.stackTraces = false) (ad : Ad) : ∀ (n : Nat) (σ : Wd) (a3 : Int32) (a2 : Int32) (a1 : Int32), Bk X (fun a => a = ad) cJ7_fill_53178 4 RJ7 none 0 0 vV (0, 0) (0, 0) ad σ 5 [(3, .int a3), (2, .int a2), (0, .ref (ad 17 0)), (1, .int a1)] [] (l_J7_fill_53178_17_5 n σ a3 a2 a1) := by
  intro n
  induction n with
  | zero => intros; exact r_none
  | succ n ih =>
  intro σ a3 a2 a1
  rw [l_J7_fill_53178_17_5]
  refine r_iload_n 1 rfl dJ7_fill_53178_5 ?_
  refine r_iload_n 0 rfl dJ7_fill_53178_6 ?_
  refine r_icmp_ge 20 dJ7_fill_53178_7 (by decide) ?_ ?_
  · exact r_vret rfl rfl rfl dJ7_fill_53178_20
  · refine r_aload_n 2 rfl dJ7_fill_53178_10 ?_
    refine r_iload_n 1 rfl dJ7_fill_53178_11 ?_
    refine r_iload_n 3 rfl dJ7_fill_53178_12 ?_
    refine r_gd (fun h1 => ?_)
    refine r_bd ?_
    refine r_iastore (lvs_17 _) (ia_17 _ _ _) h1 dJ7_fill_53178_13 ?_
    refine r_iinc (1) [(2, .int _), (3, .int _), (0, .ref _), (1, .int _)] 1 rfl (by decide) rfl (by decide) dJ7_fill_53178_14 ?_
    refine r_goto 5 dJ7_fill_53178_17 (by decide) ?_
    exact r_sub [1, 0, 2, 3] rfl (ih _ _ _ _)
theorem nc_J7_fill_53178_17 (X : Xt) (hst : X.1.stackTraces = false) (ad : Ad) (σ : Wd) (p1 : Int32) : NC X (fun a => a = ad) yJ7_fill_53178 cJ7_fill_53178 4 none 0 0 vV (0, 0) ad σ [.ref (ad 17 0), .int p1] (f_J7_fill_53178_17 σ p1) := by
  unfold f_J7_fill_53178_17
  refine NC.intro RJ7 rfl hst (by decide) (Nat.le_of_ble_eq_true rfl) (lv := [(0, .ref _), (1, .int _)]) rfl ?_
  refine r_iconst (0) (by decide) dJ7_fill_53178_0 ?_
  refine r_istore_n [(2, .int _), (0, .ref _), (1, .int _)] rfl (by decide) dJ7_fill_53178_1 ?_
  refine r_aload_n 1 rfl dJ7_fill_53178_2 ?_
  refine r_alen (6) (lvs_17 _) (cell_17 _ _ _ _) rfl rfl dJ7_fill_53178_3 ?_
  refine r_istore_n [(3, .int _), (2, .int _), (0, .ref _), (1, .int _)] rfl (by decide) dJ7_fill_53178_4 ?_
  exact r_sub [0, 1, 2, 3] rfl ((bl_J7_fill_53178_17_5 X hst ad FU) _ _ _ _)
def l_J7_fill_53178_24_5 : Nat → Wd → Int32 → Int32 → Nat → Int32 → Option ((Unit ⊕ String) × Wd)
  | 0, _, _, _, _, _ => none
  | n + 1, σ, a3, a2, ua0, a1 =>
  if a3 ≤ a2 then
    some (.inl (), σ)
  else
    gd (ua0 < σ.2.2 8) <|
    gd (inb a2 4) <|
    bd (wr σ 24 ua0 a2.toNatClampNeg a1) fun σ1 =>
    (l_J7_fill_53178_24_5 n) σ1 a3 (a2 + 1) ua0 a1
def f_J7_fill_53178_24 (σ : Wd) (i0 : Nat) (p1 : Int32) : Option ((Unit ⊕ String) × Wd) :=
  gd (i0 < σ.2.2 8) <|
  l_J7_fill_53178_24_5 FU σ (4 : Int32) (0 : Int32) i0 p1
theorem bl_J7_fill_53178_24_5 (X : Xt) (hst : X.1.stackTraces = false) (ad : Ad) : ∀ (n : Nat) (σ : Wd) (a3 : Int32) (a2 : Int32) (ua0 : Nat) (a1 : Int32), Bk X (fun a => a = ad) cJ7_fill_53178 4 RJ7 none 0 0 vV (0, 0) (0, 0) ad σ 5 [(3, .int a3), (2, .int a2), (0, .ref (ad 24 ua0)), (1, .int a1)] [] (l_J7_fill_53178_24_5 n σ a3 a2 ua0 a1) := by
  intro n
  induction n with
  | zero => intros; exact r_none
  | succ n ih =>
  intro σ a3 a2 ua0 a1
  rw [l_J7_fill_53178_24_5]
  refine r_iload_n 1 rfl dJ7_fill_53178_5 ?_
  refine r_iload_n 0 rfl dJ7_fill_53178_6 ?_
  refine r_icmp_ge 20 dJ7_fill_53178_7 (by decide) ?_ ?_
  · exact r_vret rfl rfl rfl dJ7_fill_53178_20
  · refine r_aload_n 2 rfl dJ7_fill_53178_10 ?_
    refine r_iload_n 1 rfl dJ7_fill_53178_11 ?_
    refine r_iload_n 3 rfl dJ7_fill_53178_12 ?_
    refine r_gd (fun h2 => ?_)
    refine r_gd (fun h3 => ?_)
    refine r_bd ?_
    refine r_iastore (lvd_24 h2) (ia_24 _ _ _) h3 dJ7_fill_53178_13 ?_
    refine r_iinc (1) [(2, .int _), (3, .int _), (0, .ref _), (1, .int _)] 1 rfl (by decide) rfl (by decide) dJ7_fill_53178_14 ?_
    refine r_goto 5 dJ7_fill_53178_17 (by decide) ?_
    exact r_sub [1, 0, 2, 3] rfl (ih _ _ _ _ _)
theorem nc_J7_fill_53178_24 (X : Xt) (hst : X.1.stackTraces = false) (ad : Ad) (σ : Wd) (i0 : Nat) (p1 : Int32) : NC X (fun a => a = ad) yJ7_fill_53178 cJ7_fill_53178 4 none 0 0 vV (0, 0) ad σ [.ref (ad 24 i0), .int p1] (f_J7_fill_53178_24 σ i0 p1) := by
  unfold f_J7_fill_53178_24
  refine NC.intro RJ7 rfl hst (by decide) (Nat.le_of_ble_eq_true rfl) (lv := [(0, .ref _), (1, .int _)]) rfl ?_
  refine r_iconst (0) (by decide) dJ7_fill_53178_0 ?_
  refine r_istore_n [(2, .int _), (0, .ref _), (1, .int _)] rfl (by decide) dJ7_fill_53178_1 ?_
  refine r_aload_n 1 rfl dJ7_fill_53178_2 ?_
  refine r_gd (fun h1 => ?_)
  refine r_alen (4) (lvd_24 h1) (cell_24 _ _ _ _) rfl rfl dJ7_fill_53178_3 ?_
  refine r_istore_n [(3, .int _), (2, .int _), (0, .ref _), (1, .int _)] rfl (by decide) dJ7_fill_53178_4 ?_
  exact r_sub [0, 1, 2, 3] rfl ((bl_J7_fill_53178_24_5 X hst ad FU) _ _ _ _ _)
