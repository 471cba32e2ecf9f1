theorem w_394 : Cond.methodLink RJxa1e45 1 objectInit ∈ G_ := gt1 45 (by decide +kernel) (by decide +kernel)
theorem w_395 : Cond.instanceMethod objectInit ∈ G_ := gt1 32 (by decide +kernel) (by decide +kernel)
theorem w_396 : Cond.code objectInit ⟨#[0xb1]⟩ 1 none ∈ G_ := gt1 33 (by decide +kernel) (by decide +kernel)
theorem w_397 : Cond.methodLink RJxc12de 1 yJxa1e45_init_da8c8 ∈ G_ := gt1 42 (by decide +kernel) (by decide +kernel)
theorem w_398 : Cond.instanceMethod yJxa1e45_init_da8c8 ∈ G_ := gt1 43 (by decide +kernel) (by decide +kernel)
theorem w_399 : Cond.initialized RJxa1e45 ∈ G_ := gt1 2 (by decide +kernel) (by decide +kernel)
theorem w_400 : Cond.code yJxa1e45_init_da8c8 cJxa1e45_init_da8c8 1 none ∈ G_ := gt1 44 (by decide +kernel) (by decide +kernel)
theorem w_401 : Cond.fieldLink RJxc12de 7 "java/util/AbstractList" "modCount" "I" ∈ G_ := gt1 50 (by decide +kernel) (by decide +kernel)
theorem w_402 : Cond.methodLink RJx4a65c 1 yJxc12de_init_da8c8 ∈ G_ := gt1 39 (by decide +kernel) (by decide +kernel)
theorem w_403 : Cond.instanceMethod yJxc12de_init_da8c8 ∈ G_ := gt1 40 (by decide +kernel) (by decide +kernel)
theorem w_404 : Cond.initialized RJxc12de ∈ G_ := gt1 3 (by decide +kernel) (by decide +kernel)
theorem w_405 : Cond.code yJxc12de_init_da8c8 cJxc12de_init_da8c8 1 none ∈ G_ := gt1 41 (by decide +kernel) (by decide +kernel)
theorem w_406 : Cond.fieldLink RJx4a65c 39 "java/util/ArrayList" "DEFAULTCAPACITY_EMPTY_ELEMENTDATA" "[Ljava/lang/Object;" ∈ G_ := gt1 46 (by decide +kernel) (by decide +kernel)
theorem w_407 : Cond.methodLink RX1 1 objectInit ∈ G_ := gt1 74 (by decide +kernel) (by decide +kernel)
theorem w_408 : Cond.methodLink RX5 3 objectInit ∈ G_ := gt1 94 (by decide +kernel) (by decide +kernel)
theorem w_409 : Cond.methodLink RX6 3 objectInit ∈ G_ := gt1 160 (by decide +kernel) (by decide +kernel)
theorem w_410 : Cond.arrayClass .int ∈ G_ := gt1 142 (by decide +kernel) (by decide +kernel)
theorem w_411 : Cond.methodLink RX4 3 objectInit ∈ G_ := gt1 148 (by decide +kernel) (by decide +kernel)
theorem w_412 : Cond.methodLink RX4 15 yJ7_fill_53178 ∈ G_ := gt1 149 (by decide +kernel) (by decide +kernel)
theorem w_413 : Cond.methodLink RX3 3 objectInit ∈ G_ := gt1 116 (by decide +kernel) (by decide +kernel)
theorem w_414 : Cond.methodLink RX7 3 objectInit ∈ G_ := gt1 67 (by decide +kernel) (by decide +kernel)
theorem w_415 : Cond.classLink RX7 9 "Stablingroad$Exam" ∈ G_ := gt1 68 (by decide +kernel) (by decide +kernel)
theorem w_416 : Cond.instantiable RX1 3 ∈ G_ := gt1 70 (by decide +kernel) (by decide +kernel)
theorem w_417 : Cond.methodLink RX7 11 yX1_init ∈ G_ := gt1 71 (by decide +kernel) (by decide +kernel)
theorem w_418 : Cond.instanceMethod yX1_init ∈ G_ := gt1 72 (by decide +kernel) (by decide +kernel)
theorem w_419 : Cond.code yX1_init cX1_init 4 none ∈ G_ := gt1 73 (by decide +kernel) (by decide +kernel)
theorem w_420 : Cond.classLink RX7 20 "Stablingroad$Permit" ∈ G_ := gt1 88 (by decide +kernel) (by decide +kernel)
theorem w_421 : Cond.instantiable RX5 2 ∈ G_ := gt1 90 (by decide +kernel) (by decide +kernel)
theorem w_422 : Cond.methodLinkNest RX7 22 yX5_init "Stablingroad" ∈ NW_ := nt1 91 (by decide +kernel) (by decide +kernel)
theorem w_423 : Cond.instanceMethod yX5_init ∈ G_ := gt1 92 (by decide +kernel) (by decide +kernel)
theorem w_424 : Cond.code yX5_init cX5_init 1 none ∈ G_ := gt1 93 (by decide +kernel) (by decide +kernel)
theorem w_425 : Cond.methodLink RX8 3 objectInit ∈ G_ := gt2 80 (by decide +kernel) (by decide +kernel)
theorem w_426 : Cond.classLink RX8 9 "java/util/ArrayList" ∈ G_ := gt2 81 (by decide +kernel) (by decide +kernel)
theorem w_427 : Cond.instantiable RJx4a65c 3 ∈ G_ := gt1 35 (by decide +kernel) (by decide +kernel)
theorem w_428 : Cond.methodLink RX8 11 yJx4a65c_init_da8c8 ∈ G_ := gt2 82 (by decide +kernel) (by decide +kernel)
theorem w_429 : Cond.instanceMethod yJx4a65c_init_da8c8 ∈ G_ := gt1 37 (by decide +kernel) (by decide +kernel)
theorem w_430 : Cond.code yJx4a65c_init_da8c8 cJx4a65c_init_da8c8 1 none ∈ G_ := gt1 38 (by decide +kernel) (by decide +kernel)
theorem w_431 : Cond.fieldLink RX8 28 "Stablingroad$Unit" "depot" "I" ∈ G_ := gt2 89 (by decide +kernel) (by decide +kernel)
theorem w_432 : Cond.fieldLink RX8 35 "Stablingroad$Unit" "kmTold" "I" ∈ G_ := gt2 84 (by decide +kernel) (by decide +kernel)
theorem w_433 : Cond.methodLink RX0 3 objectInit ∈ G_ := gt2 191 (by decide +kernel) (by decide +kernel)
theorem w_434 : Cond.fieldLink RX0 15 "Stablingroad$Diagram" "from" "I" ∈ G_ := gt2 192 (by decide +kernel) (by decide +kernel)
theorem w_435 : Cond.fieldLink RX0 18 "Stablingroad$Diagram" "to" "I" ∈ G_ := gt2 194 (by decide +kernel) (by decide +kernel)
theorem w_436 : Cond.fieldLink RX0 21 "Stablingroad$Diagram" "km" "I" ∈ G_ := gt2 196 (by decide +kernel) (by decide +kernel)
theorem w_437 : Cond.fieldLink RX0 24 "Stablingroad$Diagram" "line" "I" ∈ G_ := gt2 199 (by decide +kernel) (by decide +kernel)
theorem w_438 : Cond.fieldLink RX0 27 "Stablingroad$Diagram" "weight" "I" ∈ G_ := gt2 201 (by decide +kernel) (by decide +kernel)
theorem w_439 : Cond.methodLink RX2 3 objectInit ∈ G_ := gt4 65 (by decide +kernel) (by decide +kernel)
theorem w_440 : Cond.fieldLink RX2 15 "Stablingroad$Fault" "toldOn" "I" ∈ G_ := gt4 70 (by decide +kernel) (by decide +kernel)
theorem w_441 : Cond.fieldLink RX2 18 "Stablingroad$Fault" "where" "I" ∈ G_ := gt4 73 (by decide +kernel) (by decide +kernel)
theorem w_442 : Cond.methodLink RX9 1 objectInit ∈ G_ := gt1 31 (by decide +kernel) (by decide +kernel)
theorem w_443 : Cond.classLink RX9 7 "java/util/ArrayList" ∈ G_ := gt1 34 (by decide +kernel) (by decide +kernel)
theorem w_444 : Cond.methodLink RX9 9 yJx4a65c_init_da8c8 ∈ G_ := gt1 36 (by decide +kernel) (by decide +kernel)
theorem w_445 : Cond.classLink RX9 19 "Stablingroad$Row" ∈ G_ := gt1 60 (by decide +kernel) (by decide +kernel)
theorem w_446 : Cond.classLink RX9 25 "Stablingroad$Rules" ∈ G_ := gt1 62 (by decide +kernel) (by decide +kernel)
theorem w_447 : Cond.instantiable RX7 2 ∈ G_ := gt1 63 (by decide +kernel) (by decide +kernel)
theorem w_448 : Cond.methodLinkNest RX9 27 yX7_init "Stablingroad" ∈ NW_ := nt1 64 (by decide +kernel) (by decide +kernel)
theorem w_449 : Cond.instanceMethod yX7_init ∈ G_ := gt1 65 (by decide +kernel) (by decide +kernel)
theorem w_450 : Cond.code yX7_init cX7_init 1 none ∈ G_ := gt1 66 (by decide +kernel) (by decide +kernel)
theorem w_451 : Cond.classLink RX9 32 "Stablingroad$Morning" ∈ G_ := gt1 111 (by decide +kernel) (by decide +kernel)
theorem w_452 : Cond.instantiable RX3 8 ∈ G_ := gt1 112 (by decide +kernel) (by decide +kernel)
theorem w_453 : Cond.methodLinkNest RX9 34 yX3_init "Stablingroad" ∈ NW_ := nt1 113 (by decide +kernel) (by decide +kernel)
theorem w_454 : Cond.instanceMethod yX3_init ∈ G_ := gt1 114 (by decide +kernel) (by decide +kernel)
theorem w_455 : Cond.code yX3_init cX3_init 1 none ∈ G_ := gt1 115 (by decide +kernel) (by decide +kernel)
theorem w_456 : Cond.classLink RX9 39 "Stablingroad$Past" ∈ G_ := gt1 143 (by decide +kernel) (by decide +kernel)
theorem w_457 : Cond.instantiable RX4 1 ∈ G_ := gt1 144 (by decide +kernel) (by decide +kernel)
theorem w_458 : Cond.methodLink RX9 41 yX4_init ∈ G_ := gt1 145 (by decide +kernel) (by decide +kernel)
theorem w_459 : Cond.instanceMethod yX4_init ∈ G_ := gt1 146 (by decide +kernel) (by decide +kernel)
theorem w_460 : Cond.code yX4_init cX4_init 1 none ∈ G_ := gt1 147 (by decide +kernel) (by decide +kernel)
theorem w_461 : Cond.instantiable RX6 2 ∈ G_ := gt1 156 (by decide +kernel) (by decide +kernel)
theorem w_462 : Cond.methodLinkNest RX9 60 yX6_init "Stablingroad" ∈ NW_ := nt1 157 (by decide +kernel) (by decide +kernel)
theorem w_463 : Cond.instanceMethod yX6_init ∈ G_ := gt1 158 (by decide +kernel) (by decide +kernel)
theorem w_464 : Cond.code yX6_init cX6_init 1 none ∈ G_ := gt1 159 (by decide +kernel) (by decide +kernel)
theorem ci_Jxa1e45_init_da8c8 (X : Xt) (hst : X.1.stackTraces = false) (h0 : Nat) : CI X yJxa1e45_init_da8c8 cJxa1e45_init_da8c8 1 1 12 (0, 0) [(h0, .inr (0, [.int 0, .null, .int 0]))] [.ref h0] (fun w => w = [(h0, .inr (0, [.int 0, .null, .int 0]))]) := by
  refine CI.intro RJxa1e45 rfl hst (by decide) (Nat.le_of_ble_eq_true rfl) (lv := [(0, .ref _)]) rfl (Cini X cJxa1e45_init_da8c8 1 RJxa1e45 "<init>") (fun p e s m args below meth c B hn => ⟨B, hn, rfl⟩) (fun sz hsz hws hD0 => ?_)
  have hC := Cini.ctx (cc := cJxa1e45_init_da8c8) (nL := 1) (own := RJxa1e45) (nm := "<init>") hsz hws
  have hI : ∀ p e s m args below meth c, Cini X cJxa1e45_init_da8c8 1 RJxa1e45 "<init>" sz p e s m args below meth c → meth.name = "<init>" := fun _ _ _ _ _ _ _ _ z => z.2.1
  refine w_aload_n 0 rfl hC dJxa1e45_init_da8c8_0 ?_
  refine w_objInit hC w_394 w_395 w_396 (by decide) (Nat.le_of_ble_eq_true rfl) dJxa1e45_init_da8c8_1 ?_
  refine w_vret (kc := (0, 0)) ?_ dJxa1e45_init_da8c8_4
  exact rfl
theorem ci_Jxc12de_init_da8c8 (X : Xt) (hst : X.1.stackTraces = false) (h0 : Nat) : CI X yJxc12de_init_da8c8 cJxc12de_init_da8c8 1 2 32 (0, 0) [(h0, .inr (0, [.int 0, .null, .int 0]))] [.ref h0] (fun w => w = [(h0, .inr (0, [.int (0 : Int32), .null, .int 0]))]) := by
  refine CI.intro RJxc12de rfl hst (by decide) (Nat.le_of_ble_eq_true rfl) (lv := [(0, .ref _)]) rfl (Cini X cJxc12de_init_da8c8 1 RJxc12de "<init>") (fun p e s m args below meth c B hn => ⟨B, hn, rfl⟩) (fun sz hsz hws hD0 => ?_)
  have hC := Cini.ctx (cc := cJxc12de_init_da8c8) (nL := 1) (own := RJxc12de) (nm := "<init>") hsz hws
  have hI : ∀ p e s m args below meth c, Cini X cJxc12de_init_da8c8 1 RJxc12de "<init>" sz p e s m args below meth c → meth.name = "<init>" := fun _ _ _ _ _ _ _ _ z => z.2.1
  refine w_aload_n 0 rfl hC dJxc12de_init_da8c8_0 ?_
  refine w_callI (wr := []) (n := 0) (As := []) hC [0] [] rfl rfl (by decide) (by decide) (by decide) (ci_Jxa1e45_init_da8c8 X hst _) ⟨by decide, by decide, by decide +kernel⟩ rfl w_397 w_398 w_399 w_400 rfl rfl (Nat.le_of_ble_eq_true rfl) ⟨by decide, by decide⟩ ⟨Nat.le_of_ble_eq_true rfl, Nat.le_of_ble_eq_true rfl⟩ dJxc12de_init_da8c8_1 (fun w9 h9 => ?_)
  obtain rfl := h9
  refine w_aload_n 0 rfl hC dJxc12de_init_da8c8_4 ?_
  refine w_iconst (0) (by decide) hC dJxc12de_init_da8c8_5 ?_
  refine w_put (q0 := 0) (k := 0) hC hI tyJx4a65c tyJx4a65c_ok nmJx4a65c rfl rfl in_0 (by decide) w_401 (fun _ => rfl) rfl rfl (Nat.le_of_ble_eq_true rfl) dJxc12de_init_da8c8_6 ?_
  refine w_vret (kc := (0, 0)) ?_ dJxc12de_init_da8c8_9
  exact rfl
theorem ci_Jx4a65c_init_da8c8 (X : Xt) (hst : X.1.stackTraces = false) (h0 : Nat) : CI X yJx4a65c_init_da8c8 cJx4a65c_init_da8c8 1 3 52 (0, 0) [(h0, .inr (0, [.int 0, .null, .int 0]))] [.ref h0] (fun w => w = [(h0, .inr (0, [.int (0 : Int32), .ref X.2.2.2.2, .int 0]))]) := by
  refine CI.intro RJx4a65c rfl hst (by decide) (Nat.le_of_ble_eq_true rfl) (lv := [(0, .ref _)]) rfl (Cini X cJx4a65c_init_da8c8 1 RJx4a65c "<init>") (fun p e s m args below meth c B hn => ⟨B, hn, rfl⟩) (fun sz hsz hws hD0 => ?_)
  have hC := Cini.ctx (cc := cJx4a65c_init_da8c8) (nL := 1) (own := RJx4a65c) (nm := "<init>") hsz hws
  have hI : ∀ p e s m args below meth c, Cini X cJx4a65c_init_da8c8 1 RJx4a65c "<init>" sz p e s m args below meth c → meth.name = "<init>" := fun _ _ _ _ _ _ _ _ z => z.2.1
  refine w_aload_n 0 rfl hC dJx4a65c_init_da8c8_0 ?_
  refine w_callI (wr := []) (n := 0) (As := []) hC [0] [] rfl rfl (by decide) (by decide) (by decide) (ci_Jxc12de_init_da8c8 X hst _) ⟨by decide, by decide, by decide +kernel⟩ rfl w_402 w_403 w_404 w_405 rfl rfl (Nat.le_of_ble_eq_true rfl) ⟨by decide, by decide⟩ ⟨Nat.le_of_ble_eq_true rfl, Nat.le_of_ble_eq_true rfl⟩ dJx4a65c_init_da8c8_1 (fun w9 h9 => ?_)
  obtain rfl := h9
  refine w_aload_n 0 rfl hC dJx4a65c_init_da8c8_4 ?_
  refine w_gets hC w_406 dJx4a65c_init_da8c8_5 ?_
  refine w_put (q0 := 0) (k := 1) hC hI tyJx4a65c tyJx4a65c_ok nmJx4a65c rfl rfl in_0 (by decide) w_100 (fun _ => rfl) rfl rfl (Nat.le_of_ble_eq_true rfl) dJx4a65c_init_da8c8_8 ?_
  refine w_vret (kc := (0, 0)) ?_ dJx4a65c_init_da8c8_11
  exact rfl
theorem arr_congr {X : Xt} {a N : Nat} {f g : Nat → Int32} {q : Nat} {H : Heap} (h : ∀ j, j < N → f j = g j) (hP : va_P X.2.1 vwCl [(q, .inl (X.2.2.1 a, N, .inl f))] H) : va_P X.2.1 vwCl [(q, .inl (X.2.2.1 a, N, .inl g))] H := by
  refine va_P1 ?_
  have h1 : H[q]? = some (vp_cell (X.2.2.1 a) (N, .inl f)) := hP 0 _ rfl
  show H[q]? = some (vp_cell (X.2.2.1 a) (N, .inl g))
  rw [h1, vp_cell_i, vp_cell_i]
  refine congrArg some ?_
  unfold arrV
  congr 1
  apply Array.ext
  · simp
  · intro i h1 h2
    simp at h1
    simp [h i h1]
theorem va_D_map {A : Nat → Prop} {ws ws' : va_W} (h : ws.map (fun q => q.1) = ws'.map (fun q => q.1)) (hD : va_D A ws) : va_D A ws' := by
  have key : ∀ (k : Nat) (q : Nat × va_E), ws'[k]? = some q → ∃ q0, ws[k]? = some q0 ∧ q0.1 = q.1 := by
    intro k q hk
    have h1 : (ws'.map (fun q => q.1))[k]? = some q.1 := by rw [List.getElem?_map, hk]; rfl
    rw [← h, List.getElem?_map] at h1
    cases hq : ws[k]? with
    | none => rw [hq] at h1; cases h1
    | some q0 => rw [hq] at h1; exact ⟨q0, rfl, Option.some.inj h1⟩
  refine ⟨fun i j x y hi hj hxy => ?_, fun k q hk => ?_⟩
  · obtain ⟨x0, h1, h2⟩ := key i x hi
    obtain ⟨y0, h3, h4⟩ := key j y hj
    exact hD.1 i j x0 y0 h1 h3 (h2.trans (hxy.trans h4.symm))
  · obtain ⟨q0, h1, h2⟩ := key k q hk
    rw [← h2]
    exact hD.2 k q0 h1
theorem w_conv {X : Xt} {C0 : C0t} {R : Room} {Q : State → MethodId → Array Value → List Frame → State → Prop} {A : Nat → Prop} {nL : Nat} {ws ws' : va_W} {cs : Nat × Nat} {pc : Nat} {lv : List (Nat × Value)} {st : List Value} (hc : ∀ H, va_P X.2.1 vwCl ws H → va_P X.2.1 vwCl ws' H) (hd : ws.map (fun q => q.1) = ws'.map (fun q => q.1)) (k : Bw X C0 R Q A nL ws' cs pc lv st) : Bw X C0 R Q A nL ws cs pc lv st :=
  fun p e s m args below meth c B H locs ls hP hD hS hl => k p e s m args below meth c B H locs ls (hc H hP) (va_D_map hd hD) hS hl
theorem ci_fill (X : Xt) (hst : X.1.stackTraces = false) (q N : Nat) (f : Nat → Int32) (v : Int32) (hN : N < 2 ^ 31 := by decide) : CI X yJ7_fill_53178 cJ7_fill_53178 4 0 0 (0, 0) [(q, .inl (X.2.2.1 0, N, .inl f))] [.ref q, .int v] (fun w => w = [(q, .inl (X.2.2.1 0, N, .inl (fun _ => v)))]) := by
  refine CI.intro RJ7 rfl hst (by decide) (Nat.le_of_ble_eq_true rfl) (lv := [(0, .ref _), (1, .int _)]) rfl (Cini X cJ7_fill_53178 4 RJ7 "fill") (fun p e s m args below meth c B hn => ⟨B, hn, rfl⟩) (fun sz hsz hws hD0 => ?_)
  have hC := Cini.ctx (cc := cJ7_fill_53178) (nL := 4) (own := RJ7) (nm := "fill") hsz hws
  refine w_iconst (0) (by decide) hC dJ7_fill_53178_0 ?_
  refine w_istore_n [(2, .int _), (0, .ref _), (1, .int _)] rfl (by decide) hC dJ7_fill_53178_1 ?_
  refine w_aload_n 1 rfl hC dJ7_fill_53178_2 ?_
  refine w_alen (q0 := 0) (Int32.ofNat N) hC rfl rfl rfl dJ7_fill_53178_3 ?_
  refine w_istore_n [(3, .int _), (2, .int _), (0, .ref _), (1, .int _)] rfl (by decide) hC dJ7_fill_53178_4 ?_
  have key : ∀ (k i : Nat) (g : Nat → Int32), i ≤ N → N - i ≤ k → (∀ j, j < i → g j = v) → Bw X (Cini X cJ7_fill_53178 4 RJ7 "fill" sz) { frames := 0, cells := 0, slots := 0, locals := 0 } (Qi X (0, 0) [(q, .inl (X.2.2.1 0, N, .inl f))] sz (fun w => w = [(q, .inl (X.2.2.1 0, N, .inl (fun _ => v)))])) (va_A [(q, .inl (X.2.2.1 0, N, .inl f))] sz) 4 [(q, .inl (X.2.2.1 0, N, .inl g))] (0, 0) 5 [(3, .int (nI N)), (2, .int (nI i)), (0, .ref q), (1, .int v)] [] := by
    intro k
    induction k with
    | zero =>
      intro i g hi hk hg
      have hiN : i = N := by omega
      subst hiN
      refine w_iload_n 1 rfl hC dJ7_fill_53178_5 ?_
      refine w_iload_n 0 rfl hC dJ7_fill_53178_6 ?_
      refine w_icmp_ge 20 (by decide) hC dJ7_fill_53178_7 (fun hc => ?_) (fun hc => ?_)
      · refine w_conv (ws' := [(q, .inl (X.2.2.1 0, i, .inl (fun _ => v)))]) (fun H hP => arr_congr hg hP) rfl ?_
        refine w_vret (kc := (0, 0)) ?_ dJ7_fill_53178_20
        rfl
      · exact absurd (nI_le (Nat.le_refl i) hN) hc
    | succ k ih =>
      intro i g hi hk hg
      refine w_iload_n 1 rfl hC dJ7_fill_53178_5 ?_
      refine w_iload_n 0 rfl hC dJ7_fill_53178_6 ?_
      refine w_icmp_ge 20 (by decide) hC dJ7_fill_53178_7 (fun hc => ?_) (fun hc => ?_)
      · have hiN : i = N := by
          have := (nI_leI hN (by omega)).mp hc
          omega
        subst hiN
        refine w_conv (ws' := [(q, .inl (X.2.2.1 0, i, .inl (fun _ => v)))]) (fun H hP => arr_congr hg hP) rfl ?_
        refine w_vret (kc := (0, 0)) ?_ dJ7_fill_53178_20
        rfl
      · have hlt : i < N := by
          rcases Nat.lt_or_ge i N with z | z
          · exact z
          · exact absurd (nI_le z (by omega)) hc
        refine w_aload_n 2 rfl hC dJ7_fill_53178_10 ?_
        refine w_iload_n 1 rfl hC dJ7_fill_53178_11 ?_
        refine w_iload_n 3 rfl hC dJ7_fill_53178_12 ?_
        refine w_iast (q0 := 0) hC rfl ⟨nI_pos (by omega), by rw [nI_clamp (by omega)]; exact hlt⟩ dJ7_fill_53178_13 ?_
        refine w_iinc (1) [(2, .int _), (3, .int _), (0, .ref _), (1, .int _)] 1 rfl (by decide) rfl (by decide) hC dJ7_fill_53178_14 ?_
        refine w_goto 5 (by decide) hC dJ7_fill_53178_17 ?_
        rw [nI_1 i]
        refine w_sub [1, 0, 2, 3] rfl ?_
        refine ih (i + 1) (upd g (nI i).toNatClampNeg v) (by omega) (by omega) (fun j hj => ?_)
        rw [nI_clamp (by omega)]
        unfold upd
        by_cases hji : j = i
        · rw [if_pos hji]
        · rw [if_neg hji]; exact hg j (by omega)
  exact key N 0 f (Nat.zero_le _) (by omega) (fun j hj => absurd hj (Nat.not_lt_zero j))

theorem ci_X1_init (X : Xt) (hst : X.1.stackTraces = false) (h0 : Nat) (p0 : Int32) (p1 : Int32) (p2 : Int32) : CI X yX1_init cX1_init 4 1 12 (0, 0) [(h0, .inr (2, [.int 0, .int 0, .int 0]))] [.ref h0, .int p0, .int p1, .int p2] (fun w => w = [(h0, .inr (2, [.int p0, .int p1, .int p2]))]) := by
  refine CI.intro RX1 rfl hst (by decide) (Nat.le_of_ble_eq_true rfl) (lv := [(0, .ref _), (1, .int _), (2, .int _), (3, .int _)]) rfl (Cini X cX1_init 4 RX1 "<init>") (fun p e s m args below meth c B hn => ⟨B, hn, rfl⟩) (fun sz hsz hws hD0 => ?_)
  have hC := Cini.ctx (cc := cX1_init) (nL := 4) (own := RX1) (nm := "<init>") hsz hws
  have hI : ∀ p e s m args below meth c, Cini X cX1_init 4 RX1 "<init>" sz p e s m args below meth c → meth.name = "<init>" := fun _ _ _ _ _ _ _ _ z => z.2.1
  refine w_aload_n 0 rfl hC dX1_init_0 ?_
  refine w_objInit hC w_407 w_395 w_396 (by decide) (Nat.le_of_ble_eq_true rfl) dX1_init_1 ?_
  refine w_aload_n 0 rfl hC dX1_init_4 ?_
  refine w_iload_n 1 rfl hC dX1_init_5 ?_
  refine w_put (q0 := 0) (k := 0) hC hI tyX1 tyX1_ok nmX1 rfl rfl in_2 (by decide) w_1 (fun _ => rfl) rfl rfl (Nat.le_of_ble_eq_true rfl) dX1_init_6 ?_
  refine w_aload_n 0 rfl hC dX1_init_9 ?_
  refine w_iload_n 2 rfl hC dX1_init_10 ?_
  refine w_put (q0 := 0) (k := 1) hC hI tyX1 tyX1_ok nmX1 rfl rfl in_2 (by decide) w_2 (fun _ => rfl) rfl rfl (Nat.le_of_ble_eq_true rfl) dX1_init_11 ?_
  refine w_aload_n 0 rfl hC dX1_init_14 ?_
  refine w_iload_n 3 rfl hC dX1_init_15 ?_
  refine w_put (q0 := 0) (k := 2) hC hI tyX1 tyX1_ok nmX1 rfl rfl in_2 (by decide) w_8 (fun _ => rfl) rfl rfl (Nat.le_of_ble_eq_true rfl) dX1_init_16 ?_
  refine w_vret (kc := (0, 0)) ?_ dX1_init_19
  exact rfl
theorem ci_X5_init (X : Xt) (hst : X.1.stackTraces = false) (h0 : Nat) : CI X yX5_init cX5_init 1 1 12 (0, 0) [(h0, .inr (6, [.int 0, .int 0]))] [.ref h0] (fun w => w = [(h0, .inr (6, [.int (-1 : Int32), .int (0 : Int32)]))]) := by
  refine CI.intro RX5 rfl hst (by decide) (Nat.le_of_ble_eq_true rfl) (lv := [(0, .ref _)]) rfl (Cini X cX5_init 1 RX5 "<init>") (fun p e s m args below meth c B hn => ⟨B, hn, rfl⟩) (fun sz hsz hws hD0 => ?_)
  have hC := Cini.ctx (cc := cX5_init) (nL := 1) (own := RX5) (nm := "<init>") hsz hws
  have hI : ∀ p e s m args below meth c, Cini X cX5_init 1 RX5 "<init>" sz p e s m args below meth c → meth.name = "<init>" := fun _ _ _ _ _ _ _ _ z => z.2.1
  refine w_aload_n 0 rfl hC dX5_init_0 ?_
  refine w_objInit hC w_408 w_395 w_396 (by decide) (Nat.le_of_ble_eq_true rfl) dX5_init_1 ?_
  refine w_aload_n 0 rfl hC dX5_init_4 ?_
  refine w_iconst (-1) (by decide) hC dX5_init_5 ?_
  refine w_put (q0 := 0) (k := 0) hC hI tyX5 tyX5_ok nmX5 rfl rfl in_6 (by decide) w_9 (fun _ => rfl) rfl rfl (Nat.le_of_ble_eq_true rfl) dX5_init_6 ?_
  refine w_aload_n 0 rfl hC dX5_init_9 ?_
  refine w_iconst (0) (by decide) hC dX5_init_10 ?_
  refine w_put (q0 := 0) (k := 1) hC hI tyX5 tyX5_ok nmX5 rfl rfl in_6 (by decide) w_10 (fun _ => rfl) rfl rfl (Nat.le_of_ble_eq_true rfl) dX5_init_11 ?_
  refine w_vret (kc := (0, 0)) ?_ dX5_init_14
  exact rfl
theorem ci_X6_init (X : Xt) (hst : X.1.stackTraces = false) (h0 : Nat) : CI X yX6_init cX6_init 1 1 12 (1, 6) [(h0, .inr (7, [.null, .int 0]))] [.ref h0] (fun w => ∃ q1, w = [(h0, .inr (7, [.ref q1, .int (0 : Int32)])), (q1, .inl (X.2.2.1 0, 6, .inl (fun _ => 0)))]) := by
  refine CI.intro RX6 rfl hst (by decide) (Nat.le_of_ble_eq_true rfl) (lv := [(0, .ref _)]) rfl (Cini X cX6_init 1 RX6 "<init>") (fun p e s m args below meth c B hn => ⟨B, hn, rfl⟩) (fun sz hsz hws hD0 => ?_)
  have hC := Cini.ctx (cc := cX6_init) (nL := 1) (own := RX6) (nm := "<init>") hsz hws
  have hI : ∀ p e s m args below meth c, Cini X cX6_init 1 RX6 "<init>" sz p e s m args below meth c → meth.name = "<init>" := fun _ _ _ _ _ _ _ _ z => z.2.1
  refine w_aload_n 0 rfl hC dX6_init_0 ?_
  refine w_objInit hC w_409 w_395 w_396 (by decide) (Nat.le_of_ble_eq_true rfl) dX6_init_1 ?_
  refine w_aload_n 0 rfl hC dX6_init_4 ?_
  refine w_bipush (6) (by decide) hC dX6_init_5 ?_
  refine w_newa (atype := .int) (a0 := (6, .inl (fun _ => 0))) 0 hC rfl (by decide) rfl w_410 (fun _ => rfl) (by decide) (by decide) (by decide) (Nat.le_of_ble_eq_true rfl) (Nat.le_of_ble_eq_true rfl) dX6_init_7 (fun q1 => ?_)
  refine w_put (q0 := 0) (k := 0) hC hI tyX6 tyX6_ok nmX6 rfl rfl in_7 (by decide) w_14 (fun _ => rfl) rfl rfl (Nat.le_of_ble_eq_true rfl) dX6_init_9 ?_
  refine w_aload_n 0 rfl hC dX6_init_12 ?_
  refine w_iconst (0) (by decide) hC dX6_init_13 ?_
  refine w_put (q0 := 0) (k := 1) hC hI tyX6 tyX6_ok nmX6 rfl rfl in_7 (by decide) w_13 (fun _ => rfl) rfl rfl (Nat.le_of_ble_eq_true rfl) dX6_init_14 ?_
  refine w_vret (kc := (1, 6)) ?_ dX6_init_17
  exact ⟨_, rfl⟩
theorem ci_X4_init (X : Xt) (hst : X.1.stackTraces = false) (h0 : Nat) : CI X yX4_init cX4_init 1 1 23 (1, 1200) [(h0, .inr (5, [.null]))] [.ref h0] (fun w => ∃ q1, w = [(h0, .inr (5, [.ref q1])), (q1, .inl (X.2.2.1 0, 1200, .inl (fun _ => (-1 : Int32))))]) := by
  refine CI.intro RX4 rfl hst (by decide) (Nat.le_of_ble_eq_true rfl) (lv := [(0, .ref _)]) rfl (Cini X cX4_init 1 RX4 "<init>") (fun p e s m args below meth c B hn => ⟨B, hn, rfl⟩) (fun sz hsz hws hD0 => ?_)
  have hC := Cini.ctx (cc := cX4_init) (nL := 1) (own := RX4) (nm := "<init>") hsz hws
  have hI : ∀ p e s m args below meth c, Cini X cX4_init 1 RX4 "<init>" sz p e s m args below meth c → meth.name = "<init>" := fun _ _ _ _ _ _ _ _ z => z.2.1
  refine w_aload_n 0 rfl hC dX4_init_0 ?_
  refine w_objInit hC w_411 w_395 w_396 (by decide) (Nat.le_of_ble_eq_true rfl) dX4_init_1 ?_
  refine w_aload_n 0 rfl hC dX4_init_4 ?_
  refine w_sipush (1200) (by decide) hC dX4_init_5 ?_
  refine w_newa (atype := .int) (a0 := (1200, .inl (fun _ => 0))) 0 hC rfl (by decide) rfl w_410 (fun _ => rfl) (by decide) (by decide) (by decide) (Nat.le_of_ble_eq_true rfl) (Nat.le_of_ble_eq_true rfl) dX4_init_8 (fun q1 => ?_)
  refine w_put (q0 := 0) (k := 0) hC hI tyX4 tyX4_ok nmX4 rfl rfl in_5 (by decide) w_15 (fun _ => rfl) rfl rfl (Nat.le_of_ble_eq_true rfl) dX4_init_10 ?_
  refine w_aload_n 0 rfl hC dX4_init_13 ?_
  refine w_getf (q0 := 0) (k := 0) hC rfl rfl in_5 (by decide) w_15 rfl dX4_init_14 ?_
  refine w_iconst (-1) (by decide) hC dX4_init_17 ?_
  refine w_callS (wr := [_]) (n := 2) (As := [.ref _, .int _]) hC [1] [0] rfl rfl (by decide) (by decide) (by decide) (ci_fill X hst _ _ _ _) ⟨by decide, by decide, by decide +kernel⟩ w_412 w_118 w_119 w_120 rfl rfl (Nat.le_of_ble_eq_true rfl) ⟨by decide, by decide⟩ ⟨Nat.le_of_ble_eq_true rfl, Nat.le_of_ble_eq_true rfl⟩ dX4_init_18 (fun w9 h9 => ?_)
  obtain rfl := h9
  refine w_vret (kc := (1, 1200)) ?_ dX4_init_21
  exact ⟨_, rfl⟩
theorem ci_X3_init (X : Xt) (hst : X.1.stackTraces = false) (h0 : Nat) : CI X yX3_init cX3_init 1 1 12 (6, 478) [(h0, .inr (4, [.null, .null, .null, .null, .null, .null, .int 0, .int 0]))] [.ref h0] (fun w => ∃ q1 q2 q3 q4 q5 q6, w = [(h0, .inr (4, [.ref q1, .ref q2, .ref q3, .ref q4, .ref q5, .ref q6, .int (0 : Int32), .int (0 : Int32)])), (q1, .inl (X.2.2.1 0, 6, .inl (fun _ => 0))), (q2, .inl (X.2.2.1 0, 6, .inl (fun _ => 0))), (q3, .inl (X.2.2.1 0, 6, .inl (fun _ => 0))), (q4, .inl (X.2.2.1 0, 6, .inl (fun _ => 0))), (q5, .inl (X.2.2.1 0, 6, .inl (fun _ => 0))), (q6, .inl (X.2.2.1 0, 448, .inl (fun _ => 0)))]) := by
  refine CI.intro RX3 rfl hst (by decide) (Nat.le_of_ble_eq_true rfl) (lv := [(0, .ref _)]) rfl (Cini X cX3_init 1 RX3 "<init>") (fun p e s m args below meth c B hn => ⟨B, hn, rfl⟩) (fun sz hsz hws hD0 => ?_)
  have hC := Cini.ctx (cc := cX3_init) (nL := 1) (own := RX3) (nm := "<init>") hsz hws
  have hI : ∀ p e s m args below meth c, Cini X cX3_init 1 RX3 "<init>" sz p e s m args below meth c → meth.name = "<init>" := fun _ _ _ _ _ _ _ _ z => z.2.1
  refine w_aload_n 0 rfl hC dX3_init_0 ?_
  refine w_objInit hC w_413 w_395 w_396 (by decide) (Nat.le_of_ble_eq_true rfl) dX3_init_1 ?_
  refine w_aload_n 0 rfl hC dX3_init_4 ?_
  refine w_bipush (6) (by decide) hC dX3_init_5 ?_
  refine w_newa (atype := .int) (a0 := (6, .inl (fun _ => 0))) 0 hC rfl (by decide) rfl w_410 (fun _ => rfl) (by decide) (by decide) (by decide) (Nat.le_of_ble_eq_true rfl) (Nat.le_of_ble_eq_true rfl) dX3_init_7 (fun q1 => ?_)
  refine w_put (q0 := 0) (k := 0) hC hI tyX3 tyX3_ok nmX3 rfl rfl in_4 (by decide) w_44 (fun _ => rfl) rfl rfl (Nat.le_of_ble_eq_true rfl) dX3_init_9 ?_
  refine w_aload_n 0 rfl hC dX3_init_12 ?_
  refine w_bipush (6) (by decide) hC dX3_init_13 ?_
  refine w_newa (atype := .int) (a0 := (6, .inl (fun _ => 0))) 0 hC rfl (by decide) rfl w_410 (fun _ => rfl) (by decide) (by decide) (by decide) (Nat.le_of_ble_eq_true rfl) (Nat.le_of_ble_eq_true rfl) dX3_init_15 (fun q2 => ?_)
  refine w_put (q0 := 0) (k := 1) hC hI tyX3 tyX3_ok nmX3 rfl rfl in_4 (by decide) w_45 (fun _ => rfl) rfl rfl (Nat.le_of_ble_eq_true rfl) dX3_init_17 ?_
  refine w_aload_n 0 rfl hC dX3_init_20 ?_
  refine w_bipush (6) (by decide) hC dX3_init_21 ?_
  refine w_newa (atype := .int) (a0 := (6, .inl (fun _ => 0))) 0 hC rfl (by decide) rfl w_410 (fun _ => rfl) (by decide) (by decide) (by decide) (Nat.le_of_ble_eq_true rfl) (Nat.le_of_ble_eq_true rfl) dX3_init_23 (fun q3 => ?_)
  refine w_put (q0 := 0) (k := 2) hC hI tyX3 tyX3_ok nmX3 rfl rfl in_4 (by decide) w_46 (fun _ => rfl) rfl rfl (Nat.le_of_ble_eq_true rfl) dX3_init_25 ?_
  refine w_aload_n 0 rfl hC dX3_init_28 ?_
  refine w_bipush (6) (by decide) hC dX3_init_29 ?_
  refine w_newa (atype := .int) (a0 := (6, .inl (fun _ => 0))) 0 hC rfl (by decide) rfl w_410 (fun _ => rfl) (by decide) (by decide) (by decide) (Nat.le_of_ble_eq_true rfl) (Nat.le_of_ble_eq_true rfl) dX3_init_31 (fun q4 => ?_)
  refine w_put (q0 := 0) (k := 3) hC hI tyX3 tyX3_ok nmX3 rfl rfl in_4 (by decide) w_47 (fun _ => rfl) rfl rfl (Nat.le_of_ble_eq_true rfl) dX3_init_33 ?_
  refine w_aload_n 0 rfl hC dX3_init_36 ?_
  refine w_bipush (6) (by decide) hC dX3_init_37 ?_
  refine w_newa (atype := .int) (a0 := (6, .inl (fun _ => 0))) 0 hC rfl (by decide) rfl w_410 (fun _ => rfl) (by decide) (by decide) (by decide) (Nat.le_of_ble_eq_true rfl) (Nat.le_of_ble_eq_true rfl) dX3_init_39 (fun q5 => ?_)
  refine w_put (q0 := 0) (k := 4) hC hI tyX3 tyX3_ok nmX3 rfl rfl in_4 (by decide) w_82 (fun _ => rfl) rfl rfl (Nat.le_of_ble_eq_true rfl) dX3_init_41 ?_
  refine w_aload_n 0 rfl hC dX3_init_44 ?_
  refine w_sipush (448) (by decide) hC dX3_init_45 ?_
  refine w_newa (atype := .int) (a0 := (448, .inl (fun _ => 0))) 0 hC rfl (by decide) rfl w_410 (fun _ => rfl) (by decide) (by decide) (by decide) (Nat.le_of_ble_eq_true rfl) (Nat.le_of_ble_eq_true rfl) dX3_init_48 (fun q6 => ?_)
  refine w_put (q0 := 0) (k := 5) hC hI tyX3 tyX3_ok nmX3 rfl rfl in_4 (by decide) w_56 (fun _ => rfl) rfl rfl (Nat.le_of_ble_eq_true rfl) dX3_init_50 ?_
  refine w_aload_n 0 rfl hC dX3_init_53 ?_
  refine w_iconst (0) (by decide) hC dX3_init_54 ?_
  refine w_put (q0 := 0) (k := 6) hC hI tyX3 tyX3_ok nmX3 rfl rfl in_4 (by decide) w_42 (fun _ => rfl) rfl rfl (Nat.le_of_ble_eq_true rfl) dX3_init_55 ?_
  refine w_aload_n 0 rfl hC dX3_init_58 ?_
  refine w_iconst (0) (by decide) hC dX3_init_59 ?_
  refine w_put (q0 := 0) (k := 7) hC hI tyX3 tyX3_ok nmX3 rfl rfl in_4 (by decide) w_43 (fun _ => rfl) rfl rfl (Nat.le_of_ble_eq_true rfl) dX3_init_60 ?_
  refine w_vret (kc := (6, 478)) ?_ dX3_init_63
  exact ⟨_, _, _, _, _, _, rfl⟩
theorem ci_X7_init (X : Xt) (hst : X.1.stackTraces = false) (h0 : Nat) : CI X yX7_init cX7_init 1 2 35 (9, 24) [(h0, .inr (8, [.null, .null]))] [.ref h0] (fun w => ∃ q1 q2 q4 q6 q8 q9 q11 q13 q15, w = [(h0, .inr (8, [.ref q1, .ref q8])), (q1, .inl (X.2.2.1 2, 3, .inr (.inr (.inr (.inr (va_up (va_up (va_up (fun _ => none) (0 : Int32).toNatClampNeg (some q2)) (1 : Int32).toNatClampNeg (some q4)) (2 : Int32).toNatClampNeg (some q6))))))), (q2, .inr (2, [.int (1000 : Int32), .int (10 : Int32), .int (5 : Int32)])), (q4, .inr (2, [.int (3000 : Int32), .int (10 : Int32), .int (20 : Int32)])), (q6, .inr (2, [.int (9000 : Int32), .int (10 : Int32), .int (60 : Int32)])), (q8, .inl (X.2.2.1 3, 4, .inr (.inr (.inr (.inr (va_up (va_up (va_up (va_up (fun _ => none) (0 : Int32).toNatClampNeg (some q9)) (1 : Int32).toNatClampNeg (some q11)) (2 : Int32).toNatClampNeg (some q13)) (3 : Int32).toNatClampNeg (some q15))))))), (q9, .inr (6, [.int (-1 : Int32), .int (0 : Int32)])), (q11, .inr (6, [.int (-1 : Int32), .int (0 : Int32)])), (q13, .inr (6, [.int (-1 : Int32), .int (0 : Int32)])), (q15, .inr (6, [.int (-1 : Int32), .int (0 : Int32)]))]) := by
  refine CI.intro RX7 rfl hst (by decide) (Nat.le_of_ble_eq_true rfl) (lv := [(0, .ref _)]) rfl (Cini X cX7_init 1 RX7 "<init>") (fun p e s m args below meth c B hn => ⟨B, hn, rfl⟩) (fun sz hsz hws hD0 => ?_)
  have hC := Cini.ctx (cc := cX7_init) (nL := 1) (own := RX7) (nm := "<init>") hsz hws
  have hI : ∀ p e s m args below meth c, Cini X cX7_init 1 RX7 "<init>" sz p e s m args below meth c → meth.name = "<init>" := fun _ _ _ _ _ _ _ _ z => z.2.1
  refine w_aload_n 0 rfl hC dX7_init_0 ?_
  refine w_objInit hC w_414 w_395 w_396 (by decide) (Nat.le_of_ble_eq_true rfl) dX7_init_1 ?_
  refine w_aload_n 0 rfl hC dX7_init_4 ?_
  refine w_iconst (3) (by decide) hC dX7_init_5 ?_
  refine w_newq (N := 3) 2 hC rfl w_415 (by decide) (by decide) (by decide) (by decide) (Nat.le_of_ble_eq_true rfl) (Nat.le_of_ble_eq_true rfl) dX7_init_6 (fun q1 => ?_)
  refine w_dup rfl hC dX7_init_9 ?_
  refine w_iconst (0) (by decide) hC dX7_init_10 ?_
  refine w_new (ci := 2) (fs := [.int 0, .int 0, .int 0]) hC tyX1 tyX1_ok rfl in_2 w_415 w_416 w_6 (by decide) (Nat.le_of_ble_eq_true rfl) (Nat.le_of_ble_eq_true rfl) dX7_init_11 (fun q2 => ?_)
  refine w_dup rfl hC dX7_init_14 ?_
  refine w_sipush (1000) (by decide) hC dX7_init_15 ?_
  refine w_bipush (10) (by decide) hC dX7_init_18 ?_
  refine w_iconst (5) (by decide) hC dX7_init_20 ?_
  refine w_callI (wr := [_, _]) (n := 3) (As := [.int _, .int _, .int _]) hC [2] [0, 1] rfl rfl (by decide) (by decide) (by decide) (ci_X1_init X hst _ _ _ _) ⟨by decide, by decide, by decide +kernel⟩ rfl w_417 w_418 w_6 w_419 rfl rfl (Nat.le_of_ble_eq_true rfl) ⟨by decide, by decide⟩ ⟨Nat.le_of_ble_eq_true rfl, Nat.le_of_ble_eq_true rfl⟩ dX7_init_21 (fun w9 h9 => ?_)
  obtain rfl := h9
  refine w_aast (q0 := 1) (qk := 2) hC rfl rfl rfl rfl (by decide) dX7_init_24 ?_
  refine w_dup rfl hC dX7_init_25 ?_
  refine w_iconst (1) (by decide) hC dX7_init_26 ?_
  refine w_new (ci := 2) (fs := [.int 0, .int 0, .int 0]) hC tyX1 tyX1_ok rfl in_2 w_415 w_416 w_6 (by decide) (Nat.le_of_ble_eq_true rfl) (Nat.le_of_ble_eq_true rfl) dX7_init_27 (fun q4 => ?_)
  refine w_dup rfl hC dX7_init_30 ?_
  refine w_sipush (3000) (by decide) hC dX7_init_31 ?_
  refine w_bipush (10) (by decide) hC dX7_init_34 ?_
  refine w_bipush (20) (by decide) hC dX7_init_36 ?_
  refine w_callI (wr := [_, _, _]) (n := 3) (As := [.int _, .int _, .int _]) hC [3] [0, 1, 2] rfl rfl (by decide) (by decide) (by decide) (ci_X1_init X hst _ _ _ _) ⟨by decide, by decide, by decide +kernel⟩ rfl w_417 w_418 w_6 w_419 rfl rfl (Nat.le_of_ble_eq_true rfl) ⟨by decide, by decide⟩ ⟨Nat.le_of_ble_eq_true rfl, Nat.le_of_ble_eq_true rfl⟩ dX7_init_38 (fun w9 h9 => ?_)
  obtain rfl := h9
  refine w_aast (q0 := 1) (qk := 3) hC rfl rfl rfl rfl (by decide) dX7_init_41 ?_
  refine w_dup rfl hC dX7_init_42 ?_
  refine w_iconst (2) (by decide) hC dX7_init_43 ?_
  refine w_new (ci := 2) (fs := [.int 0, .int 0, .int 0]) hC tyX1 tyX1_ok rfl in_2 w_415 w_416 w_6 (by decide) (Nat.le_of_ble_eq_true rfl) (Nat.le_of_ble_eq_true rfl) dX7_init_44 (fun q6 => ?_)
  refine w_dup rfl hC dX7_init_47 ?_
  refine w_sipush (9000) (by decide) hC dX7_init_48 ?_
  refine w_bipush (10) (by decide) hC dX7_init_51 ?_
  refine w_bipush (60) (by decide) hC dX7_init_53 ?_
  refine w_callI (wr := [_, _, _, _]) (n := 3) (As := [.int _, .int _, .int _]) hC [4] [0, 1, 2, 3] rfl rfl (by decide) (by decide) (by decide) (ci_X1_init X hst _ _ _ _) ⟨by decide, by decide, by decide +kernel⟩ rfl w_417 w_418 w_6 w_419 rfl rfl (Nat.le_of_ble_eq_true rfl) ⟨by decide, by decide⟩ ⟨Nat.le_of_ble_eq_true rfl, Nat.le_of_ble_eq_true rfl⟩ dX7_init_55 (fun w9 h9 => ?_)
  obtain rfl := h9
  refine w_aast (q0 := 1) (qk := 4) hC rfl rfl rfl rfl (by decide) dX7_init_58 ?_
  refine w_put (q0 := 0) (k := 0) hC hI tyX7 tyX7_ok nmX7 rfl rfl in_8 (by decide) w_172 (fun _ => rfl) rfl rfl (Nat.le_of_ble_eq_true rfl) dX7_init_59 ?_
  refine w_aload_n 0 rfl hC dX7_init_62 ?_
  refine w_iconst (4) (by decide) hC dX7_init_63 ?_
  refine w_newq (N := 4) 3 hC rfl w_420 (by decide) (by decide) (by decide) (by decide) (Nat.le_of_ble_eq_true rfl) (Nat.le_of_ble_eq_true rfl) dX7_init_64 (fun q8 => ?_)
  refine w_dup rfl hC dX7_init_67 ?_
  refine w_iconst (0) (by decide) hC dX7_init_68 ?_
  refine w_new (ci := 6) (fs := [.int 0, .int 0]) hC tyX5 tyX5_ok rfl in_6 w_420 w_421 w_248 (by decide) (Nat.le_of_ble_eq_true rfl) (Nat.le_of_ble_eq_true rfl) dX7_init_69 (fun q9 => ?_)
  refine w_dup rfl hC dX7_init_72 ?_
  refine w_callIN (wr := [_, _, _, _, _, _]) (n := 0) (As := []) hC [6] [0, 1, 2, 3, 4, 5] rfl rfl (by decide) (by decide) (by decide) (ci_X5_init X hst _) ⟨by decide, by decide, by decide +kernel⟩ rfl w_422 w_423 w_248 w_424 rfl rfl (Nat.le_of_ble_eq_true rfl) ⟨by decide, by decide⟩ ⟨Nat.le_of_ble_eq_true rfl, Nat.le_of_ble_eq_true rfl⟩ dX7_init_73 (fun w9 h9 => ?_)
  obtain rfl := h9
  refine w_aast (q0 := 5) (qk := 6) hC rfl rfl rfl rfl (by decide) dX7_init_76 ?_
  refine w_dup rfl hC dX7_init_77 ?_
  refine w_iconst (1) (by decide) hC dX7_init_78 ?_
  refine w_new (ci := 6) (fs := [.int 0, .int 0]) hC tyX5 tyX5_ok rfl in_6 w_420 w_421 w_248 (by decide) (Nat.le_of_ble_eq_true rfl) (Nat.le_of_ble_eq_true rfl) dX7_init_79 (fun q11 => ?_)
  refine w_dup rfl hC dX7_init_82 ?_
  refine w_callIN (wr := [_, _, _, _, _, _, _]) (n := 0) (As := []) hC [7] [0, 1, 2, 3, 4, 5, 6] rfl rfl (by decide) (by decide) (by decide) (ci_X5_init X hst _) ⟨by decide, by decide, by decide +kernel⟩ rfl w_422 w_423 w_248 w_424 rfl rfl (Nat.le_of_ble_eq_true rfl) ⟨by decide, by decide⟩ ⟨Nat.le_of_ble_eq_true rfl, Nat.le_of_ble_eq_true rfl⟩ dX7_init_83 (fun w9 h9 => ?_)
  obtain rfl := h9
  refine w_aast (q0 := 5) (qk := 7) hC rfl rfl rfl rfl (by decide) dX7_init_86 ?_
  refine w_dup rfl hC dX7_init_87 ?_
  refine w_iconst (2) (by decide) hC dX7_init_88 ?_
  refine w_new (ci := 6) (fs := [.int 0, .int 0]) hC tyX5 tyX5_ok rfl in_6 w_420 w_421 w_248 (by decide) (Nat.le_of_ble_eq_true rfl) (Nat.le_of_ble_eq_true rfl) dX7_init_89 (fun q13 => ?_)
  refine w_dup rfl hC dX7_init_92 ?_
  refine w_callIN (wr := [_, _, _, _, _, _, _, _]) (n := 0) (As := []) hC [8] [0, 1, 2, 3, 4, 5, 6, 7] rfl rfl (by decide) (by decide) (by decide) (ci_X5_init X hst _) ⟨by decide, by decide, by decide +kernel⟩ rfl w_422 w_423 w_248 w_424 rfl rfl (Nat.le_of_ble_eq_true rfl) ⟨by decide, by decide⟩ ⟨Nat.le_of_ble_eq_true rfl, Nat.le_of_ble_eq_true rfl⟩ dX7_init_93 (fun w9 h9 => ?_)
  obtain rfl := h9
  refine w_aast (q0 := 5) (qk := 8) hC rfl rfl rfl rfl (by decide) dX7_init_96 ?_
  refine w_dup rfl hC dX7_init_97 ?_
  refine w_iconst (3) (by decide) hC dX7_init_98 ?_
  refine w_new (ci := 6) (fs := [.int 0, .int 0]) hC tyX5 tyX5_ok rfl in_6 w_420 w_421 w_248 (by decide) (Nat.le_of_ble_eq_true rfl) (Nat.le_of_ble_eq_true rfl) dX7_init_99 (fun q15 => ?_)
  refine w_dup rfl hC dX7_init_102 ?_
  refine w_callIN (wr := [_, _, _, _, _, _, _, _, _]) (n := 0) (As := []) hC [9] [0, 1, 2, 3, 4, 5, 6, 7, 8] rfl rfl (by decide) (by decide) (by decide) (ci_X5_init X hst _) ⟨by decide, by decide, by decide +kernel⟩ rfl w_422 w_423 w_248 w_424 rfl rfl (Nat.le_of_ble_eq_true rfl) ⟨by decide, by decide⟩ ⟨Nat.le_of_ble_eq_true rfl, Nat.le_of_ble_eq_true rfl⟩ dX7_init_103 (fun w9 h9 => ?_)
  obtain rfl := h9
  refine w_aast (q0 := 5) (qk := 9) hC rfl rfl rfl rfl (by decide) dX7_init_106 ?_
  refine w_put (q0 := 0) (k := 1) hC hI tyX7 tyX7_ok nmX7 rfl rfl in_8 (by decide) w_209 (fun _ => rfl) rfl rfl (Nat.le_of_ble_eq_true rfl) dX7_init_107 ?_
  refine w_vret (kc := (9, 24)) ?_ dX7_init_110
  exact ⟨_, _, _, _, _, _, _, _, _, rfl⟩
theorem ci_X8_init (X : Xt) (hst : X.1.stackTraces = false) (h0 : Nat) (p0 : Int32) (p1 : Int32) : CI X yX8_init cX8_init 3 4 72 (4, 13) [(h0, .inr (9, [.int 0, .null, .int 0, .int 0, .null, .null, .null]))] [.ref h0, .int p0, .int p1] (fun w => ∃ q1 q3 q4 q5, w = [(h0, .inr (9, [.int p1, .ref q1, .int p0, .int p1, .ref q3, .ref q4, .ref q5])), (q1, .inr (0, [.int (0 : Int32), .ref X.2.2.2.2, .int 0])), (q3, .inl (X.2.2.1 0, 3, .inl (fun _ => 0))), (q4, .inl (X.2.2.1 0, 3, .inl (fun _ => 0))), (q5, .inl (X.2.2.1 0, 4, .inl (fun _ => (900 : Int32))))]) := by
  refine CI.intro RX8 rfl hst (by decide) (Nat.le_of_ble_eq_true rfl) (lv := [(0, .ref _), (1, .int _), (2, .int _)]) rfl (Cini X cX8_init 3 RX8 "<init>") (fun p e s m args below meth c B hn => ⟨B, hn, rfl⟩) (fun sz hsz hws hD0 => ?_)
  have hC := Cini.ctx (cc := cX8_init) (nL := 3) (own := RX8) (nm := "<init>") hsz hws
  have hI : ∀ p e s m args below meth c, Cini X cX8_init 3 RX8 "<init>" sz p e s m args below meth c → meth.name = "<init>" := fun _ _ _ _ _ _ _ _ z => z.2.1
  refine w_aload_n 0 rfl hC dX8_init_0 ?_
  refine w_objInit hC w_425 w_395 w_396 (by decide) (Nat.le_of_ble_eq_true rfl) dX8_init_1 ?_
  refine w_aload_n 0 rfl hC dX8_init_4 ?_
  refine w_new (ci := 0) (fs := [.int 0, .null, .int 0]) hC tyJx4a65c tyJx4a65c_ok rfl in_0 w_426 w_427 w_104 (by decide) (Nat.le_of_ble_eq_true rfl) (Nat.le_of_ble_eq_true rfl) dX8_init_5 (fun q1 => ?_)
  refine w_dup rfl hC dX8_init_8 ?_
  refine w_callI (wr := [_]) (n := 0) (As := []) hC [1] [0] rfl rfl (by decide) (by decide) (by decide) (ci_Jx4a65c_init_da8c8 X hst _) ⟨by decide, by decide, by decide +kernel⟩ rfl w_428 w_429 w_104 w_430 rfl rfl (Nat.le_of_ble_eq_true rfl) ⟨by decide, by decide⟩ ⟨Nat.le_of_ble_eq_true rfl, Nat.le_of_ble_eq_true rfl⟩ dX8_init_9 (fun w9 h9 => ?_)
  obtain rfl := h9
  refine w_put (q0 := 0) (k := 1) hC hI tyX8 tyX8_ok nmX8 rfl rfl in_9 (by decide) w_138 (fun _ => rfl) rfl rfl (Nat.le_of_ble_eq_true rfl) dX8_init_12 ?_
  refine w_aload_n 0 rfl hC dX8_init_15 ?_
  refine w_iconst (3) (by decide) hC dX8_init_16 ?_
  refine w_newa (atype := .int) (a0 := (3, .inl (fun _ => 0))) 0 hC rfl (by decide) rfl w_410 (fun _ => rfl) (by decide) (by decide) (by decide) (Nat.le_of_ble_eq_true rfl) (Nat.le_of_ble_eq_true rfl) dX8_init_17 (fun q3 => ?_)
  refine w_put (q0 := 0) (k := 4) hC hI tyX8 tyX8_ok nmX8 rfl rfl in_9 (by decide) w_21 (fun _ => rfl) rfl rfl (Nat.le_of_ble_eq_true rfl) dX8_init_19 ?_
  refine w_aload_n 0 rfl hC dX8_init_22 ?_
  refine w_iconst (3) (by decide) hC dX8_init_23 ?_
  refine w_newa (atype := .int) (a0 := (3, .inl (fun _ => 0))) 0 hC rfl (by decide) rfl w_410 (fun _ => rfl) (by decide) (by decide) (by decide) (Nat.le_of_ble_eq_true rfl) (Nat.le_of_ble_eq_true rfl) dX8_init_24 (fun q4 => ?_)
  refine w_put (q0 := 0) (k := 5) hC hI tyX8 tyX8_ok nmX8 rfl rfl in_9 (by decide) w_22 (fun _ => rfl) rfl rfl (Nat.le_of_ble_eq_true rfl) dX8_init_26 ?_
  refine w_aload_n 0 rfl hC dX8_init_29 ?_
  refine w_iconst (4) (by decide) hC dX8_init_30 ?_
  refine w_newa (atype := .int) (a0 := (4, .inl (fun _ => 0))) 0 hC rfl (by decide) rfl w_410 (fun _ => rfl) (by decide) (by decide) (by decide) (Nat.le_of_ble_eq_true rfl) (Nat.le_of_ble_eq_true rfl) dX8_init_31 (fun q5 => ?_)
  refine w_put (q0 := 0) (k := 6) hC hI tyX8 tyX8_ok nmX8 rfl rfl in_9 (by decide) w_23 (fun _ => rfl) rfl rfl (Nat.le_of_ble_eq_true rfl) dX8_init_33 ?_
  refine w_aload_n 0 rfl hC dX8_init_36 ?_
  refine w_iload_n 1 rfl hC dX8_init_37 ?_
  refine w_put (q0 := 0) (k := 2) hC hI tyX8 tyX8_ok nmX8 rfl rfl in_9 (by decide) w_431 (fun _ => rfl) rfl rfl (Nat.le_of_ble_eq_true rfl) dX8_init_38 ?_
  refine w_aload_n 0 rfl hC dX8_init_41 ?_
  refine w_iload_n 2 rfl hC dX8_init_42 ?_
  refine w_put (q0 := 0) (k := 3) hC hI tyX8 tyX8_ok nmX8 rfl rfl in_9 (by decide) w_24 (fun _ => rfl) rfl rfl (Nat.le_of_ble_eq_true rfl) dX8_init_43 ?_
  refine w_aload_n 0 rfl hC dX8_init_46 ?_
  refine w_iload_n 2 rfl hC dX8_init_47 ?_
  refine w_put (q0 := 0) (k := 0) hC hI tyX8 tyX8_ok nmX8 rfl rfl in_9 (by decide) w_432 (fun _ => rfl) rfl rfl (Nat.le_of_ble_eq_true rfl) dX8_init_48 ?_
  refine w_aload_n 0 rfl hC dX8_init_51 ?_
  refine w_getf (q0 := 0) (k := 6) hC rfl rfl in_9 (by decide) w_23 rfl dX8_init_52 ?_
  refine w_sipush (900) (by decide) hC dX8_init_55 ?_
  refine w_callS (wr := [_, _, _, _]) (n := 2) (As := [.ref _, .int _]) hC [4] [0, 1, 2, 3] rfl rfl (by decide) (by decide) (by decide) (ci_fill X hst _ _ _ _) ⟨by decide, by decide, by decide +kernel⟩ w_159 w_118 w_119 w_120 rfl rfl (Nat.le_of_ble_eq_true rfl) ⟨by decide, by decide⟩ ⟨Nat.le_of_ble_eq_true rfl, Nat.le_of_ble_eq_true rfl⟩ dX8_init_58 (fun w9 h9 => ?_)
  obtain rfl := h9
  refine w_vret (kc := (4, 13)) ?_ dX8_init_61
  exact ⟨_, _, _, _, rfl⟩
theorem ci_X0_init (X : Xt) (hst : X.1.stackTraces = false) (h0 : Nat) (p0 : Int32) (p1 : Int32) (p2 : Int32) (p3 : Int32) (p4 : Int32) : CI X yX0_init cX0_init 6 1 12 (0, 0) [(h0, .inr (1, [.int 0, .int 0, .int 0, .int 0, .int 0, .int 0]))] [.ref h0, .int p0, .int p1, .int p2, .int p3, .int p4] (fun w => w = [(h0, .inr (1, [.int p0, .int p1, .int p2, .int p3, .int p4, .int (-1 : Int32)]))]) := by
  refine CI.intro RX0 rfl hst (by decide) (Nat.le_of_ble_eq_true rfl) (lv := [(0, .ref _), (1, .int _), (2, .int _), (3, .int _), (4, .int _), (5, .int _)]) rfl (Cini X cX0_init 6 RX0 "<init>") (fun p e s m args below meth c B hn => ⟨B, hn, rfl⟩) (fun sz hsz hws hD0 => ?_)
  have hC := Cini.ctx (cc := cX0_init) (nL := 6) (own := RX0) (nm := "<init>") hsz hws
  have hI : ∀ p e s m args below meth c, Cini X cX0_init 6 RX0 "<init>" sz p e s m args below meth c → meth.name = "<init>" := fun _ _ _ _ _ _ _ _ z => z.2.1
  refine w_aload_n 0 rfl hC dX0_init_0 ?_
  refine w_objInit hC w_433 w_395 w_396 (by decide) (Nat.le_of_ble_eq_true rfl) dX0_init_1 ?_
  refine w_aload_n 0 rfl hC dX0_init_4 ?_
  refine w_iconst (-1) (by decide) hC dX0_init_5 ?_
  refine w_put (q0 := 0) (k := 5) hC hI tyX0 tyX0_ok nmX0 rfl rfl in_1 (by decide) w_0 (fun _ => rfl) rfl rfl (Nat.le_of_ble_eq_true rfl) dX0_init_6 ?_
  refine w_aload_n 0 rfl hC dX0_init_9 ?_
  refine w_iload_n 1 rfl hC dX0_init_10 ?_
  refine w_put (q0 := 0) (k := 0) hC hI tyX0 tyX0_ok nmX0 rfl rfl in_1 (by decide) w_434 (fun _ => rfl) rfl rfl (Nat.le_of_ble_eq_true rfl) dX0_init_11 ?_
  refine w_aload_n 0 rfl hC dX0_init_14 ?_
  refine w_iload_n 2 rfl hC dX0_init_15 ?_
  refine w_put (q0 := 0) (k := 1) hC hI tyX0 tyX0_ok nmX0 rfl rfl in_1 (by decide) w_435 (fun _ => rfl) rfl rfl (Nat.le_of_ble_eq_true rfl) dX0_init_16 ?_
  refine w_aload_n 0 rfl hC dX0_init_19 ?_
  refine w_iload_n 3 rfl hC dX0_init_20 ?_
  refine w_put (q0 := 0) (k := 2) hC hI tyX0 tyX0_ok nmX0 rfl rfl in_1 (by decide) w_436 (fun _ => rfl) rfl rfl (Nat.le_of_ble_eq_true rfl) dX0_init_21 ?_
  refine w_aload_n 0 rfl hC dX0_init_24 ?_
  refine w_iload 4 rfl hC dX0_init_25 ?_
  refine w_put (q0 := 0) (k := 3) hC hI tyX0 tyX0_ok nmX0 rfl rfl in_1 (by decide) w_437 (fun _ => rfl) rfl rfl (Nat.le_of_ble_eq_true rfl) dX0_init_27 ?_
  refine w_aload_n 0 rfl hC dX0_init_30 ?_
  refine w_iload 5 rfl hC dX0_init_31 ?_
  refine w_put (q0 := 0) (k := 4) hC hI tyX0 tyX0_ok nmX0 rfl rfl in_1 (by decide) w_438 (fun _ => rfl) rfl rfl (Nat.le_of_ble_eq_true rfl) dX0_init_33 ?_
  refine w_vret (kc := (0, 0)) ?_ dX0_init_36
  exact rfl
theorem ci_X2_init (X : Xt) (hst : X.1.stackTraces = false) (h0 : Nat) (p0 : Int32) (p1 : Int32) (p2 : Int32) (p3 : Int32) : CI X yX2_init cX2_init 5 1 12 (0, 0) [(h0, .inr (3, [.int 0, .int 0, .int 0, .int 0]))] [.ref h0, .int p0, .int p1, .int p2, .int p3] (fun w => w = [(h0, .inr (3, [.int p0, .int p1, .int p2, .int p3]))]) := by
  refine CI.intro RX2 rfl hst (by decide) (Nat.le_of_ble_eq_true rfl) (lv := [(0, .ref _), (1, .int _), (2, .int _), (3, .int _), (4, .int _)]) rfl (Cini X cX2_init 5 RX2 "<init>") (fun p e s m args below meth c B hn => ⟨B, hn, rfl⟩) (fun sz hsz hws hD0 => ?_)
  have hC := Cini.ctx (cc := cX2_init) (nL := 5) (own := RX2) (nm := "<init>") hsz hws
  have hI : ∀ p e s m args below meth c, Cini X cX2_init 5 RX2 "<init>" sz p e s m args below meth c → meth.name = "<init>" := fun _ _ _ _ _ _ _ _ z => z.2.1
  refine w_aload_n 0 rfl hC dX2_init_0 ?_
  refine w_objInit hC w_439 w_395 w_396 (by decide) (Nat.le_of_ble_eq_true rfl) dX2_init_1 ?_
  refine w_aload_n 0 rfl hC dX2_init_4 ?_
  refine w_iload_n 1 rfl hC dX2_init_5 ?_
  refine w_put (q0 := 0) (k := 0) hC hI tyX2 tyX2_ok nmX2 rfl rfl in_3 (by decide) w_11 (fun _ => rfl) rfl rfl (Nat.le_of_ble_eq_true rfl) dX2_init_6 ?_
  refine w_aload_n 0 rfl hC dX2_init_9 ?_
  refine w_iload_n 2 rfl hC dX2_init_10 ?_
  refine w_put (q0 := 0) (k := 1) hC hI tyX2 tyX2_ok nmX2 rfl rfl in_3 (by decide) w_440 (fun _ => rfl) rfl rfl (Nat.le_of_ble_eq_true rfl) dX2_init_11 ?_
  refine w_aload_n 0 rfl hC dX2_init_14 ?_
  refine w_iload_n 3 rfl hC dX2_init_15 ?_
  refine w_put (q0 := 0) (k := 2) hC hI tyX2 tyX2_ok nmX2 rfl rfl in_3 (by decide) w_441 (fun _ => rfl) rfl rfl (Nat.le_of_ble_eq_true rfl) dX2_init_16 ?_
  refine w_aload_n 0 rfl hC dX2_init_19 ?_
  refine w_iload 4 rfl hC dX2_init_20 ?_
  refine w_put (q0 := 0) (k := 3) hC hI tyX2 tyX2_ok nmX2 rfl rfl in_3 (by decide) w_12 (fun _ => rfl) rfl rfl (Nat.le_of_ble_eq_true rfl) dX2_init_22 ?_
  refine w_vret (kc := (0, 0)) ?_ dX2_init_25
  exact rfl
theorem ci_X9_init (X : Xt) (hst : X.1.stackTraces = false) (h0 : Nat) : CI X yX9_init cX9_init 2 4 72 (28, 1746) [(h0, .inr (10, [.null, .null, .null, .null, .null, .null, .int 0, .int 0, .int 0, .int 0]))] [.ref h0] (fun w => ∃ q1 q3 q5 q6 q7 q8 q9 q10 q11 q12 q13 q14 q15 q17 q18 q19 q20 q21 q22 q23 q25 q26 q28 q29 q31 q32 q34 q35, w = ((h0, .inr (10, [.ref q1, .ref q3, .ref q5, .ref q6, .ref q17, .ref q25, .int (0 : Int32), .int (0 : Int32), .int (0 : Int32), .int (0 : Int32)])) :: (q1, .inr (0, [.int (0 : Int32), .ref X.2.2.2.2, .int 0])) :: (q3, .inr (0, [.int (0 : Int32), .ref X.2.2.2.2, .int 0])) :: (q5, .inl (X.2.2.1 4, 3, .inr (.inr (.inr (.inr (va_up (va_up (va_up (fun _ => none) (0 : Int32).toNatClampNeg (some q28)) ((0 : Int32) + 1).toNatClampNeg (some q31)) (((0 : Int32) + 1) + 1).toNatClampNeg (some q34))))))) :: (q6, .inr (8, [.ref q7, .ref q11])) :: (q7, .inl (X.2.2.1 2, 3, .inr (.inr (.inr (.inr (va_up (va_up (va_up (fun _ => none) (0 : Int32).toNatClampNeg (some q8)) (1 : Int32).toNatClampNeg (some q9)) (2 : Int32).toNatClampNeg (some q10))))))) :: (q8, .inr (2, [.int (1000 : Int32), .int (10 : Int32), .int (5 : Int32)])) :: (q9, .inr (2, [.int (3000 : Int32), .int (10 : Int32), .int (20 : Int32)])) :: (q10, .inr (2, [.int (9000 : Int32), .int (10 : Int32), .int (60 : Int32)])) :: (q11, .inl (X.2.2.1 3, 4, .inr (.inr (.inr (.inr (va_up (va_up (va_up (va_up (fun _ => none) (0 : Int32).toNatClampNeg (some q12)) (1 : Int32).toNatClampNeg (some q13)) (2 : Int32).toNatClampNeg (some q14)) (3 : Int32).toNatClampNeg (some q15))))))) :: (q12, .inr (6, [.int (-1 : Int32), .int (0 : Int32)])) :: (q13, .inr (6, [.int (-1 : Int32), .int (0 : Int32)])) :: (q14, .inr (6, [.int (-1 : Int32), .int (0 : Int32)])) :: (q15, .inr (6, [.int (-1 : Int32), .int (0 : Int32)])) :: (q17, .inr (4, [.ref q18, .ref q19, .ref q20, .ref q21, .ref q22, .ref q23, .int (0 : Int32), .int (0 : Int32)])) :: (q18, .inl (X.2.2.1 0, 6, .inl (fun _ => 0))) :: (q19, .inl (X.2.2.1 0, 6, .inl (fun _ => 0))) :: (q20, .inl (X.2.2.1 0, 6, .inl (fun _ => 0))) :: (q21, .inl (X.2.2.1 0, 6, .inl (fun _ => 0))) :: (q22, .inl (X.2.2.1 0, 6, .inl (fun _ => 0))) :: (q23, .inl (X.2.2.1 0, 448, .inl (fun _ => 0))) :: (q25, .inr (5, [.ref q26])) :: (q26, .inl (X.2.2.1 0, 1200, .inl (fun _ => (-1 : Int32)))) :: (q28, .inr (7, [.ref q29, .int (0 : Int32)])) :: (q29, .inl (X.2.2.1 0, 6, .inl (fun _ => 0))) :: (q31, .inr (7, [.ref q32, .int (0 : Int32)])) :: (q32, .inl (X.2.2.1 0, 6, .inl (fun _ => 0))) :: (q34, .inr (7, [.ref q35, .int (0 : Int32)])) :: (q35, .inl (X.2.2.1 0, 6, .inl (fun _ => 0))) :: [])) := by
  refine CI.intro RX9 rfl hst (by decide) (Nat.le_of_ble_eq_true rfl) (lv := [(0, .ref _)]) rfl (Cini X cX9_init 2 RX9 "<init>") (fun p e s m args below meth c B hn => ⟨B, hn, rfl⟩) (fun sz hsz hws hD0 => ?_)
  have hC := Cini.ctx (cc := cX9_init) (nL := 2) (own := RX9) (nm := "<init>") hsz hws
  have hI : ∀ p e s m args below meth c, Cini X cX9_init 2 RX9 "<init>" sz p e s m args below meth c → meth.name = "<init>" := fun _ _ _ _ _ _ _ _ z => z.2.1
  refine w_aload_n 0 rfl hC dX9_init_0 ?_
  refine w_objInit hC w_442 w_395 w_396 (by decide) (Nat.le_of_ble_eq_true rfl) dX9_init_1 ?_
  refine w_aload_n 0 rfl hC dX9_init_4 ?_
  refine w_new (ci := 0) (fs := [.int 0, .null, .int 0]) hC tyJx4a65c tyJx4a65c_ok rfl in_0 w_443 w_427 w_104 (by decide) (Nat.le_of_ble_eq_true rfl) (Nat.le_of_ble_eq_true rfl) dX9_init_5 (fun q1 => ?_)
  refine w_dup rfl hC dX9_init_8 ?_
  refine w_callI (wr := [_]) (n := 0) (As := []) hC [1] [0] rfl rfl (by decide) (by decide) (by decide) (ci_Jx4a65c_init_da8c8 X hst _) ⟨by decide, by decide, by decide +kernel⟩ rfl w_444 w_429 w_104 w_430 rfl rfl (Nat.le_of_ble_eq_true rfl) ⟨by decide, by decide⟩ ⟨Nat.le_of_ble_eq_true rfl, Nat.le_of_ble_eq_true rfl⟩ dX9_init_9 (fun w9 h9 => ?_)
  obtain rfl := h9
  refine w_put (q0 := 0) (k := 0) hC hI tyX9 tyX9_ok nmX9 rfl rfl in_10 (by decide) w_225 (fun _ => rfl) rfl rfl (Nat.le_of_ble_eq_true rfl) dX9_init_12 ?_
  refine w_aload_n 0 rfl hC dX9_init_15 ?_
  refine w_new (ci := 0) (fs := [.int 0, .null, .int 0]) hC tyJx4a65c tyJx4a65c_ok rfl in_0 w_443 w_427 w_104 (by decide) (Nat.le_of_ble_eq_true rfl) (Nat.le_of_ble_eq_true rfl) dX9_init_16 (fun q3 => ?_)
  refine w_dup rfl hC dX9_init_19 ?_
  refine w_callI (wr := [_, _]) (n := 0) (As := []) hC [2] [0, 1] rfl rfl (by decide) (by decide) (by decide) (ci_Jx4a65c_init_da8c8 X hst _) ⟨by decide, by decide, by decide +kernel⟩ rfl w_444 w_429 w_104 w_430 rfl rfl (Nat.le_of_ble_eq_true rfl) ⟨by decide, by decide⟩ ⟨Nat.le_of_ble_eq_true rfl, Nat.le_of_ble_eq_true rfl⟩ dX9_init_20 (fun w9 h9 => ?_)
  obtain rfl := h9
  refine w_put (q0 := 0) (k := 1) hC hI tyX9 tyX9_ok nmX9 rfl rfl in_10 (by decide) w_216 (fun _ => rfl) rfl rfl (Nat.le_of_ble_eq_true rfl) dX9_init_23 ?_
  refine w_aload_n 0 rfl hC dX9_init_26 ?_
  refine w_iconst (3) (by decide) hC dX9_init_27 ?_
  refine w_newq (N := 3) 4 hC rfl w_445 (by decide) (by decide) (by decide) (by decide) (Nat.le_of_ble_eq_true rfl) (Nat.le_of_ble_eq_true rfl) dX9_init_28 (fun q5 => ?_)
  refine w_put (q0 := 0) (k := 2) hC hI tyX9 tyX9_ok nmX9 rfl rfl in_10 (by decide) w_323 (fun _ => rfl) rfl rfl (Nat.le_of_ble_eq_true rfl) dX9_init_31 ?_
  refine w_aload_n 0 rfl hC dX9_init_34 ?_
  refine w_new (ci := 8) (fs := [.null, .null]) hC tyX7 tyX7_ok rfl in_8 w_446 w_447 w_176 (by decide) (Nat.le_of_ble_eq_true rfl) (Nat.le_of_ble_eq_true rfl) dX9_init_35 (fun q6 => ?_)
  refine w_dup rfl hC dX9_init_38 ?_
  refine w_callIN (wr := [_, _, _, _]) (n := 0) (As := []) hC [4] [0, 1, 2, 3] rfl rfl (by decide) (by decide) (by decide) (ci_X7_init X hst _) ⟨by decide, by decide, by decide +kernel⟩ rfl w_448 w_449 w_176 w_450 rfl rfl (Nat.le_of_ble_eq_true rfl) ⟨by decide, by decide⟩ ⟨Nat.le_of_ble_eq_true rfl, Nat.le_of_ble_eq_true rfl⟩ dX9_init_39 (fun w9 h9 => ?_)
  obtain ⟨q7, q8, q9, q10, q11, q12, q13, q14, q15, rfl⟩ := h9
  refine w_put (q0 := 0) (k := 3) hC hI tyX9 tyX9_ok nmX9 rfl rfl in_10 (by decide) w_198 (fun _ => rfl) rfl rfl (Nat.le_of_ble_eq_true rfl) dX9_init_42 ?_
  refine w_aload_n 0 rfl hC dX9_init_45 ?_
  refine w_new (ci := 4) (fs := [.null, .null, .null, .null, .null, .null, .int 0, .int 0]) hC tyX3 tyX3_ok rfl in_4 w_451 w_452 w_50 (by decide) (Nat.le_of_ble_eq_true rfl) (Nat.le_of_ble_eq_true rfl) dX9_init_46 (fun q17 => ?_)
  refine w_dup rfl hC dX9_init_49 ?_
  refine w_callIN (wr := [_, _, _, _, _, _, _, _, _, _, _, _, _, _]) (n := 0) (As := []) hC [14] [0, 1, 2, 3, 4, 5, 6, 7, 8, 9, 10, 11, 12, 13] rfl rfl (by decide) (by decide) (by decide) (ci_X3_init X hst _) ⟨by decide, by decide, by decide +kernel⟩ rfl w_453 w_454 w_50 w_455 rfl rfl (Nat.le_of_ble_eq_true rfl) ⟨by decide, by decide⟩ ⟨Nat.le_of_ble_eq_true rfl, Nat.le_of_ble_eq_true rfl⟩ dX9_init_50 (fun w9 h9 => ?_)
  obtain ⟨q18, q19, q20, q21, q22, q23, rfl⟩ := h9
  refine w_put (q0 := 0) (k := 4) hC hI tyX9 tyX9_ok nmX9 rfl rfl in_10 (by decide) w_277 (fun _ => rfl) rfl rfl (Nat.le_of_ble_eq_true rfl) dX9_init_53 ?_
  refine w_aload_n 0 rfl hC dX9_init_56 ?_
  refine w_new (ci := 5) (fs := [.null]) hC tyX4 tyX4_ok rfl in_5 w_456 w_457 w_19 (by decide) (Nat.le_of_ble_eq_true rfl) (Nat.le_of_ble_eq_true rfl) dX9_init_57 (fun q25 => ?_)
  refine w_dup rfl hC dX9_init_60 ?_
  refine w_callI (wr := [_, _, _, _, _, _, _, _, _, _, _, _, _, _, _, _, _, _, _, _, _]) (n := 0) (As := []) hC [21] [0, 1, 2, 3, 4, 5, 6, 7, 8, 9, 10, 11, 12, 13, 14, 15, 16, 17, 18, 19, 20] rfl rfl (by decide) (by decide) (by decide) (ci_X4_init X hst _) ⟨by decide, by decide, by decide +kernel⟩ rfl w_458 w_459 w_19 w_460 rfl rfl (Nat.le_of_ble_eq_true rfl) ⟨by decide, by decide⟩ ⟨Nat.le_of_ble_eq_true rfl, Nat.le_of_ble_eq_true rfl⟩ dX9_init_61 (fun w9 h9 => ?_)
  obtain ⟨q26, rfl⟩ := h9
  refine w_put (q0 := 0) (k := 5) hC hI tyX9 tyX9_ok nmX9 rfl rfl in_10 (by decide) w_317 (fun _ => rfl) rfl rfl (Nat.le_of_ble_eq_true rfl) dX9_init_64 ?_
  refine w_aload_n 0 rfl hC dX9_init_67 ?_
  refine w_iconst (0) (by decide) hC dX9_init_68 ?_
  refine w_put (q0 := 0) (k := 6) hC hI tyX9 tyX9_ok nmX9 rfl rfl in_10 (by decide) w_234 (fun _ => rfl) rfl rfl (Nat.le_of_ble_eq_true rfl) dX9_init_69 ?_
  refine w_aload_n 0 rfl hC dX9_init_72 ?_
  refine w_iconst (0) (by decide) hC dX9_init_73 ?_
  refine w_put (q0 := 0) (k := 7) hC hI tyX9 tyX9_ok nmX9 rfl rfl in_10 (by decide) w_328 (fun _ => rfl) rfl rfl (Nat.le_of_ble_eq_true rfl) dX9_init_74 ?_
  refine w_aload_n 0 rfl hC dX9_init_77 ?_
  refine w_iconst (0) (by decide) hC dX9_init_78 ?_
  refine w_put (q0 := 0) (k := 8) hC hI tyX9 tyX9_ok nmX9 rfl rfl in_10 (by decide) w_355 (fun _ => rfl) rfl rfl (Nat.le_of_ble_eq_true rfl) dX9_init_79 ?_
  refine w_aload_n 0 rfl hC dX9_init_82 ?_
  refine w_iconst (0) (by decide) hC dX9_init_83 ?_
  refine w_put (q0 := 0) (k := 9) hC hI tyX9 tyX9_ok nmX9 rfl rfl in_10 (by decide) w_356 (fun _ => rfl) rfl rfl (Nat.le_of_ble_eq_true rfl) dX9_init_84 ?_
  refine w_iconst (0) (by decide) hC dX9_init_87 ?_
  refine w_istore_n [(1, .int _), (0, .ref _)] rfl (by decide) hC dX9_init_88 ?_
  refine w_iload_n 0 rfl hC dX9_init_89 ?_
  refine w_aload_n 1 rfl hC dX9_init_90 ?_
  refine w_getf (q0 := 0) (k := 2) hC rfl rfl in_10 (by decide) w_323 rfl dX9_init_91 ?_
  refine w_alen (q0 := 3) (3) hC rfl rfl rfl dX9_init_94 ?_
  refine w_icmp_ge 117 (by decide) hC dX9_init_95 (fun hc => absurd hc (show ¬ (3 : Int32) ≤ (0 : Int32) by decide)) (fun _ => ?_)
  refine w_aload_n 1 rfl hC dX9_init_98 ?_
  refine w_getf (q0 := 0) (k := 2) hC rfl rfl in_10 (by decide) w_323 rfl dX9_init_99 ?_
  refine w_iload_n 0 rfl hC dX9_init_102 ?_
  refine w_new (ci := 7) (fs := [.null, .int 0]) hC tyX6 tyX6_ok rfl in_7 w_445 w_461 w_332 (by decide) (Nat.le_of_ble_eq_true rfl) (Nat.le_of_ble_eq_true rfl) dX9_init_103 (fun q28 => ?_)
  refine w_dup rfl hC dX9_init_106 ?_
  refine w_callIN (wr := [_, _, _, _, _, _, _, _, _, _, _, _, _, _, _, _, _, _, _, _, _, _, _]) (n := 0) (As := []) hC [23] [0, 1, 2, 3, 4, 5, 6, 7, 8, 9, 10, 11, 12, 13, 14, 15, 16, 17, 18, 19, 20, 21, 22] rfl rfl (by decide) (by decide) (by decide) (ci_X6_init X hst _) ⟨by decide, by decide, by decide +kernel⟩ rfl w_462 w_463 w_332 w_464 rfl rfl (Nat.le_of_ble_eq_true rfl) ⟨by decide, by decide⟩ ⟨Nat.le_of_ble_eq_true rfl, Nat.le_of_ble_eq_true rfl⟩ dX9_init_107 (fun w9 h9 => ?_)
  obtain ⟨q29, rfl⟩ := h9
  refine w_aast (q0 := 3) (qk := 23) hC rfl rfl rfl rfl (by decide) dX9_init_110 ?_
  refine w_iinc (1) [(1, .int _), (0, .ref _)] 0 rfl (by decide) rfl (by decide) hC dX9_init_111 ?_
  refine w_goto 89 (by decide) hC dX9_init_114 ?_
  refine w_iload_n 0 rfl hC dX9_init_89 ?_
  refine w_aload_n 1 rfl hC dX9_init_90 ?_
  refine w_getf (q0 := 0) (k := 2) hC rfl rfl in_10 (by decide) w_323 rfl dX9_init_91 ?_
  refine w_alen (q0 := 3) (3) hC rfl rfl rfl dX9_init_94 ?_
  refine w_icmp_ge 117 (by decide) hC dX9_init_95 (fun hc => absurd hc (show ¬ (3 : Int32) ≤ ((0 : Int32) + 1) by decide)) (fun _ => ?_)
  refine w_aload_n 1 rfl hC dX9_init_98 ?_
  refine w_getf (q0 := 0) (k := 2) hC rfl rfl in_10 (by decide) w_323 rfl dX9_init_99 ?_
  refine w_iload_n 0 rfl hC dX9_init_102 ?_
  refine w_new (ci := 7) (fs := [.null, .int 0]) hC tyX6 tyX6_ok rfl in_7 w_445 w_461 w_332 (by decide) (Nat.le_of_ble_eq_true rfl) (Nat.le_of_ble_eq_true rfl) dX9_init_103 (fun q31 => ?_)
  refine w_dup rfl hC dX9_init_106 ?_
  refine w_callIN (wr := [_, _, _, _, _, _, _, _, _, _, _, _, _, _, _, _, _, _, _, _, _, _, _, _, _]) (n := 0) (As := []) hC [25] [0, 1, 2, 3, 4, 5, 6, 7, 8, 9, 10, 11, 12, 13, 14, 15, 16, 17, 18, 19, 20, 21, 22, 23, 24] rfl rfl (by decide) (by decide) (by decide) (ci_X6_init X hst _) ⟨by decide, by decide, by decide +kernel⟩ rfl w_462 w_463 w_332 w_464 rfl rfl (Nat.le_of_ble_eq_true rfl) ⟨by decide, by decide⟩ ⟨Nat.le_of_ble_eq_true rfl, Nat.le_of_ble_eq_true rfl⟩ dX9_init_107 (fun w9 h9 => ?_)
  obtain ⟨q32, rfl⟩ := h9
  refine w_aast (q0 := 3) (qk := 25) hC rfl rfl rfl rfl (by decide) dX9_init_110 ?_
  refine w_iinc (1) [(1, .int _), (0, .ref _)] 0 rfl (by decide) rfl (by decide) hC dX9_init_111 ?_
  refine w_goto 89 (by decide) hC dX9_init_114 ?_
  refine w_iload_n 0 rfl hC dX9_init_89 ?_
  refine w_aload_n 1 rfl hC dX9_init_90 ?_
  refine w_getf (q0 := 0) (k := 2) hC rfl rfl in_10 (by decide) w_323 rfl dX9_init_91 ?_
  refine w_alen (q0 := 3) (3) hC rfl rfl rfl dX9_init_94 ?_
  refine w_icmp_ge 117 (by decide) hC dX9_init_95 (fun hc => absurd hc (show ¬ (3 : Int32) ≤ (((0 : Int32) + 1) + 1) by decide)) (fun _ => ?_)
  refine w_aload_n 1 rfl hC dX9_init_98 ?_
  refine w_getf (q0 := 0) (k := 2) hC rfl rfl in_10 (by decide) w_323 rfl dX9_init_99 ?_
  refine w_iload_n 0 rfl hC dX9_init_102 ?_
  refine w_new (ci := 7) (fs := [.null, .int 0]) hC tyX6 tyX6_ok rfl in_7 w_445 w_461 w_332 (by decide) (Nat.le_of_ble_eq_true rfl) (Nat.le_of_ble_eq_true rfl) dX9_init_103 (fun q34 => ?_)
  refine w_dup rfl hC dX9_init_106 ?_
  refine w_callIN (wr := [_, _, _, _, _, _, _, _, _, _, _, _, _, _, _, _, _, _, _, _, _, _, _, _, _, _, _]) (n := 0) (As := []) hC [27] [0, 1, 2, 3, 4, 5, 6, 7, 8, 9, 10, 11, 12, 13, 14, 15, 16, 17, 18, 19, 20, 21, 22, 23, 24, 25, 26] rfl rfl (by decide) (by decide) (by decide) (ci_X6_init X hst _) ⟨by decide, by decide, by decide +kernel⟩ rfl w_462 w_463 w_332 w_464 rfl rfl (Nat.le_of_ble_eq_true rfl) ⟨by decide, by decide⟩ ⟨Nat.le_of_ble_eq_true rfl, Nat.le_of_ble_eq_true rfl⟩ dX9_init_107 (fun w9 h9 => ?_)
  obtain ⟨q35, rfl⟩ := h9
  refine w_aast (q0 := 3) (qk := 27) hC rfl rfl rfl rfl (by decide) dX9_init_110 ?_
  refine w_iinc (1) [(1, .int _), (0, .ref _)] 0 rfl (by decide) rfl (by decide) hC dX9_init_111 ?_
  refine w_goto 89 (by decide) hC dX9_init_114 ?_
  refine w_iload_n 0 rfl hC dX9_init_89 ?_
  refine w_aload_n 1 rfl hC dX9_init_90 ?_
  refine w_getf (q0 := 0) (k := 2) hC rfl rfl in_10 (by decide) w_323 rfl dX9_init_91 ?_
  refine w_alen (q0 := 3) (3) hC rfl rfl rfl dX9_init_94 ?_
  refine w_icmp_ge 117 (by decide) hC dX9_init_95 (fun _ => ?_) (fun hc => absurd (show (3 : Int32) ≤ ((((0 : Int32) + 1) + 1) + 1) by decide) hc)
  refine w_vret (kc := (28, 1746)) ?_ dX9_init_117
  exact ⟨_, _, _, _, _, _, _, _, _, _, _, _, _, _, _, _, _, _, _, _, _, _, _, _, _, _, _, _, rfl⟩
