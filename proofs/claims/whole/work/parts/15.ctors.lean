theorem w_516 : Cond.methodLink RJxa1e45 1 objectInit ∈ G_ := gt1 46 (by decide +kernel) (by decide +kernel)
theorem w_517 : Cond.instanceMethod objectInit ∈ G_ := gt1 33 (by decide +kernel) (by decide +kernel)
theorem w_518 : Cond.code objectInit ⟨#[0xb1]⟩ 1 none ∈ G_ := gt1 34 (by decide +kernel) (by decide +kernel)
theorem w_519 : Cond.methodLink RJxc12de 1 yJxa1e45_init_da8c8 ∈ G_ := gt1 43 (by decide +kernel) (by decide +kernel)
theorem w_520 : Cond.instanceMethod yJxa1e45_init_da8c8 ∈ G_ := gt1 44 (by decide +kernel) (by decide +kernel)
theorem w_521 : Cond.initialized RJxa1e45 ∈ G_ := gt1 2 (by decide +kernel) (by decide +kernel)
theorem w_522 : Cond.code yJxa1e45_init_da8c8 cJxa1e45_init_da8c8 1 none ∈ G_ := gt1 45 (by decide +kernel) (by decide +kernel)
theorem w_523 : Cond.fieldLink RJxc12de 7 "java/util/AbstractList" "modCount" "I" ∈ G_ := gt1 51 (by decide +kernel) (by decide +kernel)
theorem w_524 : Cond.methodLink RJx4a65c 1 yJxc12de_init_da8c8 ∈ G_ := gt1 40 (by decide +kernel) (by decide +kernel)
theorem w_525 : Cond.instanceMethod yJxc12de_init_da8c8 ∈ G_ := gt1 41 (by decide +kernel) (by decide +kernel)
theorem w_526 : Cond.initialized RJxc12de ∈ G_ := gt1 3 (by decide +kernel) (by decide +kernel)
theorem w_527 : Cond.code yJxc12de_init_da8c8 cJxc12de_init_da8c8 1 none ∈ G_ := gt1 42 (by decide +kernel) (by decide +kernel)
theorem w_528 : Cond.fieldLink RJx4a65c 39 "java/util/ArrayList" "DEFAULTCAPACITY_EMPTY_ELEMENTDATA" "[Ljava/lang/Object;" ∈ G_ := gt1 47 (by decide +kernel) (by decide +kernel)
theorem w_529 : Cond.methodLink RX1 1 objectInit ∈ G_ := gt1 75 (by decide +kernel) (by decide +kernel)
theorem w_530 : Cond.methodLink RX5 3 objectInit ∈ G_ := gt1 95 (by decide +kernel) (by decide +kernel)
theorem w_531 : Cond.methodLink RX6 3 objectInit ∈ G_ := gt1 161 (by decide +kernel) (by decide +kernel)
theorem w_532 : Cond.arrayClass .int ∈ G_ := gt1 143 (by decide +kernel) (by decide +kernel)
theorem w_533 : Cond.methodLink RX4 3 objectInit ∈ G_ := gt1 149 (by decide +kernel) (by decide +kernel)
theorem w_534 : Cond.methodLink RX4 15 yJ7_fill_53178 ∈ G_ := gt1 150 (by decide +kernel) (by decide +kernel)
theorem w_535 : Cond.methodLink RX3 3 objectInit ∈ G_ := gt1 117 (by decide +kernel) (by decide +kernel)
theorem w_536 : Cond.methodLink RX7 3 objectInit ∈ G_ := gt1 68 (by decide +kernel) (by decide +kernel)
theorem w_537 : Cond.classLink RX7 9 "Stablingroad$Exam" ∈ G_ := gt1 69 (by decide +kernel) (by decide +kernel)
theorem w_538 : Cond.instantiable RX1 3 ∈ G_ := gt1 71 (by decide +kernel) (by decide +kernel)
theorem w_539 : Cond.methodLink RX7 11 yX1_init ∈ G_ := gt1 72 (by decide +kernel) (by decide +kernel)
theorem w_540 : Cond.instanceMethod yX1_init ∈ G_ := gt1 73 (by decide +kernel) (by decide +kernel)
theorem w_541 : Cond.code yX1_init cX1_init 4 none ∈ G_ := gt1 74 (by decide +kernel) (by decide +kernel)
theorem w_542 : Cond.classLink RX7 20 "Stablingroad$Permit" ∈ G_ := gt1 89 (by decide +kernel) (by decide +kernel)
theorem w_543 : Cond.instantiable RX5 2 ∈ G_ := gt1 91 (by decide +kernel) (by decide +kernel)
theorem w_544 : Cond.methodLinkNest RX7 22 yX5_init "Stablingroad" ∈ NW_ := nt1 92 (by decide +kernel) (by decide +kernel)
theorem w_545 : Cond.instanceMethod yX5_init ∈ G_ := gt1 93 (by decide +kernel) (by decide +kernel)
theorem w_546 : Cond.code yX5_init cX5_init 1 none ∈ G_ := gt1 94 (by decide +kernel) (by decide +kernel)
theorem w_547 : Cond.methodLink RX8 3 objectInit ∈ G_ := gt3 33 (by decide +kernel) (by decide +kernel)
theorem w_548 : Cond.classLink RX8 9 "java/util/ArrayList" ∈ G_ := gt3 34 (by decide +kernel) (by decide +kernel)
theorem w_549 : Cond.instantiable RJx4a65c 3 ∈ G_ := gt1 36 (by decide +kernel) (by decide +kernel)
theorem w_550 : Cond.methodLink RX8 11 yJx4a65c_init_da8c8 ∈ G_ := gt3 35 (by decide +kernel) (by decide +kernel)
theorem w_551 : Cond.instanceMethod yJx4a65c_init_da8c8 ∈ G_ := gt1 38 (by decide +kernel) (by decide +kernel)
theorem w_552 : Cond.code yJx4a65c_init_da8c8 cJx4a65c_init_da8c8 1 none ∈ G_ := gt1 39 (by decide +kernel) (by decide +kernel)
theorem w_553 : Cond.fieldLink RX8 28 "Stablingroad$Unit" "depot" "I" ∈ G_ := gt3 42 (by decide +kernel) (by decide +kernel)
theorem w_554 : Cond.fieldLink RX8 35 "Stablingroad$Unit" "kmTold" "I" ∈ G_ := gt3 37 (by decide +kernel) (by decide +kernel)
theorem w_555 : Cond.methodLink RX0 3 objectInit ∈ G_ := gt3 143 (by decide +kernel) (by decide +kernel)
theorem w_556 : Cond.fieldLink RX0 15 "Stablingroad$Diagram" "from" "I" ∈ G_ := gt3 144 (by decide +kernel) (by decide +kernel)
theorem w_557 : Cond.fieldLink RX0 18 "Stablingroad$Diagram" "to" "I" ∈ G_ := gt3 146 (by decide +kernel) (by decide +kernel)
theorem w_558 : Cond.fieldLink RX0 21 "Stablingroad$Diagram" "km" "I" ∈ G_ := gt3 148 (by decide +kernel) (by decide +kernel)
theorem w_559 : Cond.fieldLink RX0 24 "Stablingroad$Diagram" "line" "I" ∈ G_ := gt3 151 (by decide +kernel) (by decide +kernel)
theorem w_560 : Cond.fieldLink RX0 27 "Stablingroad$Diagram" "weight" "I" ∈ G_ := gt3 153 (by decide +kernel) (by decide +kernel)
theorem w_561 : Cond.methodLink RX2 3 objectInit ∈ G_ := gt3 201 (by decide +kernel) (by decide +kernel)
theorem w_562 : Cond.fieldLink RX2 15 "Stablingroad$Fault" "toldOn" "I" ∈ G_ := gt3 206 (by decide +kernel) (by decide +kernel)
theorem w_563 : Cond.fieldLink RX2 18 "Stablingroad$Fault" "where" "I" ∈ G_ := gt3 209 (by decide +kernel) (by decide +kernel)
theorem w_564 : Cond.methodLink RX9 1 objectInit ∈ G_ := gt1 32 (by decide +kernel) (by decide +kernel)
theorem w_565 : Cond.classLink RX9 7 "java/util/ArrayList" ∈ G_ := gt1 35 (by decide +kernel) (by decide +kernel)
theorem w_566 : Cond.methodLink RX9 9 yJx4a65c_init_da8c8 ∈ G_ := gt1 37 (by decide +kernel) (by decide +kernel)
theorem w_567 : Cond.classLink RX9 19 "Stablingroad$Row" ∈ G_ := gt1 61 (by decide +kernel) (by decide +kernel)
theorem w_568 : Cond.classLink RX9 25 "Stablingroad$Rules" ∈ G_ := gt1 63 (by decide +kernel) (by decide +kernel)
theorem w_569 : Cond.instantiable RX7 2 ∈ G_ := gt1 64 (by decide +kernel) (by decide +kernel)
theorem w_570 : Cond.methodLinkNest RX9 27 yX7_init "Stablingroad" ∈ NW_ := nt1 65 (by decide +kernel) (by decide +kernel)
theorem w_571 : Cond.instanceMethod yX7_init ∈ G_ := gt1 66 (by decide +kernel) (by decide +kernel)
theorem w_572 : Cond.code yX7_init cX7_init 1 none ∈ G_ := gt1 67 (by decide +kernel) (by decide +kernel)
theorem w_573 : Cond.classLink RX9 32 "Stablingroad$Morning" ∈ G_ := gt1 112 (by decide +kernel) (by decide +kernel)
theorem w_574 : Cond.instantiable RX3 8 ∈ G_ := gt1 113 (by decide +kernel) (by decide +kernel)
theorem w_575 : Cond.methodLinkNest RX9 34 yX3_init "Stablingroad" ∈ NW_ := nt1 114 (by decide +kernel) (by decide +kernel)
theorem w_576 : Cond.instanceMethod yX3_init ∈ G_ := gt1 115 (by decide +kernel) (by decide +kernel)
theorem w_577 : Cond.code yX3_init cX3_init 1 none ∈ G_ := gt1 116 (by decide +kernel) (by decide +kernel)
theorem w_578 : Cond.classLink RX9 39 "Stablingroad$Past" ∈ G_ := gt1 144 (by decide +kernel) (by decide +kernel)
theorem w_579 : Cond.instantiable RX4 1 ∈ G_ := gt1 145 (by decide +kernel) (by decide +kernel)
theorem w_580 : Cond.methodLink RX9 41 yX4_init ∈ G_ := gt1 146 (by decide +kernel) (by decide +kernel)
theorem w_581 : Cond.instanceMethod yX4_init ∈ G_ := gt1 147 (by decide +kernel) (by decide +kernel)
theorem w_582 : Cond.code yX4_init cX4_init 1 none ∈ G_ := gt1 148 (by decide +kernel) (by decide +kernel)
theorem w_583 : Cond.instantiable RX6 2 ∈ G_ := gt1 157 (by decide +kernel) (by decide +kernel)
theorem w_584 : Cond.methodLinkNest RX9 60 yX6_init "Stablingroad" ∈ NW_ := nt1 158 (by decide +kernel) (by decide +kernel)
theorem w_585 : Cond.instanceMethod yX6_init ∈ G_ := gt1 159 (by decide +kernel) (by decide +kernel)
theorem w_586 : Cond.code yX6_init cX6_init 1 none ∈ G_ := gt1 160 (by decide +kernel) (by decide +kernel)
theorem w_587 : Cond.methodLink RX10 1 objectInit ∈ G_ := gt4 219 (by decide +kernel) (by decide +kernel)
theorem w_588 : Cond.arrayClass .boolean ∈ G_ := gt5 98 (by decide +kernel) (by decide +kernel)
theorem ci_Jxa1e45_init_da8c8 (X : Xt) (hst : X.1.stackTraces = false) (h0 : Nat) : CI X yJxa1e45_init_da8c8 cJxa1e45_init_da8c8 1 1 12 (0, 0) [(h0, .inr (0, [.int 0, .null, .int 0]))] [.ref h0] (fun w => w = [(h0, .inr (0, [.int 0, .null, .int 0]))]) := by
  refine CI.intro RJxa1e45 rfl hst (by decide) (Nat.le_of_ble_eq_true rfl) (lv := [(0, .ref _)]) rfl (Cini X cJxa1e45_init_da8c8 1 RJxa1e45 "<init>") (fun p e s m args below meth c B hn => ⟨B, hn, rfl⟩) (fun sz hsz hws hD0 => ?_)
  have hC := Cini.ctx (cc := cJxa1e45_init_da8c8) (nL := 1) (own := RJxa1e45) (nm := "<init>") hsz hws
  have hI : ∀ p e s m args below meth c, Cini X cJxa1e45_init_da8c8 1 RJxa1e45 "<init>" sz p e s m args below meth c → meth.name = "<init>" := fun _ _ _ _ _ _ _ _ z => z.2.1
  refine w_aload_n 0 rfl hC dJxa1e45_init_da8c8_0 ?_
  refine w_objInit hC w_516 w_517 w_518 (by decide) (Nat.le_of_ble_eq_true rfl) dJxa1e45_init_da8c8_1 ?_
  refine w_vret (kc := (0, 0)) ?_ dJxa1e45_init_da8c8_4
  exact rfl
theorem ci_Jxc12de_init_da8c8 (X : Xt) (hst : X.1.stackTraces = false) (h0 : Nat) : CI X yJxc12de_init_da8c8 cJxc12de_init_da8c8 1 2 32 (0, 0) [(h0, .inr (0, [.int 0, .null, .int 0]))] [.ref h0] (fun w => w = [(h0, .inr (0, [.int (0 : Int32), .null, .int 0]))]) := by
  refine CI.intro RJxc12de rfl hst (by decide) (Nat.le_of_ble_eq_true rfl) (lv := [(0, .ref _)]) rfl (Cini X cJxc12de_init_da8c8 1 RJxc12de "<init>") (fun p e s m args below meth c B hn => ⟨B, hn, rfl⟩) (fun sz hsz hws hD0 => ?_)
  have hC := Cini.ctx (cc := cJxc12de_init_da8c8) (nL := 1) (own := RJxc12de) (nm := "<init>") hsz hws
  have hI : ∀ p e s m args below meth c, Cini X cJxc12de_init_da8c8 1 RJxc12de "<init>" sz p e s m args below meth c → meth.name = "<init>" := fun _ _ _ _ _ _ _ _ z => z.2.1
  refine w_aload_n 0 rfl hC dJxc12de_init_da8c8_0 ?_
  refine w_callI (wr := []) (n := 0) (As := []) hC [0] [] rfl rfl (by decide) (by decide) (by decide) (ci_Jxa1e45_init_da8c8 X hst _) ⟨by decide, by decide, by decide +kernel⟩ rfl w_519 w_520 w_521 w_522 rfl rfl (Nat.le_of_ble_eq_true rfl) ⟨by decide, by decide⟩ ⟨Nat.le_of_ble_eq_true rfl, Nat.le_of_ble_eq_true rfl⟩ dJxc12de_init_da8c8_1 (fun w9 h9 => ?_)
  obtain rfl := h9
  refine w_aload_n 0 rfl hC dJxc12de_init_da8c8_4 ?_
  refine w_iconst (0) (by decide) hC dJxc12de_init_da8c8_5 ?_
  refine w_put (q0 := 0) (k := 0) hC hI tyJx4a65c tyJx4a65c_ok nmJx4a65c rfl rfl in_0 (by decide) w_523 (fun _ => rfl) rfl rfl (Nat.le_of_ble_eq_true rfl) dJxc12de_init_da8c8_6 ?_
  refine w_vret (kc := (0, 0)) ?_ dJxc12de_init_da8c8_9
  exact rfl
theorem ci_Jx4a65c_init_da8c8 (X : Xt) (hst : X.1.stackTraces = false) (h0 : Nat) : CI X yJx4a65c_init_da8c8 cJx4a65c_init_da8c8 1 3 52 (0, 0) [(h0, .inr (0, [.int 0, .null, .int 0]))] [.ref h0] (fun w => w = [(h0, .inr (0, [.int (0 : Int32), .ref X.2.2.2.2, .int 0]))]) := by
  refine CI.intro RJx4a65c rfl hst (by decide) (Nat.le_of_ble_eq_true rfl) (lv := [(0, .ref _)]) rfl (Cini X cJx4a65c_init_da8c8 1 RJx4a65c "<init>") (fun p e s m args below meth c B hn => ⟨B, hn, rfl⟩) (fun sz hsz hws hD0 => ?_)
  have hC := Cini.ctx (cc := cJx4a65c_init_da8c8) (nL := 1) (own := RJx4a65c) (nm := "<init>") hsz hws
  have hI : ∀ p e s m args below meth c, Cini X cJx4a65c_init_da8c8 1 RJx4a65c "<init>" sz p e s m args below meth c → meth.name = "<init>" := fun _ _ _ _ _ _ _ _ z => z.2.1
  refine w_aload_n 0 rfl hC dJx4a65c_init_da8c8_0 ?_
  refine w_callI (wr := []) (n := 0) (As := []) hC [0] [] rfl rfl (by decide) (by decide) (by decide) (ci_Jxc12de_init_da8c8 X hst _) ⟨by decide, by decide, by decide +kernel⟩ rfl w_524 w_525 w_526 w_527 rfl rfl (Nat.le_of_ble_eq_true rfl) ⟨by decide, by decide⟩ ⟨Nat.le_of_ble_eq_true rfl, Nat.le_of_ble_eq_true rfl⟩ dJx4a65c_init_da8c8_1 (fun w9 h9 => ?_)
  obtain rfl := h9
  refine w_aload_n 0 rfl hC dJx4a65c_init_da8c8_4 ?_
  refine w_gets hC w_528 dJx4a65c_init_da8c8_5 ?_
  refine w_put (q0 := 0) (k := 1) hC hI tyJx4a65c tyJx4a65c_ok nmJx4a65c rfl rfl in_0 (by decide) w_100 (fun _ => rfl) rfl rfl (Nat.le_of_ble_eq_true rfl) dJx4a65c_init_da8c8_8 ?_
  refine w_vret (kc := (0, 0)) ?_ dJx4a65c_init_da8c8_11
  exact rfl
theorem arr_congr {X : Xt} {a N : Nat} {f g : Nat → Int32} {q : Nat} {H : Heap} (h : ∀ j, j < N → f j = g j) (hP : va_P X.2.1 vwCl [(q, .inl (X.2.2.1 a, N, .inl f))] H) : va_P X.2.1 vwCl [(q, .inl (X.2.2.1 a, N, .inl g))] H := by
  refine va_P1 ?_
  have h1 : H[q]? = some (vp_cell (X.2.2.1 a) (N, .inl f)) := hP 0 _ rfl
  show H[q]? = some (vp_cell (X.2.2.1 a) (N, .inl g))
  rw [h1, vp_cell_i, vp_cell_i]
  refine congrArg some ?_
  unfold arrV
  congr 1
  apply Array.ext
  · simp
  · intro i h1 h2
    simp at h1
    simp [h i h1]
theorem va_D_map {A : Nat → Prop} {ws ws' : va_W} (h : ws.map (fun q => q.1) = ws'.map (fun q => q.1)) (hD : va_D A ws) : va_D A ws' := by
  have key : ∀ (k : Nat) (q : Nat × va_E), ws'[k]? = some q → ∃ q0, ws[k]? = some q0 ∧ q0.1 = q.1 := by
    intro k q hk
    have h1 : (ws'.map (fun q => q.1))[k]? = some q.1 := by rw [List.getElem?_map, hk]; rfl
    rw [← h, List.getElem?_map] at h1
    cases hq : ws[k]? with
    | none => rw [hq] at h1; cases h1
    | some q0 => rw [hq] at h1; exact ⟨q0, rfl, Option.some.inj h1⟩
  refine ⟨fun i j x y hi hj hxy => ?_, fun k q hk => ?_⟩
  · obtain ⟨x0, h1, h2⟩ := key i x hi
    obtain ⟨y0, h3, h4⟩ := key j y hj
    exact hD.1 i j x0 y0 h1 h3 (h2.trans (hxy.trans h4.symm))
  · obtain ⟨q0, h1, h2⟩ := key k q hk
    rw [← h2]
    exact hD.2 k q0 h1
theorem w_conv {X : Xt} {C0 : C0t} {R : Room} {Q : State → MethodId → Array Value → List Frame → State → Prop} {A : Nat → Prop} {nL : Nat} {ws ws' : va_W} {cs : Nat × Nat} {pc : Nat} {lv : List (Nat × Value)} {st : List Value} (hc : ∀ H, va_P X.2.1 vwCl ws H → va_P X.2.1 vwCl ws' H) (hd : ws.map (fun q => q.1) = ws'.map (fun q => q.1)) (k : Bw X C0 R Q A nL ws' cs pc lv st) : Bw X C0 R Q A nL ws cs pc lv st :=
  fun p e s m args below meth c B H locs ls hP hD hS hl => k p e s m args below meth c B H locs ls (hc H hP) (va_D_map hd hD) hS hl
theorem ci_fill (X : Xt) (hst : X.1.stackTraces = false) (q N : Nat) (f : Nat → Int32) (v : Int32) (hN : N < 2 ^ 31 := by decide) : CI X yJ7_fill_53178 cJ7_fill_53178 4 0 0 (0, 0) [(q, .inl (X.2.2.1 0, N, .inl f))] [.ref q, .int v] (fun w => w = [(q, .inl (X.2.2.1 0, N, .inl (fun _ => v)))]) := by
  refine CI.intro RJ7 rfl hst (by decide) (Nat.le_of_ble_eq_true rfl) (lv := [(0, .ref _), (1, .int _)]) rfl (Cini X cJ7_fill_53178 4 RJ7 "fill") (fun p e s m args below meth c B hn => ⟨B, hn, rfl⟩) (fun sz hsz hws hD0 => ?_)
  have hC := Cini.ctx (cc := cJ7_fill_53178) (nL := 4) (own := RJ7) (nm := "fill") hsz hws
  refine w_iconst (0) (by decide) hC dJ7_fill_53178_0 ?_
  refine w_istore_n [(2, .int _), (0, .ref _), (1, .int _)] rfl (by decide) hC dJ7_fill_53178_1 ?_
  refine w_aload_n 1 rfl hC dJ7_fill_53178_2 ?_
  refine w_alen (q0 := 0) (Int32.ofNat N) hC rfl rfl rfl dJ7_fill_53178_3 ?_
  refine w_istore_n [(3, .int _), (2, .int _), (0, .ref _), (1, .int _)] rfl (by decide) hC dJ7_fill_53178_4 ?_
  have key : ∀ (k i : Nat) (g : Nat → Int32), i ≤ N → N - i ≤ k → (∀ j, j < i → g j = v) → Bw X (Cini X cJ7_fill_53178 4 RJ7 "fill" sz) { frames := 0, cells := 0, slots := 0, locals := 0 } (Qi X (0, 0) [(q, .inl (X.2.2.1 0, N, .inl f))] sz (fun w => w = [(q, .inl (X.2.2.1 0, N, .inl (fun _ => v)))])) (va_A [(q, .inl (X.2.2.1 0, N, .inl f))] sz) 4 [(q, .inl (X.2.2.1 0, N, .inl g))] (0, 0) 5 [(3, .int (nI N)), (2, .int (nI i)), (0, .ref q), (1, .int v)] [] := by
    intro k
    induction k with
    | zero =>
      intro i g hi hk hg
      have hiN : i = N := by omega
      subst hiN
      refine w_iload_n 1 rfl hC dJ7_fill_53178_5 ?_
      refine w_iload_n 0 rfl hC dJ7_fill_53178_6 ?_
      refine w_icmp_ge 20 (by decide) hC dJ7_fill_53178_7 (fun hc => ?_) (fun hc => ?_)
      · refine w_conv (ws' := [(q, .inl (X.2.2.1 0, i, .inl (fun _ => v)))]) (fun H hP => arr_congr hg hP) rfl ?_
        refine w_vret (kc := (0, 0)) ?_ dJ7_fill_53178_20
        rfl
      · exact absurd (nI_le (Nat.le_refl i) hN) hc
    | succ k ih =>
      intro i g hi hk hg
      refine w_iload_n 1 rfl hC dJ7_fill_53178_5 ?_
      refine w_iload_n 0 rfl hC dJ7_fill_53178_6 ?_
      refine w_icmp_ge 20 (by decide) hC dJ7_fill_53178_7 (fun hc => ?_) (fun hc => ?_)
      · have hiN : i = N := by
          have := (nI_leI hN (by omega)).mp hc
          omega
        subst hiN
        refine w_conv (ws' := [(q, .inl (X.2.2.1 0, i, .inl (fun _ => v)))]) (fun H hP => arr_congr hg hP) rfl ?_
        refine w_vret (kc := (0, 0)) ?_ dJ7_fill_53178_20
        rfl
      · have hlt : i < N := by
          rcases Nat.lt_or_ge i N with z | z
          · exact z
          · exact absurd (nI_le z (by omega)) hc
        refine w_aload_n 2 rfl hC dJ7_fill_53178_10 ?_
        refine w_iload_n 1 rfl hC dJ7_fill_53178_11 ?_
        refine w_iload_n 3 rfl hC dJ7_fill_53178_12 ?_
        refine w_iast (q0 := 0) hC rfl ⟨nI_pos (by omega), by rw [nI_clamp (by omega)]; exact hlt⟩ dJ7_fill_53178_13 ?_
        refine w_iinc (1) [(2, .int _), (3, .int _), (0, .ref _), (1, .int _)] 1 rfl (by decide) rfl (by decide) hC dJ7_fill_53178_14 ?_
        refine w_goto 5 (by decide) hC dJ7_fill_53178_17 ?_
        rw [nI_1 i]
        refine w_sub [1, 0, 2, 3] rfl ?_
        refine ih (i + 1) (upd g (nI i).toNatClampNeg v) (by omega) (by omega) (fun j hj => ?_)
        rw [nI_clamp (by omega)]
        unfold upd
        by_cases hji : j = i
        · rw [if_pos hji]
        · rw [if_neg hji]; exact hg j (by omega)
  exact key N 0 f (Nat.zero_le _) (by omega) (fun j hj => absurd hj (Nat.not_lt_zero j))

theorem ci_X1_init (X : Xt) (hst : X.1.stackTraces = false) (h0 : Nat) (p0 : Int32) (p1 : Int32) (p2 : Int32) : CI X yX1_init cX1_init 4 1 12 (0, 0) [(h0, .inr (2, [.int 0, .int 0, .int 0]))] [.ref h0, .int p0, .int p1, .int p2] (fun w => w = [(h0, .inr (2, [.int p0, .int p1, .int p2]))]) := by
  refine CI.intro RX1 rfl hst (by decide) (Nat.le_of_ble_eq_true rfl) (lv := [(0, .ref _), (1, .int _), (2, .int _), (3, .int _)]) rfl (Cini X cX1_init 4 RX1 "<init>") (fun p e s m args below meth c B hn => ⟨B, hn, rfl⟩) (fun sz hsz hws hD0 => ?_)
  have hC := Cini.ctx (cc := cX1_init) (nL := 4) (own := RX1) (nm := "<init>") hsz hws
  have hI : ∀ p e s m args below meth c, Cini X cX1_init 4 RX1 "<init>" sz p e s m args below meth c → meth.name = "<init>" := fun _ _ _ _ _ _ _ _ z => z.2.1
  refine w_aload_n 0 rfl hC dX1_init_0 ?_
  refine w_objInit hC w_529 w_517 w_518 (by decide) (Nat.le_of_ble_eq_true rfl) dX1_init_1 ?_
  refine w_aload_n 0 rfl hC dX1_init_4 ?_
  refine w_iload_n 1 rfl hC dX1_init_5 ?_
  refine w_put (q0 := 0) (k := 0) hC hI tyX1 tyX1_ok nmX1 rfl rfl in_2 (by decide) w_1 (fun _ => rfl) rfl rfl (Nat.le_of_ble_eq_true rfl) dX1_init_6 ?_
  refine w_aload_n 0 rfl hC dX1_init_9 ?_
  refine w_iload_n 2 rfl hC dX1_init_10 ?_
  refine w_put (q0 := 0) (k := 1) hC hI tyX1 tyX1_ok nmX1 rfl rfl in_2 (by decide) w_2 (fun _ => rfl) rfl rfl (Nat.le_of_ble_eq_true rfl) dX1_init_11 ?_
  refine w_aload_n 0 rfl hC dX1_init_14 ?_
  refine w_iload_n 3 rfl hC dX1_init_15 ?_
  refine w_put (q0 := 0) (k := 2) hC hI tyX1 tyX1_ok nmX1 rfl rfl in_2 (by decide) w_8 (fun _ => rfl) rfl rfl (Nat.le_of_ble_eq_true rfl) dX1_init_16 ?_
  refine w_vret (kc := (0, 0)) ?_ dX1_init_19
  exact rfl
theorem ci_X5_init (X : Xt) (hst : X.1.stackTraces = false) (h0 : Nat) : CI X yX5_init cX5_init 1 1 12 (0, 0) [(h0, .inr (6, [.int 0, .int 0]))] [.ref h0] (fun w => w = [(h0, .inr (6, [.int (-1 : Int32), .int (0 : Int32)]))]) := by
  refine CI.intro RX5 rfl hst (by decide) (Nat.le_of_ble_eq_true rfl) (lv := [(0, .ref _)]) rfl (Cini X cX5_init 1 RX5 "<init>") (fun p e s m args below meth c B hn => ⟨B, hn, rfl⟩) (fun sz hsz hws hD0 => ?_)
  have hC := Cini.ctx (cc := cX5_init) (nL := 1) (own := RX5) (nm := "<init>") hsz hws
  have hI : ∀ p e s m args below meth c, Cini X cX5_init 1 RX5 "<init>" sz p e s m args below meth c → meth.name = "<init>" := fun _ _ _ _ _ _ _ _ z => z.2.1
  refine w_aload_n 0 rfl hC dX5_init_0 ?_
  refine w_objInit hC w_530 w_517 w_518 (by decide) (Nat.le_of_ble_eq_true rfl) dX5_init_1 ?_
  refine w_aload_n 0 rfl hC dX5_init_4 ?_
  refine w_iconst (-1) (by decide) hC dX5_init_5 ?_
  refine w_put (q0 := 0) (k := 0) hC hI tyX5 tyX5_ok nmX5 rfl rfl in_6 (by decide) w_9 (fun _ => rfl) rfl rfl (Nat.le_of_ble_eq_true rfl) dX5_init_6 ?_
  refine w_aload_n 0 rfl hC dX5_init_9 ?_
  refine w_iconst (0) (by decide) hC dX5_init_10 ?_
  refine w_put (q0 := 0) (k := 1) hC hI tyX5 tyX5_ok nmX5 rfl rfl in_6 (by decide) w_10 (fun _ => rfl) rfl rfl (Nat.le_of_ble_eq_true rfl) dX5_init_11 ?_
  refine w_vret (kc := (0, 0)) ?_ dX5_init_14
  exact rfl
theorem ci_X6_init (X : Xt) (hst : X.1.stackTraces = false) (h0 : Nat) : CI X yX6_init cX6_init 1 1 12 (1, 6) [(h0, .inr (7, [.null, .int 0]))] [.ref h0] (fun w => ∃ q1, w = [(h0, .inr (7, [.ref q1, .int (0 : Int32)])), (q1, .inl (X.2.2.1 0, 6, .inl (fun _ => 0)))]) := by
  refine CI.intro RX6 rfl hst (by decide) (Nat.le_of_ble_eq_true rfl) (lv := [(0, .ref _)]) rfl (Cini X cX6_init 1 RX6 "<init>") (fun p e s m args below meth c B hn => ⟨B, hn, rfl⟩) (fun sz hsz hws hD0 => ?_)
  have hC := Cini.ctx (cc := cX6_init) (nL := 1) (own := RX6) (nm := "<init>") hsz hws
  have hI : ∀ p e s m args below meth c, Cini X cX6_init 1 RX6 "<init>" sz p e s m args below meth c → meth.name = "<init>" := fun _ _ _ _ _ _ _ _ z => z.2.1
  refine w_aload_n 0 rfl hC dX6_init_0 ?_
  refine w_objInit hC w_531 w_517 w_518 (by decide) (Nat.le_of_ble_eq_true rfl) dX6_init_1 ?_
  refine w_aload_n 0 rfl hC dX6_init_4 ?_
  refine w_bipush (6) (by decide) hC dX6_init_5 ?_
  refine w_newa (atype := .int) (a0 := (6, .inl (fun _ => 0))) 0 hC rfl (by decide) rfl w_532 (fun _ => rfl) (by decide) (by decide) (by decide) (Nat.le_of_ble_eq_true rfl) (Nat.le_of_ble_eq_true rfl) dX6_init_7 (fun q1 => ?_)
  refine w_put (q0 := 0) (k := 0) hC hI tyX6 tyX6_ok nmX6 rfl rfl in_7 (by decide) w_14 (fun _ => rfl) rfl rfl (Nat.le_of_ble_eq_true rfl) dX6_init_9 ?_
  refine w_aload_n 0 rfl hC dX6_init_12 ?_
  refine w_iconst (0) (by decide) hC dX6_init_13 ?_
  refine w_put (q0 := 0) (k := 1) hC hI tyX6 tyX6_ok nmX6 rfl rfl in_7 (by decide) w_13 (fun _ => rfl) rfl rfl (Nat.le_of_ble_eq_true rfl) dX6_init_14 ?_
  refine w_vret (kc := (1, 6)) ?_ dX6_init_17
  exact ⟨_, rfl⟩
theorem ci_X4_init (X : Xt) (hst : X.1.stackTraces = false) (h0 : Nat) : CI X yX4_init cX4_init 1 1 23 (1, 1200) [(h0, .inr (5, [.null]))] [.ref h0] (fun w => ∃ q1, w = [(h0, .inr (5, [.ref q1])), (q1, .inl (X.2.2.1 0, 1200, .inl (fun _ => (-1 : Int32))))]) := by
  refine CI.intro RX4 rfl hst (by decide) (Nat.le_of_ble_eq_true rfl) (lv := [(0, .ref _)]) rfl (Cini X cX4_init 1 RX4 "<init>") (fun p e s m args below meth c B hn => ⟨B, hn, rfl⟩) (fun sz hsz hws hD0 => ?_)
  have hC := Cini.ctx (cc := cX4_init) (nL := 1) (own := RX4) (nm := "<init>") hsz hws
  have hI : ∀ p e s m args below meth c, Cini X cX4_init 1 RX4 "<init>" sz p e s m args below meth c → meth.name = "<init>" := fun _ _ _ _ _ _ _ _ z => z.2.1
  refine w_aload_n 0 rfl hC dX4_init_0 ?_
  refine w_objInit hC w_533 w_517 w_518 (by decide) (Nat.le_of_ble_eq_true rfl) dX4_init_1 ?_
  refine w_aload_n 0 rfl hC dX4_init_4 ?_
  refine w_sipush (1200) (by decide) hC dX4_init_5 ?_
  refine w_newa (atype := .int) (a0 := (1200, .inl (fun _ => 0))) 0 hC rfl (by decide) rfl w_532 (fun _ => rfl) (by decide) (by decide) (by decide) (Nat.le_of_ble_eq_true rfl) (Nat.le_of_ble_eq_true rfl) dX4_init_8 (fun q1 => ?_)
  refine w_put (q0 := 0) (k := 0) hC hI tyX4 tyX4_ok nmX4 rfl rfl in_5 (by decide) w_15 (fun _ => rfl) rfl rfl (Nat.le_of_ble_eq_true rfl) dX4_init_10 ?_
  refine w_aload_n 0 rfl hC dX4_init_13 ?_
  refine w_getf (q0 := 0) (k := 0) hC rfl rfl in_5 (by decide) w_15 rfl dX4_init_14 ?_
  refine w_iconst (-1) (by decide) hC dX4_init_17 ?_
  refine w_callS (wr := [_]) (n := 2) (As := [.ref _, .int _]) hC [1] [0] rfl rfl (by decide) (by decide) (by decide) (ci_fill X hst _ _ _ _) ⟨by decide, by decide, by decide +kernel⟩ w_534 w_240 w_241 w_242 rfl rfl (Nat.le_of_ble_eq_true rfl) ⟨by decide, by decide⟩ ⟨Nat.le_of_ble_eq_true rfl, Nat.le_of_ble_eq_true rfl⟩ dX4_init_18 (fun w9 h9 => ?_)
  obtain rfl := h9
  refine w_vret (kc := (1, 1200)) ?_ dX4_init_21
  exact ⟨_, rfl⟩
theorem ci_X3_init (X : Xt) (hst : X.1.stackTraces = false) (h0 : Nat) : CI X yX3_init cX3_init 1 1 12 (6, 478) [(h0, .inr (4, [.null, .null, .null, .null, .null, .null, .int 0, .int 0]))] [.ref h0] (fun w => ∃ q1 q2 q3 q4 q5 q6, w = [(h0, .inr (4, [.ref q1, .ref q2, .ref q3, .ref q4, .ref q5, .ref q6, .int (0 : Int32), .int (0 : Int32)])), (q1, .inl (X.2.2.1 0, 6, .inl (fun _ => 0))), (q2, .inl (X.2.2.1 0, 6, .inl (fun _ => 0))), (q3, .inl (X.2.2.1 0, 6, .inl (fun _ => 0))), (q4, .inl (X.2.2.1 0, 6, .inl (fun _ => 0))), (q5, .inl (X.2.2.1 0, 6, .inl (fun _ => 0))), (q6, .inl (X.2.2.1 0, 448, .inl (fun _ => 0)))]) := by
  refine CI.intro RX3 rfl hst (by decide) (Nat.le_of_ble_eq_true rfl) (lv := [(0, .ref _)]) rfl (Cini X cX3_init 1 RX3 "<init>") (fun p e s m args below meth c B hn => ⟨B, hn, rfl⟩) (fun sz hsz hws hD0 => ?_)
  have hC := Cini.ctx (cc := cX3_init) (nL := 1) (own := RX3) (nm := "<init>") hsz hws
  have hI : ∀ p e s m args below meth c, Cini X cX3_init 1 RX3 "<init>" sz p e s m args below meth c → meth.name = "<init>" := fun _ _ _ _ _ _ _ _ z => z.2.1
  refine w_aload_n 0 rfl hC dX3_init_0 ?_
  refine w_objInit hC w_535 w_517 w_518 (by decide) (Nat.le_of_ble_eq_true rfl) dX3_init_1 ?_
  refine w_aload_n 0 rfl hC dX3_init_4 ?_
  refine w_bipush (6) (by decide) hC dX3_init_5 ?_
  refine w_newa (atype := .int) (a0 := (6, .inl (fun _ => 0))) 0 hC rfl (by decide) rfl w_532 (fun _ => rfl) (by decide) (by decide) (by decide) (Nat.le_of_ble_eq_true rfl) (Nat.le_of_ble_eq_true rfl) dX3_init_7 (fun q1 => ?_)
  refine w_put (q0 := 0) (k := 0) hC hI tyX3 tyX3_ok nmX3 rfl rfl in_4 (by decide) w_44 (fun _ => rfl) rfl rfl (Nat.le_of_ble_eq_true rfl) dX3_init_9 ?_
  refine w_aload_n 0 rfl hC dX3_init_12 ?_
  refine w_bipush (6) (by decide) hC dX3_init_13 ?_
  refine w_newa (atype := .int) (a0 := (6, .inl (fun _ => 0))) 0 hC rfl (by decide) rfl w_532 (fun _ => rfl) (by decide) (by decide) (by decide) (Nat.le_of_ble_eq_true rfl) (Nat.le_of_ble_eq_true rfl) dX3_init_15 (fun q2 => ?_)
  refine w_put (q0 := 0) (k := 1) hC hI tyX3 tyX3_ok nmX3 rfl rfl in_4 (by decide) w_45 (fun _ => rfl) rfl rfl (Nat.le_of_ble_eq_true rfl) dX3_init_17 ?_
  refine w_aload_n 0 rfl hC dX3_init_20 ?_
  refine w_bipush (6) (by decide) hC dX3_init_21 ?_
  refine w_newa (atype := .int) (a0 := (6, .inl (fun _ => 0))) 0 hC rfl (by decide) rfl w_532 (fun _ => rfl) (by decide) (by decide) (by decide) (Nat.le_of_ble_eq_true rfl) (Nat.le_of_ble_eq_true rfl) dX3_init_23 (fun q3 => ?_)
  refine w_put (q0 := 0) (k := 2) hC hI tyX3 tyX3_ok nmX3 rfl rfl in_4 (by decide) w_46 (fun _ => rfl) rfl rfl (Nat.le_of_ble_eq_true rfl) dX3_init_25 ?_
  refine w_aload_n 0 rfl hC dX3_init_28 ?_
  refine w_bipush (6) (by decide) hC dX3_init_29 ?_
  refine w_newa (atype := .int) (a0 := (6, .inl (fun _ => 0))) 0 hC rfl (by decide) rfl w_532 (fun _ => rfl) (by decide) (by decide) (by decide) (Nat.le_of_ble_eq_true rfl) (Nat.le_of_ble_eq_true rfl) dX3_init_31 (fun q4 => ?_)
  refine w_put (q0 := 0) (k := 3) hC hI tyX3 tyX3_ok nmX3 rfl rfl in_4 (by decide) w_47 (fun _ => rfl) rfl rfl (Nat.le_of_ble_eq_true rfl) dX3_init_33 ?_
  refine w_aload_n 0 rfl hC dX3_init_36 ?_
  refine w_bipush (6) (by decide) hC dX3_init_37 ?_
  refine w_newa (atype := .int) (a0 := (6, .inl (fun _ => 0))) 0 hC rfl (by decide) rfl w_532 (fun _ => rfl) (by decide) (by decide) (by decide) (Nat.le_of_ble_eq_true rfl) (Nat.le_of_ble_eq_true rfl) dX3_init_39 (fun q5 => ?_)
  refine w_put (q0 := 0) (k := 4) hC hI tyX3 tyX3_ok nmX3 rfl rfl in_4 (by decide) w_82 (fun _ => rfl) rfl rfl (Nat.le_of_ble_eq_true rfl) dX3_init_41 ?_
  refine w_aload_n 0 rfl hC dX3_init_44 ?_
  refine w_sipush (448) (by decide) hC dX3_init_45 ?_
  refine w_newa (atype := .int) (a0 := (448, .inl (fun _ => 0))) 0 hC rfl (by decide) rfl w_532 (fun _ => rfl) (by decide) (by decide) (by decide) (Nat.le_of_ble_eq_true rfl) (Nat.le_of_ble_eq_true rfl) dX3_init_48 (fun q6 => ?_)
  refine w_put (q0 := 0) (k := 5) hC hI tyX3 tyX3_ok nmX3 rfl rfl in_4 (by decide) w_56 (fun _ => rfl) rfl rfl (Nat.le_of_ble_eq_true rfl) dX3_init_50 ?_
  refine w_aload_n 0 rfl hC dX3_init_53 ?_
  refine w_iconst (0) (by decide) hC dX3_init_54 ?_
  refine w_put (q0 := 0) (k := 6) hC hI tyX3 tyX3_ok nmX3 rfl rfl in_4 (by decide) w_42 (fun _ => rfl) rfl rfl (Nat.le_of_ble_eq_true rfl) dX3_init_55 ?_
  refine w_aload_n 0 rfl hC dX3_init_58 ?_
  refine w_iconst (0) (by decide) hC dX3_init_59 ?_
  refine w_put (q0 := 0) (k := 7) hC hI tyX3 tyX3_ok nmX3 rfl rfl in_4 (by decide) w_43 (fun _ => rfl) rfl rfl (Nat.le_of_ble_eq_true rfl) dX3_init_60 ?_
  refine w_vret (kc := (6, 478)) ?_ dX3_init_63
  exact ⟨_, _, _, _, _, _, rfl⟩
theorem ci_X7_init (X : Xt) (hst : X.1.stackTraces = false) (h0 : Nat) : CI X yX7_init cX7_init 1 2 35 (9, 24) [(h0, .inr (8, [.null, .null]))] [.ref h0] (fun w => ∃ q1 q2 q4 q6 q8 q9 q11 q13 q15, w = [(h0, .inr (8, [.ref q1, .ref q8])), (q1, .inl (X.2.2.1 2, 3, .inr (.inr (.inr (.inr (va_up (va_up (va_up (fun _ => none) (0 : Int32).toNatClampNeg (some q2)) (1 : Int32).toNatClampNeg (some q4)) (2 : Int32).toNatClampNeg (some q6))))))), (q2, .inr (2, [.int (1000 : Int32), .int (10 : Int32), .int (5 : Int32)])), (q4, .inr (2, [.int (3000 : Int32), .int (10 : Int32), .int (20 : Int32)])), (q6, .inr (2, [.int (9000 : Int32), .int (10 : Int32), .int (60 : Int32)])), (q8, .inl (X.2.2.1 3, 4, .inr (.inr (.inr (.inr (va_up (va_up (va_up (va_up (fun _ => none) (0 : Int32).toNatClampNeg (some q9)) (1 : Int32).toNatClampNeg (some q11)) (2 : Int32).toNatClampNeg (some q13)) (3 : Int32).toNatClampNeg (some q15))))))), (q9, .inr (6, [.int (-1 : Int32), .int (0 : Int32)])), (q11, .inr (6, [.int (-1 : Int32), .int (0 : Int32)])), (q13, .inr (6, [.int (-1 : Int32), .int (0 : Int32)])), (q15, .inr (6, [.int (-1 : Int32), .int (0 : Int32)]))]) := by
  refine CI.intro RX7 rfl hst (by decide) (Nat.le_of_ble_eq_true rfl) (lv := [(0, .ref _)]) rfl (Cini X cX7_init 1 RX7 "<init>") (fun p e s m args below meth c B hn => ⟨B, hn, rfl⟩) (fun sz hsz hws hD0 => ?_)
  have hC := Cini.ctx (cc := cX7_init) (nL := 1) (own := RX7) (nm := "<init>") hsz hws
  have hI : ∀ p e s m args below meth c, Cini X cX7_init 1 RX7 "<init>" sz p e s m args below meth c → meth.name = "<init>" := fun _ _ _ _ _ _ _ _ z => z.2.1
  refine w_aload_n 0 rfl hC dX7_init_0 ?_
  refine w_objInit hC w_536 w_517 w_518 (by decide) (Nat.le_of_ble_eq_true rfl) dX7_init_1 ?_
  refine w_aload_n 0 rfl hC dX7_init_4 ?_
  refine w_iconst (3) (by decide) hC dX7_init_5 ?_
  refine w_newq (N := 3) 2 hC rfl w_537 (by decide) (by decide) (by decide) (by decide) (Nat.le_of_ble_eq_true rfl) (Nat.le_of_ble_eq_true rfl) dX7_init_6 (fun q1 => ?_)
  refine w_dup rfl hC dX7_init_9 ?_
  refine w_iconst (0) (by decide) hC dX7_init_10 ?_
  refine w_new (ci := 2) (fs := [.int 0, .int 0, .int 0]) hC tyX1 tyX1_ok rfl in_2 w_537 w_538 w_6 (by decide) (Nat.le_of_ble_eq_true rfl) (Nat.le_of_ble_eq_true rfl) dX7_init_11 (fun q2 => ?_)
  refine w_dup rfl hC dX7_init_14 ?_
  refine w_sipush (1000) (by decide) hC dX7_init_15 ?_
  refine w_bipush (10) (by decide) hC dX7_init_18 ?_
  refine w_iconst (5) (by decide) hC dX7_init_20 ?_
  refine w_callI (wr := [_, _]) (n := 3) (As := [.int _, .int _, .int _]) hC [2] [0, 1] rfl rfl (by decide) (by decide) (by decide) (ci_X1_init X hst _ _ _ _) ⟨by decide, by decide, by decide +kernel⟩ rfl w_539 w_540 w_6 w_541 rfl rfl (Nat.le_of_ble_eq_true rfl) ⟨by decide, by decide⟩ ⟨Nat.le_of_ble_eq_true rfl, Nat.le_of_ble_eq_true rfl⟩ dX7_init_21 (fun w9 h9 => ?_)
  obtain rfl := h9
  refine w_aast (q0 := 1) (qk := 2) hC rfl rfl rfl rfl (by decide) dX7_init_24 ?_
  refine w_dup rfl hC dX7_init_25 ?_
  refine w_iconst (1) (by decide) hC dX7_init_26 ?_
  refine w_new (ci := 2) (fs := [.int 0, .int 0, .int 0]) hC tyX1 tyX1_ok rfl in_2 w_537 w_538 w_6 (by decide) (Nat.le_of_ble_eq_true rfl) (Nat.le_of_ble_eq_true rfl) dX7_init_27 (fun q4 => ?_)
  refine w_dup rfl hC dX7_init_30 ?_
  refine w_sipush (3000) (by decide) hC dX7_init_31 ?_
  refine w_bipush (10) (by decide) hC dX7_init_34 ?_
  refine w_bipush (20) (by decide) hC dX7_init_36 ?_
  refine w_callI (wr := [_, _, _]) (n := 3) (As := [.int _, .int _, .int _]) hC [3] [0, 1, 2] rfl rfl (by decide) (by decide) (by decide) (ci_X1_init X hst _ _ _ _) ⟨by decide, by decide, by decide +kernel⟩ rfl w_539 w_540 w_6 w_541 rfl rfl (Nat.le_of_ble_eq_true rfl) ⟨by decide, by decide⟩ ⟨Nat.le_of_ble_eq_true rfl, Nat.le_of_ble_eq_true rfl⟩ dX7_init_38 (fun w9 h9 => ?_)
  obtain rfl := h9
  refine w_aast (q0 := 1) (qk := 3) hC rfl rfl rfl rfl (by decide) dX7_init_41 ?_
  refine w_dup rfl hC dX7_init_42 ?_
  refine w_iconst (2) (by decide) hC dX7_init_43 ?_
  refine w_new (ci := 2) (fs := [.int 0, .int 0, .int 0]) hC tyX1 tyX1_ok rfl in_2 w_537 w_538 w_6 (by decide) (Nat.le_of_ble_eq_true rfl) (Nat.le_of_ble_eq_true rfl) dX7_init_44 (fun q6 => ?_)
  refine w_dup rfl hC dX7_init_47 ?_
  refine w_sipush (9000) (by decide) hC dX7_init_48 ?_
  refine w_bipush (10) (by decide) hC dX7_init_51 ?_
  refine w_bipush (60) (by decide) hC dX7_init_53 ?_
  refine w_callI (wr := [_, _, _, _]) (n := 3) (As := [.int _, .int _, .int _]) hC [4] [0, 1, 2, 3] rfl rfl (by decide) (by decide) (by decide) (ci_X1_init X hst _ _ _ _) ⟨by decide, by decide, by decide +kernel⟩ rfl w_539 w_540 w_6 w_541 rfl rfl (Nat.le_of_ble_eq_true rfl) ⟨by decide, by decide⟩ ⟨Nat.le_of_ble_eq_true rfl, Nat.le_of_ble_eq_true rfl⟩ dX7_init_55 (fun w9 h9 => ?_)
  obtain rfl := h9
  refine w_aast (q0 := 1) (qk := 4) hC rfl rfl rfl rfl (by decide) dX7_init_58 ?_
  refine w_put (q0 := 0) (k := 0) hC hI tyX7 tyX7_ok nmX7 rfl rfl in_8 (by decide) w_294 (fun _ => rfl) rfl rfl (Nat.le_of_ble_eq_true rfl) dX7_init_59 ?_
  refine w_aload_n 0 rfl hC dX7_init_62 ?_
  refine w_iconst (4) (by decide) hC dX7_init_63 ?_
  refine w_newq (N := 4) 3 hC rfl w_542 (by decide) (by decide) (by decide) (by decide) (Nat.le_of_ble_eq_true rfl) (Nat.le_of_ble_eq_true rfl) dX7_init_64 (fun q8 => ?_)
  refine w_dup rfl hC dX7_init_67 ?_
  refine w_iconst (0) (by decide) hC dX7_init_68 ?_
  refine w_new (ci := 6) (fs := [.int 0, .int 0]) hC tyX5 tyX5_ok rfl in_6 w_542 w_543 w_370 (by decide) (Nat.le_of_ble_eq_true rfl) (Nat.le_of_ble_eq_true rfl) dX7_init_69 (fun q9 => ?_)
  refine w_dup rfl hC dX7_init_72 ?_
  refine w_callIN (wr := [_, _, _, _, _, _]) (n := 0) (As := []) hC [6] [0, 1, 2, 3, 4, 5] rfl rfl (by decide) (by decide) (by decide) (ci_X5_init X hst _) ⟨by decide, by decide, by decide +kernel⟩ rfl w_544 w_545 w_370 w_546 rfl rfl (Nat.le_of_ble_eq_true rfl) ⟨by decide, by decide⟩ ⟨Nat.le_of_ble_eq_true rfl, Nat.le_of_ble_eq_true rfl⟩ dX7_init_73 (fun w9 h9 => ?_)
  obtain rfl := h9
  refine w_aast (q0 := 5) (qk := 6) hC rfl rfl rfl rfl (by decide) dX7_init_76 ?_
  refine w_dup rfl hC dX7_init_77 ?_
  refine w_iconst (1) (by decide) hC dX7_init_78 ?_
  refine w_new (ci := 6) (fs := [.int 0, .int 0]) hC tyX5 tyX5_ok rfl in_6 w_542 w_543 w_370 (by decide) (Nat.le_of_ble_eq_true rfl) (Nat.le_of_ble_eq_true rfl) dX7_init_79 (fun q11 => ?_)
  refine w_dup rfl hC dX7_init_82 ?_
  refine w_callIN (wr := [_, _, _, _, _, _, _]) (n := 0) (As := []) hC [7] [0, 1, 2, 3, 4, 5, 6] rfl rfl (by decide) (by decide) (by decide) (ci_X5_init X hst _) ⟨by decide, by decide, by decide +kernel⟩ rfl w_544 w_545 w_370 w_546 rfl rfl (Nat.le_of_ble_eq_true rfl) ⟨by decide, by decide⟩ ⟨Nat.le_of_ble_eq_true rfl, Nat.le_of_ble_eq_true rfl⟩ dX7_init_83 (fun w9 h9 => ?_)
  obtain rfl := h9
  refine w_aast (q0 := 5) (qk := 7) hC rfl rfl rfl rfl (by decide) dX7_init_86 ?_
  refine w_dup rfl hC dX7_init_87 ?_
  refine w_iconst (2) (by decide) hC dX7_init_88 ?_
  refine w_new (ci := 6) (fs := [.int 0, .int 0]) hC tyX5 tyX5_ok rfl in_6 w_542 w_543 w_370 (by decide) (Nat.le_of_ble_eq_true rfl) (Nat.le_of_ble_eq_true rfl) dX7_init_89 (fun q13 => ?_)
  refine w_dup rfl hC dX7_init_92 ?_
  refine w_callIN (wr := [_, _, _, _, _, _, _, _]) (n := 0) (As := []) hC [8] [0, 1, 2, 3, 4, 5, 6, 7] rfl rfl (by decide) (by decide) (by decide) (ci_X5_init X hst _) ⟨by decide, by decide, by decide +kernel⟩ rfl w_544 w_545 w_370 w_546 rfl rfl (Nat.le_of_ble_eq_true rfl) ⟨by decide, by decide⟩ ⟨Nat.le_of_ble_eq_true rfl, Nat.le_of_ble_eq_true rfl⟩ dX7_init_93 (fun w9 h9 => ?_)
  obtain rfl := h9
  refine w_aast (q0 := 5) (qk := 8) hC rfl rfl rfl rfl (by decide) dX7_init_96 ?_
  refine w_dup rfl hC dX7_init_97 ?_
  refine w_iconst (3) (by decide) hC dX7_init_98 ?_
  refine w_new (ci := 6) (fs := [.int 0, .int 0]) hC tyX5 tyX5_ok rfl in_6 w_542 w_543 w_370 (by decide) (Nat.le_of_ble_eq_true rfl) (Nat.le_of_ble_eq_true rfl) dX7_init_99 (fun q15 => ?_)
  refine w_dup rfl hC dX7_init_102 ?_
  refine w_callIN (wr := [_, _, _, _, _, _, _, _, _]) (n := 0) (As := []) hC [9] [0, 1, 2, 3, 4, 5, 6, 7, 8] rfl rfl (by decide) (by decide) (by decide) (ci_X5_init X hst _) ⟨by decide, by decide, by decide +kernel⟩ rfl w_544 w_545 w_370 w_546 rfl rfl (Nat.le_of_ble_eq_true rfl) ⟨by decide, by decide⟩ ⟨Nat.le_of_ble_eq_true rfl, Nat.le_of_ble_eq_true rfl⟩ dX7_init_103 (fun w9 h9 => ?_)
  obtain rfl := h9
  refine w_aast (q0 := 5) (qk := 9) hC rfl rfl rfl rfl (by decide) dX7_init_106 ?_
  refine w_put (q0 := 0) (k := 1) hC hI tyX7 tyX7_ok nmX7 rfl rfl in_8 (by decide) w_331 (fun _ => rfl) rfl rfl (Nat.le_of_ble_eq_true rfl) dX7_init_107 ?_
  refine w_vret (kc := (9, 24)) ?_ dX7_init_110
  exact ⟨_, _, _, _, _, _, _, _, _, rfl⟩
theorem ci_X8_init (X : Xt) (hst : X.1.stackTraces = false) (h0 : Nat) (p0 : Int32) (p1 : Int32) : CI X yX8_init cX8_init 3 4 72 (4, 13) [(h0, .inr (9, [.int 0, .null, .int 0, .int 0, .null, .null, .null]))] [.ref h0, .int p0, .int p1] (fun w => ∃ q1 q3 q4 q5, w = [(h0, .inr (9, [.int p1, .ref q1, .int p0, .int p1, .ref q3, .ref q4, .ref q5])), (q1, .inr (0, [.int (0 : Int32), .ref X.2.2.2.2, .int 0])), (q3, .inl (X.2.2.1 0, 3, .inl (fun _ => 0))), (q4, .inl (X.2.2.1 0, 3, .inl (fun _ => 0))), (q5, .inl (X.2.2.1 0, 4, .inl (fun _ => (900 : Int32))))]) := by
  refine CI.intro RX8 rfl hst (by decide) (Nat.le_of_ble_eq_true rfl) (lv := [(0, .ref _), (1, .int _), (2, .int _)]) rfl (Cini X cX8_init 3 RX8 "<init>") (fun p e s m args below meth c B hn => ⟨B, hn, rfl⟩) (fun sz hsz hws hD0 => ?_)
  have hC := Cini.ctx (cc := cX8_init) (nL := 3) (own := RX8) (nm := "<init>") hsz hws
  have hI : ∀ p e s m args below meth c, Cini X cX8_init 3 RX8 "<init>" sz p e s m args below meth c → meth.name = "<init>" := fun _ _ _ _ _ _ _ _ z => z.2.1
  refine w_aload_n 0 rfl hC dX8_init_0 ?_
  refine w_objInit hC w_547 w_517 w_518 (by decide) (Nat.le_of_ble_eq_true rfl) dX8_init_1 ?_
  refine w_aload_n 0 rfl hC dX8_init_4 ?_
  refine w_new (ci := 0) (fs := [.int 0, .null, .int 0]) hC tyJx4a65c tyJx4a65c_ok rfl in_0 w_548 w_549 w_104 (by decide) (Nat.le_of_ble_eq_true rfl) (Nat.le_of_ble_eq_true rfl) dX8_init_5 (fun q1 => ?_)
  refine w_dup rfl hC dX8_init_8 ?_
  refine w_callI (wr := [_]) (n := 0) (As := []) hC [1] [0] rfl rfl (by decide) (by decide) (by decide) (ci_Jx4a65c_init_da8c8 X hst _) ⟨by decide, by decide, by decide +kernel⟩ rfl w_550 w_551 w_104 w_552 rfl rfl (Nat.le_of_ble_eq_true rfl) ⟨by decide, by decide⟩ ⟨Nat.le_of_ble_eq_true rfl, Nat.le_of_ble_eq_true rfl⟩ dX8_init_9 (fun w9 h9 => ?_)
  obtain rfl := h9
  refine w_put (q0 := 0) (k := 1) hC hI tyX8 tyX8_ok nmX8 rfl rfl in_9 (by decide) w_260 (fun _ => rfl) rfl rfl (Nat.le_of_ble_eq_true rfl) dX8_init_12 ?_
  refine w_aload_n 0 rfl hC dX8_init_15 ?_
  refine w_iconst (3) (by decide) hC dX8_init_16 ?_
  refine w_newa (atype := .int) (a0 := (3, .inl (fun _ => 0))) 0 hC rfl (by decide) rfl w_532 (fun _ => rfl) (by decide) (by decide) (by decide) (Nat.le_of_ble_eq_true rfl) (Nat.le_of_ble_eq_true rfl) dX8_init_17 (fun q3 => ?_)
  refine w_put (q0 := 0) (k := 4) hC hI tyX8 tyX8_ok nmX8 rfl rfl in_9 (by decide) w_21 (fun _ => rfl) rfl rfl (Nat.le_of_ble_eq_true rfl) dX8_init_19 ?_
  refine w_aload_n 0 rfl hC dX8_init_22 ?_
  refine w_iconst (3) (by decide) hC dX8_init_23 ?_
  refine w_newa (atype := .int) (a0 := (3, .inl (fun _ => 0))) 0 hC rfl (by decide) rfl w_532 (fun _ => rfl) (by decide) (by decide) (by decide) (Nat.le_of_ble_eq_true rfl) (Nat.le_of_ble_eq_true rfl) dX8_init_24 (fun q4 => ?_)
  refine w_put (q0 := 0) (k := 5) hC hI tyX8 tyX8_ok nmX8 rfl rfl in_9 (by decide) w_22 (fun _ => rfl) rfl rfl (Nat.le_of_ble_eq_true rfl) dX8_init_26 ?_
  refine w_aload_n 0 rfl hC dX8_init_29 ?_
  refine w_iconst (4) (by decide) hC dX8_init_30 ?_
  refine w_newa (atype := .int) (a0 := (4, .inl (fun _ => 0))) 0 hC rfl (by decide) rfl w_532 (fun _ => rfl) (by decide) (by decide) (by decide) (Nat.le_of_ble_eq_true rfl) (Nat.le_of_ble_eq_true rfl) dX8_init_31 (fun q5 => ?_)
  refine w_put (q0 := 0) (k := 6) hC hI tyX8 tyX8_ok nmX8 rfl rfl in_9 (by decide) w_23 (fun _ => rfl) rfl rfl (Nat.le_of_ble_eq_true rfl) dX8_init_33 ?_
  refine w_aload_n 0 rfl hC dX8_init_36 ?_
  refine w_iload_n 1 rfl hC dX8_init_37 ?_
  refine w_put (q0 := 0) (k := 2) hC hI tyX8 tyX8_ok nmX8 rfl rfl in_9 (by decide) w_553 (fun _ => rfl) rfl rfl (Nat.le_of_ble_eq_true rfl) dX8_init_38 ?_
  refine w_aload_n 0 rfl hC dX8_init_41 ?_
  refine w_iload_n 2 rfl hC dX8_init_42 ?_
  refine w_put (q0 := 0) (k := 3) hC hI tyX8 tyX8_ok nmX8 rfl rfl in_9 (by decide) w_24 (fun _ => rfl) rfl rfl (Nat.le_of_ble_eq_true rfl) dX8_init_43 ?_
  refine w_aload_n 0 rfl hC dX8_init_46 ?_
  refine w_iload_n 2 rfl hC dX8_init_47 ?_
  refine w_put (q0 := 0) (k := 0) hC hI tyX8 tyX8_ok nmX8 rfl rfl in_9 (by decide) w_554 (fun _ => rfl) rfl rfl (Nat.le_of_ble_eq_true rfl) dX8_init_48 ?_
  refine w_aload_n 0 rfl hC dX8_init_51 ?_
  refine w_getf (q0 := 0) (k := 6) hC rfl rfl in_9 (by decide) w_23 rfl dX8_init_52 ?_
  refine w_sipush (900) (by decide) hC dX8_init_55 ?_
  refine w_callS (wr := [_, _, _, _]) (n := 2) (As := [.ref _, .int _]) hC [4] [0, 1, 2, 3] rfl rfl (by decide) (by decide) (by decide) (ci_fill X hst _ _ _ _) ⟨by decide, by decide, by decide +kernel⟩ w_281 w_240 w_241 w_242 rfl rfl (Nat.le_of_ble_eq_true rfl) ⟨by decide, by decide⟩ ⟨Nat.le_of_ble_eq_true rfl, Nat.le_of_ble_eq_true rfl⟩ dX8_init_58 (fun w9 h9 => ?_)
  obtain rfl := h9
  refine w_vret (kc := (4, 13)) ?_ dX8_init_61
  exact ⟨_, _, _, _, rfl⟩
theorem ci_X0_init (X : Xt) (hst : X.1.stackTraces = false) (h0 : Nat) (p0 : Int32) (p1 : Int32) (p2 : Int32) (p3 : Int32) (p4 : Int32) : CI X yX0_init cX0_init 6 1 12 (0, 0) [(h0, .inr (1, [.int 0, .int 0, .int 0, .int 0, .int 0, .int 0]))] [.ref h0, .int p0, .int p1, .int p2, .int p3, .int p4] (fun w => w = [(h0, .inr (1, [.int p0, .int p1, .int p2, .int p3, .int p4, .int (-1 : Int32)]))]) := by
  refine CI.intro RX0 rfl hst (by decide) (Nat.le_of_ble_eq_true rfl) (lv := [(0, .ref _), (1, .int _), (2, .int _), (3, .int _), (4, .int _), (5, .int _)]) rfl (Cini X cX0_init 6 RX0 "<init>") (fun p e s m args below meth c B hn => ⟨B, hn, rfl⟩) (fun sz hsz hws hD0 => ?_)
  have hC := Cini.ctx (cc := cX0_init) (nL := 6) (own := RX0) (nm := "<init>") hsz hws
  have hI : ∀ p e s m args below meth c, Cini X cX0_init 6 RX0 "<init>" sz p e s m args below meth c → meth.name = "<init>" := fun _ _ _ _ _ _ _ _ z => z.2.1
  refine w_aload_n 0 rfl hC dX0_init_0 ?_
  refine w_objInit hC w_555 w_517 w_518 (by decide) (Nat.le_of_ble_eq_true rfl) dX0_init_1 ?_
  refine w_aload_n 0 rfl hC dX0_init_4 ?_
  refine w_iconst (-1) (by decide) hC dX0_init_5 ?_
  refine w_put (q0 := 0) (k := 5) hC hI tyX0 tyX0_ok nmX0 rfl rfl in_1 (by decide) w_0 (fun _ => rfl) rfl rfl (Nat.le_of_ble_eq_true rfl) dX0_init_6 ?_
  refine w_aload_n 0 rfl hC dX0_init_9 ?_
  refine w_iload_n 1 rfl hC dX0_init_10 ?_
  refine w_put (q0 := 0) (k := 0) hC hI tyX0 tyX0_ok nmX0 rfl rfl in_1 (by decide) w_556 (fun _ => rfl) rfl rfl (Nat.le_of_ble_eq_true rfl) dX0_init_11 ?_
  refine w_aload_n 0 rfl hC dX0_init_14 ?_
  refine w_iload_n 2 rfl hC dX0_init_15 ?_
  refine w_put (q0 := 0) (k := 1) hC hI tyX0 tyX0_ok nmX0 rfl rfl in_1 (by decide) w_557 (fun _ => rfl) rfl rfl (Nat.le_of_ble_eq_true rfl) dX0_init_16 ?_
  refine w_aload_n 0 rfl hC dX0_init_19 ?_
  refine w_iload_n 3 rfl hC dX0_init_20 ?_
  refine w_put (q0 := 0) (k := 2) hC hI tyX0 tyX0_ok nmX0 rfl rfl in_1 (by decide) w_558 (fun _ => rfl) rfl rfl (Nat.le_of_ble_eq_true rfl) dX0_init_21 ?_
  refine w_aload_n 0 rfl hC dX0_init_24 ?_
  refine w_iload 4 rfl hC dX0_init_25 ?_
  refine w_put (q0 := 0) (k := 3) hC hI tyX0 tyX0_ok nmX0 rfl rfl in_1 (by decide) w_559 (fun _ => rfl) rfl rfl (Nat.le_of_ble_eq_true rfl) dX0_init_27 ?_
  refine w_aload_n 0 rfl hC dX0_init_30 ?_
  refine w_iload 5 rfl hC dX0_init_31 ?_
  refine w_put (q0 := 0) (k := 4) hC hI tyX0 tyX0_ok nmX0 rfl rfl in_1 (by decide) w_560 (fun _ => rfl) rfl rfl (Nat.le_of_ble_eq_true rfl) dX0_init_33 ?_
  refine w_vret (kc := (0, 0)) ?_ dX0_init_36
  exact rfl
theorem ci_X2_init (X : Xt) (hst : X.1.stackTraces = false) (h0 : Nat) (p0 : Int32) (p1 : Int32) (p2 : Int32) (p3 : Int32) : CI X yX2_init cX2_init 5 1 12 (0, 0) [(h0, .inr (3, [.int 0, .int 0, .int 0, .int 0]))] [.ref h0, .int p0, .int p1, .int p2, .int p3] (fun w => w = [(h0, .inr (3, [.int p0, .int p1, .int p2, .int p3]))]) := by
  refine CI.intro RX2 rfl hst (by decide) (Nat.le_of_ble_eq_true rfl) (lv := [(0, .ref _), (1, .int _), (2, .int _), (3, .int _), (4, .int _)]) rfl (Cini X cX2_init 5 RX2 "<init>") (fun p e s m args below meth c B hn => ⟨B, hn, rfl⟩) (fun sz hsz hws hD0 => ?_)
  have hC := Cini.ctx (cc := cX2_init) (nL := 5) (own := RX2) (nm := "<init>") hsz hws
  have hI : ∀ p e s m args below meth c, Cini X cX2_init 5 RX2 "<init>" sz p e s m args below meth c → meth.name = "<init>" := fun _ _ _ _ _ _ _ _ z => z.2.1
  refine w_aload_n 0 rfl hC dX2_init_0 ?_
  refine w_objInit hC w_561 w_517 w_518 (by decide) (Nat.le_of_ble_eq_true rfl) dX2_init_1 ?_
  refine w_aload_n 0 rfl hC dX2_init_4 ?_
  refine w_iload_n 1 rfl hC dX2_init_5 ?_
  refine w_put (q0 := 0) (k := 0) hC hI tyX2 tyX2_ok nmX2 rfl rfl in_3 (by decide) w_11 (fun _ => rfl) rfl rfl (Nat.le_of_ble_eq_true rfl) dX2_init_6 ?_
  refine w_aload_n 0 rfl hC dX2_init_9 ?_
  refine w_iload_n 2 rfl hC dX2_init_10 ?_
  refine w_put (q0 := 0) (k := 1) hC hI tyX2 tyX2_ok nmX2 rfl rfl in_3 (by decide) w_562 (fun _ => rfl) rfl rfl (Nat.le_of_ble_eq_true rfl) dX2_init_11 ?_
  refine w_aload_n 0 rfl hC dX2_init_14 ?_
  refine w_iload_n 3 rfl hC dX2_init_15 ?_
  refine w_put (q0 := 0) (k := 2) hC hI tyX2 tyX2_ok nmX2 rfl rfl in_3 (by decide) w_563 (fun _ => rfl) rfl rfl (Nat.le_of_ble_eq_true rfl) dX2_init_16 ?_
  refine w_aload_n 0 rfl hC dX2_init_19 ?_
  refine w_iload 4 rfl hC dX2_init_20 ?_
  refine w_put (q0 := 0) (k := 3) hC hI tyX2 tyX2_ok nmX2 rfl rfl in_3 (by decide) w_12 (fun _ => rfl) rfl rfl (Nat.le_of_ble_eq_true rfl) dX2_init_22 ?_
  refine w_vret (kc := (0, 0)) ?_ dX2_init_25
  exact rfl
theorem ci_X9_init (X : Xt) (hst : X.1.stackTraces = false) (h0 : Nat) : CI X yX9_init cX9_init 2 4 72 (28, 1746) [(h0, .inr (10, [.null, .null, .null, .null, .null, .null, .int 0, .int 0, .int 0, .int 0]))] [.ref h0] (fun w => ∃ q1 q3 q5 q6 q7 q8 q9 q10 q11 q12 q13 q14 q15 q17 q18 q19 q20 q21 q22 q23 q25 q26 q28 q29 q31 q32 q34 q35, w = ((h0, .inr (10, [.ref q1, .ref q3, .ref q5, .ref q6, .ref q17, .ref q25, .int (0 : Int32), .int (0 : Int32), .int (0 : Int32), .int (0 : Int32)])) :: (q1, .inr (0, [.int (0 : Int32), .ref X.2.2.2.2, .int 0])) :: (q3, .inr (0, [.int (0 : Int32), .ref X.2.2.2.2, .int 0])) :: (q5, .inl (X.2.2.1 4, 3, .inr (.inr (.inr (.inr (va_up (va_up (va_up (fun _ => none) (0 : Int32).toNatClampNeg (some q28)) ((0 : Int32) + 1).toNatClampNeg (some q31)) (((0 : Int32) + 1) + 1).toNatClampNeg (some q34))))))) :: (q6, .inr (8, [.ref q7, .ref q11])) :: (q7, .inl (X.2.2.1 2, 3, .inr (.inr (.inr (.inr (va_up (va_up (va_up (fun _ => none) (0 : Int32).toNatClampNeg (some q8)) (1 : Int32).toNatClampNeg (some q9)) (2 : Int32).toNatClampNeg (some q10))))))) :: (q8, .inr (2, [.int (1000 : Int32), .int (10 : Int32), .int (5 : Int32)])) :: (q9, .inr (2, [.int (3000 : Int32), .int (10 : Int32), .int (20 : Int32)])) :: (q10, .inr (2, [.int (9000 : Int32), .int (10 : Int32), .int (60 : Int32)])) :: (q11, .inl (X.2.2.1 3, 4, .inr (.inr (.inr (.inr (va_up (va_up (va_up (va_up (fun _ => none) (0 : Int32).toNatClampNeg (some q12)) (1 : Int32).toNatClampNeg (some q13)) (2 : Int32).toNatClampNeg (some q14)) (3 : Int32).toNatClampNeg (some q15))))))) :: (q12, .inr (6, [.int (-1 : Int32), .int (0 : Int32)])) :: (q13, .inr (6, [.int (-1 : Int32), .int (0 : Int32)])) :: (q14, .inr (6, [.int (-1 : Int32), .int (0 : Int32)])) :: (q15, .inr (6, [.int (-1 : Int32), .int (0 : Int32)])) :: (q17, .inr (4, [.ref q18, .ref q19, .ref q20, .ref q21, .ref q22, .ref q23, .int (0 : Int32), .int (0 : Int32)])) :: (q18, .inl (X.2.2.1 0, 6, .inl (fun _ => 0))) :: (q19, .inl (X.2.2.1 0, 6, .inl (fun _ => 0))) :: (q20, .inl (X.2.2.1 0, 6, .inl (fun _ => 0))) :: (q21, .inl (X.2.2.1 0, 6, .inl (fun _ => 0))) :: (q22, .inl (X.2.2.1 0, 6, .inl (fun _ => 0))) :: (q23, .inl (X.2.2.1 0, 448, .inl (fun _ => 0))) :: (q25, .inr (5, [.ref q26])) :: (q26, .inl (X.2.2.1 0, 1200, .inl (fun _ => (-1 : Int32)))) :: (q28, .inr (7, [.ref q29, .int (0 : Int32)])) :: (q29, .inl (X.2.2.1 0, 6, .inl (fun _ => 0))) :: (q31, .inr (7, [.ref q32, .int (0 : Int32)])) :: (q32, .inl (X.2.2.1 0, 6, .inl (fun _ => 0))) :: (q34, .inr (7, [.ref q35, .int (0 : Int32)])) :: (q35, .inl (X.2.2.1 0, 6, .inl (fun _ => 0))) :: [])) := by
  refine CI.intro RX9 rfl hst (by decide) (Nat.le_of_ble_eq_true rfl) (lv := [(0, .ref _)]) rfl (Cini X cX9_init 2 RX9 "<init>") (fun p e s m args below meth c B hn => ⟨B, hn, rfl⟩) (fun sz hsz hws hD0 => ?_)
  have hC := Cini.ctx (cc := cX9_init) (nL := 2) (own := RX9) (nm := "<init>") hsz hws
  have hI : ∀ p e s m args below meth c, Cini X cX9_init 2 RX9 "<init>" sz p e s m args below meth c → meth.name = "<init>" := fun _ _ _ _ _ _ _ _ z => z.2.1
  refine w_aload_n 0 rfl hC dX9_init_0 ?_
  refine w_objInit hC w_564 w_517 w_518 (by decide) (Nat.le_of_ble_eq_true rfl) dX9_init_1 ?_
  refine w_aload_n 0 rfl hC dX9_init_4 ?_
  refine w_new (ci := 0) (fs := [.int 0, .null, .int 0]) hC tyJx4a65c tyJx4a65c_ok rfl in_0 w_565 w_549 w_104 (by decide) (Nat.le_of_ble_eq_true rfl) (Nat.le_of_ble_eq_true rfl) dX9_init_5 (fun q1 => ?_)
  refine w_dup rfl hC dX9_init_8 ?_
  refine w_callI (wr := [_]) (n := 0) (As := []) hC [1] [0] rfl rfl (by decide) (by decide) (by decide) (ci_Jx4a65c_init_da8c8 X hst _) ⟨by decide, by decide, by decide +kernel⟩ rfl w_566 w_551 w_104 w_552 rfl rfl (Nat.le_of_ble_eq_true rfl) ⟨by decide, by decide⟩ ⟨Nat.le_of_ble_eq_true rfl, Nat.le_of_ble_eq_true rfl⟩ dX9_init_9 (fun w9 h9 => ?_)
  obtain rfl := h9
  refine w_put (q0 := 0) (k := 0) hC hI tyX9 tyX9_ok nmX9 rfl rfl in_10 (by decide) w_347 (fun _ => rfl) rfl rfl (Nat.le_of_ble_eq_true rfl) dX9_init_12 ?_
  refine w_aload_n 0 rfl hC dX9_init_15 ?_
  refine w_new (ci := 0) (fs := [.int 0, .null, .int 0]) hC tyJx4a65c tyJx4a65c_ok rfl in_0 w_565 w_549 w_104 (by decide) (Nat.le_of_ble_eq_true rfl) (Nat.le_of_ble_eq_true rfl) dX9_init_16 (fun q3 => ?_)
  refine w_dup rfl hC dX9_init_19 ?_
  refine w_callI (wr := [_, _]) (n := 0) (As := []) hC [2] [0, 1] rfl rfl (by decide) (by decide) (by decide) (ci_Jx4a65c_init_da8c8 X hst _) ⟨by decide, by decide, by decide +kernel⟩ rfl w_566 w_551 w_104 w_552 rfl rfl (Nat.le_of_ble_eq_true rfl) ⟨by decide, by decide⟩ ⟨Nat.le_of_ble_eq_true rfl, Nat.le_of_ble_eq_true rfl⟩ dX9_init_20 (fun w9 h9 => ?_)
  obtain rfl := h9
  refine w_put (q0 := 0) (k := 1) hC hI tyX9 tyX9_ok nmX9 rfl rfl in_10 (by decide) w_338 (fun _ => rfl) rfl rfl (Nat.le_of_ble_eq_true rfl) dX9_init_23 ?_
  refine w_aload_n 0 rfl hC dX9_init_26 ?_
  refine w_iconst (3) (by decide) hC dX9_init_27 ?_
  refine w_newq (N := 3) 4 hC rfl w_567 (by decide) (by decide) (by decide) (by decide) (Nat.le_of_ble_eq_true rfl) (Nat.le_of_ble_eq_true rfl) dX9_init_28 (fun q5 => ?_)
  refine w_put (q0 := 0) (k := 2) hC hI tyX9 tyX9_ok nmX9 rfl rfl in_10 (by decide) w_445 (fun _ => rfl) rfl rfl (Nat.le_of_ble_eq_true rfl) dX9_init_31 ?_
  refine w_aload_n 0 rfl hC dX9_init_34 ?_
  refine w_new (ci := 8) (fs := [.null, .null]) hC tyX7 tyX7_ok rfl in_8 w_568 w_569 w_298 (by decide) (Nat.le_of_ble_eq_true rfl) (Nat.le_of_ble_eq_true rfl) dX9_init_35 (fun q6 => ?_)
  refine w_dup rfl hC dX9_init_38 ?_
  refine w_callIN (wr := [_, _, _, _]) (n := 0) (As := []) hC [4] [0, 1, 2, 3] rfl rfl (by decide) (by decide) (by decide) (ci_X7_init X hst _) ⟨by decide, by decide, by decide +kernel⟩ rfl w_570 w_571 w_298 w_572 rfl rfl (Nat.le_of_ble_eq_true rfl) ⟨by decide, by decide⟩ ⟨Nat.le_of_ble_eq_true rfl, Nat.le_of_ble_eq_true rfl⟩ dX9_init_39 (fun w9 h9 => ?_)
  obtain ⟨q7, q8, q9, q10, q11, q12, q13, q14, q15, rfl⟩ := h9
  refine w_put (q0 := 0) (k := 3) hC hI tyX9 tyX9_ok nmX9 rfl rfl in_10 (by decide) w_320 (fun _ => rfl) rfl rfl (Nat.le_of_ble_eq_true rfl) dX9_init_42 ?_
  refine w_aload_n 0 rfl hC dX9_init_45 ?_
  refine w_new (ci := 4) (fs := [.null, .null, .null, .null, .null, .null, .int 0, .int 0]) hC tyX3 tyX3_ok rfl in_4 w_573 w_574 w_50 (by decide) (Nat.le_of_ble_eq_true rfl) (Nat.le_of_ble_eq_true rfl) dX9_init_46 (fun q17 => ?_)
  refine w_dup rfl hC dX9_init_49 ?_
  refine w_callIN (wr := [_, _, _, _, _, _, _, _, _, _, _, _, _, _]) (n := 0) (As := []) hC [14] [0, 1, 2, 3, 4, 5, 6, 7, 8, 9, 10, 11, 12, 13] rfl rfl (by decide) (by decide) (by decide) (ci_X3_init X hst _) ⟨by decide, by decide, by decide +kernel⟩ rfl w_575 w_576 w_50 w_577 rfl rfl (Nat.le_of_ble_eq_true rfl) ⟨by decide, by decide⟩ ⟨Nat.le_of_ble_eq_true rfl, Nat.le_of_ble_eq_true rfl⟩ dX9_init_50 (fun w9 h9 => ?_)
  obtain ⟨q18, q19, q20, q21, q22, q23, rfl⟩ := h9
  refine w_put (q0 := 0) (k := 4) hC hI tyX9 tyX9_ok nmX9 rfl rfl in_10 (by decide) w_399 (fun _ => rfl) rfl rfl (Nat.le_of_ble_eq_true rfl) dX9_init_53 ?_
  refine w_aload_n 0 rfl hC dX9_init_56 ?_
  refine w_new (ci := 5) (fs := [.null]) hC tyX4 tyX4_ok rfl in_5 w_578 w_579 w_19 (by decide) (Nat.le_of_ble_eq_true rfl) (Nat.le_of_ble_eq_true rfl) dX9_init_57 (fun q25 => ?_)
  refine w_dup rfl hC dX9_init_60 ?_
  refine w_callI (wr := [_, _, _, _, _, _, _, _, _, _, _, _, _, _, _, _, _, _, _, _, _]) (n := 0) (As := []) hC [21] [0, 1, 2, 3, 4, 5, 6, 7, 8, 9, 10, 11, 12, 13, 14, 15, 16, 17, 18, 19, 20] rfl rfl (by decide) (by decide) (by decide) (ci_X4_init X hst _) ⟨by decide, by decide, by decide +kernel⟩ rfl w_580 w_581 w_19 w_582 rfl rfl (Nat.le_of_ble_eq_true rfl) ⟨by decide, by decide⟩ ⟨Nat.le_of_ble_eq_true rfl, Nat.le_of_ble_eq_true rfl⟩ dX9_init_61 (fun w9 h9 => ?_)
  obtain ⟨q26, rfl⟩ := h9
  refine w_put (q0 := 0) (k := 5) hC hI tyX9 tyX9_ok nmX9 rfl rfl in_10 (by decide) w_439 (fun _ => rfl) rfl rfl (Nat.le_of_ble_eq_true rfl) dX9_init_64 ?_
  refine w_aload_n 0 rfl hC dX9_init_67 ?_
  refine w_iconst (0) (by decide) hC dX9_init_68 ?_
  refine w_put (q0 := 0) (k := 6) hC hI tyX9 tyX9_ok nmX9 rfl rfl in_10 (by decide) w_356 (fun _ => rfl) rfl rfl (Nat.le_of_ble_eq_true rfl) dX9_init_69 ?_
  refine w_aload_n 0 rfl hC dX9_init_72 ?_
  refine w_iconst (0) (by decide) hC dX9_init_73 ?_
  refine w_put (q0 := 0) (k := 7) hC hI tyX9 tyX9_ok nmX9 rfl rfl in_10 (by decide) w_450 (fun _ => rfl) rfl rfl (Nat.le_of_ble_eq_true rfl) dX9_init_74 ?_
  refine w_aload_n 0 rfl hC dX9_init_77 ?_
  refine w_iconst (0) (by decide) hC dX9_init_78 ?_
  refine w_put (q0 := 0) (k := 8) hC hI tyX9 tyX9_ok nmX9 rfl rfl in_10 (by decide) w_477 (fun _ => rfl) rfl rfl (Nat.le_of_ble_eq_true rfl) dX9_init_79 ?_
  refine w_aload_n 0 rfl hC dX9_init_82 ?_
  refine w_iconst (0) (by decide) hC dX9_init_83 ?_
  refine w_put (q0 := 0) (k := 9) hC hI tyX9 tyX9_ok nmX9 rfl rfl in_10 (by decide) w_478 (fun _ => rfl) rfl rfl (Nat.le_of_ble_eq_true rfl) dX9_init_84 ?_
  refine w_iconst (0) (by decide) hC dX9_init_87 ?_
  refine w_istore_n [(1, .int _), (0, .ref _)] rfl (by decide) hC dX9_init_88 ?_
  refine w_iload_n 0 rfl hC dX9_init_89 ?_
  refine w_aload_n 1 rfl hC dX9_init_90 ?_
  refine w_getf (q0 := 0) (k := 2) hC rfl rfl in_10 (by decide) w_445 rfl dX9_init_91 ?_
  refine w_alen (q0 := 3) (3) hC rfl rfl rfl dX9_init_94 ?_
  refine w_icmp_ge 117 (by decide) hC dX9_init_95 (fun hc => absurd hc (show ¬ (3 : Int32) ≤ (0 : Int32) by decide)) (fun _ => ?_)
  refine w_aload_n 1 rfl hC dX9_init_98 ?_
  refine w_getf (q0 := 0) (k := 2) hC rfl rfl in_10 (by decide) w_445 rfl dX9_init_99 ?_
  refine w_iload_n 0 rfl hC dX9_init_102 ?_
  refine w_new (ci := 7) (fs := [.null, .int 0]) hC tyX6 tyX6_ok rfl in_7 w_567 w_583 w_454 (by decide) (Nat.le_of_ble_eq_true rfl) (Nat.le_of_ble_eq_true rfl) dX9_init_103 (fun q28 => ?_)
  refine w_dup rfl hC dX9_init_106 ?_
  refine w_callIN (wr := [_, _, _, _, _, _, _, _, _, _, _, _, _, _, _, _, _, _, _, _, _, _, _]) (n := 0) (As := []) hC [23] [0, 1, 2, 3, 4, 5, 6, 7, 8, 9, 10, 11, 12, 13, 14, 15, 16, 17, 18, 19, 20, 21, 22] rfl rfl (by decide) (by decide) (by decide) (ci_X6_init X hst _) ⟨by decide, by decide, by decide +kernel⟩ rfl w_584 w_585 w_454 w_586 rfl rfl (Nat.le_of_ble_eq_true rfl) ⟨by decide, by decide⟩ ⟨Nat.le_of_ble_eq_true rfl, Nat.le_of_ble_eq_true rfl⟩ dX9_init_107 (fun w9 h9 => ?_)
  obtain ⟨q29, rfl⟩ := h9
  refine w_aast (q0 := 3) (qk := 23) hC rfl rfl rfl rfl (by decide) dX9_init_110 ?_
  refine w_iinc (1) [(1, .int _), (0, .ref _)] 0 rfl (by decide) rfl (by decide) hC dX9_init_111 ?_
  refine w_goto 89 (by decide) hC dX9_init_114 ?_
  refine w_iload_n 0 rfl hC dX9_init_89 ?_
  refine w_aload_n 1 rfl hC dX9_init_90 ?_
  refine w_getf (q0 := 0) (k := 2) hC rfl rfl in_10 (by decide) w_445 rfl dX9_init_91 ?_
  refine w_alen (q0 := 3) (3) hC rfl rfl rfl dX9_init_94 ?_
  refine w_icmp_ge 117 (by decide) hC dX9_init_95 (fun hc => absurd hc (show ¬ (3 : Int32) ≤ ((0 : Int32) + 1) by decide)) (fun _ => ?_)
  refine w_aload_n 1 rfl hC dX9_init_98 ?_
  refine w_getf (q0 := 0) (k := 2) hC rfl rfl in_10 (by decide) w_445 rfl dX9_init_99 ?_
  refine w_iload_n 0 rfl hC dX9_init_102 ?_
  refine w_new (ci := 7) (fs := [.null, .int 0]) hC tyX6 tyX6_ok rfl in_7 w_567 w_583 w_454 (by decide) (Nat.le_of_ble_eq_true rfl) (Nat.le_of_ble_eq_true rfl) dX9_init_103 (fun q31 => ?_)
  refine w_dup rfl hC dX9_init_106 ?_
  refine w_callIN (wr := [_, _, _, _, _, _, _, _, _, _, _, _, _, _, _, _, _, _, _, _, _, _, _, _, _]) (n := 0) (As := []) hC [25] [0, 1, 2, 3, 4, 5, 6, 7, 8, 9, 10, 11, 12, 13, 14, 15, 16, 17, 18, 19, 20, 21, 22, 23, 24] rfl rfl (by decide) (by decide) (by decide) (ci_X6_init X hst _) ⟨by decide, by decide, by decide +kernel⟩ rfl w_584 w_585 w_454 w_586 rfl rfl (Nat.le_of_ble_eq_true rfl) ⟨by decide, by decide⟩ ⟨Nat.le_of_ble_eq_true rfl, Nat.le_of_ble_eq_true rfl⟩ dX9_init_107 (fun w9 h9 => ?_)
  obtain ⟨q32, rfl⟩ := h9
  refine w_aast (q0 := 3) (qk := 25) hC rfl rfl rfl rfl (by decide) dX9_init_110 ?_
  refine w_iinc (1) [(1, .int _), (0, .ref _)] 0 rfl (by decide) rfl (by decide) hC dX9_init_111 ?_
  refine w_goto 89 (by decide) hC dX9_init_114 ?_
  refine w_iload_n 0 rfl hC dX9_init_89 ?_
  refine w_aload_n 1 rfl hC dX9_init_90 ?_
  refine w_getf (q0 := 0) (k := 2) hC rfl rfl in_10 (by decide) w_445 rfl dX9_init_91 ?_
  refine w_alen (q0 := 3) (3) hC rfl rfl rfl dX9_init_94 ?_
  refine w_icmp_ge 117 (by decide) hC dX9_init_95 (fun hc => absurd hc (show ¬ (3 : Int32) ≤ (((0 : Int32) + 1) + 1) by decide)) (fun _ => ?_)
  refine w_aload_n 1 rfl hC dX9_init_98 ?_
  refine w_getf (q0 := 0) (k := 2) hC rfl rfl in_10 (by decide) w_445 rfl dX9_init_99 ?_
  refine w_iload_n 0 rfl hC dX9_init_102 ?_
  refine w_new (ci := 7) (fs := [.null, .int 0]) hC tyX6 tyX6_ok rfl in_7 w_567 w_583 w_454 (by decide) (Nat.le_of_ble_eq_true rfl) (Nat.le_of_ble_eq_true rfl) dX9_init_103 (fun q34 => ?_)
  refine w_dup rfl hC dX9_init_106 ?_
  refine w_callIN (wr := [_, _, _, _, _, _, _, _, _, _, _, _, _, _, _, _, _, _, _, _, _, _, _, _, _, _, _]) (n := 0) (As := []) hC [27] [0, 1, 2, 3, 4, 5, 6, 7, 8, 9, 10, 11, 12, 13, 14, 15, 16, 17, 18, 19, 20, 21, 22, 23, 24, 25, 26] rfl rfl (by decide) (by decide) (by decide) (ci_X6_init X hst _) ⟨by decide, by decide, by decide +kernel⟩ rfl w_584 w_585 w_454 w_586 rfl rfl (Nat.le_of_ble_eq_true rfl) ⟨by decide, by decide⟩ ⟨Nat.le_of_ble_eq_true rfl, Nat.le_of_ble_eq_true rfl⟩ dX9_init_107 (fun w9 h9 => ?_)
  obtain ⟨q35, rfl⟩ := h9
  refine w_aast (q0 := 3) (qk := 27) hC rfl rfl rfl rfl (by decide) dX9_init_110 ?_
  refine w_iinc (1) [(1, .int _), (0, .ref _)] 0 rfl (by decide) rfl (by decide) hC dX9_init_111 ?_
  refine w_goto 89 (by decide) hC dX9_init_114 ?_
  refine w_iload_n 0 rfl hC dX9_init_89 ?_
  refine w_aload_n 1 rfl hC dX9_init_90 ?_
  refine w_getf (q0 := 0) (k := 2) hC rfl rfl in_10 (by decide) w_445 rfl dX9_init_91 ?_
  refine w_alen (q0 := 3) (3) hC rfl rfl rfl dX9_init_94 ?_
  refine w_icmp_ge 117 (by decide) hC dX9_init_95 (fun _ => ?_) (fun hc => absurd (show (3 : Int32) ≤ ((((0 : Int32) + 1) + 1) + 1) by decide) hc)
  refine w_vret (kc := (28, 1746)) ?_ dX9_init_117
  exact ⟨_, _, _, _, _, _, _, _, _, _, _, _, _, _, _, _, _, _, _, _, _, _, _, _, _, _, _, _, rfl⟩
theorem va_P_rep {X : Xt} {ws : va_W} {p q : Nat} {e e' : va_E} {H : Heap} (h : va_P X.2.1 vwCl ws H) (hp : ws[p]? = some (q, e)) (hc : va_at X.2.1 vwCl (q, e) H → va_at X.2.1 vwCl (q, e') H) : va_P X.2.1 vwCl (ws.set p (q, e')) H := by
  intro k x hk
  by_cases hkp : k = p
  · subst hkp
    rw [List.getElem?_set_self (List.getElem?_eq_some_iff.mp hp).1] at hk
    cases hk
    exact hc (h k _ hp)
  · rw [List.getElem?_set_ne (Ne.symm hkp)] at hk
    exact h k x hk
set_option maxHeartbeats 1600000 in
theorem ci_X10_init (X : Xt) (hst : X.1.stackTraces = false) (h0 : Nat) : CI X yX10_init cX10_init 2 1 12 (30, 1610) [(h0, .inr (11, (.int 0 :: .int 0 :: .int 0 :: .int 0 :: .int 0 :: .int 0 :: .null :: .null :: .null :: .null :: .null :: .null :: .null :: .null :: .null :: .null :: .null :: .null :: .null :: .int 0 :: .null :: .null :: .null :: .null :: .null :: .null :: .null :: .null :: .null :: .null :: .null :: .null :: .null :: .null :: .null :: .null :: .null :: .int 0 :: .int 0 :: [])))] [.ref h0] (fun w => ∃ q1 q2 q3 q4 q5 q6 q7 q8 q9 q10 q11 q12 q13 q14 q15 q16 q17 q18 q19 q20 q21 q22 q23 q24 q25 q26 q27 q28 q29 q30, w = ((h0, .inr (11, (.int 0 :: .int 0 :: .int 0 :: .int 0 :: .int 0 :: .int 0 :: .ref q1 :: .ref q2 :: .ref q3 :: .ref q4 :: .ref q5 :: .ref q6 :: .ref q7 :: .ref q8 :: .ref q9 :: .ref q10 :: .ref q11 :: .ref q12 :: .ref q13 :: .int 0 :: .ref q14 :: .ref q15 :: .ref q16 :: .ref q17 :: .ref q18 :: .ref q19 :: .ref q20 :: .ref q21 :: .ref q22 :: .ref q23 :: .ref q24 :: .ref q25 :: .ref q26 :: .ref q27 :: .ref q28 :: .ref q29 :: .ref q30 :: .int 0 :: .int 0 :: []))) :: (q1, .inl (X.2.2.1 0, 6, .inl (fun _ => 0))) :: (q2, .inl (X.2.2.1 0, 6, .inl (fun _ => 0))) :: (q3, .inl (X.2.2.1 0, 6, .inl (fun _ => 0))) :: (q4, .inl (X.2.2.1 0, 24, .inl (fun _ => 0))) :: (q5, .inl (X.2.2.1 0, 18, .inl (fun _ => 0))) :: (q6, .inl (X.2.2.1 0, 18, .inl (fun _ => 0))) :: (q7, .inl (X.2.2.1 0, 18, .inl (fun _ => 0))) :: (q8, .inl (X.2.2.1 0, 3, .inl (fun _ => 0))) :: (q9, .inl (X.2.2.1 0, 6, .inl (fun _ => 0))) :: (q10, .inl (X.2.2.1 0, 48, .inl (fun _ => 0))) :: (q11, .inl (X.2.2.1 0, 48, .inl (fun _ => 0))) :: (q12, .inl (X.2.2.1 0, 48, .inl (fun _ => 0))) :: (q13, .inl (X.2.2.1 0, 48, .inl (fun _ => 0))) :: (q14, .inl (X.2.2.1 0, 6, .inl (fun _ => 0))) :: (q15, .inl (X.2.2.1 0, 6, .inl (fun _ => 0))) :: (q16, .inl (X.2.2.1 0, 6, .inl (fun _ => 0))) :: (q17, .inl (X.2.2.1 0, 6, .inl (fun _ => 0))) :: (q18, .inl (X.2.2.1 0, 6, .inl (fun _ => 0))) :: (q19, .inl (X.2.2.1 0, 6, .inl (fun _ => 0))) :: (q20, .inl (X.2.2.1 0, 3, .inl (upd (upd (upd (fun _ => 0) (0 : Int32).toNatClampNeg (1000 : Int32)) (1 : Int32).toNatClampNeg (3000 : Int32)) (2 : Int32).toNatClampNeg (9000 : Int32)))) :: (q21, .inl (X.2.2.1 0, 3, .inl (upd (upd (upd (fun _ => 0) (0 : Int32).toNatClampNeg (10 : Int32)) ((0 : Int32) + 1).toNatClampNeg (10 : Int32)) (((0 : Int32) + 1) + 1).toNatClampNeg (10 : Int32)))) :: (q22, .inl (X.2.2.1 0, 3, .inl (upd (upd (upd (fun _ => 0) (0 : Int32).toNatClampNeg (5 : Int32)) (1 : Int32).toNatClampNeg (20 : Int32)) (2 : Int32).toNatClampNeg (60 : Int32)))) :: (q23, .inl (X.2.2.1 0, 4, .inl (upd (upd (upd (upd (fun _ => 0) (0 : Int32).toNatClampNeg (-1 : Int32)) ((0 : Int32) + 1).toNatClampNeg (-1 : Int32)) (((0 : Int32) + 1) + 1).toNatClampNeg (-1 : Int32)) ((((0 : Int32) + 1) + 1) + 1).toNatClampNeg (-1 : Int32)))) :: (q24, .inl (X.2.2.1 0, 4, .inl (fun _ => 0))) :: (q25, .inl (X.2.2.1 0, 1200, .inl (fun _ => (-1)))) :: (q26, .inl (X.2.2.1 0, 6, .inl (fun _ => 0))) :: (q27, .inl (X.2.2.1 0, 6, .inl (fun _ => 0))) :: (q28, .inl (X.2.2.1 1, 6, .inl (fun _ => 0))) :: (q29, .inl (X.2.2.1 1, 36, .inl (fun _ => 0))) :: (q30, .inl (X.2.2.1 1, 6, .inl (fun _ => 0))) :: [])) := by
  refine CI.intro RX10 rfl hst (by decide) (Nat.le_of_ble_eq_true rfl) (lv := [(0, .ref _)]) rfl (Cini X cX10_init 2 RX10 "<init>") (fun p e s m args below meth c B hn => ⟨B, hn, rfl⟩) (fun sz hsz hws hD0 => ?_)
  have hC := Cini.ctx (cc := cX10_init) (nL := 2) (own := RX10) (nm := "<init>") hsz hws
  have hI : ∀ p e s m args below meth c, Cini X cX10_init 2 RX10 "<init>" sz p e s m args below meth c → meth.name = "<init>" := fun _ _ _ _ _ _ _ _ z => z.2.1
  refine w_aload_n 0 rfl hC dX10_init_0 ?_
  refine w_objInit hC w_587 w_517 w_518 (by decide) (Nat.le_of_ble_eq_true rfl) dX10_init_1 ?_
  refine w_aload_n 0 rfl hC dX10_init_4 ?_
  refine w_bipush (6) (by decide) hC dX10_init_5 ?_
  refine w_newa (atype := .int) (a0 := (6, .inl (fun _ => 0))) 0 hC rfl (by decide) rfl w_532 (fun _ => rfl) (by decide) (by decide) (by decide) (Nat.le_of_ble_eq_true rfl) (Nat.le_of_ble_eq_true rfl) dX10_init_7 (fun q1 => ?_)
  refine w_put (q0 := 0) (k := 6) hC hI tyX10 tyX10_ok nmX10 rfl rfl in_11 (by decide) w_130 (fun _ => rfl) rfl rfl (Nat.le_of_ble_eq_true rfl) dX10_init_9 ?_
  refine w_aload_n 0 rfl hC dX10_init_12 ?_
  refine w_bipush (6) (by decide) hC dX10_init_13 ?_
  refine w_newa (atype := .int) (a0 := (6, .inl (fun _ => 0))) 0 hC rfl (by decide) rfl w_532 (fun _ => rfl) (by decide) (by decide) (by decide) (Nat.le_of_ble_eq_true rfl) (Nat.le_of_ble_eq_true rfl) dX10_init_15 (fun q2 => ?_)
  refine w_put (q0 := 0) (k := 7) hC hI tyX10 tyX10_ok nmX10 rfl rfl in_11 (by decide) w_129 (fun _ => rfl) rfl rfl (Nat.le_of_ble_eq_true rfl) dX10_init_17 ?_
  refine w_aload_n 0 rfl hC dX10_init_20 ?_
  refine w_bipush (6) (by decide) hC dX10_init_21 ?_
  refine w_newa (atype := .int) (a0 := (6, .inl (fun _ => 0))) 0 hC rfl (by decide) rfl w_532 (fun _ => rfl) (by decide) (by decide) (by decide) (Nat.le_of_ble_eq_true rfl) (Nat.le_of_ble_eq_true rfl) dX10_init_23 (fun q3 => ?_)
  refine w_put (q0 := 0) (k := 8) hC hI tyX10 tyX10_ok nmX10 rfl rfl in_11 (by decide) w_127 (fun _ => rfl) rfl rfl (Nat.le_of_ble_eq_true rfl) dX10_init_25 ?_
  refine w_conv (ws' := [(h0, .inr (11, (.int 0 :: .int 0 :: .int 0 :: .int 0 :: .int 0 :: .int 0 :: .ref q1 :: .ref q2 :: .ref q3 :: .null :: .null :: .null :: .null :: .null :: .null :: .null :: .null :: .null :: .null :: .int 0 :: .null :: .null :: .null :: .null :: .null :: .null :: .null :: .null :: .null :: .null :: .null :: .null :: .null :: .null :: .null :: .null :: .null :: .int 0 :: .int 0 :: []))), (q1, .inl (X.2.2.1 0, 6, .inl (fun _ => 0))), (q2, .inl (X.2.2.1 0, 6, .inl (fun _ => 0))), (q3, .inl (X.2.2.1 0, 6, .inl (fun _ => 0)))]) (fun _ h => h) rfl ?_
  refine w_aload_n 0 rfl hC dX10_init_28 ?_
  refine w_bipush (24) (by decide) hC dX10_init_29 ?_
  refine w_newa (atype := .int) (a0 := (24, .inl (fun _ => 0))) 0 hC rfl (by decide) rfl w_532 (fun _ => rfl) (by decide) (by decide) (by decide) (Nat.le_of_ble_eq_true rfl) (Nat.le_of_ble_eq_true rfl) dX10_init_31 (fun q4 => ?_)
  refine w_put (q0 := 0) (k := 9) hC hI tyX10 tyX10_ok nmX10 rfl rfl in_11 (by decide) w_137 (fun _ => rfl) rfl rfl (Nat.le_of_ble_eq_true rfl) dX10_init_33 ?_
  refine w_aload_n 0 rfl hC dX10_init_36 ?_
  refine w_bipush (18) (by decide) hC dX10_init_37 ?_
  refine w_newa (atype := .int) (a0 := (18, .inl (fun _ => 0))) 0 hC rfl (by decide) rfl w_532 (fun _ => rfl) (by decide) (by decide) (by decide) (Nat.le_of_ble_eq_true rfl) (Nat.le_of_ble_eq_true rfl) dX10_init_39 (fun q5 => ?_)
  refine w_put (q0 := 0) (k := 10) hC hI tyX10 tyX10_ok nmX10 rfl rfl in_11 (by decide) w_174 (fun _ => rfl) rfl rfl (Nat.le_of_ble_eq_true rfl) dX10_init_41 ?_
  refine w_aload_n 0 rfl hC dX10_init_44 ?_
  refine w_bipush (18) (by decide) hC dX10_init_45 ?_
  refine w_newa (atype := .int) (a0 := (18, .inl (fun _ => 0))) 0 hC rfl (by decide) rfl w_532 (fun _ => rfl) (by decide) (by decide) (by decide) (Nat.le_of_ble_eq_true rfl) (Nat.le_of_ble_eq_true rfl) dX10_init_47 (fun q6 => ?_)
  refine w_put (q0 := 0) (k := 11) hC hI tyX10 tyX10_ok nmX10 rfl rfl in_11 (by decide) w_175 (fun _ => rfl) rfl rfl (Nat.le_of_ble_eq_true rfl) dX10_init_49 ?_
  refine w_conv (ws' := [(h0, .inr (11, (.int 0 :: .int 0 :: .int 0 :: .int 0 :: .int 0 :: .int 0 :: .ref q1 :: .ref q2 :: .ref q3 :: .ref q4 :: .ref q5 :: .ref q6 :: .null :: .null :: .null :: .null :: .null :: .null :: .null :: .int 0 :: .null :: .null :: .null :: .null :: .null :: .null :: .null :: .null :: .null :: .null :: .null :: .null :: .null :: .null :: .null :: .null :: .null :: .int 0 :: .int 0 :: []))), (q1, .inl (X.2.2.1 0, 6, .inl (fun _ => 0))), (q2, .inl (X.2.2.1 0, 6, .inl (fun _ => 0))), (q3, .inl (X.2.2.1 0, 6, .inl (fun _ => 0))), (q4, .inl (X.2.2.1 0, 24, .inl (fun _ => 0))), (q5, .inl (X.2.2.1 0, 18, .inl (fun _ => 0))), (q6, .inl (X.2.2.1 0, 18, .inl (fun _ => 0)))]) (fun _ h => h) rfl ?_
  refine w_aload_n 0 rfl hC dX10_init_52 ?_
  refine w_bipush (18) (by decide) hC dX10_init_53 ?_
  refine w_newa (atype := .int) (a0 := (18, .inl (fun _ => 0))) 0 hC rfl (by decide) rfl w_532 (fun _ => rfl) (by decide) (by decide) (by decide) (Nat.le_of_ble_eq_true rfl) (Nat.le_of_ble_eq_true rfl) dX10_init_55 (fun q7 => ?_)
  refine w_put (q0 := 0) (k := 12) hC hI tyX10 tyX10_ok nmX10 rfl rfl in_11 (by decide) w_131 (fun _ => rfl) rfl rfl (Nat.le_of_ble_eq_true rfl) dX10_init_57 ?_
  refine w_aload_n 0 rfl hC dX10_init_60 ?_
  refine w_iconst (3) (by decide) hC dX10_init_61 ?_
  refine w_newa (atype := .int) (a0 := (3, .inl (fun _ => 0))) 0 hC rfl (by decide) rfl w_532 (fun _ => rfl) (by decide) (by decide) (by decide) (Nat.le_of_ble_eq_true rfl) (Nat.le_of_ble_eq_true rfl) dX10_init_62 (fun q8 => ?_)
  refine w_put (q0 := 0) (k := 13) hC hI tyX10 tyX10_ok nmX10 rfl rfl in_11 (by decide) w_132 (fun _ => rfl) rfl rfl (Nat.le_of_ble_eq_true rfl) dX10_init_64 ?_
  refine w_aload_n 0 rfl hC dX10_init_67 ?_
  refine w_bipush (6) (by decide) hC dX10_init_68 ?_
  refine w_newa (atype := .int) (a0 := (6, .inl (fun _ => 0))) 0 hC rfl (by decide) rfl w_532 (fun _ => rfl) (by decide) (by decide) (by decide) (Nat.le_of_ble_eq_true rfl) (Nat.le_of_ble_eq_true rfl) dX10_init_70 (fun q9 => ?_)
  refine w_put (q0 := 0) (k := 14) hC hI tyX10 tyX10_ok nmX10 rfl rfl in_11 (by decide) w_164 (fun _ => rfl) rfl rfl (Nat.le_of_ble_eq_true rfl) dX10_init_72 ?_
  refine w_conv (ws' := [(h0, .inr (11, (.int 0 :: .int 0 :: .int 0 :: .int 0 :: .int 0 :: .int 0 :: .ref q1 :: .ref q2 :: .ref q3 :: .ref q4 :: .ref q5 :: .ref q6 :: .ref q7 :: .ref q8 :: .ref q9 :: .null :: .null :: .null :: .null :: .int 0 :: .null :: .null :: .null :: .null :: .null :: .null :: .null :: .null :: .null :: .null :: .null :: .null :: .null :: .null :: .null :: .null :: .null :: .int 0 :: .int 0 :: []))), (q1, .inl (X.2.2.1 0, 6, .inl (fun _ => 0))), (q2, .inl (X.2.2.1 0, 6, .inl (fun _ => 0))), (q3, .inl (X.2.2.1 0, 6, .inl (fun _ => 0))), (q4, .inl (X.2.2.1 0, 24, .inl (fun _ => 0))), (q5, .inl (X.2.2.1 0, 18, .inl (fun _ => 0))), (q6, .inl (X.2.2.1 0, 18, .inl (fun _ => 0))), (q7, .inl (X.2.2.1 0, 18, .inl (fun _ => 0))), (q8, .inl (X.2.2.1 0, 3, .inl (fun _ => 0))), (q9, .inl (X.2.2.1 0, 6, .inl (fun _ => 0)))]) (fun _ h => h) rfl ?_
  refine w_aload_n 0 rfl hC dX10_init_75 ?_
  refine w_bipush (48) (by decide) hC dX10_init_76 ?_
  refine w_newa (atype := .int) (a0 := (48, .inl (fun _ => 0))) 0 hC rfl (by decide) rfl w_532 (fun _ => rfl) (by decide) (by decide) (by decide) (Nat.le_of_ble_eq_true rfl) (Nat.le_of_ble_eq_true rfl) dX10_init_78 (fun q10 => ?_)
  refine w_put (q0 := 0) (k := 15) hC hI tyX10 tyX10_ok nmX10 rfl rfl in_11 (by decide) w_165 (fun _ => rfl) rfl rfl (Nat.le_of_ble_eq_true rfl) dX10_init_80 ?_
  refine w_aload_n 0 rfl hC dX10_init_83 ?_
  refine w_bipush (48) (by decide) hC dX10_init_84 ?_
  refine w_newa (atype := .int) (a0 := (48, .inl (fun _ => 0))) 0 hC rfl (by decide) rfl w_532 (fun _ => rfl) (by decide) (by decide) (by decide) (Nat.le_of_ble_eq_true rfl) (Nat.le_of_ble_eq_true rfl) dX10_init_86 (fun q11 => ?_)
  refine w_put (q0 := 0) (k := 16) hC hI tyX10 tyX10_ok nmX10 rfl rfl in_11 (by decide) w_166 (fun _ => rfl) rfl rfl (Nat.le_of_ble_eq_true rfl) dX10_init_88 ?_
  refine w_aload_n 0 rfl hC dX10_init_91 ?_
  refine w_bipush (48) (by decide) hC dX10_init_92 ?_
  refine w_newa (atype := .int) (a0 := (48, .inl (fun _ => 0))) 0 hC rfl (by decide) rfl w_532 (fun _ => rfl) (by decide) (by decide) (by decide) (Nat.le_of_ble_eq_true rfl) (Nat.le_of_ble_eq_true rfl) dX10_init_94 (fun q12 => ?_)
  refine w_put (q0 := 0) (k := 17) hC hI tyX10 tyX10_ok nmX10 rfl rfl in_11 (by decide) w_168 (fun _ => rfl) rfl rfl (Nat.le_of_ble_eq_true rfl) dX10_init_96 ?_
  refine w_conv (ws' := ((h0, .inr (11, (.int 0 :: .int 0 :: .int 0 :: .int 0 :: .int 0 :: .int 0 :: .ref q1 :: .ref q2 :: .ref q3 :: .ref q4 :: .ref q5 :: .ref q6 :: .ref q7 :: .ref q8 :: .ref q9 :: .ref q10 :: .ref q11 :: .ref q12 :: .null :: .int 0 :: .null :: .null :: .null :: .null :: .null :: .null :: .null :: .null :: .null :: .null :: .null :: .null :: .null :: .null :: .null :: .null :: .null :: .int 0 :: .int 0 :: []))) :: (q1, .inl (X.2.2.1 0, 6, .inl (fun _ => 0))) :: (q2, .inl (X.2.2.1 0, 6, .inl (fun _ => 0))) :: (q3, .inl (X.2.2.1 0, 6, .inl (fun _ => 0))) :: (q4, .inl (X.2.2.1 0, 24, .inl (fun _ => 0))) :: (q5, .inl (X.2.2.1 0, 18, .inl (fun _ => 0))) :: (q6, .inl (X.2.2.1 0, 18, .inl (fun _ => 0))) :: (q7, .inl (X.2.2.1 0, 18, .inl (fun _ => 0))) :: (q8, .inl (X.2.2.1 0, 3, .inl (fun _ => 0))) :: (q9, .inl (X.2.2.1 0, 6, .inl (fun _ => 0))) :: (q10, .inl (X.2.2.1 0, 48, .inl (fun _ => 0))) :: (q11, .inl (X.2.2.1 0, 48, .inl (fun _ => 0))) :: (q12, .inl (X.2.2.1 0, 48, .inl (fun _ => 0))) :: [])) (fun _ h => h) rfl ?_
  refine w_aload_n 0 rfl hC dX10_init_99 ?_
  refine w_bipush (48) (by decide) hC dX10_init_100 ?_
  refine w_newa (atype := .int) (a0 := (48, .inl (fun _ => 0))) 0 hC rfl (by decide) rfl w_532 (fun _ => rfl) (by decide) (by decide) (by decide) (Nat.le_of_ble_eq_true rfl) (Nat.le_of_ble_eq_true rfl) dX10_init_102 (fun q13 => ?_)
  refine w_put (q0 := 0) (k := 18) hC hI tyX10 tyX10_ok nmX10 rfl rfl in_11 (by decide) w_169 (fun _ => rfl) rfl rfl (Nat.le_of_ble_eq_true rfl) dX10_init_104 ?_
  refine w_aload_n 0 rfl hC dX10_init_107 ?_
  refine w_bipush (6) (by decide) hC dX10_init_108 ?_
  refine w_newa (atype := .int) (a0 := (6, .inl (fun _ => 0))) 0 hC rfl (by decide) rfl w_532 (fun _ => rfl) (by decide) (by decide) (by decide) (Nat.le_of_ble_eq_true rfl) (Nat.le_of_ble_eq_true rfl) dX10_init_110 (fun q14 => ?_)
  refine w_put (q0 := 0) (k := 20) hC hI tyX10 tyX10_ok nmX10 rfl rfl in_11 (by decide) w_139 (fun _ => rfl) rfl rfl (Nat.le_of_ble_eq_true rfl) dX10_init_112 ?_
  refine w_aload_n 0 rfl hC dX10_init_115 ?_
  refine w_bipush (6) (by decide) hC dX10_init_116 ?_
  refine w_newa (atype := .int) (a0 := (6, .inl (fun _ => 0))) 0 hC rfl (by decide) rfl w_532 (fun _ => rfl) (by decide) (by decide) (by decide) (Nat.le_of_ble_eq_true rfl) (Nat.le_of_ble_eq_true rfl) dX10_init_118 (fun q15 => ?_)
  refine w_put (q0 := 0) (k := 21) hC hI tyX10 tyX10_ok nmX10 rfl rfl in_11 (by decide) w_141 (fun _ => rfl) rfl rfl (Nat.le_of_ble_eq_true rfl) dX10_init_120 ?_
  refine w_conv (ws' := ((h0, .inr (11, (.int 0 :: .int 0 :: .int 0 :: .int 0 :: .int 0 :: .int 0 :: .ref q1 :: .ref q2 :: .ref q3 :: .ref q4 :: .ref q5 :: .ref q6 :: .ref q7 :: .ref q8 :: .ref q9 :: .ref q10 :: .ref q11 :: .ref q12 :: .ref q13 :: .int 0 :: .ref q14 :: .ref q15 :: .null :: .null :: .null :: .null :: .null :: .null :: .null :: .null :: .null :: .null :: .null :: .null :: .null :: .null :: .null :: .int 0 :: .int 0 :: []))) :: (q1, .inl (X.2.2.1 0, 6, .inl (fun _ => 0))) :: (q2, .inl (X.2.2.1 0, 6, .inl (fun _ => 0))) :: (q3, .inl (X.2.2.1 0, 6, .inl (fun _ => 0))) :: (q4, .inl (X.2.2.1 0, 24, .inl (fun _ => 0))) :: (q5, .inl (X.2.2.1 0, 18, .inl (fun _ => 0))) :: (q6, .inl (X.2.2.1 0, 18, .inl (fun _ => 0))) :: (q7, .inl (X.2.2.1 0, 18, .inl (fun _ => 0))) :: (q8, .inl (X.2.2.1 0, 3, .inl (fun _ => 0))) :: (q9, .inl (X.2.2.1 0, 6, .inl (fun _ => 0))) :: (q10, .inl (X.2.2.1 0, 48, .inl (fun _ => 0))) :: (q11, .inl (X.2.2.1 0, 48, .inl (fun _ => 0))) :: (q12, .inl (X.2.2.1 0, 48, .inl (fun _ => 0))) :: (q13, .inl (X.2.2.1 0, 48, .inl (fun _ => 0))) :: (q14, .inl (X.2.2.1 0, 6, .inl (fun _ => 0))) :: (q15, .inl (X.2.2.1 0, 6, .inl (fun _ => 0))) :: [])) (fun _ h => h) rfl ?_
  refine w_aload_n 0 rfl hC dX10_init_123 ?_
  refine w_bipush (6) (by decide) hC dX10_init_124 ?_
  refine w_newa (atype := .int) (a0 := (6, .inl (fun _ => 0))) 0 hC rfl (by decide) rfl w_532 (fun _ => rfl) (by decide) (by decide) (by decide) (Nat.le_of_ble_eq_true rfl) (Nat.le_of_ble_eq_true rfl) dX10_init_126 (fun q16 => ?_)
  refine w_put (q0 := 0) (k := 22) hC hI tyX10 tyX10_ok nmX10 rfl rfl in_11 (by decide) w_142 (fun _ => rfl) rfl rfl (Nat.le_of_ble_eq_true rfl) dX10_init_128 ?_
  refine w_aload_n 0 rfl hC dX10_init_131 ?_
  refine w_bipush (6) (by decide) hC dX10_init_132 ?_
  refine w_newa (atype := .int) (a0 := (6, .inl (fun _ => 0))) 0 hC rfl (by decide) rfl w_532 (fun _ => rfl) (by decide) (by decide) (by decide) (Nat.le_of_ble_eq_true rfl) (Nat.le_of_ble_eq_true rfl) dX10_init_134 (fun q17 => ?_)
  refine w_put (q0 := 0) (k := 23) hC hI tyX10 tyX10_ok nmX10 rfl rfl in_11 (by decide) w_143 (fun _ => rfl) rfl rfl (Nat.le_of_ble_eq_true rfl) dX10_init_136 ?_
  refine w_aload_n 0 rfl hC dX10_init_139 ?_
  refine w_bipush (6) (by decide) hC dX10_init_140 ?_
  refine w_newa (atype := .int) (a0 := (6, .inl (fun _ => 0))) 0 hC rfl (by decide) rfl w_532 (fun _ => rfl) (by decide) (by decide) (by decide) (Nat.le_of_ble_eq_true rfl) (Nat.le_of_ble_eq_true rfl) dX10_init_142 (fun q18 => ?_)
  refine w_put (q0 := 0) (k := 24) hC hI tyX10 tyX10_ok nmX10 rfl rfl in_11 (by decide) w_144 (fun _ => rfl) rfl rfl (Nat.le_of_ble_eq_true rfl) dX10_init_144 ?_
  refine w_conv (ws' := ((h0, .inr (11, (.int 0 :: .int 0 :: .int 0 :: .int 0 :: .int 0 :: .int 0 :: .ref q1 :: .ref q2 :: .ref q3 :: .ref q4 :: .ref q5 :: .ref q6 :: .ref q7 :: .ref q8 :: .ref q9 :: .ref q10 :: .ref q11 :: .ref q12 :: .ref q13 :: .int 0 :: .ref q14 :: .ref q15 :: .ref q16 :: .ref q17 :: .ref q18 :: .null :: .null :: .null :: .null :: .null :: .null :: .null :: .null :: .null :: .null :: .null :: .null :: .int 0 :: .int 0 :: []))) :: (q1, .inl (X.2.2.1 0, 6, .inl (fun _ => 0))) :: (q2, .inl (X.2.2.1 0, 6, .inl (fun _ => 0))) :: (q3, .inl (X.2.2.1 0, 6, .inl (fun _ => 0))) :: (q4, .inl (X.2.2.1 0, 24, .inl (fun _ => 0))) :: (q5, .inl (X.2.2.1 0, 18, .inl (fun _ => 0))) :: (q6, .inl (X.2.2.1 0, 18, .inl (fun _ => 0))) :: (q7, .inl (X.2.2.1 0, 18, .inl (fun _ => 0))) :: (q8, .inl (X.2.2.1 0, 3, .inl (fun _ => 0))) :: (q9, .inl (X.2.2.1 0, 6, .inl (fun _ => 0))) :: (q10, .inl (X.2.2.1 0, 48, .inl (fun _ => 0))) :: (q11, .inl (X.2.2.1 0, 48, .inl (fun _ => 0))) :: (q12, .inl (X.2.2.1 0, 48, .inl (fun _ => 0))) :: (q13, .inl (X.2.2.1 0, 48, .inl (fun _ => 0))) :: (q14, .inl (X.2.2.1 0, 6, .inl (fun _ => 0))) :: (q15, .inl (X.2.2.1 0, 6, .inl (fun _ => 0))) :: (q16, .inl (X.2.2.1 0, 6, .inl (fun _ => 0))) :: (q17, .inl (X.2.2.1 0, 6, .inl (fun _ => 0))) :: (q18, .inl (X.2.2.1 0, 6, .inl (fun _ => 0))) :: [])) (fun _ h => h) rfl ?_
  refine w_aload_n 0 rfl hC dX10_init_147 ?_
  refine w_bipush (6) (by decide) hC dX10_init_148 ?_
  refine w_newa (atype := .int) (a0 := (6, .inl (fun _ => 0))) 0 hC rfl (by decide) rfl w_532 (fun _ => rfl) (by decide) (by decide) (by decide) (Nat.le_of_ble_eq_true rfl) (Nat.le_of_ble_eq_true rfl) dX10_init_150 (fun q19 => ?_)
  refine w_put (q0 := 0) (k := 25) hC hI tyX10 tyX10_ok nmX10 rfl rfl in_11 (by decide) w_145 (fun _ => rfl) rfl rfl (Nat.le_of_ble_eq_true rfl) dX10_init_152 ?_
  refine w_aload_n 0 rfl hC dX10_init_155 ?_
  refine w_iconst (3) (by decide) hC dX10_init_156 ?_
  refine w_newa (atype := .int) (a0 := (3, .inl (fun _ => 0))) 0 hC rfl (by decide) rfl w_532 (fun _ => rfl) (by decide) (by decide) (by decide) (Nat.le_of_ble_eq_true rfl) (Nat.le_of_ble_eq_true rfl) dX10_init_157 (fun q20 => ?_)
  refine w_put (q0 := 0) (k := 26) hC hI tyX10 tyX10_ok nmX10 rfl rfl in_11 (by decide) w_150 (fun _ => rfl) rfl rfl (Nat.le_of_ble_eq_true rfl) dX10_init_159 ?_
  refine w_aload_n 0 rfl hC dX10_init_162 ?_
  refine w_iconst (3) (by decide) hC dX10_init_163 ?_
  refine w_newa (atype := .int) (a0 := (3, .inl (fun _ => 0))) 0 hC rfl (by decide) rfl w_532 (fun _ => rfl) (by decide) (by decide) (by decide) (Nat.le_of_ble_eq_true rfl) (Nat.le_of_ble_eq_true rfl) dX10_init_164 (fun q21 => ?_)
  refine w_put (q0 := 0) (k := 27) hC hI tyX10 tyX10_ok nmX10 rfl rfl in_11 (by decide) w_151 (fun _ => rfl) rfl rfl (Nat.le_of_ble_eq_true rfl) dX10_init_166 ?_
  refine w_conv (ws' := ((h0, .inr (11, (.int 0 :: .int 0 :: .int 0 :: .int 0 :: .int 0 :: .int 0 :: .ref q1 :: .ref q2 :: .ref q3 :: .ref q4 :: .ref q5 :: .ref q6 :: .ref q7 :: .ref q8 :: .ref q9 :: .ref q10 :: .ref q11 :: .ref q12 :: .ref q13 :: .int 0 :: .ref q14 :: .ref q15 :: .ref q16 :: .ref q17 :: .ref q18 :: .ref q19 :: .ref q20 :: .ref q21 :: .null :: .null :: .null :: .null :: .null :: .null :: .null :: .null :: .null :: .int 0 :: .int 0 :: []))) :: (q1, .inl (X.2.2.1 0, 6, .inl (fun _ => 0))) :: (q2, .inl (X.2.2.1 0, 6, .inl (fun _ => 0))) :: (q3, .inl (X.2.2.1 0, 6, .inl (fun _ => 0))) :: (q4, .inl (X.2.2.1 0, 24, .inl (fun _ => 0))) :: (q5, .inl (X.2.2.1 0, 18, .inl (fun _ => 0))) :: (q6, .inl (X.2.2.1 0, 18, .inl (fun _ => 0))) :: (q7, .inl (X.2.2.1 0, 18, .inl (fun _ => 0))) :: (q8, .inl (X.2.2.1 0, 3, .inl (fun _ => 0))) :: (q9, .inl (X.2.2.1 0, 6, .inl (fun _ => 0))) :: (q10, .inl (X.2.2.1 0, 48, .inl (fun _ => 0))) :: (q11, .inl (X.2.2.1 0, 48, .inl (fun _ => 0))) :: (q12, .inl (X.2.2.1 0, 48, .inl (fun _ => 0))) :: (q13, .inl (X.2.2.1 0, 48, .inl (fun _ => 0))) :: (q14, .inl (X.2.2.1 0, 6, .inl (fun _ => 0))) :: (q15, .inl (X.2.2.1 0, 6, .inl (fun _ => 0))) :: (q16, .inl (X.2.2.1 0, 6, .inl (fun _ => 0))) :: (q17, .inl (X.2.2.1 0, 6, .inl (fun _ => 0))) :: (q18, .inl (X.2.2.1 0, 6, .inl (fun _ => 0))) :: (q19, .inl (X.2.2.1 0, 6, .inl (fun _ => 0))) :: (q20, .inl (X.2.2.1 0, 3, .inl (fun _ => 0))) :: (q21, .inl (X.2.2.1 0, 3, .inl (fun _ => 0))) :: [])) (fun _ h => h) rfl ?_
  refine w_aload_n 0 rfl hC dX10_init_169 ?_
  refine w_iconst (3) (by decide) hC dX10_init_170 ?_
  refine w_newa (atype := .int) (a0 := (3, .inl (fun _ => 0))) 0 hC rfl (by decide) rfl w_532 (fun _ => rfl) (by decide) (by decide) (by decide) (Nat.le_of_ble_eq_true rfl) (Nat.le_of_ble_eq_true rfl) dX10_init_171 (fun q22 => ?_)
  refine w_put (q0 := 0) (k := 28) hC hI tyX10 tyX10_ok nmX10 rfl rfl in_11 (by decide) w_152 (fun _ => rfl) rfl rfl (Nat.le_of_ble_eq_true rfl) dX10_init_173 ?_
  refine w_aload_n 0 rfl hC dX10_init_176 ?_
  refine w_iconst (4) (by decide) hC dX10_init_177 ?_
  refine w_newa (atype := .int) (a0 := (4, .inl (fun _ => 0))) 0 hC rfl (by decide) rfl w_532 (fun _ => rfl) (by decide) (by decide) (by decide) (Nat.le_of_ble_eq_true rfl) (Nat.le_of_ble_eq_true rfl) dX10_init_178 (fun q23 => ?_)
  refine w_put (q0 := 0) (k := 29) hC hI tyX10 tyX10_ok nmX10 rfl rfl in_11 (by decide) w_158 (fun _ => rfl) rfl rfl (Nat.le_of_ble_eq_true rfl) dX10_init_180 ?_
  refine w_aload_n 0 rfl hC dX10_init_183 ?_
  refine w_iconst (4) (by decide) hC dX10_init_184 ?_
  refine w_newa (atype := .int) (a0 := (4, .inl (fun _ => 0))) 0 hC rfl (by decide) rfl w_532 (fun _ => rfl) (by decide) (by decide) (by decide) (Nat.le_of_ble_eq_true rfl) (Nat.le_of_ble_eq_true rfl) dX10_init_185 (fun q24 => ?_)
  refine w_put (q0 := 0) (k := 30) hC hI tyX10 tyX10_ok nmX10 rfl rfl in_11 (by decide) w_159 (fun _ => rfl) rfl rfl (Nat.le_of_ble_eq_true rfl) dX10_init_187 ?_
  refine w_conv (ws' := ((h0, .inr (11, (.int 0 :: .int 0 :: .int 0 :: .int 0 :: .int 0 :: .int 0 :: .ref q1 :: .ref q2 :: .ref q3 :: .ref q4 :: .ref q5 :: .ref q6 :: .ref q7 :: .ref q8 :: .ref q9 :: .ref q10 :: .ref q11 :: .ref q12 :: .ref q13 :: .int 0 :: .ref q14 :: .ref q15 :: .ref q16 :: .ref q17 :: .ref q18 :: .ref q19 :: .ref q20 :: .ref q21 :: .ref q22 :: .ref q23 :: .ref q24 :: .null :: .null :: .null :: .null :: .null :: .null :: .int 0 :: .int 0 :: []))) :: (q1, .inl (X.2.2.1 0, 6, .inl (fun _ => 0))) :: (q2, .inl (X.2.2.1 0, 6, .inl (fun _ => 0))) :: (q3, .inl (X.2.2.1 0, 6, .inl (fun _ => 0))) :: (q4, .inl (X.2.2.1 0, 24, .inl (fun _ => 0))) :: (q5, .inl (X.2.2.1 0, 18, .inl (fun _ => 0))) :: (q6, .inl (X.2.2.1 0, 18, .inl (fun _ => 0))) :: (q7, .inl (X.2.2.1 0, 18, .inl (fun _ => 0))) :: (q8, .inl (X.2.2.1 0, 3, .inl (fun _ => 0))) :: (q9, .inl (X.2.2.1 0, 6, .inl (fun _ => 0))) :: (q10, .inl (X.2.2.1 0, 48, .inl (fun _ => 0))) :: (q11, .inl (X.2.2.1 0, 48, .inl (fun _ => 0))) :: (q12, .inl (X.2.2.1 0, 48, .inl (fun _ => 0))) :: (q13, .inl (X.2.2.1 0, 48, .inl (fun _ => 0))) :: (q14, .inl (X.2.2.1 0, 6, .inl (fun _ => 0))) :: (q15, .inl (X.2.2.1 0, 6, .inl (fun _ => 0))) :: (q16, .inl (X.2.2.1 0, 6, .inl (fun _ => 0))) :: (q17, .inl (X.2.2.1 0, 6, .inl (fun _ => 0))) :: (q18, .inl (X.2.2.1 0, 6, .inl (fun _ => 0))) :: (q19, .inl (X.2.2.1 0, 6, .inl (fun _ => 0))) :: (q20, .inl (X.2.2.1 0, 3, .inl (fun _ => 0))) :: (q21, .inl (X.2.2.1 0, 3, .inl (fun _ => 0))) :: (q22, .inl (X.2.2.1 0, 3, .inl (fun _ => 0))) :: (q23, .inl (X.2.2.1 0, 4, .inl (fun _ => 0))) :: (q24, .inl (X.2.2.1 0, 4, .inl (fun _ => 0))) :: [])) (fun _ h => h) rfl ?_
  refine w_aload_n 0 rfl hC dX10_init_190 ?_
  refine w_sipush (1200) (by decide) hC dX10_init_191 ?_
  refine w_newa (atype := .int) (a0 := (1200, .inl (fun _ => 0))) 0 hC rfl (by decide) rfl w_532 (fun _ => rfl) (by decide) (by decide) (by decide) (Nat.le_of_ble_eq_true rfl) (Nat.le_of_ble_eq_true rfl) dX10_init_194 (fun q25 => ?_)
  refine w_put (q0 := 0) (k := 31) hC hI tyX10 tyX10_ok nmX10 rfl rfl in_11 (by decide) w_221 (fun _ => rfl) rfl rfl (Nat.le_of_ble_eq_true rfl) dX10_init_196 ?_
  refine w_aload_n 0 rfl hC dX10_init_199 ?_
  refine w_bipush (6) (by decide) hC dX10_init_200 ?_
  refine w_newa (atype := .int) (a0 := (6, .inl (fun _ => 0))) 0 hC rfl (by decide) rfl w_532 (fun _ => rfl) (by decide) (by decide) (by decide) (Nat.le_of_ble_eq_true rfl) (Nat.le_of_ble_eq_true rfl) dX10_init_202 (fun q26 => ?_)
  refine w_put (q0 := 0) (k := 32) hC hI tyX10 tyX10_ok nmX10 rfl rfl in_11 (by decide) w_199 (fun _ => rfl) rfl rfl (Nat.le_of_ble_eq_true rfl) dX10_init_204 ?_
  refine w_aload_n 0 rfl hC dX10_init_207 ?_
  refine w_bipush (6) (by decide) hC dX10_init_208 ?_
  refine w_newa (atype := .int) (a0 := (6, .inl (fun _ => 0))) 0 hC rfl (by decide) rfl w_532 (fun _ => rfl) (by decide) (by decide) (by decide) (Nat.le_of_ble_eq_true rfl) (Nat.le_of_ble_eq_true rfl) dX10_init_210 (fun q27 => ?_)
  refine w_put (q0 := 0) (k := 33) hC hI tyX10 tyX10_ok nmX10 rfl rfl in_11 (by decide) w_198 (fun _ => rfl) rfl rfl (Nat.le_of_ble_eq_true rfl) dX10_init_212 ?_
  refine w_conv (ws' := ((h0, .inr (11, (.int 0 :: .int 0 :: .int 0 :: .int 0 :: .int 0 :: .int 0 :: .ref q1 :: .ref q2 :: .ref q3 :: .ref q4 :: .ref q5 :: .ref q6 :: .ref q7 :: .ref q8 :: .ref q9 :: .ref q10 :: .ref q11 :: .ref q12 :: .ref q13 :: .int 0 :: .ref q14 :: .ref q15 :: .ref q16 :: .ref q17 :: .ref q18 :: .ref q19 :: .ref q20 :: .ref q21 :: .ref q22 :: .ref q23 :: .ref q24 :: .ref q25 :: .ref q26 :: .ref q27 :: .null :: .null :: .null :: .int 0 :: .int 0 :: []))) :: (q1, .inl (X.2.2.1 0, 6, .inl (fun _ => 0))) :: (q2, .inl (X.2.2.1 0, 6, .inl (fun _ => 0))) :: (q3, .inl (X.2.2.1 0, 6, .inl (fun _ => 0))) :: (q4, .inl (X.2.2.1 0, 24, .inl (fun _ => 0))) :: (q5, .inl (X.2.2.1 0, 18, .inl (fun _ => 0))) :: (q6, .inl (X.2.2.1 0, 18, .inl (fun _ => 0))) :: (q7, .inl (X.2.2.1 0, 18, .inl (fun _ => 0))) :: (q8, .inl (X.2.2.1 0, 3, .inl (fun _ => 0))) :: (q9, .inl (X.2.2.1 0, 6, .inl (fun _ => 0))) :: (q10, .inl (X.2.2.1 0, 48, .inl (fun _ => 0))) :: (q11, .inl (X.2.2.1 0, 48, .inl (fun _ => 0))) :: (q12, .inl (X.2.2.1 0, 48, .inl (fun _ => 0))) :: (q13, .inl (X.2.2.1 0, 48, .inl (fun _ => 0))) :: (q14, .inl (X.2.2.1 0, 6, .inl (fun _ => 0))) :: (q15, .inl (X.2.2.1 0, 6, .inl (fun _ => 0))) :: (q16, .inl (X.2.2.1 0, 6, .inl (fun _ => 0))) :: (q17, .inl (X.2.2.1 0, 6, .inl (fun _ => 0))) :: (q18, .inl (X.2.2.1 0, 6, .inl (fun _ => 0))) :: (q19, .inl (X.2.2.1 0, 6, .inl (fun _ => 0))) :: (q20, .inl (X.2.2.1 0, 3, .inl (fun _ => 0))) :: (q21, .inl (X.2.2.1 0, 3, .inl (fun _ => 0))) :: (q22, .inl (X.2.2.1 0, 3, .inl (fun _ => 0))) :: (q23, .inl (X.2.2.1 0, 4, .inl (fun _ => 0))) :: (q24, .inl (X.2.2.1 0, 4, .inl (fun _ => 0))) :: (q25, .inl (X.2.2.1 0, 1200, .inl (fun _ => 0))) :: (q26, .inl (X.2.2.1 0, 6, .inl (fun _ => 0))) :: (q27, .inl (X.2.2.1 0, 6, .inl (fun _ => 0))) :: [])) (fun _ h => h) rfl ?_
  refine w_aload_n 0 rfl hC dX10_init_215 ?_
  refine w_bipush (6) (by decide) hC dX10_init_216 ?_
  refine w_newa (atype := .boolean) (a0 := (6, .inl (fun _ => 0))) 1 hC rfl (by decide) rfl w_588 (fun _ => rfl) (by decide) (by decide) (by decide) (Nat.le_of_ble_eq_true rfl) (Nat.le_of_ble_eq_true rfl) dX10_init_218 (fun q28 => ?_)
  refine w_put (q0 := 0) (k := 34) hC hI tyX10 tyX10_ok nmX10 rfl rfl in_11 (by decide) w_205 (fun _ => rfl) rfl rfl (Nat.le_of_ble_eq_true rfl) dX10_init_220 ?_
  refine w_aload_n 0 rfl hC dX10_init_223 ?_
  refine w_bipush (36) (by decide) hC dX10_init_224 ?_
  refine w_newa (atype := .boolean) (a0 := (36, .inl (fun _ => 0))) 1 hC rfl (by decide) rfl w_588 (fun _ => rfl) (by decide) (by decide) (by decide) (Nat.le_of_ble_eq_true rfl) (Nat.le_of_ble_eq_true rfl) dX10_init_226 (fun q29 => ?_)
  refine w_put (q0 := 0) (k := 35) hC hI tyX10 tyX10_ok nmX10 rfl rfl in_11 (by decide) w_206 (fun _ => rfl) rfl rfl (Nat.le_of_ble_eq_true rfl) dX10_init_228 ?_
  refine w_aload_n 0 rfl hC dX10_init_231 ?_
  refine w_bipush (6) (by decide) hC dX10_init_232 ?_
  refine w_newa (atype := .boolean) (a0 := (6, .inl (fun _ => 0))) 1 hC rfl (by decide) rfl w_588 (fun _ => rfl) (by decide) (by decide) (by decide) (Nat.le_of_ble_eq_true rfl) (Nat.le_of_ble_eq_true rfl) dX10_init_234 (fun q30 => ?_)
  refine w_put (q0 := 0) (k := 36) hC hI tyX10 tyX10_ok nmX10 rfl rfl in_11 (by decide) w_200 (fun _ => rfl) rfl rfl (Nat.le_of_ble_eq_true rfl) dX10_init_236 ?_
  refine w_conv (ws' := ((h0, .inr (11, (.int 0 :: .int 0 :: .int 0 :: .int 0 :: .int 0 :: .int 0 :: .ref q1 :: .ref q2 :: .ref q3 :: .ref q4 :: .ref q5 :: .ref q6 :: .ref q7 :: .ref q8 :: .ref q9 :: .ref q10 :: .ref q11 :: .ref q12 :: .ref q13 :: .int 0 :: .ref q14 :: .ref q15 :: .ref q16 :: .ref q17 :: .ref q18 :: .ref q19 :: .ref q20 :: .ref q21 :: .ref q22 :: .ref q23 :: .ref q24 :: .ref q25 :: .ref q26 :: .ref q27 :: .ref q28 :: .ref q29 :: .ref q30 :: .int 0 :: .int 0 :: []))) :: (q1, .inl (X.2.2.1 0, 6, .inl (fun _ => 0))) :: (q2, .inl (X.2.2.1 0, 6, .inl (fun _ => 0))) :: (q3, .inl (X.2.2.1 0, 6, .inl (fun _ => 0))) :: (q4, .inl (X.2.2.1 0, 24, .inl (fun _ => 0))) :: (q5, .inl (X.2.2.1 0, 18, .inl (fun _ => 0))) :: (q6, .inl (X.2.2.1 0, 18, .inl (fun _ => 0))) :: (q7, .inl (X.2.2.1 0, 18, .inl (fun _ => 0))) :: (q8, .inl (X.2.2.1 0, 3, .inl (fun _ => 0))) :: (q9, .inl (X.2.2.1 0, 6, .inl (fun _ => 0))) :: (q10, .inl (X.2.2.1 0, 48, .inl (fun _ => 0))) :: (q11, .inl (X.2.2.1 0, 48, .inl (fun _ => 0))) :: (q12, .inl (X.2.2.1 0, 48, .inl (fun _ => 0))) :: (q13, .inl (X.2.2.1 0, 48, .inl (fun _ => 0))) :: (q14, .inl (X.2.2.1 0, 6, .inl (fun _ => 0))) :: (q15, .inl (X.2.2.1 0, 6, .inl (fun _ => 0))) :: (q16, .inl (X.2.2.1 0, 6, .inl (fun _ => 0))) :: (q17, .inl (X.2.2.1 0, 6, .inl (fun _ => 0))) :: (q18, .inl (X.2.2.1 0, 6, .inl (fun _ => 0))) :: (q19, .inl (X.2.2.1 0, 6, .inl (fun _ => 0))) :: (q20, .inl (X.2.2.1 0, 3, .inl (fun _ => 0))) :: (q21, .inl (X.2.2.1 0, 3, .inl (fun _ => 0))) :: (q22, .inl (X.2.2.1 0, 3, .inl (fun _ => 0))) :: (q23, .inl (X.2.2.1 0, 4, .inl (fun _ => 0))) :: (q24, .inl (X.2.2.1 0, 4, .inl (fun _ => 0))) :: (q25, .inl (X.2.2.1 0, 1200, .inl (fun _ => 0))) :: (q26, .inl (X.2.2.1 0, 6, .inl (fun _ => 0))) :: (q27, .inl (X.2.2.1 0, 6, .inl (fun _ => 0))) :: (q28, .inl (X.2.2.1 1, 6, .inl (fun _ => 0))) :: (q29, .inl (X.2.2.1 1, 36, .inl (fun _ => 0))) :: (q30, .inl (X.2.2.1 1, 6, .inl (fun _ => 0))) :: [])) (fun _ h => h) rfl ?_
  refine w_aload_n 0 rfl hC dX10_init_239 ?_
  refine w_getf (q0 := 0) (k := 26) hC rfl rfl in_11 (by decide) w_150 rfl dX10_init_240 ?_
  refine w_iconst (0) (by decide) hC dX10_init_243 ?_
  refine w_sipush (1000) (by decide) hC dX10_init_244 ?_
  refine w_iast (q0 := 20) hC rfl (by decide) dX10_init_247 ?_
  refine w_conv (ws' := ((h0, .inr (11, (.int 0 :: .int 0 :: .int 0 :: .int 0 :: .int 0 :: .int 0 :: .ref q1 :: .ref q2 :: .ref q3 :: .ref q4 :: .ref q5 :: .ref q6 :: .ref q7 :: .ref q8 :: .ref q9 :: .ref q10 :: .ref q11 :: .ref q12 :: .ref q13 :: .int 0 :: .ref q14 :: .ref q15 :: .ref q16 :: .ref q17 :: .ref q18 :: .ref q19 :: .ref q20 :: .ref q21 :: .ref q22 :: .ref q23 :: .ref q24 :: .ref q25 :: .ref q26 :: .ref q27 :: .ref q28 :: .ref q29 :: .ref q30 :: .int 0 :: .int 0 :: []))) :: (q1, .inl (X.2.2.1 0, 6, .inl (fun _ => 0))) :: (q2, .inl (X.2.2.1 0, 6, .inl (fun _ => 0))) :: (q3, .inl (X.2.2.1 0, 6, .inl (fun _ => 0))) :: (q4, .inl (X.2.2.1 0, 24, .inl (fun _ => 0))) :: (q5, .inl (X.2.2.1 0, 18, .inl (fun _ => 0))) :: (q6, .inl (X.2.2.1 0, 18, .inl (fun _ => 0))) :: (q7, .inl (X.2.2.1 0, 18, .inl (fun _ => 0))) :: (q8, .inl (X.2.2.1 0, 3, .inl (fun _ => 0))) :: (q9, .inl (X.2.2.1 0, 6, .inl (fun _ => 0))) :: (q10, .inl (X.2.2.1 0, 48, .inl (fun _ => 0))) :: (q11, .inl (X.2.2.1 0, 48, .inl (fun _ => 0))) :: (q12, .inl (X.2.2.1 0, 48, .inl (fun _ => 0))) :: (q13, .inl (X.2.2.1 0, 48, .inl (fun _ => 0))) :: (q14, .inl (X.2.2.1 0, 6, .inl (fun _ => 0))) :: (q15, .inl (X.2.2.1 0, 6, .inl (fun _ => 0))) :: (q16, .inl (X.2.2.1 0, 6, .inl (fun _ => 0))) :: (q17, .inl (X.2.2.1 0, 6, .inl (fun _ => 0))) :: (q18, .inl (X.2.2.1 0, 6, .inl (fun _ => 0))) :: (q19, .inl (X.2.2.1 0, 6, .inl (fun _ => 0))) :: (q20, .inl (X.2.2.1 0, 3, .inl (upd (fun _ => 0) (0 : Int32).toNatClampNeg (1000 : Int32)))) :: (q21, .inl (X.2.2.1 0, 3, .inl (fun _ => 0))) :: (q22, .inl (X.2.2.1 0, 3, .inl (fun _ => 0))) :: (q23, .inl (X.2.2.1 0, 4, .inl (fun _ => 0))) :: (q24, .inl (X.2.2.1 0, 4, .inl (fun _ => 0))) :: (q25, .inl (X.2.2.1 0, 1200, .inl (fun _ => 0))) :: (q26, .inl (X.2.2.1 0, 6, .inl (fun _ => 0))) :: (q27, .inl (X.2.2.1 0, 6, .inl (fun _ => 0))) :: (q28, .inl (X.2.2.1 1, 6, .inl (fun _ => 0))) :: (q29, .inl (X.2.2.1 1, 36, .inl (fun _ => 0))) :: (q30, .inl (X.2.2.1 1, 6, .inl (fun _ => 0))) :: [])) (fun _ h => h) rfl ?_
  refine w_aload_n 0 rfl hC dX10_init_248 ?_
  refine w_getf (q0 := 0) (k := 26) hC rfl rfl in_11 (by decide) w_150 rfl dX10_init_249 ?_
  refine w_iconst (1) (by decide) hC dX10_init_252 ?_
  refine w_sipush (3000) (by decide) hC dX10_init_253 ?_
  refine w_iast (q0 := 20) hC rfl (by decide) dX10_init_256 ?_
  refine w_conv (ws' := ((h0, .inr (11, (.int 0 :: .int 0 :: .int 0 :: .int 0 :: .int 0 :: .int 0 :: .ref q1 :: .ref q2 :: .ref q3 :: .ref q4 :: .ref q5 :: .ref q6 :: .ref q7 :: .ref q8 :: .ref q9 :: .ref q10 :: .ref q11 :: .ref q12 :: .ref q13 :: .int 0 :: .ref q14 :: .ref q15 :: .ref q16 :: .ref q17 :: .ref q18 :: .ref q19 :: .ref q20 :: .ref q21 :: .ref q22 :: .ref q23 :: .ref q24 :: .ref q25 :: .ref q26 :: .ref q27 :: .ref q28 :: .ref q29 :: .ref q30 :: .int 0 :: .int 0 :: []))) :: (q1, .inl (X.2.2.1 0, 6, .inl (fun _ => 0))) :: (q2, .inl (X.2.2.1 0, 6, .inl (fun _ => 0))) :: (q3, .inl (X.2.2.1 0, 6, .inl (fun _ => 0))) :: (q4, .inl (X.2.2.1 0, 24, .inl (fun _ => 0))) :: (q5, .inl (X.2.2.1 0, 18, .inl (fun _ => 0))) :: (q6, .inl (X.2.2.1 0, 18, .inl (fun _ => 0))) :: (q7, .inl (X.2.2.1 0, 18, .inl (fun _ => 0))) :: (q8, .inl (X.2.2.1 0, 3, .inl (fun _ => 0))) :: (q9, .inl (X.2.2.1 0, 6, .inl (fun _ => 0))) :: (q10, .inl (X.2.2.1 0, 48, .inl (fun _ => 0))) :: (q11, .inl (X.2.2.1 0, 48, .inl (fun _ => 0))) :: (q12, .inl (X.2.2.1 0, 48, .inl (fun _ => 0))) :: (q13, .inl (X.2.2.1 0, 48, .inl (fun _ => 0))) :: (q14, .inl (X.2.2.1 0, 6, .inl (fun _ => 0))) :: (q15, .inl (X.2.2.1 0, 6, .inl (fun _ => 0))) :: (q16, .inl (X.2.2.1 0, 6, .inl (fun _ => 0))) :: (q17, .inl (X.2.2.1 0, 6, .inl (fun _ => 0))) :: (q18, .inl (X.2.2.1 0, 6, .inl (fun _ => 0))) :: (q19, .inl (X.2.2.1 0, 6, .inl (fun _ => 0))) :: (q20, .inl (X.2.2.1 0, 3, .inl (upd (upd (fun _ => 0) (0 : Int32).toNatClampNeg (1000 : Int32)) (1 : Int32).toNatClampNeg (3000 : Int32)))) :: (q21, .inl (X.2.2.1 0, 3, .inl (fun _ => 0))) :: (q22, .inl (X.2.2.1 0, 3, .inl (fun _ => 0))) :: (q23, .inl (X.2.2.1 0, 4, .inl (fun _ => 0))) :: (q24, .inl (X.2.2.1 0, 4, .inl (fun _ => 0))) :: (q25, .inl (X.2.2.1 0, 1200, .inl (fun _ => 0))) :: (q26, .inl (X.2.2.1 0, 6, .inl (fun _ => 0))) :: (q27, .inl (X.2.2.1 0, 6, .inl (fun _ => 0))) :: (q28, .inl (X.2.2.1 1, 6, .inl (fun _ => 0))) :: (q29, .inl (X.2.2.1 1, 36, .inl (fun _ => 0))) :: (q30, .inl (X.2.2.1 1, 6, .inl (fun _ => 0))) :: [])) (fun _ h => h) rfl ?_
  refine w_aload_n 0 rfl hC dX10_init_257 ?_
  refine w_getf (q0 := 0) (k := 26) hC rfl rfl in_11 (by decide) w_150 rfl dX10_init_258 ?_
  refine w_iconst (2) (by decide) hC dX10_init_261 ?_
  refine w_sipush (9000) (by decide) hC dX10_init_262 ?_
  refine w_iast (q0 := 20) hC rfl (by decide) dX10_init_265 ?_
  refine w_conv (ws' := ((h0, .inr (11, (.int 0 :: .int 0 :: .int 0 :: .int 0 :: .int 0 :: .int 0 :: .ref q1 :: .ref q2 :: .ref q3 :: .ref q4 :: .ref q5 :: .ref q6 :: .ref q7 :: .ref q8 :: .ref q9 :: .ref q10 :: .ref q11 :: .ref q12 :: .ref q13 :: .int 0 :: .ref q14 :: .ref q15 :: .ref q16 :: .ref q17 :: .ref q18 :: .ref q19 :: .ref q20 :: .ref q21 :: .ref q22 :: .ref q23 :: .ref q24 :: .ref q25 :: .ref q26 :: .ref q27 :: .ref q28 :: .ref q29 :: .ref q30 :: .int 0 :: .int 0 :: []))) :: (q1, .inl (X.2.2.1 0, 6, .inl (fun _ => 0))) :: (q2, .inl (X.2.2.1 0, 6, .inl (fun _ => 0))) :: (q3, .inl (X.2.2.1 0, 6, .inl (fun _ => 0))) :: (q4, .inl (X.2.2.1 0, 24, .inl (fun _ => 0))) :: (q5, .inl (X.2.2.1 0, 18, .inl (fun _ => 0))) :: (q6, .inl (X.2.2.1 0, 18, .inl (fun _ => 0))) :: (q7, .inl (X.2.2.1 0, 18, .inl (fun _ => 0))) :: (q8, .inl (X.2.2.1 0, 3, .inl (fun _ => 0))) :: (q9, .inl (X.2.2.1 0, 6, .inl (fun _ => 0))) :: (q10, .inl (X.2.2.1 0, 48, .inl (fun _ => 0))) :: (q11, .inl (X.2.2.1 0, 48, .inl (fun _ => 0))) :: (q12, .inl (X.2.2.1 0, 48, .inl (fun _ => 0))) :: (q13, .inl (X.2.2.1 0, 48, .inl (fun _ => 0))) :: (q14, .inl (X.2.2.1 0, 6, .inl (fun _ => 0))) :: (q15, .inl (X.2.2.1 0, 6, .inl (fun _ => 0))) :: (q16, .inl (X.2.2.1 0, 6, .inl (fun _ => 0))) :: (q17, .inl (X.2.2.1 0, 6, .inl (fun _ => 0))) :: (q18, .inl (X.2.2.1 0, 6, .inl (fun _ => 0))) :: (q19, .inl (X.2.2.1 0, 6, .inl (fun _ => 0))) :: (q20, .inl (X.2.2.1 0, 3, .inl (upd (upd (upd (fun _ => 0) (0 : Int32).toNatClampNeg (1000 : Int32)) (1 : Int32).toNatClampNeg (3000 : Int32)) (2 : Int32).toNatClampNeg (9000 : Int32)))) :: (q21, .inl (X.2.2.1 0, 3, .inl (fun _ => 0))) :: (q22, .inl (X.2.2.1 0, 3, .inl (fun _ => 0))) :: (q23, .inl (X.2.2.1 0, 4, .inl (fun _ => 0))) :: (q24, .inl (X.2.2.1 0, 4, .inl (fun _ => 0))) :: (q25, .inl (X.2.2.1 0, 1200, .inl (fun _ => 0))) :: (q26, .inl (X.2.2.1 0, 6, .inl (fun _ => 0))) :: (q27, .inl (X.2.2.1 0, 6, .inl (fun _ => 0))) :: (q28, .inl (X.2.2.1 1, 6, .inl (fun _ => 0))) :: (q29, .inl (X.2.2.1 1, 36, .inl (fun _ => 0))) :: (q30, .inl (X.2.2.1 1, 6, .inl (fun _ => 0))) :: [])) (fun _ h => h) rfl ?_
  refine w_aload_n 0 rfl hC dX10_init_266 ?_
  refine w_getf (q0 := 0) (k := 28) hC rfl rfl in_11 (by decide) w_152 rfl dX10_init_267 ?_
  refine w_iconst (0) (by decide) hC dX10_init_270 ?_
  refine w_iconst (5) (by decide) hC dX10_init_271 ?_
  refine w_iast (q0 := 22) hC rfl (by decide) dX10_init_272 ?_
  refine w_conv (ws' := ((h0, .inr (11, (.int 0 :: .int 0 :: .int 0 :: .int 0 :: .int 0 :: .int 0 :: .ref q1 :: .ref q2 :: .ref q3 :: .ref q4 :: .ref q5 :: .ref q6 :: .ref q7 :: .ref q8 :: .ref q9 :: .ref q10 :: .ref q11 :: .ref q12 :: .ref q13 :: .int 0 :: .ref q14 :: .ref q15 :: .ref q16 :: .ref q17 :: .ref q18 :: .ref q19 :: .ref q20 :: .ref q21 :: .ref q22 :: .ref q23 :: .ref q24 :: .ref q25 :: .ref q26 :: .ref q27 :: .ref q28 :: .ref q29 :: .ref q30 :: .int 0 :: .int 0 :: []))) :: (q1, .inl (X.2.2.1 0, 6, .inl (fun _ => 0))) :: (q2, .inl (X.2.2.1 0, 6, .inl (fun _ => 0))) :: (q3, .inl (X.2.2.1 0, 6, .inl (fun _ => 0))) :: (q4, .inl (X.2.2.1 0, 24, .inl (fun _ => 0))) :: (q5, .inl (X.2.2.1 0, 18, .inl (fun _ => 0))) :: (q6, .inl (X.2.2.1 0, 18, .inl (fun _ => 0))) :: (q7, .inl (X.2.2.1 0, 18, .inl (fun _ => 0))) :: (q8, .inl (X.2.2.1 0, 3, .inl (fun _ => 0))) :: (q9, .inl (X.2.2.1 0, 6, .inl (fun _ => 0))) :: (q10, .inl (X.2.2.1 0, 48, .inl (fun _ => 0))) :: (q11, .inl (X.2.2.1 0, 48, .inl (fun _ => 0))) :: (q12, .inl (X.2.2.1 0, 48, .inl (fun _ => 0))) :: (q13, .inl (X.2.2.1 0, 48, .inl (fun _ => 0))) :: (q14, .inl (X.2.2.1 0, 6, .inl (fun _ => 0))) :: (q15, .inl (X.2.2.1 0, 6, .inl (fun _ => 0))) :: (q16, .inl (X.2.2.1 0, 6, .inl (fun _ => 0))) :: (q17, .inl (X.2.2.1 0, 6, .inl (fun _ => 0))) :: (q18, .inl (X.2.2.1 0, 6, .inl (fun _ => 0))) :: (q19, .inl (X.2.2.1 0, 6, .inl (fun _ => 0))) :: (q20, .inl (X.2.2.1 0, 3, .inl (upd (upd (upd (fun _ => 0) (0 : Int32).toNatClampNeg (1000 : Int32)) (1 : Int32).toNatClampNeg (3000 : Int32)) (2 : Int32).toNatClampNeg (9000 : Int32)))) :: (q21, .inl (X.2.2.1 0, 3, .inl (fun _ => 0))) :: (q22, .inl (X.2.2.1 0, 3, .inl (upd (fun _ => 0) (0 : Int32).toNatClampNeg (5 : Int32)))) :: (q23, .inl (X.2.2.1 0, 4, .inl (fun _ => 0))) :: (q24, .inl (X.2.2.1 0, 4, .inl (fun _ => 0))) :: (q25, .inl (X.2.2.1 0, 1200, .inl (fun _ => 0))) :: (q26, .inl (X.2.2.1 0, 6, .inl (fun _ => 0))) :: (q27, .inl (X.2.2.1 0, 6, .inl (fun _ => 0))) :: (q28, .inl (X.2.2.1 1, 6, .inl (fun _ => 0))) :: (q29, .inl (X.2.2.1 1, 36, .inl (fun _ => 0))) :: (q30, .inl (X.2.2.1 1, 6, .inl (fun _ => 0))) :: [])) (fun _ h => h) rfl ?_
  refine w_aload_n 0 rfl hC dX10_init_273 ?_
  refine w_getf (q0 := 0) (k := 28) hC rfl rfl in_11 (by decide) w_152 rfl dX10_init_274 ?_
  refine w_iconst (1) (by decide) hC dX10_init_277 ?_
  refine w_bipush (20) (by decide) hC dX10_init_278 ?_
  refine w_iast (q0 := 22) hC rfl (by decide) dX10_init_280 ?_
  refine w_conv (ws' := ((h0, .inr (11, (.int 0 :: .int 0 :: .int 0 :: .int 0 :: .int 0 :: .int 0 :: .ref q1 :: .ref q2 :: .ref q3 :: .ref q4 :: .ref q5 :: .ref q6 :: .ref q7 :: .ref q8 :: .ref q9 :: .ref q10 :: .ref q11 :: .ref q12 :: .ref q13 :: .int 0 :: .ref q14 :: .ref q15 :: .ref q16 :: .ref q17 :: .ref q18 :: .ref q19 :: .ref q20 :: .ref q21 :: .ref q22 :: .ref q23 :: .ref q24 :: .ref q25 :: .ref q26 :: .ref q27 :: .ref q28 :: .ref q29 :: .ref q30 :: .int 0 :: .int 0 :: []))) :: (q1, .inl (X.2.2.1 0, 6, .inl (fun _ => 0))) :: (q2, .inl (X.2.2.1 0, 6, .inl (fun _ => 0))) :: (q3, .inl (X.2.2.1 0, 6, .inl (fun _ => 0))) :: (q4, .inl (X.2.2.1 0, 24, .inl (fun _ => 0))) :: (q5, .inl (X.2.2.1 0, 18, .inl (fun _ => 0))) :: (q6, .inl (X.2.2.1 0, 18, .inl (fun _ => 0))) :: (q7, .inl (X.2.2.1 0, 18, .inl (fun _ => 0))) :: (q8, .inl (X.2.2.1 0, 3, .inl (fun _ => 0))) :: (q9, .inl (X.2.2.1 0, 6, .inl (fun _ => 0))) :: (q10, .inl (X.2.2.1 0, 48, .inl (fun _ => 0))) :: (q11, .inl (X.2.2.1 0, 48, .inl (fun _ => 0))) :: (q12, .inl (X.2.2.1 0, 48, .inl (fun _ => 0))) :: (q13, .inl (X.2.2.1 0, 48, .inl (fun _ => 0))) :: (q14, .inl (X.2.2.1 0, 6, .inl (fun _ => 0))) :: (q15, .inl (X.2.2.1 0, 6, .inl (fun _ => 0))) :: (q16, .inl (X.2.2.1 0, 6, .inl (fun _ => 0))) :: (q17, .inl (X.2.2.1 0, 6, .inl (fun _ => 0))) :: (q18, .inl (X.2.2.1 0, 6, .inl (fun _ => 0))) :: (q19, .inl (X.2.2.1 0, 6, .inl (fun _ => 0))) :: (q20, .inl (X.2.2.1 0, 3, .inl (upd (upd (upd (fun _ => 0) (0 : Int32).toNatClampNeg (1000 : Int32)) (1 : Int32).toNatClampNeg (3000 : Int32)) (2 : Int32).toNatClampNeg (9000 : Int32)))) :: (q21, .inl (X.2.2.1 0, 3, .inl (fun _ => 0))) :: (q22, .inl (X.2.2.1 0, 3, .inl (upd (upd (fun _ => 0) (0 : Int32).toNatClampNeg (5 : Int32)) (1 : Int32).toNatClampNeg (20 : Int32)))) :: (q23, .inl (X.2.2.1 0, 4, .inl (fun _ => 0))) :: (q24, .inl (X.2.2.1 0, 4, .inl (fun _ => 0))) :: (q25, .inl (X.2.2.1 0, 1200, .inl (fun _ => 0))) :: (q26, .inl (X.2.2.1 0, 6, .inl (fun _ => 0))) :: (q27, .inl (X.2.2.1 0, 6, .inl (fun _ => 0))) :: (q28, .inl (X.2.2.1 1, 6, .inl (fun _ => 0))) :: (q29, .inl (X.2.2.1 1, 36, .inl (fun _ => 0))) :: (q30, .inl (X.2.2.1 1, 6, .inl (fun _ => 0))) :: [])) (fun _ h => h) rfl ?_
  refine w_aload_n 0 rfl hC dX10_init_281 ?_
  refine w_getf (q0 := 0) (k := 28) hC rfl rfl in_11 (by decide) w_152 rfl dX10_init_282 ?_
  refine w_iconst (2) (by decide) hC dX10_init_285 ?_
  refine w_bipush (60) (by decide) hC dX10_init_286 ?_
  refine w_iast (q0 := 22) hC rfl (by decide) dX10_init_288 ?_
  refine w_conv (ws' := ((h0, .inr (11, (.int 0 :: .int 0 :: .int 0 :: .int 0 :: .int 0 :: .int 0 :: .ref q1 :: .ref q2 :: .ref q3 :: .ref q4 :: .ref q5 :: .ref q6 :: .ref q7 :: .ref q8 :: .ref q9 :: .ref q10 :: .ref q11 :: .ref q12 :: .ref q13 :: .int 0 :: .ref q14 :: .ref q15 :: .ref q16 :: .ref q17 :: .ref q18 :: .ref q19 :: .ref q20 :: .ref q21 :: .ref q22 :: .ref q23 :: .ref q24 :: .ref q25 :: .ref q26 :: .ref q27 :: .ref q28 :: .ref q29 :: .ref q30 :: .int 0 :: .int 0 :: []))) :: (q1, .inl (X.2.2.1 0, 6, .inl (fun _ => 0))) :: (q2, .inl (X.2.2.1 0, 6, .inl (fun _ => 0))) :: (q3, .inl (X.2.2.1 0, 6, .inl (fun _ => 0))) :: (q4, .inl (X.2.2.1 0, 24, .inl (fun _ => 0))) :: (q5, .inl (X.2.2.1 0, 18, .inl (fun _ => 0))) :: (q6, .inl (X.2.2.1 0, 18, .inl (fun _ => 0))) :: (q7, .inl (X.2.2.1 0, 18, .inl (fun _ => 0))) :: (q8, .inl (X.2.2.1 0, 3, .inl (fun _ => 0))) :: (q9, .inl (X.2.2.1 0, 6, .inl (fun _ => 0))) :: (q10, .inl (X.2.2.1 0, 48, .inl (fun _ => 0))) :: (q11, .inl (X.2.2.1 0, 48, .inl (fun _ => 0))) :: (q12, .inl (X.2.2.1 0, 48, .inl (fun _ => 0))) :: (q13, .inl (X.2.2.1 0, 48, .inl (fun _ => 0))) :: (q14, .inl (X.2.2.1 0, 6, .inl (fun _ => 0))) :: (q15, .inl (X.2.2.1 0, 6, .inl (fun _ => 0))) :: (q16, .inl (X.2.2.1 0, 6, .inl (fun _ => 0))) :: (q17, .inl (X.2.2.1 0, 6, .inl (fun _ => 0))) :: (q18, .inl (X.2.2.1 0, 6, .inl (fun _ => 0))) :: (q19, .inl (X.2.2.1 0, 6, .inl (fun _ => 0))) :: (q20, .inl (X.2.2.1 0, 3, .inl (upd (upd (upd (fun _ => 0) (0 : Int32).toNatClampNeg (1000 : Int32)) (1 : Int32).toNatClampNeg (3000 : Int32)) (2 : Int32).toNatClampNeg (9000 : Int32)))) :: (q21, .inl (X.2.2.1 0, 3, .inl (fun _ => 0))) :: (q22, .inl (X.2.2.1 0, 3, .inl (upd (upd (upd (fun _ => 0) (0 : Int32).toNatClampNeg (5 : Int32)) (1 : Int32).toNatClampNeg (20 : Int32)) (2 : Int32).toNatClampNeg (60 : Int32)))) :: (q23, .inl (X.2.2.1 0, 4, .inl (fun _ => 0))) :: (q24, .inl (X.2.2.1 0, 4, .inl (fun _ => 0))) :: (q25, .inl (X.2.2.1 0, 1200, .inl (fun _ => 0))) :: (q26, .inl (X.2.2.1 0, 6, .inl (fun _ => 0))) :: (q27, .inl (X.2.2.1 0, 6, .inl (fun _ => 0))) :: (q28, .inl (X.2.2.1 1, 6, .inl (fun _ => 0))) :: (q29, .inl (X.2.2.1 1, 36, .inl (fun _ => 0))) :: (q30, .inl (X.2.2.1 1, 6, .inl (fun _ => 0))) :: [])) (fun _ h => h) rfl ?_
  refine w_iconst (0) (by decide) hC dX10_init_289 ?_
  refine w_istore_n [(1, .int _), (0, .ref _)] rfl (by decide) hC dX10_init_290 ?_
  refine w_iload_n 0 rfl hC dX10_init_291 ?_
  refine w_iconst (3) (by decide) hC dX10_init_292 ?_
  refine w_icmp_ge 310 (by decide) hC dX10_init_293 (fun hc => absurd hc (show ¬ (3 : Int32) ≤ (0 : Int32) by decide)) (fun _ => ?_)
  refine w_aload_n 1 rfl hC dX10_init_296 ?_
  refine w_getf (q0 := 0) (k := 27) hC rfl rfl in_11 (by decide) w_151 rfl dX10_init_297 ?_
  refine w_iload_n 0 rfl hC dX10_init_300 ?_
  refine w_bipush (10) (by decide) hC dX10_init_301 ?_
  refine w_iast (q0 := 21) hC rfl (by decide) dX10_init_303 ?_
  refine w_conv (ws' := ((h0, .inr (11, (.int 0 :: .int 0 :: .int 0 :: .int 0 :: .int 0 :: .int 0 :: .ref q1 :: .ref q2 :: .ref q3 :: .ref q4 :: .ref q5 :: .ref q6 :: .ref q7 :: .ref q8 :: .ref q9 :: .ref q10 :: .ref q11 :: .ref q12 :: .ref q13 :: .int 0 :: .ref q14 :: .ref q15 :: .ref q16 :: .ref q17 :: .ref q18 :: .ref q19 :: .ref q20 :: .ref q21 :: .ref q22 :: .ref q23 :: .ref q24 :: .ref q25 :: .ref q26 :: .ref q27 :: .ref q28 :: .ref q29 :: .ref q30 :: .int 0 :: .int 0 :: []))) :: (q1, .inl (X.2.2.1 0, 6, .inl (fun _ => 0))) :: (q2, .inl (X.2.2.1 0, 6, .inl (fun _ => 0))) :: (q3, .inl (X.2.2.1 0, 6, .inl (fun _ => 0))) :: (q4, .inl (X.2.2.1 0, 24, .inl (fun _ => 0))) :: (q5, .inl (X.2.2.1 0, 18, .inl (fun _ => 0))) :: (q6, .inl (X.2.2.1 0, 18, .inl (fun _ => 0))) :: (q7, .inl (X.2.2.1 0, 18, .inl (fun _ => 0))) :: (q8, .inl (X.2.2.1 0, 3, .inl (fun _ => 0))) :: (q9, .inl (X.2.2.1 0, 6, .inl (fun _ => 0))) :: (q10, .inl (X.2.2.1 0, 48, .inl (fun _ => 0))) :: (q11, .inl (X.2.2.1 0, 48, .inl (fun _ => 0))) :: (q12, .inl (X.2.2.1 0, 48, .inl (fun _ => 0))) :: (q13, .inl (X.2.2.1 0, 48, .inl (fun _ => 0))) :: (q14, .inl (X.2.2.1 0, 6, .inl (fun _ => 0))) :: (q15, .inl (X.2.2.1 0, 6, .inl (fun _ => 0))) :: (q16, .inl (X.2.2.1 0, 6, .inl (fun _ => 0))) :: (q17, .inl (X.2.2.1 0, 6, .inl (fun _ => 0))) :: (q18, .inl (X.2.2.1 0, 6, .inl (fun _ => 0))) :: (q19, .inl (X.2.2.1 0, 6, .inl (fun _ => 0))) :: (q20, .inl (X.2.2.1 0, 3, .inl (upd (upd (upd (fun _ => 0) (0 : Int32).toNatClampNeg (1000 : Int32)) (1 : Int32).toNatClampNeg (3000 : Int32)) (2 : Int32).toNatClampNeg (9000 : Int32)))) :: (q21, .inl (X.2.2.1 0, 3, .inl (upd (fun _ => 0) (0 : Int32).toNatClampNeg (10 : Int32)))) :: (q22, .inl (X.2.2.1 0, 3, .inl (upd (upd (upd (fun _ => 0) (0 : Int32).toNatClampNeg (5 : Int32)) (1 : Int32).toNatClampNeg (20 : Int32)) (2 : Int32).toNatClampNeg (60 : Int32)))) :: (q23, .inl (X.2.2.1 0, 4, .inl (fun _ => 0))) :: (q24, .inl (X.2.2.1 0, 4, .inl (fun _ => 0))) :: (q25, .inl (X.2.2.1 0, 1200, .inl (fun _ => 0))) :: (q26, .inl (X.2.2.1 0, 6, .inl (fun _ => 0))) :: (q27, .inl (X.2.2.1 0, 6, .inl (fun _ => 0))) :: (q28, .inl (X.2.2.1 1, 6, .inl (fun _ => 0))) :: (q29, .inl (X.2.2.1 1, 36, .inl (fun _ => 0))) :: (q30, .inl (X.2.2.1 1, 6, .inl (fun _ => 0))) :: [])) (fun _ h => h) rfl ?_
  refine w_iinc (1) [(1, .int _), (0, .ref _)] 0 rfl (by decide) rfl (by decide) hC dX10_init_304 ?_
  refine w_goto 291 (by decide) hC dX10_init_307 ?_
  refine w_iload_n 0 rfl hC dX10_init_291 ?_
  refine w_iconst (3) (by decide) hC dX10_init_292 ?_
  refine w_icmp_ge 310 (by decide) hC dX10_init_293 (fun hc => absurd hc (show ¬ (3 : Int32) ≤ ((0 : Int32) + 1) by decide)) (fun _ => ?_)
  refine w_aload_n 1 rfl hC dX10_init_296 ?_
  refine w_getf (q0 := 0) (k := 27) hC rfl rfl in_11 (by decide) w_151 rfl dX10_init_297 ?_
  refine w_iload_n 0 rfl hC dX10_init_300 ?_
  refine w_bipush (10) (by decide) hC dX10_init_301 ?_
  refine w_iast (q0 := 21) hC rfl (by decide) dX10_init_303 ?_
  refine w_conv (ws' := ((h0, .inr (11, (.int 0 :: .int 0 :: .int 0 :: .int 0 :: .int 0 :: .int 0 :: .ref q1 :: .ref q2 :: .ref q3 :: .ref q4 :: .ref q5 :: .ref q6 :: .ref q7 :: .ref q8 :: .ref q9 :: .ref q10 :: .ref q11 :: .ref q12 :: .ref q13 :: .int 0 :: .ref q14 :: .ref q15 :: .ref q16 :: .ref q17 :: .ref q18 :: .ref q19 :: .ref q20 :: .ref q21 :: .ref q22 :: .ref q23 :: .ref q24 :: .ref q25 :: .ref q26 :: .ref q27 :: .ref q28 :: .ref q29 :: .ref q30 :: .int 0 :: .int 0 :: []))) :: (q1, .inl (X.2.2.1 0, 6, .inl (fun _ => 0))) :: (q2, .inl (X.2.2.1 0, 6, .inl (fun _ => 0))) :: (q3, .inl (X.2.2.1 0, 6, .inl (fun _ => 0))) :: (q4, .inl (X.2.2.1 0, 24, .inl (fun _ => 0))) :: (q5, .inl (X.2.2.1 0, 18, .inl (fun _ => 0))) :: (q6, .inl (X.2.2.1 0, 18, .inl (fun _ => 0))) :: (q7, .inl (X.2.2.1 0, 18, .inl (fun _ => 0))) :: (q8, .inl (X.2.2.1 0, 3, .inl (fun _ => 0))) :: (q9, .inl (X.2.2.1 0, 6, .inl (fun _ => 0))) :: (q10, .inl (X.2.2.1 0, 48, .inl (fun _ => 0))) :: (q11, .inl (X.2.2.1 0, 48, .inl (fun _ => 0))) :: (q12, .inl (X.2.2.1 0, 48, .inl (fun _ => 0))) :: (q13, .inl (X.2.2.1 0, 48, .inl (fun _ => 0))) :: (q14, .inl (X.2.2.1 0, 6, .inl (fun _ => 0))) :: (q15, .inl (X.2.2.1 0, 6, .inl (fun _ => 0))) :: (q16, .inl (X.2.2.1 0, 6, .inl (fun _ => 0))) :: (q17, .inl (X.2.2.1 0, 6, .inl (fun _ => 0))) :: (q18, .inl (X.2.2.1 0, 6, .inl (fun _ => 0))) :: (q19, .inl (X.2.2.1 0, 6, .inl (fun _ => 0))) :: (q20, .inl (X.2.2.1 0, 3, .inl (upd (upd (upd (fun _ => 0) (0 : Int32).toNatClampNeg (1000 : Int32)) (1 : Int32).toNatClampNeg (3000 : Int32)) (2 : Int32).toNatClampNeg (9000 : Int32)))) :: (q21, .inl (X.2.2.1 0, 3, .inl (upd (upd (fun _ => 0) (0 : Int32).toNatClampNeg (10 : Int32)) ((0 : Int32) + 1).toNatClampNeg (10 : Int32)))) :: (q22, .inl (X.2.2.1 0, 3, .inl (upd (upd (upd (fun _ => 0) (0 : Int32).toNatClampNeg (5 : Int32)) (1 : Int32).toNatClampNeg (20 : Int32)) (2 : Int32).toNatClampNeg (60 : Int32)))) :: (q23, .inl (X.2.2.1 0, 4, .inl (fun _ => 0))) :: (q24, .inl (X.2.2.1 0, 4, .inl (fun _ => 0))) :: (q25, .inl (X.2.2.1 0, 1200, .inl (fun _ => 0))) :: (q26, .inl (X.2.2.1 0, 6, .inl (fun _ => 0))) :: (q27, .inl (X.2.2.1 0, 6, .inl (fun _ => 0))) :: (q28, .inl (X.2.2.1 1, 6, .inl (fun _ => 0))) :: (q29, .inl (X.2.2.1 1, 36, .inl (fun _ => 0))) :: (q30, .inl (X.2.2.1 1, 6, .inl (fun _ => 0))) :: [])) (fun _ h => h) rfl ?_
  refine w_iinc (1) [(1, .int _), (0, .ref _)] 0 rfl (by decide) rfl (by decide) hC dX10_init_304 ?_
  refine w_goto 291 (by decide) hC dX10_init_307 ?_
  refine w_iload_n 0 rfl hC dX10_init_291 ?_
  refine w_iconst (3) (by decide) hC dX10_init_292 ?_
  refine w_icmp_ge 310 (by decide) hC dX10_init_293 (fun hc => absurd hc (show ¬ (3 : Int32) ≤ (((0 : Int32) + 1) + 1) by decide)) (fun _ => ?_)
  refine w_aload_n 1 rfl hC dX10_init_296 ?_
  refine w_getf (q0 := 0) (k := 27) hC rfl rfl in_11 (by decide) w_151 rfl dX10_init_297 ?_
  refine w_iload_n 0 rfl hC dX10_init_300 ?_
  refine w_bipush (10) (by decide) hC dX10_init_301 ?_
  refine w_iast (q0 := 21) hC rfl (by decide) dX10_init_303 ?_
  refine w_conv (ws' := ((h0, .inr (11, (.int 0 :: .int 0 :: .int 0 :: .int 0 :: .int 0 :: .int 0 :: .ref q1 :: .ref q2 :: .ref q3 :: .ref q4 :: .ref q5 :: .ref q6 :: .ref q7 :: .ref q8 :: .ref q9 :: .ref q10 :: .ref q11 :: .ref q12 :: .ref q13 :: .int 0 :: .ref q14 :: .ref q15 :: .ref q16 :: .ref q17 :: .ref q18 :: .ref q19 :: .ref q20 :: .ref q21 :: .ref q22 :: .ref q23 :: .ref q24 :: .ref q25 :: .ref q26 :: .ref q27 :: .ref q28 :: .ref q29 :: .ref q30 :: .int 0 :: .int 0 :: []))) :: (q1, .inl (X.2.2.1 0, 6, .inl (fun _ => 0))) :: (q2, .inl (X.2.2.1 0, 6, .inl (fun _ => 0))) :: (q3, .inl (X.2.2.1 0, 6, .inl (fun _ => 0))) :: (q4, .inl (X.2.2.1 0, 24, .inl (fun _ => 0))) :: (q5, .inl (X.2.2.1 0, 18, .inl (fun _ => 0))) :: (q6, .inl (X.2.2.1 0, 18, .inl (fun _ => 0))) :: (q7, .inl (X.2.2.1 0, 18, .inl (fun _ => 0))) :: (q8, .inl (X.2.2.1 0, 3, .inl (fun _ => 0))) :: (q9, .inl (X.2.2.1 0, 6, .inl (fun _ => 0))) :: (q10, .inl (X.2.2.1 0, 48, .inl (fun _ => 0))) :: (q11, .inl (X.2.2.1 0, 48, .inl (fun _ => 0))) :: (q12, .inl (X.2.2.1 0, 48, .inl (fun _ => 0))) :: (q13, .inl (X.2.2.1 0, 48, .inl (fun _ => 0))) :: (q14, .inl (X.2.2.1 0, 6, .inl (fun _ => 0))) :: (q15, .inl (X.2.2.1 0, 6, .inl (fun _ => 0))) :: (q16, .inl (X.2.2.1 0, 6, .inl (fun _ => 0))) :: (q17, .inl (X.2.2.1 0, 6, .inl (fun _ => 0))) :: (q18, .inl (X.2.2.1 0, 6, .inl (fun _ => 0))) :: (q19, .inl (X.2.2.1 0, 6, .inl (fun _ => 0))) :: (q20, .inl (X.2.2.1 0, 3, .inl (upd (upd (upd (fun _ => 0) (0 : Int32).toNatClampNeg (1000 : Int32)) (1 : Int32).toNatClampNeg (3000 : Int32)) (2 : Int32).toNatClampNeg (9000 : Int32)))) :: (q21, .inl (X.2.2.1 0, 3, .inl (upd (upd (upd (fun _ => 0) (0 : Int32).toNatClampNeg (10 : Int32)) ((0 : Int32) + 1).toNatClampNeg (10 : Int32)) (((0 : Int32) + 1) + 1).toNatClampNeg (10 : Int32)))) :: (q22, .inl (X.2.2.1 0, 3, .inl (upd (upd (upd (fun _ => 0) (0 : Int32).toNatClampNeg (5 : Int32)) (1 : Int32).toNatClampNeg (20 : Int32)) (2 : Int32).toNatClampNeg (60 : Int32)))) :: (q23, .inl (X.2.2.1 0, 4, .inl (fun _ => 0))) :: (q24, .inl (X.2.2.1 0, 4, .inl (fun _ => 0))) :: (q25, .inl (X.2.2.1 0, 1200, .inl (fun _ => 0))) :: (q26, .inl (X.2.2.1 0, 6, .inl (fun _ => 0))) :: (q27, .inl (X.2.2.1 0, 6, .inl (fun _ => 0))) :: (q28, .inl (X.2.2.1 1, 6, .inl (fun _ => 0))) :: (q29, .inl (X.2.2.1 1, 36, .inl (fun _ => 0))) :: (q30, .inl (X.2.2.1 1, 6, .inl (fun _ => 0))) :: [])) (fun _ h => h) rfl ?_
  refine w_iinc (1) [(1, .int _), (0, .ref _)] 0 rfl (by decide) rfl (by decide) hC dX10_init_304 ?_
  refine w_goto 291 (by decide) hC dX10_init_307 ?_
  refine w_iload_n 0 rfl hC dX10_init_291 ?_
  refine w_iconst (3) (by decide) hC dX10_init_292 ?_
  refine w_icmp_ge 310 (by decide) hC dX10_init_293 (fun _ => ?_) (fun hc => absurd (show (3 : Int32) ≤ ((((0 : Int32) + 1) + 1) + 1) by decide) hc)
  refine w_iconst (0) (by decide) hC dX10_init_310 ?_
  refine w_istore_n [(1, .int _), (0, .ref _)] rfl (by decide) hC dX10_init_311 ?_
  refine w_iload_n 0 rfl hC dX10_init_312 ?_
  refine w_iconst (4) (by decide) hC dX10_init_313 ?_
  refine w_icmp_ge 330 (by decide) hC dX10_init_314 (fun hc => absurd hc (show ¬ (4 : Int32) ≤ (0 : Int32) by decide)) (fun _ => ?_)
  refine w_aload_n 1 rfl hC dX10_init_317 ?_
  refine w_getf (q0 := 0) (k := 29) hC rfl rfl in_11 (by decide) w_158 rfl dX10_init_318 ?_
  refine w_iload_n 0 rfl hC dX10_init_321 ?_
  refine w_iconst (-1) (by decide) hC dX10_init_322 ?_
  refine w_iast (q0 := 23) hC rfl (by decide) dX10_init_323 ?_
  refine w_conv (ws' := ((h0, .inr (11, (.int 0 :: .int 0 :: .int 0 :: .int 0 :: .int 0 :: .int 0 :: .ref q1 :: .ref q2 :: .ref q3 :: .ref q4 :: .ref q5 :: .ref q6 :: .ref q7 :: .ref q8 :: .ref q9 :: .ref q10 :: .ref q11 :: .ref q12 :: .ref q13 :: .int 0 :: .ref q14 :: .ref q15 :: .ref q16 :: .ref q17 :: .ref q18 :: .ref q19 :: .ref q20 :: .ref q21 :: .ref q22 :: .ref q23 :: .ref q24 :: .ref q25 :: .ref q26 :: .ref q27 :: .ref q28 :: .ref q29 :: .ref q30 :: .int 0 :: .int 0 :: []))) :: (q1, .inl (X.2.2.1 0, 6, .inl (fun _ => 0))) :: (q2, .inl (X.2.2.1 0, 6, .inl (fun _ => 0))) :: (q3, .inl (X.2.2.1 0, 6, .inl (fun _ => 0))) :: (q4, .inl (X.2.2.1 0, 24, .inl (fun _ => 0))) :: (q5, .inl (X.2.2.1 0, 18, .inl (fun _ => 0))) :: (q6, .inl (X.2.2.1 0, 18, .inl (fun _ => 0))) :: (q7, .inl (X.2.2.1 0, 18, .inl (fun _ => 0))) :: (q8, .inl (X.2.2.1 0, 3, .inl (fun _ => 0))) :: (q9, .inl (X.2.2.1 0, 6, .inl (fun _ => 0))) :: (q10, .inl (X.2.2.1 0, 48, .inl (fun _ => 0))) :: (q11, .inl (X.2.2.1 0, 48, .inl (fun _ => 0))) :: (q12, .inl (X.2.2.1 0, 48, .inl (fun _ => 0))) :: (q13, .inl (X.2.2.1 0, 48, .inl (fun _ => 0))) :: (q14, .inl (X.2.2.1 0, 6, .inl (fun _ => 0))) :: (q15, .inl (X.2.2.1 0, 6, .inl (fun _ => 0))) :: (q16, .inl (X.2.2.1 0, 6, .inl (fun _ => 0))) :: (q17, .inl (X.2.2.1 0, 6, .inl (fun _ => 0))) :: (q18, .inl (X.2.2.1 0, 6, .inl (fun _ => 0))) :: (q19, .inl (X.2.2.1 0, 6, .inl (fun _ => 0))) :: (q20, .inl (X.2.2.1 0, 3, .inl (upd (upd (upd (fun _ => 0) (0 : Int32).toNatClampNeg (1000 : Int32)) (1 : Int32).toNatClampNeg (3000 : Int32)) (2 : Int32).toNatClampNeg (9000 : Int32)))) :: (q21, .inl (X.2.2.1 0, 3, .inl (upd (upd (upd (fun _ => 0) (0 : Int32).toNatClampNeg (10 : Int32)) ((0 : Int32) + 1).toNatClampNeg (10 : Int32)) (((0 : Int32) + 1) + 1).toNatClampNeg (10 : Int32)))) :: (q22, .inl (X.2.2.1 0, 3, .inl (upd (upd (upd (fun _ => 0) (0 : Int32).toNatClampNeg (5 : Int32)) (1 : Int32).toNatClampNeg (20 : Int32)) (2 : Int32).toNatClampNeg (60 : Int32)))) :: (q23, .inl (X.2.2.1 0, 4, .inl (upd (fun _ => 0) (0 : Int32).toNatClampNeg (-1 : Int32)))) :: (q24, .inl (X.2.2.1 0, 4, .inl (fun _ => 0))) :: (q25, .inl (X.2.2.1 0, 1200, .inl (fun _ => 0))) :: (q26, .inl (X.2.2.1 0, 6, .inl (fun _ => 0))) :: (q27, .inl (X.2.2.1 0, 6, .inl (fun _ => 0))) :: (q28, .inl (X.2.2.1 1, 6, .inl (fun _ => 0))) :: (q29, .inl (X.2.2.1 1, 36, .inl (fun _ => 0))) :: (q30, .inl (X.2.2.1 1, 6, .inl (fun _ => 0))) :: [])) (fun _ h => h) rfl ?_
  refine w_iinc (1) [(1, .int _), (0, .ref _)] 0 rfl (by decide) rfl (by decide) hC dX10_init_324 ?_
  refine w_goto 312 (by decide) hC dX10_init_327 ?_
  refine w_iload_n 0 rfl hC dX10_init_312 ?_
  refine w_iconst (4) (by decide) hC dX10_init_313 ?_
  refine w_icmp_ge 330 (by decide) hC dX10_init_314 (fun hc => absurd hc (show ¬ (4 : Int32) ≤ ((0 : Int32) + 1) by decide)) (fun _ => ?_)
  refine w_aload_n 1 rfl hC dX10_init_317 ?_
  refine w_getf (q0 := 0) (k := 29) hC rfl rfl in_11 (by decide) w_158 rfl dX10_init_318 ?_
  refine w_iload_n 0 rfl hC dX10_init_321 ?_
  refine w_iconst (-1) (by decide) hC dX10_init_322 ?_
  refine w_iast (q0 := 23) hC rfl (by decide) dX10_init_323 ?_
  refine w_conv (ws' := ((h0, .inr (11, (.int 0 :: .int 0 :: .int 0 :: .int 0 :: .int 0 :: .int 0 :: .ref q1 :: .ref q2 :: .ref q3 :: .ref q4 :: .ref q5 :: .ref q6 :: .ref q7 :: .ref q8 :: .ref q9 :: .ref q10 :: .ref q11 :: .ref q12 :: .ref q13 :: .int 0 :: .ref q14 :: .ref q15 :: .ref q16 :: .ref q17 :: .ref q18 :: .ref q19 :: .ref q20 :: .ref q21 :: .ref q22 :: .ref q23 :: .ref q24 :: .ref q25 :: .ref q26 :: .ref q27 :: .ref q28 :: .ref q29 :: .ref q30 :: .int 0 :: .int 0 :: []))) :: (q1, .inl (X.2.2.1 0, 6, .inl (fun _ => 0))) :: (q2, .inl (X.2.2.1 0, 6, .inl (fun _ => 0))) :: (q3, .inl (X.2.2.1 0, 6, .inl (fun _ => 0))) :: (q4, .inl (X.2.2.1 0, 24, .inl (fun _ => 0))) :: (q5, .inl (X.2.2.1 0, 18, .inl (fun _ => 0))) :: (q6, .inl (X.2.2.1 0, 18, .inl (fun _ => 0))) :: (q7, .inl (X.2.2.1 0, 18, .inl (fun _ => 0))) :: (q8, .inl (X.2.2.1 0, 3, .inl (fun _ => 0))) :: (q9, .inl (X.2.2.1 0, 6, .inl (fun _ => 0))) :: (q10, .inl (X.2.2.1 0, 48, .inl (fun _ => 0))) :: (q11, .inl (X.2.2.1 0, 48, .inl (fun _ => 0))) :: (q12, .inl (X.2.2.1 0, 48, .inl (fun _ => 0))) :: (q13, .inl (X.2.2.1 0, 48, .inl (fun _ => 0))) :: (q14, .inl (X.2.2.1 0, 6, .inl (fun _ => 0))) :: (q15, .inl (X.2.2.1 0, 6, .inl (fun _ => 0))) :: (q16, .inl (X.2.2.1 0, 6, .inl (fun _ => 0))) :: (q17, .inl (X.2.2.1 0, 6, .inl (fun _ => 0))) :: (q18, .inl (X.2.2.1 0, 6, .inl (fun _ => 0))) :: (q19, .inl (X.2.2.1 0, 6, .inl (fun _ => 0))) :: (q20, .inl (X.2.2.1 0, 3, .inl (upd (upd (upd (fun _ => 0) (0 : Int32).toNatClampNeg (1000 : Int32)) (1 : Int32).toNatClampNeg (3000 : Int32)) (2 : Int32).toNatClampNeg (9000 : Int32)))) :: (q21, .inl (X.2.2.1 0, 3, .inl (upd (upd (upd (fun _ => 0) (0 : Int32).toNatClampNeg (10 : Int32)) ((0 : Int32) + 1).toNatClampNeg (10 : Int32)) (((0 : Int32) + 1) + 1).toNatClampNeg (10 : Int32)))) :: (q22, .inl (X.2.2.1 0, 3, .inl (upd (upd (upd (fun _ => 0) (0 : Int32).toNatClampNeg (5 : Int32)) (1 : Int32).toNatClampNeg (20 : Int32)) (2 : Int32).toNatClampNeg (60 : Int32)))) :: (q23, .inl (X.2.2.1 0, 4, .inl (upd (upd (fun _ => 0) (0 : Int32).toNatClampNeg (-1 : Int32)) ((0 : Int32) + 1).toNatClampNeg (-1 : Int32)))) :: (q24, .inl (X.2.2.1 0, 4, .inl (fun _ => 0))) :: (q25, .inl (X.2.2.1 0, 1200, .inl (fun _ => 0))) :: (q26, .inl (X.2.2.1 0, 6, .inl (fun _ => 0))) :: (q27, .inl (X.2.2.1 0, 6, .inl (fun _ => 0))) :: (q28, .inl (X.2.2.1 1, 6, .inl (fun _ => 0))) :: (q29, .inl (X.2.2.1 1, 36, .inl (fun _ => 0))) :: (q30, .inl (X.2.2.1 1, 6, .inl (fun _ => 0))) :: [])) (fun _ h => h) rfl ?_
  refine w_iinc (1) [(1, .int _), (0, .ref _)] 0 rfl (by decide) rfl (by decide) hC dX10_init_324 ?_
  refine w_goto 312 (by decide) hC dX10_init_327 ?_
  refine w_iload_n 0 rfl hC dX10_init_312 ?_
  refine w_iconst (4) (by decide) hC dX10_init_313 ?_
  refine w_icmp_ge 330 (by decide) hC dX10_init_314 (fun hc => absurd hc (show ¬ (4 : Int32) ≤ (((0 : Int32) + 1) + 1) by decide)) (fun _ => ?_)
  refine w_aload_n 1 rfl hC dX10_init_317 ?_
  refine w_getf (q0 := 0) (k := 29) hC rfl rfl in_11 (by decide) w_158 rfl dX10_init_318 ?_
  refine w_iload_n 0 rfl hC dX10_init_321 ?_
  refine w_iconst (-1) (by decide) hC dX10_init_322 ?_
  refine w_iast (q0 := 23) hC rfl (by decide) dX10_init_323 ?_
  refine w_conv (ws' := ((h0, .inr (11, (.int 0 :: .int 0 :: .int 0 :: .int 0 :: .int 0 :: .int 0 :: .ref q1 :: .ref q2 :: .ref q3 :: .ref q4 :: .ref q5 :: .ref q6 :: .ref q7 :: .ref q8 :: .ref q9 :: .ref q10 :: .ref q11 :: .ref q12 :: .ref q13 :: .int 0 :: .ref q14 :: .ref q15 :: .ref q16 :: .ref q17 :: .ref q18 :: .ref q19 :: .ref q20 :: .ref q21 :: .ref q22 :: .ref q23 :: .ref q24 :: .ref q25 :: .ref q26 :: .ref q27 :: .ref q28 :: .ref q29 :: .ref q30 :: .int 0 :: .int 0 :: []))) :: (q1, .inl (X.2.2.1 0, 6, .inl (fun _ => 0))) :: (q2, .inl (X.2.2.1 0, 6, .inl (fun _ => 0))) :: (q3, .inl (X.2.2.1 0, 6, .inl (fun _ => 0))) :: (q4, .inl (X.2.2.1 0, 24, .inl (fun _ => 0))) :: (q5, .inl (X.2.2.1 0, 18, .inl (fun _ => 0))) :: (q6, .inl (X.2.2.1 0, 18, .inl (fun _ => 0))) :: (q7, .inl (X.2.2.1 0, 18, .inl (fun _ => 0))) :: (q8, .inl (X.2.2.1 0, 3, .inl (fun _ => 0))) :: (q9, .inl (X.2.2.1 0, 6, .inl (fun _ => 0))) :: (q10, .inl (X.2.2.1 0, 48, .inl (fun _ => 0))) :: (q11, .inl (X.2.2.1 0, 48, .inl (fun _ => 0))) :: (q12, .inl (X.2.2.1 0, 48, .inl (fun _ => 0))) :: (q13, .inl (X.2.2.1 0, 48, .inl (fun _ => 0))) :: (q14, .inl (X.2.2.1 0, 6, .inl (fun _ => 0))) :: (q15, .inl (X.2.2.1 0, 6, .inl (fun _ => 0))) :: (q16, .inl (X.2.2.1 0, 6, .inl (fun _ => 0))) :: (q17, .inl (X.2.2.1 0, 6, .inl (fun _ => 0))) :: (q18, .inl (X.2.2.1 0, 6, .inl (fun _ => 0))) :: (q19, .inl (X.2.2.1 0, 6, .inl (fun _ => 0))) :: (q20, .inl (X.2.2.1 0, 3, .inl (upd (upd (upd (fun _ => 0) (0 : Int32).toNatClampNeg (1000 : Int32)) (1 : Int32).toNatClampNeg (3000 : Int32)) (2 : Int32).toNatClampNeg (9000 : Int32)))) :: (q21, .inl (X.2.2.1 0, 3, .inl (upd (upd (upd (fun _ => 0) (0 : Int32).toNatClampNeg (10 : Int32)) ((0 : Int32) + 1).toNatClampNeg (10 : Int32)) (((0 : Int32) + 1) + 1).toNatClampNeg (10 : Int32)))) :: (q22, .inl (X.2.2.1 0, 3, .inl (upd (upd (upd (fun _ => 0) (0 : Int32).toNatClampNeg (5 : Int32)) (1 : Int32).toNatClampNeg (20 : Int32)) (2 : Int32).toNatClampNeg (60 : Int32)))) :: (q23, .inl (X.2.2.1 0, 4, .inl (upd (upd (upd (fun _ => 0) (0 : Int32).toNatClampNeg (-1 : Int32)) ((0 : Int32) + 1).toNatClampNeg (-1 : Int32)) (((0 : Int32) + 1) + 1).toNatClampNeg (-1 : Int32)))) :: (q24, .inl (X.2.2.1 0, 4, .inl (fun _ => 0))) :: (q25, .inl (X.2.2.1 0, 1200, .inl (fun _ => 0))) :: (q26, .inl (X.2.2.1 0, 6, .inl (fun _ => 0))) :: (q27, .inl (X.2.2.1 0, 6, .inl (fun _ => 0))) :: (q28, .inl (X.2.2.1 1, 6, .inl (fun _ => 0))) :: (q29, .inl (X.2.2.1 1, 36, .inl (fun _ => 0))) :: (q30, .inl (X.2.2.1 1, 6, .inl (fun _ => 0))) :: [])) (fun _ h => h) rfl ?_
  refine w_iinc (1) [(1, .int _), (0, .ref _)] 0 rfl (by decide) rfl (by decide) hC dX10_init_324 ?_
  refine w_goto 312 (by decide) hC dX10_init_327 ?_
  refine w_iload_n 0 rfl hC dX10_init_312 ?_
  refine w_iconst (4) (by decide) hC dX10_init_313 ?_
  refine w_icmp_ge 330 (by decide) hC dX10_init_314 (fun hc => absurd hc (show ¬ (4 : Int32) ≤ ((((0 : Int32) + 1) + 1) + 1) by decide)) (fun _ => ?_)
  refine w_aload_n 1 rfl hC dX10_init_317 ?_
  refine w_getf (q0 := 0) (k := 29) hC rfl rfl in_11 (by decide) w_158 rfl dX10_init_318 ?_
  refine w_iload_n 0 rfl hC dX10_init_321 ?_
  refine w_iconst (-1) (by decide) hC dX10_init_322 ?_
  refine w_iast (q0 := 23) hC rfl (by decide) dX10_init_323 ?_
  refine w_conv (ws' := ((h0, .inr (11, (.int 0 :: .int 0 :: .int 0 :: .int 0 :: .int 0 :: .int 0 :: .ref q1 :: .ref q2 :: .ref q3 :: .ref q4 :: .ref q5 :: .ref q6 :: .ref q7 :: .ref q8 :: .ref q9 :: .ref q10 :: .ref q11 :: .ref q12 :: .ref q13 :: .int 0 :: .ref q14 :: .ref q15 :: .ref q16 :: .ref q17 :: .ref q18 :: .ref q19 :: .ref q20 :: .ref q21 :: .ref q22 :: .ref q23 :: .ref q24 :: .ref q25 :: .ref q26 :: .ref q27 :: .ref q28 :: .ref q29 :: .ref q30 :: .int 0 :: .int 0 :: []))) :: (q1, .inl (X.2.2.1 0, 6, .inl (fun _ => 0))) :: (q2, .inl (X.2.2.1 0, 6, .inl (fun _ => 0))) :: (q3, .inl (X.2.2.1 0, 6, .inl (fun _ => 0))) :: (q4, .inl (X.2.2.1 0, 24, .inl (fun _ => 0))) :: (q5, .inl (X.2.2.1 0, 18, .inl (fun _ => 0))) :: (q6, .inl (X.2.2.1 0, 18, .inl (fun _ => 0))) :: (q7, .inl (X.2.2.1 0, 18, .inl (fun _ => 0))) :: (q8, .inl (X.2.2.1 0, 3, .inl (fun _ => 0))) :: (q9, .inl (X.2.2.1 0, 6, .inl (fun _ => 0))) :: (q10, .inl (X.2.2.1 0, 48, .inl (fun _ => 0))) :: (q11, .inl (X.2.2.1 0, 48, .inl (fun _ => 0))) :: (q12, .inl (X.2.2.1 0, 48, .inl (fun _ => 0))) :: (q13, .inl (X.2.2.1 0, 48, .inl (fun _ => 0))) :: (q14, .inl (X.2.2.1 0, 6, .inl (fun _ => 0))) :: (q15, .inl (X.2.2.1 0, 6, .inl (fun _ => 0))) :: (q16, .inl (X.2.2.1 0, 6, .inl (fun _ => 0))) :: (q17, .inl (X.2.2.1 0, 6, .inl (fun _ => 0))) :: (q18, .inl (X.2.2.1 0, 6, .inl (fun _ => 0))) :: (q19, .inl (X.2.2.1 0, 6, .inl (fun _ => 0))) :: (q20, .inl (X.2.2.1 0, 3, .inl (upd (upd (upd (fun _ => 0) (0 : Int32).toNatClampNeg (1000 : Int32)) (1 : Int32).toNatClampNeg (3000 : Int32)) (2 : Int32).toNatClampNeg (9000 : Int32)))) :: (q21, .inl (X.2.2.1 0, 3, .inl (upd (upd (upd (fun _ => 0) (0 : Int32).toNatClampNeg (10 : Int32)) ((0 : Int32) + 1).toNatClampNeg (10 : Int32)) (((0 : Int32) + 1) + 1).toNatClampNeg (10 : Int32)))) :: (q22, .inl (X.2.2.1 0, 3, .inl (upd (upd (upd (fun _ => 0) (0 : Int32).toNatClampNeg (5 : Int32)) (1 : Int32).toNatClampNeg (20 : Int32)) (2 : Int32).toNatClampNeg (60 : Int32)))) :: (q23, .inl (X.2.2.1 0, 4, .inl (upd (upd (upd (upd (fun _ => 0) (0 : Int32).toNatClampNeg (-1 : Int32)) ((0 : Int32) + 1).toNatClampNeg (-1 : Int32)) (((0 : Int32) + 1) + 1).toNatClampNeg (-1 : Int32)) ((((0 : Int32) + 1) + 1) + 1).toNatClampNeg (-1 : Int32)))) :: (q24, .inl (X.2.2.1 0, 4, .inl (fun _ => 0))) :: (q25, .inl (X.2.2.1 0, 1200, .inl (fun _ => 0))) :: (q26, .inl (X.2.2.1 0, 6, .inl (fun _ => 0))) :: (q27, .inl (X.2.2.1 0, 6, .inl (fun _ => 0))) :: (q28, .inl (X.2.2.1 1, 6, .inl (fun _ => 0))) :: (q29, .inl (X.2.2.1 1, 36, .inl (fun _ => 0))) :: (q30, .inl (X.2.2.1 1, 6, .inl (fun _ => 0))) :: [])) (fun _ h => h) rfl ?_
  refine w_iinc (1) [(1, .int _), (0, .ref _)] 0 rfl (by decide) rfl (by decide) hC dX10_init_324 ?_
  refine w_goto 312 (by decide) hC dX10_init_327 ?_
  refine w_iload_n 0 rfl hC dX10_init_312 ?_
  refine w_iconst (4) (by decide) hC dX10_init_313 ?_
  refine w_icmp_ge 330 (by decide) hC dX10_init_314 (fun _ => ?_) (fun hc => absurd (show (4 : Int32) ≤ (((((0 : Int32) + 1) + 1) + 1) + 1) by decide) hc)
  refine w_iconst (0) (by decide) hC dX10_init_330 ?_
  refine w_istore_n [(1, .int _), (0, .ref _)] rfl (by decide) hC dX10_init_331 ?_
  have key : ∀ (k i : Nat) (g : Nat → Int32), i ≤ 1200 → 1200 - i ≤ k → (∀ j, j < i → g j = (-1)) → Bw X (Cini X cX10_init 2 RX10 "<init>" sz) { frames := 1, cells := 30, slots := 1610, locals := 12 } (Qi X (30, 1610) [(h0, .inr (11, (.int 0 :: .int 0 :: .int 0 :: .int 0 :: .int 0 :: .int 0 :: .null :: .null :: .null :: .null :: .null :: .null :: .null :: .null :: .null :: .null :: .null :: .null :: .null :: .int 0 :: .null :: .null :: .null :: .null :: .null :: .null :: .null :: .null :: .null :: .null :: .null :: .null :: .null :: .null :: .null :: .null :: .null :: .int 0 :: .int 0 :: [])))] sz (fun w => ∃ q1 q2 q3 q4 q5 q6 q7 q8 q9 q10 q11 q12 q13 q14 q15 q16 q17 q18 q19 q20 q21 q22 q23 q24 q25 q26 q27 q28 q29 q30, w = ((h0, .inr (11, (.int 0 :: .int 0 :: .int 0 :: .int 0 :: .int 0 :: .int 0 :: .ref q1 :: .ref q2 :: .ref q3 :: .ref q4 :: .ref q5 :: .ref q6 :: .ref q7 :: .ref q8 :: .ref q9 :: .ref q10 :: .ref q11 :: .ref q12 :: .ref q13 :: .int 0 :: .ref q14 :: .ref q15 :: .ref q16 :: .ref q17 :: .ref q18 :: .ref q19 :: .ref q20 :: .ref q21 :: .ref q22 :: .ref q23 :: .ref q24 :: .ref q25 :: .ref q26 :: .ref q27 :: .ref q28 :: .ref q29 :: .ref q30 :: .int 0 :: .int 0 :: []))) :: (q1, .inl (X.2.2.1 0, 6, .inl (fun _ => 0))) :: (q2, .inl (X.2.2.1 0, 6, .inl (fun _ => 0))) :: (q3, .inl (X.2.2.1 0, 6, .inl (fun _ => 0))) :: (q4, .inl (X.2.2.1 0, 24, .inl (fun _ => 0))) :: (q5, .inl (X.2.2.1 0, 18, .inl (fun _ => 0))) :: (q6, .inl (X.2.2.1 0, 18, .inl (fun _ => 0))) :: (q7, .inl (X.2.2.1 0, 18, .inl (fun _ => 0))) :: (q8, .inl (X.2.2.1 0, 3, .inl (fun _ => 0))) :: (q9, .inl (X.2.2.1 0, 6, .inl (fun _ => 0))) :: (q10, .inl (X.2.2.1 0, 48, .inl (fun _ => 0))) :: (q11, .inl (X.2.2.1 0, 48, .inl (fun _ => 0))) :: (q12, .inl (X.2.2.1 0, 48, .inl (fun _ => 0))) :: (q13, .inl (X.2.2.1 0, 48, .inl (fun _ => 0))) :: (q14, .inl (X.2.2.1 0, 6, .inl (fun _ => 0))) :: (q15, .inl (X.2.2.1 0, 6, .inl (fun _ => 0))) :: (q16, .inl (X.2.2.1 0, 6, .inl (fun _ => 0))) :: (q17, .inl (X.2.2.1 0, 6, .inl (fun _ => 0))) :: (q18, .inl (X.2.2.1 0, 6, .inl (fun _ => 0))) :: (q19, .inl (X.2.2.1 0, 6, .inl (fun _ => 0))) :: (q20, .inl (X.2.2.1 0, 3, .inl (upd (upd (upd (fun _ => 0) (0 : Int32).toNatClampNeg (1000 : Int32)) (1 : Int32).toNatClampNeg (3000 : Int32)) (2 : Int32).toNatClampNeg (9000 : Int32)))) :: (q21, .inl (X.2.2.1 0, 3, .inl (upd (upd (upd (fun _ => 0) (0 : Int32).toNatClampNeg (10 : Int32)) ((0 : Int32) + 1).toNatClampNeg (10 : Int32)) (((0 : Int32) + 1) + 1).toNatClampNeg (10 : Int32)))) :: (q22, .inl (X.2.2.1 0, 3, .inl (upd (upd (upd (fun _ => 0) (0 : Int32).toNatClampNeg (5 : Int32)) (1 : Int32).toNatClampNeg (20 : Int32)) (2 : Int32).toNatClampNeg (60 : Int32)))) :: (q23, .inl (X.2.2.1 0, 4, .inl (upd (upd (upd (upd (fun _ => 0) (0 : Int32).toNatClampNeg (-1 : Int32)) ((0 : Int32) + 1).toNatClampNeg (-1 : Int32)) (((0 : Int32) + 1) + 1).toNatClampNeg (-1 : Int32)) ((((0 : Int32) + 1) + 1) + 1).toNatClampNeg (-1 : Int32)))) :: (q24, .inl (X.2.2.1 0, 4, .inl (fun _ => 0))) :: (q25, .inl (X.2.2.1 0, 1200, .inl (fun _ => (-1)))) :: (q26, .inl (X.2.2.1 0, 6, .inl (fun _ => 0))) :: (q27, .inl (X.2.2.1 0, 6, .inl (fun _ => 0))) :: (q28, .inl (X.2.2.1 1, 6, .inl (fun _ => 0))) :: (q29, .inl (X.2.2.1 1, 36, .inl (fun _ => 0))) :: (q30, .inl (X.2.2.1 1, 6, .inl (fun _ => 0))) :: []))) (va_A [(h0, .inr (11, (.int 0 :: .int 0 :: .int 0 :: .int 0 :: .int 0 :: .int 0 :: .null :: .null :: .null :: .null :: .null :: .null :: .null :: .null :: .null :: .null :: .null :: .null :: .null :: .int 0 :: .null :: .null :: .null :: .null :: .null :: .null :: .null :: .null :: .null :: .null :: .null :: .null :: .null :: .null :: .null :: .null :: .null :: .int 0 :: .int 0 :: [])))] sz) 2 ((h0, .inr (11, (.int 0 :: .int 0 :: .int 0 :: .int 0 :: .int 0 :: .int 0 :: .ref q1 :: .ref q2 :: .ref q3 :: .ref q4 :: .ref q5 :: .ref q6 :: .ref q7 :: .ref q8 :: .ref q9 :: .ref q10 :: .ref q11 :: .ref q12 :: .ref q13 :: .int 0 :: .ref q14 :: .ref q15 :: .ref q16 :: .ref q17 :: .ref q18 :: .ref q19 :: .ref q20 :: .ref q21 :: .ref q22 :: .ref q23 :: .ref q24 :: .ref q25 :: .ref q26 :: .ref q27 :: .ref q28 :: .ref q29 :: .ref q30 :: .int 0 :: .int 0 :: []))) :: (q1, .inl (X.2.2.1 0, 6, .inl (fun _ => 0))) :: (q2, .inl (X.2.2.1 0, 6, .inl (fun _ => 0))) :: (q3, .inl (X.2.2.1 0, 6, .inl (fun _ => 0))) :: (q4, .inl (X.2.2.1 0, 24, .inl (fun _ => 0))) :: (q5, .inl (X.2.2.1 0, 18, .inl (fun _ => 0))) :: (q6, .inl (X.2.2.1 0, 18, .inl (fun _ => 0))) :: (q7, .inl (X.2.2.1 0, 18, .inl (fun _ => 0))) :: (q8, .inl (X.2.2.1 0, 3, .inl (fun _ => 0))) :: (q9, .inl (X.2.2.1 0, 6, .inl (fun _ => 0))) :: (q10, .inl (X.2.2.1 0, 48, .inl (fun _ => 0))) :: (q11, .inl (X.2.2.1 0, 48, .inl (fun _ => 0))) :: (q12, .inl (X.2.2.1 0, 48, .inl (fun _ => 0))) :: (q13, .inl (X.2.2.1 0, 48, .inl (fun _ => 0))) :: (q14, .inl (X.2.2.1 0, 6, .inl (fun _ => 0))) :: (q15, .inl (X.2.2.1 0, 6, .inl (fun _ => 0))) :: (q16, .inl (X.2.2.1 0, 6, .inl (fun _ => 0))) :: (q17, .inl (X.2.2.1 0, 6, .inl (fun _ => 0))) :: (q18, .inl (X.2.2.1 0, 6, .inl (fun _ => 0))) :: (q19, .inl (X.2.2.1 0, 6, .inl (fun _ => 0))) :: (q20, .inl (X.2.2.1 0, 3, .inl (upd (upd (upd (fun _ => 0) (0 : Int32).toNatClampNeg (1000 : Int32)) (1 : Int32).toNatClampNeg (3000 : Int32)) (2 : Int32).toNatClampNeg (9000 : Int32)))) :: (q21, .inl (X.2.2.1 0, 3, .inl (upd (upd (upd (fun _ => 0) (0 : Int32).toNatClampNeg (10 : Int32)) ((0 : Int32) + 1).toNatClampNeg (10 : Int32)) (((0 : Int32) + 1) + 1).toNatClampNeg (10 : Int32)))) :: (q22, .inl (X.2.2.1 0, 3, .inl (upd (upd (upd (fun _ => 0) (0 : Int32).toNatClampNeg (5 : Int32)) (1 : Int32).toNatClampNeg (20 : Int32)) (2 : Int32).toNatClampNeg (60 : Int32)))) :: (q23, .inl (X.2.2.1 0, 4, .inl (upd (upd (upd (upd (fun _ => 0) (0 : Int32).toNatClampNeg (-1 : Int32)) ((0 : Int32) + 1).toNatClampNeg (-1 : Int32)) (((0 : Int32) + 1) + 1).toNatClampNeg (-1 : Int32)) ((((0 : Int32) + 1) + 1) + 1).toNatClampNeg (-1 : Int32)))) :: (q24, .inl (X.2.2.1 0, 4, .inl (fun _ => 0))) :: (q25, .inl (X.2.2.1 0, 1200, .inl g)) :: (q26, .inl (X.2.2.1 0, 6, .inl (fun _ => 0))) :: (q27, .inl (X.2.2.1 0, 6, .inl (fun _ => 0))) :: (q28, .inl (X.2.2.1 1, 6, .inl (fun _ => 0))) :: (q29, .inl (X.2.2.1 1, 36, .inl (fun _ => 0))) :: (q30, .inl (X.2.2.1 1, 6, .inl (fun _ => 0))) :: []) (30, 1610) 332 [(1, .int (nI i)), (0, .ref h0)] [] := by
    intro k
    induction k with
    | zero =>
      intro i g hi hk hg
      have hiN : i = 1200 := by omega
      subst hiN
      refine w_iload_n 0 rfl hC dX10_init_332 ?_
      refine w_sipush (1200) (by decide) hC dX10_init_333 ?_
      refine w_icmp_ge 352 (by decide) hC dX10_init_336 (fun hc => ?_) (fun hc => absurd (show (1200 : Int32) ≤ nI 1200 by decide) hc)
      refine w_conv (ws' := ((h0, .inr (11, (.int 0 :: .int 0 :: .int 0 :: .int 0 :: .int 0 :: .int 0 :: .ref q1 :: .ref q2 :: .ref q3 :: .ref q4 :: .ref q5 :: .ref q6 :: .ref q7 :: .ref q8 :: .ref q9 :: .ref q10 :: .ref q11 :: .ref q12 :: .ref q13 :: .int 0 :: .ref q14 :: .ref q15 :: .ref q16 :: .ref q17 :: .ref q18 :: .ref q19 :: .ref q20 :: .ref q21 :: .ref q22 :: .ref q23 :: .ref q24 :: .ref q25 :: .ref q26 :: .ref q27 :: .ref q28 :: .ref q29 :: .ref q30 :: .int 0 :: .int 0 :: []))) :: (q1, .inl (X.2.2.1 0, 6, .inl (fun _ => 0))) :: (q2, .inl (X.2.2.1 0, 6, .inl (fun _ => 0))) :: (q3, .inl (X.2.2.1 0, 6, .inl (fun _ => 0))) :: (q4, .inl (X.2.2.1 0, 24, .inl (fun _ => 0))) :: (q5, .inl (X.2.2.1 0, 18, .inl (fun _ => 0))) :: (q6, .inl (X.2.2.1 0, 18, .inl (fun _ => 0))) :: (q7, .inl (X.2.2.1 0, 18, .inl (fun _ => 0))) :: (q8, .inl (X.2.2.1 0, 3, .inl (fun _ => 0))) :: (q9, .inl (X.2.2.1 0, 6, .inl (fun _ => 0))) :: (q10, .inl (X.2.2.1 0, 48, .inl (fun _ => 0))) :: (q11, .inl (X.2.2.1 0, 48, .inl (fun _ => 0))) :: (q12, .inl (X.2.2.1 0, 48, .inl (fun _ => 0))) :: (q13, .inl (X.2.2.1 0, 48, .inl (fun _ => 0))) :: (q14, .inl (X.2.2.1 0, 6, .inl (fun _ => 0))) :: (q15, .inl (X.2.2.1 0, 6, .inl (fun _ => 0))) :: (q16, .inl (X.2.2.1 0, 6, .inl (fun _ => 0))) :: (q17, .inl (X.2.2.1 0, 6, .inl (fun _ => 0))) :: (q18, .inl (X.2.2.1 0, 6, .inl (fun _ => 0))) :: (q19, .inl (X.2.2.1 0, 6, .inl (fun _ => 0))) :: (q20, .inl (X.2.2.1 0, 3, .inl (upd (upd (upd (fun _ => 0) (0 : Int32).toNatClampNeg (1000 : Int32)) (1 : Int32).toNatClampNeg (3000 : Int32)) (2 : Int32).toNatClampNeg (9000 : Int32)))) :: (q21, .inl (X.2.2.1 0, 3, .inl (upd (upd (upd (fun _ => 0) (0 : Int32).toNatClampNeg (10 : Int32)) ((0 : Int32) + 1).toNatClampNeg (10 : Int32)) (((0 : Int32) + 1) + 1).toNatClampNeg (10 : Int32)))) :: (q22, .inl (X.2.2.1 0, 3, .inl (upd (upd (upd (fun _ => 0) (0 : Int32).toNatClampNeg (5 : Int32)) (1 : Int32).toNatClampNeg (20 : Int32)) (2 : Int32).toNatClampNeg (60 : Int32)))) :: (q23, .inl (X.2.2.1 0, 4, .inl (upd (upd (upd (upd (fun _ => 0) (0 : Int32).toNatClampNeg (-1 : Int32)) ((0 : Int32) + 1).toNatClampNeg (-1 : Int32)) (((0 : Int32) + 1) + 1).toNatClampNeg (-1 : Int32)) ((((0 : Int32) + 1) + 1) + 1).toNatClampNeg (-1 : Int32)))) :: (q24, .inl (X.2.2.1 0, 4, .inl (fun _ => 0))) :: (q25, .inl (X.2.2.1 0, 1200, .inl (fun _ => (-1)))) :: (q26, .inl (X.2.2.1 0, 6, .inl (fun _ => 0))) :: (q27, .inl (X.2.2.1 0, 6, .inl (fun _ => 0))) :: (q28, .inl (X.2.2.1 1, 6, .inl (fun _ => 0))) :: (q29, .inl (X.2.2.1 1, 36, .inl (fun _ => 0))) :: (q30, .inl (X.2.2.1 1, 6, .inl (fun _ => 0))) :: [])) (fun H hP => va_P_rep (p := 25) (q := q25) hP rfl (fun hz => (arr_congr hg (va_P1 hz)) 0 _ rfl)) rfl ?_
      refine w_vret (kc := (30, 1610)) ?_ dX10_init_352
      exact ⟨_, _, _, _, _, _, _, _, _, _, _, _, _, _, _, _, _, _, _, _, _, _, _, _, _, _, _, _, _, _, rfl⟩
    | succ k ih =>
      intro i g hi hk hg
      refine w_iload_n 0 rfl hC dX10_init_332 ?_
      refine w_sipush (1200) (by decide) hC dX10_init_333 ?_
      rcases Nat.lt_or_ge i 1200 with hlt | hge
      · refine w_icmp_ge 352 (by decide) hC dX10_init_336 (fun hc => absurd hc (show ¬ (nI 1200) ≤ nI i from nI_ge hlt (by decide))) (fun hc => ?_)
        refine w_aload_n 1 rfl hC dX10_init_339 ?_
        refine w_getf (q0 := 0) (k := 31) hC rfl rfl in_11 (by decide) w_221 rfl dX10_init_340 ?_
        refine w_iload_n 0 rfl hC dX10_init_343 ?_
        refine w_iconst (-1) (by decide) hC dX10_init_344 ?_
        refine w_iast (q0 := 25) hC rfl ⟨nI_pos (by omega), by rw [nI_clamp (by omega)]; exact hlt⟩ dX10_init_345 ?_
        refine w_iinc (1) [(1, .int _), (0, .ref _)] 0 rfl (by decide) rfl (by decide) hC dX10_init_346 ?_
        refine w_goto 332 (by decide) hC dX10_init_349 ?_
        rw [nI_1 i]
        refine ih (i + 1) (upd g (nI i).toNatClampNeg (-1)) (by omega) (by omega) (fun j hj => ?_)
        rw [nI_clamp (by omega)]
        unfold upd
        by_cases hji : j = i
        · rw [if_pos hji]
        · rw [if_neg hji]; exact hg j (by omega)
      · have hiN : i = 1200 := by omega
        subst hiN
        refine w_icmp_ge 352 (by decide) hC dX10_init_336 (fun hc => ?_) (fun hc => absurd (show (1200 : Int32) ≤ nI 1200 by decide) hc)
        refine w_conv (ws' := ((h0, .inr (11, (.int 0 :: .int 0 :: .int 0 :: .int 0 :: .int 0 :: .int 0 :: .ref q1 :: .ref q2 :: .ref q3 :: .ref q4 :: .ref q5 :: .ref q6 :: .ref q7 :: .ref q8 :: .ref q9 :: .ref q10 :: .ref q11 :: .ref q12 :: .ref q13 :: .int 0 :: .ref q14 :: .ref q15 :: .ref q16 :: .ref q17 :: .ref q18 :: .ref q19 :: .ref q20 :: .ref q21 :: .ref q22 :: .ref q23 :: .ref q24 :: .ref q25 :: .ref q26 :: .ref q27 :: .ref q28 :: .ref q29 :: .ref q30 :: .int 0 :: .int 0 :: []))) :: (q1, .inl (X.2.2.1 0, 6, .inl (fun _ => 0))) :: (q2, .inl (X.2.2.1 0, 6, .inl (fun _ => 0))) :: (q3, .inl (X.2.2.1 0, 6, .inl (fun _ => 0))) :: (q4, .inl (X.2.2.1 0, 24, .inl (fun _ => 0))) :: (q5, .inl (X.2.2.1 0, 18, .inl (fun _ => 0))) :: (q6, .inl (X.2.2.1 0, 18, .inl (fun _ => 0))) :: (q7, .inl (X.2.2.1 0, 18, .inl (fun _ => 0))) :: (q8, .inl (X.2.2.1 0, 3, .inl (fun _ => 0))) :: (q9, .inl (X.2.2.1 0, 6, .inl (fun _ => 0))) :: (q10, .inl (X.2.2.1 0, 48, .inl (fun _ => 0))) :: (q11, .inl (X.2.2.1 0, 48, .inl (fun _ => 0))) :: (q12, .inl (X.2.2.1 0, 48, .inl (fun _ => 0))) :: (q13, .inl (X.2.2.1 0, 48, .inl (fun _ => 0))) :: (q14, .inl (X.2.2.1 0, 6, .inl (fun _ => 0))) :: (q15, .inl (X.2.2.1 0, 6, .inl (fun _ => 0))) :: (q16, .inl (X.2.2.1 0, 6, .inl (fun _ => 0))) :: (q17, .inl (X.2.2.1 0, 6, .inl (fun _ => 0))) :: (q18, .inl (X.2.2.1 0, 6, .inl (fun _ => 0))) :: (q19, .inl (X.2.2.1 0, 6, .inl (fun _ => 0))) :: (q20, .inl (X.2.2.1 0, 3, .inl (upd (upd (upd (fun _ => 0) (0 : Int32).toNatClampNeg (1000 : Int32)) (1 : Int32).toNatClampNeg (3000 : Int32)) (2 : Int32).toNatClampNeg (9000 : Int32)))) :: (q21, .inl (X.2.2.1 0, 3, .inl (upd (upd (upd (fun _ => 0) (0 : Int32).toNatClampNeg (10 : Int32)) ((0 : Int32) + 1).toNatClampNeg (10 : Int32)) (((0 : Int32) + 1) + 1).toNatClampNeg (10 : Int32)))) :: (q22, .inl (X.2.2.1 0, 3, .inl (upd (upd (upd (fun _ => 0) (0 : Int32).toNatClampNeg (5 : Int32)) (1 : Int32).toNatClampNeg (20 : Int32)) (2 : Int32).toNatClampNeg (60 : Int32)))) :: (q23, .inl (X.2.2.1 0, 4, .inl (upd (upd (upd (upd (fun _ => 0) (0 : Int32).toNatClampNeg (-1 : Int32)) ((0 : Int32) + 1).toNatClampNeg (-1 : Int32)) (((0 : Int32) + 1) + 1).toNatClampNeg (-1 : Int32)) ((((0 : Int32) + 1) + 1) + 1).toNatClampNeg (-1 : Int32)))) :: (q24, .inl (X.2.2.1 0, 4, .inl (fun _ => 0))) :: (q25, .inl (X.2.2.1 0, 1200, .inl (fun _ => (-1)))) :: (q26, .inl (X.2.2.1 0, 6, .inl (fun _ => 0))) :: (q27, .inl (X.2.2.1 0, 6, .inl (fun _ => 0))) :: (q28, .inl (X.2.2.1 1, 6, .inl (fun _ => 0))) :: (q29, .inl (X.2.2.1 1, 36, .inl (fun _ => 0))) :: (q30, .inl (X.2.2.1 1, 6, .inl (fun _ => 0))) :: [])) (fun H hP => va_P_rep (p := 25) (q := q25) hP rfl (fun hz => (arr_congr hg (va_P1 hz)) 0 _ rfl)) rfl ?_
        refine w_vret (kc := (30, 1610)) ?_ dX10_init_352
        exact ⟨_, _, _, _, _, _, _, _, _, _, _, _, _, _, _, _, _, _, _, _, _, _, _, _, _, _, _, _, _, _, rfl⟩
  exact key 1200 0 (fun _ => 0) (by omega) (by omega) (fun j hj => absurd hj (Nat.not_lt_zero j))
