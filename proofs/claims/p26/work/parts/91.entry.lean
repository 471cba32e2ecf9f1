/-! the law's entry: what holds there, and its first lines -/
theorem w_astore {X : Xt} {C0 : C0t} {R : Room} {Q : State → MethodId → Array Value → List Frame → State → Prop} {A : Nat → Prop} {cc : ByteArray} {own : String} {nL : Nat} {ws : va_W} {cs : Nat × Nat} {pc : Nat} {lv : List (Nat × Value)} {st : List Value} {j : Nat} {x : Nat} (lv' : List (Nat × Value)) (hl' : (j, Value.ref x) :: lv.filter (fun q => !(q.1 == j) && !(q.1 + 1 == j && q.2.category == 2)) = lv') (hn : j < nL) (hC : Ctx X A cc own nL C0) (hd : decode cc pc = .ok (.astore j, 2)) (k : Bw X C0 R Q A nL ws cs (pc + 2) lv' st) : Bw X C0 R Q A nL ws cs pc lv (.ref x :: st) := by
  intro p e s m args below meth c B H locs ls hP hD hS hl
  obtain ⟨b1, b2, b3, b4, b5, b6, b7, b8, b9⟩ := hC _ _ _ _ _ _ _ _ B
  exact lv_astore b1 b2 hd hl hn hl' (fun ls' hl2 => k p e s m args below meth c B H locs ls' hP hD hS hl2)
theorem en_arr {s : State} {args : Array Value} {ty : FieldType} (hp : ty = .int ∨ ty = .boolean ∨ ty = .long) (h : (Cond.arrayClass ty).before args s = true) : ∃ cA : ClassId, ArrOfT s cA ty ∧ va_RA s cA ty := by
  obtain ⟨c, k, comp, h1, h2, h3⟩ := Cond.arrayClass_spec h
  refine ⟨c, fun n z => ⟨fun k h => (by cases h), k, h2, comp, h3⟩, ?_⟩
  rcases hp with rfl | rfl | rfl
  · exact h1
  · exact h1
  · exact h1
theorem en_arrO {s : State} {args : Array Value} {C : String} (h : (Cond.arrayOver (.object C)).before args s = true) : ∃ cA : ClassId, ArrOfT s cA (.object C) ∧ va_RA s cA (.object C) := by
  obtain ⟨comp, c, k, h1, h2, h3, h4, h5⟩ := Cond.arrayOver_spec h
  exact ⟨c, fun n z => ⟨fun k h => (by cases h), k, h3, comp, h4⟩, k, comp, h3, h4, h1, h5⟩
theorem en_str {s : State} {args : Array Value} {own tx : String} {k : Nat} (h : (Cond.stringRef own k tx).before args s = true) : ∃ sa : Nat, vk_R own k tx sa s := by
  have hcur : ∃ cur, s.vm.findClass own = some cur := by
    cases hc : s.vm.findClass own with
    | none => simp [Cond.before, Cond.holds, Cond.value, hc] at h
    | some cur => exact ⟨cur, rfl⟩
  obtain ⟨cur, hcur⟩ := hcur
  obtain ⟨k', cf, i, a, -, -, -, -, -, hev⟩ := Cond.stringRef_spec hcur h
  exact ⟨a, vk_R.of h hev⟩
theorem en_strs : ∀ q ∈ strs, Cond.stringRef q.1 q.2.1 q.2.2 ∈ tables_1 := by decide +kernel
theorem en_aos : ∀ C ∈ aos, Cond.arrayOver (.object C) ∈ tables_1 := by decide +kernel
theorem en_i9 : Cond.instantiable RX9 10 ∈ G_ := g_mem (by decide +kernel) (by decide +kernel)
theorem en_c9 : Cond.classLink RL 23 RX9 ∈ G_ := g_mem (by decide +kernel) (by decide +kernel)
theorem en_l9 : Cond.methodLink RL 83 yX9_init ∈ G_ := g_mem (by decide +kernel) (by decide +kernel)
theorem en_m9 : Cond.instanceMethod yX9_init ∈ G_ := g_mem (by decide +kernel) (by decide +kernel)
theorem en_k9 : Cond.code yX9_init cX9_init 2 none ∈ G_ := g_mem (by decide +kernel) (by decide +kernel)
theorem en_cls {s : State} {args : Array Value} (hts : ∀ w ∈ G_, w.before args s = true) : ∃ D : va_G, ∀ (c : Nat) (q : vw_C), vwCl[c]? = some q → u_Kn s q.1 q.2.1 q.2.2 (D.1 c) (D.2 c) := by
  have h : ∀ c : Nat, ∃ d : ClassId × (Nat → Nat), ∀ q : vw_C, vwCl[c]? = some q → u_Kn s q.1 q.2.1 q.2.2 d.1 d.2 := by
    intro c
    have key : ∀ {C : String} {T : u_T} {N : Nat}, (∀ w ∈ u_ws C T N, w ∈ G_) → Cond.instantiable C N ∈ G_ → ∃ d : ClassId × (Nat → Nat), ∀ q : vw_C, some (C, T, N) = some q → u_Kn s q.1 q.2.1 q.2.2 d.1 d.2 := fun h1 h2 => by
      obtain ⟨cC, iS, hk⟩ := u_known hts h1 (hts _ h2)
      exact ⟨(cC, iS), fun q e => by cases e; exact hk⟩
    match c with
    | 0 => exact key in_0 w_427
    | 1 => exact key in_1 w_489
    | 2 => exact key in_2 w_416
    | 3 => exact key in_3 w_495
    | 4 => exact key in_4 w_452
    | 5 => exact key in_5 w_457
    | 6 => exact key in_6 w_421
    | 7 => exact key in_7 w_461
    | 8 => exact key in_8 w_447
    | 9 => exact key in_9 w_480
    | 10 => exact key in_10 en_i9
    | c + 11 => exact ⟨(0, fun _ => 0), fun q e => by simp at e⟩
  exact ⟨(fun c => (Classical.choose (h c)).1, fun c => (Classical.choose (h c)).2), fun c q hq => Classical.choose_spec (h c) q hq⟩
theorem en_tys {s : State} {args : Array Value} (hts : ∀ w ∈ lw_tbl, w.before args s = true) (hG : ∀ w ∈ G_, w.before args s = true) : ∃ ay : Nat → ClassId, ∀ (l : Launch) (D : va_G) (z em : Nat) (k : Nat) (q : ClassId × FieldType), (tysX (l, D, ay, z, em))[k]? = some q → ArrOfT s q.1 q.2 ∧ va_RA s q.1 q.2 := by
  have ha : ∀ C ∈ aos, (Cond.arrayOver (.object C)).before args s = true := fun C hC => hts _ (List.mem_append_right _ (en_aos C hC))
  obtain ⟨c0, h0⟩ := en_arr (ty := .int) (by decide) (hG _ w_410)
  obtain ⟨c2, h2⟩ := en_arrO (ha "Stablingroad$Exam" (by decide))
  obtain ⟨c3, h3⟩ := en_arrO (ha "Stablingroad$Permit" (by decide))
  obtain ⟨c4, h4⟩ := en_arrO (ha "Stablingroad$Row" (by decide))
  obtain ⟨c5, h5⟩ := en_arrO (ha "java/lang/Object" (by decide))
  refine ⟨fun k => match k with
    | 2 => c2
    | 3 => c3
    | 4 => c4
    | 5 => c5
    | _ => c0, fun l D z em k q hq => ?_⟩
  match k, hq with
  | 0, hq => cases hq; exact h0
  | 1, hq => cases hq; exact h0
  | 2, hq => cases hq; exact h2
  | 3, hq => cases hq; exact h3
  | 4, hq => cases hq; exact h4
  | 5, hq => cases hq; exact h5
  | 6, hq => cases hq; exact h0
  | k + 7, hq => simp [tysX] at hq
theorem en_empty {s : State} {args : Array Value} {A : Nat → Prop} (hts : ∀ w ∈ lw_tbl, w.before args s = true) (hn : (Jvm.Cond.and given_1 narrow_1).before args s = true) (hA : ∀ a : Nat, a < s.heap.size → ¬ A a) : ∃ em : Nat, va_Z "java/util/ArrayList" "DEFAULTCAPACITY_EMPTY_ELEMENTDATA" "[Ljava/lang/Object;" (.ref em) A s s.heap ∧ va_T (.object "java/lang/Object") em 0 (fun _ => .null) A s s.heap := by
  have hs := flat_of_before _ hn
  obtain ⟨t, ht, hT⟩ := va_Tof (s := s) (args := args) (tm := .static "java/util/ArrayList" "DEFAULTCAPACITY_EMPTY_ELEMENTDATA" "[Ljava/lang/Object;") (ty := .object "java/lang/Object") (N := 0) (f := fun _ => .null) (A := A) (by decide) (hs _ (by decide +kernel)) (va_eqt (z := 0) (hs _ (by decide +kernel))) (fun j hj => absurd hj (Nat.not_lt_zero j)) hA
  exact ⟨t, va_Zref (hts (.laysStatic "java/util/ArrayList" "DEFAULTCAPACITY_EMPTY_ELEMENTDATA" "[Ljava/lang/Object;") (by decide +kernel)) (hts (.initialized "java/util/ArrayList") (by decide +kernel)) ht hA, hT⟩
theorem en_q1 {s : State} {args : Array Value} {A : Nat → Prop} (hts : ∀ w ∈ lw_tbl, w.before args s = true) (hn : (Jvm.Cond.and given_1 narrow_1).before args s = true) (hA : ∀ a : Nat, a < s.heap.size → ¬ A a) : vx_Zq "java/lang/Throwable" "UNASSIGNED_STACK" "[Ljava/lang/StackTraceElement;" A s s.heap :=
  vx_Zqof (hts (.laysStatic "java/lang/Throwable" "UNASSIGNED_STACK" "[Ljava/lang/StackTraceElement;") (by decide +kernel)) (hts (.initialized "java/lang/Throwable") (by decide +kernel)) (flat_of_before _ hn _ (by decide +kernel)) hA
theorem en_q2 {s : State} {args : Array Value} {A : Nat → Prop} (hts : ∀ w ∈ lw_tbl, w.before args s = true) (hn : (Jvm.Cond.and given_1 narrow_1).before args s = true) (hA : ∀ a : Nat, a < s.heap.size → ¬ A a) : vx_Zq "java/lang/Throwable" "SUPPRESSED_SENTINEL" "Ljava/util/List;" A s s.heap :=
  vx_Zqof (hts (.laysStatic "java/lang/Throwable" "SUPPRESSED_SENTINEL" "Ljava/util/List;") (by decide +kernel)) (hts (.initialized "java/lang/Throwable") (by decide +kernel)) (flat_of_before _ hn _ (by decide +kernel)) hA
theorem en_nc {s : State} {args : Array Value} (hn : (Jvm.Cond.and given_1 narrow_1).before args s = true) : NcS s := by
  have hs := flat_of_before _ hn
  intro q hq
  simp only [nc3, List.mem_cons, List.not_mem_nil, or_false] at hq
  subst hq
  exact va_Nc.of (hs _ (by decide +kernel))
theorem en_st {l : Launch} (h : l.flags = flags0) : l.stackTraces = false := by
  unfold Launch.stackTraces
  rw [h]
  decide +kernel
/-- at the law's entry the machine is as the walks want it -/
theorem en_LC {p : Program} {s : State} {m : MethodId} {meth : Method} {c : Code} (l : Launch) (hflags : l.flags = flags0) {b L : Nat} {xs : Nat → Int32} (C0 : lw_At p s m meth c b L xs) : ∃ X : Xt, X.1 = l ∧ LC X b L xs p s m meth c := by
  obtain ⟨hx, hb, hr, hml, hown, hts, hX, hbl, hlocks, hgv⟩ := C0
  have hG : ∀ w ∈ G_, w.before #[Value.ref b] s = true := fun w hw => hts w (List.mem_filter.mp hw).1
  have hA : ∀ a : Nat, a < s.heap.size → ¬ (fun q : Nat => s.heap.size ≤ q) a := fun a h z => absurd h (Nat.not_lt.mpr z)
  obtain ⟨D, hD⟩ := en_cls hG
  obtain ⟨ay, hay⟩ := en_tys hts hG
  obtain ⟨em, hZ, hT⟩ := en_empty hts hgv hA
  refine ⟨(l, D, ay, s.heap.size, em), rfl, hx, hb, hml, hown, hG, hr, hlocks, trivial, ⟨hD, hay l D _ em⟩, ⟨en_q1 hts hgv hA, en_q2 hts hgv hA, hZ, hT, fun q hq => en_str (hts _ (List.mem_append_right _ (en_strs q hq))), fun w hw => va_Nw.of (nwk_on (List.mem_filter.mp hw).2) (hts w (List.mem_append_right _ (List.mem_filter.mp hw).1)), fun C hC => va_AO.of (hts _ (List.mem_append_right _ (en_aos C hC)))⟩, en_st hflags, en_nc hgv, hX, hbl, rfl⟩
/-- what the law's first lines stand in -/
def en_C0 (X : Xt) (b L : Nat) (xs : Nat → Int32) : C0t := fun p _ s m args _ meth c => args = #[Value.ref b] ∧ LC X b L xs p s m meth c
def en_Q (b : Nat) : State → MethodId → Array Value → List Frame → State → Prop := fun s _ _ below => lw_Z below #[Value.ref b] s
theorem en_ctx {X : Xt} {b L : Nat} {xs : Nat → Int32} : Ctx X (Az X) cL_law RL 25 (en_C0 X b L xs) := by
  intro p e s m args below meth c B
  obtain ⟨rfl, b1, b2, b3, b4, b5, b6, b7, b8, b9, b10, b11, b12, b13, b14, b15⟩ := B
  exact ⟨b1, b2, b3, b4, b5, b9, b10, fun q hq => by show X.2.2.2.1 ≤ q; rw [b15]; exact hq, fun q hq => hq⟩
theorem en_walk {X : Xt} {b L : Nat} {xs : Nat → Int32} (hst : X.1.stackTraces = false) (h : ∀ ad, Lw X b L xs (36, 2002) ad W0 47 [(0, .ref b), (1, .ref (ad 0 0)), (2, .ref (ad 71 0)), (3, .ref (ad 72 0)), (4, .ref (ad 73 0)), (5, .ref (ad 74 0)), (6, .ref (ad 75 0)), (7, .ref (ad 76 0)), (8, .ref (ad 77 0))] []) : Bw X (en_C0 X b L xs) room_1 (en_Q b) (Az X) 25 [] (0, 0) 0 [(0, .ref b)] [] := by
  have hC := en_ctx (X := X) (b := b) (L := L) (xs := xs)
  refine w_new (ci := 10) (fs := [.null, .null, .null, .null, .null, .null, .int 0, .int 0, .int 0, .int 0]) hC tyX9 tyX9_ok rfl in_10 en_c9 en_i9 w_203 (by decide) (Nat.le_of_ble_eq_true rfl) (Nat.le_of_ble_eq_true rfl) dL_law_0 (fun x0 => ?_)
  refine w_dup rfl hC dL_law_3 ?_
  refine w_callI (wr := []) (n := 0) (As := []) hC [0] [] rfl rfl (by decide) (by decide) (by decide) (ci_X9_init X hst _) ⟨by decide, by decide, by decide +kernel⟩ rfl en_l9 en_m9 w_203 en_k9 rfl rfl (Nat.le_of_ble_eq_true rfl) ⟨by decide, by decide⟩ ⟨Nat.le_of_ble_eq_true rfl, Nat.le_of_ble_eq_true rfl⟩ dL_law_4 (fun w9 h9 => ?_)
  obtain ⟨a1, a3, a5, a6, a7, a8, a9, a10, a11, a12, a13, a14, a15, a17, a18, a19, a20, a21, a22, a23, a25, a26, a28, a29, a31, a32, a34, a35, rfl⟩ := h9
  refine w_astore_n [(1, .ref x0), (0, .ref b)] rfl (by decide) hC dL_law_7 ?_
  refine w_bipush 64 (by decide) hC dL_law_8 ?_
  refine w_newa (atype := .int) (a0 := (64, .inl (fun _ => 0))) 0 hC rfl (by decide) rfl w_410 (fun _ => rfl) (by decide) (by decide) (by decide) (Nat.le_of_ble_eq_true rfl) (Nat.le_of_ble_eq_true rfl) dL_law_10 (fun z71 => ?_)
  refine w_astore_n [(2, .ref z71), (1, .ref x0), (0, .ref b)] rfl (by decide) hC dL_law_12 ?_
  refine w_bipush 64 (by decide) hC dL_law_13 ?_
  refine w_newa (atype := .int) (a0 := (64, .inl (fun _ => 0))) 0 hC rfl (by decide) rfl w_410 (fun _ => rfl) (by decide) (by decide) (by decide) (Nat.le_of_ble_eq_true rfl) (Nat.le_of_ble_eq_true rfl) dL_law_15 (fun z72 => ?_)
  refine w_astore_n [(3, .ref z72), (2, .ref z71), (1, .ref x0), (0, .ref b)] rfl (by decide) hC dL_law_17 ?_
  refine w_bipush 64 (by decide) hC dL_law_18 ?_
  refine w_newa (atype := .int) (a0 := (64, .inl (fun _ => 0))) 0 hC rfl (by decide) rfl w_410 (fun _ => rfl) (by decide) (by decide) (by decide) (Nat.le_of_ble_eq_true rfl) (Nat.le_of_ble_eq_true rfl) dL_law_20 (fun z73 => ?_)
  refine w_astore [(4, .ref z73), (3, .ref z72), (2, .ref z71), (1, .ref x0), (0, .ref b)] rfl (by decide) hC dL_law_22 ?_
  refine w_bipush 16 (by decide) hC dL_law_24 ?_
  refine w_newa (atype := .int) (a0 := (16, .inl (fun _ => 0))) 0 hC rfl (by decide) rfl w_410 (fun _ => rfl) (by decide) (by decide) (by decide) (Nat.le_of_ble_eq_true rfl) (Nat.le_of_ble_eq_true rfl) dL_law_26 (fun z74 => ?_)
  refine w_astore [(5, .ref z74), (4, .ref z73), (3, .ref z72), (2, .ref z71), (1, .ref x0), (0, .ref b)] rfl (by decide) hC dL_law_28 ?_
  refine w_bipush 18 (by decide) hC dL_law_30 ?_
  refine w_newa (atype := .int) (a0 := (18, .inl (fun _ => 0))) 0 hC rfl (by decide) rfl w_410 (fun _ => rfl) (by decide) (by decide) (by decide) (Nat.le_of_ble_eq_true rfl) (Nat.le_of_ble_eq_true rfl) dL_law_32 (fun z75 => ?_)
  refine w_astore [(6, .ref z75), (5, .ref z74), (4, .ref z73), (3, .ref z72), (2, .ref z71), (1, .ref x0), (0, .ref b)] rfl (by decide) hC dL_law_34 ?_
  refine w_bipush 17 (by decide) hC dL_law_36 ?_
  refine w_newa (atype := .int) (a0 := (17, .inl (fun _ => 0))) 0 hC rfl (by decide) rfl w_410 (fun _ => rfl) (by decide) (by decide) (by decide) (Nat.le_of_ble_eq_true rfl) (Nat.le_of_ble_eq_true rfl) dL_law_38 (fun z76 => ?_)
  refine w_astore [(7, .ref z76), (6, .ref z75), (5, .ref z74), (4, .ref z73), (3, .ref z72), (2, .ref z71), (1, .ref x0), (0, .ref b)] rfl (by decide) hC dL_law_40 ?_
  refine w_iconst 3 (by decide) hC dL_law_42 ?_
  refine w_newa (atype := .int) (a0 := (3, .inl (fun _ => 0))) 0 hC rfl (by decide) rfl w_410 (fun _ => rfl) (by decide) (by decide) (by decide) (Nat.le_of_ble_eq_true rfl) (Nat.le_of_ble_eq_true rfl) dL_law_43 (fun z77 => ?_)
  refine w_astore [(8, .ref z77), (7, .ref z76), (6, .ref z75), (5, .ref z74), (4, .ref z73), (3, .ref z72), (2, .ref z71), (1, .ref x0), (0, .ref b)] rfl (by decide) hC dL_law_45 ?_
  refine w_sub [8, 7, 6, 5, 4, 3, 2, 1, 0] rfl ?_
  intro p e s m args below meth c B H locs ls hP hD hS hl
  obtain ⟨rfl, B⟩ := B
  exact h (adS x0 a1 a3 a5 a6 a7 a8 a9 a10 a11 a12 a13 a14 a15 a17 a18 a19 a20 a21 a22 a23 a25 a26 a28 a29 a31 a32 a34 a35 z71 z72 z73 z74 z75 z76 z77) p e s m below meth c B H locs ls (HW.start hP hD) hS hl
