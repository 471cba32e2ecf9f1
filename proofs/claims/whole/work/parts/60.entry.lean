/-! the law's entry: what holds there, and the first lines up to the loop -/
theorem en_arr {s : State} {args : Array Value} {ty : FieldType} (hp : ty = .int ∨ ty = .boolean ∨ ty = .long) (h : (Cond.arrayClass ty).before args s = true) : ∃ cA : ClassId, ArrOfT s cA ty ∧ va_RA s cA ty := by
  obtain ⟨c, k, comp, h1, h2, h3⟩ := Cond.arrayClass_spec h
  refine ⟨c, fun n z => ⟨fun k h => (by cases h), k, h2, comp, h3⟩, ?_⟩
  rcases hp with rfl | rfl | rfl
  · exact h1
  · exact h1
  · exact h1
theorem en_arrO {s : State} {args : Array Value} {C : String} (h : (Cond.arrayOver (.object C)).before args s = true) : ∃ cA : ClassId, ArrOfT s cA (.object C) ∧ va_RA s cA (.object C) := by
  obtain ⟨comp, c, k, h1, h2, h3, h4, h5⟩ := Cond.arrayOver_spec h
  exact ⟨c, fun n z => ⟨fun k h => (by cases h), k, h3, comp, h4⟩, k, comp, h3, h4, h1, h5⟩
theorem en_str {s : State} {args : Array Value} {own tx : String} {k : Nat} (h : (Cond.stringRef own k tx).before args s = true) : ∃ sa : Nat, vk_R own k tx sa s := by
  have hcur : ∃ cur, s.vm.findClass own = some cur := by
    cases hc : s.vm.findClass own with
    | none => simp [Cond.before, Cond.holds, Cond.value, hc] at h
    | some cur => exact ⟨cur, rfl⟩
  obtain ⟨cur, hcur⟩ := hcur
  obtain ⟨k', cf, i, a, -, -, -, -, -, hev⟩ := Cond.stringRef_spec hcur h
  exact ⟨a, vk_R.of h hev⟩
theorem en_strs : ∀ q ∈ strs, Cond.stringRef q.1 q.2.1 q.2.2 ∈ tables_1 := by decide +kernel
theorem en_aos : ∀ C ∈ aos, Cond.arrayOver (.object C) ∈ tables_1 := by decide +kernel
theorem en_long : Cond.arrayClass .long ∈ G_ := g_mem (by decide +kernel) (by decide +kernel)
theorem en_i9 : Cond.instantiable RX9 10 ∈ G_ := g_mem (by decide +kernel) (by decide +kernel)
theorem en_i10 : Cond.instantiable RX10 39 ∈ G_ := g_mem (by decide +kernel) (by decide +kernel)
theorem en_c9 : Cond.classLink RL 8 RX9 ∈ G_ := g_mem (by decide +kernel) (by decide +kernel)
theorem en_c10 : Cond.classLink RL 83 RX10 ∈ G_ := g_mem (by decide +kernel) (by decide +kernel)
theorem en_n9 : Cond.initialized RX9 ∈ G_ := g_mem (by decide +kernel) (by decide +kernel)
theorem en_n10 : Cond.initialized RX10 ∈ G_ := g_mem (by decide +kernel) (by decide +kernel)
theorem en_l9 : Cond.methodLink RL 82 yX9_init ∈ G_ := g_mem (by decide +kernel) (by decide +kernel)
theorem en_l10 : Cond.methodLink RL 85 yX10_init ∈ G_ := g_mem (by decide +kernel) (by decide +kernel)
theorem en_m9 : Cond.instanceMethod yX9_init ∈ G_ := g_mem (by decide +kernel) (by decide +kernel)
theorem en_m10 : Cond.instanceMethod yX10_init ∈ G_ := g_mem (by decide +kernel) (by decide +kernel)
theorem en_k9 : Cond.code yX9_init cX9_init 2 none ∈ G_ := g_mem (by decide +kernel) (by decide +kernel)
theorem en_k10 : Cond.code yX10_init cX10_init 2 none ∈ G_ := g_mem (by decide +kernel) (by decide +kernel)
theorem en_i6 : Cond.instantiable RX6 2 ∈ G_ := w_583
theorem en_cls {s : State} {args : Array Value} (hts : ∀ w ∈ G_, w.before args s = true) : ∃ D : va_G, ∀ (c : Nat) (q : vw_C), vwCl[c]? = some q → u_Kn s q.1 q.2.1 q.2.2 (D.1 c) (D.2 c) := by
  have h : ∀ c : Nat, ∃ d : ClassId × (Nat → Nat), ∀ q : vw_C, vwCl[c]? = some q → u_Kn s q.1 q.2.1 q.2.2 d.1 d.2 := by
    intro c
    have key : ∀ {C : String} {T : u_T} {N : Nat}, (∀ w ∈ u_ws C T N, w ∈ G_) → Cond.instantiable C N ∈ G_ → ∃ d : ClassId × (Nat → Nat), ∀ q : vw_C, some (C, T, N) = some q → u_Kn s q.1 q.2.1 q.2.2 d.1 d.2 := fun h1 h2 => by
      obtain ⟨cC, iS, hk⟩ := u_known hts h1 (hts _ h2)
      exact ⟨(cC, iS), fun q e => by cases e; exact hk⟩
    match c with
    | 0 => exact key in_0 w_549
    | 1 => exact key in_1 w_613
    | 2 => exact key in_2 w_538
    | 3 => exact key in_3 w_619
    | 4 => exact key in_4 w_574
    | 5 => exact key in_5 w_579
    | 6 => exact key in_6 w_543
    | 7 => exact key in_7 w_583
    | 8 => exact key in_8 w_569
    | 9 => exact key in_9 w_604
    | 10 => exact key in_10 en_i9
    | 11 => exact key in_11 en_i10
    | c + 12 => exact ⟨(0, fun _ => 0), fun q e => by simp at e⟩
  exact ⟨(fun c => (Classical.choose (h c)).1, fun c => (Classical.choose (h c)).2), fun c q hq => Classical.choose_spec (h c) q hq⟩
theorem en_tys {s : State} {args : Array Value} (hts : ∀ w ∈ lw_tbl, w.before args s = true) (hG : ∀ w ∈ G_, w.before args s = true) : ∃ ay : Nat → ClassId, ∀ (l : Launch) (D : va_G) (z em : Nat) (k : Nat) (q : ClassId × FieldType), (tysX (l, D, ay, z, em))[k]? = some q → ArrOfT s q.1 q.2 ∧ va_RA s q.1 q.2 := by
  have ha : ∀ C ∈ aos, (Cond.arrayOver (.object C)).before args s = true := fun C hC => hts _ (List.mem_append_right _ (en_aos C hC))
  obtain ⟨c0, h0⟩ := en_arr (ty := .int) (by decide) (hG _ w_532)
  obtain ⟨c1, h1⟩ := en_arr (ty := .boolean) (by decide) (hG _ w_588)
  obtain ⟨c2, h2⟩ := en_arrO (ha "Stablingroad$Exam" (by decide))
  obtain ⟨c3, h3⟩ := en_arrO (ha "Stablingroad$Permit" (by decide))
  obtain ⟨c4, h4⟩ := en_arrO (ha "Stablingroad$Row" (by decide))
  obtain ⟨c5, h5⟩ := en_arrO (ha "java/lang/Object" (by decide))
  obtain ⟨c6, h6⟩ := en_arr (ty := .long) (by decide) (hG _ en_long)
  refine ⟨fun k => match k with
    | 0 => c0
    | 1 => c1
    | 2 => c2
    | 3 => c3
    | 4 => c4
    | 5 => c5
    | _ => c6, fun l D z em k q hq => ?_⟩
  match k, hq with
  | 0, hq => cases hq; exact h0
  | 1, hq => cases hq; exact h1
  | 2, hq => cases hq; exact h2
  | 3, hq => cases hq; exact h3
  | 4, hq => cases hq; exact h4
  | 5, hq => cases hq; exact h5
  | 6, hq => cases hq; exact h6
  | k + 7, hq => simp [tysX] at hq
theorem en_empty {s : State} {args : Array Value} {A : Nat → Prop} (hts : ∀ w ∈ lw_tbl, w.before args s = true) (hn : (Jvm.Cond.and given_1 narrow_1).before args s = true) (hA : ∀ a : Nat, a < s.heap.size → ¬ A a) : ∃ em : Nat, va_Z "java/util/ArrayList" "DEFAULTCAPACITY_EMPTY_ELEMENTDATA" "[Ljava/lang/Object;" (.ref em) A s s.heap ∧ va_T (.object "java/lang/Object") em 0 (fun _ => .null) A s s.heap := by
  have hs := flat_of_before _ hn
  obtain ⟨t, ht, hT⟩ := va_Tof (s := s) (args := args) (tm := .static "java/util/ArrayList" "DEFAULTCAPACITY_EMPTY_ELEMENTDATA" "[Ljava/lang/Object;") (ty := .object "java/lang/Object") (N := 0) (f := fun _ => .null) (A := A) (by decide) (hs _ (by decide +kernel)) (va_eqt (z := 0) (hs _ (by decide +kernel))) (fun j hj => absurd hj (Nat.not_lt_zero j)) hA
  exact ⟨t, va_Zref (hts (.laysStatic "java/util/ArrayList" "DEFAULTCAPACITY_EMPTY_ELEMENTDATA" "[Ljava/lang/Object;") (by decide +kernel)) (hts (.initialized "java/util/ArrayList") (by decide +kernel)) ht hA, hT⟩
theorem en_q1 {s : State} {args : Array Value} {A : Nat → Prop} (hts : ∀ w ∈ lw_tbl, w.before args s = true) (hn : (Jvm.Cond.and given_1 narrow_1).before args s = true) (hA : ∀ a : Nat, a < s.heap.size → ¬ A a) : vx_Zq "java/lang/Throwable" "UNASSIGNED_STACK" "[Ljava/lang/StackTraceElement;" A s s.heap :=
  vx_Zqof (hts (.laysStatic "java/lang/Throwable" "UNASSIGNED_STACK" "[Ljava/lang/StackTraceElement;") (by decide +kernel)) (hts (.initialized "java/lang/Throwable") (by decide +kernel)) (flat_of_before _ hn _ (by decide +kernel)) hA
theorem en_q2 {s : State} {args : Array Value} {A : Nat → Prop} (hts : ∀ w ∈ lw_tbl, w.before args s = true) (hn : (Jvm.Cond.and given_1 narrow_1).before args s = true) (hA : ∀ a : Nat, a < s.heap.size → ¬ A a) : vx_Zq "java/lang/Throwable" "SUPPRESSED_SENTINEL" "Ljava/util/List;" A s s.heap :=
  vx_Zqof (hts (.laysStatic "java/lang/Throwable" "SUPPRESSED_SENTINEL" "Ljava/util/List;") (by decide +kernel)) (hts (.initialized "java/lang/Throwable") (by decide +kernel)) (flat_of_before _ hn _ (by decide +kernel)) hA
theorem en_nc {s : State} {args : Array Value} (hn : (Jvm.Cond.and given_1 narrow_1).before args s = true) : NcS s := by
  have hs := flat_of_before _ hn
  intro q hq
  simp only [nc3, List.mem_cons, List.not_mem_nil, or_false] at hq
  rcases hq with rfl | rfl | rfl
  · exact va_Nc.of (hs _ (by decide +kernel))
  · exact va_Nc.of (hs _ (by decide +kernel))
  · exact va_Nc.of (hs _ (by decide +kernel))
theorem en_st {l : Launch} (h : l.flags = flags0) : l.stackTraces = false := by
  unfold Launch.stackTraces
  rw [h]
  decide +kernel
/-- at the law's entry the machine is as the walks want it -/
theorem en_LC {p : Program} {s : State} {m : MethodId} {meth : Method} {c : Code} (l : Launch) (hflags : l.flags = flags0) {b L : Nat} {xs : Nat → Int32} (C0 : lw_At p s m meth c b L xs) : ∃ X : Xt, X.1 = l ∧ LC X b L xs p s m meth c := by
  obtain ⟨hx, hb, hr, hml, hown, hts, hX, hbl, hlocks, hgv⟩ := C0
  have hG : ∀ w ∈ G_, w.before #[Value.ref b] s = true := fun w hw => hts w (List.mem_filter.mp hw).1
  have hA : ∀ a : Nat, a < s.heap.size → ¬ (fun q : Nat => s.heap.size ≤ q) a := fun a h z => absurd h (Nat.not_lt.mpr z)
  obtain ⟨D, hD⟩ := en_cls hG
  obtain ⟨ay, hay⟩ := en_tys hts hG
  obtain ⟨em, hZ, hT⟩ := en_empty hts hgv hA
  refine ⟨(l, D, ay, s.heap.size, em), rfl, hx, hb, hml, hown, hG, ⟨hD, hay l D _ em⟩, ⟨en_q1 hts hgv hA, en_q2 hts hgv hA, hZ, hT, fun q hq => en_str (hts _ (List.mem_append_right _ (en_strs q hq))), fun w hw => va_Nw.of (nwk_on (List.mem_filter.mp hw).2) (hts w (List.mem_append_right _ (List.mem_filter.mp hw).1)), fun C hC => va_AO.of (hts _ (List.mem_append_right _ (en_aos C hC)))⟩, en_st hflags, en_nc hgv, hX, hbl, rfl, hr, hlocks⟩
