
/-! the law's own methods that catch -/
def nc3 : List (String × String) := [("java/lang/IllegalArgumentException", "java/lang/IndexOutOfBoundsException"), ("java/lang/IllegalStateException", "java/lang/IndexOutOfBoundsException"), ("java/lang/IllegalStateException", "java/lang/IllegalArgumentException")]
def NcS (s : State) : Prop := ∀ q ∈ nc3, va_Nc q.1 q.2 s
def rowOf (h : ExceptionTableEntry) : Nat × Nat × Nat × Nat := (h.startPc, h.endPc, h.handlerPc, h.catchType)
def PnL (X : Xt) (ad : Ad) (σ : Wd) (avs : List Value) : Array Value → State → Prop := fun v U => v = avs.toArray ∧ SW X ad σ U ∧ NcS U
theorem PnL.blind {X : Xt} {ad : Ad} {σ : Wd} {avs : List Value} : FrameBlind (PnL X ad σ avs) := fun a U g mk h => ⟨h.1, h.2.1.calling g mk a, fun q hq => va_Nc.moved (u := U) (U := U.calling g mk a) (Vm.Alike.refl U.vm) (h.2.2 q hq)⟩
def WN (X : Xt) (y : MethodName) (cc : ByteArray) (nL : Nat) (hh : List (Nat × Nat × Nat × Nat)) (fr lo : Nat) (kc : Nat × Nat) (ad : Ad) (σ : Wd) (avs : List Value) (r : Int32) (σ' : Wd) : Prop :=
  vx_Met X.1 y (Cond.codeWith y cc nL (some .int) hh :: G_) { frames := fr, cells := kc.1, slots := kc.2, locals := lo } (PnL X ad σ avs) (Qn X (Fx ad) vI (.inl r : Int32 ⊕ String) σ') (Qx X (Fx ad) (.inl r : Int32 ⊕ String) σ') kc.1 kc.2 (Az X)
def BodH (X : Xt) (cc : ByteArray) (nL : Nat) (hh : List (Nat × Nat × Nat × Nat)) (p : Program) (s : State) (m : MethodId) (args : Array Value) (meth : Method) (c : Code) : Prop :=
  p.tables.exec = Jvm.exec ∧ c.code = cc ∧ c.maxLocals = nL ∧ s.vm.findClass RL = some m.cls ∧ (∀ w ∈ G_, w.before args s = true) ∧ meth.sig.returnType = some .int ∧ meth.locks = false ∧ c.exceptionTable.toList.map rowOf = hh ∧ va_K X.2.1 vwCl (tysX X) s ∧ SF X s ∧ X.1.stackTraces = false ∧ NcS s
def Bh (X : Xt) (cc : ByteArray) (nL : Nat) (hh : List (Nat × Nat × Nat × Nat)) (fr lo : Nat) (kc cs : Nat × Nat) (ad0 ad : Ad) (σ : Wd) (pc : Nat) (lv : List (Nat × Value)) (st : List Value) (r : Int32) (σ' : Wd) : Prop :=
  ∀ p e s m args below meth c, BodH X cc nL hh p s m args meth c → ∀ H locs ls, HW X ad σ H → va_S (Az X) s.heap H locs → lv_has ls nL lv →
    W p X.1 e { frames := fr, cells := kc.1, slots := kc.2, locals := lo } s m args below meth c H locs cs.1 cs.2 (vx_MQ below (Qn X (Fx ad0) vI (.inl r : Int32 ⊕ String) σ') (Qx X (Fx ad0) (.inl r : Int32 ⊕ String) σ') args s kc.1 kc.2 (Az X)) (F0 m pc ls st)
theorem WN.intro {X : Xt} {y : MethodName} {cc : ByteArray} {nL : Nat} {hh : List (Nat × Nat × Nat × Nat)} {fr lo : Nat} {kc : Nat × Nat} {ad : Ad} {σ : Wd} {avs : List Value} {r : Int32} {σ' : Wd} (ho : y.cls = RL) (hst : X.1.stackTraces = false) (hlen : (lg_sl avs).length ≤ nL) {lv : List (Nat × Value)} (hlv : lv_args 0 avs = lv)
    (k : Bh X cc nL hh fr lo kc (0, 0) ad ad σ 0 lv [] r σ') : WN X y cc nL hh fr lo kc ad σ avs r σ' := by
  refine vx_ofWH (cc := cc) (maxL := nL) (ret := some .int) (hh := hh) (by rw [ho]; decide) rfl ?_
  intro p e s m args below meth c s₁ B hml hv
  obtain ⟨rfl, ⟨hHW, hK, hSF⟩, hNc⟩ := hv
  have hts0 := atoms_spec (ws := Cond.codeWith y cc nL (some .int) hh :: G_) B.pre
  have htab : c.exceptionTable.toList.map rowOf = hh := by
    obtain ⟨m9, meth9, c9, h0, h1, h2, -, -, h5, -, -, -⟩ := Cond.codeWith_spec (hts0 _ List.mem_cons_self)
    cases Option.some.inj (h0.symm.trans B.named)
    cases Option.some.inj (h1.symm.trans B.method)
    cases Option.some.inj (h2.symm.trans (Stand.of_body B).code)
    exact h5
  have hown : s.vm.findClass RL = some m.cls := by rw [← ho]; exact findClass_of_methodNamed B.named
  have hB : BodH X cc nL hh p s m avs.toArray meth c := ⟨B.exec, B.bytes, hml, hown, fun w hw => hts0 w (List.mem_cons_of_mem _ hw), B.returns, B.notSynchronized, htab, hK, hSF, hst, hNc⟩
  rw [lg_entry_eq]
  exact k p e s m _ below meth c hB s.heap [] _ hHW va_S.rf (hlv ▸ lv_entry avs hlen)
section HBK
variable {X : Xt} {cc : ByteArray} {nL : Nat} {hh : List (Nat × Nat × Nat × Nat)} {fr lo : Nat} {kc cs : Nat × Nat} {ad0 ad : Ad} {σ : Wd} {pc : Nat} {lv : List (Nat × Value)} {st : List Value} {r : Int32} {σ' : Wd}
theorem h_iconst {n : Int} (v : Int32) (hv : Int32.ofInt n = v) (hd : decode cc pc = .ok (.iconst n, 1)) (k : Bh X cc nL hh fr lo kc cs ad0 ad σ (pc + 1) lv (.int v :: st) r σ') : Bh X cc nL hh fr lo kc cs ad0 ad σ pc lv st r σ' :=
  fun p e s m args below meth c B H locs ls hH hS hl => lv_iconst B.1 B.2.1 hd hv (k p e s m args below meth c B H locs ls hH hS hl)
theorem h_iload_n {j : Fin 4} {x : Int32} (q : Nat) (hq : lv[q]? = some ((j : Nat), .int x)) (hd : decode cc pc = .ok (.iload_n j, 1)) (k : Bh X cc nL hh fr lo kc cs ad0 ad σ (pc + 1) lv (.int x :: st) r σ') : Bh X cc nL hh fr lo kc cs ad0 ad σ pc lv st r σ' :=
  fun p e s m args below meth c B H locs ls hH hS hl => lv_iload_n B.1 B.2.1 hd rfl (lv_at hl q hq) (k p e s m args below meth c B H locs ls hH hS hl)
theorem h_iload {j : Nat} {x : Int32} (q : Nat) (hq : lv[q]? = some (j, .int x)) (hd : decode cc pc = .ok (.iload j, 2)) (k : Bh X cc nL hh fr lo kc cs ad0 ad σ (pc + 2) lv (.int x :: st) r σ') : Bh X cc nL hh fr lo kc cs ad0 ad σ pc lv st r σ' :=
  fun p e s m args below meth c B H locs ls hH hS hl => lv_iload B.1 B.2.1 hd (lv_at hl q hq) (k p e s m args below meth c B H locs ls hH hS hl)
theorem h_aload_n {j : Fin 4} {x : Nat} (q : Nat) (hq : lv[q]? = some ((j : Nat), .ref x)) (hd : decode cc pc = .ok (.aload_n j, 1)) (k : Bh X cc nL hh fr lo kc cs ad0 ad σ (pc + 1) lv (.ref x :: st) r σ') : Bh X cc nL hh fr lo kc cs ad0 ad σ pc lv st r σ' :=
  fun p e s m args below meth c B H locs ls hH hS hl => lv_aload_n B.1 B.2.1 hd rfl (lv_at hl q hq) (k p e s m args below meth c B H locs ls hH hS hl)
theorem h_aload {j : Nat} {x : Nat} (q : Nat) (hq : lv[q]? = some (j, .ref x)) (hd : decode cc pc = .ok (.aload j, 2)) (k : Bh X cc nL hh fr lo kc cs ad0 ad σ (pc + 2) lv (.ref x :: st) r σ') : Bh X cc nL hh fr lo kc cs ad0 ad σ pc lv st r σ' :=
  fun p e s m args below meth c B H locs ls hH hS hl => lv_aload B.1 B.2.1 hd (lv_at hl q hq) (k p e s m args below meth c B H locs ls hH hS hl)
theorem h_fin {j : Int32} {H : Heap} {locs : List Loc} {ls : Array Slot} {p : Program} {e : Env} {s : State} {m : MethodId} {args : Array Value} {below : List Frame} {meth : Method} {c : Code} (B : BodH X cc nL hh p s m args meth c) (hfx : Fx ad0 ad) (hH : HW X ad σ H) (hS : va_S (Az X) s.heap H locs) (hd : decode cc pc = .ok (.ireturn, 1)) : W p X.1 e { frames := fr, cells := kc.1, slots := kc.2, locals := lo } s m args below meth c H locs kc.1 kc.2 (vx_MQ below (Qn X (Fx ad0) vI (.inl j : Int32 ⊕ String) σ) (Qx X (Fx ad0) (.inl j : Int32 ⊕ String) σ) args s kc.1 kc.2 (Az X)) (F0 m pc ls [.int j]) :=
  vx_ret (W.iret B.1 B.2.1 B.2.2.2.2.2.1 (fun t ht hW => ⟨⟨j, rfl, rfl, ad, hfx, by rw [ht]; exact hH⟩, hS.F ht⟩) hS.2.2 hd B.2.2.2.2.2.2.1)
theorem h_done {v : Int32} {off : Int} {tgt : Nat} (hfx : Fx ad0 ad) (d1 : decode cc pc = .ok (.i2l, 1)) (d2 : decode cc (pc + 1) = .ok (.lastore, 1)) (d3 : decode cc (pc + 2) = .ok (.goto off, 3)) (ht : ((pc + 2 : Nat) : Int) + off = (tgt : Int)) (d4 : decode cc tgt = .ok (.iconst 0, 1)) (d5 : decode cc (tgt + 1) = .ok (.ireturn, 1)) : Bh X cc nL hh fr lo kc kc ad0 ad σ pc lv [.int v, .int 0, .ref (ad 70 0)] 0 (wr σ 70 0 0 v) := by
  intro p e s m args below meth c B H locs ls hH hS hl
  refine lv_i2l B.1 B.2.1 d1 (v := v.toInt64) rfl ?_
  have hl70 : lvp σ 70 0 := lvs_70 _
  have hP : va_at X.2.1 vwCl (ad 70 0, .inl (X.2.2.1 6, 1, .inr (.inl (fun j => (σ.1 70 0 j).toInt64)))) H := by rw [← cell_70]; exact (hH.1 70 0 hl70).1
  refine W.last (j := 0) (x := v.toInt64) (rest := []) B.1 B.2.1 hP ((B.2.2.2.2.2.2.2.2.1.2 6 (X.2.2.1 6, .long) rfl).1 1 (fun j => .long (σ.1 70 0 j).toInt64)) (fun q => by cases q) (by show ¬ ((0 : Int32) < 0 ∨ (arrV _ _ _).slots.size ≤ _); rw [arrV_size]; show ¬ ((0 : Int32) < 0 ∨ 1 ≤ (0 : Int32).toNatClampNeg); decide) rfl rfl d2 fun H1 e1 z oq => ?_
  refine lv_goto (pc := pc + 2) (rest := []) B.1 B.2.1 d3 ht (lv_iconst B.1 B.2.1 d4 rfl (h_fin B hfx (hH.wr hl70 (e := .inl (X.2.2.1 6, 1, .inr (.inl (fun j => ((wr σ 70 0 0 v).1 70 0 j).toInt64)))) ?_ oq (cell_70 _ _ _ _)) (hS.put z oq (hH.1 70 0 hl70).2) d5))
  show H1[ad 70 0]? = some (vp_cell _ _)
  rw [e1]
  rw [vp_cell_l, vp_cell_l, arrV_store]
  congr 2
  funext q
  by_cases hq : q = 0
  · subst hq
    simp [updV, wr]
  · simp [updV, wr, hq]
theorem h_caught {q j : Nat} {k : Int} (v : Int32) (hv : Int32.ofInt k = v) (hfx : Fx ad0 ad) (hj : j < nL) (d1 : decode cc pc = .ok (.astore j, 2)) (d2 : decode cc (pc + 2) = .ok (.iconst k, 1)) (d3 : decode cc (pc + 3) = .ok (.ireturn, 1)) : Bh X cc nL hh fr lo kc kc ad0 ad σ pc lv [.ref q] v σ := by
  intro p e s m args below meth c B H locs ls hH hS hl
  exact lv_astore B.1 B.2.1 d1 hl hj rfl (fun ls' hl2 => lv_iconst B.1 B.2.1 d2 hv (h_fin B hfx hH hS d3))
theorem h_caught_n {q : Nat} {j : Fin 4} {k : Int} (v : Int32) (hv : Int32.ofInt k = v) (hfx : Fx ad0 ad) (hj : (j : Nat) < nL) (d1 : decode cc pc = .ok (.astore_n j, 1)) (d2 : decode cc (pc + 1) = .ok (.iconst k, 1)) (d3 : decode cc (pc + 2) = .ok (.ireturn, 1)) : Bh X cc nL hh fr lo kc kc ad0 ad σ pc lv [.ref q] v σ := by
  intro p e s m args below meth c B H locs ls hH hS hl
  exact lv_astore_n B.1 B.2.1 d1 rfl hl hj rfl (fun ls' hl2 => lv_iconst B.1 B.2.1 d2 hv (h_fin B hfx hH hS d3))
/-- where an exception of the class E is taken -/
def Taken (hh : List (Nat × Nat × Nat × Nat)) (pc : Nat) (E : String) (h : Nat) : Prop := ∃ (j a b ct : Nat) (nm : String), hh[j]? = some (a, b, h, ct) ∧ a ≤ pc ∧ pc < b ∧ ct ≠ 0 ∧ Cond.classLink RL ct nm ∈ G_ ∧ Cond.castable E nm ∈ NW_ ∧ ∀ i, i < j → ∃ (a' b' h' ct' : Nat) (nm' : String), hh[i]? = some (a', b', h', ct') ∧ ct' ≠ 0 ∧ Cond.classLink RL ct' nm' ∈ G_ ∧ (E, nm') ∈ nc3
theorem h_take {p : Program} {e : Env} {s : State} {m : MethodId} {args : Array Value} {below : List Frame} {meth : Method} {c : Code} {R : Room} {H : Heap} {locs : List Loc} {c1 c2 : Nat} {Q : State → Prop} {ls : Array Slot} {E : String} {h q : Nat} {ce : Cell} (B : BodH X cc nL hh p s m args meth c) (ht : Taken hh pc E h) (hcell : H[q]? = some ce) (hv : ce.vm = .none) (hcl : s.vm.findClass E = some ce.cls)
    (kk : W p X.1 e R s m args below meth c H locs c1 c2 Q (F0 m h ls [.ref q])) : vx_W p X.1 e R s m args below meth c H locs c1 c2 Q (F0 m pc ls st) q := by
  obtain ⟨j, a, b, ct, nm, g1, g2, g3, g4, g5, g6, g7⟩ := ht
  have hts := B.2.2.2.2.1
  have hmap := B.2.2.2.2.2.2.2.1
  have hSF := B.2.2.2.2.2.2.2.2.2.1
  have hNc := B.2.2.2.2.2.2.2.2.2.2.2
  have hx : ∃ x, c.exceptionTable.toList[j]? = some x ∧ rowOf x = (a, b, h, ct) := by
    rw [← hmap, List.getElem?_map] at g1
    cases hz : c.exceptionTable.toList[j]? with
    | none => rw [hz] at g1; cases g1
    | some x => rw [hz] at g1; exact ⟨x, rfl, Option.some.inj g1⟩
  obtain ⟨x, hx1, hx2⟩ := hx
  have hxa : x.startPc = a := congrArg (fun z => z.1) hx2
  have hxb : x.endPc = b := congrArg (fun z => z.2.1) hx2
  have hxh : x.handlerPc = h := congrArg (fun z => z.2.2.1) hx2
  have hxc : x.catchType = ct := congrArg (fun z => z.2.2.2) hx2
  have hjl := (List.getElem?_eq_some_iff.mp hx1).1
  have hsplit : c.exceptionTable.toList = c.exceptionTable.toList.take j ++ x :: c.exceptionTable.toList.drop (j + 1) := by
    have e1 := (List.getElem?_eq_some_iff.mp hx1).2
    have e3 := List.drop_eq_getElem_cons hjl
    rw [e1] at e3
    rw [← e3, List.take_append_drop]
  refine vx_catch (name := nm) B.2.2.2.1 _ x _ hsplit (fun z hz => ?_) (by simp [covers, hxa, hxb, g2, g3]) (by rw [hxc]; exact g4) (by rw [hxc]; exact hts _ g5) (nw_at hSF g6) hcell hv hcl (by rw [hxh]; exact kk)
  obtain ⟨i, hi⟩ := List.getElem?_of_mem hz
  have hil := (List.getElem?_eq_some_iff.mp hi).1
  rw [List.length_take] at hil
  have hij : i < j := Nat.lt_of_lt_of_le hil (Nat.min_le_left _ _)
  rw [List.getElem?_take_of_lt hij] at hi
  obtain ⟨a', b', h', ct', nm', k1, k2, k3, k4⟩ := g7 i hij
  rw [← hmap, List.getElem?_map, hi] at k1
  have hzc : z.catchType = ct' := congrArg (fun z => z.2.2.2) (Option.some.inj k1)
  exact Or.inr ⟨by rw [hzc]; exact k2, nm', by rw [hzc]; exact hts _ k3, hNc _ k4⟩
theorem h_callV {y : MethodName} {bytes : ByteArray} {maxL fr' lo' n index : Nat} {kc' : Nat × Nat} {fin' : Ad → Prop} {g : Option ((Int32 ⊕ String) × Wd)} {res1 : Int32 ⊕ String} {σ1 : Wd} {As stack : List Value} (hres : g = some (res1, σ1)) (nc : NC X fin' y bytes maxL (some .int) fr' lo' vI kc' ad σ (.ref (ad 0 0) :: As) g) (hfin' : ∀ ad', fin' ad' → Fx ad ad')
    (hy : y.cls = RX9 ∧ y.cls ≠ "java/lang/invoke/MethodHandle" ∧ y.cls ≠ "java/lang/invoke/VarHandle" ∧ (parseMethodDescriptor y.desc).map (fun d => d.parameters.length) = some n)
    (w1 : Cond.methodLink RL index y ∈ G_) (w2 : Cond.instanceMethod y ∈ G_) (w3 : Cond.selects y.cls y y ∈ G_) (w4 : Cond.initialized y.cls ∈ G_) (w5 : Cond.code y bytes maxL (some .int) ∈ G_)
    (hn : As.length = n) (hst : stack = As.reverse ++ .ref (ad 0 0) :: [.int 0, .ref (ad 70 0)]) (hroom : fr' + 1 ≤ fr ∧ 8 + (maxL + 11) + lo' ≤ lo) (hkc : kc'.1 ≤ kc.1 ∧ kc'.2 ≤ kc.2 ∧ 1 ≤ kc.1 ∧ 6 ≤ kc.2) (hd : decode cc pc = .ok (.invokevirtual index, 3))
    (k1 : ∀ v, res1 = .inl v → ∀ ad', Fx ad ad' → Bh X cc nL hh fr lo kc kc ad ad' σ1 (pc + 3) lv [.int v, .int 0, .ref (ad' 70 0)] r σ')
    (k2 : ∀ E, res1 = .inr E → ∃ h, Taken hh pc E h ∧ ∀ ad' q, Fx ad ad' → Bh X cc nL hh fr lo kc kc ad ad' σ1 h lv [.ref q] r σ') : Bh X cc nL hh fr lo kc (0, 0) ad ad σ pc lv stack r σ' := by
  intro p e s m args below meth c B H locs ls hH hS hl9
  have hat : va_at X.2.1 vwCl (ad 0 0, .inr (10, [.ref (ad 1 0), .ref (ad 1 1), .ref (ad 4 0), .ref (ad 7 0), .ref (ad 12 0), .ref (ad 19 0), .int (σ.1 0 0 6), .int (σ.1 0 0 7), .int (σ.1 0 0 8), .int (σ.1 0 0 9)])) H := by rw [← cell_0]; exact (hH.1 0 0 (lvs_0 _)).1
  have hts := B.2.2.2.2.1
  have hK := B.2.2.2.2.2.2.2.2.1
  have hSF := B.2.2.2.2.2.2.2.2.2.1
  have hG : GoodIn G_ (wsV RL index y.cls y (Cond.code y bytes maxL (some .int) :: G_)) := fun w hw => by
    have h1 : w ∈ G_ := by
      simp only [wsV, List.cons_append, List.nil_append, List.mem_cons] at hw
      rcases hw with rfl | rfl | rfl | rfl | rfl | h
      · exact w1
      · exact w2
      · exact w3
      · exact w4
      · exact w5
      · exact h
    exact ⟨h1, good_of_word (G_good w h1)⟩
  have hxc : xc kc' res1 ≤ kc.1 ∧ xs kc' res1 ≤ kc.2 := by
    cases res1 with
    | inl v => exact ⟨hkc.1, hkc.2.1⟩
    | inr E => exact ⟨hkc.2.2.1, hkc.2.2.2⟩
  have hrun := vx_runV (R := { frames := fr, cells := kc.1, slots := kc.2, locals := lo }) (e := e) (below := below) (meth := meth) (locs := locs) (cells := 0) (slots := 0) (g := F0 m pc ls stack) (rest := [.int 0, .ref (ad 70 0)]) ⟨B.1, B.2.1, B.2.2.1, B.2.2.2.1, hts⟩ (nc res1 σ1 hres) (C := y.cls) (cwV n hts hG rfl rfl rfl ⟨rfl, hy.2⟩ hroom) (H := H) (b := ad 0 0) (As := As) ⟨Pn.blind, (by
      have hr := va_recv (q := (RX9, TX9, 10)) (q0 := 0) hK (va_P1 hat) rfl rfl
      rw [hy.1]
      exact hr), fun U hU hW => ⟨rfl, by rw [hU]; exact hH, va_K.moved hW.alike hK, hSF.warm hW (by rw [hU]; exact hS.2.1)⟩⟩ rfl hn hl9.1 hst (lv_room (Nat.le_of_ble_eq_true rfl)) hd ⟨by rw [Nat.zero_add]; exact hxc.1, by rw [Nat.zero_add]; exact hxc.2⟩
  intro T hT Y
  rcases hrun T hT Y with ⟨v0, st0, t, T', L, h0, Y', hL, e1, e2, ⟨⟨v', hv1, hv2, ad', hf', hsw⟩, hF⟩, hgo⟩ | ⟨q, st0, t, T', L, E', ce, h0, Y', hL, e1, e2, ⟨⟨hx, ad', hf', hsw⟩, hF⟩, hce, hcv, hcl, hst2⟩
  · cases hv2
    obtain ⟨q1, q2, q3⟩ := vx_keep h0 e1 hS (fun _ _ z => z) (fun _ z => z) hL hF
    have hfx := hfin' ad' hf'
    have kx := k1 v' hv1 ad' hfx
    rw [hfx 70 0 (Or.inr (by decide))] at kx
    obtain ⟨t2, a1, b1⟩ := kx p e s m args below meth c B T'.heap (locs ++ L) ls (by rw [e1]; exact hsw) q3 hl9 T' rfl (stand_widen Y' (by rw [Nat.zero_add]; exact hxc.1) (by rw [Nat.zero_add]; exact hxc.2))
    exact ⟨t2, hgo t2 a1, b1⟩
  · obtain ⟨q1, q2, q3⟩ := vx_keep h0 e1 hS (fun _ _ z => z) (fun _ z => z) hL hF
    have hfx := hfin' ad' hf'
    obtain ⟨h, g1, g2⟩ := k2 E' hx
    have hout := h_take (R := { frames := fr, cells := kc.1, slots := kc.2, locals := lo }) (st := [.int 0, .ref (ad 70 0)]) (ls := ls) (locs := locs ++ L) (c1 := kc.1) (c2 := kc.2) B g1 (by rw [e1]; exact hce) hcv hcl (g2 ad' q hfx p e s m args below meth c B T'.heap (locs ++ L) ls (by rw [e1]; exact hsw) q3 hl9)
    obtain ⟨t2, a1, b1⟩ := hout T' rfl (stand_widen Y' (by rw [Nat.zero_add]; exact hxc.1) (by rw [Nat.zero_add]; exact hxc.2))
    exact ⟨t2, hst2.trans a1, b1⟩
end HBK
/-- what a method that catches answers -/
def wrapF (h1 h2 h3 : Option Int32) (g : Option ((Int32 ⊕ String) × Wd)) : Option (Int32 × Wd) := match g with
  | none => none
  | some (.inl v, σ1) => some (0, wr σ1 70 0 0 v)
  | some (.inr E, σ1) => if E = "java/lang/IndexOutOfBoundsException" then h1.map (fun k => (k, σ1)) else if E = "java/lang/IllegalArgumentException" then h2.map (fun k => (k, σ1)) else if E = "java/lang/IllegalStateException" then h3.map (fun k => (k, σ1)) else none
theorem wrapF_cases {h1 h2 h3 : Option Int32} {g : Option ((Int32 ⊕ String) × Wd)} {r : Int32} {σ' : Wd} (h : wrapF h1 h2 h3 g = some (r, σ')) : ∃ res1 σ1, g = some (res1, σ1) ∧ (∀ v, res1 = .inl v → r = 0 ∧ σ' = wr σ1 70 0 0 v) ∧ ∀ E, res1 = .inr E → σ' = σ1 ∧ ((E = "java/lang/IndexOutOfBoundsException" ∧ h1 = some r) ∨ (E = "java/lang/IllegalArgumentException" ∧ h2 = some r) ∨ (E = "java/lang/IllegalStateException" ∧ h3 = some r)) := by
  unfold wrapF at h
  match g, h with
  | some (.inl v, σ1), h =>
    cases h
    exact ⟨_, _, rfl, fun v' hv => by cases hv; exact ⟨rfl, rfl⟩, fun E hE => by cases hE⟩
  | some (.inr E, σ1), h =>
    refine ⟨_, _, rfl, fun v' hv => (by cases hv), fun E' hE => ?_⟩
    cases hE
    dsimp only at h
    by_cases e1 : E = "java/lang/IndexOutOfBoundsException"
    · rw [if_pos e1] at h
      obtain ⟨k, hk, hk2⟩ := Option.map_eq_some_iff.mp h
      cases hk2
      exact ⟨rfl, Or.inl ⟨e1, hk⟩⟩
    · rw [if_neg e1] at h
      by_cases e2 : E = "java/lang/IllegalArgumentException"
      · rw [if_pos e2] at h
        obtain ⟨k, hk, hk2⟩ := Option.map_eq_some_iff.mp h
        cases hk2
        exact ⟨rfl, Or.inr (Or.inl ⟨e2, hk⟩)⟩
      · rw [if_neg e2] at h
        by_cases e3 : E = "java/lang/IllegalStateException"
        · rw [if_pos e3] at h
          obtain ⟨k, hk, hk2⟩ := Option.map_eq_some_iff.mp h
          cases hk2
          exact ⟨rfl, Or.inr (Or.inr ⟨e3, hk⟩)⟩
        · rw [if_neg e3] at h
          cases h
