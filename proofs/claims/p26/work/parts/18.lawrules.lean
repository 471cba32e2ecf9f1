/-! the law's own methods that catch -/
def nc3 : List (String × String) := [("java/lang/IllegalStateException", "java/lang/IndexOutOfBoundsException")]
def NcS (s : State) : Prop := ∀ q ∈ nc3, va_Nc q.1 q.2 s
def rowOf (h : ExceptionTableEntry) : Nat × Nat × Nat × Nat := (h.startPc, h.endPc, h.handlerPc, h.catchType)
def PnL (X : Xt) (ad : Ad) (σ : Wd) (avs : List Value) : Array Value → State → Prop := fun v U => v = avs.toArray ∧ SW X ad σ U ∧ NcS U
theorem PnL.blind {X : Xt} {ad : Ad} {σ : Wd} {avs : List Value} : FrameBlind (PnL X ad σ avs) := fun a U g mk h => ⟨h.1, h.2.1.calling g mk a, fun q hq => va_Nc.moved (u := U) (U := U.calling g mk a) (Vm.Alike.refl U.vm) (h.2.2 q hq)⟩
def WN (X : Xt) (y : MethodName) (cc : ByteArray) (nL : Nat) (hh : List (Nat × Nat × Nat × Nat)) (fr lo : Nat) (kc : Nat × Nat) (ad : Ad) (σ : Wd) (avs : List Value) (r : Int32) (σ' : Wd) : Prop :=
  vx_Met X.1 y (Cond.codeWith y cc nL (some .int) hh :: G_) { frames := fr, cells := kc.1, slots := kc.2, locals := lo } (PnL X ad σ avs) (Qn X (Fx ad) vI (.inl r : Int32 ⊕ String) σ') (Qx X (Fx ad) (.inl r : Int32 ⊕ String) σ') kc.1 kc.2 (Az X)
def BodH (X : Xt) (cc : ByteArray) (nL : Nat) (hh : List (Nat × Nat × Nat × Nat)) (p : Program) (s : State) (m : MethodId) (args : Array Value) (meth : Method) (c : Code) : Prop :=
  p.tables.exec = Jvm.exec ∧ c.code = cc ∧ c.maxLocals = nL ∧ s.vm.findClass RL = some m.cls ∧ (∀ w ∈ G_, w.before args s = true) ∧ meth.sig.returnType = some .int ∧ meth.locks = false ∧ c.exceptionTable.toList.map rowOf = hh ∧ va_K X.2.1 vwCl (tysX X) s ∧ SF X s ∧ X.1.stackTraces = false ∧ NcS s
def Bh (X : Xt) (cc : ByteArray) (nL : Nat) (hh : List (Nat × Nat × Nat × Nat)) (fr lo : Nat) (kc cs : Nat × Nat) (ad0 ad : Ad) (σ : Wd) (pc : Nat) (lv : List (Nat × Value)) (st : List Value) (r : Int32) (σ' : Wd) : Prop :=
  ∀ p e s m args below meth c, BodH X cc nL hh p s m args meth c → ∀ H locs ls, HW X ad σ H → va_S (Az X) s.heap H locs → lv_has ls nL lv →
    W p X.1 e { frames := fr, cells := kc.1, slots := kc.2, locals := lo } s m args below meth c H locs cs.1 cs.2 (vx_MQ below (Qn X (Fx ad0) vI (.inl r : Int32 ⊕ String) σ') (Qx X (Fx ad0) (.inl r : Int32 ⊕ String) σ') args s kc.1 kc.2 (Az X)) (F0 m pc ls st)
theorem WN.intro {X : Xt} {y : MethodName} {cc : ByteArray} {nL : Nat} {hh : List (Nat × Nat × Nat × Nat)} {fr lo : Nat} {kc : Nat × Nat} {ad : Ad} {σ : Wd} {avs : List Value} {r : Int32} {σ' : Wd} (ho : y.cls = RL) (hst : X.1.stackTraces = false) (hlen : (lg_sl avs).length ≤ nL) {lv : List (Nat × Value)} (hlv : lv_args 0 avs = lv)
    (k : Bh X cc nL hh fr lo kc (0, 0) ad ad σ 0 lv [] r σ') : WN X y cc nL hh fr lo kc ad σ avs r σ' := by
  refine vx_ofWH (cc := cc) (maxL := nL) (ret := some .int) (hh := hh) (by rw [ho]; decide) rfl ?_
  intro p e s m args below meth c s₁ B hml hv
  obtain ⟨rfl, ⟨hHW, hK, hSF⟩, hNc⟩ := hv
  have hts0 := atoms_spec (ws := Cond.codeWith y cc nL (some .int) hh :: G_) B.pre
  have htab : c.exceptionTable.toList.map rowOf = hh := by
    obtain ⟨m9, meth9, c9, h0, h1, h2, -, -, h5, -, -, -⟩ := Cond.codeWith_spec (hts0 _ List.mem_cons_self)
    cases Option.some.inj (h0.symm.trans B.named)
    cases Option.some.inj (h1.symm.trans B.method)
    cases Option.some.inj (h2.symm.trans (Stand.of_body B).code)
    exact h5
  have hown : s.vm.findClass RL = some m.cls := by rw [← ho]; exact findClass_of_methodNamed B.named
  have hB : BodH X cc nL hh p s m avs.toArray meth c := ⟨B.exec, B.bytes, hml, hown, fun w hw => hts0 w (List.mem_cons_of_mem _ hw), B.returns, B.notSynchronized, htab, hK, hSF, hst, hNc⟩
  rw [lg_entry_eq]
  exact k p e s m _ below meth c hB s.heap [] _ hHW va_S.rf (hlv ▸ lv_entry avs hlen)
section HBK
variable {X : Xt} {cc : ByteArray} {nL : Nat} {hh : List (Nat × Nat × Nat × Nat)} {fr lo : Nat} {kc cs : Nat × Nat} {ad0 ad : Ad} {σ : Wd} {pc : Nat} {lv : List (Nat × Value)} {st : List Value} {r : Int32} {σ' : Wd}
theorem h_iconst {n : Int} (v : Int32) (hv : Int32.ofInt n = v) (hd : decode cc pc = .ok (.iconst n, 1)) (k : Bh X cc nL hh fr lo kc cs ad0 ad σ (pc + 1) lv (.int v :: st) r σ') : Bh X cc nL hh fr lo kc cs ad0 ad σ pc lv st r σ' :=
  fun p e s m args below meth c B H locs ls hH hS hl => lv_iconst B.1 B.2.1 hd hv (k p e s m args below meth c B H locs ls hH hS hl)
theorem h_iload_n {j : Fin 4} {x : Int32} (q : Nat) (hq : lv[q]? = some ((j : Nat), .int x)) (hd : decode cc pc = .ok (.iload_n j, 1)) (k : Bh X cc nL hh fr lo kc cs ad0 ad σ (pc + 1) lv (.int x :: st) r σ') : Bh X cc nL hh fr lo kc cs ad0 ad σ pc lv st r σ' :=
  fun p e s m args below meth c B H locs ls hH hS hl => lv_iload_n B.1 B.2.1 hd rfl (lv_at hl q hq) (k p e s m args below meth c B H locs ls hH hS hl)
theorem h_iload {j : Nat} {x : Int32} (q : Nat) (hq : lv[q]? = some (j, .int x)) (hd : decode cc pc = .ok (.iload j, 2)) (k : Bh X cc nL hh fr lo kc cs ad0 ad σ (pc + 2) lv (.int x :: st) r σ') : Bh X cc nL hh fr lo kc cs ad0 ad σ pc lv st r σ' :=
  fun p e s m args below meth c B H locs ls hH hS hl => lv_iload B.1 B.2.1 hd (lv_at hl q hq) (k p e s m args below meth c B H locs ls hH hS hl)
theorem h_aload_n {j : Fin 4} {x : Nat} (q : Nat) (hq : lv[q]? = some ((j : Nat), .ref x)) (hd : decode cc pc = .ok (.aload_n j, 1)) (k : Bh X cc nL hh fr lo kc cs ad0 ad σ (pc + 1) lv (.ref x :: st) r σ') : Bh X cc nL hh fr lo kc cs ad0 ad σ pc lv st r σ' :=
  fun p e s m args below meth c B H locs ls hH hS hl => lv_aload_n B.1 B.2.1 hd rfl (lv_at hl q hq) (k p e s m args below meth c B H locs ls hH hS hl)
theorem h_aload {j : Nat} {x : Nat} (q : Nat) (hq : lv[q]? = some (j, .ref x)) (hd : decode cc pc = .ok (.aload j, 2)) (k : Bh X cc nL hh fr lo kc cs ad0 ad σ (pc + 2) lv (.ref x :: st) r σ') : Bh X cc nL hh fr lo kc cs ad0 ad σ pc lv st r σ' :=
  fun p e s m args below meth c B H locs ls hH hS hl => lv_aload B.1 B.2.1 hd (lv_at hl q hq) (k p e s m args below meth c B H locs ls hH hS hl)
theorem h_fin {j : Int32} {H : Heap} {locs : List Loc} {ls : Array Slot} {p : Program} {e : Env} {s : State} {m : MethodId} {args : Array Value} {below : List Frame} {meth : Method} {c : Code} (B : BodH X cc nL hh p s m args meth c) (hfx : Fx ad0 ad) (hH : HW X ad σ H) (hS : va_S (Az X) s.heap H locs) (hd : decode cc pc = .ok (.ireturn, 1)) : W p X.1 e { frames := fr, cells := kc.1, slots := kc.2, locals := lo } s m args below meth c H locs kc.1 kc.2 (vx_MQ below (Qn X (Fx ad0) vI (.inl j : Int32 ⊕ String) σ) (Qx X (Fx ad0) (.inl j : Int32 ⊕ String) σ) args s kc.1 kc.2 (Az X)) (F0 m pc ls [.int j]) :=
  vx_ret (W.iret B.1 B.2.1 B.2.2.2.2.2.1 (fun t ht hW => ⟨⟨j, rfl, rfl, ad, hfx, by rw [ht]; exact hH⟩, hS.F ht⟩) hS.2.2 hd B.2.2.2.2.2.2.1)
theorem h_ret {v : Int32} (hfx : Fx ad0 ad) (hd : decode cc pc = .ok (.ireturn, 1)) : Bh X cc nL hh fr lo kc kc ad0 ad σ pc lv [.int v] v σ :=
  fun _ _ _ _ _ _ _ _ B _ _ _ hH hS _ => h_fin B hfx hH hS hd
theorem h_goto {off : Int} (tgt : Nat) (hd : decode cc pc = .ok (.goto off, 3)) (ht : (pc : Int) + off = (tgt : Int)) (k : Bh X cc nL hh fr lo kc cs ad0 ad σ tgt lv st r σ') : Bh X cc nL hh fr lo kc cs ad0 ad σ pc lv st r σ' :=
  fun p e s m args below meth c B H locs ls hH hS hl => lv_goto B.1 B.2.1 hd ht (k p e s m args below meth c B H locs ls hH hS hl)
theorem h_if_ne {x : Int32} {off : Int} (tgt : Nat) (hd : decode cc pc = .ok (.ifCond .ne off, 3)) (ht : (pc : Int) + off = (tgt : Int)) (k1 : ¬ x = 0 → Bh X cc nL hh fr lo kc cs ad0 ad σ tgt lv st r σ') (k2 : x = 0 → Bh X cc nL hh fr lo kc cs ad0 ad σ (pc + 3) lv st r σ') : Bh X cc nL hh fr lo kc cs ad0 ad σ pc lv (.int x :: st) r σ' :=
  fun p e s m args below meth c B H locs ls hH hS hl => lv_if_ne B.1 B.2.1 hd ht (fun hc => k1 hc p e s m args below meth c B H locs ls hH hS hl) (fun hc => k2 hc p e s m args below meth c B H locs ls hH hS hl)
theorem h_icmp_ne {x y : Int32} {off : Int} (tgt : Nat) (hd : decode cc pc = .ok (.if_icmp .ne off, 3)) (ht : (pc : Int) + off = (tgt : Int)) (k1 : ¬ x = y → Bh X cc nL hh fr lo kc cs ad0 ad σ tgt lv st r σ') (k2 : x = y → Bh X cc nL hh fr lo kc cs ad0 ad σ (pc + 3) lv st r σ') : Bh X cc nL hh fr lo kc cs ad0 ad σ pc lv (.int y :: .int x :: st) r σ' :=
  fun p e s m args below meth c B H locs ls hH hS hl => lv_icmp_ne B.1 B.2.1 hd ht (fun hc => k1 hc p e s m args below meth c B H locs ls hH hS hl) (fun hc => k2 hc p e s m args below meth c B H locs ls hH hS hl)
theorem h_caught {q j : Nat} {k : Int} (v : Int32) (hv : (Int16.ofInt k).toInt32 = v) (hfx : Fx ad0 ad) (hj : j < nL) (d1 : decode cc pc = .ok (.astore j, 2)) (d2 : decode cc (pc + 2) = .ok (.sipush k, 3)) (d3 : decode cc (pc + 5) = .ok (.ireturn, 1)) : Bh X cc nL hh fr lo kc kc ad0 ad σ pc lv [.ref q] v σ := by
  intro p e s m args below meth c B H locs ls hH hS hl
  exact lv_astore B.1 B.2.1 d1 hl hj rfl (fun ls' hl2 => lv_sipush B.1 B.2.1 d2 hv (h_fin B hfx hH hS d3))
/-- where an exception of the class E is taken -/
def Taken (hh : List (Nat × Nat × Nat × Nat)) (pc : Nat) (E : String) (h : Nat) : Prop := ∃ (j a b ct : Nat) (nm : String), hh[j]? = some (a, b, h, ct) ∧ a ≤ pc ∧ pc < b ∧ ct ≠ 0 ∧ Cond.classLink RL ct nm ∈ G_ ∧ Cond.castable E nm ∈ NW_ ∧ ∀ i, i < j → ∃ (a' b' h' ct' : Nat) (nm' : String), hh[i]? = some (a', b', h', ct') ∧ ct' ≠ 0 ∧ Cond.classLink RL ct' nm' ∈ G_ ∧ (E, nm') ∈ nc3
theorem h_take {p : Program} {e : Env} {s : State} {m : MethodId} {args : Array Value} {below : List Frame} {meth : Method} {c : Code} {R : Room} {H : Heap} {locs : List Loc} {c1 c2 : Nat} {Q : State → Prop} {ls : Array Slot} {E : String} {h q : Nat} {ce : Cell} (B : BodH X cc nL hh p s m args meth c) (ht : Taken hh pc E h) (hcell : H[q]? = some ce) (hv : ce.vm = .none) (hcl : s.vm.findClass E = some ce.cls)
    (kk : W p X.1 e R s m args below meth c H locs c1 c2 Q (F0 m h ls [.ref q])) : vx_W p X.1 e R s m args below meth c H locs c1 c2 Q (F0 m pc ls st) q := by
  obtain ⟨j, a, b, ct, nm, g1, g2, g3, g4, g5, g6, g7⟩ := ht
  have hts := B.2.2.2.2.1
  have hmap := B.2.2.2.2.2.2.2.1
  have hSF := B.2.2.2.2.2.2.2.2.2.1
  have hNc := B.2.2.2.2.2.2.2.2.2.2.2
  have hx : ∃ x, c.exceptionTable.toList[j]? = some x ∧ rowOf x = (a, b, h, ct) := by
    rw [← hmap, List.getElem?_map] at g1
    cases hz : c.exceptionTable.toList[j]? with
    | none => rw [hz] at g1; cases g1
    | some x => rw [hz] at g1; exact ⟨x, rfl, Option.some.inj g1⟩
  obtain ⟨x, hx1, hx2⟩ := hx
  have hxa : x.startPc = a := congrArg (fun z => z.1) hx2
  have hxb : x.endPc = b := congrArg (fun z => z.2.1) hx2
  have hxh : x.handlerPc = h := congrArg (fun z => z.2.2.1) hx2
  have hxc : x.catchType = ct := congrArg (fun z => z.2.2.2) hx2
  have hjl := (List.getElem?_eq_some_iff.mp hx1).1
  have hsplit : c.exceptionTable.toList = c.exceptionTable.toList.take j ++ x :: c.exceptionTable.toList.drop (j + 1) := by
    have e1 := (List.getElem?_eq_some_iff.mp hx1).2
    have e3 := List.drop_eq_getElem_cons hjl
    rw [e1] at e3
    rw [← e3, List.take_append_drop]
  refine vx_catch (name := nm) B.2.2.2.1 _ x _ hsplit (fun z hz => ?_) (by simp [covers, hxa, hxb, g2, g3]) (by rw [hxc]; exact g4) (by rw [hxc]; exact hts _ g5) (nw_at hSF g6) hcell hv hcl (by rw [hxh]; exact kk)
  obtain ⟨i, hi⟩ := List.getElem?_of_mem hz
  have hil := (List.getElem?_eq_some_iff.mp hi).1
  rw [List.length_take] at hil
  have hij : i < j := Nat.lt_of_lt_of_le hil (Nat.min_le_left _ _)
  rw [List.getElem?_take_of_lt hij] at hi
  obtain ⟨a', b', h', ct', nm', k1, k2, k3, k4⟩ := g7 i hij
  rw [← hmap, List.getElem?_map, hi] at k1
  have hzc : z.catchType = ct' := congrArg (fun z => z.2.2.2) (Option.some.inj k1)
  exact Or.inr ⟨by rw [hzc]; exact k2, nm', by rw [hzc]; exact hts _ k3, hNc _ k4⟩
theorem h_callV {y : MethodName} {bytes : ByteArray} {maxL fr' lo' n index : Nat} {kc' : Nat × Nat} {fin' : Ad → Prop} {g : Option ((Int32 ⊕ String) × Wd)} {res1 : Int32 ⊕ String} {σ1 : Wd} {As stack : List Value} (hres : g = some (res1, σ1)) (nc : NC X fin' y bytes maxL (some .int) fr' lo' vI kc' ad σ (.ref (ad 0 0) :: As) g) (hfin' : ∀ ad', fin' ad' → Fx ad ad')
    (hy : y.cls = RX9 ∧ y.cls ≠ "java/lang/invoke/MethodHandle" ∧ y.cls ≠ "java/lang/invoke/VarHandle" ∧ (parseMethodDescriptor y.desc).map (fun d => d.parameters.length) = some n)
    (w1 : Cond.methodLink RL index y ∈ G_) (w2 : Cond.instanceMethod y ∈ G_) (w3 : Cond.selects y.cls y y ∈ G_) (w4 : Cond.initialized y.cls ∈ G_) (w5 : Cond.code y bytes maxL (some .int) ∈ G_)
    (hn : As.length = n) (hst : stack = As.reverse ++ .ref (ad 0 0) :: []) (hroom : fr' + 1 ≤ fr ∧ 8 + (maxL + 11) + lo' ≤ lo) (hkc : kc'.1 ≤ kc.1 ∧ kc'.2 ≤ kc.2 ∧ 1 ≤ kc.1 ∧ 6 ≤ kc.2) (hd : decode cc pc = .ok (.invokevirtual index, 3))
    (k1 : ∀ v, res1 = .inl v → ∀ ad', Fx ad ad' → Bh X cc nL hh fr lo kc kc ad ad' σ1 (pc + 3) lv [.int v] r σ')
    (k2 : ∀ E, res1 = .inr E → ∃ h, Taken hh pc E h ∧ ∀ ad' q, Fx ad ad' → Bh X cc nL hh fr lo kc kc ad ad' σ1 h lv [.ref q] r σ') : Bh X cc nL hh fr lo kc (0, 0) ad ad σ pc lv stack r σ' := by
  intro p e s m args below meth c B H locs ls hH hS hl9
  have hat : va_at X.2.1 vwCl (ad 0 0, .inr (10, [.ref (ad 1 0), .ref (ad 1 1), .ref (ad 4 0), .ref (ad 7 0), .ref (ad 12 0), .ref (ad 19 0), .int (σ.1 0 0 6), .int (σ.1 0 0 7), .int (σ.1 0 0 8), .int (σ.1 0 0 9)])) H := by rw [← cell_0]; exact (hH.1 0 0 (lvs_0 _)).1
  have hts := B.2.2.2.2.1
  have hK := B.2.2.2.2.2.2.2.2.1
  have hSF := B.2.2.2.2.2.2.2.2.2.1
  have hG : GoodIn G_ (wsV RL index y.cls y (Cond.code y bytes maxL (some .int) :: G_)) := fun w hw => by
    have h1 : w ∈ G_ := by
      simp only [wsV, List.cons_append, List.nil_append, List.mem_cons] at hw
      rcases hw with rfl | rfl | rfl | rfl | rfl | h
      · exact w1
      · exact w2
      · exact w3
      · exact w4
      · exact w5
      · exact h
    exact ⟨h1, good_of_word (G_good w h1)⟩
  have hxc : xc kc' res1 ≤ kc.1 ∧ xs kc' res1 ≤ kc.2 := by
    cases res1 with
    | inl v => exact ⟨hkc.1, hkc.2.1⟩
    | inr E => exact ⟨hkc.2.2.1, hkc.2.2.2⟩
  have hrun := vx_runV (R := { frames := fr, cells := kc.1, slots := kc.2, locals := lo }) (e := e) (below := below) (meth := meth) (locs := locs) (cells := 0) (slots := 0) (g := F0 m pc ls stack) (rest := []) ⟨B.1, B.2.1, B.2.2.1, B.2.2.2.1, hts⟩ (nc res1 σ1 hres) (C := y.cls) (cwV n hts hG rfl rfl rfl ⟨rfl, hy.2⟩ hroom) (H := H) (b := ad 0 0) (As := As) ⟨Pn.blind, (by
      have hr := va_recv (q := (RX9, TX9, 10)) (q0 := 0) hK (va_P1 hat) rfl rfl
      rw [hy.1]
      exact hr), fun U hU hW => ⟨rfl, by rw [hU]; exact hH, va_K.moved hW.alike hK, hSF.warm hW (by rw [hU]; exact hS.2.1)⟩⟩ rfl hn hl9.1 hst (lv_room (Nat.le_of_ble_eq_true rfl)) hd ⟨by rw [Nat.zero_add]; exact hxc.1, by rw [Nat.zero_add]; exact hxc.2⟩
  intro T hT Y
  rcases hrun T hT Y with ⟨v0, st0, t, T', L, h0, Y', hL, e1, e2, ⟨⟨v', hv1, hv2, ad', hf', hsw⟩, hF⟩, hgo⟩ | ⟨q, st0, t, T', L, E', ce, h0, Y', hL, e1, e2, ⟨⟨hx, ad', hf', hsw⟩, hF⟩, hce, hcv, hcl, hst2⟩
  · cases hv2
    obtain ⟨q1, q2, q3⟩ := vx_keep h0 e1 hS (fun _ _ z => z) (fun _ z => z) hL hF
    have hfx := hfin' ad' hf'
    have kx := k1 v' hv1 ad' hfx
    obtain ⟨t2, a1, b1⟩ := kx p e s m args below meth c B T'.heap (locs ++ L) ls (by rw [e1]; exact hsw) q3 hl9 T' rfl (stand_widen Y' (by rw [Nat.zero_add]; exact hxc.1) (by rw [Nat.zero_add]; exact hxc.2))
    exact ⟨t2, hgo t2 a1, b1⟩
  · obtain ⟨q1, q2, q3⟩ := vx_keep h0 e1 hS (fun _ _ z => z) (fun _ z => z) hL hF
    have hfx := hfin' ad' hf'
    obtain ⟨h, g1, g2⟩ := k2 E' hx
    have hout := h_take (R := { frames := fr, cells := kc.1, slots := kc.2, locals := lo }) (st := []) (ls := ls) (locs := locs ++ L) (c1 := kc.1) (c2 := kc.2) B g1 (by rw [e1]; exact hce) hcv hcl (g2 ad' q hfx p e s m args below meth c B T'.heap (locs ++ L) ls (by rw [e1]; exact hsw) q3 hl9)
    obtain ⟨t2, a1, b1⟩ := hout T' rfl (stand_widen Y' (by rw [Nat.zero_add]; exact hxc.1) (by rw [Nat.zero_add]; exact hxc.2))
    exact ⟨t2, hst2.trans a1, b1⟩
end HBK
/-- what a method that catches answers -/
def wrapF (h1 h3 : Option Int32) (g : Option ((Int32 ⊕ String) × Wd)) : Option (Int32 × Wd) := match g with
  | none => none
  | some (.inl v, σ1) => some (v, σ1)
  | some (.inr E, σ1) => if E = "java/lang/IndexOutOfBoundsException" then h1.map (fun k => (k, σ1)) else if E = "java/lang/IllegalStateException" then h3.map (fun k => (k, σ1)) else none
theorem wrapF_cases {h1 h3 : Option Int32} {g : Option ((Int32 ⊕ String) × Wd)} {r : Int32} {σ' : Wd} (h : wrapF h1 h3 g = some (r, σ')) : ∃ res1 σ1, g = some (res1, σ1) ∧ (∀ v, res1 = .inl v → r = v ∧ σ' = σ1) ∧ ∀ E, res1 = .inr E → σ' = σ1 ∧ ((E = "java/lang/IndexOutOfBoundsException" ∧ h1 = some r) ∨ (E = "java/lang/IllegalStateException" ∧ h3 = some r)) := by
  unfold wrapF at h
  match g, h with
  | some (.inl v, σ1), h =>
    cases h
    exact ⟨_, _, rfl, fun v' hv => by cases hv; exact ⟨rfl, rfl⟩, fun E hE => by cases hE⟩
  | some (.inr E, σ1), h =>
    refine ⟨_, _, rfl, fun v' hv => (by cases hv), fun E' hE => ?_⟩
    cases hE
    dsimp only at h
    by_cases e1 : E = "java/lang/IndexOutOfBoundsException"
    · rw [if_pos e1] at h
      obtain ⟨k, hk, hk2⟩ := Option.map_eq_some_iff.mp h
      cases hk2
      exact ⟨rfl, Or.inl ⟨e1, hk⟩⟩
    · rw [if_neg e1] at h
      by_cases e3 : E = "java/lang/IllegalStateException"
      · rw [if_pos e3] at h
        obtain ⟨k, hk, hk2⟩ := Option.map_eq_some_iff.mp h
        cases hk2
        exact ⟨rfl, Or.inr ⟨e3, hk⟩⟩
      · rw [if_neg e3] at h
        cases h
/-! two instructions more -/
section RBK3
variable {α : Type} {X : Xt} {fin : Ad → Prop} {cc : ByteArray} {nL : Nat} {own : String} {rt : Option FieldType} {fr lo : Nat} {val : α → Option Value} {kc cs : Nat × Nat} {ad : Ad} {σ : Wd} {pc : Nat} {lv : List (Nat × Value)} {st : List Value} {f : Option ((α ⊕ String) × Wd)}
theorem r_irem {x y : Int32} (hne : ¬ y = 0) (hd : decode cc pc = .ok (.irem, 1)) (k : Bk X fin cc nL own rt fr lo val kc cs ad σ (pc + 1) lv (.int (x - x / y * y) :: st) f) : Bk X fin cc nL own rt fr lo val kc cs ad σ pc lv (.int y :: .int x :: st) f :=
  fun res σ' h p e s m args below meth c B H locs ls hH hS hl => lv_irem B.1 B.2.1 hd hne (k res σ' h p e s m args below meth c B H locs ls hH hS hl)
theorem r_iushr {x y : Int32} (hd : decode cc pc = .ok (.iushr, 1)) (k : Bk X fin cc nL own rt fr lo val kc cs ad σ (pc + 1) lv (.int (x.toUInt32 >>> (y.toUInt32 &&& Int32.toUInt32 31)).toInt32 :: st) f) : Bk X fin cc nL own rt fr lo val kc cs ad σ pc lv (.int y :: .int x :: st) f :=
  fun res σ' h p e s m args below meth c B H locs ls hH hS hl => lv_iushr B.1 B.2.1 hd rfl (k res σ' h p e s m args below meth c B H locs ls hH hS hl)
end RBK3
/-! a method that reads the script -/
def PnC (X : Xt) (ad : Ad) (σ : Wd) (b L : Nat) (xs : Nat → Int32) (avs : List Value) : Array Value → State → Prop := fun v U => v = avs.toArray ∧ SW X ad σ U ∧ va_X b L xs U U.heap ∧ b < U.heap.size
theorem PnC.blind {X : Xt} {ad : Ad} {σ : Wd} {b L : Nat} {xs : Nat → Int32} {avs : List Value} : FrameBlind (PnC X ad σ b L xs avs) := fun a U g mk h => ⟨h.1, h.2.1.calling g mk a, va_X.moved (u := U) (U := U.calling g mk a) (Vm.Alike.refl U.vm) h.2.2.1, h.2.2.2⟩
/-- what the law's cell answers -/
def cellF (L : Nat) (xs : Nat → Int32) (k : Int32) : Int32 := if Int32.ofNat L = 0 then 0 else xs (k - k / Int32.ofNat L * Int32.ofNat L).toNatClampNeg + 31 * k
theorem nc_cell (X : Xt) (hst : X.1.stackTraces = false) (ad : Ad) (σ : Wd) (b L : Nat) (xs : Nat → Int32) (hb : ¬ Az X b) (k : Int32) (hk : ¬ Int32.ofNat L = 0 → inb (k - k / Int32.ofNat L * Int32.ofNat L) L) : vx_Met X.1 yL_cell (Cond.code yL_cell cL_cell 2 (some .int) :: G_) { frames := 0, cells := 0, slots := 0, locals := 0 } (PnC X ad σ b L xs [.ref b, .int k]) (Qn X (fun a => a = ad) vI (.inl (cellF L xs k) : Int32 ⊕ String) σ) (Qx X (fun a => a = ad) (.inl (cellF L xs k) : Int32 ⊕ String) σ) 0 0 (Az X) := by
  refine vx_ofW (cc := cL_cell) (maxL := 2) (ret := some .int) (by decide) rfl ?_
  intro p e s m args below meth c s₁ B hml htab hv
  obtain ⟨rfl, ⟨hHW, hK, hSF⟩, hX, hbl⟩ := hv
  rw [lg_entry_eq]
  have hl := lv_entry ([.ref b, .int k]) (n := 2) (Nat.le_of_ble_eq_true rfl)
  generalize (lg_sl ([.ref b, .int k]) ++ List.replicate (2 - (lg_sl ([.ref b, .int k])).length) Slot.unset).toArray = ls at hl ⊢
  have hl : lv_has ls 2 [(0, .ref b), (1, .int k)] := hl
  have hx := B.exec
  have hcb := B.bytes
  have fin : ∀ v : Int32, v = cellF L xs k → W p X.1 e { frames := 0, cells := 0, slots := 0, locals := 0 } s m [Value.ref b, Value.int k].toArray below meth c s.heap [] 0 0 (vx_MQ below (Qn X (fun a => a = ad) vI (.inl (cellF L xs k) : Int32 ⊕ String) σ) (Qx X (fun a => a = ad) (.inl (cellF L xs k) : Int32 ⊕ String) σ) [Value.ref b, Value.int k].toArray s 0 0 (Az X)) (F0 m 20 ls [.int v]) := fun v hv9 =>
    vx_ret (W.iret hx hcb B.returns (fun t ht hW => ⟨⟨cellF L xs k, rfl, by rw [hv9], ad, rfl, by rw [ht]; exact hHW⟩, va_S.rf.F ht⟩) (va_S.rf (A := Az X) (H0 := s.heap)).2.2 dL_cell_20 B.notSynchronized)
  refine lv_aload_n hx hcb dL_cell_0 rfl (lv_at hl 0 rfl) ?_
  refine va_slen hx hcb hX hbl hb va_S.rf dL_cell_1 ?_
  refine lv_if_ne hx hcb dL_cell_2 (tgt := 9) (by decide) (fun hc => ?_) (fun hc => ?_)
  · refine lv_aload_n hx hcb dL_cell_9 rfl (lv_at hl 0 rfl) ?_
    refine lv_iload_n hx hcb dL_cell_10 rfl (lv_at hl 1 rfl) ?_
    refine lv_aload_n hx hcb dL_cell_11 rfl (lv_at hl 0 rfl) ?_
    refine va_slen hx hcb hX hbl hb va_S.rf dL_cell_12 ?_
    refine lv_irem hx hcb dL_cell_13 hc ?_
    refine va_sld hx hcb hX hbl hb va_S.rf (inb_vp (hk hc)) dL_cell_14 ?_
    refine lv_bipush (v := 31) hx hcb dL_cell_15 (by decide) ?_
    refine lv_iload_n hx hcb dL_cell_17 rfl (lv_at hl 1 rfl) ?_
    refine lv_imul hx hcb dL_cell_18 ?_
    refine lv_iadd hx hcb dL_cell_19 ?_
    exact fin _ (by unfold cellF; rw [if_neg hc])
  · refine lv_iconst (v := 0) hx hcb dL_cell_5 (by decide) ?_
    refine lv_goto hx hcb dL_cell_6 (tgt := 20) (by decide) ?_
    exact fin _ (by unfold cellF; rw [if_pos hc])
def R_law : String := "StablingroadLaw"
def lw_P (b : Addr) (xs : List Int32) (args : Array Value) (s : State) : Prop := args = #[.ref b] ∧ s.IntsAt b xs ∧ xs.length ≤ 260 ∧ (Jvm.Cond.and given_1 narrow_1).before args s = true
def lw_Q (_ : Array Value) (s : State) (o : Outcome) (t : State) : Prop := o = .returned (some (.int 1)) ∧ Framed s o t [] 611299 7267802
def lw_Z (below : List Frame) (a : Array Value) (s : State) : State → Prop := fun t => ∃ o, t.status = .running ∧ Ended t below o ∧ lw_Q a s o t
/-- the law's own end, with 1 on the stack, nothing written that was there before, its room as the claim has it -/
theorem lw_ret {p : Program} {l : Launch} {e : Env} {s : State} {m : MethodId} {below : List Frame} {meth : Method} {c : Code} {b : Nat} (hx : p.tables.exec = Jvm.exec) (hb : c.code = code) (hr : meth.sig.returnType = ret) (hlocks : meth.locks = false) {pc : Nat} {H : Heap} {ls : Array Slot} (hdg : decode code pc = .ok (.ireturn, 1)) : W p l e room_1 s m #[Value.ref b] below meth c H [] 611299 7267802 (lw_Z below #[Value.ref b] s) (F0 m pc ls [.int 1]) := by
  intro T hT X
  obtain ⟨fs, hret, hrun, hended, hW, hframe⟩ := X.leave (v := some (.int 1)) (hlocks := hlocks) (fun h => by rw [hr] at h; cases h)
  have hmeth' : T.vm.method? m = some meth := X.method'
  refine ⟨T.setFrames fs, ?_, .returned (some (.int 1)), hrun, hended, rfl, ⟨_, rfl⟩, hW, hframe⟩
  jvm_step X.here [X.here.top, hx, hb, hdg, hmeth', hr, ret, narrow_b1]
  (try refine ⟨rfl, ?_⟩); (try refine ⟨rfl, ?_⟩)
  first | (intro acts; rw [hret _ acts rfl rfl rfl]) | rw [hret _ _ rfl rfl rfl]
  exact Steps.refl _
/-- what holds at the law's entry: the machine, the code, the tables' words (any of lw_tbl by 'hts w (by decide +kernel)'), the script of L ints xs at the cell b, what the Statement gives of the start (any of its parts by flat_of_before) -/
def lw_At (p : Program) (s : State) (m : MethodId) (meth : Method) (c : Code) (b L : Nat) (xs : Nat → Int32) : Prop :=
  p.tables.exec = Jvm.exec ∧ c.code = code ∧ meth.sig.returnType = ret ∧ c.maxLocals = 25 ∧ s.vm.findClass R_law = some m.cls ∧ (∀ w ∈ lw_tbl, w.before #[Value.ref b] s = true) ∧ va_X b L xs s s.heap ∧ b < s.heap.size ∧ meth.locks = false ∧ (Jvm.Cond.and given_1 narrow_1).before #[Value.ref b] s = true

/-! the law's body -/
def LC (X : Xt) (b L : Nat) (xs : Nat → Int32) (p : Program) (s : State) (m : MethodId) (meth : Method) (c : Code) : Prop := p.tables.exec = Jvm.exec ∧ c.code = cL_law ∧ c.maxLocals = 25 ∧ s.vm.findClass RL = some m.cls ∧ (∀ w ∈ G_, w.before #[Value.ref b] s = true) ∧ meth.sig.returnType = some .boolean ∧ meth.locks = false ∧ True ∧ va_K X.2.1 vwCl (tysX X) s ∧ SF X s ∧ X.1.stackTraces = false ∧ NcS s ∧ va_X b L xs s s.heap ∧ b < s.heap.size ∧ X.2.2.2.1 = s.heap.size
def Lw (X : Xt) (b L : Nat) (xs : Nat → Int32) (cs : Nat × Nat) (ad : Ad) (σ : Wd) (pc : Nat) (lv : List (Nat × Value)) (st : List Value) : Prop := ∀ p e s m below meth c, LC X b L xs p s m meth c → ∀ H locs ls, HW X ad σ H → va_S (Az X) s.heap H locs → lv_has ls 25 lv → W p X.1 e room_1 s m #[Value.ref b] below meth c H locs cs.1 cs.2 (lw_Z below #[Value.ref b] s) (F0 m pc ls st)
/-- what the function says, the law does; N calls may make things yet -/
def Lk (X : Xt) (b L : Nat) (xs : Nat → Int32) (N : Nat) (ad : Ad) (σ : Wd) (pc : Nat) (lv : List (Nat × Value)) (st : List Value) (f : Option Unit) : Prop := f = some () → ∀ cs : Nat × Nat, cs.1 + 6 * N ≤ 600000 → cs.2 + 30 * N ≤ 7000000 → ∀ p e s m below meth c, LC X b L xs p s m meth c → ∀ H locs ls, HW X ad σ H → va_S (Az X) s.heap H locs → lv_has ls 25 lv → W p X.1 e room_1 s m #[Value.ref b] below meth c H locs cs.1 cs.2 (lw_Z below #[Value.ref b] s) (F0 m pc ls st)
/-- behind a call that comes back -/
def bu {β : Type} (g : Option ((β ⊕ String) × Wd)) (k : β → Wd → Option Unit) : Option Unit := match g with
  | some (.inl v, σ1) => k v σ1
  | _ => none
def bv (g : Option (Int32 × Wd)) (k : Int32 → Wd → Option Unit) : Option Unit := match g with
  | some (v, σ1) => k v σ1
  | none => none
theorem bu_cases {β : Type} {g : Option ((β ⊕ String) × Wd)} {k : β → Wd → Option Unit} (h : bu g k = some ()) : ∃ v σ1, g = some (.inl v, σ1) ∧ k v σ1 = some () := by
  unfold bu at h
  match g, h with
  | some (.inl v, σ1), h => exact ⟨v, σ1, rfl, h⟩
theorem bv_cases {g : Option (Int32 × Wd)} {k : Int32 → Wd → Option Unit} (h : bv g k = some ()) : ∃ v σ1, g = some (v, σ1) ∧ k v σ1 = some () := by
  unfold bv at h
  match g, h with
  | some (v, σ1), h => exact ⟨v, σ1, rfl, h⟩
section KBK
variable {X : Xt} {b L : Nat} {xs : Nat → Int32} {N : Nat} {ad : Ad} {σ : Wd} {pc : Nat} {lv : List (Nat × Value)} {st : List Value} {f f1 f2 : Option Unit}
theorem k_none : Lk X b L xs N ad σ pc lv st none := fun h => nomatch h
theorem k_less {M : Nat} (hM : M ≤ N) (k : Lk X b L xs M ad σ pc lv st f) : Lk X b L xs N ad σ pc lv st f := fun h cs g1 g2 => k h cs (by omega) (by omega)
theorem k_gd {c : Prop} [Decidable c] (k : c → Lk X b L xs N ad σ pc lv st f) : Lk X b L xs N ad σ pc lv st (gd c f) := fun h => k (gd_some h).1 (gd_some h).2
theorem k_sub {lv' : List (Nat × Value)} (ks : List Nat) (hk : lv_pick lv ks = lv') (k : Lk X b L xs N ad σ pc lv' st f) : Lk X b L xs N ad σ pc lv st f :=
  fun h cs g1 g2 p e s m below meth c B H locs ls hH hS hl => k h cs g1 g2 p e s m below meth c B H locs ls hH hS (lv_sub hl ks hk)
theorem k_bd {γ : Type} {x : γ} {kf : γ → Option Unit} (k : Lk X b L xs N ad σ pc lv st (kf x)) : Lk X b L xs N ad σ pc lv st (bd x kf) := k
theorem k_iconst {n : Int} (v : Int32) (hv : Int32.ofInt n = v) (hd : decode cL_law pc = .ok (.iconst n, 1)) (k : Lk X b L xs N ad σ (pc + 1) lv (.int v :: st) f) : Lk X b L xs N ad σ pc lv st f :=
  fun h cs g1 g2 p e s m below meth c B H locs ls hH hS hl => lv_iconst B.1 B.2.1 hd hv (k h cs g1 g2 p e s m below meth c B H locs ls hH hS hl)
theorem k_bipush {n : Int} (v : Int32) (hv : (Int8.ofInt n).toInt32 = v) (hd : decode cL_law pc = .ok (.bipush n, 2)) (k : Lk X b L xs N ad σ (pc + 2) lv (.int v :: st) f) : Lk X b L xs N ad σ pc lv st f :=
  fun h cs g1 g2 p e s m below meth c B H locs ls hH hS hl => lv_bipush B.1 B.2.1 hd hv (k h cs g1 g2 p e s m below meth c B H locs ls hH hS hl)
theorem k_sipush {n : Int} (v : Int32) (hv : (Int16.ofInt n).toInt32 = v) (hd : decode cL_law pc = .ok (.sipush n, 3)) (k : Lk X b L xs N ad σ (pc + 3) lv (.int v :: st) f) : Lk X b L xs N ad σ pc lv st f :=
  fun h cs g1 g2 p e s m below meth c B H locs ls hH hS hl => lv_sipush B.1 B.2.1 hd hv (k h cs g1 g2 p e s m below meth c B H locs ls hH hS hl)
theorem k_ldc {index : Nat} (v : Int32) (w : Cond.constant RL index v ∈ G_) (hd : decode cL_law pc = .ok (.ldc index, 2)) (k : Lk X b L xs N ad σ (pc + 2) lv (.int v :: st) f) : Lk X b L xs N ad σ pc lv st f :=
  fun h cs g1 g2 p e s m below meth c B H locs ls hH hS hl => lv_ldc B.1 B.2.1 B.2.2.2.1 (B.2.2.2.2.1 _ w) hd (k h cs g1 g2 p e s m below meth c B H locs ls hH hS hl)
theorem k_iload_n {j : Fin 4} {x : Int32} (q : Nat) (hq : lv[q]? = some ((j : Nat), .int x)) (hd : decode cL_law pc = .ok (.iload_n j, 1)) (k : Lk X b L xs N ad σ (pc + 1) lv (.int x :: st) f) : Lk X b L xs N ad σ pc lv st f :=
  fun h cs g1 g2 p e s m below meth c B H locs ls hH hS hl => lv_iload_n B.1 B.2.1 hd rfl (lv_at hl q hq) (k h cs g1 g2 p e s m below meth c B H locs ls hH hS hl)
theorem k_iload {j : Nat} {x : Int32} (q : Nat) (hq : lv[q]? = some (j, .int x)) (hd : decode cL_law pc = .ok (.iload j, 2)) (k : Lk X b L xs N ad σ (pc + 2) lv (.int x :: st) f) : Lk X b L xs N ad σ pc lv st f :=
  fun h cs g1 g2 p e s m below meth c B H locs ls hH hS hl => lv_iload B.1 B.2.1 hd (lv_at hl q hq) (k h cs g1 g2 p e s m below meth c B H locs ls hH hS hl)
theorem k_aload_n {j : Fin 4} {x : Nat} (q : Nat) (hq : lv[q]? = some ((j : Nat), .ref x)) (hd : decode cL_law pc = .ok (.aload_n j, 1)) (k : Lk X b L xs N ad σ (pc + 1) lv (.ref x :: st) f) : Lk X b L xs N ad σ pc lv st f :=
  fun h cs g1 g2 p e s m below meth c B H locs ls hH hS hl => lv_aload_n B.1 B.2.1 hd rfl (lv_at hl q hq) (k h cs g1 g2 p e s m below meth c B H locs ls hH hS hl)
theorem k_aload {j : Nat} {x : Nat} (q : Nat) (hq : lv[q]? = some (j, .ref x)) (hd : decode cL_law pc = .ok (.aload j, 2)) (k : Lk X b L xs N ad σ (pc + 2) lv (.ref x :: st) f) : Lk X b L xs N ad σ pc lv st f :=
  fun h cs g1 g2 p e s m below meth c B H locs ls hH hS hl => lv_aload B.1 B.2.1 hd (lv_at hl q hq) (k h cs g1 g2 p e s m below meth c B H locs ls hH hS hl)
theorem k_istore_n {j : Fin 4} {x : Int32} (lv' : List (Nat × Value)) (hl' : ((j : Nat), Value.int x) :: lv.filter (fun q => !(q.1 == (j : Nat)) && !(q.1 + 1 == (j : Nat) && q.2.category == 2)) = lv') (hn : (j : Nat) < 25) (hd : decode cL_law pc = .ok (.istore_n j, 1)) (k : Lk X b L xs N ad σ (pc + 1) lv' st f) : Lk X b L xs N ad σ pc lv (.int x :: st) f :=
  fun h cs g1 g2 p e s m below meth c B H locs ls hH hS hl => lv_istore_n B.1 B.2.1 hd rfl hl hn hl' (fun ls' hl2 => k h cs g1 g2 p e s m below meth c B H locs ls' hH hS hl2)
theorem k_istore {j : Nat} {x : Int32} (lv' : List (Nat × Value)) (hl' : (j, Value.int x) :: lv.filter (fun q => !(q.1 == j) && !(q.1 + 1 == j && q.2.category == 2)) = lv') (hn : j < 25) (hd : decode cL_law pc = .ok (.istore j, 2)) (k : Lk X b L xs N ad σ (pc + 2) lv' st f) : Lk X b L xs N ad σ pc lv (.int x :: st) f :=
  fun h cs g1 g2 p e s m below meth c B H locs ls hH hS hl => lv_istore B.1 B.2.1 hd hl hn hl' (fun ls' hl2 => k h cs g1 g2 p e s m below meth c B H locs ls' hH hS hl2)
theorem k_iinc {i : Nat} {n : Int} {x : Int32} (d : Int32) (lv' : List (Nat × Value)) (q : Nat) (hq : lv[q]? = some (i, .int x)) (hdv : Int32.ofInt n = d) (hl' : (i, Value.int (x + d)) :: lv.filter (fun q => !(q.1 == i) && !(q.1 + 1 == i && q.2.category == 2)) = lv') (hn : i < 25) (hd : decode cL_law pc = .ok (.iinc i n, 3)) (k : Lk X b L xs N ad σ (pc + 3) lv' st f) : Lk X b L xs N ad σ pc lv st f :=
  fun h cs g1 g2 p e s m below meth c B H locs ls hH hS hl => lv_iinc B.1 B.2.1 hd hl hq (by rw [hdv]) hn hl' (fun ls' hl2 => k h cs g1 g2 p e s m below meth c B H locs ls' hH hS hl2)
theorem k_iadd {x y : Int32} (hd : decode cL_law pc = .ok (.iadd, 1)) (k : Lk X b L xs N ad σ (pc + 1) lv (.int (x + y) :: st) f) : Lk X b L xs N ad σ pc lv (.int y :: .int x :: st) f :=
  fun h cs g1 g2 p e s m below meth c B H locs ls hH hS hl => lv_iadd B.1 B.2.1 hd (k h cs g1 g2 p e s m below meth c B H locs ls hH hS hl)
theorem k_isub {x y : Int32} (hd : decode cL_law pc = .ok (.isub, 1)) (k : Lk X b L xs N ad σ (pc + 1) lv (.int (x - y) :: st) f) : Lk X b L xs N ad σ pc lv (.int y :: .int x :: st) f :=
  fun h cs g1 g2 p e s m below meth c B H locs ls hH hS hl => lv_isub B.1 B.2.1 hd (k h cs g1 g2 p e s m below meth c B H locs ls hH hS hl)
theorem k_imul {x y : Int32} (hd : decode cL_law pc = .ok (.imul, 1)) (k : Lk X b L xs N ad σ (pc + 1) lv (.int (x * y) :: st) f) : Lk X b L xs N ad σ pc lv (.int y :: .int x :: st) f :=
  fun h cs g1 g2 p e s m below meth c B H locs ls hH hS hl => lv_imul B.1 B.2.1 hd (k h cs g1 g2 p e s m below meth c B H locs ls hH hS hl)
theorem k_iand {x y : Int32} (hd : decode cL_law pc = .ok (.iand, 1)) (k : Lk X b L xs N ad σ (pc + 1) lv (.int (x &&& y) :: st) f) : Lk X b L xs N ad σ pc lv (.int y :: .int x :: st) f :=
  fun h cs g1 g2 p e s m below meth c B H locs ls hH hS hl => lv_iand B.1 B.2.1 hd (k h cs g1 g2 p e s m below meth c B H locs ls hH hS hl)
theorem k_idiv {x y : Int32} (hne : ¬ y = 0) (hd : decode cL_law pc = .ok (.idiv, 1)) (k : Lk X b L xs N ad σ (pc + 1) lv (.int (x / y) :: st) f) : Lk X b L xs N ad σ pc lv (.int y :: .int x :: st) f :=
  fun h cs g1 g2 p e s m below meth c B H locs ls hH hS hl => lv_idiv B.1 B.2.1 hd hne (k h cs g1 g2 p e s m below meth c B H locs ls hH hS hl)
theorem k_dup2 {v w : Value} (hv : v.category = 1) (hw : w.category = 1) (hd : decode cL_law pc = .ok (.dup2, 1)) (k : Lk X b L xs N ad σ (pc + 1) lv (v :: w :: v :: w :: st) f) : Lk X b L xs N ad σ pc lv (v :: w :: st) f :=
  fun h cs g1 g2 p e s m below meth c B H locs ls hH hS hl => lv_dup2_11 B.1 B.2.1 hd hv hw (k h cs g1 g2 p e s m below meth c B H locs ls hH hS hl)
theorem k_goto {off : Int} (tgt : Nat) (hd : decode cL_law pc = .ok (.goto off, 3)) (ht : (pc : Int) + off = (tgt : Int)) (k : Lk X b L xs N ad σ tgt lv st f) : Lk X b L xs N ad σ pc lv st f :=
  fun h cs g1 g2 p e s m below meth c B H locs ls hH hS hl => lv_goto B.1 B.2.1 hd ht (k h cs g1 g2 p e s m below meth c B H locs ls hH hS hl)
theorem k_if_eq {x : Int32} {off : Int} (tgt : Nat) (hd : decode cL_law pc = .ok (.ifCond .eq off, 3)) (ht : (pc : Int) + off = (tgt : Int)) (k1 : Lk X b L xs N ad σ tgt lv st f1) (k2 : Lk X b L xs N ad σ (pc + 3) lv st f2) : Lk X b L xs N ad σ pc lv (.int x :: st) (if x = 0 then f1 else f2) := by
  intro h cs g1 g2 p e s m below meth c B H locs ls hH hS hl
  refine lv_if_eq B.1 B.2.1 hd ht (fun hc => k1 (by rw [if_pos hc] at h; exact h) cs g1 g2 p e s m below meth c B H locs ls hH hS hl) (fun hc => k2 (by rw [if_neg hc] at h; exact h) cs g1 g2 p e s m below meth c B H locs ls hH hS hl)
theorem k_icmp_eq {x y : Int32} {off : Int} (tgt : Nat) (hd : decode cL_law pc = .ok (.if_icmp .eq off, 3)) (ht : (pc : Int) + off = (tgt : Int)) (k1 : Lk X b L xs N ad σ tgt lv st f1) (k2 : Lk X b L xs N ad σ (pc + 3) lv st f2) : Lk X b L xs N ad σ pc lv (.int y :: .int x :: st) (if x = y then f1 else f2) := by
  intro h cs g1 g2 p e s m below meth c B H locs ls hH hS hl
  refine lv_icmp_eq B.1 B.2.1 hd ht (fun hc => k1 (by rw [if_pos hc] at h; exact h) cs g1 g2 p e s m below meth c B H locs ls hH hS hl) (fun hc => k2 (by rw [if_neg hc] at h; exact h) cs g1 g2 p e s m below meth c B H locs ls hH hS hl)
theorem k_if_ne {x : Int32} {off : Int} (tgt : Nat) (hd : decode cL_law pc = .ok (.ifCond .ne off, 3)) (ht : (pc : Int) + off = (tgt : Int)) (k1 : Lk X b L xs N ad σ (pc + 3) lv st f1) (k2 : Lk X b L xs N ad σ tgt lv st f2) : Lk X b L xs N ad σ pc lv (.int x :: st) (if x = 0 then f1 else f2) := by
  intro h cs g1 g2 p e s m below meth c B H locs ls hH hS hl
  refine lv_if_ne B.1 B.2.1 hd ht (fun hc => k2 (by rw [if_neg hc] at h; exact h) cs g1 g2 p e s m below meth c B H locs ls hH hS hl) (fun hc => k1 (by rw [if_pos hc] at h; exact h) cs g1 g2 p e s m below meth c B H locs ls hH hS hl)
theorem k_icmp_ne {x y : Int32} {off : Int} (tgt : Nat) (hd : decode cL_law pc = .ok (.if_icmp .ne off, 3)) (ht : (pc : Int) + off = (tgt : Int)) (k1 : Lk X b L xs N ad σ (pc + 3) lv st f1) (k2 : Lk X b L xs N ad σ tgt lv st f2) : Lk X b L xs N ad σ pc lv (.int y :: .int x :: st) (if x = y then f1 else f2) := by
  intro h cs g1 g2 p e s m below meth c B H locs ls hH hS hl
  refine lv_icmp_ne B.1 B.2.1 hd ht (fun hc => k2 (by rw [if_neg hc] at h; exact h) cs g1 g2 p e s m below meth c B H locs ls hH hS hl) (fun hc => k1 (by rw [if_pos hc] at h; exact h) cs g1 g2 p e s m below meth c B H locs ls hH hS hl)
theorem k_if_lt {x : Int32} {off : Int} (tgt : Nat) (hd : decode cL_law pc = .ok (.ifCond .lt off, 3)) (ht : (pc : Int) + off = (tgt : Int)) (k1 : Lk X b L xs N ad σ tgt lv st f1) (k2 : Lk X b L xs N ad σ (pc + 3) lv st f2) : Lk X b L xs N ad σ pc lv (.int x :: st) (if x < 0 then f1 else f2) := by
  intro h cs g1 g2 p e s m below meth c B H locs ls hH hS hl
  refine lv_if_lt B.1 B.2.1 hd ht (fun hc => k1 (by rw [if_pos hc] at h; exact h) cs g1 g2 p e s m below meth c B H locs ls hH hS hl) (fun hc => k2 (by rw [if_neg hc] at h; exact h) cs g1 g2 p e s m below meth c B H locs ls hH hS hl)
theorem k_icmp_lt {x y : Int32} {off : Int} (tgt : Nat) (hd : decode cL_law pc = .ok (.if_icmp .lt off, 3)) (ht : (pc : Int) + off = (tgt : Int)) (k1 : Lk X b L xs N ad σ tgt lv st f1) (k2 : Lk X b L xs N ad σ (pc + 3) lv st f2) : Lk X b L xs N ad σ pc lv (.int y :: .int x :: st) (if x < y then f1 else f2) := by
  intro h cs g1 g2 p e s m below meth c B H locs ls hH hS hl
  refine lv_icmp_lt B.1 B.2.1 hd ht (fun hc => k1 (by rw [if_pos hc] at h; exact h) cs g1 g2 p e s m below meth c B H locs ls hH hS hl) (fun hc => k2 (by rw [if_neg hc] at h; exact h) cs g1 g2 p e s m below meth c B H locs ls hH hS hl)
theorem k_if_ge {x : Int32} {off : Int} (tgt : Nat) (hd : decode cL_law pc = .ok (.ifCond .ge off, 3)) (ht : (pc : Int) + off = (tgt : Int)) (k1 : Lk X b L xs N ad σ tgt lv st f1) (k2 : Lk X b L xs N ad σ (pc + 3) lv st f2) : Lk X b L xs N ad σ pc lv (.int x :: st) (if 0 ≤ x then f1 else f2) := by
  intro h cs g1 g2 p e s m below meth c B H locs ls hH hS hl
  refine lv_if_ge B.1 B.2.1 hd ht (fun hc => k1 (by rw [if_pos hc] at h; exact h) cs g1 g2 p e s m below meth c B H locs ls hH hS hl) (fun hc => k2 (by rw [if_neg hc] at h; exact h) cs g1 g2 p e s m below meth c B H locs ls hH hS hl)
theorem k_icmp_ge {x y : Int32} {off : Int} (tgt : Nat) (hd : decode cL_law pc = .ok (.if_icmp .ge off, 3)) (ht : (pc : Int) + off = (tgt : Int)) (k1 : Lk X b L xs N ad σ tgt lv st f1) (k2 : Lk X b L xs N ad σ (pc + 3) lv st f2) : Lk X b L xs N ad σ pc lv (.int y :: .int x :: st) (if y ≤ x then f1 else f2) := by
  intro h cs g1 g2 p e s m below meth c B H locs ls hH hS hl
  refine lv_icmp_ge B.1 B.2.1 hd ht (fun hc => k1 (by rw [if_pos hc] at h; exact h) cs g1 g2 p e s m below meth c B H locs ls hH hS hl) (fun hc => k2 (by rw [if_neg hc] at h; exact h) cs g1 g2 p e s m below meth c B H locs ls hH hS hl)
theorem k_if_gt {x : Int32} {off : Int} (tgt : Nat) (hd : decode cL_law pc = .ok (.ifCond .gt off, 3)) (ht : (pc : Int) + off = (tgt : Int)) (k1 : Lk X b L xs N ad σ tgt lv st f1) (k2 : Lk X b L xs N ad σ (pc + 3) lv st f2) : Lk X b L xs N ad σ pc lv (.int x :: st) (if 0 < x then f1 else f2) := by
  intro h cs g1 g2 p e s m below meth c B H locs ls hH hS hl
  refine lv_if_gt B.1 B.2.1 hd ht (fun hc => k1 (by rw [if_pos hc] at h; exact h) cs g1 g2 p e s m below meth c B H locs ls hH hS hl) (fun hc => k2 (by rw [if_neg hc] at h; exact h) cs g1 g2 p e s m below meth c B H locs ls hH hS hl)
theorem k_icmp_gt {x y : Int32} {off : Int} (tgt : Nat) (hd : decode cL_law pc = .ok (.if_icmp .gt off, 3)) (ht : (pc : Int) + off = (tgt : Int)) (k1 : Lk X b L xs N ad σ tgt lv st f1) (k2 : Lk X b L xs N ad σ (pc + 3) lv st f2) : Lk X b L xs N ad σ pc lv (.int y :: .int x :: st) (if y < x then f1 else f2) := by
  intro h cs g1 g2 p e s m below meth c B H locs ls hH hS hl
  refine lv_icmp_gt B.1 B.2.1 hd ht (fun hc => k1 (by rw [if_pos hc] at h; exact h) cs g1 g2 p e s m below meth c B H locs ls hH hS hl) (fun hc => k2 (by rw [if_neg hc] at h; exact h) cs g1 g2 p e s m below meth c B H locs ls hH hS hl)
theorem k_if_le {x : Int32} {off : Int} (tgt : Nat) (hd : decode cL_law pc = .ok (.ifCond .le off, 3)) (ht : (pc : Int) + off = (tgt : Int)) (k1 : Lk X b L xs N ad σ tgt lv st f1) (k2 : Lk X b L xs N ad σ (pc + 3) lv st f2) : Lk X b L xs N ad σ pc lv (.int x :: st) (if x ≤ 0 then f1 else f2) := by
  intro h cs g1 g2 p e s m below meth c B H locs ls hH hS hl
  refine lv_if_le B.1 B.2.1 hd ht (fun hc => k1 (by rw [if_pos hc] at h; exact h) cs g1 g2 p e s m below meth c B H locs ls hH hS hl) (fun hc => k2 (by rw [if_neg hc] at h; exact h) cs g1 g2 p e s m below meth c B H locs ls hH hS hl)
theorem k_icmp_le {x y : Int32} {off : Int} (tgt : Nat) (hd : decode cL_law pc = .ok (.if_icmp .le off, 3)) (ht : (pc : Int) + off = (tgt : Int)) (k1 : Lk X b L xs N ad σ tgt lv st f1) (k2 : Lk X b L xs N ad σ (pc + 3) lv st f2) : Lk X b L xs N ad σ pc lv (.int y :: .int x :: st) (if x ≤ y then f1 else f2) := by
  intro h cs g1 g2 p e s m below meth c B H locs ls hH hS hl
  refine lv_icmp_le B.1 B.2.1 hd ht (fun hc => k1 (by rw [if_pos hc] at h; exact h) cs g1 g2 p e s m below meth c B H locs ls hH hS hl) (fun hc => k2 (by rw [if_neg hc] at h; exact h) cs g1 g2 p e s m below meth c B H locs ls hH hS hl)
theorem k_iaload {t i n : Nat} {j : Int32} {F : Nat → Int32} (hl : lvp σ t i) (hc : cellv X ad σ t i = .inl (X.2.2.1 0, n, .inl F)) (hin : inb j n) (hd : decode cL_law pc = .ok (.iaload, 1)) (kk : Lk X b L xs N ad σ (pc + 1) lv (.int (F j.toNatClampNeg) :: st) f) : Lk X b L xs N ad σ pc lv (.int j :: .ref (ad t i) :: st) f := by
  intro h cs g1 g2 p e s m below meth c B H locs ls hH hS hl9
  have hP : va_P X.2.1 vwCl [(ad t i, .inl (X.2.2.1 0, n, .inl F))] H := va_P1 (by rw [← hc]; exact (hH.1 t i hl).1)
  exact va_iald B.1 B.2.1 B.2.2.2.2.2.2.2.2.1 hP 0 0 rfl rfl (inb_vp hin) hd (kk h cs g1 g2 p e s m below meth c B H locs ls hH hS hl9)
theorem k_iastore {t i n : Nat} {j v : Int32} (hl : lvp σ t i) (hc : ∀ τ : Wd, cellv X ad τ t i = .inl (X.2.2.1 0, n, .inl (τ.1 t i))) (hin : inb j n) (hd : decode cL_law pc = .ok (.iastore, 1)) (kk : Lk X b L xs N ad (wr σ t i j.toNatClampNeg v) (pc + 1) lv st f) : Lk X b L xs N ad σ pc lv (.int v :: .int j :: .ref (ad t i) :: st) f := by
  intro h cs g1 g2 p e s m below meth c B H locs ls hH hS hl9
  have hP : va_at X.2.1 vwCl (ad t i, .inl (X.2.2.1 0, n, .inl (σ.1 t i))) H := by rw [← hc σ]; exact (hH.1 t i hl).1
  refine W.iast B.1 B.2.1 hP ((B.2.2.2.2.2.2.2.2.1.2 0 (X.2.2.1 0, .int) rfl).1 n (fun j => .int (σ.1 t i j))) (fun q => by cases q) (by show ¬ (j < 0 ∨ (arrV _ _ _).slots.size ≤ _); rw [arrV_size]; exact inb_vp hin) rfl rfl hd fun H1 e1 z oq => ?_
  refine kk h cs g1 g2 p e s m below meth c B H1 _ ls (hH.wr hl (e := .inl (X.2.2.1 0, n, .inl (upd (σ.1 t i) j.toNatClampNeg v))) ?_ oq (by rw [hc, wr_upd])) (hS.put z oq (hH.1 t i hl).2) hl9
  clear g1 g2 kk h
  show H1[ad t i]? = some (vp_cell _ _)
  rw [e1]
  rw [vp_cell_i, vp_cell_i, arrV_store]
  refine congrArg (fun V => some (arrV (X.2.2.1 0) n V)) (funext fun q => ?_)
  by_cases hq : q = j.toNatClampNeg
  · subst hq
    simp [updV, upd]
  · simp [updV, upd, hq]


theorem k_end {v : Int32} (hd : decode cL_law pc = .ok (.ireturn, 1)) : Lk X b L xs N ad σ pc lv [.int v] (gd (v = 1) (some ())) := by
  intro h cs g1 g2 p e s m below meth c B H locs ls hH hS hl
  obtain ⟨rfl, -⟩ := gd_some h
  obtain ⟨b1, b2, b3, b4, b5, b6, b7, b8, b9, b10, b11, b12, b13, b14, b15⟩ := B
  refine W.widen (show cs.1 ≤ 611299 from by omega) (show cs.2 ≤ 7267802 from by omega) ?_
  have k := W.forget (L := locs) (locs := []) (fun q hq => by
    have z : X.2.2.2.1 ≤ q.base := hS.2.2 q hq
    omega) (lw_ret (m := m) (b := b) (e := e) (below := below) (H := H) (ls := ls) (l := X.1) (s := s) b1 b2 b6 b7 hd)
  simpa using k
theorem LC.fix {p : Program} {s : State} {m : MethodId} {meth : Method} {c : Code} (B : LC X b L xs p s m meth c) : CallFix p m c cL_law 25 s #[Value.ref b] G_ RL := ⟨B.1, B.2.1, B.2.2.1, B.2.2.2.1, B.2.2.2.2.1⟩
theorem LC.SW {p : Program} {s : State} {m : MethodId} {meth : Method} {c : Code} {H : Heap} {locs : List Loc} {U : State} (B : LC X b L xs p s m meth c) (hH : HW X ad σ H) (hS : va_S (Az X) s.heap H locs) (hU : U.heap = H) (hW : s.WarmedH U.vm) : SW X ad σ U :=
  ⟨by rw [hU]; exact hH, va_K.moved hW.alike B.2.2.2.2.2.2.2.2.1, B.2.2.2.2.2.2.2.2.2.1.warm hW (by rw [hU]; exact hS.2.1)⟩
theorem k_words {y : MethodName} {w : Cond} {index : Nat} (w1 : Cond.methodLink RL index y ∈ G_) (w2 : Cond.static y ∈ G_) (w4 : Cond.initialized y.cls ∈ G_) (w5 : w ∈ G_) : GoodIn G_ (va_wsS RL index y (w :: G_)) := fun w hw => by
  have h1 : w ∈ G_ := by
    simp only [va_wsS, List.cons_append, List.nil_append, List.mem_cons] at hw
    rcases hw with rfl | rfl | rfl | rfl | h
    · exact w1
    · exact w2
    · exact w4
    · exact w5
    · exact h
  exact ⟨h1, good_of_word (G_good w h1)⟩
theorem k_wordsV {y : MethodName} {w : Cond} {index : Nat} (w1 : Cond.methodLink RL index y ∈ G_) (w2 : Cond.instanceMethod y ∈ G_) (w3 : Cond.selects y.cls y y ∈ G_) (w4 : Cond.initialized y.cls ∈ G_) (w5 : w ∈ G_) : GoodIn G_ (wsV RL index y.cls y (w :: G_)) := fun w hw => by
  have h1 : w ∈ G_ := by
    simp only [wsV, List.cons_append, List.nil_append, List.mem_cons] at hw
    rcases hw with rfl | rfl | rfl | rfl | rfl | h
    · exact w1
    · exact w2
    · exact w3
    · exact w4
    · exact w5
    · exact h
  exact ⟨h1, good_of_word (G_good w h1)⟩
/-- a static call that makes nothing -/
theorem k_callS {β : Type} {y : MethodName} {bytes : ByteArray} {maxL fr' lo' n index : Nat} {rt' : Option FieldType} {val' : β → Option Value} {g : Option ((β ⊕ String) × Wd)} {k : β → Wd → Option Unit} {As stack : List Value} (nc : NC X (fun a => a = ad) y bytes maxL rt' fr' lo' val' (0, 0) ad σ As g)
    (hy : y.cls ≠ "java/lang/invoke/MethodHandle" ∧ y.cls ≠ "java/lang/invoke/VarHandle" ∧ (parseMethodDescriptor y.desc).map (fun d => d.parameters.length) = some n) (w1 : Cond.methodLink RL index y ∈ G_) (w2 : Cond.static y ∈ G_) (w4 : Cond.initialized y.cls ∈ G_) (w5 : Cond.code y bytes maxL rt' ∈ G_)
    (hn : As.length = n) (hst : stack = As.reverse ++ st) (hsum : (st.map fun v => v.category).sum ≤ 8) (hroom : fr' + 1 ≤ 14 ∧ 8 + (maxL + 11) + lo' ≤ 556) (hd : decode cL_law pc = .ok (.invokestatic index, 3))
    (kk : ∀ v σ1, Lk X b L xs N ad σ1 (pc + 3) lv ((val' v).toList ++ st) (k v σ1)) : Lk X b L xs N ad σ pc lv stack (bu g k) := by
  intro h cs g1 g2 p e s m below meth c B H locs ls hH hS hl
  obtain ⟨v, σ1, hg, hk⟩ := bu_cases h
  have hrun := vx_runS (R := room_1) (e := e) (below := below) (meth := meth) (locs := locs) (cells := cs.1) (slots := cs.2) (H := H) (g := F0 m pc ls stack) (rest := st) B.fix (nc (Sum.inl v) σ1 hg) (va_cwS n B.2.2.2.2.1 (k_words w1 w2 w4 w5) rfl rfl rfl hy hroom) ⟨Pn.blind, fun U hU hW => ⟨rfl, B.SW hH hS hU hW⟩⟩ rfl hn hl.1 hst (lv_room hsum) hd ⟨Nat.le_trans (Nat.le_trans (Nat.le_add_right _ _) g1) (Nat.le_of_ble_eq_true rfl), Nat.le_trans (Nat.le_trans (Nat.le_add_right _ _) g2) (Nat.le_of_ble_eq_true rfl)⟩
  intro T hT Y
  rcases hrun T hT Y with ⟨v0, st0, t0, T', LL, h0, Y', hL, e1, e2, ⟨⟨v', hv1, hv2, ad', hf', hsw⟩, hF⟩, hgo⟩ | ⟨q, st0, t0, T', LL, E', ce, h0, Y', hL, e1, e2, ⟨⟨hx, -⟩, -⟩, -⟩
  · cases hv1
    cases hv2
    subst hf'
    obtain ⟨q1, q2, q3⟩ := vx_keep h0 e1 hS (fun _ _ z => z) (fun _ z => z) hL hF
    obtain ⟨t2, a1, c1⟩ := kk v σ1 hk cs g1 g2 p e s m below meth c B T'.heap (locs ++ LL) ls (by rw [e1]; exact hsw) q3 hl T' rfl Y'
    exact ⟨t2, hgo t2 a1, c1⟩
  · cases hx
/-- the call that reads the script -/
theorem k_cell {index : Nat} {r : Int32} {k : Option Unit} (hst : X.1.stackTraces = false) (hin : ¬ Int32.ofNat L = 0 → inb (r - r / Int32.ofNat L * Int32.ofNat L) L) (w1 : Cond.methodLink RL index yL_cell ∈ G_) (w2 : Cond.static yL_cell ∈ G_) (w4 : Cond.initialized RL ∈ G_) (w5 : Cond.code yL_cell cL_cell 2 (some .int) ∈ G_)
    (hsum : (st.map fun v => v.category).sum ≤ 8) (hd : decode cL_law pc = .ok (.invokestatic index, 3))
    (kk : Lk X b L xs N ad σ (pc + 3) lv (.int (cellF L xs r) :: st) k) : Lk X b L xs N ad σ pc lv (.int r :: .ref b :: st) k := by
  intro hk cs g1 g2 p e s m below meth c B H locs ls hH hS hl
  obtain ⟨b1, b2, b3, b4, b5, b6, b7, b8, b9, b10, b11, b12, b13, b14, b15⟩ := id B
  have hAb : ¬ Az X b := fun z => by have z2 : X.2.2.2.1 ≤ b := z; omega
  have hrun := vx_runS (R := room_1) (e := e) (below := below) (meth := meth) (locs := locs) (cells := cs.1) (slots := cs.2) (H := H) (g := F0 m pc ls (.int r :: .ref b :: st)) (rest := st) B.fix (nc_cell X hst ad σ b L xs hAb r hin) (va_cwS 2 b5 (k_words w1 w2 w4 w5) rfl rfl rfl ⟨by decide, by decide, by decide +kernel⟩ ⟨by decide, by decide⟩) ⟨PnC.blind, fun U hU hW => ⟨rfl, B.SW hH hS hU hW, va_X.moved hW.alike (b13.kept (by rw [hU]; exact hS.2.1 b b14 hAb)), by rw [hU]; exact Nat.lt_of_lt_of_le b14 hS.1⟩⟩ (As := [.ref b, .int r]) rfl rfl hl.1 rfl (lv_room hsum) hd ⟨Nat.le_trans (Nat.le_trans (Nat.le_add_right _ _) g1) (Nat.le_of_ble_eq_true rfl), Nat.le_trans (Nat.le_trans (Nat.le_add_right _ _) g2) (Nat.le_of_ble_eq_true rfl)⟩
  intro T hT Y
  rcases hrun T hT Y with ⟨v0, st0, t0, T', LL, h0, Y', hL, e1, e2, ⟨⟨v', hv1, hv2, ad', hf', hsw⟩, hF⟩, hgo⟩ | ⟨q, st0, t0, T', LL, E', ce, h0, Y', hL, e1, e2, ⟨⟨hx, -⟩, -⟩, -⟩
  · cases hv1
    cases hv2
    subst hf'
    obtain ⟨q1, q2, q3⟩ := vx_keep h0 e1 hS (fun _ _ z => z) (fun _ z => z) hL hF
    obtain ⟨t2, a1, c1⟩ := kk hk cs g1 g2 p e s m below meth c B T'.heap (locs ++ LL) ls (by rw [e1]; exact hsw) q3 hl T' rfl Y'
    exact ⟨t2, hgo t2 a1, c1⟩
  · cases hx
/-- a call of the law's that catches -/
theorem k_callW {y : MethodName} {bytes : ByteArray} {nLc fr' lo' n index : Nat} {hh : List (Nat × Nat × Nat × Nat)} {kc' : Nat × Nat} {As stack : List Value} {g : Option (Int32 × Wd)} {k : Int32 → Wd → Option Unit} (wn : ∀ kv σ1, g = some (kv, σ1) → WN X y bytes nLc hh fr' lo' kc' ad σ As kv σ1)
    (hy : y.cls ≠ "java/lang/invoke/MethodHandle" ∧ y.cls ≠ "java/lang/invoke/VarHandle" ∧ (parseMethodDescriptor y.desc).map (fun d => d.parameters.length) = some n) (w1 : Cond.methodLink RL index y ∈ G_) (w2 : Cond.static y ∈ G_) (w4 : Cond.initialized y.cls ∈ G_) (w5 : Cond.codeWith y bytes nLc (some .int) hh ∈ G_)
    (hn : As.length = n) (hst : stack = As.reverse ++ st) (hsum : (st.map fun v => v.category).sum ≤ 8) (hroom : fr' + 1 ≤ 14 ∧ 8 + (nLc + 11) + lo' ≤ 556) (hkc : kc'.1 ≤ 6 ∧ kc'.2 ≤ 30) (hd : decode cL_law pc = .ok (.invokestatic index, 3))
    (kk : ∀ v σ1 ad', Fx ad ad' → Lk X b L xs N ad' σ1 (pc + 3) lv (.int v :: st) (k v σ1)) : Lk X b L xs (N + 1) ad σ pc lv stack (bv g k) := by
  intro h cs g1 g2 p e s m below meth c B H locs ls hH hS hl
  obtain ⟨kv, σ1, hg, hk⟩ := bv_cases h
  have b5 := B.2.2.2.2.1
  have b9 := B.2.2.2.2.2.2.2.2.2.2.2.1
  have hrun := vx_runSX (R := room_1) (e := e) (below := below) (meth := meth) (locs := locs) (cells := cs.1) (slots := cs.2) (H := H) (g := F0 m pc ls stack) (rest := st) B.fix (wn kv σ1 hg) (vx_cwSW n b5 (k_words w1 w2 w4 w5) rfl rfl rfl hy hroom) ⟨PnL.blind, fun U hU hW => ⟨rfl, B.SW hH hS hU hW, fun q hq => va_Nc.moved hW.alike (b9 q hq)⟩⟩ rfl hn hl.1 hst (lv_room hsum) hd ⟨Nat.le_trans (Nat.le_trans (Nat.add_le_add_left (Nat.le_trans hkc.1 (by omega : 6 ≤ 6 * (N + 1))) _) g1) (Nat.le_of_ble_eq_true rfl), Nat.le_trans (Nat.le_trans (Nat.add_le_add_left (Nat.le_trans hkc.2 (by omega : 30 ≤ 30 * (N + 1))) _) g2) (Nat.le_of_ble_eq_true rfl)⟩
  intro T hT Y
  rcases hrun T hT Y with ⟨v0, st0, t, T', LL, h0, Y', hL, e1, e2, ⟨⟨v', hv1, hv2, ad', hf', hsw⟩, hF⟩, hgo⟩ | ⟨q, st0, t, T', LL, E', ce, h0, Y', hL, e1, e2, ⟨⟨hx, -⟩, -⟩, -⟩
  · cases hv1
    cases hv2
    obtain ⟨q1, q2, q3⟩ := vx_keep h0 e1 hS (fun _ _ z => z) (fun _ z => z) hL hF
    obtain ⟨t2, a1, c1⟩ := kk kv σ1 ad' hf' hk (cs.1 + 6, cs.2 + 30) (by show cs.1 + 6 + 6 * N ≤ _; omega) (by show cs.2 + 30 + 30 * N ≤ _; omega) p e s m below meth c B T'.heap (locs ++ LL) ls (by rw [e1]; exact hsw) q3 hl T' rfl (stand_widen Y' (Nat.add_le_add_left hkc.1 _) (Nat.add_le_add_left hkc.2 _))
    exact ⟨t2, hgo t2 a1, c1⟩
  · cases hx
/-- a call of the class that makes nothing -/
theorem k_callV {β : Type} {y : MethodName} {bytes : ByteArray} {maxL fr' lo' n index : Nat} {rt' : Option FieldType} {val' : β → Option Value} {g : Option ((β ⊕ String) × Wd)} {k : β → Wd → Option Unit} {As stack : List Value} (nc : NC X (fun a => a = ad) y bytes maxL rt' fr' lo' val' (0, 0) ad σ (.ref (ad 0 0) :: As) g)
    (hy : y.cls = RX9 ∧ y.cls ≠ "java/lang/invoke/MethodHandle" ∧ y.cls ≠ "java/lang/invoke/VarHandle" ∧ (parseMethodDescriptor y.desc).map (fun d => d.parameters.length) = some n)
    (w1 : Cond.methodLink RL index y ∈ G_) (w2 : Cond.instanceMethod y ∈ G_) (w3 : Cond.selects y.cls y y ∈ G_) (w4 : Cond.initialized y.cls ∈ G_) (w5 : Cond.code y bytes maxL rt' ∈ G_)
    (hn : As.length = n) (hst : stack = As.reverse ++ .ref (ad 0 0) :: st) (hsum : (st.map fun v => v.category).sum ≤ 8) (hroom : fr' + 1 ≤ 14 ∧ 8 + (maxL + 11) + lo' ≤ 556) (hd : decode cL_law pc = .ok (.invokevirtual index, 3))
    (kk : ∀ v σ1, Lk X b L xs N ad σ1 (pc + 3) lv ((val' v).toList ++ st) (k v σ1)) : Lk X b L xs N ad σ pc lv stack (bu g k) := by
  intro h cs g1 g2 p e s m below meth c B H locs ls hH hS hl
  obtain ⟨v, σ1, hg, hk⟩ := bu_cases h
  have hat : va_at X.2.1 vwCl (ad 0 0, .inr (10, [.ref (ad 1 0), .ref (ad 1 1), .ref (ad 4 0), .ref (ad 7 0), .ref (ad 12 0), .ref (ad 19 0), .int (σ.1 0 0 6), .int (σ.1 0 0 7), .int (σ.1 0 0 8), .int (σ.1 0 0 9)])) H := by rw [← cell_0]; exact (hH.1 0 0 (lvs_0 _)).1
  have hrun := vx_runV (R := room_1) (e := e) (below := below) (meth := meth) (locs := locs) (cells := cs.1) (slots := cs.2) (H := H) (b := ad 0 0) (As := As) (g := F0 m pc ls stack) (rest := st) B.fix (nc (Sum.inl v) σ1 hg) (C := y.cls) (cwV n B.2.2.2.2.1 (k_wordsV w1 w2 w3 w4 w5) rfl rfl rfl ⟨rfl, hy.2⟩ hroom) ⟨Pn.blind, (by
      have hr := va_recv (q := (RX9, TX9, 10)) (q0 := 0) B.2.2.2.2.2.2.2.2.1 (va_P1 hat) rfl rfl
      rw [hy.1]
      exact hr), fun U hU hW => ⟨rfl, B.SW hH hS hU hW⟩⟩ rfl hn hl.1 hst (lv_room hsum) hd ⟨Nat.le_trans (Nat.le_trans (Nat.le_add_right _ _) g1) (Nat.le_of_ble_eq_true rfl), Nat.le_trans (Nat.le_trans (Nat.le_add_right _ _) g2) (Nat.le_of_ble_eq_true rfl)⟩
  intro T hT Y
  rcases hrun T hT Y with ⟨v0, st0, t0, T', LL, h0, Y', hL, e1, e2, ⟨⟨v', hv1, hv2, ad', hf', hsw⟩, hF⟩, hgo⟩ | ⟨q, st0, t0, T', LL, E', ce, h0, Y', hL, e1, e2, ⟨⟨hx, -⟩, -⟩, -⟩
  · cases hv1
    cases hv2
    subst hf'
    obtain ⟨q1, q2, q3⟩ := vx_keep h0 e1 hS (fun _ _ z => z) (fun _ z => z) hL hF
    obtain ⟨t2, a1, c1⟩ := kk v σ1 hk cs g1 g2 p e s m below meth c B T'.heap (locs ++ LL) ls (by rw [e1]; exact hsw) q3 hl T' rfl Y'
    exact ⟨t2, hgo t2 a1, c1⟩
  · cases hx
/-- a call of the class that makes things -/
theorem k_callVA {y : MethodName} {bytes : ByteArray} {maxL fr' lo' n index : Nat} {kc' : Nat × Nat} {g : Option ((Int32 ⊕ String) × Wd)} {k : Int32 → Wd → Option Unit} {As stack : List Value} (nc : NC X (Fx ad) y bytes maxL (some .int) fr' lo' vI kc' ad σ (.ref (ad 0 0) :: As) g)
    (hy : y.cls = RX9 ∧ y.cls ≠ "java/lang/invoke/MethodHandle" ∧ y.cls ≠ "java/lang/invoke/VarHandle" ∧ (parseMethodDescriptor y.desc).map (fun d => d.parameters.length) = some n)
    (w1 : Cond.methodLink RL index y ∈ G_) (w2 : Cond.instanceMethod y ∈ G_) (w3 : Cond.selects y.cls y y ∈ G_) (w4 : Cond.initialized y.cls ∈ G_) (w5 : Cond.code y bytes maxL (some .int) ∈ G_)
    (hn : As.length = n) (hst : stack = As.reverse ++ .ref (ad 0 0) :: st) (hsum : (st.map fun v => v.category).sum ≤ 8) (hroom : fr' + 1 ≤ 14 ∧ 8 + (maxL + 11) + lo' ≤ 556) (hkc : kc'.1 ≤ 6 ∧ kc'.2 ≤ 30) (hd : decode cL_law pc = .ok (.invokevirtual index, 3))
    (kk : ∀ v σ1 ad', Fx ad ad' → Lk X b L xs N ad' σ1 (pc + 3) lv (.int v :: st) (k v σ1)) : Lk X b L xs (N + 1) ad σ pc lv stack (bu g k) := by
  intro h cs g1 g2 p e s m below meth c B H locs ls hH hS hl
  obtain ⟨v, σ1, hg, hk⟩ := bu_cases h
  have hat : va_at X.2.1 vwCl (ad 0 0, .inr (10, [.ref (ad 1 0), .ref (ad 1 1), .ref (ad 4 0), .ref (ad 7 0), .ref (ad 12 0), .ref (ad 19 0), .int (σ.1 0 0 6), .int (σ.1 0 0 7), .int (σ.1 0 0 8), .int (σ.1 0 0 9)])) H := by rw [← cell_0]; exact (hH.1 0 0 (lvs_0 _)).1
  have hrun := vx_runV (R := room_1) (e := e) (below := below) (meth := meth) (locs := locs) (cells := cs.1) (slots := cs.2) (H := H) (b := ad 0 0) (As := As) (g := F0 m pc ls stack) (rest := st) B.fix (nc (Sum.inl v) σ1 hg) (C := y.cls) (cwV n B.2.2.2.2.1 (k_wordsV w1 w2 w3 w4 w5) rfl rfl rfl ⟨rfl, hy.2⟩ hroom) ⟨Pn.blind, (by
      have hr := va_recv (q := (RX9, TX9, 10)) (q0 := 0) B.2.2.2.2.2.2.2.2.1 (va_P1 hat) rfl rfl
      rw [hy.1]
      exact hr), fun U hU hW => ⟨rfl, B.SW hH hS hU hW⟩⟩ rfl hn hl.1 hst (lv_room hsum) hd ⟨Nat.le_trans (Nat.le_trans (Nat.add_le_add_left (Nat.le_trans hkc.1 (by omega : 6 ≤ 6 * (N + 1))) _) g1) (Nat.le_of_ble_eq_true rfl), Nat.le_trans (Nat.le_trans (Nat.add_le_add_left (Nat.le_trans hkc.2 (by omega : 30 ≤ 30 * (N + 1))) _) g2) (Nat.le_of_ble_eq_true rfl)⟩
  intro T hT Y
  rcases hrun T hT Y with ⟨v0, st0, t0, T', LL, h0, Y', hL, e1, e2, ⟨⟨v', hv1, hv2, ad', hf', hsw⟩, hF⟩, hgo⟩ | ⟨q, st0, t0, T', LL, E', ce, h0, Y', hL, e1, e2, ⟨⟨hx, -⟩, -⟩, -⟩
  · cases hv1
    cases hv2
    obtain ⟨q1, q2, q3⟩ := vx_keep h0 e1 hS (fun _ _ z => z) (fun _ z => z) hL hF
    obtain ⟨t2, a1, c1⟩ := kk v σ1 ad' hf' hk (cs.1 + 6, cs.2 + 30) (by show cs.1 + 6 + 6 * N ≤ _; omega) (by show cs.2 + 30 + 30 * N ≤ _; omega) p e s m below meth c B T'.heap (locs ++ LL) ls (by rw [e1]; exact hsw) q3 hl T' rfl (stand_widen Y' (Nat.add_le_add_left hkc.1 _) (Nat.add_le_add_left hkc.2 _))
    exact ⟨t2, hgo t2 a1, c1⟩
  · cases hx
end KBK
