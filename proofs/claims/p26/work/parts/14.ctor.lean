/-! walks over loose cells: constructors, and the law's first calls -/
def PnW (X : Xt) (ws : va_W) (sz : Nat) (avs : List Value) : Array Value → State → Prop := fun v U => v = avs.toArray ∧ U.heap.size = sz ∧ va_P X.2.1 vwCl ws U.heap ∧ va_D (fun _ => True) ws ∧ va_K X.2.1 vwCl (tysX X) U ∧ SF X U
def QnW (X : Xt) (ws : va_W) (sz : Nat) (P : va_W → Prop) : Array Value → State → Outcome → State → Prop := fun _ st o t => (o = .returned none ∧ ∃ ws', P ws' ∧ va_P X.2.1 vwCl ws' t.heap ∧ va_D (va_A ws sz) ws') ∧ va_F (va_A ws sz) st t
def CI (X : Xt) (y : MethodName) (cc : ByteArray) (nL fr lo : Nat) (kc : Nat × Nat) (ws : va_W) (avs : List Value) (P : va_W → Prop) : Prop :=
  ∀ sz, X.2.2.2.1 ≤ sz → (∀ (k : Nat) (q : Nat × va_E), ws[k]? = some q → X.2.2.2.1 ≤ q.1) → Met X.1 y (Cond.code y cc nL none :: G_) { frames := fr, cells := kc.1, slots := kc.2, locals := lo } (PnW X ws sz avs) (QnW X ws sz P) kc.1 kc.2 (va_A ws sz)
abbrev C0t : Type := Program → Env → State → MethodId → Array Value → List Frame → Method → Code → Prop
def Ctx (X : Xt) (A : Nat → Prop) (cc : ByteArray) (own : String) (nL : Nat) (C0 : C0t) : Prop := ∀ p e s m args below meth c, C0 p e s m args below meth c →
  p.tables.exec = Jvm.exec ∧ c.code = cc ∧ c.maxLocals = nL ∧ s.vm.findClass own = some m.cls ∧ (∀ w ∈ G_, w.before args s = true) ∧ va_K X.2.1 vwCl (tysX X) s ∧ SF X s ∧ (∀ q, s.heap.size ≤ q → A q) ∧ (∀ q, A q → Az X q)
def Bw (X : Xt) (C0 : C0t) (R : Room) (Q : State → MethodId → Array Value → List Frame → State → Prop) (A : Nat → Prop) (nL : Nat) (ws : va_W) (cs : Nat × Nat) (pc : Nat) (lv : List (Nat × Value)) (st : List Value) : Prop :=
  ∀ p e s m args below meth c, C0 p e s m args below meth c → ∀ H locs ls, va_P X.2.1 vwCl ws H → va_D A ws → va_S A s.heap H locs → lv_has ls nL lv → W p X.1 e R s m args below meth c H locs cs.1 cs.2 (Q s m args below) (F0 m pc ls st)
section BWR
variable {X : Xt} {C0 : C0t} {R : Room} {Q : State → MethodId → Array Value → List Frame → State → Prop} {A : Nat → Prop} {cc : ByteArray} {own : String} {nL : Nat} {ws : va_W} {cs : Nat × Nat} {pc : Nat} {lv : List (Nat × Value)} {st : List Value}
theorem w_iconst {n : Int} (v : Int32) (hv : Int32.ofInt n = v) (hC : Ctx X A cc own nL C0) (hd : decode cc pc = .ok (.iconst n, 1)) (k : Bw X C0 R Q A nL ws cs (pc + 1) lv (.int v :: st)) : Bw X C0 R Q A nL ws cs pc lv st := by
  intro p e s m args below meth c B H locs ls hP hD hS hl
  obtain ⟨b1, b2, b3, b4, b5, b6, b7, b8, b9⟩ := hC _ _ _ _ _ _ _ _ B
  exact lv_iconst b1 b2 hd hv (k p e s m args below meth c B H locs ls hP hD hS hl)
theorem w_bipush {n : Int} (v : Int32) (hv : (Int8.ofInt n).toInt32 = v) (hC : Ctx X A cc own nL C0) (hd : decode cc pc = .ok (.bipush n, 2)) (k : Bw X C0 R Q A nL ws cs (pc + 2) lv (.int v :: st)) : Bw X C0 R Q A nL ws cs pc lv st := by
  intro p e s m args below meth c B H locs ls hP hD hS hl
  obtain ⟨b1, b2, b3, b4, b5, b6, b7, b8, b9⟩ := hC _ _ _ _ _ _ _ _ B
  exact lv_bipush b1 b2 hd hv (k p e s m args below meth c B H locs ls hP hD hS hl)
theorem w_sipush {n : Int} (v : Int32) (hv : (Int16.ofInt n).toInt32 = v) (hC : Ctx X A cc own nL C0) (hd : decode cc pc = .ok (.sipush n, 3)) (k : Bw X C0 R Q A nL ws cs (pc + 3) lv (.int v :: st)) : Bw X C0 R Q A nL ws cs pc lv st := by
  intro p e s m args below meth c B H locs ls hP hD hS hl
  obtain ⟨b1, b2, b3, b4, b5, b6, b7, b8, b9⟩ := hC _ _ _ _ _ _ _ _ B
  exact lv_sipush b1 b2 hd hv (k p e s m args below meth c B H locs ls hP hD hS hl)
theorem w_iload_n {j : Fin 4} {x : Int32} (q : Nat) (hq : lv[q]? = some ((j : Nat), .int x)) (hC : Ctx X A cc own nL C0) (hd : decode cc pc = .ok (.iload_n j, 1)) (k : Bw X C0 R Q A nL ws cs (pc + 1) lv (.int x :: st)) : Bw X C0 R Q A nL ws cs pc lv st := by
  intro p e s m args below meth c B H locs ls hP hD hS hl
  obtain ⟨b1, b2, b3, b4, b5, b6, b7, b8, b9⟩ := hC _ _ _ _ _ _ _ _ B
  exact lv_iload_n b1 b2 hd rfl (lv_at hl q hq) (k p e s m args below meth c B H locs ls hP hD hS hl)
theorem w_iload {j : Nat} {x : Int32} (q : Nat) (hq : lv[q]? = some (j, .int x)) (hC : Ctx X A cc own nL C0) (hd : decode cc pc = .ok (.iload j, 2)) (k : Bw X C0 R Q A nL ws cs (pc + 2) lv (.int x :: st)) : Bw X C0 R Q A nL ws cs pc lv st := by
  intro p e s m args below meth c B H locs ls hP hD hS hl
  obtain ⟨b1, b2, b3, b4, b5, b6, b7, b8, b9⟩ := hC _ _ _ _ _ _ _ _ B
  exact lv_iload b1 b2 hd (lv_at hl q hq) (k p e s m args below meth c B H locs ls hP hD hS hl)
theorem w_aload_n {j : Fin 4} {x : Nat} (q : Nat) (hq : lv[q]? = some ((j : Nat), .ref x)) (hC : Ctx X A cc own nL C0) (hd : decode cc pc = .ok (.aload_n j, 1)) (k : Bw X C0 R Q A nL ws cs (pc + 1) lv (.ref x :: st)) : Bw X C0 R Q A nL ws cs pc lv st := by
  intro p e s m args below meth c B H locs ls hP hD hS hl
  obtain ⟨b1, b2, b3, b4, b5, b6, b7, b8, b9⟩ := hC _ _ _ _ _ _ _ _ B
  exact lv_aload_n b1 b2 hd rfl (lv_at hl q hq) (k p e s m args below meth c B H locs ls hP hD hS hl)
theorem w_dup {v : Value} (hv : v.category = 1) (hC : Ctx X A cc own nL C0) (hd : decode cc pc = .ok (.dup, 1)) (k : Bw X C0 R Q A nL ws cs (pc + 1) lv (v :: v :: st)) : Bw X C0 R Q A nL ws cs pc lv (v :: st) := by
  intro p e s m args below meth c B H locs ls hP hD hS hl
  obtain ⟨b1, b2, b3, b4, b5, b6, b7, b8, b9⟩ := hC _ _ _ _ _ _ _ _ B
  exact lv_dup b1 b2 hd hv (k p e s m args below meth c B H locs ls hP hD hS hl)
theorem w_istore_n {j : Fin 4} {x : Int32} (lv' : List (Nat × Value)) (hl' : ((j : Nat), Value.int x) :: lv.filter (fun q => !(q.1 == (j : Nat)) && !(q.1 + 1 == (j : Nat) && q.2.category == 2)) = lv') (hn : (j : Nat) < nL) (hC : Ctx X A cc own nL C0) (hd : decode cc pc = .ok (.istore_n j, 1)) (k : Bw X C0 R Q A nL ws cs (pc + 1) lv' st) : Bw X C0 R Q A nL ws cs pc lv (.int x :: st) := by
  intro p e s m args below meth c B H locs ls hP hD hS hl
  obtain ⟨b1, b2, b3, b4, b5, b6, b7, b8, b9⟩ := hC _ _ _ _ _ _ _ _ B
  exact lv_istore_n b1 b2 hd rfl hl hn hl' (fun ls' hl2 => k p e s m args below meth c B H locs ls' hP hD hS hl2)
theorem w_astore_n {j : Fin 4} {x : Nat} (lv' : List (Nat × Value)) (hl' : ((j : Nat), Value.ref x) :: lv.filter (fun q => !(q.1 == (j : Nat)) && !(q.1 + 1 == (j : Nat) && q.2.category == 2)) = lv') (hn : (j : Nat) < nL) (hC : Ctx X A cc own nL C0) (hd : decode cc pc = .ok (.astore_n j, 1)) (k : Bw X C0 R Q A nL ws cs (pc + 1) lv' st) : Bw X C0 R Q A nL ws cs pc lv (.ref x :: st) := by
  intro p e s m args below meth c B H locs ls hP hD hS hl
  obtain ⟨b1, b2, b3, b4, b5, b6, b7, b8, b9⟩ := hC _ _ _ _ _ _ _ _ B
  exact lv_astore_n b1 b2 hd rfl hl hn hl' (fun ls' hl2 => k p e s m args below meth c B H locs ls' hP hD hS hl2)
theorem w_istore {j : Nat} {x : Int32} (lv' : List (Nat × Value)) (hl' : (j, Value.int x) :: lv.filter (fun q => !(q.1 == j) && !(q.1 + 1 == j && q.2.category == 2)) = lv') (hn : j < nL) (hC : Ctx X A cc own nL C0) (hd : decode cc pc = .ok (.istore j, 2)) (k : Bw X C0 R Q A nL ws cs (pc + 2) lv' st) : Bw X C0 R Q A nL ws cs pc lv (.int x :: st) := by
  intro p e s m args below meth c B H locs ls hP hD hS hl
  obtain ⟨b1, b2, b3, b4, b5, b6, b7, b8, b9⟩ := hC _ _ _ _ _ _ _ _ B
  exact lv_istore b1 b2 hd hl hn hl' (fun ls' hl2 => k p e s m args below meth c B H locs ls' hP hD hS hl2)
theorem w_iinc {i : Nat} {n : Int} {x : Int32} (d : Int32) (lv' : List (Nat × Value)) (q : Nat) (hq : lv[q]? = some (i, .int x)) (hdv : Int32.ofInt n = d) (hl' : (i, Value.int (x + d)) :: lv.filter (fun q => !(q.1 == i) && !(q.1 + 1 == i && q.2.category == 2)) = lv') (hn : i < nL) (hC : Ctx X A cc own nL C0) (hd : decode cc pc = .ok (.iinc i n, 3)) (k : Bw X C0 R Q A nL ws cs (pc + 3) lv' st) : Bw X C0 R Q A nL ws cs pc lv st := by
  intro p e s m args below meth c B H locs ls hP hD hS hl
  obtain ⟨b1, b2, b3, b4, b5, b6, b7, b8, b9⟩ := hC _ _ _ _ _ _ _ _ B
  exact lv_iinc b1 b2 hd hl hq (by rw [hdv]) hn hl' (fun ls' hl2 => k p e s m args below meth c B H locs ls' hP hD hS hl2)
theorem w_goto {off : Int} (tgt : Nat) (ht : (pc : Int) + off = (tgt : Int)) (hC : Ctx X A cc own nL C0) (hd : decode cc pc = .ok (.goto off, 3)) (k : Bw X C0 R Q A nL ws cs tgt lv st) : Bw X C0 R Q A nL ws cs pc lv st := by
  intro p e s m args below meth c B H locs ls hP hD hS hl
  obtain ⟨b1, b2, b3, b4, b5, b6, b7, b8, b9⟩ := hC _ _ _ _ _ _ _ _ B
  exact lv_goto b1 b2 hd ht (k p e s m args below meth c B H locs ls hP hD hS hl)
theorem w_icmp_ge {x y : Int32} {off : Int} (tgt : Nat) (ht : (pc : Int) + off = (tgt : Int)) (hC : Ctx X A cc own nL C0) (hd : decode cc pc = .ok (.if_icmp .ge off, 3)) (k1 : y ≤ x → Bw X C0 R Q A nL ws cs tgt lv st) (k2 : ¬ y ≤ x → Bw X C0 R Q A nL ws cs (pc + 3) lv st) : Bw X C0 R Q A nL ws cs pc lv (.int y :: .int x :: st) := by
  intro p e s m args below meth c B H locs ls hP hD hS hl
  obtain ⟨b1, b2, b3, b4, b5, b6, b7, b8, b9⟩ := hC _ _ _ _ _ _ _ _ B
  exact lv_icmp_ge b1 b2 hd ht (fun hc => k1 hc p e s m args below meth c B H locs ls hP hD hS hl) (fun hc => k2 hc p e s m args below meth c B H locs ls hP hD hS hl)
theorem w_sub {lv' : List (Nat × Value)} (ks : List Nat) (hk : lv_pick lv ks = lv') (k : Bw X C0 R Q A nL ws cs pc lv' st) : Bw X C0 R Q A nL ws cs pc lv st := fun p e s m args below meth c B H locs ls hP hD hS hl => k p e s m args below meth c B H locs ls hP hD hS (lv_sub hl ks hk)
theorem w_objInit {idx : Nat} {a : Nat} (hC : Ctx X A cc own nL C0) (w1 : Cond.methodLink own idx objectInit ∈ G_) (w2 : Cond.instanceMethod objectInit ∈ G_) (w3 : Cond.code objectInit ⟨#[0xb1]⟩ 1 none ∈ G_) (hf : 1 ≤ R.frames) (hlo : 2 * 0 + (st.map fun v => v.category).sum + 12 ≤ R.locals) (hd : decode cc pc = .ok (.invokespecial idx, 3)) (k : Bw X C0 R Q A nL ws cs (pc + 3) lv st) : Bw X C0 R Q A nL ws cs pc lv (.ref a :: st) := by
  intro p e s m args below meth c B H locs ls hP hD hS hl
  obtain ⟨b1, b2, b3, b4, b5, b6, b7, b8, b9⟩ := hC _ _ _ _ _ _ _ _ B
  exact W.objInit b1 b2 b4 (b5 _ w1) (b5 _ w2) (b5 _ w3) rfl (by rw [b3]; exact hl.1) rfl hd hf hlo (k p e s m args below meth c B H locs ls hP hD hS hl)
theorem w_new {ci N index : Nat} {C : String} {T : u_T} {fs : List Value} (hC : Ctx X A cc own nL C0) (ty : Nat → FieldType) (hty : ∀ k, k < N → parseFieldDescriptor (T k).2.2.1 = some (ty k)) (hci : vwCl[ci]? = some (C, T, N)) (hin : ∀ w ∈ u_ws C T N, w ∈ G_) (w1 : Cond.classLink own index C ∈ G_) (w2 : Cond.instantiable C N ∈ G_) (w3 : Cond.initialized C ∈ G_) (hfs : ∀ j, j < N → defaultValue (ty j) = vp_V fs j) (hc : cs.1 + 1 ≤ R.cells) (hs : cs.2 + N ≤ R.slots) (hd : decode cc pc = .ok (.new index, 3)) (k : ∀ q, Bw X C0 R Q A nL (ws ++ [(q, .inr (ci, fs))]) (cs.1 + 1, cs.2 + N) (pc + 3) lv (.ref q :: st)) : Bw X C0 R Q A nL ws cs pc lv st := by
  intro p e s m args below meth c B H locs ls hP hD hS hl
  obtain ⟨b1, b2, b3, b4, b5, b6, b7, b8, b9⟩ := hC _ _ _ _ _ _ _ _ B
  exact va_new b1 b2 b5 hin ty hty b4 (b5 _ w1) (b5 _ w2) (b5 _ w3) b6 hP hD hS b8 hci hfs hc hs hd (fun q H1 hP1 hD1 hS1 => k q p e s m args below meth c B H1 locs ls hP1 hD1 hS1 hl)
theorem w_newa {atype : ArrayType} {ty : FieldType} {n : Int32} {N : Nat} {a0 : vp_A} (a : Nat) (hC : Ctx X A cc own nL C0) (hty : newarray.typeOf atype = ty) (hp : ty = .int ∨ ty = .boolean ∨ ty = .long) (hta : (tysX X)[a]? = some (X.2.2.1 a, ty)) (w1 : Cond.arrayClass (newarray.typeOf atype) ∈ G_) (ha : ∀ cA : ClassId, vp_cell cA a0 = arrV cA N (fun _ => defaultValue ty)) (hn : ¬ n < 0) (hN : n.toNatClampNeg = N) (hb : N * componentBytes ty ≤ 536870912) (hc : cs.1 + 1 ≤ R.cells) (hs : cs.2 + N ≤ R.slots) (hd : decode cc pc = .ok (.newarray atype, 2)) (k : ∀ q, Bw X C0 R Q A nL (ws ++ [(q, .inl (X.2.2.1 a, a0))]) (cs.1 + 1, cs.2 + N) (pc + 2) lv (.ref q :: st)) : Bw X C0 R Q A nL ws cs pc lv (.int n :: st) := by
  intro p e s m args below meth c B H locs ls hP hD hS hl
  obtain ⟨b1, b2, b3, b4, b5, b6, b7, b8, b9⟩ := hC _ _ _ _ _ _ _ _ B
  refine va_newa b1 b2 (b5 _ w1) hty b6 hP hD hS b8 ha hn hN hb hc hs hd (fun q cA H1 hK1 hP1 hD1 hS1 => ?_)
  have e1 := (hK1.2 (tysX X).length (cA, ty) (by simp)).2
  have e2 := (b6.2 a _ hta).2
  have e3 : cA = X.2.2.1 a := by
    rcases hp with rfl | rfl | rfl
    · exact Option.some.inj (e1.symm.trans e2)
    · exact Option.some.inj (e1.symm.trans e2)
    · exact Option.some.inj (e1.symm.trans e2)
  subst e3
  exact k q p e s m args below meth c B H1 locs ls hP1 hD1 hS1 hl
theorem w_newq {C : String} {index : Nat} {n : Int32} {N : Nat} (a : Nat) (hC : Ctx X A cc own nL C0) (hta : (tysX X)[a]? = some (X.2.2.1 a, .object C)) (w1 : Cond.classLink own index C ∈ G_) (w2 : C ∈ aos) (hn : ¬ n < 0) (hN : n.toNatClampNeg = N) (hb : N * 4 ≤ 536870912) (hc : cs.1 + 1 ≤ R.cells) (hs : cs.2 + N ≤ R.slots) (hd : decode cc pc = .ok (.anewarray index, 3)) (k : ∀ q, Bw X C0 R Q A nL (ws ++ [(q, .inl (X.2.2.1 a, N, .inr (.inr (.inr (.inr (fun _ => none))))))]) (cs.1 + 1, cs.2 + N) (pc + 3) lv (.ref q :: st)) : Bw X C0 R Q A nL ws cs pc lv (.int n :: st) := by
  intro p e s m args below meth c B H locs ls hP hD hS hl
  obtain ⟨b1, b2, b3, b4, b5, b6, b7, b8, b9⟩ := hC _ _ _ _ _ _ _ _ B
  refine va_newq b1 b2 b4 (b5 _ w1) (b7.2.2.2.2.2.2 C w2) b6 hP hD hS b8 hn hN hb hc hs hd (fun q cA H1 hK1 hP1 hD1 hS1 => ?_)
  obtain ⟨_, _, _, _, _, e1⟩ := (hK1.2 (tysX X).length (cA, .object C) (by simp)).2
  obtain ⟨_, _, _, _, _, e2⟩ := (b6.2 a _ hta).2
  have e3 : cA = X.2.2.1 a := Option.some.inj (e1.symm.trans e2)
  subst e3
  exact k q p e s m args below meth c B H1 locs ls hP1 hD1 hS1 hl
theorem w_put {q0 a ci N index k : Nat} {C : String} {T : u_T} {fs : List Value} {v : Value} (hC : Ctx X A cc own nL C0) (hI : ∀ p e s m args below meth c, C0 p e s m args below meth c → meth.name = "<init>") (ty : Nat → FieldType) (hty : ∀ k, k < N → parseFieldDescriptor (T k).2.2.1 = some (ty k)) (hnm : ∀ a, a < N → ∀ b, b < N → a ≠ b → (T a).2.1 ≠ (T b).2.1) (he : ws[q0]? = some (a, .inr (ci, fs))) (hci : vwCl[ci]? = some (C, T, N)) (hin : ∀ w ∈ u_ws C T N, w ∈ G_) (hk : k < N) (hlink : Cond.fieldLink own index (T k).1 (T k).2.1 (T k).2.2.1 ∈ G_) (hdecl : (T k).2.2.2 = true → (T k).1 = own) (hn : narrow (ty k) v = v) (hfit : fits (ty k) v = true) (hl : k < fs.length) (hd : decode cc pc = .ok (.putfield index, 3)) (kk : Bw X C0 R Q A nL (ws.set q0 (a, .inr (ci, fs.set k v))) cs (pc + 3) lv st) : Bw X C0 R Q A nL ws cs pc lv (v :: .ref a :: st) := by
  intro p e s m args below meth c B H locs ls hP hD hS hl9
  obtain ⟨b1, b2, b3, b4, b5, b6, b7, b8, b9⟩ := hC _ _ _ _ _ _ _ _ B
  by_cases hf : (T k).2.2.2 = true
  · exact va_putF b1 b2 b5 hin ty hty hnm b4 b6 hP hD hS q0 he hci k hk (b5 _ hlink) (fun _ z => z) hf (hI _ _ _ _ _ _ _ _ B) (hdecl hf) (hty k hk) hn hfit hl hd (fun H1 locs1 hP1 hD1 hS1 => kk p e s m args below meth c B H1 locs1 ls hP1 hD1 hS1 hl9)
  · exact va_put b1 b2 b5 hin ty hty hnm b4 b6 hP hD hS q0 he hci k hk (b5 _ hlink) (fun _ z => z) (by cases h9 : (T k).2.2.2; rfl; exact absurd h9 hf) (hty k hk) hn hfit hl hd (fun H1 locs1 hP1 hD1 hS1 => kk p e s m args below meth c B H1 locs1 ls hP1 hD1 hS1 hl9)
theorem w_getf {q0 a ci N index k : Nat} {C : String} {T : u_T} {fs : List Value} {v : Value} (hC : Ctx X A cc own nL C0) (he : ws[q0]? = some (a, .inr (ci, fs))) (hci : vwCl[ci]? = some (C, T, N)) (hin : ∀ w ∈ u_ws C T N, w ∈ G_) (hk : k < N) (hlink : Cond.fieldLink own index (T k).1 (T k).2.1 (T k).2.2.1 ∈ G_) (hv : fs[k]? = some v) (hd : decode cc pc = .ok (.getfield index, 3)) (kk : Bw X C0 R Q A nL ws cs (pc + 3) lv (v :: st)) : Bw X C0 R Q A nL ws cs pc lv (.ref a :: st) := by
  intro p e s m args below meth c B H locs ls hP hD hS hl9
  obtain ⟨b1, b2, b3, b4, b5, b6, b7, b8, b9⟩ := hC _ _ _ _ _ _ _ _ B
  exact va_get b1 b2 b5 hin b4 b6 hP q0 he hci k hk (b5 _ hlink) (fun _ z => z) hv hd (kk p e s m args below meth c B H locs ls hP hD hS hl9)
theorem w_gets {index : Nat} (hC : Ctx X A cc own nL C0) (w1 : Cond.fieldLink own index "java/util/ArrayList" "DEFAULTCAPACITY_EMPTY_ELEMENTDATA" "[Ljava/lang/Object;" ∈ G_) (hd : decode cc pc = .ok (.getstatic index, 3)) (kk : Bw X C0 R Q A nL ws cs (pc + 3) lv (.ref X.2.2.2.2 :: st)) : Bw X C0 R Q A nL ws cs pc lv st := by
  intro p e s m args below meth c B H locs ls hP hD hS hl9
  obtain ⟨b1, b2, b3, b4, b5, b6, b7, b8, b9⟩ := hC _ _ _ _ _ _ _ _ B
  exact va_gets b1 b2 (b7.2.2.1.narrow b9) hS b4 (b5 _ w1) (fun _ z => z) hd (kk p e s m args below meth c B H locs ls hP hD hS hl9)
theorem w_alen {q0 a ay : Nat} {x : vp_A} {ty : FieldType} (v : Int32) (hC : Ctx X A cc own nL C0) (he : ws[q0]? = some (a, .inl (X.2.2.1 ay, x))) (hta : (tysX X)[ay]? = some (X.2.2.1 ay, ty)) (hv : Int32.ofNat x.1 = v) (hd : decode cc pc = .ok (.arraylength, 1)) (kk : Bw X C0 R Q A nL ws cs (pc + 1) lv (.int v :: st)) : Bw X C0 R Q A nL ws cs pc lv (.ref a :: st) := by
  intro p e s m args below meth c B H locs ls hP hD hS hl9
  obtain ⟨b1, b2, b3, b4, b5, b6, b7, b8, b9⟩ := hC _ _ _ _ _ _ _ _ B
  exact va_alen b1 b2 b6 hP q0 ay he hta hv hd (kk p e s m args below meth c B H locs ls hP hD hS hl9)
theorem w_iast {q0 a n : Nat} {f : Nat → Int32} {j x : Int32} (hC : Ctx X A cc own nL C0) (he : ws[q0]? = some (a, .inl (X.2.2.1 0, n, .inl f))) (hin : inb j n) (hd : decode cc pc = .ok (.iastore, 1)) (kk : Bw X C0 R Q A nL (ws.set q0 (a, .inl (X.2.2.1 0, n, .inl (upd f j.toNatClampNeg x)))) cs (pc + 1) lv st) : Bw X C0 R Q A nL ws cs pc lv (.int x :: .int j :: .ref a :: st) := by
  intro p e s m args below meth c B H locs ls hP hD hS hl9
  obtain ⟨b1, b2, b3, b4, b5, b6, b7, b8, b9⟩ := hC _ _ _ _ _ _ _ _ B
  exact va_iast b1 b2 b6 hP hD hS q0 0 he rfl (inb_vp hin) hd (fun H1 locs1 hP1 hD1 hS1 => kk p e s m args below meth c B H1 locs1 ls hP1 hD1 hS1 hl9)
theorem w_aast {q0 qk a v n ci N ay : Nat} {C : String} {T : u_T} {vs : List Value} {f : Nat → Option Nat} {j : Int32} (hC : Ctx X A cc own nL C0) (he : ws[q0]? = some (a, .inl (X.2.2.1 ay, n, .inr (.inr (.inr (.inr f)))))) (hta : (tysX X)[ay]? = some (X.2.2.1 ay, .object C)) (hv : ws[qk]? = some (v, .inr (ci, vs))) (hci : vwCl[ci]? = some (C, T, N)) (hin : inb j n) (hd : decode cc pc = .ok (.aastore, 1)) (kk : Bw X C0 R Q A nL (ws.set q0 (a, .inl (X.2.2.1 ay, n, .inr (.inr (.inr (.inr (va_up f j.toNatClampNeg (some v)))))))) cs (pc + 1) lv st) : Bw X C0 R Q A nL ws cs pc lv (.ref v :: .int j :: .ref a :: st) := by
  intro p e s m args below meth c B H locs ls hP hD hS hl9
  obtain ⟨b1, b2, b3, b4, b5, b6, b7, b8, b9⟩ := hC _ _ _ _ _ _ _ _ B
  exact va_astq b1 b2 b6 hP hD hS q0 ay qk ci (r := (C, T, N)) he hta hv hci (inb_vp hin) hd (fun H1 locs1 hP1 hD1 hS1 => kk p e s m args below meth c B H1 locs1 ls hP1 hD1 hS1 hl9)
/-- a constructor, or another method of loose cells, is called -/
theorem w_callG {y : MethodName} {avs : List Value} {kc : Nat × Nat} {wc wr : va_W} {P : va_W → Prop} {fr lo nLc : Nat} {bytes : ByteArray} {stack : List Value} (hC : Ctx X A cc own nL C0) (isC isR : List Nat) (hisC : isC.map (fun i => ws[i]?) = wc.map some) (hisR : isR.map (fun i => ws[i]?) = wr.map some) (hn1 : va_nd isC = true) (hn2 : va_nd isR = true) (hdis : ∀ i ∈ isR, i ∉ isC)
    (hci : CI X y bytes nLc fr lo kc wc avs P)
    (hrun : ∀ p e s m args below meth c, C0 p e s m args below meth c → ∀ H locs ls, lv_has ls nL lv → ∀ sz, Met X.1 y (Cond.code y bytes nLc none :: G_) { frames := fr, cells := kc.1, slots := kc.2, locals := lo } (PnW X wc sz avs) (QnW X wc sz P) kc.1 kc.2 (va_A wc sz) → PreS s H (PnW X wc sz avs) avs → va_Run p X.1 e R s m args below meth c H locs cs.1 cs.2 kc.1 kc.2 (F0 m pc ls stack) st (QnW X wc sz P avs.toArray) (va_A wc sz))
    (k : ∀ w1, P w1 → Bw X C0 R Q A nL (wr ++ w1) (cs.1 + kc.1, cs.2 + kc.2) (pc + 3) lv st) : Bw X C0 R Q A nL ws cs pc lv stack := by
  intro p e s m args below meth c B H locs ls hP hD hS hl
  obtain ⟨b1, b2, b3, b4, b5, b6, b7, b8, b9⟩ := hC _ _ _ _ _ _ _ _ B
  have hDc := hD.sub isC hn1 hisC
  have hPc : va_P X.2.1 vwCl wc H := by
    intro kq q hq
    have h1 : (isC.map (fun i => ws[i]?))[kq]? = some (some q) := by rw [hisC, List.getElem?_map, hq]; rfl
    rw [List.getElem?_map] at h1
    cases hi : isC[kq]? with
    | none => rw [hi] at h1; cases h1
    | some i => rw [hi] at h1; exact hP i q (Option.some.inj h1)
  have hFc := va_free (wc := wc) hD hS b8 isC hisC
  have hz : X.2.2.2.1 ≤ s.heap.size := b9 _ (b8 _ (Nat.le_refl _))
  have hm := hci H.size (Nat.le_trans hz hS.1) (fun kq q hq => b9 _ (hDc.2 kq q hq))
  have hr := hrun p e s m args below meth c B H locs ls hl H.size hm ⟨fun a U g mk z => by
    obtain ⟨z1, z2, z3, z4, z5, z6⟩ := z
    exact ⟨z1, z2, z3, z4, va_K.moved (u := U) (U := U.calling g mk a) (Vm.Alike.refl U.vm) z5, z6.same rfl rfl⟩, fun U hU hW => ⟨rfl, by rw [hU], by rw [hU]; exact hPc, hDc.weaken (fun _ _ _ _ => trivial), va_K.moved hW.alike b6, b7.warm hW (by rw [hU]; exact fun q h1 h2 => hS.2.1 q h1 (fun z => h2 (b9 q z)))⟩⟩
  intro T hT Y
  obtain ⟨v, st0, t, T', L, h0, Y', hL, e1, e2, ⟨⟨hv, w1, hw1, hP1, hD1⟩, hzz, hkk⟩, hgo⟩ := hr T hT Y
  cases hv
  rw [h0] at hzz hkk
  obtain ⟨hP2, hD2⟩ := va_join hP hD isC isR hisC hisR hn2 hdis hkk hFc hP1 hD1
  obtain ⟨t2, a1, c1⟩ := k w1 hw1 p e s m args below meth c B T'.heap (locs ++ L) ls (by rw [e1]; exact hP2) hD2 ⟨Nat.le_trans hS.1 (by rw [e1]; exact hzz), fun q h1 h2 => by rw [e1, hkk q (Nat.lt_of_lt_of_le h1 hS.1) (fun z => h2 (hFc q z))]; exact hS.2.1 q h1 h2, fun q hq => by
      rcases List.mem_append.mp hq with h | h
      · exact hS.2.2 q h
      · exact hFc _ (hL q h)⟩ hl T' rfl Y'
  exact ⟨t2, hgo t2 a1, c1⟩
theorem w_callI {y : MethodName} {kc : Nat × Nat} {wc wr : va_W} {P : va_W → Prop} {fr lo nLc n index b : Nat} {bytes : ByteArray} {As stack : List Value} (hC : Ctx X A cc own nL C0) (isC isR : List Nat) (hisC : isC.map (fun i => ws[i]?) = wc.map some) (hisR : isR.map (fun i => ws[i]?) = wr.map some) (hn1 : va_nd isC = true) (hn2 : va_nd isR = true) (hdis : ∀ i ∈ isR, i ∉ isC)
    (hci : CI X y bytes nLc fr lo kc wc (.ref b :: As) P)
    (hy : y.cls ≠ "java/lang/invoke/MethodHandle" ∧ y.cls ≠ "java/lang/invoke/VarHandle" ∧ (parseMethodDescriptor y.desc).map (fun d => d.parameters.length) = some n) (hy1 : y.name = "<init>") (w1 : Cond.methodLink own index y ∈ G_) (w2 : Cond.instanceMethod y ∈ G_) (w4 : Cond.initialized y.cls ∈ G_) (w5 : Cond.code y bytes nLc none ∈ G_)
    (hn : As.length = n) (hst : stack = As.reverse ++ .ref b :: st) (hsum : (st.map fun v => v.category).sum ≤ 8) (hroom : fr + 1 ≤ R.frames ∧ 8 + (nLc + 11) + lo ≤ R.locals) (hcc : cs.1 + kc.1 ≤ R.cells ∧ cs.2 + kc.2 ≤ R.slots) (hd : decode cc pc = .ok (.invokespecial index, 3))
    (k : ∀ w1, P w1 → Bw X C0 R Q A nL (wr ++ w1) (cs.1 + kc.1, cs.2 + kc.2) (pc + 3) lv st) : Bw X C0 R Q A nL ws cs pc lv stack := by
  refine w_callG hC isC isR hisC hisR hn1 hn2 hdis hci (fun p e s m args below meth c B H locs ls hl sz hm hp => ?_) k
  obtain ⟨b1, b2, b3, b4, b5, b6, b7, b8, b9⟩ := hC _ _ _ _ _ _ _ _ B
  exact va_runI ⟨b1, b2, b3, b4, b5⟩ hm (cwI n b5 (G_in w5) rfl rfl rfl (b5 _ w4) (b5 _ w1) (b5 _ w2) hy1 hy hroom) hp rfl hn hl.1 hst (lv_room hsum) hd hcc
theorem w_callIN {y : MethodName} {kc : Nat × Nat} {wc wr : va_W} {P : va_W → Prop} {fr lo nLc n index b : Nat} {host : String} {bytes : ByteArray} {As stack : List Value} (hC : Ctx X A cc own nL C0) (isC isR : List Nat) (hisC : isC.map (fun i => ws[i]?) = wc.map some) (hisR : isR.map (fun i => ws[i]?) = wr.map some) (hn1 : va_nd isC = true) (hn2 : va_nd isR = true) (hdis : ∀ i ∈ isR, i ∉ isC)
    (hci : CI X y bytes nLc fr lo kc wc (.ref b :: As) P)
    (hy : y.cls ≠ "java/lang/invoke/MethodHandle" ∧ y.cls ≠ "java/lang/invoke/VarHandle" ∧ (parseMethodDescriptor y.desc).map (fun d => d.parameters.length) = some n) (hy1 : y.name = "<init>") (w1 : Cond.methodLinkNest own index y host ∈ NW_) (w2 : Cond.instanceMethod y ∈ G_) (w4 : Cond.initialized y.cls ∈ G_) (w5 : Cond.code y bytes nLc none ∈ G_)
    (hn : As.length = n) (hst : stack = As.reverse ++ .ref b :: st) (hsum : (st.map fun v => v.category).sum ≤ 8) (hroom : fr + 1 ≤ R.frames ∧ 8 + (nLc + 11) + lo ≤ R.locals) (hcc : cs.1 + kc.1 ≤ R.cells ∧ cs.2 + kc.2 ≤ R.slots) (hd : decode cc pc = .ok (.invokespecial index, 3))
    (k : ∀ w1, P w1 → Bw X C0 R Q A nL (wr ++ w1) (cs.1 + kc.1, cs.2 + kc.2) (pc + 3) lv st) : Bw X C0 R Q A nL ws cs pc lv stack := by
  refine w_callG hC isC isR hisC hisR hn1 hn2 hdis hci (fun p e s m args below meth c B H locs ls hl sz hm hp => ?_) k
  obtain ⟨b1, b2, b3, b4, b5, b6, b7, b8, b9⟩ := hC _ _ _ _ _ _ _ _ B
  exact va_runIN ⟨b1, b2, b3, b4, b5⟩ hm ⟨va_cnB n b5 (G_in w5) rfl rfl rfl (b7.2.2.2.2.2.1 _ w1) (b5 _ w4) hy hroom, hy1, b5 _ w2⟩ hp rfl hn hl.1 hst (lv_room hsum) hd hcc
theorem w_callS {y : MethodName} {kc : Nat × Nat} {wc wr : va_W} {P : va_W → Prop} {fr lo nLc n index : Nat} {bytes : ByteArray} {As stack : List Value} (hC : Ctx X A cc own nL C0) (isC isR : List Nat) (hisC : isC.map (fun i => ws[i]?) = wc.map some) (hisR : isR.map (fun i => ws[i]?) = wr.map some) (hn1 : va_nd isC = true) (hn2 : va_nd isR = true) (hdis : ∀ i ∈ isR, i ∉ isC)
    (hci : CI X y bytes nLc fr lo kc wc As P)
    (hy : y.cls ≠ "java/lang/invoke/MethodHandle" ∧ y.cls ≠ "java/lang/invoke/VarHandle" ∧ (parseMethodDescriptor y.desc).map (fun d => d.parameters.length) = some n) (w1 : Cond.methodLink own index y ∈ G_) (w2 : Cond.static y ∈ G_) (w4 : Cond.initialized y.cls ∈ G_) (w5 : Cond.code y bytes nLc none ∈ G_)
    (hn : As.length = n) (hst : stack = As.reverse ++ st) (hsum : (st.map fun v => v.category).sum ≤ 8) (hroom : fr + 1 ≤ R.frames ∧ 8 + (nLc + 11) + lo ≤ R.locals) (hcc : cs.1 + kc.1 ≤ R.cells ∧ cs.2 + kc.2 ≤ R.slots) (hd : decode cc pc = .ok (.invokestatic index, 3))
    (k : ∀ w1, P w1 → Bw X C0 R Q A nL (wr ++ w1) (cs.1 + kc.1, cs.2 + kc.2) (pc + 3) lv st) : Bw X C0 R Q A nL ws cs pc lv stack := by
  refine w_callG hC isC isR hisC hisR hn1 hn2 hdis hci (fun p e s m args below meth c B H locs ls hl sz hm hp => ?_) k
  obtain ⟨b1, b2, b3, b4, b5, b6, b7, b8, b9⟩ := hC _ _ _ _ _ _ _ _ B
  have hG : GoodIn G_ (va_wsS own index y (Cond.code y bytes nLc none :: G_)) := fun w hw => by
    have h1 : w ∈ G_ := by
      simp only [va_wsS, List.cons_append, List.nil_append, List.mem_cons] at hw
      rcases hw with rfl | rfl | rfl | rfl | h
      · exact w1
      · exact w2
      · exact w4
      · exact w5
      · exact h
    exact ⟨h1, good_of_word (G_good w h1)⟩
  exact va_runS ⟨b1, b2, b3, b4, b5⟩ hm (va_cwS n b5 hG rfl rfl rfl hy hroom) hp rfl hn hl.1 hst (lv_room hsum) hd hcc
end BWR
/-- what a constructor's body stands in -/
def C0i (X : Xt) (cc : ByteArray) (nL : Nat) (own : String) (sz : Nat) : C0t := fun p _ s m args _ meth c => Bod X cc nL own none p s m args meth c ∧ s.heap.size = sz
def Qi (X : Xt) (kc : Nat × Nat) (ws : va_W) (sz : Nat) (P : va_W → Prop) : State → MethodId → Array Value → List Frame → State → Prop := fun s _ args below => MQ below (QnW X ws sz P) args s kc.1 kc.2 (va_A ws sz)
theorem CI.intro {X : Xt} {y : MethodName} {cc : ByteArray} {nL fr lo : Nat} {kc : Nat × Nat} {ws : va_W} {avs : List Value} {P : va_W → Prop} (own : String) (ho : y.cls = own) (hst : X.1.stackTraces = false) (hy : plainName y.cls = true) (hlen : (lg_sl avs).length ≤ nL) {lv : List (Nat × Value)} (hlv : lv_args 0 avs = lv) (C1 : Nat → C0t)
    (hC1 : ∀ p e s m args below meth c, Bod X cc nL own none p s m args meth c → meth.name = y.name → C1 s.heap.size p e s m args below meth c)
    (k : ∀ sz, X.2.2.2.1 ≤ sz → (∀ (k : Nat) (q : Nat × va_E), ws[k]? = some q → X.2.2.2.1 ≤ q.1) → va_D (va_A ws sz) ws → Bw X (C1 sz) { frames := fr, cells := kc.1, slots := kc.2, locals := lo } (Qi X kc ws sz P) (va_A ws sz) nL ws (0, 0) 0 lv []) : CI X y cc nL fr lo kc ws avs P := by
  subst ho
  intro sz hsz hws
  refine Met.ofW (cc := cc) (maxL := nL) (ret := none) hy rfl ?_
  intro p e s m args below meth c s₁ B hml hv
  obtain ⟨rfl, hsz2, hP, hD0, hK, hSF⟩ := hv
  have hts0 := atoms_spec (ws := Cond.code y cc nL none :: G_) B.pre
  have htab : ∀ x ∈ c.exceptionTable.toList, False := by
    obtain ⟨meth9, c9, h1, h2, -, -, -, -, h7, -⟩ := Cond.code_spec B.named (hts0 _ List.mem_cons_self)
    cases Option.some.inj (h1.symm.trans B.method)
    cases Option.some.inj (h2.symm.trans (Stand.of_body B).code)
    intro x hx
    rw [Array.isEmpty_iff.mp h7] at hx
    cases hx
  have hB : Bod X cc nL y.cls none p s m avs.toArray meth c := ⟨B.exec, B.bytes, hml, findClass_of_methodNamed B.named, fun w hw => hts0 w (List.mem_cons_of_mem _ hw), B.returns, B.notSynchronized, htab, hK, hSF, hst⟩
  subst hsz2
  have hDs := hD0.self (sz := s.heap.size)
  rw [lg_entry_eq]
  exact k _ hsz hws hDs p e s m _ below meth c (hC1 _ _ _ _ _ _ _ _ hB (name_of_methodNamed B.named B.method).1) s.heap [] _ hP hDs va_S.rf (hlv ▸ lv_entry avs hlen)
/-- the stand of a constructor -/
def Cini (X : Xt) (cc : ByteArray) (nL : Nat) (own : String) (nm : String) (sz : Nat) : C0t := fun p _ s m args _ meth c => Bod X cc nL own none p s m args meth c ∧ meth.name = nm ∧ s.heap.size = sz
theorem Cini.ctx {X : Xt} {cc : ByteArray} {nL : Nat} {own nm : String} {sz : Nat} {ws : va_W} (hsz : X.2.2.2.1 ≤ sz) (hws : ∀ (k : Nat) (q : Nat × va_E), ws[k]? = some q → X.2.2.2.1 ≤ q.1) : Ctx X (va_A ws sz) cc own nL (Cini X cc nL own nm sz) := by
  intro p e s m args below meth c h
  obtain ⟨B, -, hz⟩ := h
  refine ⟨B.1, B.2.1, B.2.2.1, B.2.2.2.1, B.2.2.2.2.1, B.2.2.2.2.2.2.2.2.1, B.2.2.2.2.2.2.2.2.2.1, fun q hq => Or.inr (by rw [← hz]; exact hq), fun q hq => ?_⟩
  rcases hq with ⟨k, e2, hk⟩ | hq
  · exact hws k _ hk
  · exact Nat.le_trans hsz hq
theorem w_vret {X : Xt} {cc : ByteArray} {nL fr lo : Nat} {own nm : String} {sz : Nat} {kc : Nat × Nat} {ws0 ws : va_W} {P : va_W → Prop} {pc : Nat} {lv : List (Nat × Value)} (hP9 : P ws) (hd : decode cc pc = .ok (.return_, 1)) : Bw X (Cini X cc nL own nm sz) { frames := fr, cells := kc.1, slots := kc.2, locals := lo } (Qi X kc ws0 sz P) (va_A ws0 sz) nL ws kc pc lv [] := by
  intro p e s m args below meth c h H locs ls hP hD hS hl
  obtain ⟨B, -, hz⟩ := h
  exact W.vret B.1 B.2.1 B.2.2.2.2.2.1 (fun t ht hW => ⟨⟨rfl, ws, hP9, by rw [ht]; exact hP, hD⟩, hS.F ht⟩) hS.2.2 hd B.2.2.2.2.2.2.1
