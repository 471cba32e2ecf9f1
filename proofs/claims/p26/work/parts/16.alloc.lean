theorem w_465 : Cond.methodLink RJx4a65c 79 Lib.Math.max.name ∈ G_ := gt2 171 (by decide +kernel) (by decide +kernel)
theorem w_466 : Cond.classLink RJx4a65c 7 "java/lang/Object" ∈ G_ := gt2 172 (by decide +kernel) (by decide +kernel)
theorem w_467 : Cond.methodLink RJx4a65c 69 yJx4a65c_grow_92f84 ∈ G_ := gt2 124 (by decide +kernel) (by decide +kernel)
theorem w_468 : Cond.instanceMethod yJx4a65c_grow_92f84 ∈ G_ := gt2 126 (by decide +kernel) (by decide +kernel)
theorem w_469 : Cond.selects RJx4a65c yJx4a65c_grow_92f84 yJx4a65c_grow_92f84 ∈ G_ := gsl 4 (by decide +kernel) (by decide +kernel)
theorem w_470 : Cond.code yJx4a65c_grow_92f84 cJx4a65c_grow_92f84 4 (some ((.array (.object "java/lang/Object")))) ∈ G_ := gt2 127 (by decide +kernel) (by decide +kernel)
theorem w_471 : Cond.methodLink RJx4a65c 129 yJx4a65c_grow_d5877 ∈ G_ := gt2 120 (by decide +kernel) (by decide +kernel)
theorem w_472 : Cond.instanceMethod yJx4a65c_grow_d5877 ∈ G_ := gt2 122 (by decide +kernel) (by decide +kernel)
theorem w_473 : Cond.selects RJx4a65c yJx4a65c_grow_d5877 yJx4a65c_grow_d5877 ∈ G_ := gsl 3 (by decide +kernel) (by decide +kernel)
theorem w_474 : Cond.code yJx4a65c_grow_d5877 cJx4a65c_grow_d5877 1 (some ((.array (.object "java/lang/Object")))) ∈ G_ := gt2 123 (by decide +kernel) (by decide +kernel)
theorem w_475 : Cond.methodLink RJx4a65c 131 yJx4a65c_add_72be8 ∈ G_ := gt2 116 (by decide +kernel) (by decide +kernel)
theorem w_476 : Cond.instanceMethod yJx4a65c_add_72be8 ∈ G_ := gt2 118 (by decide +kernel) (by decide +kernel)
theorem w_477 : Cond.selects RJx4a65c yJx4a65c_add_72be8 yJx4a65c_add_72be8 ∈ G_ := gsl 2 (by decide +kernel) (by decide +kernel)
theorem w_478 : Cond.code yJx4a65c_add_72be8 cJx4a65c_add_72be8 4 none ∈ G_ := gt2 119 (by decide +kernel) (by decide +kernel)
/-! things that are made while the world stands -/
theorem HW.ext {X : Xt} {ad ad' : Ad} {σ σ' : Wd} {H H2 : Heap} {ws : va_W} {key : Nat → Nat × Nat} (h : HW X ad σ H) (hz : X.2.2.2.1 ≤ H.size) (hP : va_P X.2.1 vwCl ws H2) (hD : va_D (fun q => H.size ≤ q) ws)
    (hall : ∀ t i, lvp σ' t i → (lvp σ t i ∧ ad' t i = ad t i ∧ va_at X.2.1 vwCl (ad t i, cellv X ad' σ' t i) H2) ∨ ∃ k, ws[k]? = some (ad' t i, cellv X ad' σ' t i) ∧ key k = (t, i)) : HW X ad' σ' H2 := by
  refine ⟨fun t i hl => ?_, fun t i t' i' h1 h2 h3 => ?_⟩
  · rcases hall t i hl with ⟨a1, a2, a3⟩ | ⟨k, a1, a2⟩
    · rw [a2]; exact ⟨a3, (h.1 t i a1).2⟩
    · exact ⟨hP k _ a1, Nat.le_trans hz (hD.2 k _ a1)⟩
  · rcases hall t i h1 with ⟨a1, a2, a3⟩ | ⟨k, a1, a2⟩ <;> rcases hall t' i' h2 with ⟨b1, b2, b3⟩ | ⟨k', b1, b2⟩
    · rw [a2, b2] at h3; exact h.2 t i t' i' a1 b1 h3
    · have c1 := (h.1 t i a1).1.lt
      have c2 := hD.2 k' _ b1
      rw [a2] at h3
      exact absurd (h3 ▸ c2) (Nat.not_le.mpr c1)
    · have c1 := (h.1 t' i' b1).1.lt
      have c2 := hD.2 k _ a1
      rw [b2] at h3
      exact absurd (h3 ▸ c2) (Nat.not_le.mpr c1)
    · have := hD.1 k k' _ _ a1 b1 h3
      subst this
      have e := a2.symm.trans b2
      exact ⟨congrArg Prod.fst e, congrArg Prod.snd e⟩
def adU (ad : Ad) (t i a : Nat) : Ad := fun t' i' => if t' = t ∧ i' = i then a else ad t' i'
theorem adU_self (ad : Ad) (t i a : Nat) : adU ad t i a t i = a := if_pos ⟨rfl, rfl⟩
theorem adU_ne (ad : Ad) {t i a t' i' : Nat} (h : ¬ (t' = t ∧ i' = i)) : adU ad t i a t' i' = ad t' i' := if_neg h
/-- one more of the things with numbers alone: a diagram (25, count 9), a fault (26, count 10) -/
def nuO (σ : Wd) (t c : Nat) : Wd := (fun t' i' k' => if t' = t ∧ i' = σ.2.2 c then 0 else σ.1 t' i' k', σ.2.1, fun q => if q = c then σ.2.2 c + 1 else σ.2.2 q)
theorem va_at_refs {X : Xt} {a N q : Nat} {f g : Nat → Option Nat} {H : Heap} (h : ∀ j, j < N → f j = g j) (hP : va_at X.2.1 vwCl (q, .inl (X.2.2.1 a, N, .inr (.inr (.inr (.inr f))))) H) : va_at X.2.1 vwCl (q, .inl (X.2.2.1 a, N, .inr (.inr (.inr (.inr g))))) H := by
  have h1 : H[q]? = some (vp_cell (X.2.2.1 a) (N, .inr (.inr (.inr (.inr f))))) := hP
  show H[q]? = some (vp_cell (X.2.2.1 a) (N, .inr (.inr (.inr (.inr g)))))
  rw [h1, vp_cell_q, vp_cell_q]
  refine congrArg some ?_
  unfold arrV
  congr 1
  apply Array.ext
  · simp
  · intro i h1 h2
    simp at h1
    simp [h i h1]
/-- nothing but the lists' rows speaks of diagrams and faults -/
theorem cellv_ad {X : Xt} {ad ad' : Ad} {σ : Wd} {t i : Nat} (h : ∀ t' i', t' ≠ 25 → t' ≠ 26 → ad' t' i' = ad t' i') (ht : t ≠ 27) : cellv X ad' σ t i = cellv X ad σ t i := by
  unfold cellv elA
  split <;> first | (exact absurd rfl ht) | (simp (disch := decide) only [h])
/-! loose walks that answer with a value: the lists' growth -/
def QnR (X : Xt) (ws : va_W) (sz : Nat) (P : Option Value → va_W → Prop) : Array Value → State → Outcome → State → Prop := fun _ st o t => (∃ r, o = .returned r ∧ ∃ ws', P r ws' ∧ va_P X.2.1 vwCl ws' t.heap ∧ va_D (va_A ws sz) ws') ∧ va_F (va_A ws sz) st t
def CR (X : Xt) (y : MethodName) (cc : ByteArray) (nL : Nat) (rt : Option FieldType) (fr lo : Nat) (kc : Nat × Nat) (ws : va_W) (avs : List Value) (P : Option Value → va_W → Prop) : Prop :=
  ∀ sz, X.2.2.2.1 ≤ sz → (∀ (k : Nat) (q : Nat × va_E), ws[k]? = some q → X.2.2.2.1 ≤ q.1) → Met X.1 y (Cond.code y cc nL rt :: G_) { frames := fr, cells := kc.1, slots := kc.2, locals := lo } (PnW X ws sz avs) (QnR X ws sz P) kc.1 kc.2 (va_A ws sz)
def Qr (X : Xt) (kc : Nat × Nat) (ws : va_W) (sz : Nat) (P : Option Value → va_W → Prop) : State → MethodId → Array Value → List Frame → State → Prop := fun s _ args below => MQ below (QnR X ws sz P) args s kc.1 kc.2 (va_A ws sz)
def Crt (X : Xt) (cc : ByteArray) (nL : Nat) (own : String) (rt : Option FieldType) (sz : Nat) : C0t := fun p _ s m args _ meth c => Bod X cc nL own rt p s m args meth c ∧ s.heap.size = sz
theorem Crt.ctx {X : Xt} {cc : ByteArray} {nL : Nat} {own : String} {rt : Option FieldType} {sz : Nat} {ws : va_W} (hsz : X.2.2.2.1 ≤ sz) (hws : ∀ (k : Nat) (q : Nat × va_E), ws[k]? = some q → X.2.2.2.1 ≤ q.1) : Ctx X (va_A ws sz) cc own nL (Crt X cc nL own rt sz) := by
  intro p e s m args below meth c h
  obtain ⟨B, hz⟩ := h
  refine ⟨B.1, B.2.1, B.2.2.1, B.2.2.2.1, B.2.2.2.2.1, B.2.2.2.2.2.2.2.2.1, B.2.2.2.2.2.2.2.2.2.1, fun q hq => Or.inr (by rw [← hz]; exact hq), fun q hq => ?_⟩
  rcases hq with ⟨k, e2, hk⟩ | hq
  · exact hws k _ hk
  · exact Nat.le_trans hsz hq
theorem CR.intro {X : Xt} {y : MethodName} {cc : ByteArray} {nL fr lo : Nat} {rt : Option FieldType} {kc : Nat × Nat} {ws : va_W} {avs : List Value} {P : Option Value → va_W → Prop} (own : String) (ho : y.cls = own) (hst : X.1.stackTraces = false) (hy : plainName y.cls = true) (hlen : (lg_sl avs).length ≤ nL) {lv : List (Nat × Value)} (hlv : lv_args 0 avs = lv)
    (k : ∀ sz, X.2.2.2.1 ≤ sz → (∀ (k : Nat) (q : Nat × va_E), ws[k]? = some q → X.2.2.2.1 ≤ q.1) → va_D (va_A ws sz) ws → Bw X (Crt X cc nL own rt sz) { frames := fr, cells := kc.1, slots := kc.2, locals := lo } (Qr X kc ws sz P) (va_A ws sz) nL ws (0, 0) 0 lv []) : CR X y cc nL rt fr lo kc ws avs P := by
  subst ho
  intro sz hsz hws
  refine Met.ofW (cc := cc) (maxL := nL) (ret := rt) hy rfl ?_
  intro p e s m args below meth c s₁ B hml hv
  obtain ⟨rfl, hsz2, hP, hD0, hK, hSF⟩ := hv
  have hts0 := atoms_spec (ws := Cond.code y cc nL rt :: G_) B.pre
  have htab : ∀ x ∈ c.exceptionTable.toList, False := by
    obtain ⟨meth9, c9, h1, h2, -, -, -, -, h7, -⟩ := Cond.code_spec B.named (hts0 _ List.mem_cons_self)
    cases Option.some.inj (h1.symm.trans B.method)
    cases Option.some.inj (h2.symm.trans (Stand.of_body B).code)
    intro x hx
    rw [Array.isEmpty_iff.mp h7] at hx
    cases hx
  have hB : Bod X cc nL y.cls rt p s m avs.toArray meth c := ⟨B.exec, B.bytes, hml, findClass_of_methodNamed B.named, fun w hw => hts0 w (List.mem_cons_of_mem _ hw), B.returns, B.notSynchronized, htab, hK, hSF, hst⟩
  subst hsz2
  have hDs := hD0.self (sz := s.heap.size)
  rw [lg_entry_eq]
  exact k _ hsz hws hDs p e s m _ below meth c ⟨hB, rfl⟩ s.heap [] _ hP hDs va_S.rf (hlv ▸ lv_entry avs hlen)
section BWS
variable {X : Xt} {C0 : C0t} {R : Room} {Q : State → MethodId → Array Value → List Frame → State → Prop} {A : Nat → Prop} {cc : ByteArray} {own : String} {nL : Nat} {ws : va_W} {cs : Nat × Nat} {pc : Nat} {lv : List (Nat × Value)} {st : List Value}
theorem w_iadd {x y : Int32} (v : Int32) (hv : x + y = v) (hC : Ctx X A cc own nL C0) (hd : decode cc pc = .ok (.iadd, 1)) (k : Bw X C0 R Q A nL ws cs (pc + 1) lv (.int v :: st)) : Bw X C0 R Q A nL ws cs pc lv (.int y :: .int x :: st) := by
  intro p e s m args below meth c B H locs ls hP hD hS hl
  obtain ⟨b1, b2, b3, b4, b5, b6, b7, b8, b9⟩ := hC _ _ _ _ _ _ _ _ B
  subst hv
  exact lv_iadd b1 b2 hd (k p e s m args below meth c B H locs ls hP hD hS hl)
theorem w_dup_x1 {va vb : Value} (hv : va.category = 1) (hw : vb.category = 1) (hC : Ctx X A cc own nL C0) (hd : decode cc pc = .ok (.dup_x1, 1)) (k : Bw X C0 R Q A nL ws cs (pc + 1) lv (va :: vb :: va :: st)) : Bw X C0 R Q A nL ws cs pc lv (va :: vb :: st) := by
  intro p e s m args below meth c B H locs ls hP hD hS hl
  obtain ⟨b1, b2, b3, b4, b5, b6, b7, b8, b9⟩ := hC _ _ _ _ _ _ _ _ B
  exact lv_dup_x1 b1 b2 hd hv hw (k p e s m args below meth c B H locs ls hP hD hS hl)
theorem w_icmp_ne {x y : Int32} {off : Int} (tgt : Nat) (ht : (pc : Int) + off = (tgt : Int)) (hC : Ctx X A cc own nL C0) (hd : decode cc pc = .ok (.if_icmp .ne off, 3)) (k1 : ¬ x = y → Bw X C0 R Q A nL ws cs tgt lv st) (k2 : x = y → Bw X C0 R Q A nL ws cs (pc + 3) lv st) : Bw X C0 R Q A nL ws cs pc lv (.int y :: .int x :: st) := by
  intro p e s m args below meth c B H locs ls hP hD hS hl
  obtain ⟨b1, b2, b3, b4, b5, b6, b7, b8, b9⟩ := hC _ _ _ _ _ _ _ _ B
  exact lv_icmp_ne b1 b2 hd ht (fun hc => k1 hc p e s m args below meth c B H locs ls hP hD hS hl) (fun hc => k2 hc p e s m args below meth c B H locs ls hP hD hS hl)
theorem w_if_gt {x : Int32} {off : Int} (tgt : Nat) (ht : (pc : Int) + off = (tgt : Int)) (hC : Ctx X A cc own nL C0) (hd : decode cc pc = .ok (.ifCond .gt off, 3)) (k1 : 0 < x → Bw X C0 R Q A nL ws cs tgt lv st) (k2 : ¬ 0 < x → Bw X C0 R Q A nL ws cs (pc + 3) lv st) : Bw X C0 R Q A nL ws cs pc lv (.int x :: st) := by
  intro p e s m args below meth c B H locs ls hP hD hS hl
  obtain ⟨b1, b2, b3, b4, b5, b6, b7, b8, b9⟩ := hC _ _ _ _ _ _ _ _ B
  exact lv_if_gt b1 b2 hd ht (fun hc => k1 hc p e s m args below meth c B H locs ls hP hD hS hl) (fun hc => k2 hc p e s m args below meth c B H locs ls hP hD hS hl)
theorem w_acmp_eqT {x : Nat} {off : Int} (tgt : Nat) (ht : (pc : Int) + off = (tgt : Int)) (hC : Ctx X A cc own nL C0) (hd : decode cc pc = .ok (.if_acmp .eq off, 3)) (k1 : Bw X C0 R Q A nL ws cs tgt lv st) : Bw X C0 R Q A nL ws cs pc lv (.ref x :: .ref x :: st) := by
  intro p e s m args below meth c B H locs ls hP hD hS hl
  obtain ⟨b1, b2, b3, b4, b5, b6, b7, b8, b9⟩ := hC _ _ _ _ _ _ _ _ B
  exact lv_acmp_eq (rx := some x) (ry := some x) b1 b2 hd ht (fun _ => k1 p e s m args below meth c B H locs ls hP hD hS hl) (fun hc => absurd rfl hc)
theorem w_alenE (hC : Ctx X A cc own nL C0) (hd : decode cc pc = .ok (.arraylength, 1)) (kk : Bw X C0 R Q A nL ws cs (pc + 1) lv (.int 0 :: st)) : Bw X C0 R Q A nL ws cs pc lv (.ref X.2.2.2.2 :: st) := by
  intro p e s m args below meth c B H locs ls hP hD hS hl9
  obtain ⟨b1, b2, b3, b4, b5, b6, b7, b8, b9⟩ := hC _ _ _ _ _ _ _ _ B
  exact va_tlen b1 b2 (b7.2.2.2.1.narrow b9) hS (v := 0) rfl hd (kk p e s m args below meth c B H locs ls hP hD hS hl9)
theorem w_mmax {index : Nat} {x y : Int32} (v : Int32) (hv : (if x < y then y else x) = v) (hC : Ctx X A cc own nL C0) (w1 : Cond.methodLink own index Lib.Math.max.name ∈ G_) (w2 : Cond.static Lib.Math.max.name ∈ G_) (w3 : Cond.initialized "java/lang/Math" ∈ G_) (w4 : Cond.code Lib.Math.max.name Lib.Math.max.code 2 (some .int) ∈ G_) (hf : 1 ≤ R.frames) (hlo : (st.map fun v => v.category).sum + 13 ≤ R.locals) (hc : cs.1 ≤ R.cells) (hs : cs.2 ≤ R.slots) (hd : decode cc pc = .ok (.invokestatic index, 3))
    (kk : Bw X C0 R Q A nL ws cs (pc + 3) lv (.int v :: st)) : Bw X C0 R Q A nL ws cs pc lv (.int y :: .int x :: st) := by
  intro p e s m args below meth c B H locs ls hP hD hS hl9
  obtain ⟨b1, b2, b3, b4, b5, b6, b7, b8, b9⟩ := hC _ _ _ _ _ _ _ _ B
  subst hv
  exact va_mmax b1 b2 (b3.trans hl9.1.symm) b4 (b5 _ w1) (b5 _ w2) (b5 _ w3) (b5 _ w4) hf hlo hc hs hd (kk p e s m args below meth c B H locs ls hP hD hS hl9)
theorem w_getfS {q0 a ci N index k : Nat} {C ref : String} {T : u_T} {fs : List Value} {v : Value} (hC : Ctx X A cc own nL C0) (he : ws[q0]? = some (a, .inr (ci, fs))) (hci : vwCl[ci]? = some (C, T, N)) (hin : ∀ w ∈ u_ws C T N, w ∈ G_) (hk : k < N) (hlink : Cond.fieldLink own index ref (T k).2.1 (T k).2.2.1 ∈ G_) (hsame : Cond.sameField ref (T k).1 (T k).2.1 (T k).2.2.1 ∈ G_) (hv : fs[k]? = some v) (hd : decode cc pc = .ok (.getfield index, 3)) (kk : Bw X C0 R Q A nL ws cs (pc + 3) lv (v :: st)) : Bw X C0 R Q A nL ws cs pc lv (.ref a :: st) := by
  intro p e s m args below meth c B H locs ls hP hD hS hl9
  obtain ⟨b1, b2, b3, b4, b5, b6, b7, b8, b9⟩ := hC _ _ _ _ _ _ _ _ B
  exact va_get b1 b2 b5 hin b4 b6 hP q0 he hci k hk (b5 _ hlink) (fun x z => u_same (b5 _ hsame) x z) hv hd (kk p e s m args below meth c B H locs ls hP hD hS hl9)
theorem w_putS {q0 a ci N index k : Nat} {C ref : String} {T : u_T} {fs : List Value} {v : Value} (hC : Ctx X A cc own nL C0) (ty : Nat → FieldType) (hty : ∀ k, k < N → parseFieldDescriptor (T k).2.2.1 = some (ty k)) (hnm : ∀ a, a < N → ∀ b, b < N → a ≠ b → (T a).2.1 ≠ (T b).2.1) (he : ws[q0]? = some (a, .inr (ci, fs))) (hci : vwCl[ci]? = some (C, T, N)) (hin : ∀ w ∈ u_ws C T N, w ∈ G_) (hk : k < N) (hlink : Cond.fieldLink own index ref (T k).2.1 (T k).2.2.1 ∈ G_) (hsame : Cond.sameField ref (T k).1 (T k).2.1 (T k).2.2.1 ∈ G_) (hf : (T k).2.2.2 = false) (hn : narrow (ty k) v = v) (hfit : fits (ty k) v = true) (hl : k < fs.length) (hd : decode cc pc = .ok (.putfield index, 3)) (kk : Bw X C0 R Q A nL (ws.set q0 (a, .inr (ci, fs.set k v))) cs (pc + 3) lv st) : Bw X C0 R Q A nL ws cs pc lv (v :: .ref a :: st) := by
  intro p e s m args below meth c B H locs ls hP hD hS hl9
  obtain ⟨b1, b2, b3, b4, b5, b6, b7, b8, b9⟩ := hC _ _ _ _ _ _ _ _ B
  exact va_put b1 b2 b5 hin ty hty hnm b4 b6 hP hD hS q0 he hci k hk (b5 _ hlink) (fun x z => u_same (b5 _ hsame) x z) hf (hty k hk) hn hfit hl hd (fun H1 locs1 hP1 hD1 hS1 => kk p e s m args below meth c B H1 locs1 ls hP1 hD1 hS1 hl9)
theorem w_putN {q0 a ci N index k : Nat} {C : String} {T : u_T} {fs : List Value} {v : Value} (hC : Ctx X A cc own nL C0) (ty : Nat → FieldType) (hty : ∀ k, k < N → parseFieldDescriptor (T k).2.2.1 = some (ty k)) (hnm : ∀ a, a < N → ∀ b, b < N → a ≠ b → (T a).2.1 ≠ (T b).2.1) (he : ws[q0]? = some (a, .inr (ci, fs))) (hci : vwCl[ci]? = some (C, T, N)) (hin : ∀ w ∈ u_ws C T N, w ∈ G_) (hk : k < N) (hlink : Cond.fieldLink own index (T k).1 (T k).2.1 (T k).2.2.1 ∈ G_) (hf : (T k).2.2.2 = false) (hn : narrow (ty k) v = v) (hfit : fits (ty k) v = true) (hl : k < fs.length) (hd : decode cc pc = .ok (.putfield index, 3)) (kk : Bw X C0 R Q A nL (ws.set q0 (a, .inr (ci, fs.set k v))) cs (pc + 3) lv st) : Bw X C0 R Q A nL ws cs pc lv (v :: .ref a :: st) := by
  intro p e s m args below meth c B H locs ls hP hD hS hl9
  obtain ⟨b1, b2, b3, b4, b5, b6, b7, b8, b9⟩ := hC _ _ _ _ _ _ _ _ B
  exact va_put b1 b2 b5 hin ty hty hnm b4 b6 hP hD hS q0 he hci k hk (b5 _ hlink) (fun _ z => z) hf (hty k hk) hn hfit hl hd (fun H1 locs1 hP1 hD1 hS1 => kk p e s m args below meth c B H1 locs1 ls hP1 hD1 hS1 hl9)
theorem w_aastO {q0 qk a v n ci N : Nat} {C : String} {T : u_T} {vs : List Value} {f : Nat → Option Nat} {j : Int32} (hC : Ctx X A cc own nL C0) (he : ws[q0]? = some (a, .inl (X.2.2.1 5, n, .inr (.inr (.inr (.inr f)))))) (hv : ws[qk]? = some (v, .inr (ci, vs))) (hci : vwCl[ci]? = some (C, T, N)) (hca : Cond.castable C "java/lang/Object" ∈ NW_) (hin : inb j n) (hd : decode cc pc = .ok (.aastore, 1)) (kk : Bw X C0 R Q A nL (ws.set q0 (a, .inl (X.2.2.1 5, n, .inr (.inr (.inr (.inr (va_up f j.toNatClampNeg (some v)))))))) cs (pc + 1) lv st) : Bw X C0 R Q A nL ws cs pc lv (.ref v :: .int j :: .ref a :: st) := by
  intro p e s m args below meth c B H locs ls hP hD hS hl9
  obtain ⟨b1, b2, b3, b4, b5, b6, b7, b8, b9⟩ := hC _ _ _ _ _ _ _ _ B
  exact va_astqO b1 b2 b6 hP hD hS q0 5 qk ci (r := (C, T, N)) (E := "java/lang/Object") he rfl (b7.2.2.2.2.2.1 _ hca) hv hci (inb_vp hin) hd (fun H1 locs1 hP1 hD1 hS1 => kk p e s m args below meth c B H1 locs1 ls hP1 hD1 hS1 hl9)
theorem w_callVR {y : MethodName} {kc : Nat × Nat} {wc wr : va_W} {P : Option Value → va_W → Prop} {rt : Option FieldType} {fr lo nLc n index b q0 ci N : Nat} {C : String} {T : u_T} {fs : List Value} {bytes : ByteArray} {As stack : List Value} (hC : Ctx X A cc own nL C0) (isC isR : List Nat) (hisC : isC.map (fun i => ws[i]?) = wc.map some) (hisR : isR.map (fun i => ws[i]?) = wr.map some) (hn1 : va_nd isC = true) (hn2 : va_nd isR = true) (hdis : ∀ i ∈ isR, i ∉ isC)
    (hci : CR X y bytes nLc rt fr lo kc wc (.ref b :: As) P) (he : ws[q0]? = some (b, .inr (ci, fs))) (hcl : vwCl[ci]? = some (C, T, N))
    (hy : y.cls = C ∧ y.cls ≠ "java/lang/invoke/MethodHandle" ∧ y.cls ≠ "java/lang/invoke/VarHandle" ∧ (parseMethodDescriptor y.desc).map (fun d => d.parameters.length) = some n)
    (w1 : Cond.methodLink own index y ∈ G_) (w2 : Cond.instanceMethod y ∈ G_) (w3 : Cond.selects y.cls y y ∈ G_) (w4 : Cond.initialized y.cls ∈ G_) (w5 : Cond.code y bytes nLc rt ∈ G_)
    (hn : As.length = n) (hst : stack = As.reverse ++ .ref b :: st) (hsum : (st.map fun v => v.category).sum ≤ 8) (hroom : fr + 1 ≤ R.frames ∧ 8 + (nLc + 11) + lo ≤ R.locals) (hcc : cs.1 + kc.1 ≤ R.cells ∧ cs.2 + kc.2 ≤ R.slots) (hd : decode cc pc = .ok (.invokevirtual index, 3))
    (k : ∀ r w1, P r w1 → Bw X C0 R Q A nL (wr ++ w1) (cs.1 + kc.1, cs.2 + kc.2) (pc + 3) lv (r.toList ++ st)) : Bw X C0 R Q A nL ws cs pc lv stack := by
  intro p e s m args below meth c B H locs ls hP hD hS hl
  obtain ⟨b1, b2, b3, b4, b5, b6, b7, b8, b9⟩ := hC _ _ _ _ _ _ _ _ B
  have hDc := hD.sub isC hn1 hisC
  have hPc : va_P X.2.1 vwCl wc H := by
    intro kq q hq
    have h1 : (isC.map (fun i => ws[i]?))[kq]? = some (some q) := by rw [hisC, List.getElem?_map, hq]; rfl
    rw [List.getElem?_map] at h1
    cases hi : isC[kq]? with
    | none => rw [hi] at h1; cases h1
    | some i => rw [hi] at h1; exact hP i q (Option.some.inj h1)
  have hFc := va_free (wc := wc) hD hS b8 isC hisC
  have hz : X.2.2.2.1 ≤ s.heap.size := b9 _ (b8 _ (Nat.le_refl _))
  have hm := hci H.size (Nat.le_trans hz hS.1) (fun kq q hq => b9 _ (hDc.2 kq q hq))
  have hG : GoodIn G_ (wsV own index y.cls y (Cond.code y bytes nLc rt :: G_)) := fun w hw => by
    have h1 : w ∈ G_ := by
      simp only [wsV, List.cons_append, List.nil_append, List.mem_cons] at hw
      rcases hw with rfl | rfl | rfl | rfl | rfl | h
      · exact w1
      · exact w2
      · exact w3
      · exact w4
      · exact w5
      · exact h
    exact ⟨h1, good_of_word (G_good w h1)⟩
  have hpre : PreV s H y.cls b (PnW X wc H.size (.ref b :: As)) As := ⟨fun a U g mk z => by
    obtain ⟨z1, z2, z3, z4, z5, z6⟩ := z
    exact ⟨z1, z2, z3, z4, va_K.moved (u := U) (U := U.calling g mk a) (Vm.Alike.refl U.vm) z5, z6.same rfl rfl⟩, (by
      have hr := va_recv (q := (C, T, N)) b6 hP hcl he
      rw [hy.1]
      exact hr), fun U hU hW => ⟨rfl, by rw [hU], by rw [hU]; exact hPc, hDc.weaken (fun _ _ _ _ => trivial), va_K.moved hW.alike b6, b7.warm hW (by rw [hU]; exact fun q h1 h2 => hS.2.1 q h1 (fun z => h2 (b9 q z)))⟩⟩
  have hr := va_runV ⟨b1, b2, b3, b4, b5⟩ hm (cwV n b5 hG rfl rfl rfl ⟨rfl, hy.2⟩ hroom) hpre (e := e) (below := below) (meth := meth) (locs := locs) (cells := cs.1) (slots := cs.2) (g := F0 m pc ls stack) (rest := st) rfl hn hl.1 hst (lv_room hsum) hd hcc
  intro Tt hT Y
  obtain ⟨v, st0, t, T', L, h0, Y', hL, e1, e2, ⟨⟨r, hv, w1, hw1, hP1, hD1⟩, hzz, hkk⟩, hgo⟩ := hr Tt hT Y
  cases hv
  rw [h0] at hzz hkk
  obtain ⟨hP2, hD2⟩ := va_join hP hD isC isR hisC hisR hn2 hdis hkk hFc hP1 hD1
  obtain ⟨t2, a1, c1⟩ := k _ w1 hw1 p e s m args below meth c B T'.heap (locs ++ L) ls (by rw [e1]; exact hP2) hD2 ⟨Nat.le_trans hS.1 (by rw [e1]; exact hzz), fun q h1 h2 => by rw [e1, hkk q (Nat.lt_of_lt_of_le h1 hS.1) (fun z => h2 (hFc q z))]; exact hS.2.1 q h1 h2, fun q hq => by
      rcases List.mem_append.mp hq with h | h
      · exact hS.2.2 q h
      · exact hFc _ (hL q h)⟩ hl T' rfl Y'
  exact ⟨t2, hgo t2 a1, c1⟩
end BWS
section RET
variable {X : Xt} {cc : ByteArray} {nL fr lo : Nat} {own : String} {rt : Option FieldType} {sz : Nat} {kc : Nat × Nat} {ws0 ws : va_W} {P : Option Value → va_W → Prop} {pc : Nat} {lv : List (Nat × Value)}
theorem w_vretR (hP9 : P none ws) (hd : decode cc pc = .ok (.return_, 1)) : Bw X (Crt X cc nL own none sz) { frames := fr, cells := kc.1, slots := kc.2, locals := lo } (Qr X kc ws0 sz P) (va_A ws0 sz) nL ws kc pc lv [] := by
  intro p e s m args below meth c h H locs ls hP hD hS hl
  obtain ⟨B, hz⟩ := h
  exact W.vret B.1 B.2.1 B.2.2.2.2.2.1 (fun t ht hW => ⟨⟨none, rfl, ws, hP9, by rw [ht]; exact hP, hD⟩, hS.F ht⟩) hS.2.2 hd B.2.2.2.2.2.2.1
theorem w_aretR {v : Nat} {ty : FieldType} (hP9 : P (some (.ref v)) ws) (hty : (∃ n, ty = .object n) ∨ ∃ t, ty = .array t) (hd : decode cc pc = .ok (.areturn, 1)) : Bw X (Crt X cc nL own (some ty) sz) { frames := fr, cells := kc.1, slots := kc.2, locals := lo } (Qr X kc ws0 sz P) (va_A ws0 sz) nL ws kc pc lv [.ref v] := by
  intro p e s m args below meth c h H locs ls hP hD hS hl
  obtain ⟨B, hz⟩ := h
  exact W.aret B.1 B.2.1 B.2.2.2.2.2.1 hty (Or.inr ⟨v, rfl⟩) (fun t ht hW => ⟨⟨_, rfl, ws, hP9, by rw [ht]; exact hP, hD⟩, hS.F ht⟩) hS.2.2 hd B.2.2.2.2.2.2.1
theorem w_zretR {v : Int32} (hP9 : P (some (.int v)) ws) (hn : narrow .boolean (.int v) = .int v) (hd : decode cc pc = .ok (.ireturn, 1)) : Bw X (Crt X cc nL own (some .boolean) sz) { frames := fr, cells := kc.1, slots := kc.2, locals := lo } (Qr X kc ws0 sz P) (va_A ws0 sz) nL ws kc pc lv [.int v] := by
  intro p e s m args below meth c h H locs ls hP hD hS hl
  obtain ⟨B, hz⟩ := h
  exact W.zret B.1 B.2.1 B.2.2.2.2.2.1 hn (fun t ht hW => ⟨⟨_, rfl, ws, hP9, by rw [ht]; exact hP, hD⟩, hS.F ht⟩) hS.2.2 hd B.2.2.2.2.2.2.1
theorem w_convR {C0 : C0t} {R : Room} {Q : State → MethodId → Array Value → List Frame → State → Prop} {A : Nat → Prop} {cs : Nat × Nat} {st : List Value} {ws' : va_W} (h : ws = ws') (k : Bw X C0 R Q A nL ws' cs pc lv st) : Bw X C0 R Q A nL ws cs pc lv st := by
  subst h
  exact k
end RET
abbrev rwN (X : Xt) (q : Nat) (f : Nat → Option Nat) : Nat × va_E := (q, .inl (X.2.2.1 5, 10, .inr (.inr (.inr (.inr f)))))
theorem cr_grow1 (X : Xt) (hst : X.1.stackTraces = false) (h0 : Nat) (m : Int32) : CR X yJx4a65c_grow_92f84 cJx4a65c_grow_92f84 4 (some (.array (.object "java/lang/Object"))) 1 14 (1, 10) [(h0, .inr (0, [.int m, .ref X.2.2.2.2, .int 0]))] [.ref h0, .int 1] (fun r w => ∃ q, r = some (.ref q) ∧ w = [(h0, .inr (0, [.int m, .ref q, .int 0])), rwN X q (fun _ => none)]) := by
  refine CR.intro RJx4a65c rfl hst (by decide) (Nat.le_of_ble_eq_true rfl) (lv := [(0, .ref _), (1, .int _)]) rfl (fun sz hsz hws hD0 => ?_)
  have hC := Crt.ctx (cc := cJx4a65c_grow_92f84) (nL := 4) (own := RJx4a65c) (rt := some (.array (.object "java/lang/Object"))) hsz hws
  refine w_aload_n 0 rfl hC dJx4a65c_grow_92f84_0 ?_
  refine w_getf (q0 := 0) (k := 1) hC rfl rfl in_0 (by decide) w_100 rfl dJx4a65c_grow_92f84_1 ?_
  refine w_alenE hC dJx4a65c_grow_92f84_4 ?_
  refine w_istore_n [(2, .int _), (0, .ref _), (1, .int _)] rfl (by decide) hC dJx4a65c_grow_92f84_5 ?_
  refine w_iload_n 0 rfl hC dJx4a65c_grow_92f84_6 ?_
  refine w_if_gt 20 (by decide) hC dJx4a65c_grow_92f84_7 (fun hc => absurd hc (by decide)) (fun _ => ?_)
  refine w_aload_n 1 rfl hC dJx4a65c_grow_92f84_10 ?_
  refine w_getf (q0 := 0) (k := 1) hC rfl rfl in_0 (by decide) w_100 rfl dJx4a65c_grow_92f84_11 ?_
  refine w_gets hC w_406 dJx4a65c_grow_92f84_14 ?_
  refine w_acmp_eqT 45 (by decide) hC dJx4a65c_grow_92f84_17 ?_
  refine w_aload_n 1 rfl hC dJx4a65c_grow_92f84_45 ?_
  refine w_bipush 10 (by decide) hC dJx4a65c_grow_92f84_46 ?_
  refine w_iload_n 2 rfl hC dJx4a65c_grow_92f84_48 ?_
  refine w_mmax 10 (by decide) hC w_465 w_34 w_35 w_36 (by decide) (Nat.le_of_ble_eq_true rfl) (Nat.zero_le _) (Nat.zero_le _) dJx4a65c_grow_92f84_49 ?_
  refine w_newq (N := 10) 5 hC rfl w_466 (by decide) (by decide) (by decide) (by decide) (Nat.le_of_ble_eq_true rfl) (Nat.le_of_ble_eq_true rfl) dJx4a65c_grow_92f84_52 (fun q => ?_)
  refine w_dup_x1 rfl rfl hC dJx4a65c_grow_92f84_55 ?_
  refine w_putN (q0 := 0) (k := 1) hC tyJx4a65c tyJx4a65c_ok nmJx4a65c rfl rfl in_0 (by decide) w_100 rfl rfl rfl (Nat.le_of_ble_eq_true rfl) dJx4a65c_grow_92f84_56 ?_
  exact w_aretR (kc := (1, 10)) ⟨q, rfl, rfl⟩ (Or.inr ⟨_, rfl⟩) dJx4a65c_grow_92f84_59
theorem cr_grow0 (X : Xt) (hst : X.1.stackTraces = false) (h0 : Nat) (m : Int32) : CR X yJx4a65c_grow_d5877 cJx4a65c_grow_d5877 1 (some (.array (.object "java/lang/Object"))) 2 37 (1, 10) [(h0, .inr (0, [.int m, .ref X.2.2.2.2, .int 0]))] [.ref h0] (fun r w => ∃ q, r = some (.ref q) ∧ w = [(h0, .inr (0, [.int m, .ref q, .int 0])), rwN X q (fun _ => none)]) := by
  refine CR.intro RJx4a65c rfl hst (by decide) (Nat.le_of_ble_eq_true rfl) (lv := [(0, .ref _)]) rfl (fun sz hsz hws hD0 => ?_)
  have hC := Crt.ctx (cc := cJx4a65c_grow_d5877) (nL := 1) (own := RJx4a65c) (rt := some (.array (.object "java/lang/Object"))) hsz hws
  refine w_aload_n 0 rfl hC dJx4a65c_grow_d5877_0 ?_
  refine w_aload_n 0 rfl hC dJx4a65c_grow_d5877_1 ?_
  refine w_getf (q0 := 0) (k := 2) hC rfl rfl in_0 (by decide) w_91 rfl dJx4a65c_grow_d5877_2 ?_
  refine w_iconst 1 (by decide) hC dJx4a65c_grow_d5877_5 ?_
  refine w_iadd 1 (by decide) hC dJx4a65c_grow_d5877_6 ?_
  refine w_callVR (wr := []) (n := 1) (As := [.int _]) (q0 := 0) hC [0] [] rfl rfl (by decide) (by decide) (by decide) (cr_grow1 X hst _ _) rfl rfl ⟨rfl, by decide, by decide, by decide +kernel⟩ w_467 w_468 w_469 w_104 w_470 rfl rfl (Nat.le_of_ble_eq_true rfl) ⟨by decide, by decide⟩ ⟨Nat.le_of_ble_eq_true rfl, Nat.le_of_ble_eq_true rfl⟩ dJx4a65c_grow_d5877_7 (fun r w9 h9 => ?_)
  obtain ⟨q, rfl, rfl⟩ := h9
  exact w_aretR (kc := (1, 10)) ⟨q, rfl, rfl⟩ (Or.inr ⟨_, rfl⟩) dJx4a65c_grow_d5877_10
theorem cr_add3A (X : Xt) (hst : X.1.stackTraces = false) (h0 v ci N : Nat) (m : Int32) (vs : List Value) {C : String} {T : u_T} (hci : vwCl[ci]? = some (C, T, N)) (hca : Cond.castable C "java/lang/Object" ∈ NW_) : CR X yJx4a65c_add_72be8 cJx4a65c_add_72be8 4 none 3 57 (1, 10) [(h0, .inr (0, [.int m, .ref X.2.2.2.2, .int 0])), (v, .inr (ci, vs))] [.ref h0, .ref v, .ref X.2.2.2.2, .int 0] (fun r w => r = none ∧ ∃ q, w = [(v, .inr (ci, vs)), (h0, .inr (0, [.int m, .ref q, .int 1])), rwN X q (va_up (fun _ => none) 0 (some v))]) := by
  refine CR.intro RJx4a65c rfl hst (by decide) (Nat.le_of_ble_eq_true rfl) (lv := [(0, .ref _), (1, .ref _), (2, .ref _), (3, .int _)]) rfl (fun sz hsz hws hD0 => ?_)
  have hC := Crt.ctx (cc := cJx4a65c_add_72be8) (nL := 4) (own := RJx4a65c) (rt := none) hsz hws
  refine w_iload_n 3 rfl hC dJx4a65c_add_72be8_0 ?_
  refine w_aload_n 2 rfl hC dJx4a65c_add_72be8_1 ?_
  refine w_alenE hC dJx4a65c_add_72be8_2 ?_
  refine w_icmp_ne 11 (by decide) hC dJx4a65c_add_72be8_3 (fun hc => absurd rfl hc) (fun _ => ?_)
  refine w_aload_n 0 rfl hC dJx4a65c_add_72be8_6 ?_
  refine w_callVR (wr := [_]) (n := 0) (As := []) (q0 := 0) hC [0] [1] rfl rfl (by decide) (by decide) (by decide) (cr_grow0 X hst _ _) rfl rfl ⟨rfl, by decide, by decide, by decide +kernel⟩ w_471 w_472 w_473 w_104 w_474 rfl rfl (Nat.le_of_ble_eq_true rfl) ⟨by decide, by decide⟩ ⟨Nat.le_of_ble_eq_true rfl, Nat.le_of_ble_eq_true rfl⟩ dJx4a65c_add_72be8_7 (fun r w9 h9 => ?_)
  obtain ⟨q, rfl, rfl⟩ := h9
  refine w_astore_n [(2, .ref _), (0, .ref _), (1, .ref _), (3, .int _)] rfl (by decide) hC dJx4a65c_add_72be8_10 ?_
  refine w_aload_n 0 rfl hC dJx4a65c_add_72be8_11 ?_
  refine w_iload_n 3 rfl hC dJx4a65c_add_72be8_12 ?_
  refine w_aload_n 2 rfl hC dJx4a65c_add_72be8_13 ?_
  refine w_aastO (q0 := 2) (qk := 0) (n := 10) hC rfl rfl hci hca ⟨by decide, by decide⟩ dJx4a65c_add_72be8_14 ?_
  refine w_aload_n 1 rfl hC dJx4a65c_add_72be8_15 ?_
  refine w_iload_n 3 rfl hC dJx4a65c_add_72be8_16 ?_
  refine w_iconst 1 (by decide) hC dJx4a65c_add_72be8_17 ?_
  refine w_iadd 1 (by decide) hC dJx4a65c_add_72be8_18 ?_
  refine w_putN (q0 := 1) (k := 2) hC tyJx4a65c tyJx4a65c_ok nmJx4a65c rfl rfl in_0 (by decide) w_91 rfl rfl rfl (Nat.le_of_ble_eq_true rfl) dJx4a65c_add_72be8_19 ?_
  exact w_vretR (kc := (1, 10)) ⟨rfl, q, rfl⟩ dJx4a65c_add_72be8_22
theorem cr_add3B (X : Xt) (hst : X.1.stackTraces = false) (h0 v ci N : Nat) (m : Int32) (vs : List Value) {C : String} {T : u_T} (hci : vwCl[ci]? = some (C, T, N)) (hca : Cond.castable C "java/lang/Object" ∈ NW_) (r0 : Nat) (f : Nat → Option Nat) (s : Int32) (hs : ¬ s = 10) (hin : inb s 10) : CR X yJx4a65c_add_72be8 cJx4a65c_add_72be8 4 none 3 57 (0, 0) [(h0, .inr (0, [.int m, .ref r0, .int s])), (v, .inr (ci, vs)), rwN X r0 f] [.ref h0, .ref v, .ref r0, .int s] (fun r w => r = none ∧ w = [(h0, .inr (0, [.int m, .ref r0, .int (s + 1)])), (v, .inr (ci, vs)), rwN X r0 (va_up f s.toNatClampNeg (some v))]) := by
  refine CR.intro RJx4a65c rfl hst (by decide) (Nat.le_of_ble_eq_true rfl) (lv := [(0, .ref _), (1, .ref _), (2, .ref _), (3, .int _)]) rfl (fun sz hsz hws hD0 => ?_)
  have hC := Crt.ctx (cc := cJx4a65c_add_72be8) (nL := 4) (own := RJx4a65c) (rt := none) hsz hws
  refine w_iload_n 3 rfl hC dJx4a65c_add_72be8_0 ?_
  refine w_aload_n 2 rfl hC dJx4a65c_add_72be8_1 ?_
  refine w_alen (q0 := 2) (ay := 5) 10 hC rfl rfl rfl dJx4a65c_add_72be8_2 ?_
  refine w_icmp_ne 11 (by decide) hC dJx4a65c_add_72be8_3 (fun _ => ?_) (fun hc => absurd hc hs)
  refine w_aload_n 2 rfl hC dJx4a65c_add_72be8_11 ?_
  refine w_iload_n 3 rfl hC dJx4a65c_add_72be8_12 ?_
  refine w_aload_n 1 rfl hC dJx4a65c_add_72be8_13 ?_
  refine w_aastO (q0 := 2) (qk := 1) (n := 10) hC rfl rfl hci hca hin dJx4a65c_add_72be8_14 ?_
  refine w_aload_n 0 rfl hC dJx4a65c_add_72be8_15 ?_
  refine w_iload_n 3 rfl hC dJx4a65c_add_72be8_16 ?_
  refine w_iconst 1 (by decide) hC dJx4a65c_add_72be8_17 ?_
  refine w_iadd _ rfl hC dJx4a65c_add_72be8_18 ?_
  refine w_putN (q0 := 0) (k := 2) hC tyJx4a65c tyJx4a65c_ok nmJx4a65c rfl rfl in_0 (by decide) w_91 rfl rfl rfl (Nat.le_of_ble_eq_true rfl) dJx4a65c_add_72be8_19 ?_
  exact w_vretR (kc := (0, 0)) ⟨rfl, rfl⟩ dJx4a65c_add_72be8_22
theorem cr_add1A (X : Xt) (hst : X.1.stackTraces = false) (h0 v ci N : Nat) (m : Int32) (vs : List Value) {C : String} {T : u_T} (hci : vwCl[ci]? = some (C, T, N)) (hca : Cond.castable C "java/lang/Object" ∈ NW_) : CR X yJx4a65c_add_9ea2d cJx4a65c_add_9ea2d 2 (some .boolean) 4 80 (1, 10) [(h0, .inr (0, [.int m, .ref X.2.2.2.2, .int 0])), (v, .inr (ci, vs))] [.ref h0, .ref v] (fun r w => r = some (.int 1) ∧ ∃ q, w = [(v, .inr (ci, vs)), (h0, .inr (0, [.int (m + 1), .ref q, .int 1])), rwN X q (va_up (fun _ => none) 0 (some v))]) := by
  refine CR.intro RJx4a65c rfl hst (by decide) (Nat.le_of_ble_eq_true rfl) (lv := [(0, .ref _), (1, .ref _)]) rfl (fun sz hsz hws hD0 => ?_)
  have hC := Crt.ctx (cc := cJx4a65c_add_9ea2d) (nL := 2) (own := RJx4a65c) (rt := some .boolean) hsz hws
  refine w_aload_n 0 rfl hC dJx4a65c_add_9ea2d_0 ?_
  refine w_dup rfl hC dJx4a65c_add_9ea2d_1 ?_
  refine w_getfS (q0 := 0) (k := 0) hC rfl rfl in_0 (by decide) w_106 w_107 rfl dJx4a65c_add_9ea2d_2 ?_
  refine w_iconst 1 (by decide) hC dJx4a65c_add_9ea2d_5 ?_
  refine w_iadd _ rfl hC dJx4a65c_add_9ea2d_6 ?_
  refine w_putS (q0 := 0) (k := 0) hC tyJx4a65c tyJx4a65c_ok nmJx4a65c rfl rfl in_0 (by decide) w_106 w_107 rfl rfl rfl (Nat.le_of_ble_eq_true rfl) dJx4a65c_add_9ea2d_7 ?_
  refine w_aload_n 0 rfl hC dJx4a65c_add_9ea2d_10 ?_
  refine w_aload_n 1 rfl hC dJx4a65c_add_9ea2d_11 ?_
  refine w_aload_n 0 rfl hC dJx4a65c_add_9ea2d_12 ?_
  refine w_getf (q0 := 0) (k := 1) hC rfl rfl in_0 (by decide) w_100 rfl dJx4a65c_add_9ea2d_13 ?_
  refine w_aload_n 0 rfl hC dJx4a65c_add_9ea2d_16 ?_
  refine w_getf (q0 := 0) (k := 2) hC rfl rfl in_0 (by decide) w_91 rfl dJx4a65c_add_9ea2d_17 ?_
  refine w_callVR (wr := []) (n := 3) (As := [.ref _, .ref _, .int _]) (q0 := 0) hC [0, 1] [] rfl rfl (by decide) (by decide) (by decide) (cr_add3A X hst h0 v ci N (m + 1) vs hci hca) rfl rfl ⟨rfl, by decide, by decide, by decide +kernel⟩ w_475 w_476 w_477 w_104 w_478 rfl rfl (Nat.le_of_ble_eq_true rfl) ⟨by decide, by decide⟩ ⟨Nat.le_of_ble_eq_true rfl, Nat.le_of_ble_eq_true rfl⟩ dJx4a65c_add_9ea2d_20 (fun r w9 h9 => ?_)
  obtain ⟨rfl, q, rfl⟩ := h9
  refine w_iconst 1 (by decide) hC dJx4a65c_add_9ea2d_23 ?_
  exact w_zretR (kc := (1, 10)) ⟨rfl, q, rfl⟩ rfl dJx4a65c_add_9ea2d_24
theorem cr_add1B (X : Xt) (hst : X.1.stackTraces = false) (h0 v ci N : Nat) (m : Int32) (vs : List Value) {C : String} {T : u_T} (hci : vwCl[ci]? = some (C, T, N)) (hca : Cond.castable C "java/lang/Object" ∈ NW_) (r0 : Nat) (f : Nat → Option Nat) (s : Int32) (hs : ¬ s = 10) (hin : inb s 10) : CR X yJx4a65c_add_9ea2d cJx4a65c_add_9ea2d 2 (some .boolean) 4 80 (0, 0) [(h0, .inr (0, [.int m, .ref r0, .int s])), (v, .inr (ci, vs)), rwN X r0 f] [.ref h0, .ref v] (fun r w => r = some (.int 1) ∧ w = [(h0, .inr (0, [.int (m + 1), .ref r0, .int (s + 1)])), (v, .inr (ci, vs)), rwN X r0 (va_up f s.toNatClampNeg (some v))]) := by
  refine CR.intro RJx4a65c rfl hst (by decide) (Nat.le_of_ble_eq_true rfl) (lv := [(0, .ref _), (1, .ref _)]) rfl (fun sz hsz hws hD0 => ?_)
  have hC := Crt.ctx (cc := cJx4a65c_add_9ea2d) (nL := 2) (own := RJx4a65c) (rt := some .boolean) hsz hws
  refine w_aload_n 0 rfl hC dJx4a65c_add_9ea2d_0 ?_
  refine w_dup rfl hC dJx4a65c_add_9ea2d_1 ?_
  refine w_getfS (q0 := 0) (k := 0) hC rfl rfl in_0 (by decide) w_106 w_107 rfl dJx4a65c_add_9ea2d_2 ?_
  refine w_iconst 1 (by decide) hC dJx4a65c_add_9ea2d_5 ?_
  refine w_iadd _ rfl hC dJx4a65c_add_9ea2d_6 ?_
  refine w_putS (q0 := 0) (k := 0) hC tyJx4a65c tyJx4a65c_ok nmJx4a65c rfl rfl in_0 (by decide) w_106 w_107 rfl rfl rfl (Nat.le_of_ble_eq_true rfl) dJx4a65c_add_9ea2d_7 ?_
  refine w_aload_n 0 rfl hC dJx4a65c_add_9ea2d_10 ?_
  refine w_aload_n 1 rfl hC dJx4a65c_add_9ea2d_11 ?_
  refine w_aload_n 0 rfl hC dJx4a65c_add_9ea2d_12 ?_
  refine w_getf (q0 := 0) (k := 1) hC rfl rfl in_0 (by decide) w_100 rfl dJx4a65c_add_9ea2d_13 ?_
  refine w_aload_n 0 rfl hC dJx4a65c_add_9ea2d_16 ?_
  refine w_getf (q0 := 0) (k := 2) hC rfl rfl in_0 (by decide) w_91 rfl dJx4a65c_add_9ea2d_17 ?_
  refine w_callVR (wr := []) (n := 3) (As := [.ref _, .ref _, .int _]) (q0 := 0) hC [0, 1, 2] [] rfl rfl (by decide) (by decide) (by decide) (cr_add3B X hst h0 v ci N (m + 1) vs hci hca r0 f s hs hin) rfl rfl ⟨rfl, by decide, by decide, by decide +kernel⟩ w_475 w_476 w_477 w_104 w_478 rfl rfl (Nat.le_of_ble_eq_true rfl) ⟨by decide, by decide⟩ ⟨Nat.le_of_ble_eq_true rfl, Nat.le_of_ble_eq_true rfl⟩ dJx4a65c_add_9ea2d_20 (fun r w9 h9 => ?_)
  obtain ⟨rfl, rfl⟩ := h9
  refine w_iconst 1 (by decide) hC dJx4a65c_add_9ea2d_23 ?_
  exact w_zretR (kc := (0, 0)) ⟨rfl, rfl⟩ rfl dJx4a65c_add_9ea2d_24
/-! back into the world -/
theorem HW.ext2 {X : Xt} {ad ad' : Ad} {σ σ' : Wd} {H H2 : Heap} {ws ws' : va_W} {K : List (Nat × Nat)} {key : Nat → Nat × Nat} (h : HW X ad σ H) (hz : X.2.2.2.1 ≤ H.size) (hws : ∀ (k : Nat) (q : Nat × va_E), ws[k]? = some q → ∃ t i, (t, i) ∈ K ∧ lvp σ t i ∧ q.1 = ad t i) (hP : va_P X.2.1 vwCl ws' H2) (hD : va_D (va_A ws H.size) ws') (hk : ∀ q : Nat, q < H.size → ¬ va_A ws H.size q → H2[q]? = H[q]?)
    (hall : ∀ t i, lvp σ' t i → (lvp σ t i ∧ (t, i) ∉ K ∧ ad' t i = ad t i ∧ (va_at X.2.1 vwCl (ad t i, cellv X ad σ t i) H2 → va_at X.2.1 vwCl (ad t i, cellv X ad' σ' t i) H2)) ∨ ∃ k, ws'[k]? = some (ad' t i, cellv X ad' σ' t i) ∧ key k = (t, i)) : HW X ad' σ' H2 := by
  have hno : ∀ t i, lvp σ t i → (t, i) ∉ K → ¬ va_A ws H.size (ad t i) := by
    intro t i hl hn ha
    rcases ha with ⟨k, e, hk2⟩ | ha
    · obtain ⟨t2, i2, g1, g2, g3⟩ := hws k _ hk2
      obtain ⟨rfl, rfl⟩ := h.2 t i t2 i2 hl g2 g3
      exact hn g1
    · exact absurd ((h.1 t i hl).1.lt) (Nat.not_lt.mpr ha)
  refine ⟨fun t i hl => ?_, fun t i t' i' h1 h2 h3 => ?_⟩
  · rcases hall t i hl with ⟨a1, a2, a3, a4⟩ | ⟨k, a1, a2⟩
    · rw [a3]
      exact ⟨a4 ((h.1 t i a1).1.kept (hk _ (h.1 t i a1).1.lt (hno t i a1 a2))), (h.1 t i a1).2⟩
    · refine ⟨hP k _ a1, ?_⟩
      rcases hD.2 k _ a1 with ⟨k2, e, hk2⟩ | ha
      · obtain ⟨t2, i2, -, g2, g3⟩ := hws k2 _ hk2
        have g4 : ad' t i = ad t2 i2 := g3
        rw [g4]
        exact (h.1 t2 i2 g2).2
      · exact Nat.le_trans hz ha
  · rcases hall t i h1 with ⟨a1, a2, a3, -⟩ | ⟨k, a1, a2⟩ <;> rcases hall t' i' h2 with ⟨b1, b2, b3, -⟩ | ⟨k', b1, b2⟩
    · rw [a3, b3] at h3; exact h.2 t i t' i' a1 b1 h3
    · have c2 := hD.2 k' _ b1
      rw [a3] at h3
      exact absurd (h3 ▸ c2) (hno t i a1 a2)
    · have c2 := hD.2 k _ a1
      rw [b3] at h3
      exact absurd (h3 ▸ c2) (hno t' i' b1 b2)
    · have := hD.1 k k' _ _ a1 b1 h3
      subst this
      have e := a2.symm.trans b2
      exact ⟨congrArg Prod.fst e, congrArg Prod.snd e⟩
theorem cellv_dep {X : Xt} {ad : Ad} {σ τ : Wd} {t i : Nat} (h1 : σ.1 t i = τ.1 t i) (h2 : σ.2.1 = τ.2.1) (h3 : σ.2.2 (20 + i) = τ.2.2 (20 + i)) : cellv X ad σ t i = cellv X ad τ t i := by
  unfold cellv elA elF
  split <;> simp only [h1, h2, h3]
/-- what a cell speaks of: rows aside, no list, diagram, fault, unit -/
theorem cellv_to {X : Xt} {ad ad' : Ad} {σ σ' : Wd} {t i : Nat} {H : Heap} (ht : t ≠ 27) (h1 : σ'.1 t i = σ.1 t i) (h3 : t = 1 → σ'.2.2 (20 + i) = σ.2.2 (20 + i)) (hn : ∀ t' i', t' ≠ 21 → t' ≠ 22 → t' ≠ 23 → t' ≠ 24 → t' ≠ 25 → t' ≠ 26 → t' ≠ 1 → t' ≠ 27 → ad' t' i' = ad t' i') (hl1 : ∀ i', i' < 2 → ad' 1 i' = ad 1 i') (hr : t = 1 → σ.2.2 (20 + i) ≠ 0 → ad' 27 i = ad 27 i) (hu : t = 21 → ad' 1 (i + 2) = ad 1 (i + 2) ∧ ad' 22 i = ad 22 i ∧ ad' 23 i = ad 23 i ∧ ad' 24 i = ad 24 i) (h : va_at X.2.1 vwCl (ad t i, cellv X ad σ t i) H) : va_at X.2.1 vwCl (ad t i, cellv X ad' σ' t i) H := by
  have e : cellv X ad' σ' t i = cellv X ad σ t i := by
    by_cases t1 : t = 1
    · subst t1
      rw [cell_1, cell_1, h1]
      unfold elA
      rw [h3 rfl]
      by_cases hz : σ.2.2 (20 + i) = 0
      · rw [if_pos hz, if_pos hz]
      · rw [if_neg hz, if_neg hz, hr rfl hz]
    · by_cases t2 : t = 21
      · subst t2
        obtain ⟨u1, u2, u3, u4⟩ := hu rfl
        rw [cell_21, cell_21, h1, u1, u2, u3, u4]
      · unfold cellv
        split <;> first | exact absurd rfl t1 | exact absurd rfl t2 | exact absurd rfl ht | simp (disch := decide) only [h1, hn, hl1]
  rw [e]
  exact h
theorem row_to {X : Xt} {ad ad' : Ad} {σ σ' : Wd} {i : Nat} {H : Heap} (h2 : ∀ j, j < 10 → σ'.2.1 i j = σ.2.1 i j) (hr : ∀ j, j < 10 → σ.2.1 i j ≠ 0 → ad' (et i) (σ.2.1 i j - 1) = ad (et i) (σ.2.1 i j - 1)) (h : va_at X.2.1 vwCl (ad 27 i, cellv X ad σ 27 i) H) : va_at X.2.1 vwCl (ad 27 i, cellv X ad' σ' 27 i) H := by
  rw [cell_27] at h ⊢
  refine va_at_refs (fun j hj => ?_) h
  unfold elF
  rw [h2 j hj]
  by_cases hz : σ.2.1 i j = 0
  · rw [if_pos hz, if_pos hz]
  · rw [if_neg hz, if_neg hz, hr j hj hz]
/-- a run that must not throw; what never moves -/
def Fx (ad a : Ad) : Prop := ∀ t i, (t < 21 ∧ t ≠ 1) ∨ 29 < t → a t i = ad t i
theorem Fx.rf (ad : Ad) : Fx ad ad := fun _ _ _ => rfl
theorem Fx.tr {ad a b : Ad} (h1 : Fx ad a) (h2 : Fx a b) : Fx ad b := fun t i h => (h2 t i h).trans (h1 t i h)
theorem Fx.up {ad : Ad} {t i q : Nat} (ht : t = 1 ∨ (21 ≤ t ∧ t < 30)) : Fx ad (adU ad t i q) := fun t' i' h => adU_ne ad (fun z => by omega)
def nx {α : Type} (f : Option ((α ⊕ String) × Wd)) : Option ((α ⊕ String) × Wd) := match f with
  | some (.inl v, σ) => some (.inl v, σ)
  | _ => none
theorem nx_some {α : Type} {f : Option ((α ⊕ String) × Wd)} {res : α ⊕ String} {σ' : Wd} (h : nx f = some (res, σ')) : ∃ v, res = .inl v ∧ f = some (.inl v, σ') := by
  unfold nx at h
  match f, h with
  | some (.inl v, σ), h => cases h; exact ⟨v, rfl, rfl⟩
theorem lim_nu25 (σ : Wd) {t : Nat} (h : t ≠ 25) : lim (nuO σ 25 9) t = lim σ t := by
  unfold lim
  split <;> first | rfl | exact absurd rfl h
theorem lim_nu26 (σ : Wd) {t : Nat} (h : t ≠ 26) : lim (nuO σ 26 10) t = lim σ t := by
  unfold lim
  split <;> first | rfl | exact absurd rfl h
theorem nu_flag {σ : Wd} {t c i : Nat} (hc : c < 20) : (nuO σ t c).2.2 (20 + i) = σ.2.2 (20 + i) := if_neg (by omega)
theorem nu_mem {σ : Wd} {t c t' i' : Nat} (h : ¬ (t' = t ∧ i' = σ.2.2 c)) : (nuO σ t c).1 t' i' = σ.1 t' i' := by
  funext k
  show (if t' = t ∧ i' = σ.2.2 c then _ else _) = _
  rw [if_neg h]
theorem nu_lim {σ : Wd} {t c t' : Nat} (ht : (t = 25 ∧ c = 9) ∨ (t = 26 ∧ c = 10)) : lim (nuO σ t c) t' = if t' = t then σ.2.2 c + 1 else lim σ t' := by
  rcases ht with ⟨rfl, rfl⟩ | ⟨rfl, rfl⟩
  · by_cases h : t' = 25
    · subst h; rfl
    · rw [if_neg h, lim_nu25 σ h]
  · by_cases h : t' = 26
    · subst h; rfl
    · rw [if_neg h, lim_nu26 σ h]
theorem lim_self {σ : Wd} {t c : Nat} (ht : (t = 25 ∧ c = 9) ∨ (t = 26 ∧ c = 10)) : lim σ t = σ.2.2 c := by
  rcases ht with ⟨rfl, rfl⟩ | ⟨rfl, rfl⟩ <;> rfl
theorem HW.newO {X : Xt} {ad : Ad} {σ : Wd} {H H1 : Heap} {t c : Nat} (ht : (t = 25 ∧ c = 9) ∨ (t = 26 ∧ c = 10)) (h : HW X ad σ H) (hz : X.2.2.2.1 ≤ H.size) (hg : ∀ i, i < 8 → et i = t → ∀ j, j < 10 → σ.2.1 i j ≠ 0 → σ.2.1 i j - 1 < σ.2.2 c)
    (e1 : va_at X.2.1 vwCl (H.size, cellv X (adU ad t (σ.2.2 c) H.size) (nuO σ t c) t (σ.2.2 c)) H1) (o1 : ∀ q : Nat, q < H.size → H1[q]? = H[q]?) : HW X (adU ad t (σ.2.2 c) H.size) (nuO σ t c) H1 := by
  have htn : t ≠ 27 ∧ t ≠ 1 ∧ t ≠ 21 ∧ t ≠ 22 ∧ t ≠ 23 ∧ t ≠ 24 ∧ c < 20 := by rcases ht with ⟨rfl, rfl⟩ | ⟨rfl, rfl⟩ <;> decide
  refine h.ext2 (ws := []) (ws' := [(H.size, _)]) (K := []) (key := fun _ => (t, σ.2.2 c)) hz (fun k q hq => by cases hq) (va_P1 e1) ⟨fun i j p q h1 h2 _ => ?_, fun k q hq => ?_⟩ (fun q hq _ => o1 q hq) (fun t' i' hl => ?_)
  · have z1 := (List.getElem?_eq_some_iff.mp h1).1
    have z2 := (List.getElem?_eq_some_iff.mp h2).1
    simp at z1 z2
    omega
  · have z1 := (List.getElem?_eq_some_iff.mp hq).1
    simp at z1
    subst z1
    cases hq
    exact Or.inr (Nat.le_refl _)
  · by_cases hk : t' = t ∧ i' = σ.2.2 c
    · obtain ⟨rfl, rfl⟩ := hk
      exact Or.inr ⟨0, by rw [adU_self]; rfl, rfl⟩
    · have hl0 : lvp σ t' i' := by
        refine ⟨?_, fun z => ?_⟩
        · have := hl.1
          rw [nu_lim ht] at this
          by_cases e : t' = t
          · rw [if_pos e] at this
            rw [e, lim_self ht]
            have : i' ≠ σ.2.2 c := fun q => hk ⟨e, q⟩
            omega
          · rwa [if_neg e] at this
        · have := hl.2 z
          rwa [nu_flag htn.2.2.2.2.2.2] at this
      refine Or.inl ⟨hl0, List.not_mem_nil, adU_ne _ hk, ?_⟩
      by_cases h27 : t' = 27
      · subst h27
        refine row_to (fun j _ => rfl) (fun j hj hne => adU_ne _ (fun z => ?_))
        have i8 : i' < 8 := hl0.1
        have := hg i' i8 z.1 j hj hne
        omega
      · refine cellv_to h27 (nu_mem hk) (fun _ => nu_flag htn.2.2.2.2.2.2) (fun t2 i2 _ _ _ _ g5 g6 _ _ => adU_ne _ (fun z => ?_)) (fun i2 _ => adU_ne _ (fun z => htn.2.1 z.1.symm)) (fun _ _ => adU_ne _ (fun z => htn.1 z.1.symm)) (fun _ => ⟨adU_ne _ (fun z => htn.2.1 z.1.symm), adU_ne _ (fun z => htn.2.2.2.1 z.1.symm), adU_ne _ (fun z => htn.2.2.2.2.1 z.1.symm), adU_ne _ (fun z => htn.2.2.2.2.2.1 z.1.symm)⟩)
        rcases ht with ⟨rfl, -⟩ | ⟨rfl, -⟩
        · exact g5 z.1
        · exact g6 z.1
section NBK
variable {α : Type} {X : Xt} {fin : Ad → Prop} {cc : ByteArray} {nL : Nat} {own : String} {rt : Option FieldType} {fr lo : Nat} {val : α → Option Value} {kc cs : Nat × Nat} {ad : Ad} {σ : Wd} {pc : Nat} {lv : List (Nat × Value)} {st : List Value} {f : Option ((α ⊕ String) × Wd)}
theorem Az_size {s : State} {H : Heap} {locs : List Loc} (hZ : X.2.2.2.1 ≤ s.heap.size) (hS : va_S (Az X) s.heap H locs) : X.2.2.2.1 ≤ H.size := Nat.le_trans hZ hS.1
theorem r_newO {t c ci index N : Nat} {C : String} {T : u_T} {fs : List Value} (ty : Nat → FieldType) (hty : ∀ k, k < N → parseFieldDescriptor (T k).2.2.1 = some (ty k)) (ht : (t = 25 ∧ c = 9) ∨ (t = 26 ∧ c = 10)) (hci : vwCl[ci]? = some (C, T, N)) (hin : ∀ w ∈ u_ws C T N, w ∈ G_) (w1 : Cond.classLink own index C ∈ G_) (w2 : Cond.instantiable C N ∈ G_) (w3 : Cond.initialized C ∈ G_)
    (hcell : ∀ ad' : Ad, cellv X ad' (nuO σ t c) t (σ.2.2 c) = .inr (ci, fs)) (hfs : ∀ j, j < N → defaultValue (ty j) = vp_V fs j) (hg : ∀ i, i < 8 → et i = t → ∀ j, j < 10 → σ.2.1 i j ≠ 0 → σ.2.1 i j - 1 < σ.2.2 c) (h00 : ∃ t0 i0, lvp σ t0 i0) (hc : cs.1 + 1 ≤ kc.1) (hs : cs.2 + N ≤ kc.2) (hd : decode cc pc = .ok (.new index, 3))
    (cs' : Nat × Nat) (hcs : (cs.1 + 1, cs.2 + N) = cs') (kk : ∀ ad' : Ad, (∀ t' i', lvp σ t' i' → ad' t' i' = ad t' i') → Fx ad ad' → Bk X fin cc nL own rt fr lo val kc cs' ad' (nuO σ t c) (pc + 3) lv (.ref (ad' t (σ.2.2 c)) :: st) f) : Bk X fin cc nL own rt fr lo val kc cs ad σ pc lv st (nx f) := by
  subst hcs
  intro res σ' hf p e s m args below meth c0 B H locs ls hH hS hl
  obtain ⟨v, rfl, hf2⟩ := nx_some hf
  have hts := B.2.2.2.2.1
  have hKn := B.2.2.2.2.2.2.2.2.1.1 ci _ hci
  have hz : X.2.2.2.1 ≤ H.size := by
    obtain ⟨t0, i0, h0⟩ := h00
    exact Nat.le_of_lt (Nat.lt_of_le_of_lt (hH.1 t0 i0 h0).2 (hH.1 t0 i0 h0).1.lt)
  have hadk : ∀ t' i', lvp σ t' i' → adU ad t (σ.2.2 c) H.size t' i' = ad t' i' := fun t' i' h1 => adU_ne _ (fun z => by
    have := h1.1
    rw [z.1, z.2, lim_self ht] at this
    exact absurd this (Nat.lt_irrefl _))
  refine W.newcK B.1 B.2.1 B.2.2.2.1 (hts _ w1) (hts _ w2) (hts _ w3) (g := F0 m pc ls st) rfl hd hc hs hKn.2.1 rfl fun H1 kC hkC e1 z1 o1 => ?_
  have hb : va_at X.2.1 vwCl (H.size, .inr (ci, fs)) H1 := ⟨_, hci, (u_born ty hts hin hKn hkC e1 hty).to hfs⟩
  have hH1 := hH.newO ht hz hg (by rw [hcell]; exact hb) o1
  have k2 := kk _ hadk (Fx.up (by rcases ht with ⟨rfl, -⟩ | ⟨rfl, -⟩ <;> decide)) _ σ' hf2 p e s m args below meth c0 B H1 locs ls hH1 ⟨Nat.le_trans hS.1 (by omega), fun x h1 h2 => (o1 x (Nat.lt_of_lt_of_le h1 hS.1)).trans (hS.2.1 x h1 h2), hS.2.2⟩ hl
  rw [adU_self] at k2
  exact k2
/-- the numbers of one thing are told anew -/
def stO (σ : Wd) (t i : Nat) (vals : Nat → Int32) : Wd := (fun t' i' => if t' = t ∧ i' = i then vals else σ.1 t' i', σ.2)
theorem lim_stO {σ : Wd} {t i : Nat} {vals : Nat → Int32} {t' : Nat} : lim (stO σ t i vals) t' = lim σ t' := rfl
theorem lvp_stO {σ : Wd} {t i : Nat} {vals : Nat → Int32} {t' i' : Nat} (h : lvp (stO σ t i vals) t' i') : lvp σ t' i' := h
theorem r_ctorO {y : MethodName} {bytes : ByteArray} {nLc frc loc t i ci n index : Nat} {fs fs' As stack : List Value} {vals : Nat → Int32} (hl : lvp σ t i) (hc : cellv X ad σ t i = .inr (ci, fs)) (hci : CI X y bytes nLc frc loc (0, 0) [(ad t i, .inr (ci, fs))] (.ref (ad t i) :: As) (fun w => w = [(ad t i, .inr (ci, fs'))])) (hc1 : cellv X ad (stO σ t i vals) t i = .inr (ci, fs'))
    (hy : y.cls ≠ "java/lang/invoke/MethodHandle" ∧ y.cls ≠ "java/lang/invoke/VarHandle" ∧ (parseMethodDescriptor y.desc).map (fun d => d.parameters.length) = some n) (hy1 : y.name = "<init>") (w1 : Cond.methodLink own index y ∈ G_) (w2 : Cond.instanceMethod y ∈ G_) (w4 : Cond.initialized y.cls ∈ G_) (w5 : Cond.code y bytes nLc none ∈ G_)
    (hn : As.length = n) (hst : stack = As.reverse ++ .ref (ad t i) :: st) (hsum : (st.map fun v => v.category).sum ≤ 8) (hroom : frc + 1 ≤ fr ∧ 8 + (nLc + 11) + loc ≤ lo) (hcc : cs.1 ≤ kc.1 ∧ cs.2 ≤ kc.2) (hd : decode cc pc = .ok (.invokespecial index, 3))
    (kk : Bk X fin cc nL own rt fr lo val kc cs ad (stO σ t i vals) (pc + 3) lv st f) : Bk X fin cc nL own rt fr lo val kc cs ad σ pc lv stack (nx f) := by
  intro res σ' hf p e s m args below meth c0 B H locs ls hH hS hl9
  obtain ⟨v, rfl, hf2⟩ := nx_some hf
  have hat : va_at X.2.1 vwCl (ad t i, .inr (ci, fs)) H := by rw [← hc]; exact (hH.1 t i hl).1
  have hz : X.2.2.2.1 ≤ H.size := Nat.le_of_lt (Nat.lt_of_le_of_lt (hH.1 t i hl).2 hat.lt)
  have hD : va_D (fun _ => True) [(ad t i, (.inr (ci, fs) : va_E))] := ⟨fun a b p q h1 h2 _ => by
    have z1 := (List.getElem?_eq_some_iff.mp h1).1
    have z2 := (List.getElem?_eq_some_iff.mp h2).1
    simp at z1 z2
    omega, fun _ _ _ => trivial⟩
  have hb5 := B.2.2.2.2.1
  have hm := hci H.size hz (fun k q hq => by
    have z1 := (List.getElem?_eq_some_iff.mp hq).1
    simp at z1
    subst z1
    cases hq
    exact (hH.1 t i hl).2)
  have hr := va_runI (e := e) (below := below) (meth := meth) (locs := locs) (cells := cs.1) (slots := cs.2) (R := { frames := fr, cells := xc kc (Sum.inl v : α ⊕ String), slots := xs kc (Sum.inl v : α ⊕ String), locals := lo }) (g := F0 m pc ls stack) (rest := st) B.fix hm (cwI n hb5 (G_in w5) rfl rfl rfl (hb5 _ w4) (hb5 _ w1) (hb5 _ w2) hy1 hy hroom) ⟨fun a U g mk z => by
    obtain ⟨z1, z2, z3, z4, z5, z6⟩ := z
    exact ⟨z1, z2, z3, z4, va_K.moved (u := U) (U := U.calling g mk a) (Vm.Alike.refl U.vm) z5, z6.same rfl rfl⟩, fun U hU hW => by
      have z := SW.of B hH hS hU hW
      exact ⟨rfl, by rw [hU], by rw [hU]; exact va_P1 hat, hD, z.2.1, z.2.2⟩⟩ rfl hn hl9.1 hst (lv_room hsum) hd ⟨hcc.1, hcc.2⟩
  intro T hT Y
  obtain ⟨v2, st0, T1, T', L, h0, Y', hL, e1, e2, ⟨⟨hv, w1, rfl, hP1, hD1⟩, hzz, hkk⟩, hgo⟩ := hr T hT Y
  cases hv
  rw [h0] at hzz hkk
  have hA : ∀ q, va_A [(ad t i, (.inr (ci, fs) : va_E))] H.size q → Az X q := fun q hq => by
    rcases hq with ⟨k, e9, hk⟩ | hq
    · have z1 := (List.getElem?_eq_some_iff.mp hk).1
      simp at z1
      subst z1
      cases hk
      exact (hH.1 t i hl).2
    · exact Nat.le_trans hz hq
  have hH1 : HW X ad (stO σ t i vals) T'.heap := by
    rw [e1]
    refine hH.ext2 (ws := [(ad t i, .inr (ci, fs))]) (K := [(t, i)]) (key := fun _ => (t, i)) hz (fun k q hq => ?_) hP1 hD1 hkk (fun t' i' h1 => ?_)
    · have z1 := (List.getElem?_eq_some_iff.mp hq).1
      simp at z1
      subst z1
      cases hq
      exact ⟨t, i, List.mem_singleton.mpr rfl, hl, rfl⟩
    · by_cases hk : t' = t ∧ i' = i
      · obtain ⟨rfl, rfl⟩ := hk
        exact Or.inr ⟨0, by rw [hc1]; rfl, rfl⟩
      · refine Or.inl ⟨lvp_stO h1, fun z => hk (by cases List.mem_singleton.mp z; exact ⟨rfl, rfl⟩), rfl, fun z => ?_⟩
        rw [cellv_eq (τ := σ) (show (stO σ t i vals).1 t' i' = σ.1 t' i' from if_neg hk) rfl]
        exact z
  obtain ⟨t2, a1, c1⟩ := kk _ σ' hf2 p e s m args below meth c0 B T'.heap (locs ++ L) ls hH1 ⟨Nat.le_trans hS.1 (by rw [e1]; exact hzz), fun q h1 h2 => by rw [e1, hkk q (Nat.lt_of_lt_of_le h1 hS.1) (fun z => h2 (hA q z))]; exact hS.2.1 q h1 h2, fun q hq => by
      rcases List.mem_append.mp hq with h | h
      · exact hS.2.2 q h
      · exact hA _ (hL q h)⟩ hl9 T' rfl Y'
  exact ⟨t2, hgo t2 a1, c1⟩
end NBK
/-! a new unit, in one step -/
def nuU (σ : Wd) (p0 p1 : Int32) : Wd := (fun t i k => if t = 21 ∧ i = σ.2.2 8 then (if k = 2 then p0 else p1) else if (t = 1 ∧ i = σ.2.2 8 + 2) ∨ ((t = 22 ∨ t = 23) ∧ i = σ.2.2 8) then 0 else if t = 24 ∧ i = σ.2.2 8 then 900 else σ.1 t i k, σ.2.1, fun q => if q = 8 then σ.2.2 8 + 1 else if q = 22 + σ.2.2 8 then 0 else σ.2.2 q)
theorem nuU_lim (σ : Wd) (p0 p1 : Int32) (t : Nat) : lim (nuU σ p0 p1) t = if t = 1 ∨ t = 21 ∨ t = 22 ∨ t = 23 ∨ t = 24 then lim σ t + 1 else lim σ t := by
  by_cases h : t = 1 ∨ t = 21 ∨ t = 22 ∨ t = 23 ∨ t = 24
  · rw [if_pos h]
    rcases h with rfl | rfl | rfl | rfl | rfl <;> rfl
  · rw [if_neg h]
    have h1 : t ≠ 1 := fun z => h (Or.inl z)
    have h2 : t ≠ 21 := fun z => h (Or.inr (Or.inl z))
    have h3 : t ≠ 22 := fun z => h (Or.inr (Or.inr (Or.inl z)))
    have h4 : t ≠ 23 := fun z => h (Or.inr (Or.inr (Or.inr (Or.inl z))))
    have h5 : t ≠ 24 := fun z => h (Or.inr (Or.inr (Or.inr (Or.inr z))))
    have e9 : (nuU σ p0 p1).2.2 9 = σ.2.2 9 := by
      exact if_neg (by omega)
    have e10 : (nuU σ p0 p1).2.2 10 = σ.2.2 10 := by
      exact if_neg (by omega)
    unfold lim
    split <;> first | rfl | exact absurd rfl h1 | exact absurd rfl h2 | exact absurd rfl h3 | exact absurd rfl h4 | exact absurd rfl h5 | exact e9 | exact e10
theorem nuU_mem (σ : Wd) (p0 p1 : Int32) {t i : Nat} (h : ¬ (t = 21 ∧ i = σ.2.2 8)) (h1 : ¬ ((t = 1 ∧ i = σ.2.2 8 + 2) ∨ ((t = 22 ∨ t = 23) ∧ i = σ.2.2 8))) (h2 : ¬ (t = 24 ∧ i = σ.2.2 8)) : (nuU σ p0 p1).1 t i = σ.1 t i := by
  funext k
  show (if t = 21 ∧ i = σ.2.2 8 then _ else if _ then _ else if _ then _ else _) = _
  rw [if_neg h, if_neg h1, if_neg h2]
theorem nuU_flag (σ : Wd) (p0 p1 : Int32) {i : Nat} (h : i ≠ σ.2.2 8 + 2) : (nuU σ p0 p1).2.2 (20 + i) = σ.2.2 (20 + i) := by
  show (if 20 + i = 8 then _ else if 20 + i = 22 + σ.2.2 8 then _ else _) = _
  rw [if_neg (by omega), if_neg (by omega)]
theorem nuU_flag0 (σ : Wd) (p0 p1 : Int32) : (nuU σ p0 p1).2.2 (20 + (σ.2.2 8 + 2)) = 0 := by
  show (if 20 + (σ.2.2 8 + 2) = 8 then _ else if 20 + (σ.2.2 8 + 2) = 22 + σ.2.2 8 then _ else _) = _
  rw [if_neg (by omega), if_pos (by omega)]
def keyU (n : Nat) : Nat → Nat × Nat := fun k => match k with
  | 0 => (21, n)
  | 1 => (1, n + 2)
  | 2 => (22, n)
  | 3 => (23, n)
  | _ => (24, n)
def adN (ad : Ad) (n h0 q1 q3 q4 q5 : Nat) : Ad := adU (adU (adU (adU (adU ad 21 n h0) 1 (n + 2) q1) 22 n q3) 23 n q4) 24 n q5
theorem adN_ne {ad : Ad} {n h0 q1 q3 q4 q5 t i : Nat} (h : ¬ (t = 21 ∧ i = n)) (h1 : ¬ (t = 1 ∧ i = n + 2)) (h2 : ¬ (t = 22 ∧ i = n)) (h3 : ¬ (t = 23 ∧ i = n)) (h4 : ¬ (t = 24 ∧ i = n)) : adN ad n h0 q1 q3 q4 q5 t i = ad t i := by
  unfold adN
  rw [adU_ne _ h4, adU_ne _ h3, adU_ne _ h2, adU_ne _ h1, adU_ne _ h]
theorem adN_21 (ad : Ad) (n h0 q1 q3 q4 q5 : Nat) : adN ad n h0 q1 q3 q4 q5 21 n = h0 := by
  unfold adN
  rw [adU_ne _ (by omega), adU_ne _ (by omega), adU_ne _ (by omega), adU_ne _ (by omega), adU_self]
theorem adN_1 (ad : Ad) (n h0 q1 q3 q4 q5 : Nat) : adN ad n h0 q1 q3 q4 q5 1 (n + 2) = q1 := by
  unfold adN
  rw [adU_ne _ (by omega), adU_ne _ (by omega), adU_ne _ (by omega), adU_self]
theorem adN_22 (ad : Ad) (n h0 q1 q3 q4 q5 : Nat) : adN ad n h0 q1 q3 q4 q5 22 n = q3 := by
  unfold adN
  rw [adU_ne _ (by omega), adU_ne _ (by omega), adU_self]
theorem adN_23 (ad : Ad) (n h0 q1 q3 q4 q5 : Nat) : adN ad n h0 q1 q3 q4 q5 23 n = q4 := by
  unfold adN
  rw [adU_ne _ (by omega), adU_self]
theorem adN_24 (ad : Ad) (n h0 q1 q3 q4 q5 : Nat) : adN ad n h0 q1 q3 q4 q5 24 n = q5 := by
  unfold adN
  rw [adU_self]
theorem HW.newU {X : Xt} {ad : Ad} {σ : Wd} {H H2 : Heap} {p0 p1 : Int32} {h0 q1 q3 q4 q5 : Nat} (h : HW X ad σ H) (hz : X.2.2.2.1 ≤ H.size) (hg : ∀ j, j < 10 → σ.2.1 0 j ≠ 0 → σ.2.1 0 j - 1 < σ.2.2 8)
    (hP : va_P X.2.1 vwCl [(h0, .inr (9, [.int p1, .ref q1, .int p0, .int p1, .ref q3, .ref q4, .ref q5])), (q1, .inr (0, [.int (0 : Int32), .ref X.2.2.2.2, .int 0])), (q3, .inl (X.2.2.1 0, 3, .inl (fun _ => 0))), (q4, .inl (X.2.2.1 0, 3, .inl (fun _ => 0))), (q5, .inl (X.2.2.1 0, 4, .inl (fun _ => (900 : Int32))))] H2)
    (hD : va_D (fun q => H.size ≤ q) [(h0, (.inr (9, [.int p1, .ref q1, .int p0, .int p1, .ref q3, .ref q4, .ref q5]) : va_E)), (q1, .inr (0, [.int (0 : Int32), .ref X.2.2.2.2, .int 0])), (q3, .inl (X.2.2.1 0, 3, .inl (fun _ => 0))), (q4, .inl (X.2.2.1 0, 3, .inl (fun _ => 0))), (q5, .inl (X.2.2.1 0, 4, .inl (fun _ => (900 : Int32))))]) (ho : ∀ q : Nat, q < H.size → H2[q]? = H[q]?) : HW X (adN ad (σ.2.2 8) h0 q1 q3 q4 q5) (nuU σ p0 p1) H2 := by
  have e21 : cellv X (adN ad (σ.2.2 8) h0 q1 q3 q4 q5) (nuU σ p0 p1) 21 (σ.2.2 8) = .inr (9, [.int p1, .ref q1, .int p0, .int p1, .ref q3, .ref q4, .ref q5]) := by
    rw [cell_21, adN_1, adN_22, adN_23, adN_24]
    simp [nuU]
  have e1 : cellv X (adN ad (σ.2.2 8) h0 q1 q3 q4 q5) (nuU σ p0 p1) 1 (σ.2.2 8 + 2) = .inr (0, [.int (0 : Int32), .ref X.2.2.2.2, .int 0]) := by
    rw [cell_1]
    unfold elA
    rw [nuU_flag0]
    simp [nuU]
  have e22 : cellv X (adN ad (σ.2.2 8) h0 q1 q3 q4 q5) (nuU σ p0 p1) 22 (σ.2.2 8) = .inl (X.2.2.1 0, 3, .inl (fun _ => 0)) := by
    rw [cell_22]
    simp [nuU]
  have e23 : cellv X (adN ad (σ.2.2 8) h0 q1 q3 q4 q5) (nuU σ p0 p1) 23 (σ.2.2 8) = .inl (X.2.2.1 0, 3, .inl (fun _ => 0)) := by
    rw [cell_23]
    simp [nuU]
  have e24 : cellv X (adN ad (σ.2.2 8) h0 q1 q3 q4 q5) (nuU σ p0 p1) 24 (σ.2.2 8) = .inl (X.2.2.1 0, 4, .inl (fun _ => (900 : Int32))) := by
    rw [cell_24]
    simp [nuU]
  refine h.ext2 (ws := []) (K := []) (key := keyU (σ.2.2 8)) hz (fun k q hq => by cases hq) hP (hD.weaken (fun _ _ _ z => Or.inr z)) (fun q hq _ => ho q hq) (fun t i hl => ?_)
  by_cases a1 : t = 21 ∧ i = σ.2.2 8
  · obtain ⟨rfl, rfl⟩ := a1
    exact Or.inr ⟨0, by rw [e21, adN_21]; rfl, rfl⟩
  by_cases a2 : t = 1 ∧ i = σ.2.2 8 + 2
  · obtain ⟨rfl, rfl⟩ := a2
    exact Or.inr ⟨1, by rw [e1, adN_1]; rfl, rfl⟩
  by_cases a3 : t = 22 ∧ i = σ.2.2 8
  · obtain ⟨rfl, rfl⟩ := a3
    exact Or.inr ⟨2, by rw [e22, adN_22]; rfl, rfl⟩
  by_cases a4 : t = 23 ∧ i = σ.2.2 8
  · obtain ⟨rfl, rfl⟩ := a4
    exact Or.inr ⟨3, by rw [e23, adN_23]; rfl, rfl⟩
  by_cases a5 : t = 24 ∧ i = σ.2.2 8
  · obtain ⟨rfl, rfl⟩ := a5
    exact Or.inr ⟨4, by rw [e24, adN_24]; rfl, rfl⟩
  have hmem : (nuU σ p0 p1).1 t i = σ.1 t i := nuU_mem σ p0 p1 a1 (fun z => by
    rcases z with z | ⟨z | z, z2⟩
    · exact a2 z
    · exact a3 ⟨z, z2⟩
    · exact a4 ⟨z, z2⟩) a5
  have hl0 : lvp σ t i := by
    refine ⟨?_, fun z => ?_⟩
    · have h1 := hl.1
      rw [nuU_lim] at h1
      by_cases e : t = 1 ∨ t = 21 ∨ t = 22 ∨ t = 23 ∨ t = 24
      · rw [if_pos e] at h1
        rcases e with rfl | rfl | rfl | rfl | rfl
        · have h2 : i < 2 + σ.2.2 8 + 1 := h1
          show i < 2 + σ.2.2 8
          omega
        · have h2 : i < σ.2.2 8 + 1 := h1
          show i < σ.2.2 8
          omega
        · have h2 : i < σ.2.2 8 + 1 := h1
          show i < σ.2.2 8
          omega
        · have h2 : i < σ.2.2 8 + 1 := h1
          show i < σ.2.2 8
          omega
        · have h2 : i < σ.2.2 8 + 1 := h1
          show i < σ.2.2 8
          omega
      · rwa [if_neg e] at h1
    · have h1 := hl.2 z
      by_cases e : i = σ.2.2 8 + 2
      · rw [e, nuU_flag0] at h1
        exact absurd rfl h1
      · rwa [nuU_flag σ p0 p1 e] at h1
  refine Or.inl ⟨hl0, List.not_mem_nil, adN_ne a1 a2 a3 a4 a5, ?_⟩
  by_cases h27 : t = 27
  · subst h27
    refine row_to (fun j _ => rfl) (fun j hj hne => ?_)
    by_cases i0 : i = 0
    · subst i0
      have := hg j hj hne
      exact adN_ne (fun z => by omega) (fun z => by have := z.1; cases this) (fun z => by have := z.1; cases this) (fun z => by have := z.1; cases this) (fun z => by have := z.1; cases this)
    · have het : et i = 25 ∨ et i = 26 := by
        unfold et
        split
        · exact absurd rfl i0
        · exact Or.inl rfl
        · exact Or.inr rfl
      exact adN_ne (fun z => by omega) (fun z => by omega) (fun z => by omega) (fun z => by omega) (fun z => by omega)
  · refine cellv_to h27 hmem (fun t1 => ?_) (fun t2 i2 g1 g2 g3 g4 _ _ g7 _ => adN_ne (fun z => g1 z.1) (fun z => g7 z.1) (fun z => g2 z.1) (fun z => g3 z.1) (fun z => g4 z.1)) (fun i2 hi2 => adN_ne (fun z => by omega) (fun z => by omega) (fun z => by omega) (fun z => by omega) (fun z => by omega)) (fun _ _ => adN_ne (fun z => by omega) (fun z => by omega) (fun z => by omega) (fun z => by omega) (fun z => by omega)) (fun t1 => ?_)
    · exact nuU_flag σ p0 p1 (fun z => a2 ⟨t1, z⟩)
    · have hi : i ≠ σ.2.2 8 := fun z => a1 ⟨t1, z⟩
      exact ⟨adN_ne (fun z => by omega) (fun z => by omega) (fun z => by omega) (fun z => by omega) (fun z => by omega), adN_ne (fun z => by omega) (fun z => by omega) (fun z => by omega) (fun z => by omega) (fun z => by omega), adN_ne (fun z => by omega) (fun z => by omega) (fun z => by omega) (fun z => by omega) (fun z => by omega), adN_ne (fun z => by omega) (fun z => by omega) (fun z => by omega) (fun z => by omega) (fun z => by omega)⟩
theorem et_is (i : Nat) : et i = 21 ∨ et i = 25 ∨ et i = 26 := by
  unfold et
  split
  · exact Or.inl rfl
  · exact Or.inr (Or.inl rfl)
  · exact Or.inr (Or.inr rfl)
theorem lim_cnt {σ τ : Wd} (h8 : σ.2.2 8 = τ.2.2 8) (h9 : σ.2.2 9 = τ.2.2 9) (h10 : σ.2.2 10 = τ.2.2 10) (t : Nat) : lim σ t = lim τ t := by
  unfold lim
  split <;> simp only [h8, h9, h10]
/-- an element more -/
def wadd (σ : Wd) (li v : Nat) : Wd := (fun t i k => if t = 1 ∧ i = li then (if k = 0 then σ.1 1 li 0 + 1 else if k = 2 then σ.1 1 li 2 + 1 else σ.1 1 li k) else σ.1 t i k, fun i j => if i = li then (if j = (σ.1 1 li 2).toNatClampNeg then v + 1 else if σ.2.2 (20 + li) = 0 then 0 else σ.2.1 li j) else σ.2.1 i j, fun q => if q = 20 + li then 1 else σ.2.2 q)
theorem wadd_lim (σ : Wd) (li v t : Nat) : lim (wadd σ li v) t = lim σ t := lim_cnt (if_neg (by omega)) (if_neg (by omega)) (if_neg (by omega)) t
theorem wadd_mem {σ : Wd} {li v t i : Nat} (h : ¬ (t = 1 ∧ i = li)) : (wadd σ li v).1 t i = σ.1 t i := by
  funext k
  exact if_neg h
theorem wadd_phi {σ : Wd} {li v i : Nat} (h : i ≠ li) : (wadd σ li v).2.1 i = σ.2.1 i := by
  funext j
  exact if_neg h
theorem wadd_flag {σ : Wd} {li v i : Nat} (h : i ≠ li) : (wadd σ li v).2.2 (20 + i) = σ.2.2 (20 + i) := if_neg (by omega)
theorem wadd_on (σ : Wd) (li v : Nat) : (wadd σ li v).2.2 (20 + li) = 1 := if_pos rfl
theorem wadd_cell {X : Xt} {ad ad' : Ad} {σ : Wd} {li v : Nat} (h : Fx ad ad') (hn : ∀ t i, t ≠ 27 → ad' t i = ad t i) : cellv X ad' (wadd σ li v) (et li) v = cellv X ad σ (et li) v := by
  rcases et_is li with e | e | e
  · rw [e, cell_21, cell_21, wadd_mem (fun z => by have := z.1; cases this), hn _ _ (by decide), hn _ _ (by decide), hn _ _ (by decide), hn _ _ (by decide)]
  · rw [e, cell_25, cell_25, wadd_mem (fun z => by have := z.1; cases this)]
  · rw [e, cell_26, cell_26, wadd_mem (fun z => by have := z.1; cases this)]
theorem wadd_old {X : Xt} {ad ad' : Ad} {σ : Wd} {li v t i : Nat} {H2 : Heap} (h1 : ¬ (t = 1 ∧ i = li)) (h27 : ¬ (t = 27 ∧ i = li)) (hn : ∀ t i, ¬ (t = 27 ∧ i = li) → ad' t i = ad t i) (z : va_at X.2.1 vwCl (ad t i, cellv X ad σ t i) H2) : va_at X.2.1 vwCl (ad t i, cellv X ad' (wadd σ li v) t i) H2 := by
  by_cases t27 : t = 27
  · subst t27
    have hi : i ≠ li := fun e => h27 ⟨rfl, e⟩
    refine row_to (fun j _ => by rw [wadd_phi hi]) (fun j hj hne => ?_) z
    exact hn _ _ (fun e => by rcases et_is i with q | q | q <;> rw [q] at e <;> cases e.1)
  · refine cellv_to t27 (wadd_mem h1) (fun e => wadd_flag (fun q => h1 ⟨e, q⟩)) (fun t2 i2 _ _ _ _ _ _ _ g8 => hn _ _ (fun e => g8 e.1)) (fun i2 _ => hn _ _ (fun e => by cases e.1)) (fun e _ => hn _ _ (fun q => h1 ⟨e, q.2⟩)) (fun _ => ⟨hn _ _ (fun e => by cases e.1), hn _ _ (fun e => by cases e.1), hn _ _ (fun e => by cases e.1), hn _ _ (fun e => by cases e.1)⟩) z
theorem wadd_lvp {σ : Wd} {li v t i : Nat} (h27 : ¬ (t = 27 ∧ i = li)) (h : lvp (wadd σ li v) t i) : lvp σ t i := by
  refine ⟨by have := h.1; rwa [wadd_lim] at this, fun z => ?_⟩
  have := h.2 z
  rwa [wadd_flag (fun e => h27 ⟨z, e⟩)] at this
def keyA (li v : Nat) : Nat → Nat × Nat := fun k => match k with
  | 0 => (et li, v)
  | 1 => (1, li)
  | _ => (27, li)
def keyB (li v : Nat) : Nat → Nat × Nat := fun k => match k with
  | 0 => (1, li)
  | 1 => (et li, v)
  | _ => (27, li)
theorem HW.addA {X : Xt} {ad : Ad} {σ : Wd} {H H2 : Heap} {li v q : Nat} {o : va_E} (h : HW X ad σ H) (hl1 : lvp σ 1 li) (hlv : lvp σ (et li) v) (hfl : σ.2.2 (20 + li) = 0) (hs : σ.1 1 li 2 = 0) (hcv : cellv X ad σ (et li) v = o)
    (hP : va_P X.2.1 vwCl [(ad (et li) v, o), (ad 1 li, .inr (0, [.int (σ.1 1 li 0 + 1), .ref q, .int 1])), rwN X q (va_up (fun _ => none) 0 (some (ad (et li) v)))] H2)
    (hD : va_D (va_A [(ad 1 li, (.inr (0, [.int (σ.1 1 li 0), .ref X.2.2.2.2, .int 0]) : va_E)), (ad (et li) v, o)] H.size) [(ad (et li) v, o), (ad 1 li, .inr (0, [.int (σ.1 1 li 0 + 1), .ref q, .int 1])), rwN X q (va_up (fun _ => none) 0 (some (ad (et li) v)))])
    (hk : ∀ q9 : Nat, q9 < H.size → ¬ va_A [(ad 1 li, (.inr (0, [.int (σ.1 1 li 0), .ref X.2.2.2.2, .int 0]) : va_E)), (ad (et li) v, o)] H.size q9 → H2[q9]? = H[q9]?) : HW X (adU ad 27 li q) (wadd σ li v) H2 := by
  have hz : X.2.2.2.1 ≤ H.size := Nat.le_of_lt (Nat.lt_of_le_of_lt (h.1 1 li hl1).2 (h.1 1 li hl1).1.lt)
  have het : et li ≠ 27 ∧ et li ≠ 1 := by rcases et_is li with e | e | e <;> rw [e] <;> decide
  have hfx : Fx ad (adU ad 27 li q) := Fx.up (Or.inr ⟨by decide, by decide⟩)
  refine h.ext2 (ws := [(ad 1 li, .inr (0, [.int (σ.1 1 li 0), .ref X.2.2.2.2, .int 0])), (ad (et li) v, o)]) (K := [(1, li), (et li, v)]) (key := keyA li v) hz (fun k p hp => ?_) hP hD hk (fun t i hl => ?_)
  · match k, hp with
    | 0, hp => cases hp; exact ⟨1, li, by simp, hl1, rfl⟩
    | 1, hp => cases hp; exact ⟨et li, v, by simp, hlv, rfl⟩
  by_cases a0 : t = et li ∧ i = v
  · obtain ⟨rfl, rfl⟩ := a0
    refine Or.inr ⟨0, ?_, rfl⟩
    rw [adU_ne _ (fun z => het.1 z.1), wadd_cell hfx (fun t i hn => adU_ne _ (fun z => hn z.1)), hcv]
    rfl
  by_cases a1 : t = 1 ∧ i = li
  · obtain ⟨rfl, rfl⟩ := a1
    refine Or.inr ⟨1, ?_, rfl⟩
    rw [adU_ne _ (fun z => by cases z.1), cell_1]
    unfold elA
    rw [wadd_on, if_neg (by decide), adU_self]
    have e0 : (wadd σ i v).1 1 i 0 = σ.1 1 i 0 + 1 := by simp [wadd]
    have e2 : (wadd σ i v).1 1 i 2 = 1 := by simp [wadd, hs]
    rw [e0, e2]
    rfl
  by_cases a2 : t = 27 ∧ i = li
  · obtain ⟨rfl, rfl⟩ := a2
    refine Or.inr ⟨2, ?_, rfl⟩
    rw [adU_self, cell_27]
    refine congrArg (fun z => some ((q, Sum.inl (X.2.2.1 5, 10, .inr (.inr (.inr (.inr z))))) : Nat × va_E)) ?_
    funext j
    unfold elF
    rw [adU_ne _ (fun z => het.1 z.1)]
    by_cases hj : j = 0
    · subst hj
      simp [wadd, va_up, hs]
    · simp [wadd, va_up, hs, hfl, hj]
  · refine Or.inl ⟨wadd_lvp a2 hl, fun z => ?_, adU_ne _ a2, fun z => wadd_old a1 a2 (fun t i hn => adU_ne _ hn) z⟩
    simp only [List.mem_cons, List.not_mem_nil, or_false, Prod.mk.injEq] at z
    exact z.elim a1 a0
theorem HW.addB {X : Xt} {ad : Ad} {σ : Wd} {H H2 : Heap} {li v : Nat} {o : va_E} (h : HW X ad σ H) (hl1 : lvp σ 1 li) (hlv : lvp σ (et li) v) (h8 : li < 8) (hfl : σ.2.2 (20 + li) ≠ 0) (hcv : cellv X ad σ (et li) v = o)
    (hP : va_P X.2.1 vwCl [(ad 1 li, .inr (0, [.int (σ.1 1 li 0 + 1), .ref (ad 27 li), .int (σ.1 1 li 2 + 1)])), (ad (et li) v, o), rwN X (ad 27 li) (va_up (elF ad σ li) (σ.1 1 li 2).toNatClampNeg (some (ad (et li) v)))] H2)
    (hD : va_D (va_A [(ad 1 li, (.inr (0, [.int (σ.1 1 li 0), .ref (ad 27 li), .int (σ.1 1 li 2)]) : va_E)), (ad (et li) v, o), rwN X (ad 27 li) (elF ad σ li)] H.size) [(ad 1 li, .inr (0, [.int (σ.1 1 li 0 + 1), .ref (ad 27 li), .int (σ.1 1 li 2 + 1)])), (ad (et li) v, o), rwN X (ad 27 li) (va_up (elF ad σ li) (σ.1 1 li 2).toNatClampNeg (some (ad (et li) v)))])
    (hk : ∀ q9 : Nat, q9 < H.size → ¬ va_A [(ad 1 li, (.inr (0, [.int (σ.1 1 li 0), .ref (ad 27 li), .int (σ.1 1 li 2)]) : va_E)), (ad (et li) v, o), rwN X (ad 27 li) (elF ad σ li)] H.size q9 → H2[q9]? = H[q9]?) : HW X ad (wadd σ li v) H2 := by
  have hz : X.2.2.2.1 ≤ H.size := Nat.le_of_lt (Nat.lt_of_le_of_lt (h.1 1 li hl1).2 (h.1 1 li hl1).1.lt)
  have het : et li ≠ 27 ∧ et li ≠ 1 := by rcases et_is li with e | e | e <;> rw [e] <;> decide
  have hl27 : lvp σ 27 li := ⟨h8, fun _ => hfl⟩
  refine h.ext2 (ws := [(ad 1 li, .inr (0, [.int (σ.1 1 li 0), .ref (ad 27 li), .int (σ.1 1 li 2)])), (ad (et li) v, o), rwN X (ad 27 li) (elF ad σ li)]) (K := [(1, li), (et li, v), (27, li)]) (key := keyB li v) hz (fun k p hp => ?_) hP hD hk (fun t i hl => ?_)
  · match k, hp with
    | 0, hp => cases hp; exact ⟨1, li, by simp, hl1, rfl⟩
    | 1, hp => cases hp; exact ⟨et li, v, by simp, hlv, rfl⟩
    | 2, hp => cases hp; exact ⟨27, li, by simp, hl27, rfl⟩
  by_cases a0 : t = et li ∧ i = v
  · obtain ⟨rfl, rfl⟩ := a0
    refine Or.inr ⟨1, ?_, rfl⟩
    rw [wadd_cell (Fx.rf ad) (fun _ _ _ => rfl), hcv]
    rfl
  by_cases a1 : t = 1 ∧ i = li
  · obtain ⟨rfl, rfl⟩ := a1
    refine Or.inr ⟨0, ?_, rfl⟩
    rw [cell_1]
    unfold elA
    rw [wadd_on, if_neg (by decide)]
    have e0 : (wadd σ i v).1 1 i 0 = σ.1 1 i 0 + 1 := by simp [wadd]
    have e2 : (wadd σ i v).1 1 i 2 = σ.1 1 i 2 + 1 := by simp [wadd]
    rw [e0, e2]
    rfl
  by_cases a2 : t = 27 ∧ i = li
  · obtain ⟨rfl, rfl⟩ := a2
    refine Or.inr ⟨2, ?_, rfl⟩
    rw [cell_27]
    refine congrArg (fun z => some ((ad 27 i, Sum.inl (X.2.2.1 5, 10, .inr (.inr (.inr (.inr z))))) : Nat × va_E)) ?_
    funext j
    unfold elF
    by_cases hj : j = (σ.1 1 i 2).toNatClampNeg
    · subst hj
      simp [wadd, va_up]
    · simp [wadd, va_up, hfl, hj]
  · refine Or.inl ⟨wadd_lvp a2 hl, fun z => ?_, rfl, fun z => wadd_old a1 a2 (fun _ _ _ => rfl) z⟩
    simp only [List.mem_cons, List.not_mem_nil, or_false, Prod.mk.injEq] at z
    rcases z with z | z | z
    · exact a1 z
    · exact a0 z
    · exact a2 z
section OBK
variable {α β : Type} {X : Xt} {fin fin' : Ad → Prop} {cc bytes : ByteArray} {nL maxL : Nat} {own : String} {rt rt' : Option FieldType} {fr lo fr' lo' : Nat} {val : α → Option Value} {val' : β → Option Value} {kc cs : Nat × Nat} {ad : Ad} {σ : Wd} {pc : Nat} {lv : List (Nat × Value)} {st stack : List Value} {g : Option ((β ⊕ String) × Wd)} {k : β → Wd → Option ((α ⊕ String) × Wd)} {f : Option ((α ⊕ String) × Wd)}
/-- a call that makes nothing and must not throw, behind things made -/
theorem r_callsN (hfin' : ∀ ad', fin' ad' → ad' = ad) (hcc : cs.1 ≤ kc.1 ∧ cs.2 ≤ kc.2)
    (hrun : ∀ v σ1, g = some (.inl v, σ1) → ∀ p e s m args below meth c, Bod X cc nL own rt p s m args meth c → ∀ (R : Room), fr ≤ R.frames → lo ≤ R.locals → cs.1 + 0 ≤ R.cells → cs.2 + 0 ≤ R.slots → ∀ H locs ls, HW X ad σ H → va_S (Az X) s.heap H locs → lv_has ls nL lv → ∃ a : Array Value,
      vx_Run p X.1 e R s m args below meth c H locs cs.1 cs.2 0 0 (F0 m pc ls stack) st (Qn X fin' val' (Sum.inl v : β ⊕ String) σ1 a) (Qx X fin' (Sum.inl v : β ⊕ String) σ1) (Az X))
    (kk : ∀ v σ1, Bk X fin cc nL own rt fr lo val kc cs ad σ1 (pc + 3) lv ((val' v).toList ++ st) (k v σ1)) : Bk X fin cc nL own rt fr lo val kc cs ad σ pc lv stack (nx (bx g k)) := by
  intro res σ' h p e s m args below meth c B H locs ls hH hS hl9
  obtain ⟨w, rfl, h2⟩ := nx_some h
  rcases bx_cases h2 with ⟨v, σ1, hg, hk⟩ | ⟨E, hg, hr⟩
  · obtain ⟨a, hr⟩ := hrun _ _ hg p e s m args below meth c B { frames := fr, cells := kc.1, slots := kc.2, locals := lo } (Nat.le_refl _) (Nat.le_refl _) hcc.1 hcc.2 H locs ls hH hS hl9
    intro T hT Y
    rcases hr T hT Y with ⟨v0, st0, t, T', L, h0, Y', hL, e1, e2, ⟨⟨v', hv1, hv2, ad', hf', hsw⟩, hF⟩, hgo⟩ | ⟨q, st0, t, T', L, E, ce, h0, Y', hL, e1, e2, ⟨⟨hx, -⟩, -⟩, -⟩
    · cases hv1
      cases hv2
      have := hfin' ad' hf'
      subst this
      obtain ⟨k1, k2, k3⟩ := vx_keep h0 e1 hS (fun _ _ z => z) (fun _ z => z) hL hF
      obtain ⟨t2, a1, b1⟩ := kk v σ1 _ σ' hk p e s m args below meth c B T'.heap (locs ++ L) ls (by rw [e1]; exact hsw) k3 hl9 T' rfl Y'
      exact ⟨t2, hgo t2 a1, b1⟩
    · cases hx
  · cases hr
theorem r_callVN {y : MethodName} {C : String} {T : u_T} {N ci t i index n : Nat} {fs : List Value} {As : List Value} (hc : cellv X ad σ t i = .inr (ci, fs)) (hl : lvp σ t i) (hci : vwCl[ci]? = some (C, T, N)) (nc : NC X fin' y bytes maxL rt' fr' lo' val' (0, 0) ad σ (.ref (ad t i) :: As) g) (hfin' : ∀ ad', fin' ad' → ad' = ad) (hcc : cs.1 ≤ kc.1 ∧ cs.2 ≤ kc.2)
    (hy : y.cls = C ∧ y.cls ≠ "java/lang/invoke/MethodHandle" ∧ y.cls ≠ "java/lang/invoke/VarHandle" ∧ (parseMethodDescriptor y.desc).map (fun d => d.parameters.length) = some n)
    (w1 : Cond.methodLink own index y ∈ G_) (w2 : Cond.instanceMethod y ∈ G_) (w3 : Cond.selects y.cls y y ∈ G_) (w4 : Cond.initialized y.cls ∈ G_) (w5 : Cond.code y bytes maxL rt' ∈ G_)
    (hn : As.length = n) (hst : stack = As.reverse ++ .ref (ad t i) :: st) (hsum : (st.map fun v => v.category).sum ≤ 8) (hroom : fr' + 1 ≤ fr ∧ 8 + (maxL + 11) + lo' ≤ lo) (hd : decode cc pc = .ok (.invokevirtual index, 3))
    (kk : ∀ v σ1, Bk X fin cc nL own rt fr lo val kc cs ad σ1 (pc + 3) lv ((val' v).toList ++ st) (k v σ1)) : Bk X fin cc nL own rt fr lo val kc cs ad σ pc lv stack (nx (bx g k)) := by
  refine r_callsN hfin' hcc (fun v σ1 hg p e s m args below meth c B R hR1 hR2 hR3 hR4 H locs ls hH hS hl9 => ⟨(Value.ref (ad t i) :: As).toArray, ?_⟩) kk
  have hat : va_at X.2.1 vwCl (ad t i, .inr (ci, fs)) H := by rw [← hc]; exact (hH.1 t i hl).1
  have hts := B.2.2.2.2.1
  have hG : GoodIn G_ (wsV own index y.cls y (Cond.code y bytes maxL rt' :: G_)) := fun w hw => by
    have h1 : w ∈ G_ := by
      simp only [wsV, List.cons_append, List.nil_append, List.mem_cons] at hw
      rcases hw with rfl | rfl | rfl | rfl | rfl | h
      · exact w1
      · exact w2
      · exact w3
      · exact w4
      · exact w5
      · exact h
    exact ⟨h1, good_of_word (G_good w h1)⟩
  refine vx_runV B.fix (nc (Sum.inl v) σ1 hg) (C := y.cls) (cwV n hts hG rfl rfl rfl ⟨rfl, hy.2⟩ ⟨Nat.le_trans hroom.1 hR1, Nat.le_trans hroom.2 hR2⟩) ⟨Pn.blind, ?_, fun U hU hW => ⟨rfl, SW.of B hH hS hU hW⟩⟩ rfl hn hl9.1 hst (lv_room hsum) hd ⟨hR3, hR4⟩
  have hr := va_recv (q := (C, T, N)) (q0 := 0) B.2.2.2.2.2.2.2.2.1 (va_P1 hat) hci rfl
  rw [hy.1]
  exact hr
end OBK
section PBK
variable {X : Xt} {cc : ByteArray} {nL : Nat} {own : String} {rt : Option FieldType} {p : Program} {e : Env} {R : Room} {s : State} {m : MethodId} {args : Array Value} {below : List Frame} {meth : Method} {c : Code} {H : Heap} {locs : List Loc} {c1 c2 : Nat} {Q : State → Prop} {pc : Nat} {ls : Array Slot} {lv : List (Nat × Value)} {st stack : List Value}
/-- a loose method is called out of the world -/
theorem r_crV {y : MethodName} {kc : Nat × Nat} {wc : va_W} {P : Option Value → va_W → Prop} {rt' : Option FieldType} {fr' lo' nLc n index b q0 ci N : Nat} {C : String} {T : u_T} {fs : List Value} {bytes : ByteArray} {As : List Value} (B : Bod X cc nL own rt p s m args meth c) (hz : X.2.2.2.1 ≤ H.size) (hS : va_S (Az X) s.heap H locs) (hl : lv_has ls nL lv) (hPc : va_P X.2.1 vwCl wc H) (hDc : va_D (Az X) wc)
    (hci : CR X y bytes nLc rt' fr' lo' kc wc (.ref b :: As) P) (he : wc[q0]? = some (b, .inr (ci, fs))) (hcl : vwCl[ci]? = some (C, T, N))
    (hy : y.cls = C ∧ y.cls ≠ "java/lang/invoke/MethodHandle" ∧ y.cls ≠ "java/lang/invoke/VarHandle" ∧ (parseMethodDescriptor y.desc).map (fun d => d.parameters.length) = some n)
    (w1 : Cond.methodLink own index y ∈ G_) (w2 : Cond.instanceMethod y ∈ G_) (w3 : Cond.selects y.cls y y ∈ G_) (w4 : Cond.initialized y.cls ∈ G_) (w5 : Cond.code y bytes nLc rt' ∈ G_)
    (hn : As.length = n) (hst : stack = As.reverse ++ .ref b :: st) (hsum : (st.map fun v => v.category).sum ≤ 8) (hroom : fr' + 1 ≤ R.frames ∧ 8 + (nLc + 11) + lo' ≤ R.locals) (hcc : c1 + kc.1 ≤ R.cells ∧ c2 + kc.2 ≤ R.slots) (hd : decode cc pc = .ok (.invokevirtual index, 3))
    (kk : ∀ r w1 H2, P r w1 → va_P X.2.1 vwCl w1 H2 → va_D (va_A wc H.size) w1 → (∀ q : Nat, q < H.size → ¬ va_A wc H.size q → H2[q]? = H[q]?) → ∀ locs2, va_S (Az X) s.heap H2 locs2 → W p X.1 e R s m args below meth c H2 locs2 (c1 + kc.1) (c2 + kc.2) Q (F0 m (pc + 3) ls (r.toList ++ st))) : W p X.1 e R s m args below meth c H locs c1 c2 Q (F0 m pc ls stack) := by
  have b5 := B.2.2.2.2.1
  have b6 := B.2.2.2.2.2.2.2.2.1
  have b7 := B.2.2.2.2.2.2.2.2.2.1
  have hm := hci H.size hz (fun kq q hq => hDc.2 kq q hq)
  have hA : ∀ q, va_A wc H.size q → Az X q := fun q hq => by
    rcases hq with ⟨k, e9, hk⟩ | hq
    · exact hDc.2 k _ hk
    · exact Nat.le_trans hz hq
  have hG : GoodIn G_ (wsV own index y.cls y (Cond.code y bytes nLc rt' :: G_)) := fun w hw => by
    have h1 : w ∈ G_ := by
      simp only [wsV, List.cons_append, List.nil_append, List.mem_cons] at hw
      rcases hw with rfl | rfl | rfl | rfl | rfl | h
      · exact w1
      · exact w2
      · exact w3
      · exact w4
      · exact w5
      · exact h
    exact ⟨h1, good_of_word (G_good w h1)⟩
  have hpre : PreV s H y.cls b (PnW X wc H.size (.ref b :: As)) As := ⟨fun a U g mk z => by
    obtain ⟨z1, z2, z3, z4, z5, z6⟩ := z
    exact ⟨z1, z2, z3, z4, va_K.moved (u := U) (U := U.calling g mk a) (Vm.Alike.refl U.vm) z5, z6.same rfl rfl⟩, (by
      have hr := va_recv (q := (C, T, N)) b6 hPc hcl he
      rw [hy.1]
      exact hr), fun U hU hW => ⟨rfl, by rw [hU], by rw [hU]; exact hPc, hDc.weaken (fun _ _ _ _ => trivial), va_K.moved hW.alike b6, b7.warm hW (by rw [hU]; exact hS.2.1)⟩⟩
  have hr := va_runV (R := R) B.fix hm (cwV n b5 hG rfl rfl rfl ⟨rfl, hy.2⟩ hroom) hpre (e := e) (below := below) (meth := meth) (locs := locs) (cells := c1) (slots := c2) (g := F0 m pc ls stack) (rest := st) rfl hn hl.1 hst (lv_room hsum) hd hcc
  intro Tt hT Y
  obtain ⟨v, st0, t, T', L, h0, Y', hL, e1, e2, ⟨⟨r, hv, w1, hw1, hP1, hD1⟩, hzz, hkk⟩, hgo⟩ := hr Tt hT Y
  cases hv
  rw [h0] at hzz hkk
  obtain ⟨t2, a1, c1⟩ := kk _ w1 T'.heap hw1 (by rw [e1]; exact hP1) hD1 (by rw [e1]; exact hkk) (locs ++ L) ⟨Nat.le_trans hS.1 (by rw [e1]; exact hzz), fun q h1 h2 => by rw [e1, hkk q (Nat.lt_of_lt_of_le h1 hS.1) (fun z => h2 (hA q z))]; exact hS.2.1 q h1 h2, fun q hq => by
      rcases List.mem_append.mp hq with h | h
      · exact hS.2.2 q h
      · exact hA _ (hL q h)⟩ T' rfl Y'
  exact ⟨t2, hgo t2 a1, c1⟩
/-- a constructor is called out of the world -/
theorem r_ciI {y : MethodName} {kc : Nat × Nat} {wc : va_W} {P : va_W → Prop} {fr' lo' nLc n index b : Nat} {bytes : ByteArray} {As : List Value} (B : Bod X cc nL own rt p s m args meth c) (hz : X.2.2.2.1 ≤ H.size) (hS : va_S (Az X) s.heap H locs) (hl : lv_has ls nL lv) (hPc : va_P X.2.1 vwCl wc H) (hDc : va_D (Az X) wc)
    (hci : CI X y bytes nLc fr' lo' kc wc (.ref b :: As) P)
    (hy : y.cls ≠ "java/lang/invoke/MethodHandle" ∧ y.cls ≠ "java/lang/invoke/VarHandle" ∧ (parseMethodDescriptor y.desc).map (fun d => d.parameters.length) = some n) (hy1 : y.name = "<init>") (w1 : Cond.methodLink own index y ∈ G_) (w2 : Cond.instanceMethod y ∈ G_) (w4 : Cond.initialized y.cls ∈ G_) (w5 : Cond.code y bytes nLc none ∈ G_)
    (hn : As.length = n) (hst : stack = As.reverse ++ .ref b :: st) (hsum : (st.map fun v => v.category).sum ≤ 8) (hroom : fr' + 1 ≤ R.frames ∧ 8 + (nLc + 11) + lo' ≤ R.locals) (hcc : c1 + kc.1 ≤ R.cells ∧ c2 + kc.2 ≤ R.slots) (hd : decode cc pc = .ok (.invokespecial index, 3))
    (kk : ∀ w1 H2, P w1 → va_P X.2.1 vwCl w1 H2 → va_D (va_A wc H.size) w1 → (∀ q : Nat, q < H.size → ¬ va_A wc H.size q → H2[q]? = H[q]?) → ∀ locs2, va_S (Az X) s.heap H2 locs2 → W p X.1 e R s m args below meth c H2 locs2 (c1 + kc.1) (c2 + kc.2) Q (F0 m (pc + 3) ls st)) : W p X.1 e R s m args below meth c H locs c1 c2 Q (F0 m pc ls stack) := by
  have b5 := B.2.2.2.2.1
  have b6 := B.2.2.2.2.2.2.2.2.1
  have b7 := B.2.2.2.2.2.2.2.2.2.1
  have hm := hci H.size hz (fun kq q hq => hDc.2 kq q hq)
  have hA : ∀ q, va_A wc H.size q → Az X q := fun q hq => by
    rcases hq with ⟨k, e9, hk⟩ | hq
    · exact hDc.2 k _ hk
    · exact Nat.le_trans hz hq
  have hr := va_runI (R := R) (e := e) (below := below) (meth := meth) (locs := locs) (cells := c1) (slots := c2) (g := F0 m pc ls stack) (rest := st) B.fix hm (cwI n b5 (G_in w5) rfl rfl rfl (b5 _ w4) (b5 _ w1) (b5 _ w2) hy1 hy hroom) ⟨fun a U g mk z => by
    obtain ⟨z1, z2, z3, z4, z5, z6⟩ := z
    exact ⟨z1, z2, z3, z4, va_K.moved (u := U) (U := U.calling g mk a) (Vm.Alike.refl U.vm) z5, z6.same rfl rfl⟩, fun U hU hW => ⟨rfl, by rw [hU], by rw [hU]; exact hPc, hDc.weaken (fun _ _ _ _ => trivial), va_K.moved hW.alike b6, b7.warm hW (by rw [hU]; exact hS.2.1)⟩⟩ rfl hn hl.1 hst (lv_room hsum) hd hcc
  intro Tt hT Y
  obtain ⟨v, st0, t, T', L, h0, Y', hL, e1, e2, ⟨⟨hv, w1, hw1, hP1, hD1⟩, hzz, hkk⟩, hgo⟩ := hr Tt hT Y
  cases hv
  rw [h0] at hzz hkk
  obtain ⟨t2, a1, c1⟩ := kk w1 T'.heap hw1 (by rw [e1]; exact hP1) hD1 (by rw [e1]; exact hkk) (locs ++ L) ⟨Nat.le_trans hS.1 (by rw [e1]; exact hzz), fun q h1 h2 => by rw [e1, hkk q (Nat.lt_of_lt_of_le h1 hS.1) (fun z => h2 (hA q z))]; exact hS.2.1 q h1 h2, fun q hq => by
      rcases List.mem_append.mp hq with h | h
      · exact hS.2.2 q h
      · exact hA _ (hL q h)⟩ T' rfl Y'
  exact ⟨t2, hgo t2 a1, c1⟩
end PBK
theorem va_Dof {A : Nat → Prop} {ws : va_W} (h : (ws.map (fun q => q.1)).Nodup) (hA : ∀ (k : Nat) (q : Nat × va_E), ws[k]? = some q → A q.1) : va_D A ws := by
  refine ⟨fun i j p q h1 h2 h3 => ?_, hA⟩
  have g1 : (ws.map (fun q => q.1))[i]? = some p.1 := by rw [List.getElem?_map, h1]; rfl
  have g2 : (ws.map (fun q => q.1))[j]? = some p.1 := by rw [List.getElem?_map, h2, h3]; rfl
  have hi := (List.getElem?_eq_some_iff.mp g1).1
  exact (List.getElem?_inj hi h).mp (g1.trans g2.symm)
section QBK
variable {α : Type} {X : Xt} {fin : Ad → Prop} {cc : ByteArray} {nL : Nat} {own : String} {rt : Option FieldType} {fr lo : Nat} {val : α → Option Value} {kc cs : Nat × Nat} {ad : Ad} {σ : Wd} {pc : Nat} {lv : List (Nat × Value)} {st : List Value} {f : Option ((α ⊕ String) × Wd)}
theorem r_newU {index iinit k1 k2 : Nat} {p0 p1 : Int32} {j1 j2 : Fin 4} (hst : X.1.stackTraces = false) (hk1 : lv[k1]? = some ((j1 : Nat), .int p0)) (hk2 : lv[k2]? = some ((j2 : Nat), .int p1)) (w1 : Cond.classLink own index RX8 ∈ G_) (w2 : Cond.instantiable RX8 7 ∈ G_) (w3 : Cond.initialized RX8 ∈ G_) (w4 : Cond.methodLink own iinit yX8_init ∈ G_) (w5 : Cond.instanceMethod yX8_init ∈ G_) (w6 : Cond.code yX8_init cX8_init 3 none ∈ G_)
    (hg : ∀ j, j < 10 → σ.2.1 0 j ≠ 0 → σ.2.1 0 j - 1 < σ.2.2 8) (h00 : ∃ t0 i0, lvp σ t0 i0) (hc : cs.1 + 1 + 4 ≤ kc.1) (hs : cs.2 + 7 + 13 ≤ kc.2) (hsum : 1 + (st.map fun v => v.category).sum ≤ 8) (hroom : 4 + 1 ≤ fr ∧ 8 + (3 + 11) + 72 ≤ lo)
    (d0 : decode cc pc = .ok (.new index, 3)) (d3 : decode cc (pc + 3) = .ok (.dup, 1)) (d4 : decode cc (pc + 4) = .ok (.iload_n j1, 1)) (d5 : decode cc (pc + 5) = .ok (.iload_n j2, 1)) (d6 : decode cc (pc + 6) = .ok (.invokespecial iinit, 3)) (cs' : Nat × Nat) (hcs : (cs.1 + 1 + 4, cs.2 + 7 + 13) = cs')
    (kk : ∀ ad' : Ad, (∀ t' i', lvp σ t' i' → ad' t' i' = ad t' i') → Fx ad ad' → Bk X fin cc nL own rt fr lo val kc cs' ad' (nuU σ p0 p1) (pc + 9) lv (.ref (ad' 21 (σ.2.2 8)) :: st) f) : Bk X fin cc nL own rt fr lo val kc cs ad σ pc lv st (nx f) := by
  subst hcs
  intro res σ' hf p e s m args below meth c0 B H locs ls hH hS hl
  obtain ⟨v, rfl, hf2⟩ := nx_some hf
  have hts := B.2.2.2.2.1
  have hKn := B.2.2.2.2.2.2.2.2.1.1 9 (RX8, TX8, 7) rfl
  have hz : X.2.2.2.1 ≤ H.size := by
    obtain ⟨t0, i0, h0⟩ := h00
    exact Nat.le_of_lt (Nat.lt_of_le_of_lt (hH.1 t0 i0 h0).2 (hH.1 t0 i0 h0).1.lt)
  refine W.newcK B.1 B.2.1 B.2.2.2.1 (hts _ w1) (hts _ w2) (hts _ w3) (g := F0 m pc ls st) rfl d0 (Nat.le_trans (Nat.le_add_right _ _) hc) (Nat.le_trans (Nat.le_add_right _ _) hs) hKn.2.1 rfl fun H1 kC hkC e1 z1 o1 => ?_
  have hb : va_at X.2.1 vwCl (H.size, .inr (9, [.int 0, .null, .int 0, .int 0, .null, .null, .null])) H1 := ⟨_, rfl, (u_born tyX8 hts in_9 hKn hkC e1 tyX8_ok).to (by decide)⟩
  refine lv_dup (pc := pc + 3) (rest := st) B.1 B.2.1 d3 rfl (lv_iload_n (pc := pc + 4) B.1 B.2.1 d4 rfl (lv_at hl k1 hk1) (lv_iload_n (pc := pc + 5) B.1 B.2.1 d5 rfl (lv_at hl k2 hk2) ?_))
  refine r_ciI (pc := pc + 6) (st := .ref H.size :: st) (n := 2) (As := [.int p0, .int p1]) B (by omega) ⟨Nat.le_trans hS.1 (by omega), fun x h1 h2 => (o1 x (Nat.lt_of_lt_of_le h1 hS.1)).trans (hS.2.1 x h1 h2), hS.2.2⟩ hl (va_P1 hb) (va_Dof (by simp) (fun k q hq => by
    have z9 := (List.getElem?_eq_some_iff.mp hq).1
    simp at z9
    subst z9
    cases hq
    exact hz)) (ci_X8_init X hst H.size p0 p1) ⟨by decide, by decide, by decide +kernel⟩ rfl w4 w5 w3 w6 rfl rfl (by
      show ((Value.ref H.size).category + (st.map fun v => v.category).sum) ≤ 8
      exact hsum) hroom ⟨hc, hs⟩ d6 (fun w1 H2 hw hP2 hD2 hk2 locs2 hS2 => ?_)
  obtain ⟨q1, q3, q4, q5, rfl⟩ := hw
  have hA : ∀ q : Nat, va_A [(H.size, (.inr (9, [.int 0, .null, .int 0, .int 0, .null, .null, .null]) : va_E))] H1.size q → H.size ≤ q := fun q hq => by
    rcases hq with ⟨k, e9, hk⟩ | hq
    · have z9 := (List.getElem?_eq_some_iff.mp hk).1
      simp at z9
      subst z9
      cases hk
      exact Nat.le_refl _
    · omega
  have hHW := hH.newU (p0 := p0) (p1 := p1) hz hg hP2 (hD2.weaken (fun _ q _ z => hA q.1 z)) (fun q hq => (hk2 q (by omega) (fun z => absurd (hA q z) (by omega))).trans (o1 q hq))
  have k2 := kk _ (fun t' i' hl' => ?_) (fun t i h => adN_ne (fun z => by omega) (fun z => by omega) (fun z => by omega) (fun z => by omega) (fun z => by omega)) _ σ' hf2 p e s m args below meth c0 B H2 locs2 ls hHW hS2 hl
  · rw [adN_21] at k2
    exact k2
  · have hne : ∀ t0, (t0 = 21 ∨ t0 = 22 ∨ t0 = 23 ∨ t0 = 24) → ¬ (t' = t0 ∧ i' = σ.2.2 8) := fun t0 ht z => by
      have h1 := hl'.1
      rw [z.1, z.2] at h1
      have h2 : lim σ t0 = σ.2.2 8 := by rcases ht with rfl | rfl | rfl | rfl <;> rfl
      omega
    exact adN_ne (hne 21 (Or.inl rfl)) (fun z => by
      have h1 := hl'.1
      rw [z.1, z.2] at h1
      have h2 : lim σ 1 = 2 + σ.2.2 8 := rfl
      omega) (hne 22 (Or.inr (Or.inl rfl))) (hne 23 (Or.inr (Or.inr (Or.inl rfl)))) (hne 24 (Or.inr (Or.inr (Or.inr rfl))))
theorem r_add {li v ci N index : Nat} {C : String} {T : u_T} {vs : List Value} (hst : X.1.stackTraces = false) (h8 : li < 8) (hl1 : lvp σ 1 li) (hlv : lvp σ (et li) v) (hcv : cellv X ad σ (et li) v = .inr (ci, vs)) (hci : vwCl[ci]? = some (C, T, N)) (hca : Cond.castable C "java/lang/Object" ∈ NW_)
    (hok : (σ.2.2 (20 + li) = 0 ∧ σ.1 1 li 2 = 0) ∨ (σ.2.2 (20 + li) ≠ 0 ∧ ¬ σ.1 1 li 2 = 10 ∧ inb (σ.1 1 li 2) 10))
    (w1 : Cond.methodLink own index yJx4a65c_add_9ea2d ∈ G_) (w2 : Cond.instanceMethod yJx4a65c_add_9ea2d ∈ G_) (w3 : Cond.selects RJx4a65c yJx4a65c_add_9ea2d yJx4a65c_add_9ea2d ∈ G_) (w4 : Cond.initialized RJx4a65c ∈ G_) (w5 : Cond.code yJx4a65c_add_9ea2d cJx4a65c_add_9ea2d 2 (some (.boolean)) ∈ G_)
    (hsum : (st.map fun v => v.category).sum ≤ 8) (hroom : 4 + 1 ≤ fr ∧ 8 + (2 + 11) + 80 ≤ lo) (hcc : cs.1 + 1 ≤ kc.1 ∧ cs.2 + 10 ≤ kc.2) (hd : decode cc pc = .ok (.invokevirtual index, 3)) (cs' : Nat × Nat) (hcs : (cs.1 + 1, cs.2 + 10) = cs')
    (kk : ∀ ad' : Ad, (∀ t' i', lvp σ t' i' → ad' t' i' = ad t' i') → Fx ad ad' → Bk X fin cc nL own rt fr lo val kc cs' ad' (wadd σ li v) (pc + 3) lv (.int 1 :: st) f) : Bk X fin cc nL own rt fr lo val kc cs ad σ pc lv (.ref (ad (et li) v) :: .ref (ad 1 li) :: st) (nx f) := by
  subst hcs
  intro res σ' hf p e s m args below meth c0 B H locs ls hH hS hl
  obtain ⟨vr, rfl, hf2⟩ := nx_some hf
  have hat1 := (hH.1 1 li hl1).1
  have hatv := (hH.1 (et li) v hlv).1
  have hz : X.2.2.2.1 ≤ H.size := Nat.le_of_lt (Nat.lt_of_le_of_lt (hH.1 1 li hl1).2 hat1.lt)
  have het : et li ≠ 27 ∧ et li ≠ 1 := by rcases et_is li with e | e | e <;> rw [e] <;> decide
  have hne1 : ¬ ad 1 li = ad (et li) v := fun z => het.2 (hH.2 1 li (et li) v hl1 hlv z).1.symm
  rw [hcv] at hatv
  rw [cell_1] at hat1
  rcases hok with ⟨hf0, hs0⟩ | ⟨hf0, hs0, hin⟩
  · have e1 : elA X ad σ li = X.2.2.2.2 := if_pos hf0
    rw [e1, hs0] at hat1
    have hP0 : va_P X.2.1 vwCl [(ad 1 li, (.inr (0, [.int (σ.1 1 li 0), .ref X.2.2.2.2, .int 0]) : va_E)), (ad (et li) v, .inr (ci, vs))] H := fun k q hq => by
      match k, hq with
      | 0, hq => cases hq; exact hat1
      | 1, hq => cases hq; exact hatv
    have hD0 : va_D (Az X) [(ad 1 li, (.inr (0, [.int (σ.1 1 li 0), .ref X.2.2.2.2, .int 0]) : va_E)), (ad (et li) v, .inr (ci, vs))] := va_Dof (by simp [hne1]) (fun k q hq => by
      match k, hq with
      | 0, hq => cases hq; exact (hH.1 1 li hl1).2
      | 1, hq => cases hq; exact (hH.1 (et li) v hlv).2)
    refine r_crV (st := st) (n := 1) (As := [.ref (ad (et li) v)]) (q0 := 0) B hz hS hl hP0 hD0 (cr_add1A X hst (ad 1 li) (ad (et li) v) ci N (σ.1 1 li 0) vs hci hca) rfl rfl ⟨rfl, by decide, by decide, by decide +kernel⟩ w1 w2 w3 w4 w5 rfl rfl hsum hroom hcc hd (fun r w9 H2 hw hP2 hD2 hk2 locs2 hS2 => ?_)
    obtain ⟨rfl, q, rfl⟩ := hw
    have hHW := hH.addA hl1 hlv hf0 hs0 hcv hP2 hD2 hk2
    exact kk _ (fun t' i' hl' => adU_ne _ (fun z => by
      obtain ⟨rfl, rfl⟩ := z
      exact hl'.2 rfl hf0)) (Fx.up (Or.inr ⟨by decide, by decide⟩)) _ σ' hf2 p e s m args below meth c0 B H2 locs2 ls hHW hS2 hl
  · have e1 : elA X ad σ li = ad 27 li := if_neg hf0
    have hl27 : lvp σ 27 li := ⟨h8, fun _ => hf0⟩
    have hat27 := (hH.1 27 li hl27).1
    rw [cell_27] at hat27
    rw [e1] at hat1
    have hne2 : ¬ ad 1 li = ad 27 li := fun z => by have := (hH.2 1 li 27 li hl1 hl27 z).1; cases this
    have hne3 : ¬ ad (et li) v = ad 27 li := fun z => het.1 (hH.2 (et li) v 27 li hlv hl27 z).1
    have hP0 : va_P X.2.1 vwCl [(ad 1 li, (.inr (0, [.int (σ.1 1 li 0), .ref (ad 27 li), .int (σ.1 1 li 2)]) : va_E)), (ad (et li) v, .inr (ci, vs)), rwN X (ad 27 li) (elF ad σ li)] H := fun k q hq => by
      match k, hq with
      | 0, hq => cases hq; exact hat1
      | 1, hq => cases hq; exact hatv
      | 2, hq => cases hq; exact hat27
    have hD0 : va_D (Az X) [(ad 1 li, (.inr (0, [.int (σ.1 1 li 0), .ref (ad 27 li), .int (σ.1 1 li 2)]) : va_E)), (ad (et li) v, .inr (ci, vs)), rwN X (ad 27 li) (elF ad σ li)] := va_Dof (by simp [hne1, hne2, hne3]) (fun k q hq => by
      match k, hq with
      | 0, hq => cases hq; exact (hH.1 1 li hl1).2
      | 1, hq => cases hq; exact (hH.1 (et li) v hlv).2
      | 2, hq => cases hq; exact (hH.1 27 li hl27).2)
    refine r_crV (st := st) (n := 1) (As := [.ref (ad (et li) v)]) (q0 := 0) B hz hS hl hP0 hD0 (cr_add1B X hst (ad 1 li) (ad (et li) v) ci N (σ.1 1 li 0) vs hci hca (ad 27 li) (elF ad σ li) (σ.1 1 li 2) hs0 hin) rfl rfl ⟨rfl, by decide, by decide, by decide +kernel⟩ w1 w2 w3 w4 w5 rfl rfl hsum hroom ⟨Nat.le_trans (Nat.le_add_right _ _) hcc.1, Nat.le_trans (Nat.le_add_right _ _) hcc.2⟩ hd (fun r w9 H2 hw hP2 hD2 hk2 locs2 hS2 => ?_)
    obtain ⟨rfl, rfl⟩ := hw
    have hHW := hH.addB hl1 hlv h8 hf0 hcv hP2 hD2 hk2
    exact W.widen (k := cs.1 + 1) (n := cs.2 + 10) (Nat.le_add_right _ _) (Nat.le_add_right _ _) (kk _ (fun t' i' _ => rfl) (Fx.rf _) _ σ' hf2 p e s m args below meth c0 B H2 locs2 ls hHW hS2 hl)
end QBK
def vsO (l : List Int32) : Nat → Int32 := fun k => l.getD k 0
theorem nuc_25 (X : Xt) (ad : Ad) (σ : Wd) : cellv X ad (nuO σ 25 9) 25 (σ.2.2 9) = .inr (1, [.int 0, .int 0, .int 0, .int 0, .int 0, .int 0]) := by
  rw [cell_25]
  simp [nuO]
theorem nuc_26 (X : Xt) (ad : Ad) (σ : Wd) : cellv X ad (nuO σ 26 10) 26 (σ.2.2 10) = .inr (3, [.int 0, .int 0, .int 0, .int 0]) := by
  rw [cell_26]
  simp [nuO]
theorem stc_25 (X : Xt) (ad : Ad) (σ : Wd) (i : Nat) (a b c d e g : Int32) : cellv X ad (stO σ 25 i (vsO [a, b, c, d, e, g])) 25 i = .inr (1, [.int a, .int b, .int c, .int d, .int e, .int g]) := by
  rw [cell_25]
  simp [stO, vsO]
theorem stc_26 (X : Xt) (ad : Ad) (σ : Wd) (i : Nat) (a b c d : Int32) : cellv X ad (stO σ 26 i (vsO [a, b, c, d])) 26 i = .inr (3, [.int a, .int b, .int c, .int d]) := by
  rw [cell_26]
  simp [stO, vsO]
def okU (σ : Wd) : Bool := (List.range 10).all fun j => decide (σ.2.1 0 j - 1 < σ.2.2 8) || decide (σ.2.1 0 j = 0)
def okO (σ : Wd) (t c : Nat) : Bool := (List.range 8).all fun i => decide (¬ et i = t) || (List.range 10).all fun j => decide (σ.2.1 i j - 1 < σ.2.2 c) || decide (σ.2.1 i j = 0)
theorem okU_at {σ : Wd} (h : okU σ = true) : ∀ j, j < 10 → σ.2.1 0 j ≠ 0 → σ.2.1 0 j - 1 < σ.2.2 8 := by
  intro j hj hne
  have h1 := List.all_eq_true.mp h j (List.mem_range.mpr hj)
  simp only [Bool.or_eq_true, decide_eq_true_eq] at h1
  exact h1.resolve_right hne
theorem okO_at {σ : Wd} {t c : Nat} (h : okO σ t c = true) : ∀ i, i < 8 → et i = t → ∀ j, j < 10 → σ.2.1 i j ≠ 0 → σ.2.1 i j - 1 < σ.2.2 c := by
  intro i hi he j hj hne
  have h1 := List.all_eq_true.mp h i (List.mem_range.mpr hi)
  simp only [Bool.or_eq_true, decide_eq_true_eq] at h1
  have h2 := List.all_eq_true.mp (h1.resolve_left (fun q => q he)) j (List.mem_range.mpr hj)
  simp only [Bool.or_eq_true, decide_eq_true_eq] at h2
  exact h2.resolve_right hne
