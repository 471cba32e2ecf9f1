theorem va_P1 {D : va_G} {cl : List vw_C} {q : Nat × va_E} {H : Heap} (h : va_at D cl q H) : va_P D cl [q] H := fun k q' hk => by
  cases k with
  | zero => cases hk; exact h
  | succ k => simp at hk
abbrev inb (j : Int32) (n : Nat) : Prop := ¬ j < 0 ∧ j.toNatClampNeg < n
theorem inb_vp {j : Int32} {n : Nat} (h : inb j n) : vp_in j n := fun q => q.elim (fun z => h.1 z) (fun z => Nat.lt_irrefl _ (Nat.lt_of_lt_of_le h.2 z))
theorem NC.intro {β : Type} {X : Xt} {fin : Ad → Prop} {y : MethodName} {cc : ByteArray} {nL : Nat} {rt : Option FieldType} {fr lo : Nat} {val : β → Option Value} {kc : Nat × Nat} {ad : Ad} {σ : Wd} {avs : List Value} {g : Option ((β ⊕ String) × Wd)} (own : String) (ho : y.cls = own) (hst : X.1.stackTraces = false) (hy : plainName y.cls = true) (hlen : (lg_sl avs).length ≤ nL) {lv : List (Nat × Value)} (hlv : lv_args 0 avs = lv)
    (k : Bk X fin cc nL own rt fr lo val kc (0, 0) ad σ 0 lv [] g) : NC X fin y cc nL rt fr lo val kc ad σ avs g := by
  subst ho
  intro res σ' hg
  refine vx_ofW (cc := cc) (maxL := nL) (ret := rt) hy rfl ?_
  intro p e s m args below meth c s₁ B hml htab hv
  obtain ⟨rfl, hHW, hK, hSF⟩ := hv
  have hts0 := atoms_spec (ws := Cond.code y cc nL rt :: G_) B.pre
  have hB : Bod X cc nL y.cls rt p s m avs.toArray meth c := ⟨B.exec, B.bytes, hml, findClass_of_methodNamed B.named, fun w hw => hts0 w (List.mem_cons_of_mem _ hw), B.returns, B.notSynchronized, htab, hK, hSF, hst⟩
  rw [lg_entry_eq]
  exact k res σ' hg p e s m _ below meth c hB s.heap [] _ hHW va_S.rf (hlv ▸ lv_entry avs hlen)
section RBK
variable {α : Type} {X : Xt} {fin : Ad → Prop} {cc : ByteArray} {nL : Nat} {own : String} {rt : Option FieldType} {fr lo : Nat} {val : α → Option Value} {kc cs : Nat × Nat} {ad : Ad} {σ : Wd} {pc : Nat} {lv : List (Nat × Value)} {st : List Value} {f f1 f2 : Option ((α ⊕ String) × Wd)}
theorem r_none : Bk X fin cc nL own rt fr lo val kc cs ad σ pc lv st none := fun _ _ h => nomatch h
theorem r_gd {c : Prop} [Decidable c] (k : c → Bk X fin cc nL own rt fr lo val kc cs ad σ pc lv st f) : Bk X fin cc nL own rt fr lo val kc cs ad σ pc lv st (gd c f) := fun res σ' h => k (gd_some h).1 res σ' (gd_some h).2
theorem r_sub {lv' : List (Nat × Value)} (ks : List Nat) (hk : lv_pick lv ks = lv') (k : Bk X fin cc nL own rt fr lo val kc cs ad σ pc lv' st f) : Bk X fin cc nL own rt fr lo val kc cs ad σ pc lv st f :=
  fun res σ' h p e s m args below meth c B H locs ls hH hS hl => k res σ' h p e s m args below meth c B H locs ls hH hS (lv_sub hl ks hk)
theorem r_bd {γ : Type} {x : γ} {kf : γ → Option ((α ⊕ String) × Wd)} (k : Bk X fin cc nL own rt fr lo val kc cs ad σ pc lv st (kf x)) : Bk X fin cc nL own rt fr lo val kc cs ad σ pc lv st (bd x kf) := k
theorem r_iconst {n : Int} (v : Int32) (hv : Int32.ofInt n = v) (hd : decode cc pc = .ok (.iconst n, 1)) (k : Bk X fin cc nL own rt fr lo val kc cs ad σ (pc + 1) lv (.int v :: st) f) : Bk X fin cc nL own rt fr lo val kc cs ad σ pc lv st f :=
  fun res σ' h p e s m args below meth c B H locs ls hH hS hl => lv_iconst B.1 B.2.1 hd hv (k res σ' h p e s m args below meth c B H locs ls hH hS hl)
theorem r_bipush {n : Int} (v : Int32) (hv : (Int8.ofInt n).toInt32 = v) (hd : decode cc pc = .ok (.bipush n, 2)) (k : Bk X fin cc nL own rt fr lo val kc cs ad σ (pc + 2) lv (.int v :: st) f) : Bk X fin cc nL own rt fr lo val kc cs ad σ pc lv st f :=
  fun res σ' h p e s m args below meth c B H locs ls hH hS hl => lv_bipush B.1 B.2.1 hd hv (k res σ' h p e s m args below meth c B H locs ls hH hS hl)
theorem r_sipush {n : Int} (v : Int32) (hv : (Int16.ofInt n).toInt32 = v) (hd : decode cc pc = .ok (.sipush n, 3)) (k : Bk X fin cc nL own rt fr lo val kc cs ad σ (pc + 3) lv (.int v :: st) f) : Bk X fin cc nL own rt fr lo val kc cs ad σ pc lv st f :=
  fun res σ' h p e s m args below meth c B H locs ls hH hS hl => lv_sipush B.1 B.2.1 hd hv (k res σ' h p e s m args below meth c B H locs ls hH hS hl)
theorem r_ldc {index : Nat} (v : Int32) (w : Cond.constant own index v ∈ G_) (hd : decode cc pc = .ok (.ldc index, 2)) (k : Bk X fin cc nL own rt fr lo val kc cs ad σ (pc + 2) lv (.int v :: st) f) : Bk X fin cc nL own rt fr lo val kc cs ad σ pc lv st f :=
  fun res σ' h p e s m args below meth c B H locs ls hH hS hl => lv_ldc B.1 B.2.1 B.2.2.2.1 (B.2.2.2.2.1 _ w) hd (k res σ' h p e s m args below meth c B H locs ls hH hS hl)
theorem r_null (hd : decode cc pc = .ok (.aconst_null, 1)) (k : Bk X fin cc nL own rt fr lo val kc cs ad σ (pc + 1) lv (.null :: st) f) : Bk X fin cc nL own rt fr lo val kc cs ad σ pc lv st f :=
  fun res σ' h p e s m args below meth c B H locs ls hH hS hl => lv_null B.1 B.2.1 hd (k res σ' h p e s m args below meth c B H locs ls hH hS hl)
theorem r_iload_n {j : Fin 4} {x : Int32} (q : Nat) (hq : lv[q]? = some ((j : Nat), .int x)) (hd : decode cc pc = .ok (.iload_n j, 1)) (k : Bk X fin cc nL own rt fr lo val kc cs ad σ (pc + 1) lv (.int x :: st) f) : Bk X fin cc nL own rt fr lo val kc cs ad σ pc lv st f :=
  fun res σ' h p e s m args below meth c B H locs ls hH hS hl => lv_iload_n B.1 B.2.1 hd rfl (lv_at hl q hq) (k res σ' h p e s m args below meth c B H locs ls hH hS hl)
theorem r_iload {j : Nat} {x : Int32} (q : Nat) (hq : lv[q]? = some (j, .int x)) (hd : decode cc pc = .ok (.iload j, 2)) (k : Bk X fin cc nL own rt fr lo val kc cs ad σ (pc + 2) lv (.int x :: st) f) : Bk X fin cc nL own rt fr lo val kc cs ad σ pc lv st f :=
  fun res σ' h p e s m args below meth c B H locs ls hH hS hl => lv_iload B.1 B.2.1 hd (lv_at hl q hq) (k res σ' h p e s m args below meth c B H locs ls hH hS hl)
theorem r_aload_n {j : Fin 4} {x : Nat} (q : Nat) (hq : lv[q]? = some ((j : Nat), .ref x)) (hd : decode cc pc = .ok (.aload_n j, 1)) (k : Bk X fin cc nL own rt fr lo val kc cs ad σ (pc + 1) lv (.ref x :: st) f) : Bk X fin cc nL own rt fr lo val kc cs ad σ pc lv st f :=
  fun res σ' h p e s m args below meth c B H locs ls hH hS hl => lv_aload_n B.1 B.2.1 hd rfl (lv_at hl q hq) (k res σ' h p e s m args below meth c B H locs ls hH hS hl)
theorem r_aload {j : Nat} {x : Nat} (q : Nat) (hq : lv[q]? = some (j, .ref x)) (hd : decode cc pc = .ok (.aload j, 2)) (k : Bk X fin cc nL own rt fr lo val kc cs ad σ (pc + 2) lv (.ref x :: st) f) : Bk X fin cc nL own rt fr lo val kc cs ad σ pc lv st f :=
  fun res σ' h p e s m args below meth c B H locs ls hH hS hl => lv_aload B.1 B.2.1 hd (lv_at hl q hq) (k res σ' h p e s m args below meth c B H locs ls hH hS hl)
theorem r_aload_nN {j : Fin 4} (q : Nat) (hq : lv[q]? = some ((j : Nat), .null)) (hd : decode cc pc = .ok (.aload_n j, 1)) (k : Bk X fin cc nL own rt fr lo val kc cs ad σ (pc + 1) lv (.null :: st) f) : Bk X fin cc nL own rt fr lo val kc cs ad σ pc lv st f :=
  fun res σ' h p e s m args below meth c B H locs ls hH hS hl => lv_aload_nN B.1 B.2.1 hd rfl (lv_at hl q hq) (k res σ' h p e s m args below meth c B H locs ls hH hS hl)
theorem r_istore_n {j : Fin 4} {x : Int32} (lv' : List (Nat × Value)) (hl' : ((j : Nat), Value.int x) :: lv.filter (fun q => !(q.1 == (j : Nat)) && !(q.1 + 1 == (j : Nat) && q.2.category == 2)) = lv') (hn : (j : Nat) < nL) (hd : decode cc pc = .ok (.istore_n j, 1)) (k : Bk X fin cc nL own rt fr lo val kc cs ad σ (pc + 1) lv' st f) : Bk X fin cc nL own rt fr lo val kc cs ad σ pc lv (.int x :: st) f :=
  fun res σ' h p e s m args below meth c B H locs ls hH hS hl => lv_istore_n B.1 B.2.1 hd rfl hl hn hl' (fun ls' hl2 => k res σ' h p e s m args below meth c B H locs ls' hH hS hl2)
theorem r_istore {j : Nat} {x : Int32} (lv' : List (Nat × Value)) (hl' : (j, Value.int x) :: lv.filter (fun q => !(q.1 == j) && !(q.1 + 1 == j && q.2.category == 2)) = lv') (hn : j < nL) (hd : decode cc pc = .ok (.istore j, 2)) (k : Bk X fin cc nL own rt fr lo val kc cs ad σ (pc + 2) lv' st f) : Bk X fin cc nL own rt fr lo val kc cs ad σ pc lv (.int x :: st) f :=
  fun res σ' h p e s m args below meth c B H locs ls hH hS hl => lv_istore B.1 B.2.1 hd hl hn hl' (fun ls' hl2 => k res σ' h p e s m args below meth c B H locs ls' hH hS hl2)
theorem r_astore_n {j : Fin 4} {x : Nat} (lv' : List (Nat × Value)) (hl' : ((j : Nat), Value.ref x) :: lv.filter (fun q => !(q.1 == (j : Nat)) && !(q.1 + 1 == (j : Nat) && q.2.category == 2)) = lv') (hn : (j : Nat) < nL) (hd : decode cc pc = .ok (.astore_n j, 1)) (k : Bk X fin cc nL own rt fr lo val kc cs ad σ (pc + 1) lv' st f) : Bk X fin cc nL own rt fr lo val kc cs ad σ pc lv (.ref x :: st) f :=
  fun res σ' h p e s m args below meth c B H locs ls hH hS hl => lv_astore_n B.1 B.2.1 hd rfl hl hn hl' (fun ls' hl2 => k res σ' h p e s m args below meth c B H locs ls' hH hS hl2)
theorem r_astore {j : Nat} {x : Nat} (lv' : List (Nat × Value)) (hl' : (j, Value.ref x) :: lv.filter (fun q => !(q.1 == j) && !(q.1 + 1 == j && q.2.category == 2)) = lv') (hn : j < nL) (hd : decode cc pc = .ok (.astore j, 2)) (k : Bk X fin cc nL own rt fr lo val kc cs ad σ (pc + 2) lv' st f) : Bk X fin cc nL own rt fr lo val kc cs ad σ pc lv (.ref x :: st) f :=
  fun res σ' h p e s m args below meth c B H locs ls hH hS hl => lv_astore B.1 B.2.1 hd hl hn hl' (fun ls' hl2 => k res σ' h p e s m args below meth c B H locs ls' hH hS hl2)
theorem r_astore_nN {j : Fin 4} (lv' : List (Nat × Value)) (hl' : ((j : Nat), Value.null) :: lv.filter (fun q => !(q.1 == (j : Nat)) && !(q.1 + 1 == (j : Nat) && q.2.category == 2)) = lv') (hn : (j : Nat) < nL) (hd : decode cc pc = .ok (.astore_n j, 1)) (k : Bk X fin cc nL own rt fr lo val kc cs ad σ (pc + 1) lv' st f) : Bk X fin cc nL own rt fr lo val kc cs ad σ pc lv (.null :: st) f :=
  fun res σ' h p e s m args below meth c B H locs ls hH hS hl => lv_astore_nN B.1 B.2.1 hd rfl hl hn hl' (fun ls' hl2 => k res σ' h p e s m args below meth c B H locs ls' hH hS hl2)
theorem r_iinc {i : Nat} {n : Int} {x : Int32} (d : Int32) (lv' : List (Nat × Value)) (q : Nat) (hq : lv[q]? = some (i, .int x)) (hdv : Int32.ofInt n = d) (hl' : (i, Value.int (x + d)) :: lv.filter (fun q => !(q.1 == i) && !(q.1 + 1 == i && q.2.category == 2)) = lv') (hn : i < nL) (hd : decode cc pc = .ok (.iinc i n, 3)) (k : Bk X fin cc nL own rt fr lo val kc cs ad σ (pc + 3) lv' st f) : Bk X fin cc nL own rt fr lo val kc cs ad σ pc lv st f :=
  fun res σ' h p e s m args below meth c B H locs ls hH hS hl => lv_iinc B.1 B.2.1 hd hl hq (by rw [hdv]) hn hl' (fun ls' hl2 => k res σ' h p e s m args below meth c B H locs ls' hH hS hl2)
theorem r_iadd {x y : Int32} (hd : decode cc pc = .ok (.iadd, 1)) (k : Bk X fin cc nL own rt fr lo val kc cs ad σ (pc + 1) lv (.int (x + y) :: st) f) : Bk X fin cc nL own rt fr lo val kc cs ad σ pc lv (.int y :: .int x :: st) f :=
  fun res σ' h p e s m args below meth c B H locs ls hH hS hl => lv_iadd B.1 B.2.1 hd (k res σ' h p e s m args below meth c B H locs ls hH hS hl)
theorem r_isub {x y : Int32} (hd : decode cc pc = .ok (.isub, 1)) (k : Bk X fin cc nL own rt fr lo val kc cs ad σ (pc + 1) lv (.int (x - y) :: st) f) : Bk X fin cc nL own rt fr lo val kc cs ad σ pc lv (.int y :: .int x :: st) f :=
  fun res σ' h p e s m args below meth c B H locs ls hH hS hl => lv_isub B.1 B.2.1 hd (k res σ' h p e s m args below meth c B H locs ls hH hS hl)
theorem r_imul {x y : Int32} (hd : decode cc pc = .ok (.imul, 1)) (k : Bk X fin cc nL own rt fr lo val kc cs ad σ (pc + 1) lv (.int (x * y) :: st) f) : Bk X fin cc nL own rt fr lo val kc cs ad σ pc lv (.int y :: .int x :: st) f :=
  fun res σ' h p e s m args below meth c B H locs ls hH hS hl => lv_imul B.1 B.2.1 hd (k res σ' h p e s m args below meth c B H locs ls hH hS hl)
theorem r_iand {x y : Int32} (hd : decode cc pc = .ok (.iand, 1)) (k : Bk X fin cc nL own rt fr lo val kc cs ad σ (pc + 1) lv (.int (x &&& y) :: st) f) : Bk X fin cc nL own rt fr lo val kc cs ad σ pc lv (.int y :: .int x :: st) f :=
  fun res σ' h p e s m args below meth c B H locs ls hH hS hl => lv_iand B.1 B.2.1 hd (k res σ' h p e s m args below meth c B H locs ls hH hS hl)
theorem r_ior {x y : Int32} (hd : decode cc pc = .ok (.ior, 1)) (k : Bk X fin cc nL own rt fr lo val kc cs ad σ (pc + 1) lv (.int (x ||| y) :: st) f) : Bk X fin cc nL own rt fr lo val kc cs ad σ pc lv (.int y :: .int x :: st) f :=
  fun res σ' h p e s m args below meth c B H locs ls hH hS hl => lv_ior B.1 B.2.1 hd (k res σ' h p e s m args below meth c B H locs ls hH hS hl)
theorem r_ixor {x y : Int32} (hd : decode cc pc = .ok (.ixor, 1)) (k : Bk X fin cc nL own rt fr lo val kc cs ad σ (pc + 1) lv (.int (x ^^^ y) :: st) f) : Bk X fin cc nL own rt fr lo val kc cs ad σ pc lv (.int y :: .int x :: st) f :=
  fun res σ' h p e s m args below meth c B H locs ls hH hS hl => lv_ixor B.1 B.2.1 hd (k res σ' h p e s m args below meth c B H locs ls hH hS hl)
theorem r_ishl {x y : Int32} (hd : decode cc pc = .ok (.ishl, 1)) (k : Bk X fin cc nL own rt fr lo val kc cs ad σ (pc + 1) lv (.int (x <<< (y &&& 31)) :: st) f) : Bk X fin cc nL own rt fr lo val kc cs ad σ pc lv (.int y :: .int x :: st) f :=
  fun res σ' h p e s m args below meth c B H locs ls hH hS hl => lv_ishl B.1 B.2.1 hd (k res σ' h p e s m args below meth c B H locs ls hH hS hl)
theorem r_ishr {x y : Int32} (hd : decode cc pc = .ok (.ishr, 1)) (k : Bk X fin cc nL own rt fr lo val kc cs ad σ (pc + 1) lv (.int (x >>> (y &&& 31)) :: st) f) : Bk X fin cc nL own rt fr lo val kc cs ad σ pc lv (.int y :: .int x :: st) f :=
  fun res σ' h p e s m args below meth c B H locs ls hH hS hl => lv_ishr B.1 B.2.1 hd (k res σ' h p e s m args below meth c B H locs ls hH hS hl)
theorem r_idiv {x y : Int32} (hne : ¬ y = 0) (hd : decode cc pc = .ok (.idiv, 1)) (k : Bk X fin cc nL own rt fr lo val kc cs ad σ (pc + 1) lv (.int (x / y) :: st) f) : Bk X fin cc nL own rt fr lo val kc cs ad σ pc lv (.int y :: .int x :: st) f :=
  fun res σ' h p e s m args below meth c B H locs ls hH hS hl => lv_idiv B.1 B.2.1 hd hne (k res σ' h p e s m args below meth c B H locs ls hH hS hl)
theorem r_dup {v : Value} (hv : v.category = 1) (hd : decode cc pc = .ok (.dup, 1)) (k : Bk X fin cc nL own rt fr lo val kc cs ad σ (pc + 1) lv (v :: v :: st) f) : Bk X fin cc nL own rt fr lo val kc cs ad σ pc lv (v :: st) f :=
  fun res σ' h p e s m args below meth c B H locs ls hH hS hl => lv_dup B.1 B.2.1 hd hv (k res σ' h p e s m args below meth c B H locs ls hH hS hl)
theorem r_pop {v : Value} (hv : v.category = 1) (hd : decode cc pc = .ok (.pop, 1)) (k : Bk X fin cc nL own rt fr lo val kc cs ad σ (pc + 1) lv st f) : Bk X fin cc nL own rt fr lo val kc cs ad σ pc lv (v :: st) f :=
  fun res σ' h p e s m args below meth c B H locs ls hH hS hl => lv_pop B.1 B.2.1 hd hv (k res σ' h p e s m args below meth c B H locs ls hH hS hl)
theorem r_dup2 {v w : Value} (hv : v.category = 1) (hw : w.category = 1) (hd : decode cc pc = .ok (.dup2, 1)) (k : Bk X fin cc nL own rt fr lo val kc cs ad σ (pc + 1) lv (v :: w :: v :: w :: st) f) : Bk X fin cc nL own rt fr lo val kc cs ad σ pc lv (v :: w :: st) f :=
  fun res σ' h p e s m args below meth c B H locs ls hH hS hl => lv_dup2_11 B.1 B.2.1 hd hv hw (k res σ' h p e s m args below meth c B H locs ls hH hS hl)
theorem r_dup_x1 {v w : Value} (hv : v.category = 1) (hw : w.category = 1) (hd : decode cc pc = .ok (.dup_x1, 1)) (k : Bk X fin cc nL own rt fr lo val kc cs ad σ (pc + 1) lv (v :: w :: v :: st) f) : Bk X fin cc nL own rt fr lo val kc cs ad σ pc lv (v :: w :: st) f :=
  fun res σ' h p e s m args below meth c B H locs ls hH hS hl => lv_dup_x1 B.1 B.2.1 hd hv hw (k res σ' h p e s m args below meth c B H locs ls hH hS hl)
theorem r_goto {off : Int} (tgt : Nat) (hd : decode cc pc = .ok (.goto off, 3)) (ht : (pc : Int) + off = (tgt : Int)) (k : Bk X fin cc nL own rt fr lo val kc cs ad σ tgt lv st f) : Bk X fin cc nL own rt fr lo val kc cs ad σ pc lv st f :=
  fun res σ' h p e s m args below meth c B H locs ls hH hS hl => lv_goto B.1 B.2.1 hd ht (k res σ' h p e s m args below meth c B H locs ls hH hS hl)
theorem r_if_eq {x : Int32} {off : Int} (tgt : Nat) (hd : decode cc pc = .ok (.ifCond .eq off, 3)) (ht : (pc : Int) + off = (tgt : Int)) (k1 : Bk X fin cc nL own rt fr lo val kc cs ad σ tgt lv st f1) (k2 : Bk X fin cc nL own rt fr lo val kc cs ad σ (pc + 3) lv st f2) : Bk X fin cc nL own rt fr lo val kc cs ad σ pc lv (.int x :: st) (if x = 0 then f1 else f2) := by
  intro res σ' h p e s m args below meth c B H locs ls hH hS hl
  refine lv_if_eq B.1 B.2.1 hd ht (fun hc => k1 res σ' (by rw [if_pos hc] at h; exact h) p e s m args below meth c B H locs ls hH hS hl) (fun hc => k2 res σ' (by rw [if_neg hc] at h; exact h) p e s m args below meth c B H locs ls hH hS hl)
theorem r_icmp_eq {x y : Int32} {off : Int} (tgt : Nat) (hd : decode cc pc = .ok (.if_icmp .eq off, 3)) (ht : (pc : Int) + off = (tgt : Int)) (k1 : Bk X fin cc nL own rt fr lo val kc cs ad σ tgt lv st f1) (k2 : Bk X fin cc nL own rt fr lo val kc cs ad σ (pc + 3) lv st f2) : Bk X fin cc nL own rt fr lo val kc cs ad σ pc lv (.int y :: .int x :: st) (if x = y then f1 else f2) := by
  intro res σ' h p e s m args below meth c B H locs ls hH hS hl
  refine lv_icmp_eq B.1 B.2.1 hd ht (fun hc => k1 res σ' (by rw [if_pos hc] at h; exact h) p e s m args below meth c B H locs ls hH hS hl) (fun hc => k2 res σ' (by rw [if_neg hc] at h; exact h) p e s m args below meth c B H locs ls hH hS hl)
theorem r_if_ne {x : Int32} {off : Int} (tgt : Nat) (hd : decode cc pc = .ok (.ifCond .ne off, 3)) (ht : (pc : Int) + off = (tgt : Int)) (k1 : Bk X fin cc nL own rt fr lo val kc cs ad σ (pc + 3) lv st f1) (k2 : Bk X fin cc nL own rt fr lo val kc cs ad σ tgt lv st f2) : Bk X fin cc nL own rt fr lo val kc cs ad σ pc lv (.int x :: st) (if x = 0 then f1 else f2) := by
  intro res σ' h p e s m args below meth c B H locs ls hH hS hl
  refine lv_if_ne B.1 B.2.1 hd ht (fun hc => k2 res σ' (by rw [if_neg hc] at h; exact h) p e s m args below meth c B H locs ls hH hS hl) (fun hc => k1 res σ' (by rw [if_pos hc] at h; exact h) p e s m args below meth c B H locs ls hH hS hl)
theorem r_icmp_ne {x y : Int32} {off : Int} (tgt : Nat) (hd : decode cc pc = .ok (.if_icmp .ne off, 3)) (ht : (pc : Int) + off = (tgt : Int)) (k1 : Bk X fin cc nL own rt fr lo val kc cs ad σ (pc + 3) lv st f1) (k2 : Bk X fin cc nL own rt fr lo val kc cs ad σ tgt lv st f2) : Bk X fin cc nL own rt fr lo val kc cs ad σ pc lv (.int y :: .int x :: st) (if x = y then f1 else f2) := by
  intro res σ' h p e s m args below meth c B H locs ls hH hS hl
  refine lv_icmp_ne B.1 B.2.1 hd ht (fun hc => k2 res σ' (by rw [if_neg hc] at h; exact h) p e s m args below meth c B H locs ls hH hS hl) (fun hc => k1 res σ' (by rw [if_pos hc] at h; exact h) p e s m args below meth c B H locs ls hH hS hl)
theorem r_if_lt {x : Int32} {off : Int} (tgt : Nat) (hd : decode cc pc = .ok (.ifCond .lt off, 3)) (ht : (pc : Int) + off = (tgt : Int)) (k1 : Bk X fin cc nL own rt fr lo val kc cs ad σ tgt lv st f1) (k2 : Bk X fin cc nL own rt fr lo val kc cs ad σ (pc + 3) lv st f2) : Bk X fin cc nL own rt fr lo val kc cs ad σ pc lv (.int x :: st) (if x < 0 then f1 else f2) := by
  intro res σ' h p e s m args below meth c B H locs ls hH hS hl
  refine lv_if_lt B.1 B.2.1 hd ht (fun hc => k1 res σ' (by rw [if_pos hc] at h; exact h) p e s m args below meth c B H locs ls hH hS hl) (fun hc => k2 res σ' (by rw [if_neg hc] at h; exact h) p e s m args below meth c B H locs ls hH hS hl)
theorem r_icmp_lt {x y : Int32} {off : Int} (tgt : Nat) (hd : decode cc pc = .ok (.if_icmp .lt off, 3)) (ht : (pc : Int) + off = (tgt : Int)) (k1 : Bk X fin cc nL own rt fr lo val kc cs ad σ tgt lv st f1) (k2 : Bk X fin cc nL own rt fr lo val kc cs ad σ (pc + 3) lv st f2) : Bk X fin cc nL own rt fr lo val kc cs ad σ pc lv (.int y :: .int x :: st) (if x < y then f1 else f2) := by
  intro res σ' h p e s m args below meth c B H locs ls hH hS hl
  refine lv_icmp_lt B.1 B.2.1 hd ht (fun hc => k1 res σ' (by rw [if_pos hc] at h; exact h) p e s m args below meth c B H locs ls hH hS hl) (fun hc => k2 res σ' (by rw [if_neg hc] at h; exact h) p e s m args below meth c B H locs ls hH hS hl)
theorem r_if_ge {x : Int32} {off : Int} (tgt : Nat) (hd : decode cc pc = .ok (.ifCond .ge off, 3)) (ht : (pc : Int) + off = (tgt : Int)) (k1 : Bk X fin cc nL own rt fr lo val kc cs ad σ tgt lv st f1) (k2 : Bk X fin cc nL own rt fr lo val kc cs ad σ (pc + 3) lv st f2) : Bk X fin cc nL own rt fr lo val kc cs ad σ pc lv (.int x :: st) (if 0 ≤ x then f1 else f2) := by
  intro res σ' h p e s m args below meth c B H locs ls hH hS hl
  refine lv_if_ge B.1 B.2.1 hd ht (fun hc => k1 res σ' (by rw [if_pos hc] at h; exact h) p e s m args below meth c B H locs ls hH hS hl) (fun hc => k2 res σ' (by rw [if_neg hc] at h; exact h) p e s m args below meth c B H locs ls hH hS hl)
theorem r_icmp_ge {x y : Int32} {off : Int} (tgt : Nat) (hd : decode cc pc = .ok (.if_icmp .ge off, 3)) (ht : (pc : Int) + off = (tgt : Int)) (k1 : Bk X fin cc nL own rt fr lo val kc cs ad σ tgt lv st f1) (k2 : Bk X fin cc nL own rt fr lo val kc cs ad σ (pc + 3) lv st f2) : Bk X fin cc nL own rt fr lo val kc cs ad σ pc lv (.int y :: .int x :: st) (if y ≤ x then f1 else f2) := by
  intro res σ' h p e s m args below meth c B H locs ls hH hS hl
  refine lv_icmp_ge B.1 B.2.1 hd ht (fun hc => k1 res σ' (by rw [if_pos hc] at h; exact h) p e s m args below meth c B H locs ls hH hS hl) (fun hc => k2 res σ' (by rw [if_neg hc] at h; exact h) p e s m args below meth c B H locs ls hH hS hl)
theorem r_if_gt {x : Int32} {off : Int} (tgt : Nat) (hd : decode cc pc = .ok (.ifCond .gt off, 3)) (ht : (pc : Int) + off = (tgt : Int)) (k1 : Bk X fin cc nL own rt fr lo val kc cs ad σ tgt lv st f1) (k2 : Bk X fin cc nL own rt fr lo val kc cs ad σ (pc + 3) lv st f2) : Bk X fin cc nL own rt fr lo val kc cs ad σ pc lv (.int x :: st) (if 0 < x then f1 else f2) := by
  intro res σ' h p e s m args below meth c B H locs ls hH hS hl
  refine lv_if_gt B.1 B.2.1 hd ht (fun hc => k1 res σ' (by rw [if_pos hc] at h; exact h) p e s m args below meth c B H locs ls hH hS hl) (fun hc => k2 res σ' (by rw [if_neg hc] at h; exact h) p e s m args below meth c B H locs ls hH hS hl)
theorem r_icmp_gt {x y : Int32} {off : Int} (tgt : Nat) (hd : decode cc pc = .ok (.if_icmp .gt off, 3)) (ht : (pc : Int) + off = (tgt : Int)) (k1 : Bk X fin cc nL own rt fr lo val kc cs ad σ tgt lv st f1) (k2 : Bk X fin cc nL own rt fr lo val kc cs ad σ (pc + 3) lv st f2) : Bk X fin cc nL own rt fr lo val kc cs ad σ pc lv (.int y :: .int x :: st) (if y < x then f1 else f2) := by
  intro res σ' h p e s m args below meth c B H locs ls hH hS hl
  refine lv_icmp_gt B.1 B.2.1 hd ht (fun hc => k1 res σ' (by rw [if_pos hc] at h; exact h) p e s m args below meth c B H locs ls hH hS hl) (fun hc => k2 res σ' (by rw [if_neg hc] at h; exact h) p e s m args below meth c B H locs ls hH hS hl)
theorem r_if_le {x : Int32} {off : Int} (tgt : Nat) (hd : decode cc pc = .ok (.ifCond .le off, 3)) (ht : (pc : Int) + off = (tgt : Int)) (k1 : Bk X fin cc nL own rt fr lo val kc cs ad σ tgt lv st f1) (k2 : Bk X fin cc nL own rt fr lo val kc cs ad σ (pc + 3) lv st f2) : Bk X fin cc nL own rt fr lo val kc cs ad σ pc lv (.int x :: st) (if x ≤ 0 then f1 else f2) := by
  intro res σ' h p e s m args below meth c B H locs ls hH hS hl
  refine lv_if_le B.1 B.2.1 hd ht (fun hc => k1 res σ' (by rw [if_pos hc] at h; exact h) p e s m args below meth c B H locs ls hH hS hl) (fun hc => k2 res σ' (by rw [if_neg hc] at h; exact h) p e s m args below meth c B H locs ls hH hS hl)
theorem r_icmp_le {x y : Int32} {off : Int} (tgt : Nat) (hd : decode cc pc = .ok (.if_icmp .le off, 3)) (ht : (pc : Int) + off = (tgt : Int)) (k1 : Bk X fin cc nL own rt fr lo val kc cs ad σ tgt lv st f1) (k2 : Bk X fin cc nL own rt fr lo val kc cs ad σ (pc + 3) lv st f2) : Bk X fin cc nL own rt fr lo val kc cs ad σ pc lv (.int y :: .int x :: st) (if x ≤ y then f1 else f2) := by
  intro res σ' h p e s m args below meth c B H locs ls hH hS hl
  refine lv_icmp_le B.1 B.2.1 hd ht (fun hc => k1 res σ' (by rw [if_pos hc] at h; exact h) p e s m args below meth c B H locs ls hH hS hl) (fun hc => k2 res σ' (by rw [if_neg hc] at h; exact h) p e s m args below meth c B H locs ls hH hS hl)
theorem r_ifnull {x : Nat} {off : Int} (hd : decode cc pc = .ok (.ifnull off, 3)) (k : Bk X fin cc nL own rt fr lo val kc cs ad σ (pc + 3) lv st f) : Bk X fin cc nL own rt fr lo val kc cs ad σ pc lv (.ref x :: st) f :=
  fun res σ' h p e s m args below meth c B H locs ls hH hS hl => lv_ifnull B.1 B.2.1 hd (k res σ' h p e s m args below meth c B H locs ls hH hS hl)
theorem r_ifnullN {off : Int} (tgt : Nat) (hd : decode cc pc = .ok (.ifnull off, 3)) (ht : (pc : Int) + off = (tgt : Int)) (k : Bk X fin cc nL own rt fr lo val kc cs ad σ tgt lv st f) : Bk X fin cc nL own rt fr lo val kc cs ad σ pc lv (.null :: st) f :=
  fun res σ' h p e s m args below meth c B H locs ls hH hS hl => lv_ifnullN B.1 B.2.1 hd ht (k res σ' h p e s m args below meth c B H locs ls hH hS hl)
theorem r_ifnonnull {x : Nat} {off : Int} (tgt : Nat) (hd : decode cc pc = .ok (.ifnonnull off, 3)) (ht : (pc : Int) + off = (tgt : Int)) (k : Bk X fin cc nL own rt fr lo val kc cs ad σ tgt lv st f) : Bk X fin cc nL own rt fr lo val kc cs ad σ pc lv (.ref x :: st) f :=
  fun res σ' h p e s m args below meth c B H locs ls hH hS hl => lv_ifnonnull B.1 B.2.1 hd ht (k res σ' h p e s m args below meth c B H locs ls hH hS hl)
theorem r_ifnonnullN {off : Int} (hd : decode cc pc = .ok (.ifnonnull off, 3)) (k : Bk X fin cc nL own rt fr lo val kc cs ad σ (pc + 3) lv st f) : Bk X fin cc nL own rt fr lo val kc cs ad σ pc lv (.null :: st) f :=
  fun res σ' h p e s m args below meth c B H locs ls hH hS hl => lv_ifnonnullN B.1 B.2.1 hd (k res σ' h p e s m args below meth c B H locs ls hH hS hl)
/-! fields and rows -/
theorem r_getf {t i ci index N : Nat} {C : String} {T : u_T} {fs : List Value} {v : Value} (k : Nat) (hl : lvp σ t i) (hc : cellv X ad σ t i = .inr (ci, fs)) (hci : vwCl[ci]? = some (C, T, N)) (hkN : k < N) (hin : ∀ w ∈ u_ws C T N, w ∈ G_) (hlink : Cond.fieldLink own index (T k).1 (T k).2.1 (T k).2.2.1 ∈ G_) (hv : fs[k]? = some v) (hd : decode cc pc = .ok (.getfield index, 3)) (kk : Bk X fin cc nL own rt fr lo val kc cs ad σ (pc + 3) lv (v :: st) f) : Bk X fin cc nL own rt fr lo val kc cs ad σ pc lv (.ref (ad t i) :: st) f := by
  intro res σ' h p e s m args below meth c B H locs ls hH hS hl9
  have hP : va_P X.2.1 vwCl [(ad t i, .inr (ci, fs))] H := va_P1 (by rw [← hc]; exact (hH.1 t i hl).1)
  exact va_get B.1 B.2.1 (Ts := G_) B.2.2.2.2.1 hin B.2.2.2.1 B.2.2.2.2.2.2.2.2.1 hP 0 rfl hci k hkN (B.2.2.2.2.1 _ hlink) (fun _ z => z) hv hd (kk res σ' h p e s m args below meth c B H locs ls hH hS hl9)
theorem r_putf {t i ci index N : Nat} {C : String} {T : u_T} {fs : List Value} {v : Int32} (k : Nat) (ty : Nat → FieldType) (hty : ∀ k, k < N → parseFieldDescriptor (T k).2.2.1 = some (ty k)) (hnm : ∀ a, a < N → ∀ b, b < N → a ≠ b → (T a).2.1 ≠ (T b).2.1) (hl : lvp σ t i) (hc : cellv X ad σ t i = .inr (ci, fs)) (hc1 : cellv X ad (wr σ t i k v) t i = .inr (ci, fs.set k (.int v))) (hci : vwCl[ci]? = some (C, T, N)) (hkN : k < N) (hkf : k < fs.length) (hin : ∀ w ∈ u_ws C T N, w ∈ G_) (hlink : Cond.fieldLink own index (T k).1 (T k).2.1 (T k).2.2.1 ∈ G_) (hfin : (T k).2.2.2 = false) (hn : narrow (ty k) (.int v) = .int v) (hfit : fits (ty k) (.int v) = true) (hd : decode cc pc = .ok (.putfield index, 3)) (kk : Bk X fin cc nL own rt fr lo val kc cs ad (wr σ t i k v) (pc + 3) lv st f) : Bk X fin cc nL own rt fr lo val kc cs ad σ pc lv (.int v :: .ref (ad t i) :: st) f := by
  intro res σ' h p e s m args below meth c B H locs ls hH hS hl9
  have hts := B.2.2.2.2.1
  have hK := B.2.2.2.2.2.2.2.2.1
  have hat : va_at X.2.1 vwCl (ad t i, .inr (ci, fs)) H := by rw [← hc]; exact (hH.1 t i hl).1
  have hap := va_apart (own := own) hts hin ty hty hnm hK hci
  obtain ⟨r, h1, cell, q1, q2, q3, q4⟩ := hat
  have hr : r = (C, T, N) := Option.some.inj (h1.symm.trans hci)
  subst hr
  obtain ⟨hS2, hfc, kC, hkC, hkind⟩ := hK.1 ci _ hci
  obtain ⟨cf, kf, fi, fl, hi, hsl⟩ := hS2 k hkN
  have hlay := hts _ (hin _ (u_in_lay hkN))
  unfold u_lay at hlay
  rw [if_neg (by rw [hfin]; decide)] at hlay
  have hst := (u_facts hfc hkC (u_lays hts hin hkN) hi).1
  have h6 := u_store hfc hkC hkind hlay hi (hty k hkN) hn hfit
  refine W.putK B.1 B.2.1 (f := fl) ⟨B.2.2.2.1, hts _ hlink, ⟨_, _, _, hi⟩, hst⟩ (by rw [q2]; exact h6) q1 q3 (by rw [hsl]; exact k2_hasslot (q4 k hkN)) rfl rfl hd fun H' e1 e2 e3 => ?_
  rw [hsl] at e1 ⊢
  exact kk res σ' h p e s m args below meth c B H' _ ls (hH.wr hl (e := .inr (ci, fs.set k (.int v))) ⟨_, hci, t_OB.to (V := updV (vp_V fs) k (.int v)) ⟨_, e1, q2, q3, t_set q4 hap hkN (.int v)⟩ (fun j _ => vp_updV_set hkf (.int v) j)⟩ e3 hc1) (hS.put e2 e3 (hH.1 t i hl).2) hl9
theorem r_iaload {t i n : Nat} {j : Int32} {F : Nat → Int32} (hl : lvp σ t i) (hc : cellv X ad σ t i = .inl (X.2.2.1 0, n, .inl F)) (hin : inb j n) (hd : decode cc pc = .ok (.iaload, 1)) (kk : Bk X fin cc nL own rt fr lo val kc cs ad σ (pc + 1) lv (.int (F j.toNatClampNeg) :: st) f) : Bk X fin cc nL own rt fr lo val kc cs ad σ pc lv (.int j :: .ref (ad t i) :: st) f := by
  intro res σ' h p e s m args below meth c B H locs ls hH hS hl9
  have hP : va_P X.2.1 vwCl [(ad t i, .inl (X.2.2.1 0, n, .inl F))] H := va_P1 (by rw [← hc]; exact (hH.1 t i hl).1)
  exact va_iald B.1 B.2.1 B.2.2.2.2.2.2.2.2.1 hP 0 0 rfl rfl (inb_vp hin) hd (kk res σ' h p e s m args below meth c B H locs ls hH hS hl9)
theorem r_aaload {t i n a : Nat} {C : String} {j : Int32} {F : Nat → Option Nat} (r : Nat) (hl : lvp σ t i) (hc : cellv X ad σ t i = .inl (X.2.2.1 a, n, .inr (.inr (.inr (.inr F))))) (ha : (tysX X)[a]? = some (X.2.2.1 a, .object C)) (hin : inb j n) (hF : F j.toNatClampNeg = some r) (hd : decode cc pc = .ok (.aaload, 1)) (kk : Bk X fin cc nL own rt fr lo val kc cs ad σ (pc + 1) lv (.ref r :: st) f) : Bk X fin cc nL own rt fr lo val kc cs ad σ pc lv (.int j :: .ref (ad t i) :: st) f := by
  intro res σ' h p e s m args below meth c B H locs ls hH hS hl9
  have hP : va_P X.2.1 vwCl [(ad t i, .inl (X.2.2.1 a, n, .inr (.inr (.inr (.inr F)))))] H := va_P1 (by rw [← hc]; exact (hH.1 t i hl).1)
  refine va_aldq B.1 B.2.1 B.2.2.2.2.2.2.2.2.1 hP 0 a rfl ha (inb_vp hin) hd ?_
  rw [hF]
  exact kk res σ' h p e s m args below meth c B H locs ls hH hS hl9
theorem r_alen {t i a : Nat} {x : vp_A} {ty : FieldType} (v : Int32) (hl : lvp σ t i) (hc : cellv X ad σ t i = .inl (X.2.2.1 a, x)) (ha : (tysX X)[a]? = some (X.2.2.1 a, ty)) (hv : Int32.ofNat x.1 = v) (hd : decode cc pc = .ok (.arraylength, 1)) (kk : Bk X fin cc nL own rt fr lo val kc cs ad σ (pc + 1) lv (.int v :: st) f) : Bk X fin cc nL own rt fr lo val kc cs ad σ pc lv (.ref (ad t i) :: st) f := by
  intro res σ' h p e s m args below meth c B H locs ls hH hS hl9
  have hP : va_P X.2.1 vwCl [(ad t i, .inl (X.2.2.1 a, x))] H := va_P1 (by rw [← hc]; exact (hH.1 t i hl).1)
  exact va_alen B.1 B.2.1 B.2.2.2.2.2.2.2.2.1 hP 0 a rfl ha hv hd (kk res σ' h p e s m args below meth c B H locs ls hH hS hl9)
theorem r_iastore {t i n : Nat} {j v : Int32} (hl : lvp σ t i) (hc : ∀ τ : Wd, cellv X ad τ t i = .inl (X.2.2.1 0, n, .inl (τ.1 t i))) (hin : inb j n) (hd : decode cc pc = .ok (.iastore, 1)) (kk : Bk X fin cc nL own rt fr lo val kc cs ad (wr σ t i j.toNatClampNeg v) (pc + 1) lv st f) : Bk X fin cc nL own rt fr lo val kc cs ad σ pc lv (.int v :: .int j :: .ref (ad t i) :: st) f := by
  intro res σ' h p e s m args below meth c B H locs ls hH hS hl9
  have hP : va_at X.2.1 vwCl (ad t i, .inl (X.2.2.1 0, n, .inl (σ.1 t i))) H := by rw [← hc σ]; exact (hH.1 t i hl).1
  refine W.iast B.1 B.2.1 hP ((B.2.2.2.2.2.2.2.2.1.2 0 (X.2.2.1 0, .int) rfl).1 n (fun j => .int (σ.1 t i j))) (fun q => by cases q) (by show ¬ (j < 0 ∨ (arrV _ _ _).slots.size ≤ _); rw [arrV_size]; exact inb_vp hin) rfl rfl hd fun H1 e1 z oq => ?_
  refine kk res σ' h p e s m args below meth c B H1 _ ls (hH.wr hl (e := .inl (X.2.2.1 0, n, .inl (upd (σ.1 t i) j.toNatClampNeg v))) ?_ oq (by rw [hc, wr_upd])) (hS.put z oq (hH.1 t i hl).2) hl9
  show H1[ad t i]? = some (vp_cell _ _)
  rw [e1]
  rw [vp_cell_i, vp_cell_i, arrV_store]
  congr 2
  funext q
  by_cases hq : q = j.toNatClampNeg
  · subst hq
    simp [updV, upd]
  · simp [updV, upd, hq]
/-! ends -/
theorem r_iret {v : Int32} {a : α} (hval : val a = some (.int v)) (hrt : rt = some .int) (hfin : fin ad) (hd : decode cc pc = .ok (.ireturn, 1)) : Bk X fin cc nL own rt fr lo val kc kc ad σ pc lv [.int v] (some (.inl a, σ)) := by
  intro res σ' h p e s m args below meth c B H locs ls hH hS hl9
  cases h
  exact vx_ret (W.iret B.1 B.2.1 (B.2.2.2.2.2.1.trans hrt) (fun t ht hW => ⟨⟨a, rfl, by rw [hval], ad, hfin, by rw [ht]; exact hH⟩, hS.F ht⟩) hS.2.2 hd B.2.2.2.2.2.2.1)
theorem r_zret {v : Int32} {a : α} (hval : val a = some (.int v)) (hrt : rt = some .boolean) (hn : narrow .boolean (.int v) = .int v) (hfin : fin ad) (hd : decode cc pc = .ok (.ireturn, 1)) : Bk X fin cc nL own rt fr lo val kc kc ad σ pc lv [.int v] (some (.inl a, σ)) := by
  intro res σ' h p e s m args below meth c B H locs ls hH hS hl9
  cases h
  exact vx_ret (W.zret B.1 B.2.1 (B.2.2.2.2.2.1.trans hrt) hn (fun t ht hW => ⟨⟨a, rfl, by rw [hval], ad, hfin, by rw [ht]; exact hH⟩, hS.F ht⟩) hS.2.2 hd B.2.2.2.2.2.2.1)
theorem r_vret {a : α} (hval : val a = none) (hrt : rt = none) (hfin : fin ad) (hd : decode cc pc = .ok (.return_, 1)) : Bk X fin cc nL own rt fr lo val kc kc ad σ pc lv [] (some (.inl a, σ)) := by
  intro res σ' h p e s m args below meth c B H locs ls hH hS hl9
  cases h
  exact vx_ret (W.vret B.1 B.2.1 (B.2.2.2.2.2.1.trans hrt) (fun t ht hW => ⟨⟨a, rfl, by rw [hval], ad, hfin, by rw [ht]; exact hH⟩, hS.F ht⟩) hS.2.2 hd B.2.2.2.2.2.2.1)
theorem r_aret {v : Nat} {a : α} {n : String} (hval : val a = some (.ref v)) (hrt : rt = some (.object n)) (hfin : fin ad) (hd : decode cc pc = .ok (.areturn, 1)) : Bk X fin cc nL own rt fr lo val kc kc ad σ pc lv [.ref v] (some (.inl a, σ)) := by
  intro res σ' h p e s m args below meth c B H locs ls hH hS hl9
  cases h
  exact vx_ret (W.aret B.1 B.2.1 (B.2.2.2.2.2.1.trans hrt) (Or.inl ⟨n, rfl⟩) (Or.inr ⟨v, rfl⟩) (fun t ht hW => ⟨⟨a, rfl, by rw [hval], ad, hfin, by rw [ht]; exact hH⟩, hS.F ht⟩) hS.2.2 hd B.2.2.2.2.2.2.1)
end RBK
