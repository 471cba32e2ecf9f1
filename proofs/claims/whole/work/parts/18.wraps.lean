theorem w_623 : Cond.codeWith yL_unit cL_unit 5 (some .int) [(0, 10, 13, 13), (0, 10, 17, 15), (0, 10, 21, 17)] ∈ G_ := gt2 220 (by decide +kernel) (by decide +kernel)
theorem w_624 : Cond.methodLink RL 7 yX9_unit ∈ G_ := gt2 224 (by decide +kernel) (by decide +kernel)
theorem w_625 : Cond.instanceMethod yX9_unit ∈ G_ := gt2 225 (by decide +kernel) (by decide +kernel)
theorem w_626 : Cond.selects RX9 yX9_unit yX9_unit ∈ G_ := gt2 226 (by decide +kernel) (by decide +kernel)
theorem w_627 : Cond.code yX9_unit cX9_unit 5 (some (.int)) ∈ G_ := gt2 227 (by decide +kernel) (by decide +kernel)
theorem w_628 : Cond.classLink RL 13 "java/lang/IndexOutOfBoundsException" ∈ G_ := gt2 221 (by decide +kernel) (by decide +kernel)
theorem w_629 : Cond.castable "java/lang/IndexOutOfBoundsException" "java/lang/IndexOutOfBoundsException" ∈ NW_ := nt2 3 (by decide +kernel) (by decide +kernel)
theorem w_630 : Cond.classLink RL 15 "java/lang/IllegalArgumentException" ∈ G_ := gt2 222 (by decide +kernel) (by decide +kernel)
theorem w_631 : Cond.castable "java/lang/IllegalArgumentException" "java/lang/IllegalArgumentException" ∈ NW_ := nt2 239 (by decide +kernel) (by decide +kernel)
theorem w_632 : Cond.classLink RL 17 "java/lang/IllegalStateException" ∈ G_ := gt2 223 (by decide +kernel) (by decide +kernel)
theorem w_633 : Cond.castable "java/lang/IllegalStateException" "java/lang/IllegalStateException" ∈ NW_ := nt3 15 (by decide +kernel) (by decide +kernel)
theorem w_634 : Cond.codeWith yL_diagram cL_diagram 8 (some .int) [(0, 16, 19, 13), (0, 16, 23, 15), (0, 16, 27, 17)] ∈ G_ := gt3 129 (by decide +kernel) (by decide +kernel)
theorem w_635 : Cond.methodLink RL 19 yX9_diagram ∈ G_ := gt3 130 (by decide +kernel) (by decide +kernel)
theorem w_636 : Cond.instanceMethod yX9_diagram ∈ G_ := gt3 131 (by decide +kernel) (by decide +kernel)
theorem w_637 : Cond.selects RX9 yX9_diagram yX9_diagram ∈ G_ := gt3 132 (by decide +kernel) (by decide +kernel)
theorem w_638 : Cond.code yX9_diagram cX9_diagram 7 (some (.int)) ∈ G_ := gt3 133 (by decide +kernel) (by decide +kernel)
theorem w_639 : Cond.codeWith yL_exam cL_exam 7 (some .int) [(0, 14, 17, 13), (0, 14, 21, 15)] ∈ G_ := gt3 172 (by decide +kernel) (by decide +kernel)
theorem w_640 : Cond.methodLink RL 23 yX9_exam ∈ G_ := gt3 173 (by decide +kernel) (by decide +kernel)
theorem w_641 : Cond.instanceMethod yX9_exam ∈ G_ := gt3 174 (by decide +kernel) (by decide +kernel)
theorem w_642 : Cond.selects RX9 yX9_exam yX9_exam ∈ G_ := gt3 175 (by decide +kernel) (by decide +kernel)
theorem w_643 : Cond.code yX9_exam cX9_exam 6 (some (.int)) ∈ G_ := gt3 176 (by decide +kernel) (by decide +kernel)
theorem w_644 : Cond.codeWith yL_list cL_list 6 (some .int) [(0, 12, 15, 13), (0, 12, 19, 15)] ∈ G_ := gt3 182 (by decide +kernel) (by decide +kernel)
theorem w_645 : Cond.methodLink RL 27 yX9_list ∈ G_ := gt3 183 (by decide +kernel) (by decide +kernel)
theorem w_646 : Cond.instanceMethod yX9_list ∈ G_ := gt3 184 (by decide +kernel) (by decide +kernel)
theorem w_647 : Cond.selects RX9 yX9_list yX9_list ∈ G_ := gt3 185 (by decide +kernel) (by decide +kernel)
theorem w_648 : Cond.code yX9_list cX9_list 6 (some (.int)) ∈ G_ := gt3 186 (by decide +kernel) (by decide +kernel)
theorem w_649 : Cond.codeWith yL_fault cL_fault 7 (some .int) [(0, 14, 17, 13), (0, 14, 21, 15), (0, 14, 25, 17)] ∈ G_ := gt3 190 (by decide +kernel) (by decide +kernel)
theorem w_650 : Cond.methodLink RL 31 yX9_fault ∈ G_ := gt3 191 (by decide +kernel) (by decide +kernel)
theorem w_651 : Cond.instanceMethod yX9_fault ∈ G_ := gt3 192 (by decide +kernel) (by decide +kernel)
theorem w_652 : Cond.selects RX9 yX9_fault yX9_fault ∈ G_ := gt3 193 (by decide +kernel) (by decide +kernel)
theorem w_653 : Cond.code yX9_fault cX9_fault 8 (some (.int)) ∈ G_ := gt3 194 (by decide +kernel) (by decide +kernel)
theorem w_654 : Cond.codeWith yL_pin cL_pin 5 (some .int) [(0, 10, 13, 13)] ∈ G_ := gt3 226 (by decide +kernel) (by decide +kernel)
theorem w_655 : Cond.methodLink RL 34 yX9_pin ∈ G_ := gt3 227 (by decide +kernel) (by decide +kernel)
theorem w_656 : Cond.instanceMethod yX9_pin ∈ G_ := gt3 228 (by decide +kernel) (by decide +kernel)
theorem w_657 : Cond.selects RX9 yX9_pin yX9_pin ∈ G_ := gt3 229 (by decide +kernel) (by decide +kernel)
theorem w_658 : Cond.code yX9_pin cX9_pin 5 (some (.int)) ∈ G_ := gt3 230 (by decide +kernel) (by decide +kernel)
theorem w_659 : Cond.codeWith yL_whyNot cL_whyNot 5 (some .int) [(0, 10, 13, 13)] ∈ G_ := gt3 233 (by decide +kernel) (by decide +kernel)
theorem w_660 : Cond.methodLink RL 37 yX9_whyNot ∈ G_ := gt3 234 (by decide +kernel) (by decide +kernel)
theorem w_661 : Cond.instanceMethod yX9_whyNot ∈ G_ := gt3 235 (by decide +kernel) (by decide +kernel)
theorem w_662 : Cond.selects RX9 yX9_whyNot yX9_whyNot ∈ G_ := gt3 236 (by decide +kernel) (by decide +kernel)
theorem w_663 : Cond.code yX9_whyNot cX9_whyNot 3 (some (.int)) ∈ G_ := gt3 237 (by decide +kernel) (by decide +kernel)
theorem w_664 : Cond.codeWith yL_allocation cL_allocation 4 (some .int) [(0, 9, 12, 13)] ∈ G_ := gt4 0 (by decide +kernel) (by decide +kernel)
theorem w_665 : Cond.methodLink RL 40 yX9_allocation ∈ G_ := gt4 1 (by decide +kernel) (by decide +kernel)
theorem w_666 : Cond.instanceMethod yX9_allocation ∈ G_ := gt4 2 (by decide +kernel) (by decide +kernel)
theorem w_667 : Cond.selects RX9 yX9_allocation yX9_allocation ∈ G_ := gt4 3 (by decide +kernel) (by decide +kernel)
theorem w_668 : Cond.code yX9_allocation cX9_allocation 2 (some (.int)) ∈ G_ := gt4 4 (by decide +kernel) (by decide +kernel)
theorem w_669 : Cond.codeWith yL_allocationAnew cL_allocationAnew 4 (some .int) [(0, 9, 12, 13), (0, 9, 15, 17)] ∈ G_ := gt4 11 (by decide +kernel) (by decide +kernel)
theorem w_670 : Cond.methodLink RL 44 yX9_allocationAnew ∈ G_ := gt4 12 (by decide +kernel) (by decide +kernel)
theorem w_671 : Cond.instanceMethod yX9_allocationAnew ∈ G_ := gt4 13 (by decide +kernel) (by decide +kernel)
theorem w_672 : Cond.selects RX9 yX9_allocationAnew yX9_allocationAnew ∈ G_ := gt4 14 (by decide +kernel) (by decide +kernel)
theorem w_673 : Cond.code yX9_allocationAnew cX9_allocationAnew 2 (some (.int)) ∈ G_ := gt4 15 (by decide +kernel) (by decide +kernel)
theorem w_674 : Cond.codeWith yL_day cL_day 3 (some .int) [(0, 8, 11, 17)] ∈ G_ := gt4 49 (by decide +kernel) (by decide +kernel)
theorem w_675 : Cond.methodLink RL 47 yX9_day ∈ G_ := gt4 50 (by decide +kernel) (by decide +kernel)
theorem w_676 : Cond.instanceMethod yX9_day ∈ G_ := gt4 51 (by decide +kernel) (by decide +kernel)
theorem w_677 : Cond.selects RX9 yX9_day yX9_day ∈ G_ := gt4 52 (by decide +kernel) (by decide +kernel)
theorem w_678 : Cond.code yX9_day cX9_day 2 (some (.int)) ∈ G_ := gt4 53 (by decide +kernel) (by decide +kernel)
theorem w_679 : Cond.codeWith yL_examine cL_examine 5 (some .int) [(0, 10, 13, 13), (0, 10, 17, 17)] ∈ G_ := gt4 88 (by decide +kernel) (by decide +kernel)
theorem w_680 : Cond.methodLink RL 51 yX9_examine ∈ G_ := gt4 89 (by decide +kernel) (by decide +kernel)
theorem w_681 : Cond.instanceMethod yX9_examine ∈ G_ := gt4 90 (by decide +kernel) (by decide +kernel)
theorem w_682 : Cond.selects RX9 yX9_examine yX9_examine ∈ G_ := gt4 91 (by decide +kernel) (by decide +kernel)
theorem w_683 : Cond.code yX9_examine cX9_examine 4 (some (.int)) ∈ G_ := gt4 92 (by decide +kernel) (by decide +kernel)
theorem w_684 : Cond.codeWith yL_lathe cL_lathe 4 (some .int) [(0, 9, 12, 13), (0, 9, 15, 17)] ∈ G_ := gt4 100 (by decide +kernel) (by decide +kernel)
theorem w_685 : Cond.methodLink RL 54 yX9_lathe ∈ G_ := gt4 101 (by decide +kernel) (by decide +kernel)
theorem w_686 : Cond.instanceMethod yX9_lathe ∈ G_ := gt4 102 (by decide +kernel) (by decide +kernel)
theorem w_687 : Cond.selects RX9 yX9_lathe yX9_lathe ∈ G_ := gt4 103 (by decide +kernel) (by decide +kernel)
theorem w_688 : Cond.code yX9_lathe cX9_lathe 3 (some (.int)) ∈ G_ := gt4 104 (by decide +kernel) (by decide +kernel)
theorem w_689 : Cond.codeWith yL_mend cL_mend 5 (some .int) [(0, 10, 13, 13), (0, 10, 17, 17)] ∈ G_ := gt4 134 (by decide +kernel) (by decide +kernel)
theorem w_690 : Cond.methodLink RL 57 yX9_mend ∈ G_ := gt4 135 (by decide +kernel) (by decide +kernel)
theorem w_691 : Cond.instanceMethod yX9_mend ∈ G_ := gt4 136 (by decide +kernel) (by decide +kernel)
theorem w_692 : Cond.selects RX9 yX9_mend yX9_mend ∈ G_ := gt4 137 (by decide +kernel) (by decide +kernel)
theorem w_693 : Cond.code yX9_mend cX9_mend 5 (some (.int)) ∈ G_ := gt4 138 (by decide +kernel) (by decide +kernel)
theorem w_694 : Cond.codeWith yL_about cL_about 5 (some .int) [(0, 10, 13, 13), (0, 10, 17, 15)] ∈ G_ := gt4 144 (by decide +kernel) (by decide +kernel)
theorem w_695 : Cond.methodLink RL 60 yX9_about ∈ G_ := gt4 145 (by decide +kernel) (by decide +kernel)
theorem w_696 : Cond.instanceMethod yX9_about ∈ G_ := gt4 146 (by decide +kernel) (by decide +kernel)
theorem w_697 : Cond.selects RX9 yX9_about yX9_about ∈ G_ := gt4 147 (by decide +kernel) (by decide +kernel)
theorem w_698 : Cond.code yX9_about cX9_about 4 (some (.int)) ∈ G_ := gt4 148 (by decide +kernel) (by decide +kernel)
theorem w_699 : Cond.codeWith yL_clock cL_clock 6 (some .int) [(0, 12, 15, 13)] ∈ G_ := gt4 156 (by decide +kernel) (by decide +kernel)
theorem w_700 : Cond.methodLink RL 63 yX9_clock ∈ G_ := gt4 157 (by decide +kernel) (by decide +kernel)
theorem w_701 : Cond.instanceMethod yX9_clock ∈ G_ := gt4 158 (by decide +kernel) (by decide +kernel)
theorem w_702 : Cond.selects RX9 yX9_clock yX9_clock ∈ G_ := gt4 159 (by decide +kernel) (by decide +kernel)
theorem w_703 : Cond.code yX9_clock cX9_clock 5 (some (.int)) ∈ G_ := gt4 160 (by decide +kernel) (by decide +kernel)
theorem w_704 : Cond.codeWith yL_axle cL_axle 5 (some .int) [(0, 10, 13, 13)] ∈ G_ := gt4 165 (by decide +kernel) (by decide +kernel)
theorem w_705 : Cond.methodLink RL 67 yX9_axle ∈ G_ := gt4 166 (by decide +kernel) (by decide +kernel)
theorem w_706 : Cond.instanceMethod yX9_axle ∈ G_ := gt4 167 (by decide +kernel) (by decide +kernel)
theorem w_707 : Cond.selects RX9 yX9_axle yX9_axle ∈ G_ := gt4 168 (by decide +kernel) (by decide +kernel)
theorem w_708 : Cond.code yX9_axle cX9_axle 4 (some (.int)) ∈ G_ := gt4 169 (by decide +kernel) (by decide +kernel)
theorem w_709 : Cond.codeWith yL_faultAt cL_faultAt 6 (some .int) [(0, 12, 15, 13), (0, 12, 19, 15)] ∈ G_ := gt4 173 (by decide +kernel) (by decide +kernel)
theorem w_710 : Cond.methodLink RL 70 yX9_faultAt ∈ G_ := gt4 174 (by decide +kernel) (by decide +kernel)
theorem w_711 : Cond.instanceMethod yX9_faultAt ∈ G_ := gt4 175 (by decide +kernel) (by decide +kernel)
theorem w_712 : Cond.selects RX9 yX9_faultAt yX9_faultAt ∈ G_ := gt4 176 (by decide +kernel) (by decide +kernel)
theorem w_713 : Cond.code yX9_faultAt cX9_faultAt 5 (some (.int)) ∈ G_ := gt4 177 (by decide +kernel) (by decide +kernel)
theorem w_714 : Cond.codeWith yL_stands cL_stands 5 (some .int) [(0, 10, 13, 13)] ∈ G_ := gt4 181 (by decide +kernel) (by decide +kernel)
theorem w_715 : Cond.methodLink RL 73 yX9_stands ∈ G_ := gt4 182 (by decide +kernel) (by decide +kernel)
theorem w_716 : Cond.instanceMethod yX9_stands ∈ G_ := gt4 183 (by decide +kernel) (by decide +kernel)
theorem w_717 : Cond.selects RX9 yX9_stands yX9_stands ∈ G_ := gt4 184 (by decide +kernel) (by decide +kernel)
theorem w_718 : Cond.code yX9_stands cX9_stands 4 (some (.int)) ∈ G_ := gt4 185 (by decide +kernel) (by decide +kernel)
theorem w_719 : Cond.codeWith yL_ran cL_ran 5 (some .int) [(0, 10, 13, 13), (0, 10, 17, 15)] ∈ G_ := gt4 193 (by decide +kernel) (by decide +kernel)
theorem w_720 : Cond.methodLink RL 76 yX9_ran ∈ G_ := gt4 194 (by decide +kernel) (by decide +kernel)
theorem w_721 : Cond.instanceMethod yX9_ran ∈ G_ := gt4 195 (by decide +kernel) (by decide +kernel)
theorem w_722 : Cond.selects RX9 yX9_ran yX9_ran ∈ G_ := gt4 196 (by decide +kernel) (by decide +kernel)
theorem w_723 : Cond.code yX9_ran cX9_ran 3 (some (.int)) ∈ G_ := gt4 197 (by decide +kernel) (by decide +kernel)
theorem w_724 : Cond.codeWith yL_kmAnew cL_kmAnew 4 (some .int) [(0, 9, 12, 13)] ∈ G_ := gt4 204 (by decide +kernel) (by decide +kernel)
theorem w_725 : Cond.methodLink RL 79 yX9_kmAnew ∈ G_ := gt4 205 (by decide +kernel) (by decide +kernel)
theorem w_726 : Cond.instanceMethod yX9_kmAnew ∈ G_ := gt4 206 (by decide +kernel) (by decide +kernel)
theorem w_727 : Cond.selects RX9 yX9_kmAnew yX9_kmAnew ∈ G_ := gt4 207 (by decide +kernel) (by decide +kernel)
theorem w_728 : Cond.code yX9_kmAnew cX9_kmAnew 4 (some (.int)) ∈ G_ := gt4 208 (by decide +kernel) (by decide +kernel)
/-! the law's own methods that catch -/
def nc3 : List (String × String) := [("java/lang/IllegalArgumentException", "java/lang/IndexOutOfBoundsException"), ("java/lang/IllegalStateException", "java/lang/IndexOutOfBoundsException"), ("java/lang/IllegalStateException", "java/lang/IllegalArgumentException")]
def NcS (s : State) : Prop := ∀ q ∈ nc3, va_Nc q.1 q.2 s
def rowOf (h : ExceptionTableEntry) : Nat × Nat × Nat × Nat := (h.startPc, h.endPc, h.handlerPc, h.catchType)
def PnL (X : Xt) (ad : Ad) (σ : Wd) (avs : List Value) : Array Value → State → Prop := fun v U => v = avs.toArray ∧ SW X ad σ U ∧ NcS U
theorem PnL.blind {X : Xt} {ad : Ad} {σ : Wd} {avs : List Value} : FrameBlind (PnL X ad σ avs) := fun a U g mk h => ⟨h.1, h.2.1.calling g mk a, fun q hq => va_Nc.moved (u := U) (U := U.calling g mk a) (Vm.Alike.refl U.vm) (h.2.2 q hq)⟩
def WN (X : Xt) (y : MethodName) (cc : ByteArray) (nL : Nat) (hh : List (Nat × Nat × Nat × Nat)) (fr lo : Nat) (kc : Nat × Nat) (ad : Ad) (σ : Wd) (avs : List Value) (r : Int32) (σ' : Wd) : Prop :=
  vx_Met X.1 y (Cond.codeWith y cc nL (some .int) hh :: G_) { frames := fr, cells := kc.1, slots := kc.2, locals := lo } (PnL X ad σ avs) (Qn X (Fx ad) vI (.inl r : Int32 ⊕ String) σ') (Qx X (Fx ad) (.inl r : Int32 ⊕ String) σ') kc.1 kc.2 (Az X)
def BodH (X : Xt) (cc : ByteArray) (nL : Nat) (hh : List (Nat × Nat × Nat × Nat)) (p : Program) (s : State) (m : MethodId) (args : Array Value) (meth : Method) (c : Code) : Prop :=
  p.tables.exec = Jvm.exec ∧ c.code = cc ∧ c.maxLocals = nL ∧ s.vm.findClass RL = some m.cls ∧ (∀ w ∈ G_, w.before args s = true) ∧ meth.sig.returnType = some .int ∧ meth.locks = false ∧ c.exceptionTable.toList.map rowOf = hh ∧ va_K X.2.1 vwCl (tysX X) s ∧ SF X s ∧ X.1.stackTraces = false ∧ NcS s
def Bh (X : Xt) (cc : ByteArray) (nL : Nat) (hh : List (Nat × Nat × Nat × Nat)) (fr lo : Nat) (kc cs : Nat × Nat) (ad0 ad : Ad) (σ : Wd) (pc : Nat) (lv : List (Nat × Value)) (st : List Value) (r : Int32) (σ' : Wd) : Prop :=
  ∀ p e s m args below meth c, BodH X cc nL hh p s m args meth c → ∀ H locs ls, HW X ad σ H → va_S (Az X) s.heap H locs → lv_has ls nL lv →
    W p X.1 e { frames := fr, cells := kc.1, slots := kc.2, locals := lo } s m args below meth c H locs cs.1 cs.2 (vx_MQ below (Qn X (Fx ad0) vI (.inl r : Int32 ⊕ String) σ') (Qx X (Fx ad0) (.inl r : Int32 ⊕ String) σ') args s kc.1 kc.2 (Az X)) (F0 m pc ls st)
theorem WN.intro {X : Xt} {y : MethodName} {cc : ByteArray} {nL : Nat} {hh : List (Nat × Nat × Nat × Nat)} {fr lo : Nat} {kc : Nat × Nat} {ad : Ad} {σ : Wd} {avs : List Value} {r : Int32} {σ' : Wd} (ho : y.cls = RL) (hst : X.1.stackTraces = false) (hlen : (lg_sl avs).length ≤ nL) {lv : List (Nat × Value)} (hlv : lv_args 0 avs = lv)
    (k : Bh X cc nL hh fr lo kc (0, 0) ad ad σ 0 lv [] r σ') : WN X y cc nL hh fr lo kc ad σ avs r σ' := by
  refine vx_ofWH (cc := cc) (maxL := nL) (ret := some .int) (hh := hh) (by rw [ho]; decide) rfl ?_
  intro p e s m args below meth c s₁ B hml hv
  obtain ⟨rfl, ⟨hHW, hK, hSF⟩, hNc⟩ := hv
  have hts0 := atoms_spec (ws := Cond.codeWith y cc nL (some .int) hh :: G_) B.pre
  have htab : c.exceptionTable.toList.map rowOf = hh := by
    obtain ⟨m9, meth9, c9, h0, h1, h2, -, -, h5, -, -, -⟩ := Cond.codeWith_spec (hts0 _ List.mem_cons_self)
    cases Option.some.inj (h0.symm.trans B.named)
    cases Option.some.inj (h1.symm.trans B.method)
    cases Option.some.inj (h2.symm.trans (Stand.of_body B).code)
    exact h5
  have hown : s.vm.findClass RL = some m.cls := by rw [← ho]; exact findClass_of_methodNamed B.named
  have hB : BodH X cc nL hh p s m avs.toArray meth c := ⟨B.exec, B.bytes, hml, hown, fun w hw => hts0 w (List.mem_cons_of_mem _ hw), B.returns, B.notSynchronized, htab, hK, hSF, hst, hNc⟩
  rw [lg_entry_eq]
  exact k p e s m _ below meth c hB s.heap [] _ hHW va_S.rf (hlv ▸ lv_entry avs hlen)
section HBK
variable {X : Xt} {cc : ByteArray} {nL : Nat} {hh : List (Nat × Nat × Nat × Nat)} {fr lo : Nat} {kc cs : Nat × Nat} {ad0 ad : Ad} {σ : Wd} {pc : Nat} {lv : List (Nat × Value)} {st : List Value} {r : Int32} {σ' : Wd}
theorem h_iconst {n : Int} (v : Int32) (hv : Int32.ofInt n = v) (hd : decode cc pc = .ok (.iconst n, 1)) (k : Bh X cc nL hh fr lo kc cs ad0 ad σ (pc + 1) lv (.int v :: st) r σ') : Bh X cc nL hh fr lo kc cs ad0 ad σ pc lv st r σ' :=
  fun p e s m args below meth c B H locs ls hH hS hl => lv_iconst B.1 B.2.1 hd hv (k p e s m args below meth c B H locs ls hH hS hl)
theorem h_iload_n {j : Fin 4} {x : Int32} (q : Nat) (hq : lv[q]? = some ((j : Nat), .int x)) (hd : decode cc pc = .ok (.iload_n j, 1)) (k : Bh X cc nL hh fr lo kc cs ad0 ad σ (pc + 1) lv (.int x :: st) r σ') : Bh X cc nL hh fr lo kc cs ad0 ad σ pc lv st r σ' :=
  fun p e s m args below meth c B H locs ls hH hS hl => lv_iload_n B.1 B.2.1 hd rfl (lv_at hl q hq) (k p e s m args below meth c B H locs ls hH hS hl)
theorem h_iload {j : Nat} {x : Int32} (q : Nat) (hq : lv[q]? = some (j, .int x)) (hd : decode cc pc = .ok (.iload j, 2)) (k : Bh X cc nL hh fr lo kc cs ad0 ad σ (pc + 2) lv (.int x :: st) r σ') : Bh X cc nL hh fr lo kc cs ad0 ad σ pc lv st r σ' :=
  fun p e s m args below meth c B H locs ls hH hS hl => lv_iload B.1 B.2.1 hd (lv_at hl q hq) (k p e s m args below meth c B H locs ls hH hS hl)
theorem h_aload_n {j : Fin 4} {x : Nat} (q : Nat) (hq : lv[q]? = some ((j : Nat), .ref x)) (hd : decode cc pc = .ok (.aload_n j, 1)) (k : Bh X cc nL hh fr lo kc cs ad0 ad σ (pc + 1) lv (.ref x :: st) r σ') : Bh X cc nL hh fr lo kc cs ad0 ad σ pc lv st r σ' :=
  fun p e s m args below meth c B H locs ls hH hS hl => lv_aload_n B.1 B.2.1 hd rfl (lv_at hl q hq) (k p e s m args below meth c B H locs ls hH hS hl)
theorem h_aload {j : Nat} {x : Nat} (q : Nat) (hq : lv[q]? = some (j, .ref x)) (hd : decode cc pc = .ok (.aload j, 2)) (k : Bh X cc nL hh fr lo kc cs ad0 ad σ (pc + 2) lv (.ref x :: st) r σ') : Bh X cc nL hh fr lo kc cs ad0 ad σ pc lv st r σ' :=
  fun p e s m args below meth c B H locs ls hH hS hl => lv_aload B.1 B.2.1 hd (lv_at hl q hq) (k p e s m args below meth c B H locs ls hH hS hl)
theorem h_fin {j : Int32} {H : Heap} {locs : List Loc} {ls : Array Slot} {p : Program} {e : Env} {s : State} {m : MethodId} {args : Array Value} {below : List Frame} {meth : Method} {c : Code} (B : BodH X cc nL hh p s m args meth c) (hfx : Fx ad0 ad) (hH : HW X ad σ H) (hS : va_S (Az X) s.heap H locs) (hd : decode cc pc = .ok (.ireturn, 1)) : W p X.1 e { frames := fr, cells := kc.1, slots := kc.2, locals := lo } s m args below meth c H locs kc.1 kc.2 (vx_MQ below (Qn X (Fx ad0) vI (.inl j : Int32 ⊕ String) σ) (Qx X (Fx ad0) (.inl j : Int32 ⊕ String) σ) args s kc.1 kc.2 (Az X)) (F0 m pc ls [.int j]) :=
  vx_ret (W.iret B.1 B.2.1 B.2.2.2.2.2.1 (fun t ht hW => ⟨⟨j, rfl, rfl, ad, hfx, by rw [ht]; exact hH⟩, hS.F ht⟩) hS.2.2 hd B.2.2.2.2.2.2.1)
theorem h_done {v : Int32} {off : Int} {tgt : Nat} (hfx : Fx ad0 ad) (d1 : decode cc pc = .ok (.i2l, 1)) (d2 : decode cc (pc + 1) = .ok (.lastore, 1)) (d3 : decode cc (pc + 2) = .ok (.goto off, 3)) (ht : ((pc + 2 : Nat) : Int) + off = (tgt : Int)) (d4 : decode cc tgt = .ok (.iconst 0, 1)) (d5 : decode cc (tgt + 1) = .ok (.ireturn, 1)) : Bh X cc nL hh fr lo kc kc ad0 ad σ pc lv [.int v, .int 0, .ref (ad 70 0)] 0 (wr σ 70 0 0 v) := by
  intro p e s m args below meth c B H locs ls hH hS hl
  refine lv_i2l B.1 B.2.1 d1 (v := v.toInt64) rfl ?_
  have hl70 : lvp σ 70 0 := lvs_70 _
  have hP : va_at X.2.1 vwCl (ad 70 0, .inl (X.2.2.1 6, 1, .inr (.inl (fun j => (σ.1 70 0 j).toInt64)))) H := by rw [← cell_70]; exact (hH.1 70 0 hl70).1
  refine W.last (j := 0) (x := v.toInt64) (rest := []) B.1 B.2.1 hP ((B.2.2.2.2.2.2.2.2.1.2 6 (X.2.2.1 6, .long) rfl).1 1 (fun j => .long (σ.1 70 0 j).toInt64)) (fun q => by cases q) (by show ¬ ((0 : Int32) < 0 ∨ (arrV _ _ _).slots.size ≤ _); rw [arrV_size]; show ¬ ((0 : Int32) < 0 ∨ 1 ≤ (0 : Int32).toNatClampNeg); decide) rfl rfl d2 fun H1 e1 z oq => ?_
  refine lv_goto (pc := pc + 2) (rest := []) B.1 B.2.1 d3 ht (lv_iconst B.1 B.2.1 d4 rfl (h_fin B hfx (hH.wr hl70 (e := .inl (X.2.2.1 6, 1, .inr (.inl (fun j => ((wr σ 70 0 0 v).1 70 0 j).toInt64)))) ?_ oq (cell_70 _ _ _ _)) (hS.put z oq (hH.1 70 0 hl70).2) d5))
  show H1[ad 70 0]? = some (vp_cell _ _)
  rw [e1]
  rw [vp_cell_l, vp_cell_l, arrV_store]
  congr 2
  funext q
  by_cases hq : q = 0
  · subst hq
    simp [updV, wr]
  · simp [updV, wr, hq]
theorem h_caught {q j : Nat} {k : Int} (v : Int32) (hv : Int32.ofInt k = v) (hfx : Fx ad0 ad) (hj : j < nL) (d1 : decode cc pc = .ok (.astore j, 2)) (d2 : decode cc (pc + 2) = .ok (.iconst k, 1)) (d3 : decode cc (pc + 3) = .ok (.ireturn, 1)) : Bh X cc nL hh fr lo kc kc ad0 ad σ pc lv [.ref q] v σ := by
  intro p e s m args below meth c B H locs ls hH hS hl
  exact lv_astore B.1 B.2.1 d1 hl hj rfl (fun ls' hl2 => lv_iconst B.1 B.2.1 d2 hv (h_fin B hfx hH hS d3))
theorem h_caught_n {q : Nat} {j : Fin 4} {k : Int} (v : Int32) (hv : Int32.ofInt k = v) (hfx : Fx ad0 ad) (hj : (j : Nat) < nL) (d1 : decode cc pc = .ok (.astore_n j, 1)) (d2 : decode cc (pc + 1) = .ok (.iconst k, 1)) (d3 : decode cc (pc + 2) = .ok (.ireturn, 1)) : Bh X cc nL hh fr lo kc kc ad0 ad σ pc lv [.ref q] v σ := by
  intro p e s m args below meth c B H locs ls hH hS hl
  exact lv_astore_n B.1 B.2.1 d1 rfl hl hj rfl (fun ls' hl2 => lv_iconst B.1 B.2.1 d2 hv (h_fin B hfx hH hS d3))
/-- where an exception of the class E is taken -/
def Taken (hh : List (Nat × Nat × Nat × Nat)) (pc : Nat) (E : String) (h : Nat) : Prop := ∃ (j a b ct : Nat) (nm : String), hh[j]? = some (a, b, h, ct) ∧ a ≤ pc ∧ pc < b ∧ ct ≠ 0 ∧ Cond.classLink RL ct nm ∈ G_ ∧ Cond.castable E nm ∈ NW_ ∧ ∀ i, i < j → ∃ (a' b' h' ct' : Nat) (nm' : String), hh[i]? = some (a', b', h', ct') ∧ ct' ≠ 0 ∧ Cond.classLink RL ct' nm' ∈ G_ ∧ (E, nm') ∈ nc3
theorem h_take {p : Program} {e : Env} {s : State} {m : MethodId} {args : Array Value} {below : List Frame} {meth : Method} {c : Code} {R : Room} {H : Heap} {locs : List Loc} {c1 c2 : Nat} {Q : State → Prop} {ls : Array Slot} {E : String} {h q : Nat} {ce : Cell} (B : BodH X cc nL hh p s m args meth c) (ht : Taken hh pc E h) (hcell : H[q]? = some ce) (hv : ce.vm = .none) (hcl : s.vm.findClass E = some ce.cls)
    (kk : W p X.1 e R s m args below meth c H locs c1 c2 Q (F0 m h ls [.ref q])) : vx_W p X.1 e R s m args below meth c H locs c1 c2 Q (F0 m pc ls st) q := by
  obtain ⟨j, a, b, ct, nm, g1, g2, g3, g4, g5, g6, g7⟩ := ht
  have hts := B.2.2.2.2.1
  have hmap := B.2.2.2.2.2.2.2.1
  have hSF := B.2.2.2.2.2.2.2.2.2.1
  have hNc := B.2.2.2.2.2.2.2.2.2.2.2
  have hx : ∃ x, c.exceptionTable.toList[j]? = some x ∧ rowOf x = (a, b, h, ct) := by
    rw [← hmap, List.getElem?_map] at g1
    cases hz : c.exceptionTable.toList[j]? with
    | none => rw [hz] at g1; cases g1
    | some x => rw [hz] at g1; exact ⟨x, rfl, Option.some.inj g1⟩
  obtain ⟨x, hx1, hx2⟩ := hx
  have hxa : x.startPc = a := congrArg (fun z => z.1) hx2
  have hxb : x.endPc = b := congrArg (fun z => z.2.1) hx2
  have hxh : x.handlerPc = h := congrArg (fun z => z.2.2.1) hx2
  have hxc : x.catchType = ct := congrArg (fun z => z.2.2.2) hx2
  have hjl := (List.getElem?_eq_some_iff.mp hx1).1
  have hsplit : c.exceptionTable.toList = c.exceptionTable.toList.take j ++ x :: c.exceptionTable.toList.drop (j + 1) := by
    have e1 := (List.getElem?_eq_some_iff.mp hx1).2
    have e3 := List.drop_eq_getElem_cons hjl
    rw [e1] at e3
    rw [← e3, List.take_append_drop]
  refine vx_catch (name := nm) B.2.2.2.1 _ x _ hsplit (fun z hz => ?_) (by simp [covers, hxa, hxb, g2, g3]) (by rw [hxc]; exact g4) (by rw [hxc]; exact hts _ g5) (nw_at hSF g6) hcell hv hcl (by rw [hxh]; exact kk)
  obtain ⟨i, hi⟩ := List.getElem?_of_mem hz
  have hil := (List.getElem?_eq_some_iff.mp hi).1
  rw [List.length_take] at hil
  have hij : i < j := Nat.lt_of_lt_of_le hil (Nat.min_le_left _ _)
  rw [List.getElem?_take_of_lt hij] at hi
  obtain ⟨a', b', h', ct', nm', k1, k2, k3, k4⟩ := g7 i hij
  rw [← hmap, List.getElem?_map, hi] at k1
  have hzc : z.catchType = ct' := congrArg (fun z => z.2.2.2) (Option.some.inj k1)
  exact Or.inr ⟨by rw [hzc]; exact k2, nm', by rw [hzc]; exact hts _ k3, hNc _ k4⟩
theorem h_callV {y : MethodName} {bytes : ByteArray} {maxL fr' lo' n index : Nat} {kc' : Nat × Nat} {fin' : Ad → Prop} {g : Option ((Int32 ⊕ String) × Wd)} {res1 : Int32 ⊕ String} {σ1 : Wd} {As stack : List Value} (hres : g = some (res1, σ1)) (nc : NC X fin' y bytes maxL (some .int) fr' lo' vI kc' ad σ (.ref (ad 0 0) :: As) g) (hfin' : ∀ ad', fin' ad' → Fx ad ad')
    (hy : y.cls = RX9 ∧ y.cls ≠ "java/lang/invoke/MethodHandle" ∧ y.cls ≠ "java/lang/invoke/VarHandle" ∧ (parseMethodDescriptor y.desc).map (fun d => d.parameters.length) = some n)
    (w1 : Cond.methodLink RL index y ∈ G_) (w2 : Cond.instanceMethod y ∈ G_) (w3 : Cond.selects y.cls y y ∈ G_) (w4 : Cond.initialized y.cls ∈ G_) (w5 : Cond.code y bytes maxL (some .int) ∈ G_)
    (hn : As.length = n) (hst : stack = As.reverse ++ .ref (ad 0 0) :: [.int 0, .ref (ad 70 0)]) (hroom : fr' + 1 ≤ fr ∧ 8 + (maxL + 11) + lo' ≤ lo) (hkc : kc'.1 ≤ kc.1 ∧ kc'.2 ≤ kc.2 ∧ 1 ≤ kc.1 ∧ 6 ≤ kc.2) (hd : decode cc pc = .ok (.invokevirtual index, 3))
    (k1 : ∀ v, res1 = .inl v → ∀ ad', Fx ad ad' → Bh X cc nL hh fr lo kc kc ad ad' σ1 (pc + 3) lv [.int v, .int 0, .ref (ad' 70 0)] r σ')
    (k2 : ∀ E, res1 = .inr E → ∃ h, Taken hh pc E h ∧ ∀ ad' q, Fx ad ad' → Bh X cc nL hh fr lo kc kc ad ad' σ1 h lv [.ref q] r σ') : Bh X cc nL hh fr lo kc (0, 0) ad ad σ pc lv stack r σ' := by
  intro p e s m args below meth c B H locs ls hH hS hl9
  have hat : va_at X.2.1 vwCl (ad 0 0, .inr (10, [.ref (ad 1 0), .ref (ad 1 1), .ref (ad 4 0), .ref (ad 7 0), .ref (ad 12 0), .ref (ad 19 0), .int (σ.1 0 0 6), .int (σ.1 0 0 7), .int (σ.1 0 0 8), .int (σ.1 0 0 9)])) H := by rw [← cell_0]; exact (hH.1 0 0 (lvs_0 _)).1
  have hts := B.2.2.2.2.1
  have hK := B.2.2.2.2.2.2.2.2.1
  have hSF := B.2.2.2.2.2.2.2.2.2.1
  have hG : GoodIn G_ (wsV RL index y.cls y (Cond.code y bytes maxL (some .int) :: G_)) := fun w hw => by
    have h1 : w ∈ G_ := by
      simp only [wsV, List.cons_append, List.nil_append, List.mem_cons] at hw
      rcases hw with rfl | rfl | rfl | rfl | rfl | h
      · exact w1
      · exact w2
      · exact w3
      · exact w4
      · exact w5
      · exact h
    exact ⟨h1, good_of_word (G_good w h1)⟩
  have hxc : xc kc' res1 ≤ kc.1 ∧ xs kc' res1 ≤ kc.2 := by
    cases res1 with
    | inl v => exact ⟨hkc.1, hkc.2.1⟩
    | inr E => exact ⟨hkc.2.2.1, hkc.2.2.2⟩
  have hrun := vx_runV (R := { frames := fr, cells := kc.1, slots := kc.2, locals := lo }) (e := e) (below := below) (meth := meth) (locs := locs) (cells := 0) (slots := 0) (g := F0 m pc ls stack) (rest := [.int 0, .ref (ad 70 0)]) ⟨B.1, B.2.1, B.2.2.1, B.2.2.2.1, hts⟩ (nc res1 σ1 hres) (C := y.cls) (cwV n hts hG rfl rfl rfl ⟨rfl, hy.2⟩ hroom) (H := H) (b := ad 0 0) (As := As) ⟨Pn.blind, (by
      have hr := va_recv (q := (RX9, TX9, 10)) (q0 := 0) hK (va_P1 hat) rfl rfl
      rw [hy.1]
      exact hr), fun U hU hW => ⟨rfl, by rw [hU]; exact hH, va_K.moved hW.alike hK, hSF.warm hW (by rw [hU]; exact hS.2.1)⟩⟩ rfl hn hl9.1 hst (lv_room (Nat.le_of_ble_eq_true rfl)) hd ⟨by rw [Nat.zero_add]; exact hxc.1, by rw [Nat.zero_add]; exact hxc.2⟩
  intro T hT Y
  rcases hrun T hT Y with ⟨v0, st0, t, T', L, h0, Y', hL, e1, e2, ⟨⟨v', hv1, hv2, ad', hf', hsw⟩, hF⟩, hgo⟩ | ⟨q, st0, t, T', L, E', ce, h0, Y', hL, e1, e2, ⟨⟨hx, ad', hf', hsw⟩, hF⟩, hce, hcv, hcl, hst2⟩
  · cases hv2
    obtain ⟨q1, q2, q3⟩ := vx_keep h0 e1 hS (fun _ _ z => z) (fun _ z => z) hL hF
    have hfx := hfin' ad' hf'
    have kx := k1 v' hv1 ad' hfx
    rw [hfx 70 0 (Or.inr (by decide))] at kx
    obtain ⟨t2, a1, b1⟩ := kx p e s m args below meth c B T'.heap (locs ++ L) ls (by rw [e1]; exact hsw) q3 hl9 T' rfl (stand_widen Y' (by rw [Nat.zero_add]; exact hxc.1) (by rw [Nat.zero_add]; exact hxc.2))
    exact ⟨t2, hgo t2 a1, b1⟩
  · obtain ⟨q1, q2, q3⟩ := vx_keep h0 e1 hS (fun _ _ z => z) (fun _ z => z) hL hF
    have hfx := hfin' ad' hf'
    obtain ⟨h, g1, g2⟩ := k2 E' hx
    have hout := h_take (R := { frames := fr, cells := kc.1, slots := kc.2, locals := lo }) (st := [.int 0, .ref (ad 70 0)]) (ls := ls) (locs := locs ++ L) (c1 := kc.1) (c2 := kc.2) B g1 (by rw [e1]; exact hce) hcv hcl (g2 ad' q hfx p e s m args below meth c B T'.heap (locs ++ L) ls (by rw [e1]; exact hsw) q3 hl9)
    obtain ⟨t2, a1, b1⟩ := hout T' rfl (stand_widen Y' (by rw [Nat.zero_add]; exact hxc.1) (by rw [Nat.zero_add]; exact hxc.2))
    exact ⟨t2, hst2.trans a1, b1⟩
end HBK
/-- what a method that catches answers -/
def wrapF (h1 h2 h3 : Option Int32) (g : Option ((Int32 ⊕ String) × Wd)) : Option (Int32 × Wd) := match g with
  | none => none
  | some (.inl v, σ1) => some (0, wr σ1 70 0 0 v)
  | some (.inr E, σ1) => if E = "java/lang/IndexOutOfBoundsException" then h1.map (fun k => (k, σ1)) else if E = "java/lang/IllegalArgumentException" then h2.map (fun k => (k, σ1)) else if E = "java/lang/IllegalStateException" then h3.map (fun k => (k, σ1)) else none
theorem wrapF_cases {h1 h2 h3 : Option Int32} {g : Option ((Int32 ⊕ String) × Wd)} {r : Int32} {σ' : Wd} (h : wrapF h1 h2 h3 g = some (r, σ')) : ∃ res1 σ1, g = some (res1, σ1) ∧ (∀ v, res1 = .inl v → r = 0 ∧ σ' = wr σ1 70 0 0 v) ∧ ∀ E, res1 = .inr E → σ' = σ1 ∧ ((E = "java/lang/IndexOutOfBoundsException" ∧ h1 = some r) ∨ (E = "java/lang/IllegalArgumentException" ∧ h2 = some r) ∨ (E = "java/lang/IllegalStateException" ∧ h3 = some r)) := by
  unfold wrapF at h
  match g, h with
  | some (.inl v, σ1), h =>
    cases h
    exact ⟨_, _, rfl, fun v' hv => by cases hv; exact ⟨rfl, rfl⟩, fun E hE => by cases hE⟩
  | some (.inr E, σ1), h =>
    refine ⟨_, _, rfl, fun v' hv => (by cases hv), fun E' hE => ?_⟩
    cases hE
    dsimp only at h
    by_cases e1 : E = "java/lang/IndexOutOfBoundsException"
    · rw [if_pos e1] at h
      obtain ⟨k, hk, hk2⟩ := Option.map_eq_some_iff.mp h
      cases hk2
      exact ⟨rfl, Or.inl ⟨e1, hk⟩⟩
    · rw [if_neg e1] at h
      by_cases e2 : E = "java/lang/IllegalArgumentException"
      · rw [if_pos e2] at h
        obtain ⟨k, hk, hk2⟩ := Option.map_eq_some_iff.mp h
        cases hk2
        exact ⟨rfl, Or.inr (Or.inl ⟨e2, hk⟩)⟩
      · rw [if_neg e2] at h
        by_cases e3 : E = "java/lang/IllegalStateException"
        · rw [if_pos e3] at h
          obtain ⟨k, hk, hk2⟩ := Option.map_eq_some_iff.mp h
          cases hk2
          exact ⟨rfl, Or.inr (Or.inr ⟨e3, hk⟩)⟩
        · rw [if_neg e3] at h
          cases h
def g_unit (σ : Wd) (p0 : Int32) (p1 : Int32) : Option (Int32 × Wd) := wrapF (some 1) (some 2) (some 3) (f_X9_unit σ p0 p1)
theorem wn_unit (X : Xt) (hst : X.1.stackTraces = false) (ad : Ad) (σ : Wd) (p0 : Int32) (p1 : Int32) (r : Int32) (σ' : Wd) (hg : g_unit σ p0 p1 = some (r, σ')) : WN X yL_unit cL_unit 5 [(0, 10, 13, 13), (0, 10, 17, 15), (0, 10, 21, 17)] 8 128 (6, 30) ad σ [.ref (ad 0 0), .int p0, .int p1, .ref (ad 70 0)] r σ' := by
  obtain ⟨res1, σ1, hg1, hok, hex⟩ := wrapF_cases hg
  refine WN.intro rfl hst (Nat.le_of_ble_eq_true rfl) (lv := [(0, .ref _), (1, .int _), (2, .int _), (3, .ref _)]) rfl ?_
  refine h_aload_n 3 rfl dL_unit_0 ?_
  refine h_iconst 0 (by decide) dL_unit_1 ?_
  refine h_aload_n 0 rfl dL_unit_2 ?_
  refine h_iload_n 1 rfl dL_unit_3 ?_
  refine h_iload_n 2 rfl dL_unit_4 ?_
  refine h_callV (n := 2) (As := [.int _, .int _]) (kc' := (6, 30)) hg1 (nc_X9_unit X hst ad _ _ _) (fun _ h => h) ⟨rfl, by decide, by decide, by decide +kernel⟩ w_624 w_625 w_626 w_325 w_627 rfl rfl ⟨by decide, by decide⟩ ⟨by decide, by decide, by decide, by decide⟩ dL_unit_5 (fun v hv ad' hfx => ?_) (fun E hE => ?_)
  · obtain ⟨rfl, rfl⟩ := hok v hv
    exact h_done (pc := 8) (off := 15) (tgt := 25) hfx dL_unit_8 dL_unit_9 dL_unit_10 (by decide) dL_unit_25 dL_unit_26
  · obtain ⟨rfl, hE2⟩ := hex E hE
    rcases hE2 with ⟨rfl, h9⟩ | ⟨rfl, h9⟩ | ⟨rfl, h9⟩
    · cases h9
      exact ⟨13, ⟨0, 0, 10, 13, "java/lang/IndexOutOfBoundsException", rfl, by decide, by decide, by decide, w_628, w_629, fun i hi => absurd hi (Nat.not_lt_zero _)⟩, fun ad' q hfx => h_caught (pc := 13) 1 (by decide) hfx (by decide) dL_unit_13 dL_unit_15 dL_unit_16⟩
    · cases h9
      exact ⟨17, ⟨1, 0, 10, 15, "java/lang/IllegalArgumentException", rfl, by decide, by decide, by decide, w_630, w_631, fun i hi => match i, hi with | 0, _ => ⟨0, 10, 13, 13, "java/lang/IndexOutOfBoundsException", rfl, by decide, w_628, by decide⟩⟩, fun ad' q hfx => h_caught (pc := 17) 2 (by decide) hfx (by decide) dL_unit_17 dL_unit_19 dL_unit_20⟩
    · cases h9
      exact ⟨21, ⟨2, 0, 10, 17, "java/lang/IllegalStateException", rfl, by decide, by decide, by decide, w_632, w_633, fun i hi => match i, hi with | 0, _ => ⟨0, 10, 13, 13, "java/lang/IndexOutOfBoundsException", rfl, by decide, w_628, by decide⟩ | 1, _ => ⟨0, 10, 17, 15, "java/lang/IllegalArgumentException", rfl, by decide, w_630, by decide⟩⟩, fun ad' q hfx => h_caught (pc := 21) 3 (by decide) hfx (by decide) dL_unit_21 dL_unit_23 dL_unit_24⟩
def g_diagram (σ : Wd) (p0 : Int32) (p1 : Int32) (p2 : Int32) (p3 : Int32) (p4 : Int32) : Option (Int32 × Wd) := wrapF (some 1) (some 2) (some 3) (f_X9_diagram σ p0 p1 p2 p3 p4)
theorem wn_diagram (X : Xt) (hst : X.1.stackTraces = false) (ad : Ad) (σ : Wd) (p0 : Int32) (p1 : Int32) (p2 : Int32) (p3 : Int32) (p4 : Int32) (r : Int32) (σ' : Wd) (hg : g_diagram σ p0 p1 p2 p3 p4 = some (r, σ')) : WN X yL_diagram cL_diagram 8 [(0, 16, 19, 13), (0, 16, 23, 15), (0, 16, 27, 17)] 8 130 (2, 16) ad σ [.ref (ad 0 0), .int p0, .int p1, .int p2, .int p3, .int p4, .ref (ad 70 0)] r σ' := by
  obtain ⟨res1, σ1, hg1, hok, hex⟩ := wrapF_cases hg
  refine WN.intro rfl hst (Nat.le_of_ble_eq_true rfl) (lv := [(0, .ref _), (1, .int _), (2, .int _), (3, .int _), (4, .int _), (5, .int _), (6, .ref _)]) rfl ?_
  refine h_aload 6 rfl dL_diagram_0 ?_
  refine h_iconst 0 (by decide) dL_diagram_2 ?_
  refine h_aload_n 0 rfl dL_diagram_3 ?_
  refine h_iload_n 1 rfl dL_diagram_4 ?_
  refine h_iload_n 2 rfl dL_diagram_5 ?_
  refine h_iload_n 3 rfl dL_diagram_6 ?_
  refine h_iload 4 rfl dL_diagram_7 ?_
  refine h_iload 5 rfl dL_diagram_9 ?_
  refine h_callV (n := 5) (As := [.int _, .int _, .int _, .int _, .int _]) (kc' := (2, 16)) hg1 (nc_X9_diagram X hst ad _ _ _ _ _ _) (fun _ h => h) ⟨rfl, by decide, by decide, by decide +kernel⟩ w_635 w_636 w_637 w_325 w_638 rfl rfl ⟨by decide, by decide⟩ ⟨by decide, by decide, by decide, by decide⟩ dL_diagram_11 (fun v hv ad' hfx => ?_) (fun E hE => ?_)
  · obtain ⟨rfl, rfl⟩ := hok v hv
    exact h_done (pc := 14) (off := 15) (tgt := 31) hfx dL_diagram_14 dL_diagram_15 dL_diagram_16 (by decide) dL_diagram_31 dL_diagram_32
  · obtain ⟨rfl, hE2⟩ := hex E hE
    rcases hE2 with ⟨rfl, h9⟩ | ⟨rfl, h9⟩ | ⟨rfl, h9⟩
    · cases h9
      exact ⟨19, ⟨0, 0, 16, 13, "java/lang/IndexOutOfBoundsException", rfl, by decide, by decide, by decide, w_628, w_629, fun i hi => absurd hi (Nat.not_lt_zero _)⟩, fun ad' q hfx => h_caught (pc := 19) 1 (by decide) hfx (by decide) dL_diagram_19 dL_diagram_21 dL_diagram_22⟩
    · cases h9
      exact ⟨23, ⟨1, 0, 16, 15, "java/lang/IllegalArgumentException", rfl, by decide, by decide, by decide, w_630, w_631, fun i hi => match i, hi with | 0, _ => ⟨0, 16, 19, 13, "java/lang/IndexOutOfBoundsException", rfl, by decide, w_628, by decide⟩⟩, fun ad' q hfx => h_caught (pc := 23) 2 (by decide) hfx (by decide) dL_diagram_23 dL_diagram_25 dL_diagram_26⟩
    · cases h9
      exact ⟨27, ⟨2, 0, 16, 17, "java/lang/IllegalStateException", rfl, by decide, by decide, by decide, w_632, w_633, fun i hi => match i, hi with | 0, _ => ⟨0, 16, 19, 13, "java/lang/IndexOutOfBoundsException", rfl, by decide, w_628, by decide⟩ | 1, _ => ⟨0, 16, 23, 15, "java/lang/IllegalArgumentException", rfl, by decide, w_630, by decide⟩⟩, fun ad' q hfx => h_caught (pc := 27) 3 (by decide) hfx (by decide) dL_diagram_27 dL_diagram_29 dL_diagram_30⟩
def g_exam (σ : Wd) (p0 : Int32) (p1 : Int32) (p2 : Int32) (p3 : Int32) : Option (Int32 × Wd) := wrapF (some 1) (some 2) none (f_X9_exam σ p0 p1 p2 p3)
theorem wn_exam (X : Xt) (hst : X.1.stackTraces = false) (ad : Ad) (σ : Wd) (p0 : Int32) (p1 : Int32) (p2 : Int32) (p3 : Int32) (r : Int32) (σ' : Wd) (hg : g_exam σ p0 p1 p2 p3 = some (r, σ')) : WN X yL_exam cL_exam 7 [(0, 14, 17, 13), (0, 14, 21, 15)] 8 129 (1, 6) ad σ [.ref (ad 0 0), .int p0, .int p1, .int p2, .int p3, .ref (ad 70 0)] r σ' := by
  obtain ⟨res1, σ1, hg1, hok, hex⟩ := wrapF_cases hg
  refine WN.intro rfl hst (Nat.le_of_ble_eq_true rfl) (lv := [(0, .ref _), (1, .int _), (2, .int _), (3, .int _), (4, .int _), (5, .ref _)]) rfl ?_
  refine h_aload 5 rfl dL_exam_0 ?_
  refine h_iconst 0 (by decide) dL_exam_2 ?_
  refine h_aload_n 0 rfl dL_exam_3 ?_
  refine h_iload_n 1 rfl dL_exam_4 ?_
  refine h_iload_n 2 rfl dL_exam_5 ?_
  refine h_iload_n 3 rfl dL_exam_6 ?_
  refine h_iload 4 rfl dL_exam_7 ?_
  refine h_callV (n := 4) (As := [.int _, .int _, .int _, .int _]) (kc' := (0, 0)) hg1 (nc_X9_exam X hst ad _ _ _ _ _) (fun _ h => h ▸ Fx.rf ad) ⟨rfl, by decide, by decide, by decide +kernel⟩ w_640 w_641 w_642 w_325 w_643 rfl rfl ⟨by decide, by decide⟩ ⟨by decide, by decide, by decide, by decide⟩ dL_exam_9 (fun v hv ad' hfx => ?_) (fun E hE => ?_)
  · obtain ⟨rfl, rfl⟩ := hok v hv
    exact h_done (pc := 12) (off := 11) (tgt := 25) hfx dL_exam_12 dL_exam_13 dL_exam_14 (by decide) dL_exam_25 dL_exam_26
  · obtain ⟨rfl, hE2⟩ := hex E hE
    rcases hE2 with ⟨rfl, h9⟩ | ⟨rfl, h9⟩ | ⟨rfl, h9⟩
    · cases h9
      exact ⟨17, ⟨0, 0, 14, 13, "java/lang/IndexOutOfBoundsException", rfl, by decide, by decide, by decide, w_628, w_629, fun i hi => absurd hi (Nat.not_lt_zero _)⟩, fun ad' q hfx => h_caught (pc := 17) 1 (by decide) hfx (by decide) dL_exam_17 dL_exam_19 dL_exam_20⟩
    · cases h9
      exact ⟨21, ⟨1, 0, 14, 15, "java/lang/IllegalArgumentException", rfl, by decide, by decide, by decide, w_630, w_631, fun i hi => match i, hi with | 0, _ => ⟨0, 14, 17, 13, "java/lang/IndexOutOfBoundsException", rfl, by decide, w_628, by decide⟩⟩, fun ad' q hfx => h_caught (pc := 21) 2 (by decide) hfx (by decide) dL_exam_21 dL_exam_23 dL_exam_24⟩
    · cases h9
def g_list (σ : Wd) (p0 : Int32) (p1 : Int32) (p2 : Int32) : Option (Int32 × Wd) := wrapF (some 1) (some 2) none (f_X9_list σ p0 p1 p2)
theorem wn_list (X : Xt) (hst : X.1.stackTraces = false) (ad : Ad) (σ : Wd) (p0 : Int32) (p1 : Int32) (p2 : Int32) (r : Int32) (σ' : Wd) (hg : g_list σ p0 p1 p2 = some (r, σ')) : WN X yL_list cL_list 6 [(0, 12, 15, 13), (0, 12, 19, 15)] 8 129 (1, 6) ad σ [.ref (ad 0 0), .int p0, .int p1, .int p2, .ref (ad 70 0)] r σ' := by
  obtain ⟨res1, σ1, hg1, hok, hex⟩ := wrapF_cases hg
  refine WN.intro rfl hst (Nat.le_of_ble_eq_true rfl) (lv := [(0, .ref _), (1, .int _), (2, .int _), (3, .int _), (4, .ref _)]) rfl ?_
  refine h_aload 4 rfl dL_list_0 ?_
  refine h_iconst 0 (by decide) dL_list_2 ?_
  refine h_aload_n 0 rfl dL_list_3 ?_
  refine h_iload_n 1 rfl dL_list_4 ?_
  refine h_iload_n 2 rfl dL_list_5 ?_
  refine h_iload_n 3 rfl dL_list_6 ?_
  refine h_callV (n := 3) (As := [.int _, .int _, .int _]) (kc' := (0, 0)) hg1 (nc_X9_list X hst ad _ _ _ _) (fun _ h => h ▸ Fx.rf ad) ⟨rfl, by decide, by decide, by decide +kernel⟩ w_645 w_646 w_647 w_325 w_648 rfl rfl ⟨by decide, by decide⟩ ⟨by decide, by decide, by decide, by decide⟩ dL_list_7 (fun v hv ad' hfx => ?_) (fun E hE => ?_)
  · obtain ⟨rfl, rfl⟩ := hok v hv
    exact h_done (pc := 10) (off := 11) (tgt := 23) hfx dL_list_10 dL_list_11 dL_list_12 (by decide) dL_list_23 dL_list_24
  · obtain ⟨rfl, hE2⟩ := hex E hE
    rcases hE2 with ⟨rfl, h9⟩ | ⟨rfl, h9⟩ | ⟨rfl, h9⟩
    · cases h9
      exact ⟨15, ⟨0, 0, 12, 13, "java/lang/IndexOutOfBoundsException", rfl, by decide, by decide, by decide, w_628, w_629, fun i hi => absurd hi (Nat.not_lt_zero _)⟩, fun ad' q hfx => h_caught (pc := 15) 1 (by decide) hfx (by decide) dL_list_15 dL_list_17 dL_list_18⟩
    · cases h9
      exact ⟨19, ⟨1, 0, 12, 15, "java/lang/IllegalArgumentException", rfl, by decide, by decide, by decide, w_630, w_631, fun i hi => match i, hi with | 0, _ => ⟨0, 12, 15, 13, "java/lang/IndexOutOfBoundsException", rfl, by decide, w_628, by decide⟩⟩, fun ad' q hfx => h_caught (pc := 19) 2 (by decide) hfx (by decide) dL_list_19 dL_list_21 dL_list_22⟩
    · cases h9
def g_fault (σ : Wd) (p0 : Int32) (p1 : Int32) (p2 : Int32) (p3 : Int32) : Option (Int32 × Wd) := wrapF (some 1) (some 2) (some 3) (f_X9_fault σ p0 p1 p2 p3)
theorem wn_fault (X : Xt) (hst : X.1.stackTraces = false) (ad : Ad) (σ : Wd) (p0 : Int32) (p1 : Int32) (p2 : Int32) (p3 : Int32) (r : Int32) (σ' : Wd) (hg : g_fault σ p0 p1 p2 p3 = some (r, σ')) : WN X yL_fault cL_fault 7 [(0, 14, 17, 13), (0, 14, 21, 15), (0, 14, 25, 17)] 8 131 (2, 14) ad σ [.ref (ad 0 0), .int p0, .int p1, .int p2, .int p3, .ref (ad 70 0)] r σ' := by
  obtain ⟨res1, σ1, hg1, hok, hex⟩ := wrapF_cases hg
  refine WN.intro rfl hst (Nat.le_of_ble_eq_true rfl) (lv := [(0, .ref _), (1, .int _), (2, .int _), (3, .int _), (4, .int _), (5, .ref _)]) rfl ?_
  refine h_aload 5 rfl dL_fault_0 ?_
  refine h_iconst 0 (by decide) dL_fault_2 ?_
  refine h_aload_n 0 rfl dL_fault_3 ?_
  refine h_iload_n 1 rfl dL_fault_4 ?_
  refine h_iload_n 2 rfl dL_fault_5 ?_
  refine h_iload_n 3 rfl dL_fault_6 ?_
  refine h_iload 4 rfl dL_fault_7 ?_
  refine h_callV (n := 4) (As := [.int _, .int _, .int _, .int _]) (kc' := (2, 14)) hg1 (nc_X9_fault X hst ad _ _ _ _ _) (fun _ h => h) ⟨rfl, by decide, by decide, by decide +kernel⟩ w_650 w_651 w_652 w_325 w_653 rfl rfl ⟨by decide, by decide⟩ ⟨by decide, by decide, by decide, by decide⟩ dL_fault_9 (fun v hv ad' hfx => ?_) (fun E hE => ?_)
  · obtain ⟨rfl, rfl⟩ := hok v hv
    exact h_done (pc := 12) (off := 15) (tgt := 29) hfx dL_fault_12 dL_fault_13 dL_fault_14 (by decide) dL_fault_29 dL_fault_30
  · obtain ⟨rfl, hE2⟩ := hex E hE
    rcases hE2 with ⟨rfl, h9⟩ | ⟨rfl, h9⟩ | ⟨rfl, h9⟩
    · cases h9
      exact ⟨17, ⟨0, 0, 14, 13, "java/lang/IndexOutOfBoundsException", rfl, by decide, by decide, by decide, w_628, w_629, fun i hi => absurd hi (Nat.not_lt_zero _)⟩, fun ad' q hfx => h_caught (pc := 17) 1 (by decide) hfx (by decide) dL_fault_17 dL_fault_19 dL_fault_20⟩
    · cases h9
      exact ⟨21, ⟨1, 0, 14, 15, "java/lang/IllegalArgumentException", rfl, by decide, by decide, by decide, w_630, w_631, fun i hi => match i, hi with | 0, _ => ⟨0, 14, 17, 13, "java/lang/IndexOutOfBoundsException", rfl, by decide, w_628, by decide⟩⟩, fun ad' q hfx => h_caught (pc := 21) 2 (by decide) hfx (by decide) dL_fault_21 dL_fault_23 dL_fault_24⟩
    · cases h9
      exact ⟨25, ⟨2, 0, 14, 17, "java/lang/IllegalStateException", rfl, by decide, by decide, by decide, w_632, w_633, fun i hi => match i, hi with | 0, _ => ⟨0, 14, 17, 13, "java/lang/IndexOutOfBoundsException", rfl, by decide, w_628, by decide⟩ | 1, _ => ⟨0, 14, 21, 15, "java/lang/IllegalArgumentException", rfl, by decide, w_630, by decide⟩⟩, fun ad' q hfx => h_caught (pc := 25) 3 (by decide) hfx (by decide) dL_fault_25 dL_fault_27 dL_fault_28⟩
def g_pin (σ : Wd) (p0 : Int32) (p1 : Int32) : Option (Int32 × Wd) := wrapF (some 1) none none (f_X9_pin σ p0 p1)
theorem wn_pin (X : Xt) (hst : X.1.stackTraces = false) (ad : Ad) (σ : Wd) (p0 : Int32) (p1 : Int32) (r : Int32) (σ' : Wd) (hg : g_pin σ p0 p1 = some (r, σ')) : WN X yL_pin cL_pin 5 [(0, 10, 13, 13)] 8 128 (1, 6) ad σ [.ref (ad 0 0), .int p0, .int p1, .ref (ad 70 0)] r σ' := by
  obtain ⟨res1, σ1, hg1, hok, hex⟩ := wrapF_cases hg
  refine WN.intro rfl hst (Nat.le_of_ble_eq_true rfl) (lv := [(0, .ref _), (1, .int _), (2, .int _), (3, .ref _)]) rfl ?_
  refine h_aload_n 3 rfl dL_pin_0 ?_
  refine h_iconst 0 (by decide) dL_pin_1 ?_
  refine h_aload_n 0 rfl dL_pin_2 ?_
  refine h_iload_n 1 rfl dL_pin_3 ?_
  refine h_iload_n 2 rfl dL_pin_4 ?_
  refine h_callV (n := 2) (As := [.int _, .int _]) (kc' := (0, 0)) hg1 (nc_X9_pin X hst ad _ _ _) (fun _ h => h ▸ Fx.rf ad) ⟨rfl, by decide, by decide, by decide +kernel⟩ w_655 w_656 w_657 w_325 w_658 rfl rfl ⟨by decide, by decide⟩ ⟨by decide, by decide, by decide, by decide⟩ dL_pin_5 (fun v hv ad' hfx => ?_) (fun E hE => ?_)
  · obtain ⟨rfl, rfl⟩ := hok v hv
    exact h_done (pc := 8) (off := 7) (tgt := 17) hfx dL_pin_8 dL_pin_9 dL_pin_10 (by decide) dL_pin_17 dL_pin_18
  · obtain ⟨rfl, hE2⟩ := hex E hE
    rcases hE2 with ⟨rfl, h9⟩ | ⟨rfl, h9⟩ | ⟨rfl, h9⟩
    · cases h9
      exact ⟨13, ⟨0, 0, 10, 13, "java/lang/IndexOutOfBoundsException", rfl, by decide, by decide, by decide, w_628, w_629, fun i hi => absurd hi (Nat.not_lt_zero _)⟩, fun ad' q hfx => h_caught (pc := 13) 1 (by decide) hfx (by decide) dL_pin_13 dL_pin_15 dL_pin_16⟩
    · cases h9
    · cases h9
def g_whyNot (σ : Wd) (p0 : Int32) (p1 : Int32) : Option (Int32 × Wd) := wrapF (some 1) none none (f_X9_whyNot σ p0 p1)
theorem wn_whyNot (X : Xt) (hst : X.1.stackTraces = false) (ad : Ad) (σ : Wd) (p0 : Int32) (p1 : Int32) (r : Int32) (σ' : Wd) (hg : g_whyNot σ p0 p1 = some (r, σ')) : WN X yL_whyNot cL_whyNot 5 [(0, 10, 13, 13)] 10 174 (1, 6) ad σ [.ref (ad 0 0), .int p0, .int p1, .ref (ad 70 0)] r σ' := by
  obtain ⟨res1, σ1, hg1, hok, hex⟩ := wrapF_cases hg
  refine WN.intro rfl hst (Nat.le_of_ble_eq_true rfl) (lv := [(0, .ref _), (1, .int _), (2, .int _), (3, .ref _)]) rfl ?_
  refine h_aload_n 3 rfl dL_whyNot_0 ?_
  refine h_iconst 0 (by decide) dL_whyNot_1 ?_
  refine h_aload_n 0 rfl dL_whyNot_2 ?_
  refine h_iload_n 1 rfl dL_whyNot_3 ?_
  refine h_iload_n 2 rfl dL_whyNot_4 ?_
  refine h_callV (n := 2) (As := [.int _, .int _]) (kc' := (0, 0)) hg1 (nc_X9_whyNot X hst ad _ _ _) (fun _ h => h ▸ Fx.rf ad) ⟨rfl, by decide, by decide, by decide +kernel⟩ w_660 w_661 w_662 w_325 w_663 rfl rfl ⟨by decide, by decide⟩ ⟨by decide, by decide, by decide, by decide⟩ dL_whyNot_5 (fun v hv ad' hfx => ?_) (fun E hE => ?_)
  · obtain ⟨rfl, rfl⟩ := hok v hv
    exact h_done (pc := 8) (off := 7) (tgt := 17) hfx dL_whyNot_8 dL_whyNot_9 dL_whyNot_10 (by decide) dL_whyNot_17 dL_whyNot_18
  · obtain ⟨rfl, hE2⟩ := hex E hE
    rcases hE2 with ⟨rfl, h9⟩ | ⟨rfl, h9⟩ | ⟨rfl, h9⟩
    · cases h9
      exact ⟨13, ⟨0, 0, 10, 13, "java/lang/IndexOutOfBoundsException", rfl, by decide, by decide, by decide, w_628, w_629, fun i hi => absurd hi (Nat.not_lt_zero _)⟩, fun ad' q hfx => h_caught (pc := 13) 1 (by decide) hfx (by decide) dL_whyNot_13 dL_whyNot_15 dL_whyNot_16⟩
    · cases h9
    · cases h9
def g_allocation (σ : Wd) (p0 : Int32) : Option (Int32 × Wd) := wrapF (some 1) none none (f_X9_allocation σ p0)
theorem wn_allocation (X : Xt) (hst : X.1.stackTraces = false) (ad : Ad) (σ : Wd) (p0 : Int32) (r : Int32) (σ' : Wd) (hg : g_allocation σ p0 = some (r, σ')) : WN X yL_allocation cL_allocation 4 [(0, 9, 12, 13)] 11 199 (1, 6) ad σ [.ref (ad 0 0), .int p0, .ref (ad 70 0)] r σ' := by
  obtain ⟨res1, σ1, hg1, hok, hex⟩ := wrapF_cases hg
  refine WN.intro rfl hst (Nat.le_of_ble_eq_true rfl) (lv := [(0, .ref _), (1, .int _), (2, .ref _)]) rfl ?_
  refine h_aload_n 2 rfl dL_allocation_0 ?_
  refine h_iconst 0 (by decide) dL_allocation_1 ?_
  refine h_aload_n 0 rfl dL_allocation_2 ?_
  refine h_iload_n 1 rfl dL_allocation_3 ?_
  refine h_callV (n := 1) (As := [.int _]) (kc' := (0, 0)) hg1 (nc_X9_allocation X hst ad _ _) (fun _ h => h ▸ Fx.rf ad) ⟨rfl, by decide, by decide, by decide +kernel⟩ w_665 w_666 w_667 w_325 w_668 rfl rfl ⟨by decide, by decide⟩ ⟨by decide, by decide, by decide, by decide⟩ dL_allocation_4 (fun v hv ad' hfx => ?_) (fun E hE => ?_)
  · obtain ⟨rfl, rfl⟩ := hok v hv
    exact h_done (pc := 7) (off := 6) (tgt := 15) hfx dL_allocation_7 dL_allocation_8 dL_allocation_9 (by decide) dL_allocation_15 dL_allocation_16
  · obtain ⟨rfl, hE2⟩ := hex E hE
    rcases hE2 with ⟨rfl, h9⟩ | ⟨rfl, h9⟩ | ⟨rfl, h9⟩
    · cases h9
      exact ⟨12, ⟨0, 0, 9, 13, "java/lang/IndexOutOfBoundsException", rfl, by decide, by decide, by decide, w_628, w_629, fun i hi => absurd hi (Nat.not_lt_zero _)⟩, fun ad' q hfx => h_caught_n (pc := 12) 1 (by decide) hfx (by decide) dL_allocation_12 dL_allocation_13 dL_allocation_14⟩
    · cases h9
    · cases h9
def g_allocationAnew (σ : Wd) (p0 : Int32) : Option (Int32 × Wd) := wrapF (some 1) none (some 2) (f_X9_allocationAnew σ p0)
theorem wn_allocationAnew (X : Xt) (hst : X.1.stackTraces = false) (ad : Ad) (σ : Wd) (p0 : Int32) (r : Int32) (σ' : Wd) (hg : g_allocationAnew σ p0 = some (r, σ')) : WN X yL_allocationAnew cL_allocationAnew 4 [(0, 9, 12, 13), (0, 9, 15, 17)] 11 199 (1, 6) ad σ [.ref (ad 0 0), .int p0, .ref (ad 70 0)] r σ' := by
  obtain ⟨res1, σ1, hg1, hok, hex⟩ := wrapF_cases hg
  refine WN.intro rfl hst (Nat.le_of_ble_eq_true rfl) (lv := [(0, .ref _), (1, .int _), (2, .ref _)]) rfl ?_
  refine h_aload_n 2 rfl dL_allocationAnew_0 ?_
  refine h_iconst 0 (by decide) dL_allocationAnew_1 ?_
  refine h_aload_n 0 rfl dL_allocationAnew_2 ?_
  refine h_iload_n 1 rfl dL_allocationAnew_3 ?_
  refine h_callV (n := 1) (As := [.int _]) (kc' := (0, 0)) hg1 (nc_X9_allocationAnew X hst ad _ _) (fun _ h => h ▸ Fx.rf ad) ⟨rfl, by decide, by decide, by decide +kernel⟩ w_670 w_671 w_672 w_325 w_673 rfl rfl ⟨by decide, by decide⟩ ⟨by decide, by decide, by decide, by decide⟩ dL_allocationAnew_4 (fun v hv ad' hfx => ?_) (fun E hE => ?_)
  · obtain ⟨rfl, rfl⟩ := hok v hv
    exact h_done (pc := 7) (off := 9) (tgt := 18) hfx dL_allocationAnew_7 dL_allocationAnew_8 dL_allocationAnew_9 (by decide) dL_allocationAnew_18 dL_allocationAnew_19
  · obtain ⟨rfl, hE2⟩ := hex E hE
    rcases hE2 with ⟨rfl, h9⟩ | ⟨rfl, h9⟩ | ⟨rfl, h9⟩
    · cases h9
      exact ⟨12, ⟨0, 0, 9, 13, "java/lang/IndexOutOfBoundsException", rfl, by decide, by decide, by decide, w_628, w_629, fun i hi => absurd hi (Nat.not_lt_zero _)⟩, fun ad' q hfx => h_caught_n (pc := 12) 1 (by decide) hfx (by decide) dL_allocationAnew_12 dL_allocationAnew_13 dL_allocationAnew_14⟩
    · cases h9
    · cases h9
      exact ⟨15, ⟨1, 0, 9, 17, "java/lang/IllegalStateException", rfl, by decide, by decide, by decide, w_632, w_633, fun i hi => match i, hi with | 0, _ => ⟨0, 9, 12, 13, "java/lang/IndexOutOfBoundsException", rfl, by decide, w_628, by decide⟩⟩, fun ad' q hfx => h_caught_n (pc := 15) 2 (by decide) hfx (by decide) dL_allocationAnew_15 dL_allocationAnew_16 dL_allocationAnew_17⟩
def g_day (σ : Wd) : Option (Int32 × Wd) := wrapF none none (some 1) (f_X9_day σ)
theorem wn_day (X : Xt) (hst : X.1.stackTraces = false) (ad : Ad) (σ : Wd) (r : Int32) (σ' : Wd) (hg : g_day σ = some (r, σ')) : WN X yL_day cL_day 3 [(0, 8, 11, 17)] 11 199 (1, 6) ad σ [.ref (ad 0 0), .ref (ad 70 0)] r σ' := by
  obtain ⟨res1, σ1, hg1, hok, hex⟩ := wrapF_cases hg
  refine WN.intro rfl hst (Nat.le_of_ble_eq_true rfl) (lv := [(0, .ref _), (1, .ref _)]) rfl ?_
  refine h_aload_n 1 rfl dL_day_0 ?_
  refine h_iconst 0 (by decide) dL_day_1 ?_
  refine h_aload_n 0 rfl dL_day_2 ?_
  refine h_callV (n := 0) (As := []) (kc' := (0, 0)) hg1 (nc_X9_day X hst ad _) (fun _ h => h ▸ Fx.rf ad) ⟨rfl, by decide, by decide, by decide +kernel⟩ w_675 w_676 w_677 w_325 w_678 rfl rfl ⟨by decide, by decide⟩ ⟨by decide, by decide, by decide, by decide⟩ dL_day_3 (fun v hv ad' hfx => ?_) (fun E hE => ?_)
  · obtain ⟨rfl, rfl⟩ := hok v hv
    exact h_done (pc := 6) (off := 6) (tgt := 14) hfx dL_day_6 dL_day_7 dL_day_8 (by decide) dL_day_14 dL_day_15
  · obtain ⟨rfl, hE2⟩ := hex E hE
    rcases hE2 with ⟨rfl, h9⟩ | ⟨rfl, h9⟩ | ⟨rfl, h9⟩
    · cases h9
    · cases h9
    · cases h9
      exact ⟨11, ⟨0, 0, 8, 17, "java/lang/IllegalStateException", rfl, by decide, by decide, by decide, w_632, w_633, fun i hi => absurd hi (Nat.not_lt_zero _)⟩, fun ad' q hfx => h_caught_n (pc := 11) 1 (by decide) hfx (by decide) dL_day_11 dL_day_12 dL_day_13⟩
def g_examine (σ : Wd) (p0 : Int32) (p1 : Int32) : Option (Int32 × Wd) := wrapF (some 1) none (some 2) (f_X9_examine σ p0 p1)
theorem wn_examine (X : Xt) (hst : X.1.stackTraces = false) (ad : Ad) (σ : Wd) (p0 : Int32) (p1 : Int32) (r : Int32) (σ' : Wd) (hg : g_examine σ p0 p1 = some (r, σ')) : WN X yL_examine cL_examine 5 [(0, 10, 13, 13), (0, 10, 17, 17)] 8 127 (1, 6) ad σ [.ref (ad 0 0), .int p0, .int p1, .ref (ad 70 0)] r σ' := by
  obtain ⟨res1, σ1, hg1, hok, hex⟩ := wrapF_cases hg
  refine WN.intro rfl hst (Nat.le_of_ble_eq_true rfl) (lv := [(0, .ref _), (1, .int _), (2, .int _), (3, .ref _)]) rfl ?_
  refine h_aload_n 3 rfl dL_examine_0 ?_
  refine h_iconst 0 (by decide) dL_examine_1 ?_
  refine h_aload_n 0 rfl dL_examine_2 ?_
  refine h_iload_n 1 rfl dL_examine_3 ?_
  refine h_iload_n 2 rfl dL_examine_4 ?_
  refine h_callV (n := 2) (As := [.int _, .int _]) (kc' := (0, 0)) hg1 (nc_X9_examine X hst ad _ _ _) (fun _ h => h ▸ Fx.rf ad) ⟨rfl, by decide, by decide, by decide +kernel⟩ w_680 w_681 w_682 w_325 w_683 rfl rfl ⟨by decide, by decide⟩ ⟨by decide, by decide, by decide, by decide⟩ dL_examine_5 (fun v hv ad' hfx => ?_) (fun E hE => ?_)
  · obtain ⟨rfl, rfl⟩ := hok v hv
    exact h_done (pc := 8) (off := 11) (tgt := 21) hfx dL_examine_8 dL_examine_9 dL_examine_10 (by decide) dL_examine_21 dL_examine_22
  · obtain ⟨rfl, hE2⟩ := hex E hE
    rcases hE2 with ⟨rfl, h9⟩ | ⟨rfl, h9⟩ | ⟨rfl, h9⟩
    · cases h9
      exact ⟨13, ⟨0, 0, 10, 13, "java/lang/IndexOutOfBoundsException", rfl, by decide, by decide, by decide, w_628, w_629, fun i hi => absurd hi (Nat.not_lt_zero _)⟩, fun ad' q hfx => h_caught (pc := 13) 1 (by decide) hfx (by decide) dL_examine_13 dL_examine_15 dL_examine_16⟩
    · cases h9
    · cases h9
      exact ⟨17, ⟨1, 0, 10, 17, "java/lang/IllegalStateException", rfl, by decide, by decide, by decide, w_632, w_633, fun i hi => match i, hi with | 0, _ => ⟨0, 10, 13, 13, "java/lang/IndexOutOfBoundsException", rfl, by decide, w_628, by decide⟩⟩, fun ad' q hfx => h_caught (pc := 17) 2 (by decide) hfx (by decide) dL_examine_17 dL_examine_19 dL_examine_20⟩
def g_lathe (σ : Wd) (p0 : Int32) : Option (Int32 × Wd) := wrapF (some 1) none (some 2) (f_X9_lathe σ p0)
theorem wn_lathe (X : Xt) (hst : X.1.stackTraces = false) (ad : Ad) (σ : Wd) (p0 : Int32) (r : Int32) (σ' : Wd) (hg : g_lathe σ p0 = some (r, σ')) : WN X yL_lathe cL_lathe 4 [(0, 9, 12, 13), (0, 9, 15, 17)] 10 172 (1, 6) ad σ [.ref (ad 0 0), .int p0, .ref (ad 70 0)] r σ' := by
  obtain ⟨res1, σ1, hg1, hok, hex⟩ := wrapF_cases hg
  refine WN.intro rfl hst (Nat.le_of_ble_eq_true rfl) (lv := [(0, .ref _), (1, .int _), (2, .ref _)]) rfl ?_
  refine h_aload_n 2 rfl dL_lathe_0 ?_
  refine h_iconst 0 (by decide) dL_lathe_1 ?_
  refine h_aload_n 0 rfl dL_lathe_2 ?_
  refine h_iload_n 1 rfl dL_lathe_3 ?_
  refine h_callV (n := 1) (As := [.int _]) (kc' := (0, 0)) hg1 (nc_X9_lathe X hst ad _ _) (fun _ h => h ▸ Fx.rf ad) ⟨rfl, by decide, by decide, by decide +kernel⟩ w_685 w_686 w_687 w_325 w_688 rfl rfl ⟨by decide, by decide⟩ ⟨by decide, by decide, by decide, by decide⟩ dL_lathe_4 (fun v hv ad' hfx => ?_) (fun E hE => ?_)
  · obtain ⟨rfl, rfl⟩ := hok v hv
    exact h_done (pc := 7) (off := 9) (tgt := 18) hfx dL_lathe_7 dL_lathe_8 dL_lathe_9 (by decide) dL_lathe_18 dL_lathe_19
  · obtain ⟨rfl, hE2⟩ := hex E hE
    rcases hE2 with ⟨rfl, h9⟩ | ⟨rfl, h9⟩ | ⟨rfl, h9⟩
    · cases h9
      exact ⟨12, ⟨0, 0, 9, 13, "java/lang/IndexOutOfBoundsException", rfl, by decide, by decide, by decide, w_628, w_629, fun i hi => absurd hi (Nat.not_lt_zero _)⟩, fun ad' q hfx => h_caught_n (pc := 12) 1 (by decide) hfx (by decide) dL_lathe_12 dL_lathe_13 dL_lathe_14⟩
    · cases h9
    · cases h9
      exact ⟨15, ⟨1, 0, 9, 17, "java/lang/IllegalStateException", rfl, by decide, by decide, by decide, w_632, w_633, fun i hi => match i, hi with | 0, _ => ⟨0, 9, 12, 13, "java/lang/IndexOutOfBoundsException", rfl, by decide, w_628, by decide⟩⟩, fun ad' q hfx => h_caught_n (pc := 15) 2 (by decide) hfx (by decide) dL_lathe_15 dL_lathe_16 dL_lathe_17⟩
def g_mend (σ : Wd) (p0 : Int32) (p1 : Int32) : Option (Int32 × Wd) := wrapF (some 1) none (some 2) (f_X9_mend σ p0 p1)
theorem wn_mend (X : Xt) (hst : X.1.stackTraces = false) (ad : Ad) (σ : Wd) (p0 : Int32) (p1 : Int32) (r : Int32) (σ' : Wd) (hg : g_mend σ p0 p1 = some (r, σ')) : WN X yL_mend cL_mend 5 [(0, 10, 13, 13), (0, 10, 17, 17)] 8 128 (1, 6) ad σ [.ref (ad 0 0), .int p0, .int p1, .ref (ad 70 0)] r σ' := by
  obtain ⟨res1, σ1, hg1, hok, hex⟩ := wrapF_cases hg
  refine WN.intro rfl hst (Nat.le_of_ble_eq_true rfl) (lv := [(0, .ref _), (1, .int _), (2, .int _), (3, .ref _)]) rfl ?_
  refine h_aload_n 3 rfl dL_mend_0 ?_
  refine h_iconst 0 (by decide) dL_mend_1 ?_
  refine h_aload_n 0 rfl dL_mend_2 ?_
  refine h_iload_n 1 rfl dL_mend_3 ?_
  refine h_iload_n 2 rfl dL_mend_4 ?_
  refine h_callV (n := 2) (As := [.int _, .int _]) (kc' := (0, 0)) hg1 (nc_X9_mend X hst ad _ _ _) (fun _ h => h ▸ Fx.rf ad) ⟨rfl, by decide, by decide, by decide +kernel⟩ w_690 w_691 w_692 w_325 w_693 rfl rfl ⟨by decide, by decide⟩ ⟨by decide, by decide, by decide, by decide⟩ dL_mend_5 (fun v hv ad' hfx => ?_) (fun E hE => ?_)
  · obtain ⟨rfl, rfl⟩ := hok v hv
    exact h_done (pc := 8) (off := 11) (tgt := 21) hfx dL_mend_8 dL_mend_9 dL_mend_10 (by decide) dL_mend_21 dL_mend_22
  · obtain ⟨rfl, hE2⟩ := hex E hE
    rcases hE2 with ⟨rfl, h9⟩ | ⟨rfl, h9⟩ | ⟨rfl, h9⟩
    · cases h9
      exact ⟨13, ⟨0, 0, 10, 13, "java/lang/IndexOutOfBoundsException", rfl, by decide, by decide, by decide, w_628, w_629, fun i hi => absurd hi (Nat.not_lt_zero _)⟩, fun ad' q hfx => h_caught (pc := 13) 1 (by decide) hfx (by decide) dL_mend_13 dL_mend_15 dL_mend_16⟩
    · cases h9
    · cases h9
      exact ⟨17, ⟨1, 0, 10, 17, "java/lang/IllegalStateException", rfl, by decide, by decide, by decide, w_632, w_633, fun i hi => match i, hi with | 0, _ => ⟨0, 10, 13, 13, "java/lang/IndexOutOfBoundsException", rfl, by decide, w_628, by decide⟩⟩, fun ad' q hfx => h_caught (pc := 17) 2 (by decide) hfx (by decide) dL_mend_17 dL_mend_19 dL_mend_20⟩
def g_about (σ : Wd) (p0 : Int32) (p1 : Int32) : Option (Int32 × Wd) := wrapF (some 1) (some 2) none (f_X9_about σ p0 p1)
theorem wn_about (X : Xt) (hst : X.1.stackTraces = false) (ad : Ad) (σ : Wd) (p0 : Int32) (p1 : Int32) (r : Int32) (σ' : Wd) (hg : g_about σ p0 p1 = some (r, σ')) : WN X yL_about cL_about 5 [(0, 10, 13, 13), (0, 10, 17, 15)] 10 172 (1, 6) ad σ [.ref (ad 0 0), .int p0, .int p1, .ref (ad 70 0)] r σ' := by
  obtain ⟨res1, σ1, hg1, hok, hex⟩ := wrapF_cases hg
  refine WN.intro rfl hst (Nat.le_of_ble_eq_true rfl) (lv := [(0, .ref _), (1, .int _), (2, .int _), (3, .ref _)]) rfl ?_
  refine h_aload_n 3 rfl dL_about_0 ?_
  refine h_iconst 0 (by decide) dL_about_1 ?_
  refine h_aload_n 0 rfl dL_about_2 ?_
  refine h_iload_n 1 rfl dL_about_3 ?_
  refine h_iload_n 2 rfl dL_about_4 ?_
  refine h_callV (n := 2) (As := [.int _, .int _]) (kc' := (0, 0)) hg1 (nc_X9_about X hst ad _ _ _) (fun _ h => h ▸ Fx.rf ad) ⟨rfl, by decide, by decide, by decide +kernel⟩ w_695 w_696 w_697 w_325 w_698 rfl rfl ⟨by decide, by decide⟩ ⟨by decide, by decide, by decide, by decide⟩ dL_about_5 (fun v hv ad' hfx => ?_) (fun E hE => ?_)
  · obtain ⟨rfl, rfl⟩ := hok v hv
    exact h_done (pc := 8) (off := 11) (tgt := 21) hfx dL_about_8 dL_about_9 dL_about_10 (by decide) dL_about_21 dL_about_22
  · obtain ⟨rfl, hE2⟩ := hex E hE
    rcases hE2 with ⟨rfl, h9⟩ | ⟨rfl, h9⟩ | ⟨rfl, h9⟩
    · cases h9
      exact ⟨13, ⟨0, 0, 10, 13, "java/lang/IndexOutOfBoundsException", rfl, by decide, by decide, by decide, w_628, w_629, fun i hi => absurd hi (Nat.not_lt_zero _)⟩, fun ad' q hfx => h_caught (pc := 13) 1 (by decide) hfx (by decide) dL_about_13 dL_about_15 dL_about_16⟩
    · cases h9
      exact ⟨17, ⟨1, 0, 10, 15, "java/lang/IllegalArgumentException", rfl, by decide, by decide, by decide, w_630, w_631, fun i hi => match i, hi with | 0, _ => ⟨0, 10, 13, 13, "java/lang/IndexOutOfBoundsException", rfl, by decide, w_628, by decide⟩⟩, fun ad' q hfx => h_caught (pc := 17) 2 (by decide) hfx (by decide) dL_about_17 dL_about_19 dL_about_20⟩
    · cases h9
def g_clock (σ : Wd) (p0 : Int32) (p1 : Int32) (p2 : Int32) : Option (Int32 × Wd) := wrapF (some 1) none none (f_X9_clock σ p0 p1 p2)
theorem wn_clock (X : Xt) (hst : X.1.stackTraces = false) (ad : Ad) (σ : Wd) (p0 : Int32) (p1 : Int32) (p2 : Int32) (r : Int32) (σ' : Wd) (hg : g_clock σ p0 p1 p2 = some (r, σ')) : WN X yL_clock cL_clock 6 [(0, 12, 15, 13)] 8 128 (1, 6) ad σ [.ref (ad 0 0), .int p0, .int p1, .int p2, .ref (ad 70 0)] r σ' := by
  obtain ⟨res1, σ1, hg1, hok, hex⟩ := wrapF_cases hg
  refine WN.intro rfl hst (Nat.le_of_ble_eq_true rfl) (lv := [(0, .ref _), (1, .int _), (2, .int _), (3, .int _), (4, .ref _)]) rfl ?_
  refine h_aload 4 rfl dL_clock_0 ?_
  refine h_iconst 0 (by decide) dL_clock_2 ?_
  refine h_aload_n 0 rfl dL_clock_3 ?_
  refine h_iload_n 1 rfl dL_clock_4 ?_
  refine h_iload_n 2 rfl dL_clock_5 ?_
  refine h_iload_n 3 rfl dL_clock_6 ?_
  refine h_callV (n := 3) (As := [.int _, .int _, .int _]) (kc' := (0, 0)) hg1 (nc_X9_clock X hst ad _ _ _ _) (fun _ h => h ▸ Fx.rf ad) ⟨rfl, by decide, by decide, by decide +kernel⟩ w_700 w_701 w_702 w_325 w_703 rfl rfl ⟨by decide, by decide⟩ ⟨by decide, by decide, by decide, by decide⟩ dL_clock_7 (fun v hv ad' hfx => ?_) (fun E hE => ?_)
  · obtain ⟨rfl, rfl⟩ := hok v hv
    exact h_done (pc := 10) (off := 7) (tgt := 19) hfx dL_clock_10 dL_clock_11 dL_clock_12 (by decide) dL_clock_19 dL_clock_20
  · obtain ⟨rfl, hE2⟩ := hex E hE
    rcases hE2 with ⟨rfl, h9⟩ | ⟨rfl, h9⟩ | ⟨rfl, h9⟩
    · cases h9
      exact ⟨15, ⟨0, 0, 12, 13, "java/lang/IndexOutOfBoundsException", rfl, by decide, by decide, by decide, w_628, w_629, fun i hi => absurd hi (Nat.not_lt_zero _)⟩, fun ad' q hfx => h_caught (pc := 15) 1 (by decide) hfx (by decide) dL_clock_15 dL_clock_17 dL_clock_18⟩
    · cases h9
    · cases h9
def g_axle (σ : Wd) (p0 : Int32) (p1 : Int32) : Option (Int32 × Wd) := wrapF (some 1) none none (f_X9_axle σ p0 p1)
theorem wn_axle (X : Xt) (hst : X.1.stackTraces = false) (ad : Ad) (σ : Wd) (p0 : Int32) (p1 : Int32) (r : Int32) (σ' : Wd) (hg : g_axle σ p0 p1 = some (r, σ')) : WN X yL_axle cL_axle 5 [(0, 10, 13, 13)] 8 127 (1, 6) ad σ [.ref (ad 0 0), .int p0, .int p1, .ref (ad 70 0)] r σ' := by
  obtain ⟨res1, σ1, hg1, hok, hex⟩ := wrapF_cases hg
  refine WN.intro rfl hst (Nat.le_of_ble_eq_true rfl) (lv := [(0, .ref _), (1, .int _), (2, .int _), (3, .ref _)]) rfl ?_
  refine h_aload_n 3 rfl dL_axle_0 ?_
  refine h_iconst 0 (by decide) dL_axle_1 ?_
  refine h_aload_n 0 rfl dL_axle_2 ?_
  refine h_iload_n 1 rfl dL_axle_3 ?_
  refine h_iload_n 2 rfl dL_axle_4 ?_
  refine h_callV (n := 2) (As := [.int _, .int _]) (kc' := (0, 0)) hg1 (nc_X9_axle X hst ad _ _ _) (fun _ h => h ▸ Fx.rf ad) ⟨rfl, by decide, by decide, by decide +kernel⟩ w_705 w_706 w_707 w_325 w_708 rfl rfl ⟨by decide, by decide⟩ ⟨by decide, by decide, by decide, by decide⟩ dL_axle_5 (fun v hv ad' hfx => ?_) (fun E hE => ?_)
  · obtain ⟨rfl, rfl⟩ := hok v hv
    exact h_done (pc := 8) (off := 7) (tgt := 17) hfx dL_axle_8 dL_axle_9 dL_axle_10 (by decide) dL_axle_17 dL_axle_18
  · obtain ⟨rfl, hE2⟩ := hex E hE
    rcases hE2 with ⟨rfl, h9⟩ | ⟨rfl, h9⟩ | ⟨rfl, h9⟩
    · cases h9
      exact ⟨13, ⟨0, 0, 10, 13, "java/lang/IndexOutOfBoundsException", rfl, by decide, by decide, by decide, w_628, w_629, fun i hi => absurd hi (Nat.not_lt_zero _)⟩, fun ad' q hfx => h_caught (pc := 13) 1 (by decide) hfx (by decide) dL_axle_13 dL_axle_15 dL_axle_16⟩
    · cases h9
    · cases h9
def g_faultAt (σ : Wd) (p0 : Int32) (p1 : Int32) (p2 : Int32) : Option (Int32 × Wd) := wrapF (some 1) (some 2) none (f_X9_faultAt σ p0 p1 p2)
theorem wn_faultAt (X : Xt) (hst : X.1.stackTraces = false) (ad : Ad) (σ : Wd) (p0 : Int32) (p1 : Int32) (p2 : Int32) (r : Int32) (σ' : Wd) (hg : g_faultAt σ p0 p1 p2 = some (r, σ')) : WN X yL_faultAt cL_faultAt 6 [(0, 12, 15, 13), (0, 12, 19, 15)] 8 128 (1, 6) ad σ [.ref (ad 0 0), .int p0, .int p1, .int p2, .ref (ad 70 0)] r σ' := by
  obtain ⟨res1, σ1, hg1, hok, hex⟩ := wrapF_cases hg
  refine WN.intro rfl hst (Nat.le_of_ble_eq_true rfl) (lv := [(0, .ref _), (1, .int _), (2, .int _), (3, .int _), (4, .ref _)]) rfl ?_
  refine h_aload 4 rfl dL_faultAt_0 ?_
  refine h_iconst 0 (by decide) dL_faultAt_2 ?_
  refine h_aload_n 0 rfl dL_faultAt_3 ?_
  refine h_iload_n 1 rfl dL_faultAt_4 ?_
  refine h_iload_n 2 rfl dL_faultAt_5 ?_
  refine h_iload_n 3 rfl dL_faultAt_6 ?_
  refine h_callV (n := 3) (As := [.int _, .int _, .int _]) (kc' := (0, 0)) hg1 (nc_X9_faultAt X hst ad _ _ _ _) (fun _ h => h ▸ Fx.rf ad) ⟨rfl, by decide, by decide, by decide +kernel⟩ w_710 w_711 w_712 w_325 w_713 rfl rfl ⟨by decide, by decide⟩ ⟨by decide, by decide, by decide, by decide⟩ dL_faultAt_7 (fun v hv ad' hfx => ?_) (fun E hE => ?_)
  · obtain ⟨rfl, rfl⟩ := hok v hv
    exact h_done (pc := 10) (off := 11) (tgt := 23) hfx dL_faultAt_10 dL_faultAt_11 dL_faultAt_12 (by decide) dL_faultAt_23 dL_faultAt_24
  · obtain ⟨rfl, hE2⟩ := hex E hE
    rcases hE2 with ⟨rfl, h9⟩ | ⟨rfl, h9⟩ | ⟨rfl, h9⟩
    · cases h9
      exact ⟨15, ⟨0, 0, 12, 13, "java/lang/IndexOutOfBoundsException", rfl, by decide, by decide, by decide, w_628, w_629, fun i hi => absurd hi (Nat.not_lt_zero _)⟩, fun ad' q hfx => h_caught (pc := 15) 1 (by decide) hfx (by decide) dL_faultAt_15 dL_faultAt_17 dL_faultAt_18⟩
    · cases h9
      exact ⟨19, ⟨1, 0, 12, 15, "java/lang/IllegalArgumentException", rfl, by decide, by decide, by decide, w_630, w_631, fun i hi => match i, hi with | 0, _ => ⟨0, 12, 15, 13, "java/lang/IndexOutOfBoundsException", rfl, by decide, w_628, by decide⟩⟩, fun ad' q hfx => h_caught (pc := 19) 2 (by decide) hfx (by decide) dL_faultAt_19 dL_faultAt_21 dL_faultAt_22⟩
    · cases h9
def g_stands (σ : Wd) (p0 : Int32) (p1 : Int32) : Option (Int32 × Wd) := wrapF (some 1) none none (f_X9_stands σ p0 p1)
theorem wn_stands (X : Xt) (hst : X.1.stackTraces = false) (ad : Ad) (σ : Wd) (p0 : Int32) (p1 : Int32) (r : Int32) (σ' : Wd) (hg : g_stands σ p0 p1 = some (r, σ')) : WN X yL_stands cL_stands 5 [(0, 10, 13, 13)] 8 127 (1, 6) ad σ [.ref (ad 0 0), .int p0, .int p1, .ref (ad 70 0)] r σ' := by
  obtain ⟨res1, σ1, hg1, hok, hex⟩ := wrapF_cases hg
  refine WN.intro rfl hst (Nat.le_of_ble_eq_true rfl) (lv := [(0, .ref _), (1, .int _), (2, .int _), (3, .ref _)]) rfl ?_
  refine h_aload_n 3 rfl dL_stands_0 ?_
  refine h_iconst 0 (by decide) dL_stands_1 ?_
  refine h_aload_n 0 rfl dL_stands_2 ?_
  refine h_iload_n 1 rfl dL_stands_3 ?_
  refine h_iload_n 2 rfl dL_stands_4 ?_
  refine h_callV (n := 2) (As := [.int _, .int _]) (kc' := (0, 0)) hg1 (nc_X9_stands X hst ad _ _ _) (fun _ h => h ▸ Fx.rf ad) ⟨rfl, by decide, by decide, by decide +kernel⟩ w_715 w_716 w_717 w_325 w_718 rfl rfl ⟨by decide, by decide⟩ ⟨by decide, by decide, by decide, by decide⟩ dL_stands_5 (fun v hv ad' hfx => ?_) (fun E hE => ?_)
  · obtain ⟨rfl, rfl⟩ := hok v hv
    exact h_done (pc := 8) (off := 7) (tgt := 17) hfx dL_stands_8 dL_stands_9 dL_stands_10 (by decide) dL_stands_17 dL_stands_18
  · obtain ⟨rfl, hE2⟩ := hex E hE
    rcases hE2 with ⟨rfl, h9⟩ | ⟨rfl, h9⟩ | ⟨rfl, h9⟩
    · cases h9
      exact ⟨13, ⟨0, 0, 10, 13, "java/lang/IndexOutOfBoundsException", rfl, by decide, by decide, by decide, w_628, w_629, fun i hi => absurd hi (Nat.not_lt_zero _)⟩, fun ad' q hfx => h_caught (pc := 13) 1 (by decide) hfx (by decide) dL_stands_13 dL_stands_15 dL_stands_16⟩
    · cases h9
    · cases h9
def g_ran (σ : Wd) (p0 : Int32) (p1 : Int32) : Option (Int32 × Wd) := wrapF (some 1) (some 2) none (f_X9_ran σ p0 p1)
theorem wn_ran (X : Xt) (hst : X.1.stackTraces = false) (ad : Ad) (σ : Wd) (p0 : Int32) (p1 : Int32) (r : Int32) (σ' : Wd) (hg : g_ran σ p0 p1 = some (r, σ')) : WN X yL_ran cL_ran 5 [(0, 10, 13, 13), (0, 10, 17, 15)] 8 126 (1, 6) ad σ [.ref (ad 0 0), .int p0, .int p1, .ref (ad 70 0)] r σ' := by
  obtain ⟨res1, σ1, hg1, hok, hex⟩ := wrapF_cases hg
  refine WN.intro rfl hst (Nat.le_of_ble_eq_true rfl) (lv := [(0, .ref _), (1, .int _), (2, .int _), (3, .ref _)]) rfl ?_
  refine h_aload_n 3 rfl dL_ran_0 ?_
  refine h_iconst 0 (by decide) dL_ran_1 ?_
  refine h_aload_n 0 rfl dL_ran_2 ?_
  refine h_iload_n 1 rfl dL_ran_3 ?_
  refine h_iload_n 2 rfl dL_ran_4 ?_
  refine h_callV (n := 2) (As := [.int _, .int _]) (kc' := (0, 0)) hg1 (nc_X9_ran X hst ad _ _ _) (fun _ h => h ▸ Fx.rf ad) ⟨rfl, by decide, by decide, by decide +kernel⟩ w_720 w_721 w_722 w_325 w_723 rfl rfl ⟨by decide, by decide⟩ ⟨by decide, by decide, by decide, by decide⟩ dL_ran_5 (fun v hv ad' hfx => ?_) (fun E hE => ?_)
  · obtain ⟨rfl, rfl⟩ := hok v hv
    exact h_done (pc := 8) (off := 11) (tgt := 21) hfx dL_ran_8 dL_ran_9 dL_ran_10 (by decide) dL_ran_21 dL_ran_22
  · obtain ⟨rfl, hE2⟩ := hex E hE
    rcases hE2 with ⟨rfl, h9⟩ | ⟨rfl, h9⟩ | ⟨rfl, h9⟩
    · cases h9
      exact ⟨13, ⟨0, 0, 10, 13, "java/lang/IndexOutOfBoundsException", rfl, by decide, by decide, by decide, w_628, w_629, fun i hi => absurd hi (Nat.not_lt_zero _)⟩, fun ad' q hfx => h_caught (pc := 13) 1 (by decide) hfx (by decide) dL_ran_13 dL_ran_15 dL_ran_16⟩
    · cases h9
      exact ⟨17, ⟨1, 0, 10, 15, "java/lang/IllegalArgumentException", rfl, by decide, by decide, by decide, w_630, w_631, fun i hi => match i, hi with | 0, _ => ⟨0, 10, 13, 13, "java/lang/IndexOutOfBoundsException", rfl, by decide, w_628, by decide⟩⟩, fun ad' q hfx => h_caught (pc := 17) 2 (by decide) hfx (by decide) dL_ran_17 dL_ran_19 dL_ran_20⟩
    · cases h9
def g_kmAnew (σ : Wd) (p0 : Int32) : Option (Int32 × Wd) := wrapF (some 1) none none (f_X9_kmAnew σ p0)
theorem wn_kmAnew (X : Xt) (hst : X.1.stackTraces = false) (ad : Ad) (σ : Wd) (p0 : Int32) (r : Int32) (σ' : Wd) (hg : g_kmAnew σ p0 = some (r, σ')) : WN X yL_kmAnew cL_kmAnew 4 [(0, 9, 12, 13)] 8 127 (1, 6) ad σ [.ref (ad 0 0), .int p0, .ref (ad 70 0)] r σ' := by
  obtain ⟨res1, σ1, hg1, hok, hex⟩ := wrapF_cases hg
  refine WN.intro rfl hst (Nat.le_of_ble_eq_true rfl) (lv := [(0, .ref _), (1, .int _), (2, .ref _)]) rfl ?_
  refine h_aload_n 2 rfl dL_kmAnew_0 ?_
  refine h_iconst 0 (by decide) dL_kmAnew_1 ?_
  refine h_aload_n 0 rfl dL_kmAnew_2 ?_
  refine h_iload_n 1 rfl dL_kmAnew_3 ?_
  refine h_callV (n := 1) (As := [.int _]) (kc' := (0, 0)) hg1 (nc_X9_kmAnew X hst ad _ _) (fun _ h => h ▸ Fx.rf ad) ⟨rfl, by decide, by decide, by decide +kernel⟩ w_725 w_726 w_727 w_325 w_728 rfl rfl ⟨by decide, by decide⟩ ⟨by decide, by decide, by decide, by decide⟩ dL_kmAnew_4 (fun v hv ad' hfx => ?_) (fun E hE => ?_)
  · obtain ⟨rfl, rfl⟩ := hok v hv
    exact h_done (pc := 7) (off := 6) (tgt := 15) hfx dL_kmAnew_7 dL_kmAnew_8 dL_kmAnew_9 (by decide) dL_kmAnew_15 dL_kmAnew_16
  · obtain ⟨rfl, hE2⟩ := hex E hE
    rcases hE2 with ⟨rfl, h9⟩ | ⟨rfl, h9⟩ | ⟨rfl, h9⟩
    · cases h9
      exact ⟨12, ⟨0, 0, 9, 13, "java/lang/IndexOutOfBoundsException", rfl, by decide, by decide, by decide, w_628, w_629, fun i hi => absurd hi (Nat.not_lt_zero _)⟩, fun ad' q hfx => h_caught_n (pc := 12) 1 (by decide) hfx (by decide) dL_kmAnew_12 dL_kmAnew_13 dL_kmAnew_14⟩
    · cases h9
    · cases h9
