theorem w_729 : Cond.methodLink RL 86 yL_unit ∈ G_ := gt2 218 (by decide +kernel) (by decide +kernel)
theorem w_730 : Cond.static yL_unit ∈ G_ := gt2 219 (by decide +kernel) (by decide +kernel)
theorem w_731 : Cond.initialized RL ∈ G_ := gt1 0 (by decide +kernel) (by decide +kernel)
theorem w_732 : Cond.methodLink RL 91 yX10_unit ∈ G_ := gt5 103 (by decide +kernel) (by decide +kernel)
theorem w_733 : Cond.instanceMethod yX10_unit ∈ G_ := gt5 104 (by decide +kernel) (by decide +kernel)
theorem w_734 : Cond.selects RX10 yX10_unit yX10_unit ∈ G_ := gt5 105 (by decide +kernel) (by decide +kernel)
theorem w_735 : Cond.code yX10_unit cX10_unit 4 (some (.int)) ∈ G_ := gt5 106 (by decide +kernel) (by decide +kernel)
theorem w_736 : Cond.methodLink RL 92 yX10_thrown ∈ G_ := gt5 99 (by decide +kernel) (by decide +kernel)
theorem w_737 : Cond.instanceMethod yX10_thrown ∈ G_ := gt5 100 (by decide +kernel) (by decide +kernel)
theorem w_738 : Cond.selects RX10 yX10_thrown yX10_thrown ∈ G_ := gt5 101 (by decide +kernel) (by decide +kernel)
theorem w_739 : Cond.code yX10_thrown cX10_thrown 1 (some (.int)) ∈ G_ := gt5 102 (by decide +kernel) (by decide +kernel)
theorem w_740 : Cond.methodLink RL 95 yL_diagram ∈ G_ := gt3 127 (by decide +kernel) (by decide +kernel)
theorem w_741 : Cond.static yL_diagram ∈ G_ := gt3 128 (by decide +kernel) (by decide +kernel)
theorem w_742 : Cond.methodLink RL 98 yX10_diagram ∈ G_ := gt5 120 (by decide +kernel) (by decide +kernel)
theorem w_743 : Cond.instanceMethod yX10_diagram ∈ G_ := gt5 121 (by decide +kernel) (by decide +kernel)
theorem w_744 : Cond.selects RX10 yX10_diagram yX10_diagram ∈ G_ := gt5 122 (by decide +kernel) (by decide +kernel)
theorem w_745 : Cond.code yX10_diagram cX10_diagram 6 (some (.int)) ∈ G_ := gt5 123 (by decide +kernel) (by decide +kernel)
theorem w_746 : Cond.methodLink RL 99 yL_exam ∈ G_ := gt3 170 (by decide +kernel) (by decide +kernel)
theorem w_747 : Cond.static yL_exam ∈ G_ := gt3 171 (by decide +kernel) (by decide +kernel)
theorem w_748 : Cond.methodLink RL 102 yX10_exam ∈ G_ := gt5 124 (by decide +kernel) (by decide +kernel)
theorem w_749 : Cond.instanceMethod yX10_exam ∈ G_ := gt5 125 (by decide +kernel) (by decide +kernel)
theorem w_750 : Cond.selects RX10 yX10_exam yX10_exam ∈ G_ := gt5 126 (by decide +kernel) (by decide +kernel)
theorem w_751 : Cond.code yX10_exam cX10_exam 5 (some (.int)) ∈ G_ := gt5 127 (by decide +kernel) (by decide +kernel)
theorem w_752 : Cond.methodLink RL 103 yL_list ∈ G_ := gt3 180 (by decide +kernel) (by decide +kernel)
theorem w_753 : Cond.static yL_list ∈ G_ := gt3 181 (by decide +kernel) (by decide +kernel)
theorem w_754 : Cond.methodLink RL 106 yX10_list ∈ G_ := gt5 137 (by decide +kernel) (by decide +kernel)
theorem w_755 : Cond.instanceMethod yX10_list ∈ G_ := gt5 138 (by decide +kernel) (by decide +kernel)
theorem w_756 : Cond.selects RX10 yX10_list yX10_list ∈ G_ := gt5 139 (by decide +kernel) (by decide +kernel)
theorem w_757 : Cond.code yX10_list cX10_list 5 (some (.int)) ∈ G_ := gt5 140 (by decide +kernel) (by decide +kernel)
theorem w_758 : Cond.methodLink RL 107 yL_fault ∈ G_ := gt3 188 (by decide +kernel) (by decide +kernel)
theorem w_759 : Cond.static yL_fault ∈ G_ := gt3 189 (by decide +kernel) (by decide +kernel)
theorem w_760 : Cond.methodLink RL 109 yX10_fault ∈ G_ := gt5 141 (by decide +kernel) (by decide +kernel)
theorem w_761 : Cond.instanceMethod yX10_fault ∈ G_ := gt5 142 (by decide +kernel) (by decide +kernel)
theorem w_762 : Cond.selects RX10 yX10_fault yX10_fault ∈ G_ := gt5 143 (by decide +kernel) (by decide +kernel)
theorem w_763 : Cond.code yX10_fault cX10_fault 6 (some (.int)) ∈ G_ := gt5 144 (by decide +kernel) (by decide +kernel)
theorem w_764 : Cond.methodLink RL 110 yL_pin ∈ G_ := gt3 224 (by decide +kernel) (by decide +kernel)
theorem w_765 : Cond.static yL_pin ∈ G_ := gt3 225 (by decide +kernel) (by decide +kernel)
theorem w_766 : Cond.methodLink RL 112 yX10_pin ∈ G_ := gt5 149 (by decide +kernel) (by decide +kernel)
theorem w_767 : Cond.instanceMethod yX10_pin ∈ G_ := gt5 150 (by decide +kernel) (by decide +kernel)
theorem w_768 : Cond.selects RX10 yX10_pin yX10_pin ∈ G_ := gt5 151 (by decide +kernel) (by decide +kernel)
theorem w_769 : Cond.code yX10_pin cX10_pin 4 (some (.int)) ∈ G_ := gt5 152 (by decide +kernel) (by decide +kernel)
theorem w_770 : Cond.methodLink RL 113 yL_whyNot ∈ G_ := gt3 231 (by decide +kernel) (by decide +kernel)
theorem w_771 : Cond.static yL_whyNot ∈ G_ := gt3 232 (by decide +kernel) (by decide +kernel)
theorem w_772 : Cond.methodLink RL 115 yX10_whyNot ∈ G_ := gt5 157 (by decide +kernel) (by decide +kernel)
theorem w_773 : Cond.instanceMethod yX10_whyNot ∈ G_ := gt5 158 (by decide +kernel) (by decide +kernel)
theorem w_774 : Cond.selects RX10 yX10_whyNot yX10_whyNot ∈ G_ := gt5 159 (by decide +kernel) (by decide +kernel)
theorem w_775 : Cond.code yX10_whyNot cX10_whyNot 3 (some (.int)) ∈ G_ := gt5 160 (by decide +kernel) (by decide +kernel)
theorem w_776 : Cond.methodLink RL 116 yL_allocation ∈ G_ := gt3 238 (by decide +kernel) (by decide +kernel)
theorem w_777 : Cond.static yL_allocation ∈ G_ := gt3 239 (by decide +kernel) (by decide +kernel)
theorem w_778 : Cond.methodLink RL 119 yX10_allocation ∈ G_ := gt5 181 (by decide +kernel) (by decide +kernel)
theorem w_779 : Cond.instanceMethod yX10_allocation ∈ G_ := gt5 182 (by decide +kernel) (by decide +kernel)
theorem w_780 : Cond.selects RX10 yX10_allocation yX10_allocation ∈ G_ := gt5 183 (by decide +kernel) (by decide +kernel)
theorem w_781 : Cond.code yX10_allocation cX10_allocation 2 (some (.int)) ∈ G_ := gt5 184 (by decide +kernel) (by decide +kernel)
theorem w_782 : Cond.methodLink RL 120 yL_allocationAnew ∈ G_ := gt4 9 (by decide +kernel) (by decide +kernel)
theorem w_783 : Cond.static yL_allocationAnew ∈ G_ := gt4 10 (by decide +kernel) (by decide +kernel)
theorem w_784 : Cond.methodLink RL 122 yX10_allocationAnew ∈ G_ := gt5 197 (by decide +kernel) (by decide +kernel)
theorem w_785 : Cond.instanceMethod yX10_allocationAnew ∈ G_ := gt5 198 (by decide +kernel) (by decide +kernel)
theorem w_786 : Cond.selects RX10 yX10_allocationAnew yX10_allocationAnew ∈ G_ := gt5 199 (by decide +kernel) (by decide +kernel)
theorem w_787 : Cond.code yX10_allocationAnew cX10_allocationAnew 2 (some (.int)) ∈ G_ := gt5 200 (by decide +kernel) (by decide +kernel)
theorem w_788 : Cond.methodLink RL 123 yX9_lack ∈ G_ := gt1 200 (by decide +kernel) (by decide +kernel)
theorem w_789 : Cond.instanceMethod yX9_lack ∈ G_ := gt1 201 (by decide +kernel) (by decide +kernel)
theorem w_790 : Cond.selects RX9 yX9_lack yX9_lack ∈ G_ := gt1 202 (by decide +kernel) (by decide +kernel)
theorem w_791 : Cond.code yX9_lack cX9_lack 1 (some (.int)) ∈ G_ := gt1 203 (by decide +kernel) (by decide +kernel)
theorem w_792 : Cond.methodLink RL 126 yX10_lack ∈ G_ := gt5 201 (by decide +kernel) (by decide +kernel)
theorem w_793 : Cond.instanceMethod yX10_lack ∈ G_ := gt5 202 (by decide +kernel) (by decide +kernel)
theorem w_794 : Cond.selects RX10 yX10_lack yX10_lack ∈ G_ := gt5 203 (by decide +kernel) (by decide +kernel)
theorem w_795 : Cond.code yX10_lack cX10_lack 1 (some (.int)) ∈ G_ := gt5 204 (by decide +kernel) (by decide +kernel)
theorem w_796 : Cond.methodLink RL 127 yL_day ∈ G_ := gt4 47 (by decide +kernel) (by decide +kernel)
theorem w_797 : Cond.static yL_day ∈ G_ := gt4 48 (by decide +kernel) (by decide +kernel)
theorem w_798 : Cond.methodLink RL 130 yX10_day ∈ G_ := gt5 205 (by decide +kernel) (by decide +kernel)
theorem w_799 : Cond.instanceMethod yX10_day ∈ G_ := gt5 206 (by decide +kernel) (by decide +kernel)
theorem w_800 : Cond.selects RX10 yX10_day yX10_day ∈ G_ := gt5 207 (by decide +kernel) (by decide +kernel)
theorem w_801 : Cond.code yX10_day cX10_day 2 (some (.int)) ∈ G_ := gt5 208 (by decide +kernel) (by decide +kernel)
theorem w_802 : Cond.methodLink RL 131 yL_examine ∈ G_ := gt4 86 (by decide +kernel) (by decide +kernel)
theorem w_803 : Cond.static yL_examine ∈ G_ := gt4 87 (by decide +kernel) (by decide +kernel)
theorem w_804 : Cond.methodLink RL 133 yX10_examine ∈ G_ := gt5 221 (by decide +kernel) (by decide +kernel)
theorem w_805 : Cond.instanceMethod yX10_examine ∈ G_ := gt5 222 (by decide +kernel) (by decide +kernel)
theorem w_806 : Cond.selects RX10 yX10_examine yX10_examine ∈ G_ := gt5 223 (by decide +kernel) (by decide +kernel)
theorem w_807 : Cond.code yX10_examine cX10_examine 4 (some (.int)) ∈ G_ := gt5 224 (by decide +kernel) (by decide +kernel)
theorem w_808 : Cond.methodLink RL 134 yL_lathe ∈ G_ := gt4 98 (by decide +kernel) (by decide +kernel)
theorem w_809 : Cond.static yL_lathe ∈ G_ := gt4 99 (by decide +kernel) (by decide +kernel)
theorem w_810 : Cond.methodLink RL 136 yX10_lathe ∈ G_ := gt5 225 (by decide +kernel) (by decide +kernel)
theorem w_811 : Cond.instanceMethod yX10_lathe ∈ G_ := gt5 226 (by decide +kernel) (by decide +kernel)
theorem w_812 : Cond.selects RX10 yX10_lathe yX10_lathe ∈ G_ := gt5 227 (by decide +kernel) (by decide +kernel)
theorem w_813 : Cond.code yX10_lathe cX10_lathe 4 (some (.int)) ∈ G_ := gt5 228 (by decide +kernel) (by decide +kernel)
theorem w_814 : Cond.methodLink RL 137 yL_mend ∈ G_ := gt4 132 (by decide +kernel) (by decide +kernel)
theorem w_815 : Cond.static yL_mend ∈ G_ := gt4 133 (by decide +kernel) (by decide +kernel)
theorem w_816 : Cond.methodLink RL 139 yX10_mend ∈ G_ := gt5 233 (by decide +kernel) (by decide +kernel)
theorem w_817 : Cond.instanceMethod yX10_mend ∈ G_ := gt5 234 (by decide +kernel) (by decide +kernel)
theorem w_818 : Cond.selects RX10 yX10_mend yX10_mend ∈ G_ := gt5 235 (by decide +kernel) (by decide +kernel)
theorem w_819 : Cond.code yX10_mend cX10_mend 4 (some (.int)) ∈ G_ := gt5 236 (by decide +kernel) (by decide +kernel)
theorem w_820 : Cond.methodLink RL 140 yX9_today ∈ G_ := gt2 210 (by decide +kernel) (by decide +kernel)
theorem w_821 : Cond.instanceMethod yX9_today ∈ G_ := gt2 211 (by decide +kernel) (by decide +kernel)
theorem w_822 : Cond.selects RX9 yX9_today yX9_today ∈ G_ := gt2 212 (by decide +kernel) (by decide +kernel)
theorem w_823 : Cond.code yX9_today cX9_today 1 (some (.int)) ∈ G_ := gt2 213 (by decide +kernel) (by decide +kernel)
theorem w_824 : Cond.methodLink RL 143 yX10_today ∈ G_ := gt6 1 (by decide +kernel) (by decide +kernel)
theorem w_825 : Cond.instanceMethod yX10_today ∈ G_ := gt6 2 (by decide +kernel) (by decide +kernel)
theorem w_826 : Cond.selects RX10 yX10_today yX10_today ∈ G_ := gt6 3 (by decide +kernel) (by decide +kernel)
theorem w_827 : Cond.code yX10_today cX10_today 1 (some (.int)) ∈ G_ := gt6 4 (by decide +kernel) (by decide +kernel)
theorem w_828 : Cond.methodLink RL 144 yL_about ∈ G_ := gt4 142 (by decide +kernel) (by decide +kernel)
theorem w_829 : Cond.static yL_about ∈ G_ := gt4 143 (by decide +kernel) (by decide +kernel)
theorem w_830 : Cond.methodLink RL 146 yX10_about ∈ G_ := gt6 5 (by decide +kernel) (by decide +kernel)
theorem w_831 : Cond.instanceMethod yX10_about ∈ G_ := gt6 6 (by decide +kernel) (by decide +kernel)
theorem w_832 : Cond.selects RX10 yX10_about yX10_about ∈ G_ := gt6 7 (by decide +kernel) (by decide +kernel)
theorem w_833 : Cond.code yX10_about cX10_about 6 (some (.int)) ∈ G_ := gt6 8 (by decide +kernel) (by decide +kernel)
theorem w_834 : Cond.methodLink RL 147 yL_clock ∈ G_ := gt4 154 (by decide +kernel) (by decide +kernel)
theorem w_835 : Cond.static yL_clock ∈ G_ := gt4 155 (by decide +kernel) (by decide +kernel)
theorem w_836 : Cond.methodLink RL 150 yX10_clock ∈ G_ := gt6 9 (by decide +kernel) (by decide +kernel)
theorem w_837 : Cond.instanceMethod yX10_clock ∈ G_ := gt6 10 (by decide +kernel) (by decide +kernel)
theorem w_838 : Cond.selects RX10 yX10_clock yX10_clock ∈ G_ := gt6 11 (by decide +kernel) (by decide +kernel)
theorem w_839 : Cond.code yX10_clock cX10_clock 4 (some (.int)) ∈ G_ := gt6 12 (by decide +kernel) (by decide +kernel)
theorem w_840 : Cond.methodLink RL 151 yL_axle ∈ G_ := gt4 163 (by decide +kernel) (by decide +kernel)
theorem w_841 : Cond.static yL_axle ∈ G_ := gt4 164 (by decide +kernel) (by decide +kernel)
theorem w_842 : Cond.methodLink RL 153 yX10_axle ∈ G_ := gt6 13 (by decide +kernel) (by decide +kernel)
theorem w_843 : Cond.instanceMethod yX10_axle ∈ G_ := gt6 14 (by decide +kernel) (by decide +kernel)
theorem w_844 : Cond.selects RX10 yX10_axle yX10_axle ∈ G_ := gt6 15 (by decide +kernel) (by decide +kernel)
theorem w_845 : Cond.code yX10_axle cX10_axle 3 (some (.int)) ∈ G_ := gt6 16 (by decide +kernel) (by decide +kernel)
theorem w_846 : Cond.methodLink RL 154 yL_faultAt ∈ G_ := gt4 171 (by decide +kernel) (by decide +kernel)
theorem w_847 : Cond.static yL_faultAt ∈ G_ := gt4 172 (by decide +kernel) (by decide +kernel)
theorem w_848 : Cond.methodLink RL 156 yX10_faultAt ∈ G_ := gt6 17 (by decide +kernel) (by decide +kernel)
theorem w_849 : Cond.instanceMethod yX10_faultAt ∈ G_ := gt6 18 (by decide +kernel) (by decide +kernel)
theorem w_850 : Cond.selects RX10 yX10_faultAt yX10_faultAt ∈ G_ := gt6 19 (by decide +kernel) (by decide +kernel)
theorem w_851 : Cond.code yX10_faultAt cX10_faultAt 5 (some (.int)) ∈ G_ := gt6 20 (by decide +kernel) (by decide +kernel)
theorem w_852 : Cond.methodLink RL 157 yL_stands ∈ G_ := gt4 179 (by decide +kernel) (by decide +kernel)
theorem w_853 : Cond.static yL_stands ∈ G_ := gt4 180 (by decide +kernel) (by decide +kernel)
theorem w_854 : Cond.methodLink RL 159 yX10_stands ∈ G_ := gt6 21 (by decide +kernel) (by decide +kernel)
theorem w_855 : Cond.instanceMethod yX10_stands ∈ G_ := gt6 22 (by decide +kernel) (by decide +kernel)
theorem w_856 : Cond.selects RX10 yX10_stands yX10_stands ∈ G_ := gt6 23 (by decide +kernel) (by decide +kernel)
theorem w_857 : Cond.code yX10_stands cX10_stands 3 (some (.int)) ∈ G_ := gt6 24 (by decide +kernel) (by decide +kernel)
theorem w_858 : Cond.methodLink RL 160 yX9_shunts ∈ G_ := gt2 214 (by decide +kernel) (by decide +kernel)
theorem w_859 : Cond.instanceMethod yX9_shunts ∈ G_ := gt2 215 (by decide +kernel) (by decide +kernel)
theorem w_860 : Cond.selects RX9 yX9_shunts yX9_shunts ∈ G_ := gt2 216 (by decide +kernel) (by decide +kernel)
theorem w_861 : Cond.code yX9_shunts cX9_shunts 1 (some (.int)) ∈ G_ := gt2 217 (by decide +kernel) (by decide +kernel)
theorem w_862 : Cond.methodLink RL 163 yX10_shunts ∈ G_ := gt6 25 (by decide +kernel) (by decide +kernel)
theorem w_863 : Cond.instanceMethod yX10_shunts ∈ G_ := gt6 26 (by decide +kernel) (by decide +kernel)
theorem w_864 : Cond.selects RX10 yX10_shunts yX10_shunts ∈ G_ := gt6 27 (by decide +kernel) (by decide +kernel)
theorem w_865 : Cond.code yX10_shunts cX10_shunts 1 (some (.int)) ∈ G_ := gt6 28 (by decide +kernel) (by decide +kernel)
theorem w_866 : Cond.methodLink RL 164 yL_ran ∈ G_ := gt4 191 (by decide +kernel) (by decide +kernel)
theorem w_867 : Cond.static yL_ran ∈ G_ := gt4 192 (by decide +kernel) (by decide +kernel)
theorem w_868 : Cond.methodLink RL 166 yX10_ran ∈ G_ := gt6 29 (by decide +kernel) (by decide +kernel)
theorem w_869 : Cond.instanceMethod yX10_ran ∈ G_ := gt6 30 (by decide +kernel) (by decide +kernel)
theorem w_870 : Cond.selects RX10 yX10_ran yX10_ran ∈ G_ := gt6 31 (by decide +kernel) (by decide +kernel)
theorem w_871 : Cond.code yX10_ran cX10_ran 3 (some (.int)) ∈ G_ := gt6 32 (by decide +kernel) (by decide +kernel)
theorem w_872 : Cond.methodLink RL 167 yL_kmAnew ∈ G_ := gt4 202 (by decide +kernel) (by decide +kernel)
theorem w_873 : Cond.static yL_kmAnew ∈ G_ := gt4 203 (by decide +kernel) (by decide +kernel)
theorem w_874 : Cond.methodLink RL 169 yX10_kmAnew ∈ G_ := gt6 33 (by decide +kernel) (by decide +kernel)
theorem w_875 : Cond.instanceMethod yX10_kmAnew ∈ G_ := gt6 34 (by decide +kernel) (by decide +kernel)
theorem w_876 : Cond.selects RX10 yX10_kmAnew yX10_kmAnew ∈ G_ := gt6 35 (by decide +kernel) (by decide +kernel)
theorem w_877 : Cond.code yX10_kmAnew cX10_kmAnew 4 (some (.int)) ∈ G_ := gt6 36 (by decide +kernel) (by decide +kernel)
def R_law : String := "StablingroadLaw"
def lw_P (b : Addr) (xs : List Int32) (args : Array Value) (s : State) : Prop := args = #[.ref b] ∧ s.IntsAt b xs ∧ xs.length ≤ 3072 ∧ (Jvm.Cond.and given_1 narrow_1).before args s = true
def lw_Q (_ : Array Value) (s : State) (o : Outcome) (t : State) : Prop := o = .returned (some (.int 1)) ∧ Framed s o t [] 601024 7293033
def lw_Z (below : List Frame) (a : Array Value) (s : State) : State → Prop := fun t => ∃ o, t.status = .running ∧ Ended t below o ∧ lw_Q a s o t
/-- the law's own end, with 1 on the stack, nothing written that was there before, its room as the claim has it -/
theorem lw_ret {p : Program} {l : Launch} {e : Env} {s : State} {m : MethodId} {below : List Frame} {meth : Method} {c : Code} {b : Nat} (hx : p.tables.exec = Jvm.exec) (hb : c.code = code) (hr : meth.sig.returnType = ret) (hlocks : meth.locks = false) {pc : Nat} {H : Heap} {ls : Array Slot} (hdg : decode code pc = .ok (.ireturn, 1)) : W p l e room_1 s m #[Value.ref b] below meth c H [] 601024 7293033 (lw_Z below #[Value.ref b] s) (F0 m pc ls [.int 1]) := by
  intro T hT X
  obtain ⟨fs, hret, hrun, hended, hW, hframe⟩ := X.leave (v := some (.int 1)) (hlocks := hlocks) (fun h => by rw [hr] at h; cases h)
  have hmeth' : T.vm.method? m = some meth := X.method'
  refine ⟨T.setFrames fs, ?_, .returned (some (.int 1)), hrun, hended, rfl, ⟨_, rfl⟩, hW, hframe⟩
  jvm_step X.here [X.here.top, hx, hb, hdg, hmeth', hr, ret, narrow_b1]
  (try refine ⟨rfl, ?_⟩); (try refine ⟨rfl, ?_⟩)
  first | (intro acts; rw [hret _ acts rfl rfl rfl]) | rw [hret _ _ rfl rfl rfl]
  exact Steps.refl _
/-- what holds at the law's entry: the machine, the code, the tables' words (any of lw_tbl by 'hts w (by decide +kernel)'), the script of L ints xs at the cell b, what the Statement gives of the start (any of its parts by flat_of_before) -/
def lw_At (p : Program) (s : State) (m : MethodId) (meth : Method) (c : Code) (b L : Nat) (xs : Nat → Int32) : Prop :=
  p.tables.exec = Jvm.exec ∧ c.code = code ∧ meth.sig.returnType = ret ∧ c.maxLocals = 7 ∧ s.vm.findClass R_law = some m.cls ∧ (∀ w ∈ lw_tbl, w.before #[Value.ref b] s = true) ∧ va_X b L xs s s.heap ∧ b < s.heap.size ∧ meth.locks = false ∧ (Jvm.Cond.and given_1 narrow_1).before #[Value.ref b] s = true
/-! the law's body -/
def LC (X : Xt) (b L : Nat) (xs : Nat → Int32) (p : Program) (s : State) (m : MethodId) (meth : Method) (c : Code) : Prop := p.tables.exec = Jvm.exec ∧ c.code = cL_law ∧ c.maxLocals = 7 ∧ s.vm.findClass RL = some m.cls ∧ (∀ w ∈ G_, w.before #[Value.ref b] s = true) ∧ va_K X.2.1 vwCl (tysX X) s ∧ SF X s ∧ X.1.stackTraces = false ∧ NcS s ∧ va_X b L xs s s.heap ∧ b < s.heap.size ∧ X.2.2.2.1 = s.heap.size ∧ meth.sig.returnType = some .boolean ∧ meth.locks = false
def Lw (X : Xt) (b L : Nat) (xs : Nat → Int32) (cs : Nat × Nat) (ad : Ad) (σ : Wd) (pc : Nat) (lv : List (Nat × Value)) (st : List Value) : Prop := ∀ p e s m below meth c, LC X b L xs p s m meth c → ∀ H locs ls, HW X ad σ H → va_S (Az X) s.heap H locs → lv_has ls 7 lv → W p X.1 e room_1 s m #[Value.ref b] below meth c H locs cs.1 cs.2 (lw_Z below #[Value.ref b] s) (F0 m pc ls st)
section QBK2
variable {X : Xt} {b L : Nat} {xs : Nat → Int32} {cs : Nat × Nat} {ad : Ad} {σ : Wd} {pc : Nat} {lv : List (Nat × Value)} {st : List Value}
theorem q_iconst {n : Int} (v : Int32) (hv : Int32.ofInt n = v) (hd : decode cL_law pc = .ok (.iconst n, 1)) (k : Lw X b L xs cs ad σ (pc + 1) lv (.int v :: st)) : Lw X b L xs cs ad σ pc lv st :=
  fun p e s m below meth c B H locs ls hH hS hl => lv_iconst B.1 B.2.1 hd hv (k p e s m below meth c B H locs ls hH hS hl)
theorem q_bipush {n : Int} (v : Int32) (hv : (Int8.ofInt n).toInt32 = v) (hd : decode cL_law pc = .ok (.bipush n, 2)) (k : Lw X b L xs cs ad σ (pc + 2) lv (.int v :: st)) : Lw X b L xs cs ad σ pc lv st :=
  fun p e s m below meth c B H locs ls hH hS hl => lv_bipush B.1 B.2.1 hd hv (k p e s m below meth c B H locs ls hH hS hl)
theorem q_iload {j : Nat} {x : Int32} (q : Nat) (hq : lv[q]? = some (j, .int x)) (hd : decode cL_law pc = .ok (.iload j, 2)) (k : Lw X b L xs cs ad σ (pc + 2) lv (.int x :: st)) : Lw X b L xs cs ad σ pc lv st :=
  fun p e s m below meth c B H locs ls hH hS hl => lv_iload B.1 B.2.1 hd (lv_at hl q hq) (k p e s m below meth c B H locs ls hH hS hl)
theorem q_aload_n {j : Fin 4} {x : Nat} (q : Nat) (hq : lv[q]? = some ((j : Nat), .ref x)) (hd : decode cL_law pc = .ok (.aload_n j, 1)) (k : Lw X b L xs cs ad σ (pc + 1) lv (.ref x :: st)) : Lw X b L xs cs ad σ pc lv st :=
  fun p e s m below meth c B H locs ls hH hS hl => lv_aload_n B.1 B.2.1 hd rfl (lv_at hl q hq) (k p e s m below meth c B H locs ls hH hS hl)
theorem q_iadd {x y : Int32} (hd : decode cL_law pc = .ok (.iadd, 1)) (k : Lw X b L xs cs ad σ (pc + 1) lv (.int (x + y) :: st)) : Lw X b L xs cs ad σ pc lv (.int y :: .int x :: st) :=
  fun p e s m below meth c B H locs ls hH hS hl => lv_iadd B.1 B.2.1 hd (k p e s m below meth c B H locs ls hH hS hl)
theorem q_isub {x y : Int32} (hd : decode cL_law pc = .ok (.isub, 1)) (k : Lw X b L xs cs ad σ (pc + 1) lv (.int (x - y) :: st)) : Lw X b L xs cs ad σ pc lv (.int y :: .int x :: st) :=
  fun p e s m below meth c B H locs ls hH hS hl => lv_isub B.1 B.2.1 hd (k p e s m below meth c B H locs ls hH hS hl)
theorem q_iand {x y : Int32} (hd : decode cL_law pc = .ok (.iand, 1)) (k : Lw X b L xs cs ad σ (pc + 1) lv (.int (x &&& y) :: st)) : Lw X b L xs cs ad σ pc lv (.int y :: .int x :: st) :=
  fun p e s m below meth c B H locs ls hH hS hl => lv_iand B.1 B.2.1 hd (k p e s m below meth c B H locs ls hH hS hl)
theorem q_istore {i : Nat} {x : Int32} (lv' : List (Nat × Value)) (hl' : (i, Value.int x) :: lv.filter (fun q => !(q.1 == i) && !(q.1 + 1 == i && q.2.category == 2)) = lv') (hn : i < 7) (hd : decode cL_law pc = .ok (.istore i, 2)) (k : Lw X b L xs cs ad σ (pc + 2) lv' st) : Lw X b L xs cs ad σ pc lv (.int x :: st) :=
  fun p e s m below meth c B H locs ls hH hS hl => lv_istore B.1 B.2.1 hd hl hn hl' (fun ls' hl2 => k p e s m below meth c B H locs ls' hH hS hl2)
theorem q_iinc {i : Nat} {n : Int} {x : Int32} (d : Int32) (lv' : List (Nat × Value)) (q : Nat) (hq : lv[q]? = some (i, .int x)) (hdv : Int32.ofInt n = d) (hl' : (i, Value.int (x + d)) :: lv.filter (fun q => !(q.1 == i) && !(q.1 + 1 == i && q.2.category == 2)) = lv') (hn : i < 7) (hd : decode cL_law pc = .ok (.iinc i n, 3)) (k : Lw X b L xs cs ad σ (pc + 3) lv' st) : Lw X b L xs cs ad σ pc lv st :=
  fun p e s m below meth c B H locs ls hH hS hl => lv_iinc B.1 B.2.1 hd hl hq (by rw [hdv]) hn hl' (fun ls' hl2 => k p e s m below meth c B H locs ls' hH hS hl2)
theorem q_goto {off : Int} (tgt : Nat) (hd : decode cL_law pc = .ok (.goto off, 3)) (ht : (pc : Int) + off = (tgt : Int)) (k : Lw X b L xs cs ad σ tgt lv st) : Lw X b L xs cs ad σ pc lv st :=
  fun p e s m below meth c B H locs ls hH hS hl => lv_goto B.1 B.2.1 hd ht (k p e s m below meth c B H locs ls hH hS hl)
theorem q_icmp_eqT {x y : Int32} {off : Int} (tgt : Nat) (hx : x = y) (hd : decode cL_law pc = .ok (.if_icmp .eq off, 3)) (ht : (pc : Int) + off = (tgt : Int)) (k : Lw X b L xs cs ad σ tgt lv st) : Lw X b L xs cs ad σ pc lv (.int y :: .int x :: st) :=
  fun p e s m below meth c B H locs ls hH hS hl => lv_icmp_eq B.1 B.2.1 hd ht (fun _ => k p e s m below meth c B H locs ls hH hS hl) (fun hc => absurd hx hc)
theorem q_icmp_gt {x y : Int32} {off : Int} (tgt : Nat) (hd : decode cL_law pc = .ok (.if_icmp .gt off, 3)) (ht : (pc : Int) + off = (tgt : Int)) (k1 : y < x → Lw X b L xs cs ad σ tgt lv st) (k2 : ¬ y < x → Lw X b L xs cs ad σ (pc + 3) lv st) : Lw X b L xs cs ad σ pc lv (.int y :: .int x :: st) :=
  fun p e s m below meth c B H locs ls hH hS hl => lv_icmp_gt B.1 B.2.1 hd ht (fun hc => k1 hc p e s m below meth c B H locs ls hH hS hl) (fun hc => k2 hc p e s m below meth c B H locs ls hH hS hl)
theorem q_if_ne {x : Int32} {off : Int} (tgt : Nat) (hd : decode cL_law pc = .ok (.ifCond .ne off, 3)) (ht : (pc : Int) + off = (tgt : Int)) (k1 : ¬ x = 0 → Lw X b L xs cs ad σ tgt lv st) (k2 : x = 0 → Lw X b L xs cs ad σ (pc + 3) lv st) : Lw X b L xs cs ad σ pc lv (.int x :: st) :=
  fun p e s m below meth c B H locs ls hH hS hl => lv_if_ne B.1 B.2.1 hd ht (fun hc => k1 hc p e s m below meth c B H locs ls hH hS hl) (fun hc => k2 hc p e s m below meth c B H locs ls hH hS hl)
theorem q_if_eqT {x : Int32} {off : Int} (tgt : Nat) (hx : x = 0) (hd : decode cL_law pc = .ok (.ifCond .eq off, 3)) (ht : (pc : Int) + off = (tgt : Int)) (k : Lw X b L xs cs ad σ tgt lv st) : Lw X b L xs cs ad σ pc lv (.int x :: st) :=
  fun p e s m below meth c B H locs ls hH hS hl => lv_if_eq B.1 B.2.1 hd ht (fun _ => k p e s m below meth c B H locs ls hH hS hl) (fun hc => absurd hx hc)
theorem q_if_eqF {x : Int32} {off : Int} (tgt : Nat) (hx : ¬ x = 0) (hd : decode cL_law pc = .ok (.ifCond .eq off, 3)) (ht : (pc : Int) + off = (tgt : Int)) (k : Lw X b L xs cs ad σ (pc + 3) lv st) : Lw X b L xs cs ad σ pc lv (.int x :: st) :=
  fun p e s m below meth c B H locs ls hH hS hl => lv_if_eq B.1 B.2.1 hd ht (fun hc => absurd hc hx) (fun _ => k p e s m below meth c B H locs ls hH hS hl)
theorem q_i2l {x : Int32} (hd : decode cL_law pc = .ok (.i2l, 1)) (k : Lw X b L xs cs ad σ (pc + 1) lv (.long x.toInt64 :: st)) : Lw X b L xs cs ad σ pc lv (.int x :: st) :=
  fun p e s m below meth c B H locs ls hH hS hl => lv_i2l B.1 B.2.1 hd rfl (k p e s m below meth c B H locs ls hH hS hl)
theorem q_lcmpE {x y : Int64} (hx : x = y) (hd : decode cL_law pc = .ok (.lcmp, 1)) (k : Lw X b L xs cs ad σ (pc + 1) lv (.int 0 :: st)) : Lw X b L xs cs ad σ pc lv (.long y :: .long x :: st) := by
  intro p e s m below meth c B H locs ls hH hS hl
  subst hx
  have h0 : lg_cmp x x = 0 := by simp [lg_cmp]
  exact W.lcmp B.1 B.2.1 hd (by rw [h0]; exact k p e s m below meth c B H locs ls hH hS hl)
theorem q_sld {i : Int32} (hin : inb i L) (hd : decode cL_law pc = .ok (.iaload, 1)) (k : Lw X b L xs cs ad σ (pc + 1) lv (.int (xs i.toNatClampNeg) :: st)) : Lw X b L xs cs ad σ pc lv (.int i :: .ref b :: st) := by
  intro p e s m below meth c B H locs ls hH hS hl
  obtain ⟨b1, b2, b3, b4, b5, b6, b7, b8, b9, b10, b11, b12, b13⟩ := B
  exact va_sld b1 b2 b10 b11 (A := Az X) (fun z => by have z2 : X.2.2.2.1 ≤ b := z; omega) hS (inb_vp hin) hd (k p e s m below meth c ⟨b1, b2, b3, b4, b5, b6, b7, b8, b9, b10, b11, b12, b13⟩ H locs ls hH hS hl)
theorem q_slen (hd : decode cL_law pc = .ok (.arraylength, 1)) (k : Lw X b L xs cs ad σ (pc + 1) lv (.int (Int32.ofNat L) :: st)) : Lw X b L xs cs ad σ pc lv (.ref b :: st) := by
  intro p e s m below meth c B H locs ls hH hS hl
  obtain ⟨b1, b2, b3, b4, b5, b6, b7, b8, b9, b10, b11, b12, b13⟩ := B
  exact va_slen b1 b2 b10 b11 (A := Az X) (fun z => by have z2 : X.2.2.2.1 ≤ b := z; omega) hS hd (k p e s m below meth c ⟨b1, b2, b3, b4, b5, b6, b7, b8, b9, b10, b11, b12, b13⟩ H locs ls hH hS hl)
theorem q_lald (hd : decode cL_law pc = .ok (.laload, 1)) (k : Lw X b L xs cs ad σ (pc + 1) lv (.long (σ.1 70 0 0).toInt64 :: st)) : Lw X b L xs cs ad σ pc lv (.int 0 :: .ref (ad 70 0) :: st) := by
  intro p e s m below meth c B H locs ls hH hS hl
  have hl70 : lvp σ 70 0 := lvs_70 _
  have hP : va_at X.2.1 vwCl (ad 70 0, .inl (X.2.2.1 6, 1, .inr (.inl (fun j => (σ.1 70 0 j).toInt64)))) H := by rw [← cell_70]; exact (hH.1 70 0 hl70).1
  exact va_lald B.1 B.2.1 B.2.2.2.2.2.1 (va_P1 hP) 0 6 rfl rfl (inb_vp ⟨by decide, by decide⟩) hd (k p e s m below meth c B H locs ls hH hS hl)
theorem q_tswIn {dflt lo9 hi : Int} {offs : Array Int} {len : Nat} {x y : Int32} {off : Int} (tgt : Nat) (hx : x = y) (hd : decode cL_law pc = .ok (.tableswitch dflt lo9 hi offs, len)) (h1 : ¬ y.toInt < lo9) (h2 : ¬ hi < y.toInt) (ho : (offs[(y.toInt - lo9).toNat]?).isSome = true) (hoo : (offs[(y.toInt - lo9).toNat]?).getD 0 = off) (ht : (pc : Int) + off = (tgt : Int)) (k : Lw X b L xs cs ad σ tgt lv st) : Lw X b L xs cs ad σ pc lv (.int x :: st) := by
  intro p e s m below meth c B H locs ls hH hS hl
  subst hx
  obtain ⟨z, hz⟩ := Option.isSome_iff_exists.mp ho
  rw [hz] at hoo
  cases hoo
  exact lv_tableIn B.1 B.2.1 hd h1 h2 hz ht (k p e s m below meth c B H locs ls hH hS hl)
theorem q_tswOut {dflt lo9 hi : Int} {offs : Array Int} {len : Nat} {x : Int32} (tgt : Nat) (hd : decode cL_law pc = .ok (.tableswitch dflt lo9 hi offs, len)) (hx : x.toInt < lo9 ∨ hi < x.toInt) (ht : (pc : Int) + dflt = (tgt : Int)) (k : Lw X b L xs cs ad σ tgt lv st) : Lw X b L xs cs ad σ pc lv (.int x :: st) :=
  fun p e s m below meth c B H locs ls hH hS hl => lv_tableOut B.1 B.2.1 hd hx ht (k p e s m below meth c B H locs ls hH hS hl)
theorem q_sub {lv' : List (Nat × Value)} (ks : List Nat) (hk : lv_pick lv ks = lv') (k : Lw X b L xs cs ad σ pc lv' st) : Lw X b L xs cs ad σ pc lv st := fun p e s m below meth c B H locs ls hH hS hl => k p e s m below meth c B H locs ls hH hS (lv_sub hl ks hk)
theorem q_widen {cs' : Nat × Nat} (h1 : cs.1 ≤ cs'.1) (h2 : cs.2 ≤ cs'.2) (k : Lw X b L xs cs' ad σ pc lv st) : Lw X b L xs cs ad σ pc lv st := fun p e s m below meth c B H locs ls hH hS hl => W.widen h1 h2 (k p e s m below meth c B H locs ls hH hS hl)
theorem q_end (hc : cs.1 ≤ 601024 ∧ cs.2 ≤ 7293033) (hd : decode cL_law pc = .ok (.ireturn, 1)) : Lw X b L xs cs ad σ pc lv [.int 1] := by
  intro p e s m below meth c B H locs ls hH hS hl
  obtain ⟨b1, b2, b3, b4, b5, b6, b7, b8, b9, b10, b11, b12, b13, b14⟩ := B
  refine W.widen hc.1 hc.2 ?_
  have k := W.forget (L := locs) (locs := []) (fun q hq => by
    have z : X.2.2.2.1 ≤ q.base := hS.2.2 q hq
    omega) (lw_ret (m := m) (b := b) (e := e) (below := below) (H := H) (ls := ls) (l := X.1) (s := s) b1 b2 b13 b14 hd)
  simpa using k
theorem q_callS {y : MethodName} {bytes : ByteArray} {nLc fr' lo' n index : Nat} {hh : List (Nat × Nat × Nat × Nat)} {kc' : Nat × Nat} {As stack : List Value} {kv : Int32} {σ1 : Wd} (wn : WN X y bytes nLc hh fr' lo' kc' ad σ As kv σ1)
    (hy : y.cls ≠ "java/lang/invoke/MethodHandle" ∧ y.cls ≠ "java/lang/invoke/VarHandle" ∧ (parseMethodDescriptor y.desc).map (fun d => d.parameters.length) = some n) (w1 : Cond.methodLink RL index y ∈ G_) (w2 : Cond.static y ∈ G_) (w4 : Cond.initialized y.cls ∈ G_) (w5 : Cond.codeWith y bytes nLc (some .int) hh ∈ G_)
    (hn : As.length = n) (hst : stack = As.reverse ++ st) (hsum : (st.map fun v => v.category).sum ≤ 8) (hroom : fr' + 1 ≤ 14 ∧ 8 + (nLc + 11) + lo' ≤ 530) (hkc : kc'.1 ≤ 6 ∧ kc'.2 ≤ 30) (hcs : cs.1 + 6 ≤ 601024 ∧ cs.2 + 30 ≤ 7293033) (hd : decode cL_law pc = .ok (.invokestatic index, 3))
    (kk : ∀ ad', Fx ad ad' → Lw X b L xs (cs.1 + 6, cs.2 + 30) ad' σ1 (pc + 3) lv (.int kv :: st)) : Lw X b L xs cs ad σ pc lv stack := by
  intro p e s m below meth c B H locs ls hH hS hl
  have b5 := B.2.2.2.2.1
  have b6 := B.2.2.2.2.2.1
  have b7 := B.2.2.2.2.2.2.1
  have b9 := B.2.2.2.2.2.2.2.2.1
  have hG : GoodIn G_ (va_wsS RL index y (Cond.codeWith y bytes nLc (some .int) hh :: G_)) := fun w hw => by
    have h1 : w ∈ G_ := by
      simp only [va_wsS, List.cons_append, List.nil_append, List.mem_cons] at hw
      rcases hw with rfl | rfl | rfl | rfl | h
      · exact w1
      · exact w2
      · exact w4
      · exact w5
      · exact h
    exact ⟨h1, good_of_word (G_good w h1)⟩
  have hrun := vx_runSX (R := room_1) (e := e) (below := below) (meth := meth) (locs := locs) (cells := cs.1) (slots := cs.2) (H := H) (g := F0 m pc ls stack) (rest := st) ⟨B.1, B.2.1, B.2.2.1, B.2.2.2.1, b5⟩ wn (vx_cwSW n b5 hG rfl rfl rfl hy hroom) ⟨PnL.blind, fun U hU hW => ⟨rfl, ⟨by rw [hU]; exact hH, va_K.moved hW.alike b6, b7.warm hW (by rw [hU]; exact hS.2.1)⟩, fun q hq => va_Nc.moved hW.alike (b9 q hq)⟩⟩ rfl hn hl.1 hst (lv_room hsum) hd ⟨Nat.le_trans (Nat.add_le_add_left hkc.1 _) hcs.1, Nat.le_trans (Nat.add_le_add_left hkc.2 _) hcs.2⟩
  intro T hT Y
  rcases hrun T hT Y with ⟨v0, st0, t, T', LL, h0, Y', hL, e1, e2, ⟨⟨v', hv1, hv2, ad', hf', hsw⟩, hF⟩, hgo⟩ | ⟨q, st0, t, T', LL, E', ce, h0, Y', hL, e1, e2, ⟨⟨hx, -⟩, -⟩, -⟩
  · cases hv1
    cases hv2
    obtain ⟨q1, q2, q3⟩ := vx_keep h0 e1 hS (fun _ _ z => z) (fun _ z => z) hL hF
    obtain ⟨t2, a1, c1⟩ := kk ad' hf' p e s m below meth c B T'.heap (locs ++ LL) ls (by rw [e1]; exact hsw) q3 hl T' rfl (stand_widen Y' (Nat.add_le_add_left hkc.1 _) (Nat.add_le_add_left hkc.2 _))
    exact ⟨t2, hgo t2 a1, c1⟩
  · cases hx
theorem q_callV {y : MethodName} {bytes : ByteArray} {maxL fr' lo' n index N ci t i : Nat} {C : String} {TT : u_T} {fs : List Value} {g : Option ((Int32 ⊕ String) × Wd)} {v : Int32} {σ1 : Wd} {As stack : List Value} (hc : cellv X ad σ t i = .inr (ci, fs)) (hlv : lvp σ t i) (hci : vwCl[ci]? = some (C, TT, N)) (hg : g = some (.inl v, σ1)) (nc : NC X (fun a => a = ad) y bytes maxL (some .int) fr' lo' vI (0, 0) ad σ (.ref (ad t i) :: As) g)
    (hy : y.cls = C ∧ y.cls ≠ "java/lang/invoke/MethodHandle" ∧ y.cls ≠ "java/lang/invoke/VarHandle" ∧ (parseMethodDescriptor y.desc).map (fun d => d.parameters.length) = some n)
    (w1 : Cond.methodLink RL index y ∈ G_) (w2 : Cond.instanceMethod y ∈ G_) (w3 : Cond.selects y.cls y y ∈ G_) (w4 : Cond.initialized y.cls ∈ G_) (w5 : Cond.code y bytes maxL (some .int) ∈ G_)
    (hn : As.length = n) (hst : stack = As.reverse ++ .ref (ad t i) :: st) (hsum : (st.map fun v => v.category).sum ≤ 8) (hroom : fr' + 1 ≤ 14 ∧ 8 + (maxL + 11) + lo' ≤ 530) (hcs : cs.1 ≤ 601024 ∧ cs.2 ≤ 7293033) (hd : decode cL_law pc = .ok (.invokevirtual index, 3))
    (kk : Lw X b L xs cs ad σ1 (pc + 3) lv (.int v :: st)) : Lw X b L xs cs ad σ pc lv stack := by
  intro p e s m below meth c B H locs ls hH hS hl
  have b5 := B.2.2.2.2.1
  have b6 := B.2.2.2.2.2.1
  have b7 := B.2.2.2.2.2.2.1
  have hat : va_at X.2.1 vwCl (ad t i, .inr (ci, fs)) H := by rw [← hc]; exact (hH.1 t i hlv).1
  have hG : GoodIn G_ (wsV RL index y.cls y (Cond.code y bytes maxL (some .int) :: G_)) := fun w hw => by
    have h1 : w ∈ G_ := by
      simp only [wsV, List.cons_append, List.nil_append, List.mem_cons] at hw
      rcases hw with rfl | rfl | rfl | rfl | rfl | h
      · exact w1
      · exact w2
      · exact w3
      · exact w4
      · exact w5
      · exact h
    exact ⟨h1, good_of_word (G_good w h1)⟩
  have hrun := vx_runV (R := room_1) (e := e) (below := below) (meth := meth) (locs := locs) (cells := cs.1) (slots := cs.2) (H := H) (b := ad t i) (As := As) (g := F0 m pc ls stack) (rest := st) ⟨B.1, B.2.1, B.2.2.1, B.2.2.2.1, b5⟩ (nc (Sum.inl v) σ1 hg) (C := y.cls) (cwV n b5 hG rfl rfl rfl ⟨rfl, hy.2⟩ hroom) ⟨Pn.blind, (by
      have hr := va_recv (q := (C, TT, N)) (q0 := 0) b6 (va_P1 hat) hci rfl
      rw [hy.1]
      exact hr), fun U hU hW => ⟨rfl, by rw [hU]; exact hH, va_K.moved hW.alike b6, b7.warm hW (by rw [hU]; exact hS.2.1)⟩⟩ rfl hn hl.1 hst (lv_room hsum) hd ⟨hcs.1, hcs.2⟩
  intro T hT Y
  rcases hrun T hT Y with ⟨v0, st0, t0, T', LL, h0, Y', hL, e1, e2, ⟨⟨v', hv1, hv2, ad', hf', hsw⟩, hF⟩, hgo⟩ | ⟨q, st0, t0, T', LL, E', ce, h0, Y', hL, e1, e2, ⟨⟨hx, -⟩, -⟩, -⟩
  · cases hv1
    cases hv2
    subst hf'
    obtain ⟨q1, q2, q3⟩ := vx_keep h0 e1 hS (fun _ _ z => z) (fun _ z => z) hL hF
    obtain ⟨t2, a1, c1⟩ := kk p e s m below meth c B T'.heap (locs ++ LL) ls (by rw [e1]; exact hsw) q3 hl T' rfl Y'
    exact ⟨t2, hgo t2 a1, c1⟩
  · cases hx
end QBK2
/-- one step that may be caught, and its answer by the reference -/
def caseF (g : Option (Int32 × Wd)) (h : Wd → Option ((Int32 ⊕ String) × Wd)) : Option Wd := match g with
  | none => none
  | some (k, σ1) => match h σ1 with
    | some (.inl bv, σ2) => match f_X10_thrown σ2 with
      | some (.inl t, σ3) => if t = k ∧ (k = 0 → (σ3.1 70 0 0).toInt64 = bv.toInt64) then some σ3 else none
      | _ => none
    | _ => none
theorem caseF_cases {g : Option (Int32 × Wd)} {h : Wd → Option ((Int32 ⊕ String) × Wd)} {σ' : Wd} (hc : caseF g h = some σ') : ∃ k σ1 bv σ2, g = some (k, σ1) ∧ h σ1 = some (.inl bv, σ2) ∧ f_X10_thrown σ2 = some (.inl k, σ') ∧ (k = 0 → (σ'.1 70 0 0).toInt64 = bv.toInt64) := by
  unfold caseF at hc
  match g, hc with
  | some (k, σ1), hc =>
    dsimp only at hc
    match h9 : h σ1, hc with
    | some (.inl bv, σ2), hc =>
      dsimp only at hc
      match h8 : f_X10_thrown σ2, hc with
      | some (.inl t, σ3), hc =>
        dsimp only at hc
        by_cases hk : t = k ∧ (k = 0 → (σ3.1 70 0 0).toInt64 = bv.toInt64)
        · rw [if_pos hk] at hc
          cases hc
          obtain ⟨rfl, hk2⟩ := hk
          exact ⟨_, _, _, _, rfl, h9, h8, hk2⟩
        · rw [if_neg hk] at hc
          cases hc
/-- one question that throws nothing -/
def caseG (g : Option ((Int32 ⊕ String) × Wd)) (h : Wd → Option ((Int32 ⊕ String) × Wd)) : Option Wd := match g with
  | some (.inl a, σ1) => match h σ1 with
    | some (.inl bv, σ2) => if a = bv then some σ2 else none
    | _ => none
  | _ => none
theorem caseG_cases {g : Option ((Int32 ⊕ String) × Wd)} {h : Wd → Option ((Int32 ⊕ String) × Wd)} {σ' : Wd} (hc : caseG g h = some σ') : ∃ a σ1, g = some (.inl a, σ1) ∧ h σ1 = some (.inl a, σ') := by
  unfold caseG at hc
  match g, hc with
  | some (.inl a, σ1), hc =>
    dsimp only at hc
    match h9 : h σ1, hc with
    | some (.inl bv, σ2), hc =>
      dsimp only at hc
      by_cases hk : a = bv
      · rw [if_pos hk] at hc
        cases hc
        subst hk
        exact ⟨_, _, rfl, h9⟩
      · rw [if_neg hk] at hc
        cases hc
/-- the law's variables between two steps -/
abbrev lvB (b : Nat) (ad : Ad) (i : Int32) : List (Nat × Value) := [(0, .ref b), (1, .ref (ad 0 0)), (2, .ref (ad 30 0)), (3, .ref (ad 70 0)), (4, .int i)]
theorem lvB_fx {b : Nat} {ad ad' : Ad} {i : Int32} (h : Fx ad ad') : lvB b ad i = lvB b ad' i := by
  unfold lvB
  rw [h 0 0 (by decide), h 30 0 (by decide), h 70 0 (by decide)]
def c_unit (σ : Wd) (w1 : Int32) (w2 : Int32) : Option Wd := caseF (g_unit σ w1 w2) (fun τ => f_X10_unit τ w1 w2)
theorem lc_unit (X : Xt) (hst : X.1.stackTraces = false) (b L : Nat) (xs : Nat → Int32) (cs : Nat × Nat) (ad : Ad) (σ σ' : Wd) (i : Int32) (hcs : cs.1 + 6 ≤ 601024 ∧ cs.2 + 30 ≤ 7293033) (h1 : inb (i + 1) L) (h2 : inb (i + 2) L) (h3 : inb (i + 3) L) (h4 : inb (i + 4) L) (h5 : inb (i + 5) L) (hc : c_unit σ (xs (i + 1).toNatClampNeg) (xs (i + 2).toNatClampNeg) = some σ') (hK : ∀ ad', Fx ad ad' → Lw X b L xs (cs.1 + 6, cs.2 + 30) ad' σ' 1611 (lvB b ad' i) []) : Lw X b L xs cs ad σ 148 (lvB b ad i) [] := by
  obtain ⟨k, σ1, bv, σ2, hg, hm, ht, hke⟩ := caseF_cases hc
  refine q_aload_n 1 rfl dL_law_148 ?_
  refine q_aload_n 0 rfl dL_law_149 ?_
  refine q_iload 4 rfl dL_law_150 ?_
  refine q_iconst 1 (by decide) dL_law_152 ?_
  refine q_iadd dL_law_153 ?_
  refine q_sld h1 dL_law_154 ?_
  refine q_aload_n 0 rfl dL_law_155 ?_
  refine q_iload 4 rfl dL_law_156 ?_
  refine q_iconst 2 (by decide) dL_law_158 ?_
  refine q_iadd dL_law_159 ?_
  refine q_sld h2 dL_law_160 ?_
  refine q_aload_n 3 rfl dL_law_161 ?_
  refine q_callS (n := 4) (As := [.ref _, .int _, .int _, .ref _]) (wn_unit X hst ad _ _ _ _ _ hg) ⟨by decide, by decide, by decide +kernel⟩ w_729 w_730 w_731 w_623 rfl rfl (Nat.le_of_ble_eq_true rfl) ⟨by decide, by decide⟩ ⟨by decide, by decide⟩ hcs dL_law_162 (fun ad' hfx => ?_)
  rw [lvB_fx hfx]
  refine q_istore [(5, .int _), (0, .ref _), (1, .ref _), (2, .ref _), (3, .ref _), (4, .int _)] rfl (by decide) dL_law_165 ?_
  refine q_aload_n 3 rfl dL_law_167 ?_
  refine q_aload_n 1 rfl dL_law_168 ?_
  refine q_iload 5 rfl dL_law_169 ?_
  refine q_iconst 1 (by decide) dL_law_171 ?_
  refine q_iadd dL_law_172 ?_
  refine q_sld h1 dL_law_173 ?_
  refine q_aload_n 1 rfl dL_law_174 ?_
  refine q_iload 5 rfl dL_law_175 ?_
  refine q_iconst 2 (by decide) dL_law_177 ?_
  refine q_iadd dL_law_178 ?_
  refine q_sld h2 dL_law_179 ?_
  refine q_callV (n := 2) (As := [.int _, .int _]) (cell_30 _ _ _ _) (lvs_30 _) rfl hm (nc_X10_unit X hst ad' _ _ _) ⟨rfl, by decide, by decide, by decide +kernel⟩ w_732 w_733 w_734 w_121 w_735 rfl rfl (Nat.le_of_ble_eq_true rfl) ⟨by decide, by decide⟩ hcs dL_law_180 ?_
  refine q_istore [(6, .int _), (5, .int _), (0, .ref _), (1, .ref _), (2, .ref _), (3, .ref _), (4, .int _)] rfl (by decide) dL_law_183 ?_
  refine q_aload_n 4 rfl dL_law_185 ?_
  refine q_callV (n := 0) (As := []) (cell_30 _ _ _ _) (lvs_30 _) rfl ht (nc_X10_thrown X hst ad' _) ⟨rfl, by decide, by decide, by decide +kernel⟩ w_736 w_737 w_738 w_121 w_739 rfl rfl (Nat.le_of_ble_eq_true rfl) ⟨by decide, by decide⟩ hcs dL_law_186 ?_
  refine q_iload 1 rfl dL_law_189 ?_
  refine q_icmp_eqT 196 rfl dL_law_191 (by decide) ?_
  refine q_iload 1 rfl dL_law_196 ?_
  have hend : Lw X b L xs (cs.1 + 6, cs.2 + 30) ad' σ' 213 [(6, .int bv), (5, .int k), (0, .ref b), (1, .ref (ad' 0 0)), (2, .ref (ad' 30 0)), (3, .ref (ad' 70 0)), (4, .int i)] [] := q_goto 1611 dL_law_213 (by decide) (q_sub [2, 3, 4, 5, 6] rfl (hK ad' hfx))
  refine q_if_ne 213 dL_law_198 (by decide) (fun _ => hend) (fun hk => ?_)
  refine q_aload_n 5 rfl dL_law_201 ?_
  refine q_iconst 0 (by decide) dL_law_202 ?_
  refine q_lald dL_law_203 ?_
  refine q_iload 0 rfl dL_law_204 ?_
  refine q_i2l dL_law_206 ?_
  refine q_lcmpE (hke hk) dL_law_207 ?_
  exact q_if_eqT 213 rfl dL_law_208 (by decide) hend
def c_diagram (σ : Wd) (w1 : Int32) (w2 : Int32) (w3 : Int32) (w4 : Int32) (w5 : Int32) : Option Wd := caseF (g_diagram σ w1 w2 w3 w4 w5) (fun τ => f_X10_diagram τ w1 w2 w3 w4 w5)
theorem lc_diagram (X : Xt) (hst : X.1.stackTraces = false) (b L : Nat) (xs : Nat → Int32) (cs : Nat × Nat) (ad : Ad) (σ σ' : Wd) (i : Int32) (hcs : cs.1 + 6 ≤ 601024 ∧ cs.2 + 30 ≤ 7293033) (h1 : inb (i + 1) L) (h2 : inb (i + 2) L) (h3 : inb (i + 3) L) (h4 : inb (i + 4) L) (h5 : inb (i + 5) L) (hc : c_diagram σ (xs (i + 1).toNatClampNeg) (xs (i + 2).toNatClampNeg) (xs (i + 3).toNatClampNeg) (xs (i + 4).toNatClampNeg) (xs (i + 5).toNatClampNeg) = some σ') (hK : ∀ ad', Fx ad ad' → Lw X b L xs (cs.1 + 6, cs.2 + 30) ad' σ' 1611 (lvB b ad' i) []) : Lw X b L xs cs ad σ 216 (lvB b ad i) [] := by
  obtain ⟨k, σ1, bv, σ2, hg, hm, ht, hke⟩ := caseF_cases hc
  refine q_aload_n 1 rfl dL_law_216 ?_
  refine q_aload_n 0 rfl dL_law_217 ?_
  refine q_iload 4 rfl dL_law_218 ?_
  refine q_iconst 1 (by decide) dL_law_220 ?_
  refine q_iadd dL_law_221 ?_
  refine q_sld h1 dL_law_222 ?_
  refine q_aload_n 0 rfl dL_law_223 ?_
  refine q_iload 4 rfl dL_law_224 ?_
  refine q_iconst 2 (by decide) dL_law_226 ?_
  refine q_iadd dL_law_227 ?_
  refine q_sld h2 dL_law_228 ?_
  refine q_aload_n 0 rfl dL_law_229 ?_
  refine q_iload 4 rfl dL_law_230 ?_
  refine q_iconst 3 (by decide) dL_law_232 ?_
  refine q_iadd dL_law_233 ?_
  refine q_sld h3 dL_law_234 ?_
  refine q_aload_n 0 rfl dL_law_235 ?_
  refine q_iload 4 rfl dL_law_236 ?_
  refine q_iconst 4 (by decide) dL_law_238 ?_
  refine q_iadd dL_law_239 ?_
  refine q_sld h4 dL_law_240 ?_
  refine q_aload_n 0 rfl dL_law_241 ?_
  refine q_iload 4 rfl dL_law_242 ?_
  refine q_iconst 5 (by decide) dL_law_244 ?_
  refine q_iadd dL_law_245 ?_
  refine q_sld h5 dL_law_246 ?_
  refine q_aload_n 3 rfl dL_law_247 ?_
  refine q_callS (n := 7) (As := [.ref _, .int _, .int _, .int _, .int _, .int _, .ref _]) (wn_diagram X hst ad _ _ _ _ _ _ _ _ hg) ⟨by decide, by decide, by decide +kernel⟩ w_740 w_741 w_731 w_634 rfl rfl (Nat.le_of_ble_eq_true rfl) ⟨by decide, by decide⟩ ⟨by decide, by decide⟩ hcs dL_law_248 (fun ad' hfx => ?_)
  rw [lvB_fx hfx]
  refine q_istore [(5, .int _), (0, .ref _), (1, .ref _), (2, .ref _), (3, .ref _), (4, .int _)] rfl (by decide) dL_law_251 ?_
  refine q_aload_n 3 rfl dL_law_253 ?_
  refine q_aload_n 1 rfl dL_law_254 ?_
  refine q_iload 5 rfl dL_law_255 ?_
  refine q_iconst 1 (by decide) dL_law_257 ?_
  refine q_iadd dL_law_258 ?_
  refine q_sld h1 dL_law_259 ?_
  refine q_aload_n 1 rfl dL_law_260 ?_
  refine q_iload 5 rfl dL_law_261 ?_
  refine q_iconst 2 (by decide) dL_law_263 ?_
  refine q_iadd dL_law_264 ?_
  refine q_sld h2 dL_law_265 ?_
  refine q_aload_n 1 rfl dL_law_266 ?_
  refine q_iload 5 rfl dL_law_267 ?_
  refine q_iconst 3 (by decide) dL_law_269 ?_
  refine q_iadd dL_law_270 ?_
  refine q_sld h3 dL_law_271 ?_
  refine q_aload_n 1 rfl dL_law_272 ?_
  refine q_iload 5 rfl dL_law_273 ?_
  refine q_iconst 4 (by decide) dL_law_275 ?_
  refine q_iadd dL_law_276 ?_
  refine q_sld h4 dL_law_277 ?_
  refine q_aload_n 1 rfl dL_law_278 ?_
  refine q_iload 5 rfl dL_law_279 ?_
  refine q_iconst 5 (by decide) dL_law_281 ?_
  refine q_iadd dL_law_282 ?_
  refine q_sld h5 dL_law_283 ?_
  refine q_callV (n := 5) (As := [.int _, .int _, .int _, .int _, .int _]) (cell_30 _ _ _ _) (lvs_30 _) rfl hm (nc_X10_diagram X hst ad' _ _ _ _ _ _) ⟨rfl, by decide, by decide, by decide +kernel⟩ w_742 w_743 w_744 w_121 w_745 rfl rfl (Nat.le_of_ble_eq_true rfl) ⟨by decide, by decide⟩ hcs dL_law_284 ?_
  refine q_istore [(6, .int _), (5, .int _), (0, .ref _), (1, .ref _), (2, .ref _), (3, .ref _), (4, .int _)] rfl (by decide) dL_law_287 ?_
  refine q_aload_n 4 rfl dL_law_289 ?_
  refine q_callV (n := 0) (As := []) (cell_30 _ _ _ _) (lvs_30 _) rfl ht (nc_X10_thrown X hst ad' _) ⟨rfl, by decide, by decide, by decide +kernel⟩ w_736 w_737 w_738 w_121 w_739 rfl rfl (Nat.le_of_ble_eq_true rfl) ⟨by decide, by decide⟩ hcs dL_law_290 ?_
  refine q_iload 1 rfl dL_law_293 ?_
  refine q_icmp_eqT 300 rfl dL_law_295 (by decide) ?_
  refine q_iload 1 rfl dL_law_300 ?_
  have hend : Lw X b L xs (cs.1 + 6, cs.2 + 30) ad' σ' 317 [(6, .int bv), (5, .int k), (0, .ref b), (1, .ref (ad' 0 0)), (2, .ref (ad' 30 0)), (3, .ref (ad' 70 0)), (4, .int i)] [] := q_goto 1611 dL_law_317 (by decide) (q_sub [2, 3, 4, 5, 6] rfl (hK ad' hfx))
  refine q_if_ne 317 dL_law_302 (by decide) (fun _ => hend) (fun hk => ?_)
  refine q_aload_n 5 rfl dL_law_305 ?_
  refine q_iconst 0 (by decide) dL_law_306 ?_
  refine q_lald dL_law_307 ?_
  refine q_iload 0 rfl dL_law_308 ?_
  refine q_i2l dL_law_310 ?_
  refine q_lcmpE (hke hk) dL_law_311 ?_
  exact q_if_eqT 317 rfl dL_law_312 (by decide) hend
def c_exam (σ : Wd) (w1 : Int32) (w2 : Int32) (w3 : Int32) (w4 : Int32) : Option Wd := caseF (g_exam σ w1 w2 w3 w4) (fun τ => f_X10_exam τ w1 w2 w3 w4)
theorem lc_exam (X : Xt) (hst : X.1.stackTraces = false) (b L : Nat) (xs : Nat → Int32) (cs : Nat × Nat) (ad : Ad) (σ σ' : Wd) (i : Int32) (hcs : cs.1 + 6 ≤ 601024 ∧ cs.2 + 30 ≤ 7293033) (h1 : inb (i + 1) L) (h2 : inb (i + 2) L) (h3 : inb (i + 3) L) (h4 : inb (i + 4) L) (h5 : inb (i + 5) L) (hc : c_exam σ (xs (i + 1).toNatClampNeg) (xs (i + 2).toNatClampNeg) (xs (i + 3).toNatClampNeg) (xs (i + 4).toNatClampNeg) = some σ') (hK : ∀ ad', Fx ad ad' → Lw X b L xs (cs.1 + 6, cs.2 + 30) ad' σ' 1611 (lvB b ad' i) []) : Lw X b L xs cs ad σ 320 (lvB b ad i) [] := by
  obtain ⟨k, σ1, bv, σ2, hg, hm, ht, hke⟩ := caseF_cases hc
  refine q_aload_n 1 rfl dL_law_320 ?_
  refine q_aload_n 0 rfl dL_law_321 ?_
  refine q_iload 4 rfl dL_law_322 ?_
  refine q_iconst 1 (by decide) dL_law_324 ?_
  refine q_iadd dL_law_325 ?_
  refine q_sld h1 dL_law_326 ?_
  refine q_aload_n 0 rfl dL_law_327 ?_
  refine q_iload 4 rfl dL_law_328 ?_
  refine q_iconst 2 (by decide) dL_law_330 ?_
  refine q_iadd dL_law_331 ?_
  refine q_sld h2 dL_law_332 ?_
  refine q_aload_n 0 rfl dL_law_333 ?_
  refine q_iload 4 rfl dL_law_334 ?_
  refine q_iconst 3 (by decide) dL_law_336 ?_
  refine q_iadd dL_law_337 ?_
  refine q_sld h3 dL_law_338 ?_
  refine q_aload_n 0 rfl dL_law_339 ?_
  refine q_iload 4 rfl dL_law_340 ?_
  refine q_iconst 4 (by decide) dL_law_342 ?_
  refine q_iadd dL_law_343 ?_
  refine q_sld h4 dL_law_344 ?_
  refine q_aload_n 3 rfl dL_law_345 ?_
  refine q_callS (n := 6) (As := [.ref _, .int _, .int _, .int _, .int _, .ref _]) (wn_exam X hst ad _ _ _ _ _ _ _ hg) ⟨by decide, by decide, by decide +kernel⟩ w_746 w_747 w_731 w_639 rfl rfl (Nat.le_of_ble_eq_true rfl) ⟨by decide, by decide⟩ ⟨by decide, by decide⟩ hcs dL_law_346 (fun ad' hfx => ?_)
  rw [lvB_fx hfx]
  refine q_istore [(5, .int _), (0, .ref _), (1, .ref _), (2, .ref _), (3, .ref _), (4, .int _)] rfl (by decide) dL_law_349 ?_
  refine q_aload_n 3 rfl dL_law_351 ?_
  refine q_aload_n 1 rfl dL_law_352 ?_
  refine q_iload 5 rfl dL_law_353 ?_
  refine q_iconst 1 (by decide) dL_law_355 ?_
  refine q_iadd dL_law_356 ?_
  refine q_sld h1 dL_law_357 ?_
  refine q_aload_n 1 rfl dL_law_358 ?_
  refine q_iload 5 rfl dL_law_359 ?_
  refine q_iconst 2 (by decide) dL_law_361 ?_
  refine q_iadd dL_law_362 ?_
  refine q_sld h2 dL_law_363 ?_
  refine q_aload_n 1 rfl dL_law_364 ?_
  refine q_iload 5 rfl dL_law_365 ?_
  refine q_iconst 3 (by decide) dL_law_367 ?_
  refine q_iadd dL_law_368 ?_
  refine q_sld h3 dL_law_369 ?_
  refine q_aload_n 1 rfl dL_law_370 ?_
  refine q_iload 5 rfl dL_law_371 ?_
  refine q_iconst 4 (by decide) dL_law_373 ?_
  refine q_iadd dL_law_374 ?_
  refine q_sld h4 dL_law_375 ?_
  refine q_callV (n := 4) (As := [.int _, .int _, .int _, .int _]) (cell_30 _ _ _ _) (lvs_30 _) rfl hm (nc_X10_exam X hst ad' _ _ _ _ _) ⟨rfl, by decide, by decide, by decide +kernel⟩ w_748 w_749 w_750 w_121 w_751 rfl rfl (Nat.le_of_ble_eq_true rfl) ⟨by decide, by decide⟩ hcs dL_law_376 ?_
  refine q_istore [(6, .int _), (5, .int _), (0, .ref _), (1, .ref _), (2, .ref _), (3, .ref _), (4, .int _)] rfl (by decide) dL_law_379 ?_
  refine q_aload_n 4 rfl dL_law_381 ?_
  refine q_callV (n := 0) (As := []) (cell_30 _ _ _ _) (lvs_30 _) rfl ht (nc_X10_thrown X hst ad' _) ⟨rfl, by decide, by decide, by decide +kernel⟩ w_736 w_737 w_738 w_121 w_739 rfl rfl (Nat.le_of_ble_eq_true rfl) ⟨by decide, by decide⟩ hcs dL_law_382 ?_
  refine q_iload 1 rfl dL_law_385 ?_
  refine q_icmp_eqT 392 rfl dL_law_387 (by decide) ?_
  refine q_iload 1 rfl dL_law_392 ?_
  have hend : Lw X b L xs (cs.1 + 6, cs.2 + 30) ad' σ' 409 [(6, .int bv), (5, .int k), (0, .ref b), (1, .ref (ad' 0 0)), (2, .ref (ad' 30 0)), (3, .ref (ad' 70 0)), (4, .int i)] [] := q_goto 1611 dL_law_409 (by decide) (q_sub [2, 3, 4, 5, 6] rfl (hK ad' hfx))
  refine q_if_ne 409 dL_law_394 (by decide) (fun _ => hend) (fun hk => ?_)
  refine q_aload_n 5 rfl dL_law_397 ?_
  refine q_iconst 0 (by decide) dL_law_398 ?_
  refine q_lald dL_law_399 ?_
  refine q_iload 0 rfl dL_law_400 ?_
  refine q_i2l dL_law_402 ?_
  refine q_lcmpE (hke hk) dL_law_403 ?_
  exact q_if_eqT 409 rfl dL_law_404 (by decide) hend
def c_list (σ : Wd) (w1 : Int32) (w2 : Int32) (w3 : Int32) : Option Wd := caseF (g_list σ w1 w2 w3) (fun τ => f_X10_list τ w1 w2 w3)
theorem lc_list (X : Xt) (hst : X.1.stackTraces = false) (b L : Nat) (xs : Nat → Int32) (cs : Nat × Nat) (ad : Ad) (σ σ' : Wd) (i : Int32) (hcs : cs.1 + 6 ≤ 601024 ∧ cs.2 + 30 ≤ 7293033) (h1 : inb (i + 1) L) (h2 : inb (i + 2) L) (h3 : inb (i + 3) L) (h4 : inb (i + 4) L) (h5 : inb (i + 5) L) (hc : c_list σ (xs (i + 1).toNatClampNeg) (xs (i + 2).toNatClampNeg) (xs (i + 3).toNatClampNeg) = some σ') (hK : ∀ ad', Fx ad ad' → Lw X b L xs (cs.1 + 6, cs.2 + 30) ad' σ' 1611 (lvB b ad' i) []) : Lw X b L xs cs ad σ 412 (lvB b ad i) [] := by
  obtain ⟨k, σ1, bv, σ2, hg, hm, ht, hke⟩ := caseF_cases hc
  refine q_aload_n 1 rfl dL_law_412 ?_
  refine q_aload_n 0 rfl dL_law_413 ?_
  refine q_iload 4 rfl dL_law_414 ?_
  refine q_iconst 1 (by decide) dL_law_416 ?_
  refine q_iadd dL_law_417 ?_
  refine q_sld h1 dL_law_418 ?_
  refine q_aload_n 0 rfl dL_law_419 ?_
  refine q_iload 4 rfl dL_law_420 ?_
  refine q_iconst 2 (by decide) dL_law_422 ?_
  refine q_iadd dL_law_423 ?_
  refine q_sld h2 dL_law_424 ?_
  refine q_aload_n 0 rfl dL_law_425 ?_
  refine q_iload 4 rfl dL_law_426 ?_
  refine q_iconst 3 (by decide) dL_law_428 ?_
  refine q_iadd dL_law_429 ?_
  refine q_sld h3 dL_law_430 ?_
  refine q_aload_n 3 rfl dL_law_431 ?_
  refine q_callS (n := 5) (As := [.ref _, .int _, .int _, .int _, .ref _]) (wn_list X hst ad _ _ _ _ _ _ hg) ⟨by decide, by decide, by decide +kernel⟩ w_752 w_753 w_731 w_644 rfl rfl (Nat.le_of_ble_eq_true rfl) ⟨by decide, by decide⟩ ⟨by decide, by decide⟩ hcs dL_law_432 (fun ad' hfx => ?_)
  rw [lvB_fx hfx]
  refine q_istore [(5, .int _), (0, .ref _), (1, .ref _), (2, .ref _), (3, .ref _), (4, .int _)] rfl (by decide) dL_law_435 ?_
  refine q_aload_n 3 rfl dL_law_437 ?_
  refine q_aload_n 1 rfl dL_law_438 ?_
  refine q_iload 5 rfl dL_law_439 ?_
  refine q_iconst 1 (by decide) dL_law_441 ?_
  refine q_iadd dL_law_442 ?_
  refine q_sld h1 dL_law_443 ?_
  refine q_aload_n 1 rfl dL_law_444 ?_
  refine q_iload 5 rfl dL_law_445 ?_
  refine q_iconst 2 (by decide) dL_law_447 ?_
  refine q_iadd dL_law_448 ?_
  refine q_sld h2 dL_law_449 ?_
  refine q_aload_n 1 rfl dL_law_450 ?_
  refine q_iload 5 rfl dL_law_451 ?_
  refine q_iconst 3 (by decide) dL_law_453 ?_
  refine q_iadd dL_law_454 ?_
  refine q_sld h3 dL_law_455 ?_
  refine q_callV (n := 3) (As := [.int _, .int _, .int _]) (cell_30 _ _ _ _) (lvs_30 _) rfl hm (nc_X10_list X hst ad' _ _ _ _) ⟨rfl, by decide, by decide, by decide +kernel⟩ w_754 w_755 w_756 w_121 w_757 rfl rfl (Nat.le_of_ble_eq_true rfl) ⟨by decide, by decide⟩ hcs dL_law_456 ?_
  refine q_istore [(6, .int _), (5, .int _), (0, .ref _), (1, .ref _), (2, .ref _), (3, .ref _), (4, .int _)] rfl (by decide) dL_law_459 ?_
  refine q_aload_n 4 rfl dL_law_461 ?_
  refine q_callV (n := 0) (As := []) (cell_30 _ _ _ _) (lvs_30 _) rfl ht (nc_X10_thrown X hst ad' _) ⟨rfl, by decide, by decide, by decide +kernel⟩ w_736 w_737 w_738 w_121 w_739 rfl rfl (Nat.le_of_ble_eq_true rfl) ⟨by decide, by decide⟩ hcs dL_law_462 ?_
  refine q_iload 1 rfl dL_law_465 ?_
  refine q_icmp_eqT 472 rfl dL_law_467 (by decide) ?_
  refine q_iload 1 rfl dL_law_472 ?_
  have hend : Lw X b L xs (cs.1 + 6, cs.2 + 30) ad' σ' 489 [(6, .int bv), (5, .int k), (0, .ref b), (1, .ref (ad' 0 0)), (2, .ref (ad' 30 0)), (3, .ref (ad' 70 0)), (4, .int i)] [] := q_goto 1611 dL_law_489 (by decide) (q_sub [2, 3, 4, 5, 6] rfl (hK ad' hfx))
  refine q_if_ne 489 dL_law_474 (by decide) (fun _ => hend) (fun hk => ?_)
  refine q_aload_n 5 rfl dL_law_477 ?_
  refine q_iconst 0 (by decide) dL_law_478 ?_
  refine q_lald dL_law_479 ?_
  refine q_iload 0 rfl dL_law_480 ?_
  refine q_i2l dL_law_482 ?_
  refine q_lcmpE (hke hk) dL_law_483 ?_
  exact q_if_eqT 489 rfl dL_law_484 (by decide) hend
def c_fault (σ : Wd) (w1 : Int32) (w2 : Int32) (w3 : Int32) (w4 : Int32) : Option Wd := caseF (g_fault σ w1 w2 w3 w4) (fun τ => f_X10_fault τ w1 w2 w3 w4)
theorem lc_fault (X : Xt) (hst : X.1.stackTraces = false) (b L : Nat) (xs : Nat → Int32) (cs : Nat × Nat) (ad : Ad) (σ σ' : Wd) (i : Int32) (hcs : cs.1 + 6 ≤ 601024 ∧ cs.2 + 30 ≤ 7293033) (h1 : inb (i + 1) L) (h2 : inb (i + 2) L) (h3 : inb (i + 3) L) (h4 : inb (i + 4) L) (h5 : inb (i + 5) L) (hc : c_fault σ (xs (i + 1).toNatClampNeg) (xs (i + 2).toNatClampNeg) (xs (i + 3).toNatClampNeg) (xs (i + 4).toNatClampNeg) = some σ') (hK : ∀ ad', Fx ad ad' → Lw X b L xs (cs.1 + 6, cs.2 + 30) ad' σ' 1611 (lvB b ad' i) []) : Lw X b L xs cs ad σ 492 (lvB b ad i) [] := by
  obtain ⟨k, σ1, bv, σ2, hg, hm, ht, hke⟩ := caseF_cases hc
  refine q_aload_n 1 rfl dL_law_492 ?_
  refine q_aload_n 0 rfl dL_law_493 ?_
  refine q_iload 4 rfl dL_law_494 ?_
  refine q_iconst 1 (by decide) dL_law_496 ?_
  refine q_iadd dL_law_497 ?_
  refine q_sld h1 dL_law_498 ?_
  refine q_aload_n 0 rfl dL_law_499 ?_
  refine q_iload 4 rfl dL_law_500 ?_
  refine q_iconst 2 (by decide) dL_law_502 ?_
  refine q_iadd dL_law_503 ?_
  refine q_sld h2 dL_law_504 ?_
  refine q_aload_n 0 rfl dL_law_505 ?_
  refine q_iload 4 rfl dL_law_506 ?_
  refine q_iconst 3 (by decide) dL_law_508 ?_
  refine q_iadd dL_law_509 ?_
  refine q_sld h3 dL_law_510 ?_
  refine q_aload_n 0 rfl dL_law_511 ?_
  refine q_iload 4 rfl dL_law_512 ?_
  refine q_iconst 4 (by decide) dL_law_514 ?_
  refine q_iadd dL_law_515 ?_
  refine q_sld h4 dL_law_516 ?_
  refine q_aload_n 3 rfl dL_law_517 ?_
  refine q_callS (n := 6) (As := [.ref _, .int _, .int _, .int _, .int _, .ref _]) (wn_fault X hst ad _ _ _ _ _ _ _ hg) ⟨by decide, by decide, by decide +kernel⟩ w_758 w_759 w_731 w_649 rfl rfl (Nat.le_of_ble_eq_true rfl) ⟨by decide, by decide⟩ ⟨by decide, by decide⟩ hcs dL_law_518 (fun ad' hfx => ?_)
  rw [lvB_fx hfx]
  refine q_istore [(5, .int _), (0, .ref _), (1, .ref _), (2, .ref _), (3, .ref _), (4, .int _)] rfl (by decide) dL_law_521 ?_
  refine q_aload_n 3 rfl dL_law_523 ?_
  refine q_aload_n 1 rfl dL_law_524 ?_
  refine q_iload 5 rfl dL_law_525 ?_
  refine q_iconst 1 (by decide) dL_law_527 ?_
  refine q_iadd dL_law_528 ?_
  refine q_sld h1 dL_law_529 ?_
  refine q_aload_n 1 rfl dL_law_530 ?_
  refine q_iload 5 rfl dL_law_531 ?_
  refine q_iconst 2 (by decide) dL_law_533 ?_
  refine q_iadd dL_law_534 ?_
  refine q_sld h2 dL_law_535 ?_
  refine q_aload_n 1 rfl dL_law_536 ?_
  refine q_iload 5 rfl dL_law_537 ?_
  refine q_iconst 3 (by decide) dL_law_539 ?_
  refine q_iadd dL_law_540 ?_
  refine q_sld h3 dL_law_541 ?_
  refine q_aload_n 1 rfl dL_law_542 ?_
  refine q_iload 5 rfl dL_law_543 ?_
  refine q_iconst 4 (by decide) dL_law_545 ?_
  refine q_iadd dL_law_546 ?_
  refine q_sld h4 dL_law_547 ?_
  refine q_callV (n := 4) (As := [.int _, .int _, .int _, .int _]) (cell_30 _ _ _ _) (lvs_30 _) rfl hm (nc_X10_fault X hst ad' _ _ _ _ _) ⟨rfl, by decide, by decide, by decide +kernel⟩ w_760 w_761 w_762 w_121 w_763 rfl rfl (Nat.le_of_ble_eq_true rfl) ⟨by decide, by decide⟩ hcs dL_law_548 ?_
  refine q_istore [(6, .int _), (5, .int _), (0, .ref _), (1, .ref _), (2, .ref _), (3, .ref _), (4, .int _)] rfl (by decide) dL_law_551 ?_
  refine q_aload_n 4 rfl dL_law_553 ?_
  refine q_callV (n := 0) (As := []) (cell_30 _ _ _ _) (lvs_30 _) rfl ht (nc_X10_thrown X hst ad' _) ⟨rfl, by decide, by decide, by decide +kernel⟩ w_736 w_737 w_738 w_121 w_739 rfl rfl (Nat.le_of_ble_eq_true rfl) ⟨by decide, by decide⟩ hcs dL_law_554 ?_
  refine q_iload 1 rfl dL_law_557 ?_
  refine q_icmp_eqT 564 rfl dL_law_559 (by decide) ?_
  refine q_iload 1 rfl dL_law_564 ?_
  have hend : Lw X b L xs (cs.1 + 6, cs.2 + 30) ad' σ' 581 [(6, .int bv), (5, .int k), (0, .ref b), (1, .ref (ad' 0 0)), (2, .ref (ad' 30 0)), (3, .ref (ad' 70 0)), (4, .int i)] [] := q_goto 1611 dL_law_581 (by decide) (q_sub [2, 3, 4, 5, 6] rfl (hK ad' hfx))
  refine q_if_ne 581 dL_law_566 (by decide) (fun _ => hend) (fun hk => ?_)
  refine q_aload_n 5 rfl dL_law_569 ?_
  refine q_iconst 0 (by decide) dL_law_570 ?_
  refine q_lald dL_law_571 ?_
  refine q_iload 0 rfl dL_law_572 ?_
  refine q_i2l dL_law_574 ?_
  refine q_lcmpE (hke hk) dL_law_575 ?_
  exact q_if_eqT 581 rfl dL_law_576 (by decide) hend
def c_pin (σ : Wd) (w1 : Int32) (w2 : Int32) : Option Wd := caseF (g_pin σ w1 w2) (fun τ => f_X10_pin τ w1 w2)
theorem lc_pin (X : Xt) (hst : X.1.stackTraces = false) (b L : Nat) (xs : Nat → Int32) (cs : Nat × Nat) (ad : Ad) (σ σ' : Wd) (i : Int32) (hcs : cs.1 + 6 ≤ 601024 ∧ cs.2 + 30 ≤ 7293033) (h1 : inb (i + 1) L) (h2 : inb (i + 2) L) (h3 : inb (i + 3) L) (h4 : inb (i + 4) L) (h5 : inb (i + 5) L) (hc : c_pin σ (xs (i + 1).toNatClampNeg) (xs (i + 2).toNatClampNeg) = some σ') (hK : ∀ ad', Fx ad ad' → Lw X b L xs (cs.1 + 6, cs.2 + 30) ad' σ' 1611 (lvB b ad' i) []) : Lw X b L xs cs ad σ 584 (lvB b ad i) [] := by
  obtain ⟨k, σ1, bv, σ2, hg, hm, ht, hke⟩ := caseF_cases hc
  refine q_aload_n 1 rfl dL_law_584 ?_
  refine q_aload_n 0 rfl dL_law_585 ?_
  refine q_iload 4 rfl dL_law_586 ?_
  refine q_iconst 1 (by decide) dL_law_588 ?_
  refine q_iadd dL_law_589 ?_
  refine q_sld h1 dL_law_590 ?_
  refine q_aload_n 0 rfl dL_law_591 ?_
  refine q_iload 4 rfl dL_law_592 ?_
  refine q_iconst 2 (by decide) dL_law_594 ?_
  refine q_iadd dL_law_595 ?_
  refine q_sld h2 dL_law_596 ?_
  refine q_aload_n 3 rfl dL_law_597 ?_
  refine q_callS (n := 4) (As := [.ref _, .int _, .int _, .ref _]) (wn_pin X hst ad _ _ _ _ _ hg) ⟨by decide, by decide, by decide +kernel⟩ w_764 w_765 w_731 w_654 rfl rfl (Nat.le_of_ble_eq_true rfl) ⟨by decide, by decide⟩ ⟨by decide, by decide⟩ hcs dL_law_598 (fun ad' hfx => ?_)
  rw [lvB_fx hfx]
  refine q_istore [(5, .int _), (0, .ref _), (1, .ref _), (2, .ref _), (3, .ref _), (4, .int _)] rfl (by decide) dL_law_601 ?_
  refine q_aload_n 3 rfl dL_law_603 ?_
  refine q_aload_n 1 rfl dL_law_604 ?_
  refine q_iload 5 rfl dL_law_605 ?_
  refine q_iconst 1 (by decide) dL_law_607 ?_
  refine q_iadd dL_law_608 ?_
  refine q_sld h1 dL_law_609 ?_
  refine q_aload_n 1 rfl dL_law_610 ?_
  refine q_iload 5 rfl dL_law_611 ?_
  refine q_iconst 2 (by decide) dL_law_613 ?_
  refine q_iadd dL_law_614 ?_
  refine q_sld h2 dL_law_615 ?_
  refine q_callV (n := 2) (As := [.int _, .int _]) (cell_30 _ _ _ _) (lvs_30 _) rfl hm (nc_X10_pin X hst ad' _ _ _) ⟨rfl, by decide, by decide, by decide +kernel⟩ w_766 w_767 w_768 w_121 w_769 rfl rfl (Nat.le_of_ble_eq_true rfl) ⟨by decide, by decide⟩ hcs dL_law_616 ?_
  refine q_istore [(6, .int _), (5, .int _), (0, .ref _), (1, .ref _), (2, .ref _), (3, .ref _), (4, .int _)] rfl (by decide) dL_law_619 ?_
  refine q_aload_n 4 rfl dL_law_621 ?_
  refine q_callV (n := 0) (As := []) (cell_30 _ _ _ _) (lvs_30 _) rfl ht (nc_X10_thrown X hst ad' _) ⟨rfl, by decide, by decide, by decide +kernel⟩ w_736 w_737 w_738 w_121 w_739 rfl rfl (Nat.le_of_ble_eq_true rfl) ⟨by decide, by decide⟩ hcs dL_law_622 ?_
  refine q_iload 1 rfl dL_law_625 ?_
  refine q_icmp_eqT 632 rfl dL_law_627 (by decide) ?_
  refine q_iload 1 rfl dL_law_632 ?_
  have hend : Lw X b L xs (cs.1 + 6, cs.2 + 30) ad' σ' 649 [(6, .int bv), (5, .int k), (0, .ref b), (1, .ref (ad' 0 0)), (2, .ref (ad' 30 0)), (3, .ref (ad' 70 0)), (4, .int i)] [] := q_goto 1611 dL_law_649 (by decide) (q_sub [2, 3, 4, 5, 6] rfl (hK ad' hfx))
  refine q_if_ne 649 dL_law_634 (by decide) (fun _ => hend) (fun hk => ?_)
  refine q_aload_n 5 rfl dL_law_637 ?_
  refine q_iconst 0 (by decide) dL_law_638 ?_
  refine q_lald dL_law_639 ?_
  refine q_iload 0 rfl dL_law_640 ?_
  refine q_i2l dL_law_642 ?_
  refine q_lcmpE (hke hk) dL_law_643 ?_
  exact q_if_eqT 649 rfl dL_law_644 (by decide) hend
def c_whyNot (σ : Wd) (w1 : Int32) (w2 : Int32) : Option Wd := caseF (g_whyNot σ w1 w2) (fun τ => f_X10_whyNot τ w1 w2)
theorem lc_whyNot (X : Xt) (hst : X.1.stackTraces = false) (b L : Nat) (xs : Nat → Int32) (cs : Nat × Nat) (ad : Ad) (σ σ' : Wd) (i : Int32) (hcs : cs.1 + 6 ≤ 601024 ∧ cs.2 + 30 ≤ 7293033) (h1 : inb (i + 1) L) (h2 : inb (i + 2) L) (h3 : inb (i + 3) L) (h4 : inb (i + 4) L) (h5 : inb (i + 5) L) (hc : c_whyNot σ (xs (i + 1).toNatClampNeg) (xs (i + 2).toNatClampNeg) = some σ') (hK : ∀ ad', Fx ad ad' → Lw X b L xs (cs.1 + 6, cs.2 + 30) ad' σ' 1611 (lvB b ad' i) []) : Lw X b L xs cs ad σ 652 (lvB b ad i) [] := by
  obtain ⟨k, σ1, bv, σ2, hg, hm, ht, hke⟩ := caseF_cases hc
  refine q_aload_n 1 rfl dL_law_652 ?_
  refine q_aload_n 0 rfl dL_law_653 ?_
  refine q_iload 4 rfl dL_law_654 ?_
  refine q_iconst 1 (by decide) dL_law_656 ?_
  refine q_iadd dL_law_657 ?_
  refine q_sld h1 dL_law_658 ?_
  refine q_aload_n 0 rfl dL_law_659 ?_
  refine q_iload 4 rfl dL_law_660 ?_
  refine q_iconst 2 (by decide) dL_law_662 ?_
  refine q_iadd dL_law_663 ?_
  refine q_sld h2 dL_law_664 ?_
  refine q_aload_n 3 rfl dL_law_665 ?_
  refine q_callS (n := 4) (As := [.ref _, .int _, .int _, .ref _]) (wn_whyNot X hst ad _ _ _ _ _ hg) ⟨by decide, by decide, by decide +kernel⟩ w_770 w_771 w_731 w_659 rfl rfl (Nat.le_of_ble_eq_true rfl) ⟨by decide, by decide⟩ ⟨by decide, by decide⟩ hcs dL_law_666 (fun ad' hfx => ?_)
  rw [lvB_fx hfx]
  refine q_istore [(5, .int _), (0, .ref _), (1, .ref _), (2, .ref _), (3, .ref _), (4, .int _)] rfl (by decide) dL_law_669 ?_
  refine q_aload_n 3 rfl dL_law_671 ?_
  refine q_aload_n 1 rfl dL_law_672 ?_
  refine q_iload 5 rfl dL_law_673 ?_
  refine q_iconst 1 (by decide) dL_law_675 ?_
  refine q_iadd dL_law_676 ?_
  refine q_sld h1 dL_law_677 ?_
  refine q_aload_n 1 rfl dL_law_678 ?_
  refine q_iload 5 rfl dL_law_679 ?_
  refine q_iconst 2 (by decide) dL_law_681 ?_
  refine q_iadd dL_law_682 ?_
  refine q_sld h2 dL_law_683 ?_
  refine q_callV (n := 2) (As := [.int _, .int _]) (cell_30 _ _ _ _) (lvs_30 _) rfl hm (nc_X10_whyNot X hst ad' _ _ _) ⟨rfl, by decide, by decide, by decide +kernel⟩ w_772 w_773 w_774 w_121 w_775 rfl rfl (Nat.le_of_ble_eq_true rfl) ⟨by decide, by decide⟩ hcs dL_law_684 ?_
  refine q_istore [(6, .int _), (5, .int _), (0, .ref _), (1, .ref _), (2, .ref _), (3, .ref _), (4, .int _)] rfl (by decide) dL_law_687 ?_
  refine q_aload_n 4 rfl dL_law_689 ?_
  refine q_callV (n := 0) (As := []) (cell_30 _ _ _ _) (lvs_30 _) rfl ht (nc_X10_thrown X hst ad' _) ⟨rfl, by decide, by decide, by decide +kernel⟩ w_736 w_737 w_738 w_121 w_739 rfl rfl (Nat.le_of_ble_eq_true rfl) ⟨by decide, by decide⟩ hcs dL_law_690 ?_
  refine q_iload 1 rfl dL_law_693 ?_
  refine q_icmp_eqT 700 rfl dL_law_695 (by decide) ?_
  refine q_iload 1 rfl dL_law_700 ?_
  have hend : Lw X b L xs (cs.1 + 6, cs.2 + 30) ad' σ' 717 [(6, .int bv), (5, .int k), (0, .ref b), (1, .ref (ad' 0 0)), (2, .ref (ad' 30 0)), (3, .ref (ad' 70 0)), (4, .int i)] [] := q_goto 1611 dL_law_717 (by decide) (q_sub [2, 3, 4, 5, 6] rfl (hK ad' hfx))
  refine q_if_ne 717 dL_law_702 (by decide) (fun _ => hend) (fun hk => ?_)
  refine q_aload_n 5 rfl dL_law_705 ?_
  refine q_iconst 0 (by decide) dL_law_706 ?_
  refine q_lald dL_law_707 ?_
  refine q_iload 0 rfl dL_law_708 ?_
  refine q_i2l dL_law_710 ?_
  refine q_lcmpE (hke hk) dL_law_711 ?_
  exact q_if_eqT 717 rfl dL_law_712 (by decide) hend
def c_allocation (σ : Wd) (w1 : Int32) : Option Wd := caseF (g_allocation σ w1) (fun τ => f_X10_allocation τ w1)
theorem lc_allocation (X : Xt) (hst : X.1.stackTraces = false) (b L : Nat) (xs : Nat → Int32) (cs : Nat × Nat) (ad : Ad) (σ σ' : Wd) (i : Int32) (hcs : cs.1 + 6 ≤ 601024 ∧ cs.2 + 30 ≤ 7293033) (h1 : inb (i + 1) L) (h2 : inb (i + 2) L) (h3 : inb (i + 3) L) (h4 : inb (i + 4) L) (h5 : inb (i + 5) L) (hc : c_allocation σ (xs (i + 1).toNatClampNeg) = some σ') (hK : ∀ ad', Fx ad ad' → Lw X b L xs (cs.1 + 6, cs.2 + 30) ad' σ' 1611 (lvB b ad' i) []) : Lw X b L xs cs ad σ 720 (lvB b ad i) [] := by
  obtain ⟨k, σ1, bv, σ2, hg, hm, ht, hke⟩ := caseF_cases hc
  refine q_aload_n 1 rfl dL_law_720 ?_
  refine q_aload_n 0 rfl dL_law_721 ?_
  refine q_iload 4 rfl dL_law_722 ?_
  refine q_iconst 1 (by decide) dL_law_724 ?_
  refine q_iadd dL_law_725 ?_
  refine q_sld h1 dL_law_726 ?_
  refine q_aload_n 3 rfl dL_law_727 ?_
  refine q_callS (n := 3) (As := [.ref _, .int _, .ref _]) (wn_allocation X hst ad _ _ _ _ hg) ⟨by decide, by decide, by decide +kernel⟩ w_776 w_777 w_731 w_664 rfl rfl (Nat.le_of_ble_eq_true rfl) ⟨by decide, by decide⟩ ⟨by decide, by decide⟩ hcs dL_law_728 (fun ad' hfx => ?_)
  rw [lvB_fx hfx]
  refine q_istore [(5, .int _), (0, .ref _), (1, .ref _), (2, .ref _), (3, .ref _), (4, .int _)] rfl (by decide) dL_law_731 ?_
  refine q_aload_n 3 rfl dL_law_733 ?_
  refine q_aload_n 1 rfl dL_law_734 ?_
  refine q_iload 5 rfl dL_law_735 ?_
  refine q_iconst 1 (by decide) dL_law_737 ?_
  refine q_iadd dL_law_738 ?_
  refine q_sld h1 dL_law_739 ?_
  refine q_callV (n := 1) (As := [.int _]) (cell_30 _ _ _ _) (lvs_30 _) rfl hm (nc_X10_allocation X hst ad' _ _) ⟨rfl, by decide, by decide, by decide +kernel⟩ w_778 w_779 w_780 w_121 w_781 rfl rfl (Nat.le_of_ble_eq_true rfl) ⟨by decide, by decide⟩ hcs dL_law_740 ?_
  refine q_istore [(6, .int _), (5, .int _), (0, .ref _), (1, .ref _), (2, .ref _), (3, .ref _), (4, .int _)] rfl (by decide) dL_law_743 ?_
  refine q_aload_n 4 rfl dL_law_745 ?_
  refine q_callV (n := 0) (As := []) (cell_30 _ _ _ _) (lvs_30 _) rfl ht (nc_X10_thrown X hst ad' _) ⟨rfl, by decide, by decide, by decide +kernel⟩ w_736 w_737 w_738 w_121 w_739 rfl rfl (Nat.le_of_ble_eq_true rfl) ⟨by decide, by decide⟩ hcs dL_law_746 ?_
  refine q_iload 1 rfl dL_law_749 ?_
  refine q_icmp_eqT 756 rfl dL_law_751 (by decide) ?_
  refine q_iload 1 rfl dL_law_756 ?_
  have hend : Lw X b L xs (cs.1 + 6, cs.2 + 30) ad' σ' 773 [(6, .int bv), (5, .int k), (0, .ref b), (1, .ref (ad' 0 0)), (2, .ref (ad' 30 0)), (3, .ref (ad' 70 0)), (4, .int i)] [] := q_goto 1611 dL_law_773 (by decide) (q_sub [2, 3, 4, 5, 6] rfl (hK ad' hfx))
  refine q_if_ne 773 dL_law_758 (by decide) (fun _ => hend) (fun hk => ?_)
  refine q_aload_n 5 rfl dL_law_761 ?_
  refine q_iconst 0 (by decide) dL_law_762 ?_
  refine q_lald dL_law_763 ?_
  refine q_iload 0 rfl dL_law_764 ?_
  refine q_i2l dL_law_766 ?_
  refine q_lcmpE (hke hk) dL_law_767 ?_
  exact q_if_eqT 773 rfl dL_law_768 (by decide) hend
def c_allocationAnew (σ : Wd) (w1 : Int32) : Option Wd := caseF (g_allocationAnew σ w1) (fun τ => f_X10_allocationAnew τ w1)
theorem lc_allocationAnew (X : Xt) (hst : X.1.stackTraces = false) (b L : Nat) (xs : Nat → Int32) (cs : Nat × Nat) (ad : Ad) (σ σ' : Wd) (i : Int32) (hcs : cs.1 + 6 ≤ 601024 ∧ cs.2 + 30 ≤ 7293033) (h1 : inb (i + 1) L) (h2 : inb (i + 2) L) (h3 : inb (i + 3) L) (h4 : inb (i + 4) L) (h5 : inb (i + 5) L) (hc : c_allocationAnew σ (xs (i + 1).toNatClampNeg) = some σ') (hK : ∀ ad', Fx ad ad' → Lw X b L xs (cs.1 + 6, cs.2 + 30) ad' σ' 1611 (lvB b ad' i) []) : Lw X b L xs cs ad σ 776 (lvB b ad i) [] := by
  obtain ⟨k, σ1, bv, σ2, hg, hm, ht, hke⟩ := caseF_cases hc
  refine q_aload_n 1 rfl dL_law_776 ?_
  refine q_aload_n 0 rfl dL_law_777 ?_
  refine q_iload 4 rfl dL_law_778 ?_
  refine q_iconst 1 (by decide) dL_law_780 ?_
  refine q_iadd dL_law_781 ?_
  refine q_sld h1 dL_law_782 ?_
  refine q_aload_n 3 rfl dL_law_783 ?_
  refine q_callS (n := 3) (As := [.ref _, .int _, .ref _]) (wn_allocationAnew X hst ad _ _ _ _ hg) ⟨by decide, by decide, by decide +kernel⟩ w_782 w_783 w_731 w_669 rfl rfl (Nat.le_of_ble_eq_true rfl) ⟨by decide, by decide⟩ ⟨by decide, by decide⟩ hcs dL_law_784 (fun ad' hfx => ?_)
  rw [lvB_fx hfx]
  refine q_istore [(5, .int _), (0, .ref _), (1, .ref _), (2, .ref _), (3, .ref _), (4, .int _)] rfl (by decide) dL_law_787 ?_
  refine q_aload_n 3 rfl dL_law_789 ?_
  refine q_aload_n 1 rfl dL_law_790 ?_
  refine q_iload 5 rfl dL_law_791 ?_
  refine q_iconst 1 (by decide) dL_law_793 ?_
  refine q_iadd dL_law_794 ?_
  refine q_sld h1 dL_law_795 ?_
  refine q_callV (n := 1) (As := [.int _]) (cell_30 _ _ _ _) (lvs_30 _) rfl hm (nc_X10_allocationAnew X hst ad' _ _) ⟨rfl, by decide, by decide, by decide +kernel⟩ w_784 w_785 w_786 w_121 w_787 rfl rfl (Nat.le_of_ble_eq_true rfl) ⟨by decide, by decide⟩ hcs dL_law_796 ?_
  refine q_istore [(6, .int _), (5, .int _), (0, .ref _), (1, .ref _), (2, .ref _), (3, .ref _), (4, .int _)] rfl (by decide) dL_law_799 ?_
  refine q_aload_n 4 rfl dL_law_801 ?_
  refine q_callV (n := 0) (As := []) (cell_30 _ _ _ _) (lvs_30 _) rfl ht (nc_X10_thrown X hst ad' _) ⟨rfl, by decide, by decide, by decide +kernel⟩ w_736 w_737 w_738 w_121 w_739 rfl rfl (Nat.le_of_ble_eq_true rfl) ⟨by decide, by decide⟩ hcs dL_law_802 ?_
  refine q_iload 1 rfl dL_law_805 ?_
  refine q_icmp_eqT 812 rfl dL_law_807 (by decide) ?_
  refine q_iload 1 rfl dL_law_812 ?_
  have hend : Lw X b L xs (cs.1 + 6, cs.2 + 30) ad' σ' 829 [(6, .int bv), (5, .int k), (0, .ref b), (1, .ref (ad' 0 0)), (2, .ref (ad' 30 0)), (3, .ref (ad' 70 0)), (4, .int i)] [] := q_goto 1611 dL_law_829 (by decide) (q_sub [2, 3, 4, 5, 6] rfl (hK ad' hfx))
  refine q_if_ne 829 dL_law_814 (by decide) (fun _ => hend) (fun hk => ?_)
  refine q_aload_n 5 rfl dL_law_817 ?_
  refine q_iconst 0 (by decide) dL_law_818 ?_
  refine q_lald dL_law_819 ?_
  refine q_iload 0 rfl dL_law_820 ?_
  refine q_i2l dL_law_822 ?_
  refine q_lcmpE (hke hk) dL_law_823 ?_
  exact q_if_eqT 829 rfl dL_law_824 (by decide) hend
def c_lack (σ : Wd) : Option Wd := caseG (f_X9_lack σ) (fun τ => f_X10_lack τ)
theorem lc_lack (X : Xt) (hst : X.1.stackTraces = false) (b L : Nat) (xs : Nat → Int32) (cs : Nat × Nat) (ad : Ad) (σ σ' : Wd) (i : Int32) (hcs : cs.1 + 6 ≤ 601024 ∧ cs.2 + 30 ≤ 7293033) (h1 : inb (i + 1) L) (h2 : inb (i + 2) L) (h3 : inb (i + 3) L) (h4 : inb (i + 4) L) (h5 : inb (i + 5) L) (hc : c_lack σ = some σ') (hK : ∀ ad', Fx ad ad' → Lw X b L xs (cs.1 + 6, cs.2 + 30) ad' σ' 1611 (lvB b ad' i) []) : Lw X b L xs cs ad σ 832 (lvB b ad i) [] := by
  obtain ⟨a, σ1, hg, hm⟩ := caseG_cases hc
  refine q_aload_n 1 rfl dL_law_832 ?_
  refine q_callV (n := 0) (As := []) (cell_0 _ _ _ _) (lvs_0 _) rfl hg (nc_X9_lack X hst ad _) ⟨rfl, by decide, by decide, by decide +kernel⟩ w_788 w_789 w_790 w_325 w_791 rfl rfl (Nat.le_of_ble_eq_true rfl) ⟨by decide, by decide⟩ ⟨Nat.le_of_add_right_le hcs.1, Nat.le_of_add_right_le hcs.2⟩ dL_law_833 ?_
  refine q_aload_n 2 rfl dL_law_836 ?_
  refine q_callV (n := 0) (As := []) (cell_30 _ _ _ _) (lvs_30 _) rfl hm (nc_X10_lack X hst ad _) ⟨rfl, by decide, by decide, by decide +kernel⟩ w_792 w_793 w_794 w_121 w_795 rfl rfl (Nat.le_of_ble_eq_true rfl) ⟨by decide, by decide⟩ ⟨Nat.le_of_add_right_le hcs.1, Nat.le_of_add_right_le hcs.2⟩ dL_law_837 ?_
  exact q_icmp_eqT 1611 rfl dL_law_840 (by decide) (q_widen (Nat.le_add_right _ _) (Nat.le_add_right _ _) (hK ad (Fx.rf ad)))
def c_day (σ : Wd) : Option Wd := caseF (g_day σ) (fun τ => f_X10_day τ)
theorem lc_day (X : Xt) (hst : X.1.stackTraces = false) (b L : Nat) (xs : Nat → Int32) (cs : Nat × Nat) (ad : Ad) (σ σ' : Wd) (i : Int32) (hcs : cs.1 + 6 ≤ 601024 ∧ cs.2 + 30 ≤ 7293033) (h1 : inb (i + 1) L) (h2 : inb (i + 2) L) (h3 : inb (i + 3) L) (h4 : inb (i + 4) L) (h5 : inb (i + 5) L) (hc : c_day σ = some σ') (hK : ∀ ad', Fx ad ad' → Lw X b L xs (cs.1 + 6, cs.2 + 30) ad' σ' 1611 (lvB b ad' i) []) : Lw X b L xs cs ad σ 845 (lvB b ad i) [] := by
  obtain ⟨k, σ1, bv, σ2, hg, hm, ht, hke⟩ := caseF_cases hc
  refine q_aload_n 1 rfl dL_law_845 ?_
  refine q_aload_n 3 rfl dL_law_846 ?_
  refine q_callS (n := 2) (As := [.ref _, .ref _]) (wn_day X hst ad _ _ _ hg) ⟨by decide, by decide, by decide +kernel⟩ w_796 w_797 w_731 w_674 rfl rfl (Nat.le_of_ble_eq_true rfl) ⟨by decide, by decide⟩ ⟨by decide, by decide⟩ hcs dL_law_847 (fun ad' hfx => ?_)
  rw [lvB_fx hfx]
  refine q_istore [(5, .int _), (0, .ref _), (1, .ref _), (2, .ref _), (3, .ref _), (4, .int _)] rfl (by decide) dL_law_850 ?_
  refine q_aload_n 3 rfl dL_law_852 ?_
  refine q_callV (n := 0) (As := []) (cell_30 _ _ _ _) (lvs_30 _) rfl hm (nc_X10_day X hst ad' _) ⟨rfl, by decide, by decide, by decide +kernel⟩ w_798 w_799 w_800 w_121 w_801 rfl rfl (Nat.le_of_ble_eq_true rfl) ⟨by decide, by decide⟩ hcs dL_law_853 ?_
  refine q_istore [(6, .int _), (5, .int _), (0, .ref _), (1, .ref _), (2, .ref _), (3, .ref _), (4, .int _)] rfl (by decide) dL_law_856 ?_
  refine q_aload_n 4 rfl dL_law_858 ?_
  refine q_callV (n := 0) (As := []) (cell_30 _ _ _ _) (lvs_30 _) rfl ht (nc_X10_thrown X hst ad' _) ⟨rfl, by decide, by decide, by decide +kernel⟩ w_736 w_737 w_738 w_121 w_739 rfl rfl (Nat.le_of_ble_eq_true rfl) ⟨by decide, by decide⟩ hcs dL_law_859 ?_
  refine q_iload 1 rfl dL_law_862 ?_
  refine q_icmp_eqT 869 rfl dL_law_864 (by decide) ?_
  refine q_iload 1 rfl dL_law_869 ?_
  have hend : Lw X b L xs (cs.1 + 6, cs.2 + 30) ad' σ' 886 [(6, .int bv), (5, .int k), (0, .ref b), (1, .ref (ad' 0 0)), (2, .ref (ad' 30 0)), (3, .ref (ad' 70 0)), (4, .int i)] [] := q_goto 1611 dL_law_886 (by decide) (q_sub [2, 3, 4, 5, 6] rfl (hK ad' hfx))
  refine q_if_ne 886 dL_law_871 (by decide) (fun _ => hend) (fun hk => ?_)
  refine q_aload_n 5 rfl dL_law_874 ?_
  refine q_iconst 0 (by decide) dL_law_875 ?_
  refine q_lald dL_law_876 ?_
  refine q_iload 0 rfl dL_law_877 ?_
  refine q_i2l dL_law_879 ?_
  refine q_lcmpE (hke hk) dL_law_880 ?_
  exact q_if_eqT 886 rfl dL_law_881 (by decide) hend
def c_examine (σ : Wd) (w1 : Int32) (w2 : Int32) : Option Wd := caseF (g_examine σ w1 w2) (fun τ => f_X10_examine τ w1 w2)
theorem lc_examine (X : Xt) (hst : X.1.stackTraces = false) (b L : Nat) (xs : Nat → Int32) (cs : Nat × Nat) (ad : Ad) (σ σ' : Wd) (i : Int32) (hcs : cs.1 + 6 ≤ 601024 ∧ cs.2 + 30 ≤ 7293033) (h1 : inb (i + 1) L) (h2 : inb (i + 2) L) (h3 : inb (i + 3) L) (h4 : inb (i + 4) L) (h5 : inb (i + 5) L) (hc : c_examine σ (xs (i + 1).toNatClampNeg) (xs (i + 2).toNatClampNeg) = some σ') (hK : ∀ ad', Fx ad ad' → Lw X b L xs (cs.1 + 6, cs.2 + 30) ad' σ' 1611 (lvB b ad' i) []) : Lw X b L xs cs ad σ 889 (lvB b ad i) [] := by
  obtain ⟨k, σ1, bv, σ2, hg, hm, ht, hke⟩ := caseF_cases hc
  refine q_aload_n 1 rfl dL_law_889 ?_
  refine q_aload_n 0 rfl dL_law_890 ?_
  refine q_iload 4 rfl dL_law_891 ?_
  refine q_iconst 1 (by decide) dL_law_893 ?_
  refine q_iadd dL_law_894 ?_
  refine q_sld h1 dL_law_895 ?_
  refine q_aload_n 0 rfl dL_law_896 ?_
  refine q_iload 4 rfl dL_law_897 ?_
  refine q_iconst 2 (by decide) dL_law_899 ?_
  refine q_iadd dL_law_900 ?_
  refine q_sld h2 dL_law_901 ?_
  refine q_aload_n 3 rfl dL_law_902 ?_
  refine q_callS (n := 4) (As := [.ref _, .int _, .int _, .ref _]) (wn_examine X hst ad _ _ _ _ _ hg) ⟨by decide, by decide, by decide +kernel⟩ w_802 w_803 w_731 w_679 rfl rfl (Nat.le_of_ble_eq_true rfl) ⟨by decide, by decide⟩ ⟨by decide, by decide⟩ hcs dL_law_903 (fun ad' hfx => ?_)
  rw [lvB_fx hfx]
  refine q_istore [(5, .int _), (0, .ref _), (1, .ref _), (2, .ref _), (3, .ref _), (4, .int _)] rfl (by decide) dL_law_906 ?_
  refine q_aload_n 3 rfl dL_law_908 ?_
  refine q_aload_n 1 rfl dL_law_909 ?_
  refine q_iload 5 rfl dL_law_910 ?_
  refine q_iconst 1 (by decide) dL_law_912 ?_
  refine q_iadd dL_law_913 ?_
  refine q_sld h1 dL_law_914 ?_
  refine q_aload_n 1 rfl dL_law_915 ?_
  refine q_iload 5 rfl dL_law_916 ?_
  refine q_iconst 2 (by decide) dL_law_918 ?_
  refine q_iadd dL_law_919 ?_
  refine q_sld h2 dL_law_920 ?_
  refine q_callV (n := 2) (As := [.int _, .int _]) (cell_30 _ _ _ _) (lvs_30 _) rfl hm (nc_X10_examine X hst ad' _ _ _) ⟨rfl, by decide, by decide, by decide +kernel⟩ w_804 w_805 w_806 w_121 w_807 rfl rfl (Nat.le_of_ble_eq_true rfl) ⟨by decide, by decide⟩ hcs dL_law_921 ?_
  refine q_istore [(6, .int _), (5, .int _), (0, .ref _), (1, .ref _), (2, .ref _), (3, .ref _), (4, .int _)] rfl (by decide) dL_law_924 ?_
  refine q_aload_n 4 rfl dL_law_926 ?_
  refine q_callV (n := 0) (As := []) (cell_30 _ _ _ _) (lvs_30 _) rfl ht (nc_X10_thrown X hst ad' _) ⟨rfl, by decide, by decide, by decide +kernel⟩ w_736 w_737 w_738 w_121 w_739 rfl rfl (Nat.le_of_ble_eq_true rfl) ⟨by decide, by decide⟩ hcs dL_law_927 ?_
  refine q_iload 1 rfl dL_law_930 ?_
  refine q_icmp_eqT 937 rfl dL_law_932 (by decide) ?_
  refine q_iload 1 rfl dL_law_937 ?_
  have hend : Lw X b L xs (cs.1 + 6, cs.2 + 30) ad' σ' 954 [(6, .int bv), (5, .int k), (0, .ref b), (1, .ref (ad' 0 0)), (2, .ref (ad' 30 0)), (3, .ref (ad' 70 0)), (4, .int i)] [] := q_goto 1611 dL_law_954 (by decide) (q_sub [2, 3, 4, 5, 6] rfl (hK ad' hfx))
  refine q_if_ne 954 dL_law_939 (by decide) (fun _ => hend) (fun hk => ?_)
  refine q_aload_n 5 rfl dL_law_942 ?_
  refine q_iconst 0 (by decide) dL_law_943 ?_
  refine q_lald dL_law_944 ?_
  refine q_iload 0 rfl dL_law_945 ?_
  refine q_i2l dL_law_947 ?_
  refine q_lcmpE (hke hk) dL_law_948 ?_
  exact q_if_eqT 954 rfl dL_law_949 (by decide) hend
def c_lathe (σ : Wd) (w1 : Int32) : Option Wd := caseF (g_lathe σ w1) (fun τ => f_X10_lathe τ w1)
theorem lc_lathe (X : Xt) (hst : X.1.stackTraces = false) (b L : Nat) (xs : Nat → Int32) (cs : Nat × Nat) (ad : Ad) (σ σ' : Wd) (i : Int32) (hcs : cs.1 + 6 ≤ 601024 ∧ cs.2 + 30 ≤ 7293033) (h1 : inb (i + 1) L) (h2 : inb (i + 2) L) (h3 : inb (i + 3) L) (h4 : inb (i + 4) L) (h5 : inb (i + 5) L) (hc : c_lathe σ (xs (i + 1).toNatClampNeg) = some σ') (hK : ∀ ad', Fx ad ad' → Lw X b L xs (cs.1 + 6, cs.2 + 30) ad' σ' 1611 (lvB b ad' i) []) : Lw X b L xs cs ad σ 957 (lvB b ad i) [] := by
  obtain ⟨k, σ1, bv, σ2, hg, hm, ht, hke⟩ := caseF_cases hc
  refine q_aload_n 1 rfl dL_law_957 ?_
  refine q_aload_n 0 rfl dL_law_958 ?_
  refine q_iload 4 rfl dL_law_959 ?_
  refine q_iconst 1 (by decide) dL_law_961 ?_
  refine q_iadd dL_law_962 ?_
  refine q_sld h1 dL_law_963 ?_
  refine q_aload_n 3 rfl dL_law_964 ?_
  refine q_callS (n := 3) (As := [.ref _, .int _, .ref _]) (wn_lathe X hst ad _ _ _ _ hg) ⟨by decide, by decide, by decide +kernel⟩ w_808 w_809 w_731 w_684 rfl rfl (Nat.le_of_ble_eq_true rfl) ⟨by decide, by decide⟩ ⟨by decide, by decide⟩ hcs dL_law_965 (fun ad' hfx => ?_)
  rw [lvB_fx hfx]
  refine q_istore [(5, .int _), (0, .ref _), (1, .ref _), (2, .ref _), (3, .ref _), (4, .int _)] rfl (by decide) dL_law_968 ?_
  refine q_aload_n 3 rfl dL_law_970 ?_
  refine q_aload_n 1 rfl dL_law_971 ?_
  refine q_iload 5 rfl dL_law_972 ?_
  refine q_iconst 1 (by decide) dL_law_974 ?_
  refine q_iadd dL_law_975 ?_
  refine q_sld h1 dL_law_976 ?_
  refine q_callV (n := 1) (As := [.int _]) (cell_30 _ _ _ _) (lvs_30 _) rfl hm (nc_X10_lathe X hst ad' _ _) ⟨rfl, by decide, by decide, by decide +kernel⟩ w_810 w_811 w_812 w_121 w_813 rfl rfl (Nat.le_of_ble_eq_true rfl) ⟨by decide, by decide⟩ hcs dL_law_977 ?_
  refine q_istore [(6, .int _), (5, .int _), (0, .ref _), (1, .ref _), (2, .ref _), (3, .ref _), (4, .int _)] rfl (by decide) dL_law_980 ?_
  refine q_aload_n 4 rfl dL_law_982 ?_
  refine q_callV (n := 0) (As := []) (cell_30 _ _ _ _) (lvs_30 _) rfl ht (nc_X10_thrown X hst ad' _) ⟨rfl, by decide, by decide, by decide +kernel⟩ w_736 w_737 w_738 w_121 w_739 rfl rfl (Nat.le_of_ble_eq_true rfl) ⟨by decide, by decide⟩ hcs dL_law_983 ?_
  refine q_iload 1 rfl dL_law_986 ?_
  refine q_icmp_eqT 993 rfl dL_law_988 (by decide) ?_
  refine q_iload 1 rfl dL_law_993 ?_
  have hend : Lw X b L xs (cs.1 + 6, cs.2 + 30) ad' σ' 1010 [(6, .int bv), (5, .int k), (0, .ref b), (1, .ref (ad' 0 0)), (2, .ref (ad' 30 0)), (3, .ref (ad' 70 0)), (4, .int i)] [] := q_goto 1611 dL_law_1010 (by decide) (q_sub [2, 3, 4, 5, 6] rfl (hK ad' hfx))
  refine q_if_ne 1010 dL_law_995 (by decide) (fun _ => hend) (fun hk => ?_)
  refine q_aload_n 5 rfl dL_law_998 ?_
  refine q_iconst 0 (by decide) dL_law_999 ?_
  refine q_lald dL_law_1000 ?_
  refine q_iload 0 rfl dL_law_1001 ?_
  refine q_i2l dL_law_1003 ?_
  refine q_lcmpE (hke hk) dL_law_1004 ?_
  exact q_if_eqT 1010 rfl dL_law_1005 (by decide) hend
def c_mend (σ : Wd) (w1 : Int32) (w2 : Int32) : Option Wd := caseF (g_mend σ w1 w2) (fun τ => f_X10_mend τ w1 w2)
theorem lc_mend (X : Xt) (hst : X.1.stackTraces = false) (b L : Nat) (xs : Nat → Int32) (cs : Nat × Nat) (ad : Ad) (σ σ' : Wd) (i : Int32) (hcs : cs.1 + 6 ≤ 601024 ∧ cs.2 + 30 ≤ 7293033) (h1 : inb (i + 1) L) (h2 : inb (i + 2) L) (h3 : inb (i + 3) L) (h4 : inb (i + 4) L) (h5 : inb (i + 5) L) (hc : c_mend σ (xs (i + 1).toNatClampNeg) (xs (i + 2).toNatClampNeg) = some σ') (hK : ∀ ad', Fx ad ad' → Lw X b L xs (cs.1 + 6, cs.2 + 30) ad' σ' 1611 (lvB b ad' i) []) : Lw X b L xs cs ad σ 1013 (lvB b ad i) [] := by
  obtain ⟨k, σ1, bv, σ2, hg, hm, ht, hke⟩ := caseF_cases hc
  refine q_aload_n 1 rfl dL_law_1013 ?_
  refine q_aload_n 0 rfl dL_law_1014 ?_
  refine q_iload 4 rfl dL_law_1015 ?_
  refine q_iconst 1 (by decide) dL_law_1017 ?_
  refine q_iadd dL_law_1018 ?_
  refine q_sld h1 dL_law_1019 ?_
  refine q_aload_n 0 rfl dL_law_1020 ?_
  refine q_iload 4 rfl dL_law_1021 ?_
  refine q_iconst 2 (by decide) dL_law_1023 ?_
  refine q_iadd dL_law_1024 ?_
  refine q_sld h2 dL_law_1025 ?_
  refine q_aload_n 3 rfl dL_law_1026 ?_
  refine q_callS (n := 4) (As := [.ref _, .int _, .int _, .ref _]) (wn_mend X hst ad _ _ _ _ _ hg) ⟨by decide, by decide, by decide +kernel⟩ w_814 w_815 w_731 w_689 rfl rfl (Nat.le_of_ble_eq_true rfl) ⟨by decide, by decide⟩ ⟨by decide, by decide⟩ hcs dL_law_1027 (fun ad' hfx => ?_)
  rw [lvB_fx hfx]
  refine q_istore [(5, .int _), (0, .ref _), (1, .ref _), (2, .ref _), (3, .ref _), (4, .int _)] rfl (by decide) dL_law_1030 ?_
  refine q_aload_n 3 rfl dL_law_1032 ?_
  refine q_aload_n 1 rfl dL_law_1033 ?_
  refine q_iload 5 rfl dL_law_1034 ?_
  refine q_iconst 1 (by decide) dL_law_1036 ?_
  refine q_iadd dL_law_1037 ?_
  refine q_sld h1 dL_law_1038 ?_
  refine q_aload_n 1 rfl dL_law_1039 ?_
  refine q_iload 5 rfl dL_law_1040 ?_
  refine q_iconst 2 (by decide) dL_law_1042 ?_
  refine q_iadd dL_law_1043 ?_
  refine q_sld h2 dL_law_1044 ?_
  refine q_callV (n := 2) (As := [.int _, .int _]) (cell_30 _ _ _ _) (lvs_30 _) rfl hm (nc_X10_mend X hst ad' _ _ _) ⟨rfl, by decide, by decide, by decide +kernel⟩ w_816 w_817 w_818 w_121 w_819 rfl rfl (Nat.le_of_ble_eq_true rfl) ⟨by decide, by decide⟩ hcs dL_law_1045 ?_
  refine q_istore [(6, .int _), (5, .int _), (0, .ref _), (1, .ref _), (2, .ref _), (3, .ref _), (4, .int _)] rfl (by decide) dL_law_1048 ?_
  refine q_aload_n 4 rfl dL_law_1050 ?_
  refine q_callV (n := 0) (As := []) (cell_30 _ _ _ _) (lvs_30 _) rfl ht (nc_X10_thrown X hst ad' _) ⟨rfl, by decide, by decide, by decide +kernel⟩ w_736 w_737 w_738 w_121 w_739 rfl rfl (Nat.le_of_ble_eq_true rfl) ⟨by decide, by decide⟩ hcs dL_law_1051 ?_
  refine q_iload 1 rfl dL_law_1054 ?_
  refine q_icmp_eqT 1061 rfl dL_law_1056 (by decide) ?_
  refine q_iload 1 rfl dL_law_1061 ?_
  have hend : Lw X b L xs (cs.1 + 6, cs.2 + 30) ad' σ' 1078 [(6, .int bv), (5, .int k), (0, .ref b), (1, .ref (ad' 0 0)), (2, .ref (ad' 30 0)), (3, .ref (ad' 70 0)), (4, .int i)] [] := q_goto 1611 dL_law_1078 (by decide) (q_sub [2, 3, 4, 5, 6] rfl (hK ad' hfx))
  refine q_if_ne 1078 dL_law_1063 (by decide) (fun _ => hend) (fun hk => ?_)
  refine q_aload_n 5 rfl dL_law_1066 ?_
  refine q_iconst 0 (by decide) dL_law_1067 ?_
  refine q_lald dL_law_1068 ?_
  refine q_iload 0 rfl dL_law_1069 ?_
  refine q_i2l dL_law_1071 ?_
  refine q_lcmpE (hke hk) dL_law_1072 ?_
  exact q_if_eqT 1078 rfl dL_law_1073 (by decide) hend
def c_today (σ : Wd) : Option Wd := caseG (f_X9_today σ) (fun τ => f_X10_today τ)
theorem lc_today (X : Xt) (hst : X.1.stackTraces = false) (b L : Nat) (xs : Nat → Int32) (cs : Nat × Nat) (ad : Ad) (σ σ' : Wd) (i : Int32) (hcs : cs.1 + 6 ≤ 601024 ∧ cs.2 + 30 ≤ 7293033) (h1 : inb (i + 1) L) (h2 : inb (i + 2) L) (h3 : inb (i + 3) L) (h4 : inb (i + 4) L) (h5 : inb (i + 5) L) (hc : c_today σ = some σ') (hK : ∀ ad', Fx ad ad' → Lw X b L xs (cs.1 + 6, cs.2 + 30) ad' σ' 1611 (lvB b ad' i) []) : Lw X b L xs cs ad σ 1081 (lvB b ad i) [] := by
  obtain ⟨a, σ1, hg, hm⟩ := caseG_cases hc
  refine q_aload_n 1 rfl dL_law_1081 ?_
  refine q_callV (n := 0) (As := []) (cell_0 _ _ _ _) (lvs_0 _) rfl hg (nc_X9_today X hst ad _) ⟨rfl, by decide, by decide, by decide +kernel⟩ w_820 w_821 w_822 w_325 w_823 rfl rfl (Nat.le_of_ble_eq_true rfl) ⟨by decide, by decide⟩ ⟨Nat.le_of_add_right_le hcs.1, Nat.le_of_add_right_le hcs.2⟩ dL_law_1082 ?_
  refine q_aload_n 2 rfl dL_law_1085 ?_
  refine q_callV (n := 0) (As := []) (cell_30 _ _ _ _) (lvs_30 _) rfl hm (nc_X10_today X hst ad _) ⟨rfl, by decide, by decide, by decide +kernel⟩ w_824 w_825 w_826 w_121 w_827 rfl rfl (Nat.le_of_ble_eq_true rfl) ⟨by decide, by decide⟩ ⟨Nat.le_of_add_right_le hcs.1, Nat.le_of_add_right_le hcs.2⟩ dL_law_1086 ?_
  exact q_icmp_eqT 1611 rfl dL_law_1089 (by decide) (q_widen (Nat.le_add_right _ _) (Nat.le_add_right _ _) (hK ad (Fx.rf ad)))
def c_about (σ : Wd) (w1 : Int32) (w2 : Int32) : Option Wd := caseF (g_about σ w1 w2) (fun τ => f_X10_about τ w1 w2)
theorem lc_about (X : Xt) (hst : X.1.stackTraces = false) (b L : Nat) (xs : Nat → Int32) (cs : Nat × Nat) (ad : Ad) (σ σ' : Wd) (i : Int32) (hcs : cs.1 + 6 ≤ 601024 ∧ cs.2 + 30 ≤ 7293033) (h1 : inb (i + 1) L) (h2 : inb (i + 2) L) (h3 : inb (i + 3) L) (h4 : inb (i + 4) L) (h5 : inb (i + 5) L) (hc : c_about σ (xs (i + 1).toNatClampNeg) (xs (i + 2).toNatClampNeg) = some σ') (hK : ∀ ad', Fx ad ad' → Lw X b L xs (cs.1 + 6, cs.2 + 30) ad' σ' 1611 (lvB b ad' i) []) : Lw X b L xs cs ad σ 1094 (lvB b ad i) [] := by
  obtain ⟨k, σ1, bv, σ2, hg, hm, ht, hke⟩ := caseF_cases hc
  refine q_aload_n 1 rfl dL_law_1094 ?_
  refine q_aload_n 0 rfl dL_law_1095 ?_
  refine q_iload 4 rfl dL_law_1096 ?_
  refine q_iconst 1 (by decide) dL_law_1098 ?_
  refine q_iadd dL_law_1099 ?_
  refine q_sld h1 dL_law_1100 ?_
  refine q_aload_n 0 rfl dL_law_1101 ?_
  refine q_iload 4 rfl dL_law_1102 ?_
  refine q_iconst 2 (by decide) dL_law_1104 ?_
  refine q_iadd dL_law_1105 ?_
  refine q_sld h2 dL_law_1106 ?_
  refine q_aload_n 3 rfl dL_law_1107 ?_
  refine q_callS (n := 4) (As := [.ref _, .int _, .int _, .ref _]) (wn_about X hst ad _ _ _ _ _ hg) ⟨by decide, by decide, by decide +kernel⟩ w_828 w_829 w_731 w_694 rfl rfl (Nat.le_of_ble_eq_true rfl) ⟨by decide, by decide⟩ ⟨by decide, by decide⟩ hcs dL_law_1108 (fun ad' hfx => ?_)
  rw [lvB_fx hfx]
  refine q_istore [(5, .int _), (0, .ref _), (1, .ref _), (2, .ref _), (3, .ref _), (4, .int _)] rfl (by decide) dL_law_1111 ?_
  refine q_aload_n 3 rfl dL_law_1113 ?_
  refine q_aload_n 1 rfl dL_law_1114 ?_
  refine q_iload 5 rfl dL_law_1115 ?_
  refine q_iconst 1 (by decide) dL_law_1117 ?_
  refine q_iadd dL_law_1118 ?_
  refine q_sld h1 dL_law_1119 ?_
  refine q_aload_n 1 rfl dL_law_1120 ?_
  refine q_iload 5 rfl dL_law_1121 ?_
  refine q_iconst 2 (by decide) dL_law_1123 ?_
  refine q_iadd dL_law_1124 ?_
  refine q_sld h2 dL_law_1125 ?_
  refine q_callV (n := 2) (As := [.int _, .int _]) (cell_30 _ _ _ _) (lvs_30 _) rfl hm (nc_X10_about X hst ad' _ _ _) ⟨rfl, by decide, by decide, by decide +kernel⟩ w_830 w_831 w_832 w_121 w_833 rfl rfl (Nat.le_of_ble_eq_true rfl) ⟨by decide, by decide⟩ hcs dL_law_1126 ?_
  refine q_istore [(6, .int _), (5, .int _), (0, .ref _), (1, .ref _), (2, .ref _), (3, .ref _), (4, .int _)] rfl (by decide) dL_law_1129 ?_
  refine q_aload_n 4 rfl dL_law_1131 ?_
  refine q_callV (n := 0) (As := []) (cell_30 _ _ _ _) (lvs_30 _) rfl ht (nc_X10_thrown X hst ad' _) ⟨rfl, by decide, by decide, by decide +kernel⟩ w_736 w_737 w_738 w_121 w_739 rfl rfl (Nat.le_of_ble_eq_true rfl) ⟨by decide, by decide⟩ hcs dL_law_1132 ?_
  refine q_iload 1 rfl dL_law_1135 ?_
  refine q_icmp_eqT 1142 rfl dL_law_1137 (by decide) ?_
  refine q_iload 1 rfl dL_law_1142 ?_
  have hend : Lw X b L xs (cs.1 + 6, cs.2 + 30) ad' σ' 1159 [(6, .int bv), (5, .int k), (0, .ref b), (1, .ref (ad' 0 0)), (2, .ref (ad' 30 0)), (3, .ref (ad' 70 0)), (4, .int i)] [] := q_goto 1611 dL_law_1159 (by decide) (q_sub [2, 3, 4, 5, 6] rfl (hK ad' hfx))
  refine q_if_ne 1159 dL_law_1144 (by decide) (fun _ => hend) (fun hk => ?_)
  refine q_aload_n 5 rfl dL_law_1147 ?_
  refine q_iconst 0 (by decide) dL_law_1148 ?_
  refine q_lald dL_law_1149 ?_
  refine q_iload 0 rfl dL_law_1150 ?_
  refine q_i2l dL_law_1152 ?_
  refine q_lcmpE (hke hk) dL_law_1153 ?_
  exact q_if_eqT 1159 rfl dL_law_1154 (by decide) hend
def c_clock (σ : Wd) (w1 : Int32) (w2 : Int32) (w3 : Int32) : Option Wd := caseF (g_clock σ w1 w2 (if w3 = 0 then 0 else 1)) (fun τ => f_X10_clock τ w1 w2 (if w3 = 0 then 0 else 1))
theorem lc_clock (X : Xt) (hst : X.1.stackTraces = false) (b L : Nat) (xs : Nat → Int32) (cs : Nat × Nat) (ad : Ad) (σ σ' : Wd) (i : Int32) (hcs : cs.1 + 6 ≤ 601024 ∧ cs.2 + 30 ≤ 7293033) (h1 : inb (i + 1) L) (h2 : inb (i + 2) L) (h3 : inb (i + 3) L) (h4 : inb (i + 4) L) (h5 : inb (i + 5) L) (hc : c_clock σ (xs (i + 1).toNatClampNeg) (xs (i + 2).toNatClampNeg) (xs (i + 3).toNatClampNeg) = some σ') (hK : ∀ ad', Fx ad ad' → Lw X b L xs (cs.1 + 6, cs.2 + 30) ad' σ' 1611 (lvB b ad' i) []) : Lw X b L xs cs ad σ 1162 (lvB b ad i) [] := by
  unfold c_clock at hc
  by_cases hb : xs (i + 3).toNatClampNeg = 0
  · rw [if_pos hb] at hc
    obtain ⟨k, σ1, bv, σ2, hg, hm, ht, hke⟩ := caseF_cases hc
    refine q_aload_n 1 rfl dL_law_1162 ?_
    refine q_aload_n 0 rfl dL_law_1163 ?_
    refine q_iload 4 rfl dL_law_1164 ?_
    refine q_iconst 1 (by decide) dL_law_1166 ?_
    refine q_iadd dL_law_1167 ?_
    refine q_sld h1 dL_law_1168 ?_
    refine q_aload_n 0 rfl dL_law_1169 ?_
    refine q_iload 4 rfl dL_law_1170 ?_
    refine q_iconst 2 (by decide) dL_law_1172 ?_
    refine q_iadd dL_law_1173 ?_
    refine q_sld h2 dL_law_1174 ?_
    refine q_aload_n 0 rfl dL_law_1175 ?_
    refine q_iload 4 rfl dL_law_1176 ?_
    refine q_iconst 3 (by decide) dL_law_1178 ?_
    refine q_iadd dL_law_1179 ?_
    refine q_sld h3 dL_law_1180 ?_
    refine q_if_eqT 1188 hb dL_law_1181 (by decide) ?_
    refine q_iconst 0 (by decide) dL_law_1188 ?_
    refine q_aload_n 3 rfl dL_law_1189 ?_
    refine q_callS (n := 5) (As := [.ref _, .int _, .int _, .int _, .ref _]) (wn_clock X hst ad _ _ _ _ _ _ hg) ⟨by decide, by decide, by decide +kernel⟩ w_834 w_835 w_731 w_699 rfl rfl (Nat.le_of_ble_eq_true rfl) ⟨by decide, by decide⟩ ⟨by decide, by decide⟩ hcs dL_law_1190 (fun ad' hfx => ?_)
    rw [lvB_fx hfx]
    refine q_istore [(5, .int _), (0, .ref _), (1, .ref _), (2, .ref _), (3, .ref _), (4, .int _)] rfl (by decide) dL_law_1193 ?_
    refine q_aload_n 3 rfl dL_law_1195 ?_
    refine q_aload_n 1 rfl dL_law_1196 ?_
    refine q_iload 5 rfl dL_law_1197 ?_
    refine q_iconst 1 (by decide) dL_law_1199 ?_
    refine q_iadd dL_law_1200 ?_
    refine q_sld h1 dL_law_1201 ?_
    refine q_aload_n 1 rfl dL_law_1202 ?_
    refine q_iload 5 rfl dL_law_1203 ?_
    refine q_iconst 2 (by decide) dL_law_1205 ?_
    refine q_iadd dL_law_1206 ?_
    refine q_sld h2 dL_law_1207 ?_
    refine q_aload_n 1 rfl dL_law_1208 ?_
    refine q_iload 5 rfl dL_law_1209 ?_
    refine q_iconst 3 (by decide) dL_law_1211 ?_
    refine q_iadd dL_law_1212 ?_
    refine q_sld h3 dL_law_1213 ?_
    refine q_if_eqT 1221 hb dL_law_1214 (by decide) ?_
    refine q_iconst 0 (by decide) dL_law_1221 ?_
    refine q_callV (n := 3) (As := [.int _, .int _, .int _]) (cell_30 _ _ _ _) (lvs_30 _) rfl hm (nc_X10_clock X hst ad' _ _ _ _) ⟨rfl, by decide, by decide, by decide +kernel⟩ w_836 w_837 w_838 w_121 w_839 rfl rfl (Nat.le_of_ble_eq_true rfl) ⟨by decide, by decide⟩ hcs dL_law_1222 ?_
    refine q_istore [(6, .int _), (5, .int _), (0, .ref _), (1, .ref _), (2, .ref _), (3, .ref _), (4, .int _)] rfl (by decide) dL_law_1225 ?_
    refine q_aload_n 4 rfl dL_law_1227 ?_
    refine q_callV (n := 0) (As := []) (cell_30 _ _ _ _) (lvs_30 _) rfl ht (nc_X10_thrown X hst ad' _) ⟨rfl, by decide, by decide, by decide +kernel⟩ w_736 w_737 w_738 w_121 w_739 rfl rfl (Nat.le_of_ble_eq_true rfl) ⟨by decide, by decide⟩ hcs dL_law_1228 ?_
    refine q_iload 1 rfl dL_law_1231 ?_
    refine q_icmp_eqT 1238 rfl dL_law_1233 (by decide) ?_
    refine q_iload 1 rfl dL_law_1238 ?_
    have hend : Lw X b L xs (cs.1 + 6, cs.2 + 30) ad' σ' 1255 [(6, .int bv), (5, .int k), (0, .ref b), (1, .ref (ad' 0 0)), (2, .ref (ad' 30 0)), (3, .ref (ad' 70 0)), (4, .int i)] [] := q_goto 1611 dL_law_1255 (by decide) (q_sub [2, 3, 4, 5, 6] rfl (hK ad' hfx))
    refine q_if_ne 1255 dL_law_1240 (by decide) (fun _ => hend) (fun hk => ?_)
    refine q_aload_n 5 rfl dL_law_1243 ?_
    refine q_iconst 0 (by decide) dL_law_1244 ?_
    refine q_lald dL_law_1245 ?_
    refine q_iload 0 rfl dL_law_1246 ?_
    refine q_i2l dL_law_1248 ?_
    refine q_lcmpE (hke hk) dL_law_1249 ?_
    exact q_if_eqT 1255 rfl dL_law_1250 (by decide) hend
  · rw [if_neg hb] at hc
    obtain ⟨k, σ1, bv, σ2, hg, hm, ht, hke⟩ := caseF_cases hc
    refine q_aload_n 1 rfl dL_law_1162 ?_
    refine q_aload_n 0 rfl dL_law_1163 ?_
    refine q_iload 4 rfl dL_law_1164 ?_
    refine q_iconst 1 (by decide) dL_law_1166 ?_
    refine q_iadd dL_law_1167 ?_
    refine q_sld h1 dL_law_1168 ?_
    refine q_aload_n 0 rfl dL_law_1169 ?_
    refine q_iload 4 rfl dL_law_1170 ?_
    refine q_iconst 2 (by decide) dL_law_1172 ?_
    refine q_iadd dL_law_1173 ?_
    refine q_sld h2 dL_law_1174 ?_
    refine q_aload_n 0 rfl dL_law_1175 ?_
    refine q_iload 4 rfl dL_law_1176 ?_
    refine q_iconst 3 (by decide) dL_law_1178 ?_
    refine q_iadd dL_law_1179 ?_
    refine q_sld h3 dL_law_1180 ?_
    refine q_if_eqF 1188 hb dL_law_1181 (by decide) ?_
    refine q_iconst 1 (by decide) dL_law_1184 ?_
    refine q_goto 1189 dL_law_1185 (by decide) ?_
    refine q_aload_n 3 rfl dL_law_1189 ?_
    refine q_callS (n := 5) (As := [.ref _, .int _, .int _, .int _, .ref _]) (wn_clock X hst ad _ _ _ _ _ _ hg) ⟨by decide, by decide, by decide +kernel⟩ w_834 w_835 w_731 w_699 rfl rfl (Nat.le_of_ble_eq_true rfl) ⟨by decide, by decide⟩ ⟨by decide, by decide⟩ hcs dL_law_1190 (fun ad' hfx => ?_)
    rw [lvB_fx hfx]
    refine q_istore [(5, .int _), (0, .ref _), (1, .ref _), (2, .ref _), (3, .ref _), (4, .int _)] rfl (by decide) dL_law_1193 ?_
    refine q_aload_n 3 rfl dL_law_1195 ?_
    refine q_aload_n 1 rfl dL_law_1196 ?_
    refine q_iload 5 rfl dL_law_1197 ?_
    refine q_iconst 1 (by decide) dL_law_1199 ?_
    refine q_iadd dL_law_1200 ?_
    refine q_sld h1 dL_law_1201 ?_
    refine q_aload_n 1 rfl dL_law_1202 ?_
    refine q_iload 5 rfl dL_law_1203 ?_
    refine q_iconst 2 (by decide) dL_law_1205 ?_
    refine q_iadd dL_law_1206 ?_
    refine q_sld h2 dL_law_1207 ?_
    refine q_aload_n 1 rfl dL_law_1208 ?_
    refine q_iload 5 rfl dL_law_1209 ?_
    refine q_iconst 3 (by decide) dL_law_1211 ?_
    refine q_iadd dL_law_1212 ?_
    refine q_sld h3 dL_law_1213 ?_
    refine q_if_eqF 1221 hb dL_law_1214 (by decide) ?_
    refine q_iconst 1 (by decide) dL_law_1217 ?_
    refine q_goto 1222 dL_law_1218 (by decide) ?_
    refine q_callV (n := 3) (As := [.int _, .int _, .int _]) (cell_30 _ _ _ _) (lvs_30 _) rfl hm (nc_X10_clock X hst ad' _ _ _ _) ⟨rfl, by decide, by decide, by decide +kernel⟩ w_836 w_837 w_838 w_121 w_839 rfl rfl (Nat.le_of_ble_eq_true rfl) ⟨by decide, by decide⟩ hcs dL_law_1222 ?_
    refine q_istore [(6, .int _), (5, .int _), (0, .ref _), (1, .ref _), (2, .ref _), (3, .ref _), (4, .int _)] rfl (by decide) dL_law_1225 ?_
    refine q_aload_n 4 rfl dL_law_1227 ?_
    refine q_callV (n := 0) (As := []) (cell_30 _ _ _ _) (lvs_30 _) rfl ht (nc_X10_thrown X hst ad' _) ⟨rfl, by decide, by decide, by decide +kernel⟩ w_736 w_737 w_738 w_121 w_739 rfl rfl (Nat.le_of_ble_eq_true rfl) ⟨by decide, by decide⟩ hcs dL_law_1228 ?_
    refine q_iload 1 rfl dL_law_1231 ?_
    refine q_icmp_eqT 1238 rfl dL_law_1233 (by decide) ?_
    refine q_iload 1 rfl dL_law_1238 ?_
    have hend : Lw X b L xs (cs.1 + 6, cs.2 + 30) ad' σ' 1255 [(6, .int bv), (5, .int k), (0, .ref b), (1, .ref (ad' 0 0)), (2, .ref (ad' 30 0)), (3, .ref (ad' 70 0)), (4, .int i)] [] := q_goto 1611 dL_law_1255 (by decide) (q_sub [2, 3, 4, 5, 6] rfl (hK ad' hfx))
    refine q_if_ne 1255 dL_law_1240 (by decide) (fun _ => hend) (fun hk => ?_)
    refine q_aload_n 5 rfl dL_law_1243 ?_
    refine q_iconst 0 (by decide) dL_law_1244 ?_
    refine q_lald dL_law_1245 ?_
    refine q_iload 0 rfl dL_law_1246 ?_
    refine q_i2l dL_law_1248 ?_
    refine q_lcmpE (hke hk) dL_law_1249 ?_
    exact q_if_eqT 1255 rfl dL_law_1250 (by decide) hend
def c_axle (σ : Wd) (w1 : Int32) (w2 : Int32) : Option Wd := caseF (g_axle σ w1 w2) (fun τ => f_X10_axle τ w1 w2)
theorem lc_axle (X : Xt) (hst : X.1.stackTraces = false) (b L : Nat) (xs : Nat → Int32) (cs : Nat × Nat) (ad : Ad) (σ σ' : Wd) (i : Int32) (hcs : cs.1 + 6 ≤ 601024 ∧ cs.2 + 30 ≤ 7293033) (h1 : inb (i + 1) L) (h2 : inb (i + 2) L) (h3 : inb (i + 3) L) (h4 : inb (i + 4) L) (h5 : inb (i + 5) L) (hc : c_axle σ (xs (i + 1).toNatClampNeg) (xs (i + 2).toNatClampNeg) = some σ') (hK : ∀ ad', Fx ad ad' → Lw X b L xs (cs.1 + 6, cs.2 + 30) ad' σ' 1611 (lvB b ad' i) []) : Lw X b L xs cs ad σ 1258 (lvB b ad i) [] := by
  obtain ⟨k, σ1, bv, σ2, hg, hm, ht, hke⟩ := caseF_cases hc
  refine q_aload_n 1 rfl dL_law_1258 ?_
  refine q_aload_n 0 rfl dL_law_1259 ?_
  refine q_iload 4 rfl dL_law_1260 ?_
  refine q_iconst 1 (by decide) dL_law_1262 ?_
  refine q_iadd dL_law_1263 ?_
  refine q_sld h1 dL_law_1264 ?_
  refine q_aload_n 0 rfl dL_law_1265 ?_
  refine q_iload 4 rfl dL_law_1266 ?_
  refine q_iconst 2 (by decide) dL_law_1268 ?_
  refine q_iadd dL_law_1269 ?_
  refine q_sld h2 dL_law_1270 ?_
  refine q_aload_n 3 rfl dL_law_1271 ?_
  refine q_callS (n := 4) (As := [.ref _, .int _, .int _, .ref _]) (wn_axle X hst ad _ _ _ _ _ hg) ⟨by decide, by decide, by decide +kernel⟩ w_840 w_841 w_731 w_704 rfl rfl (Nat.le_of_ble_eq_true rfl) ⟨by decide, by decide⟩ ⟨by decide, by decide⟩ hcs dL_law_1272 (fun ad' hfx => ?_)
  rw [lvB_fx hfx]
  refine q_istore [(5, .int _), (0, .ref _), (1, .ref _), (2, .ref _), (3, .ref _), (4, .int _)] rfl (by decide) dL_law_1275 ?_
  refine q_aload_n 3 rfl dL_law_1277 ?_
  refine q_aload_n 1 rfl dL_law_1278 ?_
  refine q_iload 5 rfl dL_law_1279 ?_
  refine q_iconst 1 (by decide) dL_law_1281 ?_
  refine q_iadd dL_law_1282 ?_
  refine q_sld h1 dL_law_1283 ?_
  refine q_aload_n 1 rfl dL_law_1284 ?_
  refine q_iload 5 rfl dL_law_1285 ?_
  refine q_iconst 2 (by decide) dL_law_1287 ?_
  refine q_iadd dL_law_1288 ?_
  refine q_sld h2 dL_law_1289 ?_
  refine q_callV (n := 2) (As := [.int _, .int _]) (cell_30 _ _ _ _) (lvs_30 _) rfl hm (nc_X10_axle X hst ad' _ _ _) ⟨rfl, by decide, by decide, by decide +kernel⟩ w_842 w_843 w_844 w_121 w_845 rfl rfl (Nat.le_of_ble_eq_true rfl) ⟨by decide, by decide⟩ hcs dL_law_1290 ?_
  refine q_istore [(6, .int _), (5, .int _), (0, .ref _), (1, .ref _), (2, .ref _), (3, .ref _), (4, .int _)] rfl (by decide) dL_law_1293 ?_
  refine q_aload_n 4 rfl dL_law_1295 ?_
  refine q_callV (n := 0) (As := []) (cell_30 _ _ _ _) (lvs_30 _) rfl ht (nc_X10_thrown X hst ad' _) ⟨rfl, by decide, by decide, by decide +kernel⟩ w_736 w_737 w_738 w_121 w_739 rfl rfl (Nat.le_of_ble_eq_true rfl) ⟨by decide, by decide⟩ hcs dL_law_1296 ?_
  refine q_iload 1 rfl dL_law_1299 ?_
  refine q_icmp_eqT 1306 rfl dL_law_1301 (by decide) ?_
  refine q_iload 1 rfl dL_law_1306 ?_
  have hend : Lw X b L xs (cs.1 + 6, cs.2 + 30) ad' σ' 1323 [(6, .int bv), (5, .int k), (0, .ref b), (1, .ref (ad' 0 0)), (2, .ref (ad' 30 0)), (3, .ref (ad' 70 0)), (4, .int i)] [] := q_goto 1611 dL_law_1323 (by decide) (q_sub [2, 3, 4, 5, 6] rfl (hK ad' hfx))
  refine q_if_ne 1323 dL_law_1308 (by decide) (fun _ => hend) (fun hk => ?_)
  refine q_aload_n 5 rfl dL_law_1311 ?_
  refine q_iconst 0 (by decide) dL_law_1312 ?_
  refine q_lald dL_law_1313 ?_
  refine q_iload 0 rfl dL_law_1314 ?_
  refine q_i2l dL_law_1316 ?_
  refine q_lcmpE (hke hk) dL_law_1317 ?_
  exact q_if_eqT 1323 rfl dL_law_1318 (by decide) hend
def c_faultAt (σ : Wd) (w1 : Int32) (w2 : Int32) (w3 : Int32) : Option Wd := caseF (g_faultAt σ w1 w2 w3) (fun τ => f_X10_faultAt τ w1 w2 w3)
theorem lc_faultAt (X : Xt) (hst : X.1.stackTraces = false) (b L : Nat) (xs : Nat → Int32) (cs : Nat × Nat) (ad : Ad) (σ σ' : Wd) (i : Int32) (hcs : cs.1 + 6 ≤ 601024 ∧ cs.2 + 30 ≤ 7293033) (h1 : inb (i + 1) L) (h2 : inb (i + 2) L) (h3 : inb (i + 3) L) (h4 : inb (i + 4) L) (h5 : inb (i + 5) L) (hc : c_faultAt σ (xs (i + 1).toNatClampNeg) (xs (i + 2).toNatClampNeg) (xs (i + 3).toNatClampNeg) = some σ') (hK : ∀ ad', Fx ad ad' → Lw X b L xs (cs.1 + 6, cs.2 + 30) ad' σ' 1611 (lvB b ad' i) []) : Lw X b L xs cs ad σ 1326 (lvB b ad i) [] := by
  obtain ⟨k, σ1, bv, σ2, hg, hm, ht, hke⟩ := caseF_cases hc
  refine q_aload_n 1 rfl dL_law_1326 ?_
  refine q_aload_n 0 rfl dL_law_1327 ?_
  refine q_iload 4 rfl dL_law_1328 ?_
  refine q_iconst 1 (by decide) dL_law_1330 ?_
  refine q_iadd dL_law_1331 ?_
  refine q_sld h1 dL_law_1332 ?_
  refine q_aload_n 0 rfl dL_law_1333 ?_
  refine q_iload 4 rfl dL_law_1334 ?_
  refine q_iconst 2 (by decide) dL_law_1336 ?_
  refine q_iadd dL_law_1337 ?_
  refine q_sld h2 dL_law_1338 ?_
  refine q_aload_n 0 rfl dL_law_1339 ?_
  refine q_iload 4 rfl dL_law_1340 ?_
  refine q_iconst 3 (by decide) dL_law_1342 ?_
  refine q_iadd dL_law_1343 ?_
  refine q_sld h3 dL_law_1344 ?_
  refine q_aload_n 3 rfl dL_law_1345 ?_
  refine q_callS (n := 5) (As := [.ref _, .int _, .int _, .int _, .ref _]) (wn_faultAt X hst ad _ _ _ _ _ _ hg) ⟨by decide, by decide, by decide +kernel⟩ w_846 w_847 w_731 w_709 rfl rfl (Nat.le_of_ble_eq_true rfl) ⟨by decide, by decide⟩ ⟨by decide, by decide⟩ hcs dL_law_1346 (fun ad' hfx => ?_)
  rw [lvB_fx hfx]
  refine q_istore [(5, .int _), (0, .ref _), (1, .ref _), (2, .ref _), (3, .ref _), (4, .int _)] rfl (by decide) dL_law_1349 ?_
  refine q_aload_n 3 rfl dL_law_1351 ?_
  refine q_aload_n 1 rfl dL_law_1352 ?_
  refine q_iload 5 rfl dL_law_1353 ?_
  refine q_iconst 1 (by decide) dL_law_1355 ?_
  refine q_iadd dL_law_1356 ?_
  refine q_sld h1 dL_law_1357 ?_
  refine q_aload_n 1 rfl dL_law_1358 ?_
  refine q_iload 5 rfl dL_law_1359 ?_
  refine q_iconst 2 (by decide) dL_law_1361 ?_
  refine q_iadd dL_law_1362 ?_
  refine q_sld h2 dL_law_1363 ?_
  refine q_aload_n 1 rfl dL_law_1364 ?_
  refine q_iload 5 rfl dL_law_1365 ?_
  refine q_iconst 3 (by decide) dL_law_1367 ?_
  refine q_iadd dL_law_1368 ?_
  refine q_sld h3 dL_law_1369 ?_
  refine q_callV (n := 3) (As := [.int _, .int _, .int _]) (cell_30 _ _ _ _) (lvs_30 _) rfl hm (nc_X10_faultAt X hst ad' _ _ _ _) ⟨rfl, by decide, by decide, by decide +kernel⟩ w_848 w_849 w_850 w_121 w_851 rfl rfl (Nat.le_of_ble_eq_true rfl) ⟨by decide, by decide⟩ hcs dL_law_1370 ?_
  refine q_istore [(6, .int _), (5, .int _), (0, .ref _), (1, .ref _), (2, .ref _), (3, .ref _), (4, .int _)] rfl (by decide) dL_law_1373 ?_
  refine q_aload_n 4 rfl dL_law_1375 ?_
  refine q_callV (n := 0) (As := []) (cell_30 _ _ _ _) (lvs_30 _) rfl ht (nc_X10_thrown X hst ad' _) ⟨rfl, by decide, by decide, by decide +kernel⟩ w_736 w_737 w_738 w_121 w_739 rfl rfl (Nat.le_of_ble_eq_true rfl) ⟨by decide, by decide⟩ hcs dL_law_1376 ?_
  refine q_iload 1 rfl dL_law_1379 ?_
  refine q_icmp_eqT 1386 rfl dL_law_1381 (by decide) ?_
  refine q_iload 1 rfl dL_law_1386 ?_
  have hend : Lw X b L xs (cs.1 + 6, cs.2 + 30) ad' σ' 1403 [(6, .int bv), (5, .int k), (0, .ref b), (1, .ref (ad' 0 0)), (2, .ref (ad' 30 0)), (3, .ref (ad' 70 0)), (4, .int i)] [] := q_goto 1611 dL_law_1403 (by decide) (q_sub [2, 3, 4, 5, 6] rfl (hK ad' hfx))
  refine q_if_ne 1403 dL_law_1388 (by decide) (fun _ => hend) (fun hk => ?_)
  refine q_aload_n 5 rfl dL_law_1391 ?_
  refine q_iconst 0 (by decide) dL_law_1392 ?_
  refine q_lald dL_law_1393 ?_
  refine q_iload 0 rfl dL_law_1394 ?_
  refine q_i2l dL_law_1396 ?_
  refine q_lcmpE (hke hk) dL_law_1397 ?_
  exact q_if_eqT 1403 rfl dL_law_1398 (by decide) hend
def c_stands (σ : Wd) (w1 : Int32) (w2 : Int32) : Option Wd := caseF (g_stands σ w1 w2) (fun τ => f_X10_stands τ w1 w2)
theorem lc_stands (X : Xt) (hst : X.1.stackTraces = false) (b L : Nat) (xs : Nat → Int32) (cs : Nat × Nat) (ad : Ad) (σ σ' : Wd) (i : Int32) (hcs : cs.1 + 6 ≤ 601024 ∧ cs.2 + 30 ≤ 7293033) (h1 : inb (i + 1) L) (h2 : inb (i + 2) L) (h3 : inb (i + 3) L) (h4 : inb (i + 4) L) (h5 : inb (i + 5) L) (hc : c_stands σ (xs (i + 1).toNatClampNeg) (xs (i + 2).toNatClampNeg) = some σ') (hK : ∀ ad', Fx ad ad' → Lw X b L xs (cs.1 + 6, cs.2 + 30) ad' σ' 1611 (lvB b ad' i) []) : Lw X b L xs cs ad σ 1406 (lvB b ad i) [] := by
  obtain ⟨k, σ1, bv, σ2, hg, hm, ht, hke⟩ := caseF_cases hc
  refine q_aload_n 1 rfl dL_law_1406 ?_
  refine q_aload_n 0 rfl dL_law_1407 ?_
  refine q_iload 4 rfl dL_law_1408 ?_
  refine q_iconst 1 (by decide) dL_law_1410 ?_
  refine q_iadd dL_law_1411 ?_
  refine q_sld h1 dL_law_1412 ?_
  refine q_aload_n 0 rfl dL_law_1413 ?_
  refine q_iload 4 rfl dL_law_1414 ?_
  refine q_iconst 2 (by decide) dL_law_1416 ?_
  refine q_iadd dL_law_1417 ?_
  refine q_sld h2 dL_law_1418 ?_
  refine q_aload_n 3 rfl dL_law_1419 ?_
  refine q_callS (n := 4) (As := [.ref _, .int _, .int _, .ref _]) (wn_stands X hst ad _ _ _ _ _ hg) ⟨by decide, by decide, by decide +kernel⟩ w_852 w_853 w_731 w_714 rfl rfl (Nat.le_of_ble_eq_true rfl) ⟨by decide, by decide⟩ ⟨by decide, by decide⟩ hcs dL_law_1420 (fun ad' hfx => ?_)
  rw [lvB_fx hfx]
  refine q_istore [(5, .int _), (0, .ref _), (1, .ref _), (2, .ref _), (3, .ref _), (4, .int _)] rfl (by decide) dL_law_1423 ?_
  refine q_aload_n 3 rfl dL_law_1425 ?_
  refine q_aload_n 1 rfl dL_law_1426 ?_
  refine q_iload 5 rfl dL_law_1427 ?_
  refine q_iconst 1 (by decide) dL_law_1429 ?_
  refine q_iadd dL_law_1430 ?_
  refine q_sld h1 dL_law_1431 ?_
  refine q_aload_n 1 rfl dL_law_1432 ?_
  refine q_iload 5 rfl dL_law_1433 ?_
  refine q_iconst 2 (by decide) dL_law_1435 ?_
  refine q_iadd dL_law_1436 ?_
  refine q_sld h2 dL_law_1437 ?_
  refine q_callV (n := 2) (As := [.int _, .int _]) (cell_30 _ _ _ _) (lvs_30 _) rfl hm (nc_X10_stands X hst ad' _ _ _) ⟨rfl, by decide, by decide, by decide +kernel⟩ w_854 w_855 w_856 w_121 w_857 rfl rfl (Nat.le_of_ble_eq_true rfl) ⟨by decide, by decide⟩ hcs dL_law_1438 ?_
  refine q_istore [(6, .int _), (5, .int _), (0, .ref _), (1, .ref _), (2, .ref _), (3, .ref _), (4, .int _)] rfl (by decide) dL_law_1441 ?_
  refine q_aload_n 4 rfl dL_law_1443 ?_
  refine q_callV (n := 0) (As := []) (cell_30 _ _ _ _) (lvs_30 _) rfl ht (nc_X10_thrown X hst ad' _) ⟨rfl, by decide, by decide, by decide +kernel⟩ w_736 w_737 w_738 w_121 w_739 rfl rfl (Nat.le_of_ble_eq_true rfl) ⟨by decide, by decide⟩ hcs dL_law_1444 ?_
  refine q_iload 1 rfl dL_law_1447 ?_
  refine q_icmp_eqT 1454 rfl dL_law_1449 (by decide) ?_
  refine q_iload 1 rfl dL_law_1454 ?_
  have hend : Lw X b L xs (cs.1 + 6, cs.2 + 30) ad' σ' 1471 [(6, .int bv), (5, .int k), (0, .ref b), (1, .ref (ad' 0 0)), (2, .ref (ad' 30 0)), (3, .ref (ad' 70 0)), (4, .int i)] [] := q_goto 1611 dL_law_1471 (by decide) (q_sub [2, 3, 4, 5, 6] rfl (hK ad' hfx))
  refine q_if_ne 1471 dL_law_1456 (by decide) (fun _ => hend) (fun hk => ?_)
  refine q_aload_n 5 rfl dL_law_1459 ?_
  refine q_iconst 0 (by decide) dL_law_1460 ?_
  refine q_lald dL_law_1461 ?_
  refine q_iload 0 rfl dL_law_1462 ?_
  refine q_i2l dL_law_1464 ?_
  refine q_lcmpE (hke hk) dL_law_1465 ?_
  exact q_if_eqT 1471 rfl dL_law_1466 (by decide) hend
def c_shunts (σ : Wd) : Option Wd := caseG (f_X9_shunts σ) (fun τ => f_X10_shunts τ)
theorem lc_shunts (X : Xt) (hst : X.1.stackTraces = false) (b L : Nat) (xs : Nat → Int32) (cs : Nat × Nat) (ad : Ad) (σ σ' : Wd) (i : Int32) (hcs : cs.1 + 6 ≤ 601024 ∧ cs.2 + 30 ≤ 7293033) (h1 : inb (i + 1) L) (h2 : inb (i + 2) L) (h3 : inb (i + 3) L) (h4 : inb (i + 4) L) (h5 : inb (i + 5) L) (hc : c_shunts σ = some σ') (hK : ∀ ad', Fx ad ad' → Lw X b L xs (cs.1 + 6, cs.2 + 30) ad' σ' 1611 (lvB b ad' i) []) : Lw X b L xs cs ad σ 1474 (lvB b ad i) [] := by
  obtain ⟨a, σ1, hg, hm⟩ := caseG_cases hc
  refine q_aload_n 1 rfl dL_law_1474 ?_
  refine q_callV (n := 0) (As := []) (cell_0 _ _ _ _) (lvs_0 _) rfl hg (nc_X9_shunts X hst ad _) ⟨rfl, by decide, by decide, by decide +kernel⟩ w_858 w_859 w_860 w_325 w_861 rfl rfl (Nat.le_of_ble_eq_true rfl) ⟨by decide, by decide⟩ ⟨Nat.le_of_add_right_le hcs.1, Nat.le_of_add_right_le hcs.2⟩ dL_law_1475 ?_
  refine q_aload_n 2 rfl dL_law_1478 ?_
  refine q_callV (n := 0) (As := []) (cell_30 _ _ _ _) (lvs_30 _) rfl hm (nc_X10_shunts X hst ad _) ⟨rfl, by decide, by decide, by decide +kernel⟩ w_862 w_863 w_864 w_121 w_865 rfl rfl (Nat.le_of_ble_eq_true rfl) ⟨by decide, by decide⟩ ⟨Nat.le_of_add_right_le hcs.1, Nat.le_of_add_right_le hcs.2⟩ dL_law_1479 ?_
  exact q_icmp_eqT 1611 rfl dL_law_1482 (by decide) (q_widen (Nat.le_add_right _ _) (Nat.le_add_right _ _) (hK ad (Fx.rf ad)))
def c_ran (σ : Wd) (w1 : Int32) (w2 : Int32) : Option Wd := caseF (g_ran σ w1 w2) (fun τ => f_X10_ran τ w1 w2)
theorem lc_ran (X : Xt) (hst : X.1.stackTraces = false) (b L : Nat) (xs : Nat → Int32) (cs : Nat × Nat) (ad : Ad) (σ σ' : Wd) (i : Int32) (hcs : cs.1 + 6 ≤ 601024 ∧ cs.2 + 30 ≤ 7293033) (h1 : inb (i + 1) L) (h2 : inb (i + 2) L) (h3 : inb (i + 3) L) (h4 : inb (i + 4) L) (h5 : inb (i + 5) L) (hc : c_ran σ (xs (i + 1).toNatClampNeg) (xs (i + 2).toNatClampNeg) = some σ') (hK : ∀ ad', Fx ad ad' → Lw X b L xs (cs.1 + 6, cs.2 + 30) ad' σ' 1611 (lvB b ad' i) []) : Lw X b L xs cs ad σ 1487 (lvB b ad i) [] := by
  obtain ⟨k, σ1, bv, σ2, hg, hm, ht, hke⟩ := caseF_cases hc
  refine q_aload_n 1 rfl dL_law_1487 ?_
  refine q_aload_n 0 rfl dL_law_1488 ?_
  refine q_iload 4 rfl dL_law_1489 ?_
  refine q_iconst 1 (by decide) dL_law_1491 ?_
  refine q_iadd dL_law_1492 ?_
  refine q_sld h1 dL_law_1493 ?_
  refine q_aload_n 0 rfl dL_law_1494 ?_
  refine q_iload 4 rfl dL_law_1495 ?_
  refine q_iconst 2 (by decide) dL_law_1497 ?_
  refine q_iadd dL_law_1498 ?_
  refine q_sld h2 dL_law_1499 ?_
  refine q_aload_n 3 rfl dL_law_1500 ?_
  refine q_callS (n := 4) (As := [.ref _, .int _, .int _, .ref _]) (wn_ran X hst ad _ _ _ _ _ hg) ⟨by decide, by decide, by decide +kernel⟩ w_866 w_867 w_731 w_719 rfl rfl (Nat.le_of_ble_eq_true rfl) ⟨by decide, by decide⟩ ⟨by decide, by decide⟩ hcs dL_law_1501 (fun ad' hfx => ?_)
  rw [lvB_fx hfx]
  refine q_istore [(5, .int _), (0, .ref _), (1, .ref _), (2, .ref _), (3, .ref _), (4, .int _)] rfl (by decide) dL_law_1504 ?_
  refine q_aload_n 3 rfl dL_law_1506 ?_
  refine q_aload_n 1 rfl dL_law_1507 ?_
  refine q_iload 5 rfl dL_law_1508 ?_
  refine q_iconst 1 (by decide) dL_law_1510 ?_
  refine q_iadd dL_law_1511 ?_
  refine q_sld h1 dL_law_1512 ?_
  refine q_aload_n 1 rfl dL_law_1513 ?_
  refine q_iload 5 rfl dL_law_1514 ?_
  refine q_iconst 2 (by decide) dL_law_1516 ?_
  refine q_iadd dL_law_1517 ?_
  refine q_sld h2 dL_law_1518 ?_
  refine q_callV (n := 2) (As := [.int _, .int _]) (cell_30 _ _ _ _) (lvs_30 _) rfl hm (nc_X10_ran X hst ad' _ _ _) ⟨rfl, by decide, by decide, by decide +kernel⟩ w_868 w_869 w_870 w_121 w_871 rfl rfl (Nat.le_of_ble_eq_true rfl) ⟨by decide, by decide⟩ hcs dL_law_1519 ?_
  refine q_istore [(6, .int _), (5, .int _), (0, .ref _), (1, .ref _), (2, .ref _), (3, .ref _), (4, .int _)] rfl (by decide) dL_law_1522 ?_
  refine q_aload_n 4 rfl dL_law_1524 ?_
  refine q_callV (n := 0) (As := []) (cell_30 _ _ _ _) (lvs_30 _) rfl ht (nc_X10_thrown X hst ad' _) ⟨rfl, by decide, by decide, by decide +kernel⟩ w_736 w_737 w_738 w_121 w_739 rfl rfl (Nat.le_of_ble_eq_true rfl) ⟨by decide, by decide⟩ hcs dL_law_1525 ?_
  refine q_iload 1 rfl dL_law_1528 ?_
  refine q_icmp_eqT 1535 rfl dL_law_1530 (by decide) ?_
  refine q_iload 1 rfl dL_law_1535 ?_
  have hend : Lw X b L xs (cs.1 + 6, cs.2 + 30) ad' σ' 1552 [(6, .int bv), (5, .int k), (0, .ref b), (1, .ref (ad' 0 0)), (2, .ref (ad' 30 0)), (3, .ref (ad' 70 0)), (4, .int i)] [] := q_goto 1611 dL_law_1552 (by decide) (q_sub [2, 3, 4, 5, 6] rfl (hK ad' hfx))
  refine q_if_ne 1552 dL_law_1537 (by decide) (fun _ => hend) (fun hk => ?_)
  refine q_aload_n 5 rfl dL_law_1540 ?_
  refine q_iconst 0 (by decide) dL_law_1541 ?_
  refine q_lald dL_law_1542 ?_
  refine q_iload 0 rfl dL_law_1543 ?_
  refine q_i2l dL_law_1545 ?_
  refine q_lcmpE (hke hk) dL_law_1546 ?_
  exact q_if_eqT 1552 rfl dL_law_1547 (by decide) hend
def c_kmAnew (σ : Wd) (w1 : Int32) : Option Wd := caseF (g_kmAnew σ w1) (fun τ => f_X10_kmAnew τ w1)
theorem lc_kmAnew (X : Xt) (hst : X.1.stackTraces = false) (b L : Nat) (xs : Nat → Int32) (cs : Nat × Nat) (ad : Ad) (σ σ' : Wd) (i : Int32) (hcs : cs.1 + 6 ≤ 601024 ∧ cs.2 + 30 ≤ 7293033) (h1 : inb (i + 1) L) (h2 : inb (i + 2) L) (h3 : inb (i + 3) L) (h4 : inb (i + 4) L) (h5 : inb (i + 5) L) (hc : c_kmAnew σ (xs (i + 1).toNatClampNeg) = some σ') (hK : ∀ ad', Fx ad ad' → Lw X b L xs (cs.1 + 6, cs.2 + 30) ad' σ' 1611 (lvB b ad' i) []) : Lw X b L xs cs ad σ 1555 (lvB b ad i) [] := by
  obtain ⟨k, σ1, bv, σ2, hg, hm, ht, hke⟩ := caseF_cases hc
  refine q_aload_n 1 rfl dL_law_1555 ?_
  refine q_aload_n 0 rfl dL_law_1556 ?_
  refine q_iload 4 rfl dL_law_1557 ?_
  refine q_iconst 1 (by decide) dL_law_1559 ?_
  refine q_iadd dL_law_1560 ?_
  refine q_sld h1 dL_law_1561 ?_
  refine q_aload_n 3 rfl dL_law_1562 ?_
  refine q_callS (n := 3) (As := [.ref _, .int _, .ref _]) (wn_kmAnew X hst ad _ _ _ _ hg) ⟨by decide, by decide, by decide +kernel⟩ w_872 w_873 w_731 w_724 rfl rfl (Nat.le_of_ble_eq_true rfl) ⟨by decide, by decide⟩ ⟨by decide, by decide⟩ hcs dL_law_1563 (fun ad' hfx => ?_)
  rw [lvB_fx hfx]
  refine q_istore [(5, .int _), (0, .ref _), (1, .ref _), (2, .ref _), (3, .ref _), (4, .int _)] rfl (by decide) dL_law_1566 ?_
  refine q_aload_n 3 rfl dL_law_1568 ?_
  refine q_aload_n 1 rfl dL_law_1569 ?_
  refine q_iload 5 rfl dL_law_1570 ?_
  refine q_iconst 1 (by decide) dL_law_1572 ?_
  refine q_iadd dL_law_1573 ?_
  refine q_sld h1 dL_law_1574 ?_
  refine q_callV (n := 1) (As := [.int _]) (cell_30 _ _ _ _) (lvs_30 _) rfl hm (nc_X10_kmAnew X hst ad' _ _) ⟨rfl, by decide, by decide, by decide +kernel⟩ w_874 w_875 w_876 w_121 w_877 rfl rfl (Nat.le_of_ble_eq_true rfl) ⟨by decide, by decide⟩ hcs dL_law_1575 ?_
  refine q_istore [(6, .int _), (5, .int _), (0, .ref _), (1, .ref _), (2, .ref _), (3, .ref _), (4, .int _)] rfl (by decide) dL_law_1578 ?_
  refine q_aload_n 4 rfl dL_law_1580 ?_
  refine q_callV (n := 0) (As := []) (cell_30 _ _ _ _) (lvs_30 _) rfl ht (nc_X10_thrown X hst ad' _) ⟨rfl, by decide, by decide, by decide +kernel⟩ w_736 w_737 w_738 w_121 w_739 rfl rfl (Nat.le_of_ble_eq_true rfl) ⟨by decide, by decide⟩ hcs dL_law_1581 ?_
  refine q_iload 1 rfl dL_law_1584 ?_
  refine q_icmp_eqT 1591 rfl dL_law_1586 (by decide) ?_
  refine q_iload 1 rfl dL_law_1591 ?_
  have hend : Lw X b L xs (cs.1 + 6, cs.2 + 30) ad' σ' 1608 [(6, .int bv), (5, .int k), (0, .ref b), (1, .ref (ad' 0 0)), (2, .ref (ad' 30 0)), (3, .ref (ad' 70 0)), (4, .int i)] [] := q_goto 1611 dL_law_1608 (by decide) (q_sub [2, 3, 4, 5, 6] rfl (hK ad' hfx))
  refine q_if_ne 1608 dL_law_1593 (by decide) (fun _ => hend) (fun hk => ?_)
  refine q_aload_n 5 rfl dL_law_1596 ?_
  refine q_iconst 0 (by decide) dL_law_1597 ?_
  refine q_lald dL_law_1598 ?_
  refine q_iload 0 rfl dL_law_1599 ?_
  refine q_i2l dL_law_1601 ?_
  refine q_lcmpE (hke hk) dL_law_1602 ?_
  exact q_if_eqT 1608 rfl dL_law_1603 (by decide) hend
