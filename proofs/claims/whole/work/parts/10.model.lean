theorem w_117 : Cond.fieldLink RX10 101 "StablingroadModel" "thrown" "I" ∈ G_ := gt4 220 (by decide +kernel) (by decide +kernel)
theorem w_118 : Cond.methodLink RX10 105 yX10_between ∈ G_ := gt5 111 (by decide +kernel) (by decide +kernel)
theorem w_119 : Cond.instanceMethod yX10_between ∈ G_ := gt5 113 (by decide +kernel) (by decide +kernel)
theorem w_120 : Cond.selects RX10 yX10_between yX10_between ∈ G_ := gsl 27 (by decide +kernel) (by decide +kernel)
theorem w_121 : Cond.initialized RX10 ∈ G_ := gt1 12 (by decide +kernel) (by decide +kernel)
theorem w_122 : Cond.code yX10_between cX10_between 4 (some (.boolean)) ∈ G_ := gt5 114 (by decide +kernel) (by decide +kernel)
theorem w_123 : Cond.methodLink RX10 119 yX10_isDepot ∈ G_ := gt5 107 (by decide +kernel) (by decide +kernel)
theorem w_124 : Cond.instanceMethod yX10_isDepot ∈ G_ := gt5 109 (by decide +kernel) (by decide +kernel)
theorem w_125 : Cond.selects RX10 yX10_isDepot yX10_isDepot ∈ G_ := gsl 26 (by decide +kernel) (by decide +kernel)
theorem w_126 : Cond.code yX10_isDepot cX10_isDepot 2 (some (.boolean)) ∈ G_ := gt5 110 (by decide +kernel) (by decide +kernel)
theorem w_127 : Cond.fieldLink RX10 16 "StablingroadModel" "kms" "[I" ∈ G_ := gt4 228 (by decide +kernel) (by decide +kernel)
theorem w_128 : Cond.fieldLink RX10 109 "StablingroadModel" "units" "I" ∈ G_ := gt4 225 (by decide +kernel) (by decide +kernel)
theorem w_129 : Cond.fieldLink RX10 13 "StablingroadModel" "toldKm" "[I" ∈ G_ := gt4 227 (by decide +kernel) (by decide +kernel)
theorem w_130 : Cond.fieldLink RX10 7 "StablingroadModel" "depots" "[I" ∈ G_ := gt4 226 (by decide +kernel) (by decide +kernel)
theorem w_131 : Cond.fieldLink RX10 28 "StablingroadModel" "rows" "[I" ∈ G_ := gt4 232 (by decide +kernel) (by decide +kernel)
theorem w_132 : Cond.fieldLink RX10 31 "StablingroadModel" "long0" "[I" ∈ G_ := gt4 233 (by decide +kernel) (by decide +kernel)
theorem w_133 : Cond.methodLink RX10 123 yX10_comes ∈ G_ := gt5 116 (by decide +kernel) (by decide +kernel)
theorem w_134 : Cond.instanceMethod yX10_comes ∈ G_ := gt5 118 (by decide +kernel) (by decide +kernel)
theorem w_135 : Cond.selects RX10 yX10_comes yX10_comes ∈ G_ := gsl 28 (by decide +kernel) (by decide +kernel)
theorem w_136 : Cond.code yX10_comes cX10_comes 3 none ∈ G_ := gt5 119 (by decide +kernel) (by decide +kernel)
theorem w_137 : Cond.fieldLink RX10 19 "StablingroadModel" "axles" "[I" ∈ G_ := gt4 229 (by decide +kernel) (by decide +kernel)
theorem w_138 : Cond.constant RX10 122 (1000000) ∈ G_ := gt5 115 (by decide +kernel) (by decide +kernel)
theorem w_139 : Cond.fieldLink RX10 49 "StablingroadModel" "froms" "[I" ∈ G_ := gt5 0 (by decide +kernel) (by decide +kernel)
theorem w_140 : Cond.fieldLink RX10 112 "StablingroadModel" "diagrams" "I" ∈ G_ := gt4 239 (by decide +kernel) (by decide +kernel)
theorem w_141 : Cond.fieldLink RX10 52 "StablingroadModel" "tos" "[I" ∈ G_ := gt5 1 (by decide +kernel) (by decide +kernel)
theorem w_142 : Cond.fieldLink RX10 55 "StablingroadModel" "lengths" "[I" ∈ G_ := gt5 2 (by decide +kernel) (by decide +kernel)
theorem w_143 : Cond.fieldLink RX10 58 "StablingroadModel" "lines" "[I" ∈ G_ := gt5 3 (by decide +kernel) (by decide +kernel)
theorem w_144 : Cond.fieldLink RX10 61 "StablingroadModel" "weights" "[I" ∈ G_ := gt5 4 (by decide +kernel) (by decide +kernel)
theorem w_145 : Cond.fieldLink RX10 64 "StablingroadModel" "pins" "[I" ∈ G_ := gt5 5 (by decide +kernel) (by decide +kernel)
theorem w_146 : Cond.methodLink RX10 127 yX10_isExam ∈ G_ := gt5 128 (by decide +kernel) (by decide +kernel)
theorem w_147 : Cond.instanceMethod yX10_isExam ∈ G_ := gt5 130 (by decide +kernel) (by decide +kernel)
theorem w_148 : Cond.selects RX10 yX10_isExam yX10_isExam ∈ G_ := gsl 29 (by decide +kernel) (by decide +kernel)
theorem w_149 : Cond.code yX10_isExam cX10_isExam 2 (some (.boolean)) ∈ G_ := gt5 131 (by decide +kernel) (by decide +kernel)
theorem w_150 : Cond.fieldLink RX10 67 "StablingroadModel" "limits" "[I" ∈ G_ := gt5 6 (by decide +kernel) (by decide +kernel)
theorem w_151 : Cond.fieldLink RX10 70 "StablingroadModel" "tolerances" "[I" ∈ G_ := gt5 7 (by decide +kernel) (by decide +kernel)
theorem w_152 : Cond.fieldLink RX10 73 "StablingroadModel" "examDays" "[I" ∈ G_ := gt5 8 (by decide +kernel) (by decide +kernel)
theorem w_153 : Cond.methodLink RX10 131 yX10_bound ∈ G_ := gt5 133 (by decide +kernel) (by decide +kernel)
theorem w_154 : Cond.instanceMethod yX10_bound ∈ G_ := gt5 135 (by decide +kernel) (by decide +kernel)
theorem w_155 : Cond.selects RX10 yX10_bound yX10_bound ∈ G_ := gsl 30 (by decide +kernel) (by decide +kernel)
theorem w_156 : Cond.code yX10_bound cX10_bound 2 (some (.int)) ∈ G_ := gt5 136 (by decide +kernel) (by decide +kernel)
theorem w_157 : Cond.constant RX10 130 (100000) ∈ G_ := gt5 132 (by decide +kernel) (by decide +kernel)
theorem w_158 : Cond.fieldLink RX10 76 "StablingroadModel" "listDays" "[I" ∈ G_ := gt5 9 (by decide +kernel) (by decide +kernel)
theorem w_159 : Cond.fieldLink RX10 79 "StablingroadModel" "listLines" "[I" ∈ G_ := gt5 10 (by decide +kernel) (by decide +kernel)
theorem w_160 : Cond.methodLink RX10 115 yX10_isUnit ∈ G_ := gt5 145 (by decide +kernel) (by decide +kernel)
theorem w_161 : Cond.instanceMethod yX10_isUnit ∈ G_ := gt5 147 (by decide +kernel) (by decide +kernel)
theorem w_162 : Cond.selects RX10 yX10_isUnit yX10_isUnit ∈ G_ := gsl 31 (by decide +kernel) (by decide +kernel)
theorem w_163 : Cond.code yX10_isUnit cX10_isUnit 2 (some (.boolean)) ∈ G_ := gt5 148 (by decide +kernel) (by decide +kernel)
theorem w_164 : Cond.fieldLink RX10 34 "StablingroadModel" "faultMany" "[I" ∈ G_ := gt4 234 (by decide +kernel) (by decide +kernel)
theorem w_165 : Cond.fieldLink RX10 37 "StablingroadModel" "kinds" "[I" ∈ G_ := gt4 235 (by decide +kernel) (by decide +kernel)
theorem w_166 : Cond.fieldLink RX10 40 "StablingroadModel" "days" "[I" ∈ G_ := gt4 236 (by decide +kernel) (by decide +kernel)
theorem w_167 : Cond.fieldLink RX10 135 "StablingroadModel" "today" "I" ∈ G_ := gt4 221 (by decide +kernel) (by decide +kernel)
theorem w_168 : Cond.fieldLink RX10 43 "StablingroadModel" "places" "[I" ∈ G_ := gt4 237 (by decide +kernel) (by decide +kernel)
theorem w_169 : Cond.fieldLink RX10 46 "StablingroadModel" "amounts" "[I" ∈ G_ := gt4 238 (by decide +kernel) (by decide +kernel)
theorem w_170 : Cond.methodLink RX10 138 yX10_isDiagram ∈ G_ := gt5 153 (by decide +kernel) (by decide +kernel)
theorem w_171 : Cond.instanceMethod yX10_isDiagram ∈ G_ := gt5 155 (by decide +kernel) (by decide +kernel)
theorem w_172 : Cond.selects RX10 yX10_isDiagram yX10_isDiagram ∈ G_ := gsl 32 (by decide +kernel) (by decide +kernel)
theorem w_173 : Cond.code yX10_isDiagram cX10_isDiagram 2 (some (.boolean)) ∈ G_ := gt5 156 (by decide +kernel) (by decide +kernel)
theorem w_174 : Cond.fieldLink RX10 22 "StablingroadModel" "kmClocks" "[I" ∈ G_ := gt4 230 (by decide +kernel) (by decide +kernel)
theorem w_175 : Cond.fieldLink RX10 25 "StablingroadModel" "dayClocks" "[I" ∈ G_ := gt4 231 (by decide +kernel) (by decide +kernel)
theorem w_176 : Cond.methodLink RX10 141 yX10_isExamDue ∈ G_ := gt5 165 (by decide +kernel) (by decide +kernel)
theorem w_177 : Cond.instanceMethod yX10_isExamDue ∈ G_ := gt5 167 (by decide +kernel) (by decide +kernel)
theorem w_178 : Cond.selects RX10 yX10_isExamDue yX10_isExamDue ∈ G_ := gsl 34 (by decide +kernel) (by decide +kernel)
theorem w_179 : Cond.code yX10_isExamDue cX10_isExamDue 5 (some (.boolean)) ∈ G_ := gt5 168 (by decide +kernel) (by decide +kernel)
theorem w_180 : Cond.methodLink RX10 145 yX10_isBarredByList ∈ G_ := gt5 169 (by decide +kernel) (by decide +kernel)
theorem w_181 : Cond.instanceMethod yX10_isBarredByList ∈ G_ := gt5 171 (by decide +kernel) (by decide +kernel)
theorem w_182 : Cond.selects RX10 yX10_isBarredByList yX10_isBarredByList ∈ G_ := gsl 35 (by decide +kernel) (by decide +kernel)
theorem w_183 : Cond.code yX10_isBarredByList cX10_isBarredByList 6 (some (.boolean)) ∈ G_ := gt5 172 (by decide +kernel) (by decide +kernel)
theorem w_184 : Cond.methodLink RX10 148 yX10_isBad ∈ G_ := gt5 173 (by decide +kernel) (by decide +kernel)
theorem w_185 : Cond.instanceMethod yX10_isBad ∈ G_ := gt5 175 (by decide +kernel) (by decide +kernel)
theorem w_186 : Cond.selects RX10 yX10_isBad yX10_isBad ∈ G_ := gsl 36 (by decide +kernel) (by decide +kernel)
theorem w_187 : Cond.code yX10_isBad cX10_isBad 5 (some (.boolean)) ∈ G_ := gt5 176 (by decide +kernel) (by decide +kernel)
theorem w_188 : Cond.methodLink RX10 151 yX10_isWorn ∈ G_ := gt5 177 (by decide +kernel) (by decide +kernel)
theorem w_189 : Cond.instanceMethod yX10_isWorn ∈ G_ := gt5 179 (by decide +kernel) (by decide +kernel)
theorem w_190 : Cond.selects RX10 yX10_isWorn yX10_isWorn ∈ G_ := gsl 37 (by decide +kernel) (by decide +kernel)
theorem w_191 : Cond.code yX10_isWorn cX10_isWorn 5 (some (.boolean)) ∈ G_ := gt5 180 (by decide +kernel) (by decide +kernel)
theorem w_192 : Cond.methodLink RX10 154 yX10_reason ∈ G_ := gt5 161 (by decide +kernel) (by decide +kernel)
theorem w_193 : Cond.instanceMethod yX10_reason ∈ G_ := gt5 163 (by decide +kernel) (by decide +kernel)
theorem w_194 : Cond.selects RX10 yX10_reason yX10_reason ∈ G_ := gsl 33 (by decide +kernel) (by decide +kernel)
theorem w_195 : Cond.code yX10_reason cX10_reason 3 (some (.int)) ∈ G_ := gt5 164 (by decide +kernel) (by decide +kernel)
theorem w_196 : Cond.fieldLink RX10 158 "StablingroadModel" "bestLack" "I" ∈ G_ := gt5 17 (by decide +kernel) (by decide +kernel)
theorem w_197 : Cond.fieldLink RX10 161 "StablingroadModel" "bestHoming" "I" ∈ G_ := gt5 18 (by decide +kernel) (by decide +kernel)
theorem w_198 : Cond.fieldLink RX10 88 "StablingroadModel" "tried" "[I" ∈ G_ := gt5 13 (by decide +kernel) (by decide +kernel)
theorem w_199 : Cond.fieldLink RX10 85 "StablingroadModel" "best" "[I" ∈ G_ := gt5 12 (by decide +kernel) (by decide +kernel)
theorem w_200 : Cond.fieldLink RX10 98 "StablingroadModel" "isSoonNow" "[Z" ∈ G_ := gt5 16 (by decide +kernel) (by decide +kernel)
theorem w_201 : Cond.methodLink RX10 167 yX10_looks ∈ G_ := gt5 193 (by decide +kernel) (by decide +kernel)
theorem w_202 : Cond.instanceMethod yX10_looks ∈ G_ := gt5 195 (by decide +kernel) (by decide +kernel)
theorem w_203 : Cond.selects RX10 yX10_looks yX10_looks ∈ G_ := gsl 40 (by decide +kernel) (by decide +kernel)
theorem w_204 : Cond.code yX10_looks cX10_looks 4 none ∈ G_ := gt5 196 (by decide +kernel) (by decide +kernel)
theorem w_205 : Cond.fieldLink RX10 91 "StablingroadModel" "isUsed" "[Z" ∈ G_ := gt5 14 (by decide +kernel) (by decide +kernel)
theorem w_206 : Cond.fieldLink RX10 95 "StablingroadModel" "may" "[Z" ∈ G_ := gt5 15 (by decide +kernel) (by decide +kernel)
theorem w_207 : Cond.methodLink RX10 164 yX10_isSoon ∈ G_ := gt5 189 (by decide +kernel) (by decide +kernel)
theorem w_208 : Cond.instanceMethod yX10_isSoon ∈ G_ := gt5 191 (by decide +kernel) (by decide +kernel)
theorem w_209 : Cond.selects RX10 yX10_isSoon yX10_isSoon ∈ G_ := gsl 39 (by decide +kernel) (by decide +kernel)
theorem w_210 : Cond.code yX10_isSoon cX10_isSoon 4 (some (.boolean)) ∈ G_ := gt5 192 (by decide +kernel) (by decide +kernel)
theorem w_211 : Cond.methodLink RX10 170 yX10_decides ∈ G_ := gt5 185 (by decide +kernel) (by decide +kernel)
theorem w_212 : Cond.instanceMethod yX10_decides ∈ G_ := gt5 187 (by decide +kernel) (by decide +kernel)
theorem w_213 : Cond.selects RX10 yX10_decides yX10_decides ∈ G_ := gsl 38 (by decide +kernel) (by decide +kernel)
theorem w_214 : Cond.code yX10_decides cX10_decides 3 none ∈ G_ := gt5 188 (by decide +kernel) (by decide +kernel)
theorem w_215 : Cond.fieldLink RX10 186 "StablingroadModel" "isPitUsed" "Z" ∈ G_ := gt4 223 (by decide +kernel) (by decide +kernel)
theorem w_216 : Cond.fieldLink RX10 190 "StablingroadModel" "isLatheUsed" "Z" ∈ G_ := gt4 224 (by decide +kernel) (by decide +kernel)
theorem w_217 : Cond.methodLink RX10 183 yX10_runs ∈ G_ := gt5 217 (by decide +kernel) (by decide +kernel)
theorem w_218 : Cond.instanceMethod yX10_runs ∈ G_ := gt5 219 (by decide +kernel) (by decide +kernel)
theorem w_219 : Cond.selects RX10 yX10_runs yX10_runs ∈ G_ := gsl 43 (by decide +kernel) (by decide +kernel)
theorem w_220 : Cond.code yX10_runs cX10_runs 6 none ∈ G_ := gt5 220 (by decide +kernel) (by decide +kernel)
theorem w_221 : Cond.fieldLink RX10 82 "StablingroadModel" "log" "[I" ∈ G_ := gt5 11 (by decide +kernel) (by decide +kernel)
theorem w_222 : Cond.methodLink RX10 173 yX10_placeOf ∈ G_ := gt5 213 (by decide +kernel) (by decide +kernel)
theorem w_223 : Cond.instanceMethod yX10_placeOf ∈ G_ := gt5 215 (by decide +kernel) (by decide +kernel)
theorem w_224 : Cond.selects RX10 yX10_placeOf yX10_placeOf ∈ G_ := gsl 42 (by decide +kernel) (by decide +kernel)
theorem w_225 : Cond.code yX10_placeOf cX10_placeOf 3 (some (.int)) ∈ G_ := gt5 216 (by decide +kernel) (by decide +kernel)
theorem w_226 : Cond.fieldLink RX10 176 "StablingroadModel" "shunted" "I" ∈ G_ := gt4 222 (by decide +kernel) (by decide +kernel)
theorem w_227 : Cond.methodLink RX10 179 yX10_leaves ∈ G_ := gt5 209 (by decide +kernel) (by decide +kernel)
theorem w_228 : Cond.instanceMethod yX10_leaves ∈ G_ := gt5 211 (by decide +kernel) (by decide +kernel)
theorem w_229 : Cond.selects RX10 yX10_leaves yX10_leaves ∈ G_ := gsl 41 (by decide +kernel) (by decide +kernel)
theorem w_230 : Cond.code yX10_leaves cX10_leaves 5 none ∈ G_ := gt5 212 (by decide +kernel) (by decide +kernel)
theorem w_231 : Cond.methodLink RX10 193 yX10_goes ∈ G_ := gt5 229 (by decide +kernel) (by decide +kernel)
theorem w_232 : Cond.instanceMethod yX10_goes ∈ G_ := gt5 231 (by decide +kernel) (by decide +kernel)
theorem w_233 : Cond.selects RX10 yX10_goes yX10_goes ∈ G_ := gsl 44 (by decide +kernel) (by decide +kernel)
theorem w_234 : Cond.code yX10_goes cX10_goes 4 none ∈ G_ := gt5 232 (by decide +kernel) (by decide +kernel)
theorem w_235 : Cond.methodLink RX10 196 yX10_isFault ∈ G_ := gt5 237 (by decide +kernel) (by decide +kernel)
theorem w_236 : Cond.instanceMethod yX10_isFault ∈ G_ := gt5 239 (by decide +kernel) (by decide +kernel)
theorem w_237 : Cond.selects RX10 yX10_isFault yX10_isFault ∈ G_ := gsl 45 (by decide +kernel) (by decide +kernel)
theorem w_238 : Cond.code yX10_isFault cX10_isFault 3 (some (.boolean)) ∈ G_ := gt6 0 (by decide +kernel) (by decide +kernel)
def f_X10_thrown (σ : Wd) : Option ((Int32 ⊕ String) × Wd) :=
  some (.inl (σ.1 30 0 0), σ)
theorem nc_X10_thrown (X : Xt) (hst : X.1.stackTraces = false) (ad : Ad) (σ : Wd) : NC X (fun a => a = ad) yX10_thrown cX10_thrown 1 (some (.int)) 0 0 vI (0, 0) ad σ [.ref (ad 30 0)] (f_X10_thrown σ) := by
  unfold f_X10_thrown
  refine NC.intro RX10 rfl hst (by decide) (Nat.le_of_ble_eq_true rfl) (lv := [(0, .ref _)]) rfl ?_
  refine r_aload_n 0 rfl dX10_thrown_0 ?_
  refine r_getf 0 (lvs_30 _) (cell_30 _ _ _ _) rfl (by decide) in_11 w_117 rfl dX10_thrown_1 ?_
  exact r_iret rfl rfl rfl dX10_thrown_4
def f_X10_between (σ : Wd) (p0 : Int32) (p1 : Int32) (p2 : Int32) : Option ((Int32 ⊕ String) × Wd) :=
  if p0 < p1 then
    some (.inl (0 : Int32), σ)
  else
    if p2 < p0 then
      some (.inl (0 : Int32), σ)
    else
      some (.inl (1 : Int32), σ)
theorem nc_X10_between (X : Xt) (hst : X.1.stackTraces = false) (ad : Ad) (σ : Wd) (p0 : Int32) (p1 : Int32) (p2 : Int32) : NC X (fun a => a = ad) yX10_between cX10_between 4 (some (.boolean)) 0 0 vI (0, 0) ad σ [.ref (ad 30 0), .int p0, .int p1, .int p2] (f_X10_between σ p0 p1 p2) := by
  unfold f_X10_between
  refine NC.intro RX10 rfl hst (by decide) (Nat.le_of_ble_eq_true rfl) (lv := [(0, .ref _), (1, .int _), (2, .int _), (3, .int _)]) rfl ?_
  refine r_iload_n 1 rfl dX10_between_0 ?_
  refine r_iload_n 2 rfl dX10_between_1 ?_
  refine r_icmp_lt 14 dX10_between_2 (by decide) ?_ ?_
  · refine r_iconst (0) (by decide) dX10_between_14 ?_
    exact r_zret rfl rfl rfl rfl dX10_between_15
  · refine r_iload_n 1 rfl dX10_between_5 ?_
    refine r_iload_n 3 rfl dX10_between_6 ?_
    refine r_icmp_gt 14 dX10_between_7 (by decide) ?_ ?_
    · refine r_iconst (0) (by decide) dX10_between_14 ?_
      exact r_zret rfl rfl rfl rfl dX10_between_15
    · refine r_iconst (1) (by decide) dX10_between_10 ?_
      refine r_goto 15 dX10_between_11 (by decide) ?_
      exact r_zret rfl rfl rfl rfl dX10_between_15
def f_X10_isDepot (σ : Wd) (p0 : Int32) : Option ((Int32 ⊕ String) × Wd) :=
  bx (f_X10_between σ p0 (0 : Int32) (2 : Int32)) fun v1 σ2 =>
  gd (v1 = 0 ∨ v1 = 1) <|
  some (.inl v1, σ2)
theorem nc_X10_isDepot (X : Xt) (hst : X.1.stackTraces = false) (ad : Ad) (σ : Wd) (p0 : Int32) : NC X (fun a => a = ad) yX10_isDepot cX10_isDepot 2 (some (.boolean)) 1 23 vI (0, 0) ad σ [.ref (ad 30 0), .int p0] (f_X10_isDepot σ p0) := by
  unfold f_X10_isDepot
  refine NC.intro RX10 rfl hst (by decide) (Nat.le_of_ble_eq_true rfl) (lv := [(0, .ref _), (1, .int _)]) rfl ?_
  refine r_aload_n 0 rfl dX10_isDepot_0 ?_
  refine r_iload_n 1 rfl dX10_isDepot_1 ?_
  refine r_iconst (0) (by decide) dX10_isDepot_2 ?_
  refine r_iconst (2) (by decide) dX10_isDepot_3 ?_
  refine r_callV (n := 3) (As := [.int _, .int _, .int _]) (cell_30 _ _ _ _) (lvs_30 _) rfl (nc_X10_between X hst ad _ _ _ _) (fun _ h => h) rfl ⟨rfl, by decide, by decide, by decide +kernel⟩ w_118 w_119 w_120 w_121 w_122 rfl rfl (Nat.le_of_ble_eq_true rfl) ⟨by decide, by decide⟩ dX10_isDepot_4 (fun v1 σ2 => ?_)
  refine r_gd (fun h1 => ?_)
  exact r_zret rfl rfl (zn h1) rfl dX10_isDepot_7
def f_X10_comes (σ : Wd) (p0 : Int32) (p1 : Int32) : Option ((Unit ⊕ String) × Wd) :=
  gd (inb p0 6) <|
  bd (wr σ 31 0 p0.toNatClampNeg p1) fun σ1 =>
  gd (inb p1 3) <|
  gd (inb (((6 : Int32) * p1) + (σ1.1 38 0 p1.toNatClampNeg)) 18) <|
  bd (wr σ1 37 0 (((6 : Int32) * p1) + (σ1.1 38 0 p1.toNatClampNeg)).toNatClampNeg p0) fun σ2 =>
  bd (wr σ2 38 0 p1.toNatClampNeg ((σ2.1 38 0 p1.toNatClampNeg) + (1 : Int32))) fun σ3 =>
  some (.inl (), σ3)
theorem nc_X10_comes (X : Xt) (hst : X.1.stackTraces = false) (ad : Ad) (σ : Wd) (p0 : Int32) (p1 : Int32) : NC X (fun a => a = ad) yX10_comes cX10_comes 3 none 0 0 vV (0, 0) ad σ [.ref (ad 30 0), .int p0, .int p1] (f_X10_comes σ p0 p1) := by
  unfold f_X10_comes
  refine NC.intro RX10 rfl hst (by decide) (Nat.le_of_ble_eq_true rfl) (lv := [(0, .ref _), (1, .int _), (2, .int _)]) rfl ?_
  refine r_aload_n 0 rfl dX10_comes_0 ?_
  refine r_getf 6 (lvs_30 _) (cell_30 _ _ _ _) rfl (by decide) in_11 w_130 rfl dX10_comes_1 ?_
  refine r_iload_n 1 rfl dX10_comes_4 ?_
  refine r_iload_n 2 rfl dX10_comes_5 ?_
  refine r_gd (fun h1 => ?_)
  refine r_bd ?_
  refine r_iastore (lvs_31 _) (ia_31 _ _ _) h1 dX10_comes_6 ?_
  refine r_aload_n 0 rfl dX10_comes_7 ?_
  refine r_getf 12 (lvs_30 _) (cell_30 _ _ _ _) rfl (by decide) in_11 w_131 rfl dX10_comes_8 ?_
  refine r_bipush (6) (by decide) dX10_comes_11 ?_
  refine r_iload_n 2 rfl dX10_comes_13 ?_
  refine r_imul dX10_comes_14 ?_
  refine r_aload_n 0 rfl dX10_comes_15 ?_
  refine r_getf 13 (lvs_30 _) (cell_30 _ _ _ _) rfl (by decide) in_11 w_132 rfl dX10_comes_16 ?_
  refine r_iload_n 2 rfl dX10_comes_19 ?_
  refine r_gd (fun h2 => ?_)
  refine r_iaload (lvs_38 _) (cell_38 _ _ _ _) h2 dX10_comes_20 ?_
  refine r_iadd dX10_comes_21 ?_
  refine r_iload_n 1 rfl dX10_comes_22 ?_
  refine r_gd (fun h3 => ?_)
  refine r_bd ?_
  refine r_iastore (lvs_37 _) (ia_37 _ _ _) h3 dX10_comes_23 ?_
  refine r_aload_n 0 rfl dX10_comes_24 ?_
  refine r_getf 13 (lvs_30 _) (cell_30 _ _ _ _) rfl (by decide) in_11 w_132 rfl dX10_comes_25 ?_
  refine r_iload_n 2 rfl dX10_comes_28 ?_
  refine r_dup2 rfl rfl dX10_comes_29 ?_
  refine r_iaload (lvs_38 _) (cell_38 _ _ _ _) h2 dX10_comes_30 ?_
  refine r_iconst (1) (by decide) dX10_comes_31 ?_
  refine r_iadd dX10_comes_32 ?_
  refine r_bd ?_
  refine r_iastore (lvs_38 _) (ia_38 _ _ _) h2 dX10_comes_33 ?_
  exact r_vret rfl rfl rfl dX10_comes_34
def l_X10_unit_76 : Nat → Wd → Int32 → Int32 → Int32 → Option ((Int32 ⊕ String) × Wd)
  | 0, _, _, _, _ => none
  | n + 1, σ, a3, a1, a2 =>
  if (4 : Int32) ≤ a3 then
    bx (f_X10_comes σ (σ.1 30 0 5) a1) fun v6 σ7 =>
    bd (wr σ7 30 0 5 ((σ7.1 30 0 5) + (1 : Int32))) fun σ8 =>
    some (.inl ((σ8.1 30 0 5) - (1 : Int32)), σ8)
  else
    gd (inb (((4 : Int32) * (σ.1 30 0 5)) + a3) 24) <|
    bd (wr σ 34 0 (((4 : Int32) * (σ.1 30 0 5)) + a3).toNatClampNeg (900 : Int32)) fun σ9 =>
    (l_X10_unit_76 n) σ9 (a3 + 1) a1 a2
def j_X10_unit_42 (σ : Wd) (a1 : Int32) (a2 : Int32) (s0 : Int32) : Option ((Int32 ⊕ String) × Wd) :=
  bd (wr σ 30 0 0 s0) fun σ3 =>
  if (σ3.1 30 0 0) ≤ 0 then
    gd (inb (σ3.1 30 0 5) 6) <|
    bd (wr σ3 33 0 (σ3.1 30 0 5).toNatClampNeg a2) fun σ4 =>
    gd (inb (σ4.1 30 0 5) 6) <|
    bd (wr σ4 32 0 (σ4.1 30 0 5).toNatClampNeg a2) fun σ5 =>
    l_X10_unit_76 FU σ5 (0 : Int32) a1 a2
  else
    some (.inl (0 : Int32), σ3)
def f_X10_unit (σ : Wd) (p0 : Int32) (p1 : Int32) : Option ((Int32 ⊕ String) × Wd) :=
  bx (f_X10_isDepot σ p0) fun v1 σ2 =>
  if v1 = 0 then
    j_X10_unit_42 σ2 p0 p1 (1 : Int32)
  else
    bx (f_X10_between σ2 p1 (0 : Int32) (1000000 : Int32)) fun v10 σ11 =>
    if v10 = 0 then
      j_X10_unit_42 σ11 p0 p1 (2 : Int32)
    else
      if (σ11.1 30 0 5) = (6 : Int32) then
        j_X10_unit_42 σ11 p0 p1 (3 : Int32)
      else
        j_X10_unit_42 σ11 p0 p1 (0 : Int32)
theorem bl_X10_unit_76 (X : Xt) (hst : X.1.stackTraces = false) (ad : Ad) : ∀ (n : Nat) (σ : Wd) (a3 : Int32) (a1 : Int32) (a2 : Int32), Bk X (fun a => a = ad) cX10_unit 4 RX10 (some (.int)) 2 44 vI (0, 0) (0, 0) ad σ 76 [(3, .int a3), (0, .ref (ad 30 0)), (1, .int a1), (2, .int a2)] [] (l_X10_unit_76 n σ a3 a1 a2) := by
  intro n
  induction n with
  | zero => intros; exact r_none
  | succ n ih =>
  intro σ a3 a1 a2
  rw [l_X10_unit_76]
  refine r_iload_n 0 rfl dX10_unit_76 ?_
  refine r_iconst (4) (by decide) dX10_unit_77 ?_
  refine r_icmp_ge 103 dX10_unit_78 (by decide) ?_ ?_
  · refine r_aload_n 1 rfl dX10_unit_103 ?_
    refine r_aload_n 1 rfl dX10_unit_104 ?_
    refine r_getf 5 (lvs_30 _) (cell_30 _ _ _ _) rfl (by decide) in_11 w_128 rfl dX10_unit_105 ?_
    refine r_iload_n 2 rfl dX10_unit_108 ?_
    refine r_callV (n := 2) (As := [.int _, .int _]) (cell_30 _ _ _ _) (lvs_30 _) rfl (nc_X10_comes X hst ad _ _ _) (fun _ h => h) rfl ⟨rfl, by decide, by decide, by decide +kernel⟩ w_133 w_134 w_135 w_121 w_136 rfl rfl (Nat.le_of_ble_eq_true rfl) ⟨by decide, by decide⟩ dX10_unit_109 (fun v6 σ7 => ?_)
    refine r_aload_n 1 rfl dX10_unit_112 ?_
    refine r_dup rfl dX10_unit_113 ?_
    refine r_getf 5 (lvs_30 _) (cell_30 _ _ _ _) rfl (by decide) in_11 w_128 rfl dX10_unit_114 ?_
    refine r_iconst (1) (by decide) dX10_unit_117 ?_
    refine r_iadd dX10_unit_118 ?_
    refine r_bd ?_
    refine r_putf 5 tyX10 tyX10_ok nmX10 (lvs_30 _) (cell_30 _ _ _ _) (wrc_30_5 _ _ _ _ _) rfl (by decide) (Nat.le_of_ble_eq_true rfl) in_11 w_128 rfl rfl rfl dX10_unit_119 ?_
    refine r_aload_n 1 rfl dX10_unit_122 ?_
    refine r_getf 5 (lvs_30 _) (cell_30 _ _ _ _) rfl (by decide) in_11 w_128 rfl dX10_unit_123 ?_
    refine r_iconst (1) (by decide) dX10_unit_126 ?_
    refine r_isub dX10_unit_127 ?_
    exact r_iret rfl rfl rfl dX10_unit_128
  · refine r_aload_n 1 rfl dX10_unit_81 ?_
    refine r_getf 9 (lvs_30 _) (cell_30 _ _ _ _) rfl (by decide) in_11 w_137 rfl dX10_unit_82 ?_
    refine r_iconst (4) (by decide) dX10_unit_85 ?_
    refine r_aload_n 1 rfl dX10_unit_86 ?_
    refine r_getf 5 (lvs_30 _) (cell_30 _ _ _ _) rfl (by decide) in_11 w_128 rfl dX10_unit_87 ?_
    refine r_imul dX10_unit_90 ?_
    refine r_iload_n 0 rfl dX10_unit_91 ?_
    refine r_iadd dX10_unit_92 ?_
    refine r_sipush (900) (by decide) dX10_unit_93 ?_
    refine r_gd (fun h3 => ?_)
    refine r_bd ?_
    refine r_iastore (lvs_34 _) (ia_34 _ _ _) h3 dX10_unit_96 ?_
    refine r_iinc (1) [(3, .int _), (0, .ref _), (1, .int _), (2, .int _)] 0 rfl (by decide) rfl (by decide) dX10_unit_97 ?_
    refine r_goto 76 dX10_unit_100 (by decide) ?_
    exact r_sub [0, 1, 2, 3] rfl (ih _ _ _ _)
theorem bj_X10_unit_42 (X : Xt) (hst : X.1.stackTraces = false) (ad : Ad) (σ : Wd) (a1 : Int32) (a2 : Int32) (s0 : Int32) : Bk X (fun a => a = ad) cX10_unit 4 RX10 (some (.int)) 2 44 vI (0, 0) (0, 0) ad σ 42 [(0, .ref (ad 30 0)), (1, .int a1), (2, .int a2)] [.int s0, .ref (ad 30 0)] (j_X10_unit_42 σ a1 a2 s0) := by
  unfold j_X10_unit_42
  refine r_bd ?_
  refine r_putf 0 tyX10 tyX10_ok nmX10 (lvs_30 _) (cell_30 _ _ _ _) (wrc_30_0 _ _ _ _ _) rfl (by decide) (Nat.le_of_ble_eq_true rfl) in_11 w_117 rfl rfl rfl dX10_unit_42 ?_
  refine r_aload_n 0 rfl dX10_unit_45 ?_
  refine r_getf 0 (lvs_30 _) (cell_30 _ _ _ _) rfl (by decide) in_11 w_117 rfl dX10_unit_46 ?_
  refine r_if_le 54 dX10_unit_49 (by decide) ?_ ?_
  · refine r_aload_n 0 rfl dX10_unit_54 ?_
    refine r_getf 8 (lvs_30 _) (cell_30 _ _ _ _) rfl (by decide) in_11 w_127 rfl dX10_unit_55 ?_
    refine r_aload_n 0 rfl dX10_unit_58 ?_
    refine r_getf 5 (lvs_30 _) (cell_30 _ _ _ _) rfl (by decide) in_11 w_128 rfl dX10_unit_59 ?_
    refine r_iload_n 2 rfl dX10_unit_62 ?_
    refine r_gd (fun h1 => ?_)
    refine r_bd ?_
    refine r_iastore (lvs_33 _) (ia_33 _ _ _) h1 dX10_unit_63 ?_
    refine r_aload_n 0 rfl dX10_unit_64 ?_
    refine r_getf 7 (lvs_30 _) (cell_30 _ _ _ _) rfl (by decide) in_11 w_129 rfl dX10_unit_65 ?_
    refine r_aload_n 0 rfl dX10_unit_68 ?_
    refine r_getf 5 (lvs_30 _) (cell_30 _ _ _ _) rfl (by decide) in_11 w_128 rfl dX10_unit_69 ?_
    refine r_iload_n 2 rfl dX10_unit_72 ?_
    refine r_gd (fun h2 => ?_)
    refine r_bd ?_
    refine r_iastore (lvs_32 _) (ia_32 _ _ _) h2 dX10_unit_73 ?_
    refine r_iconst (0) (by decide) dX10_unit_74 ?_
    refine r_istore_n [(3, .int _), (0, .ref _), (1, .int _), (2, .int _)] rfl (by decide) dX10_unit_75 ?_
    exact r_sub [0, 1, 2, 3] rfl ((bl_X10_unit_76 X hst ad FU) _ _ _ _)
  · refine r_iconst (0) (by decide) dX10_unit_52 ?_
    exact r_iret rfl rfl rfl dX10_unit_53
theorem nc_X10_unit (X : Xt) (hst : X.1.stackTraces = false) (ad : Ad) (σ : Wd) (p0 : Int32) (p1 : Int32) : NC X (fun a => a = ad) yX10_unit cX10_unit 4 (some (.int)) 2 44 vI (0, 0) ad σ [.ref (ad 30 0), .int p0, .int p1] (f_X10_unit σ p0 p1) := by
  unfold f_X10_unit
  refine NC.intro RX10 rfl hst (by decide) (Nat.le_of_ble_eq_true rfl) (lv := [(0, .ref _), (1, .int _), (2, .int _)]) rfl ?_
  refine r_aload_n 0 rfl dX10_unit_0 ?_
  refine r_aload_n 0 rfl dX10_unit_1 ?_
  refine r_iload_n 1 rfl dX10_unit_2 ?_
  refine r_callV (n := 1) (As := [.int _]) (cell_30 _ _ _ _) (lvs_30 _) rfl (nc_X10_isDepot X hst ad _ _) (fun _ h => h) rfl ⟨rfl, by decide, by decide, by decide +kernel⟩ w_123 w_124 w_125 w_121 w_126 rfl rfl (Nat.le_of_ble_eq_true rfl) ⟨by decide, by decide⟩ dX10_unit_3 (fun v1 σ2 => ?_)
  refine r_if_ne 13 dX10_unit_6 (by decide) ?_ ?_
  · refine r_iconst (1) (by decide) dX10_unit_9 ?_
    refine r_goto 42 dX10_unit_10 (by decide) ?_
    exact r_sub [0, 1, 2] rfl ((bj_X10_unit_42 X hst ad) _ _ _ _)
  · refine r_aload_n 0 rfl dX10_unit_13 ?_
    refine r_iload_n 2 rfl dX10_unit_14 ?_
    refine r_iconst (0) (by decide) dX10_unit_15 ?_
    refine r_ldc (1000000) w_138 dX10_unit_16 ?_
    refine r_callV (n := 3) (As := [.int _, .int _, .int _]) (cell_30 _ _ _ _) (lvs_30 _) rfl (nc_X10_between X hst ad _ _ _ _) (fun _ h => h) rfl ⟨rfl, by decide, by decide, by decide +kernel⟩ w_118 w_119 w_120 w_121 w_122 rfl rfl (Nat.le_of_ble_eq_true rfl) ⟨by decide, by decide⟩ dX10_unit_18 (fun v10 σ11 => ?_)
    refine r_if_ne 28 dX10_unit_21 (by decide) ?_ ?_
    · refine r_iconst (2) (by decide) dX10_unit_24 ?_
      refine r_goto 42 dX10_unit_25 (by decide) ?_
      exact r_sub [0, 1, 2] rfl ((bj_X10_unit_42 X hst ad) _ _ _ _)
    · refine r_aload_n 0 rfl dX10_unit_28 ?_
      refine r_getf 5 (lvs_30 _) (cell_30 _ _ _ _) rfl (by decide) in_11 w_128 rfl dX10_unit_29 ?_
      refine r_bipush (6) (by decide) dX10_unit_32 ?_
      refine r_icmp_ne 41 dX10_unit_34 (by decide) ?_ ?_
      · refine r_iconst (3) (by decide) dX10_unit_37 ?_
        refine r_goto 42 dX10_unit_38 (by decide) ?_
        exact r_sub [0, 1, 2] rfl ((bj_X10_unit_42 X hst ad) _ _ _ _)
      · refine r_iconst (0) (by decide) dX10_unit_41 ?_
        exact r_sub [0, 1, 2] rfl ((bj_X10_unit_42 X hst ad) _ _ _ _)
def j_X10_diagram_74 (σ : Wd) (a1 : Int32) (a2 : Int32) (a3 : Int32) (a4 : Int32) (a5 : Int32) (s0 : Int32) : Option ((Int32 ⊕ String) × Wd) :=
  bd (wr σ 30 0 0 s0) fun σ3 =>
  if (σ3.1 30 0 0) ≤ 0 then
    gd (inb (σ3.1 30 0 19) 6) <|
    bd (wr σ3 44 0 (σ3.1 30 0 19).toNatClampNeg a1) fun σ4 =>
    gd (inb (σ4.1 30 0 19) 6) <|
    bd (wr σ4 45 0 (σ4.1 30 0 19).toNatClampNeg a2) fun σ5 =>
    gd (inb (σ5.1 30 0 19) 6) <|
    bd (wr σ5 46 0 (σ5.1 30 0 19).toNatClampNeg a3) fun σ6 =>
    gd (inb (σ6.1 30 0 19) 6) <|
    bd (wr σ6 47 0 (σ6.1 30 0 19).toNatClampNeg a4) fun σ7 =>
    gd (inb (σ7.1 30 0 19) 6) <|
    bd (wr σ7 48 0 (σ7.1 30 0 19).toNatClampNeg a5) fun σ8 =>
    gd (inb (σ8.1 30 0 19) 6) <|
    bd (wr σ8 49 0 (σ8.1 30 0 19).toNatClampNeg (-1 : Int32)) fun σ9 =>
    bd (wr σ9 30 0 19 ((σ9.1 30 0 19) + (1 : Int32))) fun σ10 =>
    some (.inl ((σ10.1 30 0 19) - (1 : Int32)), σ10)
  else
    some (.inl (0 : Int32), σ3)
def j_X10_diagram_17 (σ : Wd) (a1 : Int32) (a2 : Int32) (a3 : Int32) (a4 : Int32) (a5 : Int32) : Option ((Int32 ⊕ String) × Wd) :=
  j_X10_diagram_74 σ a1 a2 a3 a4 a5 (1 : Int32)
def j_X10_diagram_56 (σ : Wd) (a1 : Int32) (a2 : Int32) (a3 : Int32) (a4 : Int32) (a5 : Int32) : Option ((Int32 ⊕ String) × Wd) :=
  j_X10_diagram_74 σ a1 a2 a3 a4 a5 (2 : Int32)
def f_X10_diagram (σ : Wd) (p0 : Int32) (p1 : Int32) (p2 : Int32) (p3 : Int32) (p4 : Int32) : Option ((Int32 ⊕ String) × Wd) :=
  bx (f_X10_isDepot σ p0) fun v1 σ2 =>
  if v1 = 0 then
    j_X10_diagram_17 σ2 p0 p1 p2 p3 p4
  else
    bx (f_X10_isDepot σ2 p1) fun v11 σ12 =>
    if v11 = 0 then
      j_X10_diagram_17 σ12 p0 p1 p2 p3 p4
    else
      bx (f_X10_between σ12 p2 (1 : Int32) (2000 : Int32)) fun v13 σ14 =>
      if v13 = 0 then
        j_X10_diagram_56 σ14 p0 p1 p2 p3 p4
      else
        bx (f_X10_between σ14 p3 (0 : Int32) (2 : Int32)) fun v15 σ16 =>
        if v15 = 0 then
          j_X10_diagram_56 σ16 p0 p1 p2 p3 p4
        else
          bx (f_X10_between σ16 p4 (1 : Int32) (100 : Int32)) fun v17 σ18 =>
          if v17 = 0 then
            j_X10_diagram_56 σ18 p0 p1 p2 p3 p4
          else
            if (σ18.1 30 0 19) = (6 : Int32) then
              j_X10_diagram_74 σ18 p0 p1 p2 p3 p4 (3 : Int32)
            else
              j_X10_diagram_74 σ18 p0 p1 p2 p3 p4 (0 : Int32)
theorem bj_X10_diagram_74 (X : Xt) (hst : X.1.stackTraces = false) (ad : Ad) (σ : Wd) (a1 : Int32) (a2 : Int32) (a3 : Int32) (a4 : Int32) (a5 : Int32) (s0 : Int32) : Bk X (fun a => a = ad) cX10_diagram 6 RX10 (some (.int)) 2 44 vI (0, 0) (0, 0) ad σ 74 [(0, .ref (ad 30 0)), (1, .int a1), (2, .int a2), (3, .int a3), (4, .int a4), (5, .int a5)] [.int s0, .ref (ad 30 0)] (j_X10_diagram_74 σ a1 a2 a3 a4 a5 s0) := by
  unfold j_X10_diagram_74
  refine r_bd ?_
  refine r_putf 0 tyX10 tyX10_ok nmX10 (lvs_30 _) (cell_30 _ _ _ _) (wrc_30_0 _ _ _ _ _) rfl (by decide) (Nat.le_of_ble_eq_true rfl) in_11 w_117 rfl rfl rfl dX10_diagram_74 ?_
  refine r_aload_n 0 rfl dX10_diagram_77 ?_
  refine r_getf 0 (lvs_30 _) (cell_30 _ _ _ _) rfl (by decide) in_11 w_117 rfl dX10_diagram_78 ?_
  refine r_if_le 86 dX10_diagram_81 (by decide) ?_ ?_
  · refine r_aload_n 0 rfl dX10_diagram_86 ?_
    refine r_getf 20 (lvs_30 _) (cell_30 _ _ _ _) rfl (by decide) in_11 w_139 rfl dX10_diagram_87 ?_
    refine r_aload_n 0 rfl dX10_diagram_90 ?_
    refine r_getf 19 (lvs_30 _) (cell_30 _ _ _ _) rfl (by decide) in_11 w_140 rfl dX10_diagram_91 ?_
    refine r_iload_n 1 rfl dX10_diagram_94 ?_
    refine r_gd (fun h1 => ?_)
    refine r_bd ?_
    refine r_iastore (lvs_44 _) (ia_44 _ _ _) h1 dX10_diagram_95 ?_
    refine r_aload_n 0 rfl dX10_diagram_96 ?_
    refine r_getf 21 (lvs_30 _) (cell_30 _ _ _ _) rfl (by decide) in_11 w_141 rfl dX10_diagram_97 ?_
    refine r_aload_n 0 rfl dX10_diagram_100 ?_
    refine r_getf 19 (lvs_30 _) (cell_30 _ _ _ _) rfl (by decide) in_11 w_140 rfl dX10_diagram_101 ?_
    refine r_iload_n 2 rfl dX10_diagram_104 ?_
    refine r_gd (fun h2 => ?_)
    refine r_bd ?_
    refine r_iastore (lvs_45 _) (ia_45 _ _ _) h2 dX10_diagram_105 ?_
    refine r_aload_n 0 rfl dX10_diagram_106 ?_
    refine r_getf 22 (lvs_30 _) (cell_30 _ _ _ _) rfl (by decide) in_11 w_142 rfl dX10_diagram_107 ?_
    refine r_aload_n 0 rfl dX10_diagram_110 ?_
    refine r_getf 19 (lvs_30 _) (cell_30 _ _ _ _) rfl (by decide) in_11 w_140 rfl dX10_diagram_111 ?_
    refine r_iload_n 3 rfl dX10_diagram_114 ?_
    refine r_gd (fun h3 => ?_)
    refine r_bd ?_
    refine r_iastore (lvs_46 _) (ia_46 _ _ _) h3 dX10_diagram_115 ?_
    refine r_aload_n 0 rfl dX10_diagram_116 ?_
    refine r_getf 23 (lvs_30 _) (cell_30 _ _ _ _) rfl (by decide) in_11 w_143 rfl dX10_diagram_117 ?_
    refine r_aload_n 0 rfl dX10_diagram_120 ?_
    refine r_getf 19 (lvs_30 _) (cell_30 _ _ _ _) rfl (by decide) in_11 w_140 rfl dX10_diagram_121 ?_
    refine r_iload 4 rfl dX10_diagram_124 ?_
    refine r_gd (fun h4 => ?_)
    refine r_bd ?_
    refine r_iastore (lvs_47 _) (ia_47 _ _ _) h4 dX10_diagram_126 ?_
    refine r_aload_n 0 rfl dX10_diagram_127 ?_
    refine r_getf 24 (lvs_30 _) (cell_30 _ _ _ _) rfl (by decide) in_11 w_144 rfl dX10_diagram_128 ?_
    refine r_aload_n 0 rfl dX10_diagram_131 ?_
    refine r_getf 19 (lvs_30 _) (cell_30 _ _ _ _) rfl (by decide) in_11 w_140 rfl dX10_diagram_132 ?_
    refine r_iload 5 rfl dX10_diagram_135 ?_
    refine r_gd (fun h5 => ?_)
    refine r_bd ?_
    refine r_iastore (lvs_48 _) (ia_48 _ _ _) h5 dX10_diagram_137 ?_
    refine r_aload_n 0 rfl dX10_diagram_138 ?_
    refine r_getf 25 (lvs_30 _) (cell_30 _ _ _ _) rfl (by decide) in_11 w_145 rfl dX10_diagram_139 ?_
    refine r_aload_n 0 rfl dX10_diagram_142 ?_
    refine r_getf 19 (lvs_30 _) (cell_30 _ _ _ _) rfl (by decide) in_11 w_140 rfl dX10_diagram_143 ?_
    refine r_iconst (-1) (by decide) dX10_diagram_146 ?_
    refine r_gd (fun h6 => ?_)
    refine r_bd ?_
    refine r_iastore (lvs_49 _) (ia_49 _ _ _) h6 dX10_diagram_147 ?_
    refine r_aload_n 0 rfl dX10_diagram_148 ?_
    refine r_dup rfl dX10_diagram_149 ?_
    refine r_getf 19 (lvs_30 _) (cell_30 _ _ _ _) rfl (by decide) in_11 w_140 rfl dX10_diagram_150 ?_
    refine r_iconst (1) (by decide) dX10_diagram_153 ?_
    refine r_iadd dX10_diagram_154 ?_
    refine r_bd ?_
    refine r_putf 19 tyX10 tyX10_ok nmX10 (lvs_30 _) (cell_30 _ _ _ _) (wrc_30_19 _ _ _ _ _) rfl (by decide) (Nat.le_of_ble_eq_true rfl) in_11 w_140 rfl rfl rfl dX10_diagram_155 ?_
    refine r_aload_n 0 rfl dX10_diagram_158 ?_
    refine r_getf 19 (lvs_30 _) (cell_30 _ _ _ _) rfl (by decide) in_11 w_140 rfl dX10_diagram_159 ?_
    refine r_iconst (1) (by decide) dX10_diagram_162 ?_
    refine r_isub dX10_diagram_163 ?_
    exact r_iret rfl rfl rfl dX10_diagram_164
  · refine r_iconst (0) (by decide) dX10_diagram_84 ?_
    exact r_iret rfl rfl rfl dX10_diagram_85
theorem bj_X10_diagram_17 (X : Xt) (hst : X.1.stackTraces = false) (ad : Ad) (σ : Wd) (a1 : Int32) (a2 : Int32) (a3 : Int32) (a4 : Int32) (a5 : Int32) : Bk X (fun a => a = ad) cX10_diagram 6 RX10 (some (.int)) 2 44 vI (0, 0) (0, 0) ad σ 17 [(0, .ref (ad 30 0)), (1, .int a1), (2, .int a2), (3, .int a3), (4, .int a4), (5, .int a5)] [.ref (ad 30 0)] (j_X10_diagram_17 σ a1 a2 a3 a4 a5) := by
  unfold j_X10_diagram_17
  refine r_iconst (1) (by decide) dX10_diagram_17 ?_
  refine r_goto 74 dX10_diagram_18 (by decide) ?_
  exact r_sub [0, 1, 2, 3, 4, 5] rfl ((bj_X10_diagram_74 X hst ad) _ _ _ _ _ _ _)
theorem bj_X10_diagram_56 (X : Xt) (hst : X.1.stackTraces = false) (ad : Ad) (σ : Wd) (a1 : Int32) (a2 : Int32) (a3 : Int32) (a4 : Int32) (a5 : Int32) : Bk X (fun a => a = ad) cX10_diagram 6 RX10 (some (.int)) 2 44 vI (0, 0) (0, 0) ad σ 56 [(0, .ref (ad 30 0)), (1, .int a1), (2, .int a2), (3, .int a3), (4, .int a4), (5, .int a5)] [.ref (ad 30 0)] (j_X10_diagram_56 σ a1 a2 a3 a4 a5) := by
  unfold j_X10_diagram_56
  refine r_iconst (2) (by decide) dX10_diagram_56 ?_
  refine r_goto 74 dX10_diagram_57 (by decide) ?_
  exact r_sub [0, 1, 2, 3, 4, 5] rfl ((bj_X10_diagram_74 X hst ad) _ _ _ _ _ _ _)
theorem nc_X10_diagram (X : Xt) (hst : X.1.stackTraces = false) (ad : Ad) (σ : Wd) (p0 : Int32) (p1 : Int32) (p2 : Int32) (p3 : Int32) (p4 : Int32) : NC X (fun a => a = ad) yX10_diagram cX10_diagram 6 (some (.int)) 2 44 vI (0, 0) ad σ [.ref (ad 30 0), .int p0, .int p1, .int p2, .int p3, .int p4] (f_X10_diagram σ p0 p1 p2 p3 p4) := by
  unfold f_X10_diagram
  refine NC.intro RX10 rfl hst (by decide) (Nat.le_of_ble_eq_true rfl) (lv := [(0, .ref _), (1, .int _), (2, .int _), (3, .int _), (4, .int _), (5, .int _)]) rfl ?_
  refine r_aload_n 0 rfl dX10_diagram_0 ?_
  refine r_aload_n 0 rfl dX10_diagram_1 ?_
  refine r_iload_n 1 rfl dX10_diagram_2 ?_
  refine r_callV (n := 1) (As := [.int _]) (cell_30 _ _ _ _) (lvs_30 _) rfl (nc_X10_isDepot X hst ad _ _) (fun _ h => h) rfl ⟨rfl, by decide, by decide, by decide +kernel⟩ w_123 w_124 w_125 w_121 w_126 rfl rfl (Nat.le_of_ble_eq_true rfl) ⟨by decide, by decide⟩ dX10_diagram_3 (fun v1 σ2 => ?_)
  refine r_if_eq 17 dX10_diagram_6 (by decide) ?_ ?_
  · exact r_sub [0, 1, 2, 3, 4, 5] rfl ((bj_X10_diagram_17 X hst ad) _ _ _ _ _ _)
  · refine r_aload_n 0 rfl dX10_diagram_9 ?_
    refine r_iload_n 2 rfl dX10_diagram_10 ?_
    refine r_callV (n := 1) (As := [.int _]) (cell_30 _ _ _ _) (lvs_30 _) rfl (nc_X10_isDepot X hst ad _ _) (fun _ h => h) rfl ⟨rfl, by decide, by decide, by decide +kernel⟩ w_123 w_124 w_125 w_121 w_126 rfl rfl (Nat.le_of_ble_eq_true rfl) ⟨by decide, by decide⟩ dX10_diagram_11 (fun v11 σ12 => ?_)
    refine r_if_ne 21 dX10_diagram_14 (by decide) ?_ ?_
    · exact r_sub [0, 1, 2, 3, 4, 5] rfl ((bj_X10_diagram_17 X hst ad) _ _ _ _ _ _)
    · refine r_aload_n 0 rfl dX10_diagram_21 ?_
      refine r_iload_n 3 rfl dX10_diagram_22 ?_
      refine r_iconst (1) (by decide) dX10_diagram_23 ?_
      refine r_sipush (2000) (by decide) dX10_diagram_24 ?_
      refine r_callV (n := 3) (As := [.int _, .int _, .int _]) (cell_30 _ _ _ _) (lvs_30 _) rfl (nc_X10_between X hst ad _ _ _ _) (fun _ h => h) rfl ⟨rfl, by decide, by decide, by decide +kernel⟩ w_118 w_119 w_120 w_121 w_122 rfl rfl (Nat.le_of_ble_eq_true rfl) ⟨by decide, by decide⟩ dX10_diagram_27 (fun v13 σ14 => ?_)
      refine r_if_eq 56 dX10_diagram_30 (by decide) ?_ ?_
      · exact r_sub [0, 1, 2, 3, 4, 5] rfl ((bj_X10_diagram_56 X hst ad) _ _ _ _ _ _)
      · refine r_aload_n 0 rfl dX10_diagram_33 ?_
        refine r_iload 4 rfl dX10_diagram_34 ?_
        refine r_iconst (0) (by decide) dX10_diagram_36 ?_
        refine r_iconst (2) (by decide) dX10_diagram_37 ?_
        refine r_callV (n := 3) (As := [.int _, .int _, .int _]) (cell_30 _ _ _ _) (lvs_30 _) rfl (nc_X10_between X hst ad _ _ _ _) (fun _ h => h) rfl ⟨rfl, by decide, by decide, by decide +kernel⟩ w_118 w_119 w_120 w_121 w_122 rfl rfl (Nat.le_of_ble_eq_true rfl) ⟨by decide, by decide⟩ dX10_diagram_38 (fun v15 σ16 => ?_)
        refine r_if_eq 56 dX10_diagram_41 (by decide) ?_ ?_
        · exact r_sub [0, 1, 2, 3, 4, 5] rfl ((bj_X10_diagram_56 X hst ad) _ _ _ _ _ _)
        · refine r_aload_n 0 rfl dX10_diagram_44 ?_
          refine r_iload 5 rfl dX10_diagram_45 ?_
          refine r_iconst (1) (by decide) dX10_diagram_47 ?_
          refine r_bipush (100) (by decide) dX10_diagram_48 ?_
          refine r_callV (n := 3) (As := [.int _, .int _, .int _]) (cell_30 _ _ _ _) (lvs_30 _) rfl (nc_X10_between X hst ad _ _ _ _) (fun _ h => h) rfl ⟨rfl, by decide, by decide, by decide +kernel⟩ w_118 w_119 w_120 w_121 w_122 rfl rfl (Nat.le_of_ble_eq_true rfl) ⟨by decide, by decide⟩ dX10_diagram_50 (fun v17 σ18 => ?_)
          refine r_if_ne 60 dX10_diagram_53 (by decide) ?_ ?_
          · exact r_sub [0, 1, 2, 3, 4, 5] rfl ((bj_X10_diagram_56 X hst ad) _ _ _ _ _ _)
          · refine r_aload_n 0 rfl dX10_diagram_60 ?_
            refine r_getf 19 (lvs_30 _) (cell_30 _ _ _ _) rfl (by decide) in_11 w_140 rfl dX10_diagram_61 ?_
            refine r_bipush (6) (by decide) dX10_diagram_64 ?_
            refine r_icmp_ne 73 dX10_diagram_66 (by decide) ?_ ?_
            · refine r_iconst (3) (by decide) dX10_diagram_69 ?_
              refine r_goto 74 dX10_diagram_70 (by decide) ?_
              exact r_sub [0, 1, 2, 3, 4, 5] rfl ((bj_X10_diagram_74 X hst ad) _ _ _ _ _ _ _)
            · refine r_iconst (0) (by decide) dX10_diagram_73 ?_
              exact r_sub [0, 1, 2, 3, 4, 5] rfl ((bj_X10_diagram_74 X hst ad) _ _ _ _ _ _ _)
def f_X10_isExam (σ : Wd) (p0 : Int32) : Option ((Int32 ⊕ String) × Wd) :=
  bx (f_X10_between σ p0 (0 : Int32) (2 : Int32)) fun v1 σ2 =>
  gd (v1 = 0 ∨ v1 = 1) <|
  some (.inl v1, σ2)
theorem nc_X10_isExam (X : Xt) (hst : X.1.stackTraces = false) (ad : Ad) (σ : Wd) (p0 : Int32) : NC X (fun a => a = ad) yX10_isExam cX10_isExam 2 (some (.boolean)) 1 23 vI (0, 0) ad σ [.ref (ad 30 0), .int p0] (f_X10_isExam σ p0) := by
  unfold f_X10_isExam
  refine NC.intro RX10 rfl hst (by decide) (Nat.le_of_ble_eq_true rfl) (lv := [(0, .ref _), (1, .int _)]) rfl ?_
  refine r_aload_n 0 rfl dX10_isExam_0 ?_
  refine r_iload_n 1 rfl dX10_isExam_1 ?_
  refine r_iconst (0) (by decide) dX10_isExam_2 ?_
  refine r_iconst (2) (by decide) dX10_isExam_3 ?_
  refine r_callV (n := 3) (As := [.int _, .int _, .int _]) (cell_30 _ _ _ _) (lvs_30 _) rfl (nc_X10_between X hst ad _ _ _ _) (fun _ h => h) rfl ⟨rfl, by decide, by decide, by decide +kernel⟩ w_118 w_119 w_120 w_121 w_122 rfl rfl (Nat.le_of_ble_eq_true rfl) ⟨by decide, by decide⟩ dX10_isExam_4 (fun v1 σ2 => ?_)
  refine r_gd (fun h1 => ?_)
  exact r_zret rfl rfl (zn h1) rfl dX10_isExam_7
def f_X10_bound (σ : Wd) (p0 : Int32) : Option ((Int32 ⊕ String) × Wd) :=
  gd (inb p0 3) <|
  some (.inl ((σ.1 50 0 p0.toNatClampNeg) + (((σ.1 50 0 p0.toNatClampNeg) * (σ.1 51 0 p0.toNatClampNeg)) / (100 : Int32))), σ)
theorem nc_X10_bound (X : Xt) (hst : X.1.stackTraces = false) (ad : Ad) (σ : Wd) (p0 : Int32) : NC X (fun a => a = ad) yX10_bound cX10_bound 2 (some (.int)) 0 0 vI (0, 0) ad σ [.ref (ad 30 0), .int p0] (f_X10_bound σ p0) := by
  unfold f_X10_bound
  refine NC.intro RX10 rfl hst (by decide) (Nat.le_of_ble_eq_true rfl) (lv := [(0, .ref _), (1, .int _)]) rfl ?_
  refine r_aload_n 0 rfl dX10_bound_0 ?_
  refine r_getf 26 (lvs_30 _) (cell_30 _ _ _ _) rfl (by decide) in_11 w_150 rfl dX10_bound_1 ?_
  refine r_iload_n 1 rfl dX10_bound_4 ?_
  refine r_gd (fun h1 => ?_)
  refine r_iaload (lvs_50 _) (cell_50 _ _ _ _) h1 dX10_bound_5 ?_
  refine r_aload_n 0 rfl dX10_bound_6 ?_
  refine r_getf 26 (lvs_30 _) (cell_30 _ _ _ _) rfl (by decide) in_11 w_150 rfl dX10_bound_7 ?_
  refine r_iload_n 1 rfl dX10_bound_10 ?_
  refine r_iaload (lvs_50 _) (cell_50 _ _ _ _) h1 dX10_bound_11 ?_
  refine r_aload_n 0 rfl dX10_bound_12 ?_
  refine r_getf 27 (lvs_30 _) (cell_30 _ _ _ _) rfl (by decide) in_11 w_151 rfl dX10_bound_13 ?_
  refine r_iload_n 1 rfl dX10_bound_16 ?_
  refine r_iaload (lvs_51 _) (cell_51 _ _ _ _) h1 dX10_bound_17 ?_
  refine r_imul dX10_bound_18 ?_
  refine r_bipush (100) (by decide) dX10_bound_19 ?_
  refine r_idiv (by decide) dX10_bound_21 ?_
  refine r_iadd dX10_bound_22 ?_
  exact r_iret rfl rfl rfl dX10_bound_23
def j_X10_exam_54 (σ : Wd) (a1 : Int32) (a2 : Int32) (a3 : Int32) (a4 : Int32) (s0 : Int32) : Option ((Int32 ⊕ String) × Wd) :=
  bd (wr σ 30 0 0 s0) fun σ3 =>
  if (σ3.1 30 0 0) ≤ 0 then
    gd (inb a1 3) <|
    bd (wr σ3 50 0 a1.toNatClampNeg a2) fun σ4 =>
    bd (wr σ4 51 0 a1.toNatClampNeg a3) fun σ5 =>
    bd (wr σ5 52 0 a1.toNatClampNeg a4) fun σ6 =>
    bx (f_X10_bound σ6 a1) fun v7 σ8 =>
    some (.inl v7, σ8)
  else
    some (.inl (0 : Int32), σ3)
def j_X10_exam_49 (σ : Wd) (a1 : Int32) (a2 : Int32) (a3 : Int32) (a4 : Int32) : Option ((Int32 ⊕ String) × Wd) :=
  j_X10_exam_54 σ a1 a2 a3 a4 (2 : Int32)
def f_X10_exam (σ : Wd) (p0 : Int32) (p1 : Int32) (p2 : Int32) (p3 : Int32) : Option ((Int32 ⊕ String) × Wd) :=
  bx (f_X10_isExam σ p0) fun v1 σ2 =>
  if v1 = 0 then
    j_X10_exam_54 σ2 p0 p1 p2 p3 (1 : Int32)
  else
    bx (f_X10_between σ2 p1 (100 : Int32) (100000 : Int32)) fun v9 σ10 =>
    if v9 = 0 then
      j_X10_exam_49 σ10 p0 p1 p2 p3
    else
      bx (f_X10_between σ10 p2 (0 : Int32) (20 : Int32)) fun v11 σ12 =>
      if v11 = 0 then
        j_X10_exam_49 σ12 p0 p1 p2 p3
      else
        bx (f_X10_between σ12 p3 (0 : Int32) (400 : Int32)) fun v13 σ14 =>
        if v13 = 0 then
          j_X10_exam_49 σ14 p0 p1 p2 p3
        else
          j_X10_exam_54 σ14 p0 p1 p2 p3 (0 : Int32)
theorem bj_X10_exam_54 (X : Xt) (hst : X.1.stackTraces = false) (ad : Ad) (σ : Wd) (a1 : Int32) (a2 : Int32) (a3 : Int32) (a4 : Int32) (s0 : Int32) : Bk X (fun a => a = ad) cX10_exam 5 RX10 (some (.int)) 2 44 vI (0, 0) (0, 0) ad σ 54 [(0, .ref (ad 30 0)), (1, .int a1), (2, .int a2), (3, .int a3), (4, .int a4)] [.int s0, .ref (ad 30 0)] (j_X10_exam_54 σ a1 a2 a3 a4 s0) := by
  unfold j_X10_exam_54
  refine r_bd ?_
  refine r_putf 0 tyX10 tyX10_ok nmX10 (lvs_30 _) (cell_30 _ _ _ _) (wrc_30_0 _ _ _ _ _) rfl (by decide) (Nat.le_of_ble_eq_true rfl) in_11 w_117 rfl rfl rfl dX10_exam_54 ?_
  refine r_aload_n 0 rfl dX10_exam_57 ?_
  refine r_getf 0 (lvs_30 _) (cell_30 _ _ _ _) rfl (by decide) in_11 w_117 rfl dX10_exam_58 ?_
  refine r_if_le 66 dX10_exam_61 (by decide) ?_ ?_
  · refine r_aload_n 0 rfl dX10_exam_66 ?_
    refine r_getf 26 (lvs_30 _) (cell_30 _ _ _ _) rfl (by decide) in_11 w_150 rfl dX10_exam_67 ?_
    refine r_iload_n 1 rfl dX10_exam_70 ?_
    refine r_iload_n 2 rfl dX10_exam_71 ?_
    refine r_gd (fun h1 => ?_)
    refine r_bd ?_
    refine r_iastore (lvs_50 _) (ia_50 _ _ _) h1 dX10_exam_72 ?_
    refine r_aload_n 0 rfl dX10_exam_73 ?_
    refine r_getf 27 (lvs_30 _) (cell_30 _ _ _ _) rfl (by decide) in_11 w_151 rfl dX10_exam_74 ?_
    refine r_iload_n 1 rfl dX10_exam_77 ?_
    refine r_iload_n 3 rfl dX10_exam_78 ?_
    refine r_bd ?_
    refine r_iastore (lvs_51 _) (ia_51 _ _ _) h1 dX10_exam_79 ?_
    refine r_aload_n 0 rfl dX10_exam_80 ?_
    refine r_getf 28 (lvs_30 _) (cell_30 _ _ _ _) rfl (by decide) in_11 w_152 rfl dX10_exam_81 ?_
    refine r_iload_n 1 rfl dX10_exam_84 ?_
    refine r_iload 4 rfl dX10_exam_85 ?_
    refine r_bd ?_
    refine r_iastore (lvs_52 _) (ia_52 _ _ _) h1 dX10_exam_87 ?_
    refine r_aload_n 0 rfl dX10_exam_88 ?_
    refine r_iload_n 1 rfl dX10_exam_89 ?_
    refine r_callV (n := 1) (As := [.int _]) (cell_30 _ _ _ _) (lvs_30 _) rfl (nc_X10_bound X hst ad _ _) (fun _ h => h) rfl ⟨rfl, by decide, by decide, by decide +kernel⟩ w_153 w_154 w_155 w_121 w_156 rfl rfl (Nat.le_of_ble_eq_true rfl) ⟨by decide, by decide⟩ dX10_exam_90 (fun v7 σ8 => ?_)
    exact r_iret rfl rfl rfl dX10_exam_93
  · refine r_iconst (0) (by decide) dX10_exam_64 ?_
    exact r_iret rfl rfl rfl dX10_exam_65
theorem bj_X10_exam_49 (X : Xt) (hst : X.1.stackTraces = false) (ad : Ad) (σ : Wd) (a1 : Int32) (a2 : Int32) (a3 : Int32) (a4 : Int32) : Bk X (fun a => a = ad) cX10_exam 5 RX10 (some (.int)) 2 44 vI (0, 0) (0, 0) ad σ 49 [(0, .ref (ad 30 0)), (1, .int a1), (2, .int a2), (3, .int a3), (4, .int a4)] [.ref (ad 30 0)] (j_X10_exam_49 σ a1 a2 a3 a4) := by
  unfold j_X10_exam_49
  refine r_iconst (2) (by decide) dX10_exam_49 ?_
  refine r_goto 54 dX10_exam_50 (by decide) ?_
  exact r_sub [0, 1, 2, 3, 4] rfl ((bj_X10_exam_54 X hst ad) _ _ _ _ _ _)
theorem nc_X10_exam (X : Xt) (hst : X.1.stackTraces = false) (ad : Ad) (σ : Wd) (p0 : Int32) (p1 : Int32) (p2 : Int32) (p3 : Int32) : NC X (fun a => a = ad) yX10_exam cX10_exam 5 (some (.int)) 2 44 vI (0, 0) ad σ [.ref (ad 30 0), .int p0, .int p1, .int p2, .int p3] (f_X10_exam σ p0 p1 p2 p3) := by
  unfold f_X10_exam
  refine NC.intro RX10 rfl hst (by decide) (Nat.le_of_ble_eq_true rfl) (lv := [(0, .ref _), (1, .int _), (2, .int _), (3, .int _), (4, .int _)]) rfl ?_
  refine r_aload_n 0 rfl dX10_exam_0 ?_
  refine r_aload_n 0 rfl dX10_exam_1 ?_
  refine r_iload_n 1 rfl dX10_exam_2 ?_
  refine r_callV (n := 1) (As := [.int _]) (cell_30 _ _ _ _) (lvs_30 _) rfl (nc_X10_isExam X hst ad _ _) (fun _ h => h) rfl ⟨rfl, by decide, by decide, by decide +kernel⟩ w_146 w_147 w_148 w_121 w_149 rfl rfl (Nat.le_of_ble_eq_true rfl) ⟨by decide, by decide⟩ dX10_exam_3 (fun v1 σ2 => ?_)
  refine r_if_ne 13 dX10_exam_6 (by decide) ?_ ?_
  · refine r_iconst (1) (by decide) dX10_exam_9 ?_
    refine r_goto 54 dX10_exam_10 (by decide) ?_
    exact r_sub [0, 1, 2, 3, 4] rfl ((bj_X10_exam_54 X hst ad) _ _ _ _ _ _)
  · refine r_aload_n 0 rfl dX10_exam_13 ?_
    refine r_iload_n 2 rfl dX10_exam_14 ?_
    refine r_bipush (100) (by decide) dX10_exam_15 ?_
    refine r_ldc (100000) w_157 dX10_exam_17 ?_
    refine r_callV (n := 3) (As := [.int _, .int _, .int _]) (cell_30 _ _ _ _) (lvs_30 _) rfl (nc_X10_between X hst ad _ _ _ _) (fun _ h => h) rfl ⟨rfl, by decide, by decide, by decide +kernel⟩ w_118 w_119 w_120 w_121 w_122 rfl rfl (Nat.le_of_ble_eq_true rfl) ⟨by decide, by decide⟩ dX10_exam_19 (fun v9 σ10 => ?_)
    refine r_if_eq 49 dX10_exam_22 (by decide) ?_ ?_
    · exact r_sub [0, 1, 2, 3, 4] rfl ((bj_X10_exam_49 X hst ad) _ _ _ _ _)
    · refine r_aload_n 0 rfl dX10_exam_25 ?_
      refine r_iload_n 3 rfl dX10_exam_26 ?_
      refine r_iconst (0) (by decide) dX10_exam_27 ?_
      refine r_bipush (20) (by decide) dX10_exam_28 ?_
      refine r_callV (n := 3) (As := [.int _, .int _, .int _]) (cell_30 _ _ _ _) (lvs_30 _) rfl (nc_X10_between X hst ad _ _ _ _) (fun _ h => h) rfl ⟨rfl, by decide, by decide, by decide +kernel⟩ w_118 w_119 w_120 w_121 w_122 rfl rfl (Nat.le_of_ble_eq_true rfl) ⟨by decide, by decide⟩ dX10_exam_30 (fun v11 σ12 => ?_)
      refine r_if_eq 49 dX10_exam_33 (by decide) ?_ ?_
      · exact r_sub [0, 1, 2, 3, 4] rfl ((bj_X10_exam_49 X hst ad) _ _ _ _ _)
      · refine r_aload_n 0 rfl dX10_exam_36 ?_
        refine r_iload 4 rfl dX10_exam_37 ?_
        refine r_iconst (0) (by decide) dX10_exam_39 ?_
        refine r_sipush (400) (by decide) dX10_exam_40 ?_
        refine r_callV (n := 3) (As := [.int _, .int _, .int _]) (cell_30 _ _ _ _) (lvs_30 _) rfl (nc_X10_between X hst ad _ _ _ _) (fun _ h => h) rfl ⟨rfl, by decide, by decide, by decide +kernel⟩ w_118 w_119 w_120 w_121 w_122 rfl rfl (Nat.le_of_ble_eq_true rfl) ⟨by decide, by decide⟩ dX10_exam_43 (fun v13 σ14 => ?_)
        refine r_if_ne 53 dX10_exam_46 (by decide) ?_ ?_
        · exact r_sub [0, 1, 2, 3, 4] rfl ((bj_X10_exam_49 X hst ad) _ _ _ _ _)
        · refine r_iconst (0) (by decide) dX10_exam_53 ?_
          exact r_sub [0, 1, 2, 3, 4] rfl ((bj_X10_exam_54 X hst ad) _ _ _ _ _ _)
def j_X10_list_46 (σ : Wd) (a1 : Int32) (a2 : Int32) (a3 : Int32) (s0 : Int32) : Option ((Int32 ⊕ String) × Wd) :=
  bd (wr σ 30 0 0 s0) fun σ3 =>
  if (σ3.1 30 0 0) ≤ 0 then
    gd (inb a1 4) <|
    bd ((σ3.1 53 0 a1.toNatClampNeg)) fun x4 =>
    bd (wr σ3 53 0 a1.toNatClampNeg a2) fun σ5 =>
    bd (wr σ5 54 0 a1.toNatClampNeg a3) fun σ6 =>
    some (.inl x4, σ6)
  else
    some (.inl (0 : Int32), σ3)
def j_X10_list_41 (σ : Wd) (a1 : Int32) (a2 : Int32) (a3 : Int32) : Option ((Int32 ⊕ String) × Wd) :=
  j_X10_list_46 σ a1 a2 a3 (2 : Int32)
def j_X10_list_45 (σ : Wd) (a1 : Int32) (a2 : Int32) (a3 : Int32) : Option ((Int32 ⊕ String) × Wd) :=
  j_X10_list_46 σ a1 a2 a3 (0 : Int32)
def f_X10_list (σ : Wd) (p0 : Int32) (p1 : Int32) (p2 : Int32) : Option ((Int32 ⊕ String) × Wd) :=
  bx (f_X10_between σ p0 (0 : Int32) (3 : Int32)) fun v1 σ2 =>
  if v1 = 0 then
    j_X10_list_46 σ2 p0 p1 p2 (1 : Int32)
  else
    bx (f_X10_between σ2 p1 (-1 : Int32) (30 : Int32)) fun v7 σ8 =>
    if v7 = 0 then
      j_X10_list_41 σ8 p0 p1 p2
    else
      if p1 = (-1 : Int32) then
        j_X10_list_45 σ8 p0 p1 p2
      else
        bx (f_X10_between σ8 p2 (0 : Int32) (2 : Int32)) fun v9 σ10 =>
        if v9 = 0 then
          j_X10_list_41 σ10 p0 p1 p2
        else
          j_X10_list_45 σ10 p0 p1 p2
theorem bj_X10_list_46 (X : Xt) (hst : X.1.stackTraces = false) (ad : Ad) (σ : Wd) (a1 : Int32) (a2 : Int32) (a3 : Int32) (s0 : Int32) : Bk X (fun a => a = ad) cX10_list 5 RX10 (some (.int)) 1 23 vI (0, 0) (0, 0) ad σ 46 [(0, .ref (ad 30 0)), (1, .int a1), (2, .int a2), (3, .int a3)] [.int s0, .ref (ad 30 0)] (j_X10_list_46 σ a1 a2 a3 s0) := by
  unfold j_X10_list_46
  refine r_bd ?_
  refine r_putf 0 tyX10 tyX10_ok nmX10 (lvs_30 _) (cell_30 _ _ _ _) (wrc_30_0 _ _ _ _ _) rfl (by decide) (Nat.le_of_ble_eq_true rfl) in_11 w_117 rfl rfl rfl dX10_list_46 ?_
  refine r_aload_n 0 rfl dX10_list_49 ?_
  refine r_getf 0 (lvs_30 _) (cell_30 _ _ _ _) rfl (by decide) in_11 w_117 rfl dX10_list_50 ?_
  refine r_if_le 58 dX10_list_53 (by decide) ?_ ?_
  · refine r_aload_n 0 rfl dX10_list_58 ?_
    refine r_getf 29 (lvs_30 _) (cell_30 _ _ _ _) rfl (by decide) in_11 w_158 rfl dX10_list_59 ?_
    refine r_iload_n 1 rfl dX10_list_62 ?_
    refine r_gd (fun h1 => ?_)
    refine r_iaload (lvs_53 _) (cell_53 _ _ _ _) h1 dX10_list_63 ?_
    refine r_bd ?_
    refine r_istore [(4, .int _), (0, .ref _), (1, .int _), (2, .int _), (3, .int _)] rfl (by decide) dX10_list_64 ?_
    refine r_aload_n 1 rfl dX10_list_66 ?_
    refine r_getf 29 (lvs_30 _) (cell_30 _ _ _ _) rfl (by decide) in_11 w_158 rfl dX10_list_67 ?_
    refine r_iload_n 2 rfl dX10_list_70 ?_
    refine r_iload_n 3 rfl dX10_list_71 ?_
    refine r_bd ?_
    refine r_iastore (lvs_53 _) (ia_53 _ _ _) h1 dX10_list_72 ?_
    refine r_aload_n 1 rfl dX10_list_73 ?_
    refine r_getf 30 (lvs_30 _) (cell_30 _ _ _ _) rfl (by decide) in_11 w_159 rfl dX10_list_74 ?_
    refine r_iload_n 2 rfl dX10_list_77 ?_
    refine r_iload_n 4 rfl dX10_list_78 ?_
    refine r_bd ?_
    refine r_iastore (lvs_54 _) (ia_54 _ _ _) h1 dX10_list_79 ?_
    refine r_iload 0 rfl dX10_list_80 ?_
    exact r_iret rfl rfl rfl dX10_list_82
  · refine r_iconst (0) (by decide) dX10_list_56 ?_
    exact r_iret rfl rfl rfl dX10_list_57
theorem bj_X10_list_41 (X : Xt) (hst : X.1.stackTraces = false) (ad : Ad) (σ : Wd) (a1 : Int32) (a2 : Int32) (a3 : Int32) : Bk X (fun a => a = ad) cX10_list 5 RX10 (some (.int)) 1 23 vI (0, 0) (0, 0) ad σ 41 [(0, .ref (ad 30 0)), (1, .int a1), (2, .int a2), (3, .int a3)] [.ref (ad 30 0)] (j_X10_list_41 σ a1 a2 a3) := by
  unfold j_X10_list_41
  refine r_iconst (2) (by decide) dX10_list_41 ?_
  refine r_goto 46 dX10_list_42 (by decide) ?_
  exact r_sub [0, 1, 2, 3] rfl ((bj_X10_list_46 X hst ad) _ _ _ _ _)
theorem bj_X10_list_45 (X : Xt) (hst : X.1.stackTraces = false) (ad : Ad) (σ : Wd) (a1 : Int32) (a2 : Int32) (a3 : Int32) : Bk X (fun a => a = ad) cX10_list 5 RX10 (some (.int)) 1 23 vI (0, 0) (0, 0) ad σ 45 [(0, .ref (ad 30 0)), (1, .int a1), (2, .int a2), (3, .int a3)] [.ref (ad 30 0)] (j_X10_list_45 σ a1 a2 a3) := by
  unfold j_X10_list_45
  refine r_iconst (0) (by decide) dX10_list_45 ?_
  exact r_sub [0, 1, 2, 3] rfl ((bj_X10_list_46 X hst ad) _ _ _ _ _)
theorem nc_X10_list (X : Xt) (hst : X.1.stackTraces = false) (ad : Ad) (σ : Wd) (p0 : Int32) (p1 : Int32) (p2 : Int32) : NC X (fun a => a = ad) yX10_list cX10_list 5 (some (.int)) 1 23 vI (0, 0) ad σ [.ref (ad 30 0), .int p0, .int p1, .int p2] (f_X10_list σ p0 p1 p2) := by
  unfold f_X10_list
  refine NC.intro RX10 rfl hst (by decide) (Nat.le_of_ble_eq_true rfl) (lv := [(0, .ref _), (1, .int _), (2, .int _), (3, .int _)]) rfl ?_
  refine r_aload_n 0 rfl dX10_list_0 ?_
  refine r_aload_n 0 rfl dX10_list_1 ?_
  refine r_iload_n 1 rfl dX10_list_2 ?_
  refine r_iconst (0) (by decide) dX10_list_3 ?_
  refine r_iconst (3) (by decide) dX10_list_4 ?_
  refine r_callV (n := 3) (As := [.int _, .int _, .int _]) (cell_30 _ _ _ _) (lvs_30 _) rfl (nc_X10_between X hst ad _ _ _ _) (fun _ h => h) rfl ⟨rfl, by decide, by decide, by decide +kernel⟩ w_118 w_119 w_120 w_121 w_122 rfl rfl (Nat.le_of_ble_eq_true rfl) ⟨by decide, by decide⟩ dX10_list_5 (fun v1 σ2 => ?_)
  refine r_if_ne 15 dX10_list_8 (by decide) ?_ ?_
  · refine r_iconst (1) (by decide) dX10_list_11 ?_
    refine r_goto 46 dX10_list_12 (by decide) ?_
    exact r_sub [0, 1, 2, 3] rfl ((bj_X10_list_46 X hst ad) _ _ _ _ _)
  · refine r_aload_n 0 rfl dX10_list_15 ?_
    refine r_iload_n 2 rfl dX10_list_16 ?_
    refine r_iconst (-1) (by decide) dX10_list_17 ?_
    refine r_bipush (30) (by decide) dX10_list_18 ?_
    refine r_callV (n := 3) (As := [.int _, .int _, .int _]) (cell_30 _ _ _ _) (lvs_30 _) rfl (nc_X10_between X hst ad _ _ _ _) (fun _ h => h) rfl ⟨rfl, by decide, by decide, by decide +kernel⟩ w_118 w_119 w_120 w_121 w_122 rfl rfl (Nat.le_of_ble_eq_true rfl) ⟨by decide, by decide⟩ dX10_list_20 (fun v7 σ8 => ?_)
    refine r_if_eq 41 dX10_list_23 (by decide) ?_ ?_
    · exact r_sub [0, 1, 2, 3] rfl ((bj_X10_list_41 X hst ad) _ _ _ _)
    · refine r_iload_n 2 rfl dX10_list_26 ?_
      refine r_iconst (-1) (by decide) dX10_list_27 ?_
      refine r_icmp_eq 45 dX10_list_28 (by decide) ?_ ?_
      · exact r_sub [0, 1, 2, 3] rfl ((bj_X10_list_45 X hst ad) _ _ _ _)
      · refine r_aload_n 0 rfl dX10_list_31 ?_
        refine r_iload_n 3 rfl dX10_list_32 ?_
        refine r_iconst (0) (by decide) dX10_list_33 ?_
        refine r_iconst (2) (by decide) dX10_list_34 ?_
        refine r_callV (n := 3) (As := [.int _, .int _, .int _]) (cell_30 _ _ _ _) (lvs_30 _) rfl (nc_X10_between X hst ad _ _ _ _) (fun _ h => h) rfl ⟨rfl, by decide, by decide, by decide +kernel⟩ w_118 w_119 w_120 w_121 w_122 rfl rfl (Nat.le_of_ble_eq_true rfl) ⟨by decide, by decide⟩ dX10_list_35 (fun v9 σ10 => ?_)
        refine r_if_ne 45 dX10_list_38 (by decide) ?_ ?_
        · exact r_sub [0, 1, 2, 3] rfl ((bj_X10_list_41 X hst ad) _ _ _ _)
        · exact r_sub [0, 1, 2, 3] rfl ((bj_X10_list_45 X hst ad) _ _ _ _)
def f_X10_isUnit (σ : Wd) (p0 : Int32) : Option ((Int32 ⊕ String) × Wd) :=
  bx (f_X10_between σ p0 (0 : Int32) ((σ.1 30 0 5) - (1 : Int32))) fun v1 σ2 =>
  gd (v1 = 0 ∨ v1 = 1) <|
  some (.inl v1, σ2)
theorem nc_X10_isUnit (X : Xt) (hst : X.1.stackTraces = false) (ad : Ad) (σ : Wd) (p0 : Int32) : NC X (fun a => a = ad) yX10_isUnit cX10_isUnit 2 (some (.boolean)) 1 23 vI (0, 0) ad σ [.ref (ad 30 0), .int p0] (f_X10_isUnit σ p0) := by
  unfold f_X10_isUnit
  refine NC.intro RX10 rfl hst (by decide) (Nat.le_of_ble_eq_true rfl) (lv := [(0, .ref _), (1, .int _)]) rfl ?_
  refine r_aload_n 0 rfl dX10_isUnit_0 ?_
  refine r_iload_n 1 rfl dX10_isUnit_1 ?_
  refine r_iconst (0) (by decide) dX10_isUnit_2 ?_
  refine r_aload_n 0 rfl dX10_isUnit_3 ?_
  refine r_getf 5 (lvs_30 _) (cell_30 _ _ _ _) rfl (by decide) in_11 w_128 rfl dX10_isUnit_4 ?_
  refine r_iconst (1) (by decide) dX10_isUnit_7 ?_
  refine r_isub dX10_isUnit_8 ?_
  refine r_callV (n := 3) (As := [.int _, .int _, .int _]) (cell_30 _ _ _ _) (lvs_30 _) rfl (nc_X10_between X hst ad _ _ _ _) (fun _ h => h) rfl ⟨rfl, by decide, by decide, by decide +kernel⟩ w_118 w_119 w_120 w_121 w_122 rfl rfl (Nat.le_of_ble_eq_true rfl) ⟨by decide, by decide⟩ dX10_isUnit_9 (fun v1 σ2 => ?_)
  refine r_gd (fun h1 => ?_)
  exact r_zret rfl rfl (zn h1) rfl dX10_isUnit_12
def j_X10_fault_189 (σ : Wd) (a5 : Int32) (a1 : Int32) (a2 : Int32) (a3 : Int32) (a4 : Int32) (s0 : Int32) (s1 : Int32) : Option ((Int32 ⊕ String) × Wd) :=
  gd (inb s1 48) <|
  bd (wr σ 43 0 s1.toNatClampNeg s0) fun σ12 =>
  gd (inb a1 6) <|
  bd (wr σ12 39 0 a1.toNatClampNeg ((σ12.1 39 0 a1.toNatClampNeg) + (1 : Int32))) fun σ13 =>
  some (.inl (σ13.1 39 0 a1.toNatClampNeg), σ13)
def j_X10_fault_183 (σ : Wd) (a5 : Int32) (a1 : Int32) (a2 : Int32) (a3 : Int32) (a4 : Int32) (s0 : Int32) : Option ((Int32 ⊕ String) × Wd) :=
  j_X10_fault_189 σ a5 a1 a2 a3 a4 a4 s0
def j_X10_fault_167 (σ : Wd) (a5 : Int32) (a1 : Int32) (a2 : Int32) (a3 : Int32) (a4 : Int32) (s0 : Int32) (s1 : Int32) : Option ((Int32 ⊕ String) × Wd) :=
  gd (inb s1 48) <|
  bd (wr σ 42 0 s1.toNatClampNeg s0) fun σ11 =>
  if a2 = 0 then
    j_X10_fault_183 σ11 a5 a1 a2 a3 a4 a5
  else
    if a2 = (2 : Int32) then
      j_X10_fault_183 σ11 a5 a1 a2 a3 a4 a5
    else
      j_X10_fault_189 σ11 a5 a1 a2 a3 a4 (-1 : Int32) a5
def j_X10_fault_110 (σ : Wd) (a1 : Int32) (a2 : Int32) (a3 : Int32) (a4 : Int32) : Option ((Int32 ⊕ String) × Wd) :=
  if (σ.1 30 0 0) ≤ 0 then
    gd (inb a1 6) <|
    bd ((((8 : Int32) * a1) + (σ.1 39 0 a1.toNatClampNeg))) fun x8 =>
    gd (inb x8 48) <|
    bd (wr σ 40 0 x8.toNatClampNeg a2) fun σ9 =>
    bd (wr σ9 41 0 x8.toNatClampNeg (σ9.1 30 0 1)) fun σ10 =>
    if (1 : Int32) < a2 then
      j_X10_fault_167 σ10 x8 a1 a2 a3 a4 (-1 : Int32) x8
    else
      j_X10_fault_167 σ10 x8 a1 a2 a3 a4 a3 x8
  else
    some (.inl (0 : Int32), σ)
def j_X10_fault_87 (σ : Wd) (a1 : Int32) (a2 : Int32) (a3 : Int32) (a4 : Int32) : Option ((Int32 ⊕ String) × Wd) :=
  if (σ.1 30 0 0) = 0 then
    gd (inb a1 6) <|
    if (σ.1 39 0 a1.toNatClampNeg) = (8 : Int32) then
      bd (wr σ 30 0 0 (3 : Int32)) fun σ7 =>
      j_X10_fault_110 σ7 a1 a2 a3 a4
    else
      j_X10_fault_110 σ a1 a2 a3 a4
  else
    j_X10_fault_110 σ a1 a2 a3 a4
def j_X10_fault_82 (σ : Wd) (a1 : Int32) (a2 : Int32) (a3 : Int32) (a4 : Int32) : Option ((Int32 ⊕ String) × Wd) :=
  bd (wr σ 30 0 0 (2 : Int32)) fun σ6 =>
  j_X10_fault_87 σ6 a1 a2 a3 a4
def j_X10_fault_65 (σ : Wd) (a1 : Int32) (a2 : Int32) (a3 : Int32) (a4 : Int32) : Option ((Int32 ⊕ String) × Wd) :=
  if a2 = (2 : Int32) then
    bx (f_X10_between σ a4 (1 : Int32) (100 : Int32)) fun v14 σ15 =>
    if v14 = 0 then
      j_X10_fault_82 σ15 a1 a2 a3 a4
    else
      j_X10_fault_87 σ15 a1 a2 a3 a4
  else
    j_X10_fault_87 σ a1 a2 a3 a4
def j_X10_fault_39 (σ : Wd) (a1 : Int32) (a2 : Int32) (a3 : Int32) (a4 : Int32) (s0 : Int32) : Option ((Int32 ⊕ String) × Wd) :=
  bd (wr σ 30 0 0 s0) fun σ3 =>
  if (σ3.1 30 0 0) = 0 then
    if a2 = 0 then
      bx (f_X10_between σ3 a4 (1 : Int32) (20 : Int32)) fun v4 σ5 =>
      if v4 = 0 then
        j_X10_fault_82 σ5 a1 a2 a3 a4
      else
        j_X10_fault_65 σ5 a1 a2 a3 a4
    else
      j_X10_fault_65 σ3 a1 a2 a3 a4
  else
    j_X10_fault_87 σ3 a1 a2 a3 a4
def j_X10_fault_34 (σ : Wd) (a1 : Int32) (a2 : Int32) (a3 : Int32) (a4 : Int32) : Option ((Int32 ⊕ String) × Wd) :=
  j_X10_fault_39 σ a1 a2 a3 a4 (1 : Int32)
def j_X10_fault_38 (σ : Wd) (a1 : Int32) (a2 : Int32) (a3 : Int32) (a4 : Int32) : Option ((Int32 ⊕ String) × Wd) :=
  j_X10_fault_39 σ a1 a2 a3 a4 (0 : Int32)
def f_X10_fault (σ : Wd) (p0 : Int32) (p1 : Int32) (p2 : Int32) (p3 : Int32) : Option ((Int32 ⊕ String) × Wd) :=
  bx (f_X10_isUnit σ p0) fun v1 σ2 =>
  if v1 = 0 then
    j_X10_fault_34 σ2 p0 p1 p2 p3
  else
    bx (f_X10_between σ2 p1 (0 : Int32) (3 : Int32)) fun v16 σ17 =>
    if v16 = 0 then
      j_X10_fault_34 σ17 p0 p1 p2 p3
    else
      if (1 : Int32) < p1 then
        j_X10_fault_38 σ17 p0 p1 p2 p3
      else
        bx (f_X10_between σ17 p2 (0 : Int32) (3 : Int32)) fun v18 σ19 =>
        if v18 = 0 then
          j_X10_fault_34 σ19 p0 p1 p2 p3
        else
          j_X10_fault_38 σ19 p0 p1 p2 p3
theorem bj_X10_fault_189 (X : Xt) (hst : X.1.stackTraces = false) (ad : Ad) (σ : Wd) (a5 : Int32) (a1 : Int32) (a2 : Int32) (a3 : Int32) (a4 : Int32) (s0 : Int32) (s1 : Int32) : Bk X (fun a => a = ad) cX10_fault 6 RX10 (some (.int)) 2 44 vI (0, 0) (0, 0) ad σ 189 [(5, .int a5), (0, .ref (ad 30 0)), (1, .int a1), (2, .int a2), (3, .int a3), (4, .int a4)] [.int s0, .int s1, .ref (ad 43 0)] (j_X10_fault_189 σ a5 a1 a2 a3 a4 s0 s1) := by
  unfold j_X10_fault_189
  refine r_gd (fun h5 => ?_)
  refine r_bd ?_
  refine r_iastore (lvs_43 _) (ia_43 _ _ _) h5 dX10_fault_189 ?_
  refine r_aload_n 1 rfl dX10_fault_190 ?_
  refine r_getf 14 (lvs_30 _) (cell_30 _ _ _ _) rfl (by decide) in_11 w_164 rfl dX10_fault_191 ?_
  refine r_iload_n 2 rfl dX10_fault_194 ?_
  refine r_dup2 rfl rfl dX10_fault_195 ?_
  refine r_gd (fun h6 => ?_)
  refine r_iaload (lvs_39 _) (cell_39 _ _ _ _) h6 dX10_fault_196 ?_
  refine r_iconst (1) (by decide) dX10_fault_197 ?_
  refine r_iadd dX10_fault_198 ?_
  refine r_bd ?_
  refine r_iastore (lvs_39 _) (ia_39 _ _ _) h6 dX10_fault_199 ?_
  refine r_aload_n 1 rfl dX10_fault_200 ?_
  refine r_getf 14 (lvs_30 _) (cell_30 _ _ _ _) rfl (by decide) in_11 w_164 rfl dX10_fault_201 ?_
  refine r_iload_n 2 rfl dX10_fault_204 ?_
  refine r_iaload (lvs_39 _) (cell_39 _ _ _ _) h6 dX10_fault_205 ?_
  exact r_iret rfl rfl rfl dX10_fault_206
theorem bj_X10_fault_183 (X : Xt) (hst : X.1.stackTraces = false) (ad : Ad) (σ : Wd) (a5 : Int32) (a1 : Int32) (a2 : Int32) (a3 : Int32) (a4 : Int32) (s0 : Int32) : Bk X (fun a => a = ad) cX10_fault 6 RX10 (some (.int)) 2 44 vI (0, 0) (0, 0) ad σ 183 [(5, .int a5), (0, .ref (ad 30 0)), (1, .int a1), (2, .int a2), (3, .int a3), (4, .int a4)] [.int s0, .ref (ad 43 0)] (j_X10_fault_183 σ a5 a1 a2 a3 a4 s0) := by
  unfold j_X10_fault_183
  refine r_iload 5 rfl dX10_fault_183 ?_
  refine r_goto 189 dX10_fault_185 (by decide) ?_
  exact r_sub [0, 1, 2, 3, 4, 5] rfl ((bj_X10_fault_189 X hst ad) _ _ _ _ _ _ _ _)
theorem bj_X10_fault_167 (X : Xt) (hst : X.1.stackTraces = false) (ad : Ad) (σ : Wd) (a5 : Int32) (a1 : Int32) (a2 : Int32) (a3 : Int32) (a4 : Int32) (s0 : Int32) (s1 : Int32) : Bk X (fun a => a = ad) cX10_fault 6 RX10 (some (.int)) 2 44 vI (0, 0) (0, 0) ad σ 167 [(5, .int a5), (0, .ref (ad 30 0)), (1, .int a1), (2, .int a2), (3, .int a3), (4, .int a4)] [.int s0, .int s1, .ref (ad 42 0)] (j_X10_fault_167 σ a5 a1 a2 a3 a4 s0 s1) := by
  unfold j_X10_fault_167
  refine r_gd (fun h4 => ?_)
  refine r_bd ?_
  refine r_iastore (lvs_42 _) (ia_42 _ _ _) h4 dX10_fault_167 ?_
  refine r_aload_n 1 rfl dX10_fault_168 ?_
  refine r_getf 18 (lvs_30 _) (cell_30 _ _ _ _) rfl (by decide) in_11 w_169 rfl dX10_fault_169 ?_
  refine r_iload 0 rfl dX10_fault_172 ?_
  refine r_iload_n 3 rfl dX10_fault_174 ?_
  refine r_if_eq 183 dX10_fault_175 (by decide) ?_ ?_
  · exact r_sub [0, 1, 2, 3, 4, 5] rfl ((bj_X10_fault_183 X hst ad) _ _ _ _ _ _ _)
  · refine r_iload_n 3 rfl dX10_fault_178 ?_
    refine r_iconst (2) (by decide) dX10_fault_179 ?_
    refine r_icmp_ne 188 dX10_fault_180 (by decide) ?_ ?_
    · exact r_sub [0, 1, 2, 3, 4, 5] rfl ((bj_X10_fault_183 X hst ad) _ _ _ _ _ _ _)
    · refine r_iconst (-1) (by decide) dX10_fault_188 ?_
      exact r_sub [0, 1, 2, 3, 4, 5] rfl ((bj_X10_fault_189 X hst ad) _ _ _ _ _ _ _ _)
theorem bj_X10_fault_110 (X : Xt) (hst : X.1.stackTraces = false) (ad : Ad) (σ : Wd) (a1 : Int32) (a2 : Int32) (a3 : Int32) (a4 : Int32) : Bk X (fun a => a = ad) cX10_fault 6 RX10 (some (.int)) 2 44 vI (0, 0) (0, 0) ad σ 110 [(0, .ref (ad 30 0)), (1, .int a1), (2, .int a2), (3, .int a3), (4, .int a4)] [] (j_X10_fault_110 σ a1 a2 a3 a4) := by
  unfold j_X10_fault_110
  refine r_aload_n 0 rfl dX10_fault_110 ?_
  refine r_getf 0 (lvs_30 _) (cell_30 _ _ _ _) rfl (by decide) in_11 w_117 rfl dX10_fault_111 ?_
  refine r_if_le 119 dX10_fault_114 (by decide) ?_ ?_
  · refine r_bipush (8) (by decide) dX10_fault_119 ?_
    refine r_iload_n 1 rfl dX10_fault_121 ?_
    refine r_imul dX10_fault_122 ?_
    refine r_aload_n 0 rfl dX10_fault_123 ?_
    refine r_getf 14 (lvs_30 _) (cell_30 _ _ _ _) rfl (by decide) in_11 w_164 rfl dX10_fault_124 ?_
    refine r_iload_n 1 rfl dX10_fault_127 ?_
    refine r_gd (fun h2 => ?_)
    refine r_iaload (lvs_39 _) (cell_39 _ _ _ _) h2 dX10_fault_128 ?_
    refine r_iadd dX10_fault_129 ?_
    refine r_bd ?_
    refine r_istore [(5, .int _), (0, .ref _), (1, .int _), (2, .int _), (3, .int _), (4, .int _)] rfl (by decide) dX10_fault_130 ?_
    refine r_aload_n 1 rfl dX10_fault_132 ?_
    refine r_getf 15 (lvs_30 _) (cell_30 _ _ _ _) rfl (by decide) in_11 w_165 rfl dX10_fault_133 ?_
    refine r_iload 0 rfl dX10_fault_136 ?_
    refine r_iload_n 3 rfl dX10_fault_138 ?_
    refine r_gd (fun h3 => ?_)
    refine r_bd ?_
    refine r_iastore (lvs_40 _) (ia_40 _ _ _) h3 dX10_fault_139 ?_
    refine r_aload_n 1 rfl dX10_fault_140 ?_
    refine r_getf 16 (lvs_30 _) (cell_30 _ _ _ _) rfl (by decide) in_11 w_166 rfl dX10_fault_141 ?_
    refine r_iload 0 rfl dX10_fault_144 ?_
    refine r_aload_n 1 rfl dX10_fault_146 ?_
    refine r_getf 1 (lvs_30 _) (cell_30 _ _ _ _) rfl (by decide) in_11 w_167 rfl dX10_fault_147 ?_
    refine r_bd ?_
    refine r_iastore (lvs_41 _) (ia_41 _ _ _) h3 dX10_fault_150 ?_
    refine r_aload_n 1 rfl dX10_fault_151 ?_
    refine r_getf 17 (lvs_30 _) (cell_30 _ _ _ _) rfl (by decide) in_11 w_168 rfl dX10_fault_152 ?_
    refine r_iload 0 rfl dX10_fault_155 ?_
    refine r_iload_n 3 rfl dX10_fault_157 ?_
    refine r_iconst (1) (by decide) dX10_fault_158 ?_
    refine r_icmp_gt 166 dX10_fault_159 (by decide) ?_ ?_
    · refine r_iconst (-1) (by decide) dX10_fault_166 ?_
      exact r_sub [0, 1, 2, 3, 4, 5] rfl ((bj_X10_fault_167 X hst ad) _ _ _ _ _ _ _ _)
    · refine r_iload_n 4 rfl dX10_fault_162 ?_
      refine r_goto 167 dX10_fault_163 (by decide) ?_
      exact r_sub [0, 1, 2, 3, 4, 5] rfl ((bj_X10_fault_167 X hst ad) _ _ _ _ _ _ _ _)
  · refine r_iconst (0) (by decide) dX10_fault_117 ?_
    exact r_iret rfl rfl rfl dX10_fault_118
theorem bj_X10_fault_87 (X : Xt) (hst : X.1.stackTraces = false) (ad : Ad) (σ : Wd) (a1 : Int32) (a2 : Int32) (a3 : Int32) (a4 : Int32) : Bk X (fun a => a = ad) cX10_fault 6 RX10 (some (.int)) 2 44 vI (0, 0) (0, 0) ad σ 87 [(0, .ref (ad 30 0)), (1, .int a1), (2, .int a2), (3, .int a3), (4, .int a4)] [] (j_X10_fault_87 σ a1 a2 a3 a4) := by
  unfold j_X10_fault_87
  refine r_aload_n 0 rfl dX10_fault_87 ?_
  refine r_getf 0 (lvs_30 _) (cell_30 _ _ _ _) rfl (by decide) in_11 w_117 rfl dX10_fault_88 ?_
  refine r_if_ne 110 dX10_fault_91 (by decide) ?_ ?_
  · refine r_aload_n 0 rfl dX10_fault_94 ?_
    refine r_getf 14 (lvs_30 _) (cell_30 _ _ _ _) rfl (by decide) in_11 w_164 rfl dX10_fault_95 ?_
    refine r_iload_n 1 rfl dX10_fault_98 ?_
    refine r_gd (fun h1 => ?_)
    refine r_iaload (lvs_39 _) (cell_39 _ _ _ _) h1 dX10_fault_99 ?_
    refine r_bipush (8) (by decide) dX10_fault_100 ?_
    refine r_icmp_ne 110 dX10_fault_102 (by decide) ?_ ?_
    · refine r_aload_n 0 rfl dX10_fault_105 ?_
      refine r_iconst (3) (by decide) dX10_fault_106 ?_
      refine r_bd ?_
      refine r_putf 0 tyX10 tyX10_ok nmX10 (lvs_30 _) (cell_30 _ _ _ _) (wrc_30_0 _ _ _ _ _) rfl (by decide) (Nat.le_of_ble_eq_true rfl) in_11 w_117 rfl rfl rfl dX10_fault_107 ?_
      exact r_sub [0, 1, 2, 3, 4] rfl ((bj_X10_fault_110 X hst ad) _ _ _ _ _)
    · exact r_sub [0, 1, 2, 3, 4] rfl ((bj_X10_fault_110 X hst ad) _ _ _ _ _)
  · exact r_sub [0, 1, 2, 3, 4] rfl ((bj_X10_fault_110 X hst ad) _ _ _ _ _)
theorem bj_X10_fault_82 (X : Xt) (hst : X.1.stackTraces = false) (ad : Ad) (σ : Wd) (a1 : Int32) (a2 : Int32) (a3 : Int32) (a4 : Int32) : Bk X (fun a => a = ad) cX10_fault 6 RX10 (some (.int)) 2 44 vI (0, 0) (0, 0) ad σ 82 [(0, .ref (ad 30 0)), (1, .int a1), (2, .int a2), (3, .int a3), (4, .int a4)] [] (j_X10_fault_82 σ a1 a2 a3 a4) := by
  unfold j_X10_fault_82
  refine r_aload_n 0 rfl dX10_fault_82 ?_
  refine r_iconst (2) (by decide) dX10_fault_83 ?_
  refine r_bd ?_
  refine r_putf 0 tyX10 tyX10_ok nmX10 (lvs_30 _) (cell_30 _ _ _ _) (wrc_30_0 _ _ _ _ _) rfl (by decide) (Nat.le_of_ble_eq_true rfl) in_11 w_117 rfl rfl rfl dX10_fault_84 ?_
  exact r_sub [0, 1, 2, 3, 4] rfl ((bj_X10_fault_87 X hst ad) _ _ _ _ _)
theorem bj_X10_fault_65 (X : Xt) (hst : X.1.stackTraces = false) (ad : Ad) (σ : Wd) (a1 : Int32) (a2 : Int32) (a3 : Int32) (a4 : Int32) : Bk X (fun a => a = ad) cX10_fault 6 RX10 (some (.int)) 2 44 vI (0, 0) (0, 0) ad σ 65 [(0, .ref (ad 30 0)), (1, .int a1), (2, .int a2), (3, .int a3), (4, .int a4)] [] (j_X10_fault_65 σ a1 a2 a3 a4) := by
  unfold j_X10_fault_65
  refine r_iload_n 2 rfl dX10_fault_65 ?_
  refine r_iconst (2) (by decide) dX10_fault_66 ?_
  refine r_icmp_ne 87 dX10_fault_67 (by decide) ?_ ?_
  · refine r_aload_n 0 rfl dX10_fault_70 ?_
    refine r_iload 4 rfl dX10_fault_71 ?_
    refine r_iconst (1) (by decide) dX10_fault_73 ?_
    refine r_bipush (100) (by decide) dX10_fault_74 ?_
    refine r_callV (n := 3) (As := [.int _, .int _, .int _]) (cell_30 _ _ _ _) (lvs_30 _) rfl (nc_X10_between X hst ad _ _ _ _) (fun _ h => h) rfl ⟨rfl, by decide, by decide, by decide +kernel⟩ w_118 w_119 w_120 w_121 w_122 rfl rfl (Nat.le_of_ble_eq_true rfl) ⟨by decide, by decide⟩ dX10_fault_76 (fun v14 σ15 => ?_)
    refine r_if_ne 87 dX10_fault_79 (by decide) ?_ ?_
    · exact r_sub [0, 1, 2, 3, 4] rfl ((bj_X10_fault_82 X hst ad) _ _ _ _ _)
    · exact r_sub [0, 1, 2, 3, 4] rfl ((bj_X10_fault_87 X hst ad) _ _ _ _ _)
  · exact r_sub [0, 1, 2, 3, 4] rfl ((bj_X10_fault_87 X hst ad) _ _ _ _ _)
theorem bj_X10_fault_39 (X : Xt) (hst : X.1.stackTraces = false) (ad : Ad) (σ : Wd) (a1 : Int32) (a2 : Int32) (a3 : Int32) (a4 : Int32) (s0 : Int32) : Bk X (fun a => a = ad) cX10_fault 6 RX10 (some (.int)) 2 44 vI (0, 0) (0, 0) ad σ 39 [(0, .ref (ad 30 0)), (1, .int a1), (2, .int a2), (3, .int a3), (4, .int a4)] [.int s0, .ref (ad 30 0)] (j_X10_fault_39 σ a1 a2 a3 a4 s0) := by
  unfold j_X10_fault_39
  refine r_bd ?_
  refine r_putf 0 tyX10 tyX10_ok nmX10 (lvs_30 _) (cell_30 _ _ _ _) (wrc_30_0 _ _ _ _ _) rfl (by decide) (Nat.le_of_ble_eq_true rfl) in_11 w_117 rfl rfl rfl dX10_fault_39 ?_
  refine r_aload_n 0 rfl dX10_fault_42 ?_
  refine r_getf 0 (lvs_30 _) (cell_30 _ _ _ _) rfl (by decide) in_11 w_117 rfl dX10_fault_43 ?_
  refine r_if_ne 87 dX10_fault_46 (by decide) ?_ ?_
  · refine r_iload_n 2 rfl dX10_fault_49 ?_
    refine r_if_ne 65 dX10_fault_50 (by decide) ?_ ?_
    · refine r_aload_n 0 rfl dX10_fault_53 ?_
      refine r_iload 4 rfl dX10_fault_54 ?_
      refine r_iconst (1) (by decide) dX10_fault_56 ?_
      refine r_bipush (20) (by decide) dX10_fault_57 ?_
      refine r_callV (n := 3) (As := [.int _, .int _, .int _]) (cell_30 _ _ _ _) (lvs_30 _) rfl (nc_X10_between X hst ad _ _ _ _) (fun _ h => h) rfl ⟨rfl, by decide, by decide, by decide +kernel⟩ w_118 w_119 w_120 w_121 w_122 rfl rfl (Nat.le_of_ble_eq_true rfl) ⟨by decide, by decide⟩ dX10_fault_59 (fun v4 σ5 => ?_)
      refine r_if_eq 82 dX10_fault_62 (by decide) ?_ ?_
      · exact r_sub [0, 1, 2, 3, 4] rfl ((bj_X10_fault_82 X hst ad) _ _ _ _ _)
      · exact r_sub [0, 1, 2, 3, 4] rfl ((bj_X10_fault_65 X hst ad) _ _ _ _ _)
    · exact r_sub [0, 1, 2, 3, 4] rfl ((bj_X10_fault_65 X hst ad) _ _ _ _ _)
  · exact r_sub [0, 1, 2, 3, 4] rfl ((bj_X10_fault_87 X hst ad) _ _ _ _ _)
theorem bj_X10_fault_34 (X : Xt) (hst : X.1.stackTraces = false) (ad : Ad) (σ : Wd) (a1 : Int32) (a2 : Int32) (a3 : Int32) (a4 : Int32) : Bk X (fun a => a = ad) cX10_fault 6 RX10 (some (.int)) 2 44 vI (0, 0) (0, 0) ad σ 34 [(0, .ref (ad 30 0)), (1, .int a1), (2, .int a2), (3, .int a3), (4, .int a4)] [.ref (ad 30 0)] (j_X10_fault_34 σ a1 a2 a3 a4) := by
  unfold j_X10_fault_34
  refine r_iconst (1) (by decide) dX10_fault_34 ?_
  refine r_goto 39 dX10_fault_35 (by decide) ?_
  exact r_sub [0, 1, 2, 3, 4] rfl ((bj_X10_fault_39 X hst ad) _ _ _ _ _ _)
theorem bj_X10_fault_38 (X : Xt) (hst : X.1.stackTraces = false) (ad : Ad) (σ : Wd) (a1 : Int32) (a2 : Int32) (a3 : Int32) (a4 : Int32) : Bk X (fun a => a = ad) cX10_fault 6 RX10 (some (.int)) 2 44 vI (0, 0) (0, 0) ad σ 38 [(0, .ref (ad 30 0)), (1, .int a1), (2, .int a2), (3, .int a3), (4, .int a4)] [.ref (ad 30 0)] (j_X10_fault_38 σ a1 a2 a3 a4) := by
  unfold j_X10_fault_38
  refine r_iconst (0) (by decide) dX10_fault_38 ?_
  exact r_sub [0, 1, 2, 3, 4] rfl ((bj_X10_fault_39 X hst ad) _ _ _ _ _ _)
theorem nc_X10_fault (X : Xt) (hst : X.1.stackTraces = false) (ad : Ad) (σ : Wd) (p0 : Int32) (p1 : Int32) (p2 : Int32) (p3 : Int32) : NC X (fun a => a = ad) yX10_fault cX10_fault 6 (some (.int)) 2 44 vI (0, 0) ad σ [.ref (ad 30 0), .int p0, .int p1, .int p2, .int p3] (f_X10_fault σ p0 p1 p2 p3) := by
  unfold f_X10_fault
  refine NC.intro RX10 rfl hst (by decide) (Nat.le_of_ble_eq_true rfl) (lv := [(0, .ref _), (1, .int _), (2, .int _), (3, .int _), (4, .int _)]) rfl ?_
  refine r_aload_n 0 rfl dX10_fault_0 ?_
  refine r_aload_n 0 rfl dX10_fault_1 ?_
  refine r_iload_n 1 rfl dX10_fault_2 ?_
  refine r_callV (n := 1) (As := [.int _]) (cell_30 _ _ _ _) (lvs_30 _) rfl (nc_X10_isUnit X hst ad _ _) (fun _ h => h) rfl ⟨rfl, by decide, by decide, by decide +kernel⟩ w_160 w_161 w_162 w_121 w_163 rfl rfl (Nat.le_of_ble_eq_true rfl) ⟨by decide, by decide⟩ dX10_fault_3 (fun v1 σ2 => ?_)
  refine r_if_eq 34 dX10_fault_6 (by decide) ?_ ?_
  · exact r_sub [0, 1, 2, 3, 4] rfl ((bj_X10_fault_34 X hst ad) _ _ _ _ _)
  · refine r_aload_n 0 rfl dX10_fault_9 ?_
    refine r_iload_n 2 rfl dX10_fault_10 ?_
    refine r_iconst (0) (by decide) dX10_fault_11 ?_
    refine r_iconst (3) (by decide) dX10_fault_12 ?_
    refine r_callV (n := 3) (As := [.int _, .int _, .int _]) (cell_30 _ _ _ _) (lvs_30 _) rfl (nc_X10_between X hst ad _ _ _ _) (fun _ h => h) rfl ⟨rfl, by decide, by decide, by decide +kernel⟩ w_118 w_119 w_120 w_121 w_122 rfl rfl (Nat.le_of_ble_eq_true rfl) ⟨by decide, by decide⟩ dX10_fault_13 (fun v16 σ17 => ?_)
    refine r_if_eq 34 dX10_fault_16 (by decide) ?_ ?_
    · exact r_sub [0, 1, 2, 3, 4] rfl ((bj_X10_fault_34 X hst ad) _ _ _ _ _)
    · refine r_iload_n 2 rfl dX10_fault_19 ?_
      refine r_iconst (1) (by decide) dX10_fault_20 ?_
      refine r_icmp_gt 38 dX10_fault_21 (by decide) ?_ ?_
      · exact r_sub [0, 1, 2, 3, 4] rfl ((bj_X10_fault_38 X hst ad) _ _ _ _ _)
      · refine r_aload_n 0 rfl dX10_fault_24 ?_
        refine r_iload_n 3 rfl dX10_fault_25 ?_
        refine r_iconst (0) (by decide) dX10_fault_26 ?_
        refine r_iconst (3) (by decide) dX10_fault_27 ?_
        refine r_callV (n := 3) (As := [.int _, .int _, .int _]) (cell_30 _ _ _ _) (lvs_30 _) rfl (nc_X10_between X hst ad _ _ _ _) (fun _ h => h) rfl ⟨rfl, by decide, by decide, by decide +kernel⟩ w_118 w_119 w_120 w_121 w_122 rfl rfl (Nat.le_of_ble_eq_true rfl) ⟨by decide, by decide⟩ dX10_fault_28 (fun v18 σ19 => ?_)
        refine r_if_ne 38 dX10_fault_31 (by decide) ?_ ?_
        · exact r_sub [0, 1, 2, 3, 4] rfl ((bj_X10_fault_34 X hst ad) _ _ _ _ _)
        · exact r_sub [0, 1, 2, 3, 4] rfl ((bj_X10_fault_38 X hst ad) _ _ _ _ _)
def f_X10_isDiagram (σ : Wd) (p0 : Int32) : Option ((Int32 ⊕ String) × Wd) :=
  bx (f_X10_between σ p0 (0 : Int32) ((σ.1 30 0 19) - (1 : Int32))) fun v1 σ2 =>
  gd (v1 = 0 ∨ v1 = 1) <|
  some (.inl v1, σ2)
theorem nc_X10_isDiagram (X : Xt) (hst : X.1.stackTraces = false) (ad : Ad) (σ : Wd) (p0 : Int32) : NC X (fun a => a = ad) yX10_isDiagram cX10_isDiagram 2 (some (.boolean)) 1 23 vI (0, 0) ad σ [.ref (ad 30 0), .int p0] (f_X10_isDiagram σ p0) := by
  unfold f_X10_isDiagram
  refine NC.intro RX10 rfl hst (by decide) (Nat.le_of_ble_eq_true rfl) (lv := [(0, .ref _), (1, .int _)]) rfl ?_
  refine r_aload_n 0 rfl dX10_isDiagram_0 ?_
  refine r_iload_n 1 rfl dX10_isDiagram_1 ?_
  refine r_iconst (0) (by decide) dX10_isDiagram_2 ?_
  refine r_aload_n 0 rfl dX10_isDiagram_3 ?_
  refine r_getf 19 (lvs_30 _) (cell_30 _ _ _ _) rfl (by decide) in_11 w_140 rfl dX10_isDiagram_4 ?_
  refine r_iconst (1) (by decide) dX10_isDiagram_7 ?_
  refine r_isub dX10_isDiagram_8 ?_
  refine r_callV (n := 3) (As := [.int _, .int _, .int _]) (cell_30 _ _ _ _) (lvs_30 _) rfl (nc_X10_between X hst ad _ _ _ _) (fun _ h => h) rfl ⟨rfl, by decide, by decide, by decide +kernel⟩ w_118 w_119 w_120 w_121 w_122 rfl rfl (Nat.le_of_ble_eq_true rfl) ⟨by decide, by decide⟩ dX10_isDiagram_9 (fun v1 σ2 => ?_)
  refine r_gd (fun h1 => ?_)
  exact r_zret rfl rfl (zn h1) rfl dX10_isDiagram_12
def j_X10_pin_27 (σ : Wd) (a1 : Int32) (a2 : Int32) (s0 : Int32) : Option ((Int32 ⊕ String) × Wd) :=
  bd (wr σ 30 0 0 s0) fun σ3 =>
  if (σ3.1 30 0 0) ≤ 0 then
    gd (inb a1 6) <|
    bd ((σ3.1 49 0 a1.toNatClampNeg)) fun x4 =>
    bd (wr σ3 49 0 a1.toNatClampNeg a2) fun σ5 =>
    some (.inl x4, σ5)
  else
    some (.inl (0 : Int32), σ3)
def j_X10_pin_22 (σ : Wd) (a1 : Int32) (a2 : Int32) : Option ((Int32 ⊕ String) × Wd) :=
  j_X10_pin_27 σ a1 a2 (1 : Int32)
def j_X10_pin_26 (σ : Wd) (a1 : Int32) (a2 : Int32) : Option ((Int32 ⊕ String) × Wd) :=
  j_X10_pin_27 σ a1 a2 (0 : Int32)
def f_X10_pin (σ : Wd) (p0 : Int32) (p1 : Int32) : Option ((Int32 ⊕ String) × Wd) :=
  bx (f_X10_isDiagram σ p0) fun v1 σ2 =>
  if v1 = 0 then
    j_X10_pin_22 σ2 p0 p1
  else
    if p1 = (-1 : Int32) then
      j_X10_pin_26 σ2 p0 p1
    else
      bx (f_X10_isUnit σ2 p1) fun v6 σ7 =>
      if v6 = 0 then
        j_X10_pin_22 σ7 p0 p1
      else
        j_X10_pin_26 σ7 p0 p1
theorem bj_X10_pin_27 (X : Xt) (hst : X.1.stackTraces = false) (ad : Ad) (σ : Wd) (a1 : Int32) (a2 : Int32) (s0 : Int32) : Bk X (fun a => a = ad) cX10_pin 4 RX10 (some (.int)) 2 44 vI (0, 0) (0, 0) ad σ 27 [(0, .ref (ad 30 0)), (1, .int a1), (2, .int a2)] [.int s0, .ref (ad 30 0)] (j_X10_pin_27 σ a1 a2 s0) := by
  unfold j_X10_pin_27
  refine r_bd ?_
  refine r_putf 0 tyX10 tyX10_ok nmX10 (lvs_30 _) (cell_30 _ _ _ _) (wrc_30_0 _ _ _ _ _) rfl (by decide) (Nat.le_of_ble_eq_true rfl) in_11 w_117 rfl rfl rfl dX10_pin_27 ?_
  refine r_aload_n 0 rfl dX10_pin_30 ?_
  refine r_getf 0 (lvs_30 _) (cell_30 _ _ _ _) rfl (by decide) in_11 w_117 rfl dX10_pin_31 ?_
  refine r_if_le 39 dX10_pin_34 (by decide) ?_ ?_
  · refine r_aload_n 0 rfl dX10_pin_39 ?_
    refine r_getf 25 (lvs_30 _) (cell_30 _ _ _ _) rfl (by decide) in_11 w_145 rfl dX10_pin_40 ?_
    refine r_iload_n 1 rfl dX10_pin_43 ?_
    refine r_gd (fun h1 => ?_)
    refine r_iaload (lvs_49 _) (cell_49 _ _ _ _) h1 dX10_pin_44 ?_
    refine r_bd ?_
    refine r_istore_n [(3, .int _), (0, .ref _), (1, .int _), (2, .int _)] rfl (by decide) dX10_pin_45 ?_
    refine r_aload_n 1 rfl dX10_pin_46 ?_
    refine r_getf 25 (lvs_30 _) (cell_30 _ _ _ _) rfl (by decide) in_11 w_145 rfl dX10_pin_47 ?_
    refine r_iload_n 2 rfl dX10_pin_50 ?_
    refine r_iload_n 3 rfl dX10_pin_51 ?_
    refine r_bd ?_
    refine r_iastore (lvs_49 _) (ia_49 _ _ _) h1 dX10_pin_52 ?_
    refine r_iload_n 0 rfl dX10_pin_53 ?_
    exact r_iret rfl rfl rfl dX10_pin_54
  · refine r_iconst (0) (by decide) dX10_pin_37 ?_
    exact r_iret rfl rfl rfl dX10_pin_38
theorem bj_X10_pin_22 (X : Xt) (hst : X.1.stackTraces = false) (ad : Ad) (σ : Wd) (a1 : Int32) (a2 : Int32) : Bk X (fun a => a = ad) cX10_pin 4 RX10 (some (.int)) 2 44 vI (0, 0) (0, 0) ad σ 22 [(0, .ref (ad 30 0)), (1, .int a1), (2, .int a2)] [.ref (ad 30 0)] (j_X10_pin_22 σ a1 a2) := by
  unfold j_X10_pin_22
  refine r_iconst (1) (by decide) dX10_pin_22 ?_
  refine r_goto 27 dX10_pin_23 (by decide) ?_
  exact r_sub [0, 1, 2] rfl ((bj_X10_pin_27 X hst ad) _ _ _ _)
theorem bj_X10_pin_26 (X : Xt) (hst : X.1.stackTraces = false) (ad : Ad) (σ : Wd) (a1 : Int32) (a2 : Int32) : Bk X (fun a => a = ad) cX10_pin 4 RX10 (some (.int)) 2 44 vI (0, 0) (0, 0) ad σ 26 [(0, .ref (ad 30 0)), (1, .int a1), (2, .int a2)] [.ref (ad 30 0)] (j_X10_pin_26 σ a1 a2) := by
  unfold j_X10_pin_26
  refine r_iconst (0) (by decide) dX10_pin_26 ?_
  exact r_sub [0, 1, 2] rfl ((bj_X10_pin_27 X hst ad) _ _ _ _)
theorem nc_X10_pin (X : Xt) (hst : X.1.stackTraces = false) (ad : Ad) (σ : Wd) (p0 : Int32) (p1 : Int32) : NC X (fun a => a = ad) yX10_pin cX10_pin 4 (some (.int)) 2 44 vI (0, 0) ad σ [.ref (ad 30 0), .int p0, .int p1] (f_X10_pin σ p0 p1) := by
  unfold f_X10_pin
  refine NC.intro RX10 rfl hst (by decide) (Nat.le_of_ble_eq_true rfl) (lv := [(0, .ref _), (1, .int _), (2, .int _)]) rfl ?_
  refine r_aload_n 0 rfl dX10_pin_0 ?_
  refine r_aload_n 0 rfl dX10_pin_1 ?_
  refine r_iload_n 1 rfl dX10_pin_2 ?_
  refine r_callV (n := 1) (As := [.int _]) (cell_30 _ _ _ _) (lvs_30 _) rfl (nc_X10_isDiagram X hst ad _ _) (fun _ h => h) rfl ⟨rfl, by decide, by decide, by decide +kernel⟩ w_170 w_171 w_172 w_121 w_173 rfl rfl (Nat.le_of_ble_eq_true rfl) ⟨by decide, by decide⟩ dX10_pin_3 (fun v1 σ2 => ?_)
  refine r_if_eq 22 dX10_pin_6 (by decide) ?_ ?_
  · exact r_sub [0, 1, 2] rfl ((bj_X10_pin_22 X hst ad) _ _ _)
  · refine r_iload_n 2 rfl dX10_pin_9 ?_
    refine r_iconst (-1) (by decide) dX10_pin_10 ?_
    refine r_icmp_eq 26 dX10_pin_11 (by decide) ?_ ?_
    · exact r_sub [0, 1, 2] rfl ((bj_X10_pin_26 X hst ad) _ _ _)
    · refine r_aload_n 0 rfl dX10_pin_14 ?_
      refine r_iload_n 2 rfl dX10_pin_15 ?_
      refine r_callV (n := 1) (As := [.int _]) (cell_30 _ _ _ _) (lvs_30 _) rfl (nc_X10_isUnit X hst ad _ _) (fun _ h => h) rfl ⟨rfl, by decide, by decide, by decide +kernel⟩ w_160 w_161 w_162 w_121 w_163 rfl rfl (Nat.le_of_ble_eq_true rfl) ⟨by decide, by decide⟩ dX10_pin_16 (fun v6 σ7 => ?_)
      refine r_if_ne 26 dX10_pin_19 (by decide) ?_ ?_
      · exact r_sub [0, 1, 2] rfl ((bj_X10_pin_22 X hst ad) _ _ _)
      · exact r_sub [0, 1, 2] rfl ((bj_X10_pin_26 X hst ad) _ _ _)
def l_X10_isExamDue_5 : Nat → Wd → Int32 → Int32 → Int32 → Int32 → Option ((Int32 ⊕ String) × Wd)
  | 0, _, _, _, _, _ => none
  | n + 1, σ, a4, a3, a1, a2 =>
  if (3 : Int32) ≤ a4 then
    gd (a3 = 0 ∨ a3 = 1) <|
    some (.inl a3, σ)
  else
    if a3 = 0 then
      gd (inb (((3 : Int32) * a1) + a4) 18) <|
      bx (f_X10_bound σ a4) fun v1 σ2 =>
      if v1 < ((σ.1 35 0 (((3 : Int32) * a1) + a4).toNatClampNeg) + a2) then
        (l_X10_isExamDue_5 n) σ2 (a4 + 1) (1 : Int32) a1 a2
      else
        gd (inb a4 3) <|
        if (σ2.1 36 0 (((3 : Int32) * a1) + a4).toNatClampNeg) ≤ (σ2.1 52 0 a4.toNatClampNeg) then
          (l_X10_isExamDue_5 n) σ2 (a4 + 1) (0 : Int32) a1 a2
        else
          (l_X10_isExamDue_5 n) σ2 (a4 + 1) (1 : Int32) a1 a2
    else
      (l_X10_isExamDue_5 n) σ (a4 + 1) (1 : Int32) a1 a2
def f_X10_isExamDue (σ : Wd) (p0 : Int32) (p1 : Int32) : Option ((Int32 ⊕ String) × Wd) :=
  l_X10_isExamDue_5 FU σ (0 : Int32) (0 : Int32) p0 p1
theorem bl_X10_isExamDue_5 (X : Xt) (hst : X.1.stackTraces = false) (ad : Ad) : ∀ (n : Nat) (σ : Wd) (a4 : Int32) (a3 : Int32) (a1 : Int32) (a2 : Int32), Bk X (fun a => a = ad) cX10_isExamDue 5 RX10 (some (.boolean)) 1 21 vI (0, 0) (0, 0) ad σ 5 [(4, .int a4), (3, .int a3), (0, .ref (ad 30 0)), (1, .int a1), (2, .int a2)] [] (l_X10_isExamDue_5 n σ a4 a3 a1 a2) := by
  intro n
  induction n with
  | zero => intros; exact r_none
  | succ n ih =>
  intro σ a4 a3 a1 a2
  rw [l_X10_isExamDue_5]
  refine r_iload 0 rfl dX10_isExamDue_5 ?_
  refine r_iconst (3) (by decide) dX10_isExamDue_7 ?_
  refine r_icmp_ge 70 dX10_isExamDue_8 (by decide) ?_ ?_
  · refine r_iload_n 1 rfl dX10_isExamDue_70 ?_
    refine r_gd (fun h1 => ?_)
    exact r_zret rfl rfl (zn h1) rfl dX10_isExamDue_71
  · refine r_iload_n 1 rfl dX10_isExamDue_11 ?_
    refine r_if_ne 58 dX10_isExamDue_12 (by decide) ?_ ?_
    · refine r_aload_n 2 rfl dX10_isExamDue_15 ?_
      refine r_getf 10 (lvs_30 _) (cell_30 _ _ _ _) rfl (by decide) in_11 w_174 rfl dX10_isExamDue_16 ?_
      refine r_iconst (3) (by decide) dX10_isExamDue_19 ?_
      refine r_iload_n 3 rfl dX10_isExamDue_20 ?_
      refine r_imul dX10_isExamDue_21 ?_
      refine r_iload 0 rfl dX10_isExamDue_22 ?_
      refine r_iadd dX10_isExamDue_24 ?_
      refine r_gd (fun h2 => ?_)
      refine r_iaload (lvs_35 _) (cell_35 _ _ _ _) h2 dX10_isExamDue_25 ?_
      refine r_iload_n 4 rfl dX10_isExamDue_26 ?_
      refine r_iadd dX10_isExamDue_27 ?_
      refine r_aload_n 2 rfl dX10_isExamDue_28 ?_
      refine r_iload 0 rfl dX10_isExamDue_29 ?_
      refine r_callV (n := 1) (As := [.int _]) (cell_30 _ _ _ _) (lvs_30 _) rfl (nc_X10_bound X hst ad _ _) (fun _ h => h) rfl ⟨rfl, by decide, by decide, by decide +kernel⟩ w_153 w_154 w_155 w_121 w_156 rfl rfl (Nat.le_of_ble_eq_true rfl) ⟨by decide, by decide⟩ dX10_isExamDue_31 (fun v1 σ2 => ?_)
      refine r_icmp_gt 58 dX10_isExamDue_34 (by decide) ?_ ?_
      · refine r_iconst (1) (by decide) dX10_isExamDue_58 ?_
        refine r_goto 63 dX10_isExamDue_59 (by decide) ?_
        refine r_istore_n [(3, .int _), (4, .int _), (0, .ref _), (1, .int _), (2, .int _)] rfl (by decide) dX10_isExamDue_63 ?_
        refine r_iinc (1) [(4, .int _), (3, .int _), (0, .ref _), (1, .int _), (2, .int _)] 1 rfl (by decide) rfl (by decide) dX10_isExamDue_64 ?_
        refine r_goto 5 dX10_isExamDue_67 (by decide) ?_
        exact r_sub [0, 1, 2, 3, 4] rfl (ih _ _ _ _ _)
      · refine r_aload_n 2 rfl dX10_isExamDue_37 ?_
        refine r_getf 11 (lvs_30 _) (cell_30 _ _ _ _) rfl (by decide) in_11 w_175 rfl dX10_isExamDue_38 ?_
        refine r_iconst (3) (by decide) dX10_isExamDue_41 ?_
        refine r_iload_n 3 rfl dX10_isExamDue_42 ?_
        refine r_imul dX10_isExamDue_43 ?_
        refine r_iload 0 rfl dX10_isExamDue_44 ?_
        refine r_iadd dX10_isExamDue_46 ?_
        refine r_iaload (lvs_36 _) (cell_36 _ _ _ _) h2 dX10_isExamDue_47 ?_
        refine r_aload_n 2 rfl dX10_isExamDue_48 ?_
        refine r_getf 28 (lvs_30 _) (cell_30 _ _ _ _) rfl (by decide) in_11 w_152 rfl dX10_isExamDue_49 ?_
        refine r_iload 0 rfl dX10_isExamDue_52 ?_
        refine r_gd (fun h3 => ?_)
        refine r_iaload (lvs_52 _) (cell_52 _ _ _ _) h3 dX10_isExamDue_54 ?_
        refine r_icmp_le 62 dX10_isExamDue_55 (by decide) ?_ ?_
        · refine r_iconst (0) (by decide) dX10_isExamDue_62 ?_
          refine r_istore_n [(3, .int _), (4, .int _), (0, .ref _), (1, .int _), (2, .int _)] rfl (by decide) dX10_isExamDue_63 ?_
          refine r_iinc (1) [(4, .int _), (3, .int _), (0, .ref _), (1, .int _), (2, .int _)] 1 rfl (by decide) rfl (by decide) dX10_isExamDue_64 ?_
          refine r_goto 5 dX10_isExamDue_67 (by decide) ?_
          exact r_sub [0, 1, 2, 3, 4] rfl (ih _ _ _ _ _)
        · refine r_iconst (1) (by decide) dX10_isExamDue_58 ?_
          refine r_goto 63 dX10_isExamDue_59 (by decide) ?_
          refine r_istore_n [(3, .int _), (4, .int _), (0, .ref _), (1, .int _), (2, .int _)] rfl (by decide) dX10_isExamDue_63 ?_
          refine r_iinc (1) [(4, .int _), (3, .int _), (0, .ref _), (1, .int _), (2, .int _)] 1 rfl (by decide) rfl (by decide) dX10_isExamDue_64 ?_
          refine r_goto 5 dX10_isExamDue_67 (by decide) ?_
          exact r_sub [0, 1, 2, 3, 4] rfl (ih _ _ _ _ _)
    · refine r_iconst (1) (by decide) dX10_isExamDue_58 ?_
      refine r_goto 63 dX10_isExamDue_59 (by decide) ?_
      refine r_istore_n [(3, .int _), (4, .int _), (0, .ref _), (1, .int _), (2, .int _)] rfl (by decide) dX10_isExamDue_63 ?_
      refine r_iinc (1) [(4, .int _), (3, .int _), (0, .ref _), (1, .int _), (2, .int _)] 1 rfl (by decide) rfl (by decide) dX10_isExamDue_64 ?_
      refine r_goto 5 dX10_isExamDue_67 (by decide) ?_
      exact r_sub [0, 1, 2, 3, 4] rfl (ih _ _ _ _ _)
theorem nc_X10_isExamDue (X : Xt) (hst : X.1.stackTraces = false) (ad : Ad) (σ : Wd) (p0 : Int32) (p1 : Int32) : NC X (fun a => a = ad) yX10_isExamDue cX10_isExamDue 5 (some (.boolean)) 1 21 vI (0, 0) ad σ [.ref (ad 30 0), .int p0, .int p1] (f_X10_isExamDue σ p0 p1) := by
  unfold f_X10_isExamDue
  refine NC.intro RX10 rfl hst (by decide) (Nat.le_of_ble_eq_true rfl) (lv := [(0, .ref _), (1, .int _), (2, .int _)]) rfl ?_
  refine r_iconst (0) (by decide) dX10_isExamDue_0 ?_
  refine r_istore_n [(3, .int _), (0, .ref _), (1, .int _), (2, .int _)] rfl (by decide) dX10_isExamDue_1 ?_
  refine r_iconst (0) (by decide) dX10_isExamDue_2 ?_
  refine r_istore [(4, .int _), (3, .int _), (0, .ref _), (1, .int _), (2, .int _)] rfl (by decide) dX10_isExamDue_3 ?_
  exact r_sub [0, 1, 2, 3, 4] rfl ((bl_X10_isExamDue_5 X hst ad FU) _ _ _ _ _)
def l_X10_isBarredByList_8 : Nat → Wd → Int32 → Int32 → Int32 → Int32 → Option ((Int32 ⊕ String) × Wd)
  | 0, _, _, _, _, _ => none
  | n + 1, σ, a4, a3, a1, a2 =>
  gd (inb a1 6) <|
  if (((8 : Int32) * a1) + (σ.1 39 0 a1.toNatClampNeg)) ≤ a4 then
    gd (a3 = 0 ∨ a3 = 1) <|
    some (.inl a3, σ)
  else
    gd (inb a4 48) <|
    gd (inb (σ.1 40 0 a4.toNatClampNeg) 4) <|
    bd ((σ.1 53 0 (σ.1 40 0 a4.toNatClampNeg).toNatClampNeg)) fun x1 =>
    if a3 = 0 then
      if x1 = (-1 : Int32) then
        (l_X10_isBarredByList_8 n) σ (a4 + 1) (1 : Int32) a1 a2
      else
        if x1 < ((σ.1 30 0 1) - (σ.1 41 0 a4.toNatClampNeg)) then
          (l_X10_isBarredByList_8 n) σ (a4 + 1) (1 : Int32) a1 a2
        else
          if a2 ≤ (σ.1 54 0 (σ.1 40 0 a4.toNatClampNeg).toNatClampNeg) then
            (l_X10_isBarredByList_8 n) σ (a4 + 1) (0 : Int32) a1 a2
          else
            (l_X10_isBarredByList_8 n) σ (a4 + 1) (1 : Int32) a1 a2
    else
      (l_X10_isBarredByList_8 n) σ (a4 + 1) (1 : Int32) a1 a2
def f_X10_isBarredByList (σ : Wd) (p0 : Int32) (p1 : Int32) : Option ((Int32 ⊕ String) × Wd) :=
  l_X10_isBarredByList_8 FU σ ((8 : Int32) * p0) (0 : Int32) p0 p1
theorem bl_X10_isBarredByList_8 (X : Xt) (hst : X.1.stackTraces = false) (ad : Ad) : ∀ (n : Nat) (σ : Wd) (a4 : Int32) (a3 : Int32) (a1 : Int32) (a2 : Int32), Bk X (fun a => a = ad) cX10_isBarredByList 6 RX10 (some (.boolean)) 0 0 vI (0, 0) (0, 0) ad σ 8 [(4, .int a4), (3, .int a3), (0, .ref (ad 30 0)), (1, .int a1), (2, .int a2)] [] (l_X10_isBarredByList_8 n σ a4 a3 a1 a2) := by
  intro n
  induction n with
  | zero => intros; exact r_none
  | succ n ih =>
  intro σ a4 a3 a1 a2
  rw [l_X10_isBarredByList_8]
  refine r_iload 0 rfl dX10_isBarredByList_8 ?_
  refine r_bipush (8) (by decide) dX10_isBarredByList_10 ?_
  refine r_iload_n 3 rfl dX10_isBarredByList_12 ?_
  refine r_imul dX10_isBarredByList_13 ?_
  refine r_aload_n 2 rfl dX10_isBarredByList_14 ?_
  refine r_getf 14 (lvs_30 _) (cell_30 _ _ _ _) rfl (by decide) in_11 w_164 rfl dX10_isBarredByList_15 ?_
  refine r_iload_n 3 rfl dX10_isBarredByList_18 ?_
  refine r_gd (fun h1 => ?_)
  refine r_iaload (lvs_39 _) (cell_39 _ _ _ _) h1 dX10_isBarredByList_19 ?_
  refine r_iadd dX10_isBarredByList_20 ?_
  refine r_icmp_ge 93 dX10_isBarredByList_21 (by decide) ?_ ?_
  · refine r_iload_n 1 rfl dX10_isBarredByList_93 ?_
    refine r_gd (fun h2 => ?_)
    exact r_zret rfl rfl (zn h2) rfl dX10_isBarredByList_94
  · refine r_aload_n 2 rfl dX10_isBarredByList_24 ?_
    refine r_getf 29 (lvs_30 _) (cell_30 _ _ _ _) rfl (by decide) in_11 w_158 rfl dX10_isBarredByList_25 ?_
    refine r_aload_n 2 rfl dX10_isBarredByList_28 ?_
    refine r_getf 15 (lvs_30 _) (cell_30 _ _ _ _) rfl (by decide) in_11 w_165 rfl dX10_isBarredByList_29 ?_
    refine r_iload 0 rfl dX10_isBarredByList_32 ?_
    refine r_gd (fun h3 => ?_)
    refine r_iaload (lvs_40 _) (cell_40 _ _ _ _) h3 dX10_isBarredByList_34 ?_
    refine r_gd (fun h4 => ?_)
    refine r_iaload (lvs_53 _) (cell_53 _ _ _ _) h4 dX10_isBarredByList_35 ?_
    refine r_bd ?_
    refine r_istore [(5, .int _), (4, .int _), (3, .int _), (0, .ref _), (1, .int _), (2, .int _)] rfl (by decide) dX10_isBarredByList_36 ?_
    refine r_iload_n 2 rfl dX10_isBarredByList_38 ?_
    refine r_if_ne 81 dX10_isBarredByList_39 (by decide) ?_ ?_
    · refine r_iload 0 rfl dX10_isBarredByList_42 ?_
      refine r_iconst (-1) (by decide) dX10_isBarredByList_44 ?_
      refine r_icmp_eq 81 dX10_isBarredByList_45 (by decide) ?_ ?_
      · refine r_iconst (1) (by decide) dX10_isBarredByList_81 ?_
        refine r_goto 86 dX10_isBarredByList_82 (by decide) ?_
        refine r_istore_n [(3, .int _), (5, .int _), (4, .int _), (0, .ref _), (1, .int _), (2, .int _)] rfl (by decide) dX10_isBarredByList_86 ?_
        refine r_iinc (1) [(4, .int _), (3, .int _), (5, .int _), (0, .ref _), (1, .int _), (2, .int _)] 2 rfl (by decide) rfl (by decide) dX10_isBarredByList_87 ?_
        refine r_goto 8 dX10_isBarredByList_90 (by decide) ?_
        exact r_sub [0, 1, 3, 4, 5] rfl (ih _ _ _ _ _)
      · refine r_aload_n 3 rfl dX10_isBarredByList_48 ?_
        refine r_getf 1 (lvs_30 _) (cell_30 _ _ _ _) rfl (by decide) in_11 w_167 rfl dX10_isBarredByList_49 ?_
        refine r_aload_n 3 rfl dX10_isBarredByList_52 ?_
        refine r_getf 16 (lvs_30 _) (cell_30 _ _ _ _) rfl (by decide) in_11 w_166 rfl dX10_isBarredByList_53 ?_
        refine r_iload 1 rfl dX10_isBarredByList_56 ?_
        refine r_iaload (lvs_41 _) (cell_41 _ _ _ _) h3 dX10_isBarredByList_58 ?_
        refine r_isub dX10_isBarredByList_59 ?_
        refine r_iload 0 rfl dX10_isBarredByList_60 ?_
        refine r_icmp_gt 81 dX10_isBarredByList_62 (by decide) ?_ ?_
        · refine r_iconst (1) (by decide) dX10_isBarredByList_81 ?_
          refine r_goto 86 dX10_isBarredByList_82 (by decide) ?_
          refine r_istore_n [(3, .int _), (5, .int _), (4, .int _), (0, .ref _), (1, .int _), (2, .int _)] rfl (by decide) dX10_isBarredByList_86 ?_
          refine r_iinc (1) [(4, .int _), (3, .int _), (5, .int _), (0, .ref _), (1, .int _), (2, .int _)] 2 rfl (by decide) rfl (by decide) dX10_isBarredByList_87 ?_
          refine r_goto 8 dX10_isBarredByList_90 (by decide) ?_
          exact r_sub [0, 1, 3, 4, 5] rfl (ih _ _ _ _ _)
        · refine r_iload_n 5 rfl dX10_isBarredByList_65 ?_
          refine r_aload_n 3 rfl dX10_isBarredByList_66 ?_
          refine r_getf 30 (lvs_30 _) (cell_30 _ _ _ _) rfl (by decide) in_11 w_159 rfl dX10_isBarredByList_67 ?_
          refine r_aload_n 3 rfl dX10_isBarredByList_70 ?_
          refine r_getf 15 (lvs_30 _) (cell_30 _ _ _ _) rfl (by decide) in_11 w_165 rfl dX10_isBarredByList_71 ?_
          refine r_iload 1 rfl dX10_isBarredByList_74 ?_
          refine r_iaload (lvs_40 _) (cell_40 _ _ _ _) h3 dX10_isBarredByList_76 ?_
          refine r_iaload (lvs_54 _) (cell_54 _ _ _ _) h4 dX10_isBarredByList_77 ?_
          refine r_icmp_le 85 dX10_isBarredByList_78 (by decide) ?_ ?_
          · refine r_iconst (0) (by decide) dX10_isBarredByList_85 ?_
            refine r_istore_n [(3, .int _), (5, .int _), (4, .int _), (0, .ref _), (1, .int _), (2, .int _)] rfl (by decide) dX10_isBarredByList_86 ?_
            refine r_iinc (1) [(4, .int _), (3, .int _), (5, .int _), (0, .ref _), (1, .int _), (2, .int _)] 2 rfl (by decide) rfl (by decide) dX10_isBarredByList_87 ?_
            refine r_goto 8 dX10_isBarredByList_90 (by decide) ?_
            exact r_sub [0, 1, 3, 4, 5] rfl (ih _ _ _ _ _)
          · refine r_iconst (1) (by decide) dX10_isBarredByList_81 ?_
            refine r_goto 86 dX10_isBarredByList_82 (by decide) ?_
            refine r_istore_n [(3, .int _), (5, .int _), (4, .int _), (0, .ref _), (1, .int _), (2, .int _)] rfl (by decide) dX10_isBarredByList_86 ?_
            refine r_iinc (1) [(4, .int _), (3, .int _), (5, .int _), (0, .ref _), (1, .int _), (2, .int _)] 2 rfl (by decide) rfl (by decide) dX10_isBarredByList_87 ?_
            refine r_goto 8 dX10_isBarredByList_90 (by decide) ?_
            exact r_sub [0, 1, 3, 4, 5] rfl (ih _ _ _ _ _)
    · refine r_iconst (1) (by decide) dX10_isBarredByList_81 ?_
      refine r_goto 86 dX10_isBarredByList_82 (by decide) ?_
      refine r_istore_n [(3, .int _), (5, .int _), (4, .int _), (0, .ref _), (1, .int _), (2, .int _)] rfl (by decide) dX10_isBarredByList_86 ?_
      refine r_iinc (1) [(4, .int _), (3, .int _), (5, .int _), (0, .ref _), (1, .int _), (2, .int _)] 2 rfl (by decide) rfl (by decide) dX10_isBarredByList_87 ?_
      refine r_goto 8 dX10_isBarredByList_90 (by decide) ?_
      exact r_sub [0, 1, 3, 4, 5] rfl (ih _ _ _ _ _)
theorem nc_X10_isBarredByList (X : Xt) (hst : X.1.stackTraces = false) (ad : Ad) (σ : Wd) (p0 : Int32) (p1 : Int32) : NC X (fun a => a = ad) yX10_isBarredByList cX10_isBarredByList 6 (some (.boolean)) 0 0 vI (0, 0) ad σ [.ref (ad 30 0), .int p0, .int p1] (f_X10_isBarredByList σ p0 p1) := by
  unfold f_X10_isBarredByList
  refine NC.intro RX10 rfl hst (by decide) (Nat.le_of_ble_eq_true rfl) (lv := [(0, .ref _), (1, .int _), (2, .int _)]) rfl ?_
  refine r_iconst (0) (by decide) dX10_isBarredByList_0 ?_
  refine r_istore_n [(3, .int _), (0, .ref _), (1, .int _), (2, .int _)] rfl (by decide) dX10_isBarredByList_1 ?_
  refine r_bipush (8) (by decide) dX10_isBarredByList_2 ?_
  refine r_iload_n 2 rfl dX10_isBarredByList_4 ?_
  refine r_imul dX10_isBarredByList_5 ?_
  refine r_istore [(4, .int _), (3, .int _), (0, .ref _), (1, .int _), (2, .int _)] rfl (by decide) dX10_isBarredByList_6 ?_
  exact r_sub [0, 1, 2, 3, 4] rfl ((bl_X10_isBarredByList_8 X hst ad FU) _ _ _ _ _)
def j_X10_isBad_79 (k10 : Wd → Int32 → Int32 → Int32 → Int32 → Option ((Int32 ⊕ String) × Wd)) (σ : Wd) (a4 : Int32) (a3 : Int32) (a2 : Int32) (a1 : Int32) (s0 : Int32) : Option ((Int32 ⊕ String) × Wd) :=
  gd (inb a4 48) <|
  if (σ.1 40 0 a4.toNatClampNeg) = (1 : Int32) then
    k10 σ (a4 + 1) (a3 + (1 : Int32)) s0 a1
  else
    k10 σ (a4 + 1) (a3 + (0 : Int32)) s0 a1
def j_X10_isBad_74 (k10 : Wd → Int32 → Int32 → Int32 → Int32 → Option ((Int32 ⊕ String) × Wd)) (σ : Wd) (a4 : Int32) (a3 : Int32) (a2 : Int32) (a1 : Int32) : Option ((Int32 ⊕ String) × Wd) :=
  j_X10_isBad_79 k10 σ a4 a3 a2 a1 (1 : Int32)
def j_X10_isBad_78 (k10 : Wd → Int32 → Int32 → Int32 → Int32 → Option ((Int32 ⊕ String) × Wd)) (σ : Wd) (a4 : Int32) (a3 : Int32) (a2 : Int32) (a1 : Int32) : Option ((Int32 ⊕ String) × Wd) :=
  j_X10_isBad_79 k10 σ a4 a3 a2 a1 (0 : Int32)
def j_X10_isBad_51 (k10 : Wd → Int32 → Int32 → Int32 → Int32 → Option ((Int32 ⊕ String) × Wd)) (σ : Wd) (a4 : Int32) (a3 : Int32) (a2 : Int32) (a1 : Int32) : Option ((Int32 ⊕ String) × Wd) :=
  gd (inb a4 48) <|
  if (σ.1 40 0 a4.toNatClampNeg) = (2 : Int32) then
    if (σ.1 43 0 a4.toNatClampNeg) ≤ (50 : Int32) then
      j_X10_isBad_78 k10 σ a4 a3 a2 a1
    else
      j_X10_isBad_74 k10 σ a4 a3 a2 a1
  else
    j_X10_isBad_78 k10 σ a4 a3 a2 a1
def l_X10_isBad_10 : Nat → Wd → Int32 → Int32 → Int32 → Int32 → Option ((Int32 ⊕ String) × Wd)
  | 0, _, _, _, _, _ => none
  | n + 1, σ, a4, a3, a2, a1 =>
  gd (inb a1 6) <|
  if (((8 : Int32) * a1) + (σ.1 39 0 a1.toNatClampNeg)) ≤ a4 then
    if a2 = 0 then
      if a3 ≤ (1 : Int32) then
        some (.inl (0 : Int32), σ)
      else
        some (.inl (1 : Int32), σ)
    else
      some (.inl (1 : Int32), σ)
  else
    if a2 = 0 then
      gd (inb a4 48) <|
      if (σ.1 40 0 a4.toNatClampNeg) = 0 then
        if (4 : Int32) < (σ.1 43 0 a4.toNatClampNeg) then
          j_X10_isBad_74 (l_X10_isBad_10 n) σ a4 a3 a2 a1
        else
          j_X10_isBad_51 (l_X10_isBad_10 n) σ a4 a3 a2 a1
      else
        j_X10_isBad_51 (l_X10_isBad_10 n) σ a4 a3 a2 a1
    else
      j_X10_isBad_74 (l_X10_isBad_10 n) σ a4 a3 a2 a1
def f_X10_isBad (σ : Wd) (p0 : Int32) : Option ((Int32 ⊕ String) × Wd) :=
  l_X10_isBad_10 FU σ ((8 : Int32) * p0) (0 : Int32) (0 : Int32) p0
theorem bj_X10_isBad_79 (X : Xt) (hst : X.1.stackTraces = false) (ad : Ad) {k10 : Wd → Int32 → Int32 → Int32 → Int32 → Option ((Int32 ⊕ String) × Wd)} (hk10 : ∀ (σ : Wd) (a4 : Int32) (a3 : Int32) (a2 : Int32) (a1 : Int32), Bk X (fun a => a = ad) cX10_isBad 5 RX10 (some (.boolean)) 0 0 vI (0, 0) (0, 0) ad σ 10 [(4, .int a4), (3, .int a3), (2, .int a2), (0, .ref (ad 30 0)), (1, .int a1)] [] (k10 σ a4 a3 a2 a1)) (σ : Wd) (a4 : Int32) (a3 : Int32) (a2 : Int32) (a1 : Int32) (s0 : Int32) : Bk X (fun a => a = ad) cX10_isBad 5 RX10 (some (.boolean)) 0 0 vI (0, 0) (0, 0) ad σ 79 [(4, .int a4), (3, .int a3), (2, .int a2), (0, .ref (ad 30 0)), (1, .int a1)] [.int s0] (j_X10_isBad_79 k10 σ a4 a3 a2 a1 s0) := by
  unfold j_X10_isBad_79
  refine r_istore_n [(2, .int _), (4, .int _), (3, .int _), (0, .ref _), (1, .int _)] rfl (by decide) dX10_isBad_79 ?_
  refine r_iload_n 2 rfl dX10_isBad_80 ?_
  refine r_aload_n 3 rfl dX10_isBad_81 ?_
  refine r_getf 15 (lvs_30 _) (cell_30 _ _ _ _) rfl (by decide) in_11 w_165 rfl dX10_isBad_82 ?_
  refine r_iload 1 rfl dX10_isBad_85 ?_
  refine r_gd (fun h3 => ?_)
  refine r_iaload (lvs_40 _) (cell_40 _ _ _ _) h3 dX10_isBad_87 ?_
  refine r_iconst (1) (by decide) dX10_isBad_88 ?_
  refine r_icmp_ne 96 dX10_isBad_89 (by decide) ?_ ?_
  · refine r_iconst (1) (by decide) dX10_isBad_92 ?_
    refine r_goto 97 dX10_isBad_93 (by decide) ?_
    refine r_iadd dX10_isBad_97 ?_
    refine r_istore_n [(3, .int _), (2, .int _), (4, .int _), (0, .ref _), (1, .int _)] rfl (by decide) dX10_isBad_98 ?_
    refine r_iinc (1) [(4, .int _), (3, .int _), (2, .int _), (0, .ref _), (1, .int _)] 2 rfl (by decide) rfl (by decide) dX10_isBad_99 ?_
    refine r_goto 10 dX10_isBad_102 (by decide) ?_
    exact r_sub [0, 1, 2, 3, 4] rfl (hk10 _ _ _ _ _)
  · refine r_iconst (0) (by decide) dX10_isBad_96 ?_
    refine r_iadd dX10_isBad_97 ?_
    refine r_istore_n [(3, .int _), (2, .int _), (4, .int _), (0, .ref _), (1, .int _)] rfl (by decide) dX10_isBad_98 ?_
    refine r_iinc (1) [(4, .int _), (3, .int _), (2, .int _), (0, .ref _), (1, .int _)] 2 rfl (by decide) rfl (by decide) dX10_isBad_99 ?_
    refine r_goto 10 dX10_isBad_102 (by decide) ?_
    exact r_sub [0, 1, 2, 3, 4] rfl (hk10 _ _ _ _ _)
theorem bj_X10_isBad_74 (X : Xt) (hst : X.1.stackTraces = false) (ad : Ad) {k10 : Wd → Int32 → Int32 → Int32 → Int32 → Option ((Int32 ⊕ String) × Wd)} (hk10 : ∀ (σ : Wd) (a4 : Int32) (a3 : Int32) (a2 : Int32) (a1 : Int32), Bk X (fun a => a = ad) cX10_isBad 5 RX10 (some (.boolean)) 0 0 vI (0, 0) (0, 0) ad σ 10 [(4, .int a4), (3, .int a3), (2, .int a2), (0, .ref (ad 30 0)), (1, .int a1)] [] (k10 σ a4 a3 a2 a1)) (σ : Wd) (a4 : Int32) (a3 : Int32) (a2 : Int32) (a1 : Int32) : Bk X (fun a => a = ad) cX10_isBad 5 RX10 (some (.boolean)) 0 0 vI (0, 0) (0, 0) ad σ 74 [(4, .int a4), (3, .int a3), (2, .int a2), (0, .ref (ad 30 0)), (1, .int a1)] [] (j_X10_isBad_74 k10 σ a4 a3 a2 a1) := by
  unfold j_X10_isBad_74
  refine r_iconst (1) (by decide) dX10_isBad_74 ?_
  refine r_goto 79 dX10_isBad_75 (by decide) ?_
  exact r_sub [0, 1, 2, 3, 4] rfl ((bj_X10_isBad_79 X hst ad hk10) _ _ _ _ _ _)
theorem bj_X10_isBad_78 (X : Xt) (hst : X.1.stackTraces = false) (ad : Ad) {k10 : Wd → Int32 → Int32 → Int32 → Int32 → Option ((Int32 ⊕ String) × Wd)} (hk10 : ∀ (σ : Wd) (a4 : Int32) (a3 : Int32) (a2 : Int32) (a1 : Int32), Bk X (fun a => a = ad) cX10_isBad 5 RX10 (some (.boolean)) 0 0 vI (0, 0) (0, 0) ad σ 10 [(4, .int a4), (3, .int a3), (2, .int a2), (0, .ref (ad 30 0)), (1, .int a1)] [] (k10 σ a4 a3 a2 a1)) (σ : Wd) (a4 : Int32) (a3 : Int32) (a2 : Int32) (a1 : Int32) : Bk X (fun a => a = ad) cX10_isBad 5 RX10 (some (.boolean)) 0 0 vI (0, 0) (0, 0) ad σ 78 [(4, .int a4), (3, .int a3), (2, .int a2), (0, .ref (ad 30 0)), (1, .int a1)] [] (j_X10_isBad_78 k10 σ a4 a3 a2 a1) := by
  unfold j_X10_isBad_78
  refine r_iconst (0) (by decide) dX10_isBad_78 ?_
  exact r_sub [0, 1, 2, 3, 4] rfl ((bj_X10_isBad_79 X hst ad hk10) _ _ _ _ _ _)
theorem bj_X10_isBad_51 (X : Xt) (hst : X.1.stackTraces = false) (ad : Ad) {k10 : Wd → Int32 → Int32 → Int32 → Int32 → Option ((Int32 ⊕ String) × Wd)} (hk10 : ∀ (σ : Wd) (a4 : Int32) (a3 : Int32) (a2 : Int32) (a1 : Int32), Bk X (fun a => a = ad) cX10_isBad 5 RX10 (some (.boolean)) 0 0 vI (0, 0) (0, 0) ad σ 10 [(4, .int a4), (3, .int a3), (2, .int a2), (0, .ref (ad 30 0)), (1, .int a1)] [] (k10 σ a4 a3 a2 a1)) (σ : Wd) (a4 : Int32) (a3 : Int32) (a2 : Int32) (a1 : Int32) : Bk X (fun a => a = ad) cX10_isBad 5 RX10 (some (.boolean)) 0 0 vI (0, 0) (0, 0) ad σ 51 [(4, .int a4), (3, .int a3), (2, .int a2), (0, .ref (ad 30 0)), (1, .int a1)] [] (j_X10_isBad_51 k10 σ a4 a3 a2 a1) := by
  unfold j_X10_isBad_51
  refine r_aload_n 3 rfl dX10_isBad_51 ?_
  refine r_getf 15 (lvs_30 _) (cell_30 _ _ _ _) rfl (by decide) in_11 w_165 rfl dX10_isBad_52 ?_
  refine r_iload 0 rfl dX10_isBad_55 ?_
  refine r_gd (fun h4 => ?_)
  refine r_iaload (lvs_40 _) (cell_40 _ _ _ _) h4 dX10_isBad_57 ?_
  refine r_iconst (2) (by decide) dX10_isBad_58 ?_
  refine r_icmp_ne 78 dX10_isBad_59 (by decide) ?_ ?_
  · refine r_aload_n 3 rfl dX10_isBad_62 ?_
    refine r_getf 18 (lvs_30 _) (cell_30 _ _ _ _) rfl (by decide) in_11 w_169 rfl dX10_isBad_63 ?_
    refine r_iload 0 rfl dX10_isBad_66 ?_
    refine r_iaload (lvs_43 _) (cell_43 _ _ _ _) h4 dX10_isBad_68 ?_
    refine r_bipush (50) (by decide) dX10_isBad_69 ?_
    refine r_icmp_le 78 dX10_isBad_71 (by decide) ?_ ?_
    · exact r_sub [0, 1, 2, 3, 4] rfl ((bj_X10_isBad_78 X hst ad hk10) _ _ _ _ _)
    · exact r_sub [0, 1, 2, 3, 4] rfl ((bj_X10_isBad_74 X hst ad hk10) _ _ _ _ _)
  · exact r_sub [0, 1, 2, 3, 4] rfl ((bj_X10_isBad_78 X hst ad hk10) _ _ _ _ _)
theorem bl_X10_isBad_10 (X : Xt) (hst : X.1.stackTraces = false) (ad : Ad) : ∀ (n : Nat) (σ : Wd) (a4 : Int32) (a3 : Int32) (a2 : Int32) (a1 : Int32), Bk X (fun a => a = ad) cX10_isBad 5 RX10 (some (.boolean)) 0 0 vI (0, 0) (0, 0) ad σ 10 [(4, .int a4), (3, .int a3), (2, .int a2), (0, .ref (ad 30 0)), (1, .int a1)] [] (l_X10_isBad_10 n σ a4 a3 a2 a1) := by
  intro n
  induction n with
  | zero => intros; exact r_none
  | succ n ih =>
  intro σ a4 a3 a2 a1
  rw [l_X10_isBad_10]
  refine r_iload 0 rfl dX10_isBad_10 ?_
  refine r_bipush (8) (by decide) dX10_isBad_12 ?_
  refine r_iload_n 4 rfl dX10_isBad_14 ?_
  refine r_imul dX10_isBad_15 ?_
  refine r_aload_n 3 rfl dX10_isBad_16 ?_
  refine r_getf 14 (lvs_30 _) (cell_30 _ _ _ _) rfl (by decide) in_11 w_164 rfl dX10_isBad_17 ?_
  refine r_iload_n 4 rfl dX10_isBad_20 ?_
  refine r_gd (fun h1 => ?_)
  refine r_iaload (lvs_39 _) (cell_39 _ _ _ _) h1 dX10_isBad_21 ?_
  refine r_iadd dX10_isBad_22 ?_
  refine r_icmp_ge 105 dX10_isBad_23 (by decide) ?_ ?_
  · refine r_iload_n 2 rfl dX10_isBad_105 ?_
    refine r_if_ne 114 dX10_isBad_106 (by decide) ?_ ?_
    · refine r_iload_n 1 rfl dX10_isBad_109 ?_
      refine r_iconst (1) (by decide) dX10_isBad_110 ?_
      refine r_icmp_le 118 dX10_isBad_111 (by decide) ?_ ?_
      · refine r_iconst (0) (by decide) dX10_isBad_118 ?_
        exact r_zret rfl rfl rfl rfl dX10_isBad_119
      · refine r_iconst (1) (by decide) dX10_isBad_114 ?_
        refine r_goto 119 dX10_isBad_115 (by decide) ?_
        exact r_zret rfl rfl rfl rfl dX10_isBad_119
    · refine r_iconst (1) (by decide) dX10_isBad_114 ?_
      refine r_goto 119 dX10_isBad_115 (by decide) ?_
      exact r_zret rfl rfl rfl rfl dX10_isBad_119
  · refine r_iload_n 2 rfl dX10_isBad_26 ?_
    refine r_if_ne 74 dX10_isBad_27 (by decide) ?_ ?_
    · refine r_aload_n 3 rfl dX10_isBad_30 ?_
      refine r_getf 15 (lvs_30 _) (cell_30 _ _ _ _) rfl (by decide) in_11 w_165 rfl dX10_isBad_31 ?_
      refine r_iload 0 rfl dX10_isBad_34 ?_
      refine r_gd (fun h2 => ?_)
      refine r_iaload (lvs_40 _) (cell_40 _ _ _ _) h2 dX10_isBad_36 ?_
      refine r_if_ne 51 dX10_isBad_37 (by decide) ?_ ?_
      · refine r_aload_n 3 rfl dX10_isBad_40 ?_
        refine r_getf 18 (lvs_30 _) (cell_30 _ _ _ _) rfl (by decide) in_11 w_169 rfl dX10_isBad_41 ?_
        refine r_iload 0 rfl dX10_isBad_44 ?_
        refine r_iaload (lvs_43 _) (cell_43 _ _ _ _) h2 dX10_isBad_46 ?_
        refine r_iconst (4) (by decide) dX10_isBad_47 ?_
        refine r_icmp_gt 74 dX10_isBad_48 (by decide) ?_ ?_
        · exact r_sub [0, 1, 2, 3, 4] rfl ((bj_X10_isBad_74 X hst ad ih) _ _ _ _ _)
        · exact r_sub [0, 1, 2, 3, 4] rfl ((bj_X10_isBad_51 X hst ad ih) _ _ _ _ _)
      · exact r_sub [0, 1, 2, 3, 4] rfl ((bj_X10_isBad_51 X hst ad ih) _ _ _ _ _)
    · exact r_sub [0, 1, 2, 3, 4] rfl ((bj_X10_isBad_74 X hst ad ih) _ _ _ _ _)
theorem nc_X10_isBad (X : Xt) (hst : X.1.stackTraces = false) (ad : Ad) (σ : Wd) (p0 : Int32) : NC X (fun a => a = ad) yX10_isBad cX10_isBad 5 (some (.boolean)) 0 0 vI (0, 0) ad σ [.ref (ad 30 0), .int p0] (f_X10_isBad σ p0) := by
  unfold f_X10_isBad
  refine NC.intro RX10 rfl hst (by decide) (Nat.le_of_ble_eq_true rfl) (lv := [(0, .ref _), (1, .int _)]) rfl ?_
  refine r_iconst (0) (by decide) dX10_isBad_0 ?_
  refine r_istore_n [(2, .int _), (0, .ref _), (1, .int _)] rfl (by decide) dX10_isBad_1 ?_
  refine r_iconst (0) (by decide) dX10_isBad_2 ?_
  refine r_istore_n [(3, .int _), (2, .int _), (0, .ref _), (1, .int _)] rfl (by decide) dX10_isBad_3 ?_
  refine r_bipush (8) (by decide) dX10_isBad_4 ?_
  refine r_iload_n 3 rfl dX10_isBad_6 ?_
  refine r_imul dX10_isBad_7 ?_
  refine r_istore [(4, .int _), (3, .int _), (2, .int _), (0, .ref _), (1, .int _)] rfl (by decide) dX10_isBad_8 ?_
  exact r_sub [0, 1, 2, 3, 4] rfl ((bl_X10_isBad_10 X hst ad FU) _ _ _ _ _)
def j_X10_isWorn_48 (k16 : Wd → Int32 → Int32 → Int32 → Int32 → Option ((Int32 ⊕ String) × Wd)) (σ : Wd) (a4 : Int32) (a3 : Int32) (a2 : Int32) (a1 : Int32) (s0 : Int32) : Option ((Int32 ⊕ String) × Wd) :=
  gd (inb a4 24) <|
  if (σ.1 34 0 a4.toNatClampNeg) ≤ a3 then
    k16 σ (a4 + 1) a3 s0 a1
  else
    bd ((σ.1 34 0 a4.toNatClampNeg)) fun x2 =>
    k16 σ (a4 + 1) x2 s0 a1
def l_X10_isWorn_16 : Nat → Wd → Int32 → Int32 → Int32 → Int32 → Option ((Int32 ⊕ String) × Wd)
  | 0, _, _, _, _, _ => none
  | n + 1, σ, a4, a3, a2, a1 =>
  if (((4 : Int32) * a1) + (4 : Int32)) ≤ a4 then
    if (6 : Int32) < (a3 - a2) then
      some (.inl (1 : Int32), σ)
    else
      if (800 : Int32) ≤ a2 then
        some (.inl (0 : Int32), σ)
      else
        some (.inl (1 : Int32), σ)
  else
    gd (inb a4 24) <|
    if a2 ≤ (σ.1 34 0 a4.toNatClampNeg) then
      j_X10_isWorn_48 (l_X10_isWorn_16 n) σ a4 a3 a2 a1 a2
    else
      j_X10_isWorn_48 (l_X10_isWorn_16 n) σ a4 a3 a2 a1 (σ.1 34 0 a4.toNatClampNeg)
def f_X10_isWorn (σ : Wd) (p0 : Int32) : Option ((Int32 ⊕ String) × Wd) :=
  gd (inb ((4 : Int32) * p0) 24) <|
  bd ((σ.1 34 0 ((4 : Int32) * p0).toNatClampNeg)) fun x1 =>
  l_X10_isWorn_16 FU σ ((4 : Int32) * p0) x1 x1 p0
theorem bj_X10_isWorn_48 (X : Xt) (hst : X.1.stackTraces = false) (ad : Ad) {k16 : Wd → Int32 → Int32 → Int32 → Int32 → Option ((Int32 ⊕ String) × Wd)} (hk16 : ∀ (σ : Wd) (a4 : Int32) (a3 : Int32) (a2 : Int32) (a1 : Int32), Bk X (fun a => a = ad) cX10_isWorn 5 RX10 (some (.boolean)) 0 0 vI (0, 0) (0, 0) ad σ 16 [(4, .int a4), (3, .int a3), (2, .int a2), (0, .ref (ad 30 0)), (1, .int a1)] [] (k16 σ a4 a3 a2 a1)) (σ : Wd) (a4 : Int32) (a3 : Int32) (a2 : Int32) (a1 : Int32) (s0 : Int32) : Bk X (fun a => a = ad) cX10_isWorn 5 RX10 (some (.boolean)) 0 0 vI (0, 0) (0, 0) ad σ 48 [(4, .int a4), (3, .int a3), (2, .int a2), (0, .ref (ad 30 0)), (1, .int a1)] [.int s0] (j_X10_isWorn_48 k16 σ a4 a3 a2 a1 s0) := by
  unfold j_X10_isWorn_48
  refine r_istore_n [(2, .int _), (4, .int _), (3, .int _), (0, .ref _), (1, .int _)] rfl (by decide) dX10_isWorn_48 ?_
  refine r_aload_n 3 rfl dX10_isWorn_49 ?_
  refine r_getf 9 (lvs_30 _) (cell_30 _ _ _ _) rfl (by decide) in_11 w_137 rfl dX10_isWorn_50 ?_
  refine r_iload 1 rfl dX10_isWorn_53 ?_
  refine r_gd (fun h3 => ?_)
  refine r_iaload (lvs_34 _) (cell_34 _ _ _ _) h3 dX10_isWorn_55 ?_
  refine r_iload_n 2 rfl dX10_isWorn_56 ?_
  refine r_icmp_le 70 dX10_isWorn_57 (by decide) ?_ ?_
  · refine r_iload_n 2 rfl dX10_isWorn_70 ?_
    refine r_istore_n [(3, .int _), (2, .int _), (4, .int _), (0, .ref _), (1, .int _)] rfl (by decide) dX10_isWorn_71 ?_
    refine r_iinc (1) [(4, .int _), (3, .int _), (2, .int _), (0, .ref _), (1, .int _)] 2 rfl (by decide) rfl (by decide) dX10_isWorn_72 ?_
    refine r_goto 16 dX10_isWorn_75 (by decide) ?_
    exact r_sub [0, 1, 2, 3, 4] rfl (hk16 _ _ _ _ _)
  · refine r_aload_n 3 rfl dX10_isWorn_60 ?_
    refine r_getf 9 (lvs_30 _) (cell_30 _ _ _ _) rfl (by decide) in_11 w_137 rfl dX10_isWorn_61 ?_
    refine r_iload 1 rfl dX10_isWorn_64 ?_
    refine r_iaload (lvs_34 _) (cell_34 _ _ _ _) h3 dX10_isWorn_66 ?_
    refine r_goto 71 dX10_isWorn_67 (by decide) ?_
    refine r_bd ?_
    refine r_istore_n [(3, .int _), (2, .int _), (4, .int _), (0, .ref _), (1, .int _)] rfl (by decide) dX10_isWorn_71 ?_
    refine r_iinc (1) [(4, .int _), (3, .int _), (2, .int _), (0, .ref _), (1, .int _)] 2 rfl (by decide) rfl (by decide) dX10_isWorn_72 ?_
    refine r_goto 16 dX10_isWorn_75 (by decide) ?_
    exact r_sub [0, 1, 2, 3, 4] rfl (hk16 _ _ _ _ _)
theorem bl_X10_isWorn_16 (X : Xt) (hst : X.1.stackTraces = false) (ad : Ad) : ∀ (n : Nat) (σ : Wd) (a4 : Int32) (a3 : Int32) (a2 : Int32) (a1 : Int32), Bk X (fun a => a = ad) cX10_isWorn 5 RX10 (some (.boolean)) 0 0 vI (0, 0) (0, 0) ad σ 16 [(4, .int a4), (3, .int a3), (2, .int a2), (0, .ref (ad 30 0)), (1, .int a1)] [] (l_X10_isWorn_16 n σ a4 a3 a2 a1) := by
  intro n
  induction n with
  | zero => intros; exact r_none
  | succ n ih =>
  intro σ a4 a3 a2 a1
  rw [l_X10_isWorn_16]
  refine r_iload 0 rfl dX10_isWorn_16 ?_
  refine r_iconst (4) (by decide) dX10_isWorn_18 ?_
  refine r_iload_n 4 rfl dX10_isWorn_19 ?_
  refine r_imul dX10_isWorn_20 ?_
  refine r_iconst (4) (by decide) dX10_isWorn_21 ?_
  refine r_iadd dX10_isWorn_22 ?_
  refine r_icmp_ge 78 dX10_isWorn_23 (by decide) ?_ ?_
  · refine r_iload_n 1 rfl dX10_isWorn_78 ?_
    refine r_iload_n 2 rfl dX10_isWorn_79 ?_
    refine r_isub dX10_isWorn_80 ?_
    refine r_bipush (6) (by decide) dX10_isWorn_81 ?_
    refine r_icmp_gt 93 dX10_isWorn_83 (by decide) ?_ ?_
    · refine r_iconst (1) (by decide) dX10_isWorn_93 ?_
      refine r_goto 98 dX10_isWorn_94 (by decide) ?_
      exact r_zret rfl rfl rfl rfl dX10_isWorn_98
    · refine r_iload_n 2 rfl dX10_isWorn_86 ?_
      refine r_sipush (800) (by decide) dX10_isWorn_87 ?_
      refine r_icmp_ge 97 dX10_isWorn_90 (by decide) ?_ ?_
      · refine r_iconst (0) (by decide) dX10_isWorn_97 ?_
        exact r_zret rfl rfl rfl rfl dX10_isWorn_98
      · refine r_iconst (1) (by decide) dX10_isWorn_93 ?_
        refine r_goto 98 dX10_isWorn_94 (by decide) ?_
        exact r_zret rfl rfl rfl rfl dX10_isWorn_98
  · refine r_aload_n 3 rfl dX10_isWorn_26 ?_
    refine r_getf 9 (lvs_30 _) (cell_30 _ _ _ _) rfl (by decide) in_11 w_137 rfl dX10_isWorn_27 ?_
    refine r_iload 0 rfl dX10_isWorn_30 ?_
    refine r_gd (fun h2 => ?_)
    refine r_iaload (lvs_34 _) (cell_34 _ _ _ _) h2 dX10_isWorn_32 ?_
    refine r_iload_n 2 rfl dX10_isWorn_33 ?_
    refine r_icmp_ge 47 dX10_isWorn_34 (by decide) ?_ ?_
    · refine r_iload_n 2 rfl dX10_isWorn_47 ?_
      exact r_sub [0, 1, 2, 3, 4] rfl ((bj_X10_isWorn_48 X hst ad ih) _ _ _ _ _ _)
    · refine r_aload_n 3 rfl dX10_isWorn_37 ?_
      refine r_getf 9 (lvs_30 _) (cell_30 _ _ _ _) rfl (by decide) in_11 w_137 rfl dX10_isWorn_38 ?_
      refine r_iload 0 rfl dX10_isWorn_41 ?_
      refine r_iaload (lvs_34 _) (cell_34 _ _ _ _) h2 dX10_isWorn_43 ?_
      refine r_goto 48 dX10_isWorn_44 (by decide) ?_
      exact r_sub [0, 1, 2, 3, 4] rfl ((bj_X10_isWorn_48 X hst ad ih) _ _ _ _ _ _)
theorem nc_X10_isWorn (X : Xt) (hst : X.1.stackTraces = false) (ad : Ad) (σ : Wd) (p0 : Int32) : NC X (fun a => a = ad) yX10_isWorn cX10_isWorn 5 (some (.boolean)) 0 0 vI (0, 0) ad σ [.ref (ad 30 0), .int p0] (f_X10_isWorn σ p0) := by
  unfold f_X10_isWorn
  refine NC.intro RX10 rfl hst (by decide) (Nat.le_of_ble_eq_true rfl) (lv := [(0, .ref _), (1, .int _)]) rfl ?_
  refine r_aload_n 0 rfl dX10_isWorn_0 ?_
  refine r_getf 9 (lvs_30 _) (cell_30 _ _ _ _) rfl (by decide) in_11 w_137 rfl dX10_isWorn_1 ?_
  refine r_iconst (4) (by decide) dX10_isWorn_4 ?_
  refine r_iload_n 1 rfl dX10_isWorn_5 ?_
  refine r_imul dX10_isWorn_6 ?_
  refine r_gd (fun h1 => ?_)
  refine r_iaload (lvs_34 _) (cell_34 _ _ _ _) h1 dX10_isWorn_7 ?_
  refine r_bd ?_
  refine r_istore_n [(2, .int _), (0, .ref _), (1, .int _)] rfl (by decide) dX10_isWorn_8 ?_
  refine r_iload_n 0 rfl dX10_isWorn_9 ?_
  refine r_istore_n [(3, .int _), (2, .int _), (0, .ref _), (1, .int _)] rfl (by decide) dX10_isWorn_10 ?_
  refine r_iconst (4) (by decide) dX10_isWorn_11 ?_
  refine r_iload_n 3 rfl dX10_isWorn_12 ?_
  refine r_imul dX10_isWorn_13 ?_
  refine r_istore [(4, .int _), (3, .int _), (2, .int _), (0, .ref _), (1, .int _)] rfl (by decide) dX10_isWorn_14 ?_
  exact r_sub [0, 1, 2, 3, 4] rfl ((bl_X10_isWorn_16 X hst ad FU) _ _ _ _ _)
def f_X10_reason (σ : Wd) (p0 : Int32) (p1 : Int32) : Option ((Int32 ⊕ String) × Wd) :=
  gd (inb p0 6) <|
  gd (inb p1 6) <|
  if (σ.1 31 0 p0.toNatClampNeg) = (σ.1 44 0 p1.toNatClampNeg) then
    bx (f_X10_isExamDue σ p0 (σ.1 46 0 p1.toNatClampNeg)) fun v1 σ2 =>
    if v1 = 0 then
      bx (f_X10_isBarredByList σ2 p0 (σ2.1 47 0 p1.toNatClampNeg)) fun v3 σ4 =>
      if v3 = 0 then
        bx (f_X10_isBad σ4 p0) fun v5 σ6 =>
        if v5 = 0 then
          bx (f_X10_isWorn σ6 p0) fun v7 σ8 =>
          if v7 = 0 then
            some (.inl (0 : Int32), σ8)
          else
            some (.inl (5 : Int32), σ8)
        else
          some (.inl (4 : Int32), σ6)
      else
        some (.inl (3 : Int32), σ4)
    else
      some (.inl (2 : Int32), σ2)
  else
    some (.inl (1 : Int32), σ)
theorem nc_X10_reason (X : Xt) (hst : X.1.stackTraces = false) (ad : Ad) (σ : Wd) (p0 : Int32) (p1 : Int32) : NC X (fun a => a = ad) yX10_reason cX10_reason 3 (some (.int)) 2 45 vI (0, 0) ad σ [.ref (ad 30 0), .int p0, .int p1] (f_X10_reason σ p0 p1) := by
  unfold f_X10_reason
  refine NC.intro RX10 rfl hst (by decide) (Nat.le_of_ble_eq_true rfl) (lv := [(0, .ref _), (1, .int _), (2, .int _)]) rfl ?_
  refine r_aload_n 0 rfl dX10_reason_0 ?_
  refine r_getf 6 (lvs_30 _) (cell_30 _ _ _ _) rfl (by decide) in_11 w_130 rfl dX10_reason_1 ?_
  refine r_iload_n 1 rfl dX10_reason_4 ?_
  refine r_gd (fun h1 => ?_)
  refine r_iaload (lvs_31 _) (cell_31 _ _ _ _) h1 dX10_reason_5 ?_
  refine r_aload_n 0 rfl dX10_reason_6 ?_
  refine r_getf 20 (lvs_30 _) (cell_30 _ _ _ _) rfl (by decide) in_11 w_139 rfl dX10_reason_7 ?_
  refine r_iload_n 2 rfl dX10_reason_10 ?_
  refine r_gd (fun h2 => ?_)
  refine r_iaload (lvs_44 _) (cell_44 _ _ _ _) h2 dX10_reason_11 ?_
  refine r_icmp_eq 17 dX10_reason_12 (by decide) ?_ ?_
  · refine r_aload_n 0 rfl dX10_reason_17 ?_
    refine r_iload_n 1 rfl dX10_reason_18 ?_
    refine r_aload_n 0 rfl dX10_reason_19 ?_
    refine r_getf 22 (lvs_30 _) (cell_30 _ _ _ _) rfl (by decide) in_11 w_142 rfl dX10_reason_20 ?_
    refine r_iload_n 2 rfl dX10_reason_23 ?_
    refine r_iaload (lvs_46 _) (cell_46 _ _ _ _) h2 dX10_reason_24 ?_
    refine r_callV (n := 2) (As := [.int _, .int _]) (cell_30 _ _ _ _) (lvs_30 _) rfl (nc_X10_isExamDue X hst ad _ _ _) (fun _ h => h) rfl ⟨rfl, by decide, by decide, by decide +kernel⟩ w_176 w_177 w_178 w_121 w_179 rfl rfl (Nat.le_of_ble_eq_true rfl) ⟨by decide, by decide⟩ dX10_reason_25 (fun v1 σ2 => ?_)
    refine r_if_eq 35 dX10_reason_28 (by decide) ?_ ?_
    · refine r_aload_n 0 rfl dX10_reason_35 ?_
      refine r_iload_n 1 rfl dX10_reason_36 ?_
      refine r_aload_n 0 rfl dX10_reason_37 ?_
      refine r_getf 23 (lvs_30 _) (cell_30 _ _ _ _) rfl (by decide) in_11 w_143 rfl dX10_reason_38 ?_
      refine r_iload_n 2 rfl dX10_reason_41 ?_
      refine r_iaload (lvs_47 _) (cell_47 _ _ _ _) h2 dX10_reason_42 ?_
      refine r_callV (n := 2) (As := [.int _, .int _]) (cell_30 _ _ _ _) (lvs_30 _) rfl (nc_X10_isBarredByList X hst ad _ _ _) (fun _ h => h) rfl ⟨rfl, by decide, by decide, by decide +kernel⟩ w_180 w_181 w_182 w_121 w_183 rfl rfl (Nat.le_of_ble_eq_true rfl) ⟨by decide, by decide⟩ dX10_reason_43 (fun v3 σ4 => ?_)
      refine r_if_eq 53 dX10_reason_46 (by decide) ?_ ?_
      · refine r_aload_n 0 rfl dX10_reason_53 ?_
        refine r_iload_n 1 rfl dX10_reason_54 ?_
        refine r_callV (n := 1) (As := [.int _]) (cell_30 _ _ _ _) (lvs_30 _) rfl (nc_X10_isBad X hst ad _ _) (fun _ h => h) rfl ⟨rfl, by decide, by decide, by decide +kernel⟩ w_184 w_185 w_186 w_121 w_187 rfl rfl (Nat.le_of_ble_eq_true rfl) ⟨by decide, by decide⟩ dX10_reason_55 (fun v5 σ6 => ?_)
        refine r_if_eq 65 dX10_reason_58 (by decide) ?_ ?_
        · refine r_aload_n 0 rfl dX10_reason_65 ?_
          refine r_iload_n 1 rfl dX10_reason_66 ?_
          refine r_callV (n := 1) (As := [.int _]) (cell_30 _ _ _ _) (lvs_30 _) rfl (nc_X10_isWorn X hst ad _ _) (fun _ h => h) rfl ⟨rfl, by decide, by decide, by decide +kernel⟩ w_188 w_189 w_190 w_121 w_191 rfl rfl (Nat.le_of_ble_eq_true rfl) ⟨by decide, by decide⟩ dX10_reason_67 (fun v7 σ8 => ?_)
          refine r_if_eq 77 dX10_reason_70 (by decide) ?_ ?_
          · refine r_iconst (0) (by decide) dX10_reason_77 ?_
            exact r_iret rfl rfl rfl dX10_reason_78
          · refine r_iconst (5) (by decide) dX10_reason_73 ?_
            refine r_goto 78 dX10_reason_74 (by decide) ?_
            exact r_iret rfl rfl rfl dX10_reason_78
        · refine r_iconst (4) (by decide) dX10_reason_61 ?_
          refine r_goto 78 dX10_reason_62 (by decide) ?_
          exact r_iret rfl rfl rfl dX10_reason_78
      · refine r_iconst (3) (by decide) dX10_reason_49 ?_
        refine r_goto 78 dX10_reason_50 (by decide) ?_
        exact r_iret rfl rfl rfl dX10_reason_78
    · refine r_iconst (2) (by decide) dX10_reason_31 ?_
      refine r_goto 78 dX10_reason_32 (by decide) ?_
      exact r_iret rfl rfl rfl dX10_reason_78
  · refine r_iconst (1) (by decide) dX10_reason_15 ?_
    exact r_iret rfl rfl rfl dX10_reason_16
def j_X10_whyNot_22 (σ : Wd) (a1 : Int32) (a2 : Int32) (s0 : Int32) : Option ((Int32 ⊕ String) × Wd) :=
  bd (wr σ 30 0 0 s0) fun σ3 =>
  if (σ3.1 30 0 0) ≤ 0 then
    bx (f_X10_reason σ3 a1 a2) fun v4 σ5 =>
    some (.inl v4, σ5)
  else
    some (.inl (0 : Int32), σ3)
def j_X10_whyNot_17 (σ : Wd) (a1 : Int32) (a2 : Int32) : Option ((Int32 ⊕ String) × Wd) :=
  j_X10_whyNot_22 σ a1 a2 (1 : Int32)
def f_X10_whyNot (σ : Wd) (p0 : Int32) (p1 : Int32) : Option ((Int32 ⊕ String) × Wd) :=
  bx (f_X10_isUnit σ p0) fun v1 σ2 =>
  if v1 = 0 then
    j_X10_whyNot_17 σ2 p0 p1
  else
    bx (f_X10_isDiagram σ2 p1) fun v6 σ7 =>
    if v6 = 0 then
      j_X10_whyNot_17 σ7 p0 p1
    else
      j_X10_whyNot_22 σ7 p0 p1 (0 : Int32)
theorem bj_X10_whyNot_22 (X : Xt) (hst : X.1.stackTraces = false) (ad : Ad) (σ : Wd) (a1 : Int32) (a2 : Int32) (s0 : Int32) : Bk X (fun a => a = ad) cX10_whyNot 3 RX10 (some (.int)) 3 67 vI (0, 0) (0, 0) ad σ 22 [(0, .ref (ad 30 0)), (1, .int a1), (2, .int a2)] [.int s0, .ref (ad 30 0)] (j_X10_whyNot_22 σ a1 a2 s0) := by
  unfold j_X10_whyNot_22
  refine r_bd ?_
  refine r_putf 0 tyX10 tyX10_ok nmX10 (lvs_30 _) (cell_30 _ _ _ _) (wrc_30_0 _ _ _ _ _) rfl (by decide) (Nat.le_of_ble_eq_true rfl) in_11 w_117 rfl rfl rfl dX10_whyNot_22 ?_
  refine r_aload_n 0 rfl dX10_whyNot_25 ?_
  refine r_getf 0 (lvs_30 _) (cell_30 _ _ _ _) rfl (by decide) in_11 w_117 rfl dX10_whyNot_26 ?_
  refine r_if_le 36 dX10_whyNot_29 (by decide) ?_ ?_
  · refine r_aload_n 0 rfl dX10_whyNot_36 ?_
    refine r_iload_n 1 rfl dX10_whyNot_37 ?_
    refine r_iload_n 2 rfl dX10_whyNot_38 ?_
    refine r_callV (n := 2) (As := [.int _, .int _]) (cell_30 _ _ _ _) (lvs_30 _) rfl (nc_X10_reason X hst ad _ _ _) (fun _ h => h) rfl ⟨rfl, by decide, by decide, by decide +kernel⟩ w_192 w_193 w_194 w_121 w_195 rfl rfl (Nat.le_of_ble_eq_true rfl) ⟨by decide, by decide⟩ dX10_whyNot_39 (fun v4 σ5 => ?_)
    exact r_iret rfl rfl rfl dX10_whyNot_42
  · refine r_iconst (0) (by decide) dX10_whyNot_32 ?_
    refine r_goto 42 dX10_whyNot_33 (by decide) ?_
    exact r_iret rfl rfl rfl dX10_whyNot_42
theorem bj_X10_whyNot_17 (X : Xt) (hst : X.1.stackTraces = false) (ad : Ad) (σ : Wd) (a1 : Int32) (a2 : Int32) : Bk X (fun a => a = ad) cX10_whyNot 3 RX10 (some (.int)) 3 67 vI (0, 0) (0, 0) ad σ 17 [(0, .ref (ad 30 0)), (1, .int a1), (2, .int a2)] [.ref (ad 30 0)] (j_X10_whyNot_17 σ a1 a2) := by
  unfold j_X10_whyNot_17
  refine r_iconst (1) (by decide) dX10_whyNot_17 ?_
  refine r_goto 22 dX10_whyNot_18 (by decide) ?_
  exact r_sub [0, 1, 2] rfl ((bj_X10_whyNot_22 X hst ad) _ _ _ _)
theorem nc_X10_whyNot (X : Xt) (hst : X.1.stackTraces = false) (ad : Ad) (σ : Wd) (p0 : Int32) (p1 : Int32) : NC X (fun a => a = ad) yX10_whyNot cX10_whyNot 3 (some (.int)) 3 67 vI (0, 0) ad σ [.ref (ad 30 0), .int p0, .int p1] (f_X10_whyNot σ p0 p1) := by
  unfold f_X10_whyNot
  refine NC.intro RX10 rfl hst (by decide) (Nat.le_of_ble_eq_true rfl) (lv := [(0, .ref _), (1, .int _), (2, .int _)]) rfl ?_
  refine r_aload_n 0 rfl dX10_whyNot_0 ?_
  refine r_aload_n 0 rfl dX10_whyNot_1 ?_
  refine r_iload_n 1 rfl dX10_whyNot_2 ?_
  refine r_callV (n := 1) (As := [.int _]) (cell_30 _ _ _ _) (lvs_30 _) rfl (nc_X10_isUnit X hst ad _ _) (fun _ h => h) rfl ⟨rfl, by decide, by decide, by decide +kernel⟩ w_160 w_161 w_162 w_121 w_163 rfl rfl (Nat.le_of_ble_eq_true rfl) ⟨by decide, by decide⟩ dX10_whyNot_3 (fun v1 σ2 => ?_)
  refine r_if_eq 17 dX10_whyNot_6 (by decide) ?_ ?_
  · exact r_sub [0, 1, 2] rfl ((bj_X10_whyNot_17 X hst ad) _ _ _)
  · refine r_aload_n 0 rfl dX10_whyNot_9 ?_
    refine r_iload_n 2 rfl dX10_whyNot_10 ?_
    refine r_callV (n := 1) (As := [.int _]) (cell_30 _ _ _ _) (lvs_30 _) rfl (nc_X10_isDiagram X hst ad _ _) (fun _ h => h) rfl ⟨rfl, by decide, by decide, by decide +kernel⟩ w_170 w_171 w_172 w_121 w_173 rfl rfl (Nat.le_of_ble_eq_true rfl) ⟨by decide, by decide⟩ dX10_whyNot_11 (fun v6 σ7 => ?_)
    refine r_if_ne 21 dX10_whyNot_14 (by decide) ?_ ?_
    · exact r_sub [0, 1, 2] rfl ((bj_X10_whyNot_17 X hst ad) _ _ _)
    · refine r_iconst (0) (by decide) dX10_whyNot_21 ?_
      exact r_sub [0, 1, 2] rfl ((bj_X10_whyNot_22 X hst ad) _ _ _ _)
def l_X10_looks_134 : Nat → Wd → Int32 → Int32 → Int32 → Option ((Unit ⊕ String) × Wd)
  | 0, _, _, _, _ => none
  | n + 1, σ, a3, a2, a1 =>
  if (σ.1 30 0 19) ≤ a3 then
    some (.inl (), σ)
  else
    gd (inb a3 6) <|
    if (σ.1 57 0 a3.toNatClampNeg) = (σ.1 30 0 5) then
      bd (wr σ 56 0 a3.toNatClampNeg (-1 : Int32)) fun σ3 =>
      (l_X10_looks_134 n) σ3 (a3 + 1) a2 a1
    else
      bd (wr σ 56 0 a3.toNatClampNeg (σ.1 57 0 a3.toNatClampNeg)) fun σ4 =>
      (l_X10_looks_134 n) σ4 (a3 + 1) a2 a1
def j_X10_looks_122 (σ : Wd) (a3 : Int32) (a2 : Int32) (a1 : Int32) : Option ((Unit ⊕ String) × Wd) :=
  bd (wr σ 30 0 37 a1) fun σ1 =>
  bd (wr σ1 30 0 38 a2) fun σ2 =>
  l_X10_looks_134 FU σ2 (0 : Int32) a2 a1
def j_X10_looks_38 (k6 : Wd → Int32 → Int32 → Int32 → Option ((Unit ⊕ String) × Wd)) (σ : Wd) (a3 : Int32) (a2 : Int32) (a1 : Int32) (s0 : Int32) (s1 : Int32) : Option ((Unit ⊕ String) × Wd) :=
  gd (inb a3 6) <|
  if (σ.1 30 0 5) ≤ (σ.1 57 0 a3.toNatClampNeg) then
    k6 σ (a3 + 1) (a2 + (0 : Int32)) (s1 + s0)
  else
    if (σ.1 45 0 a3.toNatClampNeg) = 0 then
      gd (inb (σ.1 57 0 a3.toNatClampNeg) 6) <|
      if (σ.1 60 0 (σ.1 57 0 a3.toNatClampNeg).toNatClampNeg) = 0 then
        k6 σ (a3 + 1) (a2 + (0 : Int32)) (s1 + s0)
      else
        k6 σ (a3 + 1) (a2 + (1 : Int32)) (s1 + s0)
    else
      k6 σ (a3 + 1) (a2 + (0 : Int32)) (s1 + s0)
def l_X10_looks_6 : Nat → Wd → Int32 → Int32 → Int32 → Option ((Unit ⊕ String) × Wd)
  | 0, _, _, _, _ => none
  | n + 1, σ, a3, a2, a1 =>
  if (σ.1 30 0 19) ≤ a3 then
    if (σ.1 30 0 37) = (-1 : Int32) then
      j_X10_looks_122 σ a3 a2 a1
    else
      if a1 < (σ.1 30 0 37) then
        j_X10_looks_122 σ a3 a2 a1
      else
        if a1 = (σ.1 30 0 37) then
          if a2 ≤ (σ.1 30 0 38) then
            some (.inl (), σ)
          else
            j_X10_looks_122 σ a3 a2 a1
        else
          some (.inl (), σ)
  else
    gd (inb a3 6) <|
    if (σ.1 57 0 a3.toNatClampNeg) = (σ.1 30 0 5) then
      j_X10_looks_38 (l_X10_looks_6 n) σ a3 a2 a1 (σ.1 48 0 a3.toNatClampNeg) a1
    else
      j_X10_looks_38 (l_X10_looks_6 n) σ a3 a2 a1 (0 : Int32) a1
def f_X10_looks (σ : Wd) : Option ((Unit ⊕ String) × Wd) :=
  l_X10_looks_6 FU σ (0 : Int32) (0 : Int32) (0 : Int32)
theorem bl_X10_looks_134 (X : Xt) (hst : X.1.stackTraces = false) (ad : Ad) : ∀ (n : Nat) (σ : Wd) (a3 : Int32) (a2 : Int32) (a1 : Int32), Bk X (fun a => a = ad) cX10_looks 4 RX10 none 0 0 vV (0, 0) (0, 0) ad σ 134 [(3, .int a3), (2, .int a2), (1, .int a1), (0, .ref (ad 30 0))] [] (l_X10_looks_134 n σ a3 a2 a1) := by
  intro n
  induction n with
  | zero => intros; exact r_none
  | succ n ih =>
  intro σ a3 a2 a1
  rw [l_X10_looks_134]
  refine r_iload_n 0 rfl dX10_looks_134 ?_
  refine r_aload_n 3 rfl dX10_looks_135 ?_
  refine r_getf 19 (lvs_30 _) (cell_30 _ _ _ _) rfl (by decide) in_11 w_140 rfl dX10_looks_136 ?_
  refine r_icmp_ge 177 dX10_looks_139 (by decide) ?_ ?_
  · exact r_vret rfl rfl rfl dX10_looks_177
  · refine r_aload_n 3 rfl dX10_looks_142 ?_
    refine r_getf 32 (lvs_30 _) (cell_30 _ _ _ _) rfl (by decide) in_11 w_199 rfl dX10_looks_143 ?_
    refine r_iload_n 0 rfl dX10_looks_146 ?_
    refine r_aload_n 3 rfl dX10_looks_147 ?_
    refine r_getf 33 (lvs_30 _) (cell_30 _ _ _ _) rfl (by decide) in_11 w_198 rfl dX10_looks_148 ?_
    refine r_iload_n 0 rfl dX10_looks_151 ?_
    refine r_gd (fun h1 => ?_)
    refine r_iaload (lvs_57 _) (cell_57 _ _ _ _) h1 dX10_looks_152 ?_
    refine r_aload_n 3 rfl dX10_looks_153 ?_
    refine r_getf 5 (lvs_30 _) (cell_30 _ _ _ _) rfl (by decide) in_11 w_128 rfl dX10_looks_154 ?_
    refine r_icmp_ne 164 dX10_looks_157 (by decide) ?_ ?_
    · refine r_iconst (-1) (by decide) dX10_looks_160 ?_
      refine r_goto 170 dX10_looks_161 (by decide) ?_
      refine r_bd ?_
      refine r_iastore (lvs_56 _) (ia_56 _ _ _) h1 dX10_looks_170 ?_
      refine r_iinc (1) [(3, .int _), (2, .int _), (1, .int _), (0, .ref _)] 0 rfl (by decide) rfl (by decide) dX10_looks_171 ?_
      refine r_goto 134 dX10_looks_174 (by decide) ?_
      exact r_sub [0, 1, 2, 3] rfl (ih _ _ _ _)
    · refine r_aload_n 3 rfl dX10_looks_164 ?_
      refine r_getf 33 (lvs_30 _) (cell_30 _ _ _ _) rfl (by decide) in_11 w_198 rfl dX10_looks_165 ?_
      refine r_iload_n 0 rfl dX10_looks_168 ?_
      refine r_iaload (lvs_57 _) (cell_57 _ _ _ _) h1 dX10_looks_169 ?_
      refine r_bd ?_
      refine r_iastore (lvs_56 _) (ia_56 _ _ _) h1 dX10_looks_170 ?_
      refine r_iinc (1) [(3, .int _), (2, .int _), (1, .int _), (0, .ref _)] 0 rfl (by decide) rfl (by decide) dX10_looks_171 ?_
      refine r_goto 134 dX10_looks_174 (by decide) ?_
      exact r_sub [0, 1, 2, 3] rfl (ih _ _ _ _)
theorem bj_X10_looks_122 (X : Xt) (hst : X.1.stackTraces = false) (ad : Ad) (σ : Wd) (a3 : Int32) (a2 : Int32) (a1 : Int32) : Bk X (fun a => a = ad) cX10_looks 4 RX10 none 0 0 vV (0, 0) (0, 0) ad σ 122 [(3, .int a3), (2, .int a2), (1, .int a1), (0, .ref (ad 30 0))] [] (j_X10_looks_122 σ a3 a2 a1) := by
  unfold j_X10_looks_122
  refine r_aload_n 3 rfl dX10_looks_122 ?_
  refine r_iload_n 2 rfl dX10_looks_123 ?_
  refine r_bd ?_
  refine r_putf 37 tyX10 tyX10_ok nmX10 (lvs_30 _) (cell_30 _ _ _ _) (wrc_30_37 _ _ _ _ _) rfl (by decide) (Nat.le_of_ble_eq_true rfl) in_11 w_196 rfl rfl rfl dX10_looks_124 ?_
  refine r_aload_n 3 rfl dX10_looks_127 ?_
  refine r_iload_n 1 rfl dX10_looks_128 ?_
  refine r_bd ?_
  refine r_putf 38 tyX10 tyX10_ok nmX10 (lvs_30 _) (cell_30 _ _ _ _) (wrc_30_38 _ _ _ _ _) rfl (by decide) (Nat.le_of_ble_eq_true rfl) in_11 w_197 rfl rfl rfl dX10_looks_129 ?_
  refine r_iconst (0) (by decide) dX10_looks_132 ?_
  refine r_istore_n [(3, .int _), (2, .int _), (1, .int _), (0, .ref _)] rfl (by decide) dX10_looks_133 ?_
  exact r_sub [0, 1, 2, 3] rfl ((bl_X10_looks_134 X hst ad FU) _ _ _ _)
theorem bj_X10_looks_38 (X : Xt) (hst : X.1.stackTraces = false) (ad : Ad) {k6 : Wd → Int32 → Int32 → Int32 → Option ((Unit ⊕ String) × Wd)} (hk6 : ∀ (σ : Wd) (a3 : Int32) (a2 : Int32) (a1 : Int32), Bk X (fun a => a = ad) cX10_looks 4 RX10 none 0 0 vV (0, 0) (0, 0) ad σ 6 [(3, .int a3), (2, .int a2), (1, .int a1), (0, .ref (ad 30 0))] [] (k6 σ a3 a2 a1)) (σ : Wd) (a3 : Int32) (a2 : Int32) (a1 : Int32) (s0 : Int32) (s1 : Int32) : Bk X (fun a => a = ad) cX10_looks 4 RX10 none 0 0 vV (0, 0) (0, 0) ad σ 38 [(3, .int a3), (2, .int a2), (1, .int a1), (0, .ref (ad 30 0))] [.int s0, .int s1] (j_X10_looks_38 k6 σ a3 a2 a1 s0 s1) := by
  unfold j_X10_looks_38
  refine r_iadd dX10_looks_38 ?_
  refine r_istore_n [(1, .int _), (3, .int _), (2, .int _), (0, .ref _)] rfl (by decide) dX10_looks_39 ?_
  refine r_iload_n 2 rfl dX10_looks_40 ?_
  refine r_aload_n 3 rfl dX10_looks_41 ?_
  refine r_getf 33 (lvs_30 _) (cell_30 _ _ _ _) rfl (by decide) in_11 w_198 rfl dX10_looks_42 ?_
  refine r_iload_n 1 rfl dX10_looks_45 ?_
  refine r_gd (fun h3 => ?_)
  refine r_iaload (lvs_57 _) (cell_57 _ _ _ _) h3 dX10_looks_46 ?_
  refine r_aload_n 3 rfl dX10_looks_47 ?_
  refine r_getf 5 (lvs_30 _) (cell_30 _ _ _ _) rfl (by decide) in_11 w_128 rfl dX10_looks_48 ?_
  refine r_icmp_ge 81 dX10_looks_51 (by decide) ?_ ?_
  · refine r_iconst (0) (by decide) dX10_looks_81 ?_
    refine r_iadd dX10_looks_82 ?_
    refine r_istore_n [(2, .int _), (1, .int _), (3, .int _), (0, .ref _)] rfl (by decide) dX10_looks_83 ?_
    refine r_iinc (1) [(3, .int _), (2, .int _), (1, .int _), (0, .ref _)] 2 rfl (by decide) rfl (by decide) dX10_looks_84 ?_
    refine r_goto 6 dX10_looks_87 (by decide) ?_
    exact r_sub [0, 1, 2, 3] rfl (hk6 _ _ _ _)
  · refine r_aload_n 3 rfl dX10_looks_54 ?_
    refine r_getf 21 (lvs_30 _) (cell_30 _ _ _ _) rfl (by decide) in_11 w_141 rfl dX10_looks_55 ?_
    refine r_iload_n 1 rfl dX10_looks_58 ?_
    refine r_iaload (lvs_45 _) (cell_45 _ _ _ _) h3 dX10_looks_59 ?_
    refine r_if_ne 81 dX10_looks_60 (by decide) ?_ ?_
    · refine r_aload_n 3 rfl dX10_looks_63 ?_
      refine r_getf 36 (lvs_30 _) (cell_30 _ _ _ _) rfl (by decide) in_11 w_200 rfl dX10_looks_64 ?_
      refine r_aload_n 3 rfl dX10_looks_67 ?_
      refine r_getf 33 (lvs_30 _) (cell_30 _ _ _ _) rfl (by decide) in_11 w_198 rfl dX10_looks_68 ?_
      refine r_iload_n 1 rfl dX10_looks_71 ?_
      refine r_iaload (lvs_57 _) (cell_57 _ _ _ _) h3 dX10_looks_72 ?_
      refine r_gd (fun h4 => ?_)
      refine r_zaload (lvs_60 _) (cell_60 _ _ _ _) h4 dX10_looks_73 ?_
      refine r_if_eq 81 dX10_looks_74 (by decide) ?_ ?_
      · refine r_iconst (0) (by decide) dX10_looks_81 ?_
        refine r_iadd dX10_looks_82 ?_
        refine r_istore_n [(2, .int _), (1, .int _), (3, .int _), (0, .ref _)] rfl (by decide) dX10_looks_83 ?_
        refine r_iinc (1) [(3, .int _), (2, .int _), (1, .int _), (0, .ref _)] 2 rfl (by decide) rfl (by decide) dX10_looks_84 ?_
        refine r_goto 6 dX10_looks_87 (by decide) ?_
        exact r_sub [0, 1, 2, 3] rfl (hk6 _ _ _ _)
      · refine r_iconst (1) (by decide) dX10_looks_77 ?_
        refine r_goto 82 dX10_looks_78 (by decide) ?_
        refine r_iadd dX10_looks_82 ?_
        refine r_istore_n [(2, .int _), (1, .int _), (3, .int _), (0, .ref _)] rfl (by decide) dX10_looks_83 ?_
        refine r_iinc (1) [(3, .int _), (2, .int _), (1, .int _), (0, .ref _)] 2 rfl (by decide) rfl (by decide) dX10_looks_84 ?_
        refine r_goto 6 dX10_looks_87 (by decide) ?_
        exact r_sub [0, 1, 2, 3] rfl (hk6 _ _ _ _)
    · refine r_iconst (0) (by decide) dX10_looks_81 ?_
      refine r_iadd dX10_looks_82 ?_
      refine r_istore_n [(2, .int _), (1, .int _), (3, .int _), (0, .ref _)] rfl (by decide) dX10_looks_83 ?_
      refine r_iinc (1) [(3, .int _), (2, .int _), (1, .int _), (0, .ref _)] 2 rfl (by decide) rfl (by decide) dX10_looks_84 ?_
      refine r_goto 6 dX10_looks_87 (by decide) ?_
      exact r_sub [0, 1, 2, 3] rfl (hk6 _ _ _ _)
theorem bl_X10_looks_6 (X : Xt) (hst : X.1.stackTraces = false) (ad : Ad) : ∀ (n : Nat) (σ : Wd) (a3 : Int32) (a2 : Int32) (a1 : Int32), Bk X (fun a => a = ad) cX10_looks 4 RX10 none 0 0 vV (0, 0) (0, 0) ad σ 6 [(3, .int a3), (2, .int a2), (1, .int a1), (0, .ref (ad 30 0))] [] (l_X10_looks_6 n σ a3 a2 a1) := by
  intro n
  induction n with
  | zero => intros; exact r_none
  | succ n ih =>
  intro σ a3 a2 a1
  rw [l_X10_looks_6]
  refine r_iload_n 0 rfl dX10_looks_6 ?_
  refine r_aload_n 3 rfl dX10_looks_7 ?_
  refine r_getf 19 (lvs_30 _) (cell_30 _ _ _ _) rfl (by decide) in_11 w_140 rfl dX10_looks_8 ?_
  refine r_icmp_ge 90 dX10_looks_11 (by decide) ?_ ?_
  · refine r_aload_n 3 rfl dX10_looks_90 ?_
    refine r_getf 37 (lvs_30 _) (cell_30 _ _ _ _) rfl (by decide) in_11 w_196 rfl dX10_looks_91 ?_
    refine r_iconst (-1) (by decide) dX10_looks_94 ?_
    refine r_icmp_eq 122 dX10_looks_95 (by decide) ?_ ?_
    · exact r_sub [0, 1, 2, 3] rfl ((bj_X10_looks_122 X hst ad) _ _ _ _)
    · refine r_iload_n 2 rfl dX10_looks_98 ?_
      refine r_aload_n 3 rfl dX10_looks_99 ?_
      refine r_getf 37 (lvs_30 _) (cell_30 _ _ _ _) rfl (by decide) in_11 w_196 rfl dX10_looks_100 ?_
      refine r_icmp_lt 122 dX10_looks_103 (by decide) ?_ ?_
      · exact r_sub [0, 1, 2, 3] rfl ((bj_X10_looks_122 X hst ad) _ _ _ _)
      · refine r_iload_n 2 rfl dX10_looks_106 ?_
        refine r_aload_n 3 rfl dX10_looks_107 ?_
        refine r_getf 37 (lvs_30 _) (cell_30 _ _ _ _) rfl (by decide) in_11 w_196 rfl dX10_looks_108 ?_
        refine r_icmp_ne 177 dX10_looks_111 (by decide) ?_ ?_
        · refine r_iload_n 1 rfl dX10_looks_114 ?_
          refine r_aload_n 3 rfl dX10_looks_115 ?_
          refine r_getf 38 (lvs_30 _) (cell_30 _ _ _ _) rfl (by decide) in_11 w_197 rfl dX10_looks_116 ?_
          refine r_icmp_le 177 dX10_looks_119 (by decide) ?_ ?_
          · exact r_vret rfl rfl rfl dX10_looks_177
          · exact r_sub [0, 1, 2, 3] rfl ((bj_X10_looks_122 X hst ad) _ _ _ _)
        · exact r_vret rfl rfl rfl dX10_looks_177
  · refine r_iload_n 2 rfl dX10_looks_14 ?_
    refine r_aload_n 3 rfl dX10_looks_15 ?_
    refine r_getf 33 (lvs_30 _) (cell_30 _ _ _ _) rfl (by decide) in_11 w_198 rfl dX10_looks_16 ?_
    refine r_iload_n 0 rfl dX10_looks_19 ?_
    refine r_gd (fun h2 => ?_)
    refine r_iaload (lvs_57 _) (cell_57 _ _ _ _) h2 dX10_looks_20 ?_
    refine r_aload_n 3 rfl dX10_looks_21 ?_
    refine r_getf 5 (lvs_30 _) (cell_30 _ _ _ _) rfl (by decide) in_11 w_128 rfl dX10_looks_22 ?_
    refine r_icmp_ne 37 dX10_looks_25 (by decide) ?_ ?_
    · refine r_aload_n 3 rfl dX10_looks_28 ?_
      refine r_getf 24 (lvs_30 _) (cell_30 _ _ _ _) rfl (by decide) in_11 w_144 rfl dX10_looks_29 ?_
      refine r_iload_n 0 rfl dX10_looks_32 ?_
      refine r_iaload (lvs_48 _) (cell_48 _ _ _ _) h2 dX10_looks_33 ?_
      refine r_goto 38 dX10_looks_34 (by decide) ?_
      exact r_sub [0, 1, 2, 3] rfl ((bj_X10_looks_38 X hst ad ih) _ _ _ _ _ _)
    · refine r_iconst (0) (by decide) dX10_looks_37 ?_
      exact r_sub [0, 1, 2, 3] rfl ((bj_X10_looks_38 X hst ad ih) _ _ _ _ _ _)
theorem nc_X10_looks (X : Xt) (hst : X.1.stackTraces = false) (ad : Ad) (σ : Wd) : NC X (fun a => a = ad) yX10_looks cX10_looks 4 none 0 0 vV (0, 0) ad σ [.ref (ad 30 0)] (f_X10_looks σ) := by
  unfold f_X10_looks
  refine NC.intro RX10 rfl hst (by decide) (Nat.le_of_ble_eq_true rfl) (lv := [(0, .ref _)]) rfl ?_
  refine r_iconst (0) (by decide) dX10_looks_0 ?_
  refine r_istore_n [(1, .int _), (0, .ref _)] rfl (by decide) dX10_looks_1 ?_
  refine r_iconst (0) (by decide) dX10_looks_2 ?_
  refine r_istore_n [(2, .int _), (1, .int _), (0, .ref _)] rfl (by decide) dX10_looks_3 ?_
  refine r_iconst (0) (by decide) dX10_looks_4 ?_
  refine r_istore_n [(3, .int _), (2, .int _), (1, .int _), (0, .ref _)] rfl (by decide) dX10_looks_5 ?_
  exact r_sub [0, 1, 2, 3] rfl ((bl_X10_looks_6 X hst ad FU) _ _ _ _)
def l_X10_isSoon_4 : Nat → Wd → Int32 → Int32 → Int32 → Option ((Int32 ⊕ String) × Wd)
  | 0, _, _, _, _ => none
  | n + 1, σ, a3, a2, a1 =>
  if (3 : Int32) ≤ a3 then
    gd (a2 = 0 ∨ a2 = 1) <|
    some (.inl a2, σ)
  else
    if a2 = 0 then
      gd (inb (((3 : Int32) * a1) + a3) 18) <|
      gd (inb a3 3) <|
      if ((σ.1 35 0 (((3 : Int32) * a1) + a3).toNatClampNeg) * (100 : Int32)) < ((80 : Int32) * (σ.1 50 0 a3.toNatClampNeg)) then
        (l_X10_isSoon_4 n) σ (a3 + 1) (0 : Int32) a1
      else
        (l_X10_isSoon_4 n) σ (a3 + 1) (1 : Int32) a1
    else
      (l_X10_isSoon_4 n) σ (a3 + 1) (1 : Int32) a1
def f_X10_isSoon (σ : Wd) (p0 : Int32) : Option ((Int32 ⊕ String) × Wd) :=
  l_X10_isSoon_4 FU σ (0 : Int32) (0 : Int32) p0
theorem bl_X10_isSoon_4 (X : Xt) (hst : X.1.stackTraces = false) (ad : Ad) : ∀ (n : Nat) (σ : Wd) (a3 : Int32) (a2 : Int32) (a1 : Int32), Bk X (fun a => a = ad) cX10_isSoon 4 RX10 (some (.boolean)) 0 0 vI (0, 0) (0, 0) ad σ 4 [(3, .int a3), (2, .int a2), (0, .ref (ad 30 0)), (1, .int a1)] [] (l_X10_isSoon_4 n σ a3 a2 a1) := by
  intro n
  induction n with
  | zero => intros; exact r_none
  | succ n ih =>
  intro σ a3 a2 a1
  rw [l_X10_isSoon_4]
  refine r_iload_n 0 rfl dX10_isSoon_4 ?_
  refine r_iconst (3) (by decide) dX10_isSoon_5 ?_
  refine r_icmp_ge 50 dX10_isSoon_6 (by decide) ?_ ?_
  · refine r_iload_n 1 rfl dX10_isSoon_50 ?_
    refine r_gd (fun h1 => ?_)
    exact r_zret rfl rfl (zn h1) rfl dX10_isSoon_51
  · refine r_iload_n 1 rfl dX10_isSoon_9 ?_
    refine r_if_ne 38 dX10_isSoon_10 (by decide) ?_ ?_
    · refine r_aload_n 2 rfl dX10_isSoon_13 ?_
      refine r_getf 10 (lvs_30 _) (cell_30 _ _ _ _) rfl (by decide) in_11 w_174 rfl dX10_isSoon_14 ?_
      refine r_iconst (3) (by decide) dX10_isSoon_17 ?_
      refine r_iload_n 3 rfl dX10_isSoon_18 ?_
      refine r_imul dX10_isSoon_19 ?_
      refine r_iload_n 0 rfl dX10_isSoon_20 ?_
      refine r_iadd dX10_isSoon_21 ?_
      refine r_gd (fun h2 => ?_)
      refine r_iaload (lvs_35 _) (cell_35 _ _ _ _) h2 dX10_isSoon_22 ?_
      refine r_bipush (100) (by decide) dX10_isSoon_23 ?_
      refine r_imul dX10_isSoon_25 ?_
      refine r_bipush (80) (by decide) dX10_isSoon_26 ?_
      refine r_aload_n 2 rfl dX10_isSoon_28 ?_
      refine r_getf 26 (lvs_30 _) (cell_30 _ _ _ _) rfl (by decide) in_11 w_150 rfl dX10_isSoon_29 ?_
      refine r_iload_n 0 rfl dX10_isSoon_32 ?_
      refine r_gd (fun h3 => ?_)
      refine r_iaload (lvs_50 _) (cell_50 _ _ _ _) h3 dX10_isSoon_33 ?_
      refine r_imul dX10_isSoon_34 ?_
      refine r_icmp_lt 42 dX10_isSoon_35 (by decide) ?_ ?_
      · refine r_iconst (0) (by decide) dX10_isSoon_42 ?_
        refine r_istore_n [(2, .int _), (3, .int _), (0, .ref _), (1, .int _)] rfl (by decide) dX10_isSoon_43 ?_
        refine r_iinc (1) [(3, .int _), (2, .int _), (0, .ref _), (1, .int _)] 1 rfl (by decide) rfl (by decide) dX10_isSoon_44 ?_
        refine r_goto 4 dX10_isSoon_47 (by decide) ?_
        exact r_sub [0, 1, 2, 3] rfl (ih _ _ _ _)
      · refine r_iconst (1) (by decide) dX10_isSoon_38 ?_
        refine r_goto 43 dX10_isSoon_39 (by decide) ?_
        refine r_istore_n [(2, .int _), (3, .int _), (0, .ref _), (1, .int _)] rfl (by decide) dX10_isSoon_43 ?_
        refine r_iinc (1) [(3, .int _), (2, .int _), (0, .ref _), (1, .int _)] 1 rfl (by decide) rfl (by decide) dX10_isSoon_44 ?_
        refine r_goto 4 dX10_isSoon_47 (by decide) ?_
        exact r_sub [0, 1, 2, 3] rfl (ih _ _ _ _)
    · refine r_iconst (1) (by decide) dX10_isSoon_38 ?_
      refine r_goto 43 dX10_isSoon_39 (by decide) ?_
      refine r_istore_n [(2, .int _), (3, .int _), (0, .ref _), (1, .int _)] rfl (by decide) dX10_isSoon_43 ?_
      refine r_iinc (1) [(3, .int _), (2, .int _), (0, .ref _), (1, .int _)] 1 rfl (by decide) rfl (by decide) dX10_isSoon_44 ?_
      refine r_goto 4 dX10_isSoon_47 (by decide) ?_
      exact r_sub [0, 1, 2, 3] rfl (ih _ _ _ _)
theorem nc_X10_isSoon (X : Xt) (hst : X.1.stackTraces = false) (ad : Ad) (σ : Wd) (p0 : Int32) : NC X (fun a => a = ad) yX10_isSoon cX10_isSoon 4 (some (.boolean)) 0 0 vI (0, 0) ad σ [.ref (ad 30 0), .int p0] (f_X10_isSoon σ p0) := by
  unfold f_X10_isSoon
  refine NC.intro RX10 rfl hst (by decide) (Nat.le_of_ble_eq_true rfl) (lv := [(0, .ref _), (1, .int _)]) rfl ?_
  refine r_iconst (0) (by decide) dX10_isSoon_0 ?_
  refine r_istore_n [(2, .int _), (0, .ref _), (1, .int _)] rfl (by decide) dX10_isSoon_1 ?_
  refine r_iconst (0) (by decide) dX10_isSoon_2 ?_
  refine r_istore_n [(3, .int _), (2, .int _), (0, .ref _), (1, .int _)] rfl (by decide) dX10_isSoon_3 ?_
  exact r_sub [0, 1, 2, 3] rfl ((bl_X10_isSoon_4 X hst ad FU) _ _ _ _)
def j_X10_decides_285 (k136 : Wd → Int32 → Option ((Unit ⊕ String) × Wd)) (σ : Wd) (a1 : Int32) : Option ((Unit ⊕ String) × Wd) :=
  if a1 = ((σ.1 30 0 19) - (1 : Int32)) then
    bx (f_X10_looks σ) fun v7 σ8 =>
    k136 σ8 a1
  else
    gd (inb (a1 + 1) 6) <|
    bd (wr σ 57 0 (a1 + 1).toNatClampNeg (-1 : Int32)) fun σ9 =>
    k136 σ9 (a1 + 1)
def j_X10_decides_241 (k136 : Wd → Int32 → Option ((Unit ⊕ String) × Wd)) (σ : Wd) (a1 : Int32) : Option ((Unit ⊕ String) × Wd) :=
  gd (inb a1 6) <|
  if (σ.1 57 0 a1.toNatClampNeg) ≤ (σ.1 30 0 5) then
    if (σ.1 30 0 5) ≤ (σ.1 57 0 a1.toNatClampNeg) then
      j_X10_decides_285 k136 σ a1
    else
      gd (inb (σ.1 57 0 a1.toNatClampNeg) 6) <|
      bd (wr σ 58 0 (σ.1 57 0 a1.toNatClampNeg).toNatClampNeg (vp_nar .boolean (1 : Int32))) fun σ10 =>
      j_X10_decides_285 k136 σ10 a1
  else
    k136 σ (a1 + (-1))
def j_X10_decides_228 (k182 : Wd → Int32 → Option ((Unit ⊕ String) × Wd)) (σ : Wd) (a1 : Int32) : Option ((Unit ⊕ String) × Wd) :=
  gd (inb a1 6) <|
  bd (wr σ 57 0 a1.toNatClampNeg ((σ.1 57 0 a1.toNatClampNeg) + (1 : Int32))) fun σ11 =>
  k182 σ11 a1
def l_X10_decides_182 (k136 : Wd → Int32 → Option ((Unit ⊕ String) × Wd)) : Nat → Wd → Int32 → Option ((Unit ⊕ String) × Wd)
  | 0, _, _ => none
  | n + 1, σ, a1 =>
  gd (inb a1 6) <|
  if (σ.1 30 0 5) ≤ (σ.1 57 0 a1.toNatClampNeg) then
    j_X10_decides_241 k136 σ a1
  else
    gd (inb (σ.1 57 0 a1.toNatClampNeg) 6) <|
    if (σ.1 58 0 (σ.1 57 0 a1.toNatClampNeg).toNatClampNeg) = 0 then
      gd (inb (((6 : Int32) * a1) + (σ.1 57 0 a1.toNatClampNeg)) 36) <|
      if (σ.1 59 0 (((6 : Int32) * a1) + (σ.1 57 0 a1.toNatClampNeg)).toNatClampNeg) = 0 then
        j_X10_decides_228 (l_X10_decides_182 k136 n) σ a1
      else
        j_X10_decides_241 k136 σ a1
    else
      j_X10_decides_228 (l_X10_decides_182 k136 n) σ a1
def j_X10_decides_172 (k136 : Wd → Int32 → Option ((Unit ⊕ String) × Wd)) (σ : Wd) (a1 : Int32) : Option ((Unit ⊕ String) × Wd) :=
  gd (inb a1 6) <|
  bd (wr σ 57 0 a1.toNatClampNeg ((σ.1 57 0 a1.toNatClampNeg) + (1 : Int32))) fun σ6 =>
  l_X10_decides_182 k136 FU σ6 a1
def l_X10_decides_136 : Nat → Wd → Int32 → Option ((Unit ⊕ String) × Wd)
  | 0, _, _ => none
  | n + 1, σ, a1 =>
  if a1 < 0 then
    some (.inl (), σ)
  else
    gd (inb a1 6) <|
    bx (f_X10_between σ (σ.1 57 0 a1.toNatClampNeg) (0 : Int32) ((σ.1 30 0 5) - (1 : Int32))) fun v4 σ5 =>
    if v4 = 0 then
      j_X10_decides_172 (l_X10_decides_136 n) σ5 a1
    else
      gd (inb (σ5.1 57 0 a1.toNatClampNeg) 6) <|
      bd (wr σ5 58 0 (σ5.1 57 0 a1.toNatClampNeg).toNatClampNeg (vp_nar .boolean (0 : Int32))) fun σ12 =>
      j_X10_decides_172 (l_X10_decides_136 n) σ12 a1
def j_X10_decides_128 (σ : Wd) (a1 : Int32) (s0 : Int32) : Option ((Unit ⊕ String) × Wd) :=
  bd (wr σ 57 0 (0 : Int32).toNatClampNeg (-1 : Int32)) fun σ3 =>
  l_X10_decides_136 FU σ3 s0
def l_X10_decides_51 (k23 : Wd → Int32 → Option ((Unit ⊕ String) × Wd)) : Nat → Wd → Int32 → Int32 → Option ((Unit ⊕ String) × Wd)
  | 0, _, _, _ => none
  | n + 1, σ, a2, a1 =>
  if (σ.1 30 0 19) ≤ a2 then
    k23 σ (a1 + 1)
  else
    bx (f_X10_reason σ a1 a2) fun v17 σ18 =>
    if v17 = 0 then
      gd (inb a2 6) <|
      if (σ18.1 49 0 a2.toNatClampNeg) = (-1 : Int32) then
        gd (inb (((6 : Int32) * a2) + a1) 36) <|
        bd (wr σ18 59 0 (((6 : Int32) * a2) + a1).toNatClampNeg (vp_nar .boolean (1 : Int32))) fun σ19 =>
        (l_X10_decides_51 k23 n) σ19 (a2 + 1) a1
      else
        if (σ18.1 49 0 a2.toNatClampNeg) = a1 then
          gd (inb (((6 : Int32) * a2) + a1) 36) <|
          bd (wr σ18 59 0 (((6 : Int32) * a2) + a1).toNatClampNeg (vp_nar .boolean (1 : Int32))) fun σ20 =>
          (l_X10_decides_51 k23 n) σ20 (a2 + 1) a1
        else
          gd (inb (((6 : Int32) * a2) + a1) 36) <|
          bd (wr σ18 59 0 (((6 : Int32) * a2) + a1).toNatClampNeg (vp_nar .boolean (0 : Int32))) fun σ21 =>
          (l_X10_decides_51 k23 n) σ21 (a2 + 1) a1
    else
      gd (inb (((6 : Int32) * a2) + a1) 36) <|
      bd (wr σ18 59 0 (((6 : Int32) * a2) + a1).toNatClampNeg (vp_nar .boolean (0 : Int32))) fun σ22 =>
      (l_X10_decides_51 k23 n) σ22 (a2 + 1) a1
def l_X10_decides_23 : Nat → Wd → Int32 → Option ((Unit ⊕ String) × Wd)
  | 0, _, _ => none
  | n + 1, σ, a1 =>
  if (σ.1 30 0 5) ≤ a1 then
    if (σ.1 30 0 19) = 0 then
      j_X10_decides_128 σ a1 (-1 : Int32)
    else
      j_X10_decides_128 σ a1 (0 : Int32)
  else
    gd (inb a1 6) <|
    bd (wr σ 58 0 a1.toNatClampNeg (vp_nar .boolean (0 : Int32))) fun σ13 =>
    bx (f_X10_isSoon σ13 a1) fun v14 σ15 =>
    bd (wr σ15 60 0 a1.toNatClampNeg (vp_nar .boolean v14)) fun σ16 =>
    l_X10_decides_51 (l_X10_decides_23 n) FU σ16 (0 : Int32) a1
def j_X10_decides_13 (σ : Wd) (s0 : Int32) : Option ((Unit ⊕ String) × Wd) :=
  bd (wr σ 30 0 37 s0) fun σ1 =>
  bd (wr σ1 30 0 38 (0 : Int32)) fun σ2 =>
  l_X10_decides_23 FU σ2 (0 : Int32)
def f_X10_decides (σ : Wd) : Option ((Unit ⊕ String) × Wd) :=
  if (σ.1 30 0 19) = 0 then
    j_X10_decides_13 σ (0 : Int32)
  else
    j_X10_decides_13 σ (-1 : Int32)
theorem bj_X10_decides_285 (X : Xt) (hst : X.1.stackTraces = false) (ad : Ad) {k136 : Wd → Int32 → Option ((Unit ⊕ String) × Wd)} (hk136 : ∀ (σ : Wd) (a1 : Int32), Bk X (fun a => a = ad) cX10_decides 3 RX10 none 3 67 vV (0, 0) (0, 0) ad σ 136 [(1, .int a1), (0, .ref (ad 30 0))] [] (k136 σ a1)) (σ : Wd) (a1 : Int32) : Bk X (fun a => a = ad) cX10_decides 3 RX10 none 3 67 vV (0, 0) (0, 0) ad σ 285 [(1, .int a1), (0, .ref (ad 30 0))] [] (j_X10_decides_285 k136 σ a1) := by
  unfold j_X10_decides_285
  refine r_iload_n 0 rfl dX10_decides_285 ?_
  refine r_aload_n 1 rfl dX10_decides_286 ?_
  refine r_getf 19 (lvs_30 _) (cell_30 _ _ _ _) rfl (by decide) in_11 w_140 rfl dX10_decides_287 ?_
  refine r_iconst (1) (by decide) dX10_decides_290 ?_
  refine r_isub dX10_decides_291 ?_
  refine r_icmp_ne 302 dX10_decides_292 (by decide) ?_ ?_
  · refine r_aload_n 1 rfl dX10_decides_295 ?_
    refine r_callV (n := 0) (As := []) (cell_30 _ _ _ _) (lvs_30 _) rfl (nc_X10_looks X hst ad _) (fun _ h => h) rfl ⟨rfl, by decide, by decide, by decide +kernel⟩ w_201 w_202 w_203 w_121 w_204 rfl rfl (Nat.le_of_ble_eq_true rfl) ⟨by decide, by decide⟩ dX10_decides_296 (fun v7 σ8 => ?_)
    refine r_goto 136 dX10_decides_299 (by decide) ?_
    exact r_sub [0, 1] rfl (hk136 _ _)
  · refine r_iinc (1) [(1, .int _), (0, .ref _)] 0 rfl (by decide) rfl (by decide) dX10_decides_302 ?_
    refine r_aload_n 1 rfl dX10_decides_305 ?_
    refine r_getf 33 (lvs_30 _) (cell_30 _ _ _ _) rfl (by decide) in_11 w_198 rfl dX10_decides_306 ?_
    refine r_iload_n 0 rfl dX10_decides_309 ?_
    refine r_iconst (-1) (by decide) dX10_decides_310 ?_
    refine r_gd (fun h5 => ?_)
    refine r_bd ?_
    refine r_iastore (lvs_57 _) (ia_57 _ _ _) h5 dX10_decides_311 ?_
    refine r_goto 136 dX10_decides_312 (by decide) ?_
    exact r_sub [0, 1] rfl (hk136 _ _)
theorem bj_X10_decides_241 (X : Xt) (hst : X.1.stackTraces = false) (ad : Ad) {k136 : Wd → Int32 → Option ((Unit ⊕ String) × Wd)} (hk136 : ∀ (σ : Wd) (a1 : Int32), Bk X (fun a => a = ad) cX10_decides 3 RX10 none 3 67 vV (0, 0) (0, 0) ad σ 136 [(1, .int a1), (0, .ref (ad 30 0))] [] (k136 σ a1)) (σ : Wd) (a1 : Int32) : Bk X (fun a => a = ad) cX10_decides 3 RX10 none 3 67 vV (0, 0) (0, 0) ad σ 241 [(1, .int a1), (0, .ref (ad 30 0))] [] (j_X10_decides_241 k136 σ a1) := by
  unfold j_X10_decides_241
  refine r_aload_n 1 rfl dX10_decides_241 ?_
  refine r_getf 33 (lvs_30 _) (cell_30 _ _ _ _) rfl (by decide) in_11 w_198 rfl dX10_decides_242 ?_
  refine r_iload_n 0 rfl dX10_decides_245 ?_
  refine r_gd (fun h4 => ?_)
  refine r_iaload (lvs_57 _) (cell_57 _ _ _ _) h4 dX10_decides_246 ?_
  refine r_aload_n 1 rfl dX10_decides_247 ?_
  refine r_getf 5 (lvs_30 _) (cell_30 _ _ _ _) rfl (by decide) in_11 w_128 rfl dX10_decides_248 ?_
  refine r_icmp_le 260 dX10_decides_251 (by decide) ?_ ?_
  · refine r_aload_n 1 rfl dX10_decides_260 ?_
    refine r_getf 33 (lvs_30 _) (cell_30 _ _ _ _) rfl (by decide) in_11 w_198 rfl dX10_decides_261 ?_
    refine r_iload_n 0 rfl dX10_decides_264 ?_
    refine r_iaload (lvs_57 _) (cell_57 _ _ _ _) h4 dX10_decides_265 ?_
    refine r_aload_n 1 rfl dX10_decides_266 ?_
    refine r_getf 5 (lvs_30 _) (cell_30 _ _ _ _) rfl (by decide) in_11 w_128 rfl dX10_decides_267 ?_
    refine r_icmp_ge 285 dX10_decides_270 (by decide) ?_ ?_
    · exact r_sub [0, 1] rfl ((bj_X10_decides_285 X hst ad hk136) _ _)
    · refine r_aload_n 1 rfl dX10_decides_273 ?_
      refine r_getf 34 (lvs_30 _) (cell_30 _ _ _ _) rfl (by decide) in_11 w_205 rfl dX10_decides_274 ?_
      refine r_aload_n 1 rfl dX10_decides_277 ?_
      refine r_getf 33 (lvs_30 _) (cell_30 _ _ _ _) rfl (by decide) in_11 w_198 rfl dX10_decides_278 ?_
      refine r_iload_n 0 rfl dX10_decides_281 ?_
      refine r_iaload (lvs_57 _) (cell_57 _ _ _ _) h4 dX10_decides_282 ?_
      refine r_iconst (1) (by decide) dX10_decides_283 ?_
      refine r_gd (fun h6 => ?_)
      refine r_bd ?_
      refine r_zastore (lvs_58 _) (ia_58 _ _ _) h6 dX10_decides_284 ?_
      exact r_sub [0, 1] rfl ((bj_X10_decides_285 X hst ad hk136) _ _)
  · refine r_iinc (-1) [(1, .int _), (0, .ref _)] 0 rfl (by decide) rfl (by decide) dX10_decides_254 ?_
    refine r_goto 136 dX10_decides_257 (by decide) ?_
    exact r_sub [0, 1] rfl (hk136 _ _)
theorem bj_X10_decides_228 (X : Xt) (hst : X.1.stackTraces = false) (ad : Ad) {k182 : Wd → Int32 → Option ((Unit ⊕ String) × Wd)} (hk182 : ∀ (σ : Wd) (a1 : Int32), Bk X (fun a => a = ad) cX10_decides 3 RX10 none 3 67 vV (0, 0) (0, 0) ad σ 182 [(1, .int a1), (0, .ref (ad 30 0))] [] (k182 σ a1)) (σ : Wd) (a1 : Int32) : Bk X (fun a => a = ad) cX10_decides 3 RX10 none 3 67 vV (0, 0) (0, 0) ad σ 228 [(1, .int a1), (0, .ref (ad 30 0))] [] (j_X10_decides_228 k182 σ a1) := by
  unfold j_X10_decides_228
  refine r_aload_n 1 rfl dX10_decides_228 ?_
  refine r_getf 33 (lvs_30 _) (cell_30 _ _ _ _) rfl (by decide) in_11 w_198 rfl dX10_decides_229 ?_
  refine r_iload_n 0 rfl dX10_decides_232 ?_
  refine r_dup2 rfl rfl dX10_decides_233 ?_
  refine r_gd (fun h9 => ?_)
  refine r_iaload (lvs_57 _) (cell_57 _ _ _ _) h9 dX10_decides_234 ?_
  refine r_iconst (1) (by decide) dX10_decides_235 ?_
  refine r_iadd dX10_decides_236 ?_
  refine r_bd ?_
  refine r_iastore (lvs_57 _) (ia_57 _ _ _) h9 dX10_decides_237 ?_
  refine r_goto 182 dX10_decides_238 (by decide) ?_
  exact r_sub [0, 1] rfl (hk182 _ _)
theorem bl_X10_decides_182 (X : Xt) (hst : X.1.stackTraces = false) (ad : Ad) {k136 : Wd → Int32 → Option ((Unit ⊕ String) × Wd)} (hk136 : ∀ (σ : Wd) (a1 : Int32), Bk X (fun a => a = ad) cX10_decides 3 RX10 none 3 67 vV (0, 0) (0, 0) ad σ 136 [(1, .int a1), (0, .ref (ad 30 0))] [] (k136 σ a1)) : ∀ (n : Nat) (σ : Wd) (a1 : Int32), Bk X (fun a => a = ad) cX10_decides 3 RX10 none 3 67 vV (0, 0) (0, 0) ad σ 182 [(1, .int a1), (0, .ref (ad 30 0))] [] (l_X10_decides_182 k136 n σ a1) := by
  intro n
  induction n with
  | zero => intros; exact r_none
  | succ n ih =>
  intro σ a1
  rw [l_X10_decides_182]
  refine r_aload_n 1 rfl dX10_decides_182 ?_
  refine r_getf 33 (lvs_30 _) (cell_30 _ _ _ _) rfl (by decide) in_11 w_198 rfl dX10_decides_183 ?_
  refine r_iload_n 0 rfl dX10_decides_186 ?_
  refine r_gd (fun h3 => ?_)
  refine r_iaload (lvs_57 _) (cell_57 _ _ _ _) h3 dX10_decides_187 ?_
  refine r_aload_n 1 rfl dX10_decides_188 ?_
  refine r_getf 5 (lvs_30 _) (cell_30 _ _ _ _) rfl (by decide) in_11 w_128 rfl dX10_decides_189 ?_
  refine r_icmp_ge 241 dX10_decides_192 (by decide) ?_ ?_
  · exact r_sub [0, 1] rfl ((bj_X10_decides_241 X hst ad hk136) _ _)
  · refine r_aload_n 1 rfl dX10_decides_195 ?_
    refine r_getf 34 (lvs_30 _) (cell_30 _ _ _ _) rfl (by decide) in_11 w_205 rfl dX10_decides_196 ?_
    refine r_aload_n 1 rfl dX10_decides_199 ?_
    refine r_getf 33 (lvs_30 _) (cell_30 _ _ _ _) rfl (by decide) in_11 w_198 rfl dX10_decides_200 ?_
    refine r_iload_n 0 rfl dX10_decides_203 ?_
    refine r_iaload (lvs_57 _) (cell_57 _ _ _ _) h3 dX10_decides_204 ?_
    refine r_gd (fun h7 => ?_)
    refine r_zaload (lvs_58 _) (cell_58 _ _ _ _) h7 dX10_decides_205 ?_
    refine r_if_ne 228 dX10_decides_206 (by decide) ?_ ?_
    · refine r_aload_n 1 rfl dX10_decides_209 ?_
      refine r_getf 35 (lvs_30 _) (cell_30 _ _ _ _) rfl (by decide) in_11 w_206 rfl dX10_decides_210 ?_
      refine r_bipush (6) (by decide) dX10_decides_213 ?_
      refine r_iload_n 0 rfl dX10_decides_215 ?_
      refine r_imul dX10_decides_216 ?_
      refine r_aload_n 1 rfl dX10_decides_217 ?_
      refine r_getf 33 (lvs_30 _) (cell_30 _ _ _ _) rfl (by decide) in_11 w_198 rfl dX10_decides_218 ?_
      refine r_iload_n 0 rfl dX10_decides_221 ?_
      refine r_iaload (lvs_57 _) (cell_57 _ _ _ _) h3 dX10_decides_222 ?_
      refine r_iadd dX10_decides_223 ?_
      refine r_gd (fun h8 => ?_)
      refine r_zaload (lvs_59 _) (cell_59 _ _ _ _) h8 dX10_decides_224 ?_
      refine r_if_ne 241 dX10_decides_225 (by decide) ?_ ?_
      · exact r_sub [0, 1] rfl ((bj_X10_decides_228 X hst ad ih) _ _)
      · exact r_sub [0, 1] rfl ((bj_X10_decides_241 X hst ad hk136) _ _)
    · exact r_sub [0, 1] rfl ((bj_X10_decides_228 X hst ad ih) _ _)
theorem bj_X10_decides_172 (X : Xt) (hst : X.1.stackTraces = false) (ad : Ad) {k136 : Wd → Int32 → Option ((Unit ⊕ String) × Wd)} (hk136 : ∀ (σ : Wd) (a1 : Int32), Bk X (fun a => a = ad) cX10_decides 3 RX10 none 3 67 vV (0, 0) (0, 0) ad σ 136 [(1, .int a1), (0, .ref (ad 30 0))] [] (k136 σ a1)) (σ : Wd) (a1 : Int32) : Bk X (fun a => a = ad) cX10_decides 3 RX10 none 3 67 vV (0, 0) (0, 0) ad σ 172 [(1, .int a1), (0, .ref (ad 30 0))] [] (j_X10_decides_172 k136 σ a1) := by
  unfold j_X10_decides_172
  refine r_aload_n 1 rfl dX10_decides_172 ?_
  refine r_getf 33 (lvs_30 _) (cell_30 _ _ _ _) rfl (by decide) in_11 w_198 rfl dX10_decides_173 ?_
  refine r_iload_n 0 rfl dX10_decides_176 ?_
  refine r_dup2 rfl rfl dX10_decides_177 ?_
  refine r_gd (fun h2 => ?_)
  refine r_iaload (lvs_57 _) (cell_57 _ _ _ _) h2 dX10_decides_178 ?_
  refine r_iconst (1) (by decide) dX10_decides_179 ?_
  refine r_iadd dX10_decides_180 ?_
  refine r_bd ?_
  refine r_iastore (lvs_57 _) (ia_57 _ _ _) h2 dX10_decides_181 ?_
  exact r_sub [0, 1] rfl ((bl_X10_decides_182 X hst ad hk136 FU) _ _)
theorem bl_X10_decides_136 (X : Xt) (hst : X.1.stackTraces = false) (ad : Ad) : ∀ (n : Nat) (σ : Wd) (a1 : Int32), Bk X (fun a => a = ad) cX10_decides 3 RX10 none 3 67 vV (0, 0) (0, 0) ad σ 136 [(1, .int a1), (0, .ref (ad 30 0))] [] (l_X10_decides_136 n σ a1) := by
  intro n
  induction n with
  | zero => intros; exact r_none
  | succ n ih =>
  intro σ a1
  rw [l_X10_decides_136]
  refine r_iload_n 0 rfl dX10_decides_136 ?_
  refine r_if_lt 315 dX10_decides_137 (by decide) ?_ ?_
  · exact r_vret rfl rfl rfl dX10_decides_315
  · refine r_aload_n 1 rfl dX10_decides_140 ?_
    refine r_aload_n 1 rfl dX10_decides_141 ?_
    refine r_getf 33 (lvs_30 _) (cell_30 _ _ _ _) rfl (by decide) in_11 w_198 rfl dX10_decides_142 ?_
    refine r_iload_n 0 rfl dX10_decides_145 ?_
    refine r_gd (fun h1 => ?_)
    refine r_iaload (lvs_57 _) (cell_57 _ _ _ _) h1 dX10_decides_146 ?_
    refine r_iconst (0) (by decide) dX10_decides_147 ?_
    refine r_aload_n 1 rfl dX10_decides_148 ?_
    refine r_getf 5 (lvs_30 _) (cell_30 _ _ _ _) rfl (by decide) in_11 w_128 rfl dX10_decides_149 ?_
    refine r_iconst (1) (by decide) dX10_decides_152 ?_
    refine r_isub dX10_decides_153 ?_
    refine r_callV (n := 3) (As := [.int _, .int _, .int _]) (cell_30 _ _ _ _) (lvs_30 _) rfl (nc_X10_between X hst ad _ _ _ _) (fun _ h => h) rfl ⟨rfl, by decide, by decide, by decide +kernel⟩ w_118 w_119 w_120 w_121 w_122 rfl rfl (Nat.le_of_ble_eq_true rfl) ⟨by decide, by decide⟩ dX10_decides_154 (fun v4 σ5 => ?_)
    refine r_if_eq 172 dX10_decides_157 (by decide) ?_ ?_
    · exact r_sub [0, 1] rfl ((bj_X10_decides_172 X hst ad ih) _ _)
    · refine r_aload_n 1 rfl dX10_decides_160 ?_
      refine r_getf 34 (lvs_30 _) (cell_30 _ _ _ _) rfl (by decide) in_11 w_205 rfl dX10_decides_161 ?_
      refine r_aload_n 1 rfl dX10_decides_164 ?_
      refine r_getf 33 (lvs_30 _) (cell_30 _ _ _ _) rfl (by decide) in_11 w_198 rfl dX10_decides_165 ?_
      refine r_iload_n 0 rfl dX10_decides_168 ?_
      refine r_iaload (lvs_57 _) (cell_57 _ _ _ _) h1 dX10_decides_169 ?_
      refine r_iconst (0) (by decide) dX10_decides_170 ?_
      refine r_gd (fun h10 => ?_)
      refine r_bd ?_
      refine r_zastore (lvs_58 _) (ia_58 _ _ _) h10 dX10_decides_171 ?_
      exact r_sub [0, 1] rfl ((bj_X10_decides_172 X hst ad ih) _ _)
theorem bj_X10_decides_128 (X : Xt) (hst : X.1.stackTraces = false) (ad : Ad) (σ : Wd) (a1 : Int32) (s0 : Int32) : Bk X (fun a => a = ad) cX10_decides 3 RX10 none 3 67 vV (0, 0) (0, 0) ad σ 128 [(1, .int a1), (0, .ref (ad 30 0))] [.int s0] (j_X10_decides_128 σ a1 s0) := by
  unfold j_X10_decides_128
  refine r_istore_n [(1, .int _), (0, .ref _)] rfl (by decide) dX10_decides_128 ?_
  refine r_aload_n 1 rfl dX10_decides_129 ?_
  refine r_getf 33 (lvs_30 _) (cell_30 _ _ _ _) rfl (by decide) in_11 w_198 rfl dX10_decides_130 ?_
  refine r_iconst (0) (by decide) dX10_decides_133 ?_
  refine r_iconst (-1) (by decide) dX10_decides_134 ?_
  refine r_bd ?_
  refine r_iastore (lvs_57 _) (ia_57 _ _ _) (by decide) dX10_decides_135 ?_
  exact r_sub [0, 1] rfl ((bl_X10_decides_136 X hst ad FU) _ _)
theorem bl_X10_decides_51 (X : Xt) (hst : X.1.stackTraces = false) (ad : Ad) {k23 : Wd → Int32 → Option ((Unit ⊕ String) × Wd)} (hk23 : ∀ (σ : Wd) (a1 : Int32), Bk X (fun a => a = ad) cX10_decides 3 RX10 none 3 67 vV (0, 0) (0, 0) ad σ 23 [(1, .int a1), (0, .ref (ad 30 0))] [] (k23 σ a1)) : ∀ (n : Nat) (σ : Wd) (a2 : Int32) (a1 : Int32), Bk X (fun a => a = ad) cX10_decides 3 RX10 none 3 67 vV (0, 0) (0, 0) ad σ 51 [(2, .int a2), (1, .int a1), (0, .ref (ad 30 0))] [] (l_X10_decides_51 k23 n σ a2 a1) := by
  intro n
  induction n with
  | zero => intros; exact r_none
  | succ n ih =>
  intro σ a2 a1
  rw [l_X10_decides_51]
  refine r_iload_n 0 rfl dX10_decides_51 ?_
  refine r_aload_n 2 rfl dX10_decides_52 ?_
  refine r_getf 19 (lvs_30 _) (cell_30 _ _ _ _) rfl (by decide) in_11 w_140 rfl dX10_decides_53 ?_
  refine r_icmp_ge 110 dX10_decides_56 (by decide) ?_ ?_
  · refine r_iinc (1) [(1, .int _), (2, .int _), (0, .ref _)] 1 rfl (by decide) rfl (by decide) dX10_decides_110 ?_
    refine r_goto 23 dX10_decides_113 (by decide) ?_
    exact r_sub [0, 2] rfl (hk23 _ _)
  · refine r_aload_n 2 rfl dX10_decides_59 ?_
    refine r_getf 35 (lvs_30 _) (cell_30 _ _ _ _) rfl (by decide) in_11 w_206 rfl dX10_decides_60 ?_
    refine r_bipush (6) (by decide) dX10_decides_63 ?_
    refine r_iload_n 0 rfl dX10_decides_65 ?_
    refine r_imul dX10_decides_66 ?_
    refine r_iload_n 1 rfl dX10_decides_67 ?_
    refine r_iadd dX10_decides_68 ?_
    refine r_aload_n 2 rfl dX10_decides_69 ?_
    refine r_iload_n 1 rfl dX10_decides_70 ?_
    refine r_iload_n 0 rfl dX10_decides_71 ?_
    refine r_callV (n := 2) (As := [.int _, .int _]) (cell_30 _ _ _ _) (lvs_30 _) rfl (nc_X10_reason X hst ad _ _ _) (fun _ h => h) rfl ⟨rfl, by decide, by decide, by decide +kernel⟩ w_192 w_193 w_194 w_121 w_195 rfl rfl (Nat.le_of_ble_eq_true rfl) ⟨by decide, by decide⟩ dX10_decides_72 (fun v17 σ18 => ?_)
    refine r_if_ne 102 dX10_decides_75 (by decide) ?_ ?_
    · refine r_aload_n 2 rfl dX10_decides_78 ?_
      refine r_getf 25 (lvs_30 _) (cell_30 _ _ _ _) rfl (by decide) in_11 w_145 rfl dX10_decides_79 ?_
      refine r_iload_n 0 rfl dX10_decides_82 ?_
      refine r_gd (fun h12 => ?_)
      refine r_iaload (lvs_49 _) (cell_49 _ _ _ _) h12 dX10_decides_83 ?_
      refine r_iconst (-1) (by decide) dX10_decides_84 ?_
      refine r_icmp_eq 98 dX10_decides_85 (by decide) ?_ ?_
      · refine r_iconst (1) (by decide) dX10_decides_98 ?_
        refine r_goto 103 dX10_decides_99 (by decide) ?_
        refine r_gd (fun h13 => ?_)
        refine r_bd ?_
        refine r_zastore (lvs_59 _) (ia_59 _ _ _) h13 dX10_decides_103 ?_
        refine r_iinc (1) [(2, .int _), (1, .int _), (0, .ref _)] 0 rfl (by decide) rfl (by decide) dX10_decides_104 ?_
        refine r_goto 51 dX10_decides_107 (by decide) ?_
        exact r_sub [0, 1, 2] rfl (ih _ _ _)
      · refine r_aload_n 2 rfl dX10_decides_88 ?_
        refine r_getf 25 (lvs_30 _) (cell_30 _ _ _ _) rfl (by decide) in_11 w_145 rfl dX10_decides_89 ?_
        refine r_iload_n 0 rfl dX10_decides_92 ?_
        refine r_iaload (lvs_49 _) (cell_49 _ _ _ _) h12 dX10_decides_93 ?_
        refine r_iload_n 1 rfl dX10_decides_94 ?_
        refine r_icmp_ne 102 dX10_decides_95 (by decide) ?_ ?_
        · refine r_iconst (1) (by decide) dX10_decides_98 ?_
          refine r_goto 103 dX10_decides_99 (by decide) ?_
          refine r_gd (fun h14 => ?_)
          refine r_bd ?_
          refine r_zastore (lvs_59 _) (ia_59 _ _ _) h14 dX10_decides_103 ?_
          refine r_iinc (1) [(2, .int _), (1, .int _), (0, .ref _)] 0 rfl (by decide) rfl (by decide) dX10_decides_104 ?_
          refine r_goto 51 dX10_decides_107 (by decide) ?_
          exact r_sub [0, 1, 2] rfl (ih _ _ _)
        · refine r_iconst (0) (by decide) dX10_decides_102 ?_
          refine r_gd (fun h15 => ?_)
          refine r_bd ?_
          refine r_zastore (lvs_59 _) (ia_59 _ _ _) h15 dX10_decides_103 ?_
          refine r_iinc (1) [(2, .int _), (1, .int _), (0, .ref _)] 0 rfl (by decide) rfl (by decide) dX10_decides_104 ?_
          refine r_goto 51 dX10_decides_107 (by decide) ?_
          exact r_sub [0, 1, 2] rfl (ih _ _ _)
    · refine r_iconst (0) (by decide) dX10_decides_102 ?_
      refine r_gd (fun h16 => ?_)
      refine r_bd ?_
      refine r_zastore (lvs_59 _) (ia_59 _ _ _) h16 dX10_decides_103 ?_
      refine r_iinc (1) [(2, .int _), (1, .int _), (0, .ref _)] 0 rfl (by decide) rfl (by decide) dX10_decides_104 ?_
      refine r_goto 51 dX10_decides_107 (by decide) ?_
      exact r_sub [0, 1, 2] rfl (ih _ _ _)
theorem bl_X10_decides_23 (X : Xt) (hst : X.1.stackTraces = false) (ad : Ad) : ∀ (n : Nat) (σ : Wd) (a1 : Int32), Bk X (fun a => a = ad) cX10_decides 3 RX10 none 3 67 vV (0, 0) (0, 0) ad σ 23 [(1, .int a1), (0, .ref (ad 30 0))] [] (l_X10_decides_23 n σ a1) := by
  intro n
  induction n with
  | zero => intros; exact r_none
  | succ n ih =>
  intro σ a1
  rw [l_X10_decides_23]
  refine r_iload_n 0 rfl dX10_decides_23 ?_
  refine r_aload_n 1 rfl dX10_decides_24 ?_
  refine r_getf 5 (lvs_30 _) (cell_30 _ _ _ _) rfl (by decide) in_11 w_128 rfl dX10_decides_25 ?_
  refine r_icmp_ge 116 dX10_decides_28 (by decide) ?_ ?_
  · refine r_aload_n 1 rfl dX10_decides_116 ?_
    refine r_getf 19 (lvs_30 _) (cell_30 _ _ _ _) rfl (by decide) in_11 w_140 rfl dX10_decides_117 ?_
    refine r_if_ne 127 dX10_decides_120 (by decide) ?_ ?_
    · refine r_iconst (-1) (by decide) dX10_decides_123 ?_
      refine r_goto 128 dX10_decides_124 (by decide) ?_
      exact r_sub [0, 1] rfl ((bj_X10_decides_128 X hst ad) _ _ _)
    · refine r_iconst (0) (by decide) dX10_decides_127 ?_
      exact r_sub [0, 1] rfl ((bj_X10_decides_128 X hst ad) _ _ _)
  · refine r_aload_n 1 rfl dX10_decides_31 ?_
    refine r_getf 34 (lvs_30 _) (cell_30 _ _ _ _) rfl (by decide) in_11 w_205 rfl dX10_decides_32 ?_
    refine r_iload_n 0 rfl dX10_decides_35 ?_
    refine r_iconst (0) (by decide) dX10_decides_36 ?_
    refine r_gd (fun h11 => ?_)
    refine r_bd ?_
    refine r_zastore (lvs_58 _) (ia_58 _ _ _) h11 dX10_decides_37 ?_
    refine r_aload_n 1 rfl dX10_decides_38 ?_
    refine r_getf 36 (lvs_30 _) (cell_30 _ _ _ _) rfl (by decide) in_11 w_200 rfl dX10_decides_39 ?_
    refine r_iload_n 0 rfl dX10_decides_42 ?_
    refine r_aload_n 1 rfl dX10_decides_43 ?_
    refine r_iload_n 0 rfl dX10_decides_44 ?_
    refine r_callV (n := 1) (As := [.int _]) (cell_30 _ _ _ _) (lvs_30 _) rfl (nc_X10_isSoon X hst ad _ _) (fun _ h => h) rfl ⟨rfl, by decide, by decide, by decide +kernel⟩ w_207 w_208 w_209 w_121 w_210 rfl rfl (Nat.le_of_ble_eq_true rfl) ⟨by decide, by decide⟩ dX10_decides_45 (fun v14 σ15 => ?_)
    refine r_bd ?_
    refine r_zastore (lvs_60 _) (ia_60 _ _ _) h11 dX10_decides_48 ?_
    refine r_iconst (0) (by decide) dX10_decides_49 ?_
    refine r_istore_n [(2, .int _), (1, .int _), (0, .ref _)] rfl (by decide) dX10_decides_50 ?_
    exact r_sub [0, 1, 2] rfl ((bl_X10_decides_51 X hst ad ih FU) _ _ _)
theorem bj_X10_decides_13 (X : Xt) (hst : X.1.stackTraces = false) (ad : Ad) (σ : Wd) (s0 : Int32) : Bk X (fun a => a = ad) cX10_decides 3 RX10 none 3 67 vV (0, 0) (0, 0) ad σ 13 [(0, .ref (ad 30 0))] [.int s0, .ref (ad 30 0)] (j_X10_decides_13 σ s0) := by
  unfold j_X10_decides_13
  refine r_bd ?_
  refine r_putf 37 tyX10 tyX10_ok nmX10 (lvs_30 _) (cell_30 _ _ _ _) (wrc_30_37 _ _ _ _ _) rfl (by decide) (Nat.le_of_ble_eq_true rfl) in_11 w_196 rfl rfl rfl dX10_decides_13 ?_
  refine r_aload_n 0 rfl dX10_decides_16 ?_
  refine r_iconst (0) (by decide) dX10_decides_17 ?_
  refine r_bd ?_
  refine r_putf 38 tyX10 tyX10_ok nmX10 (lvs_30 _) (cell_30 _ _ _ _) (wrc_30_38 _ _ _ _ _) rfl (by decide) (Nat.le_of_ble_eq_true rfl) in_11 w_197 rfl rfl rfl dX10_decides_18 ?_
  refine r_iconst (0) (by decide) dX10_decides_21 ?_
  refine r_istore_n [(1, .int _), (0, .ref _)] rfl (by decide) dX10_decides_22 ?_
  exact r_sub [0, 1] rfl ((bl_X10_decides_23 X hst ad FU) _ _)
theorem nc_X10_decides (X : Xt) (hst : X.1.stackTraces = false) (ad : Ad) (σ : Wd) : NC X (fun a => a = ad) yX10_decides cX10_decides 3 none 3 67 vV (0, 0) ad σ [.ref (ad 30 0)] (f_X10_decides σ) := by
  unfold f_X10_decides
  refine NC.intro RX10 rfl hst (by decide) (Nat.le_of_ble_eq_true rfl) (lv := [(0, .ref _)]) rfl ?_
  refine r_aload_n 0 rfl dX10_decides_0 ?_
  refine r_aload_n 0 rfl dX10_decides_1 ?_
  refine r_getf 19 (lvs_30 _) (cell_30 _ _ _ _) rfl (by decide) in_11 w_140 rfl dX10_decides_2 ?_
  refine r_if_ne 12 dX10_decides_5 (by decide) ?_ ?_
  · refine r_iconst (0) (by decide) dX10_decides_8 ?_
    refine r_goto 13 dX10_decides_9 (by decide) ?_
    exact r_sub [0] rfl ((bj_X10_decides_13 X hst ad) _ _)
  · refine r_iconst (-1) (by decide) dX10_decides_12 ?_
    exact r_sub [0] rfl ((bj_X10_decides_13 X hst ad) _ _)
def j_X10_allocation_14 (σ : Wd) (a1 : Int32) (s0 : Int32) : Option ((Int32 ⊕ String) × Wd) :=
  bd (wr σ 30 0 0 s0) fun σ3 =>
  if (σ3.1 30 0 0) ≤ 0 then
    bx (f_X10_decides σ3) fun v4 σ5 =>
    gd (inb a1 6) <|
    some (.inl (σ5.1 56 0 a1.toNatClampNeg), σ5)
  else
    some (.inl (0 : Int32), σ3)
def f_X10_allocation (σ : Wd) (p0 : Int32) : Option ((Int32 ⊕ String) × Wd) :=
  bx (f_X10_isDiagram σ p0) fun v1 σ2 =>
  if v1 = 0 then
    j_X10_allocation_14 σ2 p0 (1 : Int32)
  else
    j_X10_allocation_14 σ2 p0 (0 : Int32)
theorem bj_X10_allocation_14 (X : Xt) (hst : X.1.stackTraces = false) (ad : Ad) (σ : Wd) (a1 : Int32) (s0 : Int32) : Bk X (fun a => a = ad) cX10_allocation 2 RX10 (some (.int)) 4 89 vI (0, 0) (0, 0) ad σ 14 [(0, .ref (ad 30 0)), (1, .int a1)] [.int s0, .ref (ad 30 0)] (j_X10_allocation_14 σ a1 s0) := by
  unfold j_X10_allocation_14
  refine r_bd ?_
  refine r_putf 0 tyX10 tyX10_ok nmX10 (lvs_30 _) (cell_30 _ _ _ _) (wrc_30_0 _ _ _ _ _) rfl (by decide) (Nat.le_of_ble_eq_true rfl) in_11 w_117 rfl rfl rfl dX10_allocation_14 ?_
  refine r_aload_n 0 rfl dX10_allocation_17 ?_
  refine r_getf 0 (lvs_30 _) (cell_30 _ _ _ _) rfl (by decide) in_11 w_117 rfl dX10_allocation_18 ?_
  refine r_if_le 26 dX10_allocation_21 (by decide) ?_ ?_
  · refine r_aload_n 0 rfl dX10_allocation_26 ?_
    refine r_callV (n := 0) (As := []) (cell_30 _ _ _ _) (lvs_30 _) rfl (nc_X10_decides X hst ad _) (fun _ h => h) rfl ⟨rfl, by decide, by decide, by decide +kernel⟩ w_211 w_212 w_213 w_121 w_214 rfl rfl (Nat.le_of_ble_eq_true rfl) ⟨by decide, by decide⟩ dX10_allocation_27 (fun v4 σ5 => ?_)
    refine r_aload_n 0 rfl dX10_allocation_30 ?_
    refine r_getf 32 (lvs_30 _) (cell_30 _ _ _ _) rfl (by decide) in_11 w_199 rfl dX10_allocation_31 ?_
    refine r_iload_n 1 rfl dX10_allocation_34 ?_
    refine r_gd (fun h1 => ?_)
    refine r_iaload (lvs_56 _) (cell_56 _ _ _ _) h1 dX10_allocation_35 ?_
    exact r_iret rfl rfl rfl dX10_allocation_36
  · refine r_iconst (0) (by decide) dX10_allocation_24 ?_
    exact r_iret rfl rfl rfl dX10_allocation_25
theorem nc_X10_allocation (X : Xt) (hst : X.1.stackTraces = false) (ad : Ad) (σ : Wd) (p0 : Int32) : NC X (fun a => a = ad) yX10_allocation cX10_allocation 2 (some (.int)) 4 89 vI (0, 0) ad σ [.ref (ad 30 0), .int p0] (f_X10_allocation σ p0) := by
  unfold f_X10_allocation
  refine NC.intro RX10 rfl hst (by decide) (Nat.le_of_ble_eq_true rfl) (lv := [(0, .ref _), (1, .int _)]) rfl ?_
  refine r_aload_n 0 rfl dX10_allocation_0 ?_
  refine r_aload_n 0 rfl dX10_allocation_1 ?_
  refine r_iload_n 1 rfl dX10_allocation_2 ?_
  refine r_callV (n := 1) (As := [.int _]) (cell_30 _ _ _ _) (lvs_30 _) rfl (nc_X10_isDiagram X hst ad _ _) (fun _ h => h) rfl ⟨rfl, by decide, by decide, by decide +kernel⟩ w_170 w_171 w_172 w_121 w_173 rfl rfl (Nat.le_of_ble_eq_true rfl) ⟨by decide, by decide⟩ dX10_allocation_3 (fun v1 σ2 => ?_)
  refine r_if_eq 13 dX10_allocation_6 (by decide) ?_ ?_
  · refine r_iconst (1) (by decide) dX10_allocation_13 ?_
    exact r_sub [0, 1] rfl ((bj_X10_allocation_14 X hst ad) _ _ _)
  · refine r_iconst (0) (by decide) dX10_allocation_9 ?_
    refine r_goto 14 dX10_allocation_10 (by decide) ?_
    exact r_sub [0, 1] rfl ((bj_X10_allocation_14 X hst ad) _ _ _)
def j_X10_allocationAnew_26 (σ : Wd) (a1 : Int32) (s0 : Int32) : Option ((Int32 ⊕ String) × Wd) :=
  bd (wr σ 30 0 0 s0) fun σ3 =>
  if (σ3.1 30 0 0) ≤ 0 then
    bx (f_X10_decides σ3) fun v4 σ5 =>
    gd (inb a1 6) <|
    some (.inl (σ5.1 56 0 a1.toNatClampNeg), σ5)
  else
    some (.inl (0 : Int32), σ3)
def f_X10_allocationAnew (σ : Wd) (p0 : Int32) : Option ((Int32 ⊕ String) × Wd) :=
  bx (f_X10_isDiagram σ p0) fun v1 σ2 =>
  if v1 = 0 then
    j_X10_allocationAnew_26 σ2 p0 (1 : Int32)
  else
    if (σ2.1 30 0 19) ≤ (4 : Int32) then
      j_X10_allocationAnew_26 σ2 p0 (0 : Int32)
    else
      j_X10_allocationAnew_26 σ2 p0 (2 : Int32)
theorem bj_X10_allocationAnew_26 (X : Xt) (hst : X.1.stackTraces = false) (ad : Ad) (σ : Wd) (a1 : Int32) (s0 : Int32) : Bk X (fun a => a = ad) cX10_allocationAnew 2 RX10 (some (.int)) 4 89 vI (0, 0) (0, 0) ad σ 26 [(0, .ref (ad 30 0)), (1, .int a1)] [.int s0, .ref (ad 30 0)] (j_X10_allocationAnew_26 σ a1 s0) := by
  unfold j_X10_allocationAnew_26
  refine r_bd ?_
  refine r_putf 0 tyX10 tyX10_ok nmX10 (lvs_30 _) (cell_30 _ _ _ _) (wrc_30_0 _ _ _ _ _) rfl (by decide) (Nat.le_of_ble_eq_true rfl) in_11 w_117 rfl rfl rfl dX10_allocationAnew_26 ?_
  refine r_aload_n 0 rfl dX10_allocationAnew_29 ?_
  refine r_getf 0 (lvs_30 _) (cell_30 _ _ _ _) rfl (by decide) in_11 w_117 rfl dX10_allocationAnew_30 ?_
  refine r_if_le 38 dX10_allocationAnew_33 (by decide) ?_ ?_
  · refine r_aload_n 0 rfl dX10_allocationAnew_38 ?_
    refine r_callV (n := 0) (As := []) (cell_30 _ _ _ _) (lvs_30 _) rfl (nc_X10_decides X hst ad _) (fun _ h => h) rfl ⟨rfl, by decide, by decide, by decide +kernel⟩ w_211 w_212 w_213 w_121 w_214 rfl rfl (Nat.le_of_ble_eq_true rfl) ⟨by decide, by decide⟩ dX10_allocationAnew_39 (fun v4 σ5 => ?_)
    refine r_aload_n 0 rfl dX10_allocationAnew_42 ?_
    refine r_getf 32 (lvs_30 _) (cell_30 _ _ _ _) rfl (by decide) in_11 w_199 rfl dX10_allocationAnew_43 ?_
    refine r_iload_n 1 rfl dX10_allocationAnew_46 ?_
    refine r_gd (fun h1 => ?_)
    refine r_iaload (lvs_56 _) (cell_56 _ _ _ _) h1 dX10_allocationAnew_47 ?_
    exact r_iret rfl rfl rfl dX10_allocationAnew_48
  · refine r_iconst (0) (by decide) dX10_allocationAnew_36 ?_
    exact r_iret rfl rfl rfl dX10_allocationAnew_37
theorem nc_X10_allocationAnew (X : Xt) (hst : X.1.stackTraces = false) (ad : Ad) (σ : Wd) (p0 : Int32) : NC X (fun a => a = ad) yX10_allocationAnew cX10_allocationAnew 2 (some (.int)) 4 89 vI (0, 0) ad σ [.ref (ad 30 0), .int p0] (f_X10_allocationAnew σ p0) := by
  unfold f_X10_allocationAnew
  refine NC.intro RX10 rfl hst (by decide) (Nat.le_of_ble_eq_true rfl) (lv := [(0, .ref _), (1, .int _)]) rfl ?_
  refine r_aload_n 0 rfl dX10_allocationAnew_0 ?_
  refine r_aload_n 0 rfl dX10_allocationAnew_1 ?_
  refine r_iload_n 1 rfl dX10_allocationAnew_2 ?_
  refine r_callV (n := 1) (As := [.int _]) (cell_30 _ _ _ _) (lvs_30 _) rfl (nc_X10_isDiagram X hst ad _ _) (fun _ h => h) rfl ⟨rfl, by decide, by decide, by decide +kernel⟩ w_170 w_171 w_172 w_121 w_173 rfl rfl (Nat.le_of_ble_eq_true rfl) ⟨by decide, by decide⟩ dX10_allocationAnew_3 (fun v1 σ2 => ?_)
  refine r_if_ne 13 dX10_allocationAnew_6 (by decide) ?_ ?_
  · refine r_iconst (1) (by decide) dX10_allocationAnew_9 ?_
    refine r_goto 26 dX10_allocationAnew_10 (by decide) ?_
    exact r_sub [0, 1] rfl ((bj_X10_allocationAnew_26 X hst ad) _ _ _)
  · refine r_aload_n 0 rfl dX10_allocationAnew_13 ?_
    refine r_getf 19 (lvs_30 _) (cell_30 _ _ _ _) rfl (by decide) in_11 w_140 rfl dX10_allocationAnew_14 ?_
    refine r_iconst (4) (by decide) dX10_allocationAnew_17 ?_
    refine r_icmp_le 25 dX10_allocationAnew_18 (by decide) ?_ ?_
    · refine r_iconst (0) (by decide) dX10_allocationAnew_25 ?_
      exact r_sub [0, 1] rfl ((bj_X10_allocationAnew_26 X hst ad) _ _ _)
    · refine r_iconst (2) (by decide) dX10_allocationAnew_21 ?_
      refine r_goto 26 dX10_allocationAnew_22 (by decide) ?_
      exact r_sub [0, 1] rfl ((bj_X10_allocationAnew_26 X hst ad) _ _ _)
def f_X10_lack (σ : Wd) : Option ((Int32 ⊕ String) × Wd) :=
  bd (wr σ 30 0 0 (0 : Int32)) fun σ1 =>
  bx (f_X10_decides σ1) fun v2 σ3 =>
  some (.inl (σ3.1 30 0 37), σ3)
theorem nc_X10_lack (X : Xt) (hst : X.1.stackTraces = false) (ad : Ad) (σ : Wd) : NC X (fun a => a = ad) yX10_lack cX10_lack 1 (some (.int)) 4 89 vI (0, 0) ad σ [.ref (ad 30 0)] (f_X10_lack σ) := by
  unfold f_X10_lack
  refine NC.intro RX10 rfl hst (by decide) (Nat.le_of_ble_eq_true rfl) (lv := [(0, .ref _)]) rfl ?_
  refine r_aload_n 0 rfl dX10_lack_0 ?_
  refine r_iconst (0) (by decide) dX10_lack_1 ?_
  refine r_bd ?_
  refine r_putf 0 tyX10 tyX10_ok nmX10 (lvs_30 _) (cell_30 _ _ _ _) (wrc_30_0 _ _ _ _ _) rfl (by decide) (Nat.le_of_ble_eq_true rfl) in_11 w_117 rfl rfl rfl dX10_lack_2 ?_
  refine r_aload_n 0 rfl dX10_lack_5 ?_
  refine r_callV (n := 0) (As := []) (cell_30 _ _ _ _) (lvs_30 _) rfl (nc_X10_decides X hst ad _) (fun _ h => h) rfl ⟨rfl, by decide, by decide, by decide +kernel⟩ w_211 w_212 w_213 w_121 w_214 rfl rfl (Nat.le_of_ble_eq_true rfl) ⟨by decide, by decide⟩ dX10_lack_6 (fun v2 σ3 => ?_)
  refine r_aload_n 0 rfl dX10_lack_9 ?_
  refine r_getf 37 (lvs_30 _) (cell_30 _ _ _ _) rfl (by decide) in_11 w_196 rfl dX10_lack_10 ?_
  exact r_iret rfl rfl rfl dX10_lack_13
def l_X10_runs_78 : Nat → Wd → Int32 → Int32 → Int32 → Int32 → Option ((Unit ⊕ String) × Wd)
  | 0, _, _, _, _, _ => none
  | n + 1, σ, a4, a3, a1, a2 =>
  if (3 : Int32) ≤ a4 then
    some (.inl (), σ)
  else
    gd (inb (((3 : Int32) * a1) + a4) 18) <|
    bd (wr σ 35 0 (((3 : Int32) * a1) + a4).toNatClampNeg ((σ.1 35 0 (((3 : Int32) * a1) + a4).toNatClampNeg) + a2)) fun σ3 =>
    (l_X10_runs_78 n) σ3 (a4 + 1) a3 a1 a2
def j_X10_runs_32 (k12 : Wd → Int32 → Int32 → Int32 → Int32 → Option ((Unit ⊕ String) × Wd)) (σ : Wd) (a4 : Int32) (a3 : Int32) (a1 : Int32) (a2 : Int32) (s0 : Int32) : Option ((Unit ⊕ String) × Wd) :=
  gd (inb (((4 : Int32) * a1) + a4) 24) <|
  gd (¬ s0 = 0) <|
  gd (inb a1 6) <|
  gd (¬ s0 = 0) <|
  bd (wr σ 34 0 (((4 : Int32) * a1) + a4).toNatClampNeg ((σ.1 34 0 (((4 : Int32) * a1) + a4).toNatClampNeg) - ((a3 / s0) - ((σ.1 33 0 a1.toNatClampNeg) / s0)))) fun σ4 =>
  k12 σ4 (a4 + 1) a3 a1 a2
def l_X10_runs_12 : Nat → Wd → Int32 → Int32 → Int32 → Int32 → Option ((Unit ⊕ String) × Wd)
  | 0, _, _, _, _, _ => none
  | n + 1, σ, a4, a3, a1, a2 =>
  if (4 : Int32) ≤ a4 then
    gd (inb a1 6) <|
    bd (wr σ 33 0 a1.toNatClampNeg a3) fun σ2 =>
    l_X10_runs_78 FU σ2 (0 : Int32) a3 a1 a2
  else
    if a4 = 0 then
      j_X10_runs_32 (l_X10_runs_12 n) σ a4 a3 a1 a2 (300 : Int32)
    else
      j_X10_runs_32 (l_X10_runs_12 n) σ a4 a3 a1 a2 (500 : Int32)
def f_X10_runs (σ : Wd) (p0 : Int32) (p1 : Int32) : Option ((Unit ⊕ String) × Wd) :=
  gd (inb p0 6) <|
  bd (((σ.1 33 0 p0.toNatClampNeg) + p1)) fun x1 =>
  l_X10_runs_12 FU σ (0 : Int32) x1 p0 p1
theorem bl_X10_runs_78 (X : Xt) (hst : X.1.stackTraces = false) (ad : Ad) : ∀ (n : Nat) (σ : Wd) (a4 : Int32) (a3 : Int32) (a1 : Int32) (a2 : Int32), Bk X (fun a => a = ad) cX10_runs 6 RX10 none 0 0 vV (0, 0) (0, 0) ad σ 78 [(4, .int a4), (3, .int a3), (0, .ref (ad 30 0)), (1, .int a1), (2, .int a2)] [] (l_X10_runs_78 n σ a4 a3 a1 a2) := by
  intro n
  induction n with
  | zero => intros; exact r_none
  | succ n ih =>
  intro σ a4 a3 a1 a2
  rw [l_X10_runs_78]
  refine r_iload 0 rfl dX10_runs_78 ?_
  refine r_iconst (3) (by decide) dX10_runs_80 ?_
  refine r_icmp_ge 105 dX10_runs_81 (by decide) ?_ ?_
  · exact r_vret rfl rfl rfl dX10_runs_105
  · refine r_aload_n 2 rfl dX10_runs_84 ?_
    refine r_getf 10 (lvs_30 _) (cell_30 _ _ _ _) rfl (by decide) in_11 w_174 rfl dX10_runs_85 ?_
    refine r_iconst (3) (by decide) dX10_runs_88 ?_
    refine r_iload_n 3 rfl dX10_runs_89 ?_
    refine r_imul dX10_runs_90 ?_
    refine r_iload 0 rfl dX10_runs_91 ?_
    refine r_iadd dX10_runs_93 ?_
    refine r_dup2 rfl rfl dX10_runs_94 ?_
    refine r_gd (fun h3 => ?_)
    refine r_iaload (lvs_35 _) (cell_35 _ _ _ _) h3 dX10_runs_95 ?_
    refine r_iload_n 4 rfl dX10_runs_96 ?_
    refine r_iadd dX10_runs_97 ?_
    refine r_bd ?_
    refine r_iastore (lvs_35 _) (ia_35 _ _ _) h3 dX10_runs_98 ?_
    refine r_iinc (1) [(4, .int _), (3, .int _), (0, .ref _), (1, .int _), (2, .int _)] 0 rfl (by decide) rfl (by decide) dX10_runs_99 ?_
    refine r_goto 78 dX10_runs_102 (by decide) ?_
    exact r_sub [0, 1, 2, 3, 4] rfl (ih _ _ _ _ _)
theorem bj_X10_runs_32 (X : Xt) (hst : X.1.stackTraces = false) (ad : Ad) {k12 : Wd → Int32 → Int32 → Int32 → Int32 → Option ((Unit ⊕ String) × Wd)} (hk12 : ∀ (σ : Wd) (a4 : Int32) (a3 : Int32) (a1 : Int32) (a2 : Int32), Bk X (fun a => a = ad) cX10_runs 6 RX10 none 0 0 vV (0, 0) (0, 0) ad σ 12 [(4, .int a4), (3, .int a3), (0, .ref (ad 30 0)), (1, .int a1), (2, .int a2)] [] (k12 σ a4 a3 a1 a2)) (σ : Wd) (a4 : Int32) (a3 : Int32) (a1 : Int32) (a2 : Int32) (s0 : Int32) : Bk X (fun a => a = ad) cX10_runs 6 RX10 none 0 0 vV (0, 0) (0, 0) ad σ 32 [(4, .int a4), (3, .int a3), (0, .ref (ad 30 0)), (1, .int a1), (2, .int a2)] [.int s0] (j_X10_runs_32 k12 σ a4 a3 a1 a2 s0) := by
  unfold j_X10_runs_32
  refine r_istore [(5, .int _), (4, .int _), (3, .int _), (0, .ref _), (1, .int _), (2, .int _)] rfl (by decide) dX10_runs_32 ?_
  refine r_aload_n 3 rfl dX10_runs_34 ?_
  refine r_getf 9 (lvs_30 _) (cell_30 _ _ _ _) rfl (by decide) in_11 w_137 rfl dX10_runs_35 ?_
  refine r_iconst (4) (by decide) dX10_runs_38 ?_
  refine r_iload_n 4 rfl dX10_runs_39 ?_
  refine r_imul dX10_runs_40 ?_
  refine r_iload 1 rfl dX10_runs_41 ?_
  refine r_iadd dX10_runs_43 ?_
  refine r_dup2 rfl rfl dX10_runs_44 ?_
  refine r_gd (fun h4 => ?_)
  refine r_iaload (lvs_34 _) (cell_34 _ _ _ _) h4 dX10_runs_45 ?_
  refine r_iload_n 2 rfl dX10_runs_46 ?_
  refine r_iload 0 rfl dX10_runs_47 ?_
  refine r_gd (fun h5 => ?_)
  refine r_idiv h5 dX10_runs_49 ?_
  refine r_aload_n 3 rfl dX10_runs_50 ?_
  refine r_getf 8 (lvs_30 _) (cell_30 _ _ _ _) rfl (by decide) in_11 w_127 rfl dX10_runs_51 ?_
  refine r_iload_n 4 rfl dX10_runs_54 ?_
  refine r_gd (fun h6 => ?_)
  refine r_iaload (lvs_33 _) (cell_33 _ _ _ _) h6 dX10_runs_55 ?_
  refine r_iload 0 rfl dX10_runs_56 ?_
  refine r_gd (fun h7 => ?_)
  refine r_idiv h7 dX10_runs_58 ?_
  refine r_isub dX10_runs_59 ?_
  refine r_isub dX10_runs_60 ?_
  refine r_bd ?_
  refine r_iastore (lvs_34 _) (ia_34 _ _ _) h4 dX10_runs_61 ?_
  refine r_iinc (1) [(4, .int _), (5, .int _), (3, .int _), (0, .ref _), (1, .int _), (2, .int _)] 1 rfl (by decide) rfl (by decide) dX10_runs_62 ?_
  refine r_goto 12 dX10_runs_65 (by decide) ?_
  exact r_sub [0, 2, 3, 4, 5] rfl (hk12 _ _ _ _ _)
theorem bl_X10_runs_12 (X : Xt) (hst : X.1.stackTraces = false) (ad : Ad) : ∀ (n : Nat) (σ : Wd) (a4 : Int32) (a3 : Int32) (a1 : Int32) (a2 : Int32), Bk X (fun a => a = ad) cX10_runs 6 RX10 none 0 0 vV (0, 0) (0, 0) ad σ 12 [(4, .int a4), (3, .int a3), (0, .ref (ad 30 0)), (1, .int a1), (2, .int a2)] [] (l_X10_runs_12 n σ a4 a3 a1 a2) := by
  intro n
  induction n with
  | zero => intros; exact r_none
  | succ n ih =>
  intro σ a4 a3 a1 a2
  rw [l_X10_runs_12]
  refine r_iload 0 rfl dX10_runs_12 ?_
  refine r_iconst (4) (by decide) dX10_runs_14 ?_
  refine r_icmp_ge 68 dX10_runs_15 (by decide) ?_ ?_
  · refine r_aload_n 2 rfl dX10_runs_68 ?_
    refine r_getf 8 (lvs_30 _) (cell_30 _ _ _ _) rfl (by decide) in_11 w_127 rfl dX10_runs_69 ?_
    refine r_iload_n 3 rfl dX10_runs_72 ?_
    refine r_iload_n 1 rfl dX10_runs_73 ?_
    refine r_gd (fun h2 => ?_)
    refine r_bd ?_
    refine r_iastore (lvs_33 _) (ia_33 _ _ _) h2 dX10_runs_74 ?_
    refine r_iconst (0) (by decide) dX10_runs_75 ?_
    refine r_istore [(4, .int _), (3, .int _), (0, .ref _), (1, .int _), (2, .int _)] rfl (by decide) dX10_runs_76 ?_
    exact r_sub [0, 1, 2, 3, 4] rfl ((bl_X10_runs_78 X hst ad FU) _ _ _ _ _)
  · refine r_iload 0 rfl dX10_runs_18 ?_
    refine r_if_ne 29 dX10_runs_20 (by decide) ?_ ?_
    · refine r_sipush (300) (by decide) dX10_runs_23 ?_
      refine r_goto 32 dX10_runs_26 (by decide) ?_
      exact r_sub [0, 1, 2, 3, 4] rfl ((bj_X10_runs_32 X hst ad ih) _ _ _ _ _ _)
    · refine r_sipush (500) (by decide) dX10_runs_29 ?_
      exact r_sub [0, 1, 2, 3, 4] rfl ((bj_X10_runs_32 X hst ad ih) _ _ _ _ _ _)
theorem nc_X10_runs (X : Xt) (hst : X.1.stackTraces = false) (ad : Ad) (σ : Wd) (p0 : Int32) (p1 : Int32) : NC X (fun a => a = ad) yX10_runs cX10_runs 6 none 0 0 vV (0, 0) ad σ [.ref (ad 30 0), .int p0, .int p1] (f_X10_runs σ p0 p1) := by
  unfold f_X10_runs
  refine NC.intro RX10 rfl hst (by decide) (Nat.le_of_ble_eq_true rfl) (lv := [(0, .ref _), (1, .int _), (2, .int _)]) rfl ?_
  refine r_aload_n 0 rfl dX10_runs_0 ?_
  refine r_getf 8 (lvs_30 _) (cell_30 _ _ _ _) rfl (by decide) in_11 w_127 rfl dX10_runs_1 ?_
  refine r_iload_n 1 rfl dX10_runs_4 ?_
  refine r_gd (fun h1 => ?_)
  refine r_iaload (lvs_33 _) (cell_33 _ _ _ _) h1 dX10_runs_5 ?_
  refine r_iload_n 2 rfl dX10_runs_6 ?_
  refine r_iadd dX10_runs_7 ?_
  refine r_bd ?_
  refine r_istore_n [(3, .int _), (0, .ref _), (1, .int _), (2, .int _)] rfl (by decide) dX10_runs_8 ?_
  refine r_iconst (0) (by decide) dX10_runs_9 ?_
  refine r_istore [(4, .int _), (3, .int _), (0, .ref _), (1, .int _), (2, .int _)] rfl (by decide) dX10_runs_10 ?_
  exact r_sub [0, 1, 2, 3, 4] rfl ((bl_X10_runs_12 X hst ad FU) _ _ _ _ _)
def l_X10_placeOf_10 : Nat → Wd → Int32 → Int32 → Option ((Int32 ⊕ String) × Wd)
  | 0, _, _, _ => none
  | n + 1, σ, a2, a1 =>
  gd (inb a2 18) <|
  if (σ.1 37 0 a2.toNatClampNeg) = a1 then
    gd (inb a1 6) <|
    some (.inl (a2 - ((6 : Int32) * (σ.1 31 0 a1.toNatClampNeg))), σ)
  else
    (l_X10_placeOf_10 n) σ (a2 + 1) a1
def f_X10_placeOf (σ : Wd) (p0 : Int32) : Option ((Int32 ⊕ String) × Wd) :=
  gd (inb p0 6) <|
  bd (((6 : Int32) * (σ.1 31 0 p0.toNatClampNeg))) fun x1 =>
  l_X10_placeOf_10 FU σ x1 p0
theorem bl_X10_placeOf_10 (X : Xt) (hst : X.1.stackTraces = false) (ad : Ad) : ∀ (n : Nat) (σ : Wd) (a2 : Int32) (a1 : Int32), Bk X (fun a => a = ad) cX10_placeOf 3 RX10 (some (.int)) 0 0 vI (0, 0) (0, 0) ad σ 10 [(2, .int a2), (0, .ref (ad 30 0)), (1, .int a1)] [] (l_X10_placeOf_10 n σ a2 a1) := by
  intro n
  induction n with
  | zero => intros; exact r_none
  | succ n ih =>
  intro σ a2 a1
  rw [l_X10_placeOf_10]
  refine r_aload_n 1 rfl dX10_placeOf_10 ?_
  refine r_getf 12 (lvs_30 _) (cell_30 _ _ _ _) rfl (by decide) in_11 w_131 rfl dX10_placeOf_11 ?_
  refine r_iload_n 0 rfl dX10_placeOf_14 ?_
  refine r_gd (fun h2 => ?_)
  refine r_iaload (lvs_37 _) (cell_37 _ _ _ _) h2 dX10_placeOf_15 ?_
  refine r_iload_n 2 rfl dX10_placeOf_16 ?_
  refine r_icmp_eq 26 dX10_placeOf_17 (by decide) ?_ ?_
  · refine r_iload_n 0 rfl dX10_placeOf_26 ?_
    refine r_bipush (6) (by decide) dX10_placeOf_27 ?_
    refine r_aload_n 1 rfl dX10_placeOf_29 ?_
    refine r_getf 6 (lvs_30 _) (cell_30 _ _ _ _) rfl (by decide) in_11 w_130 rfl dX10_placeOf_30 ?_
    refine r_iload_n 2 rfl dX10_placeOf_33 ?_
    refine r_gd (fun h3 => ?_)
    refine r_iaload (lvs_31 _) (cell_31 _ _ _ _) h3 dX10_placeOf_34 ?_
    refine r_imul dX10_placeOf_35 ?_
    refine r_isub dX10_placeOf_36 ?_
    exact r_iret rfl rfl rfl dX10_placeOf_37
  · refine r_iinc (1) [(2, .int _), (0, .ref _), (1, .int _)] 0 rfl (by decide) rfl (by decide) dX10_placeOf_20 ?_
    refine r_goto 10 dX10_placeOf_23 (by decide) ?_
    exact r_sub [0, 1, 2] rfl (ih _ _ _)
theorem nc_X10_placeOf (X : Xt) (hst : X.1.stackTraces = false) (ad : Ad) (σ : Wd) (p0 : Int32) : NC X (fun a => a = ad) yX10_placeOf cX10_placeOf 3 (some (.int)) 0 0 vI (0, 0) ad σ [.ref (ad 30 0), .int p0] (f_X10_placeOf σ p0) := by
  unfold f_X10_placeOf
  refine NC.intro RX10 rfl hst (by decide) (Nat.le_of_ble_eq_true rfl) (lv := [(0, .ref _), (1, .int _)]) rfl ?_
  refine r_bipush (6) (by decide) dX10_placeOf_0 ?_
  refine r_aload_n 0 rfl dX10_placeOf_2 ?_
  refine r_getf 6 (lvs_30 _) (cell_30 _ _ _ _) rfl (by decide) in_11 w_130 rfl dX10_placeOf_3 ?_
  refine r_iload_n 1 rfl dX10_placeOf_6 ?_
  refine r_gd (fun h1 => ?_)
  refine r_iaload (lvs_31 _) (cell_31 _ _ _ _) h1 dX10_placeOf_7 ?_
  refine r_imul dX10_placeOf_8 ?_
  refine r_bd ?_
  refine r_istore_n [(2, .int _), (0, .ref _), (1, .int _)] rfl (by decide) dX10_placeOf_9 ?_
  exact r_sub [0, 1, 2] rfl ((bl_X10_placeOf_10 X hst ad FU) _ _ _)
def l_X10_leaves_35 : Nat → Wd → Int32 → Int32 → Int32 → Int32 → Option ((Unit ⊕ String) × Wd)
  | 0, _, _, _, _, _ => none
  | n + 1, σ, a4, a3, a2, a1 =>
  gd (inb a2 3) <|
  if ((σ.1 38 0 a2.toNatClampNeg) - (1 : Int32)) ≤ a4 then
    bd (wr σ 38 0 a2.toNatClampNeg ((σ.1 38 0 a2.toNatClampNeg) - (1 : Int32))) fun σ5 =>
    some (.inl (), σ5)
  else
    gd (inb ((((6 : Int32) * a2) + a4) + (1 : Int32)) 18) <|
    gd (inb (((6 : Int32) * a2) + a4) 18) <|
    bd (wr σ 37 0 (((6 : Int32) * a2) + a4).toNatClampNeg (σ.1 37 0 ((((6 : Int32) * a2) + a4) + (1 : Int32)).toNatClampNeg)) fun σ6 =>
    (l_X10_leaves_35 n) σ6 (a4 + 1) a3 a2 a1
def f_X10_leaves (σ : Wd) (p0 : Int32) : Option ((Unit ⊕ String) × Wd) :=
  gd (inb p0 6) <|
  bd ((σ.1 31 0 p0.toNatClampNeg)) fun x1 =>
  bx (f_X10_placeOf σ p0) fun v2 σ3 =>
  gd (inb x1 3) <|
  bd (wr σ3 30 0 2 ((σ3.1 30 0 2) + (((σ3.1 38 0 x1.toNatClampNeg) - (1 : Int32)) - v2))) fun σ4 =>
  l_X10_leaves_35 FU σ4 v2 v2 x1 p0
theorem bl_X10_leaves_35 (X : Xt) (hst : X.1.stackTraces = false) (ad : Ad) : ∀ (n : Nat) (σ : Wd) (a4 : Int32) (a3 : Int32) (a2 : Int32) (a1 : Int32), Bk X (fun a => a = ad) cX10_leaves 5 RX10 none 1 22 vV (0, 0) (0, 0) ad σ 35 [(4, .int a4), (3, .int a3), (2, .int a2), (0, .ref (ad 30 0)), (1, .int a1)] [] (l_X10_leaves_35 n σ a4 a3 a2 a1) := by
  intro n
  induction n with
  | zero => intros; exact r_none
  | succ n ih =>
  intro σ a4 a3 a2 a1
  rw [l_X10_leaves_35]
  refine r_iload 0 rfl dX10_leaves_35 ?_
  refine r_aload_n 3 rfl dX10_leaves_37 ?_
  refine r_getf 13 (lvs_30 _) (cell_30 _ _ _ _) rfl (by decide) in_11 w_132 rfl dX10_leaves_38 ?_
  refine r_iload_n 2 rfl dX10_leaves_41 ?_
  refine r_gd (fun h3 => ?_)
  refine r_iaload (lvs_38 _) (cell_38 _ _ _ _) h3 dX10_leaves_42 ?_
  refine r_iconst (1) (by decide) dX10_leaves_43 ?_
  refine r_isub dX10_leaves_44 ?_
  refine r_icmp_ge 80 dX10_leaves_45 (by decide) ?_ ?_
  · refine r_aload_n 3 rfl dX10_leaves_80 ?_
    refine r_getf 13 (lvs_30 _) (cell_30 _ _ _ _) rfl (by decide) in_11 w_132 rfl dX10_leaves_81 ?_
    refine r_iload_n 2 rfl dX10_leaves_84 ?_
    refine r_dup2 rfl rfl dX10_leaves_85 ?_
    refine r_iaload (lvs_38 _) (cell_38 _ _ _ _) h3 dX10_leaves_86 ?_
    refine r_iconst (1) (by decide) dX10_leaves_87 ?_
    refine r_isub dX10_leaves_88 ?_
    refine r_bd ?_
    refine r_iastore (lvs_38 _) (ia_38 _ _ _) h3 dX10_leaves_89 ?_
    exact r_vret rfl rfl rfl dX10_leaves_90
  · refine r_aload_n 3 rfl dX10_leaves_48 ?_
    refine r_getf 12 (lvs_30 _) (cell_30 _ _ _ _) rfl (by decide) in_11 w_131 rfl dX10_leaves_49 ?_
    refine r_bipush (6) (by decide) dX10_leaves_52 ?_
    refine r_iload_n 2 rfl dX10_leaves_54 ?_
    refine r_imul dX10_leaves_55 ?_
    refine r_iload 0 rfl dX10_leaves_56 ?_
    refine r_iadd dX10_leaves_58 ?_
    refine r_aload_n 3 rfl dX10_leaves_59 ?_
    refine r_getf 12 (lvs_30 _) (cell_30 _ _ _ _) rfl (by decide) in_11 w_131 rfl dX10_leaves_60 ?_
    refine r_bipush (6) (by decide) dX10_leaves_63 ?_
    refine r_iload_n 2 rfl dX10_leaves_65 ?_
    refine r_imul dX10_leaves_66 ?_
    refine r_iload 0 rfl dX10_leaves_67 ?_
    refine r_iadd dX10_leaves_69 ?_
    refine r_iconst (1) (by decide) dX10_leaves_70 ?_
    refine r_iadd dX10_leaves_71 ?_
    refine r_gd (fun h4 => ?_)
    refine r_iaload (lvs_37 _) (cell_37 _ _ _ _) h4 dX10_leaves_72 ?_
    refine r_gd (fun h5 => ?_)
    refine r_bd ?_
    refine r_iastore (lvs_37 _) (ia_37 _ _ _) h5 dX10_leaves_73 ?_
    refine r_iinc (1) [(4, .int _), (3, .int _), (2, .int _), (0, .ref _), (1, .int _)] 0 rfl (by decide) rfl (by decide) dX10_leaves_74 ?_
    refine r_goto 35 dX10_leaves_77 (by decide) ?_
    exact r_sub [0, 1, 2, 3, 4] rfl (ih _ _ _ _ _)
theorem nc_X10_leaves (X : Xt) (hst : X.1.stackTraces = false) (ad : Ad) (σ : Wd) (p0 : Int32) : NC X (fun a => a = ad) yX10_leaves cX10_leaves 5 none 1 22 vV (0, 0) ad σ [.ref (ad 30 0), .int p0] (f_X10_leaves σ p0) := by
  unfold f_X10_leaves
  refine NC.intro RX10 rfl hst (by decide) (Nat.le_of_ble_eq_true rfl) (lv := [(0, .ref _), (1, .int _)]) rfl ?_
  refine r_aload_n 0 rfl dX10_leaves_0 ?_
  refine r_getf 6 (lvs_30 _) (cell_30 _ _ _ _) rfl (by decide) in_11 w_130 rfl dX10_leaves_1 ?_
  refine r_iload_n 1 rfl dX10_leaves_4 ?_
  refine r_gd (fun h1 => ?_)
  refine r_iaload (lvs_31 _) (cell_31 _ _ _ _) h1 dX10_leaves_5 ?_
  refine r_bd ?_
  refine r_istore_n [(2, .int _), (0, .ref _), (1, .int _)] rfl (by decide) dX10_leaves_6 ?_
  refine r_aload_n 1 rfl dX10_leaves_7 ?_
  refine r_iload_n 2 rfl dX10_leaves_8 ?_
  refine r_callV (n := 1) (As := [.int _]) (cell_30 _ _ _ _) (lvs_30 _) rfl (nc_X10_placeOf X hst ad _ _) (fun _ h => h) rfl ⟨rfl, by decide, by decide, by decide +kernel⟩ w_222 w_223 w_224 w_121 w_225 rfl rfl (Nat.le_of_ble_eq_true rfl) ⟨by decide, by decide⟩ dX10_leaves_9 (fun v2 σ3 => ?_)
  refine r_istore_n [(3, .int _), (2, .int _), (0, .ref _), (1, .int _)] rfl (by decide) dX10_leaves_12 ?_
  refine r_aload_n 2 rfl dX10_leaves_13 ?_
  refine r_dup rfl dX10_leaves_14 ?_
  refine r_getf 2 (lvs_30 _) (cell_30 _ _ _ _) rfl (by decide) in_11 w_226 rfl dX10_leaves_15 ?_
  refine r_aload_n 2 rfl dX10_leaves_18 ?_
  refine r_getf 13 (lvs_30 _) (cell_30 _ _ _ _) rfl (by decide) in_11 w_132 rfl dX10_leaves_19 ?_
  refine r_iload_n 1 rfl dX10_leaves_22 ?_
  refine r_gd (fun h2 => ?_)
  refine r_iaload (lvs_38 _) (cell_38 _ _ _ _) h2 dX10_leaves_23 ?_
  refine r_iconst (1) (by decide) dX10_leaves_24 ?_
  refine r_isub dX10_leaves_25 ?_
  refine r_iload_n 0 rfl dX10_leaves_26 ?_
  refine r_isub dX10_leaves_27 ?_
  refine r_iadd dX10_leaves_28 ?_
  refine r_bd ?_
  refine r_putf 2 tyX10 tyX10_ok nmX10 (lvs_30 _) (cell_30 _ _ _ _) (wrc_30_2 _ _ _ _ _) rfl (by decide) (Nat.le_of_ble_eq_true rfl) in_11 w_226 rfl rfl rfl dX10_leaves_29 ?_
  refine r_iload_n 0 rfl dX10_leaves_32 ?_
  refine r_istore [(4, .int _), (3, .int _), (2, .int _), (0, .ref _), (1, .int _)] rfl (by decide) dX10_leaves_33 ?_
  exact r_sub [0, 1, 2, 3, 4] rfl ((bl_X10_leaves_35 X hst ad FU) _ _ _ _ _)
def l_X10_day_149 : Nat → Wd → Int32 → Option ((Int32 ⊕ String) × Wd)
  | 0, _, _ => none
  | n + 1, σ, a1 =>
  if ((3 : Int32) * (σ.1 30 0 5)) ≤ a1 then
    bd (wr σ 30 0 3 (0 : Int32)) fun σ4 =>
    bd (wr σ4 30 0 4 (0 : Int32)) fun σ5 =>
    bd (wr σ5 30 0 1 ((σ5.1 30 0 1) + (1 : Int32))) fun σ6 =>
    some (.inl (σ6.1 30 0 37), σ6)
  else
    gd (inb a1 18) <|
    bd (wr σ 36 0 a1.toNatClampNeg ((σ.1 36 0 a1.toNatClampNeg) + (1 : Int32))) fun σ7 =>
    (l_X10_day_149 n) σ7 (a1 + 1)
def l_X10_day_91 : Nat → Wd → Int32 → Option ((Int32 ⊕ String) × Wd)
  | 0, _, _ => none
  | n + 1, σ, a1 =>
  if (σ.1 30 0 19) ≤ a1 then
    l_X10_day_149 FU σ (0 : Int32)
  else
    gd (inb a1 6) <|
    if (σ.1 56 0 a1.toNatClampNeg) = (-1 : Int32) then
      (l_X10_day_91 n) σ (a1 + 1)
    else
      bx (f_X10_comes σ (σ.1 56 0 a1.toNatClampNeg) (σ.1 45 0 a1.toNatClampNeg)) fun v8 σ9 =>
      bx (f_X10_runs σ9 (σ9.1 56 0 a1.toNatClampNeg) (σ9.1 46 0 a1.toNatClampNeg)) fun v10 σ11 =>
      (l_X10_day_91 n) σ11 (a1 + 1)
def l_X10_day_34 : Nat → Wd → Int32 → Option ((Int32 ⊕ String) × Wd)
  | 0, _, _ => none
  | n + 1, σ, a1 =>
  if (σ.1 30 0 19) ≤ a1 then
    l_X10_day_91 FU σ (0 : Int32)
  else
    gd (inb a1 6) <|
    gd (inb (((200 : Int32) * a1) + (σ.1 30 0 1)) 1200) <|
    bd (wr σ 55 0 (((200 : Int32) * a1) + (σ.1 30 0 1)).toNatClampNeg (σ.1 56 0 a1.toNatClampNeg)) fun σ12 =>
    if (σ12.1 56 0 a1.toNatClampNeg) = (-1 : Int32) then
      (l_X10_day_34 n) σ12 (a1 + 1)
    else
      bx (f_X10_leaves σ12 (σ12.1 56 0 a1.toNatClampNeg)) fun v13 σ14 =>
      (l_X10_day_34 n) σ14 (a1 + 1)
def j_X10_day_16 (σ : Wd) (s0 : Int32) : Option ((Int32 ⊕ String) × Wd) :=
  bd (wr σ 30 0 0 s0) fun σ1 =>
  if (σ1.1 30 0 0) ≤ 0 then
    bx (f_X10_decides σ1) fun v2 σ3 =>
    l_X10_day_34 FU σ3 (0 : Int32)
  else
    some (.inl (0 : Int32), σ1)
def f_X10_day (σ : Wd) : Option ((Int32 ⊕ String) × Wd) :=
  if (σ.1 30 0 1) = (200 : Int32) then
    j_X10_day_16 σ (1 : Int32)
  else
    j_X10_day_16 σ (0 : Int32)
theorem bl_X10_day_149 (X : Xt) (hst : X.1.stackTraces = false) (ad : Ad) : ∀ (n : Nat) (σ : Wd) (a1 : Int32), Bk X (fun a => a = ad) cX10_day 2 RX10 (some (.int)) 4 89 vI (0, 0) (0, 0) ad σ 149 [(1, .int a1), (0, .ref (ad 30 0))] [] (l_X10_day_149 n σ a1) := by
  intro n
  induction n with
  | zero => intros; exact r_none
  | succ n ih =>
  intro σ a1
  rw [l_X10_day_149]
  refine r_iload_n 0 rfl dX10_day_149 ?_
  refine r_iconst (3) (by decide) dX10_day_150 ?_
  refine r_aload_n 1 rfl dX10_day_151 ?_
  refine r_getf 5 (lvs_30 _) (cell_30 _ _ _ _) rfl (by decide) in_11 w_128 rfl dX10_day_152 ?_
  refine r_imul dX10_day_155 ?_
  refine r_icmp_ge 175 dX10_day_156 (by decide) ?_ ?_
  · refine r_aload_n 1 rfl dX10_day_175 ?_
    refine r_iconst (0) (by decide) dX10_day_176 ?_
    refine r_bd ?_
    refine r_putf 3 tyX10 tyX10_ok nmX10 (lvs_30 _) (cell_30 _ _ _ _) (wrc_30_3 _ _ _ _ _) rfl (by decide) (Nat.le_of_ble_eq_true rfl) in_11 w_215 rfl rfl rfl dX10_day_177 ?_
    refine r_aload_n 1 rfl dX10_day_180 ?_
    refine r_iconst (0) (by decide) dX10_day_181 ?_
    refine r_bd ?_
    refine r_putf 4 tyX10 tyX10_ok nmX10 (lvs_30 _) (cell_30 _ _ _ _) (wrc_30_4 _ _ _ _ _) rfl (by decide) (Nat.le_of_ble_eq_true rfl) in_11 w_216 rfl rfl rfl dX10_day_182 ?_
    refine r_aload_n 1 rfl dX10_day_185 ?_
    refine r_dup rfl dX10_day_186 ?_
    refine r_getf 1 (lvs_30 _) (cell_30 _ _ _ _) rfl (by decide) in_11 w_167 rfl dX10_day_187 ?_
    refine r_iconst (1) (by decide) dX10_day_190 ?_
    refine r_iadd dX10_day_191 ?_
    refine r_bd ?_
    refine r_putf 1 tyX10 tyX10_ok nmX10 (lvs_30 _) (cell_30 _ _ _ _) (wrc_30_1 _ _ _ _ _) rfl (by decide) (Nat.le_of_ble_eq_true rfl) in_11 w_167 rfl rfl rfl dX10_day_192 ?_
    refine r_aload_n 1 rfl dX10_day_195 ?_
    refine r_getf 37 (lvs_30 _) (cell_30 _ _ _ _) rfl (by decide) in_11 w_196 rfl dX10_day_196 ?_
    exact r_iret rfl rfl rfl dX10_day_199
  · refine r_aload_n 1 rfl dX10_day_159 ?_
    refine r_getf 11 (lvs_30 _) (cell_30 _ _ _ _) rfl (by decide) in_11 w_175 rfl dX10_day_160 ?_
    refine r_iload_n 0 rfl dX10_day_163 ?_
    refine r_dup2 rfl rfl dX10_day_164 ?_
    refine r_gd (fun h1 => ?_)
    refine r_iaload (lvs_36 _) (cell_36 _ _ _ _) h1 dX10_day_165 ?_
    refine r_iconst (1) (by decide) dX10_day_166 ?_
    refine r_iadd dX10_day_167 ?_
    refine r_bd ?_
    refine r_iastore (lvs_36 _) (ia_36 _ _ _) h1 dX10_day_168 ?_
    refine r_iinc (1) [(1, .int _), (0, .ref _)] 0 rfl (by decide) rfl (by decide) dX10_day_169 ?_
    refine r_goto 149 dX10_day_172 (by decide) ?_
    exact r_sub [0, 1] rfl (ih _ _)
theorem bl_X10_day_91 (X : Xt) (hst : X.1.stackTraces = false) (ad : Ad) : ∀ (n : Nat) (σ : Wd) (a1 : Int32), Bk X (fun a => a = ad) cX10_day 2 RX10 (some (.int)) 4 89 vI (0, 0) (0, 0) ad σ 91 [(1, .int a1), (0, .ref (ad 30 0))] [] (l_X10_day_91 n σ a1) := by
  intro n
  induction n with
  | zero => intros; exact r_none
  | succ n ih =>
  intro σ a1
  rw [l_X10_day_91]
  refine r_iload_n 0 rfl dX10_day_91 ?_
  refine r_aload_n 1 rfl dX10_day_92 ?_
  refine r_getf 19 (lvs_30 _) (cell_30 _ _ _ _) rfl (by decide) in_11 w_140 rfl dX10_day_93 ?_
  refine r_icmp_ge 147 dX10_day_96 (by decide) ?_ ?_
  · refine r_iconst (0) (by decide) dX10_day_147 ?_
    refine r_istore_n [(1, .int _), (0, .ref _)] rfl (by decide) dX10_day_148 ?_
    exact r_sub [0, 1] rfl ((bl_X10_day_149 X hst ad FU) _ _)
  · refine r_aload_n 1 rfl dX10_day_99 ?_
    refine r_getf 32 (lvs_30 _) (cell_30 _ _ _ _) rfl (by decide) in_11 w_199 rfl dX10_day_100 ?_
    refine r_iload_n 0 rfl dX10_day_103 ?_
    refine r_gd (fun h2 => ?_)
    refine r_iaload (lvs_56 _) (cell_56 _ _ _ _) h2 dX10_day_104 ?_
    refine r_iconst (-1) (by decide) dX10_day_105 ?_
    refine r_icmp_eq 141 dX10_day_106 (by decide) ?_ ?_
    · refine r_iinc (1) [(1, .int _), (0, .ref _)] 0 rfl (by decide) rfl (by decide) dX10_day_141 ?_
      refine r_goto 91 dX10_day_144 (by decide) ?_
      exact r_sub [0, 1] rfl (ih _ _)
    · refine r_aload_n 1 rfl dX10_day_109 ?_
      refine r_aload_n 1 rfl dX10_day_110 ?_
      refine r_getf 32 (lvs_30 _) (cell_30 _ _ _ _) rfl (by decide) in_11 w_199 rfl dX10_day_111 ?_
      refine r_iload_n 0 rfl dX10_day_114 ?_
      refine r_iaload (lvs_56 _) (cell_56 _ _ _ _) h2 dX10_day_115 ?_
      refine r_aload_n 1 rfl dX10_day_116 ?_
      refine r_getf 21 (lvs_30 _) (cell_30 _ _ _ _) rfl (by decide) in_11 w_141 rfl dX10_day_117 ?_
      refine r_iload_n 0 rfl dX10_day_120 ?_
      refine r_iaload (lvs_45 _) (cell_45 _ _ _ _) h2 dX10_day_121 ?_
      refine r_callV (n := 2) (As := [.int _, .int _]) (cell_30 _ _ _ _) (lvs_30 _) rfl (nc_X10_comes X hst ad _ _ _) (fun _ h => h) rfl ⟨rfl, by decide, by decide, by decide +kernel⟩ w_133 w_134 w_135 w_121 w_136 rfl rfl (Nat.le_of_ble_eq_true rfl) ⟨by decide, by decide⟩ dX10_day_122 (fun v8 σ9 => ?_)
      refine r_aload_n 1 rfl dX10_day_125 ?_
      refine r_aload_n 1 rfl dX10_day_126 ?_
      refine r_getf 32 (lvs_30 _) (cell_30 _ _ _ _) rfl (by decide) in_11 w_199 rfl dX10_day_127 ?_
      refine r_iload_n 0 rfl dX10_day_130 ?_
      refine r_iaload (lvs_56 _) (cell_56 _ _ _ _) h2 dX10_day_131 ?_
      refine r_aload_n 1 rfl dX10_day_132 ?_
      refine r_getf 22 (lvs_30 _) (cell_30 _ _ _ _) rfl (by decide) in_11 w_142 rfl dX10_day_133 ?_
      refine r_iload_n 0 rfl dX10_day_136 ?_
      refine r_iaload (lvs_46 _) (cell_46 _ _ _ _) h2 dX10_day_137 ?_
      refine r_callV (n := 2) (As := [.int _, .int _]) (cell_30 _ _ _ _) (lvs_30 _) rfl (nc_X10_runs X hst ad _ _ _) (fun _ h => h) rfl ⟨rfl, by decide, by decide, by decide +kernel⟩ w_217 w_218 w_219 w_121 w_220 rfl rfl (Nat.le_of_ble_eq_true rfl) ⟨by decide, by decide⟩ dX10_day_138 (fun v10 σ11 => ?_)
      refine r_iinc (1) [(1, .int _), (0, .ref _)] 0 rfl (by decide) rfl (by decide) dX10_day_141 ?_
      refine r_goto 91 dX10_day_144 (by decide) ?_
      exact r_sub [0, 1] rfl (ih _ _)
theorem bl_X10_day_34 (X : Xt) (hst : X.1.stackTraces = false) (ad : Ad) : ∀ (n : Nat) (σ : Wd) (a1 : Int32), Bk X (fun a => a = ad) cX10_day 2 RX10 (some (.int)) 4 89 vI (0, 0) (0, 0) ad σ 34 [(1, .int a1), (0, .ref (ad 30 0))] [] (l_X10_day_34 n σ a1) := by
  intro n
  induction n with
  | zero => intros; exact r_none
  | succ n ih =>
  intro σ a1
  rw [l_X10_day_34]
  refine r_iload_n 0 rfl dX10_day_34 ?_
  refine r_aload_n 1 rfl dX10_day_35 ?_
  refine r_getf 19 (lvs_30 _) (cell_30 _ _ _ _) rfl (by decide) in_11 w_140 rfl dX10_day_36 ?_
  refine r_icmp_ge 89 dX10_day_39 (by decide) ?_ ?_
  · refine r_iconst (0) (by decide) dX10_day_89 ?_
    refine r_istore_n [(1, .int _), (0, .ref _)] rfl (by decide) dX10_day_90 ?_
    exact r_sub [0, 1] rfl ((bl_X10_day_91 X hst ad FU) _ _)
  · refine r_aload_n 1 rfl dX10_day_42 ?_
    refine r_getf 31 (lvs_30 _) (cell_30 _ _ _ _) rfl (by decide) in_11 w_221 rfl dX10_day_43 ?_
    refine r_sipush (200) (by decide) dX10_day_46 ?_
    refine r_iload_n 0 rfl dX10_day_49 ?_
    refine r_imul dX10_day_50 ?_
    refine r_aload_n 1 rfl dX10_day_51 ?_
    refine r_getf 1 (lvs_30 _) (cell_30 _ _ _ _) rfl (by decide) in_11 w_167 rfl dX10_day_52 ?_
    refine r_iadd dX10_day_55 ?_
    refine r_aload_n 1 rfl dX10_day_56 ?_
    refine r_getf 32 (lvs_30 _) (cell_30 _ _ _ _) rfl (by decide) in_11 w_199 rfl dX10_day_57 ?_
    refine r_iload_n 0 rfl dX10_day_60 ?_
    refine r_gd (fun h3 => ?_)
    refine r_iaload (lvs_56 _) (cell_56 _ _ _ _) h3 dX10_day_61 ?_
    refine r_gd (fun h4 => ?_)
    refine r_bd ?_
    refine r_iastore (lvs_55 _) (ia_55 _ _ _) h4 dX10_day_62 ?_
    refine r_aload_n 1 rfl dX10_day_63 ?_
    refine r_getf 32 (lvs_30 _) (cell_30 _ _ _ _) rfl (by decide) in_11 w_199 rfl dX10_day_64 ?_
    refine r_iload_n 0 rfl dX10_day_67 ?_
    refine r_iaload (lvs_56 _) (cell_56 _ _ _ _) h3 dX10_day_68 ?_
    refine r_iconst (-1) (by decide) dX10_day_69 ?_
    refine r_icmp_eq 83 dX10_day_70 (by decide) ?_ ?_
    · refine r_iinc (1) [(1, .int _), (0, .ref _)] 0 rfl (by decide) rfl (by decide) dX10_day_83 ?_
      refine r_goto 34 dX10_day_86 (by decide) ?_
      exact r_sub [0, 1] rfl (ih _ _)
    · refine r_aload_n 1 rfl dX10_day_73 ?_
      refine r_aload_n 1 rfl dX10_day_74 ?_
      refine r_getf 32 (lvs_30 _) (cell_30 _ _ _ _) rfl (by decide) in_11 w_199 rfl dX10_day_75 ?_
      refine r_iload_n 0 rfl dX10_day_78 ?_
      refine r_iaload (lvs_56 _) (cell_56 _ _ _ _) h3 dX10_day_79 ?_
      refine r_callV (n := 1) (As := [.int _]) (cell_30 _ _ _ _) (lvs_30 _) rfl (nc_X10_leaves X hst ad _ _) (fun _ h => h) rfl ⟨rfl, by decide, by decide, by decide +kernel⟩ w_227 w_228 w_229 w_121 w_230 rfl rfl (Nat.le_of_ble_eq_true rfl) ⟨by decide, by decide⟩ dX10_day_80 (fun v13 σ14 => ?_)
      refine r_iinc (1) [(1, .int _), (0, .ref _)] 0 rfl (by decide) rfl (by decide) dX10_day_83 ?_
      refine r_goto 34 dX10_day_86 (by decide) ?_
      exact r_sub [0, 1] rfl (ih _ _)
theorem bj_X10_day_16 (X : Xt) (hst : X.1.stackTraces = false) (ad : Ad) (σ : Wd) (s0 : Int32) : Bk X (fun a => a = ad) cX10_day 2 RX10 (some (.int)) 4 89 vI (0, 0) (0, 0) ad σ 16 [(0, .ref (ad 30 0))] [.int s0, .ref (ad 30 0)] (j_X10_day_16 σ s0) := by
  unfold j_X10_day_16
  refine r_bd ?_
  refine r_putf 0 tyX10 tyX10_ok nmX10 (lvs_30 _) (cell_30 _ _ _ _) (wrc_30_0 _ _ _ _ _) rfl (by decide) (Nat.le_of_ble_eq_true rfl) in_11 w_117 rfl rfl rfl dX10_day_16 ?_
  refine r_aload_n 0 rfl dX10_day_19 ?_
  refine r_getf 0 (lvs_30 _) (cell_30 _ _ _ _) rfl (by decide) in_11 w_117 rfl dX10_day_20 ?_
  refine r_if_le 28 dX10_day_23 (by decide) ?_ ?_
  · refine r_aload_n 0 rfl dX10_day_28 ?_
    refine r_callV (n := 0) (As := []) (cell_30 _ _ _ _) (lvs_30 _) rfl (nc_X10_decides X hst ad _) (fun _ h => h) rfl ⟨rfl, by decide, by decide, by decide +kernel⟩ w_211 w_212 w_213 w_121 w_214 rfl rfl (Nat.le_of_ble_eq_true rfl) ⟨by decide, by decide⟩ dX10_day_29 (fun v2 σ3 => ?_)
    refine r_iconst (0) (by decide) dX10_day_32 ?_
    refine r_istore_n [(1, .int _), (0, .ref _)] rfl (by decide) dX10_day_33 ?_
    exact r_sub [0, 1] rfl ((bl_X10_day_34 X hst ad FU) _ _)
  · refine r_iconst (0) (by decide) dX10_day_26 ?_
    exact r_iret rfl rfl rfl dX10_day_27
theorem nc_X10_day (X : Xt) (hst : X.1.stackTraces = false) (ad : Ad) (σ : Wd) : NC X (fun a => a = ad) yX10_day cX10_day 2 (some (.int)) 4 89 vI (0, 0) ad σ [.ref (ad 30 0)] (f_X10_day σ) := by
  unfold f_X10_day
  refine NC.intro RX10 rfl hst (by decide) (Nat.le_of_ble_eq_true rfl) (lv := [(0, .ref _)]) rfl ?_
  refine r_aload_n 0 rfl dX10_day_0 ?_
  refine r_aload_n 0 rfl dX10_day_1 ?_
  refine r_getf 1 (lvs_30 _) (cell_30 _ _ _ _) rfl (by decide) in_11 w_167 rfl dX10_day_2 ?_
  refine r_sipush (200) (by decide) dX10_day_5 ?_
  refine r_icmp_ne 15 dX10_day_8 (by decide) ?_ ?_
  · refine r_iconst (1) (by decide) dX10_day_11 ?_
    refine r_goto 16 dX10_day_12 (by decide) ?_
    exact r_sub [0] rfl ((bj_X10_day_16 X hst ad) _ _)
  · refine r_iconst (0) (by decide) dX10_day_15 ?_
    exact r_sub [0] rfl ((bj_X10_day_16 X hst ad) _ _)
def l_X10_examine_61 : Nat → Wd → Int32 → Int32 → Int32 → Option ((Int32 ⊕ String) × Wd)
  | 0, _, _, _, _ => none
  | n + 1, σ, a3, a1, a2 =>
  if a2 < a3 then
    some (.inl (a2 + (1 : Int32)), σ)
  else
    gd (inb (((3 : Int32) * a1) + a3) 18) <|
    bd (wr σ 35 0 (((3 : Int32) * a1) + a3).toNatClampNeg (0 : Int32)) fun σ5 =>
    bd (wr σ5 36 0 (((3 : Int32) * a1) + a3).toNatClampNeg (0 : Int32)) fun σ6 =>
    (l_X10_examine_61 n) σ6 (a3 + 1) a1 a2
def j_X10_examine_42 (σ : Wd) (a1 : Int32) (a2 : Int32) (s0 : Int32) : Option ((Int32 ⊕ String) × Wd) :=
  bd (wr σ 30 0 0 s0) fun σ3 =>
  if (σ3.1 30 0 0) ≤ 0 then
    bd (wr σ3 30 0 3 (1 : Int32)) fun σ4 =>
    l_X10_examine_61 FU σ4 (0 : Int32) a1 a2
  else
    some (.inl (0 : Int32), σ3)
def j_X10_examine_17 (σ : Wd) (a1 : Int32) (a2 : Int32) : Option ((Int32 ⊕ String) × Wd) :=
  j_X10_examine_42 σ a1 a2 (1 : Int32)
def j_X10_examine_37 (σ : Wd) (a1 : Int32) (a2 : Int32) : Option ((Int32 ⊕ String) × Wd) :=
  j_X10_examine_42 σ a1 a2 (2 : Int32)
def f_X10_examine (σ : Wd) (p0 : Int32) (p1 : Int32) : Option ((Int32 ⊕ String) × Wd) :=
  bx (f_X10_isUnit σ p0) fun v1 σ2 =>
  if v1 = 0 then
    j_X10_examine_17 σ2 p0 p1
  else
    bx (f_X10_isExam σ2 p1) fun v7 σ8 =>
    if v7 = 0 then
      j_X10_examine_17 σ8 p0 p1
    else
      gd (inb p0 6) <|
      if (σ8.1 31 0 p0.toNatClampNeg) = 0 then
        if (σ8.1 30 0 3) = 0 then
          j_X10_examine_42 σ8 p0 p1 (0 : Int32)
        else
          j_X10_examine_37 σ8 p0 p1
      else
        j_X10_examine_37 σ8 p0 p1
theorem bl_X10_examine_61 (X : Xt) (hst : X.1.stackTraces = false) (ad : Ad) : ∀ (n : Nat) (σ : Wd) (a3 : Int32) (a1 : Int32) (a2 : Int32), Bk X (fun a => a = ad) cX10_examine 4 RX10 (some (.int)) 2 44 vI (0, 0) (0, 0) ad σ 61 [(3, .int a3), (0, .ref (ad 30 0)), (1, .int a1), (2, .int a2)] [] (l_X10_examine_61 n σ a3 a1 a2) := by
  intro n
  induction n with
  | zero => intros; exact r_none
  | succ n ih =>
  intro σ a3 a1 a2
  rw [l_X10_examine_61]
  refine r_iload_n 0 rfl dX10_examine_61 ?_
  refine r_iload_n 3 rfl dX10_examine_62 ?_
  refine r_icmp_gt 94 dX10_examine_63 (by decide) ?_ ?_
  · refine r_iload_n 3 rfl dX10_examine_94 ?_
    refine r_iconst (1) (by decide) dX10_examine_95 ?_
    refine r_iadd dX10_examine_96 ?_
    exact r_iret rfl rfl rfl dX10_examine_97
  · refine r_aload_n 1 rfl dX10_examine_66 ?_
    refine r_getf 10 (lvs_30 _) (cell_30 _ _ _ _) rfl (by decide) in_11 w_174 rfl dX10_examine_67 ?_
    refine r_iconst (3) (by decide) dX10_examine_70 ?_
    refine r_iload_n 2 rfl dX10_examine_71 ?_
    refine r_imul dX10_examine_72 ?_
    refine r_iload_n 0 rfl dX10_examine_73 ?_
    refine r_iadd dX10_examine_74 ?_
    refine r_iconst (0) (by decide) dX10_examine_75 ?_
    refine r_gd (fun h1 => ?_)
    refine r_bd ?_
    refine r_iastore (lvs_35 _) (ia_35 _ _ _) h1 dX10_examine_76 ?_
    refine r_aload_n 1 rfl dX10_examine_77 ?_
    refine r_getf 11 (lvs_30 _) (cell_30 _ _ _ _) rfl (by decide) in_11 w_175 rfl dX10_examine_78 ?_
    refine r_iconst (3) (by decide) dX10_examine_81 ?_
    refine r_iload_n 2 rfl dX10_examine_82 ?_
    refine r_imul dX10_examine_83 ?_
    refine r_iload_n 0 rfl dX10_examine_84 ?_
    refine r_iadd dX10_examine_85 ?_
    refine r_iconst (0) (by decide) dX10_examine_86 ?_
    refine r_bd ?_
    refine r_iastore (lvs_36 _) (ia_36 _ _ _) h1 dX10_examine_87 ?_
    refine r_iinc (1) [(3, .int _), (0, .ref _), (1, .int _), (2, .int _)] 0 rfl (by decide) rfl (by decide) dX10_examine_88 ?_
    refine r_goto 61 dX10_examine_91 (by decide) ?_
    exact r_sub [0, 1, 2, 3] rfl (ih _ _ _ _)
theorem bj_X10_examine_42 (X : Xt) (hst : X.1.stackTraces = false) (ad : Ad) (σ : Wd) (a1 : Int32) (a2 : Int32) (s0 : Int32) : Bk X (fun a => a = ad) cX10_examine 4 RX10 (some (.int)) 2 44 vI (0, 0) (0, 0) ad σ 42 [(0, .ref (ad 30 0)), (1, .int a1), (2, .int a2)] [.int s0, .ref (ad 30 0)] (j_X10_examine_42 σ a1 a2 s0) := by
  unfold j_X10_examine_42
  refine r_bd ?_
  refine r_putf 0 tyX10 tyX10_ok nmX10 (lvs_30 _) (cell_30 _ _ _ _) (wrc_30_0 _ _ _ _ _) rfl (by decide) (Nat.le_of_ble_eq_true rfl) in_11 w_117 rfl rfl rfl dX10_examine_42 ?_
  refine r_aload_n 0 rfl dX10_examine_45 ?_
  refine r_getf 0 (lvs_30 _) (cell_30 _ _ _ _) rfl (by decide) in_11 w_117 rfl dX10_examine_46 ?_
  refine r_if_le 54 dX10_examine_49 (by decide) ?_ ?_
  · refine r_aload_n 0 rfl dX10_examine_54 ?_
    refine r_iconst (1) (by decide) dX10_examine_55 ?_
    refine r_bd ?_
    refine r_putf 3 tyX10 tyX10_ok nmX10 (lvs_30 _) (cell_30 _ _ _ _) (wrc_30_3 _ _ _ _ _) rfl (by decide) (Nat.le_of_ble_eq_true rfl) in_11 w_215 rfl rfl rfl dX10_examine_56 ?_
    refine r_iconst (0) (by decide) dX10_examine_59 ?_
    refine r_istore_n [(3, .int _), (0, .ref _), (1, .int _), (2, .int _)] rfl (by decide) dX10_examine_60 ?_
    exact r_sub [0, 1, 2, 3] rfl ((bl_X10_examine_61 X hst ad FU) _ _ _ _)
  · refine r_iconst (0) (by decide) dX10_examine_52 ?_
    exact r_iret rfl rfl rfl dX10_examine_53
theorem bj_X10_examine_17 (X : Xt) (hst : X.1.stackTraces = false) (ad : Ad) (σ : Wd) (a1 : Int32) (a2 : Int32) : Bk X (fun a => a = ad) cX10_examine 4 RX10 (some (.int)) 2 44 vI (0, 0) (0, 0) ad σ 17 [(0, .ref (ad 30 0)), (1, .int a1), (2, .int a2)] [.ref (ad 30 0)] (j_X10_examine_17 σ a1 a2) := by
  unfold j_X10_examine_17
  refine r_iconst (1) (by decide) dX10_examine_17 ?_
  refine r_goto 42 dX10_examine_18 (by decide) ?_
  exact r_sub [0, 1, 2] rfl ((bj_X10_examine_42 X hst ad) _ _ _ _)
theorem bj_X10_examine_37 (X : Xt) (hst : X.1.stackTraces = false) (ad : Ad) (σ : Wd) (a1 : Int32) (a2 : Int32) : Bk X (fun a => a = ad) cX10_examine 4 RX10 (some (.int)) 2 44 vI (0, 0) (0, 0) ad σ 37 [(0, .ref (ad 30 0)), (1, .int a1), (2, .int a2)] [.ref (ad 30 0)] (j_X10_examine_37 σ a1 a2) := by
  unfold j_X10_examine_37
  refine r_iconst (2) (by decide) dX10_examine_37 ?_
  refine r_goto 42 dX10_examine_38 (by decide) ?_
  exact r_sub [0, 1, 2] rfl ((bj_X10_examine_42 X hst ad) _ _ _ _)
theorem nc_X10_examine (X : Xt) (hst : X.1.stackTraces = false) (ad : Ad) (σ : Wd) (p0 : Int32) (p1 : Int32) : NC X (fun a => a = ad) yX10_examine cX10_examine 4 (some (.int)) 2 44 vI (0, 0) ad σ [.ref (ad 30 0), .int p0, .int p1] (f_X10_examine σ p0 p1) := by
  unfold f_X10_examine
  refine NC.intro RX10 rfl hst (by decide) (Nat.le_of_ble_eq_true rfl) (lv := [(0, .ref _), (1, .int _), (2, .int _)]) rfl ?_
  refine r_aload_n 0 rfl dX10_examine_0 ?_
  refine r_aload_n 0 rfl dX10_examine_1 ?_
  refine r_iload_n 1 rfl dX10_examine_2 ?_
  refine r_callV (n := 1) (As := [.int _]) (cell_30 _ _ _ _) (lvs_30 _) rfl (nc_X10_isUnit X hst ad _ _) (fun _ h => h) rfl ⟨rfl, by decide, by decide, by decide +kernel⟩ w_160 w_161 w_162 w_121 w_163 rfl rfl (Nat.le_of_ble_eq_true rfl) ⟨by decide, by decide⟩ dX10_examine_3 (fun v1 σ2 => ?_)
  refine r_if_eq 17 dX10_examine_6 (by decide) ?_ ?_
  · exact r_sub [0, 1, 2] rfl ((bj_X10_examine_17 X hst ad) _ _ _)
  · refine r_aload_n 0 rfl dX10_examine_9 ?_
    refine r_iload_n 2 rfl dX10_examine_10 ?_
    refine r_callV (n := 1) (As := [.int _]) (cell_30 _ _ _ _) (lvs_30 _) rfl (nc_X10_isExam X hst ad _ _) (fun _ h => h) rfl ⟨rfl, by decide, by decide, by decide +kernel⟩ w_146 w_147 w_148 w_121 w_149 rfl rfl (Nat.le_of_ble_eq_true rfl) ⟨by decide, by decide⟩ dX10_examine_11 (fun v7 σ8 => ?_)
    refine r_if_ne 21 dX10_examine_14 (by decide) ?_ ?_
    · exact r_sub [0, 1, 2] rfl ((bj_X10_examine_17 X hst ad) _ _ _)
    · refine r_aload_n 0 rfl dX10_examine_21 ?_
      refine r_getf 6 (lvs_30 _) (cell_30 _ _ _ _) rfl (by decide) in_11 w_130 rfl dX10_examine_22 ?_
      refine r_iload_n 1 rfl dX10_examine_25 ?_
      refine r_gd (fun h2 => ?_)
      refine r_iaload (lvs_31 _) (cell_31 _ _ _ _) h2 dX10_examine_26 ?_
      refine r_if_ne 37 dX10_examine_27 (by decide) ?_ ?_
      · refine r_aload_n 0 rfl dX10_examine_30 ?_
        refine r_getf 3 (lvs_30 _) (cell_30 _ _ _ _) rfl (by decide) in_11 w_215 rfl dX10_examine_31 ?_
        refine r_if_eq 41 dX10_examine_34 (by decide) ?_ ?_
        · refine r_iconst (0) (by decide) dX10_examine_41 ?_
          exact r_sub [0, 1, 2] rfl ((bj_X10_examine_42 X hst ad) _ _ _ _)
        · exact r_sub [0, 1, 2] rfl ((bj_X10_examine_37 X hst ad) _ _ _)
      · exact r_sub [0, 1, 2] rfl ((bj_X10_examine_37 X hst ad) _ _ _)
def l_X10_goes_7 : Nat → Wd → Int32 → Int32 → Int32 → Option ((Unit ⊕ String) × Wd)
  | 0, _, _, _, _ => none
  | n + 1, σ, a3, a1, a2 =>
  gd (inb a1 6) <|
  if ((((8 : Int32) * a1) + (σ.1 39 0 a1.toNatClampNeg)) - (1 : Int32)) ≤ a3 then
    bd (wr σ 39 0 a1.toNatClampNeg ((σ.1 39 0 a1.toNatClampNeg) - (1 : Int32))) fun σ2 =>
    some (.inl (), σ2)
  else
    gd (inb (a3 + (1 : Int32)) 48) <|
    gd (inb a3 48) <|
    bd (wr σ 40 0 a3.toNatClampNeg (σ.1 40 0 (a3 + (1 : Int32)).toNatClampNeg)) fun σ3 =>
    bd (wr σ3 41 0 a3.toNatClampNeg (σ3.1 41 0 (a3 + (1 : Int32)).toNatClampNeg)) fun σ4 =>
    bd (wr σ4 42 0 a3.toNatClampNeg (σ4.1 42 0 (a3 + (1 : Int32)).toNatClampNeg)) fun σ5 =>
    bd (wr σ5 43 0 a3.toNatClampNeg (σ5.1 43 0 (a3 + (1 : Int32)).toNatClampNeg)) fun σ6 =>
    (l_X10_goes_7 n) σ6 (a3 + 1) a1 a2
def f_X10_goes (σ : Wd) (p0 : Int32) (p1 : Int32) : Option ((Unit ⊕ String) × Wd) :=
  bd ((((8 : Int32) * p0) + p1)) fun x1 =>
  l_X10_goes_7 FU σ x1 p0 p1
theorem bl_X10_goes_7 (X : Xt) (hst : X.1.stackTraces = false) (ad : Ad) : ∀ (n : Nat) (σ : Wd) (a3 : Int32) (a1 : Int32) (a2 : Int32), Bk X (fun a => a = ad) cX10_goes 4 RX10 none 0 0 vV (0, 0) (0, 0) ad σ 7 [(3, .int a3), (0, .ref (ad 30 0)), (1, .int a1), (2, .int a2)] [] (l_X10_goes_7 n σ a3 a1 a2) := by
  intro n
  induction n with
  | zero => intros; exact r_none
  | succ n ih =>
  intro σ a3 a1 a2
  rw [l_X10_goes_7]
  refine r_iload_n 0 rfl dX10_goes_7 ?_
  refine r_bipush (8) (by decide) dX10_goes_8 ?_
  refine r_iload_n 2 rfl dX10_goes_10 ?_
  refine r_imul dX10_goes_11 ?_
  refine r_aload_n 1 rfl dX10_goes_12 ?_
  refine r_getf 14 (lvs_30 _) (cell_30 _ _ _ _) rfl (by decide) in_11 w_164 rfl dX10_goes_13 ?_
  refine r_iload_n 2 rfl dX10_goes_16 ?_
  refine r_gd (fun h1 => ?_)
  refine r_iaload (lvs_39 _) (cell_39 _ _ _ _) h1 dX10_goes_17 ?_
  refine r_iadd dX10_goes_18 ?_
  refine r_iconst (1) (by decide) dX10_goes_19 ?_
  refine r_isub dX10_goes_20 ?_
  refine r_icmp_ge 86 dX10_goes_21 (by decide) ?_ ?_
  · refine r_aload_n 1 rfl dX10_goes_86 ?_
    refine r_getf 14 (lvs_30 _) (cell_30 _ _ _ _) rfl (by decide) in_11 w_164 rfl dX10_goes_87 ?_
    refine r_iload_n 2 rfl dX10_goes_90 ?_
    refine r_dup2 rfl rfl dX10_goes_91 ?_
    refine r_iaload (lvs_39 _) (cell_39 _ _ _ _) h1 dX10_goes_92 ?_
    refine r_iconst (1) (by decide) dX10_goes_93 ?_
    refine r_isub dX10_goes_94 ?_
    refine r_bd ?_
    refine r_iastore (lvs_39 _) (ia_39 _ _ _) h1 dX10_goes_95 ?_
    exact r_vret rfl rfl rfl dX10_goes_96
  · refine r_aload_n 1 rfl dX10_goes_24 ?_
    refine r_getf 15 (lvs_30 _) (cell_30 _ _ _ _) rfl (by decide) in_11 w_165 rfl dX10_goes_25 ?_
    refine r_iload_n 0 rfl dX10_goes_28 ?_
    refine r_aload_n 1 rfl dX10_goes_29 ?_
    refine r_getf 15 (lvs_30 _) (cell_30 _ _ _ _) rfl (by decide) in_11 w_165 rfl dX10_goes_30 ?_
    refine r_iload_n 0 rfl dX10_goes_33 ?_
    refine r_iconst (1) (by decide) dX10_goes_34 ?_
    refine r_iadd dX10_goes_35 ?_
    refine r_gd (fun h2 => ?_)
    refine r_iaload (lvs_40 _) (cell_40 _ _ _ _) h2 dX10_goes_36 ?_
    refine r_gd (fun h3 => ?_)
    refine r_bd ?_
    refine r_iastore (lvs_40 _) (ia_40 _ _ _) h3 dX10_goes_37 ?_
    refine r_aload_n 1 rfl dX10_goes_38 ?_
    refine r_getf 16 (lvs_30 _) (cell_30 _ _ _ _) rfl (by decide) in_11 w_166 rfl dX10_goes_39 ?_
    refine r_iload_n 0 rfl dX10_goes_42 ?_
    refine r_aload_n 1 rfl dX10_goes_43 ?_
    refine r_getf 16 (lvs_30 _) (cell_30 _ _ _ _) rfl (by decide) in_11 w_166 rfl dX10_goes_44 ?_
    refine r_iload_n 0 rfl dX10_goes_47 ?_
    refine r_iconst (1) (by decide) dX10_goes_48 ?_
    refine r_iadd dX10_goes_49 ?_
    refine r_iaload (lvs_41 _) (cell_41 _ _ _ _) h2 dX10_goes_50 ?_
    refine r_bd ?_
    refine r_iastore (lvs_41 _) (ia_41 _ _ _) h3 dX10_goes_51 ?_
    refine r_aload_n 1 rfl dX10_goes_52 ?_
    refine r_getf 17 (lvs_30 _) (cell_30 _ _ _ _) rfl (by decide) in_11 w_168 rfl dX10_goes_53 ?_
    refine r_iload_n 0 rfl dX10_goes_56 ?_
    refine r_aload_n 1 rfl dX10_goes_57 ?_
    refine r_getf 17 (lvs_30 _) (cell_30 _ _ _ _) rfl (by decide) in_11 w_168 rfl dX10_goes_58 ?_
    refine r_iload_n 0 rfl dX10_goes_61 ?_
    refine r_iconst (1) (by decide) dX10_goes_62 ?_
    refine r_iadd dX10_goes_63 ?_
    refine r_iaload (lvs_42 _) (cell_42 _ _ _ _) h2 dX10_goes_64 ?_
    refine r_bd ?_
    refine r_iastore (lvs_42 _) (ia_42 _ _ _) h3 dX10_goes_65 ?_
    refine r_aload_n 1 rfl dX10_goes_66 ?_
    refine r_getf 18 (lvs_30 _) (cell_30 _ _ _ _) rfl (by decide) in_11 w_169 rfl dX10_goes_67 ?_
    refine r_iload_n 0 rfl dX10_goes_70 ?_
    refine r_aload_n 1 rfl dX10_goes_71 ?_
    refine r_getf 18 (lvs_30 _) (cell_30 _ _ _ _) rfl (by decide) in_11 w_169 rfl dX10_goes_72 ?_
    refine r_iload_n 0 rfl dX10_goes_75 ?_
    refine r_iconst (1) (by decide) dX10_goes_76 ?_
    refine r_iadd dX10_goes_77 ?_
    refine r_iaload (lvs_43 _) (cell_43 _ _ _ _) h2 dX10_goes_78 ?_
    refine r_bd ?_
    refine r_iastore (lvs_43 _) (ia_43 _ _ _) h3 dX10_goes_79 ?_
    refine r_iinc (1) [(3, .int _), (0, .ref _), (1, .int _), (2, .int _)] 0 rfl (by decide) rfl (by decide) dX10_goes_80 ?_
    refine r_goto 7 dX10_goes_83 (by decide) ?_
    exact r_sub [0, 1, 2, 3] rfl (ih _ _ _ _)
theorem nc_X10_goes (X : Xt) (hst : X.1.stackTraces = false) (ad : Ad) (σ : Wd) (p0 : Int32) (p1 : Int32) : NC X (fun a => a = ad) yX10_goes cX10_goes 4 none 0 0 vV (0, 0) ad σ [.ref (ad 30 0), .int p0, .int p1] (f_X10_goes σ p0 p1) := by
  unfold f_X10_goes
  refine NC.intro RX10 rfl hst (by decide) (Nat.le_of_ble_eq_true rfl) (lv := [(0, .ref _), (1, .int _), (2, .int _)]) rfl ?_
  refine r_bipush (8) (by decide) dX10_goes_0 ?_
  refine r_iload_n 1 rfl dX10_goes_2 ?_
  refine r_imul dX10_goes_3 ?_
  refine r_iload_n 2 rfl dX10_goes_4 ?_
  refine r_iadd dX10_goes_5 ?_
  refine r_bd ?_
  refine r_istore_n [(3, .int _), (0, .ref _), (1, .int _), (2, .int _)] rfl (by decide) dX10_goes_6 ?_
  exact r_sub [0, 1, 2, 3] rfl ((bl_X10_goes_7 X hst ad FU) _ _ _ _)
def l_X10_lathe_169 : Nat → Wd → Int32 → Int32 → Int32 → Option ((Int32 ⊕ String) × Wd)
  | 0, _, _, _, _ => none
  | n + 1, σ, a3, a2, a1 =>
  if (((4 : Int32) * a1) + (4 : Int32)) ≤ a3 then
    some (.inl a2, σ)
  else
    gd (inb a3 24) <|
    bd (wr σ 34 0 a3.toNatClampNeg a2) fun σ7 =>
    (l_X10_lathe_169 n) σ7 (a3 + 1) a2 a1
def l_X10_lathe_129 : Nat → Wd → Int32 → Int32 → Int32 → Option ((Int32 ⊕ String) × Wd)
  | 0, _, _, _, _ => none
  | n + 1, σ, a3, a2, a1 =>
  if (((4 : Int32) * a1) + (4 : Int32)) ≤ a3 then
    l_X10_lathe_169 FU σ ((4 : Int32) * a1) a2 a1
  else
    gd (inb a3 24) <|
    if a2 ≤ (σ.1 34 0 a3.toNatClampNeg) then
      (l_X10_lathe_129 n) σ (a3 + 1) a2 a1
    else
      bd ((σ.1 34 0 a3.toNatClampNeg)) fun x8 =>
      (l_X10_lathe_129 n) σ (a3 + 1) x8 a1
def l_X10_lathe_60 : Nat → Wd → Int32 → Int32 → Option ((Int32 ⊕ String) × Wd)
  | 0, _, _, _ => none
  | n + 1, σ, a2, a1 =>
  if a2 < 0 then
    gd (inb ((4 : Int32) * a1) 24) <|
    bd ((σ.1 34 0 ((4 : Int32) * a1).toNatClampNeg)) fun x6 =>
    l_X10_lathe_129 FU σ ((4 : Int32) * a1) x6 a1
  else
    bd ((((8 : Int32) * a1) + a2)) fun x9 =>
    gd (inb x9 48) <|
    if (σ.1 40 0 x9.toNatClampNeg) = 0 then
      gd (inb (((4 : Int32) * a1) + (σ.1 42 0 x9.toNatClampNeg)) 24) <|
      bd (wr σ 34 0 (((4 : Int32) * a1) + (σ.1 42 0 x9.toNatClampNeg)).toNatClampNeg ((σ.1 34 0 (((4 : Int32) * a1) + (σ.1 42 0 x9.toNatClampNeg)).toNatClampNeg) - (σ.1 43 0 x9.toNatClampNeg))) fun σ10 =>
      bx (f_X10_goes σ10 a1 a2) fun v11 σ12 =>
      (l_X10_lathe_60 n) σ12 (a2 + (-1)) a1
    else
      (l_X10_lathe_60 n) σ (a2 + (-1)) a1
def j_X10_lathe_34 (σ : Wd) (a1 : Int32) (s0 : Int32) : Option ((Int32 ⊕ String) × Wd) :=
  bd (wr σ 30 0 0 s0) fun σ3 =>
  if (σ3.1 30 0 0) ≤ 0 then
    bd (wr σ3 30 0 4 (1 : Int32)) fun σ4 =>
    gd (inb a1 6) <|
    bd (((σ4.1 39 0 a1.toNatClampNeg) - (1 : Int32))) fun x5 =>
    l_X10_lathe_60 FU σ4 x5 a1
  else
    some (.inl (0 : Int32), σ3)
def j_X10_lathe_29 (σ : Wd) (a1 : Int32) : Option ((Int32 ⊕ String) × Wd) :=
  j_X10_lathe_34 σ a1 (2 : Int32)
def f_X10_lathe (σ : Wd) (p0 : Int32) : Option ((Int32 ⊕ String) × Wd) :=
  bx (f_X10_isUnit σ p0) fun v1 σ2 =>
  if v1 = 0 then
    j_X10_lathe_34 σ2 p0 (1 : Int32)
  else
    gd (inb p0 6) <|
    if (σ2.1 31 0 p0.toNatClampNeg) = 0 then
      if (σ2.1 30 0 4) = 0 then
        j_X10_lathe_34 σ2 p0 (0 : Int32)
      else
        j_X10_lathe_29 σ2 p0
    else
      j_X10_lathe_29 σ2 p0
theorem bl_X10_lathe_169 (X : Xt) (hst : X.1.stackTraces = false) (ad : Ad) : ∀ (n : Nat) (σ : Wd) (a3 : Int32) (a2 : Int32) (a1 : Int32), Bk X (fun a => a = ad) cX10_lathe 4 RX10 (some (.int)) 2 44 vI (0, 0) (0, 0) ad σ 169 [(3, .int a3), (2, .int a2), (0, .ref (ad 30 0)), (1, .int a1)] [] (l_X10_lathe_169 n σ a3 a2 a1) := by
  intro n
  induction n with
  | zero => intros; exact r_none
  | succ n ih =>
  intro σ a3 a2 a1
  rw [l_X10_lathe_169]
  refine r_iload_n 0 rfl dX10_lathe_169 ?_
  refine r_iconst (4) (by decide) dX10_lathe_170 ?_
  refine r_iload_n 3 rfl dX10_lathe_171 ?_
  refine r_imul dX10_lathe_172 ?_
  refine r_iconst (4) (by decide) dX10_lathe_173 ?_
  refine r_iadd dX10_lathe_174 ?_
  refine r_icmp_ge 191 dX10_lathe_175 (by decide) ?_ ?_
  · refine r_iload_n 1 rfl dX10_lathe_191 ?_
    exact r_iret rfl rfl rfl dX10_lathe_192
  · refine r_aload_n 2 rfl dX10_lathe_178 ?_
    refine r_getf 9 (lvs_30 _) (cell_30 _ _ _ _) rfl (by decide) in_11 w_137 rfl dX10_lathe_179 ?_
    refine r_iload_n 0 rfl dX10_lathe_182 ?_
    refine r_iload_n 1 rfl dX10_lathe_183 ?_
    refine r_gd (fun h3 => ?_)
    refine r_bd ?_
    refine r_iastore (lvs_34 _) (ia_34 _ _ _) h3 dX10_lathe_184 ?_
    refine r_iinc (1) [(3, .int _), (2, .int _), (0, .ref _), (1, .int _)] 0 rfl (by decide) rfl (by decide) dX10_lathe_185 ?_
    refine r_goto 169 dX10_lathe_188 (by decide) ?_
    exact r_sub [0, 1, 2, 3] rfl (ih _ _ _ _)
theorem bl_X10_lathe_129 (X : Xt) (hst : X.1.stackTraces = false) (ad : Ad) : ∀ (n : Nat) (σ : Wd) (a3 : Int32) (a2 : Int32) (a1 : Int32), Bk X (fun a => a = ad) cX10_lathe 4 RX10 (some (.int)) 2 44 vI (0, 0) (0, 0) ad σ 129 [(3, .int a3), (2, .int a2), (0, .ref (ad 30 0)), (1, .int a1)] [] (l_X10_lathe_129 n σ a3 a2 a1) := by
  intro n
  induction n with
  | zero => intros; exact r_none
  | succ n ih =>
  intro σ a3 a2 a1
  rw [l_X10_lathe_129]
  refine r_iload_n 0 rfl dX10_lathe_129 ?_
  refine r_iconst (4) (by decide) dX10_lathe_130 ?_
  refine r_iload_n 3 rfl dX10_lathe_131 ?_
  refine r_imul dX10_lathe_132 ?_
  refine r_iconst (4) (by decide) dX10_lathe_133 ?_
  refine r_iadd dX10_lathe_134 ?_
  refine r_icmp_ge 165 dX10_lathe_135 (by decide) ?_ ?_
  · refine r_iconst (4) (by decide) dX10_lathe_165 ?_
    refine r_iload_n 3 rfl dX10_lathe_166 ?_
    refine r_imul dX10_lathe_167 ?_
    refine r_istore_n [(3, .int _), (2, .int _), (0, .ref _), (1, .int _)] rfl (by decide) dX10_lathe_168 ?_
    exact r_sub [0, 1, 2, 3] rfl ((bl_X10_lathe_169 X hst ad FU) _ _ _ _)
  · refine r_aload_n 2 rfl dX10_lathe_138 ?_
    refine r_getf 9 (lvs_30 _) (cell_30 _ _ _ _) rfl (by decide) in_11 w_137 rfl dX10_lathe_139 ?_
    refine r_iload_n 0 rfl dX10_lathe_142 ?_
    refine r_gd (fun h4 => ?_)
    refine r_iaload (lvs_34 _) (cell_34 _ _ _ _) h4 dX10_lathe_143 ?_
    refine r_iload_n 1 rfl dX10_lathe_144 ?_
    refine r_icmp_ge 157 dX10_lathe_145 (by decide) ?_ ?_
    · refine r_iload_n 1 rfl dX10_lathe_157 ?_
      refine r_istore_n [(2, .int _), (3, .int _), (0, .ref _), (1, .int _)] rfl (by decide) dX10_lathe_158 ?_
      refine r_iinc (1) [(3, .int _), (2, .int _), (0, .ref _), (1, .int _)] 1 rfl (by decide) rfl (by decide) dX10_lathe_159 ?_
      refine r_goto 129 dX10_lathe_162 (by decide) ?_
      exact r_sub [0, 1, 2, 3] rfl (ih _ _ _ _)
    · refine r_aload_n 2 rfl dX10_lathe_148 ?_
      refine r_getf 9 (lvs_30 _) (cell_30 _ _ _ _) rfl (by decide) in_11 w_137 rfl dX10_lathe_149 ?_
      refine r_iload_n 0 rfl dX10_lathe_152 ?_
      refine r_iaload (lvs_34 _) (cell_34 _ _ _ _) h4 dX10_lathe_153 ?_
      refine r_goto 158 dX10_lathe_154 (by decide) ?_
      refine r_bd ?_
      refine r_istore_n [(2, .int _), (3, .int _), (0, .ref _), (1, .int _)] rfl (by decide) dX10_lathe_158 ?_
      refine r_iinc (1) [(3, .int _), (2, .int _), (0, .ref _), (1, .int _)] 1 rfl (by decide) rfl (by decide) dX10_lathe_159 ?_
      refine r_goto 129 dX10_lathe_162 (by decide) ?_
      exact r_sub [0, 1, 2, 3] rfl (ih _ _ _ _)
theorem bl_X10_lathe_60 (X : Xt) (hst : X.1.stackTraces = false) (ad : Ad) : ∀ (n : Nat) (σ : Wd) (a2 : Int32) (a1 : Int32), Bk X (fun a => a = ad) cX10_lathe 4 RX10 (some (.int)) 2 44 vI (0, 0) (0, 0) ad σ 60 [(2, .int a2), (0, .ref (ad 30 0)), (1, .int a1)] [] (l_X10_lathe_60 n σ a2 a1) := by
  intro n
  induction n with
  | zero => intros; exact r_none
  | succ n ih =>
  intro σ a2 a1
  rw [l_X10_lathe_60]
  refine r_iload_n 0 rfl dX10_lathe_60 ?_
  refine r_if_lt 116 dX10_lathe_61 (by decide) ?_ ?_
  · refine r_aload_n 1 rfl dX10_lathe_116 ?_
    refine r_getf 9 (lvs_30 _) (cell_30 _ _ _ _) rfl (by decide) in_11 w_137 rfl dX10_lathe_117 ?_
    refine r_iconst (4) (by decide) dX10_lathe_120 ?_
    refine r_iload_n 2 rfl dX10_lathe_121 ?_
    refine r_imul dX10_lathe_122 ?_
    refine r_gd (fun h2 => ?_)
    refine r_iaload (lvs_34 _) (cell_34 _ _ _ _) h2 dX10_lathe_123 ?_
    refine r_bd ?_
    refine r_istore_n [(2, .int _), (0, .ref _), (1, .int _)] rfl (by decide) dX10_lathe_124 ?_
    refine r_iconst (4) (by decide) dX10_lathe_125 ?_
    refine r_iload_n 2 rfl dX10_lathe_126 ?_
    refine r_imul dX10_lathe_127 ?_
    refine r_istore_n [(3, .int _), (2, .int _), (0, .ref _), (1, .int _)] rfl (by decide) dX10_lathe_128 ?_
    exact r_sub [0, 1, 2, 3] rfl ((bl_X10_lathe_129 X hst ad FU) _ _ _ _)
  · refine r_bipush (8) (by decide) dX10_lathe_64 ?_
    refine r_iload_n 2 rfl dX10_lathe_66 ?_
    refine r_imul dX10_lathe_67 ?_
    refine r_iload_n 0 rfl dX10_lathe_68 ?_
    refine r_iadd dX10_lathe_69 ?_
    refine r_bd ?_
    refine r_istore_n [(3, .int _), (2, .int _), (0, .ref _), (1, .int _)] rfl (by decide) dX10_lathe_70 ?_
    refine r_aload_n 2 rfl dX10_lathe_71 ?_
    refine r_getf 15 (lvs_30 _) (cell_30 _ _ _ _) rfl (by decide) in_11 w_165 rfl dX10_lathe_72 ?_
    refine r_iload_n 0 rfl dX10_lathe_75 ?_
    refine r_gd (fun h5 => ?_)
    refine r_iaload (lvs_40 _) (cell_40 _ _ _ _) h5 dX10_lathe_76 ?_
    refine r_if_ne 110 dX10_lathe_77 (by decide) ?_ ?_
    · refine r_aload_n 2 rfl dX10_lathe_80 ?_
      refine r_getf 9 (lvs_30 _) (cell_30 _ _ _ _) rfl (by decide) in_11 w_137 rfl dX10_lathe_81 ?_
      refine r_iconst (4) (by decide) dX10_lathe_84 ?_
      refine r_iload_n 3 rfl dX10_lathe_85 ?_
      refine r_imul dX10_lathe_86 ?_
      refine r_aload_n 2 rfl dX10_lathe_87 ?_
      refine r_getf 17 (lvs_30 _) (cell_30 _ _ _ _) rfl (by decide) in_11 w_168 rfl dX10_lathe_88 ?_
      refine r_iload_n 0 rfl dX10_lathe_91 ?_
      refine r_iaload (lvs_42 _) (cell_42 _ _ _ _) h5 dX10_lathe_92 ?_
      refine r_iadd dX10_lathe_93 ?_
      refine r_dup2 rfl rfl dX10_lathe_94 ?_
      refine r_gd (fun h6 => ?_)
      refine r_iaload (lvs_34 _) (cell_34 _ _ _ _) h6 dX10_lathe_95 ?_
      refine r_aload_n 2 rfl dX10_lathe_96 ?_
      refine r_getf 18 (lvs_30 _) (cell_30 _ _ _ _) rfl (by decide) in_11 w_169 rfl dX10_lathe_97 ?_
      refine r_iload_n 0 rfl dX10_lathe_100 ?_
      refine r_iaload (lvs_43 _) (cell_43 _ _ _ _) h5 dX10_lathe_101 ?_
      refine r_isub dX10_lathe_102 ?_
      refine r_bd ?_
      refine r_iastore (lvs_34 _) (ia_34 _ _ _) h6 dX10_lathe_103 ?_
      refine r_aload_n 2 rfl dX10_lathe_104 ?_
      refine r_iload_n 3 rfl dX10_lathe_105 ?_
      refine r_iload_n 1 rfl dX10_lathe_106 ?_
      refine r_callV (n := 2) (As := [.int _, .int _]) (cell_30 _ _ _ _) (lvs_30 _) rfl (nc_X10_goes X hst ad _ _ _) (fun _ h => h) rfl ⟨rfl, by decide, by decide, by decide +kernel⟩ w_231 w_232 w_233 w_121 w_234 rfl rfl (Nat.le_of_ble_eq_true rfl) ⟨by decide, by decide⟩ dX10_lathe_107 (fun v11 σ12 => ?_)
      refine r_iinc (-1) [(2, .int _), (3, .int _), (0, .ref _), (1, .int _)] 1 rfl (by decide) rfl (by decide) dX10_lathe_110 ?_
      refine r_goto 60 dX10_lathe_113 (by decide) ?_
      exact r_sub [0, 2, 3] rfl (ih _ _ _)
    · refine r_iinc (-1) [(2, .int _), (3, .int _), (0, .ref _), (1, .int _)] 1 rfl (by decide) rfl (by decide) dX10_lathe_110 ?_
      refine r_goto 60 dX10_lathe_113 (by decide) ?_
      exact r_sub [0, 2, 3] rfl (ih _ _ _)
theorem bj_X10_lathe_34 (X : Xt) (hst : X.1.stackTraces = false) (ad : Ad) (σ : Wd) (a1 : Int32) (s0 : Int32) : Bk X (fun a => a = ad) cX10_lathe 4 RX10 (some (.int)) 2 44 vI (0, 0) (0, 0) ad σ 34 [(0, .ref (ad 30 0)), (1, .int a1)] [.int s0, .ref (ad 30 0)] (j_X10_lathe_34 σ a1 s0) := by
  unfold j_X10_lathe_34
  refine r_bd ?_
  refine r_putf 0 tyX10 tyX10_ok nmX10 (lvs_30 _) (cell_30 _ _ _ _) (wrc_30_0 _ _ _ _ _) rfl (by decide) (Nat.le_of_ble_eq_true rfl) in_11 w_117 rfl rfl rfl dX10_lathe_34 ?_
  refine r_aload_n 0 rfl dX10_lathe_37 ?_
  refine r_getf 0 (lvs_30 _) (cell_30 _ _ _ _) rfl (by decide) in_11 w_117 rfl dX10_lathe_38 ?_
  refine r_if_le 46 dX10_lathe_41 (by decide) ?_ ?_
  · refine r_aload_n 0 rfl dX10_lathe_46 ?_
    refine r_iconst (1) (by decide) dX10_lathe_47 ?_
    refine r_bd ?_
    refine r_putf 4 tyX10 tyX10_ok nmX10 (lvs_30 _) (cell_30 _ _ _ _) (wrc_30_4 _ _ _ _ _) rfl (by decide) (Nat.le_of_ble_eq_true rfl) in_11 w_216 rfl rfl rfl dX10_lathe_48 ?_
    refine r_aload_n 0 rfl dX10_lathe_51 ?_
    refine r_getf 14 (lvs_30 _) (cell_30 _ _ _ _) rfl (by decide) in_11 w_164 rfl dX10_lathe_52 ?_
    refine r_iload_n 1 rfl dX10_lathe_55 ?_
    refine r_gd (fun h1 => ?_)
    refine r_iaload (lvs_39 _) (cell_39 _ _ _ _) h1 dX10_lathe_56 ?_
    refine r_iconst (1) (by decide) dX10_lathe_57 ?_
    refine r_isub dX10_lathe_58 ?_
    refine r_bd ?_
    refine r_istore_n [(2, .int _), (0, .ref _), (1, .int _)] rfl (by decide) dX10_lathe_59 ?_
    exact r_sub [0, 1, 2] rfl ((bl_X10_lathe_60 X hst ad FU) _ _ _)
  · refine r_iconst (0) (by decide) dX10_lathe_44 ?_
    exact r_iret rfl rfl rfl dX10_lathe_45
theorem bj_X10_lathe_29 (X : Xt) (hst : X.1.stackTraces = false) (ad : Ad) (σ : Wd) (a1 : Int32) : Bk X (fun a => a = ad) cX10_lathe 4 RX10 (some (.int)) 2 44 vI (0, 0) (0, 0) ad σ 29 [(0, .ref (ad 30 0)), (1, .int a1)] [.ref (ad 30 0)] (j_X10_lathe_29 σ a1) := by
  unfold j_X10_lathe_29
  refine r_iconst (2) (by decide) dX10_lathe_29 ?_
  refine r_goto 34 dX10_lathe_30 (by decide) ?_
  exact r_sub [0, 1] rfl ((bj_X10_lathe_34 X hst ad) _ _ _)
theorem nc_X10_lathe (X : Xt) (hst : X.1.stackTraces = false) (ad : Ad) (σ : Wd) (p0 : Int32) : NC X (fun a => a = ad) yX10_lathe cX10_lathe 4 (some (.int)) 2 44 vI (0, 0) ad σ [.ref (ad 30 0), .int p0] (f_X10_lathe σ p0) := by
  unfold f_X10_lathe
  refine NC.intro RX10 rfl hst (by decide) (Nat.le_of_ble_eq_true rfl) (lv := [(0, .ref _), (1, .int _)]) rfl ?_
  refine r_aload_n 0 rfl dX10_lathe_0 ?_
  refine r_aload_n 0 rfl dX10_lathe_1 ?_
  refine r_iload_n 1 rfl dX10_lathe_2 ?_
  refine r_callV (n := 1) (As := [.int _]) (cell_30 _ _ _ _) (lvs_30 _) rfl (nc_X10_isUnit X hst ad _ _) (fun _ h => h) rfl ⟨rfl, by decide, by decide, by decide +kernel⟩ w_160 w_161 w_162 w_121 w_163 rfl rfl (Nat.le_of_ble_eq_true rfl) ⟨by decide, by decide⟩ dX10_lathe_3 (fun v1 σ2 => ?_)
  refine r_if_ne 13 dX10_lathe_6 (by decide) ?_ ?_
  · refine r_iconst (1) (by decide) dX10_lathe_9 ?_
    refine r_goto 34 dX10_lathe_10 (by decide) ?_
    exact r_sub [0, 1] rfl ((bj_X10_lathe_34 X hst ad) _ _ _)
  · refine r_aload_n 0 rfl dX10_lathe_13 ?_
    refine r_getf 6 (lvs_30 _) (cell_30 _ _ _ _) rfl (by decide) in_11 w_130 rfl dX10_lathe_14 ?_
    refine r_iload_n 1 rfl dX10_lathe_17 ?_
    refine r_gd (fun h7 => ?_)
    refine r_iaload (lvs_31 _) (cell_31 _ _ _ _) h7 dX10_lathe_18 ?_
    refine r_if_ne 29 dX10_lathe_19 (by decide) ?_ ?_
    · refine r_aload_n 0 rfl dX10_lathe_22 ?_
      refine r_getf 4 (lvs_30 _) (cell_30 _ _ _ _) rfl (by decide) in_11 w_216 rfl dX10_lathe_23 ?_
      refine r_if_eq 33 dX10_lathe_26 (by decide) ?_ ?_
      · refine r_iconst (0) (by decide) dX10_lathe_33 ?_
        exact r_sub [0, 1] rfl ((bj_X10_lathe_34 X hst ad) _ _ _)
      · exact r_sub [0, 1] rfl ((bj_X10_lathe_29 X hst ad) _ _)
    · exact r_sub [0, 1] rfl ((bj_X10_lathe_29 X hst ad) _ _)
def f_X10_isFault (σ : Wd) (p0 : Int32) (p1 : Int32) : Option ((Int32 ⊕ String) × Wd) :=
  bx (f_X10_isUnit σ p0) fun v1 σ2 =>
  if v1 = 0 then
    some (.inl (0 : Int32), σ2)
  else
    gd (inb p0 6) <|
    bx (f_X10_between σ2 p1 (0 : Int32) ((σ2.1 39 0 p0.toNatClampNeg) - (1 : Int32))) fun v3 σ4 =>
    if v3 = 0 then
      some (.inl (0 : Int32), σ4)
    else
      some (.inl (1 : Int32), σ4)
theorem nc_X10_isFault (X : Xt) (hst : X.1.stackTraces = false) (ad : Ad) (σ : Wd) (p0 : Int32) (p1 : Int32) : NC X (fun a => a = ad) yX10_isFault cX10_isFault 3 (some (.boolean)) 2 44 vI (0, 0) ad σ [.ref (ad 30 0), .int p0, .int p1] (f_X10_isFault σ p0 p1) := by
  unfold f_X10_isFault
  refine NC.intro RX10 rfl hst (by decide) (Nat.le_of_ble_eq_true rfl) (lv := [(0, .ref _), (1, .int _), (2, .int _)]) rfl ?_
  refine r_aload_n 0 rfl dX10_isFault_0 ?_
  refine r_iload_n 1 rfl dX10_isFault_1 ?_
  refine r_callV (n := 1) (As := [.int _]) (cell_30 _ _ _ _) (lvs_30 _) rfl (nc_X10_isUnit X hst ad _ _) (fun _ h => h) rfl ⟨rfl, by decide, by decide, by decide +kernel⟩ w_160 w_161 w_162 w_121 w_163 rfl rfl (Nat.le_of_ble_eq_true rfl) ⟨by decide, by decide⟩ dX10_isFault_2 (fun v1 σ2 => ?_)
  refine r_if_eq 29 dX10_isFault_5 (by decide) ?_ ?_
  · refine r_iconst (0) (by decide) dX10_isFault_29 ?_
    exact r_zret rfl rfl rfl rfl dX10_isFault_30
  · refine r_aload_n 0 rfl dX10_isFault_8 ?_
    refine r_iload_n 2 rfl dX10_isFault_9 ?_
    refine r_iconst (0) (by decide) dX10_isFault_10 ?_
    refine r_aload_n 0 rfl dX10_isFault_11 ?_
    refine r_getf 14 (lvs_30 _) (cell_30 _ _ _ _) rfl (by decide) in_11 w_164 rfl dX10_isFault_12 ?_
    refine r_iload_n 1 rfl dX10_isFault_15 ?_
    refine r_gd (fun h1 => ?_)
    refine r_iaload (lvs_39 _) (cell_39 _ _ _ _) h1 dX10_isFault_16 ?_
    refine r_iconst (1) (by decide) dX10_isFault_17 ?_
    refine r_isub dX10_isFault_18 ?_
    refine r_callV (n := 3) (As := [.int _, .int _, .int _]) (cell_30 _ _ _ _) (lvs_30 _) rfl (nc_X10_between X hst ad _ _ _ _) (fun _ h => h) rfl ⟨rfl, by decide, by decide, by decide +kernel⟩ w_118 w_119 w_120 w_121 w_122 rfl rfl (Nat.le_of_ble_eq_true rfl) ⟨by decide, by decide⟩ dX10_isFault_19 (fun v3 σ4 => ?_)
    refine r_if_eq 29 dX10_isFault_22 (by decide) ?_ ?_
    · refine r_iconst (0) (by decide) dX10_isFault_29 ?_
      exact r_zret rfl rfl rfl rfl dX10_isFault_30
    · refine r_iconst (1) (by decide) dX10_isFault_25 ?_
      refine r_goto 30 dX10_isFault_26 (by decide) ?_
      exact r_zret rfl rfl rfl rfl dX10_isFault_30
def j_X10_mend_33 (σ : Wd) (a1 : Int32) (a2 : Int32) (s0 : Int32) : Option ((Int32 ⊕ String) × Wd) :=
  bd (wr σ 30 0 0 s0) fun σ3 =>
  if (σ3.1 30 0 0) ≤ 0 then
    gd (inb (((8 : Int32) * a1) + a2) 48) <|
    bd ((σ3.1 40 0 (((8 : Int32) * a1) + a2).toNatClampNeg)) fun x4 =>
    bx (f_X10_goes σ3 a1 a2) fun v5 σ6 =>
    some (.inl x4, σ6)
  else
    some (.inl (0 : Int32), σ3)
def f_X10_mend (σ : Wd) (p0 : Int32) (p1 : Int32) : Option ((Int32 ⊕ String) × Wd) :=
  bx (f_X10_isFault σ p0 p1) fun v1 σ2 =>
  if v1 = 0 then
    j_X10_mend_33 σ2 p0 p1 (1 : Int32)
  else
    gd (inb (((8 : Int32) * p0) + p1) 48) <|
    if (σ2.1 40 0 (((8 : Int32) * p0) + p1).toNatClampNeg) = 0 then
      j_X10_mend_33 σ2 p0 p1 (2 : Int32)
    else
      j_X10_mend_33 σ2 p0 p1 (0 : Int32)
theorem bj_X10_mend_33 (X : Xt) (hst : X.1.stackTraces = false) (ad : Ad) (σ : Wd) (a1 : Int32) (a2 : Int32) (s0 : Int32) : Bk X (fun a => a = ad) cX10_mend 4 RX10 (some (.int)) 3 66 vI (0, 0) (0, 0) ad σ 33 [(0, .ref (ad 30 0)), (1, .int a1), (2, .int a2)] [.int s0, .ref (ad 30 0)] (j_X10_mend_33 σ a1 a2 s0) := by
  unfold j_X10_mend_33
  refine r_bd ?_
  refine r_putf 0 tyX10 tyX10_ok nmX10 (lvs_30 _) (cell_30 _ _ _ _) (wrc_30_0 _ _ _ _ _) rfl (by decide) (Nat.le_of_ble_eq_true rfl) in_11 w_117 rfl rfl rfl dX10_mend_33 ?_
  refine r_aload_n 0 rfl dX10_mend_36 ?_
  refine r_getf 0 (lvs_30 _) (cell_30 _ _ _ _) rfl (by decide) in_11 w_117 rfl dX10_mend_37 ?_
  refine r_if_le 45 dX10_mend_40 (by decide) ?_ ?_
  · refine r_aload_n 0 rfl dX10_mend_45 ?_
    refine r_getf 15 (lvs_30 _) (cell_30 _ _ _ _) rfl (by decide) in_11 w_165 rfl dX10_mend_46 ?_
    refine r_bipush (8) (by decide) dX10_mend_49 ?_
    refine r_iload_n 1 rfl dX10_mend_51 ?_
    refine r_imul dX10_mend_52 ?_
    refine r_iload_n 2 rfl dX10_mend_53 ?_
    refine r_iadd dX10_mend_54 ?_
    refine r_gd (fun h1 => ?_)
    refine r_iaload (lvs_40 _) (cell_40 _ _ _ _) h1 dX10_mend_55 ?_
    refine r_bd ?_
    refine r_istore_n [(3, .int _), (0, .ref _), (1, .int _), (2, .int _)] rfl (by decide) dX10_mend_56 ?_
    refine r_aload_n 1 rfl dX10_mend_57 ?_
    refine r_iload_n 2 rfl dX10_mend_58 ?_
    refine r_iload_n 3 rfl dX10_mend_59 ?_
    refine r_callV (n := 2) (As := [.int _, .int _]) (cell_30 _ _ _ _) (lvs_30 _) rfl (nc_X10_goes X hst ad _ _ _) (fun _ h => h) rfl ⟨rfl, by decide, by decide, by decide +kernel⟩ w_231 w_232 w_233 w_121 w_234 rfl rfl (Nat.le_of_ble_eq_true rfl) ⟨by decide, by decide⟩ dX10_mend_60 (fun v5 σ6 => ?_)
    refine r_iload_n 0 rfl dX10_mend_63 ?_
    exact r_iret rfl rfl rfl dX10_mend_64
  · refine r_iconst (0) (by decide) dX10_mend_43 ?_
    exact r_iret rfl rfl rfl dX10_mend_44
theorem nc_X10_mend (X : Xt) (hst : X.1.stackTraces = false) (ad : Ad) (σ : Wd) (p0 : Int32) (p1 : Int32) : NC X (fun a => a = ad) yX10_mend cX10_mend 4 (some (.int)) 3 66 vI (0, 0) ad σ [.ref (ad 30 0), .int p0, .int p1] (f_X10_mend σ p0 p1) := by
  unfold f_X10_mend
  refine NC.intro RX10 rfl hst (by decide) (Nat.le_of_ble_eq_true rfl) (lv := [(0, .ref _), (1, .int _), (2, .int _)]) rfl ?_
  refine r_aload_n 0 rfl dX10_mend_0 ?_
  refine r_aload_n 0 rfl dX10_mend_1 ?_
  refine r_iload_n 1 rfl dX10_mend_2 ?_
  refine r_iload_n 2 rfl dX10_mend_3 ?_
  refine r_callV (n := 2) (As := [.int _, .int _]) (cell_30 _ _ _ _) (lvs_30 _) rfl (nc_X10_isFault X hst ad _ _ _) (fun _ h => h) rfl ⟨rfl, by decide, by decide, by decide +kernel⟩ w_235 w_236 w_237 w_121 w_238 rfl rfl (Nat.le_of_ble_eq_true rfl) ⟨by decide, by decide⟩ dX10_mend_4 (fun v1 σ2 => ?_)
  refine r_if_ne 14 dX10_mend_7 (by decide) ?_ ?_
  · refine r_iconst (1) (by decide) dX10_mend_10 ?_
    refine r_goto 33 dX10_mend_11 (by decide) ?_
    exact r_sub [0, 1, 2] rfl ((bj_X10_mend_33 X hst ad) _ _ _ _)
  · refine r_aload_n 0 rfl dX10_mend_14 ?_
    refine r_getf 15 (lvs_30 _) (cell_30 _ _ _ _) rfl (by decide) in_11 w_165 rfl dX10_mend_15 ?_
    refine r_bipush (8) (by decide) dX10_mend_18 ?_
    refine r_iload_n 1 rfl dX10_mend_20 ?_
    refine r_imul dX10_mend_21 ?_
    refine r_iload_n 2 rfl dX10_mend_22 ?_
    refine r_iadd dX10_mend_23 ?_
    refine r_gd (fun h2 => ?_)
    refine r_iaload (lvs_40 _) (cell_40 _ _ _ _) h2 dX10_mend_24 ?_
    refine r_if_ne 32 dX10_mend_25 (by decide) ?_ ?_
    · refine r_iconst (2) (by decide) dX10_mend_28 ?_
      refine r_goto 33 dX10_mend_29 (by decide) ?_
      exact r_sub [0, 1, 2] rfl ((bj_X10_mend_33 X hst ad) _ _ _ _)
    · refine r_iconst (0) (by decide) dX10_mend_32 ?_
      exact r_sub [0, 1, 2] rfl ((bj_X10_mend_33 X hst ad) _ _ _ _)
def f_X10_today (σ : Wd) : Option ((Int32 ⊕ String) × Wd) :=
  bd (wr σ 30 0 0 (0 : Int32)) fun σ1 =>
  some (.inl (σ1.1 30 0 1), σ1)
theorem nc_X10_today (X : Xt) (hst : X.1.stackTraces = false) (ad : Ad) (σ : Wd) : NC X (fun a => a = ad) yX10_today cX10_today 1 (some (.int)) 0 0 vI (0, 0) ad σ [.ref (ad 30 0)] (f_X10_today σ) := by
  unfold f_X10_today
  refine NC.intro RX10 rfl hst (by decide) (Nat.le_of_ble_eq_true rfl) (lv := [(0, .ref _)]) rfl ?_
  refine r_aload_n 0 rfl dX10_today_0 ?_
  refine r_iconst (0) (by decide) dX10_today_1 ?_
  refine r_bd ?_
  refine r_putf 0 tyX10 tyX10_ok nmX10 (lvs_30 _) (cell_30 _ _ _ _) (wrc_30_0 _ _ _ _ _) rfl (by decide) (Nat.le_of_ble_eq_true rfl) in_11 w_117 rfl rfl rfl dX10_today_2 ?_
  refine r_aload_n 0 rfl dX10_today_5 ?_
  refine r_getf 1 (lvs_30 _) (cell_30 _ _ _ _) rfl (by decide) in_11 w_167 rfl dX10_today_6 ?_
  exact r_iret rfl rfl rfl dX10_today_9
def j_X10_about_182 (k130 : Wd → Int32 → Int32 → Int32 → Int32 → Option ((Int32 ⊕ String) × Wd)) (σ : Wd) (a4 : Int32) (a3 : Int32) (a1 : Int32) (a2 : Int32) (s0 : Int32) : Option ((Int32 ⊕ String) × Wd) :=
  if s0 = 0 then
    k130 σ (a4 + 1) (a3 + (0 : Int32)) a1 a2
  else
    bd ((a3 + ((1 : Int32) <<< (a4 &&& 31)))) fun x6 =>
    k130 σ (a4 + 1) x6 a1 a2
def j_X10_about_177 (k130 : Wd → Int32 → Int32 → Int32 → Int32 → Option ((Int32 ⊕ String) × Wd)) (σ : Wd) (a4 : Int32) (a3 : Int32) (a1 : Int32) (a2 : Int32) : Option ((Int32 ⊕ String) × Wd) :=
  j_X10_about_182 k130 σ a4 a3 a1 a2 (1 : Int32)
def l_X10_about_130 : Nat → Wd → Int32 → Int32 → Int32 → Int32 → Option ((Int32 ⊕ String) × Wd)
  | 0, _, _, _, _, _ => none
  | n + 1, σ, a4, a3, a1, a2 =>
  if (3 : Int32) ≤ a4 then
    some (.inl a3, σ)
  else
    gd (inb (((3 : Int32) * a1) + a4) 18) <|
    bx (f_X10_bound σ a4) fun v4 σ5 =>
    if v4 < (σ.1 35 0 (((3 : Int32) * a1) + a4).toNatClampNeg) then
      j_X10_about_177 (l_X10_about_130 n) σ5 a4 a3 a1 a2
    else
      gd (inb a4 3) <|
      if (σ5.1 36 0 (((3 : Int32) * a1) + a4).toNatClampNeg) ≤ (σ5.1 52 0 a4.toNatClampNeg) then
        j_X10_about_182 (l_X10_about_130 n) σ5 a4 a3 a1 a2 (0 : Int32)
      else
        j_X10_about_177 (l_X10_about_130 n) σ5 a4 a3 a1 a2
def j_X10_about_28 (σ : Wd) (a1 : Int32) (a2 : Int32) (s0 : Int32) : Option ((Int32 ⊕ String) × Wd) :=
  bd (wr σ 30 0 0 s0) fun σ3 =>
  if (σ3.1 30 0 0) ≤ 0 then
    if (3 : Int32) ≤ a2 then
      if (5 : Int32) ≤ a2 then
        l_X10_about_130 FU σ3 (0 : Int32) (0 : Int32) a1 a2
      else
        if a2 = (3 : Int32) then
          gd (inb a1 6) <|
          gd (inb (σ3.1 31 0 a1.toNatClampNeg) 3) <|
          bx (f_X10_placeOf σ3 a1) fun v7 σ8 =>
          some (.inl (((σ3.1 38 0 (σ3.1 31 0 a1.toNatClampNeg).toNatClampNeg) - (1 : Int32)) - v7), σ8)
        else
          bx (f_X10_isSoon σ3 a1) fun v9 σ10 =>
          if v9 = 0 then
            some (.inl (0 : Int32), σ10)
          else
            some (.inl (1 : Int32), σ10)
    else
      if a2 = 0 then
        gd (inb a1 6) <|
        some (.inl (σ3.1 31 0 a1.toNatClampNeg), σ3)
      else
        if a2 = (1 : Int32) then
          gd (inb a1 6) <|
          some (.inl (σ3.1 33 0 a1.toNatClampNeg), σ3)
        else
          gd (inb a1 6) <|
          some (.inl (σ3.1 39 0 a1.toNatClampNeg), σ3)
  else
    some (.inl (0 : Int32), σ3)
def f_X10_about (σ : Wd) (p0 : Int32) (p1 : Int32) : Option ((Int32 ⊕ String) × Wd) :=
  bx (f_X10_isUnit σ p0) fun v1 σ2 =>
  if v1 = 0 then
    j_X10_about_28 σ2 p0 p1 (1 : Int32)
  else
    bx (f_X10_between σ2 p1 (0 : Int32) (5 : Int32)) fun v11 σ12 =>
    if v11 = 0 then
      j_X10_about_28 σ12 p0 p1 (2 : Int32)
    else
      j_X10_about_28 σ12 p0 p1 (0 : Int32)
theorem bj_X10_about_182 (X : Xt) (hst : X.1.stackTraces = false) (ad : Ad) {k130 : Wd → Int32 → Int32 → Int32 → Int32 → Option ((Int32 ⊕ String) × Wd)} (hk130 : ∀ (σ : Wd) (a4 : Int32) (a3 : Int32) (a1 : Int32) (a2 : Int32), Bk X (fun a => a = ad) cX10_about 6 RX10 (some (.int)) 2 44 vI (0, 0) (0, 0) ad σ 130 [(4, .int a4), (3, .int a3), (0, .ref (ad 30 0)), (1, .int a1), (2, .int a2)] [] (k130 σ a4 a3 a1 a2)) (σ : Wd) (a4 : Int32) (a3 : Int32) (a1 : Int32) (a2 : Int32) (s0 : Int32) : Bk X (fun a => a = ad) cX10_about 6 RX10 (some (.int)) 2 44 vI (0, 0) (0, 0) ad σ 182 [(4, .int a4), (3, .int a3), (0, .ref (ad 30 0)), (1, .int a1), (2, .int a2)] [.int s0] (j_X10_about_182 k130 σ a4 a3 a1 a2 s0) := by
  unfold j_X10_about_182
  refine r_istore [(5, .int _), (4, .int _), (3, .int _), (0, .ref _), (1, .int _), (2, .int _)] rfl (by decide) dX10_about_182 ?_
  refine r_iload_n 2 rfl dX10_about_184 ?_
  refine r_iload 0 rfl dX10_about_185 ?_
  refine r_if_eq 197 dX10_about_187 (by decide) ?_ ?_
  · refine r_iconst (0) (by decide) dX10_about_197 ?_
    refine r_iadd dX10_about_198 ?_
    refine r_istore_n [(3, .int _), (5, .int _), (4, .int _), (0, .ref _), (1, .int _), (2, .int _)] rfl (by decide) dX10_about_199 ?_
    refine r_iinc (1) [(4, .int _), (3, .int _), (5, .int _), (0, .ref _), (1, .int _), (2, .int _)] 2 rfl (by decide) rfl (by decide) dX10_about_200 ?_
    refine r_goto 130 dX10_about_203 (by decide) ?_
    exact r_sub [0, 1, 3, 4, 5] rfl (hk130 _ _ _ _ _)
  · refine r_iconst (1) (by decide) dX10_about_190 ?_
    refine r_iload 1 rfl dX10_about_191 ?_
    refine r_ishl dX10_about_193 ?_
    refine r_goto 198 dX10_about_194 (by decide) ?_
    refine r_iadd dX10_about_198 ?_
    refine r_bd ?_
    refine r_istore_n [(3, .int _), (5, .int _), (4, .int _), (0, .ref _), (1, .int _), (2, .int _)] rfl (by decide) dX10_about_199 ?_
    refine r_iinc (1) [(4, .int _), (3, .int _), (5, .int _), (0, .ref _), (1, .int _), (2, .int _)] 2 rfl (by decide) rfl (by decide) dX10_about_200 ?_
    refine r_goto 130 dX10_about_203 (by decide) ?_
    exact r_sub [0, 1, 3, 4, 5] rfl (hk130 _ _ _ _ _)
theorem bj_X10_about_177 (X : Xt) (hst : X.1.stackTraces = false) (ad : Ad) {k130 : Wd → Int32 → Int32 → Int32 → Int32 → Option ((Int32 ⊕ String) × Wd)} (hk130 : ∀ (σ : Wd) (a4 : Int32) (a3 : Int32) (a1 : Int32) (a2 : Int32), Bk X (fun a => a = ad) cX10_about 6 RX10 (some (.int)) 2 44 vI (0, 0) (0, 0) ad σ 130 [(4, .int a4), (3, .int a3), (0, .ref (ad 30 0)), (1, .int a1), (2, .int a2)] [] (k130 σ a4 a3 a1 a2)) (σ : Wd) (a4 : Int32) (a3 : Int32) (a1 : Int32) (a2 : Int32) : Bk X (fun a => a = ad) cX10_about 6 RX10 (some (.int)) 2 44 vI (0, 0) (0, 0) ad σ 177 [(4, .int a4), (3, .int a3), (0, .ref (ad 30 0)), (1, .int a1), (2, .int a2)] [] (j_X10_about_177 k130 σ a4 a3 a1 a2) := by
  unfold j_X10_about_177
  refine r_iconst (1) (by decide) dX10_about_177 ?_
  refine r_goto 182 dX10_about_178 (by decide) ?_
  exact r_sub [0, 1, 2, 3, 4] rfl ((bj_X10_about_182 X hst ad hk130) _ _ _ _ _ _)
theorem bl_X10_about_130 (X : Xt) (hst : X.1.stackTraces = false) (ad : Ad) : ∀ (n : Nat) (σ : Wd) (a4 : Int32) (a3 : Int32) (a1 : Int32) (a2 : Int32), Bk X (fun a => a = ad) cX10_about 6 RX10 (some (.int)) 2 44 vI (0, 0) (0, 0) ad σ 130 [(4, .int a4), (3, .int a3), (0, .ref (ad 30 0)), (1, .int a1), (2, .int a2)] [] (l_X10_about_130 n σ a4 a3 a1 a2) := by
  intro n
  induction n with
  | zero => intros; exact r_none
  | succ n ih =>
  intro σ a4 a3 a1 a2
  rw [l_X10_about_130]
  refine r_iload 0 rfl dX10_about_130 ?_
  refine r_iconst (3) (by decide) dX10_about_132 ?_
  refine r_icmp_ge 206 dX10_about_133 (by decide) ?_ ?_
  · refine r_iload_n 1 rfl dX10_about_206 ?_
    exact r_iret rfl rfl rfl dX10_about_207
  · refine r_aload_n 2 rfl dX10_about_136 ?_
    refine r_getf 10 (lvs_30 _) (cell_30 _ _ _ _) rfl (by decide) in_11 w_174 rfl dX10_about_137 ?_
    refine r_iconst (3) (by decide) dX10_about_140 ?_
    refine r_iload_n 3 rfl dX10_about_141 ?_
    refine r_imul dX10_about_142 ?_
    refine r_iload 0 rfl dX10_about_143 ?_
    refine r_iadd dX10_about_145 ?_
    refine r_gd (fun h1 => ?_)
    refine r_iaload (lvs_35 _) (cell_35 _ _ _ _) h1 dX10_about_146 ?_
    refine r_aload_n 2 rfl dX10_about_147 ?_
    refine r_iload 0 rfl dX10_about_148 ?_
    refine r_callV (n := 1) (As := [.int _]) (cell_30 _ _ _ _) (lvs_30 _) rfl (nc_X10_bound X hst ad _ _) (fun _ h => h) rfl ⟨rfl, by decide, by decide, by decide +kernel⟩ w_153 w_154 w_155 w_121 w_156 rfl rfl (Nat.le_of_ble_eq_true rfl) ⟨by decide, by decide⟩ dX10_about_150 (fun v4 σ5 => ?_)
    refine r_icmp_gt 177 dX10_about_153 (by decide) ?_ ?_
    · exact r_sub [0, 1, 2, 3, 4] rfl ((bj_X10_about_177 X hst ad ih) _ _ _ _ _)
    · refine r_aload_n 2 rfl dX10_about_156 ?_
      refine r_getf 11 (lvs_30 _) (cell_30 _ _ _ _) rfl (by decide) in_11 w_175 rfl dX10_about_157 ?_
      refine r_iconst (3) (by decide) dX10_about_160 ?_
      refine r_iload_n 3 rfl dX10_about_161 ?_
      refine r_imul dX10_about_162 ?_
      refine r_iload 0 rfl dX10_about_163 ?_
      refine r_iadd dX10_about_165 ?_
      refine r_iaload (lvs_36 _) (cell_36 _ _ _ _) h1 dX10_about_166 ?_
      refine r_aload_n 2 rfl dX10_about_167 ?_
      refine r_getf 28 (lvs_30 _) (cell_30 _ _ _ _) rfl (by decide) in_11 w_152 rfl dX10_about_168 ?_
      refine r_iload 0 rfl dX10_about_171 ?_
      refine r_gd (fun h2 => ?_)
      refine r_iaload (lvs_52 _) (cell_52 _ _ _ _) h2 dX10_about_173 ?_
      refine r_icmp_le 181 dX10_about_174 (by decide) ?_ ?_
      · refine r_iconst (0) (by decide) dX10_about_181 ?_
        exact r_sub [0, 1, 2, 3, 4] rfl ((bj_X10_about_182 X hst ad ih) _ _ _ _ _ _)
      · exact r_sub [0, 1, 2, 3, 4] rfl ((bj_X10_about_177 X hst ad ih) _ _ _ _ _)
theorem bj_X10_about_28 (X : Xt) (hst : X.1.stackTraces = false) (ad : Ad) (σ : Wd) (a1 : Int32) (a2 : Int32) (s0 : Int32) : Bk X (fun a => a = ad) cX10_about 6 RX10 (some (.int)) 2 44 vI (0, 0) (0, 0) ad σ 28 [(0, .ref (ad 30 0)), (1, .int a1), (2, .int a2)] [.int s0, .ref (ad 30 0)] (j_X10_about_28 σ a1 a2 s0) := by
  unfold j_X10_about_28
  refine r_bd ?_
  refine r_putf 0 tyX10 tyX10_ok nmX10 (lvs_30 _) (cell_30 _ _ _ _) (wrc_30_0 _ _ _ _ _) rfl (by decide) (Nat.le_of_ble_eq_true rfl) in_11 w_117 rfl rfl rfl dX10_about_28 ?_
  refine r_aload_n 0 rfl dX10_about_31 ?_
  refine r_getf 0 (lvs_30 _) (cell_30 _ _ _ _) rfl (by decide) in_11 w_117 rfl dX10_about_32 ?_
  refine r_if_le 40 dX10_about_35 (by decide) ?_ ?_
  · refine r_iload_n 2 rfl dX10_about_40 ?_
    refine r_iconst (3) (by decide) dX10_about_41 ?_
    refine r_icmp_ge 79 dX10_about_42 (by decide) ?_ ?_
    · refine r_iload_n 2 rfl dX10_about_79 ?_
      refine r_iconst (5) (by decide) dX10_about_80 ?_
      refine r_icmp_ge 125 dX10_about_81 (by decide) ?_ ?_
      · refine r_iconst (0) (by decide) dX10_about_125 ?_
        refine r_istore_n [(3, .int _), (0, .ref _), (1, .int _), (2, .int _)] rfl (by decide) dX10_about_126 ?_
        refine r_iconst (0) (by decide) dX10_about_127 ?_
        refine r_istore [(4, .int _), (3, .int _), (0, .ref _), (1, .int _), (2, .int _)] rfl (by decide) dX10_about_128 ?_
        exact r_sub [0, 1, 2, 3, 4] rfl ((bl_X10_about_130 X hst ad FU) _ _ _ _ _)
      · refine r_iload_n 2 rfl dX10_about_84 ?_
        refine r_iconst (3) (by decide) dX10_about_85 ?_
        refine r_icmp_ne 111 dX10_about_86 (by decide) ?_ ?_
        · refine r_aload_n 0 rfl dX10_about_89 ?_
          refine r_getf 13 (lvs_30 _) (cell_30 _ _ _ _) rfl (by decide) in_11 w_132 rfl dX10_about_90 ?_
          refine r_aload_n 0 rfl dX10_about_93 ?_
          refine r_getf 6 (lvs_30 _) (cell_30 _ _ _ _) rfl (by decide) in_11 w_130 rfl dX10_about_94 ?_
          refine r_iload_n 1 rfl dX10_about_97 ?_
          refine r_gd (fun h3 => ?_)
          refine r_iaload (lvs_31 _) (cell_31 _ _ _ _) h3 dX10_about_98 ?_
          refine r_gd (fun h4 => ?_)
          refine r_iaload (lvs_38 _) (cell_38 _ _ _ _) h4 dX10_about_99 ?_
          refine r_iconst (1) (by decide) dX10_about_100 ?_
          refine r_isub dX10_about_101 ?_
          refine r_aload_n 0 rfl dX10_about_102 ?_
          refine r_iload_n 1 rfl dX10_about_103 ?_
          refine r_callV (n := 1) (As := [.int _]) (cell_30 _ _ _ _) (lvs_30 _) rfl (nc_X10_placeOf X hst ad _ _) (fun _ h => h) rfl ⟨rfl, by decide, by decide, by decide +kernel⟩ w_222 w_223 w_224 w_121 w_225 rfl rfl (Nat.le_of_ble_eq_true rfl) ⟨by decide, by decide⟩ dX10_about_104 (fun v7 σ8 => ?_)
          refine r_isub dX10_about_107 ?_
          refine r_goto 124 dX10_about_108 (by decide) ?_
          exact r_iret rfl rfl rfl dX10_about_124
        · refine r_aload_n 0 rfl dX10_about_111 ?_
          refine r_iload_n 1 rfl dX10_about_112 ?_
          refine r_callV (n := 1) (As := [.int _]) (cell_30 _ _ _ _) (lvs_30 _) rfl (nc_X10_isSoon X hst ad _ _) (fun _ h => h) rfl ⟨rfl, by decide, by decide, by decide +kernel⟩ w_207 w_208 w_209 w_121 w_210 rfl rfl (Nat.le_of_ble_eq_true rfl) ⟨by decide, by decide⟩ dX10_about_113 (fun v9 σ10 => ?_)
          refine r_if_eq 123 dX10_about_116 (by decide) ?_ ?_
          · refine r_iconst (0) (by decide) dX10_about_123 ?_
            exact r_iret rfl rfl rfl dX10_about_124
          · refine r_iconst (1) (by decide) dX10_about_119 ?_
            refine r_goto 124 dX10_about_120 (by decide) ?_
            exact r_iret rfl rfl rfl dX10_about_124
    · refine r_iload_n 2 rfl dX10_about_45 ?_
      refine r_if_ne 58 dX10_about_46 (by decide) ?_ ?_
      · refine r_aload_n 0 rfl dX10_about_49 ?_
        refine r_getf 6 (lvs_30 _) (cell_30 _ _ _ _) rfl (by decide) in_11 w_130 rfl dX10_about_50 ?_
        refine r_iload_n 1 rfl dX10_about_53 ?_
        refine r_gd (fun h5 => ?_)
        refine r_iaload (lvs_31 _) (cell_31 _ _ _ _) h5 dX10_about_54 ?_
        refine r_goto 78 dX10_about_55 (by decide) ?_
        exact r_iret rfl rfl rfl dX10_about_78
      · refine r_iload_n 2 rfl dX10_about_58 ?_
        refine r_iconst (1) (by decide) dX10_about_59 ?_
        refine r_icmp_ne 72 dX10_about_60 (by decide) ?_ ?_
        · refine r_aload_n 0 rfl dX10_about_63 ?_
          refine r_getf 8 (lvs_30 _) (cell_30 _ _ _ _) rfl (by decide) in_11 w_127 rfl dX10_about_64 ?_
          refine r_iload_n 1 rfl dX10_about_67 ?_
          refine r_gd (fun h6 => ?_)
          refine r_iaload (lvs_33 _) (cell_33 _ _ _ _) h6 dX10_about_68 ?_
          refine r_goto 78 dX10_about_69 (by decide) ?_
          exact r_iret rfl rfl rfl dX10_about_78
        · refine r_aload_n 0 rfl dX10_about_72 ?_
          refine r_getf 14 (lvs_30 _) (cell_30 _ _ _ _) rfl (by decide) in_11 w_164 rfl dX10_about_73 ?_
          refine r_iload_n 1 rfl dX10_about_76 ?_
          refine r_gd (fun h7 => ?_)
          refine r_iaload (lvs_39 _) (cell_39 _ _ _ _) h7 dX10_about_77 ?_
          exact r_iret rfl rfl rfl dX10_about_78
  · refine r_iconst (0) (by decide) dX10_about_38 ?_
    exact r_iret rfl rfl rfl dX10_about_39
theorem nc_X10_about (X : Xt) (hst : X.1.stackTraces = false) (ad : Ad) (σ : Wd) (p0 : Int32) (p1 : Int32) : NC X (fun a => a = ad) yX10_about cX10_about 6 (some (.int)) 2 44 vI (0, 0) ad σ [.ref (ad 30 0), .int p0, .int p1] (f_X10_about σ p0 p1) := by
  unfold f_X10_about
  refine NC.intro RX10 rfl hst (by decide) (Nat.le_of_ble_eq_true rfl) (lv := [(0, .ref _), (1, .int _), (2, .int _)]) rfl ?_
  refine r_aload_n 0 rfl dX10_about_0 ?_
  refine r_aload_n 0 rfl dX10_about_1 ?_
  refine r_iload_n 1 rfl dX10_about_2 ?_
  refine r_callV (n := 1) (As := [.int _]) (cell_30 _ _ _ _) (lvs_30 _) rfl (nc_X10_isUnit X hst ad _ _) (fun _ h => h) rfl ⟨rfl, by decide, by decide, by decide +kernel⟩ w_160 w_161 w_162 w_121 w_163 rfl rfl (Nat.le_of_ble_eq_true rfl) ⟨by decide, by decide⟩ dX10_about_3 (fun v1 σ2 => ?_)
  refine r_if_ne 13 dX10_about_6 (by decide) ?_ ?_
  · refine r_iconst (1) (by decide) dX10_about_9 ?_
    refine r_goto 28 dX10_about_10 (by decide) ?_
    exact r_sub [0, 1, 2] rfl ((bj_X10_about_28 X hst ad) _ _ _ _)
  · refine r_aload_n 0 rfl dX10_about_13 ?_
    refine r_iload_n 2 rfl dX10_about_14 ?_
    refine r_iconst (0) (by decide) dX10_about_15 ?_
    refine r_iconst (5) (by decide) dX10_about_16 ?_
    refine r_callV (n := 3) (As := [.int _, .int _, .int _]) (cell_30 _ _ _ _) (lvs_30 _) rfl (nc_X10_between X hst ad _ _ _ _) (fun _ h => h) rfl ⟨rfl, by decide, by decide, by decide +kernel⟩ w_118 w_119 w_120 w_121 w_122 rfl rfl (Nat.le_of_ble_eq_true rfl) ⟨by decide, by decide⟩ dX10_about_17 (fun v11 σ12 => ?_)
    refine r_if_ne 27 dX10_about_20 (by decide) ?_ ?_
    · refine r_iconst (2) (by decide) dX10_about_23 ?_
      refine r_goto 28 dX10_about_24 (by decide) ?_
      exact r_sub [0, 1, 2] rfl ((bj_X10_about_28 X hst ad) _ _ _ _)
    · refine r_iconst (0) (by decide) dX10_about_27 ?_
      exact r_sub [0, 1, 2] rfl ((bj_X10_about_28 X hst ad) _ _ _ _)
def j_X10_clock_22 (σ : Wd) (a1 : Int32) (a2 : Int32) (a3 : Int32) (s0 : Int32) : Option ((Int32 ⊕ String) × Wd) :=
  bd (wr σ 30 0 0 s0) fun σ3 =>
  if (σ3.1 30 0 0) ≤ 0 then
    if a3 = 0 then
      gd (inb (((3 : Int32) * a1) + a2) 18) <|
      some (.inl (σ3.1 35 0 (((3 : Int32) * a1) + a2).toNatClampNeg), σ3)
    else
      gd (inb (((3 : Int32) * a1) + a2) 18) <|
      some (.inl (σ3.1 36 0 (((3 : Int32) * a1) + a2).toNatClampNeg), σ3)
  else
    some (.inl (0 : Int32), σ3)
def j_X10_clock_17 (σ : Wd) (a1 : Int32) (a2 : Int32) (a3 : Int32) : Option ((Int32 ⊕ String) × Wd) :=
  j_X10_clock_22 σ a1 a2 a3 (1 : Int32)
def f_X10_clock (σ : Wd) (p0 : Int32) (p1 : Int32) (p2 : Int32) : Option ((Int32 ⊕ String) × Wd) :=
  bx (f_X10_isUnit σ p0) fun v1 σ2 =>
  if v1 = 0 then
    j_X10_clock_17 σ2 p0 p1 p2
  else
    bx (f_X10_isExam σ2 p1) fun v4 σ5 =>
    if v4 = 0 then
      j_X10_clock_17 σ5 p0 p1 p2
    else
      j_X10_clock_22 σ5 p0 p1 p2 (0 : Int32)
theorem bj_X10_clock_22 (X : Xt) (hst : X.1.stackTraces = false) (ad : Ad) (σ : Wd) (a1 : Int32) (a2 : Int32) (a3 : Int32) (s0 : Int32) : Bk X (fun a => a = ad) cX10_clock 4 RX10 (some (.int)) 2 44 vI (0, 0) (0, 0) ad σ 22 [(0, .ref (ad 30 0)), (1, .int a1), (2, .int a2), (3, .int a3)] [.int s0, .ref (ad 30 0)] (j_X10_clock_22 σ a1 a2 a3 s0) := by
  unfold j_X10_clock_22
  refine r_bd ?_
  refine r_putf 0 tyX10 tyX10_ok nmX10 (lvs_30 _) (cell_30 _ _ _ _) (wrc_30_0 _ _ _ _ _) rfl (by decide) (Nat.le_of_ble_eq_true rfl) in_11 w_117 rfl rfl rfl dX10_clock_22 ?_
  refine r_aload_n 0 rfl dX10_clock_25 ?_
  refine r_getf 0 (lvs_30 _) (cell_30 _ _ _ _) rfl (by decide) in_11 w_117 rfl dX10_clock_26 ?_
  refine r_if_le 36 dX10_clock_29 (by decide) ?_ ?_
  · refine r_iload_n 3 rfl dX10_clock_36 ?_
    refine r_if_eq 53 dX10_clock_37 (by decide) ?_ ?_
    · refine r_aload_n 0 rfl dX10_clock_53 ?_
      refine r_getf 10 (lvs_30 _) (cell_30 _ _ _ _) rfl (by decide) in_11 w_174 rfl dX10_clock_54 ?_
      refine r_iconst (3) (by decide) dX10_clock_57 ?_
      refine r_iload_n 1 rfl dX10_clock_58 ?_
      refine r_imul dX10_clock_59 ?_
      refine r_iload_n 2 rfl dX10_clock_60 ?_
      refine r_iadd dX10_clock_61 ?_
      refine r_gd (fun h1 => ?_)
      refine r_iaload (lvs_35 _) (cell_35 _ _ _ _) h1 dX10_clock_62 ?_
      exact r_iret rfl rfl rfl dX10_clock_63
    · refine r_aload_n 0 rfl dX10_clock_40 ?_
      refine r_getf 11 (lvs_30 _) (cell_30 _ _ _ _) rfl (by decide) in_11 w_175 rfl dX10_clock_41 ?_
      refine r_iconst (3) (by decide) dX10_clock_44 ?_
      refine r_iload_n 1 rfl dX10_clock_45 ?_
      refine r_imul dX10_clock_46 ?_
      refine r_iload_n 2 rfl dX10_clock_47 ?_
      refine r_iadd dX10_clock_48 ?_
      refine r_gd (fun h2 => ?_)
      refine r_iaload (lvs_36 _) (cell_36 _ _ _ _) h2 dX10_clock_49 ?_
      refine r_goto 63 dX10_clock_50 (by decide) ?_
      exact r_iret rfl rfl rfl dX10_clock_63
  · refine r_iconst (0) (by decide) dX10_clock_32 ?_
    refine r_goto 63 dX10_clock_33 (by decide) ?_
    exact r_iret rfl rfl rfl dX10_clock_63
theorem bj_X10_clock_17 (X : Xt) (hst : X.1.stackTraces = false) (ad : Ad) (σ : Wd) (a1 : Int32) (a2 : Int32) (a3 : Int32) : Bk X (fun a => a = ad) cX10_clock 4 RX10 (some (.int)) 2 44 vI (0, 0) (0, 0) ad σ 17 [(0, .ref (ad 30 0)), (1, .int a1), (2, .int a2), (3, .int a3)] [.ref (ad 30 0)] (j_X10_clock_17 σ a1 a2 a3) := by
  unfold j_X10_clock_17
  refine r_iconst (1) (by decide) dX10_clock_17 ?_
  refine r_goto 22 dX10_clock_18 (by decide) ?_
  exact r_sub [0, 1, 2, 3] rfl ((bj_X10_clock_22 X hst ad) _ _ _ _ _)
theorem nc_X10_clock (X : Xt) (hst : X.1.stackTraces = false) (ad : Ad) (σ : Wd) (p0 : Int32) (p1 : Int32) (p2 : Int32) : NC X (fun a => a = ad) yX10_clock cX10_clock 4 (some (.int)) 2 44 vI (0, 0) ad σ [.ref (ad 30 0), .int p0, .int p1, .int p2] (f_X10_clock σ p0 p1 p2) := by
  unfold f_X10_clock
  refine NC.intro RX10 rfl hst (by decide) (Nat.le_of_ble_eq_true rfl) (lv := [(0, .ref _), (1, .int _), (2, .int _), (3, .int _)]) rfl ?_
  refine r_aload_n 0 rfl dX10_clock_0 ?_
  refine r_aload_n 0 rfl dX10_clock_1 ?_
  refine r_iload_n 1 rfl dX10_clock_2 ?_
  refine r_callV (n := 1) (As := [.int _]) (cell_30 _ _ _ _) (lvs_30 _) rfl (nc_X10_isUnit X hst ad _ _) (fun _ h => h) rfl ⟨rfl, by decide, by decide, by decide +kernel⟩ w_160 w_161 w_162 w_121 w_163 rfl rfl (Nat.le_of_ble_eq_true rfl) ⟨by decide, by decide⟩ dX10_clock_3 (fun v1 σ2 => ?_)
  refine r_if_eq 17 dX10_clock_6 (by decide) ?_ ?_
  · exact r_sub [0, 1, 2, 3] rfl ((bj_X10_clock_17 X hst ad) _ _ _ _)
  · refine r_aload_n 0 rfl dX10_clock_9 ?_
    refine r_iload_n 2 rfl dX10_clock_10 ?_
    refine r_callV (n := 1) (As := [.int _]) (cell_30 _ _ _ _) (lvs_30 _) rfl (nc_X10_isExam X hst ad _ _) (fun _ h => h) rfl ⟨rfl, by decide, by decide, by decide +kernel⟩ w_146 w_147 w_148 w_121 w_149 rfl rfl (Nat.le_of_ble_eq_true rfl) ⟨by decide, by decide⟩ dX10_clock_11 (fun v4 σ5 => ?_)
    refine r_if_ne 21 dX10_clock_14 (by decide) ?_ ?_
    · exact r_sub [0, 1, 2, 3] rfl ((bj_X10_clock_17 X hst ad) _ _ _ _)
    · refine r_iconst (0) (by decide) dX10_clock_21 ?_
      exact r_sub [0, 1, 2, 3] rfl ((bj_X10_clock_22 X hst ad) _ _ _ _ _)
def j_X10_axle_24 (σ : Wd) (a1 : Int32) (a2 : Int32) (s0 : Int32) : Option ((Int32 ⊕ String) × Wd) :=
  bd (wr σ 30 0 0 s0) fun σ3 =>
  if (σ3.1 30 0 0) ≤ 0 then
    gd (inb (((4 : Int32) * a1) + a2) 24) <|
    some (.inl (σ3.1 34 0 (((4 : Int32) * a1) + a2).toNatClampNeg), σ3)
  else
    some (.inl (0 : Int32), σ3)
def j_X10_axle_19 (σ : Wd) (a1 : Int32) (a2 : Int32) : Option ((Int32 ⊕ String) × Wd) :=
  j_X10_axle_24 σ a1 a2 (1 : Int32)
def f_X10_axle (σ : Wd) (p0 : Int32) (p1 : Int32) : Option ((Int32 ⊕ String) × Wd) :=
  bx (f_X10_isUnit σ p0) fun v1 σ2 =>
  if v1 = 0 then
    j_X10_axle_19 σ2 p0 p1
  else
    bx (f_X10_between σ2 p1 (0 : Int32) (3 : Int32)) fun v4 σ5 =>
    if v4 = 0 then
      j_X10_axle_19 σ5 p0 p1
    else
      j_X10_axle_24 σ5 p0 p1 (0 : Int32)
theorem bj_X10_axle_24 (X : Xt) (hst : X.1.stackTraces = false) (ad : Ad) (σ : Wd) (a1 : Int32) (a2 : Int32) (s0 : Int32) : Bk X (fun a => a = ad) cX10_axle 3 RX10 (some (.int)) 2 44 vI (0, 0) (0, 0) ad σ 24 [(0, .ref (ad 30 0)), (1, .int a1), (2, .int a2)] [.int s0, .ref (ad 30 0)] (j_X10_axle_24 σ a1 a2 s0) := by
  unfold j_X10_axle_24
  refine r_bd ?_
  refine r_putf 0 tyX10 tyX10_ok nmX10 (lvs_30 _) (cell_30 _ _ _ _) (wrc_30_0 _ _ _ _ _) rfl (by decide) (Nat.le_of_ble_eq_true rfl) in_11 w_117 rfl rfl rfl dX10_axle_24 ?_
  refine r_aload_n 0 rfl dX10_axle_27 ?_
  refine r_getf 0 (lvs_30 _) (cell_30 _ _ _ _) rfl (by decide) in_11 w_117 rfl dX10_axle_28 ?_
  refine r_if_le 38 dX10_axle_31 (by decide) ?_ ?_
  · refine r_aload_n 0 rfl dX10_axle_38 ?_
    refine r_getf 9 (lvs_30 _) (cell_30 _ _ _ _) rfl (by decide) in_11 w_137 rfl dX10_axle_39 ?_
    refine r_iconst (4) (by decide) dX10_axle_42 ?_
    refine r_iload_n 1 rfl dX10_axle_43 ?_
    refine r_imul dX10_axle_44 ?_
    refine r_iload_n 2 rfl dX10_axle_45 ?_
    refine r_iadd dX10_axle_46 ?_
    refine r_gd (fun h1 => ?_)
    refine r_iaload (lvs_34 _) (cell_34 _ _ _ _) h1 dX10_axle_47 ?_
    exact r_iret rfl rfl rfl dX10_axle_48
  · refine r_iconst (0) (by decide) dX10_axle_34 ?_
    refine r_goto 48 dX10_axle_35 (by decide) ?_
    exact r_iret rfl rfl rfl dX10_axle_48
theorem bj_X10_axle_19 (X : Xt) (hst : X.1.stackTraces = false) (ad : Ad) (σ : Wd) (a1 : Int32) (a2 : Int32) : Bk X (fun a => a = ad) cX10_axle 3 RX10 (some (.int)) 2 44 vI (0, 0) (0, 0) ad σ 19 [(0, .ref (ad 30 0)), (1, .int a1), (2, .int a2)] [.ref (ad 30 0)] (j_X10_axle_19 σ a1 a2) := by
  unfold j_X10_axle_19
  refine r_iconst (1) (by decide) dX10_axle_19 ?_
  refine r_goto 24 dX10_axle_20 (by decide) ?_
  exact r_sub [0, 1, 2] rfl ((bj_X10_axle_24 X hst ad) _ _ _ _)
theorem nc_X10_axle (X : Xt) (hst : X.1.stackTraces = false) (ad : Ad) (σ : Wd) (p0 : Int32) (p1 : Int32) : NC X (fun a => a = ad) yX10_axle cX10_axle 3 (some (.int)) 2 44 vI (0, 0) ad σ [.ref (ad 30 0), .int p0, .int p1] (f_X10_axle σ p0 p1) := by
  unfold f_X10_axle
  refine NC.intro RX10 rfl hst (by decide) (Nat.le_of_ble_eq_true rfl) (lv := [(0, .ref _), (1, .int _), (2, .int _)]) rfl ?_
  refine r_aload_n 0 rfl dX10_axle_0 ?_
  refine r_aload_n 0 rfl dX10_axle_1 ?_
  refine r_iload_n 1 rfl dX10_axle_2 ?_
  refine r_callV (n := 1) (As := [.int _]) (cell_30 _ _ _ _) (lvs_30 _) rfl (nc_X10_isUnit X hst ad _ _) (fun _ h => h) rfl ⟨rfl, by decide, by decide, by decide +kernel⟩ w_160 w_161 w_162 w_121 w_163 rfl rfl (Nat.le_of_ble_eq_true rfl) ⟨by decide, by decide⟩ dX10_axle_3 (fun v1 σ2 => ?_)
  refine r_if_eq 19 dX10_axle_6 (by decide) ?_ ?_
  · exact r_sub [0, 1, 2] rfl ((bj_X10_axle_19 X hst ad) _ _ _)
  · refine r_aload_n 0 rfl dX10_axle_9 ?_
    refine r_iload_n 2 rfl dX10_axle_10 ?_
    refine r_iconst (0) (by decide) dX10_axle_11 ?_
    refine r_iconst (3) (by decide) dX10_axle_12 ?_
    refine r_callV (n := 3) (As := [.int _, .int _, .int _]) (cell_30 _ _ _ _) (lvs_30 _) rfl (nc_X10_between X hst ad _ _ _ _) (fun _ h => h) rfl ⟨rfl, by decide, by decide, by decide +kernel⟩ w_118 w_119 w_120 w_121 w_122 rfl rfl (Nat.le_of_ble_eq_true rfl) ⟨by decide, by decide⟩ dX10_axle_13 (fun v4 σ5 => ?_)
    refine r_if_ne 23 dX10_axle_16 (by decide) ?_ ?_
    · exact r_sub [0, 1, 2] rfl ((bj_X10_axle_19 X hst ad) _ _ _)
    · refine r_iconst (0) (by decide) dX10_axle_23 ?_
      exact r_sub [0, 1, 2] rfl ((bj_X10_axle_24 X hst ad) _ _ _ _)
def j_X10_faultAt_29 (σ : Wd) (a1 : Int32) (a2 : Int32) (a3 : Int32) (s0 : Int32) : Option ((Int32 ⊕ String) × Wd) :=
  bd (wr σ 30 0 0 s0) fun σ3 =>
  if (σ3.1 30 0 0) ≤ 0 then
    bd ((((8 : Int32) * a1) + a2)) fun x4 =>
    if a3 = 0 then
      gd (inb x4 48) <|
      some (.inl (σ3.1 40 0 x4.toNatClampNeg), σ3)
    else
      if a3 = (1 : Int32) then
        gd (inb x4 48) <|
        some (.inl (σ3.1 41 0 x4.toNatClampNeg), σ3)
      else
        if a3 = (2 : Int32) then
          gd (inb x4 48) <|
          some (.inl (σ3.1 42 0 x4.toNatClampNeg), σ3)
        else
          gd (inb x4 48) <|
          some (.inl (σ3.1 43 0 x4.toNatClampNeg), σ3)
  else
    some (.inl (0 : Int32), σ3)
def f_X10_faultAt (σ : Wd) (p0 : Int32) (p1 : Int32) (p2 : Int32) : Option ((Int32 ⊕ String) × Wd) :=
  bx (f_X10_isFault σ p0 p1) fun v1 σ2 =>
  if v1 = 0 then
    j_X10_faultAt_29 σ2 p0 p1 p2 (1 : Int32)
  else
    bx (f_X10_between σ2 p2 (0 : Int32) (3 : Int32)) fun v5 σ6 =>
    if v5 = 0 then
      j_X10_faultAt_29 σ6 p0 p1 p2 (2 : Int32)
    else
      j_X10_faultAt_29 σ6 p0 p1 p2 (0 : Int32)
theorem bj_X10_faultAt_29 (X : Xt) (hst : X.1.stackTraces = false) (ad : Ad) (σ : Wd) (a1 : Int32) (a2 : Int32) (a3 : Int32) (s0 : Int32) : Bk X (fun a => a = ad) cX10_faultAt 5 RX10 (some (.int)) 3 66 vI (0, 0) (0, 0) ad σ 29 [(0, .ref (ad 30 0)), (1, .int a1), (2, .int a2), (3, .int a3)] [.int s0, .ref (ad 30 0)] (j_X10_faultAt_29 σ a1 a2 a3 s0) := by
  unfold j_X10_faultAt_29
  refine r_bd ?_
  refine r_putf 0 tyX10 tyX10_ok nmX10 (lvs_30 _) (cell_30 _ _ _ _) (wrc_30_0 _ _ _ _ _) rfl (by decide) (Nat.le_of_ble_eq_true rfl) in_11 w_117 rfl rfl rfl dX10_faultAt_29 ?_
  refine r_aload_n 0 rfl dX10_faultAt_32 ?_
  refine r_getf 0 (lvs_30 _) (cell_30 _ _ _ _) rfl (by decide) in_11 w_117 rfl dX10_faultAt_33 ?_
  refine r_if_le 41 dX10_faultAt_36 (by decide) ?_ ?_
  · refine r_bipush (8) (by decide) dX10_faultAt_41 ?_
    refine r_iload_n 1 rfl dX10_faultAt_43 ?_
    refine r_imul dX10_faultAt_44 ?_
    refine r_iload_n 2 rfl dX10_faultAt_45 ?_
    refine r_iadd dX10_faultAt_46 ?_
    refine r_bd ?_
    refine r_istore [(4, .int _), (0, .ref _), (1, .int _), (2, .int _), (3, .int _)] rfl (by decide) dX10_faultAt_47 ?_
    refine r_iload_n 4 rfl dX10_faultAt_49 ?_
    refine r_if_ne 63 dX10_faultAt_50 (by decide) ?_ ?_
    · refine r_aload_n 1 rfl dX10_faultAt_53 ?_
      refine r_getf 15 (lvs_30 _) (cell_30 _ _ _ _) rfl (by decide) in_11 w_165 rfl dX10_faultAt_54 ?_
      refine r_iload 0 rfl dX10_faultAt_57 ?_
      refine r_gd (fun h1 => ?_)
      refine r_iaload (lvs_40 _) (cell_40 _ _ _ _) h1 dX10_faultAt_59 ?_
      refine r_goto 100 dX10_faultAt_60 (by decide) ?_
      exact r_iret rfl rfl rfl dX10_faultAt_100
    · refine r_iload_n 4 rfl dX10_faultAt_63 ?_
      refine r_iconst (1) (by decide) dX10_faultAt_64 ?_
      refine r_icmp_ne 78 dX10_faultAt_65 (by decide) ?_ ?_
      · refine r_aload_n 1 rfl dX10_faultAt_68 ?_
        refine r_getf 16 (lvs_30 _) (cell_30 _ _ _ _) rfl (by decide) in_11 w_166 rfl dX10_faultAt_69 ?_
        refine r_iload 0 rfl dX10_faultAt_72 ?_
        refine r_gd (fun h2 => ?_)
        refine r_iaload (lvs_41 _) (cell_41 _ _ _ _) h2 dX10_faultAt_74 ?_
        refine r_goto 100 dX10_faultAt_75 (by decide) ?_
        exact r_iret rfl rfl rfl dX10_faultAt_100
      · refine r_iload_n 4 rfl dX10_faultAt_78 ?_
        refine r_iconst (2) (by decide) dX10_faultAt_79 ?_
        refine r_icmp_ne 93 dX10_faultAt_80 (by decide) ?_ ?_
        · refine r_aload_n 1 rfl dX10_faultAt_83 ?_
          refine r_getf 17 (lvs_30 _) (cell_30 _ _ _ _) rfl (by decide) in_11 w_168 rfl dX10_faultAt_84 ?_
          refine r_iload 0 rfl dX10_faultAt_87 ?_
          refine r_gd (fun h3 => ?_)
          refine r_iaload (lvs_42 _) (cell_42 _ _ _ _) h3 dX10_faultAt_89 ?_
          refine r_goto 100 dX10_faultAt_90 (by decide) ?_
          exact r_iret rfl rfl rfl dX10_faultAt_100
        · refine r_aload_n 1 rfl dX10_faultAt_93 ?_
          refine r_getf 18 (lvs_30 _) (cell_30 _ _ _ _) rfl (by decide) in_11 w_169 rfl dX10_faultAt_94 ?_
          refine r_iload 0 rfl dX10_faultAt_97 ?_
          refine r_gd (fun h4 => ?_)
          refine r_iaload (lvs_43 _) (cell_43 _ _ _ _) h4 dX10_faultAt_99 ?_
          exact r_iret rfl rfl rfl dX10_faultAt_100
  · refine r_iconst (0) (by decide) dX10_faultAt_39 ?_
    exact r_iret rfl rfl rfl dX10_faultAt_40
theorem nc_X10_faultAt (X : Xt) (hst : X.1.stackTraces = false) (ad : Ad) (σ : Wd) (p0 : Int32) (p1 : Int32) (p2 : Int32) : NC X (fun a => a = ad) yX10_faultAt cX10_faultAt 5 (some (.int)) 3 66 vI (0, 0) ad σ [.ref (ad 30 0), .int p0, .int p1, .int p2] (f_X10_faultAt σ p0 p1 p2) := by
  unfold f_X10_faultAt
  refine NC.intro RX10 rfl hst (by decide) (Nat.le_of_ble_eq_true rfl) (lv := [(0, .ref _), (1, .int _), (2, .int _), (3, .int _)]) rfl ?_
  refine r_aload_n 0 rfl dX10_faultAt_0 ?_
  refine r_aload_n 0 rfl dX10_faultAt_1 ?_
  refine r_iload_n 1 rfl dX10_faultAt_2 ?_
  refine r_iload_n 2 rfl dX10_faultAt_3 ?_
  refine r_callV (n := 2) (As := [.int _, .int _]) (cell_30 _ _ _ _) (lvs_30 _) rfl (nc_X10_isFault X hst ad _ _ _) (fun _ h => h) rfl ⟨rfl, by decide, by decide, by decide +kernel⟩ w_235 w_236 w_237 w_121 w_238 rfl rfl (Nat.le_of_ble_eq_true rfl) ⟨by decide, by decide⟩ dX10_faultAt_4 (fun v1 σ2 => ?_)
  refine r_if_ne 14 dX10_faultAt_7 (by decide) ?_ ?_
  · refine r_iconst (1) (by decide) dX10_faultAt_10 ?_
    refine r_goto 29 dX10_faultAt_11 (by decide) ?_
    exact r_sub [0, 1, 2, 3] rfl ((bj_X10_faultAt_29 X hst ad) _ _ _ _ _)
  · refine r_aload_n 0 rfl dX10_faultAt_14 ?_
    refine r_iload_n 3 rfl dX10_faultAt_15 ?_
    refine r_iconst (0) (by decide) dX10_faultAt_16 ?_
    refine r_iconst (3) (by decide) dX10_faultAt_17 ?_
    refine r_callV (n := 3) (As := [.int _, .int _, .int _]) (cell_30 _ _ _ _) (lvs_30 _) rfl (nc_X10_between X hst ad _ _ _ _) (fun _ h => h) rfl ⟨rfl, by decide, by decide, by decide +kernel⟩ w_118 w_119 w_120 w_121 w_122 rfl rfl (Nat.le_of_ble_eq_true rfl) ⟨by decide, by decide⟩ dX10_faultAt_18 (fun v5 σ6 => ?_)
    refine r_if_ne 28 dX10_faultAt_21 (by decide) ?_ ?_
    · refine r_iconst (2) (by decide) dX10_faultAt_24 ?_
      refine r_goto 29 dX10_faultAt_25 (by decide) ?_
      exact r_sub [0, 1, 2, 3] rfl ((bj_X10_faultAt_29 X hst ad) _ _ _ _ _)
    · refine r_iconst (0) (by decide) dX10_faultAt_28 ?_
      exact r_sub [0, 1, 2, 3] rfl ((bj_X10_faultAt_29 X hst ad) _ _ _ _ _)
def j_X10_stands_18 (σ : Wd) (a1 : Int32) (a2 : Int32) (s0 : Int32) : Option ((Int32 ⊕ String) × Wd) :=
  bd (wr σ 30 0 0 s0) fun σ3 =>
  if (σ3.1 30 0 0) ≤ 0 then
    gd (inb a1 3) <|
    if (σ3.1 38 0 a1.toNatClampNeg) ≤ a2 then
      some (.inl (-1 : Int32), σ3)
    else
      gd (inb (((((6 : Int32) * a1) + (σ3.1 38 0 a1.toNatClampNeg)) - (1 : Int32)) - a2) 18) <|
      some (.inl (σ3.1 37 0 (((((6 : Int32) * a1) + (σ3.1 38 0 a1.toNatClampNeg)) - (1 : Int32)) - a2).toNatClampNeg), σ3)
  else
    some (.inl (0 : Int32), σ3)
def j_X10_stands_13 (σ : Wd) (a1 : Int32) (a2 : Int32) : Option ((Int32 ⊕ String) × Wd) :=
  j_X10_stands_18 σ a1 a2 (1 : Int32)
def f_X10_stands (σ : Wd) (p0 : Int32) (p1 : Int32) : Option ((Int32 ⊕ String) × Wd) :=
  bx (f_X10_isDepot σ p0) fun v1 σ2 =>
  if v1 = 0 then
    j_X10_stands_13 σ2 p0 p1
  else
    if 0 ≤ p1 then
      j_X10_stands_18 σ2 p0 p1 (0 : Int32)
    else
      j_X10_stands_13 σ2 p0 p1
theorem bj_X10_stands_18 (X : Xt) (hst : X.1.stackTraces = false) (ad : Ad) (σ : Wd) (a1 : Int32) (a2 : Int32) (s0 : Int32) : Bk X (fun a => a = ad) cX10_stands 3 RX10 (some (.int)) 2 44 vI (0, 0) (0, 0) ad σ 18 [(0, .ref (ad 30 0)), (1, .int a1), (2, .int a2)] [.int s0, .ref (ad 30 0)] (j_X10_stands_18 σ a1 a2 s0) := by
  unfold j_X10_stands_18
  refine r_bd ?_
  refine r_putf 0 tyX10 tyX10_ok nmX10 (lvs_30 _) (cell_30 _ _ _ _) (wrc_30_0 _ _ _ _ _) rfl (by decide) (Nat.le_of_ble_eq_true rfl) in_11 w_117 rfl rfl rfl dX10_stands_18 ?_
  refine r_aload_n 0 rfl dX10_stands_21 ?_
  refine r_getf 0 (lvs_30 _) (cell_30 _ _ _ _) rfl (by decide) in_11 w_117 rfl dX10_stands_22 ?_
  refine r_if_le 30 dX10_stands_25 (by decide) ?_ ?_
  · refine r_iload_n 2 rfl dX10_stands_30 ?_
    refine r_aload_n 0 rfl dX10_stands_31 ?_
    refine r_getf 13 (lvs_30 _) (cell_30 _ _ _ _) rfl (by decide) in_11 w_132 rfl dX10_stands_32 ?_
    refine r_iload_n 1 rfl dX10_stands_35 ?_
    refine r_gd (fun h1 => ?_)
    refine r_iaload (lvs_38 _) (cell_38 _ _ _ _) h1 dX10_stands_36 ?_
    refine r_icmp_ge 63 dX10_stands_37 (by decide) ?_ ?_
    · refine r_iconst (-1) (by decide) dX10_stands_63 ?_
      exact r_iret rfl rfl rfl dX10_stands_64
    · refine r_aload_n 0 rfl dX10_stands_40 ?_
      refine r_getf 12 (lvs_30 _) (cell_30 _ _ _ _) rfl (by decide) in_11 w_131 rfl dX10_stands_41 ?_
      refine r_bipush (6) (by decide) dX10_stands_44 ?_
      refine r_iload_n 1 rfl dX10_stands_46 ?_
      refine r_imul dX10_stands_47 ?_
      refine r_aload_n 0 rfl dX10_stands_48 ?_
      refine r_getf 13 (lvs_30 _) (cell_30 _ _ _ _) rfl (by decide) in_11 w_132 rfl dX10_stands_49 ?_
      refine r_iload_n 1 rfl dX10_stands_52 ?_
      refine r_iaload (lvs_38 _) (cell_38 _ _ _ _) h1 dX10_stands_53 ?_
      refine r_iadd dX10_stands_54 ?_
      refine r_iconst (1) (by decide) dX10_stands_55 ?_
      refine r_isub dX10_stands_56 ?_
      refine r_iload_n 2 rfl dX10_stands_57 ?_
      refine r_isub dX10_stands_58 ?_
      refine r_gd (fun h2 => ?_)
      refine r_iaload (lvs_37 _) (cell_37 _ _ _ _) h2 dX10_stands_59 ?_
      refine r_goto 64 dX10_stands_60 (by decide) ?_
      exact r_iret rfl rfl rfl dX10_stands_64
  · refine r_iconst (0) (by decide) dX10_stands_28 ?_
    exact r_iret rfl rfl rfl dX10_stands_29
theorem bj_X10_stands_13 (X : Xt) (hst : X.1.stackTraces = false) (ad : Ad) (σ : Wd) (a1 : Int32) (a2 : Int32) : Bk X (fun a => a = ad) cX10_stands 3 RX10 (some (.int)) 2 44 vI (0, 0) (0, 0) ad σ 13 [(0, .ref (ad 30 0)), (1, .int a1), (2, .int a2)] [.ref (ad 30 0)] (j_X10_stands_13 σ a1 a2) := by
  unfold j_X10_stands_13
  refine r_iconst (1) (by decide) dX10_stands_13 ?_
  refine r_goto 18 dX10_stands_14 (by decide) ?_
  exact r_sub [0, 1, 2] rfl ((bj_X10_stands_18 X hst ad) _ _ _ _)
theorem nc_X10_stands (X : Xt) (hst : X.1.stackTraces = false) (ad : Ad) (σ : Wd) (p0 : Int32) (p1 : Int32) : NC X (fun a => a = ad) yX10_stands cX10_stands 3 (some (.int)) 2 44 vI (0, 0) ad σ [.ref (ad 30 0), .int p0, .int p1] (f_X10_stands σ p0 p1) := by
  unfold f_X10_stands
  refine NC.intro RX10 rfl hst (by decide) (Nat.le_of_ble_eq_true rfl) (lv := [(0, .ref _), (1, .int _), (2, .int _)]) rfl ?_
  refine r_aload_n 0 rfl dX10_stands_0 ?_
  refine r_aload_n 0 rfl dX10_stands_1 ?_
  refine r_iload_n 1 rfl dX10_stands_2 ?_
  refine r_callV (n := 1) (As := [.int _]) (cell_30 _ _ _ _) (lvs_30 _) rfl (nc_X10_isDepot X hst ad _ _) (fun _ h => h) rfl ⟨rfl, by decide, by decide, by decide +kernel⟩ w_123 w_124 w_125 w_121 w_126 rfl rfl (Nat.le_of_ble_eq_true rfl) ⟨by decide, by decide⟩ dX10_stands_3 (fun v1 σ2 => ?_)
  refine r_if_eq 13 dX10_stands_6 (by decide) ?_ ?_
  · exact r_sub [0, 1, 2] rfl ((bj_X10_stands_13 X hst ad) _ _ _)
  · refine r_iload_n 2 rfl dX10_stands_9 ?_
    refine r_if_ge 17 dX10_stands_10 (by decide) ?_ ?_
    · refine r_iconst (0) (by decide) dX10_stands_17 ?_
      exact r_sub [0, 1, 2] rfl ((bj_X10_stands_18 X hst ad) _ _ _ _)
    · exact r_sub [0, 1, 2] rfl ((bj_X10_stands_13 X hst ad) _ _ _)
def f_X10_shunts (σ : Wd) : Option ((Int32 ⊕ String) × Wd) :=
  bd (wr σ 30 0 0 (0 : Int32)) fun σ1 =>
  some (.inl (σ1.1 30 0 2), σ1)
theorem nc_X10_shunts (X : Xt) (hst : X.1.stackTraces = false) (ad : Ad) (σ : Wd) : NC X (fun a => a = ad) yX10_shunts cX10_shunts 1 (some (.int)) 0 0 vI (0, 0) ad σ [.ref (ad 30 0)] (f_X10_shunts σ) := by
  unfold f_X10_shunts
  refine NC.intro RX10 rfl hst (by decide) (Nat.le_of_ble_eq_true rfl) (lv := [(0, .ref _)]) rfl ?_
  refine r_aload_n 0 rfl dX10_shunts_0 ?_
  refine r_iconst (0) (by decide) dX10_shunts_1 ?_
  refine r_bd ?_
  refine r_putf 0 tyX10 tyX10_ok nmX10 (lvs_30 _) (cell_30 _ _ _ _) (wrc_30_0 _ _ _ _ _) rfl (by decide) (Nat.le_of_ble_eq_true rfl) in_11 w_117 rfl rfl rfl dX10_shunts_2 ?_
  refine r_aload_n 0 rfl dX10_shunts_5 ?_
  refine r_getf 2 (lvs_30 _) (cell_30 _ _ _ _) rfl (by decide) in_11 w_226 rfl dX10_shunts_6 ?_
  exact r_iret rfl rfl rfl dX10_shunts_9
def j_X10_ran_33 (σ : Wd) (a1 : Int32) (a2 : Int32) (s0 : Int32) : Option ((Int32 ⊕ String) × Wd) :=
  bd (wr σ 30 0 0 s0) fun σ3 =>
  if (σ3.1 30 0 0) ≤ 0 then
    gd (inb (((200 : Int32) * a1) + a2) 1200) <|
    some (.inl (σ3.1 55 0 (((200 : Int32) * a1) + a2).toNatClampNeg), σ3)
  else
    some (.inl (0 : Int32), σ3)
def f_X10_ran (σ : Wd) (p0 : Int32) (p1 : Int32) : Option ((Int32 ⊕ String) × Wd) :=
  bx (f_X10_isDiagram σ p0) fun v1 σ2 =>
  if v1 = 0 then
    j_X10_ran_33 σ2 p0 p1 (1 : Int32)
  else
    bx (f_X10_between σ2 p1 (0 : Int32) ((σ2.1 30 0 1) - (1 : Int32))) fun v4 σ5 =>
    if v4 = 0 then
      j_X10_ran_33 σ5 p0 p1 (2 : Int32)
    else
      j_X10_ran_33 σ5 p0 p1 (0 : Int32)
theorem bj_X10_ran_33 (X : Xt) (hst : X.1.stackTraces = false) (ad : Ad) (σ : Wd) (a1 : Int32) (a2 : Int32) (s0 : Int32) : Bk X (fun a => a = ad) cX10_ran 3 RX10 (some (.int)) 2 44 vI (0, 0) (0, 0) ad σ 33 [(0, .ref (ad 30 0)), (1, .int a1), (2, .int a2)] [.int s0, .ref (ad 30 0)] (j_X10_ran_33 σ a1 a2 s0) := by
  unfold j_X10_ran_33
  refine r_bd ?_
  refine r_putf 0 tyX10 tyX10_ok nmX10 (lvs_30 _) (cell_30 _ _ _ _) (wrc_30_0 _ _ _ _ _) rfl (by decide) (Nat.le_of_ble_eq_true rfl) in_11 w_117 rfl rfl rfl dX10_ran_33 ?_
  refine r_aload_n 0 rfl dX10_ran_36 ?_
  refine r_getf 0 (lvs_30 _) (cell_30 _ _ _ _) rfl (by decide) in_11 w_117 rfl dX10_ran_37 ?_
  refine r_if_le 47 dX10_ran_40 (by decide) ?_ ?_
  · refine r_aload_n 0 rfl dX10_ran_47 ?_
    refine r_getf 31 (lvs_30 _) (cell_30 _ _ _ _) rfl (by decide) in_11 w_221 rfl dX10_ran_48 ?_
    refine r_sipush (200) (by decide) dX10_ran_51 ?_
    refine r_iload_n 1 rfl dX10_ran_54 ?_
    refine r_imul dX10_ran_55 ?_
    refine r_iload_n 2 rfl dX10_ran_56 ?_
    refine r_iadd dX10_ran_57 ?_
    refine r_gd (fun h1 => ?_)
    refine r_iaload (lvs_55 _) (cell_55 _ _ _ _) h1 dX10_ran_58 ?_
    exact r_iret rfl rfl rfl dX10_ran_59
  · refine r_iconst (0) (by decide) dX10_ran_43 ?_
    refine r_goto 59 dX10_ran_44 (by decide) ?_
    exact r_iret rfl rfl rfl dX10_ran_59
theorem nc_X10_ran (X : Xt) (hst : X.1.stackTraces = false) (ad : Ad) (σ : Wd) (p0 : Int32) (p1 : Int32) : NC X (fun a => a = ad) yX10_ran cX10_ran 3 (some (.int)) 2 44 vI (0, 0) ad σ [.ref (ad 30 0), .int p0, .int p1] (f_X10_ran σ p0 p1) := by
  unfold f_X10_ran
  refine NC.intro RX10 rfl hst (by decide) (Nat.le_of_ble_eq_true rfl) (lv := [(0, .ref _), (1, .int _), (2, .int _)]) rfl ?_
  refine r_aload_n 0 rfl dX10_ran_0 ?_
  refine r_aload_n 0 rfl dX10_ran_1 ?_
  refine r_iload_n 1 rfl dX10_ran_2 ?_
  refine r_callV (n := 1) (As := [.int _]) (cell_30 _ _ _ _) (lvs_30 _) rfl (nc_X10_isDiagram X hst ad _ _) (fun _ h => h) rfl ⟨rfl, by decide, by decide, by decide +kernel⟩ w_170 w_171 w_172 w_121 w_173 rfl rfl (Nat.le_of_ble_eq_true rfl) ⟨by decide, by decide⟩ dX10_ran_3 (fun v1 σ2 => ?_)
  refine r_if_ne 13 dX10_ran_6 (by decide) ?_ ?_
  · refine r_iconst (1) (by decide) dX10_ran_9 ?_
    refine r_goto 33 dX10_ran_10 (by decide) ?_
    exact r_sub [0, 1, 2] rfl ((bj_X10_ran_33 X hst ad) _ _ _ _)
  · refine r_aload_n 0 rfl dX10_ran_13 ?_
    refine r_iload_n 2 rfl dX10_ran_14 ?_
    refine r_iconst (0) (by decide) dX10_ran_15 ?_
    refine r_aload_n 0 rfl dX10_ran_16 ?_
    refine r_getf 1 (lvs_30 _) (cell_30 _ _ _ _) rfl (by decide) in_11 w_167 rfl dX10_ran_17 ?_
    refine r_iconst (1) (by decide) dX10_ran_20 ?_
    refine r_isub dX10_ran_21 ?_
    refine r_callV (n := 3) (As := [.int _, .int _, .int _]) (cell_30 _ _ _ _) (lvs_30 _) rfl (nc_X10_between X hst ad _ _ _ _) (fun _ h => h) rfl ⟨rfl, by decide, by decide, by decide +kernel⟩ w_118 w_119 w_120 w_121 w_122 rfl rfl (Nat.le_of_ble_eq_true rfl) ⟨by decide, by decide⟩ dX10_ran_22 (fun v4 σ5 => ?_)
    refine r_if_ne 32 dX10_ran_25 (by decide) ?_ ?_
    · refine r_iconst (2) (by decide) dX10_ran_28 ?_
      refine r_goto 33 dX10_ran_29 (by decide) ?_
      exact r_sub [0, 1, 2] rfl ((bj_X10_ran_33 X hst ad) _ _ _ _)
    · refine r_iconst (0) (by decide) dX10_ran_32 ?_
      exact r_sub [0, 1, 2] rfl ((bj_X10_ran_33 X hst ad) _ _ _ _)
def l_X10_kmAnew_35 : Nat → Wd → Int32 → Int32 → Int32 → Option ((Int32 ⊕ String) × Wd)
  | 0, _, _, _, _ => none
  | n + 1, σ, a3, a2, a1 =>
  if (1200 : Int32) ≤ a3 then
    some (.inl a2, σ)
  else
    gd (inb a3 1200) <|
    if (σ.1 55 0 a3.toNatClampNeg) = a1 then
      gd (inb (a3 / (200 : Int32)) 6) <|
      bd ((a2 + (σ.1 46 0 (a3 / (200 : Int32)).toNatClampNeg))) fun x5 =>
      (l_X10_kmAnew_35 n) σ (a3 + 1) x5 a1
    else
      (l_X10_kmAnew_35 n) σ (a3 + 1) (a2 + (0 : Int32)) a1
def j_X10_kmAnew_14 (σ : Wd) (a1 : Int32) (s0 : Int32) : Option ((Int32 ⊕ String) × Wd) :=
  bd (wr σ 30 0 0 s0) fun σ3 =>
  if (σ3.1 30 0 0) ≤ 0 then
    gd (inb a1 6) <|
    bd ((σ3.1 32 0 a1.toNatClampNeg)) fun x4 =>
    l_X10_kmAnew_35 FU σ3 (0 : Int32) x4 a1
  else
    some (.inl (0 : Int32), σ3)
def f_X10_kmAnew (σ : Wd) (p0 : Int32) : Option ((Int32 ⊕ String) × Wd) :=
  bx (f_X10_isUnit σ p0) fun v1 σ2 =>
  if v1 = 0 then
    j_X10_kmAnew_14 σ2 p0 (1 : Int32)
  else
    j_X10_kmAnew_14 σ2 p0 (0 : Int32)
theorem bl_X10_kmAnew_35 (X : Xt) (hst : X.1.stackTraces = false) (ad : Ad) : ∀ (n : Nat) (σ : Wd) (a3 : Int32) (a2 : Int32) (a1 : Int32), Bk X (fun a => a = ad) cX10_kmAnew 4 RX10 (some (.int)) 2 44 vI (0, 0) (0, 0) ad σ 35 [(3, .int a3), (2, .int a2), (0, .ref (ad 30 0)), (1, .int a1)] [] (l_X10_kmAnew_35 n σ a3 a2 a1) := by
  intro n
  induction n with
  | zero => intros; exact r_none
  | succ n ih =>
  intro σ a3 a2 a1
  rw [l_X10_kmAnew_35]
  refine r_iload_n 0 rfl dX10_kmAnew_35 ?_
  refine r_sipush (1200) (by decide) dX10_kmAnew_36 ?_
  refine r_icmp_ge 75 dX10_kmAnew_39 (by decide) ?_ ?_
  · refine r_iload_n 1 rfl dX10_kmAnew_75 ?_
    exact r_iret rfl rfl rfl dX10_kmAnew_76
  · refine r_iload_n 1 rfl dX10_kmAnew_42 ?_
    refine r_aload_n 2 rfl dX10_kmAnew_43 ?_
    refine r_getf 31 (lvs_30 _) (cell_30 _ _ _ _) rfl (by decide) in_11 w_221 rfl dX10_kmAnew_44 ?_
    refine r_iload_n 0 rfl dX10_kmAnew_47 ?_
    refine r_gd (fun h2 => ?_)
    refine r_iaload (lvs_55 _) (cell_55 _ _ _ _) h2 dX10_kmAnew_48 ?_
    refine r_iload_n 3 rfl dX10_kmAnew_49 ?_
    refine r_icmp_ne 66 dX10_kmAnew_50 (by decide) ?_ ?_
    · refine r_aload_n 2 rfl dX10_kmAnew_53 ?_
      refine r_getf 22 (lvs_30 _) (cell_30 _ _ _ _) rfl (by decide) in_11 w_142 rfl dX10_kmAnew_54 ?_
      refine r_iload_n 0 rfl dX10_kmAnew_57 ?_
      refine r_sipush (200) (by decide) dX10_kmAnew_58 ?_
      refine r_idiv (by decide) dX10_kmAnew_61 ?_
      refine r_gd (fun h3 => ?_)
      refine r_iaload (lvs_46 _) (cell_46 _ _ _ _) h3 dX10_kmAnew_62 ?_
      refine r_goto 67 dX10_kmAnew_63 (by decide) ?_
      refine r_iadd dX10_kmAnew_67 ?_
      refine r_bd ?_
      refine r_istore_n [(2, .int _), (3, .int _), (0, .ref _), (1, .int _)] rfl (by decide) dX10_kmAnew_68 ?_
      refine r_iinc (1) [(3, .int _), (2, .int _), (0, .ref _), (1, .int _)] 1 rfl (by decide) rfl (by decide) dX10_kmAnew_69 ?_
      refine r_goto 35 dX10_kmAnew_72 (by decide) ?_
      exact r_sub [0, 1, 2, 3] rfl (ih _ _ _ _)
    · refine r_iconst (0) (by decide) dX10_kmAnew_66 ?_
      refine r_iadd dX10_kmAnew_67 ?_
      refine r_istore_n [(2, .int _), (3, .int _), (0, .ref _), (1, .int _)] rfl (by decide) dX10_kmAnew_68 ?_
      refine r_iinc (1) [(3, .int _), (2, .int _), (0, .ref _), (1, .int _)] 1 rfl (by decide) rfl (by decide) dX10_kmAnew_69 ?_
      refine r_goto 35 dX10_kmAnew_72 (by decide) ?_
      exact r_sub [0, 1, 2, 3] rfl (ih _ _ _ _)
theorem bj_X10_kmAnew_14 (X : Xt) (hst : X.1.stackTraces = false) (ad : Ad) (σ : Wd) (a1 : Int32) (s0 : Int32) : Bk X (fun a => a = ad) cX10_kmAnew 4 RX10 (some (.int)) 2 44 vI (0, 0) (0, 0) ad σ 14 [(0, .ref (ad 30 0)), (1, .int a1)] [.int s0, .ref (ad 30 0)] (j_X10_kmAnew_14 σ a1 s0) := by
  unfold j_X10_kmAnew_14
  refine r_bd ?_
  refine r_putf 0 tyX10 tyX10_ok nmX10 (lvs_30 _) (cell_30 _ _ _ _) (wrc_30_0 _ _ _ _ _) rfl (by decide) (Nat.le_of_ble_eq_true rfl) in_11 w_117 rfl rfl rfl dX10_kmAnew_14 ?_
  refine r_aload_n 0 rfl dX10_kmAnew_17 ?_
  refine r_getf 0 (lvs_30 _) (cell_30 _ _ _ _) rfl (by decide) in_11 w_117 rfl dX10_kmAnew_18 ?_
  refine r_if_le 26 dX10_kmAnew_21 (by decide) ?_ ?_
  · refine r_aload_n 0 rfl dX10_kmAnew_26 ?_
    refine r_getf 7 (lvs_30 _) (cell_30 _ _ _ _) rfl (by decide) in_11 w_129 rfl dX10_kmAnew_27 ?_
    refine r_iload_n 1 rfl dX10_kmAnew_30 ?_
    refine r_gd (fun h1 => ?_)
    refine r_iaload (lvs_32 _) (cell_32 _ _ _ _) h1 dX10_kmAnew_31 ?_
    refine r_bd ?_
    refine r_istore_n [(2, .int _), (0, .ref _), (1, .int _)] rfl (by decide) dX10_kmAnew_32 ?_
    refine r_iconst (0) (by decide) dX10_kmAnew_33 ?_
    refine r_istore_n [(3, .int _), (2, .int _), (0, .ref _), (1, .int _)] rfl (by decide) dX10_kmAnew_34 ?_
    exact r_sub [0, 1, 2, 3] rfl ((bl_X10_kmAnew_35 X hst ad FU) _ _ _ _)
  · refine r_iconst (0) (by decide) dX10_kmAnew_24 ?_
    exact r_iret rfl rfl rfl dX10_kmAnew_25
theorem nc_X10_kmAnew (X : Xt) (hst : X.1.stackTraces = false) (ad : Ad) (σ : Wd) (p0 : Int32) : NC X (fun a => a = ad) yX10_kmAnew cX10_kmAnew 4 (some (.int)) 2 44 vI (0, 0) ad σ [.ref (ad 30 0), .int p0] (f_X10_kmAnew σ p0) := by
  unfold f_X10_kmAnew
  refine NC.intro RX10 rfl hst (by decide) (Nat.le_of_ble_eq_true rfl) (lv := [(0, .ref _), (1, .int _)]) rfl ?_
  refine r_aload_n 0 rfl dX10_kmAnew_0 ?_
  refine r_aload_n 0 rfl dX10_kmAnew_1 ?_
  refine r_iload_n 1 rfl dX10_kmAnew_2 ?_
  refine r_callV (n := 1) (As := [.int _]) (cell_30 _ _ _ _) (lvs_30 _) rfl (nc_X10_isUnit X hst ad _ _) (fun _ h => h) rfl ⟨rfl, by decide, by decide, by decide +kernel⟩ w_160 w_161 w_162 w_121 w_163 rfl rfl (Nat.le_of_ble_eq_true rfl) ⟨by decide, by decide⟩ dX10_kmAnew_3 (fun v1 σ2 => ?_)
  refine r_if_ne 13 dX10_kmAnew_6 (by decide) ?_ ?_
  · refine r_iconst (1) (by decide) dX10_kmAnew_9 ?_
    refine r_goto 14 dX10_kmAnew_10 (by decide) ?_
    exact r_sub [0, 1] rfl ((bj_X10_kmAnew_14 X hst ad) _ _ _)
  · refine r_iconst (0) (by decide) dX10_kmAnew_13 ?_
    exact r_sub [0, 1] rfl ((bj_X10_kmAnew_14 X hst ad) _ _ _)
