theorem w_117 : Cond.methodLink RX3 82 yJ7_fill_53178 ∈ G_ := gt4 163 (by decide +kernel) (by decide +kernel)
theorem w_118 : Cond.static yJ7_fill_53178 ∈ G_ := gt1 150 (by decide +kernel) (by decide +kernel)
theorem w_119 : Cond.initialized RJ7 ∈ G_ := gt1 10 (by decide +kernel) (by decide +kernel)
theorem w_120 : Cond.code yJ7_fill_53178 cJ7_fill_53178 4 none ∈ G_ := gt1 151 (by decide +kernel) (by decide +kernel)
theorem w_121 : Cond.methodLink RX3 88 yX3_howManyTrials ∈ G_ := gt4 164 (by decide +kernel) (by decide +kernel)
theorem w_122 : Cond.instanceMethod yX3_howManyTrials ∈ G_ := gt4 166 (by decide +kernel) (by decide +kernel)
theorem w_123 : Cond.selects RX3 yX3_howManyTrials yX3_howManyTrials ∈ G_ := gsl 21 (by decide +kernel) (by decide +kernel)
theorem w_124 : Cond.code yX3_howManyTrials cX3_howManyTrials 3 (some (.int)) ∈ G_ := gt4 167 (by decide +kernel) (by decide +kernel)
theorem w_125 : Cond.methodLink RX3 91 yX3_trialIsAllowed ∈ G_ := gt4 168 (by decide +kernel) (by decide +kernel)
theorem w_126 : Cond.instanceMethod yX3_trialIsAllowed ∈ G_ := gt4 170 (by decide +kernel) (by decide +kernel)
theorem w_127 : Cond.selects RX3 yX3_trialIsAllowed yX3_trialIsAllowed ∈ G_ := gsl 22 (by decide +kernel) (by decide +kernel)
theorem w_128 : Cond.code yX3_trialIsAllowed cX3_trialIsAllowed 4 (some (.boolean)) ∈ G_ := gt4 171 (by decide +kernel) (by decide +kernel)
theorem w_129 : Cond.methodLink RX3 104 yX3_stepTrial ∈ G_ := gt4 181 (by decide +kernel) (by decide +kernel)
theorem w_130 : Cond.instanceMethod yX3_stepTrial ∈ G_ := gt4 183 (by decide +kernel) (by decide +kernel)
theorem w_131 : Cond.selects RX3 yX3_stepTrial yX3_stepTrial ∈ G_ := gsl 25 (by decide +kernel) (by decide +kernel)
theorem w_132 : Cond.code yX3_stepTrial cX3_stepTrial 3 none ∈ G_ := gt4 184 (by decide +kernel) (by decide +kernel)
theorem w_133 : Cond.methodLink RX3 95 yX3_trialIsBetter ∈ G_ := gt4 172 (by decide +kernel) (by decide +kernel)
theorem w_134 : Cond.instanceMethod yX3_trialIsBetter ∈ G_ := gt4 174 (by decide +kernel) (by decide +kernel)
theorem w_135 : Cond.selects RX3 yX3_trialIsBetter yX3_trialIsBetter ∈ G_ := gsl 23 (by decide +kernel) (by decide +kernel)
theorem w_136 : Cond.code yX3_trialIsBetter cX3_trialIsBetter 3 (some (.boolean)) ∈ G_ := gt4 175 (by decide +kernel) (by decide +kernel)
theorem w_137 : Cond.methodLink RX3 98 arraycopyName ∈ G_ := gt4 180 (by decide +kernel) (by decide +kernel)
theorem w_138 : Cond.fieldLink RX8 12 "Stablingroad$Unit" "faults" "Ljava/util/ArrayList;" ∈ G_ := gt2 86 (by decide +kernel) (by decide +kernel)
theorem w_139 : Cond.methodLink RX8 66 yJx4a65c_size_8abf5 ∈ G_ := gt3 81 (by decide +kernel) (by decide +kernel)
theorem w_140 : Cond.instanceMethod yJx4a65c_size_8abf5 ∈ G_ := gt2 56 (by decide +kernel) (by decide +kernel)
theorem w_141 : Cond.selects RJx4a65c yJx4a65c_size_8abf5 yJx4a65c_size_8abf5 ∈ G_ := gt2 57 (by decide +kernel) (by decide +kernel)
theorem w_142 : Cond.code yJx4a65c_size_8abf5 cJx4a65c_size_8abf5 1 (some (.int)) ∈ G_ := gt2 58 (by decide +kernel) (by decide +kernel)
theorem w_143 : Cond.methodLink RX8 89 yJx4a65c_get_915e3 ∈ G_ := gt3 82 (by decide +kernel) (by decide +kernel)
theorem w_144 : Cond.instanceMethod yJx4a65c_get_915e3 ∈ G_ := gt3 12 (by decide +kernel) (by decide +kernel)
theorem w_145 : Cond.selects RJx4a65c yJx4a65c_get_915e3 yJx4a65c_get_915e3 ∈ G_ := gt3 13 (by decide +kernel) (by decide +kernel)
theorem w_146 : Cond.code yJx4a65c_get_915e3 cJx4a65c_get_915e3 2 (some ((.object "java/lang/Object"))) ∈ G_ := gt3 14 (by decide +kernel) (by decide +kernel)
theorem w_147 : Cond.classLink RX8 75 "Stablingroad$Fault" ∈ G_ := gt3 83 (by decide +kernel) (by decide +kernel)
theorem w_148 : Cond.methodLink RX8 70 yX8_faultAtPlace ∈ G_ := gt4 27 (by decide +kernel) (by decide +kernel)
theorem w_149 : Cond.instanceMethod yX8_faultAtPlace ∈ G_ := gt3 78 (by decide +kernel) (by decide +kernel)
theorem w_150 : Cond.selects RX8 yX8_faultAtPlace yX8_faultAtPlace ∈ G_ := gt3 79 (by decide +kernel) (by decide +kernel)
theorem w_151 : Cond.code yX8_faultAtPlace cX8_faultAtPlace 3 (some ((.object "Stablingroad$Fault"))) ∈ G_ := gt3 80 (by decide +kernel) (by decide +kernel)
theorem w_152 : Cond.fieldLink RX8 74 "Stablingroad$Fault" "kind" "I" ∈ G_ := gt4 68 (by decide +kernel) (by decide +kernel)
theorem w_153 : Cond.fieldLink RX8 79 "Stablingroad$Fault" "where" "I" ∈ G_ := gt4 74 (by decide +kernel) (by decide +kernel)
theorem w_154 : Cond.fieldLink RX8 82 "Stablingroad$Fault" "amount" "I" ∈ G_ := gt4 77 (by decide +kernel) (by decide +kernel)
theorem w_155 : Cond.methodLink RX8 60 yX8_depthOnAxle ∈ G_ := gt4 23 (by decide +kernel) (by decide +kernel)
theorem w_156 : Cond.instanceMethod yX8_depthOnAxle ∈ G_ := gt4 25 (by decide +kernel) (by decide +kernel)
theorem w_157 : Cond.selects RX8 yX8_depthOnAxle yX8_depthOnAxle ∈ G_ := gsl 17 (by decide +kernel) (by decide +kernel)
theorem w_158 : Cond.code yX8_depthOnAxle cX8_depthOnAxle 5 (some (.int)) ∈ G_ := gt4 26 (by decide +kernel) (by decide +kernel)
theorem w_159 : Cond.methodLink RX8 38 yJ7_fill_53178 ∈ G_ := gt2 83 (by decide +kernel) (by decide +kernel)
theorem w_160 : Cond.methodLink RX8 100 yJx4a65c_remove_915e3 ∈ G_ := gt4 36 (by decide +kernel) (by decide +kernel)
theorem w_161 : Cond.instanceMethod yJx4a65c_remove_915e3 ∈ G_ := gt4 37 (by decide +kernel) (by decide +kernel)
theorem w_162 : Cond.selects RJx4a65c yJx4a65c_remove_915e3 yJx4a65c_remove_915e3 ∈ G_ := gt4 38 (by decide +kernel) (by decide +kernel)
theorem w_163 : Cond.code yJx4a65c_remove_915e3 cJx4a65c_remove_915e3 4 (some ((.object "java/lang/Object"))) ∈ G_ := gt4 39 (by decide +kernel) (by decide +kernel)
theorem w_164 : Cond.methodLink RX8 85 yX8_dropFault ∈ G_ := gt4 32 (by decide +kernel) (by decide +kernel)
theorem w_165 : Cond.instanceMethod yX8_dropFault ∈ G_ := gt4 33 (by decide +kernel) (by decide +kernel)
theorem w_166 : Cond.selects RX8 yX8_dropFault yX8_dropFault ∈ G_ := gt4 34 (by decide +kernel) (by decide +kernel)
theorem w_167 : Cond.code yX8_dropFault cX8_dropFault 2 none ∈ G_ := gt4 35 (by decide +kernel) (by decide +kernel)
theorem w_168 : Cond.methodLink RX8 63 yX8_dropFlats ∈ G_ := gt4 28 (by decide +kernel) (by decide +kernel)
theorem w_169 : Cond.instanceMethod yX8_dropFlats ∈ G_ := gt4 30 (by decide +kernel) (by decide +kernel)
theorem w_170 : Cond.selects RX8 yX8_dropFlats yX8_dropFlats ∈ G_ := gsl 18 (by decide +kernel) (by decide +kernel)
theorem w_171 : Cond.code yX8_dropFlats cX8_dropFlats 2 none ∈ G_ := gt4 31 (by decide +kernel) (by decide +kernel)
theorem w_172 : Cond.fieldLink RX7 14 "Stablingroad$Rules" "exams" "[LStablingroad$Exam;" ∈ G_ := gt1 104 (by decide +kernel) (by decide +kernel)
theorem w_173 : Cond.methodLink RX7 68 yX7_examAt ∈ G_ := gt3 58 (by decide +kernel) (by decide +kernel)
theorem w_174 : Cond.instanceMethod yX7_examAt ∈ G_ := gt2 223 (by decide +kernel) (by decide +kernel)
theorem w_175 : Cond.selects RX7 yX7_examAt yX7_examAt ∈ G_ := gt2 224 (by decide +kernel) (by decide +kernel)
theorem w_176 : Cond.initialized RX7 ∈ G_ := gt1 5 (by decide +kernel) (by decide +kernel)
theorem w_177 : Cond.code yX7_examAt cX7_examAt 3 (some ((.object "Stablingroad$Exam"))) ∈ G_ := gt2 225 (by decide +kernel) (by decide +kernel)
theorem w_178 : Cond.methodLink RX7 72 yX8_kmSince ∈ G_ := gt3 59 (by decide +kernel) (by decide +kernel)
theorem w_179 : Cond.instanceMethod yX8_kmSince ∈ G_ := gt3 60 (by decide +kernel) (by decide +kernel)
theorem w_180 : Cond.selects RX8 yX8_kmSince yX8_kmSince ∈ G_ := gt3 61 (by decide +kernel) (by decide +kernel)
theorem w_181 : Cond.code yX8_kmSince cX8_kmSince 2 (some (.int)) ∈ G_ := gt3 62 (by decide +kernel) (by decide +kernel)
theorem w_182 : Cond.methodLink RX7 76 yX1_isNear ∈ G_ := gt3 120 (by decide +kernel) (by decide +kernel)
theorem w_183 : Cond.instanceMethod yX1_isNear ∈ G_ := gt3 121 (by decide +kernel) (by decide +kernel)
theorem w_184 : Cond.selects RX1 yX1_isNear yX1_isNear ∈ G_ := gt3 122 (by decide +kernel) (by decide +kernel)
theorem w_185 : Cond.code yX1_isNear cX1_isNear 2 (some (.boolean)) ∈ G_ := gt3 123 (by decide +kernel) (by decide +kernel)
theorem w_186 : Cond.methodLink RX7 80 yX8_daysSince ∈ G_ := gt3 63 (by decide +kernel) (by decide +kernel)
theorem w_187 : Cond.instanceMethod yX8_daysSince ∈ G_ := gt3 64 (by decide +kernel) (by decide +kernel)
theorem w_188 : Cond.selects RX8 yX8_daysSince yX8_daysSince ∈ G_ := gt3 65 (by decide +kernel) (by decide +kernel)
theorem w_189 : Cond.code yX8_daysSince cX8_daysSince 2 (some (.int)) ∈ G_ := gt3 66 (by decide +kernel) (by decide +kernel)
theorem w_190 : Cond.methodLink RX7 83 yX1_isOverdue ∈ G_ := gt3 67 (by decide +kernel) (by decide +kernel)
theorem w_191 : Cond.instanceMethod yX1_isOverdue ∈ G_ := gt3 68 (by decide +kernel) (by decide +kernel)
theorem w_192 : Cond.selects RX1 yX1_isOverdue yX1_isOverdue ∈ G_ := gt3 69 (by decide +kernel) (by decide +kernel)
theorem w_193 : Cond.code yX1_isOverdue cX1_isOverdue 3 (some (.boolean)) ∈ G_ := gt3 70 (by decide +kernel) (by decide +kernel)
theorem w_194 : Cond.methodLink RX7 50 yX7_overdueBitsBehind ∈ G_ := gt3 54 (by decide +kernel) (by decide +kernel)
theorem w_195 : Cond.instanceMethod yX7_overdueBitsBehind ∈ G_ := gt3 56 (by decide +kernel) (by decide +kernel)
theorem w_196 : Cond.selects RX7 yX7_overdueBitsBehind yX7_overdueBitsBehind ∈ G_ := gsl 8 (by decide +kernel) (by decide +kernel)
theorem w_197 : Cond.code yX7_overdueBitsBehind cX7_overdueBitsBehind 5 (some (.int)) ∈ G_ := gt3 57 (by decide +kernel) (by decide +kernel)
theorem w_198 : Cond.fieldLink RX9 28 "Stablingroad" "rules" "LStablingroad$Rules;" ∈ G_ := gt1 171 (by decide +kernel) (by decide +kernel)
theorem w_199 : Cond.methodLink RX9 104 yX7_examAt ∈ G_ := gt2 222 (by decide +kernel) (by decide +kernel)
theorem w_200 : Cond.constant RX9 108 (100000) ∈ G_ := gt2 229 (by decide +kernel) (by decide +kernel)
theorem w_201 : Cond.methodLink RX9 66 yX9_checkRange ∈ G_ := gt2 36 (by decide +kernel) (by decide +kernel)
theorem w_202 : Cond.static yX9_checkRange ∈ G_ := gt2 37 (by decide +kernel) (by decide +kernel)
theorem w_203 : Cond.initialized RX9 ∈ G_ := gt1 1 (by decide +kernel) (by decide +kernel)
theorem w_204 : Cond.code yX9_checkRange cX9_checkRange 3 none ∈ G_ := gt2 38 (by decide +kernel) (by decide +kernel)
theorem w_205 : Cond.fieldLink RX9 109 "Stablingroad$Exam" "limit" "I" ∈ G_ := gt1 76 (by decide +kernel) (by decide +kernel)
theorem w_206 : Cond.fieldLink RX9 114 "Stablingroad$Exam" "tolerance" "I" ∈ G_ := gt1 78 (by decide +kernel) (by decide +kernel)
theorem w_207 : Cond.fieldLink RX9 117 "Stablingroad$Exam" "days" "I" ∈ G_ := gt1 80 (by decide +kernel) (by decide +kernel)
theorem w_208 : Cond.methodLink RX9 120 yX1_bound ∈ G_ := gt2 230 (by decide +kernel) (by decide +kernel)
theorem w_209 : Cond.fieldLink RX7 23 "Stablingroad$Rules" "permits" "[LStablingroad$Permit;" ∈ G_ := gt1 105 (by decide +kernel) (by decide +kernel)
theorem w_210 : Cond.methodLink RX9 123 yX7_permitAt ∈ G_ := gt2 238 (by decide +kernel) (by decide +kernel)
theorem w_211 : Cond.instanceMethod yX7_permitAt ∈ G_ := gt2 239 (by decide +kernel) (by decide +kernel)
theorem w_212 : Cond.selects RX7 yX7_permitAt yX7_permitAt ∈ G_ := gt3 0 (by decide +kernel) (by decide +kernel)
theorem w_213 : Cond.code yX7_permitAt cX7_permitAt 3 (some ((.object "Stablingroad$Permit"))) ∈ G_ := gt3 1 (by decide +kernel) (by decide +kernel)
theorem w_214 : Cond.fieldLink RX9 127 "Stablingroad$Permit" "days" "I" ∈ G_ := gt1 96 (by decide +kernel) (by decide +kernel)
theorem w_215 : Cond.fieldLink RX9 130 "Stablingroad$Permit" "worstLine" "I" ∈ G_ := gt1 98 (by decide +kernel) (by decide +kernel)
theorem w_216 : Cond.fieldLink RX9 16 "Stablingroad" "diagrams" "Ljava/util/ArrayList;" ∈ G_ := gt1 169 (by decide +kernel) (by decide +kernel)
theorem w_217 : Cond.methodLink RX9 70 yJx4a65c_size_8abf5 ∈ G_ := gt2 55 (by decide +kernel) (by decide +kernel)
theorem w_218 : Cond.methodLink RX9 274 yJx4a65c_get_915e3 ∈ G_ := gt3 11 (by decide +kernel) (by decide +kernel)
theorem w_219 : Cond.classLink RX9 99 "Stablingroad$Diagram" ∈ G_ := gt2 186 (by decide +kernel) (by decide +kernel)
theorem w_220 : Cond.methodLink RX9 147 yX9_diagramAt ∈ G_ := gt3 7 (by decide +kernel) (by decide +kernel)
theorem w_221 : Cond.instanceMethod yX9_diagramAt ∈ G_ := gt3 9 (by decide +kernel) (by decide +kernel)
theorem w_222 : Cond.selects RX9 yX9_diagramAt yX9_diagramAt ∈ G_ := gsl 5 (by decide +kernel) (by decide +kernel)
theorem w_223 : Cond.code yX9_diagramAt cX9_diagramAt 3 (some ((.object "Stablingroad$Diagram"))) ∈ G_ := gt3 10 (by decide +kernel) (by decide +kernel)
theorem w_224 : Cond.fieldLink RX9 151 "Stablingroad$Diagram" "pinnedTo" "I" ∈ G_ := gt2 204 (by decide +kernel) (by decide +kernel)
theorem w_225 : Cond.fieldLink RX9 10 "Stablingroad" "units" "Ljava/util/ArrayList;" ∈ G_ := gt1 168 (by decide +kernel) (by decide +kernel)
theorem w_226 : Cond.methodLink RX9 94 yX9_checkNumber ∈ G_ := gt2 181 (by decide +kernel) (by decide +kernel)
theorem w_227 : Cond.static yX9_checkNumber ∈ G_ := gt2 182 (by decide +kernel) (by decide +kernel)
theorem w_228 : Cond.code yX9_checkNumber cX9_checkNumber 2 none ∈ G_ := gt2 183 (by decide +kernel) (by decide +kernel)
theorem w_229 : Cond.classLink RX9 81 "Stablingroad$Unit" ∈ G_ := gt2 75 (by decide +kernel) (by decide +kernel)
theorem w_230 : Cond.methodLink RX9 133 yX9_unitAt ∈ G_ := gt3 41 (by decide +kernel) (by decide +kernel)
theorem w_231 : Cond.instanceMethod yX9_unitAt ∈ G_ := gt3 43 (by decide +kernel) (by decide +kernel)
theorem w_232 : Cond.selects RX9 yX9_unitAt yX9_unitAt ∈ G_ := gsl 7 (by decide +kernel) (by decide +kernel)
theorem w_233 : Cond.code yX9_unitAt cX9_unitAt 3 (some ((.object "Stablingroad$Unit"))) ∈ G_ := gt3 44 (by decide +kernel) (by decide +kernel)
theorem w_234 : Cond.fieldLink RX9 46 "Stablingroad" "now" "I" ∈ G_ := gt1 174 (by decide +kernel) (by decide +kernel)
theorem w_235 : Cond.fieldLink RX7 36 "Stablingroad$Unit" "depot" "I" ∈ G_ := gt2 90 (by decide +kernel) (by decide +kernel)
theorem w_236 : Cond.fieldLink RX7 42 "Stablingroad$Diagram" "from" "I" ∈ G_ := gt2 193 (by decide +kernel) (by decide +kernel)
theorem w_237 : Cond.fieldLink RX7 47 "Stablingroad$Diagram" "km" "I" ∈ G_ := gt2 197 (by decide +kernel) (by decide +kernel)
theorem w_238 : Cond.fieldLink RX7 54 "Stablingroad$Diagram" "line" "I" ∈ G_ := gt2 200 (by decide +kernel) (by decide +kernel)
theorem w_239 : Cond.fieldLink RX7 87 "Stablingroad$Unit" "faults" "Ljava/util/ArrayList;" ∈ G_ := gt2 88 (by decide +kernel) (by decide +kernel)
theorem w_240 : Cond.methodLink RX7 91 yJx4a65c_size_8abf5 ∈ G_ := gt3 76 (by decide +kernel) (by decide +kernel)
theorem w_241 : Cond.methodLink RX7 97 yX8_faultAtPlace ∈ G_ := gt3 77 (by decide +kernel) (by decide +kernel)
theorem w_242 : Cond.fieldLink RX7 101 "Stablingroad$Fault" "kind" "I" ∈ G_ := gt4 67 (by decide +kernel) (by decide +kernel)
theorem w_243 : Cond.methodLink RX7 106 yX7_permitAt ∈ G_ := gt3 87 (by decide +kernel) (by decide +kernel)
theorem w_244 : Cond.fieldLink RX7 110 "Stablingroad$Fault" "toldOn" "I" ∈ G_ := gt4 71 (by decide +kernel) (by decide +kernel)
theorem w_245 : Cond.methodLink RX7 113 yX5_forbids ∈ G_ := gt3 88 (by decide +kernel) (by decide +kernel)
theorem w_246 : Cond.instanceMethod yX5_forbids ∈ G_ := gt3 89 (by decide +kernel) (by decide +kernel)
theorem w_247 : Cond.selects RX5 yX5_forbids yX5_forbids ∈ G_ := gt3 90 (by decide +kernel) (by decide +kernel)
theorem w_248 : Cond.initialized RX5 ∈ G_ := gt1 7 (by decide +kernel) (by decide +kernel)
theorem w_249 : Cond.code yX5_forbids cX5_forbids 3 (some (.boolean)) ∈ G_ := gt3 91 (by decide +kernel) (by decide +kernel)
theorem w_250 : Cond.methodLink RX7 57 yX7_listForbids ∈ G_ := gt3 72 (by decide +kernel) (by decide +kernel)
theorem w_251 : Cond.instanceMethod yX7_listForbids ∈ G_ := gt3 74 (by decide +kernel) (by decide +kernel)
theorem w_252 : Cond.selects RX7 yX7_listForbids yX7_listForbids ∈ G_ := gsl 9 (by decide +kernel) (by decide +kernel)
theorem w_253 : Cond.code yX7_listForbids cX7_listForbids 6 (some (.boolean)) ∈ G_ := gt3 75 (by decide +kernel) (by decide +kernel)
theorem w_254 : Cond.methodLink RX7 116 yX2_isGrave ∈ G_ := gt3 95 (by decide +kernel) (by decide +kernel)
theorem w_255 : Cond.instanceMethod yX2_isGrave ∈ G_ := gt3 96 (by decide +kernel) (by decide +kernel)
theorem w_256 : Cond.selects RX2 yX2_isGrave yX2_isGrave ∈ G_ := gt3 97 (by decide +kernel) (by decide +kernel)
theorem w_257 : Cond.initialized RX2 ∈ G_ := gt1 25 (by decide +kernel) (by decide +kernel)
theorem w_258 : Cond.code yX2_isGrave cX2_isGrave 1 (some (.boolean)) ∈ G_ := gt3 98 (by decide +kernel) (by decide +kernel)
theorem w_259 : Cond.methodLink RX7 61 yX7_faultsAreGrave ∈ G_ := gt3 92 (by decide +kernel) (by decide +kernel)
theorem w_260 : Cond.static yX7_faultsAreGrave ∈ G_ := gt3 93 (by decide +kernel) (by decide +kernel)
theorem w_261 : Cond.code yX7_faultsAreGrave cX7_faultsAreGrave 4 (some (.boolean)) ∈ G_ := gt3 94 (by decide +kernel) (by decide +kernel)
theorem w_262 : Cond.methodLink RX7 120 yX8_leastAxle ∈ G_ := gt3 102 (by decide +kernel) (by decide +kernel)
theorem w_263 : Cond.instanceMethod yX8_leastAxle ∈ G_ := gt3 103 (by decide +kernel) (by decide +kernel)
theorem w_264 : Cond.selects RX8 yX8_leastAxle yX8_leastAxle ∈ G_ := gt3 104 (by decide +kernel) (by decide +kernel)
theorem w_265 : Cond.code yX8_leastAxle cX8_leastAxle 3 (some (.int)) ∈ G_ := gt3 105 (by decide +kernel) (by decide +kernel)
theorem w_266 : Cond.methodLink RX7 123 yX8_greatestAxle ∈ G_ := gt3 111 (by decide +kernel) (by decide +kernel)
theorem w_267 : Cond.instanceMethod yX8_greatestAxle ∈ G_ := gt3 112 (by decide +kernel) (by decide +kernel)
theorem w_268 : Cond.selects RX8 yX8_greatestAxle yX8_greatestAxle ∈ G_ := gt3 113 (by decide +kernel) (by decide +kernel)
theorem w_269 : Cond.code yX8_greatestAxle cX8_greatestAxle 3 (some (.int)) ∈ G_ := gt3 114 (by decide +kernel) (by decide +kernel)
theorem w_270 : Cond.methodLink RX7 65 yX7_axlesAreBad ∈ G_ := gt3 99 (by decide +kernel) (by decide +kernel)
theorem w_271 : Cond.static yX7_axlesAreBad ∈ G_ := gt3 100 (by decide +kernel) (by decide +kernel)
theorem w_272 : Cond.code yX7_axlesAreBad cX7_axlesAreBad 2 (some (.boolean)) ∈ G_ := gt3 101 (by decide +kernel) (by decide +kernel)
theorem w_273 : Cond.methodLink RX9 154 yX7_reasonAgainst ∈ G_ := gt3 50 (by decide +kernel) (by decide +kernel)
theorem w_274 : Cond.instanceMethod yX7_reasonAgainst ∈ G_ := gt3 51 (by decide +kernel) (by decide +kernel)
theorem w_275 : Cond.selects RX7 yX7_reasonAgainst yX7_reasonAgainst ∈ G_ := gt3 52 (by decide +kernel) (by decide +kernel)
theorem w_276 : Cond.code yX7_reasonAgainst cX7_reasonAgainst 4 (some (.int)) ∈ G_ := gt3 53 (by decide +kernel) (by decide +kernel)
theorem w_277 : Cond.fieldLink RX9 35 "Stablingroad" "morning" "LStablingroad$Morning;" ∈ G_ := gt1 172 (by decide +kernel) (by decide +kernel)
theorem w_278 : Cond.methodLink RX9 284 yX3_begin ∈ G_ := gt3 35 (by decide +kernel) (by decide +kernel)
theorem w_279 : Cond.instanceMethod yX3_begin ∈ G_ := gt3 36 (by decide +kernel) (by decide +kernel)
theorem w_280 : Cond.selects RX3 yX3_begin yX3_begin ∈ G_ := gt3 37 (by decide +kernel) (by decide +kernel)
theorem w_281 : Cond.code yX3_begin cX3_begin 2 none ∈ G_ := gt3 38 (by decide +kernel) (by decide +kernel)
theorem w_282 : Cond.fieldLink RX9 294 "Stablingroad$Diagram" "weight" "I" ∈ G_ := gt2 202 (by decide +kernel) (by decide +kernel)
theorem w_283 : Cond.methodLink RX9 297 yX3_addDiagram ∈ G_ := gt3 124 (by decide +kernel) (by decide +kernel)
theorem w_284 : Cond.instanceMethod yX3_addDiagram ∈ G_ := gt3 125 (by decide +kernel) (by decide +kernel)
theorem w_285 : Cond.selects RX3 yX3_addDiagram yX3_addDiagram ∈ G_ := gt3 126 (by decide +kernel) (by decide +kernel)
theorem w_286 : Cond.code yX3_addDiagram cX3_addDiagram 5 none ∈ G_ := gt3 127 (by decide +kernel) (by decide +kernel)
theorem w_287 : Cond.methodLink RX9 287 yX0_isOpenTo ∈ G_ := gt3 46 (by decide +kernel) (by decide +kernel)
theorem w_288 : Cond.instanceMethod yX0_isOpenTo ∈ G_ := gt3 47 (by decide +kernel) (by decide +kernel)
theorem w_289 : Cond.selects RX0 yX0_isOpenTo yX0_isOpenTo ∈ G_ := gt3 48 (by decide +kernel) (by decide +kernel)
theorem w_290 : Cond.initialized RX0 ∈ G_ := gt1 22 (by decide +kernel) (by decide +kernel)
theorem w_291 : Cond.code yX0_isOpenTo cX0_isOpenTo 2 (some (.boolean)) ∈ G_ := gt3 49 (by decide +kernel) (by decide +kernel)
theorem w_292 : Cond.fieldLink RX9 291 "Stablingroad$Diagram" "to" "I" ∈ G_ := gt2 195 (by decide +kernel) (by decide +kernel)
theorem w_293 : Cond.methodLink RX9 218 yX7_isSoon ∈ G_ := gt3 116 (by decide +kernel) (by decide +kernel)
theorem w_294 : Cond.instanceMethod yX7_isSoon ∈ G_ := gt3 117 (by decide +kernel) (by decide +kernel)
theorem w_295 : Cond.selects RX7 yX7_isSoon yX7_isSoon ∈ G_ := gt3 118 (by decide +kernel) (by decide +kernel)
theorem w_296 : Cond.code yX7_isSoon cX7_isSoon 3 (some (.boolean)) ∈ G_ := gt3 119 (by decide +kernel) (by decide +kernel)
theorem w_297 : Cond.methodLink RX9 158 yX9_readMorning ∈ G_ := gt3 31 (by decide +kernel) (by decide +kernel)
theorem w_298 : Cond.instanceMethod yX9_readMorning ∈ G_ := gt3 33 (by decide +kernel) (by decide +kernel)
theorem w_299 : Cond.selects RX9 yX9_readMorning yX9_readMorning ∈ G_ := gsl 6 (by decide +kernel) (by decide +kernel)
theorem w_300 : Cond.code yX9_readMorning cX9_readMorning 7 none ∈ G_ := gt3 34 (by decide +kernel) (by decide +kernel)
theorem w_301 : Cond.methodLink RX9 161 yX3_allocateByParts ∈ G_ := gt3 128 (by decide +kernel) (by decide +kernel)
theorem w_302 : Cond.instanceMethod yX3_allocateByParts ∈ G_ := gt3 129 (by decide +kernel) (by decide +kernel)
theorem w_303 : Cond.selects RX3 yX3_allocateByParts yX3_allocateByParts ∈ G_ := gt3 130 (by decide +kernel) (by decide +kernel)
theorem w_304 : Cond.code yX3_allocateByParts cX3_allocateByParts 4 none ∈ G_ := gt3 131 (by decide +kernel) (by decide +kernel)
theorem w_305 : Cond.methodLink RX9 164 yX3_givenTo ∈ G_ := gt3 164 (by decide +kernel) (by decide +kernel)
theorem w_306 : Cond.instanceMethod yX3_givenTo ∈ G_ := gt3 165 (by decide +kernel) (by decide +kernel)
theorem w_307 : Cond.selects RX3 yX3_givenTo yX3_givenTo ∈ G_ := gt3 166 (by decide +kernel) (by decide +kernel)
theorem w_308 : Cond.code yX3_givenTo cX3_givenTo 2 (some (.int)) ∈ G_ := gt3 167 (by decide +kernel) (by decide +kernel)
theorem w_309 : Cond.methodLink RX9 170 yX3_allocateByAll ∈ G_ := gt4 155 (by decide +kernel) (by decide +kernel)
theorem w_310 : Cond.instanceMethod yX3_allocateByAll ∈ G_ := gt4 156 (by decide +kernel) (by decide +kernel)
theorem w_311 : Cond.selects RX3 yX3_allocateByAll yX3_allocateByAll ∈ G_ := gt4 157 (by decide +kernel) (by decide +kernel)
theorem w_312 : Cond.code yX3_allocateByAll cX3_allocateByAll 3 none ∈ G_ := gt4 158 (by decide +kernel) (by decide +kernel)
theorem w_313 : Cond.methodLink RX9 173 yX3_lackOfGiven ∈ G_ := gt3 195 (by decide +kernel) (by decide +kernel)
theorem w_314 : Cond.instanceMethod yX3_lackOfGiven ∈ G_ := gt3 196 (by decide +kernel) (by decide +kernel)
theorem w_315 : Cond.selects RX3 yX3_lackOfGiven yX3_lackOfGiven ∈ G_ := gt3 197 (by decide +kernel) (by decide +kernel)
theorem w_316 : Cond.code yX3_lackOfGiven cX3_lackOfGiven 1 (some (.int)) ∈ G_ := gt3 198 (by decide +kernel) (by decide +kernel)
theorem w_317 : Cond.fieldLink RX9 42 "Stablingroad" "past" "LStablingroad$Past;" ∈ G_ := gt1 173 (by decide +kernel) (by decide +kernel)
theorem w_318 : Cond.methodLink RX9 300 yX4_record ∈ G_ := gt3 168 (by decide +kernel) (by decide +kernel)
theorem w_319 : Cond.instanceMethod yX4_record ∈ G_ := gt3 169 (by decide +kernel) (by decide +kernel)
theorem w_320 : Cond.selects RX4 yX4_record yX4_record ∈ G_ := gt3 170 (by decide +kernel) (by decide +kernel)
theorem w_321 : Cond.code yX4_record cX4_record 5 none ∈ G_ := gt3 171 (by decide +kernel) (by decide +kernel)
theorem w_322 : Cond.fieldLink RX9 187 "Stablingroad$Unit" "depot" "I" ∈ G_ := gt2 91 (by decide +kernel) (by decide +kernel)
theorem w_323 : Cond.fieldLink RX9 21 "Stablingroad" "rows" "[LStablingroad$Row;" ∈ G_ := gt1 170 (by decide +kernel) (by decide +kernel)
theorem w_324 : Cond.methodLink RX9 61 yX9_rowAt ∈ G_ := gt1 203 (by decide +kernel) (by decide +kernel)
theorem w_325 : Cond.instanceMethod yX9_rowAt ∈ G_ := gt1 205 (by decide +kernel) (by decide +kernel)
theorem w_326 : Cond.selects RX9 yX9_rowAt yX9_rowAt ∈ G_ := gsl 0 (by decide +kernel) (by decide +kernel)
theorem w_327 : Cond.code yX9_rowAt cX9_rowAt 3 (some ((.object "Stablingroad$Row"))) ∈ G_ := gt1 206 (by decide +kernel) (by decide +kernel)
theorem w_328 : Cond.fieldLink RX9 50 "Stablingroad" "shuntCount" "I" ∈ G_ := gt1 175 (by decide +kernel) (by decide +kernel)
theorem w_329 : Cond.methodLink RX9 215 yX6_behind ∈ G_ := gt3 172 (by decide +kernel) (by decide +kernel)
theorem w_330 : Cond.instanceMethod yX6_behind ∈ G_ := gt3 173 (by decide +kernel) (by decide +kernel)
theorem w_331 : Cond.selects RX6 yX6_behind yX6_behind ∈ G_ := gt3 174 (by decide +kernel) (by decide +kernel)
theorem w_332 : Cond.initialized RX6 ∈ G_ := gt1 11 (by decide +kernel) (by decide +kernel)
theorem w_333 : Cond.code yX6_behind cX6_behind 3 (some (.int)) ∈ G_ := gt3 175 (by decide +kernel) (by decide +kernel)
theorem w_334 : Cond.methodLink RX9 303 yX6_leave ∈ G_ := gt3 176 (by decide +kernel) (by decide +kernel)
theorem w_335 : Cond.instanceMethod yX6_leave ∈ G_ := gt3 177 (by decide +kernel) (by decide +kernel)
theorem w_336 : Cond.selects RX6 yX6_leave yX6_leave ∈ G_ := gt3 178 (by decide +kernel) (by decide +kernel)
theorem w_337 : Cond.code yX6_leave cX6_leave 5 none ∈ G_ := gt3 179 (by decide +kernel) (by decide +kernel)
theorem w_338 : Cond.methodLink RX9 178 yX9_leaveRows ∈ G_ := gt3 160 (by decide +kernel) (by decide +kernel)
theorem w_339 : Cond.instanceMethod yX9_leaveRows ∈ G_ := gt3 162 (by decide +kernel) (by decide +kernel)
theorem w_340 : Cond.selects RX9 yX9_leaveRows yX9_leaveRows ∈ G_ := gsl 14 (by decide +kernel) (by decide +kernel)
theorem w_341 : Cond.code yX9_leaveRows cX9_leaveRows 4 none ∈ G_ := gt3 163 (by decide +kernel) (by decide +kernel)
theorem w_342 : Cond.fieldLink RX9 266 "Stablingroad$Diagram" "km" "I" ∈ G_ := gt2 198 (by decide +kernel) (by decide +kernel)
theorem w_343 : Cond.methodLink RX9 306 yX8_grow ∈ G_ := gt3 184 (by decide +kernel) (by decide +kernel)
theorem w_344 : Cond.instanceMethod yX8_grow ∈ G_ := gt3 185 (by decide +kernel) (by decide +kernel)
theorem w_345 : Cond.selects RX8 yX8_grow yX8_grow ∈ G_ := gt3 186 (by decide +kernel) (by decide +kernel)
theorem w_346 : Cond.code yX8_grow cX8_grow 4 none ∈ G_ := gt3 187 (by decide +kernel) (by decide +kernel)
theorem w_347 : Cond.methodLink RX9 90 yX6_come ∈ G_ := gt2 173 (by decide +kernel) (by decide +kernel)
theorem w_348 : Cond.instanceMethod yX6_come ∈ G_ := gt2 174 (by decide +kernel) (by decide +kernel)
theorem w_349 : Cond.selects RX6 yX6_come yX6_come ∈ G_ := gt2 175 (by decide +kernel) (by decide +kernel)
theorem w_350 : Cond.code yX6_come cX6_come 2 none ∈ G_ := gt2 176 (by decide +kernel) (by decide +kernel)
theorem w_351 : Cond.methodLink RX9 181 yX9_comeToDepots ∈ G_ := gt3 180 (by decide +kernel) (by decide +kernel)
theorem w_352 : Cond.instanceMethod yX9_comeToDepots ∈ G_ := gt3 182 (by decide +kernel) (by decide +kernel)
theorem w_353 : Cond.selects RX9 yX9_comeToDepots yX9_comeToDepots ∈ G_ := gsl 15 (by decide +kernel) (by decide +kernel)
theorem w_354 : Cond.code yX9_comeToDepots cX9_comeToDepots 5 none ∈ G_ := gt3 183 (by decide +kernel) (by decide +kernel)
theorem w_355 : Cond.fieldLink RX9 53 "Stablingroad" "pitIsTaken" "Z" ∈ G_ := gt1 176 (by decide +kernel) (by decide +kernel)
theorem w_356 : Cond.fieldLink RX9 57 "Stablingroad" "latheIsTaken" "Z" ∈ G_ := gt1 177 (by decide +kernel) (by decide +kernel)
theorem w_357 : Cond.methodLink RX9 184 yX8_growOlder ∈ G_ := gt3 191 (by decide +kernel) (by decide +kernel)
theorem w_358 : Cond.instanceMethod yX8_growOlder ∈ G_ := gt3 192 (by decide +kernel) (by decide +kernel)
theorem w_359 : Cond.selects RX8 yX8_growOlder yX8_growOlder ∈ G_ := gt3 193 (by decide +kernel) (by decide +kernel)
theorem w_360 : Cond.code yX8_growOlder cX8_growOlder 2 none ∈ G_ := gt3 194 (by decide +kernel) (by decide +kernel)
theorem w_361 : Cond.methodLink RX9 192 yX8_beginAgain ∈ G_ := gt4 10 (by decide +kernel) (by decide +kernel)
theorem w_362 : Cond.instanceMethod yX8_beginAgain ∈ G_ := gt4 11 (by decide +kernel) (by decide +kernel)
theorem w_363 : Cond.selects RX8 yX8_beginAgain yX8_beginAgain ∈ G_ := gt4 12 (by decide +kernel) (by decide +kernel)
theorem w_364 : Cond.code yX8_beginAgain cX8_beginAgain 3 none ∈ G_ := gt4 13 (by decide +kernel) (by decide +kernel)
theorem w_365 : Cond.methodLink RX9 197 yX8_turn ∈ G_ := gt4 19 (by decide +kernel) (by decide +kernel)
theorem w_366 : Cond.instanceMethod yX8_turn ∈ G_ := gt4 20 (by decide +kernel) (by decide +kernel)
theorem w_367 : Cond.selects RX8 yX8_turn yX8_turn ∈ G_ := gt4 21 (by decide +kernel) (by decide +kernel)
theorem w_368 : Cond.code yX8_turn cX8_turn 3 (some (.int)) ∈ G_ := gt4 22 (by decide +kernel) (by decide +kernel)
theorem w_369 : Cond.methodLink RX9 200 yX8_faultAtPlace ∈ G_ := gt4 49 (by decide +kernel) (by decide +kernel)
theorem w_370 : Cond.fieldLink RX9 204 "Stablingroad$Fault" "kind" "I" ∈ G_ := gt4 69 (by decide +kernel) (by decide +kernel)
theorem w_371 : Cond.methodLink RX9 209 yX8_dropFault ∈ G_ := gt4 51 (by decide +kernel) (by decide +kernel)
theorem w_372 : Cond.fieldLink RX9 212 "Stablingroad$Unit" "km" "I" ∈ G_ := gt2 93 (by decide +kernel) (by decide +kernel)
theorem w_373 : Cond.fieldLink RX9 137 "Stablingroad$Unit" "faults" "Ljava/util/ArrayList;" ∈ G_ := gt2 87 (by decide +kernel) (by decide +kernel)
theorem w_374 : Cond.methodLink RX9 222 yX7_overdueBits ∈ G_ := gt4 99 (by decide +kernel) (by decide +kernel)
theorem w_375 : Cond.instanceMethod yX7_overdueBits ∈ G_ := gt4 100 (by decide +kernel) (by decide +kernel)
theorem w_376 : Cond.selects RX7 yX7_overdueBits yX7_overdueBits ∈ G_ := gt4 101 (by decide +kernel) (by decide +kernel)
theorem w_377 : Cond.code yX7_overdueBits cX7_overdueBits 2 (some (.int)) ∈ G_ := gt4 102 (by decide +kernel) (by decide +kernel)
theorem w_378 : Cond.methodLink RX9 234 yX8_kmSince ∈ G_ := gt4 118 (by decide +kernel) (by decide +kernel)
theorem w_379 : Cond.methodLink RX9 231 yX8_daysSince ∈ G_ := gt4 117 (by decide +kernel) (by decide +kernel)
theorem w_380 : Cond.methodLink RX9 237 yX8_axleSize ∈ G_ := gt4 127 (by decide +kernel) (by decide +kernel)
theorem w_381 : Cond.fieldLink RX9 240 "Stablingroad$Fault" "toldOn" "I" ∈ G_ := gt4 72 (by decide +kernel) (by decide +kernel)
theorem w_382 : Cond.fieldLink RX9 243 "Stablingroad$Fault" "where" "I" ∈ G_ := gt4 75 (by decide +kernel) (by decide +kernel)
theorem w_383 : Cond.fieldLink RX9 246 "Stablingroad$Fault" "amount" "I" ∈ G_ := gt4 78 (by decide +kernel) (by decide +kernel)
theorem w_384 : Cond.methodLink RX9 256 yX6_fromExit ∈ G_ := gt4 138 (by decide +kernel) (by decide +kernel)
theorem w_385 : Cond.instanceMethod yX6_fromExit ∈ G_ := gt4 139 (by decide +kernel) (by decide +kernel)
theorem w_386 : Cond.selects RX6 yX6_fromExit yX6_fromExit ∈ G_ := gt4 140 (by decide +kernel) (by decide +kernel)
theorem w_387 : Cond.code yX6_fromExit cX6_fromExit 3 (some (.int)) ∈ G_ := gt4 141 (by decide +kernel) (by decide +kernel)
theorem w_388 : Cond.methodLink RX9 259 yX4_unitThatRan ∈ G_ := gt3 211 (by decide +kernel) (by decide +kernel)
theorem w_389 : Cond.fieldLink RX9 263 "Stablingroad$Unit" "kmTold" "I" ∈ G_ := gt2 85 (by decide +kernel) (by decide +kernel)
theorem w_390 : Cond.methodLink RX9 267 yX4_timesThatRan ∈ G_ := gt4 108 (by decide +kernel) (by decide +kernel)
theorem w_391 : Cond.instanceMethod yX4_timesThatRan ∈ G_ := gt4 109 (by decide +kernel) (by decide +kernel)
theorem w_392 : Cond.selects RX4 yX4_timesThatRan yX4_timesThatRan ∈ G_ := gt4 110 (by decide +kernel) (by decide +kernel)
theorem w_393 : Cond.code yX4_timesThatRan cX4_timesThatRan 5 (some (.int)) ∈ G_ := gt4 111 (by decide +kernel) (by decide +kernel)
theorem at_0 : AtOk RX8 93 97 "java/lang/IndexOutOfBoundsException" ["java/lang/RuntimeException", "java/lang/Exception"] := ⟨by decide +kernel, by decide +kernel, by decide +kernel, by decide +kernel, by decide +kernel, by decide +kernel, by decide +kernel⟩
theorem at_1 : AtOk RX7 27 31 "java/lang/IndexOutOfBoundsException" ["java/lang/RuntimeException", "java/lang/Exception"] := ⟨by decide +kernel, by decide +kernel, by decide +kernel, by decide +kernel, by decide +kernel, by decide +kernel, by decide +kernel⟩
theorem at_2 : AtOk RX9 226 230 "java/lang/IllegalArgumentException" ["java/lang/RuntimeException", "java/lang/Exception"] := ⟨by decide +kernel, by decide +kernel, by decide +kernel, by decide +kernel, by decide +kernel, by decide +kernel, by decide +kernel⟩
theorem at_3 : AtOk RX9 251 255 "java/lang/IndexOutOfBoundsException" ["java/lang/RuntimeException", "java/lang/Exception"] := ⟨by decide +kernel, by decide +kernel, by decide +kernel, by decide +kernel, by decide +kernel, by decide +kernel, by decide +kernel⟩
theorem at_4 : AtOk RX9 74 78 "java/lang/IllegalStateException" ["java/lang/RuntimeException", "java/lang/Exception"] := ⟨by decide +kernel, by decide +kernel, by decide +kernel, by decide +kernel, by decide +kernel, by decide +kernel, by decide +kernel⟩
def l_X3_allocateByAll_26 : Nat → Wd → Int32 → Int32 → Option ((Unit ⊕ String) × Wd)
  | 0, _, _, _ => none
  | n + 1, σ, a2, a1 =>
  if a1 ≤ a2 then
    some (.inl (), σ)
  else
    bx (f_X3_trialIsAllowed σ) fun v9 σ10 =>
    if v9 = 0 then
      bx (f_X3_stepTrial σ10) fun v11 σ12 =>
      (l_X3_allocateByAll_26 n) σ12 (a2 + 1) a1
    else
      bx (f_X3_trialIsBetter σ10) fun v13 σ14 =>
      if v13 = 0 then
        bx (f_X3_stepTrial σ14) fun v15 σ16 =>
        (l_X3_allocateByAll_26 n) σ16 (a2 + 1) a1
      else
        gd (¬ (0 : Int32) < 0) <|
        gd (¬ (0 : Int32) < 0) <|
        gd (¬ (6 : Int32) < 0) <|
        gd ((0 : Int32).toNatClampNeg + (6 : Int32).toNatClampNeg ≤ 6) <|
        gd ((0 : Int32).toNatClampNeg + (6 : Int32).toNatClampNeg ≤ 6) <|
        bd (wcI σ14 17 16 (0 : Int32).toNatClampNeg (0 : Int32).toNatClampNeg (6 : Int32).toNatClampNeg) fun σ17 =>
        bx (f_X3_stepTrial σ17) fun v18 σ19 =>
        (l_X3_allocateByAll_26 n) σ19 (a2 + 1) a1
def f_X3_allocateByAll (σ : Wd) : Option ((Unit ⊕ String) × Wd) :=
  bx (f_X3_firstChoice σ) fun v1 σ2 =>
  bx (f_J7_fill_53178_17 σ2 v1) fun v3 σ4 =>
  bx (f_J7_fill_53178_16 σ4 (-1 : Int32)) fun v5 σ6 =>
  bx (f_X3_howManyTrials σ6) fun v7 σ8 =>
  l_X3_allocateByAll_26 FU σ8 (0 : Int32) v7
theorem bl_X3_allocateByAll_26 (X : Xt) (hst : X.1.stackTraces = false) (ad : Ad) : ∀ (n : Nat) (σ : Wd) (a2 : Int32) (a1 : Int32), Bk X (fun a => a = ad) cX3_allocateByAll 3 RX3 none 3 68 vV (0, 0) (0, 0) ad σ 26 [(2, .int a2), (1, .int a1), (0, .ref (ad 12 0))] [] (l_X3_allocateByAll_26 n σ a2 a1) := by
  intro n
  induction n with
  | zero => intros; exact r_none
  | succ n ih =>
  intro σ a2 a1
  rw [l_X3_allocateByAll_26]
  refine r_iload_n 0 rfl dX3_allocateByAll_26 ?_
  refine r_iload_n 1 rfl dX3_allocateByAll_27 ?_
  refine r_icmp_ge 73 dX3_allocateByAll_28 (by decide) ?_ ?_
  · exact r_vret rfl rfl rfl dX3_allocateByAll_73
  · refine r_aload_n 2 rfl dX3_allocateByAll_31 ?_
    refine r_callV (n := 0) (As := []) (cell_12 _ _ _ _) (lvs_12 _) rfl (nc_X3_trialIsAllowed X hst ad _) (fun _ h => h) rfl ⟨rfl, by decide, by decide, by decide +kernel⟩ w_125 w_126 w_127 w_50 w_128 rfl rfl (Nat.le_of_ble_eq_true rfl) ⟨by decide, by decide⟩ dX3_allocateByAll_32 (fun v9 σ10 => ?_)
    refine r_if_eq 63 dX3_allocateByAll_35 (by decide) ?_ ?_
    · refine r_aload_n 2 rfl dX3_allocateByAll_63 ?_
      refine r_callV (n := 0) (As := []) (cell_12 _ _ _ _) (lvs_12 _) rfl (nc_X3_stepTrial X hst ad _) (fun _ h => h) rfl ⟨rfl, by decide, by decide, by decide +kernel⟩ w_129 w_130 w_131 w_50 w_132 rfl rfl (Nat.le_of_ble_eq_true rfl) ⟨by decide, by decide⟩ dX3_allocateByAll_64 (fun v11 σ12 => ?_)
      refine r_iinc (1) [(2, .int _), (1, .int _), (0, .ref _)] 0 rfl (by decide) rfl (by decide) dX3_allocateByAll_67 ?_
      refine r_goto 26 dX3_allocateByAll_70 (by decide) ?_
      exact r_sub [0, 1, 2] rfl (ih _ _ _)
    · refine r_aload_n 2 rfl dX3_allocateByAll_38 ?_
      refine r_callV (n := 0) (As := []) (cell_12 _ _ _ _) (lvs_12 _) rfl (nc_X3_trialIsBetter X hst ad _) (fun _ h => h) rfl ⟨rfl, by decide, by decide, by decide +kernel⟩ w_133 w_134 w_135 w_50 w_136 rfl rfl (Nat.le_of_ble_eq_true rfl) ⟨by decide, by decide⟩ dX3_allocateByAll_39 (fun v13 σ14 => ?_)
      refine r_if_eq 63 dX3_allocateByAll_42 (by decide) ?_ ?_
      · refine r_aload_n 2 rfl dX3_allocateByAll_63 ?_
        refine r_callV (n := 0) (As := []) (cell_12 _ _ _ _) (lvs_12 _) rfl (nc_X3_stepTrial X hst ad _) (fun _ h => h) rfl ⟨rfl, by decide, by decide, by decide +kernel⟩ w_129 w_130 w_131 w_50 w_132 rfl rfl (Nat.le_of_ble_eq_true rfl) ⟨by decide, by decide⟩ dX3_allocateByAll_64 (fun v15 σ16 => ?_)
        refine r_iinc (1) [(2, .int _), (1, .int _), (0, .ref _)] 0 rfl (by decide) rfl (by decide) dX3_allocateByAll_67 ?_
        refine r_goto 26 dX3_allocateByAll_70 (by decide) ?_
        exact r_sub [0, 1, 2] rfl (ih _ _ _)
      · refine r_aload_n 2 rfl dX3_allocateByAll_45 ?_
        refine r_getf 4 (lvs_12 _) (cell_12 _ _ _ _) rfl (by decide) in_4 w_82 rfl dX3_allocateByAll_46 ?_
        refine r_iconst (0) (by decide) dX3_allocateByAll_49 ?_
        refine r_aload_n 2 rfl dX3_allocateByAll_50 ?_
        refine r_getf 3 (lvs_12 _) (cell_12 _ _ _ _) rfl (by decide) in_4 w_47 rfl dX3_allocateByAll_51 ?_
        refine r_iconst (0) (by decide) dX3_allocateByAll_54 ?_
        refine r_aload_n 2 rfl dX3_allocateByAll_55 ?_
        refine r_getf 3 (lvs_12 _) (cell_12 _ _ _ _) rfl (by decide) in_4 w_47 rfl dX3_allocateByAll_56 ?_
        refine r_alen (6) (lvs_16 _) (cell_16 _ _ _ _) rfl rfl dX3_allocateByAll_59 ?_
        refine r_gd (fun h1 => ?_)
        refine r_gd (fun h2 => ?_)
        refine r_gd (fun h3 => ?_)
        refine r_gd (fun h4 => ?_)
        refine r_gd (fun h5 => ?_)
        refine r_bd ?_
        refine r_copyI (lvs_17 _) (lvs_16 _) (ia_17 _ _ _) (ia_16 _ _ _) w_137 w_109 w_110 w_111 h1 h2 h3 h4 h5 (by decide) (Nat.le_of_ble_eq_true rfl) dX3_allocateByAll_60 ?_
        refine r_aload_n 2 rfl dX3_allocateByAll_63 ?_
        refine r_callV (n := 0) (As := []) (cell_12 _ _ _ _) (lvs_12 _) rfl (nc_X3_stepTrial X hst ad _) (fun _ h => h) rfl ⟨rfl, by decide, by decide, by decide +kernel⟩ w_129 w_130 w_131 w_50 w_132 rfl rfl (Nat.le_of_ble_eq_true rfl) ⟨by decide, by decide⟩ dX3_allocateByAll_64 (fun v18 σ19 => ?_)
        refine r_iinc (1) [(2, .int _), (1, .int _), (0, .ref _)] 0 rfl (by decide) rfl (by decide) dX3_allocateByAll_67 ?_
        refine r_goto 26 dX3_allocateByAll_70 (by decide) ?_
        exact r_sub [0, 1, 2] rfl (ih _ _ _)
theorem nc_X3_allocateByAll (X : Xt) (hst : X.1.stackTraces = false) (ad : Ad) (σ : Wd) : NC X (fun a => a = ad) yX3_allocateByAll cX3_allocateByAll 3 none 3 68 vV (0, 0) ad σ [.ref (ad 12 0)] (f_X3_allocateByAll σ) := by
  unfold f_X3_allocateByAll
  refine NC.intro RX3 rfl hst (by decide) (Nat.le_of_ble_eq_true rfl) (lv := [(0, .ref _)]) rfl ?_
  refine r_aload_n 0 rfl dX3_allocateByAll_0 ?_
  refine r_getf 4 (lvs_12 _) (cell_12 _ _ _ _) rfl (by decide) in_4 w_82 rfl dX3_allocateByAll_1 ?_
  refine r_aload_n 0 rfl dX3_allocateByAll_4 ?_
  refine r_callV (n := 0) (As := []) (cell_12 _ _ _ _) (lvs_12 _) rfl (nc_X3_firstChoice X hst ad _) (fun _ h => h) rfl ⟨rfl, by decide, by decide, by decide +kernel⟩ w_83 w_84 w_85 w_50 w_86 rfl rfl (Nat.le_of_ble_eq_true rfl) ⟨by decide, by decide⟩ dX3_allocateByAll_5 (fun v1 σ2 => ?_)
  refine r_callS (n := 2) (As := [.ref _, .int _]) (nc_J7_fill_53178_17 X hst ad _ _) (fun _ h => h) rfl ⟨by decide, by decide, by decide +kernel⟩ w_117 w_118 w_119 w_120 rfl rfl (Nat.le_of_ble_eq_true rfl) ⟨by decide, by decide⟩ dX3_allocateByAll_8 (fun v3 σ4 => ?_)
  refine r_aload_n 0 rfl dX3_allocateByAll_11 ?_
  refine r_getf 3 (lvs_12 _) (cell_12 _ _ _ _) rfl (by decide) in_4 w_47 rfl dX3_allocateByAll_12 ?_
  refine r_iconst (-1) (by decide) dX3_allocateByAll_15 ?_
  refine r_callS (n := 2) (As := [.ref _, .int _]) (nc_J7_fill_53178_16 X hst ad _ _) (fun _ h => h) rfl ⟨by decide, by decide, by decide +kernel⟩ w_117 w_118 w_119 w_120 rfl rfl (Nat.le_of_ble_eq_true rfl) ⟨by decide, by decide⟩ dX3_allocateByAll_16 (fun v5 σ6 => ?_)
  refine r_aload_n 0 rfl dX3_allocateByAll_19 ?_
  refine r_callV (n := 0) (As := []) (cell_12 _ _ _ _) (lvs_12 _) rfl (nc_X3_howManyTrials X hst ad _) (fun _ h => h) rfl ⟨rfl, by decide, by decide, by decide +kernel⟩ w_121 w_122 w_123 w_50 w_124 rfl rfl (Nat.le_of_ble_eq_true rfl) ⟨by decide, by decide⟩ dX3_allocateByAll_20 (fun v7 σ8 => ?_)
  refine r_istore_n [(1, .int _), (0, .ref _)] rfl (by decide) dX3_allocateByAll_23 ?_
  refine r_iconst (0) (by decide) dX3_allocateByAll_24 ?_
  refine r_istore_n [(2, .int _), (1, .int _), (0, .ref _)] rfl (by decide) dX3_allocateByAll_25 ?_
  exact r_sub [0, 1, 2] rfl ((bl_X3_allocateByAll_26 X hst ad FU) _ _ _)
def j_X8_faultAtPlace_30 (σ : Wd) (ua0 : Nat) (a1 : Int32) : Option ((Nat ⊕ String) × Wd) :=
  some (.inr "java/lang/IndexOutOfBoundsException", σ)
def j_X8_faultAtPlace_29 (σ : Wd) (ua0 : Nat) (a1 : Int32) : Option ((Nat ⊕ String) × Wd) :=
  j_X8_faultAtPlace_30 σ ua0 a1
def j_X8_faultAtPlace_30b (σ : Wd) (ua0 : Nat) (a1 : Int32) (us0 : Nat) : Option ((Nat ⊕ String) × Wd) :=
  some (.inl us0, σ)
def f_X8_faultAtPlace (σ : Wd) (i : Nat) (p0 : Int32) : Option ((Nat ⊕ String) × Wd) :=
  if p0 < 0 then
    j_X8_faultAtPlace_29 σ i p0
  else
    gd (i < σ.2.2 8) <|
    bx (f_Jx4a65c_size_8abf5 σ (i + 2)) fun v1 σ2 =>
    if v1 ≤ p0 then
      j_X8_faultAtPlace_29 σ2 i p0
    else
      gd (i < σ2.2.2 8) <|
      bx (f_Jx4a65c_get_915e3 σ2 (i + 2) p0) fun v3 σ4 =>
      gd (v3 < σ4.2.2 10) <|
      j_X8_faultAtPlace_30b σ4 i p0 v3
theorem bj_X8_faultAtPlace_30 (X : Xt) (hst : X.1.stackTraces = false) (ad : Ad) (σ : Wd) (ua0 : Nat) (a1 : Int32) : Bk X (fun a => a = ad) cX8_faultAtPlace 3 RX8 (some ((.object "Stablingroad$Fault"))) 6 82 (vR ad 26) (0, 0) (0, 0) ad σ 30 [(0, .ref (ad 21 ua0)), (1, .int a1)] [.null] (j_X8_faultAtPlace_30 σ ua0 a1) := by
  unfold j_X8_faultAtPlace_30
  refine r_astore_nN [(2, .null), (0, .ref _), (1, .int _)] rfl (by decide) dX8_faultAtPlace_30 ?_
  refine r_aload_nN 0 rfl dX8_faultAtPlace_31 ?_
  refine r_ifnonnullN dX8_faultAtPlace_32 ?_
  exact r_throw (text := "no such fault") at_0 (by decide +kernel) rfl dX8_faultAtPlace_35 dX8_faultAtPlace_38 dX8_faultAtPlace_39 dX8_faultAtPlace_41 dX8_faultAtPlace_44 (by decide) (Nat.le_of_ble_eq_true rfl)
theorem bj_X8_faultAtPlace_29 (X : Xt) (hst : X.1.stackTraces = false) (ad : Ad) (σ : Wd) (ua0 : Nat) (a1 : Int32) : Bk X (fun a => a = ad) cX8_faultAtPlace 3 RX8 (some ((.object "Stablingroad$Fault"))) 6 82 (vR ad 26) (0, 0) (0, 0) ad σ 29 [(0, .ref (ad 21 ua0)), (1, .int a1)] [] (j_X8_faultAtPlace_29 σ ua0 a1) := by
  unfold j_X8_faultAtPlace_29
  refine r_null dX8_faultAtPlace_29 ?_
  exact r_sub [0, 1] rfl ((bj_X8_faultAtPlace_30 X hst ad) _ _ _)
theorem bj_X8_faultAtPlace_30b (X : Xt) (hst : X.1.stackTraces = false) (ad : Ad) (σ : Wd) (ua0 : Nat) (a1 : Int32) (us0 : Nat) : Bk X (fun a => a = ad) cX8_faultAtPlace 3 RX8 (some ((.object "Stablingroad$Fault"))) 6 82 (vR ad 26) (0, 0) (0, 0) ad σ 30 [(0, .ref (ad 21 ua0)), (1, .int a1)] [.ref (ad 26 us0)] (j_X8_faultAtPlace_30b σ ua0 a1 us0) := by
  unfold j_X8_faultAtPlace_30b
  refine r_astore_n [(2, .ref _), (0, .ref _), (1, .int _)] rfl (by decide) dX8_faultAtPlace_30 ?_
  refine r_aload_n 0 rfl dX8_faultAtPlace_31 ?_
  refine r_ifnonnull 45 dX8_faultAtPlace_32 (by decide) ?_
  refine r_aload_n 0 rfl dX8_faultAtPlace_45 ?_
  exact r_aret rfl rfl rfl dX8_faultAtPlace_46
theorem nc_X8_faultAtPlace (X : Xt) (hst : X.1.stackTraces = false) (ad : Ad) (σ : Wd) (i : Nat) (p0 : Int32) : NC X (fun a => a = ad) yX8_faultAtPlace cX8_faultAtPlace 3 (some ((.object "Stablingroad$Fault"))) 6 82 (vR ad 26) (0, 0) ad σ [.ref (ad 21 i), .int p0] (f_X8_faultAtPlace σ i p0) := by
  unfold f_X8_faultAtPlace
  refine NC.intro RX8 rfl hst (by decide) (Nat.le_of_ble_eq_true rfl) (lv := [(0, .ref _), (1, .int _)]) rfl ?_
  refine r_iload_n 1 rfl dX8_faultAtPlace_0 ?_
  refine r_if_lt 29 dX8_faultAtPlace_1 (by decide) ?_ ?_
  · exact r_sub [0, 1] rfl ((bj_X8_faultAtPlace_29 X hst ad) _ _ _)
  · refine r_iload_n 1 rfl dX8_faultAtPlace_4 ?_
    refine r_aload_n 0 rfl dX8_faultAtPlace_5 ?_
    refine r_gd (fun h1 => ?_)
    refine r_getf 1 (lvd_21 h1) (cell_21 _ _ _ _) rfl (by decide) in_9 w_138 rfl dX8_faultAtPlace_6 ?_
    refine r_callV (n := 0) (As := []) (cell_1 _ _ _ _) (lvl_f h1) rfl (nc_Jx4a65c_size_8abf5 X hst ad _ _) (fun _ h => h) rfl ⟨rfl, by decide, by decide, by decide +kernel⟩ w_139 w_140 w_141 w_104 w_142 rfl rfl (Nat.le_of_ble_eq_true rfl) ⟨by decide, by decide⟩ dX8_faultAtPlace_9 (fun v1 σ2 => ?_)
    refine r_icmp_ge 29 dX8_faultAtPlace_12 (by decide) ?_ ?_
    · exact r_sub [0, 1] rfl ((bj_X8_faultAtPlace_29 X hst ad) _ _ _)
    · refine r_aload_n 0 rfl dX8_faultAtPlace_15 ?_
      refine r_gd (fun h2 => ?_)
      refine r_getf 1 (lvd_21 h2) (cell_21 _ _ _ _) rfl (by decide) in_9 w_138 rfl dX8_faultAtPlace_16 ?_
      refine r_iload_n 1 rfl dX8_faultAtPlace_19 ?_
      refine r_callV (n := 1) (As := [.int _]) (cell_1 _ _ _ _) (lvl_f h2) rfl (nc_Jx4a65c_get_915e3 X hst ad _ _ _) (fun _ h => h) rfl ⟨rfl, by decide, by decide, by decide +kernel⟩ w_143 w_144 w_145 w_104 w_146 rfl rfl (Nat.le_of_ble_eq_true rfl) ⟨by decide, by decide⟩ dX8_faultAtPlace_20 (fun v3 σ4 => ?_)
      refine r_gd (fun h3 => ?_)
      refine r_castS (lvd_26 h3) (cell_26 _ _ _ _) rfl w_147 dX8_faultAtPlace_23 ?_
      refine r_goto 30 dX8_faultAtPlace_26 (by decide) ?_
      exact r_sub [0, 1] rfl ((bj_X8_faultAtPlace_30b X hst ad) _ _ _ _)
def l_X8_depthOnAxle_4 : Nat → Wd → Int32 → Int32 → Nat → Int32 → Option ((Int32 ⊕ String) × Wd)
  | 0, _, _, _, _, _ => none
  | n + 1, σ, a3, a2, ua0, a1 =>
  gd (ua0 < σ.2.2 8) <|
  bx (f_Jx4a65c_size_8abf5 σ (ua0 + 2)) fun v1 σ2 =>
  if v1 ≤ a3 then
    some (.inl a2, σ2)
  else
    gd (ua0 < σ2.2.2 8) <|
    bx (f_X8_faultAtPlace σ2 ua0 a3) fun v3 σ4 =>
    gd (v3 < σ4.2.2 10) <|
    if (σ4.1 26 v3 0) = 0 then
      if (σ4.1 26 v3 2) = a1 then
        (l_X8_depthOnAxle_4 n) σ4 (a3 + 1) (a2 + (σ4.1 26 v3 3)) ua0 a1
      else
        (l_X8_depthOnAxle_4 n) σ4 (a3 + 1) a2 ua0 a1
    else
      (l_X8_depthOnAxle_4 n) σ4 (a3 + 1) a2 ua0 a1
def f_X8_depthOnAxle (σ : Wd) (i : Nat) (p0 : Int32) : Option ((Int32 ⊕ String) × Wd) :=
  l_X8_depthOnAxle_4 FU σ (0 : Int32) (0 : Int32) i p0
theorem bl_X8_depthOnAxle_4 (X : Xt) (hst : X.1.stackTraces = false) (ad : Ad) : ∀ (n : Nat) (σ : Wd) (a3 : Int32) (a2 : Int32) (ua0 : Nat) (a1 : Int32), Bk X (fun a => a = ad) cX8_depthOnAxle 5 RX8 (some (.int)) 7 104 vI (0, 0) (0, 0) ad σ 4 [(3, .int a3), (2, .int a2), (0, .ref (ad 21 ua0)), (1, .int a1)] [] (l_X8_depthOnAxle_4 n σ a3 a2 ua0 a1) := by
  intro n
  induction n with
  | zero => intros; exact r_none
  | succ n ih =>
  intro σ a3 a2 ua0 a1
  rw [l_X8_depthOnAxle_4]
  refine r_iload_n 0 rfl dX8_depthOnAxle_4 ?_
  refine r_aload_n 2 rfl dX8_depthOnAxle_5 ?_
  refine r_gd (fun h1 => ?_)
  refine r_getf 1 (lvd_21 h1) (cell_21 _ _ _ _) rfl (by decide) in_9 w_138 rfl dX8_depthOnAxle_6 ?_
  refine r_callV (n := 0) (As := []) (cell_1 _ _ _ _) (lvl_f h1) rfl (nc_Jx4a65c_size_8abf5 X hst ad _ _) (fun _ h => h) rfl ⟨rfl, by decide, by decide, by decide +kernel⟩ w_139 w_140 w_141 w_104 w_142 rfl rfl (Nat.le_of_ble_eq_true rfl) ⟨by decide, by decide⟩ dX8_depthOnAxle_9 (fun v1 σ2 => ?_)
  refine r_icmp_ge 53 dX8_depthOnAxle_12 (by decide) ?_ ?_
  · refine r_iload_n 1 rfl dX8_depthOnAxle_53 ?_
    exact r_iret rfl rfl rfl dX8_depthOnAxle_54
  · refine r_aload_n 2 rfl dX8_depthOnAxle_15 ?_
    refine r_iload_n 0 rfl dX8_depthOnAxle_16 ?_
    refine r_gd (fun h2 => ?_)
    refine r_callV (n := 1) (As := [.int _]) (cell_21 _ _ _ _) (lvd_21 h2) rfl (nc_X8_faultAtPlace X hst ad _ _ _) (fun _ h => h) rfl ⟨rfl, by decide, by decide, by decide +kernel⟩ w_148 w_149 w_150 w_27 w_151 rfl rfl (Nat.le_of_ble_eq_true rfl) ⟨by decide, by decide⟩ dX8_depthOnAxle_17 (fun v3 σ4 => ?_)
    refine r_astore [(4, .ref _), (3, .int _), (2, .int _), (0, .ref _), (1, .int _)] rfl (by decide) dX8_depthOnAxle_20 ?_
    refine r_aload 0 rfl dX8_depthOnAxle_22 ?_
    refine r_gd (fun h3 => ?_)
    refine r_getf 0 (lvd_26 h3) (cell_26 _ _ _ _) rfl (by decide) in_3 w_152 rfl dX8_depthOnAxle_24 ?_
    refine r_if_ne 47 dX8_depthOnAxle_27 (by decide) ?_ ?_
    · refine r_aload 0 rfl dX8_depthOnAxle_30 ?_
      refine r_getf 2 (lvd_26 h3) (cell_26 _ _ _ _) rfl (by decide) in_3 w_153 rfl dX8_depthOnAxle_32 ?_
      refine r_iload_n 4 rfl dX8_depthOnAxle_35 ?_
      refine r_icmp_ne 47 dX8_depthOnAxle_36 (by decide) ?_ ?_
      · refine r_iload_n 2 rfl dX8_depthOnAxle_39 ?_
        refine r_aload 0 rfl dX8_depthOnAxle_40 ?_
        refine r_getf 3 (lvd_26 h3) (cell_26 _ _ _ _) rfl (by decide) in_3 w_154 rfl dX8_depthOnAxle_42 ?_
        refine r_iadd dX8_depthOnAxle_45 ?_
        refine r_istore_n [(2, .int _), (4, .ref _), (3, .int _), (0, .ref _), (1, .int _)] rfl (by decide) dX8_depthOnAxle_46 ?_
        refine r_iinc (1) [(3, .int _), (2, .int _), (4, .ref _), (0, .ref _), (1, .int _)] 2 rfl (by decide) rfl (by decide) dX8_depthOnAxle_47 ?_
        refine r_goto 4 dX8_depthOnAxle_50 (by decide) ?_
        exact r_sub [0, 1, 3, 4] rfl (ih _ _ _ _ _)
      · refine r_iinc (1) [(3, .int _), (4, .ref _), (2, .int _), (0, .ref _), (1, .int _)] 1 rfl (by decide) rfl (by decide) dX8_depthOnAxle_47 ?_
        refine r_goto 4 dX8_depthOnAxle_50 (by decide) ?_
        exact r_sub [0, 2, 3, 4] rfl (ih _ _ _ _ _)
    · refine r_iinc (1) [(3, .int _), (4, .ref _), (2, .int _), (0, .ref _), (1, .int _)] 1 rfl (by decide) rfl (by decide) dX8_depthOnAxle_47 ?_
      refine r_goto 4 dX8_depthOnAxle_50 (by decide) ?_
      exact r_sub [0, 2, 3, 4] rfl (ih _ _ _ _ _)
theorem nc_X8_depthOnAxle (X : Xt) (hst : X.1.stackTraces = false) (ad : Ad) (σ : Wd) (i : Nat) (p0 : Int32) : NC X (fun a => a = ad) yX8_depthOnAxle cX8_depthOnAxle 5 (some (.int)) 7 104 vI (0, 0) ad σ [.ref (ad 21 i), .int p0] (f_X8_depthOnAxle σ i p0) := by
  unfold f_X8_depthOnAxle
  refine NC.intro RX8 rfl hst (by decide) (Nat.le_of_ble_eq_true rfl) (lv := [(0, .ref _), (1, .int _)]) rfl ?_
  refine r_iconst (0) (by decide) dX8_depthOnAxle_0 ?_
  refine r_istore_n [(2, .int _), (0, .ref _), (1, .int _)] rfl (by decide) dX8_depthOnAxle_1 ?_
  refine r_iconst (0) (by decide) dX8_depthOnAxle_2 ?_
  refine r_istore_n [(3, .int _), (2, .int _), (0, .ref _), (1, .int _)] rfl (by decide) dX8_depthOnAxle_3 ?_
  exact r_sub [0, 1, 2, 3] rfl ((bl_X8_depthOnAxle_4 X hst ad FU) _ _ _ _ _)
def f_X8_dropFault (σ : Wd) (i : Nat) (p0 : Int32) : Option ((Unit ⊕ String) × Wd) :=
  if p0 < 0 then
    some (.inl (), σ)
  else
    gd (i < σ.2.2 8) <|
    bx (f_Jx4a65c_size_8abf5 σ (i + 2)) fun v1 σ2 =>
    if v1 ≤ p0 then
      some (.inl (), σ2)
    else
      gd (i < σ2.2.2 8) <|
      bx (f_Jx4a65c_remove_915e3 σ2 i p0) fun v3 σ4 =>
      some (.inl (), σ4)
theorem nc_X8_dropFault (X : Xt) (hst : X.1.stackTraces = false) (ad : Ad) (σ : Wd) (i : Nat) (p0 : Int32) : NC X (fun a => a = ad) yX8_dropFault cX8_dropFault 2 none 3 66 vV (0, 0) ad σ [.ref (ad 21 i), .int p0] (f_X8_dropFault σ i p0) := by
  unfold f_X8_dropFault
  refine NC.intro RX8 rfl hst (by decide) (Nat.le_of_ble_eq_true rfl) (lv := [(0, .ref _), (1, .int _)]) rfl ?_
  refine r_iload_n 1 rfl dX8_dropFault_0 ?_
  refine r_if_lt 24 dX8_dropFault_1 (by decide) ?_ ?_
  · exact r_vret rfl rfl rfl dX8_dropFault_24
  · refine r_iload_n 1 rfl dX8_dropFault_4 ?_
    refine r_aload_n 0 rfl dX8_dropFault_5 ?_
    refine r_gd (fun h1 => ?_)
    refine r_getf 1 (lvd_21 h1) (cell_21 _ _ _ _) rfl (by decide) in_9 w_138 rfl dX8_dropFault_6 ?_
    refine r_callV (n := 0) (As := []) (cell_1 _ _ _ _) (lvl_f h1) rfl (nc_Jx4a65c_size_8abf5 X hst ad _ _) (fun _ h => h) rfl ⟨rfl, by decide, by decide, by decide +kernel⟩ w_139 w_140 w_141 w_104 w_142 rfl rfl (Nat.le_of_ble_eq_true rfl) ⟨by decide, by decide⟩ dX8_dropFault_9 (fun v1 σ2 => ?_)
    refine r_icmp_ge 24 dX8_dropFault_12 (by decide) ?_ ?_
    · exact r_vret rfl rfl rfl dX8_dropFault_24
    · refine r_aload_n 0 rfl dX8_dropFault_15 ?_
      refine r_gd (fun h2 => ?_)
      refine r_getf 1 (lvd_21 h2) (cell_21 _ _ _ _) rfl (by decide) in_9 w_138 rfl dX8_dropFault_16 ?_
      refine r_iload_n 1 rfl dX8_dropFault_19 ?_
      refine r_callV (n := 1) (As := [.int _]) (cell_1 _ _ _ _) (lvl_f h2) rfl (nc_Jx4a65c_remove_915e3 X hst ad _ _ _) (fun _ h => h) rfl ⟨rfl, by decide, by decide, by decide +kernel⟩ w_160 w_161 w_162 w_104 w_163 rfl rfl (Nat.le_of_ble_eq_true rfl) ⟨by decide, by decide⟩ dX8_dropFault_20 (fun v3 σ4 => ?_)
      refine r_pop rfl dX8_dropFault_23 ?_
      exact r_vret rfl rfl rfl dX8_dropFault_24
def l_X8_dropFlats_10 : Nat → Wd → Int32 → Nat → Option ((Unit ⊕ String) × Wd)
  | 0, _, _, _ => none
  | n + 1, σ, a1, ua0 =>
  if a1 < 0 then
    some (.inl (), σ)
  else
    gd (ua0 < σ.2.2 8) <|
    bx (f_X8_faultAtPlace σ ua0 a1) fun v3 σ4 =>
    gd (v3 < σ4.2.2 10) <|
    if (σ4.1 26 v3 0) = 0 then
      gd (ua0 < σ4.2.2 8) <|
      bx (f_X8_dropFault σ4 ua0 a1) fun v5 σ6 =>
      (l_X8_dropFlats_10 n) σ6 (a1 + (-1)) ua0
    else
      (l_X8_dropFlats_10 n) σ4 (a1 + (-1)) ua0
def f_X8_dropFlats (σ : Wd) (i : Nat) : Option ((Unit ⊕ String) × Wd) :=
  gd (i < σ.2.2 8) <|
  bx (f_Jx4a65c_size_8abf5 σ (i + 2)) fun v1 σ2 =>
  l_X8_dropFlats_10 FU σ2 (v1 - (1 : Int32)) i
theorem bl_X8_dropFlats_10 (X : Xt) (hst : X.1.stackTraces = false) (ad : Ad) : ∀ (n : Nat) (σ : Wd) (a1 : Int32) (ua0 : Nat), Bk X (fun a => a = ad) cX8_dropFlats 2 RX8 none 7 104 vV (0, 0) (0, 0) ad σ 10 [(1, .int a1), (0, .ref (ad 21 ua0))] [] (l_X8_dropFlats_10 n σ a1 ua0) := by
  intro n
  induction n with
  | zero => intros; exact r_none
  | succ n ih =>
  intro σ a1 ua0
  rw [l_X8_dropFlats_10]
  refine r_iload_n 0 rfl dX8_dropFlats_10 ?_
  refine r_if_lt 36 dX8_dropFlats_11 (by decide) ?_ ?_
  · exact r_vret rfl rfl rfl dX8_dropFlats_36
  · refine r_aload_n 1 rfl dX8_dropFlats_14 ?_
    refine r_iload_n 0 rfl dX8_dropFlats_15 ?_
    refine r_gd (fun h2 => ?_)
    refine r_callV (n := 1) (As := [.int _]) (cell_21 _ _ _ _) (lvd_21 h2) rfl (nc_X8_faultAtPlace X hst ad _ _ _) (fun _ h => h) rfl ⟨rfl, by decide, by decide, by decide +kernel⟩ w_148 w_149 w_150 w_27 w_151 rfl rfl (Nat.le_of_ble_eq_true rfl) ⟨by decide, by decide⟩ dX8_dropFlats_16 (fun v3 σ4 => ?_)
    refine r_gd (fun h3 => ?_)
    refine r_getf 0 (lvd_26 h3) (cell_26 _ _ _ _) rfl (by decide) in_3 w_152 rfl dX8_dropFlats_19 ?_
    refine r_if_ne 30 dX8_dropFlats_22 (by decide) ?_ ?_
    · refine r_aload_n 1 rfl dX8_dropFlats_25 ?_
      refine r_iload_n 0 rfl dX8_dropFlats_26 ?_
      refine r_gd (fun h4 => ?_)
      refine r_callV (n := 1) (As := [.int _]) (cell_21 _ _ _ _) (lvd_21 h4) rfl (nc_X8_dropFault X hst ad _ _ _) (fun _ h => h) rfl ⟨rfl, by decide, by decide, by decide +kernel⟩ w_164 w_165 w_166 w_27 w_167 rfl rfl (Nat.le_of_ble_eq_true rfl) ⟨by decide, by decide⟩ dX8_dropFlats_27 (fun v5 σ6 => ?_)
      refine r_iinc (-1) [(1, .int _), (0, .ref _)] 0 rfl (by decide) rfl (by decide) dX8_dropFlats_30 ?_
      refine r_goto 10 dX8_dropFlats_33 (by decide) ?_
      exact r_sub [0, 1] rfl (ih _ _ _)
    · refine r_iinc (-1) [(1, .int _), (0, .ref _)] 0 rfl (by decide) rfl (by decide) dX8_dropFlats_30 ?_
      refine r_goto 10 dX8_dropFlats_33 (by decide) ?_
      exact r_sub [0, 1] rfl (ih _ _ _)
theorem nc_X8_dropFlats (X : Xt) (hst : X.1.stackTraces = false) (ad : Ad) (σ : Wd) (i : Nat) : NC X (fun a => a = ad) yX8_dropFlats cX8_dropFlats 2 none 7 104 vV (0, 0) ad σ [.ref (ad 21 i)] (f_X8_dropFlats σ i) := by
  unfold f_X8_dropFlats
  refine NC.intro RX8 rfl hst (by decide) (Nat.le_of_ble_eq_true rfl) (lv := [(0, .ref _)]) rfl ?_
  refine r_aload_n 0 rfl dX8_dropFlats_0 ?_
  refine r_gd (fun h1 => ?_)
  refine r_getf 1 (lvd_21 h1) (cell_21 _ _ _ _) rfl (by decide) in_9 w_138 rfl dX8_dropFlats_1 ?_
  refine r_callV (n := 0) (As := []) (cell_1 _ _ _ _) (lvl_f h1) rfl (nc_Jx4a65c_size_8abf5 X hst ad _ _) (fun _ h => h) rfl ⟨rfl, by decide, by decide, by decide +kernel⟩ w_139 w_140 w_141 w_104 w_142 rfl rfl (Nat.le_of_ble_eq_true rfl) ⟨by decide, by decide⟩ dX8_dropFlats_4 (fun v1 σ2 => ?_)
  refine r_iconst (1) (by decide) dX8_dropFlats_7 ?_
  refine r_isub dX8_dropFlats_8 ?_
  refine r_istore_n [(1, .int _), (0, .ref _)] rfl (by decide) dX8_dropFlats_9 ?_
  exact r_sub [0, 1] rfl ((bl_X8_dropFlats_10 X hst ad FU) _ _ _)
def l_X8_turn_14 : Nat → Wd → Int32 → Int32 → Nat → Option ((Int32 ⊕ String) × Wd)
  | 0, _, _, _, _ => none
  | n + 1, σ, a2, a1, ua0 =>
  gd (ua0 < σ.2.2 8) <|
  if (4 : Int32) ≤ a2 then
    bx (f_J7_fill_53178_24 σ ua0 a1) fun v5 σ6 =>
    gd (ua0 < σ6.2.2 8) <|
    bx (f_X8_dropFlats σ6 ua0) fun v7 σ8 =>
    some (.inl a1, σ8)
  else
    gd (inb a2 4) <|
    bx (f_X8_depthOnAxle σ ua0 a2) fun v9 σ10 =>
    bd ((if ((σ.1 24 ua0 a2.toNatClampNeg) - v9) < a1 then ((σ.1 24 ua0 a2.toNatClampNeg) - v9) else a1)) fun x12 =>
    (l_X8_turn_14 n) σ10 (a2 + 1) x12 ua0
def f_X8_turn (σ : Wd) (i : Nat) : Option ((Int32 ⊕ String) × Wd) :=
  gd (i < σ.2.2 8) <|
  bx (f_X8_axleSize σ i (0 : Int32)) fun v1 σ2 =>
  gd (i < σ2.2.2 8) <|
  bx (f_X8_depthOnAxle σ2 i (0 : Int32)) fun v3 σ4 =>
  l_X8_turn_14 FU σ4 (1 : Int32) (v1 - v3) i
theorem bl_X8_turn_14 (X : Xt) (hst : X.1.stackTraces = false) (ad : Ad) : ∀ (n : Nat) (σ : Wd) (a2 : Int32) (a1 : Int32) (ua0 : Nat), Bk X (fun a => a = ad) cX8_turn 3 RX8 (some (.int)) 8 128 vI (0, 0) (0, 0) ad σ 14 [(2, .int a2), (1, .int a1), (0, .ref (ad 21 ua0))] [] (l_X8_turn_14 n σ a2 a1 ua0) := by
  intro n
  induction n with
  | zero => intros; exact r_none
  | succ n ih =>
  intro σ a2 a1 ua0
  rw [l_X8_turn_14]
  refine r_iload_n 0 rfl dX8_turn_14 ?_
  refine r_aload_n 2 rfl dX8_turn_15 ?_
  refine r_gd (fun h3 => ?_)
  refine r_getf 6 (lvd_21 h3) (cell_21 _ _ _ _) rfl (by decide) in_9 w_23 rfl dX8_turn_16 ?_
  refine r_alen (4) (lvd_24 h3) (cell_24 _ _ _ _) rfl rfl dX8_turn_19 ?_
  refine r_icmp_ge 46 dX8_turn_20 (by decide) ?_ ?_
  · refine r_aload_n 2 rfl dX8_turn_46 ?_
    refine r_getf 6 (lvd_21 h3) (cell_21 _ _ _ _) rfl (by decide) in_9 w_23 rfl dX8_turn_47 ?_
    refine r_iload_n 1 rfl dX8_turn_50 ?_
    refine r_callS (n := 2) (As := [.ref _, .int _]) (nc_J7_fill_53178_24 X hst ad _ _ _) (fun _ h => h) rfl ⟨by decide, by decide, by decide +kernel⟩ w_159 w_118 w_119 w_120 rfl rfl (Nat.le_of_ble_eq_true rfl) ⟨by decide, by decide⟩ dX8_turn_51 (fun v5 σ6 => ?_)
    refine r_aload_n 2 rfl dX8_turn_54 ?_
    refine r_gd (fun h4 => ?_)
    refine r_callV (n := 0) (As := []) (cell_21 _ _ _ _) (lvd_21 h4) rfl (nc_X8_dropFlats X hst ad _ _) (fun _ h => h) rfl ⟨rfl, by decide, by decide, by decide +kernel⟩ w_168 w_169 w_170 w_27 w_171 rfl rfl (Nat.le_of_ble_eq_true rfl) ⟨by decide, by decide⟩ dX8_turn_55 (fun v7 σ8 => ?_)
    refine r_iload_n 1 rfl dX8_turn_58 ?_
    exact r_iret rfl rfl rfl dX8_turn_59
  · refine r_iload_n 1 rfl dX8_turn_23 ?_
    refine r_aload_n 2 rfl dX8_turn_24 ?_
    refine r_getf 6 (lvd_21 h3) (cell_21 _ _ _ _) rfl (by decide) in_9 w_23 rfl dX8_turn_25 ?_
    refine r_iload_n 0 rfl dX8_turn_28 ?_
    refine r_gd (fun h5 => ?_)
    refine r_iaload (lvd_24 h3) (cell_24 _ _ _ _) h5 dX8_turn_29 ?_
    refine r_aload_n 2 rfl dX8_turn_30 ?_
    refine r_iload_n 0 rfl dX8_turn_31 ?_
    refine r_callV (n := 1) (As := [.int _]) (cell_21 _ _ _ _) (lvd_21 h3) rfl (nc_X8_depthOnAxle X hst ad _ _ _) (fun _ h => h) rfl ⟨rfl, by decide, by decide, by decide +kernel⟩ w_155 w_156 w_157 w_27 w_158 rfl rfl (Nat.le_of_ble_eq_true rfl) ⟨by decide, by decide⟩ dX8_turn_32 (fun v9 σ10 => ?_)
    refine r_isub dX8_turn_35 ?_
    refine r_mmin w_37 w_38 w_35 w_39 (by decide) (Nat.le_of_ble_eq_true rfl) dX8_turn_36 ?_
    refine r_bd ?_
    refine r_istore_n [(1, .int _), (2, .int _), (0, .ref _)] rfl (by decide) dX8_turn_39 ?_
    refine r_iinc (1) [(2, .int _), (1, .int _), (0, .ref _)] 1 rfl (by decide) rfl (by decide) dX8_turn_40 ?_
    refine r_goto 14 dX8_turn_43 (by decide) ?_
    exact r_sub [0, 1, 2] rfl (ih _ _ _ _)
theorem nc_X8_turn (X : Xt) (hst : X.1.stackTraces = false) (ad : Ad) (σ : Wd) (i : Nat) : NC X (fun a => a = ad) yX8_turn cX8_turn 3 (some (.int)) 8 128 vI (0, 0) ad σ [.ref (ad 21 i)] (f_X8_turn σ i) := by
  unfold f_X8_turn
  refine NC.intro RX8 rfl hst (by decide) (Nat.le_of_ble_eq_true rfl) (lv := [(0, .ref _)]) rfl ?_
  refine r_aload_n 0 rfl dX8_turn_0 ?_
  refine r_iconst (0) (by decide) dX8_turn_1 ?_
  refine r_gd (fun h1 => ?_)
  refine r_callV (n := 1) (As := [.int _]) (cell_21 _ _ _ _) (lvd_21 h1) rfl (nc_X8_axleSize X hst ad _ _ _) (fun _ h => h) rfl ⟨rfl, by decide, by decide, by decide +kernel⟩ w_29 w_30 w_31 w_27 w_32 rfl rfl (Nat.le_of_ble_eq_true rfl) ⟨by decide, by decide⟩ dX8_turn_2 (fun v1 σ2 => ?_)
  refine r_aload_n 0 rfl dX8_turn_5 ?_
  refine r_iconst (0) (by decide) dX8_turn_6 ?_
  refine r_gd (fun h2 => ?_)
  refine r_callV (n := 1) (As := [.int _]) (cell_21 _ _ _ _) (lvd_21 h2) rfl (nc_X8_depthOnAxle X hst ad _ _ _) (fun _ h => h) rfl ⟨rfl, by decide, by decide, by decide +kernel⟩ w_155 w_156 w_157 w_27 w_158 rfl rfl (Nat.le_of_ble_eq_true rfl) ⟨by decide, by decide⟩ dX8_turn_7 (fun v3 σ4 => ?_)
  refine r_isub dX8_turn_10 ?_
  refine r_istore_n [(1, .int _), (0, .ref _)] rfl (by decide) dX8_turn_11 ?_
  refine r_iconst (1) (by decide) dX8_turn_12 ?_
  refine r_istore_n [(2, .int _), (1, .int _), (0, .ref _)] rfl (by decide) dX8_turn_13 ?_
  exact r_sub [0, 1, 2] rfl ((bl_X8_turn_14 X hst ad FU) _ _ _ _)
def j_X7_examAt_23 (σ : Wd) (a1 : Int32) : Option ((Nat ⊕ String) × Wd) :=
  some (.inr "java/lang/IndexOutOfBoundsException", σ)
def j_X7_examAt_22 (σ : Wd) (a1 : Int32) : Option ((Nat ⊕ String) × Wd) :=
  j_X7_examAt_23 σ a1
def j_X7_examAt_23b (σ : Wd) (a1 : Int32) (us0 : Nat) : Option ((Nat ⊕ String) × Wd) :=
  some (.inl us0, σ)
def f_X7_examAt (σ : Wd) (p0 : Int32) : Option ((Nat ⊕ String) × Wd) :=
  if p0 < 0 then
    j_X7_examAt_22 σ p0
  else
    if (3 : Int32) ≤ p0 then
      j_X7_examAt_22 σ p0
    else
      gd (inb p0 3) <|
      j_X7_examAt_23b σ p0 p0.toNatClampNeg
theorem bj_X7_examAt_23 (X : Xt) (hst : X.1.stackTraces = false) (ad : Ad) (σ : Wd) (a1 : Int32) : Bk X (fun a => a = ad) cX7_examAt 3 RX7 (some ((.object "Stablingroad$Exam"))) 6 82 (vR ad 9) (0, 0) (0, 0) ad σ 23 [(0, .ref (ad 7 0)), (1, .int a1)] [.null] (j_X7_examAt_23 σ a1) := by
  unfold j_X7_examAt_23
  refine r_astore_nN [(2, .null), (0, .ref _), (1, .int _)] rfl (by decide) dX7_examAt_23 ?_
  refine r_aload_nN 0 rfl dX7_examAt_24 ?_
  refine r_ifnonnullN dX7_examAt_25 ?_
  exact r_throw (text := "no such exam") at_1 (by decide +kernel) rfl dX7_examAt_28 dX7_examAt_31 dX7_examAt_32 dX7_examAt_34 dX7_examAt_37 (by decide) (Nat.le_of_ble_eq_true rfl)
theorem bj_X7_examAt_22 (X : Xt) (hst : X.1.stackTraces = false) (ad : Ad) (σ : Wd) (a1 : Int32) : Bk X (fun a => a = ad) cX7_examAt 3 RX7 (some ((.object "Stablingroad$Exam"))) 6 82 (vR ad 9) (0, 0) (0, 0) ad σ 22 [(0, .ref (ad 7 0)), (1, .int a1)] [] (j_X7_examAt_22 σ a1) := by
  unfold j_X7_examAt_22
  refine r_null dX7_examAt_22 ?_
  exact r_sub [0, 1] rfl ((bj_X7_examAt_23 X hst ad) _ _)
theorem bj_X7_examAt_23b (X : Xt) (hst : X.1.stackTraces = false) (ad : Ad) (σ : Wd) (a1 : Int32) (us0 : Nat) : Bk X (fun a => a = ad) cX7_examAt 3 RX7 (some ((.object "Stablingroad$Exam"))) 6 82 (vR ad 9) (0, 0) (0, 0) ad σ 23 [(0, .ref (ad 7 0)), (1, .int a1)] [.ref (ad 9 us0)] (j_X7_examAt_23b σ a1 us0) := by
  unfold j_X7_examAt_23b
  refine r_astore_n [(2, .ref _), (0, .ref _), (1, .int _)] rfl (by decide) dX7_examAt_23 ?_
  refine r_aload_n 0 rfl dX7_examAt_24 ?_
  refine r_ifnonnull 38 dX7_examAt_25 (by decide) ?_
  refine r_aload_n 0 rfl dX7_examAt_38 ?_
  exact r_aret rfl rfl rfl dX7_examAt_39
theorem nc_X7_examAt (X : Xt) (hst : X.1.stackTraces = false) (ad : Ad) (σ : Wd) (p0 : Int32) : NC X (fun a => a = ad) yX7_examAt cX7_examAt 3 (some ((.object "Stablingroad$Exam"))) 6 82 (vR ad 9) (0, 0) ad σ [.ref (ad 7 0), .int p0] (f_X7_examAt σ p0) := by
  unfold f_X7_examAt
  refine NC.intro RX7 rfl hst (by decide) (Nat.le_of_ble_eq_true rfl) (lv := [(0, .ref _), (1, .int _)]) rfl ?_
  refine r_iload_n 1 rfl dX7_examAt_0 ?_
  refine r_if_lt 22 dX7_examAt_1 (by decide) ?_ ?_
  · exact r_sub [0, 1] rfl ((bj_X7_examAt_22 X hst ad) _ _)
  · refine r_iload_n 1 rfl dX7_examAt_4 ?_
    refine r_aload_n 0 rfl dX7_examAt_5 ?_
    refine r_getf 0 (lvs_7 _) (cell_7 _ _ _ _) rfl (by decide) in_8 w_172 rfl dX7_examAt_6 ?_
    refine r_alen (3) (lvs_8 _) (cell_8 _ _ _ _) rfl rfl dX7_examAt_9 ?_
    refine r_icmp_ge 22 dX7_examAt_10 (by decide) ?_ ?_
    · exact r_sub [0, 1] rfl ((bj_X7_examAt_22 X hst ad) _ _)
    · refine r_aload_n 0 rfl dX7_examAt_13 ?_
      refine r_getf 0 (lvs_7 _) (cell_7 _ _ _ _) rfl (by decide) in_8 w_172 rfl dX7_examAt_14 ?_
      refine r_iload_n 1 rfl dX7_examAt_17 ?_
      refine r_gd (fun h1 => ?_)
      refine r_aaload _ (lvs_8 _) (cell_8 _ _ _ _) rfl h1 rfl dX7_examAt_18 ?_
      refine r_goto 23 dX7_examAt_19 (by decide) ?_
      exact r_sub [0, 1] rfl ((bj_X7_examAt_23b X hst ad) _ _ _)
def l_X7_isSoon_2 : Nat → Wd → Int32 → Nat → Option ((Int32 ⊕ String) × Wd)
  | 0, _, _, _ => none
  | n + 1, σ, a2, ua1 =>
  if (3 : Int32) ≤ a2 then
    some (.inl (0 : Int32), σ)
  else
    bx (f_X7_examAt σ a2) fun v1 σ2 =>
    gd (ua1 < σ2.2.2 8) <|
    bx (f_X8_kmSince σ2 ua1 a2) fun v3 σ4 =>
    gd (v1 < 3) <|
    bx (f_X1_isNear σ4 v1 v3) fun v5 σ6 =>
    if v5 = 0 then
      (l_X7_isSoon_2 n) σ6 (a2 + 1) ua1
    else
      some (.inl (1 : Int32), σ6)
def f_X7_isSoon (σ : Wd) (i0 : Nat) : Option ((Int32 ⊕ String) × Wd) :=
  l_X7_isSoon_2 FU σ (0 : Int32) i0
theorem bl_X7_isSoon_2 (X : Xt) (hst : X.1.stackTraces = false) (ad : Ad) : ∀ (n : Nat) (σ : Wd) (a2 : Int32) (ua1 : Nat), Bk X (fun a => a = ad) cX7_isSoon 3 RX7 (some (.boolean)) 7 104 vI (0, 0) (0, 0) ad σ 2 [(2, .int a2), (0, .ref (ad 7 0)), (1, .ref (ad 21 ua1))] [] (l_X7_isSoon_2 n σ a2 ua1) := by
  intro n
  induction n with
  | zero => intros; exact r_none
  | succ n ih =>
  intro σ a2 ua1
  rw [l_X7_isSoon_2]
  refine r_iload_n 0 rfl dX7_isSoon_2 ?_
  refine r_aload_n 1 rfl dX7_isSoon_3 ?_
  refine r_getf 0 (lvs_7 _) (cell_7 _ _ _ _) rfl (by decide) in_8 w_172 rfl dX7_isSoon_4 ?_
  refine r_alen (3) (lvs_8 _) (cell_8 _ _ _ _) rfl rfl dX7_isSoon_7 ?_
  refine r_icmp_ge 35 dX7_isSoon_8 (by decide) ?_ ?_
  · refine r_iconst (0) (by decide) dX7_isSoon_35 ?_
    exact r_zret rfl rfl rfl rfl dX7_isSoon_36
  · refine r_aload_n 1 rfl dX7_isSoon_11 ?_
    refine r_iload_n 0 rfl dX7_isSoon_12 ?_
    refine r_callV (n := 1) (As := [.int _]) (cell_7 _ _ _ _) (lvs_7 _) rfl (nc_X7_examAt X hst ad _ _) (fun _ h => h) rfl ⟨rfl, by decide, by decide, by decide +kernel⟩ w_173 w_174 w_175 w_176 w_177 rfl rfl (Nat.le_of_ble_eq_true rfl) ⟨by decide, by decide⟩ dX7_isSoon_13 (fun v1 σ2 => ?_)
    refine r_aload_n 2 rfl dX7_isSoon_16 ?_
    refine r_iload_n 0 rfl dX7_isSoon_17 ?_
    refine r_gd (fun h1 => ?_)
    refine r_callV (n := 1) (As := [.int _]) (cell_21 _ _ _ _) (lvd_21 h1) rfl (nc_X8_kmSince X hst ad _ _ _) (fun _ h => h) rfl ⟨rfl, by decide, by decide, by decide +kernel⟩ w_178 w_179 w_180 w_27 w_181 rfl rfl (Nat.le_of_ble_eq_true rfl) ⟨by decide, by decide⟩ dX7_isSoon_18 (fun v3 σ4 => ?_)
    refine r_gd (fun h2 => ?_)
    refine r_callV (n := 1) (As := [.int _]) (cell_9 _ _ _ _) (lvb_9 h2) rfl (nc_X1_isNear X hst ad _ _ _) (fun _ h => h) rfl ⟨rfl, by decide, by decide, by decide +kernel⟩ w_182 w_183 w_184 w_6 w_185 rfl rfl (Nat.le_of_ble_eq_true rfl) ⟨by decide, by decide⟩ dX7_isSoon_21 (fun v5 σ6 => ?_)
    refine r_if_eq 29 dX7_isSoon_24 (by decide) ?_ ?_
    · refine r_iinc (1) [(2, .int _), (0, .ref _), (1, .ref _)] 0 rfl (by decide) rfl (by decide) dX7_isSoon_29 ?_
      refine r_goto 2 dX7_isSoon_32 (by decide) ?_
      exact r_sub [0, 1, 2] rfl (ih _ _ _)
    · refine r_iconst (1) (by decide) dX7_isSoon_27 ?_
      exact r_zret rfl rfl rfl rfl dX7_isSoon_28
theorem nc_X7_isSoon (X : Xt) (hst : X.1.stackTraces = false) (ad : Ad) (σ : Wd) (i0 : Nat) : NC X (fun a => a = ad) yX7_isSoon cX7_isSoon 3 (some (.boolean)) 7 104 vI (0, 0) ad σ [.ref (ad 7 0), .ref (ad 21 i0)] (f_X7_isSoon σ i0) := by
  unfold f_X7_isSoon
  refine NC.intro RX7 rfl hst (by decide) (Nat.le_of_ble_eq_true rfl) (lv := [(0, .ref _), (1, .ref _)]) rfl ?_
  refine r_iconst (0) (by decide) dX7_isSoon_0 ?_
  refine r_istore_n [(2, .int _), (0, .ref _), (1, .ref _)] rfl (by decide) dX7_isSoon_1 ?_
  exact r_sub [0, 1, 2] rfl ((bl_X7_isSoon_2 X hst ad FU) _ _ _)
def l_X7_overdueBitsBehind_5 : Nat → Wd → Int32 → Int32 → Nat → Int32 → Option ((Int32 ⊕ String) × Wd)
  | 0, _, _, _, _, _ => none
  | n + 1, σ, a4, a3, ua1, a2 =>
  if (3 : Int32) ≤ a4 then
    some (.inl a3, σ)
  else
    bx (f_X7_examAt σ a4) fun v1 σ2 =>
    gd (ua1 < σ2.2.2 8) <|
    bx (f_X8_kmSince σ2 ua1 a4) fun v3 σ4 =>
    gd (ua1 < σ4.2.2 8) <|
    bx (f_X8_daysSince σ4 ua1 a4) fun v5 σ6 =>
    gd (v1 < 3) <|
    bx (f_X1_isOverdue σ6 v1 (v3 + a2) v5) fun v7 σ8 =>
    if v7 = 0 then
      (l_X7_overdueBitsBehind_5 n) σ8 (a4 + 1) a3 ua1 a2
    else
      bd ((a3 ||| ((1 : Int32) <<< (a4 &&& 31)))) fun x9 =>
      (l_X7_overdueBitsBehind_5 n) σ8 (a4 + 1) x9 ua1 a2
def f_X7_overdueBitsBehind (σ : Wd) (i0 : Nat) (p1 : Int32) : Option ((Int32 ⊕ String) × Wd) :=
  l_X7_overdueBitsBehind_5 FU σ (0 : Int32) (0 : Int32) i0 p1
theorem bl_X7_overdueBitsBehind_5 (X : Xt) (hst : X.1.stackTraces = false) (ad : Ad) : ∀ (n : Nat) (σ : Wd) (a4 : Int32) (a3 : Int32) (ua1 : Nat) (a2 : Int32), Bk X (fun a => a = ad) cX7_overdueBitsBehind 5 RX7 (some (.int)) 7 104 vI (0, 0) (0, 0) ad σ 5 [(4, .int a4), (3, .int a3), (0, .ref (ad 7 0)), (1, .ref (ad 21 ua1)), (2, .int a2)] [] (l_X7_overdueBitsBehind_5 n σ a4 a3 ua1 a2) := by
  intro n
  induction n with
  | zero => intros; exact r_none
  | succ n ih =>
  intro σ a4 a3 ua1 a2
  rw [l_X7_overdueBitsBehind_5]
  refine r_iload 0 rfl dX7_overdueBitsBehind_5 ?_
  refine r_aload_n 2 rfl dX7_overdueBitsBehind_7 ?_
  refine r_getf 0 (lvs_7 _) (cell_7 _ _ _ _) rfl (by decide) in_8 w_172 rfl dX7_overdueBitsBehind_8 ?_
  refine r_alen (3) (lvs_8 _) (cell_8 _ _ _ _) rfl rfl dX7_overdueBitsBehind_11 ?_
  refine r_icmp_ge 54 dX7_overdueBitsBehind_12 (by decide) ?_ ?_
  · refine r_iload_n 1 rfl dX7_overdueBitsBehind_54 ?_
    exact r_iret rfl rfl rfl dX7_overdueBitsBehind_55
  · refine r_aload_n 2 rfl dX7_overdueBitsBehind_15 ?_
    refine r_iload 0 rfl dX7_overdueBitsBehind_16 ?_
    refine r_callV (n := 1) (As := [.int _]) (cell_7 _ _ _ _) (lvs_7 _) rfl (nc_X7_examAt X hst ad _ _) (fun _ h => h) rfl ⟨rfl, by decide, by decide, by decide +kernel⟩ w_173 w_174 w_175 w_176 w_177 rfl rfl (Nat.le_of_ble_eq_true rfl) ⟨by decide, by decide⟩ dX7_overdueBitsBehind_18 (fun v1 σ2 => ?_)
    refine r_aload_n 3 rfl dX7_overdueBitsBehind_21 ?_
    refine r_iload 0 rfl dX7_overdueBitsBehind_22 ?_
    refine r_gd (fun h1 => ?_)
    refine r_callV (n := 1) (As := [.int _]) (cell_21 _ _ _ _) (lvd_21 h1) rfl (nc_X8_kmSince X hst ad _ _ _) (fun _ h => h) rfl ⟨rfl, by decide, by decide, by decide +kernel⟩ w_178 w_179 w_180 w_27 w_181 rfl rfl (Nat.le_of_ble_eq_true rfl) ⟨by decide, by decide⟩ dX7_overdueBitsBehind_24 (fun v3 σ4 => ?_)
    refine r_iload_n 4 rfl dX7_overdueBitsBehind_27 ?_
    refine r_iadd dX7_overdueBitsBehind_28 ?_
    refine r_aload_n 3 rfl dX7_overdueBitsBehind_29 ?_
    refine r_iload 0 rfl dX7_overdueBitsBehind_30 ?_
    refine r_gd (fun h2 => ?_)
    refine r_callV (n := 1) (As := [.int _]) (cell_21 _ _ _ _) (lvd_21 h2) rfl (nc_X8_daysSince X hst ad _ _ _) (fun _ h => h) rfl ⟨rfl, by decide, by decide, by decide +kernel⟩ w_186 w_187 w_188 w_27 w_189 rfl rfl (Nat.le_of_ble_eq_true rfl) ⟨by decide, by decide⟩ dX7_overdueBitsBehind_32 (fun v5 σ6 => ?_)
    refine r_gd (fun h3 => ?_)
    refine r_callV (n := 2) (As := [.int _, .int _]) (cell_9 _ _ _ _) (lvb_9 h3) rfl (nc_X1_isOverdue X hst ad _ _ _ _) (fun _ h => h) rfl ⟨rfl, by decide, by decide, by decide +kernel⟩ w_190 w_191 w_192 w_6 w_193 rfl rfl (Nat.le_of_ble_eq_true rfl) ⟨by decide, by decide⟩ dX7_overdueBitsBehind_35 (fun v7 σ8 => ?_)
    refine r_if_eq 48 dX7_overdueBitsBehind_38 (by decide) ?_ ?_
    · refine r_iinc (1) [(4, .int _), (3, .int _), (0, .ref _), (1, .ref _), (2, .int _)] 0 rfl (by decide) rfl (by decide) dX7_overdueBitsBehind_48 ?_
      refine r_goto 5 dX7_overdueBitsBehind_51 (by decide) ?_
      exact r_sub [0, 1, 2, 3, 4] rfl (ih _ _ _ _ _)
    · refine r_iload_n 1 rfl dX7_overdueBitsBehind_41 ?_
      refine r_iconst (1) (by decide) dX7_overdueBitsBehind_42 ?_
      refine r_iload 0 rfl dX7_overdueBitsBehind_43 ?_
      refine r_ishl dX7_overdueBitsBehind_45 ?_
      refine r_ior dX7_overdueBitsBehind_46 ?_
      refine r_bd ?_
      refine r_istore_n [(3, .int _), (4, .int _), (0, .ref _), (1, .ref _), (2, .int _)] rfl (by decide) dX7_overdueBitsBehind_47 ?_
      refine r_iinc (1) [(4, .int _), (3, .int _), (0, .ref _), (1, .ref _), (2, .int _)] 1 rfl (by decide) rfl (by decide) dX7_overdueBitsBehind_48 ?_
      refine r_goto 5 dX7_overdueBitsBehind_51 (by decide) ?_
      exact r_sub [0, 1, 2, 3, 4] rfl (ih _ _ _ _ _)
theorem nc_X7_overdueBitsBehind (X : Xt) (hst : X.1.stackTraces = false) (ad : Ad) (σ : Wd) (i0 : Nat) (p1 : Int32) : NC X (fun a => a = ad) yX7_overdueBitsBehind cX7_overdueBitsBehind 5 (some (.int)) 7 104 vI (0, 0) ad σ [.ref (ad 7 0), .ref (ad 21 i0), .int p1] (f_X7_overdueBitsBehind σ i0 p1) := by
  unfold f_X7_overdueBitsBehind
  refine NC.intro RX7 rfl hst (by decide) (Nat.le_of_ble_eq_true rfl) (lv := [(0, .ref _), (1, .ref _), (2, .int _)]) rfl ?_
  refine r_iconst (0) (by decide) dX7_overdueBitsBehind_0 ?_
  refine r_istore_n [(3, .int _), (0, .ref _), (1, .ref _), (2, .int _)] rfl (by decide) dX7_overdueBitsBehind_1 ?_
  refine r_iconst (0) (by decide) dX7_overdueBitsBehind_2 ?_
  refine r_istore [(4, .int _), (3, .int _), (0, .ref _), (1, .ref _), (2, .int _)] rfl (by decide) dX7_overdueBitsBehind_3 ?_
  exact r_sub [0, 1, 2, 3, 4] rfl ((bl_X7_overdueBitsBehind_5 X hst ad FU) _ _ _ _ _)
def f_X7_overdueBits (σ : Wd) (i0 : Nat) : Option ((Int32 ⊕ String) × Wd) :=
  bx (f_X7_overdueBitsBehind σ i0 (0 : Int32)) fun v1 σ2 =>
  some (.inl v1, σ2)
theorem nc_X7_overdueBits (X : Xt) (hst : X.1.stackTraces = false) (ad : Ad) (σ : Wd) (i0 : Nat) : NC X (fun a => a = ad) yX7_overdueBits cX7_overdueBits 2 (some (.int)) 8 128 vI (0, 0) ad σ [.ref (ad 7 0), .ref (ad 21 i0)] (f_X7_overdueBits σ i0) := by
  unfold f_X7_overdueBits
  refine NC.intro RX7 rfl hst (by decide) (Nat.le_of_ble_eq_true rfl) (lv := [(0, .ref _), (1, .ref _)]) rfl ?_
  refine r_aload_n 0 rfl dX7_overdueBits_0 ?_
  refine r_aload_n 1 rfl dX7_overdueBits_1 ?_
  refine r_iconst (0) (by decide) dX7_overdueBits_2 ?_
  refine r_callV (n := 2) (As := [.ref _, .int _]) (cell_7 _ _ _ _) (lvs_7 _) rfl (nc_X7_overdueBitsBehind X hst ad _ _ _) (fun _ h => h) rfl ⟨rfl, by decide, by decide, by decide +kernel⟩ w_194 w_195 w_196 w_176 w_197 rfl rfl (Nat.le_of_ble_eq_true rfl) ⟨by decide, by decide⟩ dX7_overdueBits_3 (fun v1 σ2 => ?_)
  exact r_iret rfl rfl rfl dX7_overdueBits_6
def f_X9_checkRange (σ : Wd) (p0 : Int32) (p1 : Int32) (p2 : Int32) : Option ((Unit ⊕ String) × Wd) :=
  if p0 < p1 then
    some (.inr "java/lang/IllegalArgumentException", σ)
  else
    if p0 ≤ p2 then
      some (.inl (), σ)
    else
      some (.inr "java/lang/IllegalArgumentException", σ)
theorem nc_X9_checkRange (X : Xt) (hst : X.1.stackTraces = false) (ad : Ad) (σ : Wd) (p0 : Int32) (p1 : Int32) (p2 : Int32) : NC X (fun a => a = ad) yX9_checkRange cX9_checkRange 3 none 6 82 vV (0, 0) ad σ [.int p0, .int p1, .int p2] (f_X9_checkRange σ p0 p1 p2) := by
  unfold f_X9_checkRange
  refine NC.intro RX9 rfl hst (by decide) (Nat.le_of_ble_eq_true rfl) (lv := [(0, .int _), (1, .int _), (2, .int _)]) rfl ?_
  refine r_iload_n 0 rfl dX9_checkRange_0 ?_
  refine r_iload_n 1 rfl dX9_checkRange_1 ?_
  refine r_icmp_lt 10 dX9_checkRange_2 (by decide) ?_ ?_
  · exact r_throwW (text := "out of its range") at_2 (by decide +kernel) rfl dX9_checkRange_10 dX9_checkRange_13 dX9_checkRange_14 dX9_checkRange_17 dX9_checkRange_20 (by decide) (Nat.le_of_ble_eq_true rfl)
  · refine r_iload_n 0 rfl dX9_checkRange_5 ?_
    refine r_iload_n 2 rfl dX9_checkRange_6 ?_
    refine r_icmp_le 21 dX9_checkRange_7 (by decide) ?_ ?_
    · exact r_vret rfl rfl rfl dX9_checkRange_21
    · exact r_throwW (text := "out of its range") at_2 (by decide +kernel) rfl dX9_checkRange_10 dX9_checkRange_13 dX9_checkRange_14 dX9_checkRange_17 dX9_checkRange_20 (by decide) (Nat.le_of_ble_eq_true rfl)
def f_X9_exam (σ : Wd) (p0 : Int32) (p1 : Int32) (p2 : Int32) (p3 : Int32) : Option ((Int32 ⊕ String) × Wd) :=
  bx (f_X7_examAt σ p0) fun v1 σ2 =>
  bx (f_X9_checkRange σ2 p1 (100 : Int32) (100000 : Int32)) fun v3 σ4 =>
  bx (f_X9_checkRange σ4 p2 (0 : Int32) (20 : Int32)) fun v5 σ6 =>
  bx (f_X9_checkRange σ6 p3 (0 : Int32) (400 : Int32)) fun v7 σ8 =>
  gd (v1 < 3) <|
  bd (wr σ8 9 v1 0 p1) fun σ9 =>
  bd (wr σ9 9 v1 1 p2) fun σ10 =>
  bd (wr σ10 9 v1 2 p3) fun σ11 =>
  bx (f_X1_bound σ11 v1) fun v12 σ13 =>
  some (.inl v12, σ13)
theorem nc_X9_exam (X : Xt) (hst : X.1.stackTraces = false) (ad : Ad) (σ : Wd) (p0 : Int32) (p1 : Int32) (p2 : Int32) (p3 : Int32) : NC X (fun a => a = ad) yX9_exam cX9_exam 6 (some (.int)) 7 104 vI (0, 0) ad σ [.ref (ad 0 0), .int p0, .int p1, .int p2, .int p3] (f_X9_exam σ p0 p1 p2 p3) := by
  unfold f_X9_exam
  refine NC.intro RX9 rfl hst (by decide) (Nat.le_of_ble_eq_true rfl) (lv := [(0, .ref _), (1, .int _), (2, .int _), (3, .int _), (4, .int _)]) rfl ?_
  refine r_aload_n 0 rfl dX9_exam_0 ?_
  refine r_getf 3 (lvs_0 _) (cell_0 _ _ _ _) rfl (by decide) in_10 w_198 rfl dX9_exam_1 ?_
  refine r_iload_n 1 rfl dX9_exam_4 ?_
  refine r_callV (n := 1) (As := [.int _]) (cell_7 _ _ _ _) (lvs_7 _) rfl (nc_X7_examAt X hst ad _ _) (fun _ h => h) rfl ⟨rfl, by decide, by decide, by decide +kernel⟩ w_199 w_174 w_175 w_176 w_177 rfl rfl (Nat.le_of_ble_eq_true rfl) ⟨by decide, by decide⟩ dX9_exam_5 (fun v1 σ2 => ?_)
  refine r_astore [(5, .ref _), (0, .ref _), (1, .int _), (2, .int _), (3, .int _), (4, .int _)] rfl (by decide) dX9_exam_8 ?_
  refine r_iload_n 3 rfl dX9_exam_10 ?_
  refine r_bipush (100) (by decide) dX9_exam_11 ?_
  refine r_ldc (100000) w_200 dX9_exam_13 ?_
  refine r_callS (n := 3) (As := [.int _, .int _, .int _]) (nc_X9_checkRange X hst ad _ _ _ _) (fun _ h => h) rfl ⟨by decide, by decide, by decide +kernel⟩ w_201 w_202 w_203 w_204 rfl rfl (Nat.le_of_ble_eq_true rfl) ⟨by decide, by decide⟩ dX9_exam_15 (fun v3 σ4 => ?_)
  refine r_iload_n 4 rfl dX9_exam_18 ?_
  refine r_iconst (0) (by decide) dX9_exam_19 ?_
  refine r_bipush (20) (by decide) dX9_exam_20 ?_
  refine r_callS (n := 3) (As := [.int _, .int _, .int _]) (nc_X9_checkRange X hst ad _ _ _ _) (fun _ h => h) rfl ⟨by decide, by decide, by decide +kernel⟩ w_201 w_202 w_203 w_204 rfl rfl (Nat.le_of_ble_eq_true rfl) ⟨by decide, by decide⟩ dX9_exam_22 (fun v5 σ6 => ?_)
  refine r_iload 5 rfl dX9_exam_25 ?_
  refine r_iconst (0) (by decide) dX9_exam_27 ?_
  refine r_sipush (400) (by decide) dX9_exam_28 ?_
  refine r_callS (n := 3) (As := [.int _, .int _, .int _]) (nc_X9_checkRange X hst ad _ _ _ _) (fun _ h => h) rfl ⟨by decide, by decide, by decide +kernel⟩ w_201 w_202 w_203 w_204 rfl rfl (Nat.le_of_ble_eq_true rfl) ⟨by decide, by decide⟩ dX9_exam_31 (fun v7 σ8 => ?_)
  refine r_aload 0 rfl dX9_exam_34 ?_
  refine r_iload_n 3 rfl dX9_exam_36 ?_
  refine r_gd (fun h1 => ?_)
  refine r_bd ?_
  refine r_putf 0 tyX1 tyX1_ok nmX1 (lvb_9 h1) (cell_9 _ _ _ _) (wrc_9_0 _ _ _ _ _) rfl (by decide) (Nat.le_of_ble_eq_true rfl) in_2 w_205 rfl rfl rfl dX9_exam_37 ?_
  refine r_aload 0 rfl dX9_exam_40 ?_
  refine r_iload_n 4 rfl dX9_exam_42 ?_
  refine r_bd ?_
  refine r_putf 1 tyX1 tyX1_ok nmX1 (lvb_9 h1) (cell_9 _ _ _ _) (wrc_9_1 _ _ _ _ _) rfl (by decide) (Nat.le_of_ble_eq_true rfl) in_2 w_206 rfl rfl rfl dX9_exam_43 ?_
  refine r_aload 0 rfl dX9_exam_46 ?_
  refine r_iload 5 rfl dX9_exam_48 ?_
  refine r_bd ?_
  refine r_putf 2 tyX1 tyX1_ok nmX1 (lvb_9 h1) (cell_9 _ _ _ _) (wrc_9_2 _ _ _ _ _) rfl (by decide) (Nat.le_of_ble_eq_true rfl) in_2 w_207 rfl rfl rfl dX9_exam_50 ?_
  refine r_aload 0 rfl dX9_exam_53 ?_
  refine r_callV (n := 0) (As := []) (cell_9 _ _ _ _) (lvb_9 h1) rfl (nc_X1_bound X hst ad _ _) (fun _ h => h) rfl ⟨rfl, by decide, by decide, by decide +kernel⟩ w_208 w_4 w_5 w_6 w_7 rfl rfl (Nat.le_of_ble_eq_true rfl) ⟨by decide, by decide⟩ dX9_exam_55 (fun v12 σ13 => ?_)
  exact r_iret rfl rfl rfl dX9_exam_58
def j_X7_permitAt_23 (σ : Wd) (a1 : Int32) : Option ((Nat ⊕ String) × Wd) :=
  some (.inr "java/lang/IndexOutOfBoundsException", σ)
def j_X7_permitAt_22 (σ : Wd) (a1 : Int32) : Option ((Nat ⊕ String) × Wd) :=
  j_X7_permitAt_23 σ a1
def j_X7_permitAt_23b (σ : Wd) (a1 : Int32) (us0 : Nat) : Option ((Nat ⊕ String) × Wd) :=
  some (.inl us0, σ)
def f_X7_permitAt (σ : Wd) (p0 : Int32) : Option ((Nat ⊕ String) × Wd) :=
  if p0 < 0 then
    j_X7_permitAt_22 σ p0
  else
    if (4 : Int32) ≤ p0 then
      j_X7_permitAt_22 σ p0
    else
      gd (inb p0 4) <|
      j_X7_permitAt_23b σ p0 p0.toNatClampNeg
theorem bj_X7_permitAt_23 (X : Xt) (hst : X.1.stackTraces = false) (ad : Ad) (σ : Wd) (a1 : Int32) : Bk X (fun a => a = ad) cX7_permitAt 3 RX7 (some ((.object "Stablingroad$Permit"))) 6 82 (vR ad 11) (0, 0) (0, 0) ad σ 23 [(0, .ref (ad 7 0)), (1, .int a1)] [.null] (j_X7_permitAt_23 σ a1) := by
  unfold j_X7_permitAt_23
  refine r_astore_nN [(2, .null), (0, .ref _), (1, .int _)] rfl (by decide) dX7_permitAt_23 ?_
  refine r_aload_nN 0 rfl dX7_permitAt_24 ?_
  refine r_ifnonnullN dX7_permitAt_25 ?_
  exact r_throw (text := "no such kind") at_1 (by decide +kernel) rfl dX7_permitAt_28 dX7_permitAt_31 dX7_permitAt_32 dX7_permitAt_34 dX7_permitAt_37 (by decide) (Nat.le_of_ble_eq_true rfl)
theorem bj_X7_permitAt_22 (X : Xt) (hst : X.1.stackTraces = false) (ad : Ad) (σ : Wd) (a1 : Int32) : Bk X (fun a => a = ad) cX7_permitAt 3 RX7 (some ((.object "Stablingroad$Permit"))) 6 82 (vR ad 11) (0, 0) (0, 0) ad σ 22 [(0, .ref (ad 7 0)), (1, .int a1)] [] (j_X7_permitAt_22 σ a1) := by
  unfold j_X7_permitAt_22
  refine r_null dX7_permitAt_22 ?_
  exact r_sub [0, 1] rfl ((bj_X7_permitAt_23 X hst ad) _ _)
theorem bj_X7_permitAt_23b (X : Xt) (hst : X.1.stackTraces = false) (ad : Ad) (σ : Wd) (a1 : Int32) (us0 : Nat) : Bk X (fun a => a = ad) cX7_permitAt 3 RX7 (some ((.object "Stablingroad$Permit"))) 6 82 (vR ad 11) (0, 0) (0, 0) ad σ 23 [(0, .ref (ad 7 0)), (1, .int a1)] [.ref (ad 11 us0)] (j_X7_permitAt_23b σ a1 us0) := by
  unfold j_X7_permitAt_23b
  refine r_astore_n [(2, .ref _), (0, .ref _), (1, .int _)] rfl (by decide) dX7_permitAt_23 ?_
  refine r_aload_n 0 rfl dX7_permitAt_24 ?_
  refine r_ifnonnull 38 dX7_permitAt_25 (by decide) ?_
  refine r_aload_n 0 rfl dX7_permitAt_38 ?_
  exact r_aret rfl rfl rfl dX7_permitAt_39
theorem nc_X7_permitAt (X : Xt) (hst : X.1.stackTraces = false) (ad : Ad) (σ : Wd) (p0 : Int32) : NC X (fun a => a = ad) yX7_permitAt cX7_permitAt 3 (some ((.object "Stablingroad$Permit"))) 6 82 (vR ad 11) (0, 0) ad σ [.ref (ad 7 0), .int p0] (f_X7_permitAt σ p0) := by
  unfold f_X7_permitAt
  refine NC.intro RX7 rfl hst (by decide) (Nat.le_of_ble_eq_true rfl) (lv := [(0, .ref _), (1, .int _)]) rfl ?_
  refine r_iload_n 1 rfl dX7_permitAt_0 ?_
  refine r_if_lt 22 dX7_permitAt_1 (by decide) ?_ ?_
  · exact r_sub [0, 1] rfl ((bj_X7_permitAt_22 X hst ad) _ _)
  · refine r_iload_n 1 rfl dX7_permitAt_4 ?_
    refine r_aload_n 0 rfl dX7_permitAt_5 ?_
    refine r_getf 1 (lvs_7 _) (cell_7 _ _ _ _) rfl (by decide) in_8 w_209 rfl dX7_permitAt_6 ?_
    refine r_alen (4) (lvs_10 _) (cell_10 _ _ _ _) rfl rfl dX7_permitAt_9 ?_
    refine r_icmp_ge 22 dX7_permitAt_10 (by decide) ?_ ?_
    · exact r_sub [0, 1] rfl ((bj_X7_permitAt_22 X hst ad) _ _)
    · refine r_aload_n 0 rfl dX7_permitAt_13 ?_
      refine r_getf 1 (lvs_7 _) (cell_7 _ _ _ _) rfl (by decide) in_8 w_209 rfl dX7_permitAt_14 ?_
      refine r_iload_n 1 rfl dX7_permitAt_17 ?_
      refine r_gd (fun h1 => ?_)
      refine r_aaload _ (lvs_10 _) (cell_10 _ _ _ _) rfl h1 rfl dX7_permitAt_18 ?_
      refine r_goto 23 dX7_permitAt_19 (by decide) ?_
      exact r_sub [0, 1] rfl ((bj_X7_permitAt_23b X hst ad) _ _ _)
def j_X9_list_28 (σ : Wd) (ua4 : Nat) (a1 : Int32) (a2 : Int32) (a3 : Int32) : Option ((Int32 ⊕ String) × Wd) :=
  gd (ua4 < 4) <|
  bd (wr σ 11 ua4 0 a2) fun σ5 =>
  bd (wr σ5 11 ua4 1 a3) fun σ6 =>
  some (.inl (σ.1 11 ua4 0), σ6)
def f_X9_list (σ : Wd) (p0 : Int32) (p1 : Int32) (p2 : Int32) : Option ((Int32 ⊕ String) × Wd) :=
  bx (f_X7_permitAt σ p0) fun v1 σ2 =>
  bx (f_X9_checkRange σ2 p1 (-1 : Int32) (30 : Int32)) fun v3 σ4 =>
  if p1 = (-1 : Int32) then
    j_X9_list_28 σ4 v1 p0 p1 p2
  else
    bx (f_X9_checkRange σ4 p2 (0 : Int32) (2 : Int32)) fun v7 σ8 =>
    j_X9_list_28 σ8 v1 p0 p1 p2
theorem bj_X9_list_28 (X : Xt) (hst : X.1.stackTraces = false) (ad : Ad) (σ : Wd) (ua4 : Nat) (a1 : Int32) (a2 : Int32) (a3 : Int32) : Bk X (fun a => a = ad) cX9_list 6 RX9 (some (.int)) 7 104 vI (0, 0) (0, 0) ad σ 28 [(4, .ref (ad 11 ua4)), (0, .ref (ad 0 0)), (1, .int a1), (2, .int a2), (3, .int a3)] [] (j_X9_list_28 σ ua4 a1 a2 a3) := by
  unfold j_X9_list_28
  refine r_aload 0 rfl dX9_list_28 ?_
  refine r_gd (fun h1 => ?_)
  refine r_getf 0 (lvb_11 h1) (cell_11 _ _ _ _) rfl (by decide) in_6 w_214 rfl dX9_list_30 ?_
  refine r_istore [(5, .int _), (4, .ref _), (0, .ref _), (1, .int _), (2, .int _), (3, .int _)] rfl (by decide) dX9_list_33 ?_
  refine r_aload 1 rfl dX9_list_35 ?_
  refine r_iload_n 4 rfl dX9_list_37 ?_
  refine r_bd ?_
  refine r_putf 0 tyX5 tyX5_ok nmX5 (lvb_11 h1) (cell_11 _ _ _ _) (wrc_11_0 _ _ _ _ _) rfl (by decide) (Nat.le_of_ble_eq_true rfl) in_6 w_214 rfl rfl rfl dX9_list_38 ?_
  refine r_aload 1 rfl dX9_list_41 ?_
  refine r_iload_n 5 rfl dX9_list_43 ?_
  refine r_bd ?_
  refine r_putf 1 tyX5 tyX5_ok nmX5 (lvb_11 h1) (cell_11 _ _ _ _) (wrc_11_1 _ _ _ _ _) rfl (by decide) (Nat.le_of_ble_eq_true rfl) in_6 w_215 rfl rfl rfl dX9_list_44 ?_
  refine r_iload 0 rfl dX9_list_47 ?_
  exact r_iret rfl rfl rfl dX9_list_49
theorem nc_X9_list (X : Xt) (hst : X.1.stackTraces = false) (ad : Ad) (σ : Wd) (p0 : Int32) (p1 : Int32) (p2 : Int32) : NC X (fun a => a = ad) yX9_list cX9_list 6 (some (.int)) 7 104 vI (0, 0) ad σ [.ref (ad 0 0), .int p0, .int p1, .int p2] (f_X9_list σ p0 p1 p2) := by
  unfold f_X9_list
  refine NC.intro RX9 rfl hst (by decide) (Nat.le_of_ble_eq_true rfl) (lv := [(0, .ref _), (1, .int _), (2, .int _), (3, .int _)]) rfl ?_
  refine r_aload_n 0 rfl dX9_list_0 ?_
  refine r_getf 3 (lvs_0 _) (cell_0 _ _ _ _) rfl (by decide) in_10 w_198 rfl dX9_list_1 ?_
  refine r_iload_n 1 rfl dX9_list_4 ?_
  refine r_callV (n := 1) (As := [.int _]) (cell_7 _ _ _ _) (lvs_7 _) rfl (nc_X7_permitAt X hst ad _ _) (fun _ h => h) rfl ⟨rfl, by decide, by decide, by decide +kernel⟩ w_210 w_211 w_212 w_176 w_213 rfl rfl (Nat.le_of_ble_eq_true rfl) ⟨by decide, by decide⟩ dX9_list_5 (fun v1 σ2 => ?_)
  refine r_astore [(4, .ref _), (0, .ref _), (1, .int _), (2, .int _), (3, .int _)] rfl (by decide) dX9_list_8 ?_
  refine r_iload_n 3 rfl dX9_list_10 ?_
  refine r_iconst (-1) (by decide) dX9_list_11 ?_
  refine r_bipush (30) (by decide) dX9_list_12 ?_
  refine r_callS (n := 3) (As := [.int _, .int _, .int _]) (nc_X9_checkRange X hst ad _ _ _ _) (fun _ h => h) rfl ⟨by decide, by decide, by decide +kernel⟩ w_201 w_202 w_203 w_204 rfl rfl (Nat.le_of_ble_eq_true rfl) ⟨by decide, by decide⟩ dX9_list_14 (fun v3 σ4 => ?_)
  refine r_iload_n 3 rfl dX9_list_17 ?_
  refine r_iconst (-1) (by decide) dX9_list_18 ?_
  refine r_icmp_eq 28 dX9_list_19 (by decide) ?_ ?_
  · exact r_sub [0, 1, 2, 3, 4] rfl ((bj_X9_list_28 X hst ad) _ _ _ _ _)
  · refine r_iload_n 4 rfl dX9_list_22 ?_
    refine r_iconst (0) (by decide) dX9_list_23 ?_
    refine r_iconst (2) (by decide) dX9_list_24 ?_
    refine r_callS (n := 3) (As := [.int _, .int _, .int _]) (nc_X9_checkRange X hst ad _ _ _ _) (fun _ h => h) rfl ⟨by decide, by decide, by decide +kernel⟩ w_201 w_202 w_203 w_204 rfl rfl (Nat.le_of_ble_eq_true rfl) ⟨by decide, by decide⟩ dX9_list_25 (fun v7 σ8 => ?_)
    exact r_sub [0, 1, 2, 3, 4] rfl ((bj_X9_list_28 X hst ad) _ _ _ _ _)
def j_X9_diagramAt_30 (σ : Wd) (a1 : Int32) : Option ((Nat ⊕ String) × Wd) :=
  some (.inr "java/lang/IndexOutOfBoundsException", σ)
def j_X9_diagramAt_29 (σ : Wd) (a1 : Int32) : Option ((Nat ⊕ String) × Wd) :=
  j_X9_diagramAt_30 σ a1
def j_X9_diagramAt_30b (σ : Wd) (a1 : Int32) (us0 : Nat) : Option ((Nat ⊕ String) × Wd) :=
  some (.inl us0, σ)
def f_X9_diagramAt (σ : Wd) (p0 : Int32) : Option ((Nat ⊕ String) × Wd) :=
  if p0 < 0 then
    j_X9_diagramAt_29 σ p0
  else
    bx (f_Jx4a65c_size_8abf5 σ 1) fun v1 σ2 =>
    if v1 ≤ p0 then
      j_X9_diagramAt_29 σ2 p0
    else
      bx (f_Jx4a65c_get_915e3 σ2 1 p0) fun v3 σ4 =>
      gd (v3 < σ4.2.2 9) <|
      j_X9_diagramAt_30b σ4 p0 v3
theorem bj_X9_diagramAt_30 (X : Xt) (hst : X.1.stackTraces = false) (ad : Ad) (σ : Wd) (a1 : Int32) : Bk X (fun a => a = ad) cX9_diagramAt 3 RX9 (some ((.object "Stablingroad$Diagram"))) 6 82 (vR ad 25) (0, 0) (0, 0) ad σ 30 [(0, .ref (ad 0 0)), (1, .int a1)] [.null] (j_X9_diagramAt_30 σ a1) := by
  unfold j_X9_diagramAt_30
  refine r_astore_nN [(2, .null), (0, .ref _), (1, .int _)] rfl (by decide) dX9_diagramAt_30 ?_
  refine r_aload_nN 0 rfl dX9_diagramAt_31 ?_
  refine r_ifnonnullN dX9_diagramAt_32 ?_
  exact r_throwW (text := "no such diagram") at_3 (by decide +kernel) rfl dX9_diagramAt_35 dX9_diagramAt_38 dX9_diagramAt_39 dX9_diagramAt_42 dX9_diagramAt_45 (by decide) (Nat.le_of_ble_eq_true rfl)
theorem bj_X9_diagramAt_29 (X : Xt) (hst : X.1.stackTraces = false) (ad : Ad) (σ : Wd) (a1 : Int32) : Bk X (fun a => a = ad) cX9_diagramAt 3 RX9 (some ((.object "Stablingroad$Diagram"))) 6 82 (vR ad 25) (0, 0) (0, 0) ad σ 29 [(0, .ref (ad 0 0)), (1, .int a1)] [] (j_X9_diagramAt_29 σ a1) := by
  unfold j_X9_diagramAt_29
  refine r_null dX9_diagramAt_29 ?_
  exact r_sub [0, 1] rfl ((bj_X9_diagramAt_30 X hst ad) _ _)
theorem bj_X9_diagramAt_30b (X : Xt) (hst : X.1.stackTraces = false) (ad : Ad) (σ : Wd) (a1 : Int32) (us0 : Nat) : Bk X (fun a => a = ad) cX9_diagramAt 3 RX9 (some ((.object "Stablingroad$Diagram"))) 6 82 (vR ad 25) (0, 0) (0, 0) ad σ 30 [(0, .ref (ad 0 0)), (1, .int a1)] [.ref (ad 25 us0)] (j_X9_diagramAt_30b σ a1 us0) := by
  unfold j_X9_diagramAt_30b
  refine r_astore_n [(2, .ref _), (0, .ref _), (1, .int _)] rfl (by decide) dX9_diagramAt_30 ?_
  refine r_aload_n 0 rfl dX9_diagramAt_31 ?_
  refine r_ifnonnull 46 dX9_diagramAt_32 (by decide) ?_
  refine r_aload_n 0 rfl dX9_diagramAt_46 ?_
  exact r_aret rfl rfl rfl dX9_diagramAt_47
theorem nc_X9_diagramAt (X : Xt) (hst : X.1.stackTraces = false) (ad : Ad) (σ : Wd) (p0 : Int32) : NC X (fun a => a = ad) yX9_diagramAt cX9_diagramAt 3 (some ((.object "Stablingroad$Diagram"))) 6 82 (vR ad 25) (0, 0) ad σ [.ref (ad 0 0), .int p0] (f_X9_diagramAt σ p0) := by
  unfold f_X9_diagramAt
  refine NC.intro RX9 rfl hst (by decide) (Nat.le_of_ble_eq_true rfl) (lv := [(0, .ref _), (1, .int _)]) rfl ?_
  refine r_iload_n 1 rfl dX9_diagramAt_0 ?_
  refine r_if_lt 29 dX9_diagramAt_1 (by decide) ?_ ?_
  · exact r_sub [0, 1] rfl ((bj_X9_diagramAt_29 X hst ad) _ _)
  · refine r_iload_n 1 rfl dX9_diagramAt_4 ?_
    refine r_aload_n 0 rfl dX9_diagramAt_5 ?_
    refine r_getf 1 (lvs_0 _) (cell_0 _ _ _ _) rfl (by decide) in_10 w_216 rfl dX9_diagramAt_6 ?_
    refine r_callV (n := 0) (As := []) (cell_1 _ _ _ _) (lvl_1 _) rfl (nc_Jx4a65c_size_8abf5 X hst ad _ _) (fun _ h => h) rfl ⟨rfl, by decide, by decide, by decide +kernel⟩ w_217 w_140 w_141 w_104 w_142 rfl rfl (Nat.le_of_ble_eq_true rfl) ⟨by decide, by decide⟩ dX9_diagramAt_9 (fun v1 σ2 => ?_)
    refine r_icmp_ge 29 dX9_diagramAt_12 (by decide) ?_ ?_
    · exact r_sub [0, 1] rfl ((bj_X9_diagramAt_29 X hst ad) _ _)
    · refine r_aload_n 0 rfl dX9_diagramAt_15 ?_
      refine r_getf 1 (lvs_0 _) (cell_0 _ _ _ _) rfl (by decide) in_10 w_216 rfl dX9_diagramAt_16 ?_
      refine r_iload_n 1 rfl dX9_diagramAt_19 ?_
      refine r_callV (n := 1) (As := [.int _]) (cell_1 _ _ _ _) (lvl_1 _) rfl (nc_Jx4a65c_get_915e3 X hst ad _ _ _) (fun _ h => h) rfl ⟨rfl, by decide, by decide, by decide +kernel⟩ w_218 w_144 w_145 w_104 w_146 rfl rfl (Nat.le_of_ble_eq_true rfl) ⟨by decide, by decide⟩ dX9_diagramAt_20 (fun v3 σ4 => ?_)
      refine r_gd (fun h1 => ?_)
      refine r_castS (lvd_25 h1) (cell_25 _ _ _ _) rfl w_219 dX9_diagramAt_23 ?_
      refine r_goto 30 dX9_diagramAt_26 (by decide) ?_
      exact r_sub [0, 1] rfl ((bj_X9_diagramAt_30b X hst ad) _ _ _)
def f_X9_checkNumber (σ : Wd) (p0 : Int32) (p1 : Int32) : Option ((Unit ⊕ String) × Wd) :=
  if p0 < 0 then
    some (.inr "java/lang/IndexOutOfBoundsException", σ)
  else
    if p0 < p1 then
      some (.inl (), σ)
    else
      some (.inr "java/lang/IndexOutOfBoundsException", σ)
theorem nc_X9_checkNumber (X : Xt) (hst : X.1.stackTraces = false) (ad : Ad) (σ : Wd) (p0 : Int32) (p1 : Int32) : NC X (fun a => a = ad) yX9_checkNumber cX9_checkNumber 2 none 6 82 vV (0, 0) ad σ [.int p0, .int p1] (f_X9_checkNumber σ p0 p1) := by
  unfold f_X9_checkNumber
  refine NC.intro RX9 rfl hst (by decide) (Nat.le_of_ble_eq_true rfl) (lv := [(0, .int _), (1, .int _)]) rfl ?_
  refine r_iload_n 0 rfl dX9_checkNumber_0 ?_
  refine r_if_lt 9 dX9_checkNumber_1 (by decide) ?_ ?_
  · exact r_throwW (text := "there is nothing of that number") at_3 (by decide +kernel) rfl dX9_checkNumber_9 dX9_checkNumber_12 dX9_checkNumber_13 dX9_checkNumber_16 dX9_checkNumber_19 (by decide) (Nat.le_of_ble_eq_true rfl)
  · refine r_iload_n 0 rfl dX9_checkNumber_4 ?_
    refine r_iload_n 1 rfl dX9_checkNumber_5 ?_
    refine r_icmp_lt 20 dX9_checkNumber_6 (by decide) ?_ ?_
    · exact r_vret rfl rfl rfl dX9_checkNumber_20
    · exact r_throwW (text := "there is nothing of that number") at_3 (by decide +kernel) rfl dX9_checkNumber_9 dX9_checkNumber_12 dX9_checkNumber_13 dX9_checkNumber_16 dX9_checkNumber_19 (by decide) (Nat.le_of_ble_eq_true rfl)
def f_X9_pin (σ : Wd) (p0 : Int32) (p1 : Int32) : Option ((Int32 ⊕ String) × Wd) :=
  bx (f_X9_diagramAt σ p0) fun v1 σ2 =>
  if p1 = (-1 : Int32) then
    gd (v1 < σ2.2.2 9) <|
    bd (wr σ2 25 v1 5 p1) fun σ3 =>
    some (.inl (σ2.1 25 v1 5), σ3)
  else
    bx (f_Jx4a65c_size_8abf5 σ2 0) fun v4 σ5 =>
    bx (f_X9_checkNumber σ5 p1 v4) fun v6 σ7 =>
    gd (v1 < σ7.2.2 9) <|
    bd (wr σ7 25 v1 5 p1) fun σ8 =>
    some (.inl (σ7.1 25 v1 5), σ8)
theorem nc_X9_pin (X : Xt) (hst : X.1.stackTraces = false) (ad : Ad) (σ : Wd) (p0 : Int32) (p1 : Int32) : NC X (fun a => a = ad) yX9_pin cX9_pin 5 (some (.int)) 7 104 vI (0, 0) ad σ [.ref (ad 0 0), .int p0, .int p1] (f_X9_pin σ p0 p1) := by
  unfold f_X9_pin
  refine NC.intro RX9 rfl hst (by decide) (Nat.le_of_ble_eq_true rfl) (lv := [(0, .ref _), (1, .int _), (2, .int _)]) rfl ?_
  refine r_aload_n 0 rfl dX9_pin_0 ?_
  refine r_iload_n 1 rfl dX9_pin_1 ?_
  refine r_callV (n := 1) (As := [.int _]) (cell_0 _ _ _ _) (lvs_0 _) rfl (nc_X9_diagramAt X hst ad _ _) (fun _ h => h) rfl ⟨rfl, by decide, by decide, by decide +kernel⟩ w_220 w_221 w_222 w_203 w_223 rfl rfl (Nat.le_of_ble_eq_true rfl) ⟨by decide, by decide⟩ dX9_pin_2 (fun v1 σ2 => ?_)
  refine r_astore_n [(3, .ref _), (0, .ref _), (1, .int _), (2, .int _)] rfl (by decide) dX9_pin_5 ?_
  refine r_iload_n 3 rfl dX9_pin_6 ?_
  refine r_iconst (-1) (by decide) dX9_pin_7 ?_
  refine r_icmp_eq 22 dX9_pin_8 (by decide) ?_ ?_
  · refine r_aload_n 0 rfl dX9_pin_22 ?_
    refine r_gd (fun h1 => ?_)
    refine r_getf 5 (lvd_25 h1) (cell_25 _ _ _ _) rfl (by decide) in_1 w_224 rfl dX9_pin_23 ?_
    refine r_istore [(4, .int _), (3, .ref _), (0, .ref _), (1, .int _), (2, .int _)] rfl (by decide) dX9_pin_26 ?_
    refine r_aload_n 1 rfl dX9_pin_28 ?_
    refine r_iload_n 4 rfl dX9_pin_29 ?_
    refine r_bd ?_
    refine r_putf 5 tyX0 tyX0_ok nmX0 (lvd_25 h1) (cell_25 _ _ _ _) (wrc_25_5 _ _ _ _ _) rfl (by decide) (Nat.le_of_ble_eq_true rfl) in_1 w_224 rfl rfl rfl dX9_pin_30 ?_
    refine r_iload 0 rfl dX9_pin_33 ?_
    exact r_iret rfl rfl rfl dX9_pin_35
  · refine r_iload_n 3 rfl dX9_pin_11 ?_
    refine r_aload_n 1 rfl dX9_pin_12 ?_
    refine r_getf 0 (lvs_0 _) (cell_0 _ _ _ _) rfl (by decide) in_10 w_225 rfl dX9_pin_13 ?_
    refine r_callV (n := 0) (As := []) (cell_1 _ _ _ _) (lvl_0 _) rfl (nc_Jx4a65c_size_8abf5 X hst ad _ _) (fun _ h => h) rfl ⟨rfl, by decide, by decide, by decide +kernel⟩ w_217 w_140 w_141 w_104 w_142 rfl rfl (Nat.le_of_ble_eq_true rfl) ⟨by decide, by decide⟩ dX9_pin_16 (fun v4 σ5 => ?_)
    refine r_callS (n := 2) (As := [.int _, .int _]) (nc_X9_checkNumber X hst ad _ _ _) (fun _ h => h) rfl ⟨by decide, by decide, by decide +kernel⟩ w_226 w_227 w_203 w_228 rfl rfl (Nat.le_of_ble_eq_true rfl) ⟨by decide, by decide⟩ dX9_pin_19 (fun v6 σ7 => ?_)
    refine r_aload_n 0 rfl dX9_pin_22 ?_
    refine r_gd (fun h2 => ?_)
    refine r_getf 5 (lvd_25 h2) (cell_25 _ _ _ _) rfl (by decide) in_1 w_224 rfl dX9_pin_23 ?_
    refine r_istore [(4, .int _), (3, .ref _), (0, .ref _), (1, .int _), (2, .int _)] rfl (by decide) dX9_pin_26 ?_
    refine r_aload_n 1 rfl dX9_pin_28 ?_
    refine r_iload_n 4 rfl dX9_pin_29 ?_
    refine r_bd ?_
    refine r_putf 5 tyX0 tyX0_ok nmX0 (lvd_25 h2) (cell_25 _ _ _ _) (wrc_25_5 _ _ _ _ _) rfl (by decide) (Nat.le_of_ble_eq_true rfl) in_1 w_224 rfl rfl rfl dX9_pin_30 ?_
    refine r_iload 0 rfl dX9_pin_33 ?_
    exact r_iret rfl rfl rfl dX9_pin_35
def j_X9_unitAt_30 (σ : Wd) (a1 : Int32) : Option ((Nat ⊕ String) × Wd) :=
  some (.inr "java/lang/IndexOutOfBoundsException", σ)
def j_X9_unitAt_29 (σ : Wd) (a1 : Int32) : Option ((Nat ⊕ String) × Wd) :=
  j_X9_unitAt_30 σ a1
def j_X9_unitAt_30b (σ : Wd) (a1 : Int32) (us0 : Nat) : Option ((Nat ⊕ String) × Wd) :=
  some (.inl us0, σ)
def f_X9_unitAt (σ : Wd) (p0 : Int32) : Option ((Nat ⊕ String) × Wd) :=
  if p0 < 0 then
    j_X9_unitAt_29 σ p0
  else
    bx (f_Jx4a65c_size_8abf5 σ 0) fun v1 σ2 =>
    if v1 ≤ p0 then
      j_X9_unitAt_29 σ2 p0
    else
      bx (f_Jx4a65c_get_915e3 σ2 0 p0) fun v3 σ4 =>
      gd (v3 < σ4.2.2 8) <|
      j_X9_unitAt_30b σ4 p0 v3
theorem bj_X9_unitAt_30 (X : Xt) (hst : X.1.stackTraces = false) (ad : Ad) (σ : Wd) (a1 : Int32) : Bk X (fun a => a = ad) cX9_unitAt 3 RX9 (some ((.object "Stablingroad$Unit"))) 6 82 (vR ad 21) (0, 0) (0, 0) ad σ 30 [(0, .ref (ad 0 0)), (1, .int a1)] [.null] (j_X9_unitAt_30 σ a1) := by
  unfold j_X9_unitAt_30
  refine r_astore_nN [(2, .null), (0, .ref _), (1, .int _)] rfl (by decide) dX9_unitAt_30 ?_
  refine r_aload_nN 0 rfl dX9_unitAt_31 ?_
  refine r_ifnonnullN dX9_unitAt_32 ?_
  exact r_throwW (text := "no such unit") at_3 (by decide +kernel) rfl dX9_unitAt_35 dX9_unitAt_38 dX9_unitAt_39 dX9_unitAt_42 dX9_unitAt_45 (by decide) (Nat.le_of_ble_eq_true rfl)
theorem bj_X9_unitAt_29 (X : Xt) (hst : X.1.stackTraces = false) (ad : Ad) (σ : Wd) (a1 : Int32) : Bk X (fun a => a = ad) cX9_unitAt 3 RX9 (some ((.object "Stablingroad$Unit"))) 6 82 (vR ad 21) (0, 0) (0, 0) ad σ 29 [(0, .ref (ad 0 0)), (1, .int a1)] [] (j_X9_unitAt_29 σ a1) := by
  unfold j_X9_unitAt_29
  refine r_null dX9_unitAt_29 ?_
  exact r_sub [0, 1] rfl ((bj_X9_unitAt_30 X hst ad) _ _)
theorem bj_X9_unitAt_30b (X : Xt) (hst : X.1.stackTraces = false) (ad : Ad) (σ : Wd) (a1 : Int32) (us0 : Nat) : Bk X (fun a => a = ad) cX9_unitAt 3 RX9 (some ((.object "Stablingroad$Unit"))) 6 82 (vR ad 21) (0, 0) (0, 0) ad σ 30 [(0, .ref (ad 0 0)), (1, .int a1)] [.ref (ad 21 us0)] (j_X9_unitAt_30b σ a1 us0) := by
  unfold j_X9_unitAt_30b
  refine r_astore_n [(2, .ref _), (0, .ref _), (1, .int _)] rfl (by decide) dX9_unitAt_30 ?_
  refine r_aload_n 0 rfl dX9_unitAt_31 ?_
  refine r_ifnonnull 46 dX9_unitAt_32 (by decide) ?_
  refine r_aload_n 0 rfl dX9_unitAt_46 ?_
  exact r_aret rfl rfl rfl dX9_unitAt_47
theorem nc_X9_unitAt (X : Xt) (hst : X.1.stackTraces = false) (ad : Ad) (σ : Wd) (p0 : Int32) : NC X (fun a => a = ad) yX9_unitAt cX9_unitAt 3 (some ((.object "Stablingroad$Unit"))) 6 82 (vR ad 21) (0, 0) ad σ [.ref (ad 0 0), .int p0] (f_X9_unitAt σ p0) := by
  unfold f_X9_unitAt
  refine NC.intro RX9 rfl hst (by decide) (Nat.le_of_ble_eq_true rfl) (lv := [(0, .ref _), (1, .int _)]) rfl ?_
  refine r_iload_n 1 rfl dX9_unitAt_0 ?_
  refine r_if_lt 29 dX9_unitAt_1 (by decide) ?_ ?_
  · exact r_sub [0, 1] rfl ((bj_X9_unitAt_29 X hst ad) _ _)
  · refine r_iload_n 1 rfl dX9_unitAt_4 ?_
    refine r_aload_n 0 rfl dX9_unitAt_5 ?_
    refine r_getf 0 (lvs_0 _) (cell_0 _ _ _ _) rfl (by decide) in_10 w_225 rfl dX9_unitAt_6 ?_
    refine r_callV (n := 0) (As := []) (cell_1 _ _ _ _) (lvl_0 _) rfl (nc_Jx4a65c_size_8abf5 X hst ad _ _) (fun _ h => h) rfl ⟨rfl, by decide, by decide, by decide +kernel⟩ w_217 w_140 w_141 w_104 w_142 rfl rfl (Nat.le_of_ble_eq_true rfl) ⟨by decide, by decide⟩ dX9_unitAt_9 (fun v1 σ2 => ?_)
    refine r_icmp_ge 29 dX9_unitAt_12 (by decide) ?_ ?_
    · exact r_sub [0, 1] rfl ((bj_X9_unitAt_29 X hst ad) _ _)
    · refine r_aload_n 0 rfl dX9_unitAt_15 ?_
      refine r_getf 0 (lvs_0 _) (cell_0 _ _ _ _) rfl (by decide) in_10 w_225 rfl dX9_unitAt_16 ?_
      refine r_iload_n 1 rfl dX9_unitAt_19 ?_
      refine r_callV (n := 1) (As := [.int _]) (cell_1 _ _ _ _) (lvl_0 _) rfl (nc_Jx4a65c_get_915e3 X hst ad _ _ _) (fun _ h => h) rfl ⟨rfl, by decide, by decide, by decide +kernel⟩ w_218 w_144 w_145 w_104 w_146 rfl rfl (Nat.le_of_ble_eq_true rfl) ⟨by decide, by decide⟩ dX9_unitAt_20 (fun v3 σ4 => ?_)
      refine r_gd (fun h1 => ?_)
      refine r_castS (lvd_21 h1) (cell_21 _ _ _ _) rfl w_229 dX9_unitAt_23 ?_
      refine r_goto 30 dX9_unitAt_26 (by decide) ?_
      exact r_sub [0, 1] rfl ((bj_X9_unitAt_30b X hst ad) _ _ _)
def l_X7_listForbids_3 : Nat → Wd → Int32 → Nat → Int32 → Int32 → Option ((Int32 ⊕ String) × Wd)
  | 0, _, _, _, _, _ => none
  | n + 1, σ, a4, ua1, a2, a3 =>
  gd (ua1 < σ.2.2 8) <|
  bx (f_Jx4a65c_size_8abf5 σ (ua1 + 2)) fun v1 σ2 =>
  if v1 ≤ a4 then
    some (.inl (0 : Int32), σ2)
  else
    gd (ua1 < σ2.2.2 8) <|
    bx (f_X8_faultAtPlace σ2 ua1 a4) fun v3 σ4 =>
    gd (v3 < σ4.2.2 10) <|
    bx (f_X7_permitAt σ4 (σ4.1 26 v3 0)) fun v5 σ6 =>
    gd (v3 < σ6.2.2 10) <|
    gd (v5 < 4) <|
    bx (f_X5_forbids σ6 v5 (a3 - (σ6.1 26 v3 1)) a2) fun v7 σ8 =>
    if v7 = 0 then
      (l_X7_listForbids_3 n) σ8 (a4 + 1) ua1 a2 a3
    else
      some (.inl (1 : Int32), σ8)
def f_X7_listForbids (σ : Wd) (i0 : Nat) (p1 : Int32) (p2 : Int32) : Option ((Int32 ⊕ String) × Wd) :=
  l_X7_listForbids_3 FU σ (0 : Int32) i0 p1 p2
theorem bl_X7_listForbids_3 (X : Xt) (hst : X.1.stackTraces = false) (ad : Ad) : ∀ (n : Nat) (σ : Wd) (a4 : Int32) (ua1 : Nat) (a2 : Int32) (a3 : Int32), Bk X (fun a => a = ad) cX7_listForbids 6 RX7 (some (.boolean)) 7 104 vI (0, 0) (0, 0) ad σ 3 [(4, .int a4), (0, .ref (ad 7 0)), (1, .ref (ad 21 ua1)), (2, .int a2), (3, .int a3)] [] (l_X7_listForbids_3 n σ a4 ua1 a2 a3) := by
  intro n
  induction n with
  | zero => intros; exact r_none
  | succ n ih =>
  intro σ a4 ua1 a2 a3
  rw [l_X7_listForbids_3]
  refine r_iload 0 rfl dX7_listForbids_3 ?_
  refine r_aload_n 2 rfl dX7_listForbids_5 ?_
  refine r_gd (fun h1 => ?_)
  refine r_getf 1 (lvd_21 h1) (cell_21 _ _ _ _) rfl (by decide) in_9 w_239 rfl dX7_listForbids_6 ?_
  refine r_callV (n := 0) (As := []) (cell_1 _ _ _ _) (lvl_f h1) rfl (nc_Jx4a65c_size_8abf5 X hst ad _ _) (fun _ h => h) rfl ⟨rfl, by decide, by decide, by decide +kernel⟩ w_240 w_140 w_141 w_104 w_142 rfl rfl (Nat.le_of_ble_eq_true rfl) ⟨by decide, by decide⟩ dX7_listForbids_9 (fun v1 σ2 => ?_)
  refine r_icmp_ge 54 dX7_listForbids_12 (by decide) ?_ ?_
  · refine r_iconst (0) (by decide) dX7_listForbids_54 ?_
    exact r_zret rfl rfl rfl rfl dX7_listForbids_55
  · refine r_aload_n 2 rfl dX7_listForbids_15 ?_
    refine r_iload 0 rfl dX7_listForbids_16 ?_
    refine r_gd (fun h2 => ?_)
    refine r_callV (n := 1) (As := [.int _]) (cell_21 _ _ _ _) (lvd_21 h2) rfl (nc_X8_faultAtPlace X hst ad _ _ _) (fun _ h => h) rfl ⟨rfl, by decide, by decide, by decide +kernel⟩ w_241 w_149 w_150 w_27 w_151 rfl rfl (Nat.le_of_ble_eq_true rfl) ⟨by decide, by decide⟩ dX7_listForbids_18 (fun v3 σ4 => ?_)
    refine r_astore [(5, .ref _), (4, .int _), (0, .ref _), (1, .ref _), (2, .int _), (3, .int _)] rfl (by decide) dX7_listForbids_21 ?_
    refine r_aload_n 2 rfl dX7_listForbids_23 ?_
    refine r_aload 0 rfl dX7_listForbids_24 ?_
    refine r_gd (fun h3 => ?_)
    refine r_getf 0 (lvd_26 h3) (cell_26 _ _ _ _) rfl (by decide) in_3 w_242 rfl dX7_listForbids_26 ?_
    refine r_callV (n := 1) (As := [.int _]) (cell_7 _ _ _ _) (lvs_7 _) rfl (nc_X7_permitAt X hst ad _ _) (fun _ h => h) rfl ⟨rfl, by decide, by decide, by decide +kernel⟩ w_243 w_211 w_212 w_176 w_213 rfl rfl (Nat.le_of_ble_eq_true rfl) ⟨by decide, by decide⟩ dX7_listForbids_29 (fun v5 σ6 => ?_)
    refine r_iload_n 5 rfl dX7_listForbids_32 ?_
    refine r_aload 0 rfl dX7_listForbids_33 ?_
    refine r_gd (fun h4 => ?_)
    refine r_getf 1 (lvd_26 h4) (cell_26 _ _ _ _) rfl (by decide) in_3 w_244 rfl dX7_listForbids_35 ?_
    refine r_isub dX7_listForbids_38 ?_
    refine r_iload_n 4 rfl dX7_listForbids_39 ?_
    refine r_gd (fun h5 => ?_)
    refine r_callV (n := 2) (As := [.int _, .int _]) (cell_11 _ _ _ _) (lvb_11 h5) rfl (nc_X5_forbids X hst ad _ _ _ _) (fun _ h => h) rfl ⟨rfl, by decide, by decide, by decide +kernel⟩ w_245 w_246 w_247 w_248 w_249 rfl rfl (Nat.le_of_ble_eq_true rfl) ⟨by decide, by decide⟩ dX7_listForbids_40 (fun v7 σ8 => ?_)
    refine r_if_eq 48 dX7_listForbids_43 (by decide) ?_ ?_
    · refine r_iinc (1) [(4, .int _), (5, .ref _), (0, .ref _), (1, .ref _), (2, .int _), (3, .int _)] 1 rfl (by decide) rfl (by decide) dX7_listForbids_48 ?_
      refine r_goto 3 dX7_listForbids_51 (by decide) ?_
      exact r_sub [0, 2, 3, 4, 5] rfl (ih _ _ _ _ _)
    · refine r_iconst (1) (by decide) dX7_listForbids_46 ?_
      exact r_zret rfl rfl rfl rfl dX7_listForbids_47
theorem nc_X7_listForbids (X : Xt) (hst : X.1.stackTraces = false) (ad : Ad) (σ : Wd) (i0 : Nat) (p1 : Int32) (p2 : Int32) : NC X (fun a => a = ad) yX7_listForbids cX7_listForbids 6 (some (.boolean)) 7 104 vI (0, 0) ad σ [.ref (ad 7 0), .ref (ad 21 i0), .int p1, .int p2] (f_X7_listForbids σ i0 p1 p2) := by
  unfold f_X7_listForbids
  refine NC.intro RX7 rfl hst (by decide) (Nat.le_of_ble_eq_true rfl) (lv := [(0, .ref _), (1, .ref _), (2, .int _), (3, .int _)]) rfl ?_
  refine r_iconst (0) (by decide) dX7_listForbids_0 ?_
  refine r_istore [(4, .int _), (0, .ref _), (1, .ref _), (2, .int _), (3, .int _)] rfl (by decide) dX7_listForbids_1 ?_
  exact r_sub [0, 1, 2, 3, 4] rfl ((bl_X7_listForbids_3 X hst ad FU) _ _ _ _ _)
def l_X7_faultsAreGrave_4 : Nat → Wd → Int32 → Int32 → Nat → Option ((Int32 ⊕ String) × Wd)
  | 0, _, _, _, _ => none
  | n + 1, σ, a2, a1, ua0 =>
  gd (ua0 < σ.2.2 8) <|
  bx (f_Jx4a65c_size_8abf5 σ (ua0 + 2)) fun v1 σ2 =>
  if v1 ≤ a2 then
    if a1 < (2 : Int32) then
      some (.inl (0 : Int32), σ2)
    else
      some (.inl (1 : Int32), σ2)
  else
    gd (ua0 < σ2.2.2 8) <|
    bx (f_X8_faultAtPlace σ2 ua0 a2) fun v3 σ4 =>
    gd (v3 < σ4.2.2 10) <|
    bx (f_X2_isGrave σ4 v3) fun v5 σ6 =>
    if v5 = 0 then
      gd (v3 < σ6.2.2 10) <|
      if (σ6.1 26 v3 0) = (1 : Int32) then
        (l_X7_faultsAreGrave_4 n) σ6 (a2 + 1) (a1 + 1) ua0
      else
        (l_X7_faultsAreGrave_4 n) σ6 (a2 + 1) a1 ua0
    else
      some (.inl (1 : Int32), σ6)
def f_X7_faultsAreGrave (σ : Wd) (i0 : Nat) : Option ((Int32 ⊕ String) × Wd) :=
  l_X7_faultsAreGrave_4 FU σ (0 : Int32) (0 : Int32) i0
theorem bl_X7_faultsAreGrave_4 (X : Xt) (hst : X.1.stackTraces = false) (ad : Ad) : ∀ (n : Nat) (σ : Wd) (a2 : Int32) (a1 : Int32) (ua0 : Nat), Bk X (fun a => a = ad) cX7_faultsAreGrave 4 RX7 (some (.boolean)) 7 104 vI (0, 0) (0, 0) ad σ 4 [(2, .int a2), (1, .int a1), (0, .ref (ad 21 ua0))] [] (l_X7_faultsAreGrave_4 n σ a2 a1 ua0) := by
  intro n
  induction n with
  | zero => intros; exact r_none
  | succ n ih =>
  intro σ a2 a1 ua0
  rw [l_X7_faultsAreGrave_4]
  refine r_iload_n 0 rfl dX7_faultsAreGrave_4 ?_
  refine r_aload_n 2 rfl dX7_faultsAreGrave_5 ?_
  refine r_gd (fun h1 => ?_)
  refine r_getf 1 (lvd_21 h1) (cell_21 _ _ _ _) rfl (by decide) in_9 w_239 rfl dX7_faultsAreGrave_6 ?_
  refine r_callV (n := 0) (As := []) (cell_1 _ _ _ _) (lvl_f h1) rfl (nc_Jx4a65c_size_8abf5 X hst ad _ _) (fun _ h => h) rfl ⟨rfl, by decide, by decide, by decide +kernel⟩ w_240 w_140 w_141 w_104 w_142 rfl rfl (Nat.le_of_ble_eq_true rfl) ⟨by decide, by decide⟩ dX7_faultsAreGrave_9 (fun v1 σ2 => ?_)
  refine r_icmp_ge 47 dX7_faultsAreGrave_12 (by decide) ?_ ?_
  · refine r_iload_n 1 rfl dX7_faultsAreGrave_47 ?_
    refine r_iconst (2) (by decide) dX7_faultsAreGrave_48 ?_
    refine r_icmp_lt 56 dX7_faultsAreGrave_49 (by decide) ?_ ?_
    · refine r_iconst (0) (by decide) dX7_faultsAreGrave_56 ?_
      exact r_zret rfl rfl rfl rfl dX7_faultsAreGrave_57
    · refine r_iconst (1) (by decide) dX7_faultsAreGrave_52 ?_
      refine r_goto 57 dX7_faultsAreGrave_53 (by decide) ?_
      exact r_zret rfl rfl rfl rfl dX7_faultsAreGrave_57
  · refine r_aload_n 2 rfl dX7_faultsAreGrave_15 ?_
    refine r_iload_n 0 rfl dX7_faultsAreGrave_16 ?_
    refine r_gd (fun h2 => ?_)
    refine r_callV (n := 1) (As := [.int _]) (cell_21 _ _ _ _) (lvd_21 h2) rfl (nc_X8_faultAtPlace X hst ad _ _ _) (fun _ h => h) rfl ⟨rfl, by decide, by decide, by decide +kernel⟩ w_241 w_149 w_150 w_27 w_151 rfl rfl (Nat.le_of_ble_eq_true rfl) ⟨by decide, by decide⟩ dX7_faultsAreGrave_17 (fun v3 σ4 => ?_)
    refine r_astore_n [(3, .ref _), (2, .int _), (1, .int _), (0, .ref _)] rfl (by decide) dX7_faultsAreGrave_20 ?_
    refine r_aload_n 0 rfl dX7_faultsAreGrave_21 ?_
    refine r_gd (fun h3 => ?_)
    refine r_callV (n := 0) (As := []) (cell_26 _ _ _ _) (lvd_26 h3) rfl (nc_X2_isGrave X hst ad _ _) (fun _ h => h) rfl ⟨rfl, by decide, by decide, by decide +kernel⟩ w_254 w_255 w_256 w_257 w_258 rfl rfl (Nat.le_of_ble_eq_true rfl) ⟨by decide, by decide⟩ dX7_faultsAreGrave_22 (fun v5 σ6 => ?_)
    refine r_if_eq 30 dX7_faultsAreGrave_25 (by decide) ?_ ?_
    · refine r_aload_n 0 rfl dX7_faultsAreGrave_30 ?_
      refine r_gd (fun h4 => ?_)
      refine r_getf 0 (lvd_26 h4) (cell_26 _ _ _ _) rfl (by decide) in_3 w_242 rfl dX7_faultsAreGrave_31 ?_
      refine r_iconst (1) (by decide) dX7_faultsAreGrave_34 ?_
      refine r_icmp_ne 41 dX7_faultsAreGrave_35 (by decide) ?_ ?_
      · refine r_iinc (1) [(1, .int _), (3, .ref _), (2, .int _), (0, .ref _)] 2 rfl (by decide) rfl (by decide) dX7_faultsAreGrave_38 ?_
        refine r_iinc (1) [(2, .int _), (1, .int _), (3, .ref _), (0, .ref _)] 2 rfl (by decide) rfl (by decide) dX7_faultsAreGrave_41 ?_
        refine r_goto 4 dX7_faultsAreGrave_44 (by decide) ?_
        exact r_sub [0, 1, 3] rfl (ih _ _ _ _)
      · refine r_iinc (1) [(2, .int _), (3, .ref _), (1, .int _), (0, .ref _)] 1 rfl (by decide) rfl (by decide) dX7_faultsAreGrave_41 ?_
        refine r_goto 4 dX7_faultsAreGrave_44 (by decide) ?_
        exact r_sub [0, 2, 3] rfl (ih _ _ _ _)
    · refine r_iconst (1) (by decide) dX7_faultsAreGrave_28 ?_
      exact r_zret rfl rfl rfl rfl dX7_faultsAreGrave_29
theorem nc_X7_faultsAreGrave (X : Xt) (hst : X.1.stackTraces = false) (ad : Ad) (σ : Wd) (i0 : Nat) : NC X (fun a => a = ad) yX7_faultsAreGrave cX7_faultsAreGrave 4 (some (.boolean)) 7 104 vI (0, 0) ad σ [.ref (ad 21 i0)] (f_X7_faultsAreGrave σ i0) := by
  unfold f_X7_faultsAreGrave
  refine NC.intro RX7 rfl hst (by decide) (Nat.le_of_ble_eq_true rfl) (lv := [(0, .ref _)]) rfl ?_
  refine r_iconst (0) (by decide) dX7_faultsAreGrave_0 ?_
  refine r_istore_n [(1, .int _), (0, .ref _)] rfl (by decide) dX7_faultsAreGrave_1 ?_
  refine r_iconst (0) (by decide) dX7_faultsAreGrave_2 ?_
  refine r_istore_n [(2, .int _), (1, .int _), (0, .ref _)] rfl (by decide) dX7_faultsAreGrave_3 ?_
  exact r_sub [0, 1, 2] rfl ((bl_X7_faultsAreGrave_4 X hst ad FU) _ _ _ _)
def f_X7_axlesAreBad (σ : Wd) (i0 : Nat) : Option ((Int32 ⊕ String) × Wd) :=
  gd (i0 < σ.2.2 8) <|
  bx (f_X8_leastAxle σ i0) fun v1 σ2 =>
  gd (i0 < σ2.2.2 8) <|
  bx (f_X8_greatestAxle σ2 i0) fun v3 σ4 =>
  if (6 : Int32) < (v3 - v1) then
    some (.inl (1 : Int32), σ4)
  else
    if (800 : Int32) ≤ v1 then
      some (.inl (0 : Int32), σ4)
    else
      some (.inl (1 : Int32), σ4)
theorem nc_X7_axlesAreBad (X : Xt) (hst : X.1.stackTraces = false) (ad : Ad) (σ : Wd) (i0 : Nat) : NC X (fun a => a = ad) yX7_axlesAreBad cX7_axlesAreBad 2 (some (.boolean)) 2 43 vI (0, 0) ad σ [.ref (ad 21 i0)] (f_X7_axlesAreBad σ i0) := by
  unfold f_X7_axlesAreBad
  refine NC.intro RX7 rfl hst (by decide) (Nat.le_of_ble_eq_true rfl) (lv := [(0, .ref _)]) rfl ?_
  refine r_aload_n 0 rfl dX7_axlesAreBad_0 ?_
  refine r_gd (fun h1 => ?_)
  refine r_callV (n := 0) (As := []) (cell_21 _ _ _ _) (lvd_21 h1) rfl (nc_X8_leastAxle X hst ad _ _) (fun _ h => h) rfl ⟨rfl, by decide, by decide, by decide +kernel⟩ w_262 w_263 w_264 w_27 w_265 rfl rfl (Nat.le_of_ble_eq_true rfl) ⟨by decide, by decide⟩ dX7_axlesAreBad_1 (fun v1 σ2 => ?_)
  refine r_istore_n [(1, .int _), (0, .ref _)] rfl (by decide) dX7_axlesAreBad_4 ?_
  refine r_aload_n 1 rfl dX7_axlesAreBad_5 ?_
  refine r_gd (fun h2 => ?_)
  refine r_callV (n := 0) (As := []) (cell_21 _ _ _ _) (lvd_21 h2) rfl (nc_X8_greatestAxle X hst ad _ _) (fun _ h => h) rfl ⟨rfl, by decide, by decide, by decide +kernel⟩ w_266 w_267 w_268 w_27 w_269 rfl rfl (Nat.le_of_ble_eq_true rfl) ⟨by decide, by decide⟩ dX7_axlesAreBad_6 (fun v3 σ4 => ?_)
  refine r_iload_n 0 rfl dX7_axlesAreBad_9 ?_
  refine r_isub dX7_axlesAreBad_10 ?_
  refine r_bipush (6) (by decide) dX7_axlesAreBad_11 ?_
  refine r_icmp_gt 23 dX7_axlesAreBad_13 (by decide) ?_ ?_
  · refine r_iconst (1) (by decide) dX7_axlesAreBad_23 ?_
    refine r_goto 28 dX7_axlesAreBad_24 (by decide) ?_
    exact r_zret rfl rfl rfl rfl dX7_axlesAreBad_28
  · refine r_iload_n 0 rfl dX7_axlesAreBad_16 ?_
    refine r_sipush (800) (by decide) dX7_axlesAreBad_17 ?_
    refine r_icmp_ge 27 dX7_axlesAreBad_20 (by decide) ?_ ?_
    · refine r_iconst (0) (by decide) dX7_axlesAreBad_27 ?_
      exact r_zret rfl rfl rfl rfl dX7_axlesAreBad_28
    · refine r_iconst (1) (by decide) dX7_axlesAreBad_23 ?_
      refine r_goto 28 dX7_axlesAreBad_24 (by decide) ?_
      exact r_zret rfl rfl rfl rfl dX7_axlesAreBad_28
def f_X7_reasonAgainst (σ : Wd) (i0 : Nat) (i1 : Nat) (p2 : Int32) : Option ((Int32 ⊕ String) × Wd) :=
  gd (i0 < σ.2.2 8) <|
  gd (i1 < σ.2.2 9) <|
  if (σ.1 21 i0 2) = (σ.1 25 i1 0) then
    bx (f_X7_overdueBitsBehind σ i0 (σ.1 25 i1 2)) fun v1 σ2 =>
    if v1 = 0 then
      gd (i1 < σ2.2.2 9) <|
      bx (f_X7_listForbids σ2 i0 (σ2.1 25 i1 3) p2) fun v3 σ4 =>
      if v3 = 0 then
        bx (f_X7_faultsAreGrave σ4 i0) fun v5 σ6 =>
        if v5 = 0 then
          bx (f_X7_axlesAreBad σ6 i0) fun v7 σ8 =>
          if v7 = 0 then
            some (.inl (0 : Int32), σ8)
          else
            some (.inl (5 : Int32), σ8)
        else
          some (.inl (4 : Int32), σ6)
      else
        some (.inl (3 : Int32), σ4)
    else
      some (.inl (2 : Int32), σ2)
  else
    some (.inl (1 : Int32), σ)
theorem nc_X7_reasonAgainst (X : Xt) (hst : X.1.stackTraces = false) (ad : Ad) (σ : Wd) (i0 : Nat) (i1 : Nat) (p2 : Int32) : NC X (fun a => a = ad) yX7_reasonAgainst cX7_reasonAgainst 4 (some (.int)) 8 129 vI (0, 0) ad σ [.ref (ad 7 0), .ref (ad 21 i0), .ref (ad 25 i1), .int p2] (f_X7_reasonAgainst σ i0 i1 p2) := by
  unfold f_X7_reasonAgainst
  refine NC.intro RX7 rfl hst (by decide) (Nat.le_of_ble_eq_true rfl) (lv := [(0, .ref _), (1, .ref _), (2, .ref _), (3, .int _)]) rfl ?_
  refine r_aload_n 1 rfl dX7_reasonAgainst_0 ?_
  refine r_gd (fun h1 => ?_)
  refine r_getf 2 (lvd_21 h1) (cell_21 _ _ _ _) rfl (by decide) in_9 w_235 rfl dX7_reasonAgainst_1 ?_
  refine r_aload_n 2 rfl dX7_reasonAgainst_4 ?_
  refine r_gd (fun h2 => ?_)
  refine r_getf 0 (lvd_25 h2) (cell_25 _ _ _ _) rfl (by decide) in_1 w_236 rfl dX7_reasonAgainst_5 ?_
  refine r_icmp_eq 13 dX7_reasonAgainst_8 (by decide) ?_ ?_
  · refine r_aload_n 0 rfl dX7_reasonAgainst_13 ?_
    refine r_aload_n 1 rfl dX7_reasonAgainst_14 ?_
    refine r_aload_n 2 rfl dX7_reasonAgainst_15 ?_
    refine r_getf 2 (lvd_25 h2) (cell_25 _ _ _ _) rfl (by decide) in_1 w_237 rfl dX7_reasonAgainst_16 ?_
    refine r_callV (n := 2) (As := [.ref _, .int _]) (cell_7 _ _ _ _) (lvs_7 _) rfl (nc_X7_overdueBitsBehind X hst ad _ _ _) (fun _ h => h) rfl ⟨rfl, by decide, by decide, by decide +kernel⟩ w_194 w_195 w_196 w_176 w_197 rfl rfl (Nat.le_of_ble_eq_true rfl) ⟨by decide, by decide⟩ dX7_reasonAgainst_19 (fun v1 σ2 => ?_)
    refine r_if_eq 27 dX7_reasonAgainst_22 (by decide) ?_ ?_
    · refine r_aload_n 0 rfl dX7_reasonAgainst_27 ?_
      refine r_aload_n 1 rfl dX7_reasonAgainst_28 ?_
      refine r_aload_n 2 rfl dX7_reasonAgainst_29 ?_
      refine r_gd (fun h3 => ?_)
      refine r_getf 3 (lvd_25 h3) (cell_25 _ _ _ _) rfl (by decide) in_1 w_238 rfl dX7_reasonAgainst_30 ?_
      refine r_iload_n 3 rfl dX7_reasonAgainst_33 ?_
      refine r_callV (n := 3) (As := [.ref _, .int _, .int _]) (cell_7 _ _ _ _) (lvs_7 _) rfl (nc_X7_listForbids X hst ad _ _ _ _) (fun _ h => h) rfl ⟨rfl, by decide, by decide, by decide +kernel⟩ w_250 w_251 w_252 w_176 w_253 rfl rfl (Nat.le_of_ble_eq_true rfl) ⟨by decide, by decide⟩ dX7_reasonAgainst_34 (fun v3 σ4 => ?_)
      refine r_if_eq 42 dX7_reasonAgainst_37 (by decide) ?_ ?_
      · refine r_aload_n 1 rfl dX7_reasonAgainst_42 ?_
        refine r_callS (n := 1) (As := [.ref _]) (nc_X7_faultsAreGrave X hst ad _ _) (fun _ h => h) rfl ⟨by decide, by decide, by decide +kernel⟩ w_259 w_260 w_176 w_261 rfl rfl (Nat.le_of_ble_eq_true rfl) ⟨by decide, by decide⟩ dX7_reasonAgainst_43 (fun v5 σ6 => ?_)
        refine r_if_eq 51 dX7_reasonAgainst_46 (by decide) ?_ ?_
        · refine r_aload_n 1 rfl dX7_reasonAgainst_51 ?_
          refine r_callS (n := 1) (As := [.ref _]) (nc_X7_axlesAreBad X hst ad _ _) (fun _ h => h) rfl ⟨by decide, by decide, by decide +kernel⟩ w_270 w_271 w_176 w_272 rfl rfl (Nat.le_of_ble_eq_true rfl) ⟨by decide, by decide⟩ dX7_reasonAgainst_52 (fun v7 σ8 => ?_)
          refine r_if_eq 62 dX7_reasonAgainst_55 (by decide) ?_ ?_
          · refine r_iconst (0) (by decide) dX7_reasonAgainst_62 ?_
            exact r_iret rfl rfl rfl dX7_reasonAgainst_63
          · refine r_iconst (5) (by decide) dX7_reasonAgainst_58 ?_
            refine r_goto 63 dX7_reasonAgainst_59 (by decide) ?_
            exact r_iret rfl rfl rfl dX7_reasonAgainst_63
        · refine r_iconst (4) (by decide) dX7_reasonAgainst_49 ?_
          exact r_iret rfl rfl rfl dX7_reasonAgainst_50
      · refine r_iconst (3) (by decide) dX7_reasonAgainst_40 ?_
        exact r_iret rfl rfl rfl dX7_reasonAgainst_41
    · refine r_iconst (2) (by decide) dX7_reasonAgainst_25 ?_
      exact r_iret rfl rfl rfl dX7_reasonAgainst_26
  · refine r_iconst (1) (by decide) dX7_reasonAgainst_11 ?_
    exact r_iret rfl rfl rfl dX7_reasonAgainst_12
def f_X9_whyNot (σ : Wd) (p0 : Int32) (p1 : Int32) : Option ((Int32 ⊕ String) × Wd) :=
  bx (f_X9_unitAt σ p0) fun v1 σ2 =>
  bx (f_X9_diagramAt σ2 p1) fun v3 σ4 =>
  bx (f_X7_reasonAgainst σ4 v1 v3 (σ4.1 0 0 6)) fun v5 σ6 =>
  some (.inl v5, σ6)
theorem nc_X9_whyNot (X : Xt) (hst : X.1.stackTraces = false) (ad : Ad) (σ : Wd) (p0 : Int32) (p1 : Int32) : NC X (fun a => a = ad) yX9_whyNot cX9_whyNot 3 (some (.int)) 9 152 vI (0, 0) ad σ [.ref (ad 0 0), .int p0, .int p1] (f_X9_whyNot σ p0 p1) := by
  unfold f_X9_whyNot
  refine NC.intro RX9 rfl hst (by decide) (Nat.le_of_ble_eq_true rfl) (lv := [(0, .ref _), (1, .int _), (2, .int _)]) rfl ?_
  refine r_aload_n 0 rfl dX9_whyNot_0 ?_
  refine r_getf 3 (lvs_0 _) (cell_0 _ _ _ _) rfl (by decide) in_10 w_198 rfl dX9_whyNot_1 ?_
  refine r_aload_n 0 rfl dX9_whyNot_4 ?_
  refine r_iload_n 1 rfl dX9_whyNot_5 ?_
  refine r_callV (n := 1) (As := [.int _]) (cell_0 _ _ _ _) (lvs_0 _) rfl (nc_X9_unitAt X hst ad _ _) (fun _ h => h) rfl ⟨rfl, by decide, by decide, by decide +kernel⟩ w_230 w_231 w_232 w_203 w_233 rfl rfl (Nat.le_of_ble_eq_true rfl) ⟨by decide, by decide⟩ dX9_whyNot_6 (fun v1 σ2 => ?_)
  refine r_aload_n 0 rfl dX9_whyNot_9 ?_
  refine r_iload_n 2 rfl dX9_whyNot_10 ?_
  refine r_callV (n := 1) (As := [.int _]) (cell_0 _ _ _ _) (lvs_0 _) rfl (nc_X9_diagramAt X hst ad _ _) (fun _ h => h) rfl ⟨rfl, by decide, by decide, by decide +kernel⟩ w_220 w_221 w_222 w_203 w_223 rfl rfl (Nat.le_of_ble_eq_true rfl) ⟨by decide, by decide⟩ dX9_whyNot_11 (fun v3 σ4 => ?_)
  refine r_aload_n 0 rfl dX9_whyNot_14 ?_
  refine r_getf 6 (lvs_0 _) (cell_0 _ _ _ _) rfl (by decide) in_10 w_234 rfl dX9_whyNot_15 ?_
  refine r_callV (n := 3) (As := [.ref _, .ref _, .int _]) (cell_7 _ _ _ _) (lvs_7 _) rfl (nc_X7_reasonAgainst X hst ad _ _ _ _) (fun _ h => h) rfl ⟨rfl, by decide, by decide, by decide +kernel⟩ w_273 w_274 w_275 w_176 w_276 rfl rfl (Nat.le_of_ble_eq_true rfl) ⟨by decide, by decide⟩ dX9_whyNot_18 (fun v5 σ6 => ?_)
  exact r_iret rfl rfl rfl dX9_whyNot_21
def j_X9_readMorning_94 (k41 : Wd → Int32 → Int32 → Int32 → Nat → Int32 → Option ((Unit ⊕ String) × Wd)) (σ : Wd) (ua6 : Nat) (a5 : Int32) (a4 : Int32) (a3 : Int32) (ua2 : Nat) (a1 : Int32) : Option ((Unit ⊕ String) × Wd) :=
  gd (ua2 < σ.2.2 9) <|
  if (σ.1 25 ua2 1) = 0 then
    bx (f_X7_isSoon σ ua6) fun v17 σ18 =>
    if v17 = 0 then
      k41 σ18 (a5 + 1) a4 a3 ua2 a1
    else
      bd ((a4 ||| ((1 : Int32) <<< (a5 &&& 31)))) fun x19 =>
      k41 σ18 (a5 + 1) x19 a3 ua2 a1
  else
    k41 σ (a5 + 1) a4 a3 ua2 a1
def l_X9_readMorning_41 (k16 : Wd → Int32 → Option ((Unit ⊕ String) × Wd)) : Nat → Wd → Int32 → Int32 → Int32 → Nat → Int32 → Option ((Unit ⊕ String) × Wd)
  | 0, _, _, _, _, _, _ => none
  | n + 1, σ, a5, a4, a3, ua2, a1 =>
  bx (f_Jx4a65c_size_8abf5 σ 0) fun v9 σ10 =>
  if v9 ≤ a5 then
    gd (ua2 < σ10.2.2 9) <|
    bx (f_X3_addDiagram σ10 (σ10.1 25 ua2 4) a3 a4) fun v11 σ12 =>
    k16 σ12 (a1 + 1)
  else
    bx (f_X9_unitAt σ10 a5) fun v13 σ14 =>
    gd (ua2 < σ14.2.2 9) <|
    bx (f_X0_isOpenTo σ14 ua2 a5) fun v15 σ16 =>
    if v15 = 0 then
      j_X9_readMorning_94 (l_X9_readMorning_41 k16 n) σ16 v13 a5 a4 a3 ua2 a1
    else
      bx (f_X7_reasonAgainst σ16 v13 ua2 (σ16.1 0 0 6)) fun v20 σ21 =>
      if v20 = 0 then
        bd ((a3 ||| ((1 : Int32) <<< (a5 &&& 31)))) fun x22 =>
        j_X9_readMorning_94 (l_X9_readMorning_41 k16 n) σ21 v13 a5 a4 x22 ua2 a1
      else
        j_X9_readMorning_94 (l_X9_readMorning_41 k16 n) σ21 v13 a5 a4 a3 ua2 a1
def l_X9_readMorning_16 : Nat → Wd → Int32 → Option ((Unit ⊕ String) × Wd)
  | 0, _, _ => none
  | n + 1, σ, a1 =>
  bx (f_Jx4a65c_size_8abf5 σ 1) fun v5 σ6 =>
  if v5 ≤ a1 then
    some (.inl (), σ6)
  else
    bx (f_X9_diagramAt σ6 a1) fun v7 σ8 =>
    l_X9_readMorning_41 (l_X9_readMorning_16 n) FU σ8 (0 : Int32) (0 : Int32) (0 : Int32) v7 a1
def f_X9_readMorning (σ : Wd) : Option ((Unit ⊕ String) × Wd) :=
  bx (f_Jx4a65c_size_8abf5 σ 0) fun v1 σ2 =>
  bx (f_X3_begin σ2 v1) fun v3 σ4 =>
  l_X9_readMorning_16 FU σ4 (0 : Int32)
theorem bj_X9_readMorning_94 (X : Xt) (hst : X.1.stackTraces = false) (ad : Ad) {k41 : Wd → Int32 → Int32 → Int32 → Nat → Int32 → Option ((Unit ⊕ String) × Wd)} (hk41 : ∀ (σ : Wd) (a5 : Int32) (a4 : Int32) (a3 : Int32) (ua2 : Nat) (a1 : Int32), Bk X (fun a => a = ad) cX9_readMorning 7 RX9 none 9 152 vV (0, 0) (0, 0) ad σ 41 [(5, .int a5), (4, .int a4), (3, .int a3), (2, .ref (ad 25 ua2)), (1, .int a1), (0, .ref (ad 0 0))] [] (k41 σ a5 a4 a3 ua2 a1)) (σ : Wd) (ua6 : Nat) (a5 : Int32) (a4 : Int32) (a3 : Int32) (ua2 : Nat) (a1 : Int32) : Bk X (fun a => a = ad) cX9_readMorning 7 RX9 none 9 152 vV (0, 0) (0, 0) ad σ 94 [(6, .ref (ad 21 ua6)), (5, .int a5), (4, .int a4), (3, .int a3), (2, .ref (ad 25 ua2)), (1, .int a1), (0, .ref (ad 0 0))] [] (j_X9_readMorning_94 k41 σ ua6 a5 a4 a3 ua2 a1) := by
  unfold j_X9_readMorning_94
  refine r_aload_n 4 rfl dX9_readMorning_94 ?_
  refine r_gd (fun h3 => ?_)
  refine r_getf 1 (lvd_25 h3) (cell_25 _ _ _ _) rfl (by decide) in_1 w_292 rfl dX9_readMorning_95 ?_
  refine r_if_ne 122 dX9_readMorning_98 (by decide) ?_ ?_
  · refine r_aload_n 6 rfl dX9_readMorning_101 ?_
    refine r_getf 3 (lvs_0 _) (cell_0 _ _ _ _) rfl (by decide) in_10 w_198 rfl dX9_readMorning_102 ?_
    refine r_aload 0 rfl dX9_readMorning_105 ?_
    refine r_callV (n := 1) (As := [.ref _]) (cell_7 _ _ _ _) (lvs_7 _) rfl (nc_X7_isSoon X hst ad _ _) (fun _ h => h) rfl ⟨rfl, by decide, by decide, by decide +kernel⟩ w_293 w_294 w_295 w_176 w_296 rfl rfl (Nat.le_of_ble_eq_true rfl) ⟨by decide, by decide⟩ dX9_readMorning_107 (fun v17 σ18 => ?_)
    refine r_if_eq 122 dX9_readMorning_110 (by decide) ?_ ?_
    · refine r_iinc (1) [(5, .int _), (6, .ref _), (4, .int _), (3, .int _), (2, .ref _), (1, .int _), (0, .ref _)] 1 rfl (by decide) rfl (by decide) dX9_readMorning_122 ?_
      refine r_goto 41 dX9_readMorning_125 (by decide) ?_
      exact r_sub [0, 2, 3, 4, 5, 6] rfl (hk41 _ _ _ _ _ _)
    · refine r_iload 2 rfl dX9_readMorning_113 ?_
      refine r_iconst (1) (by decide) dX9_readMorning_115 ?_
      refine r_iload 1 rfl dX9_readMorning_116 ?_
      refine r_ishl dX9_readMorning_118 ?_
      refine r_ior dX9_readMorning_119 ?_
      refine r_bd ?_
      refine r_istore [(4, .int _), (6, .ref _), (5, .int _), (3, .int _), (2, .ref _), (1, .int _), (0, .ref _)] rfl (by decide) dX9_readMorning_120 ?_
      refine r_iinc (1) [(5, .int _), (4, .int _), (6, .ref _), (3, .int _), (2, .ref _), (1, .int _), (0, .ref _)] 2 rfl (by decide) rfl (by decide) dX9_readMorning_122 ?_
      refine r_goto 41 dX9_readMorning_125 (by decide) ?_
      exact r_sub [0, 1, 3, 4, 5, 6] rfl (hk41 _ _ _ _ _ _)
  · refine r_iinc (1) [(5, .int _), (6, .ref _), (4, .int _), (3, .int _), (2, .ref _), (1, .int _), (0, .ref _)] 1 rfl (by decide) rfl (by decide) dX9_readMorning_122 ?_
    refine r_goto 41 dX9_readMorning_125 (by decide) ?_
    exact r_sub [0, 2, 3, 4, 5, 6] rfl (hk41 _ _ _ _ _ _)
theorem bl_X9_readMorning_41 (X : Xt) (hst : X.1.stackTraces = false) (ad : Ad) {k16 : Wd → Int32 → Option ((Unit ⊕ String) × Wd)} (hk16 : ∀ (σ : Wd) (a1 : Int32), Bk X (fun a => a = ad) cX9_readMorning 7 RX9 none 9 152 vV (0, 0) (0, 0) ad σ 16 [(1, .int a1), (0, .ref (ad 0 0))] [] (k16 σ a1)) : ∀ (n : Nat) (σ : Wd) (a5 : Int32) (a4 : Int32) (a3 : Int32) (ua2 : Nat) (a1 : Int32), Bk X (fun a => a = ad) cX9_readMorning 7 RX9 none 9 152 vV (0, 0) (0, 0) ad σ 41 [(5, .int a5), (4, .int a4), (3, .int a3), (2, .ref (ad 25 ua2)), (1, .int a1), (0, .ref (ad 0 0))] [] (l_X9_readMorning_41 k16 n σ a5 a4 a3 ua2 a1) := by
  intro n
  induction n with
  | zero => intros; exact r_none
  | succ n ih =>
  intro σ a5 a4 a3 ua2 a1
  rw [l_X9_readMorning_41]
  refine r_iload 0 rfl dX9_readMorning_41 ?_
  refine r_aload_n 5 rfl dX9_readMorning_43 ?_
  refine r_getf 0 (lvs_0 _) (cell_0 _ _ _ _) rfl (by decide) in_10 w_225 rfl dX9_readMorning_44 ?_
  refine r_callV (n := 0) (As := []) (cell_1 _ _ _ _) (lvl_0 _) rfl (nc_Jx4a65c_size_8abf5 X hst ad _ _) (fun _ h => h) rfl ⟨rfl, by decide, by decide, by decide +kernel⟩ w_217 w_140 w_141 w_104 w_142 rfl rfl (Nat.le_of_ble_eq_true rfl) ⟨by decide, by decide⟩ dX9_readMorning_47 (fun v9 σ10 => ?_)
  refine r_icmp_ge 128 dX9_readMorning_50 (by decide) ?_ ?_
  · refine r_aload_n 5 rfl dX9_readMorning_128 ?_
    refine r_getf 4 (lvs_0 _) (cell_0 _ _ _ _) rfl (by decide) in_10 w_277 rfl dX9_readMorning_129 ?_
    refine r_aload_n 3 rfl dX9_readMorning_132 ?_
    refine r_gd (fun h1 => ?_)
    refine r_getf 4 (lvd_25 h1) (cell_25 _ _ _ _) rfl (by decide) in_1 w_282 rfl dX9_readMorning_133 ?_
    refine r_iload_n 2 rfl dX9_readMorning_136 ?_
    refine r_iload 1 rfl dX9_readMorning_137 ?_
    refine r_callV (n := 3) (As := [.int _, .int _, .int _]) (cell_12 _ _ _ _) (lvs_12 _) rfl (nc_X3_addDiagram X hst ad _ _ _ _) (fun _ h => h) rfl ⟨rfl, by decide, by decide, by decide +kernel⟩ w_283 w_284 w_285 w_50 w_286 rfl rfl (Nat.le_of_ble_eq_true rfl) ⟨by decide, by decide⟩ dX9_readMorning_139 (fun v11 σ12 => ?_)
    refine r_iinc (1) [(1, .int _), (5, .int _), (4, .int _), (3, .int _), (2, .ref _), (0, .ref _)] 4 rfl (by decide) rfl (by decide) dX9_readMorning_142 ?_
    refine r_goto 16 dX9_readMorning_145 (by decide) ?_
    exact r_sub [0, 5] rfl (hk16 _ _)
  · refine r_aload_n 5 rfl dX9_readMorning_53 ?_
    refine r_iload 0 rfl dX9_readMorning_54 ?_
    refine r_callV (n := 1) (As := [.int _]) (cell_0 _ _ _ _) (lvs_0 _) rfl (nc_X9_unitAt X hst ad _ _) (fun _ h => h) rfl ⟨rfl, by decide, by decide, by decide +kernel⟩ w_230 w_231 w_232 w_203 w_233 rfl rfl (Nat.le_of_ble_eq_true rfl) ⟨by decide, by decide⟩ dX9_readMorning_56 (fun v13 σ14 => ?_)
    refine r_astore [(6, .ref _), (5, .int _), (4, .int _), (3, .int _), (2, .ref _), (1, .int _), (0, .ref _)] rfl (by decide) dX9_readMorning_59 ?_
    refine r_aload_n 4 rfl dX9_readMorning_61 ?_
    refine r_iload 1 rfl dX9_readMorning_62 ?_
    refine r_gd (fun h2 => ?_)
    refine r_callV (n := 1) (As := [.int _]) (cell_25 _ _ _ _) (lvd_25 h2) rfl (nc_X0_isOpenTo X hst ad _ _ _) (fun _ h => h) rfl ⟨rfl, by decide, by decide, by decide +kernel⟩ w_287 w_288 w_289 w_290 w_291 rfl rfl (Nat.le_of_ble_eq_true rfl) ⟨by decide, by decide⟩ dX9_readMorning_64 (fun v15 σ16 => ?_)
    refine r_if_eq 94 dX9_readMorning_67 (by decide) ?_ ?_
    · exact r_sub [0, 1, 2, 3, 4, 5, 6] rfl ((bj_X9_readMorning_94 X hst ad ih) _ _ _ _ _ _ _)
    · refine r_aload_n 6 rfl dX9_readMorning_70 ?_
      refine r_getf 3 (lvs_0 _) (cell_0 _ _ _ _) rfl (by decide) in_10 w_198 rfl dX9_readMorning_71 ?_
      refine r_aload 0 rfl dX9_readMorning_74 ?_
      refine r_aload_n 4 rfl dX9_readMorning_76 ?_
      refine r_aload_n 6 rfl dX9_readMorning_77 ?_
      refine r_getf 6 (lvs_0 _) (cell_0 _ _ _ _) rfl (by decide) in_10 w_234 rfl dX9_readMorning_78 ?_
      refine r_callV (n := 3) (As := [.ref _, .ref _, .int _]) (cell_7 _ _ _ _) (lvs_7 _) rfl (nc_X7_reasonAgainst X hst ad _ _ _ _) (fun _ h => h) rfl ⟨rfl, by decide, by decide, by decide +kernel⟩ w_273 w_274 w_275 w_176 w_276 rfl rfl (Nat.le_of_ble_eq_true rfl) ⟨by decide, by decide⟩ dX9_readMorning_81 (fun v20 σ21 => ?_)
      refine r_if_ne 94 dX9_readMorning_84 (by decide) ?_ ?_
      · refine r_iload_n 3 rfl dX9_readMorning_87 ?_
        refine r_iconst (1) (by decide) dX9_readMorning_88 ?_
        refine r_iload 1 rfl dX9_readMorning_89 ?_
        refine r_ishl dX9_readMorning_91 ?_
        refine r_ior dX9_readMorning_92 ?_
        refine r_bd ?_
        refine r_istore_n [(3, .int _), (6, .ref _), (5, .int _), (4, .int _), (2, .ref _), (1, .int _), (0, .ref _)] rfl (by decide) dX9_readMorning_93 ?_
        exact r_sub [1, 2, 3, 0, 4, 5, 6] rfl ((bj_X9_readMorning_94 X hst ad ih) _ _ _ _ _ _ _)
      · exact r_sub [0, 1, 2, 3, 4, 5, 6] rfl ((bj_X9_readMorning_94 X hst ad ih) _ _ _ _ _ _ _)
theorem bl_X9_readMorning_16 (X : Xt) (hst : X.1.stackTraces = false) (ad : Ad) : ∀ (n : Nat) (σ : Wd) (a1 : Int32), Bk X (fun a => a = ad) cX9_readMorning 7 RX9 none 9 152 vV (0, 0) (0, 0) ad σ 16 [(1, .int a1), (0, .ref (ad 0 0))] [] (l_X9_readMorning_16 n σ a1) := by
  intro n
  induction n with
  | zero => intros; exact r_none
  | succ n ih =>
  intro σ a1
  rw [l_X9_readMorning_16]
  refine r_iload_n 0 rfl dX9_readMorning_16 ?_
  refine r_aload_n 1 rfl dX9_readMorning_17 ?_
  refine r_getf 1 (lvs_0 _) (cell_0 _ _ _ _) rfl (by decide) in_10 w_216 rfl dX9_readMorning_18 ?_
  refine r_callV (n := 0) (As := []) (cell_1 _ _ _ _) (lvl_1 _) rfl (nc_Jx4a65c_size_8abf5 X hst ad _ _) (fun _ h => h) rfl ⟨rfl, by decide, by decide, by decide +kernel⟩ w_217 w_140 w_141 w_104 w_142 rfl rfl (Nat.le_of_ble_eq_true rfl) ⟨by decide, by decide⟩ dX9_readMorning_21 (fun v5 σ6 => ?_)
  refine r_icmp_ge 148 dX9_readMorning_24 (by decide) ?_ ?_
  · exact r_vret rfl rfl rfl dX9_readMorning_148
  · refine r_aload_n 1 rfl dX9_readMorning_27 ?_
    refine r_iload_n 0 rfl dX9_readMorning_28 ?_
    refine r_callV (n := 1) (As := [.int _]) (cell_0 _ _ _ _) (lvs_0 _) rfl (nc_X9_diagramAt X hst ad _ _) (fun _ h => h) rfl ⟨rfl, by decide, by decide, by decide +kernel⟩ w_220 w_221 w_222 w_203 w_223 rfl rfl (Nat.le_of_ble_eq_true rfl) ⟨by decide, by decide⟩ dX9_readMorning_29 (fun v7 σ8 => ?_)
    refine r_astore_n [(2, .ref _), (1, .int _), (0, .ref _)] rfl (by decide) dX9_readMorning_32 ?_
    refine r_iconst (0) (by decide) dX9_readMorning_33 ?_
    refine r_istore_n [(3, .int _), (2, .ref _), (1, .int _), (0, .ref _)] rfl (by decide) dX9_readMorning_34 ?_
    refine r_iconst (0) (by decide) dX9_readMorning_35 ?_
    refine r_istore [(4, .int _), (3, .int _), (2, .ref _), (1, .int _), (0, .ref _)] rfl (by decide) dX9_readMorning_36 ?_
    refine r_iconst (0) (by decide) dX9_readMorning_38 ?_
    refine r_istore [(5, .int _), (4, .int _), (3, .int _), (2, .ref _), (1, .int _), (0, .ref _)] rfl (by decide) dX9_readMorning_39 ?_
    exact r_sub [0, 1, 2, 3, 4, 5] rfl ((bl_X9_readMorning_41 X hst ad ih FU) _ _ _ _ _ _)
theorem nc_X9_readMorning (X : Xt) (hst : X.1.stackTraces = false) (ad : Ad) (σ : Wd) : NC X (fun a => a = ad) yX9_readMorning cX9_readMorning 7 none 9 152 vV (0, 0) ad σ [.ref (ad 0 0)] (f_X9_readMorning σ) := by
  unfold f_X9_readMorning
  refine NC.intro RX9 rfl hst (by decide) (Nat.le_of_ble_eq_true rfl) (lv := [(0, .ref _)]) rfl ?_
  refine r_aload_n 0 rfl dX9_readMorning_0 ?_
  refine r_getf 4 (lvs_0 _) (cell_0 _ _ _ _) rfl (by decide) in_10 w_277 rfl dX9_readMorning_1 ?_
  refine r_aload_n 0 rfl dX9_readMorning_4 ?_
  refine r_getf 0 (lvs_0 _) (cell_0 _ _ _ _) rfl (by decide) in_10 w_225 rfl dX9_readMorning_5 ?_
  refine r_callV (n := 0) (As := []) (cell_1 _ _ _ _) (lvl_0 _) rfl (nc_Jx4a65c_size_8abf5 X hst ad _ _) (fun _ h => h) rfl ⟨rfl, by decide, by decide, by decide +kernel⟩ w_217 w_140 w_141 w_104 w_142 rfl rfl (Nat.le_of_ble_eq_true rfl) ⟨by decide, by decide⟩ dX9_readMorning_8 (fun v1 σ2 => ?_)
  refine r_callV (n := 1) (As := [.int _]) (cell_12 _ _ _ _) (lvs_12 _) rfl (nc_X3_begin X hst ad _ _) (fun _ h => h) rfl ⟨rfl, by decide, by decide, by decide +kernel⟩ w_278 w_279 w_280 w_50 w_281 rfl rfl (Nat.le_of_ble_eq_true rfl) ⟨by decide, by decide⟩ dX9_readMorning_11 (fun v3 σ4 => ?_)
  refine r_iconst (0) (by decide) dX9_readMorning_14 ?_
  refine r_istore_n [(1, .int _), (0, .ref _)] rfl (by decide) dX9_readMorning_15 ?_
  exact r_sub [0, 1] rfl ((bl_X9_readMorning_16 X hst ad FU) _ _)
def f_X9_allocation (σ : Wd) (p0 : Int32) : Option ((Int32 ⊕ String) × Wd) :=
  bx (f_Jx4a65c_size_8abf5 σ 1) fun v1 σ2 =>
  bx (f_X9_checkNumber σ2 p0 v1) fun v3 σ4 =>
  bx (f_X9_readMorning σ4) fun v5 σ6 =>
  bx (f_X3_allocateByParts σ6) fun v7 σ8 =>
  bx (f_X3_givenTo σ8 p0) fun v9 σ10 =>
  some (.inl v9, σ10)
theorem nc_X9_allocation (X : Xt) (hst : X.1.stackTraces = false) (ad : Ad) (σ : Wd) (p0 : Int32) : NC X (fun a => a = ad) yX9_allocation cX9_allocation 2 (some (.int)) 10 178 vI (0, 0) ad σ [.ref (ad 0 0), .int p0] (f_X9_allocation σ p0) := by
  unfold f_X9_allocation
  refine NC.intro RX9 rfl hst (by decide) (Nat.le_of_ble_eq_true rfl) (lv := [(0, .ref _), (1, .int _)]) rfl ?_
  refine r_iload_n 1 rfl dX9_allocation_0 ?_
  refine r_aload_n 0 rfl dX9_allocation_1 ?_
  refine r_getf 1 (lvs_0 _) (cell_0 _ _ _ _) rfl (by decide) in_10 w_216 rfl dX9_allocation_2 ?_
  refine r_callV (n := 0) (As := []) (cell_1 _ _ _ _) (lvl_1 _) rfl (nc_Jx4a65c_size_8abf5 X hst ad _ _) (fun _ h => h) rfl ⟨rfl, by decide, by decide, by decide +kernel⟩ w_217 w_140 w_141 w_104 w_142 rfl rfl (Nat.le_of_ble_eq_true rfl) ⟨by decide, by decide⟩ dX9_allocation_5 (fun v1 σ2 => ?_)
  refine r_callS (n := 2) (As := [.int _, .int _]) (nc_X9_checkNumber X hst ad _ _ _) (fun _ h => h) rfl ⟨by decide, by decide, by decide +kernel⟩ w_226 w_227 w_203 w_228 rfl rfl (Nat.le_of_ble_eq_true rfl) ⟨by decide, by decide⟩ dX9_allocation_8 (fun v3 σ4 => ?_)
  refine r_aload_n 0 rfl dX9_allocation_11 ?_
  refine r_callV (n := 0) (As := []) (cell_0 _ _ _ _) (lvs_0 _) rfl (nc_X9_readMorning X hst ad _) (fun _ h => h) rfl ⟨rfl, by decide, by decide, by decide +kernel⟩ w_297 w_298 w_299 w_203 w_300 rfl rfl (Nat.le_of_ble_eq_true rfl) ⟨by decide, by decide⟩ dX9_allocation_12 (fun v5 σ6 => ?_)
  refine r_aload_n 0 rfl dX9_allocation_15 ?_
  refine r_getf 4 (lvs_0 _) (cell_0 _ _ _ _) rfl (by decide) in_10 w_277 rfl dX9_allocation_16 ?_
  refine r_callV (n := 0) (As := []) (cell_12 _ _ _ _) (lvs_12 _) rfl (nc_X3_allocateByParts X hst ad _) (fun _ h => h) rfl ⟨rfl, by decide, by decide, by decide +kernel⟩ w_301 w_302 w_303 w_50 w_304 rfl rfl (Nat.le_of_ble_eq_true rfl) ⟨by decide, by decide⟩ dX9_allocation_19 (fun v7 σ8 => ?_)
  refine r_aload_n 0 rfl dX9_allocation_22 ?_
  refine r_getf 4 (lvs_0 _) (cell_0 _ _ _ _) rfl (by decide) in_10 w_277 rfl dX9_allocation_23 ?_
  refine r_iload_n 1 rfl dX9_allocation_26 ?_
  refine r_callV (n := 1) (As := [.int _]) (cell_12 _ _ _ _) (lvs_12 _) rfl (nc_X3_givenTo X hst ad _ _) (fun _ h => h) rfl ⟨rfl, by decide, by decide, by decide +kernel⟩ w_305 w_306 w_307 w_50 w_308 rfl rfl (Nat.le_of_ble_eq_true rfl) ⟨by decide, by decide⟩ dX9_allocation_27 (fun v9 σ10 => ?_)
  exact r_iret rfl rfl rfl dX9_allocation_30
def f_X9_allocationAnew (σ : Wd) (p0 : Int32) : Option ((Int32 ⊕ String) × Wd) :=
  bx (f_Jx4a65c_size_8abf5 σ 1) fun v1 σ2 =>
  bx (f_X9_checkNumber σ2 p0 v1) fun v3 σ4 =>
  bx (f_Jx4a65c_size_8abf5 σ4 1) fun v5 σ6 =>
  if v5 ≤ (4 : Int32) then
    bx (f_X9_readMorning σ6) fun v7 σ8 =>
    bx (f_X3_allocateByAll σ8) fun v9 σ10 =>
    bx (f_X3_givenTo σ10 p0) fun v11 σ12 =>
    some (.inl v11, σ12)
  else
    some (.inr "java/lang/IllegalStateException", σ6)
theorem nc_X9_allocationAnew (X : Xt) (hst : X.1.stackTraces = false) (ad : Ad) (σ : Wd) (p0 : Int32) : NC X (fun a => a = ad) yX9_allocationAnew cX9_allocationAnew 2 (some (.int)) 10 178 vI (0, 0) ad σ [.ref (ad 0 0), .int p0] (f_X9_allocationAnew σ p0) := by
  unfold f_X9_allocationAnew
  refine NC.intro RX9 rfl hst (by decide) (Nat.le_of_ble_eq_true rfl) (lv := [(0, .ref _), (1, .int _)]) rfl ?_
  refine r_iload_n 1 rfl dX9_allocationAnew_0 ?_
  refine r_aload_n 0 rfl dX9_allocationAnew_1 ?_
  refine r_getf 1 (lvs_0 _) (cell_0 _ _ _ _) rfl (by decide) in_10 w_216 rfl dX9_allocationAnew_2 ?_
  refine r_callV (n := 0) (As := []) (cell_1 _ _ _ _) (lvl_1 _) rfl (nc_Jx4a65c_size_8abf5 X hst ad _ _) (fun _ h => h) rfl ⟨rfl, by decide, by decide, by decide +kernel⟩ w_217 w_140 w_141 w_104 w_142 rfl rfl (Nat.le_of_ble_eq_true rfl) ⟨by decide, by decide⟩ dX9_allocationAnew_5 (fun v1 σ2 => ?_)
  refine r_callS (n := 2) (As := [.int _, .int _]) (nc_X9_checkNumber X hst ad _ _ _) (fun _ h => h) rfl ⟨by decide, by decide, by decide +kernel⟩ w_226 w_227 w_203 w_228 rfl rfl (Nat.le_of_ble_eq_true rfl) ⟨by decide, by decide⟩ dX9_allocationAnew_8 (fun v3 σ4 => ?_)
  refine r_aload_n 0 rfl dX9_allocationAnew_11 ?_
  refine r_getf 1 (lvs_0 _) (cell_0 _ _ _ _) rfl (by decide) in_10 w_216 rfl dX9_allocationAnew_12 ?_
  refine r_callV (n := 0) (As := []) (cell_1 _ _ _ _) (lvl_1 _) rfl (nc_Jx4a65c_size_8abf5 X hst ad _ _) (fun _ h => h) rfl ⟨rfl, by decide, by decide, by decide +kernel⟩ w_217 w_140 w_141 w_104 w_142 rfl rfl (Nat.le_of_ble_eq_true rfl) ⟨by decide, by decide⟩ dX9_allocationAnew_15 (fun v5 σ6 => ?_)
  refine r_iconst (4) (by decide) dX9_allocationAnew_18 ?_
  refine r_icmp_le 32 dX9_allocationAnew_19 (by decide) ?_ ?_
  · refine r_aload_n 0 rfl dX9_allocationAnew_32 ?_
    refine r_callV (n := 0) (As := []) (cell_0 _ _ _ _) (lvs_0 _) rfl (nc_X9_readMorning X hst ad _) (fun _ h => h) rfl ⟨rfl, by decide, by decide, by decide +kernel⟩ w_297 w_298 w_299 w_203 w_300 rfl rfl (Nat.le_of_ble_eq_true rfl) ⟨by decide, by decide⟩ dX9_allocationAnew_33 (fun v7 σ8 => ?_)
    refine r_aload_n 0 rfl dX9_allocationAnew_36 ?_
    refine r_getf 4 (lvs_0 _) (cell_0 _ _ _ _) rfl (by decide) in_10 w_277 rfl dX9_allocationAnew_37 ?_
    refine r_callV (n := 0) (As := []) (cell_12 _ _ _ _) (lvs_12 _) rfl (nc_X3_allocateByAll X hst ad _) (fun _ h => h) rfl ⟨rfl, by decide, by decide, by decide +kernel⟩ w_309 w_310 w_311 w_50 w_312 rfl rfl (Nat.le_of_ble_eq_true rfl) ⟨by decide, by decide⟩ dX9_allocationAnew_40 (fun v9 σ10 => ?_)
    refine r_aload_n 0 rfl dX9_allocationAnew_43 ?_
    refine r_getf 4 (lvs_0 _) (cell_0 _ _ _ _) rfl (by decide) in_10 w_277 rfl dX9_allocationAnew_44 ?_
    refine r_iload_n 1 rfl dX9_allocationAnew_47 ?_
    refine r_callV (n := 1) (As := [.int _]) (cell_12 _ _ _ _) (lvs_12 _) rfl (nc_X3_givenTo X hst ad _ _) (fun _ h => h) rfl ⟨rfl, by decide, by decide, by decide +kernel⟩ w_305 w_306 w_307 w_50 w_308 rfl rfl (Nat.le_of_ble_eq_true rfl) ⟨by decide, by decide⟩ dX9_allocationAnew_48 (fun v11 σ12 => ?_)
    exact r_iret rfl rfl rfl dX9_allocationAnew_51
  · exact r_throw (text := "more than 4 diagrams") at_4 (by decide +kernel) rfl dX9_allocationAnew_22 dX9_allocationAnew_25 dX9_allocationAnew_26 dX9_allocationAnew_28 dX9_allocationAnew_31 (by decide) (Nat.le_of_ble_eq_true rfl)
def f_X9_lack (σ : Wd) : Option ((Int32 ⊕ String) × Wd) :=
  bx (f_X9_readMorning σ) fun v1 σ2 =>
  bx (f_X3_allocateByParts σ2) fun v3 σ4 =>
  bx (f_X3_lackOfGiven σ4) fun v5 σ6 =>
  some (.inl v5, σ6)
theorem nc_X9_lack (X : Xt) (hst : X.1.stackTraces = false) (ad : Ad) (σ : Wd) : NC X (fun a => a = ad) yX9_lack cX9_lack 1 (some (.int)) 10 178 vI (0, 0) ad σ [.ref (ad 0 0)] (f_X9_lack σ) := by
  unfold f_X9_lack
  refine NC.intro RX9 rfl hst (by decide) (Nat.le_of_ble_eq_true rfl) (lv := [(0, .ref _)]) rfl ?_
  refine r_aload_n 0 rfl dX9_lack_0 ?_
  refine r_callV (n := 0) (As := []) (cell_0 _ _ _ _) (lvs_0 _) rfl (nc_X9_readMorning X hst ad _) (fun _ h => h) rfl ⟨rfl, by decide, by decide, by decide +kernel⟩ w_297 w_298 w_299 w_203 w_300 rfl rfl (Nat.le_of_ble_eq_true rfl) ⟨by decide, by decide⟩ dX9_lack_1 (fun v1 σ2 => ?_)
  refine r_aload_n 0 rfl dX9_lack_4 ?_
  refine r_getf 4 (lvs_0 _) (cell_0 _ _ _ _) rfl (by decide) in_10 w_277 rfl dX9_lack_5 ?_
  refine r_callV (n := 0) (As := []) (cell_12 _ _ _ _) (lvs_12 _) rfl (nc_X3_allocateByParts X hst ad _) (fun _ h => h) rfl ⟨rfl, by decide, by decide, by decide +kernel⟩ w_301 w_302 w_303 w_50 w_304 rfl rfl (Nat.le_of_ble_eq_true rfl) ⟨by decide, by decide⟩ dX9_lack_8 (fun v3 σ4 => ?_)
  refine r_aload_n 0 rfl dX9_lack_11 ?_
  refine r_getf 4 (lvs_0 _) (cell_0 _ _ _ _) rfl (by decide) in_10 w_277 rfl dX9_lack_12 ?_
  refine r_callV (n := 0) (As := []) (cell_12 _ _ _ _) (lvs_12 _) rfl (nc_X3_lackOfGiven X hst ad _) (fun _ h => h) rfl ⟨rfl, by decide, by decide, by decide +kernel⟩ w_313 w_314 w_315 w_50 w_316 rfl rfl (Nat.le_of_ble_eq_true rfl) ⟨by decide, by decide⟩ dX9_lack_15 (fun v5 σ6 => ?_)
  exact r_iret rfl rfl rfl dX9_lack_18
def j_X9_rowAt_23 (σ : Wd) (a1 : Int32) : Option ((Nat ⊕ String) × Wd) :=
  some (.inr "java/lang/IndexOutOfBoundsException", σ)
def j_X9_rowAt_22 (σ : Wd) (a1 : Int32) : Option ((Nat ⊕ String) × Wd) :=
  j_X9_rowAt_23 σ a1
def j_X9_rowAt_23b (σ : Wd) (a1 : Int32) (us0 : Nat) : Option ((Nat ⊕ String) × Wd) :=
  some (.inl us0, σ)
def f_X9_rowAt (σ : Wd) (p0 : Int32) : Option ((Nat ⊕ String) × Wd) :=
  if p0 < 0 then
    j_X9_rowAt_22 σ p0
  else
    if (3 : Int32) ≤ p0 then
      j_X9_rowAt_22 σ p0
    else
      gd (inb p0 3) <|
      j_X9_rowAt_23b σ p0 p0.toNatClampNeg
theorem bj_X9_rowAt_23 (X : Xt) (hst : X.1.stackTraces = false) (ad : Ad) (σ : Wd) (a1 : Int32) : Bk X (fun a => a = ad) cX9_rowAt 3 RX9 (some ((.object "Stablingroad$Row"))) 6 82 (vR ad 5) (0, 0) (0, 0) ad σ 23 [(0, .ref (ad 0 0)), (1, .int a1)] [.null] (j_X9_rowAt_23 σ a1) := by
  unfold j_X9_rowAt_23
  refine r_astore_nN [(2, .null), (0, .ref _), (1, .int _)] rfl (by decide) dX9_rowAt_23 ?_
  refine r_aload_nN 0 rfl dX9_rowAt_24 ?_
  refine r_ifnonnullN dX9_rowAt_25 ?_
  exact r_throwW (text := "no such depot") at_3 (by decide +kernel) rfl dX9_rowAt_28 dX9_rowAt_31 dX9_rowAt_32 dX9_rowAt_35 dX9_rowAt_38 (by decide) (Nat.le_of_ble_eq_true rfl)
theorem bj_X9_rowAt_22 (X : Xt) (hst : X.1.stackTraces = false) (ad : Ad) (σ : Wd) (a1 : Int32) : Bk X (fun a => a = ad) cX9_rowAt 3 RX9 (some ((.object "Stablingroad$Row"))) 6 82 (vR ad 5) (0, 0) (0, 0) ad σ 22 [(0, .ref (ad 0 0)), (1, .int a1)] [] (j_X9_rowAt_22 σ a1) := by
  unfold j_X9_rowAt_22
  refine r_null dX9_rowAt_22 ?_
  exact r_sub [0, 1] rfl ((bj_X9_rowAt_23 X hst ad) _ _)
theorem bj_X9_rowAt_23b (X : Xt) (hst : X.1.stackTraces = false) (ad : Ad) (σ : Wd) (a1 : Int32) (us0 : Nat) : Bk X (fun a => a = ad) cX9_rowAt 3 RX9 (some ((.object "Stablingroad$Row"))) 6 82 (vR ad 5) (0, 0) (0, 0) ad σ 23 [(0, .ref (ad 0 0)), (1, .int a1)] [.ref (ad 5 us0)] (j_X9_rowAt_23b σ a1 us0) := by
  unfold j_X9_rowAt_23b
  refine r_astore_n [(2, .ref _), (0, .ref _), (1, .int _)] rfl (by decide) dX9_rowAt_23 ?_
  refine r_aload_n 0 rfl dX9_rowAt_24 ?_
  refine r_ifnonnull 39 dX9_rowAt_25 (by decide) ?_
  refine r_aload_n 0 rfl dX9_rowAt_39 ?_
  exact r_aret rfl rfl rfl dX9_rowAt_40
theorem nc_X9_rowAt (X : Xt) (hst : X.1.stackTraces = false) (ad : Ad) (σ : Wd) (p0 : Int32) : NC X (fun a => a = ad) yX9_rowAt cX9_rowAt 3 (some ((.object "Stablingroad$Row"))) 6 82 (vR ad 5) (0, 0) ad σ [.ref (ad 0 0), .int p0] (f_X9_rowAt σ p0) := by
  unfold f_X9_rowAt
  refine NC.intro RX9 rfl hst (by decide) (Nat.le_of_ble_eq_true rfl) (lv := [(0, .ref _), (1, .int _)]) rfl ?_
  refine r_iload_n 1 rfl dX9_rowAt_0 ?_
  refine r_if_lt 22 dX9_rowAt_1 (by decide) ?_ ?_
  · exact r_sub [0, 1] rfl ((bj_X9_rowAt_22 X hst ad) _ _)
  · refine r_iload_n 1 rfl dX9_rowAt_4 ?_
    refine r_aload_n 0 rfl dX9_rowAt_5 ?_
    refine r_getf 2 (lvs_0 _) (cell_0 _ _ _ _) rfl (by decide) in_10 w_323 rfl dX9_rowAt_6 ?_
    refine r_alen (3) (lvs_4 _) (cell_4 _ _ _ _) rfl rfl dX9_rowAt_9 ?_
    refine r_icmp_ge 22 dX9_rowAt_10 (by decide) ?_ ?_
    · exact r_sub [0, 1] rfl ((bj_X9_rowAt_22 X hst ad) _ _)
    · refine r_aload_n 0 rfl dX9_rowAt_13 ?_
      refine r_getf 2 (lvs_0 _) (cell_0 _ _ _ _) rfl (by decide) in_10 w_323 rfl dX9_rowAt_14 ?_
      refine r_iload_n 1 rfl dX9_rowAt_17 ?_
      refine r_gd (fun h1 => ?_)
      refine r_aaload _ (lvs_4 _) (cell_4 _ _ _ _) rfl h1 rfl dX9_rowAt_18 ?_
      refine r_goto 23 dX9_rowAt_19 (by decide) ?_
      exact r_sub [0, 1] rfl ((bj_X9_rowAt_23b X hst ad) _ _ _)
def l_X9_leaveRows_2 : Nat → Wd → Int32 → Option ((Unit ⊕ String) × Wd)
  | 0, _, _ => none
  | n + 1, σ, a1 =>
  bx (f_Jx4a65c_size_8abf5 σ 1) fun v1 σ2 =>
  if v1 ≤ a1 then
    some (.inl (), σ2)
  else
    bx (f_X3_givenTo σ2 a1) fun v3 σ4 =>
    bx (f_X4_record σ4 a1 (σ4.1 0 0 6) v3) fun v5 σ6 =>
    if v3 = (-1 : Int32) then
      (l_X9_leaveRows_2 n) σ6 (a1 + 1)
    else
      bx (f_X9_unitAt σ6 v3) fun v7 σ8 =>
      gd (v7 < σ8.2.2 8) <|
      bx (f_X9_rowAt σ8 (σ8.1 21 v7 2)) fun v9 σ10 =>
      gd (v9 < 3) <|
      bx (f_X6_behind σ10 v9 v3) fun v11 σ12 =>
      bd (wr σ12 0 0 7 ((σ10.1 0 0 7) + v11)) fun σ13 =>
      bx (f_X6_leave σ13 v9 v3) fun v14 σ15 =>
      (l_X9_leaveRows_2 n) σ15 (a1 + 1)
def f_X9_leaveRows (σ : Wd) : Option ((Unit ⊕ String) × Wd) :=
  l_X9_leaveRows_2 FU σ (0 : Int32)
theorem bl_X9_leaveRows_2 (X : Xt) (hst : X.1.stackTraces = false) (ad : Ad) : ∀ (n : Nat) (σ : Wd) (a1 : Int32), Bk X (fun a => a = ad) cX9_leaveRows 4 RX9 none 7 104 vV (0, 0) (0, 0) ad σ 2 [(1, .int a1), (0, .ref (ad 0 0))] [] (l_X9_leaveRows_2 n σ a1) := by
  intro n
  induction n with
  | zero => intros; exact r_none
  | succ n ih =>
  intro σ a1
  rw [l_X9_leaveRows_2]
  refine r_iload_n 0 rfl dX9_leaveRows_2 ?_
  refine r_aload_n 1 rfl dX9_leaveRows_3 ?_
  refine r_getf 1 (lvs_0 _) (cell_0 _ _ _ _) rfl (by decide) in_10 w_216 rfl dX9_leaveRows_4 ?_
  refine r_callV (n := 0) (As := []) (cell_1 _ _ _ _) (lvl_1 _) rfl (nc_Jx4a65c_size_8abf5 X hst ad _ _) (fun _ h => h) rfl ⟨rfl, by decide, by decide, by decide +kernel⟩ w_217 w_140 w_141 w_104 w_142 rfl rfl (Nat.le_of_ble_eq_true rfl) ⟨by decide, by decide⟩ dX9_leaveRows_7 (fun v1 σ2 => ?_)
  refine r_icmp_ge 78 dX9_leaveRows_10 (by decide) ?_ ?_
  · exact r_vret rfl rfl rfl dX9_leaveRows_78
  · refine r_aload_n 1 rfl dX9_leaveRows_13 ?_
    refine r_getf 4 (lvs_0 _) (cell_0 _ _ _ _) rfl (by decide) in_10 w_277 rfl dX9_leaveRows_14 ?_
    refine r_iload_n 0 rfl dX9_leaveRows_17 ?_
    refine r_callV (n := 1) (As := [.int _]) (cell_12 _ _ _ _) (lvs_12 _) rfl (nc_X3_givenTo X hst ad _ _) (fun _ h => h) rfl ⟨rfl, by decide, by decide, by decide +kernel⟩ w_305 w_306 w_307 w_50 w_308 rfl rfl (Nat.le_of_ble_eq_true rfl) ⟨by decide, by decide⟩ dX9_leaveRows_18 (fun v3 σ4 => ?_)
    refine r_istore_n [(2, .int _), (1, .int _), (0, .ref _)] rfl (by decide) dX9_leaveRows_21 ?_
    refine r_aload_n 2 rfl dX9_leaveRows_22 ?_
    refine r_getf 5 (lvs_0 _) (cell_0 _ _ _ _) rfl (by decide) in_10 w_317 rfl dX9_leaveRows_23 ?_
    refine r_iload_n 1 rfl dX9_leaveRows_26 ?_
    refine r_aload_n 2 rfl dX9_leaveRows_27 ?_
    refine r_getf 6 (lvs_0 _) (cell_0 _ _ _ _) rfl (by decide) in_10 w_234 rfl dX9_leaveRows_28 ?_
    refine r_iload_n 0 rfl dX9_leaveRows_31 ?_
    refine r_callV (n := 3) (As := [.int _, .int _, .int _]) (cell_19 _ _ _ _) (lvs_19 _) rfl (nc_X4_record X hst ad _ _ _ _) (fun _ h => h) rfl ⟨rfl, by decide, by decide, by decide +kernel⟩ w_318 w_319 w_320 w_19 w_321 rfl rfl (Nat.le_of_ble_eq_true rfl) ⟨by decide, by decide⟩ dX9_leaveRows_32 (fun v5 σ6 => ?_)
    refine r_iload_n 0 rfl dX9_leaveRows_35 ?_
    refine r_iconst (-1) (by decide) dX9_leaveRows_36 ?_
    refine r_icmp_eq 72 dX9_leaveRows_37 (by decide) ?_ ?_
    · refine r_iinc (1) [(1, .int _), (2, .int _), (0, .ref _)] 1 rfl (by decide) rfl (by decide) dX9_leaveRows_72 ?_
      refine r_goto 2 dX9_leaveRows_75 (by decide) ?_
      exact r_sub [0, 2] rfl (ih _ _)
    · refine r_aload_n 2 rfl dX9_leaveRows_40 ?_
      refine r_aload_n 2 rfl dX9_leaveRows_41 ?_
      refine r_iload_n 0 rfl dX9_leaveRows_42 ?_
      refine r_callV (n := 1) (As := [.int _]) (cell_0 _ _ _ _) (lvs_0 _) rfl (nc_X9_unitAt X hst ad _ _) (fun _ h => h) rfl ⟨rfl, by decide, by decide, by decide +kernel⟩ w_230 w_231 w_232 w_203 w_233 rfl rfl (Nat.le_of_ble_eq_true rfl) ⟨by decide, by decide⟩ dX9_leaveRows_43 (fun v7 σ8 => ?_)
      refine r_gd (fun h1 => ?_)
      refine r_getf 2 (lvd_21 h1) (cell_21 _ _ _ _) rfl (by decide) in_9 w_322 rfl dX9_leaveRows_46 ?_
      refine r_callV (n := 1) (As := [.int _]) (cell_0 _ _ _ _) (lvs_0 _) rfl (nc_X9_rowAt X hst ad _ _) (fun _ h => h) rfl ⟨rfl, by decide, by decide, by decide +kernel⟩ w_324 w_325 w_326 w_203 w_327 rfl rfl (Nat.le_of_ble_eq_true rfl) ⟨by decide, by decide⟩ dX9_leaveRows_49 (fun v9 σ10 => ?_)
      refine r_astore_n [(3, .ref _), (2, .int _), (1, .int _), (0, .ref _)] rfl (by decide) dX9_leaveRows_52 ?_
      refine r_aload_n 3 rfl dX9_leaveRows_53 ?_
      refine r_dup rfl dX9_leaveRows_54 ?_
      refine r_getf 7 (lvs_0 _) (cell_0 _ _ _ _) rfl (by decide) in_10 w_328 rfl dX9_leaveRows_55 ?_
      refine r_aload_n 0 rfl dX9_leaveRows_58 ?_
      refine r_iload_n 1 rfl dX9_leaveRows_59 ?_
      refine r_gd (fun h2 => ?_)
      refine r_callV (n := 1) (As := [.int _]) (cell_5 _ _ _ _) (lvb_5 h2) rfl (nc_X6_behind X hst ad _ _ _) (fun _ h => h) rfl ⟨rfl, by decide, by decide, by decide +kernel⟩ w_329 w_330 w_331 w_332 w_333 rfl rfl (Nat.le_of_ble_eq_true rfl) ⟨by decide, by decide⟩ dX9_leaveRows_60 (fun v11 σ12 => ?_)
      refine r_iadd dX9_leaveRows_63 ?_
      refine r_bd ?_
      refine r_putf 7 tyX9 tyX9_ok nmX9 (lvs_0 _) (cell_0 _ _ _ _) (wrc_0_7 _ _ _ _ _) rfl (by decide) (Nat.le_of_ble_eq_true rfl) in_10 w_328 rfl rfl rfl dX9_leaveRows_64 ?_
      refine r_aload_n 0 rfl dX9_leaveRows_67 ?_
      refine r_iload_n 1 rfl dX9_leaveRows_68 ?_
      refine r_callV (n := 1) (As := [.int _]) (cell_5 _ _ _ _) (lvb_5 h2) rfl (nc_X6_leave X hst ad _ _ _) (fun _ h => h) rfl ⟨rfl, by decide, by decide, by decide +kernel⟩ w_334 w_335 w_336 w_332 w_337 rfl rfl (Nat.le_of_ble_eq_true rfl) ⟨by decide, by decide⟩ dX9_leaveRows_69 (fun v14 σ15 => ?_)
      refine r_iinc (1) [(1, .int _), (3, .ref _), (2, .int _), (0, .ref _)] 2 rfl (by decide) rfl (by decide) dX9_leaveRows_72 ?_
      refine r_goto 2 dX9_leaveRows_75 (by decide) ?_
      exact r_sub [0, 3] rfl (ih _ _)
theorem nc_X9_leaveRows (X : Xt) (hst : X.1.stackTraces = false) (ad : Ad) (σ : Wd) : NC X (fun a => a = ad) yX9_leaveRows cX9_leaveRows 4 none 7 104 vV (0, 0) ad σ [.ref (ad 0 0)] (f_X9_leaveRows σ) := by
  unfold f_X9_leaveRows
  refine NC.intro RX9 rfl hst (by decide) (Nat.le_of_ble_eq_true rfl) (lv := [(0, .ref _)]) rfl ?_
  refine r_iconst (0) (by decide) dX9_leaveRows_0 ?_
  refine r_istore_n [(1, .int _), (0, .ref _)] rfl (by decide) dX9_leaveRows_1 ?_
  exact r_sub [0, 1] rfl ((bl_X9_leaveRows_2 X hst ad FU) _ _)
def l_X9_comeToDepots_2 : Nat → Wd → Int32 → Option ((Unit ⊕ String) × Wd)
  | 0, _, _ => none
  | n + 1, σ, a1 =>
  bx (f_Jx4a65c_size_8abf5 σ 1) fun v1 σ2 =>
  if v1 ≤ a1 then
    some (.inl (), σ2)
  else
    bx (f_X3_givenTo σ2 a1) fun v3 σ4 =>
    if v3 = (-1 : Int32) then
      (l_X9_comeToDepots_2 n) σ4 (a1 + 1)
    else
      bx (f_X9_diagramAt σ4 a1) fun v5 σ6 =>
      bx (f_X9_unitAt σ6 v3) fun v7 σ8 =>
      gd (v5 < σ8.2.2 9) <|
      gd (v7 < σ8.2.2 8) <|
      bd (wr σ8 21 v7 2 (σ8.1 25 v5 1)) fun σ9 =>
      bx (f_X8_grow σ9 v7 (σ9.1 25 v5 2)) fun v10 σ11 =>
      gd (v5 < σ11.2.2 9) <|
      bx (f_X9_rowAt σ11 (σ11.1 25 v5 1)) fun v12 σ13 =>
      gd (v12 < 3) <|
      bx (f_X6_come σ13 v12 v3) fun v14 σ15 =>
      (l_X9_comeToDepots_2 n) σ15 (a1 + 1)
def f_X9_comeToDepots (σ : Wd) : Option ((Unit ⊕ String) × Wd) :=
  l_X9_comeToDepots_2 FU σ (0 : Int32)
theorem bl_X9_comeToDepots_2 (X : Xt) (hst : X.1.stackTraces = false) (ad : Ad) : ∀ (n : Nat) (σ : Wd) (a1 : Int32), Bk X (fun a => a = ad) cX9_comeToDepots 5 RX9 none 7 104 vV (0, 0) (0, 0) ad σ 2 [(1, .int a1), (0, .ref (ad 0 0))] [] (l_X9_comeToDepots_2 n σ a1) := by
  intro n
  induction n with
  | zero => intros; exact r_none
  | succ n ih =>
  intro σ a1
  rw [l_X9_comeToDepots_2]
  refine r_iload_n 0 rfl dX9_comeToDepots_2 ?_
  refine r_aload_n 1 rfl dX9_comeToDepots_3 ?_
  refine r_getf 1 (lvs_0 _) (cell_0 _ _ _ _) rfl (by decide) in_10 w_216 rfl dX9_comeToDepots_4 ?_
  refine r_callV (n := 0) (As := []) (cell_1 _ _ _ _) (lvl_1 _) rfl (nc_Jx4a65c_size_8abf5 X hst ad _ _) (fun _ h => h) rfl ⟨rfl, by decide, by decide, by decide +kernel⟩ w_217 w_140 w_141 w_104 w_142 rfl rfl (Nat.le_of_ble_eq_true rfl) ⟨by decide, by decide⟩ dX9_comeToDepots_7 (fun v1 σ2 => ?_)
  refine r_icmp_ge 76 dX9_comeToDepots_10 (by decide) ?_ ?_
  · exact r_vret rfl rfl rfl dX9_comeToDepots_76
  · refine r_aload_n 1 rfl dX9_comeToDepots_13 ?_
    refine r_getf 4 (lvs_0 _) (cell_0 _ _ _ _) rfl (by decide) in_10 w_277 rfl dX9_comeToDepots_14 ?_
    refine r_iload_n 0 rfl dX9_comeToDepots_17 ?_
    refine r_callV (n := 1) (As := [.int _]) (cell_12 _ _ _ _) (lvs_12 _) rfl (nc_X3_givenTo X hst ad _ _) (fun _ h => h) rfl ⟨rfl, by decide, by decide, by decide +kernel⟩ w_305 w_306 w_307 w_50 w_308 rfl rfl (Nat.le_of_ble_eq_true rfl) ⟨by decide, by decide⟩ dX9_comeToDepots_18 (fun v3 σ4 => ?_)
    refine r_istore_n [(2, .int _), (1, .int _), (0, .ref _)] rfl (by decide) dX9_comeToDepots_21 ?_
    refine r_iload_n 0 rfl dX9_comeToDepots_22 ?_
    refine r_iconst (-1) (by decide) dX9_comeToDepots_23 ?_
    refine r_icmp_eq 70 dX9_comeToDepots_24 (by decide) ?_ ?_
    · refine r_iinc (1) [(1, .int _), (2, .int _), (0, .ref _)] 1 rfl (by decide) rfl (by decide) dX9_comeToDepots_70 ?_
      refine r_goto 2 dX9_comeToDepots_73 (by decide) ?_
      exact r_sub [0, 2] rfl (ih _ _)
    · refine r_aload_n 2 rfl dX9_comeToDepots_27 ?_
      refine r_iload_n 1 rfl dX9_comeToDepots_28 ?_
      refine r_callV (n := 1) (As := [.int _]) (cell_0 _ _ _ _) (lvs_0 _) rfl (nc_X9_diagramAt X hst ad _ _) (fun _ h => h) rfl ⟨rfl, by decide, by decide, by decide +kernel⟩ w_220 w_221 w_222 w_203 w_223 rfl rfl (Nat.le_of_ble_eq_true rfl) ⟨by decide, by decide⟩ dX9_comeToDepots_29 (fun v5 σ6 => ?_)
      refine r_astore_n [(3, .ref _), (2, .int _), (1, .int _), (0, .ref _)] rfl (by decide) dX9_comeToDepots_32 ?_
      refine r_aload_n 3 rfl dX9_comeToDepots_33 ?_
      refine r_iload_n 1 rfl dX9_comeToDepots_34 ?_
      refine r_callV (n := 1) (As := [.int _]) (cell_0 _ _ _ _) (lvs_0 _) rfl (nc_X9_unitAt X hst ad _ _) (fun _ h => h) rfl ⟨rfl, by decide, by decide, by decide +kernel⟩ w_230 w_231 w_232 w_203 w_233 rfl rfl (Nat.le_of_ble_eq_true rfl) ⟨by decide, by decide⟩ dX9_comeToDepots_35 (fun v7 σ8 => ?_)
      refine r_astore [(4, .ref _), (3, .ref _), (2, .int _), (1, .int _), (0, .ref _)] rfl (by decide) dX9_comeToDepots_38 ?_
      refine r_aload 0 rfl dX9_comeToDepots_40 ?_
      refine r_aload_n 1 rfl dX9_comeToDepots_42 ?_
      refine r_gd (fun h1 => ?_)
      refine r_getf 1 (lvd_25 h1) (cell_25 _ _ _ _) rfl (by decide) in_1 w_292 rfl dX9_comeToDepots_43 ?_
      refine r_gd (fun h2 => ?_)
      refine r_bd ?_
      refine r_putf 2 tyX8 tyX8_ok nmX8 (lvd_21 h2) (cell_21 _ _ _ _) (wrc_21_2 _ _ _ _ _) rfl (by decide) (Nat.le_of_ble_eq_true rfl) in_9 w_322 rfl rfl rfl dX9_comeToDepots_46 ?_
      refine r_aload 0 rfl dX9_comeToDepots_49 ?_
      refine r_aload_n 1 rfl dX9_comeToDepots_51 ?_
      refine r_getf 2 (lvd_25 h1) (cell_25 _ _ _ _) rfl (by decide) in_1 w_342 rfl dX9_comeToDepots_52 ?_
      refine r_callV (n := 1) (As := [.int _]) (cell_21 _ _ _ _) (lvd_21 h2) rfl (nc_X8_grow X hst ad _ _ _) (fun _ h => h) rfl ⟨rfl, by decide, by decide, by decide +kernel⟩ w_343 w_344 w_345 w_27 w_346 rfl rfl (Nat.le_of_ble_eq_true rfl) ⟨by decide, by decide⟩ dX9_comeToDepots_55 (fun v10 σ11 => ?_)
      refine r_aload_n 4 rfl dX9_comeToDepots_58 ?_
      refine r_aload_n 1 rfl dX9_comeToDepots_59 ?_
      refine r_gd (fun h3 => ?_)
      refine r_getf 1 (lvd_25 h3) (cell_25 _ _ _ _) rfl (by decide) in_1 w_292 rfl dX9_comeToDepots_60 ?_
      refine r_callV (n := 1) (As := [.int _]) (cell_0 _ _ _ _) (lvs_0 _) rfl (nc_X9_rowAt X hst ad _ _) (fun _ h => h) rfl ⟨rfl, by decide, by decide, by decide +kernel⟩ w_324 w_325 w_326 w_203 w_327 rfl rfl (Nat.le_of_ble_eq_true rfl) ⟨by decide, by decide⟩ dX9_comeToDepots_63 (fun v12 σ13 => ?_)
      refine r_iload_n 2 rfl dX9_comeToDepots_66 ?_
      refine r_gd (fun h4 => ?_)
      refine r_callV (n := 1) (As := [.int _]) (cell_5 _ _ _ _) (lvb_5 h4) rfl (nc_X6_come X hst ad _ _ _) (fun _ h => h) rfl ⟨rfl, by decide, by decide, by decide +kernel⟩ w_347 w_348 w_349 w_332 w_350 rfl rfl (Nat.le_of_ble_eq_true rfl) ⟨by decide, by decide⟩ dX9_comeToDepots_67 (fun v14 σ15 => ?_)
      refine r_iinc (1) [(1, .int _), (4, .ref _), (3, .ref _), (2, .int _), (0, .ref _)] 3 rfl (by decide) rfl (by decide) dX9_comeToDepots_70 ?_
      refine r_goto 2 dX9_comeToDepots_73 (by decide) ?_
      exact r_sub [0, 4] rfl (ih _ _)
theorem nc_X9_comeToDepots (X : Xt) (hst : X.1.stackTraces = false) (ad : Ad) (σ : Wd) : NC X (fun a => a = ad) yX9_comeToDepots cX9_comeToDepots 5 none 7 104 vV (0, 0) ad σ [.ref (ad 0 0)] (f_X9_comeToDepots σ) := by
  unfold f_X9_comeToDepots
  refine NC.intro RX9 rfl hst (by decide) (Nat.le_of_ble_eq_true rfl) (lv := [(0, .ref _)]) rfl ?_
  refine r_iconst (0) (by decide) dX9_comeToDepots_0 ?_
  refine r_istore_n [(1, .int _), (0, .ref _)] rfl (by decide) dX9_comeToDepots_1 ?_
  exact r_sub [0, 1] rfl ((bl_X9_comeToDepots_2 X hst ad FU) _ _)
def l_X9_day_41 : Nat → Wd → Int32 → Option ((Int32 ⊕ String) × Wd)
  | 0, _, _ => none
  | n + 1, σ, a1 =>
  bx (f_Jx4a65c_size_8abf5 σ 0) fun v9 σ10 =>
  if v9 ≤ a1 then
    bd (wr σ10 0 0 8 (0 : Int32)) fun σ11 =>
    bd (wr σ11 0 0 9 (0 : Int32)) fun σ12 =>
    bd (wr σ12 0 0 6 ((σ12.1 0 0 6) + (1 : Int32))) fun σ13 =>
    bx (f_X3_lackOfGiven σ13) fun v14 σ15 =>
    some (.inl v14, σ15)
  else
    bx (f_X9_unitAt σ10 a1) fun v16 σ17 =>
    gd (v16 < σ17.2.2 8) <|
    bx (f_X8_growOlder σ17 v16) fun v18 σ19 =>
    (l_X9_day_41 n) σ19 (a1 + 1)
def f_X9_day (σ : Wd) : Option ((Int32 ⊕ String) × Wd) :=
  if (σ.1 0 0 6) < (200 : Int32) then
    bx (f_X9_readMorning σ) fun v1 σ2 =>
    bx (f_X3_allocateByParts σ2) fun v3 σ4 =>
    bx (f_X9_leaveRows σ4) fun v5 σ6 =>
    bx (f_X9_comeToDepots σ6) fun v7 σ8 =>
    l_X9_day_41 FU σ8 (0 : Int32)
  else
    some (.inr "java/lang/IllegalStateException", σ)
theorem bl_X9_day_41 (X : Xt) (hst : X.1.stackTraces = false) (ad : Ad) : ∀ (n : Nat) (σ : Wd) (a1 : Int32), Bk X (fun a => a = ad) cX9_day 2 RX9 (some (.int)) 10 178 vI (0, 0) (0, 0) ad σ 41 [(1, .int a1), (0, .ref (ad 0 0))] [] (l_X9_day_41 n σ a1) := by
  intro n
  induction n with
  | zero => intros; exact r_none
  | succ n ih =>
  intro σ a1
  rw [l_X9_day_41]
  refine r_iload_n 0 rfl dX9_day_41 ?_
  refine r_aload_n 1 rfl dX9_day_42 ?_
  refine r_getf 0 (lvs_0 _) (cell_0 _ _ _ _) rfl (by decide) in_10 w_225 rfl dX9_day_43 ?_
  refine r_callV (n := 0) (As := []) (cell_1 _ _ _ _) (lvl_0 _) rfl (nc_Jx4a65c_size_8abf5 X hst ad _ _) (fun _ h => h) rfl ⟨rfl, by decide, by decide, by decide +kernel⟩ w_217 w_140 w_141 w_104 w_142 rfl rfl (Nat.le_of_ble_eq_true rfl) ⟨by decide, by decide⟩ dX9_day_46 (fun v9 σ10 => ?_)
  refine r_icmp_ge 66 dX9_day_49 (by decide) ?_ ?_
  · refine r_aload_n 1 rfl dX9_day_66 ?_
    refine r_iconst (0) (by decide) dX9_day_67 ?_
    refine r_bd ?_
    refine r_putf 8 tyX9 tyX9_ok nmX9 (lvs_0 _) (cell_0 _ _ _ _) (wrc_0_8 _ _ _ _ _) rfl (by decide) (Nat.le_of_ble_eq_true rfl) in_10 w_355 rfl rfl rfl dX9_day_68 ?_
    refine r_aload_n 1 rfl dX9_day_71 ?_
    refine r_iconst (0) (by decide) dX9_day_72 ?_
    refine r_bd ?_
    refine r_putf 9 tyX9 tyX9_ok nmX9 (lvs_0 _) (cell_0 _ _ _ _) (wrc_0_9 _ _ _ _ _) rfl (by decide) (Nat.le_of_ble_eq_true rfl) in_10 w_356 rfl rfl rfl dX9_day_73 ?_
    refine r_aload_n 1 rfl dX9_day_76 ?_
    refine r_dup rfl dX9_day_77 ?_
    refine r_getf 6 (lvs_0 _) (cell_0 _ _ _ _) rfl (by decide) in_10 w_234 rfl dX9_day_78 ?_
    refine r_iconst (1) (by decide) dX9_day_81 ?_
    refine r_iadd dX9_day_82 ?_
    refine r_bd ?_
    refine r_putf 6 tyX9 tyX9_ok nmX9 (lvs_0 _) (cell_0 _ _ _ _) (wrc_0_6 _ _ _ _ _) rfl (by decide) (Nat.le_of_ble_eq_true rfl) in_10 w_234 rfl rfl rfl dX9_day_83 ?_
    refine r_aload_n 1 rfl dX9_day_86 ?_
    refine r_getf 4 (lvs_0 _) (cell_0 _ _ _ _) rfl (by decide) in_10 w_277 rfl dX9_day_87 ?_
    refine r_callV (n := 0) (As := []) (cell_12 _ _ _ _) (lvs_12 _) rfl (nc_X3_lackOfGiven X hst ad _) (fun _ h => h) rfl ⟨rfl, by decide, by decide, by decide +kernel⟩ w_313 w_314 w_315 w_50 w_316 rfl rfl (Nat.le_of_ble_eq_true rfl) ⟨by decide, by decide⟩ dX9_day_90 (fun v14 σ15 => ?_)
    exact r_iret rfl rfl rfl dX9_day_93
  · refine r_aload_n 1 rfl dX9_day_52 ?_
    refine r_iload_n 0 rfl dX9_day_53 ?_
    refine r_callV (n := 1) (As := [.int _]) (cell_0 _ _ _ _) (lvs_0 _) rfl (nc_X9_unitAt X hst ad _ _) (fun _ h => h) rfl ⟨rfl, by decide, by decide, by decide +kernel⟩ w_230 w_231 w_232 w_203 w_233 rfl rfl (Nat.le_of_ble_eq_true rfl) ⟨by decide, by decide⟩ dX9_day_54 (fun v16 σ17 => ?_)
    refine r_gd (fun h1 => ?_)
    refine r_callV (n := 0) (As := []) (cell_21 _ _ _ _) (lvd_21 h1) rfl (nc_X8_growOlder X hst ad _ _) (fun _ h => h) rfl ⟨rfl, by decide, by decide, by decide +kernel⟩ w_357 w_358 w_359 w_27 w_360 rfl rfl (Nat.le_of_ble_eq_true rfl) ⟨by decide, by decide⟩ dX9_day_57 (fun v18 σ19 => ?_)
    refine r_iinc (1) [(1, .int _), (0, .ref _)] 0 rfl (by decide) rfl (by decide) dX9_day_60 ?_
    refine r_goto 41 dX9_day_63 (by decide) ?_
    exact r_sub [0, 1] rfl (ih _ _)
theorem nc_X9_day (X : Xt) (hst : X.1.stackTraces = false) (ad : Ad) (σ : Wd) : NC X (fun a => a = ad) yX9_day cX9_day 2 (some (.int)) 10 178 vI (0, 0) ad σ [.ref (ad 0 0)] (f_X9_day σ) := by
  unfold f_X9_day
  refine NC.intro RX9 rfl hst (by decide) (Nat.le_of_ble_eq_true rfl) (lv := [(0, .ref _)]) rfl ?_
  refine r_aload_n 0 rfl dX9_day_0 ?_
  refine r_getf 6 (lvs_0 _) (cell_0 _ _ _ _) rfl (by decide) in_10 w_234 rfl dX9_day_1 ?_
  refine r_sipush (200) (by decide) dX9_day_4 ?_
  refine r_icmp_lt 20 dX9_day_7 (by decide) ?_ ?_
  · refine r_aload_n 0 rfl dX9_day_20 ?_
    refine r_callV (n := 0) (As := []) (cell_0 _ _ _ _) (lvs_0 _) rfl (nc_X9_readMorning X hst ad _) (fun _ h => h) rfl ⟨rfl, by decide, by decide, by decide +kernel⟩ w_297 w_298 w_299 w_203 w_300 rfl rfl (Nat.le_of_ble_eq_true rfl) ⟨by decide, by decide⟩ dX9_day_21 (fun v1 σ2 => ?_)
    refine r_aload_n 0 rfl dX9_day_24 ?_
    refine r_getf 4 (lvs_0 _) (cell_0 _ _ _ _) rfl (by decide) in_10 w_277 rfl dX9_day_25 ?_
    refine r_callV (n := 0) (As := []) (cell_12 _ _ _ _) (lvs_12 _) rfl (nc_X3_allocateByParts X hst ad _) (fun _ h => h) rfl ⟨rfl, by decide, by decide, by decide +kernel⟩ w_301 w_302 w_303 w_50 w_304 rfl rfl (Nat.le_of_ble_eq_true rfl) ⟨by decide, by decide⟩ dX9_day_28 (fun v3 σ4 => ?_)
    refine r_aload_n 0 rfl dX9_day_31 ?_
    refine r_callV (n := 0) (As := []) (cell_0 _ _ _ _) (lvs_0 _) rfl (nc_X9_leaveRows X hst ad _) (fun _ h => h) rfl ⟨rfl, by decide, by decide, by decide +kernel⟩ w_338 w_339 w_340 w_203 w_341 rfl rfl (Nat.le_of_ble_eq_true rfl) ⟨by decide, by decide⟩ dX9_day_32 (fun v5 σ6 => ?_)
    refine r_aload_n 0 rfl dX9_day_35 ?_
    refine r_callV (n := 0) (As := []) (cell_0 _ _ _ _) (lvs_0 _) rfl (nc_X9_comeToDepots X hst ad _) (fun _ h => h) rfl ⟨rfl, by decide, by decide, by decide +kernel⟩ w_351 w_352 w_353 w_203 w_354 rfl rfl (Nat.le_of_ble_eq_true rfl) ⟨by decide, by decide⟩ dX9_day_36 (fun v7 σ8 => ?_)
    refine r_iconst (0) (by decide) dX9_day_39 ?_
    refine r_istore_n [(1, .int _), (0, .ref _)] rfl (by decide) dX9_day_40 ?_
    exact r_sub [0, 1] rfl ((bl_X9_day_41 X hst ad FU) _ _)
  · exact r_throw (text := "today is the day 200") at_4 (by decide +kernel) rfl dX9_day_10 dX9_day_13 dX9_day_14 dX9_day_16 dX9_day_19 (by decide) (Nat.le_of_ble_eq_true rfl)
def f_X9_examine (σ : Wd) (p0 : Int32) (p1 : Int32) : Option ((Int32 ⊕ String) × Wd) :=
  bx (f_X9_unitAt σ p0) fun v1 σ2 =>
  bx (f_X9_checkNumber σ2 p1 (3 : Int32)) fun v3 σ4 =>
  gd (v1 < σ4.2.2 8) <|
  if (σ4.1 21 v1 2) = 0 then
    if (σ4.1 0 0 8) = 0 then
      bd (wr σ4 0 0 8 (1 : Int32)) fun σ5 =>
      bx (f_X8_beginAgain σ5 v1 p1) fun v6 σ7 =>
      some (.inl (p1 + (1 : Int32)), σ7)
    else
      some (.inr "java/lang/IllegalStateException", σ4)
  else
    some (.inr "java/lang/IllegalStateException", σ4)
theorem nc_X9_examine (X : Xt) (hst : X.1.stackTraces = false) (ad : Ad) (σ : Wd) (p0 : Int32) (p1 : Int32) : NC X (fun a => a = ad) yX9_examine cX9_examine 4 (some (.int)) 7 104 vI (0, 0) ad σ [.ref (ad 0 0), .int p0, .int p1] (f_X9_examine σ p0 p1) := by
  unfold f_X9_examine
  refine NC.intro RX9 rfl hst (by decide) (Nat.le_of_ble_eq_true rfl) (lv := [(0, .ref _), (1, .int _), (2, .int _)]) rfl ?_
  refine r_aload_n 0 rfl dX9_examine_0 ?_
  refine r_iload_n 1 rfl dX9_examine_1 ?_
  refine r_callV (n := 1) (As := [.int _]) (cell_0 _ _ _ _) (lvs_0 _) rfl (nc_X9_unitAt X hst ad _ _) (fun _ h => h) rfl ⟨rfl, by decide, by decide, by decide +kernel⟩ w_230 w_231 w_232 w_203 w_233 rfl rfl (Nat.le_of_ble_eq_true rfl) ⟨by decide, by decide⟩ dX9_examine_2 (fun v1 σ2 => ?_)
  refine r_astore_n [(3, .ref _), (0, .ref _), (1, .int _), (2, .int _)] rfl (by decide) dX9_examine_5 ?_
  refine r_iload_n 3 rfl dX9_examine_6 ?_
  refine r_iconst (3) (by decide) dX9_examine_7 ?_
  refine r_callS (n := 2) (As := [.int _, .int _]) (nc_X9_checkNumber X hst ad _ _ _) (fun _ h => h) rfl ⟨by decide, by decide, by decide +kernel⟩ w_226 w_227 w_203 w_228 rfl rfl (Nat.le_of_ble_eq_true rfl) ⟨by decide, by decide⟩ dX9_examine_8 (fun v3 σ4 => ?_)
  refine r_aload_n 0 rfl dX9_examine_11 ?_
  refine r_gd (fun h1 => ?_)
  refine r_getf 2 (lvd_21 h1) (cell_21 _ _ _ _) rfl (by decide) in_9 w_322 rfl dX9_examine_12 ?_
  refine r_if_ne 25 dX9_examine_15 (by decide) ?_ ?_
  · refine r_aload_n 1 rfl dX9_examine_18 ?_
    refine r_getf 8 (lvs_0 _) (cell_0 _ _ _ _) rfl (by decide) in_10 w_355 rfl dX9_examine_19 ?_
    refine r_if_eq 35 dX9_examine_22 (by decide) ?_ ?_
    · refine r_aload_n 1 rfl dX9_examine_35 ?_
      refine r_iconst (1) (by decide) dX9_examine_36 ?_
      refine r_bd ?_
      refine r_putf 8 tyX9 tyX9_ok nmX9 (lvs_0 _) (cell_0 _ _ _ _) (wrc_0_8 _ _ _ _ _) rfl (by decide) (Nat.le_of_ble_eq_true rfl) in_10 w_355 rfl rfl rfl dX9_examine_37 ?_
      refine r_aload_n 0 rfl dX9_examine_40 ?_
      refine r_iload_n 3 rfl dX9_examine_41 ?_
      refine r_callV (n := 1) (As := [.int _]) (cell_21 _ _ _ _) (lvd_21 h1) rfl (nc_X8_beginAgain X hst ad _ _ _) (fun _ h => h) rfl ⟨rfl, by decide, by decide, by decide +kernel⟩ w_361 w_362 w_363 w_27 w_364 rfl rfl (Nat.le_of_ble_eq_true rfl) ⟨by decide, by decide⟩ dX9_examine_42 (fun v6 σ7 => ?_)
      refine r_iload_n 3 rfl dX9_examine_45 ?_
      refine r_iconst (1) (by decide) dX9_examine_46 ?_
      refine r_iadd dX9_examine_47 ?_
      exact r_iret rfl rfl rfl dX9_examine_48
    · exact r_throw (text := "not at the depot 0, or the pit is taken") at_4 (by decide +kernel) rfl dX9_examine_25 dX9_examine_28 dX9_examine_29 dX9_examine_31 dX9_examine_34 (by decide) (Nat.le_of_ble_eq_true rfl)
  · exact r_throw (text := "not at the depot 0, or the pit is taken") at_4 (by decide +kernel) rfl dX9_examine_25 dX9_examine_28 dX9_examine_29 dX9_examine_31 dX9_examine_34 (by decide) (Nat.le_of_ble_eq_true rfl)
def f_X9_lathe (σ : Wd) (p0 : Int32) : Option ((Int32 ⊕ String) × Wd) :=
  bx (f_X9_unitAt σ p0) fun v1 σ2 =>
  gd (v1 < σ2.2.2 8) <|
  if (σ2.1 21 v1 2) = 0 then
    if (σ2.1 0 0 9) = 0 then
      bd (wr σ2 0 0 9 (1 : Int32)) fun σ3 =>
      bx (f_X8_turn σ3 v1) fun v4 σ5 =>
      some (.inl v4, σ5)
    else
      some (.inr "java/lang/IllegalStateException", σ2)
  else
    some (.inr "java/lang/IllegalStateException", σ2)
theorem nc_X9_lathe (X : Xt) (hst : X.1.stackTraces = false) (ad : Ad) (σ : Wd) (p0 : Int32) : NC X (fun a => a = ad) yX9_lathe cX9_lathe 3 (some (.int)) 9 150 vI (0, 0) ad σ [.ref (ad 0 0), .int p0] (f_X9_lathe σ p0) := by
  unfold f_X9_lathe
  refine NC.intro RX9 rfl hst (by decide) (Nat.le_of_ble_eq_true rfl) (lv := [(0, .ref _), (1, .int _)]) rfl ?_
  refine r_aload_n 0 rfl dX9_lathe_0 ?_
  refine r_iload_n 1 rfl dX9_lathe_1 ?_
  refine r_callV (n := 1) (As := [.int _]) (cell_0 _ _ _ _) (lvs_0 _) rfl (nc_X9_unitAt X hst ad _ _) (fun _ h => h) rfl ⟨rfl, by decide, by decide, by decide +kernel⟩ w_230 w_231 w_232 w_203 w_233 rfl rfl (Nat.le_of_ble_eq_true rfl) ⟨by decide, by decide⟩ dX9_lathe_2 (fun v1 σ2 => ?_)
  refine r_astore_n [(2, .ref _), (0, .ref _), (1, .int _)] rfl (by decide) dX9_lathe_5 ?_
  refine r_aload_n 0 rfl dX9_lathe_6 ?_
  refine r_gd (fun h1 => ?_)
  refine r_getf 2 (lvd_21 h1) (cell_21 _ _ _ _) rfl (by decide) in_9 w_322 rfl dX9_lathe_7 ?_
  refine r_if_ne 20 dX9_lathe_10 (by decide) ?_ ?_
  · refine r_aload_n 1 rfl dX9_lathe_13 ?_
    refine r_getf 9 (lvs_0 _) (cell_0 _ _ _ _) rfl (by decide) in_10 w_356 rfl dX9_lathe_14 ?_
    refine r_if_eq 30 dX9_lathe_17 (by decide) ?_ ?_
    · refine r_aload_n 1 rfl dX9_lathe_30 ?_
      refine r_iconst (1) (by decide) dX9_lathe_31 ?_
      refine r_bd ?_
      refine r_putf 9 tyX9 tyX9_ok nmX9 (lvs_0 _) (cell_0 _ _ _ _) (wrc_0_9 _ _ _ _ _) rfl (by decide) (Nat.le_of_ble_eq_true rfl) in_10 w_356 rfl rfl rfl dX9_lathe_32 ?_
      refine r_aload_n 0 rfl dX9_lathe_35 ?_
      refine r_callV (n := 0) (As := []) (cell_21 _ _ _ _) (lvd_21 h1) rfl (nc_X8_turn X hst ad _ _) (fun _ h => h) rfl ⟨rfl, by decide, by decide, by decide +kernel⟩ w_365 w_366 w_367 w_27 w_368 rfl rfl (Nat.le_of_ble_eq_true rfl) ⟨by decide, by decide⟩ dX9_lathe_36 (fun v4 σ5 => ?_)
      exact r_iret rfl rfl rfl dX9_lathe_39
    · exact r_throw (text := "not at the depot 0, or the lathe is taken") at_4 (by decide +kernel) rfl dX9_lathe_20 dX9_lathe_23 dX9_lathe_24 dX9_lathe_26 dX9_lathe_29 (by decide) (Nat.le_of_ble_eq_true rfl)
  · exact r_throw (text := "not at the depot 0, or the lathe is taken") at_4 (by decide +kernel) rfl dX9_lathe_20 dX9_lathe_23 dX9_lathe_24 dX9_lathe_26 dX9_lathe_29 (by decide) (Nat.le_of_ble_eq_true rfl)
def f_X9_mend (σ : Wd) (p0 : Int32) (p1 : Int32) : Option ((Int32 ⊕ String) × Wd) :=
  bx (f_X9_unitAt σ p0) fun v1 σ2 =>
  gd (v1 < σ2.2.2 8) <|
  bx (f_X8_faultAtPlace σ2 v1 p1) fun v3 σ4 =>
  gd (v3 < σ4.2.2 10) <|
  if (σ4.1 26 v3 0) = 0 then
    some (.inr "java/lang/IllegalStateException", σ4)
  else
    gd (v1 < σ4.2.2 8) <|
    bx (f_X8_dropFault σ4 v1 p1) fun v5 σ6 =>
    some (.inl (σ4.1 26 v3 0), σ6)
theorem nc_X9_mend (X : Xt) (hst : X.1.stackTraces = false) (ad : Ad) (σ : Wd) (p0 : Int32) (p1 : Int32) : NC X (fun a => a = ad) yX9_mend cX9_mend 5 (some (.int)) 7 104 vI (0, 0) ad σ [.ref (ad 0 0), .int p0, .int p1] (f_X9_mend σ p0 p1) := by
  unfold f_X9_mend
  refine NC.intro RX9 rfl hst (by decide) (Nat.le_of_ble_eq_true rfl) (lv := [(0, .ref _), (1, .int _), (2, .int _)]) rfl ?_
  refine r_aload_n 0 rfl dX9_mend_0 ?_
  refine r_iload_n 1 rfl dX9_mend_1 ?_
  refine r_callV (n := 1) (As := [.int _]) (cell_0 _ _ _ _) (lvs_0 _) rfl (nc_X9_unitAt X hst ad _ _) (fun _ h => h) rfl ⟨rfl, by decide, by decide, by decide +kernel⟩ w_230 w_231 w_232 w_203 w_233 rfl rfl (Nat.le_of_ble_eq_true rfl) ⟨by decide, by decide⟩ dX9_mend_2 (fun v1 σ2 => ?_)
  refine r_astore_n [(3, .ref _), (0, .ref _), (1, .int _), (2, .int _)] rfl (by decide) dX9_mend_5 ?_
  refine r_aload_n 0 rfl dX9_mend_6 ?_
  refine r_iload_n 3 rfl dX9_mend_7 ?_
  refine r_gd (fun h1 => ?_)
  refine r_callV (n := 1) (As := [.int _]) (cell_21 _ _ _ _) (lvd_21 h1) rfl (nc_X8_faultAtPlace X hst ad _ _ _) (fun _ h => h) rfl ⟨rfl, by decide, by decide, by decide +kernel⟩ w_369 w_149 w_150 w_27 w_151 rfl rfl (Nat.le_of_ble_eq_true rfl) ⟨by decide, by decide⟩ dX9_mend_8 (fun v3 σ4 => ?_)
  refine r_gd (fun h2 => ?_)
  refine r_getf 0 (lvd_26 h2) (cell_26 _ _ _ _) rfl (by decide) in_3 w_370 rfl dX9_mend_11 ?_
  refine r_istore [(4, .int _), (3, .ref _), (0, .ref _), (1, .int _), (2, .int _)] rfl (by decide) dX9_mend_14 ?_
  refine r_iload 0 rfl dX9_mend_16 ?_
  refine r_if_ne 31 dX9_mend_18 (by decide) ?_ ?_
  · exact r_throw (text := "a flat is turned, not mended") at_4 (by decide +kernel) rfl dX9_mend_21 dX9_mend_24 dX9_mend_25 dX9_mend_27 dX9_mend_30 (by decide) (Nat.le_of_ble_eq_true rfl)
  · refine r_aload_n 1 rfl dX9_mend_31 ?_
    refine r_iload_n 4 rfl dX9_mend_32 ?_
    refine r_gd (fun h3 => ?_)
    refine r_callV (n := 1) (As := [.int _]) (cell_21 _ _ _ _) (lvd_21 h3) rfl (nc_X8_dropFault X hst ad _ _ _) (fun _ h => h) rfl ⟨rfl, by decide, by decide, by decide +kernel⟩ w_371 w_165 w_166 w_27 w_167 rfl rfl (Nat.le_of_ble_eq_true rfl) ⟨by decide, by decide⟩ dX9_mend_33 (fun v5 σ6 => ?_)
    refine r_iload 0 rfl dX9_mend_36 ?_
    exact r_iret rfl rfl rfl dX9_mend_38
def f_X9_today (σ : Wd) : Option ((Int32 ⊕ String) × Wd) :=
  some (.inl (σ.1 0 0 6), σ)
theorem nc_X9_today (X : Xt) (hst : X.1.stackTraces = false) (ad : Ad) (σ : Wd) : NC X (fun a => a = ad) yX9_today cX9_today 1 (some (.int)) 0 0 vI (0, 0) ad σ [.ref (ad 0 0)] (f_X9_today σ) := by
  unfold f_X9_today
  refine NC.intro RX9 rfl hst (by decide) (Nat.le_of_ble_eq_true rfl) (lv := [(0, .ref _)]) rfl ?_
  refine r_aload_n 0 rfl dX9_today_0 ?_
  refine r_getf 6 (lvs_0 _) (cell_0 _ _ _ _) rfl (by decide) in_10 w_234 rfl dX9_today_1 ?_
  exact r_iret rfl rfl rfl dX9_today_4
def f_X9_about (σ : Wd) (p0 : Int32) (p1 : Int32) : Option ((Int32 ⊕ String) × Wd) :=
  bx (f_X9_unitAt σ p0) fun v1 σ2 =>
  if p1 = 0 then
    gd (v1 < σ2.2.2 8) <|
    some (.inl (σ2.1 21 v1 2), σ2)
  else
    if p1 = 1 then
      gd (v1 < σ2.2.2 8) <|
      some (.inl (σ2.1 21 v1 3), σ2)
    else
      if p1 = 2 then
        gd (v1 < σ2.2.2 8) <|
        bx (f_Jx4a65c_size_8abf5 σ2 (v1 + 2)) fun v3 σ4 =>
        some (.inl v3, σ4)
      else
        if p1 = 3 then
          gd (v1 < σ2.2.2 8) <|
          bx (f_X9_rowAt σ2 (σ2.1 21 v1 2)) fun v5 σ6 =>
          gd (v5 < 3) <|
          bx (f_X6_behind σ6 v5 p0) fun v7 σ8 =>
          some (.inl v7, σ8)
        else
          if p1 = 4 then
            bx (f_X7_isSoon σ2 v1) fun v9 σ10 =>
            if v9 = 0 then
              some (.inl (0 : Int32), σ10)
            else
              some (.inl (1 : Int32), σ10)
          else
            if p1 = 5 then
              bx (f_X7_overdueBits σ2 v1) fun v11 σ12 =>
              some (.inl v11, σ12)
            else
              some (.inr "java/lang/IllegalArgumentException", σ2)
theorem nc_X9_about (X : Xt) (hst : X.1.stackTraces = false) (ad : Ad) (σ : Wd) (p0 : Int32) (p1 : Int32) : NC X (fun a => a = ad) yX9_about cX9_about 4 (some (.int)) 9 149 vI (0, 0) ad σ [.ref (ad 0 0), .int p0, .int p1] (f_X9_about σ p0 p1) := by
  unfold f_X9_about
  refine NC.intro RX9 rfl hst (by decide) (Nat.le_of_ble_eq_true rfl) (lv := [(0, .ref _), (1, .int _), (2, .int _)]) rfl ?_
  refine r_aload_n 0 rfl dX9_about_0 ?_
  refine r_iload_n 1 rfl dX9_about_1 ?_
  refine r_callV (n := 1) (As := [.int _]) (cell_0 _ _ _ _) (lvs_0 _) rfl (nc_X9_unitAt X hst ad _ _) (fun _ h => h) rfl ⟨rfl, by decide, by decide, by decide +kernel⟩ w_230 w_231 w_232 w_203 w_233 rfl rfl (Nat.le_of_ble_eq_true rfl) ⟨by decide, by decide⟩ dX9_about_2 (fun v1 σ2 => ?_)
  refine r_astore_n [(3, .ref _), (0, .ref _), (1, .int _), (2, .int _)] rfl (by decide) dX9_about_5 ?_
  refine r_iload_n 3 rfl dX9_about_6 ?_
  refine r_ite (fun h1 => ?_) (fun h1 => ?_)
  · refine r_tswIn (off := 37) 44 h1 dX9_about_7 (by decide) (by decide) (by decide) (by decide) (by decide) ?_
    refine r_aload_n 0 rfl dX9_about_44 ?_
    refine r_gd (fun h2 => ?_)
    refine r_getf 2 (lvd_21 h2) (cell_21 _ _ _ _) rfl (by decide) in_9 w_322 rfl dX9_about_45 ?_
    exact r_iret rfl rfl rfl dX9_about_48
  · skip
    refine r_ite (fun h3 => ?_) (fun h3 => ?_)
    · refine r_tswIn (off := 42) 49 h3 dX9_about_7 (by decide) (by decide) (by decide) (by decide) (by decide) ?_
      refine r_aload_n 0 rfl dX9_about_49 ?_
      refine r_gd (fun h4 => ?_)
      refine r_getf 3 (lvd_21 h4) (cell_21 _ _ _ _) rfl (by decide) in_9 w_372 rfl dX9_about_50 ?_
      exact r_iret rfl rfl rfl dX9_about_53
    · skip
      refine r_ite (fun h5 => ?_) (fun h5 => ?_)
      · refine r_tswIn (off := 47) 54 h5 dX9_about_7 (by decide) (by decide) (by decide) (by decide) (by decide) ?_
        refine r_aload_n 0 rfl dX9_about_54 ?_
        refine r_gd (fun h6 => ?_)
        refine r_getf 1 (lvd_21 h6) (cell_21 _ _ _ _) rfl (by decide) in_9 w_373 rfl dX9_about_55 ?_
        refine r_callV (n := 0) (As := []) (cell_1 _ _ _ _) (lvl_f h6) rfl (nc_Jx4a65c_size_8abf5 X hst ad _ _) (fun _ h => h) rfl ⟨rfl, by decide, by decide, by decide +kernel⟩ w_217 w_140 w_141 w_104 w_142 rfl rfl (Nat.le_of_ble_eq_true rfl) ⟨by decide, by decide⟩ dX9_about_58 (fun v3 σ4 => ?_)
        exact r_iret rfl rfl rfl dX9_about_61
      · skip
        refine r_ite (fun h7 => ?_) (fun h7 => ?_)
        · refine r_tswIn (off := 55) 62 h7 dX9_about_7 (by decide) (by decide) (by decide) (by decide) (by decide) ?_
          refine r_aload_n 1 rfl dX9_about_62 ?_
          refine r_aload_n 0 rfl dX9_about_63 ?_
          refine r_gd (fun h8 => ?_)
          refine r_getf 2 (lvd_21 h8) (cell_21 _ _ _ _) rfl (by decide) in_9 w_322 rfl dX9_about_64 ?_
          refine r_callV (n := 1) (As := [.int _]) (cell_0 _ _ _ _) (lvs_0 _) rfl (nc_X9_rowAt X hst ad _ _) (fun _ h => h) rfl ⟨rfl, by decide, by decide, by decide +kernel⟩ w_324 w_325 w_326 w_203 w_327 rfl rfl (Nat.le_of_ble_eq_true rfl) ⟨by decide, by decide⟩ dX9_about_67 (fun v5 σ6 => ?_)
          refine r_iload_n 2 rfl dX9_about_70 ?_
          refine r_gd (fun h9 => ?_)
          refine r_callV (n := 1) (As := [.int _]) (cell_5 _ _ _ _) (lvb_5 h9) rfl (nc_X6_behind X hst ad _ _ _) (fun _ h => h) rfl ⟨rfl, by decide, by decide, by decide +kernel⟩ w_329 w_330 w_331 w_332 w_333 rfl rfl (Nat.le_of_ble_eq_true rfl) ⟨by decide, by decide⟩ dX9_about_71 (fun v7 σ8 => ?_)
          exact r_iret rfl rfl rfl dX9_about_74
        · skip
          refine r_ite (fun h10 => ?_) (fun h10 => ?_)
          · refine r_tswIn (off := 68) 75 h10 dX9_about_7 (by decide) (by decide) (by decide) (by decide) (by decide) ?_
            refine r_aload_n 1 rfl dX9_about_75 ?_
            refine r_getf 3 (lvs_0 _) (cell_0 _ _ _ _) rfl (by decide) in_10 w_198 rfl dX9_about_76 ?_
            refine r_aload_n 0 rfl dX9_about_79 ?_
            refine r_callV (n := 1) (As := [.ref _]) (cell_7 _ _ _ _) (lvs_7 _) rfl (nc_X7_isSoon X hst ad _ _) (fun _ h => h) rfl ⟨rfl, by decide, by decide, by decide +kernel⟩ w_293 w_294 w_295 w_176 w_296 rfl rfl (Nat.le_of_ble_eq_true rfl) ⟨by decide, by decide⟩ dX9_about_80 (fun v9 σ10 => ?_)
            refine r_if_eq 90 dX9_about_83 (by decide) ?_ ?_
            · refine r_iconst (0) (by decide) dX9_about_90 ?_
              exact r_iret rfl rfl rfl dX9_about_91
            · refine r_iconst (1) (by decide) dX9_about_86 ?_
              refine r_goto 91 dX9_about_87 (by decide) ?_
              exact r_iret rfl rfl rfl dX9_about_91
          · skip
            refine r_ite (fun h11 => ?_) (fun h11 => ?_)
            · refine r_tswIn (off := 85) 92 h11 dX9_about_7 (by decide) (by decide) (by decide) (by decide) (by decide) ?_
              refine r_aload_n 1 rfl dX9_about_92 ?_
              refine r_getf 3 (lvs_0 _) (cell_0 _ _ _ _) rfl (by decide) in_10 w_198 rfl dX9_about_93 ?_
              refine r_aload_n 0 rfl dX9_about_96 ?_
              refine r_callV (n := 1) (As := [.ref _]) (cell_7 _ _ _ _) (lvs_7 _) rfl (nc_X7_overdueBits X hst ad _ _) (fun _ h => h) rfl ⟨rfl, by decide, by decide, by decide +kernel⟩ w_374 w_375 w_376 w_176 w_377 rfl rfl (Nat.le_of_ble_eq_true rfl) ⟨by decide, by decide⟩ dX9_about_97 (fun v11 σ12 => ?_)
              exact r_iret rfl rfl rfl dX9_about_100
            · skip
              refine r_tswOut 101 dX9_about_7 (tsw_out6 h1 h3 h5 h7 h10 h11) (by decide) ?_
              exact r_throw (text := "there is nothing like that to tell of a unit") at_2 (by decide +kernel) rfl dX9_about_101 dX9_about_104 dX9_about_105 dX9_about_107 dX9_about_110 (by decide) (Nat.le_of_ble_eq_true rfl)
def f_X9_clock (σ : Wd) (p0 : Int32) (p1 : Int32) (p2 : Int32) : Option ((Int32 ⊕ String) × Wd) :=
  bx (f_X9_unitAt σ p0) fun v1 σ2 =>
  bx (f_X9_checkNumber σ2 p1 (3 : Int32)) fun v3 σ4 =>
  if p2 = 0 then
    gd (v1 < σ4.2.2 8) <|
    bx (f_X8_kmSince σ4 v1 p1) fun v5 σ6 =>
    some (.inl v5, σ6)
  else
    gd (v1 < σ4.2.2 8) <|
    bx (f_X8_daysSince σ4 v1 p1) fun v7 σ8 =>
    some (.inl v7, σ8)
theorem nc_X9_clock (X : Xt) (hst : X.1.stackTraces = false) (ad : Ad) (σ : Wd) (p0 : Int32) (p1 : Int32) (p2 : Int32) : NC X (fun a => a = ad) yX9_clock cX9_clock 5 (some (.int)) 7 104 vI (0, 0) ad σ [.ref (ad 0 0), .int p0, .int p1, .int p2] (f_X9_clock σ p0 p1 p2) := by
  unfold f_X9_clock
  refine NC.intro RX9 rfl hst (by decide) (Nat.le_of_ble_eq_true rfl) (lv := [(0, .ref _), (1, .int _), (2, .int _), (3, .int _)]) rfl ?_
  refine r_aload_n 0 rfl dX9_clock_0 ?_
  refine r_iload_n 1 rfl dX9_clock_1 ?_
  refine r_callV (n := 1) (As := [.int _]) (cell_0 _ _ _ _) (lvs_0 _) rfl (nc_X9_unitAt X hst ad _ _) (fun _ h => h) rfl ⟨rfl, by decide, by decide, by decide +kernel⟩ w_230 w_231 w_232 w_203 w_233 rfl rfl (Nat.le_of_ble_eq_true rfl) ⟨by decide, by decide⟩ dX9_clock_2 (fun v1 σ2 => ?_)
  refine r_astore [(4, .ref _), (0, .ref _), (1, .int _), (2, .int _), (3, .int _)] rfl (by decide) dX9_clock_5 ?_
  refine r_iload_n 3 rfl dX9_clock_7 ?_
  refine r_iconst (3) (by decide) dX9_clock_8 ?_
  refine r_callS (n := 2) (As := [.int _, .int _]) (nc_X9_checkNumber X hst ad _ _ _) (fun _ h => h) rfl ⟨by decide, by decide, by decide +kernel⟩ w_226 w_227 w_203 w_228 rfl rfl (Nat.le_of_ble_eq_true rfl) ⟨by decide, by decide⟩ dX9_clock_9 (fun v3 σ4 => ?_)
  refine r_iload_n 4 rfl dX9_clock_12 ?_
  refine r_if_eq 25 dX9_clock_13 (by decide) ?_ ?_
  · refine r_aload 0 rfl dX9_clock_25 ?_
    refine r_iload_n 3 rfl dX9_clock_27 ?_
    refine r_gd (fun h1 => ?_)
    refine r_callV (n := 1) (As := [.int _]) (cell_21 _ _ _ _) (lvd_21 h1) rfl (nc_X8_kmSince X hst ad _ _ _) (fun _ h => h) rfl ⟨rfl, by decide, by decide, by decide +kernel⟩ w_378 w_179 w_180 w_27 w_181 rfl rfl (Nat.le_of_ble_eq_true rfl) ⟨by decide, by decide⟩ dX9_clock_28 (fun v5 σ6 => ?_)
    exact r_iret rfl rfl rfl dX9_clock_31
  · refine r_aload 0 rfl dX9_clock_16 ?_
    refine r_iload_n 3 rfl dX9_clock_18 ?_
    refine r_gd (fun h2 => ?_)
    refine r_callV (n := 1) (As := [.int _]) (cell_21 _ _ _ _) (lvd_21 h2) rfl (nc_X8_daysSince X hst ad _ _ _) (fun _ h => h) rfl ⟨rfl, by decide, by decide, by decide +kernel⟩ w_379 w_187 w_188 w_27 w_189 rfl rfl (Nat.le_of_ble_eq_true rfl) ⟨by decide, by decide⟩ dX9_clock_19 (fun v7 σ8 => ?_)
    refine r_goto 31 dX9_clock_22 (by decide) ?_
    exact r_iret rfl rfl rfl dX9_clock_31
def f_X9_axle (σ : Wd) (p0 : Int32) (p1 : Int32) : Option ((Int32 ⊕ String) × Wd) :=
  bx (f_X9_unitAt σ p0) fun v1 σ2 =>
  bx (f_X9_checkNumber σ2 p1 (4 : Int32)) fun v3 σ4 =>
  gd (v1 < σ4.2.2 8) <|
  bx (f_X8_axleSize σ4 v1 p1) fun v5 σ6 =>
  some (.inl v5, σ6)
theorem nc_X9_axle (X : Xt) (hst : X.1.stackTraces = false) (ad : Ad) (σ : Wd) (p0 : Int32) (p1 : Int32) : NC X (fun a => a = ad) yX9_axle cX9_axle 4 (some (.int)) 7 104 vI (0, 0) ad σ [.ref (ad 0 0), .int p0, .int p1] (f_X9_axle σ p0 p1) := by
  unfold f_X9_axle
  refine NC.intro RX9 rfl hst (by decide) (Nat.le_of_ble_eq_true rfl) (lv := [(0, .ref _), (1, .int _), (2, .int _)]) rfl ?_
  refine r_aload_n 0 rfl dX9_axle_0 ?_
  refine r_iload_n 1 rfl dX9_axle_1 ?_
  refine r_callV (n := 1) (As := [.int _]) (cell_0 _ _ _ _) (lvs_0 _) rfl (nc_X9_unitAt X hst ad _ _) (fun _ h => h) rfl ⟨rfl, by decide, by decide, by decide +kernel⟩ w_230 w_231 w_232 w_203 w_233 rfl rfl (Nat.le_of_ble_eq_true rfl) ⟨by decide, by decide⟩ dX9_axle_2 (fun v1 σ2 => ?_)
  refine r_astore_n [(3, .ref _), (0, .ref _), (1, .int _), (2, .int _)] rfl (by decide) dX9_axle_5 ?_
  refine r_iload_n 3 rfl dX9_axle_6 ?_
  refine r_iconst (4) (by decide) dX9_axle_7 ?_
  refine r_callS (n := 2) (As := [.int _, .int _]) (nc_X9_checkNumber X hst ad _ _ _) (fun _ h => h) rfl ⟨by decide, by decide, by decide +kernel⟩ w_226 w_227 w_203 w_228 rfl rfl (Nat.le_of_ble_eq_true rfl) ⟨by decide, by decide⟩ dX9_axle_8 (fun v3 σ4 => ?_)
  refine r_aload_n 0 rfl dX9_axle_11 ?_
  refine r_iload_n 3 rfl dX9_axle_12 ?_
  refine r_gd (fun h1 => ?_)
  refine r_callV (n := 1) (As := [.int _]) (cell_21 _ _ _ _) (lvd_21 h1) rfl (nc_X8_axleSize X hst ad _ _ _) (fun _ h => h) rfl ⟨rfl, by decide, by decide, by decide +kernel⟩ w_380 w_30 w_31 w_27 w_32 rfl rfl (Nat.le_of_ble_eq_true rfl) ⟨by decide, by decide⟩ dX9_axle_13 (fun v5 σ6 => ?_)
  exact r_iret rfl rfl rfl dX9_axle_16
def f_X9_faultAt (σ : Wd) (p0 : Int32) (p1 : Int32) (p2 : Int32) : Option ((Int32 ⊕ String) × Wd) :=
  bx (f_X9_unitAt σ p0) fun v1 σ2 =>
  gd (v1 < σ2.2.2 8) <|
  bx (f_X8_faultAtPlace σ2 v1 p1) fun v3 σ4 =>
  if p2 = 0 then
    gd (v3 < σ4.2.2 10) <|
    some (.inl (σ4.1 26 v3 0), σ4)
  else
    if p2 = 1 then
      gd (v3 < σ4.2.2 10) <|
      some (.inl (σ4.1 26 v3 1), σ4)
    else
      if p2 = 2 then
        gd (v3 < σ4.2.2 10) <|
        some (.inl (σ4.1 26 v3 2), σ4)
      else
        if p2 = 3 then
          gd (v3 < σ4.2.2 10) <|
          some (.inl (σ4.1 26 v3 3), σ4)
        else
          some (.inr "java/lang/IllegalArgumentException", σ4)
theorem nc_X9_faultAt (X : Xt) (hst : X.1.stackTraces = false) (ad : Ad) (σ : Wd) (p0 : Int32) (p1 : Int32) (p2 : Int32) : NC X (fun a => a = ad) yX9_faultAt cX9_faultAt 5 (some (.int)) 7 104 vI (0, 0) ad σ [.ref (ad 0 0), .int p0, .int p1, .int p2] (f_X9_faultAt σ p0 p1 p2) := by
  unfold f_X9_faultAt
  refine NC.intro RX9 rfl hst (by decide) (Nat.le_of_ble_eq_true rfl) (lv := [(0, .ref _), (1, .int _), (2, .int _), (3, .int _)]) rfl ?_
  refine r_aload_n 0 rfl dX9_faultAt_0 ?_
  refine r_iload_n 1 rfl dX9_faultAt_1 ?_
  refine r_callV (n := 1) (As := [.int _]) (cell_0 _ _ _ _) (lvs_0 _) rfl (nc_X9_unitAt X hst ad _ _) (fun _ h => h) rfl ⟨rfl, by decide, by decide, by decide +kernel⟩ w_230 w_231 w_232 w_203 w_233 rfl rfl (Nat.le_of_ble_eq_true rfl) ⟨by decide, by decide⟩ dX9_faultAt_2 (fun v1 σ2 => ?_)
  refine r_iload_n 2 rfl dX9_faultAt_5 ?_
  refine r_gd (fun h1 => ?_)
  refine r_callV (n := 1) (As := [.int _]) (cell_21 _ _ _ _) (lvd_21 h1) rfl (nc_X8_faultAtPlace X hst ad _ _ _) (fun _ h => h) rfl ⟨rfl, by decide, by decide, by decide +kernel⟩ w_369 w_149 w_150 w_27 w_151 rfl rfl (Nat.le_of_ble_eq_true rfl) ⟨by decide, by decide⟩ dX9_faultAt_6 (fun v3 σ4 => ?_)
  refine r_astore [(4, .ref _), (0, .ref _), (1, .int _), (2, .int _), (3, .int _)] rfl (by decide) dX9_faultAt_9 ?_
  refine r_iload_n 4 rfl dX9_faultAt_11 ?_
  refine r_ite (fun h2 => ?_) (fun h2 => ?_)
  · refine r_tswIn (off := 32) 44 h2 dX9_faultAt_12 (by decide) (by decide) (by decide) (by decide) (by decide) ?_
    refine r_aload 0 rfl dX9_faultAt_44 ?_
    refine r_gd (fun h3 => ?_)
    refine r_getf 0 (lvd_26 h3) (cell_26 _ _ _ _) rfl (by decide) in_3 w_370 rfl dX9_faultAt_46 ?_
    exact r_iret rfl rfl rfl dX9_faultAt_49
  · skip
    refine r_ite (fun h4 => ?_) (fun h4 => ?_)
    · refine r_tswIn (off := 38) 50 h4 dX9_faultAt_12 (by decide) (by decide) (by decide) (by decide) (by decide) ?_
      refine r_aload 0 rfl dX9_faultAt_50 ?_
      refine r_gd (fun h5 => ?_)
      refine r_getf 1 (lvd_26 h5) (cell_26 _ _ _ _) rfl (by decide) in_3 w_381 rfl dX9_faultAt_52 ?_
      exact r_iret rfl rfl rfl dX9_faultAt_55
    · skip
      refine r_ite (fun h6 => ?_) (fun h6 => ?_)
      · refine r_tswIn (off := 44) 56 h6 dX9_faultAt_12 (by decide) (by decide) (by decide) (by decide) (by decide) ?_
        refine r_aload 0 rfl dX9_faultAt_56 ?_
        refine r_gd (fun h7 => ?_)
        refine r_getf 2 (lvd_26 h7) (cell_26 _ _ _ _) rfl (by decide) in_3 w_382 rfl dX9_faultAt_58 ?_
        exact r_iret rfl rfl rfl dX9_faultAt_61
      · skip
        refine r_ite (fun h8 => ?_) (fun h8 => ?_)
        · refine r_tswIn (off := 50) 62 h8 dX9_faultAt_12 (by decide) (by decide) (by decide) (by decide) (by decide) ?_
          refine r_aload 0 rfl dX9_faultAt_62 ?_
          refine r_gd (fun h9 => ?_)
          refine r_getf 3 (lvd_26 h9) (cell_26 _ _ _ _) rfl (by decide) in_3 w_383 rfl dX9_faultAt_64 ?_
          exact r_iret rfl rfl rfl dX9_faultAt_67
        · skip
          refine r_tswOut 68 dX9_faultAt_12 (tsw_out4 h2 h4 h6 h8) (by decide) ?_
          exact r_throw (text := "there is nothing like that to tell of a fault") at_2 (by decide +kernel) rfl dX9_faultAt_68 dX9_faultAt_71 dX9_faultAt_72 dX9_faultAt_74 dX9_faultAt_77 (by decide) (Nat.le_of_ble_eq_true rfl)
def f_X9_stands (σ : Wd) (p0 : Int32) (p1 : Int32) : Option ((Int32 ⊕ String) × Wd) :=
  bx (f_X9_rowAt σ p0) fun v1 σ2 =>
  if 0 ≤ p1 then
    gd (v1 < 3) <|
    bx (f_X6_fromExit σ2 v1 p1) fun v3 σ4 =>
    some (.inl v3, σ4)
  else
    some (.inr "java/lang/IndexOutOfBoundsException", σ2)
theorem nc_X9_stands (X : Xt) (hst : X.1.stackTraces = false) (ad : Ad) (σ : Wd) (p0 : Int32) (p1 : Int32) : NC X (fun a => a = ad) yX9_stands cX9_stands 4 (some (.int)) 7 104 vI (0, 0) ad σ [.ref (ad 0 0), .int p0, .int p1] (f_X9_stands σ p0 p1) := by
  unfold f_X9_stands
  refine NC.intro RX9 rfl hst (by decide) (Nat.le_of_ble_eq_true rfl) (lv := [(0, .ref _), (1, .int _), (2, .int _)]) rfl ?_
  refine r_aload_n 0 rfl dX9_stands_0 ?_
  refine r_iload_n 1 rfl dX9_stands_1 ?_
  refine r_callV (n := 1) (As := [.int _]) (cell_0 _ _ _ _) (lvs_0 _) rfl (nc_X9_rowAt X hst ad _ _) (fun _ h => h) rfl ⟨rfl, by decide, by decide, by decide +kernel⟩ w_324 w_325 w_326 w_203 w_327 rfl rfl (Nat.le_of_ble_eq_true rfl) ⟨by decide, by decide⟩ dX9_stands_2 (fun v1 σ2 => ?_)
  refine r_astore_n [(3, .ref _), (0, .ref _), (1, .int _), (2, .int _)] rfl (by decide) dX9_stands_5 ?_
  refine r_iload_n 3 rfl dX9_stands_6 ?_
  refine r_if_ge 20 dX9_stands_7 (by decide) ?_ ?_
  · refine r_aload_n 0 rfl dX9_stands_20 ?_
    refine r_iload_n 3 rfl dX9_stands_21 ?_
    refine r_gd (fun h1 => ?_)
    refine r_callV (n := 1) (As := [.int _]) (cell_5 _ _ _ _) (lvb_5 h1) rfl (nc_X6_fromExit X hst ad _ _ _) (fun _ h => h) rfl ⟨rfl, by decide, by decide, by decide +kernel⟩ w_384 w_385 w_386 w_332 w_387 rfl rfl (Nat.le_of_ble_eq_true rfl) ⟨by decide, by decide⟩ dX9_stands_22 (fun v3 σ4 => ?_)
    exact r_iret rfl rfl rfl dX9_stands_25
  · exact r_throw (text := "no such place") at_3 (by decide +kernel) rfl dX9_stands_10 dX9_stands_13 dX9_stands_14 dX9_stands_16 dX9_stands_19 (by decide) (Nat.le_of_ble_eq_true rfl)
def f_X9_shunts (σ : Wd) : Option ((Int32 ⊕ String) × Wd) :=
  some (.inl (σ.1 0 0 7), σ)
theorem nc_X9_shunts (X : Xt) (hst : X.1.stackTraces = false) (ad : Ad) (σ : Wd) : NC X (fun a => a = ad) yX9_shunts cX9_shunts 1 (some (.int)) 0 0 vI (0, 0) ad σ [.ref (ad 0 0)] (f_X9_shunts σ) := by
  unfold f_X9_shunts
  refine NC.intro RX9 rfl hst (by decide) (Nat.le_of_ble_eq_true rfl) (lv := [(0, .ref _)]) rfl ?_
  refine r_aload_n 0 rfl dX9_shunts_0 ?_
  refine r_getf 7 (lvs_0 _) (cell_0 _ _ _ _) rfl (by decide) in_10 w_328 rfl dX9_shunts_1 ?_
  exact r_iret rfl rfl rfl dX9_shunts_4
def f_X9_ran (σ : Wd) (p0 : Int32) (p1 : Int32) : Option ((Int32 ⊕ String) × Wd) :=
  bx (f_Jx4a65c_size_8abf5 σ 1) fun v1 σ2 =>
  bx (f_X9_checkNumber σ2 p0 v1) fun v3 σ4 =>
  bx (f_X9_checkRange σ4 p1 (0 : Int32) ((σ4.1 0 0 6) - (1 : Int32))) fun v5 σ6 =>
  bx (f_X4_unitThatRan σ6 p0 p1) fun v7 σ8 =>
  some (.inl v7, σ8)
theorem nc_X9_ran (X : Xt) (hst : X.1.stackTraces = false) (ad : Ad) (σ : Wd) (p0 : Int32) (p1 : Int32) : NC X (fun a => a = ad) yX9_ran cX9_ran 3 (some (.int)) 7 104 vI (0, 0) ad σ [.ref (ad 0 0), .int p0, .int p1] (f_X9_ran σ p0 p1) := by
  unfold f_X9_ran
  refine NC.intro RX9 rfl hst (by decide) (Nat.le_of_ble_eq_true rfl) (lv := [(0, .ref _), (1, .int _), (2, .int _)]) rfl ?_
  refine r_iload_n 1 rfl dX9_ran_0 ?_
  refine r_aload_n 0 rfl dX9_ran_1 ?_
  refine r_getf 1 (lvs_0 _) (cell_0 _ _ _ _) rfl (by decide) in_10 w_216 rfl dX9_ran_2 ?_
  refine r_callV (n := 0) (As := []) (cell_1 _ _ _ _) (lvl_1 _) rfl (nc_Jx4a65c_size_8abf5 X hst ad _ _) (fun _ h => h) rfl ⟨rfl, by decide, by decide, by decide +kernel⟩ w_217 w_140 w_141 w_104 w_142 rfl rfl (Nat.le_of_ble_eq_true rfl) ⟨by decide, by decide⟩ dX9_ran_5 (fun v1 σ2 => ?_)
  refine r_callS (n := 2) (As := [.int _, .int _]) (nc_X9_checkNumber X hst ad _ _ _) (fun _ h => h) rfl ⟨by decide, by decide, by decide +kernel⟩ w_226 w_227 w_203 w_228 rfl rfl (Nat.le_of_ble_eq_true rfl) ⟨by decide, by decide⟩ dX9_ran_8 (fun v3 σ4 => ?_)
  refine r_iload_n 2 rfl dX9_ran_11 ?_
  refine r_iconst (0) (by decide) dX9_ran_12 ?_
  refine r_aload_n 0 rfl dX9_ran_13 ?_
  refine r_getf 6 (lvs_0 _) (cell_0 _ _ _ _) rfl (by decide) in_10 w_234 rfl dX9_ran_14 ?_
  refine r_iconst (1) (by decide) dX9_ran_17 ?_
  refine r_isub dX9_ran_18 ?_
  refine r_callS (n := 3) (As := [.int _, .int _, .int _]) (nc_X9_checkRange X hst ad _ _ _ _) (fun _ h => h) rfl ⟨by decide, by decide, by decide +kernel⟩ w_201 w_202 w_203 w_204 rfl rfl (Nat.le_of_ble_eq_true rfl) ⟨by decide, by decide⟩ dX9_ran_19 (fun v5 σ6 => ?_)
  refine r_aload_n 0 rfl dX9_ran_22 ?_
  refine r_getf 5 (lvs_0 _) (cell_0 _ _ _ _) rfl (by decide) in_10 w_317 rfl dX9_ran_23 ?_
  refine r_iload_n 1 rfl dX9_ran_26 ?_
  refine r_iload_n 2 rfl dX9_ran_27 ?_
  refine r_callV (n := 2) (As := [.int _, .int _]) (cell_19 _ _ _ _) (lvs_19 _) rfl (nc_X4_unitThatRan X hst ad _ _ _) (fun _ h => h) rfl ⟨rfl, by decide, by decide, by decide +kernel⟩ w_388 w_17 w_18 w_19 w_20 rfl rfl (Nat.le_of_ble_eq_true rfl) ⟨by decide, by decide⟩ dX9_ran_28 (fun v7 σ8 => ?_)
  exact r_iret rfl rfl rfl dX9_ran_31
def l_X9_kmAnew_11 : Nat → Wd → Int32 → Int32 → Int32 → Option ((Int32 ⊕ String) × Wd)
  | 0, _, _, _, _ => none
  | n + 1, σ, a3, a2, a1 =>
  bx (f_Jx4a65c_size_8abf5 σ 1) fun v3 σ4 =>
  if v3 ≤ a3 then
    some (.inl a2, σ4)
  else
    bx (f_X9_diagramAt σ4 a3) fun v5 σ6 =>
    gd (v5 < σ6.2.2 9) <|
    bx (f_X4_timesThatRan σ6 a3 a1) fun v7 σ8 =>
    bd ((a2 + ((σ6.1 25 v5 2) * v7))) fun x9 =>
    (l_X9_kmAnew_11 n) σ8 (a3 + 1) x9 a1
def f_X9_kmAnew (σ : Wd) (p0 : Int32) : Option ((Int32 ⊕ String) × Wd) :=
  bx (f_X9_unitAt σ p0) fun v1 σ2 =>
  gd (v1 < σ2.2.2 8) <|
  l_X9_kmAnew_11 FU σ2 (0 : Int32) (σ2.1 21 v1 0) p0
theorem bl_X9_kmAnew_11 (X : Xt) (hst : X.1.stackTraces = false) (ad : Ad) : ∀ (n : Nat) (σ : Wd) (a3 : Int32) (a2 : Int32) (a1 : Int32), Bk X (fun a => a = ad) cX9_kmAnew 4 RX9 (some (.int)) 7 104 vI (0, 0) (0, 0) ad σ 11 [(3, .int a3), (2, .int a2), (0, .ref (ad 0 0)), (1, .int a1)] [] (l_X9_kmAnew_11 n σ a3 a2 a1) := by
  intro n
  induction n with
  | zero => intros; exact r_none
  | succ n ih =>
  intro σ a3 a2 a1
  rw [l_X9_kmAnew_11]
  refine r_iload_n 0 rfl dX9_kmAnew_11 ?_
  refine r_aload_n 2 rfl dX9_kmAnew_12 ?_
  refine r_getf 1 (lvs_0 _) (cell_0 _ _ _ _) rfl (by decide) in_10 w_216 rfl dX9_kmAnew_13 ?_
  refine r_callV (n := 0) (As := []) (cell_1 _ _ _ _) (lvl_1 _) rfl (nc_Jx4a65c_size_8abf5 X hst ad _ _) (fun _ h => h) rfl ⟨rfl, by decide, by decide, by decide +kernel⟩ w_217 w_140 w_141 w_104 w_142 rfl rfl (Nat.le_of_ble_eq_true rfl) ⟨by decide, by decide⟩ dX9_kmAnew_16 (fun v3 σ4 => ?_)
  refine r_icmp_ge 49 dX9_kmAnew_19 (by decide) ?_ ?_
  · refine r_iload_n 1 rfl dX9_kmAnew_49 ?_
    exact r_iret rfl rfl rfl dX9_kmAnew_50
  · refine r_iload_n 1 rfl dX9_kmAnew_22 ?_
    refine r_aload_n 2 rfl dX9_kmAnew_23 ?_
    refine r_iload_n 0 rfl dX9_kmAnew_24 ?_
    refine r_callV (n := 1) (As := [.int _]) (cell_0 _ _ _ _) (lvs_0 _) rfl (nc_X9_diagramAt X hst ad _ _) (fun _ h => h) rfl ⟨rfl, by decide, by decide, by decide +kernel⟩ w_220 w_221 w_222 w_203 w_223 rfl rfl (Nat.le_of_ble_eq_true rfl) ⟨by decide, by decide⟩ dX9_kmAnew_25 (fun v5 σ6 => ?_)
    refine r_gd (fun h2 => ?_)
    refine r_getf 2 (lvd_25 h2) (cell_25 _ _ _ _) rfl (by decide) in_1 w_342 rfl dX9_kmAnew_28 ?_
    refine r_aload_n 2 rfl dX9_kmAnew_31 ?_
    refine r_getf 5 (lvs_0 _) (cell_0 _ _ _ _) rfl (by decide) in_10 w_317 rfl dX9_kmAnew_32 ?_
    refine r_iload_n 0 rfl dX9_kmAnew_35 ?_
    refine r_iload_n 3 rfl dX9_kmAnew_36 ?_
    refine r_callV (n := 2) (As := [.int _, .int _]) (cell_19 _ _ _ _) (lvs_19 _) rfl (nc_X4_timesThatRan X hst ad _ _ _) (fun _ h => h) rfl ⟨rfl, by decide, by decide, by decide +kernel⟩ w_390 w_391 w_392 w_19 w_393 rfl rfl (Nat.le_of_ble_eq_true rfl) ⟨by decide, by decide⟩ dX9_kmAnew_37 (fun v7 σ8 => ?_)
    refine r_imul dX9_kmAnew_40 ?_
    refine r_iadd dX9_kmAnew_41 ?_
    refine r_bd ?_
    refine r_istore_n [(2, .int _), (3, .int _), (0, .ref _), (1, .int _)] rfl (by decide) dX9_kmAnew_42 ?_
    refine r_iinc (1) [(3, .int _), (2, .int _), (0, .ref _), (1, .int _)] 1 rfl (by decide) rfl (by decide) dX9_kmAnew_43 ?_
    refine r_goto 11 dX9_kmAnew_46 (by decide) ?_
    exact r_sub [0, 1, 2, 3] rfl (ih _ _ _ _)
theorem nc_X9_kmAnew (X : Xt) (hst : X.1.stackTraces = false) (ad : Ad) (σ : Wd) (p0 : Int32) : NC X (fun a => a = ad) yX9_kmAnew cX9_kmAnew 4 (some (.int)) 7 104 vI (0, 0) ad σ [.ref (ad 0 0), .int p0] (f_X9_kmAnew σ p0) := by
  unfold f_X9_kmAnew
  refine NC.intro RX9 rfl hst (by decide) (Nat.le_of_ble_eq_true rfl) (lv := [(0, .ref _), (1, .int _)]) rfl ?_
  refine r_aload_n 0 rfl dX9_kmAnew_0 ?_
  refine r_iload_n 1 rfl dX9_kmAnew_1 ?_
  refine r_callV (n := 1) (As := [.int _]) (cell_0 _ _ _ _) (lvs_0 _) rfl (nc_X9_unitAt X hst ad _ _) (fun _ h => h) rfl ⟨rfl, by decide, by decide, by decide +kernel⟩ w_230 w_231 w_232 w_203 w_233 rfl rfl (Nat.le_of_ble_eq_true rfl) ⟨by decide, by decide⟩ dX9_kmAnew_2 (fun v1 σ2 => ?_)
  refine r_gd (fun h1 => ?_)
  refine r_getf 0 (lvd_21 h1) (cell_21 _ _ _ _) rfl (by decide) in_9 w_389 rfl dX9_kmAnew_5 ?_
  refine r_istore_n [(2, .int _), (0, .ref _), (1, .int _)] rfl (by decide) dX9_kmAnew_8 ?_
  refine r_iconst (0) (by decide) dX9_kmAnew_9 ?_
  refine r_istore_n [(3, .int _), (2, .int _), (0, .ref _), (1, .int _)] rfl (by decide) dX9_kmAnew_10 ?_
  exact r_sub [0, 1, 2, 3] rfl ((bl_X9_kmAnew_11 X hst ad FU) _ _ _ _)
