theorem bj_L_law_315 (X : Xt) (hst : X.1.stackTraces = false) (b L : Nat) (xs : Nat → Int32) (N : Nat) {k233 : Wd → Int32 → Int32 → Int32 → Int32 → Int32 → Int32 → Option Unit} (hk233 : ∀ (ad : Ad) (σ : Wd) (a14 : Int32) (a13 : Int32) (a12 : Int32) (a11 : Int32) (a10 : Int32) (a9 : Int32), Lk X b L xs (N) ad σ 233 [(14, .int a14), (13, .int a13), (12, .int a12), (11, .int a11), (10, .int a10), (9, .int a9), (0, .ref b), (1, .ref (ad 0 0)), (2, .ref (ad 71 0)), (3, .ref (ad 72 0)), (4, .ref (ad 73 0)), (5, .ref (ad 74 0)), (6, .ref (ad 75 0)), (7, .ref (ad 76 0)), (8, .ref (ad 77 0))] [] (k233 σ a14 a13 a12 a11 a10 a9)) (ad : Ad) (σ : Wd) (a15 : Int32) (a14 : Int32) (a13 : Int32) (a12 : Int32) (a11 : Int32) (a10 : Int32) (a9 : Int32) (s0 : Int32) (s1 : Int32) : Lk X b L xs (N + 1) ad σ 315 [(15, .int a15), (14, .int a14), (13, .int a13), (12, .int a12), (11, .int a11), (10, .int a10), (9, .int a9), (0, .ref b), (1, .ref (ad 0 0)), (2, .ref (ad 71 0)), (3, .ref (ad 72 0)), (4, .ref (ad 73 0)), (5, .ref (ad 74 0)), (6, .ref (ad 75 0)), (7, .ref (ad 76 0)), (8, .ref (ad 77 0))] [.int s0, .int s1, .ref (ad 75 0)] (j_L_law_315 L xs k233 σ a15 a14 a13 a12 a11 a10 a9 s0 s1) := by
  unfold j_L_law_315
  refine k_gd (fun h37 => ?_)
  refine k_bd ?_
  refine k_iastore (lvs_75 _) (ia_75 _ _ _) h37 dL_law_315 ?_
  refine k_aload 13 rfl dL_law_316 ?_
  refine k_bipush (6) (by decide) dL_law_318 ?_
  refine k_iload 1 rfl dL_law_320 ?_
  refine k_imul dL_law_322 ?_
  refine k_iconst (2) (by decide) dL_law_323 ?_
  refine k_iadd dL_law_324 ?_
  refine k_iconst (1) (by decide) dL_law_325 ?_
  refine k_iload 0 rfl dL_law_326 ?_
  refine k_bipush (64) (by decide) dL_law_328 ?_
  refine k_idiv (by decide) dL_law_330 ?_
  refine k_iload 0 rfl dL_law_331 ?_
  refine k_bipush (8) (by decide) dL_law_333 ?_
  refine k_idiv (by decide) dL_law_335 ?_
  refine k_iconst (3) (by decide) dL_law_336 ?_
  refine k_callS (n := 2) (As := [.int _, .int _]) (nc_L_up X hst ad _ _ _) ⟨by decide, by decide, by decide +kernel⟩ w_582 w_583 w_502 w_584 rfl rfl (Nat.le_of_ble_eq_true rfl) ⟨by decide, by decide⟩ dL_law_337 (fun v103 σ104 => ?_)
  refine k_if_ne 349 dL_law_340 (by decide) ?_ ?_
  · refine k_sipush (2000) (by decide) dL_law_343 ?_
    refine k_goto 352 dL_law_346 (by decide) ?_
    exact k_less (by omega) (k_sub [0, 1, 2, 3, 4, 5, 6, 7, 8, 9, 10, 11, 12, 13, 14, 15] rfl (bj_L_law_352 X hst b L xs N hk233 ad _ _ _ _ _ _ _ _ _ _ _ _))
  · refine k_sipush (400) (by decide) dL_law_349 ?_
    exact k_less (by omega) (k_sub [0, 1, 2, 3, 4, 5, 6, 7, 8, 9, 10, 11, 12, 13, 14, 15] rfl (bj_L_law_352 X hst b L xs N hk233 ad _ _ _ _ _ _ _ _ _ _ _ _))
theorem bj_L_law_279 (X : Xt) (hst : X.1.stackTraces = false) (b L : Nat) (xs : Nat → Int32) (N : Nat) {k233 : Wd → Int32 → Int32 → Int32 → Int32 → Int32 → Int32 → Option Unit} (hk233 : ∀ (ad : Ad) (σ : Wd) (a14 : Int32) (a13 : Int32) (a12 : Int32) (a11 : Int32) (a10 : Int32) (a9 : Int32), Lk X b L xs (N) ad σ 233 [(14, .int a14), (13, .int a13), (12, .int a12), (11, .int a11), (10, .int a10), (9, .int a9), (0, .ref b), (1, .ref (ad 0 0)), (2, .ref (ad 71 0)), (3, .ref (ad 72 0)), (4, .ref (ad 73 0)), (5, .ref (ad 74 0)), (6, .ref (ad 75 0)), (7, .ref (ad 76 0)), (8, .ref (ad 77 0))] [] (k233 σ a14 a13 a12 a11 a10 a9)) (ad : Ad) (σ : Wd) (a15 : Int32) (a14 : Int32) (a13 : Int32) (a12 : Int32) (a11 : Int32) (a10 : Int32) (a9 : Int32) (s0 : Int32) (s1 : Int32) : Lk X b L xs (N + 1) ad σ 279 [(15, .int a15), (14, .int a14), (13, .int a13), (12, .int a12), (11, .int a11), (10, .int a10), (9, .int a9), (0, .ref b), (1, .ref (ad 0 0)), (2, .ref (ad 71 0)), (3, .ref (ad 72 0)), (4, .ref (ad 73 0)), (5, .ref (ad 74 0)), (6, .ref (ad 75 0)), (7, .ref (ad 76 0)), (8, .ref (ad 77 0))] [.int s0, .int s1, .ref (ad 75 0)] (j_L_law_279 L xs k233 σ a15 a14 a13 a12 a11 a10 a9 s0 s1) := by
  unfold j_L_law_279
  refine k_gd (fun h36 => ?_)
  refine k_bd ?_
  refine k_iastore (lvs_75 _) (ia_75 _ _ _) h36 dL_law_279 ?_
  refine k_aload 13 rfl dL_law_280 ?_
  refine k_bipush (6) (by decide) dL_law_282 ?_
  refine k_iload 1 rfl dL_law_284 ?_
  refine k_imul dL_law_286 ?_
  refine k_iconst (1) (by decide) dL_law_287 ?_
  refine k_iadd dL_law_288 ?_
  refine k_iload 0 rfl dL_law_289 ?_
  refine k_bipush (32) (by decide) dL_law_291 ?_
  refine k_idiv (by decide) dL_law_293 ?_
  refine k_iconst (5) (by decide) dL_law_294 ?_
  refine k_callS (n := 2) (As := [.int _, .int _]) (nc_L_up X hst ad _ _ _) ⟨by decide, by decide, by decide +kernel⟩ w_582 w_583 w_502 w_584 rfl rfl (Nat.le_of_ble_eq_true rfl) ⟨by decide, by decide⟩ dL_law_295 (fun v98 σ99 => ?_)
  refine k_iconst (3) (by decide) dL_law_298 ?_
  refine k_icmp_ge 306 dL_law_299 (by decide) ?_ ?_
  · refine k_iload 0 rfl dL_law_306 ?_
    refine k_bipush (64) (by decide) dL_law_308 ?_
    refine k_idiv (by decide) dL_law_310 ?_
    refine k_iconst (3) (by decide) dL_law_311 ?_
    refine k_callS (n := 2) (As := [.int _, .int _]) (nc_L_up X hst ad _ _ _) ⟨by decide, by decide, by decide +kernel⟩ w_582 w_583 w_502 w_584 rfl rfl (Nat.le_of_ble_eq_true rfl) ⟨by decide, by decide⟩ dL_law_312 (fun v100 σ101 => ?_)
    exact k_less (by omega) (k_sub [0, 1, 2, 3, 4, 5, 6, 7, 8, 9, 10, 11, 12, 13, 14, 15] rfl (bj_L_law_315 X hst b L xs N hk233 ad _ _ _ _ _ _ _ _ _ _))
  · refine k_iconst (0) (by decide) dL_law_302 ?_
    refine k_goto 315 dL_law_303 (by decide) ?_
    exact k_less (by omega) (k_sub [0, 1, 2, 3, 4, 5, 6, 7, 8, 9, 10, 11, 12, 13, 14, 15] rfl (bj_L_law_315 X hst b L xs N hk233 ad _ _ _ _ _ _ _ _ _ _))
theorem bl_L_law_233 (X : Xt) (hst : X.1.stackTraces = false) (b L : Nat) (xs : Nat → Int32) (N : Nat) : ∀ (n : Nat) (ad : Ad) (σ : Wd) (a14 : Int32) (a13 : Int32) (a12 : Int32) (a11 : Int32) (a10 : Int32) (a9 : Int32), Lk X b L xs (101 + n) ad σ 233 [(14, .int a14), (13, .int a13), (12, .int a12), (11, .int a11), (10, .int a10), (9, .int a9), (0, .ref b), (1, .ref (ad 0 0)), (2, .ref (ad 71 0)), (3, .ref (ad 72 0)), (4, .ref (ad 73 0)), (5, .ref (ad 74 0)), (6, .ref (ad 75 0)), (7, .ref (ad 76 0)), (8, .ref (ad 77 0))] [] (l_L_law_233 L xs n σ a14 a13 a12 a11 a10 a9) := by
  intro n
  induction n with
  | zero => intros; exact k_none
  | succ n ih =>
  intro ad σ a14 a13 a12 a11 a10 a9
  rw [l_L_law_233]
  show Lk X b L xs (101 + n + 1) _ _ _ _ _ _
  refine k_iload 0 rfl dL_law_233 ?_
  refine k_iconst (3) (by decide) dL_law_235 ?_
  refine k_icmp_ge 572 dL_law_236 (by decide) ?_ ?_
  · refine k_iconst (0) (by decide) dL_law_572 ?_
    refine k_istore [(14, .int _), (13, .int _), (12, .int _), (11, .int _), (10, .int _), (9, .int _), (0, .ref _), (1, .ref _), (2, .ref _), (3, .ref _), (4, .ref _), (5, .ref _), (6, .ref _), (7, .ref _), (8, .ref _)] rfl (by decide) dL_law_573 ?_
    exact k_less (by omega) (k_sub [0, 1, 2, 3, 4, 5, 6, 7, 8, 9, 10, 11, 12, 13, 14] rfl (bl_L_law_575 X hst b L xs 0 FU ad _ _ _ _ _ _ _))
  · refine k_aload_n 6 rfl dL_law_239 ?_
    refine k_iconst (4) (by decide) dL_law_240 ?_
    refine k_iload 0 rfl dL_law_241 ?_
    refine k_iadd dL_law_243 ?_
    refine k_gd (fun h35 => ?_)
    refine k_cell hst h35 w_579 w_580 w_502 w_581 (Nat.le_of_ble_eq_true rfl) dL_law_244 ?_
    refine k_bd ?_
    refine k_istore [(15, .int _), (14, .int _), (13, .int _), (12, .int _), (11, .int _), (10, .int _), (9, .int _), (0, .ref _), (1, .ref _), (2, .ref _), (3, .ref _), (4, .ref _), (5, .ref _), (6, .ref _), (7, .ref _), (8, .ref _)] rfl (by decide) dL_law_247 ?_
    refine k_aload 13 rfl dL_law_249 ?_
    refine k_bipush (6) (by decide) dL_law_251 ?_
    refine k_iload 1 rfl dL_law_253 ?_
    refine k_imul dL_law_255 ?_
    refine k_iload 0 rfl dL_law_256 ?_
    refine k_iconst (5) (by decide) dL_law_258 ?_
    refine k_callS (n := 2) (As := [.int _, .int _]) (nc_L_up X hst ad _ _ _) ⟨by decide, by decide, by decide +kernel⟩ w_582 w_583 w_502 w_584 rfl rfl (Nat.le_of_ble_eq_true rfl) ⟨by decide, by decide⟩ dL_law_259 (fun v93 σ94 => ?_)
    refine k_iconst (3) (by decide) dL_law_262 ?_
    refine k_icmp_ge 270 dL_law_263 (by decide) ?_ ?_
    · refine k_iload 0 rfl dL_law_270 ?_
      refine k_bipush (16) (by decide) dL_law_272 ?_
      refine k_idiv (by decide) dL_law_274 ?_
      refine k_iconst (3) (by decide) dL_law_275 ?_
      refine k_callS (n := 2) (As := [.int _, .int _]) (nc_L_up X hst ad _ _ _) ⟨by decide, by decide, by decide +kernel⟩ w_582 w_583 w_502 w_584 rfl rfl (Nat.le_of_ble_eq_true rfl) ⟨by decide, by decide⟩ dL_law_276 (fun v95 σ96 => ?_)
      exact k_less (by omega) (k_sub [0, 1, 2, 3, 4, 5, 6, 7, 8, 9, 10, 11, 12, 13, 14, 15] rfl (bj_L_law_279 X hst b L xs (101 + n) ih ad _ _ _ _ _ _ _ _ _ _))
    · refine k_iconst (0) (by decide) dL_law_266 ?_
      refine k_goto 279 dL_law_267 (by decide) ?_
      exact k_less (by omega) (k_sub [0, 1, 2, 3, 4, 5, 6, 7, 8, 9, 10, 11, 12, 13, 14, 15] rfl (bj_L_law_279 X hst b L xs (101 + n) ih ad _ _ _ _ _ _ _ _ _ _))
theorem bl_L_law_136 (X : Xt) (hst : X.1.stackTraces = false) (b L : Nat) (xs : Nat → Int32) (N : Nat) {k65 : Wd → Int32 → Int32 → Int32 → Int32 → Int32 → Int32 → Option Unit} (hk65 : ∀ (ad : Ad) (σ : Wd) (a14 : Int32) (a13 : Int32) (a12 : Int32) (a11 : Int32) (a10 : Int32) (a9 : Int32), Lk X b L xs (N) ad σ 65 [(14, .int a14), (13, .int a13), (12, .int a12), (11, .int a11), (10, .int a10), (9, .int a9), (0, .ref b), (1, .ref (ad 0 0)), (2, .ref (ad 71 0)), (3, .ref (ad 72 0)), (4, .ref (ad 73 0)), (5, .ref (ad 74 0)), (6, .ref (ad 75 0)), (7, .ref (ad 76 0)), (8, .ref (ad 77 0))] [] (k65 σ a14 a13 a12 a11 a10 a9)) : ∀ (n : Nat) (ad : Ad) (σ : Wd) (a17 : Int32) (a16 : Int32) (a14 : Int32) (a13 : Int32) (a12 : Int32) (a11 : Int32) (a10 : Int32) (a9 : Int32), Lk X b L xs (N + 1) ad σ 136 [(17, .int a17), (16, .int a16), (14, .int a14), (13, .int a13), (12, .int a12), (11, .int a11), (10, .int a10), (9, .int a9), (0, .ref b), (1, .ref (ad 0 0)), (2, .ref (ad 71 0)), (3, .ref (ad 72 0)), (4, .ref (ad 73 0)), (5, .ref (ad 74 0)), (6, .ref (ad 75 0)), (7, .ref (ad 76 0)), (8, .ref (ad 77 0))] [] (l_L_law_136 L xs k65 n σ a17 a16 a14 a13 a12 a11 a10 a9) := by
  intro n
  induction n with
  | zero => intros; exact k_none
  | succ n ih =>
  intro ad σ a17 a16 a14 a13 a12 a11 a10 a9
  rw [l_L_law_136]
  refine k_iload 0 rfl dL_law_136 ?_
  refine k_bipush (6) (by decide) dL_law_138 ?_
  refine k_icmp_ge 162 dL_law_140 (by decide) ?_ ?_
  · refine k_aload 13 rfl dL_law_162 ?_
    refine k_iconst (4) (by decide) dL_law_164 ?_
    refine k_iload 1 rfl dL_law_165 ?_
    refine k_imul dL_law_167 ?_
    refine k_aload 13 rfl dL_law_168 ?_
    refine k_bipush (12) (by decide) dL_law_170 ?_
    refine k_iload 1 rfl dL_law_172 ?_
    refine k_iadd dL_law_174 ?_
    refine k_gd (fun h55 => ?_)
    refine k_iaload (lvs_74 _) (cell_74 _ _ _ _) h55 dL_law_175 ?_
    refine k_iadd dL_law_176 ?_
    refine k_iload 2 rfl dL_law_177 ?_
    refine k_gd (fun h56 => ?_)
    refine k_bd ?_
    refine k_iastore (lvs_74 _) (ia_74 _ _ _) h56 dL_law_179 ?_
    refine k_aload 13 rfl dL_law_180 ?_
    refine k_bipush (12) (by decide) dL_law_182 ?_
    refine k_iload 1 rfl dL_law_184 ?_
    refine k_iadd dL_law_186 ?_
    refine k_dup2 rfl rfl dL_law_187 ?_
    refine k_iaload (lvs_74 _) (cell_74 _ _ _ _) h55 dL_law_188 ?_
    refine k_iconst (1) (by decide) dL_law_189 ?_
    refine k_iadd dL_law_190 ?_
    refine k_bd ?_
    refine k_iastore (lvs_74 _) (ia_74 _ _ _) h55 dL_law_191 ?_
    refine k_iload 3 rfl dL_law_192 ?_
    refine k_if_eq 221 dL_law_194 (by decide) ?_ ?_
    · refine k_iconst (0) (by decide) dL_law_221 ?_
      refine k_istore [(13, .int _), (17, .int _), (16, .int _), (14, .int _), (12, .int _), (11, .int _), (10, .int _), (9, .int _), (0, .ref _), (1, .ref _), (2, .ref _), (3, .ref _), (4, .ref _), (5, .ref _), (6, .ref _), (7, .ref _), (8, .ref _)] rfl (by decide) dL_law_222 ?_
      refine k_iinc (1) [(14, .int _), (13, .int _), (17, .int _), (16, .int _), (12, .int _), (11, .int _), (10, .int _), (9, .int _), (0, .ref _), (1, .ref _), (2, .ref _), (3, .ref _), (4, .ref _), (5, .ref _), (6, .ref _), (7, .ref _), (8, .ref _)] 3 rfl (by decide) rfl (by decide) dL_law_224 ?_
      refine k_goto 65 dL_law_227 (by decide) ?_
      exact k_less (by omega) (k_sub [0, 1, 4, 5, 6, 7, 8, 9, 10, 11, 12, 13, 14, 15, 16] rfl (hk65 ad _ _ _ _ _ _ _))
    · refine k_aload_n 9 rfl dL_law_197 ?_
      refine k_iload 1 rfl dL_law_198 ?_
      refine k_aload_n 10 rfl dL_law_200 ?_
      refine k_bipush (16) (by decide) dL_law_201 ?_
      refine k_iload 2 rfl dL_law_203 ?_
      refine k_imul dL_law_205 ?_
      refine k_iconst (1) (by decide) dL_law_206 ?_
      refine k_iadd dL_law_207 ?_
      refine k_gd (fun h57 => ?_)
      refine k_iaload (lvs_71 _) (cell_71 _ _ _ _) h57 dL_law_208 ?_
      refine k_callVA (n := 2) (As := [.int _, .int _]) (nc_X9_unit X hst ad _ _ _) ⟨rfl, by decide, by decide, by decide +kernel⟩ w_627 w_628 w_629 w_203 w_630 rfl rfl (Nat.le_of_ble_eq_true rfl) ⟨by decide, by decide⟩ ⟨by decide, by decide⟩ dL_law_209 (fun v135 σ136 a1 hFa1 => ?_)
      rw [← hFa1 0 0 (by decide), ← hFa1 71 0 (by decide), ← hFa1 72 0 (by decide), ← hFa1 73 0 (by decide), ← hFa1 74 0 (by decide), ← hFa1 75 0 (by decide), ← hFa1 76 0 (by decide), ← hFa1 77 0 (by decide)]
      refine k_iload 2 rfl dL_law_212 ?_
      refine k_icmp_ne 221 dL_law_214 (by decide) ?_ ?_
      · refine k_iconst (1) (by decide) dL_law_217 ?_
        refine k_goto 222 dL_law_218 (by decide) ?_
        refine k_istore [(13, .int _), (17, .int _), (16, .int _), (14, .int _), (12, .int _), (11, .int _), (10, .int _), (9, .int _), (0, .ref _), (1, .ref _), (2, .ref _), (3, .ref _), (4, .ref _), (5, .ref _), (6, .ref _), (7, .ref _), (8, .ref _)] rfl (by decide) dL_law_222 ?_
        refine k_iinc (1) [(14, .int _), (13, .int _), (17, .int _), (16, .int _), (12, .int _), (11, .int _), (10, .int _), (9, .int _), (0, .ref _), (1, .ref _), (2, .ref _), (3, .ref _), (4, .ref _), (5, .ref _), (6, .ref _), (7, .ref _), (8, .ref _)] 3 rfl (by decide) rfl (by decide) dL_law_224 ?_
        refine k_goto 65 dL_law_227 (by decide) ?_
        exact k_less (by omega) (k_sub [0, 1, 4, 5, 6, 7, 8, 9, 10, 11, 12, 13, 14, 15, 16] rfl (hk65 a1 _ _ _ _ _ _ _))
      · refine k_iconst (0) (by decide) dL_law_221 ?_
        refine k_istore [(13, .int _), (17, .int _), (16, .int _), (14, .int _), (12, .int _), (11, .int _), (10, .int _), (9, .int _), (0, .ref _), (1, .ref _), (2, .ref _), (3, .ref _), (4, .ref _), (5, .ref _), (6, .ref _), (7, .ref _), (8, .ref _)] rfl (by decide) dL_law_222 ?_
        refine k_iinc (1) [(14, .int _), (13, .int _), (17, .int _), (16, .int _), (12, .int _), (11, .int _), (10, .int _), (9, .int _), (0, .ref _), (1, .ref _), (2, .ref _), (3, .ref _), (4, .ref _), (5, .ref _), (6, .ref _), (7, .ref _), (8, .ref _)] 3 rfl (by decide) rfl (by decide) dL_law_224 ?_
        refine k_goto 65 dL_law_227 (by decide) ?_
        exact k_less (by omega) (k_sub [0, 1, 4, 5, 6, 7, 8, 9, 10, 11, 12, 13, 14, 15, 16] rfl (hk65 a1 _ _ _ _ _ _ _))
  · refine k_aload_n 10 rfl dL_law_143 ?_
    refine k_bipush (16) (by decide) dL_law_144 ?_
    refine k_iload 2 rfl dL_law_146 ?_
    refine k_imul dL_law_148 ?_
    refine k_iload 0 rfl dL_law_149 ?_
    refine k_iadd dL_law_151 ?_
    refine k_sipush (900) (by decide) dL_law_152 ?_
    refine k_gd (fun h58 => ?_)
    refine k_bd ?_
    refine k_iastore (lvs_71 _) (ia_71 _ _ _) h58 dL_law_155 ?_
    refine k_iinc (1) [(17, .int _), (16, .int _), (14, .int _), (13, .int _), (12, .int _), (11, .int _), (10, .int _), (9, .int _), (0, .ref _), (1, .ref _), (2, .ref _), (3, .ref _), (4, .ref _), (5, .ref _), (6, .ref _), (7, .ref _), (8, .ref _)] 0 rfl (by decide) rfl (by decide) dL_law_156 ?_
    refine k_goto 136 dL_law_159 (by decide) ?_
    exact k_less (by omega) (k_sub [0, 1, 2, 3, 4, 5, 6, 7, 8, 9, 10, 11, 12, 13, 14, 15, 16] rfl (ih ad _ _ _ _ _ _ _ _ _))
theorem bj_L_law_102 (X : Xt) (hst : X.1.stackTraces = false) (b L : Nat) (xs : Nat → Int32) (N : Nat) {k65 : Wd → Int32 → Int32 → Int32 → Int32 → Int32 → Int32 → Option Unit} (hk65 : ∀ (ad : Ad) (σ : Wd) (a14 : Int32) (a13 : Int32) (a12 : Int32) (a11 : Int32) (a10 : Int32) (a9 : Int32), Lk X b L xs (N) ad σ 65 [(14, .int a14), (13, .int a13), (12, .int a12), (11, .int a11), (10, .int a10), (9, .int a9), (0, .ref b), (1, .ref (ad 0 0)), (2, .ref (ad 71 0)), (3, .ref (ad 72 0)), (4, .ref (ad 73 0)), (5, .ref (ad 74 0)), (6, .ref (ad 75 0)), (7, .ref (ad 76 0)), (8, .ref (ad 77 0))] [] (k65 σ a14 a13 a12 a11 a10 a9)) (ad : Ad) (σ : Wd) (a15 : Int32) (a14 : Int32) (a13 : Int32) (a12 : Int32) (a11 : Int32) (a10 : Int32) (a9 : Int32) (s0 : Int32) : Lk X b L xs (N + 1) ad σ 102 [(15, .int a15), (14, .int a14), (13, .int a13), (12, .int a12), (11, .int a11), (10, .int a10), (9, .int a9), (0, .ref b), (1, .ref (ad 0 0)), (2, .ref (ad 71 0)), (3, .ref (ad 72 0)), (4, .ref (ad 73 0)), (5, .ref (ad 74 0)), (6, .ref (ad 75 0)), (7, .ref (ad 76 0)), (8, .ref (ad 77 0))] [.int s0] (j_L_law_102 L xs k65 σ a15 a14 a13 a12 a11 a10 a9 s0) := by
  unfold j_L_law_102
  refine k_istore [(16, .int _), (15, .int _), (14, .int _), (13, .int _), (12, .int _), (11, .int _), (10, .int _), (9, .int _), (0, .ref _), (1, .ref _), (2, .ref _), (3, .ref _), (4, .ref _), (5, .ref _), (6, .ref _), (7, .ref _), (8, .ref _)] rfl (by decide) dL_law_102 ?_
  refine k_aload_n 10 rfl dL_law_104 ?_
  refine k_bipush (16) (by decide) dL_law_105 ?_
  refine k_iload 2 rfl dL_law_107 ?_
  refine k_imul dL_law_109 ?_
  refine k_iload 0 rfl dL_law_110 ?_
  refine k_gd (fun h53 => ?_)
  refine k_bd ?_
  refine k_iastore (lvs_71 _) (ia_71 _ _ _) h53 dL_law_112 ?_
  refine k_aload_n 10 rfl dL_law_113 ?_
  refine k_bipush (16) (by decide) dL_law_114 ?_
  refine k_iload 2 rfl dL_law_116 ?_
  refine k_imul dL_law_118 ?_
  refine k_iconst (1) (by decide) dL_law_119 ?_
  refine k_iadd dL_law_120 ?_
  refine k_iload 1 rfl dL_law_121 ?_
  refine k_bipush (16) (by decide) dL_law_123 ?_
  refine k_idiv (by decide) dL_law_125 ?_
  refine k_sipush (3000) (by decide) dL_law_126 ?_
  refine k_callS (n := 2) (As := [.int _, .int _]) (nc_L_up X hst ad _ _ _) ⟨by decide, by decide, by decide +kernel⟩ w_582 w_583 w_502 w_584 rfl rfl (Nat.le_of_ble_eq_true rfl) ⟨by decide, by decide⟩ dL_law_129 (fun v130 σ131 => ?_)
  refine k_gd (fun h54 => ?_)
  refine k_bd ?_
  refine k_iastore (lvs_71 _) (ia_71 _ _ _) h54 dL_law_132 ?_
  refine k_iconst (2) (by decide) dL_law_133 ?_
  refine k_istore [(17, .int _), (16, .int _), (15, .int _), (14, .int _), (13, .int _), (12, .int _), (11, .int _), (10, .int _), (9, .int _), (0, .ref _), (1, .ref _), (2, .ref _), (3, .ref _), (4, .ref _), (5, .ref _), (6, .ref _), (7, .ref _), (8, .ref _)] rfl (by decide) dL_law_134 ?_
  exact k_less (by omega) (k_sub [0, 1, 3, 4, 5, 6, 7, 8, 9, 10, 11, 12, 13, 14, 15, 16, 17] rfl (bl_L_law_136 X hst b L xs N hk65 FU ad _ _ _ _ _ _ _ _ _))
theorem bl_L_law_65 (X : Xt) (hst : X.1.stackTraces = false) (b L : Nat) (xs : Nat → Int32) (N : Nat) : ∀ (n : Nat) (ad : Ad) (σ : Wd) (a14 : Int32) (a13 : Int32) (a12 : Int32) (a11 : Int32) (a10 : Int32) (a9 : Int32), Lk X b L xs (120 + n) ad σ 65 [(14, .int a14), (13, .int a13), (12, .int a12), (11, .int a11), (10, .int a10), (9, .int a9), (0, .ref b), (1, .ref (ad 0 0)), (2, .ref (ad 71 0)), (3, .ref (ad 72 0)), (4, .ref (ad 73 0)), (5, .ref (ad 74 0)), (6, .ref (ad 75 0)), (7, .ref (ad 76 0)), (8, .ref (ad 77 0))] [] (l_L_law_65 L xs n σ a14 a13 a12 a11 a10 a9) := by
  intro n
  induction n with
  | zero => intros; exact k_none
  | succ n ih =>
  intro ad σ a14 a13 a12 a11 a10 a9
  rw [l_L_law_65]
  show Lk X b L xs (120 + n + 1) _ _ _ _ _ _
  refine k_iload 0 rfl dL_law_65 ?_
  refine k_iconst (4) (by decide) dL_law_67 ?_
  refine k_icmp_ge 230 dL_law_68 (by decide) ?_ ?_
  · refine k_iconst (0) (by decide) dL_law_230 ?_
    refine k_istore [(14, .int _), (13, .int _), (12, .int _), (11, .int _), (10, .int _), (9, .int _), (0, .ref _), (1, .ref _), (2, .ref _), (3, .ref _), (4, .ref _), (5, .ref _), (6, .ref _), (7, .ref _), (8, .ref _)] rfl (by decide) dL_law_231 ?_
    exact k_less (by omega) (k_sub [0, 1, 2, 3, 4, 5, 6, 7, 8, 9, 10, 11, 12, 13, 14] rfl (bl_L_law_233 X hst b L xs 0 8 ad _ _ _ _ _ _ _))
  · refine k_aload_n 6 rfl dL_law_71 ?_
    refine k_iload 0 rfl dL_law_72 ?_
    refine k_gd (fun h52 => ?_)
    refine k_cell hst h52 w_579 w_580 w_502 w_581 (Nat.le_of_ble_eq_true rfl) dL_law_74 ?_
    refine k_bd ?_
    refine k_istore [(15, .int _), (14, .int _), (13, .int _), (12, .int _), (11, .int _), (10, .int _), (9, .int _), (0, .ref _), (1, .ref _), (2, .ref _), (3, .ref _), (4, .ref _), (5, .ref _), (6, .ref _), (7, .ref _), (8, .ref _)] rfl (by decide) dL_law_77 ?_
    refine k_iload 0 rfl dL_law_79 ?_
    refine k_iconst (4) (by decide) dL_law_81 ?_
    refine k_callS (n := 2) (As := [.int _, .int _]) (nc_L_up X hst ad _ _ _) ⟨by decide, by decide, by decide +kernel⟩ w_582 w_583 w_502 w_584 rfl rfl (Nat.le_of_ble_eq_true rfl) ⟨by decide, by decide⟩ dL_law_82 (fun v125 σ126 => ?_)
    refine k_iconst (3) (by decide) dL_law_85 ?_
    refine k_icmp_ne 101 dL_law_86 (by decide) ?_ ?_
    · refine k_iload 0 rfl dL_law_89 ?_
      refine k_bipush (16) (by decide) dL_law_91 ?_
      refine k_idiv (by decide) dL_law_93 ?_
      refine k_iconst (3) (by decide) dL_law_94 ?_
      refine k_callS (n := 2) (As := [.int _, .int _]) (nc_L_up X hst ad _ _ _) ⟨by decide, by decide, by decide +kernel⟩ w_582 w_583 w_502 w_584 rfl rfl (Nat.le_of_ble_eq_true rfl) ⟨by decide, by decide⟩ dL_law_95 (fun v127 σ128 => ?_)
      refine k_goto 102 dL_law_98 (by decide) ?_
      exact k_less (by omega) (k_sub [0, 1, 2, 3, 4, 5, 6, 7, 8, 9, 10, 11, 12, 13, 14, 15] rfl (bj_L_law_102 X hst b L xs (120 + n) ih ad _ _ _ _ _ _ _ _ _))
    · refine k_iconst (0) (by decide) dL_law_101 ?_
      exact k_less (by omega) (k_sub [0, 1, 2, 3, 4, 5, 6, 7, 8, 9, 10, 11, 12, 13, 14, 15] rfl (bj_L_law_102 X hst b L xs (120 + n) ih ad _ _ _ _ _ _ _ _ _))
theorem law_walk (X : Xt) (hst : X.1.stackTraces = false) (b L : Nat) (xs : Nat → Int32) (ad : Ad) (σ : Wd) : Lk X b L xs (200) ad σ 47 [(0, .ref b), (1, .ref (ad 0 0)), (2, .ref (ad 71 0)), (3, .ref (ad 72 0)), (4, .ref (ad 73 0)), (5, .ref (ad 74 0)), (6, .ref (ad 75 0)), (7, .ref (ad 76 0)), (8, .ref (ad 77 0))] [] (f_law L xs σ) := by
  unfold f_law
  refine k_iconst (0) (by decide) dL_law_47 ?_
  refine k_istore [(9, .int _), (0, .ref _), (1, .ref _), (2, .ref _), (3, .ref _), (4, .ref _), (5, .ref _), (6, .ref _), (7, .ref _), (8, .ref _)] rfl (by decide) dL_law_48 ?_
  refine k_iconst (0) (by decide) dL_law_50 ?_
  refine k_istore [(10, .int _), (9, .int _), (0, .ref _), (1, .ref _), (2, .ref _), (3, .ref _), (4, .ref _), (5, .ref _), (6, .ref _), (7, .ref _), (8, .ref _)] rfl (by decide) dL_law_51 ?_
  refine k_iconst (0) (by decide) dL_law_53 ?_
  refine k_istore [(11, .int _), (10, .int _), (9, .int _), (0, .ref _), (1, .ref _), (2, .ref _), (3, .ref _), (4, .ref _), (5, .ref _), (6, .ref _), (7, .ref _), (8, .ref _)] rfl (by decide) dL_law_54 ?_
  refine k_iconst (0) (by decide) dL_law_56 ?_
  refine k_istore [(12, .int _), (11, .int _), (10, .int _), (9, .int _), (0, .ref _), (1, .ref _), (2, .ref _), (3, .ref _), (4, .ref _), (5, .ref _), (6, .ref _), (7, .ref _), (8, .ref _)] rfl (by decide) dL_law_57 ?_
  refine k_iconst (1) (by decide) dL_law_59 ?_
  refine k_istore [(13, .int _), (12, .int _), (11, .int _), (10, .int _), (9, .int _), (0, .ref _), (1, .ref _), (2, .ref _), (3, .ref _), (4, .ref _), (5, .ref _), (6, .ref _), (7, .ref _), (8, .ref _)] rfl (by decide) dL_law_60 ?_
  refine k_iconst (0) (by decide) dL_law_62 ?_
  refine k_istore [(14, .int _), (13, .int _), (12, .int _), (11, .int _), (10, .int _), (9, .int _), (0, .ref _), (1, .ref _), (2, .ref _), (3, .ref _), (4, .ref _), (5, .ref _), (6, .ref _), (7, .ref _), (8, .ref _)] rfl (by decide) dL_law_63 ?_
  exact k_less (by omega) (k_sub [0, 1, 2, 3, 4, 5, 6, 7, 8, 9, 10, 11, 12, 13, 14] rfl (bl_L_law_65 X hst b L xs 0 8 ad _ _ _ _ _ _ _))
