theorem w_499 : Cond.constant RL 7 (-1000000) ∈ G_ := gt3 227 (by decide +kernel) (by decide +kernel)
theorem w_500 : Cond.methodLink RL 14 yL_soon ∈ G_ := gt3 228 (by decide +kernel) (by decide +kernel)
theorem w_501 : Cond.static yL_soon ∈ G_ := gt3 229 (by decide +kernel) (by decide +kernel)
theorem w_502 : Cond.initialized RL ∈ G_ := gt1 0 (by decide +kernel) (by decide +kernel)
theorem w_503 : Cond.code yL_soon cL_soon 5 (some (.boolean)) ∈ G_ := gt3 230 (by decide +kernel) (by decide +kernel)
theorem w_504 : Cond.methodLink RL 8 yL_why ∈ G_ := gt3 224 (by decide +kernel) (by decide +kernel)
theorem w_505 : Cond.static yL_why ∈ G_ := gt3 225 (by decide +kernel) (by decide +kernel)
theorem w_506 : Cond.code yL_why cL_why 15 (some (.int)) ∈ G_ := gt3 226 (by decide +kernel) (by decide +kernel)
theorem w_507 : Cond.methodLink RL 18 yL_place ∈ G_ := gt3 234 (by decide +kernel) (by decide +kernel)
theorem w_508 : Cond.static yL_place ∈ G_ := gt3 235 (by decide +kernel) (by decide +kernel)
theorem w_509 : Cond.code yL_place cL_place 5 (some (.int)) ∈ G_ := gt3 236 (by decide +kernel) (by decide +kernel)
def f_L_up (σ : Wd) (p0 : Int32) (p1 : Int32) : Option ((Int32 ⊕ String) × Wd) :=
  gd (¬ p1 = 0) <|
  some (.inl ((p0.toUInt32 >>> ((2 : Int32).toUInt32 &&& Int32.toUInt32 31)).toInt32 - (p0.toUInt32 >>> ((2 : Int32).toUInt32 &&& Int32.toUInt32 31)).toInt32 / p1 * p1), σ)
theorem nc_L_up (X : Xt) (hst : X.1.stackTraces = false) (ad : Ad) (σ : Wd) (p0 : Int32) (p1 : Int32) : NC X (fun a => a = ad) yL_up cL_up 2 (some (.int)) 0 0 vI (0, 0) ad σ [.int p0, .int p1] (f_L_up σ p0 p1) := by
  unfold f_L_up
  refine NC.intro RL rfl hst (by decide) (Nat.le_of_ble_eq_true rfl) (lv := [(0, .int _), (1, .int _)]) rfl ?_
  refine r_iload_n 0 rfl dL_up_0 ?_
  refine r_iconst (2) (by decide) dL_up_1 ?_
  refine r_iushr dL_up_2 ?_
  refine r_iload_n 1 rfl dL_up_3 ?_
  refine r_gd (fun h1 => ?_)
  refine r_irem h1 dL_up_4 ?_
  exact r_iret rfl rfl rfl dL_up_5
def j_L_why_321 (k290 : Wd → Int32 → Int32 → Int32 → Int32 → Option ((Int32 ⊕ String) × Wd)) (σ : Wd) (a14 : Int32) (a13 : Int32) (a8 : Int32) (s0 : Int32) : Option ((Int32 ⊕ String) × Wd) :=
  gd (inb (a8 + a14) 64) <|
  if (σ.1 71 0 (a8 + a14).toNatClampNeg) ≤ a13 then
    k290 σ (a14 + 1) a13 s0 a8
  else
    bd ((σ.1 71 0 (a8 + a14).toNatClampNeg)) fun x1 =>
    k290 σ (a14 + 1) x1 s0 a8
def l_L_why_290 : Nat → Wd → Int32 → Int32 → Int32 → Int32 → Option ((Int32 ⊕ String) × Wd)
  | 0, _, _, _, _, _ => none
  | n + 1, σ, a14, a13, a12, a8 =>
  if (6 : Int32) ≤ a14 then
    if (6 : Int32) < (a13 - a12) then
      some (.inl (5 : Int32), σ)
    else
      if (800 : Int32) ≤ a12 then
        some (.inl (0 : Int32), σ)
      else
        some (.inl (5 : Int32), σ)
  else
    gd (inb (a8 + a14) 64) <|
    if a12 ≤ (σ.1 71 0 (a8 + a14).toNatClampNeg) then
      j_L_why_321 (l_L_why_290 n) σ a14 a13 a8 a12
    else
      j_L_why_321 (l_L_why_290 n) σ a14 a13 a8 (σ.1 71 0 (a8 + a14).toNatClampNeg)
def j_L_why_232 (k120 : Wd → Int32 → Int32 → Int32 → Int32 → Int32 → Int32 → Int32 → Option ((Int32 ⊕ String) × Wd)) (σ : Wd) (a10 : Int32) (a12 : Int32) (a9 : Int32) (a8 : Int32) (a5 : Int32) (a7 : Int32) : Option ((Int32 ⊕ String) × Wd) :=
  gd (inb a12 64) <|
  if (σ.1 72 0 a12.toNatClampNeg) = (2 : Int32) then
    gd (inb ((32 : Int32) + a12) 64) <|
    if (σ.1 73 0 ((32 : Int32) + a12).toNatClampNeg) ≤ (50 : Int32) then
      k120 σ (a12 + 1) (0 : Int32) a10 a9 a8 a5 a7
    else
      k120 σ (a12 + 1) (1 : Int32) a10 a9 a8 a5 a7
  else
    k120 σ (a12 + 1) (0 : Int32) a10 a9 a8 a5 a7
def j_L_why_206 (k120 : Wd → Int32 → Int32 → Int32 → Int32 → Int32 → Int32 → Int32 → Option ((Int32 ⊕ String) × Wd)) (σ : Wd) (a12 : Int32) (a11 : Int32) (a9 : Int32) (a8 : Int32) (a5 : Int32) (a7 : Int32) (s0 : Int32) (s1 : Int32) : Option ((Int32 ⊕ String) × Wd) :=
  if a11 = 0 then
    gd (inb a12 64) <|
    if (σ.1 72 0 a12.toNatClampNeg) = 0 then
      gd (inb ((32 : Int32) + a12) 64) <|
      if (4 : Int32) < (σ.1 73 0 ((32 : Int32) + a12).toNatClampNeg) then
        k120 σ (a12 + 1) (1 : Int32) (s1 + s0) a9 a8 a5 a7
      else
        j_L_why_232 k120 σ (s1 + s0) a12 a9 a8 a5 a7
    else
      j_L_why_232 k120 σ (s1 + s0) a12 a9 a8 a5 a7
  else
    k120 σ (a12 + 1) (1 : Int32) (s1 + s0) a9 a8 a5 a7
def l_L_why_120 : Nat → Wd → Int32 → Int32 → Int32 → Int32 → Int32 → Int32 → Int32 → Option ((Int32 ⊕ String) × Wd)
  | 0, _, _, _, _, _, _, _, _ => none
  | n + 1, σ, a12, a11, a10, a9, a8, a5, a7 =>
  gd (inb (a8 + (12 : Int32)) 64) <|
  if (((8 : Int32) * a5) + (σ.1 71 0 (a8 + (12 : Int32)).toNatClampNeg)) ≤ a12 then
    if a11 = 0 then
      if a10 ≤ (1 : Int32) then
        l_L_why_290 FU σ (2 : Int32) (-1000000 : Int32) (1000 : Int32) a8
      else
        some (.inl (4 : Int32), σ)
    else
      some (.inl (4 : Int32), σ)
  else
    gd (inb a12 64) <|
    gd (inb ((9 : Int32) + (σ.1 72 0 a12.toNatClampNeg)) 17) <|
    bd ((σ.1 76 0 ((9 : Int32) + (σ.1 72 0 a12.toNatClampNeg)).toNatClampNeg)) fun x2 =>
    if x2 < 0 then
      some (.inl (3 : Int32), σ)
    else
      gd (inb ((32 : Int32) + a12) 64) <|
      if x2 < (a7 - (σ.1 72 0 ((32 : Int32) + a12).toNatClampNeg)) then
        some (.inl (3 : Int32), σ)
      else
        gd (inb (a9 + (3 : Int32)) 18) <|
        gd (inb ((13 : Int32) + (σ.1 72 0 a12.toNatClampNeg)) 17) <|
        if (σ.1 75 0 (a9 + (3 : Int32)).toNatClampNeg) ≤ (σ.1 76 0 ((13 : Int32) + (σ.1 72 0 a12.toNatClampNeg)).toNatClampNeg) then
          if (σ.1 72 0 a12.toNatClampNeg) = (1 : Int32) then
            j_L_why_206 (l_L_why_120 n) σ a12 a11 a9 a8 a5 a7 (1 : Int32) a10
          else
            j_L_why_206 (l_L_why_120 n) σ a12 a11 a9 a8 a5 a7 (0 : Int32) a10
        else
          some (.inl (3 : Int32), σ)
def l_L_why_30 : Nat → Wd → Int32 → Int32 → Int32 → Int32 → Int32 → Option ((Int32 ⊕ String) × Wd)
  | 0, _, _, _, _, _, _ => none
  | n + 1, σ, a10, a9, a8, a5, a7 =>
  if (3 : Int32) ≤ a10 then
    l_L_why_120 FU σ ((8 : Int32) * a5) (0 : Int32) (0 : Int32) a9 a8 a5 a7
  else
    gd (inb ((a8 + (6 : Int32)) + a10) 64) <|
    gd (inb (a9 + (2 : Int32)) 18) <|
    gd (inb a10 17) <|
    gd (inb ((3 : Int32) + a10) 17) <|
    if ((σ.1 76 0 a10.toNatClampNeg) + (((σ.1 76 0 a10.toNatClampNeg) * (σ.1 76 0 ((3 : Int32) + a10).toNatClampNeg)) / (100 : Int32))) < ((σ.1 71 0 ((a8 + (6 : Int32)) + a10).toNatClampNeg) + (σ.1 75 0 (a9 + (2 : Int32)).toNatClampNeg)) then
      some (.inl (2 : Int32), σ)
    else
      gd (inb ((a8 + (9 : Int32)) + a10) 64) <|
      gd (inb ((6 : Int32) + a10) 17) <|
      if (σ.1 71 0 ((a8 + (9 : Int32)) + a10).toNatClampNeg) ≤ (σ.1 76 0 ((6 : Int32) + a10).toNatClampNeg) then
        (l_L_why_30 n) σ (a10 + 1) a9 a8 a5 a7
      else
        some (.inl (2 : Int32), σ)
def f_L_why (σ : Wd) (p5 : Int32) (p6 : Int32) (p7 : Int32) : Option ((Int32 ⊕ String) × Wd) :=
  gd (inb ((16 : Int32) * p5) 64) <|
  gd (inb ((6 : Int32) * p6) 18) <|
  if (σ.1 71 0 ((16 : Int32) * p5).toNatClampNeg) = (σ.1 75 0 ((6 : Int32) * p6).toNatClampNeg) then
    l_L_why_30 FU σ (0 : Int32) ((6 : Int32) * p6) ((16 : Int32) * p5) p5 p7
  else
    some (.inl (1 : Int32), σ)
theorem bj_L_why_321 (X : Xt) (hst : X.1.stackTraces = false) (ad : Ad) {k290 : Wd → Int32 → Int32 → Int32 → Int32 → Option ((Int32 ⊕ String) × Wd)} (hk290 : ∀ (σ : Wd) (a14 : Int32) (a13 : Int32) (a12 : Int32) (a8 : Int32), Bk X (fun a => a = ad) cL_why 15 RL (some (.int)) 0 0 vI (0, 0) (0, 0) ad σ 290 [(14, .int a14), (13, .int a13), (12, .int a12), (8, .int a8), (0, .ref (ad 71 0))] [] (k290 σ a14 a13 a12 a8)) (σ : Wd) (a14 : Int32) (a13 : Int32) (a8 : Int32) (s0 : Int32) : Bk X (fun a => a = ad) cL_why 15 RL (some (.int)) 0 0 vI (0, 0) (0, 0) ad σ 321 [(14, .int a14), (13, .int a13), (8, .int a8), (0, .ref (ad 71 0))] [.int s0] (j_L_why_321 k290 σ a14 a13 a8 s0) := by
  unfold j_L_why_321
  refine r_istore [(12, .int _), (14, .int _), (13, .int _), (8, .int _), (0, .ref _)] rfl (by decide) dL_why_321 ?_
  refine r_aload_n 4 rfl dL_why_323 ?_
  refine r_iload 3 rfl dL_why_324 ?_
  refine r_iload 1 rfl dL_why_326 ?_
  refine r_iadd dL_why_328 ?_
  refine r_gd (fun h5 => ?_)
  refine r_iaload (lvs_71 _) (cell_71 _ _ _ _) h5 dL_why_329 ?_
  refine r_iload 2 rfl dL_why_330 ?_
  refine r_icmp_le 345 dL_why_332 (by decide) ?_ ?_
  · refine r_iload 2 rfl dL_why_345 ?_
    refine r_istore [(13, .int _), (12, .int _), (14, .int _), (8, .int _), (0, .ref _)] rfl (by decide) dL_why_347 ?_
    refine r_iinc (1) [(14, .int _), (13, .int _), (12, .int _), (8, .int _), (0, .ref _)] 2 rfl (by decide) rfl (by decide) dL_why_349 ?_
    refine r_goto 290 dL_why_352 (by decide) ?_
    exact r_sub [0, 1, 2, 3, 4] rfl (hk290 _ _ _ _ _)
  · refine r_aload_n 4 rfl dL_why_335 ?_
    refine r_iload 3 rfl dL_why_336 ?_
    refine r_iload 1 rfl dL_why_338 ?_
    refine r_iadd dL_why_340 ?_
    refine r_iaload (lvs_71 _) (cell_71 _ _ _ _) h5 dL_why_341 ?_
    refine r_goto 347 dL_why_342 (by decide) ?_
    refine r_bd ?_
    refine r_istore [(13, .int _), (12, .int _), (14, .int _), (8, .int _), (0, .ref _)] rfl (by decide) dL_why_347 ?_
    refine r_iinc (1) [(14, .int _), (13, .int _), (12, .int _), (8, .int _), (0, .ref _)] 2 rfl (by decide) rfl (by decide) dL_why_349 ?_
    refine r_goto 290 dL_why_352 (by decide) ?_
    exact r_sub [0, 1, 2, 3, 4] rfl (hk290 _ _ _ _ _)
theorem bl_L_why_290 (X : Xt) (hst : X.1.stackTraces = false) (ad : Ad) : ∀ (n : Nat) (σ : Wd) (a14 : Int32) (a13 : Int32) (a12 : Int32) (a8 : Int32), Bk X (fun a => a = ad) cL_why 15 RL (some (.int)) 0 0 vI (0, 0) (0, 0) ad σ 290 [(14, .int a14), (13, .int a13), (12, .int a12), (8, .int a8), (0, .ref (ad 71 0))] [] (l_L_why_290 n σ a14 a13 a12 a8) := by
  intro n
  induction n with
  | zero => intros; exact r_none
  | succ n ih =>
  intro σ a14 a13 a12 a8
  rw [l_L_why_290]
  refine r_iload 0 rfl dL_why_290 ?_
  refine r_bipush (6) (by decide) dL_why_292 ?_
  refine r_icmp_ge 355 dL_why_294 (by decide) ?_ ?_
  · refine r_iload 1 rfl dL_why_355 ?_
    refine r_iload 2 rfl dL_why_357 ?_
    refine r_isub dL_why_359 ?_
    refine r_bipush (6) (by decide) dL_why_360 ?_
    refine r_icmp_gt 373 dL_why_362 (by decide) ?_ ?_
    · refine r_iconst (5) (by decide) dL_why_373 ?_
      refine r_goto 378 dL_why_374 (by decide) ?_
      exact r_iret rfl rfl rfl dL_why_378
    · refine r_iload 2 rfl dL_why_365 ?_
      refine r_sipush (800) (by decide) dL_why_367 ?_
      refine r_icmp_ge 377 dL_why_370 (by decide) ?_ ?_
      · refine r_iconst (0) (by decide) dL_why_377 ?_
        exact r_iret rfl rfl rfl dL_why_378
      · refine r_iconst (5) (by decide) dL_why_373 ?_
        refine r_goto 378 dL_why_374 (by decide) ?_
        exact r_iret rfl rfl rfl dL_why_378
  · refine r_aload_n 4 rfl dL_why_297 ?_
    refine r_iload 3 rfl dL_why_298 ?_
    refine r_iload 0 rfl dL_why_300 ?_
    refine r_iadd dL_why_302 ?_
    refine r_gd (fun h4 => ?_)
    refine r_iaload (lvs_71 _) (cell_71 _ _ _ _) h4 dL_why_303 ?_
    refine r_iload 2 rfl dL_why_304 ?_
    refine r_icmp_ge 319 dL_why_306 (by decide) ?_ ?_
    · refine r_iload 2 rfl dL_why_319 ?_
      exact r_sub [0, 1, 3, 4] rfl ((bj_L_why_321 X hst ad ih) _ _ _ _ _)
    · refine r_aload_n 4 rfl dL_why_309 ?_
      refine r_iload 3 rfl dL_why_310 ?_
      refine r_iload 0 rfl dL_why_312 ?_
      refine r_iadd dL_why_314 ?_
      refine r_iaload (lvs_71 _) (cell_71 _ _ _ _) h4 dL_why_315 ?_
      refine r_goto 321 dL_why_316 (by decide) ?_
      exact r_sub [0, 1, 3, 4] rfl ((bj_L_why_321 X hst ad ih) _ _ _ _ _)
theorem bj_L_why_232 (X : Xt) (hst : X.1.stackTraces = false) (ad : Ad) {k120 : Wd → Int32 → Int32 → Int32 → Int32 → Int32 → Int32 → Int32 → Option ((Int32 ⊕ String) × Wd)} (hk120 : ∀ (σ : Wd) (a12 : Int32) (a11 : Int32) (a10 : Int32) (a9 : Int32) (a8 : Int32) (a5 : Int32) (a7 : Int32), Bk X (fun a => a = ad) cL_why 15 RL (some (.int)) 0 0 vI (0, 0) (0, 0) ad σ 120 [(12, .int a12), (11, .int a11), (10, .int a10), (9, .int a9), (8, .int a8), (0, .ref (ad 71 0)), (1, .ref (ad 72 0)), (2, .ref (ad 73 0)), (3, .ref (ad 75 0)), (4, .ref (ad 76 0)), (5, .int a5), (7, .int a7)] [] (k120 σ a12 a11 a10 a9 a8 a5 a7)) (σ : Wd) (a10 : Int32) (a12 : Int32) (a9 : Int32) (a8 : Int32) (a5 : Int32) (a7 : Int32) : Bk X (fun a => a = ad) cL_why 15 RL (some (.int)) 0 0 vI (0, 0) (0, 0) ad σ 232 [(10, .int a10), (12, .int a12), (9, .int a9), (8, .int a8), (0, .ref (ad 71 0)), (1, .ref (ad 72 0)), (2, .ref (ad 73 0)), (3, .ref (ad 75 0)), (4, .ref (ad 76 0)), (5, .int a5), (7, .int a7)] [] (j_L_why_232 k120 σ a10 a12 a9 a8 a5 a7) := by
  unfold j_L_why_232
  refine r_aload_n 5 rfl dL_why_232 ?_
  refine r_iload 1 rfl dL_why_233 ?_
  refine r_gd (fun h13 => ?_)
  refine r_iaload (lvs_72 _) (cell_72 _ _ _ _) h13 dL_why_235 ?_
  refine r_iconst (2) (by decide) dL_why_236 ?_
  refine r_icmp_ne 256 dL_why_237 (by decide) ?_ ?_
  · refine r_aload_n 6 rfl dL_why_240 ?_
    refine r_bipush (32) (by decide) dL_why_241 ?_
    refine r_iload 1 rfl dL_why_243 ?_
    refine r_iadd dL_why_245 ?_
    refine r_gd (fun h14 => ?_)
    refine r_iaload (lvs_73 _) (cell_73 _ _ _ _) h14 dL_why_246 ?_
    refine r_bipush (50) (by decide) dL_why_247 ?_
    refine r_icmp_le 256 dL_why_249 (by decide) ?_ ?_
    · refine r_iconst (0) (by decide) dL_why_256 ?_
      refine r_istore [(11, .int _), (10, .int _), (12, .int _), (9, .int _), (8, .int _), (0, .ref _), (1, .ref _), (2, .ref _), (3, .ref _), (4, .ref _), (5, .int _), (7, .int _)] rfl (by decide) dL_why_257 ?_
      refine r_iinc (1) [(12, .int _), (11, .int _), (10, .int _), (9, .int _), (8, .int _), (0, .ref _), (1, .ref _), (2, .ref _), (3, .ref _), (4, .ref _), (5, .int _), (7, .int _)] 2 rfl (by decide) rfl (by decide) dL_why_259 ?_
      refine r_goto 120 dL_why_262 (by decide) ?_
      exact r_sub [0, 1, 2, 3, 4, 5, 6, 7, 8, 9, 10, 11] rfl (hk120 _ _ _ _ _ _ _ _)
    · refine r_iconst (1) (by decide) dL_why_252 ?_
      refine r_goto 257 dL_why_253 (by decide) ?_
      refine r_istore [(11, .int _), (10, .int _), (12, .int _), (9, .int _), (8, .int _), (0, .ref _), (1, .ref _), (2, .ref _), (3, .ref _), (4, .ref _), (5, .int _), (7, .int _)] rfl (by decide) dL_why_257 ?_
      refine r_iinc (1) [(12, .int _), (11, .int _), (10, .int _), (9, .int _), (8, .int _), (0, .ref _), (1, .ref _), (2, .ref _), (3, .ref _), (4, .ref _), (5, .int _), (7, .int _)] 2 rfl (by decide) rfl (by decide) dL_why_259 ?_
      refine r_goto 120 dL_why_262 (by decide) ?_
      exact r_sub [0, 1, 2, 3, 4, 5, 6, 7, 8, 9, 10, 11] rfl (hk120 _ _ _ _ _ _ _ _)
  · refine r_iconst (0) (by decide) dL_why_256 ?_
    refine r_istore [(11, .int _), (10, .int _), (12, .int _), (9, .int _), (8, .int _), (0, .ref _), (1, .ref _), (2, .ref _), (3, .ref _), (4, .ref _), (5, .int _), (7, .int _)] rfl (by decide) dL_why_257 ?_
    refine r_iinc (1) [(12, .int _), (11, .int _), (10, .int _), (9, .int _), (8, .int _), (0, .ref _), (1, .ref _), (2, .ref _), (3, .ref _), (4, .ref _), (5, .int _), (7, .int _)] 2 rfl (by decide) rfl (by decide) dL_why_259 ?_
    refine r_goto 120 dL_why_262 (by decide) ?_
    exact r_sub [0, 1, 2, 3, 4, 5, 6, 7, 8, 9, 10, 11] rfl (hk120 _ _ _ _ _ _ _ _)
theorem bj_L_why_206 (X : Xt) (hst : X.1.stackTraces = false) (ad : Ad) {k120 : Wd → Int32 → Int32 → Int32 → Int32 → Int32 → Int32 → Int32 → Option ((Int32 ⊕ String) × Wd)} (hk120 : ∀ (σ : Wd) (a12 : Int32) (a11 : Int32) (a10 : Int32) (a9 : Int32) (a8 : Int32) (a5 : Int32) (a7 : Int32), Bk X (fun a => a = ad) cL_why 15 RL (some (.int)) 0 0 vI (0, 0) (0, 0) ad σ 120 [(12, .int a12), (11, .int a11), (10, .int a10), (9, .int a9), (8, .int a8), (0, .ref (ad 71 0)), (1, .ref (ad 72 0)), (2, .ref (ad 73 0)), (3, .ref (ad 75 0)), (4, .ref (ad 76 0)), (5, .int a5), (7, .int a7)] [] (k120 σ a12 a11 a10 a9 a8 a5 a7)) (σ : Wd) (a12 : Int32) (a11 : Int32) (a9 : Int32) (a8 : Int32) (a5 : Int32) (a7 : Int32) (s0 : Int32) (s1 : Int32) : Bk X (fun a => a = ad) cL_why 15 RL (some (.int)) 0 0 vI (0, 0) (0, 0) ad σ 206 [(12, .int a12), (11, .int a11), (9, .int a9), (8, .int a8), (0, .ref (ad 71 0)), (1, .ref (ad 72 0)), (2, .ref (ad 73 0)), (3, .ref (ad 75 0)), (4, .ref (ad 76 0)), (5, .int a5), (7, .int a7)] [.int s0, .int s1] (j_L_why_206 k120 σ a12 a11 a9 a8 a5 a7 s0 s1) := by
  unfold j_L_why_206
  refine r_iadd dL_why_206 ?_
  refine r_istore [(10, .int _), (12, .int _), (11, .int _), (9, .int _), (8, .int _), (0, .ref _), (1, .ref _), (2, .ref _), (3, .ref _), (4, .ref _), (5, .int _), (7, .int _)] rfl (by decide) dL_why_207 ?_
  refine r_iload 2 rfl dL_why_209 ?_
  refine r_if_ne 252 dL_why_211 (by decide) ?_ ?_
  · refine r_aload_n 6 rfl dL_why_214 ?_
    refine r_iload 1 rfl dL_why_215 ?_
    refine r_gd (fun h11 => ?_)
    refine r_iaload (lvs_72 _) (cell_72 _ _ _ _) h11 dL_why_217 ?_
    refine r_if_ne 232 dL_why_218 (by decide) ?_ ?_
    · refine r_aload_n 7 rfl dL_why_221 ?_
      refine r_bipush (32) (by decide) dL_why_222 ?_
      refine r_iload 1 rfl dL_why_224 ?_
      refine r_iadd dL_why_226 ?_
      refine r_gd (fun h12 => ?_)
      refine r_iaload (lvs_73 _) (cell_73 _ _ _ _) h12 dL_why_227 ?_
      refine r_iconst (4) (by decide) dL_why_228 ?_
      refine r_icmp_gt 252 dL_why_229 (by decide) ?_ ?_
      · refine r_iconst (1) (by decide) dL_why_252 ?_
        refine r_goto 257 dL_why_253 (by decide) ?_
        refine r_istore [(11, .int _), (10, .int _), (12, .int _), (9, .int _), (8, .int _), (0, .ref _), (1, .ref _), (2, .ref _), (3, .ref _), (4, .ref _), (5, .int _), (7, .int _)] rfl (by decide) dL_why_257 ?_
        refine r_iinc (1) [(12, .int _), (11, .int _), (10, .int _), (9, .int _), (8, .int _), (0, .ref _), (1, .ref _), (2, .ref _), (3, .ref _), (4, .ref _), (5, .int _), (7, .int _)] 2 rfl (by decide) rfl (by decide) dL_why_259 ?_
        refine r_goto 120 dL_why_262 (by decide) ?_
        exact r_sub [0, 1, 2, 3, 4, 5, 6, 7, 8, 9, 10, 11] rfl (hk120 _ _ _ _ _ _ _ _)
      · exact r_sub [0, 1, 3, 4, 5, 6, 7, 8, 9, 10, 11] rfl ((bj_L_why_232 X hst ad hk120) _ _ _ _ _ _ _)
    · exact r_sub [0, 1, 3, 4, 5, 6, 7, 8, 9, 10, 11] rfl ((bj_L_why_232 X hst ad hk120) _ _ _ _ _ _ _)
  · refine r_iconst (1) (by decide) dL_why_252 ?_
    refine r_goto 257 dL_why_253 (by decide) ?_
    refine r_istore [(11, .int _), (10, .int _), (12, .int _), (9, .int _), (8, .int _), (0, .ref _), (1, .ref _), (2, .ref _), (3, .ref _), (4, .ref _), (5, .int _), (7, .int _)] rfl (by decide) dL_why_257 ?_
    refine r_iinc (1) [(12, .int _), (11, .int _), (10, .int _), (9, .int _), (8, .int _), (0, .ref _), (1, .ref _), (2, .ref _), (3, .ref _), (4, .ref _), (5, .int _), (7, .int _)] 2 rfl (by decide) rfl (by decide) dL_why_259 ?_
    refine r_goto 120 dL_why_262 (by decide) ?_
    exact r_sub [0, 1, 2, 3, 4, 5, 6, 7, 8, 9, 10, 11] rfl (hk120 _ _ _ _ _ _ _ _)
theorem bl_L_why_120 (X : Xt) (hst : X.1.stackTraces = false) (ad : Ad) : ∀ (n : Nat) (σ : Wd) (a12 : Int32) (a11 : Int32) (a10 : Int32) (a9 : Int32) (a8 : Int32) (a5 : Int32) (a7 : Int32), Bk X (fun a => a = ad) cL_why 15 RL (some (.int)) 0 0 vI (0, 0) (0, 0) ad σ 120 [(12, .int a12), (11, .int a11), (10, .int a10), (9, .int a9), (8, .int a8), (0, .ref (ad 71 0)), (1, .ref (ad 72 0)), (2, .ref (ad 73 0)), (3, .ref (ad 75 0)), (4, .ref (ad 76 0)), (5, .int a5), (7, .int a7)] [] (l_L_why_120 n σ a12 a11 a10 a9 a8 a5 a7) := by
  intro n
  induction n with
  | zero => intros; exact r_none
  | succ n ih =>
  intro σ a12 a11 a10 a9 a8 a5 a7
  rw [l_L_why_120]
  refine r_iload 0 rfl dL_why_120 ?_
  refine r_bipush (8) (by decide) dL_why_122 ?_
  refine r_iload 10 rfl dL_why_124 ?_
  refine r_imul dL_why_126 ?_
  refine r_aload_n 5 rfl dL_why_127 ?_
  refine r_iload 4 rfl dL_why_128 ?_
  refine r_bipush (12) (by decide) dL_why_130 ?_
  refine r_iadd dL_why_132 ?_
  refine r_gd (fun h3 => ?_)
  refine r_iaload (lvs_71 _) (cell_71 _ _ _ _) h3 dL_why_133 ?_
  refine r_iadd dL_why_134 ?_
  refine r_icmp_ge 265 dL_why_135 (by decide) ?_ ?_
  · refine r_iload 1 rfl dL_why_265 ?_
    refine r_if_ne 276 dL_why_267 (by decide) ?_ ?_
    · refine r_iload 2 rfl dL_why_270 ?_
      refine r_iconst (1) (by decide) dL_why_272 ?_
      refine r_icmp_le 278 dL_why_273 (by decide) ?_ ?_
      · refine r_sipush (1000) (by decide) dL_why_278 ?_
        refine r_istore [(12, .int _), (11, .int _), (10, .int _), (9, .int _), (8, .int _), (0, .ref _), (1, .ref _), (2, .ref _), (3, .ref _), (4, .ref _), (5, .int _), (7, .int _)] rfl (by decide) dL_why_281 ?_
        refine r_ldc (-1000000) w_499 dL_why_283 ?_
        refine r_istore [(13, .int _), (12, .int _), (11, .int _), (10, .int _), (9, .int _), (8, .int _), (0, .ref _), (1, .ref _), (2, .ref _), (3, .ref _), (4, .ref _), (5, .int _), (7, .int _)] rfl (by decide) dL_why_285 ?_
        refine r_iconst (2) (by decide) dL_why_287 ?_
        refine r_istore [(14, .int _), (13, .int _), (12, .int _), (11, .int _), (10, .int _), (9, .int _), (8, .int _), (0, .ref _), (1, .ref _), (2, .ref _), (3, .ref _), (4, .ref _), (5, .int _), (7, .int _)] rfl (by decide) dL_why_288 ?_
        exact r_sub [0, 1, 2, 6, 7] rfl ((bl_L_why_290 X hst ad FU) _ _ _ _ _)
      · refine r_iconst (4) (by decide) dL_why_276 ?_
        exact r_iret rfl rfl rfl dL_why_277
    · refine r_iconst (4) (by decide) dL_why_276 ?_
      exact r_iret rfl rfl rfl dL_why_277
  · refine r_aload 9 rfl dL_why_138 ?_
    refine r_bipush (9) (by decide) dL_why_140 ?_
    refine r_aload_n 6 rfl dL_why_142 ?_
    refine r_iload 0 rfl dL_why_143 ?_
    refine r_gd (fun h6 => ?_)
    refine r_iaload (lvs_72 _) (cell_72 _ _ _ _) h6 dL_why_145 ?_
    refine r_iadd dL_why_146 ?_
    refine r_gd (fun h7 => ?_)
    refine r_iaload (lvs_76 _) (cell_76 _ _ _ _) h7 dL_why_147 ?_
    refine r_bd ?_
    refine r_istore [(13, .int _), (12, .int _), (11, .int _), (10, .int _), (9, .int _), (8, .int _), (0, .ref _), (1, .ref _), (2, .ref _), (3, .ref _), (4, .ref _), (5, .int _), (7, .int _)] rfl (by decide) dL_why_148 ?_
    refine r_iload 0 rfl dL_why_150 ?_
    refine r_if_lt 189 dL_why_152 (by decide) ?_ ?_
    · refine r_iconst (3) (by decide) dL_why_189 ?_
      exact r_iret rfl rfl rfl dL_why_190
    · refine r_iload 12 rfl dL_why_155 ?_
      refine r_aload_n 7 rfl dL_why_157 ?_
      refine r_bipush (32) (by decide) dL_why_158 ?_
      refine r_iload 1 rfl dL_why_160 ?_
      refine r_iadd dL_why_162 ?_
      refine r_gd (fun h8 => ?_)
      refine r_iaload (lvs_72 _) (cell_72 _ _ _ _) h8 dL_why_163 ?_
      refine r_isub dL_why_164 ?_
      refine r_iload 0 rfl dL_why_165 ?_
      refine r_icmp_gt 189 dL_why_167 (by decide) ?_ ?_
      · refine r_iconst (3) (by decide) dL_why_189 ?_
        exact r_iret rfl rfl rfl dL_why_190
      · refine r_aload_n 9 rfl dL_why_170 ?_
        refine r_iload 4 rfl dL_why_171 ?_
        refine r_iconst (3) (by decide) dL_why_173 ?_
        refine r_iadd dL_why_174 ?_
        refine r_gd (fun h9 => ?_)
        refine r_iaload (lvs_75 _) (cell_75 _ _ _ _) h9 dL_why_175 ?_
        refine r_aload 10 rfl dL_why_176 ?_
        refine r_bipush (13) (by decide) dL_why_178 ?_
        refine r_aload_n 7 rfl dL_why_180 ?_
        refine r_iload 1 rfl dL_why_181 ?_
        refine r_iaload (lvs_72 _) (cell_72 _ _ _ _) h6 dL_why_183 ?_
        refine r_iadd dL_why_184 ?_
        refine r_gd (fun h10 => ?_)
        refine r_iaload (lvs_76 _) (cell_76 _ _ _ _) h10 dL_why_185 ?_
        refine r_icmp_le 191 dL_why_186 (by decide) ?_ ?_
        · refine r_iload 3 rfl dL_why_191 ?_
          refine r_aload_n 7 rfl dL_why_193 ?_
          refine r_iload 1 rfl dL_why_194 ?_
          refine r_iaload (lvs_72 _) (cell_72 _ _ _ _) h6 dL_why_196 ?_
          refine r_iconst (1) (by decide) dL_why_197 ?_
          refine r_icmp_ne 205 dL_why_198 (by decide) ?_ ?_
          · refine r_iconst (1) (by decide) dL_why_201 ?_
            refine r_goto 206 dL_why_202 (by decide) ?_
            exact r_sub [1, 2, 4, 5, 6, 7, 8, 9, 10, 11, 12] rfl ((bj_L_why_206 X hst ad ih) _ _ _ _ _ _ _ _ _)
          · refine r_iconst (0) (by decide) dL_why_205 ?_
            exact r_sub [1, 2, 4, 5, 6, 7, 8, 9, 10, 11, 12] rfl ((bj_L_why_206 X hst ad ih) _ _ _ _ _ _ _ _ _)
        · refine r_iconst (3) (by decide) dL_why_189 ?_
          exact r_iret rfl rfl rfl dL_why_190
theorem bl_L_why_30 (X : Xt) (hst : X.1.stackTraces = false) (ad : Ad) : ∀ (n : Nat) (σ : Wd) (a10 : Int32) (a9 : Int32) (a8 : Int32) (a5 : Int32) (a7 : Int32), Bk X (fun a => a = ad) cL_why 15 RL (some (.int)) 0 0 vI (0, 0) (0, 0) ad σ 30 [(10, .int a10), (9, .int a9), (8, .int a8), (0, .ref (ad 71 0)), (1, .ref (ad 72 0)), (2, .ref (ad 73 0)), (3, .ref (ad 75 0)), (4, .ref (ad 76 0)), (5, .int a5), (7, .int a7)] [] (l_L_why_30 n σ a10 a9 a8 a5 a7) := by
  intro n
  induction n with
  | zero => intros; exact r_none
  | succ n ih =>
  intro σ a10 a9 a8 a5 a7
  rw [l_L_why_30]
  refine r_iload 0 rfl dL_why_30 ?_
  refine r_iconst (3) (by decide) dL_why_32 ?_
  refine r_icmp_ge 107 dL_why_33 (by decide) ?_ ?_
  · refine r_iconst (0) (by decide) dL_why_107 ?_
    refine r_istore [(10, .int _), (9, .int _), (8, .int _), (0, .ref _), (1, .ref _), (2, .ref _), (3, .ref _), (4, .ref _), (5, .int _), (7, .int _)] rfl (by decide) dL_why_108 ?_
    refine r_iconst (0) (by decide) dL_why_110 ?_
    refine r_istore [(11, .int _), (10, .int _), (9, .int _), (8, .int _), (0, .ref _), (1, .ref _), (2, .ref _), (3, .ref _), (4, .ref _), (5, .int _), (7, .int _)] rfl (by decide) dL_why_111 ?_
    refine r_bipush (8) (by decide) dL_why_113 ?_
    refine r_iload 9 rfl dL_why_115 ?_
    refine r_imul dL_why_117 ?_
    refine r_istore [(12, .int _), (11, .int _), (10, .int _), (9, .int _), (8, .int _), (0, .ref _), (1, .ref _), (2, .ref _), (3, .ref _), (4, .ref _), (5, .int _), (7, .int _)] rfl (by decide) dL_why_118 ?_
    exact r_sub [0, 1, 2, 3, 4, 5, 6, 7, 8, 9, 10, 11] rfl ((bl_L_why_120 X hst ad FU) _ _ _ _ _ _ _ _)
  · refine r_aload_n 3 rfl dL_why_36 ?_
    refine r_iload 2 rfl dL_why_37 ?_
    refine r_bipush (6) (by decide) dL_why_39 ?_
    refine r_iadd dL_why_41 ?_
    refine r_iload 0 rfl dL_why_42 ?_
    refine r_iadd dL_why_44 ?_
    refine r_gd (fun h15 => ?_)
    refine r_iaload (lvs_71 _) (cell_71 _ _ _ _) h15 dL_why_45 ?_
    refine r_aload_n 6 rfl dL_why_46 ?_
    refine r_iload 1 rfl dL_why_47 ?_
    refine r_iconst (2) (by decide) dL_why_49 ?_
    refine r_iadd dL_why_50 ?_
    refine r_gd (fun h16 => ?_)
    refine r_iaload (lvs_75 _) (cell_75 _ _ _ _) h16 dL_why_51 ?_
    refine r_iadd dL_why_52 ?_
    refine r_aload 7 rfl dL_why_53 ?_
    refine r_iload 0 rfl dL_why_55 ?_
    refine r_gd (fun h17 => ?_)
    refine r_iaload (lvs_76 _) (cell_76 _ _ _ _) h17 dL_why_57 ?_
    refine r_aload 7 rfl dL_why_58 ?_
    refine r_iload 0 rfl dL_why_60 ?_
    refine r_iaload (lvs_76 _) (cell_76 _ _ _ _) h17 dL_why_62 ?_
    refine r_aload 7 rfl dL_why_63 ?_
    refine r_iconst (3) (by decide) dL_why_65 ?_
    refine r_iload 0 rfl dL_why_66 ?_
    refine r_iadd dL_why_68 ?_
    refine r_gd (fun h18 => ?_)
    refine r_iaload (lvs_76 _) (cell_76 _ _ _ _) h18 dL_why_69 ?_
    refine r_imul dL_why_70 ?_
    refine r_bipush (100) (by decide) dL_why_71 ?_
    refine r_idiv (by decide) dL_why_73 ?_
    refine r_iadd dL_why_74 ?_
    refine r_icmp_gt 99 dL_why_75 (by decide) ?_ ?_
    · refine r_iconst (2) (by decide) dL_why_99 ?_
      exact r_iret rfl rfl rfl dL_why_100
    · refine r_aload_n 3 rfl dL_why_78 ?_
      refine r_iload 2 rfl dL_why_79 ?_
      refine r_bipush (9) (by decide) dL_why_81 ?_
      refine r_iadd dL_why_83 ?_
      refine r_iload 0 rfl dL_why_84 ?_
      refine r_iadd dL_why_86 ?_
      refine r_gd (fun h19 => ?_)
      refine r_iaload (lvs_71 _) (cell_71 _ _ _ _) h19 dL_why_87 ?_
      refine r_aload 7 rfl dL_why_88 ?_
      refine r_bipush (6) (by decide) dL_why_90 ?_
      refine r_iload 0 rfl dL_why_92 ?_
      refine r_iadd dL_why_94 ?_
      refine r_gd (fun h20 => ?_)
      refine r_iaload (lvs_76 _) (cell_76 _ _ _ _) h20 dL_why_95 ?_
      refine r_icmp_le 101 dL_why_96 (by decide) ?_ ?_
      · refine r_iinc (1) [(10, .int _), (9, .int _), (8, .int _), (0, .ref _), (1, .ref _), (2, .ref _), (3, .ref _), (4, .ref _), (5, .int _), (7, .int _)] 0 rfl (by decide) rfl (by decide) dL_why_101 ?_
        refine r_goto 30 dL_why_104 (by decide) ?_
        exact r_sub [0, 1, 2, 3, 4, 5, 6, 7, 8, 9] rfl (ih _ _ _ _ _ _)
      · refine r_iconst (2) (by decide) dL_why_99 ?_
        exact r_iret rfl rfl rfl dL_why_100
theorem nc_L_why (X : Xt) (hst : X.1.stackTraces = false) (ad : Ad) (σ : Wd) (p5 : Int32) (p6 : Int32) (p7 : Int32) : NC X (fun a => a = ad) yL_why cL_why 15 (some (.int)) 0 0 vI (0, 0) ad σ [.ref (ad 71 0), .ref (ad 72 0), .ref (ad 73 0), .ref (ad 75 0), .ref (ad 76 0), .int p5, .int p6, .int p7] (f_L_why σ p5 p6 p7) := by
  unfold f_L_why
  refine NC.intro RL rfl hst (by decide) (Nat.le_of_ble_eq_true rfl) (lv := [(0, .ref _), (1, .ref _), (2, .ref _), (3, .ref _), (4, .ref _), (5, .int _), (6, .int _), (7, .int _)]) rfl ?_
  refine r_bipush (16) (by decide) dL_why_0 ?_
  refine r_iload 5 rfl dL_why_2 ?_
  refine r_imul dL_why_4 ?_
  refine r_istore [(8, .int _), (0, .ref _), (1, .ref _), (2, .ref _), (3, .ref _), (4, .ref _), (5, .int _), (6, .int _), (7, .int _)] rfl (by decide) dL_why_5 ?_
  refine r_bipush (6) (by decide) dL_why_7 ?_
  refine r_iload 7 rfl dL_why_9 ?_
  refine r_imul dL_why_11 ?_
  refine r_istore [(9, .int _), (8, .int _), (0, .ref _), (1, .ref _), (2, .ref _), (3, .ref _), (4, .ref _), (5, .int _), (6, .int _), (7, .int _)] rfl (by decide) dL_why_12 ?_
  refine r_aload_n 2 rfl dL_why_14 ?_
  refine r_iload 1 rfl dL_why_15 ?_
  refine r_gd (fun h1 => ?_)
  refine r_iaload (lvs_71 _) (cell_71 _ _ _ _) h1 dL_why_17 ?_
  refine r_aload_n 5 rfl dL_why_18 ?_
  refine r_iload 0 rfl dL_why_19 ?_
  refine r_gd (fun h2 => ?_)
  refine r_iaload (lvs_75 _) (cell_75 _ _ _ _) h2 dL_why_21 ?_
  refine r_icmp_eq 27 dL_why_22 (by decide) ?_ ?_
  · refine r_iconst (0) (by decide) dL_why_27 ?_
    refine r_istore [(10, .int _), (9, .int _), (8, .int _), (0, .ref _), (1, .ref _), (2, .ref _), (3, .ref _), (4, .ref _), (5, .int _), (6, .int _), (7, .int _)] rfl (by decide) dL_why_28 ?_
    exact r_sub [0, 1, 2, 3, 4, 5, 6, 7, 8, 10] rfl ((bl_L_why_30 X hst ad FU) _ _ _ _ _ _)
  · refine r_iconst (1) (by decide) dL_why_25 ?_
    exact r_iret rfl rfl rfl dL_why_26
def l_L_soon_5 : Nat → Wd → Int32 → Int32 → Int32 → Option ((Int32 ⊕ String) × Wd)
  | 0, _, _, _, _ => none
  | n + 1, σ, a4, a3, a2 =>
  if (3 : Int32) ≤ a4 then
    gd (a3 = 0 ∨ a3 = 1) <|
    some (.inl a3, σ)
  else
    if a3 = 0 then
      gd (inb ((((16 : Int32) * a2) + (6 : Int32)) + a4) 64) <|
      gd (inb a4 17) <|
      if ((σ.1 71 0 ((((16 : Int32) * a2) + (6 : Int32)) + a4).toNatClampNeg) * (5 : Int32)) < ((4 : Int32) * (σ.1 76 0 a4.toNatClampNeg)) then
        (l_L_soon_5 n) σ (a4 + 1) (0 : Int32) a2
      else
        (l_L_soon_5 n) σ (a4 + 1) (1 : Int32) a2
    else
      (l_L_soon_5 n) σ (a4 + 1) (1 : Int32) a2
def f_L_soon (σ : Wd) (p2 : Int32) : Option ((Int32 ⊕ String) × Wd) :=
  l_L_soon_5 FU σ (0 : Int32) (0 : Int32) p2
theorem bl_L_soon_5 (X : Xt) (hst : X.1.stackTraces = false) (ad : Ad) : ∀ (n : Nat) (σ : Wd) (a4 : Int32) (a3 : Int32) (a2 : Int32), Bk X (fun a => a = ad) cL_soon 5 RL (some (.boolean)) 0 0 vI (0, 0) (0, 0) ad σ 5 [(4, .int a4), (3, .int a3), (0, .ref (ad 71 0)), (1, .ref (ad 76 0)), (2, .int a2)] [] (l_L_soon_5 n σ a4 a3 a2) := by
  intro n
  induction n with
  | zero => intros; exact r_none
  | succ n ih =>
  intro σ a4 a3 a2
  rw [l_L_soon_5]
  refine r_iload 0 rfl dL_soon_5 ?_
  refine r_iconst (3) (by decide) dL_soon_7 ?_
  refine r_icmp_ge 50 dL_soon_8 (by decide) ?_ ?_
  · refine r_iload_n 1 rfl dL_soon_50 ?_
    refine r_gd (fun h1 => ?_)
    exact r_zret rfl rfl (zn h1) rfl dL_soon_51
  · refine r_iload_n 1 rfl dL_soon_11 ?_
    refine r_if_ne 38 dL_soon_12 (by decide) ?_ ?_
    · refine r_aload_n 2 rfl dL_soon_15 ?_
      refine r_bipush (16) (by decide) dL_soon_16 ?_
      refine r_iload_n 4 rfl dL_soon_18 ?_
      refine r_imul dL_soon_19 ?_
      refine r_bipush (6) (by decide) dL_soon_20 ?_
      refine r_iadd dL_soon_22 ?_
      refine r_iload 0 rfl dL_soon_23 ?_
      refine r_iadd dL_soon_25 ?_
      refine r_gd (fun h2 => ?_)
      refine r_iaload (lvs_71 _) (cell_71 _ _ _ _) h2 dL_soon_26 ?_
      refine r_iconst (5) (by decide) dL_soon_27 ?_
      refine r_imul dL_soon_28 ?_
      refine r_iconst (4) (by decide) dL_soon_29 ?_
      refine r_aload_n 3 rfl dL_soon_30 ?_
      refine r_iload 0 rfl dL_soon_31 ?_
      refine r_gd (fun h3 => ?_)
      refine r_iaload (lvs_76 _) (cell_76 _ _ _ _) h3 dL_soon_33 ?_
      refine r_imul dL_soon_34 ?_
      refine r_icmp_lt 42 dL_soon_35 (by decide) ?_ ?_
      · refine r_iconst (0) (by decide) dL_soon_42 ?_
        refine r_istore_n [(3, .int _), (4, .int _), (0, .ref _), (1, .ref _), (2, .int _)] rfl (by decide) dL_soon_43 ?_
        refine r_iinc (1) [(4, .int _), (3, .int _), (0, .ref _), (1, .ref _), (2, .int _)] 1 rfl (by decide) rfl (by decide) dL_soon_44 ?_
        refine r_goto 5 dL_soon_47 (by decide) ?_
        exact r_sub [0, 1, 2, 3, 4] rfl (ih _ _ _ _)
      · refine r_iconst (1) (by decide) dL_soon_38 ?_
        refine r_goto 43 dL_soon_39 (by decide) ?_
        refine r_istore_n [(3, .int _), (4, .int _), (0, .ref _), (1, .ref _), (2, .int _)] rfl (by decide) dL_soon_43 ?_
        refine r_iinc (1) [(4, .int _), (3, .int _), (0, .ref _), (1, .ref _), (2, .int _)] 1 rfl (by decide) rfl (by decide) dL_soon_44 ?_
        refine r_goto 5 dL_soon_47 (by decide) ?_
        exact r_sub [0, 1, 2, 3, 4] rfl (ih _ _ _ _)
    · refine r_iconst (1) (by decide) dL_soon_38 ?_
      refine r_goto 43 dL_soon_39 (by decide) ?_
      refine r_istore_n [(3, .int _), (4, .int _), (0, .ref _), (1, .ref _), (2, .int _)] rfl (by decide) dL_soon_43 ?_
      refine r_iinc (1) [(4, .int _), (3, .int _), (0, .ref _), (1, .ref _), (2, .int _)] 1 rfl (by decide) rfl (by decide) dL_soon_44 ?_
      refine r_goto 5 dL_soon_47 (by decide) ?_
      exact r_sub [0, 1, 2, 3, 4] rfl (ih _ _ _ _)
theorem nc_L_soon (X : Xt) (hst : X.1.stackTraces = false) (ad : Ad) (σ : Wd) (p2 : Int32) : NC X (fun a => a = ad) yL_soon cL_soon 5 (some (.boolean)) 0 0 vI (0, 0) ad σ [.ref (ad 71 0), .ref (ad 76 0), .int p2] (f_L_soon σ p2) := by
  unfold f_L_soon
  refine NC.intro RL rfl hst (by decide) (Nat.le_of_ble_eq_true rfl) (lv := [(0, .ref _), (1, .ref _), (2, .int _)]) rfl ?_
  refine r_iconst (0) (by decide) dL_soon_0 ?_
  refine r_istore_n [(3, .int _), (0, .ref _), (1, .ref _), (2, .int _)] rfl (by decide) dL_soon_1 ?_
  refine r_iconst (0) (by decide) dL_soon_2 ?_
  refine r_istore [(4, .int _), (3, .int _), (0, .ref _), (1, .ref _), (2, .int _)] rfl (by decide) dL_soon_3 ?_
  exact r_sub [0, 1, 2, 3, 4] rfl ((bl_L_soon_5 X hst ad FU) _ _ _ _)
def j_L_allocates_315 (k11 : Wd → Int32 → Int32 → Int32 → Int32 → Option ((Int32 ⊕ String) × Wd)) (σ : Wd) (a8 : Int32) (a7 : Int32) (a12 : Int32) (a9 : Int32) (a5 : Int32) (s0 : Int32) (s1 : Int32) : Option ((Int32 ⊕ String) × Wd) :=
  gd (inb s1 3) <|
  bd (wr σ 77 0 s1.toNatClampNeg s0) fun σ4 =>
  if a12 = (4 : Int32) then
    bd (wr σ4 77 0 (2 : Int32).toNatClampNeg (-1 : Int32)) fun σ5 =>
    k11 σ5 (a9 + 1) a8 a7 a5
  else
    bd (wr σ4 77 0 (2 : Int32).toNatClampNeg a12) fun σ6 =>
    k11 σ6 (a9 + 1) a8 a7 a5
def j_L_allocates_299 (k11 : Wd → Int32 → Int32 → Int32 → Int32 → Option ((Int32 ⊕ String) × Wd)) (σ : Wd) (a8 : Int32) (a7 : Int32) (a12 : Int32) (a11 : Int32) (a9 : Int32) (a5 : Int32) (s0 : Int32) (s1 : Int32) : Option ((Int32 ⊕ String) × Wd) :=
  gd (inb s1 3) <|
  bd (wr σ 77 0 s1.toNatClampNeg s0) fun σ3 =>
  if a11 = (4 : Int32) then
    j_L_allocates_315 k11 σ3 a8 a7 a12 a9 a5 (-1 : Int32) (1 : Int32)
  else
    j_L_allocates_315 k11 σ3 a8 a7 a12 a9 a5 a11 (1 : Int32)
def j_L_allocates_276 (k11 : Wd → Int32 → Int32 → Int32 → Int32 → Option ((Int32 ⊕ String) × Wd)) (σ : Wd) (a15 : Int32) (a14 : Int32) (a12 : Int32) (a11 : Int32) (a10 : Int32) (a9 : Int32) (a5 : Int32) : Option ((Int32 ⊕ String) × Wd) :=
  if a10 = (4 : Int32) then
    j_L_allocates_299 k11 σ a15 a14 a12 a11 a9 a5 (-1 : Int32) (0 : Int32)
  else
    j_L_allocates_299 k11 σ a15 a14 a12 a11 a9 a5 a10 (0 : Int32)
def j_L_allocates_202 (k88 : Wd → Int32 → Int32 → Int32 → Int32 → Int32 → Int32 → Int32 → Int32 → Int32 → Int32 → Int32 → Option ((Int32 ⊕ String) × Wd)) (σ : Wd) (a13 : Int32) (a17 : Int32) (a16 : Int32) (a15 : Int32) (a12 : Int32) (a11 : Int32) (a10 : Int32) (a9 : Int32) (a8 : Int32) (a7 : Int32) (a5 : Int32) (s0 : Int32) (s1 : Int32) : Option ((Int32 ⊕ String) × Wd) :=
  if (4 : Int32) ≤ a17 then
    k88 σ (a16 + 1) (a15 + (0 : Int32)) (s1 + s0) a13 a12 a11 a10 a9 a8 a7 a5
  else
    gd (inb (((6 : Int32) * a16) + (1 : Int32)) 18) <|
    if (σ.1 75 0 (((6 : Int32) * a16) + (1 : Int32)).toNatClampNeg) = 0 then
      bx (f_L_soon σ a17) fun v7 σ8 =>
      if v7 = 0 then
        k88 σ8 (a16 + 1) (a15 + (0 : Int32)) (s1 + s0) a13 a12 a11 a10 a9 a8 a7 a5
      else
        k88 σ8 (a16 + 1) (a15 + (1 : Int32)) (s1 + s0) a13 a12 a11 a10 a9 a8 a7 a5
    else
      k88 σ (a16 + 1) (a15 + (0 : Int32)) (s1 + s0) a13 a12 a11 a10 a9 a8 a7 a5
def j_L_allocates_179 (k88 : Wd → Int32 → Int32 → Int32 → Int32 → Int32 → Int32 → Int32 → Int32 → Int32 → Int32 → Int32 → Option ((Int32 ⊕ String) × Wd)) (σ : Wd) (a17 : Int32) (a16 : Int32) (a15 : Int32) (a14 : Int32) (a12 : Int32) (a11 : Int32) (a10 : Int32) (a9 : Int32) (a8 : Int32) (a7 : Int32) (a5 : Int32) (s0 : Int32) : Option ((Int32 ⊕ String) × Wd) :=
  if a17 = (4 : Int32) then
    gd (inb (((6 : Int32) * a16) + (4 : Int32)) 18) <|
    j_L_allocates_202 k88 σ s0 a17 a16 a15 a12 a11 a10 a9 a8 a7 a5 (σ.1 75 0 (((6 : Int32) * a16) + (4 : Int32)).toNatClampNeg) a14
  else
    j_L_allocates_202 k88 σ s0 a17 a16 a15 a12 a11 a10 a9 a8 a7 a5 (0 : Int32) a14
def j_L_allocates_178 (k88 : Wd → Int32 → Int32 → Int32 → Int32 → Int32 → Int32 → Int32 → Int32 → Int32 → Int32 → Int32 → Option ((Int32 ⊕ String) × Wd)) (σ : Wd) (a17 : Int32) (a16 : Int32) (a15 : Int32) (a14 : Int32) (a12 : Int32) (a11 : Int32) (a10 : Int32) (a9 : Int32) (a8 : Int32) (a7 : Int32) (a5 : Int32) : Option ((Int32 ⊕ String) × Wd) :=
  j_L_allocates_179 k88 σ a17 a16 a15 a14 a12 a11 a10 a9 a8 a7 a5 (0 : Int32)
def j_L_allocates_174 (k88 : Wd → Int32 → Int32 → Int32 → Int32 → Int32 → Int32 → Int32 → Int32 → Int32 → Int32 → Int32 → Option ((Int32 ⊕ String) × Wd)) (σ : Wd) (a17 : Int32) (a16 : Int32) (a15 : Int32) (a14 : Int32) (a12 : Int32) (a11 : Int32) (a10 : Int32) (a9 : Int32) (a8 : Int32) (a7 : Int32) (a5 : Int32) : Option ((Int32 ⊕ String) × Wd) :=
  j_L_allocates_179 k88 σ a17 a16 a15 a14 a12 a11 a10 a9 a8 a7 a5 (1 : Int32)
def j_L_allocates_117 (k88 : Wd → Int32 → Int32 → Int32 → Int32 → Int32 → Int32 → Int32 → Int32 → Int32 → Int32 → Int32 → Option ((Int32 ⊕ String) × Wd)) (σ : Wd) (a16 : Int32) (a15 : Int32) (a14 : Int32) (a13 : Int32) (a12 : Int32) (a11 : Int32) (a10 : Int32) (a9 : Int32) (a8 : Int32) (a7 : Int32) (a5 : Int32) (s0 : Int32) : Option ((Int32 ⊕ String) × Wd) :=
  if a13 = 0 then
    j_L_allocates_178 k88 σ s0 a16 a15 a14 a12 a11 a10 a9 a8 a7 a5
  else
    if s0 = (4 : Int32) then
      j_L_allocates_174 k88 σ s0 a16 a15 a14 a12 a11 a10 a9 a8 a7 a5
    else
      bx (f_L_why σ s0 a16 a5) fun v9 σ10 =>
      if v9 = 0 then
        gd (inb (((6 : Int32) * a16) + (5 : Int32)) 18) <|
        if (σ10.1 75 0 (((6 : Int32) * a16) + (5 : Int32)).toNatClampNeg) < 0 then
          j_L_allocates_174 k88 σ10 s0 a16 a15 a14 a12 a11 a10 a9 a8 a7 a5
        else
          if (σ10.1 75 0 (((6 : Int32) * a16) + (5 : Int32)).toNatClampNeg) = s0 then
            j_L_allocates_174 k88 σ10 s0 a16 a15 a14 a12 a11 a10 a9 a8 a7 a5
          else
            j_L_allocates_178 k88 σ10 s0 a16 a15 a14 a12 a11 a10 a9 a8 a7 a5
      else
        j_L_allocates_178 k88 σ10 s0 a16 a15 a14 a12 a11 a10 a9 a8 a7 a5
def l_L_allocates_88 (k11 : Wd → Int32 → Int32 → Int32 → Int32 → Option ((Int32 ⊕ String) × Wd)) : Nat → Wd → Int32 → Int32 → Int32 → Int32 → Int32 → Int32 → Int32 → Int32 → Int32 → Int32 → Int32 → Option ((Int32 ⊕ String) × Wd)
  | 0, _, _, _, _, _, _, _, _, _, _, _, _ => none
  | n + 1, σ, a16, a15, a14, a13, a12, a11, a10, a9, a8, a7, a5 =>
  if (3 : Int32) ≤ a16 then
    if a13 = 0 then
      k11 σ (a9 + 1) a8 a7 a5
    else
      if a14 < a7 then
        j_L_allocates_276 k11 σ a15 a14 a12 a11 a10 a9 a5
      else
        if a14 = a7 then
          if a15 ≤ a8 then
            k11 σ (a9 + 1) a8 a7 a5
          else
            j_L_allocates_276 k11 σ a15 a14 a12 a11 a10 a9 a5
        else
          k11 σ (a9 + 1) a8 a7 a5
  else
    if a16 = 0 then
      j_L_allocates_117 (l_L_allocates_88 k11 n) σ a16 a15 a14 a13 a12 a11 a10 a9 a8 a7 a5 a10
    else
      if a16 = (1 : Int32) then
        j_L_allocates_117 (l_L_allocates_88 k11 n) σ a16 a15 a14 a13 a12 a11 a10 a9 a8 a7 a5 a11
      else
        j_L_allocates_117 (l_L_allocates_88 k11 n) σ a16 a15 a14 a13 a12 a11 a10 a9 a8 a7 a5 a12
def j_L_allocates_77 (k11 : Wd → Int32 → Int32 → Int32 → Int32 → Option ((Int32 ⊕ String) × Wd)) (σ : Wd) (a12 : Int32) (a11 : Int32) (a10 : Int32) (a9 : Int32) (a8 : Int32) (a7 : Int32) (a5 : Int32) (s0 : Int32) : Option ((Int32 ⊕ String) × Wd) :=
  l_L_allocates_88 k11 FU σ (0 : Int32) (0 : Int32) (0 : Int32) s0 a12 a11 a10 a9 a8 a7 a5
def j_L_allocates_72 (k11 : Wd → Int32 → Int32 → Int32 → Int32 → Option ((Int32 ⊕ String) × Wd)) (σ : Wd) (a12 : Int32) (a11 : Int32) (a10 : Int32) (a9 : Int32) (a8 : Int32) (a7 : Int32) (a5 : Int32) : Option ((Int32 ⊕ String) × Wd) :=
  j_L_allocates_77 k11 σ a12 a11 a10 a9 a8 a7 a5 (1 : Int32)
def j_L_allocates_76 (k11 : Wd → Int32 → Int32 → Int32 → Int32 → Option ((Int32 ⊕ String) × Wd)) (σ : Wd) (a12 : Int32) (a11 : Int32) (a10 : Int32) (a9 : Int32) (a8 : Int32) (a7 : Int32) (a5 : Int32) : Option ((Int32 ⊕ String) × Wd) :=
  j_L_allocates_77 k11 σ a12 a11 a10 a9 a8 a7 a5 (0 : Int32)
def j_L_allocates_59 (k11 : Wd → Int32 → Int32 → Int32 → Int32 → Option ((Int32 ⊕ String) × Wd)) (σ : Wd) (a12 : Int32) (a11 : Int32) (a10 : Int32) (a9 : Int32) (a8 : Int32) (a7 : Int32) (a5 : Int32) : Option ((Int32 ⊕ String) × Wd) :=
  if a11 = (4 : Int32) then
    j_L_allocates_72 k11 σ a12 a11 a10 a9 a8 a7 a5
  else
    if a11 = a12 then
      j_L_allocates_76 k11 σ a12 a11 a10 a9 a8 a7 a5
    else
      j_L_allocates_72 k11 σ a12 a11 a10 a9 a8 a7 a5
def l_L_allocates_11 : Nat → Wd → Int32 → Int32 → Int32 → Int32 → Option ((Int32 ⊕ String) × Wd)
  | 0, _, _, _, _, _ => none
  | n + 1, σ, a9, a8, a7, a5 =>
  if (125 : Int32) ≤ a9 then
    some (.inl a7, σ)
  else
    bd (((a9 / (5 : Int32)) - (a9 / (5 : Int32)) / (5 : Int32) * (5 : Int32))) fun x1 =>
    bd ((a9 - a9 / (5 : Int32) * (5 : Int32))) fun x2 =>
    if (a9 / (25 : Int32)) = (4 : Int32) then
      j_L_allocates_59 (l_L_allocates_11 n) σ x2 x1 (a9 / (25 : Int32)) a9 a8 a7 a5
    else
      if (a9 / (25 : Int32)) = x1 then
        j_L_allocates_76 (l_L_allocates_11 n) σ x2 x1 (a9 / (25 : Int32)) a9 a8 a7 a5
      else
        if (a9 / (25 : Int32)) = x2 then
          j_L_allocates_76 (l_L_allocates_11 n) σ x2 x1 (a9 / (25 : Int32)) a9 a8 a7 a5
        else
          j_L_allocates_59 (l_L_allocates_11 n) σ x2 x1 (a9 / (25 : Int32)) a9 a8 a7 a5
def f_L_allocates (σ : Wd) (p5 : Int32) : Option ((Int32 ⊕ String) × Wd) :=
  l_L_allocates_11 FU σ (0 : Int32) (-1 : Int32) (1000 : Int32) p5
theorem bj_L_allocates_315 (X : Xt) (hst : X.1.stackTraces = false) (ad : Ad) {k11 : Wd → Int32 → Int32 → Int32 → Int32 → Option ((Int32 ⊕ String) × Wd)} (hk11 : ∀ (σ : Wd) (a9 : Int32) (a8 : Int32) (a7 : Int32) (a5 : Int32), Bk X (fun a => a = ad) cL_allocates 18 RL (some (.int)) 1 34 vI (0, 0) (0, 0) ad σ 11 [(9, .int a9), (8, .int a8), (7, .int a7), (0, .ref (ad 71 0)), (1, .ref (ad 72 0)), (2, .ref (ad 73 0)), (3, .ref (ad 75 0)), (4, .ref (ad 76 0)), (5, .int a5), (6, .ref (ad 77 0))] [] (k11 σ a9 a8 a7 a5)) (σ : Wd) (a8 : Int32) (a7 : Int32) (a12 : Int32) (a9 : Int32) (a5 : Int32) (s0 : Int32) (s1 : Int32) : Bk X (fun a => a = ad) cL_allocates 18 RL (some (.int)) 1 34 vI (0, 0) (0, 0) ad σ 315 [(8, .int a8), (7, .int a7), (12, .int a12), (9, .int a9), (0, .ref (ad 71 0)), (1, .ref (ad 72 0)), (2, .ref (ad 73 0)), (3, .ref (ad 75 0)), (4, .ref (ad 76 0)), (5, .int a5), (6, .ref (ad 77 0))] [.int s0, .int s1, .ref (ad 77 0)] (j_L_allocates_315 k11 σ a8 a7 a12 a9 a5 s0 s1) := by
  unfold j_L_allocates_315
  refine r_gd (fun h2 => ?_)
  refine r_bd ?_
  refine r_iastore (lvs_77 _) (ia_77 _ _ _) h2 dL_allocates_315 ?_
  refine r_aload 10 rfl dL_allocates_316 ?_
  refine r_iconst (2) (by decide) dL_allocates_318 ?_
  refine r_iload 2 rfl dL_allocates_319 ?_
  refine r_iconst (4) (by decide) dL_allocates_321 ?_
  refine r_icmp_ne 329 dL_allocates_322 (by decide) ?_ ?_
  · refine r_iconst (-1) (by decide) dL_allocates_325 ?_
    refine r_goto 331 dL_allocates_326 (by decide) ?_
    refine r_bd ?_
    refine r_iastore (lvs_77 _) (ia_77 _ _ _) (by decide) dL_allocates_331 ?_
    refine r_iinc (1) [(9, .int _), (8, .int _), (7, .int _), (12, .int _), (0, .ref _), (1, .ref _), (2, .ref _), (3, .ref _), (4, .ref _), (5, .int _), (6, .ref _)] 3 rfl (by decide) rfl (by decide) dL_allocates_332 ?_
    refine r_goto 11 dL_allocates_335 (by decide) ?_
    exact r_sub [0, 1, 2, 4, 5, 6, 7, 8, 9, 10] rfl (hk11 _ _ _ _ _)
  · refine r_iload 2 rfl dL_allocates_329 ?_
    refine r_bd ?_
    refine r_iastore (lvs_77 _) (ia_77 _ _ _) (by decide) dL_allocates_331 ?_
    refine r_iinc (1) [(9, .int _), (8, .int _), (7, .int _), (12, .int _), (0, .ref _), (1, .ref _), (2, .ref _), (3, .ref _), (4, .ref _), (5, .int _), (6, .ref _)] 3 rfl (by decide) rfl (by decide) dL_allocates_332 ?_
    refine r_goto 11 dL_allocates_335 (by decide) ?_
    exact r_sub [0, 1, 2, 4, 5, 6, 7, 8, 9, 10] rfl (hk11 _ _ _ _ _)
theorem bj_L_allocates_299 (X : Xt) (hst : X.1.stackTraces = false) (ad : Ad) {k11 : Wd → Int32 → Int32 → Int32 → Int32 → Option ((Int32 ⊕ String) × Wd)} (hk11 : ∀ (σ : Wd) (a9 : Int32) (a8 : Int32) (a7 : Int32) (a5 : Int32), Bk X (fun a => a = ad) cL_allocates 18 RL (some (.int)) 1 34 vI (0, 0) (0, 0) ad σ 11 [(9, .int a9), (8, .int a8), (7, .int a7), (0, .ref (ad 71 0)), (1, .ref (ad 72 0)), (2, .ref (ad 73 0)), (3, .ref (ad 75 0)), (4, .ref (ad 76 0)), (5, .int a5), (6, .ref (ad 77 0))] [] (k11 σ a9 a8 a7 a5)) (σ : Wd) (a8 : Int32) (a7 : Int32) (a12 : Int32) (a11 : Int32) (a9 : Int32) (a5 : Int32) (s0 : Int32) (s1 : Int32) : Bk X (fun a => a = ad) cL_allocates 18 RL (some (.int)) 1 34 vI (0, 0) (0, 0) ad σ 299 [(8, .int a8), (7, .int a7), (12, .int a12), (11, .int a11), (9, .int a9), (0, .ref (ad 71 0)), (1, .ref (ad 72 0)), (2, .ref (ad 73 0)), (3, .ref (ad 75 0)), (4, .ref (ad 76 0)), (5, .int a5), (6, .ref (ad 77 0))] [.int s0, .int s1, .ref (ad 77 0)] (j_L_allocates_299 k11 σ a8 a7 a12 a11 a9 a5 s0 s1) := by
  unfold j_L_allocates_299
  refine r_gd (fun h1 => ?_)
  refine r_bd ?_
  refine r_iastore (lvs_77 _) (ia_77 _ _ _) h1 dL_allocates_299 ?_
  refine r_aload 11 rfl dL_allocates_300 ?_
  refine r_iconst (1) (by decide) dL_allocates_302 ?_
  refine r_iload 3 rfl dL_allocates_303 ?_
  refine r_iconst (4) (by decide) dL_allocates_305 ?_
  refine r_icmp_ne 313 dL_allocates_306 (by decide) ?_ ?_
  · refine r_iconst (-1) (by decide) dL_allocates_309 ?_
    refine r_goto 315 dL_allocates_310 (by decide) ?_
    exact r_sub [0, 1, 2, 4, 5, 6, 7, 8, 9, 10, 11] rfl ((bj_L_allocates_315 X hst ad hk11) _ _ _ _ _ _ _ _)
  · refine r_iload 3 rfl dL_allocates_313 ?_
    exact r_sub [0, 1, 2, 4, 5, 6, 7, 8, 9, 10, 11] rfl ((bj_L_allocates_315 X hst ad hk11) _ _ _ _ _ _ _ _)
theorem bj_L_allocates_276 (X : Xt) (hst : X.1.stackTraces = false) (ad : Ad) {k11 : Wd → Int32 → Int32 → Int32 → Int32 → Option ((Int32 ⊕ String) × Wd)} (hk11 : ∀ (σ : Wd) (a9 : Int32) (a8 : Int32) (a7 : Int32) (a5 : Int32), Bk X (fun a => a = ad) cL_allocates 18 RL (some (.int)) 1 34 vI (0, 0) (0, 0) ad σ 11 [(9, .int a9), (8, .int a8), (7, .int a7), (0, .ref (ad 71 0)), (1, .ref (ad 72 0)), (2, .ref (ad 73 0)), (3, .ref (ad 75 0)), (4, .ref (ad 76 0)), (5, .int a5), (6, .ref (ad 77 0))] [] (k11 σ a9 a8 a7 a5)) (σ : Wd) (a15 : Int32) (a14 : Int32) (a12 : Int32) (a11 : Int32) (a10 : Int32) (a9 : Int32) (a5 : Int32) : Bk X (fun a => a = ad) cL_allocates 18 RL (some (.int)) 1 34 vI (0, 0) (0, 0) ad σ 276 [(15, .int a15), (14, .int a14), (12, .int a12), (11, .int a11), (10, .int a10), (9, .int a9), (0, .ref (ad 71 0)), (1, .ref (ad 72 0)), (2, .ref (ad 73 0)), (3, .ref (ad 75 0)), (4, .ref (ad 76 0)), (5, .int a5), (6, .ref (ad 77 0))] [] (j_L_allocates_276 k11 σ a15 a14 a12 a11 a10 a9 a5) := by
  unfold j_L_allocates_276
  refine r_iload 1 rfl dL_allocates_276 ?_
  refine r_istore [(7, .int _), (15, .int _), (14, .int _), (12, .int _), (11, .int _), (10, .int _), (9, .int _), (0, .ref _), (1, .ref _), (2, .ref _), (3, .ref _), (4, .ref _), (5, .int _), (6, .ref _)] rfl (by decide) dL_allocates_278 ?_
  refine r_iload 1 rfl dL_allocates_280 ?_
  refine r_istore [(8, .int _), (7, .int _), (15, .int _), (14, .int _), (12, .int _), (11, .int _), (10, .int _), (9, .int _), (0, .ref _), (1, .ref _), (2, .ref _), (3, .ref _), (4, .ref _), (5, .int _), (6, .ref _)] rfl (by decide) dL_allocates_282 ?_
  refine r_aload 14 rfl dL_allocates_284 ?_
  refine r_iconst (0) (by decide) dL_allocates_286 ?_
  refine r_iload 6 rfl dL_allocates_287 ?_
  refine r_iconst (4) (by decide) dL_allocates_289 ?_
  refine r_icmp_ne 297 dL_allocates_290 (by decide) ?_ ?_
  · refine r_iconst (-1) (by decide) dL_allocates_293 ?_
    refine r_goto 299 dL_allocates_294 (by decide) ?_
    exact r_sub [0, 1, 4, 5, 7, 8, 9, 10, 11, 12, 13, 14] rfl ((bj_L_allocates_299 X hst ad hk11) _ _ _ _ _ _ _ _ _)
  · refine r_iload 6 rfl dL_allocates_297 ?_
    exact r_sub [0, 1, 4, 5, 7, 8, 9, 10, 11, 12, 13, 14] rfl ((bj_L_allocates_299 X hst ad hk11) _ _ _ _ _ _ _ _ _)
theorem bj_L_allocates_202 (X : Xt) (hst : X.1.stackTraces = false) (ad : Ad) {k88 : Wd → Int32 → Int32 → Int32 → Int32 → Int32 → Int32 → Int32 → Int32 → Int32 → Int32 → Int32 → Option ((Int32 ⊕ String) × Wd)} (hk88 : ∀ (σ : Wd) (a16 : Int32) (a15 : Int32) (a14 : Int32) (a13 : Int32) (a12 : Int32) (a11 : Int32) (a10 : Int32) (a9 : Int32) (a8 : Int32) (a7 : Int32) (a5 : Int32), Bk X (fun a => a = ad) cL_allocates 18 RL (some (.int)) 1 34 vI (0, 0) (0, 0) ad σ 88 [(16, .int a16), (15, .int a15), (14, .int a14), (13, .int a13), (12, .int a12), (11, .int a11), (10, .int a10), (9, .int a9), (8, .int a8), (7, .int a7), (0, .ref (ad 71 0)), (1, .ref (ad 72 0)), (2, .ref (ad 73 0)), (3, .ref (ad 75 0)), (4, .ref (ad 76 0)), (5, .int a5), (6, .ref (ad 77 0))] [] (k88 σ a16 a15 a14 a13 a12 a11 a10 a9 a8 a7 a5)) (σ : Wd) (a13 : Int32) (a17 : Int32) (a16 : Int32) (a15 : Int32) (a12 : Int32) (a11 : Int32) (a10 : Int32) (a9 : Int32) (a8 : Int32) (a7 : Int32) (a5 : Int32) (s0 : Int32) (s1 : Int32) : Bk X (fun a => a = ad) cL_allocates 18 RL (some (.int)) 1 34 vI (0, 0) (0, 0) ad σ 202 [(13, .int a13), (17, .int a17), (16, .int a16), (15, .int a15), (12, .int a12), (11, .int a11), (10, .int a10), (9, .int a9), (8, .int a8), (7, .int a7), (0, .ref (ad 71 0)), (1, .ref (ad 72 0)), (2, .ref (ad 73 0)), (3, .ref (ad 75 0)), (4, .ref (ad 76 0)), (5, .int a5), (6, .ref (ad 77 0))] [.int s0, .int s1] (j_L_allocates_202 k88 σ a13 a17 a16 a15 a12 a11 a10 a9 a8 a7 a5 s0 s1) := by
  unfold j_L_allocates_202
  refine r_iadd dL_allocates_202 ?_
  refine r_istore [(14, .int _), (13, .int _), (17, .int _), (16, .int _), (15, .int _), (12, .int _), (11, .int _), (10, .int _), (9, .int _), (8, .int _), (7, .int _), (0, .ref _), (1, .ref _), (2, .ref _), (3, .ref _), (4, .ref _), (5, .int _), (6, .ref _)] rfl (by decide) dL_allocates_203 ?_
  refine r_iload 4 rfl dL_allocates_205 ?_
  refine r_iload 2 rfl dL_allocates_207 ?_
  refine r_iconst (4) (by decide) dL_allocates_209 ?_
  refine r_icmp_ge 240 dL_allocates_210 (by decide) ?_ ?_
  · refine r_iconst (0) (by decide) dL_allocates_240 ?_
    refine r_iadd dL_allocates_241 ?_
    refine r_istore [(15, .int _), (14, .int _), (13, .int _), (17, .int _), (16, .int _), (12, .int _), (11, .int _), (10, .int _), (9, .int _), (8, .int _), (7, .int _), (0, .ref _), (1, .ref _), (2, .ref _), (3, .ref _), (4, .ref _), (5, .int _), (6, .ref _)] rfl (by decide) dL_allocates_242 ?_
    refine r_iinc (1) [(16, .int _), (15, .int _), (14, .int _), (13, .int _), (17, .int _), (12, .int _), (11, .int _), (10, .int _), (9, .int _), (8, .int _), (7, .int _), (0, .ref _), (1, .ref _), (2, .ref _), (3, .ref _), (4, .ref _), (5, .int _), (6, .ref _)] 4 rfl (by decide) rfl (by decide) dL_allocates_244 ?_
    refine r_goto 88 dL_allocates_247 (by decide) ?_
    exact r_sub [0, 1, 2, 3, 5, 6, 7, 8, 9, 10, 11, 12, 13, 14, 15, 16, 17] rfl (hk88 _ _ _ _ _ _ _ _ _ _ _ _)
  · refine r_aload_n 14 rfl dL_allocates_213 ?_
    refine r_bipush (6) (by decide) dL_allocates_214 ?_
    refine r_iload 3 rfl dL_allocates_216 ?_
    refine r_imul dL_allocates_218 ?_
    refine r_iconst (1) (by decide) dL_allocates_219 ?_
    refine r_iadd dL_allocates_220 ?_
    refine r_gd (fun h4 => ?_)
    refine r_iaload (lvs_75 _) (cell_75 _ _ _ _) h4 dL_allocates_221 ?_
    refine r_if_ne 240 dL_allocates_222 (by decide) ?_ ?_
    · refine r_aload_n 11 rfl dL_allocates_225 ?_
      refine r_aload 15 rfl dL_allocates_226 ?_
      refine r_iload 2 rfl dL_allocates_228 ?_
      refine r_callS (n := 3) (As := [.ref _, .ref _, .int _]) (nc_L_soon X hst ad _ _) (fun _ h => h) rfl ⟨by decide, by decide, by decide +kernel⟩ w_500 w_501 w_502 w_503 rfl rfl (Nat.le_of_ble_eq_true rfl) ⟨by decide, by decide⟩ dL_allocates_230 (fun v7 σ8 => ?_)
      refine r_if_eq 240 dL_allocates_233 (by decide) ?_ ?_
      · refine r_iconst (0) (by decide) dL_allocates_240 ?_
        refine r_iadd dL_allocates_241 ?_
        refine r_istore [(15, .int _), (14, .int _), (13, .int _), (17, .int _), (16, .int _), (12, .int _), (11, .int _), (10, .int _), (9, .int _), (8, .int _), (7, .int _), (0, .ref _), (1, .ref _), (2, .ref _), (3, .ref _), (4, .ref _), (5, .int _), (6, .ref _)] rfl (by decide) dL_allocates_242 ?_
        refine r_iinc (1) [(16, .int _), (15, .int _), (14, .int _), (13, .int _), (17, .int _), (12, .int _), (11, .int _), (10, .int _), (9, .int _), (8, .int _), (7, .int _), (0, .ref _), (1, .ref _), (2, .ref _), (3, .ref _), (4, .ref _), (5, .int _), (6, .ref _)] 4 rfl (by decide) rfl (by decide) dL_allocates_244 ?_
        refine r_goto 88 dL_allocates_247 (by decide) ?_
        exact r_sub [0, 1, 2, 3, 5, 6, 7, 8, 9, 10, 11, 12, 13, 14, 15, 16, 17] rfl (hk88 _ _ _ _ _ _ _ _ _ _ _ _)
      · refine r_iconst (1) (by decide) dL_allocates_236 ?_
        refine r_goto 241 dL_allocates_237 (by decide) ?_
        refine r_iadd dL_allocates_241 ?_
        refine r_istore [(15, .int _), (14, .int _), (13, .int _), (17, .int _), (16, .int _), (12, .int _), (11, .int _), (10, .int _), (9, .int _), (8, .int _), (7, .int _), (0, .ref _), (1, .ref _), (2, .ref _), (3, .ref _), (4, .ref _), (5, .int _), (6, .ref _)] rfl (by decide) dL_allocates_242 ?_
        refine r_iinc (1) [(16, .int _), (15, .int _), (14, .int _), (13, .int _), (17, .int _), (12, .int _), (11, .int _), (10, .int _), (9, .int _), (8, .int _), (7, .int _), (0, .ref _), (1, .ref _), (2, .ref _), (3, .ref _), (4, .ref _), (5, .int _), (6, .ref _)] 4 rfl (by decide) rfl (by decide) dL_allocates_244 ?_
        refine r_goto 88 dL_allocates_247 (by decide) ?_
        exact r_sub [0, 1, 2, 3, 5, 6, 7, 8, 9, 10, 11, 12, 13, 14, 15, 16, 17] rfl (hk88 _ _ _ _ _ _ _ _ _ _ _ _)
    · refine r_iconst (0) (by decide) dL_allocates_240 ?_
      refine r_iadd dL_allocates_241 ?_
      refine r_istore [(15, .int _), (14, .int _), (13, .int _), (17, .int _), (16, .int _), (12, .int _), (11, .int _), (10, .int _), (9, .int _), (8, .int _), (7, .int _), (0, .ref _), (1, .ref _), (2, .ref _), (3, .ref _), (4, .ref _), (5, .int _), (6, .ref _)] rfl (by decide) dL_allocates_242 ?_
      refine r_iinc (1) [(16, .int _), (15, .int _), (14, .int _), (13, .int _), (17, .int _), (12, .int _), (11, .int _), (10, .int _), (9, .int _), (8, .int _), (7, .int _), (0, .ref _), (1, .ref _), (2, .ref _), (3, .ref _), (4, .ref _), (5, .int _), (6, .ref _)] 4 rfl (by decide) rfl (by decide) dL_allocates_244 ?_
      refine r_goto 88 dL_allocates_247 (by decide) ?_
      exact r_sub [0, 1, 2, 3, 5, 6, 7, 8, 9, 10, 11, 12, 13, 14, 15, 16, 17] rfl (hk88 _ _ _ _ _ _ _ _ _ _ _ _)
theorem bj_L_allocates_179 (X : Xt) (hst : X.1.stackTraces = false) (ad : Ad) {k88 : Wd → Int32 → Int32 → Int32 → Int32 → Int32 → Int32 → Int32 → Int32 → Int32 → Int32 → Int32 → Option ((Int32 ⊕ String) × Wd)} (hk88 : ∀ (σ : Wd) (a16 : Int32) (a15 : Int32) (a14 : Int32) (a13 : Int32) (a12 : Int32) (a11 : Int32) (a10 : Int32) (a9 : Int32) (a8 : Int32) (a7 : Int32) (a5 : Int32), Bk X (fun a => a = ad) cL_allocates 18 RL (some (.int)) 1 34 vI (0, 0) (0, 0) ad σ 88 [(16, .int a16), (15, .int a15), (14, .int a14), (13, .int a13), (12, .int a12), (11, .int a11), (10, .int a10), (9, .int a9), (8, .int a8), (7, .int a7), (0, .ref (ad 71 0)), (1, .ref (ad 72 0)), (2, .ref (ad 73 0)), (3, .ref (ad 75 0)), (4, .ref (ad 76 0)), (5, .int a5), (6, .ref (ad 77 0))] [] (k88 σ a16 a15 a14 a13 a12 a11 a10 a9 a8 a7 a5)) (σ : Wd) (a17 : Int32) (a16 : Int32) (a15 : Int32) (a14 : Int32) (a12 : Int32) (a11 : Int32) (a10 : Int32) (a9 : Int32) (a8 : Int32) (a7 : Int32) (a5 : Int32) (s0 : Int32) : Bk X (fun a => a = ad) cL_allocates 18 RL (some (.int)) 1 34 vI (0, 0) (0, 0) ad σ 179 [(17, .int a17), (16, .int a16), (15, .int a15), (14, .int a14), (12, .int a12), (11, .int a11), (10, .int a10), (9, .int a9), (8, .int a8), (7, .int a7), (0, .ref (ad 71 0)), (1, .ref (ad 72 0)), (2, .ref (ad 73 0)), (3, .ref (ad 75 0)), (4, .ref (ad 76 0)), (5, .int a5), (6, .ref (ad 77 0))] [.int s0] (j_L_allocates_179 k88 σ a17 a16 a15 a14 a12 a11 a10 a9 a8 a7 a5 s0) := by
  unfold j_L_allocates_179
  refine r_istore [(13, .int _), (17, .int _), (16, .int _), (15, .int _), (14, .int _), (12, .int _), (11, .int _), (10, .int _), (9, .int _), (8, .int _), (7, .int _), (0, .ref _), (1, .ref _), (2, .ref _), (3, .ref _), (4, .ref _), (5, .int _), (6, .ref _)] rfl (by decide) dL_allocates_179 ?_
  refine r_iload 4 rfl dL_allocates_181 ?_
  refine r_iload 1 rfl dL_allocates_183 ?_
  refine r_iconst (4) (by decide) dL_allocates_185 ?_
  refine r_icmp_ne 201 dL_allocates_186 (by decide) ?_ ?_
  · refine r_aload_n 14 rfl dL_allocates_189 ?_
    refine r_bipush (6) (by decide) dL_allocates_190 ?_
    refine r_iload 2 rfl dL_allocates_192 ?_
    refine r_imul dL_allocates_194 ?_
    refine r_iconst (4) (by decide) dL_allocates_195 ?_
    refine r_iadd dL_allocates_196 ?_
    refine r_gd (fun h3 => ?_)
    refine r_iaload (lvs_75 _) (cell_75 _ _ _ _) h3 dL_allocates_197 ?_
    refine r_goto 202 dL_allocates_198 (by decide) ?_
    exact r_sub [0, 1, 2, 3, 5, 6, 7, 8, 9, 10, 11, 12, 13, 14, 15, 16, 17] rfl ((bj_L_allocates_202 X hst ad hk88) _ _ _ _ _ _ _ _ _ _ _ _ _ _)
  · refine r_iconst (0) (by decide) dL_allocates_201 ?_
    exact r_sub [0, 1, 2, 3, 5, 6, 7, 8, 9, 10, 11, 12, 13, 14, 15, 16, 17] rfl ((bj_L_allocates_202 X hst ad hk88) _ _ _ _ _ _ _ _ _ _ _ _ _ _)
theorem bj_L_allocates_178 (X : Xt) (hst : X.1.stackTraces = false) (ad : Ad) {k88 : Wd → Int32 → Int32 → Int32 → Int32 → Int32 → Int32 → Int32 → Int32 → Int32 → Int32 → Int32 → Option ((Int32 ⊕ String) × Wd)} (hk88 : ∀ (σ : Wd) (a16 : Int32) (a15 : Int32) (a14 : Int32) (a13 : Int32) (a12 : Int32) (a11 : Int32) (a10 : Int32) (a9 : Int32) (a8 : Int32) (a7 : Int32) (a5 : Int32), Bk X (fun a => a = ad) cL_allocates 18 RL (some (.int)) 1 34 vI (0, 0) (0, 0) ad σ 88 [(16, .int a16), (15, .int a15), (14, .int a14), (13, .int a13), (12, .int a12), (11, .int a11), (10, .int a10), (9, .int a9), (8, .int a8), (7, .int a7), (0, .ref (ad 71 0)), (1, .ref (ad 72 0)), (2, .ref (ad 73 0)), (3, .ref (ad 75 0)), (4, .ref (ad 76 0)), (5, .int a5), (6, .ref (ad 77 0))] [] (k88 σ a16 a15 a14 a13 a12 a11 a10 a9 a8 a7 a5)) (σ : Wd) (a17 : Int32) (a16 : Int32) (a15 : Int32) (a14 : Int32) (a12 : Int32) (a11 : Int32) (a10 : Int32) (a9 : Int32) (a8 : Int32) (a7 : Int32) (a5 : Int32) : Bk X (fun a => a = ad) cL_allocates 18 RL (some (.int)) 1 34 vI (0, 0) (0, 0) ad σ 178 [(17, .int a17), (16, .int a16), (15, .int a15), (14, .int a14), (12, .int a12), (11, .int a11), (10, .int a10), (9, .int a9), (8, .int a8), (7, .int a7), (0, .ref (ad 71 0)), (1, .ref (ad 72 0)), (2, .ref (ad 73 0)), (3, .ref (ad 75 0)), (4, .ref (ad 76 0)), (5, .int a5), (6, .ref (ad 77 0))] [] (j_L_allocates_178 k88 σ a17 a16 a15 a14 a12 a11 a10 a9 a8 a7 a5) := by
  unfold j_L_allocates_178
  refine r_iconst (0) (by decide) dL_allocates_178 ?_
  exact r_sub [0, 1, 2, 3, 4, 5, 6, 7, 8, 9, 10, 11, 12, 13, 14, 15, 16] rfl ((bj_L_allocates_179 X hst ad hk88) _ _ _ _ _ _ _ _ _ _ _ _ _)
theorem bj_L_allocates_174 (X : Xt) (hst : X.1.stackTraces = false) (ad : Ad) {k88 : Wd → Int32 → Int32 → Int32 → Int32 → Int32 → Int32 → Int32 → Int32 → Int32 → Int32 → Int32 → Option ((Int32 ⊕ String) × Wd)} (hk88 : ∀ (σ : Wd) (a16 : Int32) (a15 : Int32) (a14 : Int32) (a13 : Int32) (a12 : Int32) (a11 : Int32) (a10 : Int32) (a9 : Int32) (a8 : Int32) (a7 : Int32) (a5 : Int32), Bk X (fun a => a = ad) cL_allocates 18 RL (some (.int)) 1 34 vI (0, 0) (0, 0) ad σ 88 [(16, .int a16), (15, .int a15), (14, .int a14), (13, .int a13), (12, .int a12), (11, .int a11), (10, .int a10), (9, .int a9), (8, .int a8), (7, .int a7), (0, .ref (ad 71 0)), (1, .ref (ad 72 0)), (2, .ref (ad 73 0)), (3, .ref (ad 75 0)), (4, .ref (ad 76 0)), (5, .int a5), (6, .ref (ad 77 0))] [] (k88 σ a16 a15 a14 a13 a12 a11 a10 a9 a8 a7 a5)) (σ : Wd) (a17 : Int32) (a16 : Int32) (a15 : Int32) (a14 : Int32) (a12 : Int32) (a11 : Int32) (a10 : Int32) (a9 : Int32) (a8 : Int32) (a7 : Int32) (a5 : Int32) : Bk X (fun a => a = ad) cL_allocates 18 RL (some (.int)) 1 34 vI (0, 0) (0, 0) ad σ 174 [(17, .int a17), (16, .int a16), (15, .int a15), (14, .int a14), (12, .int a12), (11, .int a11), (10, .int a10), (9, .int a9), (8, .int a8), (7, .int a7), (0, .ref (ad 71 0)), (1, .ref (ad 72 0)), (2, .ref (ad 73 0)), (3, .ref (ad 75 0)), (4, .ref (ad 76 0)), (5, .int a5), (6, .ref (ad 77 0))] [] (j_L_allocates_174 k88 σ a17 a16 a15 a14 a12 a11 a10 a9 a8 a7 a5) := by
  unfold j_L_allocates_174
  refine r_iconst (1) (by decide) dL_allocates_174 ?_
  refine r_goto 179 dL_allocates_175 (by decide) ?_
  exact r_sub [0, 1, 2, 3, 4, 5, 6, 7, 8, 9, 10, 11, 12, 13, 14, 15, 16] rfl ((bj_L_allocates_179 X hst ad hk88) _ _ _ _ _ _ _ _ _ _ _ _ _)
theorem bj_L_allocates_117 (X : Xt) (hst : X.1.stackTraces = false) (ad : Ad) {k88 : Wd → Int32 → Int32 → Int32 → Int32 → Int32 → Int32 → Int32 → Int32 → Int32 → Int32 → Int32 → Option ((Int32 ⊕ String) × Wd)} (hk88 : ∀ (σ : Wd) (a16 : Int32) (a15 : Int32) (a14 : Int32) (a13 : Int32) (a12 : Int32) (a11 : Int32) (a10 : Int32) (a9 : Int32) (a8 : Int32) (a7 : Int32) (a5 : Int32), Bk X (fun a => a = ad) cL_allocates 18 RL (some (.int)) 1 34 vI (0, 0) (0, 0) ad σ 88 [(16, .int a16), (15, .int a15), (14, .int a14), (13, .int a13), (12, .int a12), (11, .int a11), (10, .int a10), (9, .int a9), (8, .int a8), (7, .int a7), (0, .ref (ad 71 0)), (1, .ref (ad 72 0)), (2, .ref (ad 73 0)), (3, .ref (ad 75 0)), (4, .ref (ad 76 0)), (5, .int a5), (6, .ref (ad 77 0))] [] (k88 σ a16 a15 a14 a13 a12 a11 a10 a9 a8 a7 a5)) (σ : Wd) (a16 : Int32) (a15 : Int32) (a14 : Int32) (a13 : Int32) (a12 : Int32) (a11 : Int32) (a10 : Int32) (a9 : Int32) (a8 : Int32) (a7 : Int32) (a5 : Int32) (s0 : Int32) : Bk X (fun a => a = ad) cL_allocates 18 RL (some (.int)) 1 34 vI (0, 0) (0, 0) ad σ 117 [(16, .int a16), (15, .int a15), (14, .int a14), (13, .int a13), (12, .int a12), (11, .int a11), (10, .int a10), (9, .int a9), (8, .int a8), (7, .int a7), (0, .ref (ad 71 0)), (1, .ref (ad 72 0)), (2, .ref (ad 73 0)), (3, .ref (ad 75 0)), (4, .ref (ad 76 0)), (5, .int a5), (6, .ref (ad 77 0))] [.int s0] (j_L_allocates_117 k88 σ a16 a15 a14 a13 a12 a11 a10 a9 a8 a7 a5 s0) := by
  unfold j_L_allocates_117
  refine r_istore [(17, .int _), (16, .int _), (15, .int _), (14, .int _), (13, .int _), (12, .int _), (11, .int _), (10, .int _), (9, .int _), (8, .int _), (7, .int _), (0, .ref _), (1, .ref _), (2, .ref _), (3, .ref _), (4, .ref _), (5, .int _), (6, .ref _)] rfl (by decide) dL_allocates_117 ?_
  refine r_iload 4 rfl dL_allocates_119 ?_
  refine r_if_eq 178 dL_allocates_121 (by decide) ?_ ?_
  · exact r_sub [0, 1, 2, 3, 5, 6, 7, 8, 9, 10, 11, 12, 13, 14, 15, 16, 17] rfl ((bj_L_allocates_178 X hst ad hk88) _ _ _ _ _ _ _ _ _ _ _ _)
  · refine r_iload 0 rfl dL_allocates_124 ?_
    refine r_iconst (4) (by decide) dL_allocates_126 ?_
    refine r_icmp_eq 174 dL_allocates_127 (by decide) ?_ ?_
    · exact r_sub [0, 1, 2, 3, 5, 6, 7, 8, 9, 10, 11, 12, 13, 14, 15, 16, 17] rfl ((bj_L_allocates_174 X hst ad hk88) _ _ _ _ _ _ _ _ _ _ _ _)
    · refine r_aload_n 11 rfl dL_allocates_130 ?_
      refine r_aload_n 12 rfl dL_allocates_131 ?_
      refine r_aload_n 13 rfl dL_allocates_132 ?_
      refine r_aload_n 14 rfl dL_allocates_133 ?_
      refine r_aload 15 rfl dL_allocates_134 ?_
      refine r_iload 0 rfl dL_allocates_136 ?_
      refine r_iload 1 rfl dL_allocates_138 ?_
      refine r_iload 16 rfl dL_allocates_140 ?_
      refine r_callS (n := 8) (As := [.ref _, .ref _, .ref _, .ref _, .ref _, .int _, .int _, .int _]) (nc_L_why X hst ad _ _ _ _) (fun _ h => h) rfl ⟨by decide, by decide, by decide +kernel⟩ w_504 w_505 w_502 w_506 rfl rfl (Nat.le_of_ble_eq_true rfl) ⟨by decide, by decide⟩ dL_allocates_142 (fun v9 σ10 => ?_)
      refine r_if_ne 178 dL_allocates_145 (by decide) ?_ ?_
      · refine r_aload_n 14 rfl dL_allocates_148 ?_
        refine r_bipush (6) (by decide) dL_allocates_149 ?_
        refine r_iload 1 rfl dL_allocates_151 ?_
        refine r_imul dL_allocates_153 ?_
        refine r_iconst (5) (by decide) dL_allocates_154 ?_
        refine r_iadd dL_allocates_155 ?_
        refine r_gd (fun h5 => ?_)
        refine r_iaload (lvs_75 _) (cell_75 _ _ _ _) h5 dL_allocates_156 ?_
        refine r_if_lt 174 dL_allocates_157 (by decide) ?_ ?_
        · exact r_sub [0, 1, 2, 3, 5, 6, 7, 8, 9, 10, 11, 12, 13, 14, 15, 16, 17] rfl ((bj_L_allocates_174 X hst ad hk88) _ _ _ _ _ _ _ _ _ _ _ _)
        · refine r_aload_n 14 rfl dL_allocates_160 ?_
          refine r_bipush (6) (by decide) dL_allocates_161 ?_
          refine r_iload 1 rfl dL_allocates_163 ?_
          refine r_imul dL_allocates_165 ?_
          refine r_iconst (5) (by decide) dL_allocates_166 ?_
          refine r_iadd dL_allocates_167 ?_
          refine r_iaload (lvs_75 _) (cell_75 _ _ _ _) h5 dL_allocates_168 ?_
          refine r_iload 0 rfl dL_allocates_169 ?_
          refine r_icmp_ne 178 dL_allocates_171 (by decide) ?_ ?_
          · exact r_sub [0, 1, 2, 3, 5, 6, 7, 8, 9, 10, 11, 12, 13, 14, 15, 16, 17] rfl ((bj_L_allocates_174 X hst ad hk88) _ _ _ _ _ _ _ _ _ _ _ _)
          · exact r_sub [0, 1, 2, 3, 5, 6, 7, 8, 9, 10, 11, 12, 13, 14, 15, 16, 17] rfl ((bj_L_allocates_178 X hst ad hk88) _ _ _ _ _ _ _ _ _ _ _ _)
      · exact r_sub [0, 1, 2, 3, 5, 6, 7, 8, 9, 10, 11, 12, 13, 14, 15, 16, 17] rfl ((bj_L_allocates_178 X hst ad hk88) _ _ _ _ _ _ _ _ _ _ _ _)
theorem bl_L_allocates_88 (X : Xt) (hst : X.1.stackTraces = false) (ad : Ad) {k11 : Wd → Int32 → Int32 → Int32 → Int32 → Option ((Int32 ⊕ String) × Wd)} (hk11 : ∀ (σ : Wd) (a9 : Int32) (a8 : Int32) (a7 : Int32) (a5 : Int32), Bk X (fun a => a = ad) cL_allocates 18 RL (some (.int)) 1 34 vI (0, 0) (0, 0) ad σ 11 [(9, .int a9), (8, .int a8), (7, .int a7), (0, .ref (ad 71 0)), (1, .ref (ad 72 0)), (2, .ref (ad 73 0)), (3, .ref (ad 75 0)), (4, .ref (ad 76 0)), (5, .int a5), (6, .ref (ad 77 0))] [] (k11 σ a9 a8 a7 a5)) : ∀ (n : Nat) (σ : Wd) (a16 : Int32) (a15 : Int32) (a14 : Int32) (a13 : Int32) (a12 : Int32) (a11 : Int32) (a10 : Int32) (a9 : Int32) (a8 : Int32) (a7 : Int32) (a5 : Int32), Bk X (fun a => a = ad) cL_allocates 18 RL (some (.int)) 1 34 vI (0, 0) (0, 0) ad σ 88 [(16, .int a16), (15, .int a15), (14, .int a14), (13, .int a13), (12, .int a12), (11, .int a11), (10, .int a10), (9, .int a9), (8, .int a8), (7, .int a7), (0, .ref (ad 71 0)), (1, .ref (ad 72 0)), (2, .ref (ad 73 0)), (3, .ref (ad 75 0)), (4, .ref (ad 76 0)), (5, .int a5), (6, .ref (ad 77 0))] [] (l_L_allocates_88 k11 n σ a16 a15 a14 a13 a12 a11 a10 a9 a8 a7 a5) := by
  intro n
  induction n with
  | zero => intros; exact r_none
  | succ n ih =>
  intro σ a16 a15 a14 a13 a12 a11 a10 a9 a8 a7 a5
  rw [l_L_allocates_88]
  refine r_iload 0 rfl dL_allocates_88 ?_
  refine r_iconst (3) (by decide) dL_allocates_90 ?_
  refine r_icmp_ge 250 dL_allocates_91 (by decide) ?_ ?_
  · refine r_iload 3 rfl dL_allocates_250 ?_
    refine r_if_eq 332 dL_allocates_252 (by decide) ?_ ?_
    · refine r_iinc (1) [(9, .int _), (16, .int _), (15, .int _), (14, .int _), (13, .int _), (12, .int _), (11, .int _), (10, .int _), (8, .int _), (7, .int _), (0, .ref _), (1, .ref _), (2, .ref _), (3, .ref _), (4, .ref _), (5, .int _), (6, .ref _)] 7 rfl (by decide) rfl (by decide) dL_allocates_332 ?_
      refine r_goto 11 dL_allocates_335 (by decide) ?_
      exact r_sub [0, 8, 9, 10, 11, 12, 13, 14, 15, 16] rfl (hk11 _ _ _ _ _)
    · refine r_iload 2 rfl dL_allocates_255 ?_
      refine r_iload 9 rfl dL_allocates_257 ?_
      refine r_icmp_lt 276 dL_allocates_259 (by decide) ?_ ?_
      · exact r_sub [1, 2, 4, 5, 6, 7, 10, 11, 12, 13, 14, 15, 16] rfl ((bj_L_allocates_276 X hst ad hk11) _ _ _ _ _ _ _ _)
      · refine r_iload 2 rfl dL_allocates_262 ?_
        refine r_iload 9 rfl dL_allocates_264 ?_
        refine r_icmp_ne 332 dL_allocates_266 (by decide) ?_ ?_
        · refine r_iload 1 rfl dL_allocates_269 ?_
          refine r_iload 8 rfl dL_allocates_271 ?_
          refine r_icmp_le 332 dL_allocates_273 (by decide) ?_ ?_
          · refine r_iinc (1) [(9, .int _), (16, .int _), (15, .int _), (14, .int _), (13, .int _), (12, .int _), (11, .int _), (10, .int _), (8, .int _), (7, .int _), (0, .ref _), (1, .ref _), (2, .ref _), (3, .ref _), (4, .ref _), (5, .int _), (6, .ref _)] 7 rfl (by decide) rfl (by decide) dL_allocates_332 ?_
            refine r_goto 11 dL_allocates_335 (by decide) ?_
            exact r_sub [0, 8, 9, 10, 11, 12, 13, 14, 15, 16] rfl (hk11 _ _ _ _ _)
          · exact r_sub [1, 2, 4, 5, 6, 7, 10, 11, 12, 13, 14, 15, 16] rfl ((bj_L_allocates_276 X hst ad hk11) _ _ _ _ _ _ _ _)
        · refine r_iinc (1) [(9, .int _), (16, .int _), (15, .int _), (14, .int _), (13, .int _), (12, .int _), (11, .int _), (10, .int _), (8, .int _), (7, .int _), (0, .ref _), (1, .ref _), (2, .ref _), (3, .ref _), (4, .ref _), (5, .int _), (6, .ref _)] 7 rfl (by decide) rfl (by decide) dL_allocates_332 ?_
          refine r_goto 11 dL_allocates_335 (by decide) ?_
          exact r_sub [0, 8, 9, 10, 11, 12, 13, 14, 15, 16] rfl (hk11 _ _ _ _ _)
  · refine r_iload 0 rfl dL_allocates_94 ?_
    refine r_if_ne 104 dL_allocates_96 (by decide) ?_ ?_
    · refine r_iload 6 rfl dL_allocates_99 ?_
      refine r_goto 117 dL_allocates_101 (by decide) ?_
      exact r_sub [0, 1, 2, 3, 4, 5, 6, 7, 8, 9, 10, 11, 12, 13, 14, 15, 16] rfl ((bj_L_allocates_117 X hst ad ih) _ _ _ _ _ _ _ _ _ _ _ _ _)
    · refine r_iload 0 rfl dL_allocates_104 ?_
      refine r_iconst (1) (by decide) dL_allocates_106 ?_
      refine r_icmp_ne 115 dL_allocates_107 (by decide) ?_ ?_
      · refine r_iload 5 rfl dL_allocates_110 ?_
        refine r_goto 117 dL_allocates_112 (by decide) ?_
        exact r_sub [0, 1, 2, 3, 4, 5, 6, 7, 8, 9, 10, 11, 12, 13, 14, 15, 16] rfl ((bj_L_allocates_117 X hst ad ih) _ _ _ _ _ _ _ _ _ _ _ _ _)
      · refine r_iload 4 rfl dL_allocates_115 ?_
        exact r_sub [0, 1, 2, 3, 4, 5, 6, 7, 8, 9, 10, 11, 12, 13, 14, 15, 16] rfl ((bj_L_allocates_117 X hst ad ih) _ _ _ _ _ _ _ _ _ _ _ _ _)
theorem bj_L_allocates_77 (X : Xt) (hst : X.1.stackTraces = false) (ad : Ad) {k11 : Wd → Int32 → Int32 → Int32 → Int32 → Option ((Int32 ⊕ String) × Wd)} (hk11 : ∀ (σ : Wd) (a9 : Int32) (a8 : Int32) (a7 : Int32) (a5 : Int32), Bk X (fun a => a = ad) cL_allocates 18 RL (some (.int)) 1 34 vI (0, 0) (0, 0) ad σ 11 [(9, .int a9), (8, .int a8), (7, .int a7), (0, .ref (ad 71 0)), (1, .ref (ad 72 0)), (2, .ref (ad 73 0)), (3, .ref (ad 75 0)), (4, .ref (ad 76 0)), (5, .int a5), (6, .ref (ad 77 0))] [] (k11 σ a9 a8 a7 a5)) (σ : Wd) (a12 : Int32) (a11 : Int32) (a10 : Int32) (a9 : Int32) (a8 : Int32) (a7 : Int32) (a5 : Int32) (s0 : Int32) : Bk X (fun a => a = ad) cL_allocates 18 RL (some (.int)) 1 34 vI (0, 0) (0, 0) ad σ 77 [(12, .int a12), (11, .int a11), (10, .int a10), (9, .int a9), (8, .int a8), (7, .int a7), (0, .ref (ad 71 0)), (1, .ref (ad 72 0)), (2, .ref (ad 73 0)), (3, .ref (ad 75 0)), (4, .ref (ad 76 0)), (5, .int a5), (6, .ref (ad 77 0))] [.int s0] (j_L_allocates_77 k11 σ a12 a11 a10 a9 a8 a7 a5 s0) := by
  unfold j_L_allocates_77
  refine r_istore [(13, .int _), (12, .int _), (11, .int _), (10, .int _), (9, .int _), (8, .int _), (7, .int _), (0, .ref _), (1, .ref _), (2, .ref _), (3, .ref _), (4, .ref _), (5, .int _), (6, .ref _)] rfl (by decide) dL_allocates_77 ?_
  refine r_iconst (0) (by decide) dL_allocates_79 ?_
  refine r_istore [(14, .int _), (13, .int _), (12, .int _), (11, .int _), (10, .int _), (9, .int _), (8, .int _), (7, .int _), (0, .ref _), (1, .ref _), (2, .ref _), (3, .ref _), (4, .ref _), (5, .int _), (6, .ref _)] rfl (by decide) dL_allocates_80 ?_
  refine r_iconst (0) (by decide) dL_allocates_82 ?_
  refine r_istore [(15, .int _), (14, .int _), (13, .int _), (12, .int _), (11, .int _), (10, .int _), (9, .int _), (8, .int _), (7, .int _), (0, .ref _), (1, .ref _), (2, .ref _), (3, .ref _), (4, .ref _), (5, .int _), (6, .ref _)] rfl (by decide) dL_allocates_83 ?_
  refine r_iconst (0) (by decide) dL_allocates_85 ?_
  refine r_istore [(16, .int _), (15, .int _), (14, .int _), (13, .int _), (12, .int _), (11, .int _), (10, .int _), (9, .int _), (8, .int _), (7, .int _), (0, .ref _), (1, .ref _), (2, .ref _), (3, .ref _), (4, .ref _), (5, .int _), (6, .ref _)] rfl (by decide) dL_allocates_86 ?_
  exact r_sub [0, 1, 2, 3, 4, 5, 6, 7, 8, 9, 10, 11, 12, 13, 14, 15, 16] rfl ((bl_L_allocates_88 X hst ad hk11 FU) _ _ _ _ _ _ _ _ _ _ _ _)
theorem bj_L_allocates_72 (X : Xt) (hst : X.1.stackTraces = false) (ad : Ad) {k11 : Wd → Int32 → Int32 → Int32 → Int32 → Option ((Int32 ⊕ String) × Wd)} (hk11 : ∀ (σ : Wd) (a9 : Int32) (a8 : Int32) (a7 : Int32) (a5 : Int32), Bk X (fun a => a = ad) cL_allocates 18 RL (some (.int)) 1 34 vI (0, 0) (0, 0) ad σ 11 [(9, .int a9), (8, .int a8), (7, .int a7), (0, .ref (ad 71 0)), (1, .ref (ad 72 0)), (2, .ref (ad 73 0)), (3, .ref (ad 75 0)), (4, .ref (ad 76 0)), (5, .int a5), (6, .ref (ad 77 0))] [] (k11 σ a9 a8 a7 a5)) (σ : Wd) (a12 : Int32) (a11 : Int32) (a10 : Int32) (a9 : Int32) (a8 : Int32) (a7 : Int32) (a5 : Int32) : Bk X (fun a => a = ad) cL_allocates 18 RL (some (.int)) 1 34 vI (0, 0) (0, 0) ad σ 72 [(12, .int a12), (11, .int a11), (10, .int a10), (9, .int a9), (8, .int a8), (7, .int a7), (0, .ref (ad 71 0)), (1, .ref (ad 72 0)), (2, .ref (ad 73 0)), (3, .ref (ad 75 0)), (4, .ref (ad 76 0)), (5, .int a5), (6, .ref (ad 77 0))] [] (j_L_allocates_72 k11 σ a12 a11 a10 a9 a8 a7 a5) := by
  unfold j_L_allocates_72
  refine r_iconst (1) (by decide) dL_allocates_72 ?_
  refine r_goto 77 dL_allocates_73 (by decide) ?_
  exact r_sub [0, 1, 2, 3, 4, 5, 6, 7, 8, 9, 10, 11, 12] rfl ((bj_L_allocates_77 X hst ad hk11) _ _ _ _ _ _ _ _ _)
theorem bj_L_allocates_76 (X : Xt) (hst : X.1.stackTraces = false) (ad : Ad) {k11 : Wd → Int32 → Int32 → Int32 → Int32 → Option ((Int32 ⊕ String) × Wd)} (hk11 : ∀ (σ : Wd) (a9 : Int32) (a8 : Int32) (a7 : Int32) (a5 : Int32), Bk X (fun a => a = ad) cL_allocates 18 RL (some (.int)) 1 34 vI (0, 0) (0, 0) ad σ 11 [(9, .int a9), (8, .int a8), (7, .int a7), (0, .ref (ad 71 0)), (1, .ref (ad 72 0)), (2, .ref (ad 73 0)), (3, .ref (ad 75 0)), (4, .ref (ad 76 0)), (5, .int a5), (6, .ref (ad 77 0))] [] (k11 σ a9 a8 a7 a5)) (σ : Wd) (a12 : Int32) (a11 : Int32) (a10 : Int32) (a9 : Int32) (a8 : Int32) (a7 : Int32) (a5 : Int32) : Bk X (fun a => a = ad) cL_allocates 18 RL (some (.int)) 1 34 vI (0, 0) (0, 0) ad σ 76 [(12, .int a12), (11, .int a11), (10, .int a10), (9, .int a9), (8, .int a8), (7, .int a7), (0, .ref (ad 71 0)), (1, .ref (ad 72 0)), (2, .ref (ad 73 0)), (3, .ref (ad 75 0)), (4, .ref (ad 76 0)), (5, .int a5), (6, .ref (ad 77 0))] [] (j_L_allocates_76 k11 σ a12 a11 a10 a9 a8 a7 a5) := by
  unfold j_L_allocates_76
  refine r_iconst (0) (by decide) dL_allocates_76 ?_
  exact r_sub [0, 1, 2, 3, 4, 5, 6, 7, 8, 9, 10, 11, 12] rfl ((bj_L_allocates_77 X hst ad hk11) _ _ _ _ _ _ _ _ _)
theorem bj_L_allocates_59 (X : Xt) (hst : X.1.stackTraces = false) (ad : Ad) {k11 : Wd → Int32 → Int32 → Int32 → Int32 → Option ((Int32 ⊕ String) × Wd)} (hk11 : ∀ (σ : Wd) (a9 : Int32) (a8 : Int32) (a7 : Int32) (a5 : Int32), Bk X (fun a => a = ad) cL_allocates 18 RL (some (.int)) 1 34 vI (0, 0) (0, 0) ad σ 11 [(9, .int a9), (8, .int a8), (7, .int a7), (0, .ref (ad 71 0)), (1, .ref (ad 72 0)), (2, .ref (ad 73 0)), (3, .ref (ad 75 0)), (4, .ref (ad 76 0)), (5, .int a5), (6, .ref (ad 77 0))] [] (k11 σ a9 a8 a7 a5)) (σ : Wd) (a12 : Int32) (a11 : Int32) (a10 : Int32) (a9 : Int32) (a8 : Int32) (a7 : Int32) (a5 : Int32) : Bk X (fun a => a = ad) cL_allocates 18 RL (some (.int)) 1 34 vI (0, 0) (0, 0) ad σ 59 [(12, .int a12), (11, .int a11), (10, .int a10), (9, .int a9), (8, .int a8), (7, .int a7), (0, .ref (ad 71 0)), (1, .ref (ad 72 0)), (2, .ref (ad 73 0)), (3, .ref (ad 75 0)), (4, .ref (ad 76 0)), (5, .int a5), (6, .ref (ad 77 0))] [] (j_L_allocates_59 k11 σ a12 a11 a10 a9 a8 a7 a5) := by
  unfold j_L_allocates_59
  refine r_iload 1 rfl dL_allocates_59 ?_
  refine r_iconst (4) (by decide) dL_allocates_61 ?_
  refine r_icmp_eq 72 dL_allocates_62 (by decide) ?_ ?_
  · exact r_sub [0, 1, 2, 3, 4, 5, 6, 7, 8, 9, 10, 11, 12] rfl ((bj_L_allocates_72 X hst ad hk11) _ _ _ _ _ _ _ _)
  · refine r_iload 1 rfl dL_allocates_65 ?_
    refine r_iload 0 rfl dL_allocates_67 ?_
    refine r_icmp_eq 76 dL_allocates_69 (by decide) ?_ ?_
    · exact r_sub [0, 1, 2, 3, 4, 5, 6, 7, 8, 9, 10, 11, 12] rfl ((bj_L_allocates_76 X hst ad hk11) _ _ _ _ _ _ _ _)
    · exact r_sub [0, 1, 2, 3, 4, 5, 6, 7, 8, 9, 10, 11, 12] rfl ((bj_L_allocates_72 X hst ad hk11) _ _ _ _ _ _ _ _)
theorem bl_L_allocates_11 (X : Xt) (hst : X.1.stackTraces = false) (ad : Ad) : ∀ (n : Nat) (σ : Wd) (a9 : Int32) (a8 : Int32) (a7 : Int32) (a5 : Int32), Bk X (fun a => a = ad) cL_allocates 18 RL (some (.int)) 1 34 vI (0, 0) (0, 0) ad σ 11 [(9, .int a9), (8, .int a8), (7, .int a7), (0, .ref (ad 71 0)), (1, .ref (ad 72 0)), (2, .ref (ad 73 0)), (3, .ref (ad 75 0)), (4, .ref (ad 76 0)), (5, .int a5), (6, .ref (ad 77 0))] [] (l_L_allocates_11 n σ a9 a8 a7 a5) := by
  intro n
  induction n with
  | zero => intros; exact r_none
  | succ n ih =>
  intro σ a9 a8 a7 a5
  rw [l_L_allocates_11]
  refine r_iload 0 rfl dL_allocates_11 ?_
  refine r_bipush (125) (by decide) dL_allocates_13 ?_
  refine r_icmp_ge 338 dL_allocates_15 (by decide) ?_ ?_
  · refine r_iload 2 rfl dL_allocates_338 ?_
    exact r_iret rfl rfl rfl dL_allocates_340
  · refine r_iload 0 rfl dL_allocates_18 ?_
    refine r_bipush (25) (by decide) dL_allocates_20 ?_
    refine r_idiv (by decide) dL_allocates_22 ?_
    refine r_istore [(10, .int _), (9, .int _), (8, .int _), (7, .int _), (0, .ref _), (1, .ref _), (2, .ref _), (3, .ref _), (4, .ref _), (5, .int _), (6, .ref _)] rfl (by decide) dL_allocates_23 ?_
    refine r_iload 1 rfl dL_allocates_25 ?_
    refine r_iconst (5) (by decide) dL_allocates_27 ?_
    refine r_idiv (by decide) dL_allocates_28 ?_
    refine r_iconst (5) (by decide) dL_allocates_29 ?_
    refine r_irem (by decide) dL_allocates_30 ?_
    refine r_bd ?_
    refine r_istore [(11, .int _), (10, .int _), (9, .int _), (8, .int _), (7, .int _), (0, .ref _), (1, .ref _), (2, .ref _), (3, .ref _), (4, .ref _), (5, .int _), (6, .ref _)] rfl (by decide) dL_allocates_31 ?_
    refine r_iload 2 rfl dL_allocates_33 ?_
    refine r_iconst (5) (by decide) dL_allocates_35 ?_
    refine r_irem (by decide) dL_allocates_36 ?_
    refine r_bd ?_
    refine r_istore [(12, .int _), (11, .int _), (10, .int _), (9, .int _), (8, .int _), (7, .int _), (0, .ref _), (1, .ref _), (2, .ref _), (3, .ref _), (4, .ref _), (5, .int _), (6, .ref _)] rfl (by decide) dL_allocates_37 ?_
    refine r_iload 2 rfl dL_allocates_39 ?_
    refine r_iconst (4) (by decide) dL_allocates_41 ?_
    refine r_icmp_eq 59 dL_allocates_42 (by decide) ?_ ?_
    · exact r_sub [0, 1, 2, 3, 4, 5, 6, 7, 8, 9, 10, 11, 12] rfl ((bj_L_allocates_59 X hst ad ih) _ _ _ _ _ _ _ _)
    · refine r_iload 2 rfl dL_allocates_45 ?_
      refine r_iload 1 rfl dL_allocates_47 ?_
      refine r_icmp_eq 76 dL_allocates_49 (by decide) ?_ ?_
      · exact r_sub [0, 1, 2, 3, 4, 5, 6, 7, 8, 9, 10, 11, 12] rfl ((bj_L_allocates_76 X hst ad ih) _ _ _ _ _ _ _ _)
      · refine r_iload 2 rfl dL_allocates_52 ?_
        refine r_iload 0 rfl dL_allocates_54 ?_
        refine r_icmp_eq 76 dL_allocates_56 (by decide) ?_ ?_
        · exact r_sub [0, 1, 2, 3, 4, 5, 6, 7, 8, 9, 10, 11, 12] rfl ((bj_L_allocates_76 X hst ad ih) _ _ _ _ _ _ _ _)
        · exact r_sub [0, 1, 2, 3, 4, 5, 6, 7, 8, 9, 10, 11, 12] rfl ((bj_L_allocates_59 X hst ad ih) _ _ _ _ _ _ _ _)
theorem nc_L_allocates (X : Xt) (hst : X.1.stackTraces = false) (ad : Ad) (σ : Wd) (p5 : Int32) : NC X (fun a => a = ad) yL_allocates cL_allocates 18 (some (.int)) 1 34 vI (0, 0) ad σ [.ref (ad 71 0), .ref (ad 72 0), .ref (ad 73 0), .ref (ad 75 0), .ref (ad 76 0), .int p5, .ref (ad 77 0)] (f_L_allocates σ p5) := by
  unfold f_L_allocates
  refine NC.intro RL rfl hst (by decide) (Nat.le_of_ble_eq_true rfl) (lv := [(0, .ref _), (1, .ref _), (2, .ref _), (3, .ref _), (4, .ref _), (5, .int _), (6, .ref _)]) rfl ?_
  refine r_sipush (1000) (by decide) dL_allocates_0 ?_
  refine r_istore [(7, .int _), (0, .ref _), (1, .ref _), (2, .ref _), (3, .ref _), (4, .ref _), (5, .int _), (6, .ref _)] rfl (by decide) dL_allocates_3 ?_
  refine r_iconst (-1) (by decide) dL_allocates_5 ?_
  refine r_istore [(8, .int _), (7, .int _), (0, .ref _), (1, .ref _), (2, .ref _), (3, .ref _), (4, .ref _), (5, .int _), (6, .ref _)] rfl (by decide) dL_allocates_6 ?_
  refine r_iconst (0) (by decide) dL_allocates_8 ?_
  refine r_istore [(9, .int _), (8, .int _), (7, .int _), (0, .ref _), (1, .ref _), (2, .ref _), (3, .ref _), (4, .ref _), (5, .int _), (6, .ref _)] rfl (by decide) dL_allocates_9 ?_
  exact r_sub [0, 1, 2, 3, 4, 5, 6, 7, 8, 9] rfl ((bl_L_allocates_11 X hst ad FU) _ _ _ _ _)
def l_L_place_5 : Nat → Wd → Int32 → Int32 → Int32 → Option ((Int32 ⊕ String) × Wd)
  | 0, _, _, _, _ => none
  | n + 1, σ, a4, a3, a2 =>
  gd (inb ((16 : Int32) * a2) 64) <|
  gd (inb ((12 : Int32) + (σ.1 71 0 ((16 : Int32) * a2).toNatClampNeg)) 16) <|
  if (σ.1 74 0 ((12 : Int32) + (σ.1 71 0 ((16 : Int32) * a2).toNatClampNeg)).toNatClampNeg) ≤ a4 then
    some (.inl a3, σ)
  else
    gd (inb (((4 : Int32) * (σ.1 71 0 ((16 : Int32) * a2).toNatClampNeg)) + a4) 16) <|
    if (σ.1 74 0 (((4 : Int32) * (σ.1 71 0 ((16 : Int32) * a2).toNatClampNeg)) + a4).toNatClampNeg) = a2 then
      (l_L_place_5 n) σ (a4 + 1) a4 a2
    else
      (l_L_place_5 n) σ (a4 + 1) a3 a2
def f_L_place (σ : Wd) (p2 : Int32) : Option ((Int32 ⊕ String) × Wd) :=
  l_L_place_5 FU σ (0 : Int32) (0 : Int32) p2
theorem bl_L_place_5 (X : Xt) (hst : X.1.stackTraces = false) (ad : Ad) : ∀ (n : Nat) (σ : Wd) (a4 : Int32) (a3 : Int32) (a2 : Int32), Bk X (fun a => a = ad) cL_place 5 RL (some (.int)) 0 0 vI (0, 0) (0, 0) ad σ 5 [(4, .int a4), (3, .int a3), (0, .ref (ad 71 0)), (1, .ref (ad 74 0)), (2, .int a2)] [] (l_L_place_5 n σ a4 a3 a2) := by
  intro n
  induction n with
  | zero => intros; exact r_none
  | succ n ih =>
  intro σ a4 a3 a2
  rw [l_L_place_5]
  refine r_iload 0 rfl dL_place_5 ?_
  refine r_aload_n 3 rfl dL_place_7 ?_
  refine r_bipush (12) (by decide) dL_place_8 ?_
  refine r_aload_n 2 rfl dL_place_10 ?_
  refine r_bipush (16) (by decide) dL_place_11 ?_
  refine r_iload_n 4 rfl dL_place_13 ?_
  refine r_imul dL_place_14 ?_
  refine r_gd (fun h1 => ?_)
  refine r_iaload (lvs_71 _) (cell_71 _ _ _ _) h1 dL_place_15 ?_
  refine r_iadd dL_place_16 ?_
  refine r_gd (fun h2 => ?_)
  refine r_iaload (lvs_74 _) (cell_74 _ _ _ _) h2 dL_place_17 ?_
  refine r_icmp_ge 51 dL_place_18 (by decide) ?_ ?_
  · refine r_iload_n 1 rfl dL_place_51 ?_
    exact r_iret rfl rfl rfl dL_place_52
  · refine r_aload_n 3 rfl dL_place_21 ?_
    refine r_iconst (4) (by decide) dL_place_22 ?_
    refine r_aload_n 2 rfl dL_place_23 ?_
    refine r_bipush (16) (by decide) dL_place_24 ?_
    refine r_iload_n 4 rfl dL_place_26 ?_
    refine r_imul dL_place_27 ?_
    refine r_iaload (lvs_71 _) (cell_71 _ _ _ _) h1 dL_place_28 ?_
    refine r_imul dL_place_29 ?_
    refine r_iload 0 rfl dL_place_30 ?_
    refine r_iadd dL_place_32 ?_
    refine r_gd (fun h3 => ?_)
    refine r_iaload (lvs_74 _) (cell_74 _ _ _ _) h3 dL_place_33 ?_
    refine r_iload_n 4 rfl dL_place_34 ?_
    refine r_icmp_ne 43 dL_place_35 (by decide) ?_ ?_
    · refine r_iload 0 rfl dL_place_38 ?_
      refine r_goto 44 dL_place_40 (by decide) ?_
      refine r_istore_n [(3, .int _), (4, .int _), (0, .ref _), (1, .ref _), (2, .int _)] rfl (by decide) dL_place_44 ?_
      refine r_iinc (1) [(4, .int _), (3, .int _), (0, .ref _), (1, .ref _), (2, .int _)] 1 rfl (by decide) rfl (by decide) dL_place_45 ?_
      refine r_goto 5 dL_place_48 (by decide) ?_
      exact r_sub [0, 1, 2, 3, 4] rfl (ih _ _ _ _)
    · refine r_iload_n 1 rfl dL_place_43 ?_
      refine r_istore_n [(3, .int _), (4, .int _), (0, .ref _), (1, .ref _), (2, .int _)] rfl (by decide) dL_place_44 ?_
      refine r_iinc (1) [(4, .int _), (3, .int _), (0, .ref _), (1, .ref _), (2, .int _)] 1 rfl (by decide) rfl (by decide) dL_place_45 ?_
      refine r_goto 5 dL_place_48 (by decide) ?_
      exact r_sub [0, 1, 2, 3, 4] rfl (ih _ _ _ _)
theorem nc_L_place (X : Xt) (hst : X.1.stackTraces = false) (ad : Ad) (σ : Wd) (p2 : Int32) : NC X (fun a => a = ad) yL_place cL_place 5 (some (.int)) 0 0 vI (0, 0) ad σ [.ref (ad 71 0), .ref (ad 74 0), .int p2] (f_L_place σ p2) := by
  unfold f_L_place
  refine NC.intro RL rfl hst (by decide) (Nat.le_of_ble_eq_true rfl) (lv := [(0, .ref _), (1, .ref _), (2, .int _)]) rfl ?_
  refine r_iconst (0) (by decide) dL_place_0 ?_
  refine r_istore_n [(3, .int _), (0, .ref _), (1, .ref _), (2, .int _)] rfl (by decide) dL_place_1 ?_
  refine r_iconst (0) (by decide) dL_place_2 ?_
  refine r_istore [(4, .int _), (3, .int _), (0, .ref _), (1, .ref _), (2, .int _)] rfl (by decide) dL_place_3 ?_
  exact r_sub [0, 1, 2, 3, 4] rfl ((bl_L_place_5 X hst ad FU) _ _ _ _)
def l_L_runs_289 (k122 : Wd → Int32 → Int32 → Option ((Int32 ⊕ String) × Wd)) : Nat → Wd → Int32 → Int32 → Int32 → Int32 → Option ((Int32 ⊕ String) × Wd)
  | 0, _, _, _, _, _ => none
  | n + 1, σ, a9, a6, a5, a4 =>
  if (9 : Int32) ≤ a9 then
    k122 σ (a5 + 1) a4
  else
    gd (inb (a6 + a9) 64) <|
    gd (inb (((6 : Int32) * a5) + (2 : Int32)) 18) <|
    bd (wr σ 71 0 (a6 + a9).toNatClampNeg ((σ.1 71 0 (a6 + a9).toNatClampNeg) + (σ.1 75 0 (((6 : Int32) * a5) + (2 : Int32)).toNatClampNeg))) fun σ9 =>
    (l_L_runs_289 k122 n) σ9 (a9 + 1) a6 a5 a4
def l_L_runs_237 (k122 : Wd → Int32 → Int32 → Option ((Int32 ⊕ String) × Wd)) : Nat → Wd → Int32 → Int32 → Int32 → Int32 → Int32 → Option ((Int32 ⊕ String) × Wd)
  | 0, _, _, _, _, _, _ => none
  | n + 1, σ, a9, a8, a6, a5, a4 =>
  if (6 : Int32) ≤ a9 then
    gd (inb (a6 + (1 : Int32)) 64) <|
    bd (wr σ 71 0 (a6 + (1 : Int32)).toNatClampNeg a8) fun σ8 =>
    l_L_runs_289 k122 FU σ8 (6 : Int32) a6 a5 a4
  else
    gd (inb (a6 + a9) 64) <|
    gd (inb (a6 + (1 : Int32)) 64) <|
    bd (wr σ 71 0 (a6 + a9).toNatClampNeg ((σ.1 71 0 (a6 + a9).toNatClampNeg) - ((a8 / (500 : Int32)) - ((σ.1 71 0 (a6 + (1 : Int32)).toNatClampNeg) / (500 : Int32))))) fun σ10 =>
    (l_L_runs_237 k122 n) σ10 (a9 + 1) a8 a6 a5 a4
def l_L_runs_122 : Nat → Wd → Int32 → Int32 → Option ((Int32 ⊕ String) × Wd)
  | 0, _, _, _ => none
  | n + 1, σ, a5, a4 =>
  if (3 : Int32) ≤ a5 then
    some (.inl a4, σ)
  else
    gd (inb a5 3) <|
    if (σ.1 77 0 a5.toNatClampNeg) < 0 then
      (l_L_runs_122 n) σ (a5 + 1) a4
    else
      bd (((16 : Int32) * (σ.1 77 0 a5.toNatClampNeg))) fun x1 =>
      gd (inb (((6 : Int32) * a5) + (1 : Int32)) 18) <|
      bd ((σ.1 75 0 (((6 : Int32) * a5) + (1 : Int32)).toNatClampNeg)) fun x2 =>
      gd (inb ((12 : Int32) + x2) 16) <|
      gd (inb (((4 : Int32) * x2) + (σ.1 74 0 ((12 : Int32) + x2).toNatClampNeg)) 16) <|
      bd (wr σ 74 0 (((4 : Int32) * x2) + (σ.1 74 0 ((12 : Int32) + x2).toNatClampNeg)).toNatClampNeg (σ.1 77 0 a5.toNatClampNeg)) fun σ3 =>
      bd (wr σ3 74 0 ((12 : Int32) + x2).toNatClampNeg ((σ3.1 74 0 ((12 : Int32) + x2).toNatClampNeg) + (1 : Int32))) fun σ4 =>
      gd (inb x1 64) <|
      bd (wr σ4 71 0 x1.toNatClampNeg x2) fun σ5 =>
      gd (inb (x1 + (1 : Int32)) 64) <|
      gd (inb (((6 : Int32) * a5) + (2 : Int32)) 18) <|
      bd (((σ5.1 71 0 (x1 + (1 : Int32)).toNatClampNeg) + (σ5.1 75 0 (((6 : Int32) * a5) + (2 : Int32)).toNatClampNeg))) fun x6 =>
      gd (inb (x1 + (2 : Int32)) 64) <|
      bd (wr σ5 71 0 (x1 + (2 : Int32)).toNatClampNeg ((σ5.1 71 0 (x1 + (2 : Int32)).toNatClampNeg) - ((x6 / (300 : Int32)) - ((σ5.1 71 0 (x1 + (1 : Int32)).toNatClampNeg) / (300 : Int32))))) fun σ7 =>
      l_L_runs_237 (l_L_runs_122 n) FU σ7 (3 : Int32) x6 x1 a5 a4
def l_L_runs_62 (k6 : Wd → Int32 → Int32 → Option ((Int32 ⊕ String) × Wd)) : Nat → Wd → Int32 → Int32 → Int32 → Int32 → Option ((Int32 ⊕ String) × Wd)
  | 0, _, _, _, _, _ => none
  | n + 1, σ, a8, a4, a6, a5 =>
  gd (inb ((12 : Int32) + a6) 16) <|
  if ((σ.1 74 0 ((12 : Int32) + a6).toNatClampNeg) - (1 : Int32)) ≤ a8 then
    bd (wr σ 74 0 ((12 : Int32) + a6).toNatClampNeg ((σ.1 74 0 ((12 : Int32) + a6).toNatClampNeg) - (1 : Int32))) fun σ15 =>
    k6 σ15 (a5 + 1) a4
  else
    gd (inb ((((4 : Int32) * a6) + a8) + (1 : Int32)) 16) <|
    gd (inb (((4 : Int32) * a6) + a8) 16) <|
    bd (wr σ 74 0 (((4 : Int32) * a6) + a8).toNatClampNeg (σ.1 74 0 ((((4 : Int32) * a6) + a8) + (1 : Int32)).toNatClampNeg)) fun σ16 =>
    (l_L_runs_62 k6 n) σ16 (a8 + 1) a4 a6 a5
def l_L_runs_6 : Nat → Wd → Int32 → Int32 → Option ((Int32 ⊕ String) × Wd)
  | 0, _, _, _ => none
  | n + 1, σ, a5, a4 =>
  if (3 : Int32) ≤ a5 then
    l_L_runs_122 FU σ (0 : Int32) a4
  else
    gd (inb a5 3) <|
    if (σ.1 77 0 a5.toNatClampNeg) < 0 then
      (l_L_runs_6 n) σ (a5 + 1) a4
    else
      gd (inb ((16 : Int32) * (σ.1 77 0 a5.toNatClampNeg)) 64) <|
      bd ((σ.1 71 0 ((16 : Int32) * (σ.1 77 0 a5.toNatClampNeg)).toNatClampNeg)) fun x11 =>
      bx (f_L_place σ (σ.1 77 0 a5.toNatClampNeg)) fun v12 σ13 =>
      gd (inb ((12 : Int32) + x11) 16) <|
      bd ((a4 + (((σ13.1 74 0 ((12 : Int32) + x11).toNatClampNeg) - (1 : Int32)) - v12))) fun x14 =>
      l_L_runs_62 (l_L_runs_6 n) FU σ13 v12 x14 x11 a5
def f_L_runs (σ : Wd) : Option ((Int32 ⊕ String) × Wd) :=
  l_L_runs_6 FU σ (0 : Int32) (0 : Int32)
theorem bl_L_runs_289 (X : Xt) (hst : X.1.stackTraces = false) (ad : Ad) {k122 : Wd → Int32 → Int32 → Option ((Int32 ⊕ String) × Wd)} (hk122 : ∀ (σ : Wd) (a5 : Int32) (a4 : Int32), Bk X (fun a => a = ad) cL_runs 10 RL (some (.int)) 1 24 vI (0, 0) (0, 0) ad σ 122 [(5, .int a5), (4, .int a4), (0, .ref (ad 71 0)), (1, .ref (ad 74 0)), (2, .ref (ad 75 0)), (3, .ref (ad 77 0))] [] (k122 σ a5 a4)) : ∀ (n : Nat) (σ : Wd) (a9 : Int32) (a6 : Int32) (a5 : Int32) (a4 : Int32), Bk X (fun a => a = ad) cL_runs 10 RL (some (.int)) 1 24 vI (0, 0) (0, 0) ad σ 289 [(9, .int a9), (6, .int a6), (5, .int a5), (4, .int a4), (0, .ref (ad 71 0)), (1, .ref (ad 74 0)), (2, .ref (ad 75 0)), (3, .ref (ad 77 0))] [] (l_L_runs_289 k122 n σ a9 a6 a5 a4) := by
  intro n
  induction n with
  | zero => intros; exact r_none
  | succ n ih =>
  intro σ a9 a6 a5 a4
  rw [l_L_runs_289]
  refine r_iload 0 rfl dL_runs_289 ?_
  refine r_bipush (9) (by decide) dL_runs_291 ?_
  refine r_icmp_ge 321 dL_runs_293 (by decide) ?_ ?_
  · refine r_iinc (1) [(5, .int _), (9, .int _), (6, .int _), (4, .int _), (0, .ref _), (1, .ref _), (2, .ref _), (3, .ref _)] 2 rfl (by decide) rfl (by decide) dL_runs_321 ?_
    refine r_goto 122 dL_runs_324 (by decide) ?_
    exact r_sub [0, 3, 4, 5, 6, 7] rfl (hk122 _ _ _)
  · refine r_aload_n 4 rfl dL_runs_296 ?_
    refine r_iload 1 rfl dL_runs_297 ?_
    refine r_iload 0 rfl dL_runs_299 ?_
    refine r_iadd dL_runs_301 ?_
    refine r_dup2 rfl rfl dL_runs_302 ?_
    refine r_gd (fun h10 => ?_)
    refine r_iaload (lvs_71 _) (cell_71 _ _ _ _) h10 dL_runs_303 ?_
    refine r_aload_n 6 rfl dL_runs_304 ?_
    refine r_bipush (6) (by decide) dL_runs_305 ?_
    refine r_iload 2 rfl dL_runs_307 ?_
    refine r_imul dL_runs_309 ?_
    refine r_iconst (2) (by decide) dL_runs_310 ?_
    refine r_iadd dL_runs_311 ?_
    refine r_gd (fun h11 => ?_)
    refine r_iaload (lvs_75 _) (cell_75 _ _ _ _) h11 dL_runs_312 ?_
    refine r_iadd dL_runs_313 ?_
    refine r_bd ?_
    refine r_iastore (lvs_71 _) (ia_71 _ _ _) h10 dL_runs_314 ?_
    refine r_iinc (1) [(9, .int _), (6, .int _), (5, .int _), (4, .int _), (0, .ref _), (1, .ref _), (2, .ref _), (3, .ref _)] 0 rfl (by decide) rfl (by decide) dL_runs_315 ?_
    refine r_goto 289 dL_runs_318 (by decide) ?_
    exact r_sub [0, 1, 2, 3, 4, 5, 6, 7] rfl (ih _ _ _ _ _)
theorem bl_L_runs_237 (X : Xt) (hst : X.1.stackTraces = false) (ad : Ad) {k122 : Wd → Int32 → Int32 → Option ((Int32 ⊕ String) × Wd)} (hk122 : ∀ (σ : Wd) (a5 : Int32) (a4 : Int32), Bk X (fun a => a = ad) cL_runs 10 RL (some (.int)) 1 24 vI (0, 0) (0, 0) ad σ 122 [(5, .int a5), (4, .int a4), (0, .ref (ad 71 0)), (1, .ref (ad 74 0)), (2, .ref (ad 75 0)), (3, .ref (ad 77 0))] [] (k122 σ a5 a4)) : ∀ (n : Nat) (σ : Wd) (a9 : Int32) (a8 : Int32) (a6 : Int32) (a5 : Int32) (a4 : Int32), Bk X (fun a => a = ad) cL_runs 10 RL (some (.int)) 1 24 vI (0, 0) (0, 0) ad σ 237 [(9, .int a9), (8, .int a8), (6, .int a6), (5, .int a5), (4, .int a4), (0, .ref (ad 71 0)), (1, .ref (ad 74 0)), (2, .ref (ad 75 0)), (3, .ref (ad 77 0))] [] (l_L_runs_237 k122 n σ a9 a8 a6 a5 a4) := by
  intro n
  induction n with
  | zero => intros; exact r_none
  | succ n ih =>
  intro σ a9 a8 a6 a5 a4
  rw [l_L_runs_237]
  refine r_iload 0 rfl dL_runs_237 ?_
  refine r_bipush (6) (by decide) dL_runs_239 ?_
  refine r_icmp_ge 277 dL_runs_241 (by decide) ?_ ?_
  · refine r_aload_n 5 rfl dL_runs_277 ?_
    refine r_iload 2 rfl dL_runs_278 ?_
    refine r_iconst (1) (by decide) dL_runs_280 ?_
    refine r_iadd dL_runs_281 ?_
    refine r_iload 1 rfl dL_runs_282 ?_
    refine r_gd (fun h9 => ?_)
    refine r_bd ?_
    refine r_iastore (lvs_71 _) (ia_71 _ _ _) h9 dL_runs_284 ?_
    refine r_bipush (6) (by decide) dL_runs_285 ?_
    refine r_istore [(9, .int _), (8, .int _), (6, .int _), (5, .int _), (4, .int _), (0, .ref _), (1, .ref _), (2, .ref _), (3, .ref _)] rfl (by decide) dL_runs_287 ?_
    exact r_sub [0, 2, 3, 4, 5, 6, 7, 8] rfl ((bl_L_runs_289 X hst ad hk122 FU) _ _ _ _ _)
  · refine r_aload_n 5 rfl dL_runs_244 ?_
    refine r_iload 2 rfl dL_runs_245 ?_
    refine r_iload 0 rfl dL_runs_247 ?_
    refine r_iadd dL_runs_249 ?_
    refine r_dup2 rfl rfl dL_runs_250 ?_
    refine r_gd (fun h12 => ?_)
    refine r_iaload (lvs_71 _) (cell_71 _ _ _ _) h12 dL_runs_251 ?_
    refine r_iload 1 rfl dL_runs_252 ?_
    refine r_sipush (500) (by decide) dL_runs_254 ?_
    refine r_idiv (by decide) dL_runs_257 ?_
    refine r_aload_n 5 rfl dL_runs_258 ?_
    refine r_iload 2 rfl dL_runs_259 ?_
    refine r_iconst (1) (by decide) dL_runs_261 ?_
    refine r_iadd dL_runs_262 ?_
    refine r_gd (fun h13 => ?_)
    refine r_iaload (lvs_71 _) (cell_71 _ _ _ _) h13 dL_runs_263 ?_
    refine r_sipush (500) (by decide) dL_runs_264 ?_
    refine r_idiv (by decide) dL_runs_267 ?_
    refine r_isub dL_runs_268 ?_
    refine r_isub dL_runs_269 ?_
    refine r_bd ?_
    refine r_iastore (lvs_71 _) (ia_71 _ _ _) h12 dL_runs_270 ?_
    refine r_iinc (1) [(9, .int _), (8, .int _), (6, .int _), (5, .int _), (4, .int _), (0, .ref _), (1, .ref _), (2, .ref _), (3, .ref _)] 0 rfl (by decide) rfl (by decide) dL_runs_271 ?_
    refine r_goto 237 dL_runs_274 (by decide) ?_
    exact r_sub [0, 1, 2, 3, 4, 5, 6, 7, 8] rfl (ih _ _ _ _ _ _)
theorem bl_L_runs_122 (X : Xt) (hst : X.1.stackTraces = false) (ad : Ad) : ∀ (n : Nat) (σ : Wd) (a5 : Int32) (a4 : Int32), Bk X (fun a => a = ad) cL_runs 10 RL (some (.int)) 1 24 vI (0, 0) (0, 0) ad σ 122 [(5, .int a5), (4, .int a4), (0, .ref (ad 71 0)), (1, .ref (ad 74 0)), (2, .ref (ad 75 0)), (3, .ref (ad 77 0))] [] (l_L_runs_122 n σ a5 a4) := by
  intro n
  induction n with
  | zero => intros; exact r_none
  | succ n ih =>
  intro σ a5 a4
  rw [l_L_runs_122]
  refine r_iload 0 rfl dL_runs_122 ?_
  refine r_iconst (3) (by decide) dL_runs_124 ?_
  refine r_icmp_ge 327 dL_runs_125 (by decide) ?_ ?_
  · refine r_iload 1 rfl dL_runs_327 ?_
    exact r_iret rfl rfl rfl dL_runs_329
  · refine r_aload_n 5 rfl dL_runs_128 ?_
    refine r_iload 0 rfl dL_runs_129 ?_
    refine r_gd (fun h1 => ?_)
    refine r_iaload (lvs_77 _) (cell_77 _ _ _ _) h1 dL_runs_131 ?_
    refine r_if_lt 321 dL_runs_132 (by decide) ?_ ?_
    · refine r_iinc (1) [(5, .int _), (4, .int _), (0, .ref _), (1, .ref _), (2, .ref _), (3, .ref _)] 0 rfl (by decide) rfl (by decide) dL_runs_321 ?_
      refine r_goto 122 dL_runs_324 (by decide) ?_
      exact r_sub [0, 1, 2, 3, 4, 5] rfl (ih _ _ _)
    · refine r_bipush (16) (by decide) dL_runs_135 ?_
      refine r_aload_n 5 rfl dL_runs_137 ?_
      refine r_iload 0 rfl dL_runs_138 ?_
      refine r_iaload (lvs_77 _) (cell_77 _ _ _ _) h1 dL_runs_140 ?_
      refine r_imul dL_runs_141 ?_
      refine r_bd ?_
      refine r_istore [(6, .int _), (5, .int _), (4, .int _), (0, .ref _), (1, .ref _), (2, .ref _), (3, .ref _)] rfl (by decide) dL_runs_142 ?_
      refine r_aload_n 5 rfl dL_runs_144 ?_
      refine r_bipush (6) (by decide) dL_runs_145 ?_
      refine r_iload 1 rfl dL_runs_147 ?_
      refine r_imul dL_runs_149 ?_
      refine r_iconst (1) (by decide) dL_runs_150 ?_
      refine r_iadd dL_runs_151 ?_
      refine r_gd (fun h2 => ?_)
      refine r_iaload (lvs_75 _) (cell_75 _ _ _ _) h2 dL_runs_152 ?_
      refine r_bd ?_
      refine r_istore [(7, .int _), (6, .int _), (5, .int _), (4, .int _), (0, .ref _), (1, .ref _), (2, .ref _), (3, .ref _)] rfl (by decide) dL_runs_153 ?_
      refine r_aload_n 5 rfl dL_runs_155 ?_
      refine r_iconst (4) (by decide) dL_runs_156 ?_
      refine r_iload 0 rfl dL_runs_157 ?_
      refine r_imul dL_runs_159 ?_
      refine r_aload_n 5 rfl dL_runs_160 ?_
      refine r_bipush (12) (by decide) dL_runs_161 ?_
      refine r_iload 0 rfl dL_runs_163 ?_
      refine r_iadd dL_runs_165 ?_
      refine r_gd (fun h3 => ?_)
      refine r_iaload (lvs_74 _) (cell_74 _ _ _ _) h3 dL_runs_166 ?_
      refine r_iadd dL_runs_167 ?_
      refine r_aload_n 7 rfl dL_runs_168 ?_
      refine r_iload 2 rfl dL_runs_169 ?_
      refine r_iaload (lvs_77 _) (cell_77 _ _ _ _) h1 dL_runs_171 ?_
      refine r_gd (fun h4 => ?_)
      refine r_bd ?_
      refine r_iastore (lvs_74 _) (ia_74 _ _ _) h4 dL_runs_172 ?_
      refine r_aload_n 5 rfl dL_runs_173 ?_
      refine r_bipush (12) (by decide) dL_runs_174 ?_
      refine r_iload 0 rfl dL_runs_176 ?_
      refine r_iadd dL_runs_178 ?_
      refine r_dup2 rfl rfl dL_runs_179 ?_
      refine r_iaload (lvs_74 _) (cell_74 _ _ _ _) h3 dL_runs_180 ?_
      refine r_iconst (1) (by decide) dL_runs_181 ?_
      refine r_iadd dL_runs_182 ?_
      refine r_bd ?_
      refine r_iastore (lvs_74 _) (ia_74 _ _ _) h3 dL_runs_183 ?_
      refine r_aload_n 4 rfl dL_runs_184 ?_
      refine r_iload 1 rfl dL_runs_185 ?_
      refine r_iload 0 rfl dL_runs_187 ?_
      refine r_gd (fun h5 => ?_)
      refine r_bd ?_
      refine r_iastore (lvs_71 _) (ia_71 _ _ _) h5 dL_runs_189 ?_
      refine r_aload_n 4 rfl dL_runs_190 ?_
      refine r_iload 1 rfl dL_runs_191 ?_
      refine r_iconst (1) (by decide) dL_runs_193 ?_
      refine r_iadd dL_runs_194 ?_
      refine r_gd (fun h6 => ?_)
      refine r_iaload (lvs_71 _) (cell_71 _ _ _ _) h6 dL_runs_195 ?_
      refine r_aload_n 6 rfl dL_runs_196 ?_
      refine r_bipush (6) (by decide) dL_runs_197 ?_
      refine r_iload 2 rfl dL_runs_199 ?_
      refine r_imul dL_runs_201 ?_
      refine r_iconst (2) (by decide) dL_runs_202 ?_
      refine r_iadd dL_runs_203 ?_
      refine r_gd (fun h7 => ?_)
      refine r_iaload (lvs_75 _) (cell_75 _ _ _ _) h7 dL_runs_204 ?_
      refine r_iadd dL_runs_205 ?_
      refine r_bd ?_
      refine r_istore [(8, .int _), (7, .int _), (6, .int _), (5, .int _), (4, .int _), (0, .ref _), (1, .ref _), (2, .ref _), (3, .ref _)] rfl (by decide) dL_runs_206 ?_
      refine r_aload_n 5 rfl dL_runs_208 ?_
      refine r_iload 2 rfl dL_runs_209 ?_
      refine r_iconst (2) (by decide) dL_runs_211 ?_
      refine r_iadd dL_runs_212 ?_
      refine r_dup2 rfl rfl dL_runs_213 ?_
      refine r_gd (fun h8 => ?_)
      refine r_iaload (lvs_71 _) (cell_71 _ _ _ _) h8 dL_runs_214 ?_
      refine r_iload 0 rfl dL_runs_215 ?_
      refine r_sipush (300) (by decide) dL_runs_217 ?_
      refine r_idiv (by decide) dL_runs_220 ?_
      refine r_aload_n 5 rfl dL_runs_221 ?_
      refine r_iload 2 rfl dL_runs_222 ?_
      refine r_iconst (1) (by decide) dL_runs_224 ?_
      refine r_iadd dL_runs_225 ?_
      refine r_iaload (lvs_71 _) (cell_71 _ _ _ _) h6 dL_runs_226 ?_
      refine r_sipush (300) (by decide) dL_runs_227 ?_
      refine r_idiv (by decide) dL_runs_230 ?_
      refine r_isub dL_runs_231 ?_
      refine r_isub dL_runs_232 ?_
      refine r_bd ?_
      refine r_iastore (lvs_71 _) (ia_71 _ _ _) h8 dL_runs_233 ?_
      refine r_iconst (3) (by decide) dL_runs_234 ?_
      refine r_istore [(9, .int _), (8, .int _), (7, .int _), (6, .int _), (5, .int _), (4, .int _), (0, .ref _), (1, .ref _), (2, .ref _), (3, .ref _)] rfl (by decide) dL_runs_235 ?_
      exact r_sub [0, 1, 3, 4, 5, 6, 7, 8, 9] rfl ((bl_L_runs_237 X hst ad ih FU) _ _ _ _ _ _)
theorem bl_L_runs_62 (X : Xt) (hst : X.1.stackTraces = false) (ad : Ad) {k6 : Wd → Int32 → Int32 → Option ((Int32 ⊕ String) × Wd)} (hk6 : ∀ (σ : Wd) (a5 : Int32) (a4 : Int32), Bk X (fun a => a = ad) cL_runs 10 RL (some (.int)) 1 24 vI (0, 0) (0, 0) ad σ 6 [(5, .int a5), (4, .int a4), (0, .ref (ad 71 0)), (1, .ref (ad 74 0)), (2, .ref (ad 75 0)), (3, .ref (ad 77 0))] [] (k6 σ a5 a4)) : ∀ (n : Nat) (σ : Wd) (a8 : Int32) (a4 : Int32) (a6 : Int32) (a5 : Int32), Bk X (fun a => a = ad) cL_runs 10 RL (some (.int)) 1 24 vI (0, 0) (0, 0) ad σ 62 [(8, .int a8), (4, .int a4), (6, .int a6), (5, .int a5), (0, .ref (ad 71 0)), (1, .ref (ad 74 0)), (2, .ref (ad 75 0)), (3, .ref (ad 77 0))] [] (l_L_runs_62 k6 n σ a8 a4 a6 a5) := by
  intro n
  induction n with
  | zero => intros; exact r_none
  | succ n ih =>
  intro σ a8 a4 a6 a5
  rw [l_L_runs_62]
  refine r_iload 0 rfl dL_runs_62 ?_
  refine r_aload_n 5 rfl dL_runs_64 ?_
  refine r_bipush (12) (by decide) dL_runs_65 ?_
  refine r_iload 2 rfl dL_runs_67 ?_
  refine r_iadd dL_runs_69 ?_
  refine r_gd (fun h17 => ?_)
  refine r_iaload (lvs_74 _) (cell_74 _ _ _ _) h17 dL_runs_70 ?_
  refine r_iconst (1) (by decide) dL_runs_71 ?_
  refine r_isub dL_runs_72 ?_
  refine r_icmp_ge 102 dL_runs_73 (by decide) ?_ ?_
  · refine r_aload_n 5 rfl dL_runs_102 ?_
    refine r_bipush (12) (by decide) dL_runs_103 ?_
    refine r_iload 2 rfl dL_runs_105 ?_
    refine r_iadd dL_runs_107 ?_
    refine r_dup2 rfl rfl dL_runs_108 ?_
    refine r_iaload (lvs_74 _) (cell_74 _ _ _ _) h17 dL_runs_109 ?_
    refine r_iconst (1) (by decide) dL_runs_110 ?_
    refine r_isub dL_runs_111 ?_
    refine r_bd ?_
    refine r_iastore (lvs_74 _) (ia_74 _ _ _) h17 dL_runs_112 ?_
    refine r_iinc (1) [(5, .int _), (8, .int _), (4, .int _), (6, .int _), (0, .ref _), (1, .ref _), (2, .ref _), (3, .ref _)] 3 rfl (by decide) rfl (by decide) dL_runs_113 ?_
    refine r_goto 6 dL_runs_116 (by decide) ?_
    exact r_sub [0, 2, 4, 5, 6, 7] rfl (hk6 _ _ _)
  · refine r_aload_n 5 rfl dL_runs_76 ?_
    refine r_iconst (4) (by decide) dL_runs_77 ?_
    refine r_iload 2 rfl dL_runs_78 ?_
    refine r_imul dL_runs_80 ?_
    refine r_iload 0 rfl dL_runs_81 ?_
    refine r_iadd dL_runs_83 ?_
    refine r_aload_n 5 rfl dL_runs_84 ?_
    refine r_iconst (4) (by decide) dL_runs_85 ?_
    refine r_iload 2 rfl dL_runs_86 ?_
    refine r_imul dL_runs_88 ?_
    refine r_iload 0 rfl dL_runs_89 ?_
    refine r_iadd dL_runs_91 ?_
    refine r_iconst (1) (by decide) dL_runs_92 ?_
    refine r_iadd dL_runs_93 ?_
    refine r_gd (fun h18 => ?_)
    refine r_iaload (lvs_74 _) (cell_74 _ _ _ _) h18 dL_runs_94 ?_
    refine r_gd (fun h19 => ?_)
    refine r_bd ?_
    refine r_iastore (lvs_74 _) (ia_74 _ _ _) h19 dL_runs_95 ?_
    refine r_iinc (1) [(8, .int _), (4, .int _), (6, .int _), (5, .int _), (0, .ref _), (1, .ref _), (2, .ref _), (3, .ref _)] 0 rfl (by decide) rfl (by decide) dL_runs_96 ?_
    refine r_goto 62 dL_runs_99 (by decide) ?_
    exact r_sub [0, 1, 2, 3, 4, 5, 6, 7] rfl (ih _ _ _ _ _)
theorem bl_L_runs_6 (X : Xt) (hst : X.1.stackTraces = false) (ad : Ad) : ∀ (n : Nat) (σ : Wd) (a5 : Int32) (a4 : Int32), Bk X (fun a => a = ad) cL_runs 10 RL (some (.int)) 1 24 vI (0, 0) (0, 0) ad σ 6 [(5, .int a5), (4, .int a4), (0, .ref (ad 71 0)), (1, .ref (ad 74 0)), (2, .ref (ad 75 0)), (3, .ref (ad 77 0))] [] (l_L_runs_6 n σ a5 a4) := by
  intro n
  induction n with
  | zero => intros; exact r_none
  | succ n ih =>
  intro σ a5 a4
  rw [l_L_runs_6]
  refine r_iload 0 rfl dL_runs_6 ?_
  refine r_iconst (3) (by decide) dL_runs_8 ?_
  refine r_icmp_ge 119 dL_runs_9 (by decide) ?_ ?_
  · refine r_iconst (0) (by decide) dL_runs_119 ?_
    refine r_istore [(5, .int _), (4, .int _), (0, .ref _), (1, .ref _), (2, .ref _), (3, .ref _)] rfl (by decide) dL_runs_120 ?_
    exact r_sub [0, 1, 2, 3, 4, 5] rfl ((bl_L_runs_122 X hst ad FU) _ _ _)
  · refine r_aload_n 5 rfl dL_runs_12 ?_
    refine r_iload 0 rfl dL_runs_13 ?_
    refine r_gd (fun h14 => ?_)
    refine r_iaload (lvs_77 _) (cell_77 _ _ _ _) h14 dL_runs_15 ?_
    refine r_if_lt 113 dL_runs_16 (by decide) ?_ ?_
    · refine r_iinc (1) [(5, .int _), (4, .int _), (0, .ref _), (1, .ref _), (2, .ref _), (3, .ref _)] 0 rfl (by decide) rfl (by decide) dL_runs_113 ?_
      refine r_goto 6 dL_runs_116 (by decide) ?_
      exact r_sub [0, 1, 2, 3, 4, 5] rfl (ih _ _ _)
    · refine r_aload_n 2 rfl dL_runs_19 ?_
      refine r_bipush (16) (by decide) dL_runs_20 ?_
      refine r_aload_n 5 rfl dL_runs_22 ?_
      refine r_iload 0 rfl dL_runs_23 ?_
      refine r_iaload (lvs_77 _) (cell_77 _ _ _ _) h14 dL_runs_25 ?_
      refine r_imul dL_runs_26 ?_
      refine r_gd (fun h15 => ?_)
      refine r_iaload (lvs_71 _) (cell_71 _ _ _ _) h15 dL_runs_27 ?_
      refine r_bd ?_
      refine r_istore [(6, .int _), (5, .int _), (4, .int _), (0, .ref _), (1, .ref _), (2, .ref _), (3, .ref _)] rfl (by decide) dL_runs_28 ?_
      refine r_aload_n 3 rfl dL_runs_30 ?_
      refine r_aload_n 4 rfl dL_runs_31 ?_
      refine r_aload_n 6 rfl dL_runs_32 ?_
      refine r_iload 1 rfl dL_runs_33 ?_
      refine r_iaload (lvs_77 _) (cell_77 _ _ _ _) h14 dL_runs_35 ?_
      refine r_callS (n := 3) (As := [.ref _, .ref _, .int _]) (nc_L_place X hst ad _ _) (fun _ h => h) rfl ⟨by decide, by decide, by decide +kernel⟩ w_507 w_508 w_502 w_509 rfl rfl (Nat.le_of_ble_eq_true rfl) ⟨by decide, by decide⟩ dL_runs_36 (fun v12 σ13 => ?_)
      refine r_istore [(7, .int _), (6, .int _), (5, .int _), (4, .int _), (0, .ref _), (1, .ref _), (2, .ref _), (3, .ref _)] rfl (by decide) dL_runs_39 ?_
      refine r_iload 3 rfl dL_runs_41 ?_
      refine r_aload_n 5 rfl dL_runs_43 ?_
      refine r_bipush (12) (by decide) dL_runs_44 ?_
      refine r_iload 1 rfl dL_runs_46 ?_
      refine r_iadd dL_runs_48 ?_
      refine r_gd (fun h16 => ?_)
      refine r_iaload (lvs_74 _) (cell_74 _ _ _ _) h16 dL_runs_49 ?_
      refine r_iconst (1) (by decide) dL_runs_50 ?_
      refine r_isub dL_runs_51 ?_
      refine r_iload 0 rfl dL_runs_52 ?_
      refine r_isub dL_runs_54 ?_
      refine r_iadd dL_runs_55 ?_
      refine r_bd ?_
      refine r_istore [(4, .int _), (7, .int _), (6, .int _), (5, .int _), (0, .ref _), (1, .ref _), (2, .ref _), (3, .ref _)] rfl (by decide) dL_runs_56 ?_
      refine r_iload 1 rfl dL_runs_58 ?_
      refine r_istore [(8, .int _), (4, .int _), (7, .int _), (6, .int _), (5, .int _), (0, .ref _), (1, .ref _), (2, .ref _), (3, .ref _)] rfl (by decide) dL_runs_60 ?_
      exact r_sub [0, 1, 3, 4, 5, 6, 7, 8] rfl ((bl_L_runs_62 X hst ad ih FU) _ _ _ _ _)
theorem nc_L_runs (X : Xt) (hst : X.1.stackTraces = false) (ad : Ad) (σ : Wd) : NC X (fun a => a = ad) yL_runs cL_runs 10 (some (.int)) 1 24 vI (0, 0) ad σ [.ref (ad 71 0), .ref (ad 74 0), .ref (ad 75 0), .ref (ad 77 0)] (f_L_runs σ) := by
  unfold f_L_runs
  refine NC.intro RL rfl hst (by decide) (Nat.le_of_ble_eq_true rfl) (lv := [(0, .ref _), (1, .ref _), (2, .ref _), (3, .ref _)]) rfl ?_
  refine r_iconst (0) (by decide) dL_runs_0 ?_
  refine r_istore [(4, .int _), (0, .ref _), (1, .ref _), (2, .ref _), (3, .ref _)] rfl (by decide) dL_runs_1 ?_
  refine r_iconst (0) (by decide) dL_runs_3 ?_
  refine r_istore [(5, .int _), (4, .int _), (0, .ref _), (1, .ref _), (2, .ref _), (3, .ref _)] rfl (by decide) dL_runs_4 ?_
  exact r_sub [0, 1, 2, 3, 4, 5] rfl ((bl_L_runs_6 X hst ad FU) _ _ _)
def l_L_remove_9 : Nat → Wd → Int32 → Int32 → Option ((Unit ⊕ String) × Wd)
  | 0, _, _, _ => none
  | n + 1, σ, a5, a3 =>
  gd (inb (((16 : Int32) * a3) + (12 : Int32)) 64) <|
  if ((((8 : Int32) * a3) + (σ.1 71 0 (((16 : Int32) * a3) + (12 : Int32)).toNatClampNeg)) - (1 : Int32)) ≤ a5 then
    bd (wr σ 71 0 (((16 : Int32) * a3) + (12 : Int32)).toNatClampNeg ((σ.1 71 0 (((16 : Int32) * a3) + (12 : Int32)).toNatClampNeg) - (1 : Int32))) fun σ2 =>
    some (.inl (), σ2)
  else
    gd (inb (a5 + (1 : Int32)) 64) <|
    gd (inb a5 64) <|
    bd (wr σ 72 0 a5.toNatClampNeg (σ.1 72 0 (a5 + (1 : Int32)).toNatClampNeg)) fun σ3 =>
    gd (inb ((33 : Int32) + a5) 64) <|
    gd (inb ((32 : Int32) + a5) 64) <|
    bd (wr σ3 72 0 ((32 : Int32) + a5).toNatClampNeg (σ3.1 72 0 ((33 : Int32) + a5).toNatClampNeg)) fun σ4 =>
    bd (wr σ4 73 0 a5.toNatClampNeg (σ4.1 73 0 (a5 + (1 : Int32)).toNatClampNeg)) fun σ5 =>
    bd (wr σ5 73 0 ((32 : Int32) + a5).toNatClampNeg (σ5.1 73 0 ((33 : Int32) + a5).toNatClampNeg)) fun σ6 =>
    (l_L_remove_9 n) σ6 (a5 + 1) a3
def f_L_remove (σ : Wd) (p3 : Int32) (p4 : Int32) : Option ((Unit ⊕ String) × Wd) :=
  bd ((((8 : Int32) * p3) + p4)) fun x1 =>
  l_L_remove_9 FU σ x1 p3
theorem bl_L_remove_9 (X : Xt) (hst : X.1.stackTraces = false) (ad : Ad) : ∀ (n : Nat) (σ : Wd) (a5 : Int32) (a3 : Int32), Bk X (fun a => a = ad) cL_remove 6 RL none 0 0 vV (0, 0) (0, 0) ad σ 9 [(5, .int a5), (0, .ref (ad 71 0)), (1, .ref (ad 72 0)), (2, .ref (ad 73 0)), (3, .int a3)] [] (l_L_remove_9 n σ a5 a3) := by
  intro n
  induction n with
  | zero => intros; exact r_none
  | succ n ih =>
  intro σ a5 a3
  rw [l_L_remove_9]
  refine r_iload 0 rfl dL_remove_9 ?_
  refine r_bipush (8) (by decide) dL_remove_11 ?_
  refine r_iload_n 4 rfl dL_remove_13 ?_
  refine r_imul dL_remove_14 ?_
  refine r_aload_n 1 rfl dL_remove_15 ?_
  refine r_bipush (16) (by decide) dL_remove_16 ?_
  refine r_iload_n 4 rfl dL_remove_18 ?_
  refine r_imul dL_remove_19 ?_
  refine r_bipush (12) (by decide) dL_remove_20 ?_
  refine r_iadd dL_remove_22 ?_
  refine r_gd (fun h1 => ?_)
  refine r_iaload (lvs_71 _) (cell_71 _ _ _ _) h1 dL_remove_23 ?_
  refine r_iadd dL_remove_24 ?_
  refine r_iconst (1) (by decide) dL_remove_25 ?_
  refine r_isub dL_remove_26 ?_
  refine r_icmp_ge 84 dL_remove_27 (by decide) ?_ ?_
  · refine r_aload_n 1 rfl dL_remove_84 ?_
    refine r_bipush (16) (by decide) dL_remove_85 ?_
    refine r_iload_n 4 rfl dL_remove_87 ?_
    refine r_imul dL_remove_88 ?_
    refine r_bipush (12) (by decide) dL_remove_89 ?_
    refine r_iadd dL_remove_91 ?_
    refine r_dup2 rfl rfl dL_remove_92 ?_
    refine r_iaload (lvs_71 _) (cell_71 _ _ _ _) h1 dL_remove_93 ?_
    refine r_iconst (1) (by decide) dL_remove_94 ?_
    refine r_isub dL_remove_95 ?_
    refine r_bd ?_
    refine r_iastore (lvs_71 _) (ia_71 _ _ _) h1 dL_remove_96 ?_
    exact r_vret rfl rfl rfl dL_remove_97
  · refine r_aload_n 2 rfl dL_remove_30 ?_
    refine r_iload 0 rfl dL_remove_31 ?_
    refine r_aload_n 2 rfl dL_remove_33 ?_
    refine r_iload 0 rfl dL_remove_34 ?_
    refine r_iconst (1) (by decide) dL_remove_36 ?_
    refine r_iadd dL_remove_37 ?_
    refine r_gd (fun h2 => ?_)
    refine r_iaload (lvs_72 _) (cell_72 _ _ _ _) h2 dL_remove_38 ?_
    refine r_gd (fun h3 => ?_)
    refine r_bd ?_
    refine r_iastore (lvs_72 _) (ia_72 _ _ _) h3 dL_remove_39 ?_
    refine r_aload_n 2 rfl dL_remove_40 ?_
    refine r_bipush (32) (by decide) dL_remove_41 ?_
    refine r_iload 0 rfl dL_remove_43 ?_
    refine r_iadd dL_remove_45 ?_
    refine r_aload_n 2 rfl dL_remove_46 ?_
    refine r_bipush (33) (by decide) dL_remove_47 ?_
    refine r_iload 0 rfl dL_remove_49 ?_
    refine r_iadd dL_remove_51 ?_
    refine r_gd (fun h4 => ?_)
    refine r_iaload (lvs_72 _) (cell_72 _ _ _ _) h4 dL_remove_52 ?_
    refine r_gd (fun h5 => ?_)
    refine r_bd ?_
    refine r_iastore (lvs_72 _) (ia_72 _ _ _) h5 dL_remove_53 ?_
    refine r_aload_n 3 rfl dL_remove_54 ?_
    refine r_iload 0 rfl dL_remove_55 ?_
    refine r_aload_n 3 rfl dL_remove_57 ?_
    refine r_iload 0 rfl dL_remove_58 ?_
    refine r_iconst (1) (by decide) dL_remove_60 ?_
    refine r_iadd dL_remove_61 ?_
    refine r_iaload (lvs_73 _) (cell_73 _ _ _ _) h2 dL_remove_62 ?_
    refine r_bd ?_
    refine r_iastore (lvs_73 _) (ia_73 _ _ _) h3 dL_remove_63 ?_
    refine r_aload_n 3 rfl dL_remove_64 ?_
    refine r_bipush (32) (by decide) dL_remove_65 ?_
    refine r_iload 0 rfl dL_remove_67 ?_
    refine r_iadd dL_remove_69 ?_
    refine r_aload_n 3 rfl dL_remove_70 ?_
    refine r_bipush (33) (by decide) dL_remove_71 ?_
    refine r_iload 0 rfl dL_remove_73 ?_
    refine r_iadd dL_remove_75 ?_
    refine r_iaload (lvs_73 _) (cell_73 _ _ _ _) h4 dL_remove_76 ?_
    refine r_bd ?_
    refine r_iastore (lvs_73 _) (ia_73 _ _ _) h5 dL_remove_77 ?_
    refine r_iinc (1) [(5, .int _), (0, .ref _), (1, .ref _), (2, .ref _), (3, .int _)] 0 rfl (by decide) rfl (by decide) dL_remove_78 ?_
    refine r_goto 9 dL_remove_81 (by decide) ?_
    exact r_sub [0, 1, 2, 3, 4] rfl (ih _ _ _)
theorem nc_L_remove (X : Xt) (hst : X.1.stackTraces = false) (ad : Ad) (σ : Wd) (p3 : Int32) (p4 : Int32) : NC X (fun a => a = ad) yL_remove cL_remove 6 none 0 0 vV (0, 0) ad σ [.ref (ad 71 0), .ref (ad 72 0), .ref (ad 73 0), .int p3, .int p4] (f_L_remove σ p3 p4) := by
  unfold f_L_remove
  refine NC.intro RL rfl hst (by decide) (Nat.le_of_ble_eq_true rfl) (lv := [(0, .ref _), (1, .ref _), (2, .ref _), (3, .int _), (4, .int _)]) rfl ?_
  refine r_bipush (8) (by decide) dL_remove_0 ?_
  refine r_iload_n 3 rfl dL_remove_2 ?_
  refine r_imul dL_remove_3 ?_
  refine r_iload 4 rfl dL_remove_4 ?_
  refine r_iadd dL_remove_6 ?_
  refine r_bd ?_
  refine r_istore [(5, .int _), (0, .ref _), (1, .ref _), (2, .ref _), (3, .int _), (4, .int _)] rfl (by decide) dL_remove_7 ?_
  exact r_sub [0, 1, 2, 3, 4] rfl ((bl_L_remove_9 X hst ad FU) _ _ _)
