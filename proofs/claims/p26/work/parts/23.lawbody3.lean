theorem bl_L_law_1817 (X : Xt) (hst : X.1.stackTraces = false) (b L : Nat) (xs : Nat → Int32) (N : Nat) {k600 : Wd → Int32 → Int32 → Int32 → Int32 → Int32 → Int32 → Option Unit} (hk600 : ∀ (ad : Ad) (σ : Wd) (a14 : Int32) (a13 : Int32) (a12 : Int32) (a11 : Int32) (a10 : Int32) (a9 : Int32), Lk X b L xs (N) ad σ 600 [(14, .int a14), (13, .int a13), (12, .int a12), (11, .int a11), (10, .int a10), (9, .int a9), (0, .ref b), (1, .ref (ad 0 0)), (2, .ref (ad 71 0)), (3, .ref (ad 72 0)), (4, .ref (ad 73 0)), (5, .ref (ad 74 0)), (6, .ref (ad 75 0)), (7, .ref (ad 76 0)), (8, .ref (ad 77 0))] [] (k600 σ a14 a13 a12 a11 a10 a9)) : ∀ (n : Nat) (ad : Ad) (σ : Wd) (a21 : Int32) (a10 : Int32) (a20 : Int32) (a14 : Int32) (a9 : Int32), Lk X b L xs (N + 1) ad σ 1817 [(21, .int a21), (10, .int a10), (20, .int a20), (14, .int a14), (9, .int a9), (0, .ref b), (1, .ref (ad 0 0)), (2, .ref (ad 71 0)), (3, .ref (ad 72 0)), (4, .ref (ad 73 0)), (5, .ref (ad 74 0)), (6, .ref (ad 75 0)), (7, .ref (ad 76 0)), (8, .ref (ad 77 0))] [] (l_L_law_1817 L xs k600 n σ a21 a10 a20 a14 a9) := by
  intro n
  induction n with
  | zero => intros; exact k_none
  | succ n ih =>
  intro ad σ a21 a10 a20 a14 a9
  rw [l_L_law_1817]
  refine k_iload 0 rfl dL_law_1817 ?_
  refine k_iconst (4) (by decide) dL_law_1819 ?_
  refine k_icmp_ge 1860 dL_law_1820 (by decide) ?_ ?_
  · refine k_aload_n 6 rfl dL_law_1860 ?_
    refine k_callV (n := 0) (As := []) (nc_X9_day X hst ad _) ⟨rfl, by decide, by decide, by decide +kernel⟩ w_609 w_610 w_611 w_203 w_612 rfl rfl (Nat.le_of_ble_eq_true rfl) ⟨by decide, by decide⟩ dL_law_1861 (fun v60 σ61 => ?_)
    refine k_iload 2 rfl dL_law_1864 ?_
    refine k_icmp_ne 1882 dL_law_1866 (by decide) ?_ ?_
    · refine k_aload_n 6 rfl dL_law_1869 ?_
      refine k_callV (n := 0) (As := []) (nc_X9_shunts X hst ad _) ⟨rfl, by decide, by decide, by decide +kernel⟩ w_613 w_614 w_615 w_203 w_616 rfl rfl (Nat.le_of_ble_eq_true rfl) ⟨by decide, by decide⟩ dL_law_1870 (fun v62 σ63 => ?_)
      refine k_iload 1 rfl dL_law_1873 ?_
      refine k_icmp_ne 1882 dL_law_1875 (by decide) ?_ ?_
      · refine k_iconst (1) (by decide) dL_law_1878 ?_
        refine k_goto 1883 dL_law_1879 (by decide) ?_
        exact k_less (by omega) (k_sub [1, 3, 4, 5, 6, 7, 8, 9, 10, 11, 12, 13] rfl (bj_L_law_1883 X hst b L xs N hk600 ad _ _ _ _ _))
      · exact k_less (by omega) (k_sub [1, 3, 4, 5, 6, 7, 8, 9, 10, 11, 12, 13] rfl (bj_L_law_1882 X hst b L xs N hk600 ad _ _ _ _))
    · exact k_less (by omega) (k_sub [1, 3, 4, 5, 6, 7, 8, 9, 10, 11, 12, 13] rfl (bj_L_law_1882 X hst b L xs N hk600 ad _ _ _ _))
  · refine k_bipush (9) (by decide) dL_law_1823 ?_
    refine k_istore [(22, .int _), (21, .int _), (10, .int _), (20, .int _), (14, .int _), (9, .int _), (0, .ref _), (1, .ref _), (2, .ref _), (3, .ref _), (4, .ref _), (5, .ref _), (6, .ref _), (7, .ref _), (8, .ref _)] rfl (by decide) dL_law_1825 ?_
    exact k_less (by omega) (k_sub [0, 1, 2, 3, 4, 5, 6, 7, 8, 9, 10, 11, 12, 13, 14] rfl (bl_L_law_1827 X hst b L xs N ih FU ad _ _ _ _ _ _ _))
theorem bj_L_law_1397 (X : Xt) (hst : X.1.stackTraces = false) (b L : Nat) (xs : Nat → Int32) (N : Nat) {k600 : Wd → Int32 → Int32 → Int32 → Int32 → Int32 → Int32 → Option Unit} (hk600 : ∀ (ad : Ad) (σ : Wd) (a14 : Int32) (a13 : Int32) (a12 : Int32) (a11 : Int32) (a10 : Int32) (a9 : Int32), Lk X b L xs (N) ad σ 600 [(14, .int a14), (13, .int a13), (12, .int a12), (11, .int a11), (10, .int a10), (9, .int a9), (0, .ref b), (1, .ref (ad 0 0)), (2, .ref (ad 71 0)), (3, .ref (ad 72 0)), (4, .ref (ad 73 0)), (5, .ref (ad 74 0)), (6, .ref (ad 75 0)), (7, .ref (ad 76 0)), (8, .ref (ad 77 0))] [] (k600 σ a14 a13 a12 a11 a10 a9)) (ad : Ad) (σ : Wd) (a11 : Int32) (a13 : Int32) (a14 : Int32) (a12 : Int32) (a10 : Int32) (a9 : Int32) : Lk X b L xs (N) ad σ 1397 [(11, .int a11), (13, .int a13), (14, .int a14), (12, .int a12), (10, .int a10), (9, .int a9), (0, .ref b), (1, .ref (ad 0 0)), (2, .ref (ad 71 0)), (3, .ref (ad 72 0)), (4, .ref (ad 73 0)), (5, .ref (ad 74 0)), (6, .ref (ad 75 0)), (7, .ref (ad 76 0)), (8, .ref (ad 77 0))] [] (j_L_law_1397 L xs k600 σ a11 a13 a14 a12 a10 a9) := by
  unfold j_L_law_1397
  refine k_goto 1937 dL_law_1397 (by decide) ?_
  exact k_less (by omega) (k_sub [1, 2, 3, 0, 4, 5, 6, 7, 8, 9, 10, 11, 12, 13, 14] rfl (bj_L_law_1937 X hst b L xs N hk600 ad _ _ _ _ _ _ _))
theorem bl_L_law_1357 (X : Xt) (hst : X.1.stackTraces = false) (b L : Nat) (xs : Nat → Int32) (N : Nat) {k600 : Wd → Int32 → Int32 → Int32 → Int32 → Int32 → Int32 → Option Unit} (hk600 : ∀ (ad : Ad) (σ : Wd) (a14 : Int32) (a13 : Int32) (a12 : Int32) (a11 : Int32) (a10 : Int32) (a9 : Int32), Lk X b L xs (N) ad σ 600 [(14, .int a14), (13, .int a13), (12, .int a12), (11, .int a11), (10, .int a10), (9, .int a9), (0, .ref b), (1, .ref (ad 0 0)), (2, .ref (ad 71 0)), (3, .ref (ad 72 0)), (4, .ref (ad 73 0)), (5, .ref (ad 74 0)), (6, .ref (ad 75 0)), (7, .ref (ad 76 0)), (8, .ref (ad 77 0))] [] (k600 σ a14 a13 a12 a11 a10 a9)) : ∀ (n : Nat) (ad : Ad) (σ : Wd) (a22 : Int32) (a11 : Int32) (a13 : Int32) (a21 : Int32) (a20 : Int32) (a19 : Int32) (a14 : Int32) (a12 : Int32) (a10 : Int32) (a9 : Int32), Lk X b L xs (N) ad σ 1357 [(22, .int a22), (11, .int a11), (13, .int a13), (21, .int a21), (20, .int a20), (19, .int a19), (14, .int a14), (12, .int a12), (10, .int a10), (9, .int a9), (0, .ref b), (1, .ref (ad 0 0)), (2, .ref (ad 71 0)), (3, .ref (ad 72 0)), (4, .ref (ad 73 0)), (5, .ref (ad 74 0)), (6, .ref (ad 75 0)), (7, .ref (ad 76 0)), (8, .ref (ad 77 0))] [] (l_L_law_1357 L xs k600 n σ a22 a11 a13 a21 a20 a19 a14 a12 a10 a9) := by
  intro n
  induction n with
  | zero => intros; exact k_none
  | succ n ih =>
  intro ad σ a22 a11 a13 a21 a20 a19 a14 a12 a10 a9
  rw [l_L_law_1357]
  refine k_iload 0 rfl dL_law_1357 ?_
  refine k_iload 4 rfl dL_law_1359 ?_
  refine k_icmp_gt 1397 dL_law_1361 (by decide) ?_ ?_
  · exact k_less (by omega) (k_sub [1, 2, 6, 7, 8, 9, 10, 11, 12, 13, 14, 15, 16, 17, 18] rfl (bj_L_law_1397 X hst b L xs N hk600 ad _ _ _ _ _ _ _))
  · refine k_iload 3 rfl dL_law_1364 ?_
    refine k_if_eq 1397 dL_law_1366 (by decide) ?_ ?_
    · exact k_less (by omega) (k_sub [1, 2, 6, 7, 8, 9, 10, 11, 12, 13, 14, 15, 16, 17, 18] rfl (bj_L_law_1397 X hst b L xs N hk600 ad _ _ _ _ _ _ _))
    · refine k_aload_n 12 rfl dL_law_1369 ?_
      refine k_iload 5 rfl dL_law_1370 ?_
      refine k_bipush (6) (by decide) dL_law_1372 ?_
      refine k_iadd dL_law_1374 ?_
      refine k_iload 0 rfl dL_law_1375 ?_
      refine k_iadd dL_law_1377 ?_
      refine k_iconst (0) (by decide) dL_law_1378 ?_
      refine k_gd (fun h26 => ?_)
      refine k_bd ?_
      refine k_iastore (lvs_71 _) (ia_71 _ _ _) h26 dL_law_1379 ?_
      refine k_aload_n 12 rfl dL_law_1380 ?_
      refine k_iload 5 rfl dL_law_1381 ?_
      refine k_bipush (9) (by decide) dL_law_1383 ?_
      refine k_iadd dL_law_1385 ?_
      refine k_iload 0 rfl dL_law_1386 ?_
      refine k_iadd dL_law_1388 ?_
      refine k_iconst (0) (by decide) dL_law_1389 ?_
      refine k_gd (fun h27 => ?_)
      refine k_bd ?_
      refine k_iastore (lvs_71 _) (ia_71 _ _ _) h27 dL_law_1390 ?_
      refine k_iinc (1) [(22, .int _), (11, .int _), (13, .int _), (21, .int _), (20, .int _), (19, .int _), (14, .int _), (12, .int _), (10, .int _), (9, .int _), (0, .ref _), (1, .ref _), (2, .ref _), (3, .ref _), (4, .ref _), (5, .ref _), (6, .ref _), (7, .ref _), (8, .ref _)] 0 rfl (by decide) rfl (by decide) dL_law_1391 ?_
      refine k_goto 1357 dL_law_1394 (by decide) ?_
      exact k_less (by omega) (k_sub [0, 1, 2, 3, 4, 5, 6, 7, 8, 9, 10, 11, 12, 13, 14, 15, 16, 17, 18] rfl (ih ad _ _ _ _ _ _ _ _ _ _ _))
theorem bj_L_law_1352 (X : Xt) (hst : X.1.stackTraces = false) (b L : Nat) (xs : Nat → Int32) (N : Nat) {k600 : Wd → Int32 → Int32 → Int32 → Int32 → Int32 → Int32 → Option Unit} (hk600 : ∀ (ad : Ad) (σ : Wd) (a14 : Int32) (a13 : Int32) (a12 : Int32) (a11 : Int32) (a10 : Int32) (a9 : Int32), Lk X b L xs (N) ad σ 600 [(14, .int a14), (13, .int a13), (12, .int a12), (11, .int a11), (10, .int a10), (9, .int a9), (0, .ref b), (1, .ref (ad 0 0)), (2, .ref (ad 71 0)), (3, .ref (ad 72 0)), (4, .ref (ad 73 0)), (5, .ref (ad 74 0)), (6, .ref (ad 75 0)), (7, .ref (ad 76 0)), (8, .ref (ad 77 0))] [] (k600 σ a14 a13 a12 a11 a10 a9)) (ad : Ad) (σ : Wd) (a13 : Int32) (a21 : Int32) (a20 : Int32) (a19 : Int32) (a14 : Int32) (a12 : Int32) (a10 : Int32) (a9 : Int32) (s0 : Int32) : Lk X b L xs (N) ad σ 1352 [(13, .int a13), (21, .int a21), (20, .int a20), (19, .int a19), (14, .int a14), (12, .int a12), (10, .int a10), (9, .int a9), (0, .ref b), (1, .ref (ad 0 0)), (2, .ref (ad 71 0)), (3, .ref (ad 72 0)), (4, .ref (ad 73 0)), (5, .ref (ad 74 0)), (6, .ref (ad 75 0)), (7, .ref (ad 76 0)), (8, .ref (ad 77 0))] [.int s0] (j_L_law_1352 L xs k600 σ a13 a21 a20 a19 a14 a12 a10 a9 s0) := by
  unfold j_L_law_1352
  refine k_istore [(11, .int _), (13, .int _), (21, .int _), (20, .int _), (19, .int _), (14, .int _), (12, .int _), (10, .int _), (9, .int _), (0, .ref _), (1, .ref _), (2, .ref _), (3, .ref _), (4, .ref _), (5, .ref _), (6, .ref _), (7, .ref _), (8, .ref _)] rfl (by decide) dL_law_1352 ?_
  refine k_iconst (0) (by decide) dL_law_1354 ?_
  refine k_istore [(22, .int _), (11, .int _), (13, .int _), (21, .int _), (20, .int _), (19, .int _), (14, .int _), (12, .int _), (10, .int _), (9, .int _), (0, .ref _), (1, .ref _), (2, .ref _), (3, .ref _), (4, .ref _), (5, .ref _), (6, .ref _), (7, .ref _), (8, .ref _)] rfl (by decide) dL_law_1355 ?_
  exact k_less (by omega) (k_sub [0, 1, 2, 3, 4, 5, 6, 7, 8, 9, 10, 11, 12, 13, 14, 15, 16, 17, 18] rfl (bl_L_law_1357 X hst b L xs N hk600 FU ad _ _ _ _ _ _ _ _ _ _ _))
theorem bj_L_law_1347 (X : Xt) (hst : X.1.stackTraces = false) (b L : Nat) (xs : Nat → Int32) (N : Nat) {k600 : Wd → Int32 → Int32 → Int32 → Int32 → Int32 → Int32 → Option Unit} (hk600 : ∀ (ad : Ad) (σ : Wd) (a14 : Int32) (a13 : Int32) (a12 : Int32) (a11 : Int32) (a10 : Int32) (a9 : Int32), Lk X b L xs (N) ad σ 600 [(14, .int a14), (13, .int a13), (12, .int a12), (11, .int a11), (10, .int a10), (9, .int a9), (0, .ref b), (1, .ref (ad 0 0)), (2, .ref (ad 71 0)), (3, .ref (ad 72 0)), (4, .ref (ad 73 0)), (5, .ref (ad 74 0)), (6, .ref (ad 75 0)), (7, .ref (ad 76 0)), (8, .ref (ad 77 0))] [] (k600 σ a14 a13 a12 a11 a10 a9)) (ad : Ad) (σ : Wd) (a13 : Int32) (a21 : Int32) (a20 : Int32) (a19 : Int32) (a14 : Int32) (a12 : Int32) (a10 : Int32) (a9 : Int32) : Lk X b L xs (N) ad σ 1347 [(13, .int a13), (21, .int a21), (20, .int a20), (19, .int a19), (14, .int a14), (12, .int a12), (10, .int a10), (9, .int a9), (0, .ref b), (1, .ref (ad 0 0)), (2, .ref (ad 71 0)), (3, .ref (ad 72 0)), (4, .ref (ad 73 0)), (5, .ref (ad 74 0)), (6, .ref (ad 75 0)), (7, .ref (ad 76 0)), (8, .ref (ad 77 0))] [] (j_L_law_1347 L xs k600 σ a13 a21 a20 a19 a14 a12 a10 a9) := by
  unfold j_L_law_1347
  refine k_iconst (1) (by decide) dL_law_1347 ?_
  refine k_goto 1352 dL_law_1348 (by decide) ?_
  exact k_less (by omega) (k_sub [0, 1, 2, 3, 4, 5, 6, 7, 8, 9, 10, 11, 12, 13, 14, 15, 16] rfl (bj_L_law_1352 X hst b L xs N hk600 ad _ _ _ _ _ _ _ _ _ _))
theorem bj_L_law_1335 (X : Xt) (hst : X.1.stackTraces = false) (b L : Nat) (xs : Nat → Int32) (N : Nat) {k600 : Wd → Int32 → Int32 → Int32 → Int32 → Int32 → Int32 → Option Unit} (hk600 : ∀ (ad : Ad) (σ : Wd) (a14 : Int32) (a13 : Int32) (a12 : Int32) (a11 : Int32) (a10 : Int32) (a9 : Int32), Lk X b L xs (N) ad σ 600 [(14, .int a14), (13, .int a13), (12, .int a12), (11, .int a11), (10, .int a10), (9, .int a9), (0, .ref b), (1, .ref (ad 0 0)), (2, .ref (ad 71 0)), (3, .ref (ad 72 0)), (4, .ref (ad 73 0)), (5, .ref (ad 74 0)), (6, .ref (ad 75 0)), (7, .ref (ad 76 0)), (8, .ref (ad 77 0))] [] (k600 σ a14 a13 a12 a11 a10 a9)) (ad : Ad) (σ : Wd) (a21 : Int32) (a20 : Int32) (a19 : Int32) (a14 : Int32) (a12 : Int32) (a11 : Int32) (a10 : Int32) (a9 : Int32) (s0 : Int32) : Lk X b L xs (N) ad σ 1335 [(21, .int a21), (20, .int a20), (19, .int a19), (14, .int a14), (12, .int a12), (11, .int a11), (10, .int a10), (9, .int a9), (0, .ref b), (1, .ref (ad 0 0)), (2, .ref (ad 71 0)), (3, .ref (ad 72 0)), (4, .ref (ad 73 0)), (5, .ref (ad 74 0)), (6, .ref (ad 75 0)), (7, .ref (ad 76 0)), (8, .ref (ad 77 0))] [.int s0] (j_L_law_1335 L xs k600 σ a21 a20 a19 a14 a12 a11 a10 a9 s0) := by
  unfold j_L_law_1335
  refine k_istore [(13, .int _), (21, .int _), (20, .int _), (19, .int _), (14, .int _), (12, .int _), (11, .int _), (10, .int _), (9, .int _), (0, .ref _), (1, .ref _), (2, .ref _), (3, .ref _), (4, .ref _), (5, .ref _), (6, .ref _), (7, .ref _), (8, .ref _)] rfl (by decide) dL_law_1335 ?_
  refine k_iload 6 rfl dL_law_1337 ?_
  refine k_if_ne 1347 dL_law_1339 (by decide) ?_ ?_
  · refine k_iload 1 rfl dL_law_1342 ?_
    refine k_if_eq 1351 dL_law_1344 (by decide) ?_ ?_
    · refine k_iconst (0) (by decide) dL_law_1351 ?_
      exact k_less (by omega) (k_sub [0, 1, 2, 3, 4, 5, 7, 8, 9, 10, 11, 12, 13, 14, 15, 16, 17] rfl (bj_L_law_1352 X hst b L xs N hk600 ad _ _ _ _ _ _ _ _ _ _))
    · exact k_less (by omega) (k_sub [0, 1, 2, 3, 4, 5, 7, 8, 9, 10, 11, 12, 13, 14, 15, 16, 17] rfl (bj_L_law_1347 X hst b L xs N hk600 ad _ _ _ _ _ _ _ _ _))
  · exact k_less (by omega) (k_sub [0, 1, 2, 3, 4, 5, 7, 8, 9, 10, 11, 12, 13, 14, 15, 16, 17] rfl (bj_L_law_1347 X hst b L xs N hk600 ad _ _ _ _ _ _ _ _ _))
theorem bj_L_law_1327 (X : Xt) (hst : X.1.stackTraces = false) (b L : Nat) (xs : Nat → Int32) (N : Nat) {k600 : Wd → Int32 → Int32 → Int32 → Int32 → Int32 → Int32 → Option Unit} (hk600 : ∀ (ad : Ad) (σ : Wd) (a14 : Int32) (a13 : Int32) (a12 : Int32) (a11 : Int32) (a10 : Int32) (a9 : Int32), Lk X b L xs (N) ad σ 600 [(14, .int a14), (13, .int a13), (12, .int a12), (11, .int a11), (10, .int a10), (9, .int a9), (0, .ref b), (1, .ref (ad 0 0)), (2, .ref (ad 71 0)), (3, .ref (ad 72 0)), (4, .ref (ad 73 0)), (5, .ref (ad 74 0)), (6, .ref (ad 75 0)), (7, .ref (ad 76 0)), (8, .ref (ad 77 0))] [] (k600 σ a14 a13 a12 a11 a10 a9)) (ad : Ad) (σ : Wd) (a21 : Int32) (a20 : Int32) (a19 : Int32) (a14 : Int32) (a12 : Int32) (a11 : Int32) (a10 : Int32) (a9 : Int32) (s0 : Int32) (s1 : Int32) : Lk X b L xs (N) ad σ 1327 [(21, .int a21), (20, .int a20), (19, .int a19), (14, .int a14), (12, .int a12), (11, .int a11), (10, .int a10), (9, .int a9), (0, .ref b), (1, .ref (ad 0 0)), (2, .ref (ad 71 0)), (3, .ref (ad 72 0)), (4, .ref (ad 73 0)), (5, .ref (ad 74 0)), (6, .ref (ad 75 0)), (7, .ref (ad 76 0)), (8, .ref (ad 77 0))] [.int s0, .int s1] (j_L_law_1327 L xs k600 σ a21 a20 a19 a14 a12 a11 a10 a9 s0 s1) := by
  unfold j_L_law_1327
  refine k_icmp_ne 1334 dL_law_1327 (by decide) ?_ ?_
  · refine k_iconst (1) (by decide) dL_law_1330 ?_
    refine k_goto 1335 dL_law_1331 (by decide) ?_
    exact k_less (by omega) (k_sub [0, 1, 2, 3, 4, 5, 6, 7, 8, 9, 10, 11, 12, 13, 14, 15, 16] rfl (bj_L_law_1335 X hst b L xs N hk600 ad _ _ _ _ _ _ _ _ _ _))
  · refine k_iconst (0) (by decide) dL_law_1334 ?_
    exact k_less (by omega) (k_sub [0, 1, 2, 3, 4, 5, 6, 7, 8, 9, 10, 11, 12, 13, 14, 15, 16] rfl (bj_L_law_1335 X hst b L xs N hk600 ad _ _ _ _ _ _ _ _ _ _))
theorem bj_L_law_1301 (X : Xt) (hst : X.1.stackTraces = false) (b L : Nat) (xs : Nat → Int32) (N : Nat) {k600 : Wd → Int32 → Int32 → Int32 → Int32 → Int32 → Int32 → Option Unit} (hk600 : ∀ (ad : Ad) (σ : Wd) (a14 : Int32) (a13 : Int32) (a12 : Int32) (a11 : Int32) (a10 : Int32) (a9 : Int32), Lk X b L xs (N) ad σ 600 [(14, .int a14), (13, .int a13), (12, .int a12), (11, .int a11), (10, .int a10), (9, .int a9), (0, .ref b), (1, .ref (ad 0 0)), (2, .ref (ad 71 0)), (3, .ref (ad 72 0)), (4, .ref (ad 73 0)), (5, .ref (ad 74 0)), (6, .ref (ad 75 0)), (7, .ref (ad 76 0)), (8, .ref (ad 77 0))] [] (k600 σ a14 a13 a12 a11 a10 a9)) (ad : Ad) (σ : Wd) (a20 : Int32) (a19 : Int32) (a17 : Int32) (a14 : Int32) (a12 : Int32) (a11 : Int32) (a10 : Int32) (a9 : Int32) (s0 : Int32) : Lk X b L xs (N + 1) ad σ 1301 [(20, .int a20), (19, .int a19), (17, .int a17), (14, .int a14), (12, .int a12), (11, .int a11), (10, .int a10), (9, .int a9), (0, .ref b), (1, .ref (ad 0 0)), (2, .ref (ad 71 0)), (3, .ref (ad 72 0)), (4, .ref (ad 73 0)), (5, .ref (ad 74 0)), (6, .ref (ad 75 0)), (7, .ref (ad 76 0)), (8, .ref (ad 77 0))] [.int s0] (j_L_law_1301 L xs k600 σ a20 a19 a17 a14 a12 a11 a10 a9 s0) := by
  unfold j_L_law_1301
  refine k_istore [(21, .int _), (20, .int _), (19, .int _), (17, .int _), (14, .int _), (12, .int _), (11, .int _), (10, .int _), (9, .int _), (0, .ref _), (1, .ref _), (2, .ref _), (3, .ref _), (4, .ref _), (5, .ref _), (6, .ref _), (7, .ref _), (8, .ref _)] rfl (by decide) dL_law_1301 ?_
  refine k_aload_n 10 rfl dL_law_1303 ?_
  refine k_iconst (0) (by decide) dL_law_1304 ?_
  refine k_iload 3 rfl dL_law_1305 ?_
  refine k_iload 1 rfl dL_law_1307 ?_
  refine k_callW (n := 4) (As := [.ref _, .int _, .int _, .int _]) (fun kv τ hg => wn_shop X hst ad _ _ _ _ kv τ hg) ⟨by decide, by decide, by decide +kernel⟩ w_601 w_602 w_502 w_557 rfl rfl (Nat.le_of_ble_eq_true rfl) ⟨by decide, by decide⟩ ⟨by decide, by decide⟩ dL_law_1309 (fun v69 σ70 a1 hFa1 => ?_)
  rw [← hFa1 0 0 (by decide), ← hFa1 71 0 (by decide), ← hFa1 72 0 (by decide), ← hFa1 73 0 (by decide), ← hFa1 74 0 (by decide), ← hFa1 75 0 (by decide), ← hFa1 76 0 (by decide), ← hFa1 77 0 (by decide)]
  refine k_iload 0 rfl dL_law_1312 ?_
  refine k_if_eq 1324 dL_law_1314 (by decide) ?_ ?_
  · refine k_sipush (-1003) (by decide) dL_law_1324 ?_
    exact k_less (by omega) (k_sub [0, 1, 2, 4, 5, 6, 7, 8, 9, 10, 11, 12, 13, 14, 15, 16, 17] rfl (bj_L_law_1327 X hst b L xs N hk600 a1 _ _ _ _ _ _ _ _ _ _ _))
  · refine k_iload 1 rfl dL_law_1317 ?_
    refine k_iconst (1) (by decide) dL_law_1319 ?_
    refine k_iadd dL_law_1320 ?_
    refine k_goto 1327 dL_law_1321 (by decide) ?_
    exact k_less (by omega) (k_sub [0, 1, 2, 4, 5, 6, 7, 8, 9, 10, 11, 12, 13, 14, 15, 16, 17] rfl (bj_L_law_1327 X hst b L xs N hk600 a1 _ _ _ _ _ _ _ _ _ _ _))
theorem bj_L_law_1300 (X : Xt) (hst : X.1.stackTraces = false) (b L : Nat) (xs : Nat → Int32) (N : Nat) {k600 : Wd → Int32 → Int32 → Int32 → Int32 → Int32 → Int32 → Option Unit} (hk600 : ∀ (ad : Ad) (σ : Wd) (a14 : Int32) (a13 : Int32) (a12 : Int32) (a11 : Int32) (a10 : Int32) (a9 : Int32), Lk X b L xs (N) ad σ 600 [(14, .int a14), (13, .int a13), (12, .int a12), (11, .int a11), (10, .int a10), (9, .int a9), (0, .ref b), (1, .ref (ad 0 0)), (2, .ref (ad 71 0)), (3, .ref (ad 72 0)), (4, .ref (ad 73 0)), (5, .ref (ad 74 0)), (6, .ref (ad 75 0)), (7, .ref (ad 76 0)), (8, .ref (ad 77 0))] [] (k600 σ a14 a13 a12 a11 a10 a9)) (ad : Ad) (σ : Wd) (a20 : Int32) (a19 : Int32) (a17 : Int32) (a14 : Int32) (a12 : Int32) (a11 : Int32) (a10 : Int32) (a9 : Int32) : Lk X b L xs (N + 1) ad σ 1300 [(20, .int a20), (19, .int a19), (17, .int a17), (14, .int a14), (12, .int a12), (11, .int a11), (10, .int a10), (9, .int a9), (0, .ref b), (1, .ref (ad 0 0)), (2, .ref (ad 71 0)), (3, .ref (ad 72 0)), (4, .ref (ad 73 0)), (5, .ref (ad 74 0)), (6, .ref (ad 75 0)), (7, .ref (ad 76 0)), (8, .ref (ad 77 0))] [] (j_L_law_1300 L xs k600 σ a20 a19 a17 a14 a12 a11 a10 a9) := by
  unfold j_L_law_1300
  refine k_iconst (0) (by decide) dL_law_1300 ?_
  exact k_less (by omega) (k_sub [0, 1, 2, 3, 4, 5, 6, 7, 8, 9, 10, 11, 12, 13, 14, 15, 16] rfl (bj_L_law_1301 X hst b L xs N hk600 ad _ _ _ _ _ _ _ _ _ _))
theorem bj_L_law_902 (X : Xt) (hst : X.1.stackTraces = false) (b L : Nat) (xs : Nat → Int32) (N : Nat) {k600 : Wd → Int32 → Int32 → Int32 → Int32 → Int32 → Int32 → Option Unit} (hk600 : ∀ (ad : Ad) (σ : Wd) (a14 : Int32) (a13 : Int32) (a12 : Int32) (a11 : Int32) (a10 : Int32) (a9 : Int32), Lk X b L xs (N) ad σ 600 [(14, .int a14), (13, .int a13), (12, .int a12), (11, .int a11), (10, .int a10), (9, .int a9), (0, .ref b), (1, .ref (ad 0 0)), (2, .ref (ad 71 0)), (3, .ref (ad 72 0)), (4, .ref (ad 73 0)), (5, .ref (ad 74 0)), (6, .ref (ad 75 0)), (7, .ref (ad 76 0)), (8, .ref (ad 77 0))] [] (k600 σ a14 a13 a12 a11 a10 a9)) (ad : Ad) (σ : Wd) (a13 : Int32) (a14 : Int32) (a12 : Int32) (a11 : Int32) (a10 : Int32) (a9 : Int32) : Lk X b L xs (N) ad σ 902 [(13, .int a13), (14, .int a14), (12, .int a12), (11, .int a11), (10, .int a10), (9, .int a9), (0, .ref b), (1, .ref (ad 0 0)), (2, .ref (ad 71 0)), (3, .ref (ad 72 0)), (4, .ref (ad 73 0)), (5, .ref (ad 74 0)), (6, .ref (ad 75 0)), (7, .ref (ad 76 0)), (8, .ref (ad 77 0))] [] (j_L_law_902 L xs k600 σ a13 a14 a12 a11 a10 a9) := by
  unfold j_L_law_902
  refine k_goto 1937 dL_law_902 (by decide) ?_
  exact k_less (by omega) (k_sub [0, 1, 2, 3, 4, 5, 6, 7, 8, 9, 10, 11, 12, 13, 14] rfl (bj_L_law_1937 X hst b L xs N hk600 ad _ _ _ _ _ _ _))
theorem bj_L_law_890 (X : Xt) (hst : X.1.stackTraces = false) (b L : Nat) (xs : Nat → Int32) (N : Nat) {k600 : Wd → Int32 → Int32 → Int32 → Int32 → Int32 → Int32 → Option Unit} (hk600 : ∀ (ad : Ad) (σ : Wd) (a14 : Int32) (a13 : Int32) (a12 : Int32) (a11 : Int32) (a10 : Int32) (a9 : Int32), Lk X b L xs (N) ad σ 600 [(14, .int a14), (13, .int a13), (12, .int a12), (11, .int a11), (10, .int a10), (9, .int a9), (0, .ref b), (1, .ref (ad 0 0)), (2, .ref (ad 71 0)), (3, .ref (ad 72 0)), (4, .ref (ad 73 0)), (5, .ref (ad 74 0)), (6, .ref (ad 75 0)), (7, .ref (ad 76 0)), (8, .ref (ad 77 0))] [] (k600 σ a14 a13 a12 a11 a10 a9)) (ad : Ad) (σ : Wd) (a13 : Int32) (a19 : Int32) (a14 : Int32) (a12 : Int32) (a11 : Int32) (a10 : Int32) (a9 : Int32) (s0 : Int32) (s1 : Int32) : Lk X b L xs (N) ad σ 890 [(13, .int a13), (19, .int a19), (14, .int a14), (12, .int a12), (11, .int a11), (10, .int a10), (9, .int a9), (0, .ref b), (1, .ref (ad 0 0)), (2, .ref (ad 71 0)), (3, .ref (ad 72 0)), (4, .ref (ad 73 0)), (5, .ref (ad 74 0)), (6, .ref (ad 75 0)), (7, .ref (ad 76 0)), (8, .ref (ad 77 0))] [.int s0, .int s1, .ref (ad 73 0)] (j_L_law_890 L xs k600 σ a13 a19 a14 a12 a11 a10 a9 s0 s1) := by
  unfold j_L_law_890
  refine k_gd (fun h32 => ?_)
  refine k_bd ?_
  refine k_iastore (lvs_73 _) (ia_73 _ _ _) h32 dL_law_890 ?_
  refine k_aload_n 9 rfl dL_law_891 ?_
  refine k_iload 1 rfl dL_law_892 ?_
  refine k_bipush (12) (by decide) dL_law_894 ?_
  refine k_iadd dL_law_896 ?_
  refine k_dup2 rfl rfl dL_law_897 ?_
  refine k_gd (fun h33 => ?_)
  refine k_iaload (lvs_71 _) (cell_71 _ _ _ _) h33 dL_law_898 ?_
  refine k_iconst (1) (by decide) dL_law_899 ?_
  refine k_iadd dL_law_900 ?_
  refine k_bd ?_
  refine k_iastore (lvs_71 _) (ia_71 _ _ _) h33 dL_law_901 ?_
  exact k_less (by omega) (k_sub [0, 2, 3, 4, 5, 6, 7, 8, 9, 10, 11, 12, 13, 14, 15] rfl (bj_L_law_902 X hst b L xs N hk600 ad _ _ _ _ _ _ _))
theorem bj_L_law_862 (X : Xt) (hst : X.1.stackTraces = false) (b L : Nat) (xs : Nat → Int32) (N : Nat) {k600 : Wd → Int32 → Int32 → Int32 → Int32 → Int32 → Int32 → Option Unit} (hk600 : ∀ (ad : Ad) (σ : Wd) (a14 : Int32) (a13 : Int32) (a12 : Int32) (a11 : Int32) (a10 : Int32) (a9 : Int32), Lk X b L xs (N) ad σ 600 [(14, .int a14), (13, .int a13), (12, .int a12), (11, .int a11), (10, .int a10), (9, .int a9), (0, .ref b), (1, .ref (ad 0 0)), (2, .ref (ad 71 0)), (3, .ref (ad 72 0)), (4, .ref (ad 73 0)), (5, .ref (ad 74 0)), (6, .ref (ad 75 0)), (7, .ref (ad 76 0)), (8, .ref (ad 77 0))] [] (k600 σ a14 a13 a12 a11 a10 a9)) (ad : Ad) (σ : Wd) (a13 : Int32) (a22 : Int32) (a21 : Int32) (a19 : Int32) (a18 : Int32) (a17 : Int32) (a14 : Int32) (a12 : Int32) (a11 : Int32) (a10 : Int32) (a9 : Int32) (s0 : Int32) (s1 : Int32) : Lk X b L xs (N) ad σ 862 [(13, .int a13), (22, .int a22), (21, .int a21), (19, .int a19), (18, .int a18), (17, .int a17), (14, .int a14), (12, .int a12), (11, .int a11), (10, .int a10), (9, .int a9), (0, .ref b), (1, .ref (ad 0 0)), (2, .ref (ad 71 0)), (3, .ref (ad 72 0)), (4, .ref (ad 73 0)), (5, .ref (ad 74 0)), (6, .ref (ad 75 0)), (7, .ref (ad 76 0)), (8, .ref (ad 77 0))] [.int s0, .int s1, .ref (ad 73 0)] (j_L_law_862 L xs k600 σ a13 a22 a21 a19 a18 a17 a14 a12 a11 a10 a9 s0 s1) := by
  unfold j_L_law_862
  refine k_gd (fun h31 => ?_)
  refine k_bd ?_
  refine k_iastore (lvs_73 _) (ia_73 _ _ _) h31 dL_law_862 ?_
  refine k_aload 15 rfl dL_law_863 ?_
  refine k_bipush (32) (by decide) dL_law_865 ?_
  refine k_bipush (8) (by decide) dL_law_867 ?_
  refine k_iload 5 rfl dL_law_869 ?_
  refine k_imul dL_law_871 ?_
  refine k_iadd dL_law_872 ?_
  refine k_iload 1 rfl dL_law_873 ?_
  refine k_iadd dL_law_875 ?_
  refine k_iload 4 rfl dL_law_876 ?_
  refine k_iconst (2) (by decide) dL_law_878 ?_
  refine k_irem (by decide) dL_law_879 ?_
  refine k_iconst (1) (by decide) dL_law_880 ?_
  refine k_icmp_ne 888 dL_law_881 (by decide) ?_ ?_
  · refine k_iconst (-1) (by decide) dL_law_884 ?_
    refine k_goto 890 dL_law_885 (by decide) ?_
    exact k_less (by omega) (k_sub [0, 3, 6, 7, 8, 9, 10, 11, 12, 13, 14, 15, 16, 17, 18, 19] rfl (bj_L_law_890 X hst b L xs N hk600 ad _ _ _ _ _ _ _ _ _ _))
  · refine k_iload 2 rfl dL_law_888 ?_
    exact k_less (by omega) (k_sub [0, 3, 6, 7, 8, 9, 10, 11, 12, 13, 14, 15, 16, 17, 18, 19] rfl (bj_L_law_890 X hst b L xs N hk600 ad _ _ _ _ _ _ _ _ _ _))
theorem bj_L_law_804 (X : Xt) (hst : X.1.stackTraces = false) (b L : Nat) (xs : Nat → Int32) (N : Nat) {k600 : Wd → Int32 → Int32 → Int32 → Int32 → Int32 → Int32 → Option Unit} (hk600 : ∀ (ad : Ad) (σ : Wd) (a14 : Int32) (a13 : Int32) (a12 : Int32) (a11 : Int32) (a10 : Int32) (a9 : Int32), Lk X b L xs (N) ad σ 600 [(14, .int a14), (13, .int a13), (12, .int a12), (11, .int a11), (10, .int a10), (9, .int a9), (0, .ref b), (1, .ref (ad 0 0)), (2, .ref (ad 71 0)), (3, .ref (ad 72 0)), (4, .ref (ad 73 0)), (5, .ref (ad 74 0)), (6, .ref (ad 75 0)), (7, .ref (ad 76 0)), (8, .ref (ad 77 0))] [] (k600 σ a14 a13 a12 a11 a10 a9)) (ad : Ad) (σ : Wd) (a22 : Int32) (a21 : Int32) (a20 : Int32) (a19 : Int32) (a18 : Int32) (a17 : Int32) (a14 : Int32) (a12 : Int32) (a11 : Int32) (a10 : Int32) (a9 : Int32) (s0 : Int32) : Lk X b L xs (N) ad σ 804 [(22, .int a22), (21, .int a21), (20, .int a20), (19, .int a19), (18, .int a18), (17, .int a17), (14, .int a14), (12, .int a12), (11, .int a11), (10, .int a10), (9, .int a9), (0, .ref b), (1, .ref (ad 0 0)), (2, .ref (ad 71 0)), (3, .ref (ad 72 0)), (4, .ref (ad 73 0)), (5, .ref (ad 74 0)), (6, .ref (ad 75 0)), (7, .ref (ad 76 0)), (8, .ref (ad 77 0))] [.int s0] (j_L_law_804 L xs k600 σ a22 a21 a20 a19 a18 a17 a14 a12 a11 a10 a9 s0) := by
  unfold j_L_law_804
  refine k_istore [(13, .int _), (22, .int _), (21, .int _), (20, .int _), (19, .int _), (18, .int _), (17, .int _), (14, .int _), (12, .int _), (11, .int _), (10, .int _), (9, .int _), (0, .ref _), (1, .ref _), (2, .ref _), (3, .ref _), (4, .ref _), (5, .ref _), (6, .ref _), (7, .ref _), (8, .ref _)] rfl (by decide) dL_law_804 ?_
  refine k_iload 1 rfl dL_law_806 ?_
  refine k_bipush (8) (by decide) dL_law_808 ?_
  refine k_icmp_ge 902 dL_law_810 (by decide) ?_ ?_
  · exact k_less (by omega) (k_sub [0, 7, 8, 9, 10, 11, 12, 13, 14, 15, 16, 17, 18, 19, 20] rfl (bj_L_law_902 X hst b L xs N hk600 ad _ _ _ _ _ _ _))
  · refine k_aload_n 15 rfl dL_law_813 ?_
    refine k_bipush (8) (by decide) dL_law_814 ?_
    refine k_iload 6 rfl dL_law_816 ?_
    refine k_imul dL_law_818 ?_
    refine k_iload 1 rfl dL_law_819 ?_
    refine k_iadd dL_law_821 ?_
    refine k_iload 5 rfl dL_law_822 ?_
    refine k_gd (fun h29 => ?_)
    refine k_bd ?_
    refine k_iastore (lvs_72 _) (ia_72 _ _ _) h29 dL_law_824 ?_
    refine k_aload_n 15 rfl dL_law_825 ?_
    refine k_bipush (32) (by decide) dL_law_826 ?_
    refine k_bipush (8) (by decide) dL_law_828 ?_
    refine k_iload 6 rfl dL_law_830 ?_
    refine k_imul dL_law_832 ?_
    refine k_iadd dL_law_833 ?_
    refine k_iload 1 rfl dL_law_834 ?_
    refine k_iadd dL_law_836 ?_
    refine k_iload 11 rfl dL_law_837 ?_
    refine k_gd (fun h30 => ?_)
    refine k_bd ?_
    refine k_iastore (lvs_72 _) (ia_72 _ _ _) h30 dL_law_839 ?_
    refine k_aload 16 rfl dL_law_840 ?_
    refine k_bipush (8) (by decide) dL_law_842 ?_
    refine k_iload 6 rfl dL_law_844 ?_
    refine k_imul dL_law_846 ?_
    refine k_iload 1 rfl dL_law_847 ?_
    refine k_iadd dL_law_849 ?_
    refine k_iload 5 rfl dL_law_850 ?_
    refine k_iconst (1) (by decide) dL_law_852 ?_
    refine k_icmp_le 860 dL_law_853 (by decide) ?_ ?_
    · refine k_iload 3 rfl dL_law_860 ?_
      exact k_less (by omega) (k_sub [0, 1, 2, 4, 5, 6, 7, 8, 9, 10, 11, 12, 13, 14, 15, 16, 17, 18, 19, 20] rfl (bj_L_law_862 X hst b L xs N hk600 ad _ _ _ _ _ _ _ _ _ _ _ _ _ _))
    · refine k_iconst (-1) (by decide) dL_law_856 ?_
      refine k_goto 862 dL_law_857 (by decide) ?_
      exact k_less (by omega) (k_sub [0, 1, 2, 4, 5, 6, 7, 8, 9, 10, 11, 12, 13, 14, 15, 16, 17, 18, 19, 20] rfl (bj_L_law_862 X hst b L xs N hk600 ad _ _ _ _ _ _ _ _ _ _ _ _ _ _))
theorem bj_L_law_796 (X : Xt) (hst : X.1.stackTraces = false) (b L : Nat) (xs : Nat → Int32) (N : Nat) {k600 : Wd → Int32 → Int32 → Int32 → Int32 → Int32 → Int32 → Option Unit} (hk600 : ∀ (ad : Ad) (σ : Wd) (a14 : Int32) (a13 : Int32) (a12 : Int32) (a11 : Int32) (a10 : Int32) (a9 : Int32), Lk X b L xs (N) ad σ 600 [(14, .int a14), (13, .int a13), (12, .int a12), (11, .int a11), (10, .int a10), (9, .int a9), (0, .ref b), (1, .ref (ad 0 0)), (2, .ref (ad 71 0)), (3, .ref (ad 72 0)), (4, .ref (ad 73 0)), (5, .ref (ad 74 0)), (6, .ref (ad 75 0)), (7, .ref (ad 76 0)), (8, .ref (ad 77 0))] [] (k600 σ a14 a13 a12 a11 a10 a9)) (ad : Ad) (σ : Wd) (a22 : Int32) (a21 : Int32) (a20 : Int32) (a19 : Int32) (a18 : Int32) (a17 : Int32) (a14 : Int32) (a12 : Int32) (a11 : Int32) (a10 : Int32) (a9 : Int32) (s0 : Int32) (s1 : Int32) : Lk X b L xs (N) ad σ 796 [(22, .int a22), (21, .int a21), (20, .int a20), (19, .int a19), (18, .int a18), (17, .int a17), (14, .int a14), (12, .int a12), (11, .int a11), (10, .int a10), (9, .int a9), (0, .ref b), (1, .ref (ad 0 0)), (2, .ref (ad 71 0)), (3, .ref (ad 72 0)), (4, .ref (ad 73 0)), (5, .ref (ad 74 0)), (6, .ref (ad 75 0)), (7, .ref (ad 76 0)), (8, .ref (ad 77 0))] [.int s0, .int s1] (j_L_law_796 L xs k600 σ a22 a21 a20 a19 a18 a17 a14 a12 a11 a10 a9 s0 s1) := by
  unfold j_L_law_796
  refine k_icmp_ne 803 dL_law_796 (by decide) ?_ ?_
  · refine k_iconst (1) (by decide) dL_law_799 ?_
    refine k_goto 804 dL_law_800 (by decide) ?_
    exact k_less (by omega) (k_sub [0, 1, 2, 3, 4, 5, 6, 7, 8, 9, 10, 11, 12, 13, 14, 15, 16, 17, 18, 19] rfl (bj_L_law_804 X hst b L xs N hk600 ad _ _ _ _ _ _ _ _ _ _ _ _ _))
  · refine k_iconst (0) (by decide) dL_law_803 ?_
    exact k_less (by omega) (k_sub [0, 1, 2, 3, 4, 5, 6, 7, 8, 9, 10, 11, 12, 13, 14, 15, 16, 17, 18, 19] rfl (bj_L_law_804 X hst b L xs N hk600 ad _ _ _ _ _ _ _ _ _ _ _ _ _))
theorem bj_L_law_756 (X : Xt) (hst : X.1.stackTraces = false) (b L : Nat) (xs : Nat → Int32) (N : Nat) {k600 : Wd → Int32 → Int32 → Int32 → Int32 → Int32 → Int32 → Option Unit} (hk600 : ∀ (ad : Ad) (σ : Wd) (a14 : Int32) (a13 : Int32) (a12 : Int32) (a11 : Int32) (a10 : Int32) (a9 : Int32), Lk X b L xs (N) ad σ 600 [(14, .int a14), (13, .int a13), (12, .int a12), (11, .int a11), (10, .int a10), (9, .int a9), (0, .ref b), (1, .ref (ad 0 0)), (2, .ref (ad 71 0)), (3, .ref (ad 72 0)), (4, .ref (ad 73 0)), (5, .ref (ad 74 0)), (6, .ref (ad 75 0)), (7, .ref (ad 76 0)), (8, .ref (ad 77 0))] [] (k600 σ a14 a13 a12 a11 a10 a9)) (ad : Ad) (σ : Wd) (a20 : Int32) (a19 : Int32) (a18 : Int32) (a17 : Int32) (a14 : Int32) (a12 : Int32) (a11 : Int32) (a10 : Int32) (a9 : Int32) (s0 : Int32) : Lk X b L xs (N + 1) ad σ 756 [(20, .int a20), (19, .int a19), (18, .int a18), (17, .int a17), (14, .int a14), (12, .int a12), (11, .int a11), (10, .int a10), (9, .int a9), (0, .ref b), (1, .ref (ad 0 0)), (2, .ref (ad 71 0)), (3, .ref (ad 72 0)), (4, .ref (ad 73 0)), (5, .ref (ad 74 0)), (6, .ref (ad 75 0)), (7, .ref (ad 76 0)), (8, .ref (ad 77 0))] [.int s0] (j_L_law_756 L xs k600 σ a20 a19 a18 a17 a14 a12 a11 a10 a9 s0) := by
  unfold j_L_law_756
  refine k_istore [(21, .int _), (20, .int _), (19, .int _), (18, .int _), (17, .int _), (14, .int _), (12, .int _), (11, .int _), (10, .int _), (9, .int _), (0, .ref _), (1, .ref _), (2, .ref _), (3, .ref _), (4, .ref _), (5, .ref _), (6, .ref _), (7, .ref _), (8, .ref _)] rfl (by decide) dL_law_756 ?_
  refine k_aload_n 12 rfl dL_law_758 ?_
  refine k_iload 2 rfl dL_law_759 ?_
  refine k_bipush (12) (by decide) dL_law_761 ?_
  refine k_iadd dL_law_763 ?_
  refine k_gd (fun h28 => ?_)
  refine k_iaload (lvs_71 _) (cell_71 _ _ _ _) h28 dL_law_764 ?_
  refine k_bd ?_
  refine k_istore [(22, .int _), (21, .int _), (20, .int _), (19, .int _), (18, .int _), (17, .int _), (14, .int _), (12, .int _), (11, .int _), (10, .int _), (9, .int _), (0, .ref _), (1, .ref _), (2, .ref _), (3, .ref _), (4, .ref _), (5, .ref _), (6, .ref _), (7, .ref _), (8, .ref _)] rfl (by decide) dL_law_765 ?_
  refine k_aload_n 12 rfl dL_law_767 ?_
  refine k_iload 5 rfl dL_law_768 ?_
  refine k_iload 4 rfl dL_law_770 ?_
  refine k_iload 2 rfl dL_law_772 ?_
  refine k_iload 1 rfl dL_law_774 ?_
  refine k_callW (n := 5) (As := [.ref _, .int _, .int _, .int _, .int _]) (fun kv τ hg => wn_told X hst ad _ _ _ _ _ kv τ hg) ⟨by decide, by decide, by decide +kernel⟩ w_621 w_622 w_502 w_574 rfl rfl (Nat.le_of_ble_eq_true rfl) ⟨by decide, by decide⟩ ⟨by decide, by decide⟩ dL_law_776 (fun v78 σ79 a1 hFa1 => ?_)
  rw [← hFa1 0 0 (by decide), ← hFa1 71 0 (by decide), ← hFa1 72 0 (by decide), ← hFa1 73 0 (by decide), ← hFa1 74 0 (by decide), ← hFa1 75 0 (by decide), ← hFa1 76 0 (by decide), ← hFa1 77 0 (by decide)]
  refine k_iload 0 rfl dL_law_779 ?_
  refine k_bipush (8) (by decide) dL_law_781 ?_
  refine k_icmp_ne 792 dL_law_783 (by decide) ?_ ?_
  · refine k_sipush (-1003) (by decide) dL_law_786 ?_
    refine k_goto 796 dL_law_789 (by decide) ?_
    exact k_less (by omega) (k_sub [0, 1, 2, 3, 4, 5, 6, 7, 8, 9, 10, 11, 12, 13, 14, 15, 16, 17, 18, 19] rfl (bj_L_law_796 X hst b L xs N hk600 a1 _ _ _ _ _ _ _ _ _ _ _ _ _ _))
  · refine k_iload 0 rfl dL_law_792 ?_
    refine k_iconst (1) (by decide) dL_law_794 ?_
    refine k_iadd dL_law_795 ?_
    exact k_less (by omega) (k_sub [0, 1, 2, 3, 4, 5, 6, 7, 8, 9, 10, 11, 12, 13, 14, 15, 16, 17, 18, 19] rfl (bj_L_law_796 X hst b L xs N hk600 a1 _ _ _ _ _ _ _ _ _ _ _ _ _ _))
theorem bj_L_law_696 (X : Xt) (hst : X.1.stackTraces = false) (b L : Nat) (xs : Nat → Int32) (N : Nat) {k600 : Wd → Int32 → Int32 → Int32 → Int32 → Int32 → Int32 → Option Unit} (hk600 : ∀ (ad : Ad) (σ : Wd) (a14 : Int32) (a13 : Int32) (a12 : Int32) (a11 : Int32) (a10 : Int32) (a9 : Int32), Lk X b L xs (N) ad σ 600 [(14, .int a14), (13, .int a13), (12, .int a12), (11, .int a11), (10, .int a10), (9, .int a9), (0, .ref b), (1, .ref (ad 0 0)), (2, .ref (ad 71 0)), (3, .ref (ad 72 0)), (4, .ref (ad 73 0)), (5, .ref (ad 74 0)), (6, .ref (ad 75 0)), (7, .ref (ad 76 0)), (8, .ref (ad 77 0))] [] (k600 σ a14 a13 a12 a11 a10 a9)) (ad : Ad) (σ : Wd) (a19 : Int32) (a18 : Int32) (a17 : Int32) (a15 : Int32) (a14 : Int32) (a12 : Int32) (a11 : Int32) (a10 : Int32) (a9 : Int32) (s0 : Int32) : Lk X b L xs (N + 1) ad σ 696 [(19, .int a19), (18, .int a18), (17, .int a17), (15, .int a15), (14, .int a14), (12, .int a12), (11, .int a11), (10, .int a10), (9, .int a9), (0, .ref b), (1, .ref (ad 0 0)), (2, .ref (ad 71 0)), (3, .ref (ad 72 0)), (4, .ref (ad 73 0)), (5, .ref (ad 74 0)), (6, .ref (ad 75 0)), (7, .ref (ad 76 0)), (8, .ref (ad 77 0))] [.int s0] (j_L_law_696 L xs k600 σ a19 a18 a17 a15 a14 a12 a11 a10 a9 s0) := by
  unfold j_L_law_696
  refine k_istore [(20, .int _), (19, .int _), (18, .int _), (17, .int _), (15, .int _), (14, .int _), (12, .int _), (11, .int _), (10, .int _), (9, .int _), (0, .ref _), (1, .ref _), (2, .ref _), (3, .ref _), (4, .ref _), (5, .ref _), (6, .ref _), (7, .ref _), (8, .ref _)] rfl (by decide) dL_law_696 ?_
  refine k_iload 2 rfl dL_law_698 ?_
  refine k_if_ne 719 dL_law_700 (by decide) ?_ ?_
  · refine k_iconst (1) (by decide) dL_law_703 ?_
    refine k_iload 4 rfl dL_law_704 ?_
    refine k_sipush (512) (by decide) dL_law_706 ?_
    refine k_idiv (by decide) dL_law_709 ?_
    refine k_bipush (20) (by decide) dL_law_710 ?_
    refine k_callS (n := 2) (As := [.int _, .int _]) (nc_L_up X hst ad _ _ _) ⟨by decide, by decide, by decide +kernel⟩ w_582 w_583 w_502 w_584 rfl rfl (Nat.le_of_ble_eq_true rfl) ⟨by decide, by decide⟩ dL_law_712 (fun v75 σ76 => ?_)
    refine k_iadd dL_law_715 ?_
    refine k_goto 756 dL_law_716 (by decide) ?_
    exact k_less (by omega) (k_sub [0, 1, 2, 3, 5, 6, 7, 8, 9, 10, 11, 12, 13, 14, 15, 16, 17, 18] rfl (bj_L_law_756 X hst b L xs N hk600 ad _ _ _ _ _ _ _ _ _ _ _))
  · refine k_iload 2 rfl dL_law_719 ?_
    refine k_iconst (2) (by decide) dL_law_721 ?_
    refine k_icmp_ne 741 dL_law_722 (by decide) ?_ ?_
    · refine k_iconst (1) (by decide) dL_law_725 ?_
      refine k_iload 4 rfl dL_law_726 ?_
      refine k_sipush (512) (by decide) dL_law_728 ?_
      refine k_idiv (by decide) dL_law_731 ?_
      refine k_bipush (100) (by decide) dL_law_732 ?_
      refine k_callS (n := 2) (As := [.int _, .int _]) (nc_L_up X hst ad _ _ _) ⟨by decide, by decide, by decide +kernel⟩ w_582 w_583 w_502 w_584 rfl rfl (Nat.le_of_ble_eq_true rfl) ⟨by decide, by decide⟩ dL_law_734 (fun v85 σ86 => ?_)
      refine k_iadd dL_law_737 ?_
      refine k_goto 756 dL_law_738 (by decide) ?_
      exact k_less (by omega) (k_sub [0, 1, 2, 3, 5, 6, 7, 8, 9, 10, 11, 12, 13, 14, 15, 16, 17, 18] rfl (bj_L_law_756 X hst b L xs N hk600 ad _ _ _ _ _ _ _ _ _ _ _))
    · refine k_iload 4 rfl dL_law_741 ?_
      refine k_sipush (512) (by decide) dL_law_743 ?_
      refine k_idiv (by decide) dL_law_746 ?_
      refine k_sipush (300) (by decide) dL_law_747 ?_
      refine k_callS (n := 2) (As := [.int _, .int _]) (nc_L_up X hst ad _ _ _) ⟨by decide, by decide, by decide +kernel⟩ w_582 w_583 w_502 w_584 rfl rfl (Nat.le_of_ble_eq_true rfl) ⟨by decide, by decide⟩ dL_law_750 (fun v87 σ88 => ?_)
      refine k_bipush (100) (by decide) dL_law_753 ?_
      refine k_isub dL_law_755 ?_
      exact k_less (by omega) (k_sub [0, 1, 2, 3, 5, 6, 7, 8, 9, 10, 11, 12, 13, 14, 15, 16, 17, 18] rfl (bj_L_law_756 X hst b L xs N hk600 ad _ _ _ _ _ _ _ _ _ _ _))
