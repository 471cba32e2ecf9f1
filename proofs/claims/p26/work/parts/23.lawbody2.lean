theorem bj_L_law_1571 (X : Xt) (hst : X.1.stackTraces = false) (b L : Nat) (xs : Nat → Int32) (N : Nat) {k600 : Wd → Int32 → Int32 → Int32 → Int32 → Int32 → Int32 → Option Unit} (hk600 : ∀ (ad : Ad) (σ : Wd) (a14 : Int32) (a13 : Int32) (a12 : Int32) (a11 : Int32) (a10 : Int32) (a9 : Int32), Lk X b L xs (N) ad σ 600 [(14, .int a14), (13, .int a13), (12, .int a12), (11, .int a11), (10, .int a10), (9, .int a9), (0, .ref b), (1, .ref (ad 0 0)), (2, .ref (ad 71 0)), (3, .ref (ad 72 0)), (4, .ref (ad 73 0)), (5, .ref (ad 74 0)), (6, .ref (ad 75 0)), (7, .ref (ad 76 0)), (8, .ref (ad 77 0))] [] (k600 σ a14 a13 a12 a11 a10 a9)) (ad : Ad) (σ : Wd) (a21 : Int32) (a20 : Int32) (a19 : Int32) (a17 : Int32) (a14 : Int32) (a12 : Int32) (a11 : Int32) (a10 : Int32) (a9 : Int32) (s0 : Int32) : Lk X b L xs (N) ad σ 1571 [(21, .int a21), (20, .int a20), (19, .int a19), (17, .int a17), (14, .int a14), (12, .int a12), (11, .int a11), (10, .int a10), (9, .int a9), (0, .ref b), (1, .ref (ad 0 0)), (2, .ref (ad 71 0)), (3, .ref (ad 72 0)), (4, .ref (ad 73 0)), (5, .ref (ad 74 0)), (6, .ref (ad 75 0)), (7, .ref (ad 76 0)), (8, .ref (ad 77 0))] [.int s0] (j_L_law_1571 L xs k600 σ a21 a20 a19 a17 a14 a12 a11 a10 a9 s0) := by
  unfold j_L_law_1571
  refine k_istore [(13, .int _), (21, .int _), (20, .int _), (19, .int _), (17, .int _), (14, .int _), (12, .int _), (11, .int _), (10, .int _), (9, .int _), (0, .ref _), (1, .ref _), (2, .ref _), (3, .ref _), (4, .ref _), (5, .ref _), (6, .ref _), (7, .ref _), (8, .ref _)] rfl (by decide) dL_law_1571 ?_
  refine k_iload 6 rfl dL_law_1573 ?_
  refine k_if_ne 1583 dL_law_1575 (by decide) ?_ ?_
  · refine k_iload 2 rfl dL_law_1578 ?_
    refine k_if_eq 1587 dL_law_1580 (by decide) ?_ ?_
    · refine k_iconst (0) (by decide) dL_law_1587 ?_
      exact k_less (by omega) (k_sub [0, 1, 2, 3, 4, 5, 7, 8, 9, 10, 11, 12, 13, 14, 15, 16, 17, 18] rfl (bj_L_law_1588 X hst b L xs N hk600 ad _ _ _ _ _ _ _ _ _ _ _))
    · exact k_less (by omega) (k_sub [0, 1, 2, 3, 4, 5, 7, 8, 9, 10, 11, 12, 13, 14, 15, 16, 17, 18] rfl (bj_L_law_1583 X hst b L xs N hk600 ad _ _ _ _ _ _ _ _ _ _))
  · exact k_less (by omega) (k_sub [0, 1, 2, 3, 4, 5, 7, 8, 9, 10, 11, 12, 13, 14, 15, 16, 17, 18] rfl (bj_L_law_1583 X hst b L xs N hk600 ad _ _ _ _ _ _ _ _ _ _))
theorem bj_L_law_1563 (X : Xt) (hst : X.1.stackTraces = false) (b L : Nat) (xs : Nat → Int32) (N : Nat) {k600 : Wd → Int32 → Int32 → Int32 → Int32 → Int32 → Int32 → Option Unit} (hk600 : ∀ (ad : Ad) (σ : Wd) (a14 : Int32) (a13 : Int32) (a12 : Int32) (a11 : Int32) (a10 : Int32) (a9 : Int32), Lk X b L xs (N) ad σ 600 [(14, .int a14), (13, .int a13), (12, .int a12), (11, .int a11), (10, .int a10), (9, .int a9), (0, .ref b), (1, .ref (ad 0 0)), (2, .ref (ad 71 0)), (3, .ref (ad 72 0)), (4, .ref (ad 73 0)), (5, .ref (ad 74 0)), (6, .ref (ad 75 0)), (7, .ref (ad 76 0)), (8, .ref (ad 77 0))] [] (k600 σ a14 a13 a12 a11 a10 a9)) (ad : Ad) (σ : Wd) (a21 : Int32) (a20 : Int32) (a19 : Int32) (a17 : Int32) (a14 : Int32) (a12 : Int32) (a11 : Int32) (a10 : Int32) (a9 : Int32) (s0 : Int32) (s1 : Int32) : Lk X b L xs (N) ad σ 1563 [(21, .int a21), (20, .int a20), (19, .int a19), (17, .int a17), (14, .int a14), (12, .int a12), (11, .int a11), (10, .int a10), (9, .int a9), (0, .ref b), (1, .ref (ad 0 0)), (2, .ref (ad 71 0)), (3, .ref (ad 72 0)), (4, .ref (ad 73 0)), (5, .ref (ad 74 0)), (6, .ref (ad 75 0)), (7, .ref (ad 76 0)), (8, .ref (ad 77 0))] [.int s0, .int s1] (j_L_law_1563 L xs k600 σ a21 a20 a19 a17 a14 a12 a11 a10 a9 s0 s1) := by
  unfold j_L_law_1563
  refine k_icmp_ne 1570 dL_law_1563 (by decide) ?_ ?_
  · refine k_iconst (1) (by decide) dL_law_1566 ?_
    refine k_goto 1571 dL_law_1567 (by decide) ?_
    exact k_less (by omega) (k_sub [0, 1, 2, 3, 4, 5, 6, 7, 8, 9, 10, 11, 12, 13, 14, 15, 16, 17] rfl (bj_L_law_1571 X hst b L xs N hk600 ad _ _ _ _ _ _ _ _ _ _ _))
  · refine k_iconst (0) (by decide) dL_law_1570 ?_
    exact k_less (by omega) (k_sub [0, 1, 2, 3, 4, 5, 6, 7, 8, 9, 10, 11, 12, 13, 14, 15, 16, 17] rfl (bj_L_law_1571 X hst b L xs N hk600 ad _ _ _ _ _ _ _ _ _ _ _))
theorem bj_L_law_1542 (X : Xt) (hst : X.1.stackTraces = false) (b L : Nat) (xs : Nat → Int32) (N : Nat) {k600 : Wd → Int32 → Int32 → Int32 → Int32 → Int32 → Int32 → Option Unit} (hk600 : ∀ (ad : Ad) (σ : Wd) (a14 : Int32) (a13 : Int32) (a12 : Int32) (a11 : Int32) (a10 : Int32) (a9 : Int32), Lk X b L xs (N) ad σ 600 [(14, .int a14), (13, .int a13), (12, .int a12), (11, .int a11), (10, .int a10), (9, .int a9), (0, .ref b), (1, .ref (ad 0 0)), (2, .ref (ad 71 0)), (3, .ref (ad 72 0)), (4, .ref (ad 73 0)), (5, .ref (ad 74 0)), (6, .ref (ad 75 0)), (7, .ref (ad 76 0)), (8, .ref (ad 77 0))] [] (k600 σ a14 a13 a12 a11 a10 a9)) (ad : Ad) (σ : Wd) (a21 : Int32) (a20 : Int32) (a19 : Int32) (a17 : Int32) (a14 : Int32) (a12 : Int32) (a11 : Int32) (a10 : Int32) (a9 : Int32) : Lk X b L xs (N + 1) ad σ 1542 [(21, .int a21), (20, .int a20), (19, .int a19), (17, .int a17), (14, .int a14), (12, .int a12), (11, .int a11), (10, .int a10), (9, .int a9), (0, .ref b), (1, .ref (ad 0 0)), (2, .ref (ad 71 0)), (3, .ref (ad 72 0)), (4, .ref (ad 73 0)), (5, .ref (ad 74 0)), (6, .ref (ad 75 0)), (7, .ref (ad 76 0)), (8, .ref (ad 77 0))] [] (j_L_law_1542 L xs k600 σ a21 a20 a19 a17 a14 a12 a11 a10 a9) := by
  unfold j_L_law_1542
  refine k_aload_n 10 rfl dL_law_1542 ?_
  refine k_iconst (1) (by decide) dL_law_1543 ?_
  refine k_iload 3 rfl dL_law_1544 ?_
  refine k_iconst (0) (by decide) dL_law_1546 ?_
  refine k_callW (n := 4) (As := [.ref _, .int _, .int _, .int _]) (fun kv τ hg => wn_shop X hst ad _ _ _ _ kv τ hg) ⟨by decide, by decide, by decide +kernel⟩ w_601 w_602 w_502 w_557 rfl rfl (Nat.le_of_ble_eq_true rfl) ⟨by decide, by decide⟩ ⟨by decide, by decide⟩ dL_law_1547 (fun v42 σ43 a1 hFa1 => ?_)
  rw [← hFa1 0 0 (by decide), ← hFa1 71 0 (by decide), ← hFa1 72 0 (by decide), ← hFa1 73 0 (by decide), ← hFa1 74 0 (by decide), ← hFa1 75 0 (by decide), ← hFa1 76 0 (by decide), ← hFa1 77 0 (by decide)]
  refine k_iload 1 rfl dL_law_1550 ?_
  refine k_if_eq 1560 dL_law_1552 (by decide) ?_ ?_
  · refine k_sipush (-1003) (by decide) dL_law_1560 ?_
    exact k_less (by omega) (k_sub [0, 1, 2, 3, 4, 5, 6, 7, 8, 9, 10, 11, 12, 13, 14, 15, 16, 17] rfl (bj_L_law_1563 X hst b L xs N hk600 a1 _ _ _ _ _ _ _ _ _ _ _ _))
  · refine k_iload 0 rfl dL_law_1555 ?_
    refine k_goto 1563 dL_law_1557 (by decide) ?_
    exact k_less (by omega) (k_sub [0, 1, 2, 3, 4, 5, 6, 7, 8, 9, 10, 11, 12, 13, 14, 15, 16, 17] rfl (bj_L_law_1563 X hst b L xs N hk600 a1 _ _ _ _ _ _ _ _ _ _ _ _))
theorem bl_L_law_1462 (X : Xt) (hst : X.1.stackTraces = false) (b L : Nat) (xs : Nat → Int32) (N : Nat) {k1433 : Wd → Int32 → Int32 → Int32 → Int32 → Int32 → Int32 → Int32 → Int32 → Int32 → Int32 → Option Unit} (hk1433 : ∀ (ad : Ad) (σ : Wd) (a22 : Int32) (a21 : Int32) (a20 : Int32) (a19 : Int32) (a17 : Int32) (a14 : Int32) (a12 : Int32) (a11 : Int32) (a10 : Int32) (a9 : Int32), Lk X b L xs (N + 1) ad σ 1433 [(22, .int a22), (21, .int a21), (20, .int a20), (19, .int a19), (17, .int a17), (14, .int a14), (12, .int a12), (11, .int a11), (10, .int a10), (9, .int a9), (0, .ref b), (1, .ref (ad 0 0)), (2, .ref (ad 71 0)), (3, .ref (ad 72 0)), (4, .ref (ad 73 0)), (5, .ref (ad 74 0)), (6, .ref (ad 75 0)), (7, .ref (ad 76 0)), (8, .ref (ad 77 0))] [] (k1433 σ a22 a21 a20 a19 a17 a14 a12 a11 a10 a9)) : ∀ (n : Nat) (ad : Ad) (σ : Wd) (a24 : Int32) (a23 : Int32) (a22 : Int32) (a21 : Int32) (a20 : Int32) (a19 : Int32) (a17 : Int32) (a14 : Int32) (a12 : Int32) (a11 : Int32) (a10 : Int32) (a9 : Int32), Lk X b L xs (N + 1) ad σ 1462 [(24, .int a24), (23, .int a23), (22, .int a22), (21, .int a21), (20, .int a20), (19, .int a19), (17, .int a17), (14, .int a14), (12, .int a12), (11, .int a11), (10, .int a10), (9, .int a9), (0, .ref b), (1, .ref (ad 0 0)), (2, .ref (ad 71 0)), (3, .ref (ad 72 0)), (4, .ref (ad 73 0)), (5, .ref (ad 74 0)), (6, .ref (ad 75 0)), (7, .ref (ad 76 0)), (8, .ref (ad 77 0))] [] (l_L_law_1462 L xs k1433 n σ a24 a23 a22 a21 a20 a19 a17 a14 a12 a11 a10 a9) := by
  intro n
  induction n with
  | zero => intros; exact k_none
  | succ n ih =>
  intro ad σ a24 a23 a22 a21 a20 a19 a17 a14 a12 a11 a10 a9
  rw [l_L_law_1462]
  refine k_iload 0 rfl dL_law_1462 ?_
  refine k_bipush (8) (by decide) dL_law_1464 ?_
  refine k_iload 6 rfl dL_law_1466 ?_
  refine k_imul dL_law_1468 ?_
  refine k_aload_n 14 rfl dL_law_1469 ?_
  refine k_iload 5 rfl dL_law_1470 ?_
  refine k_bipush (12) (by decide) dL_law_1472 ?_
  refine k_iadd dL_law_1474 ?_
  refine k_gd (fun h18 => ?_)
  refine k_iaload (lvs_71 _) (cell_71 _ _ _ _) h18 dL_law_1475 ?_
  refine k_iadd dL_law_1476 ?_
  refine k_icmp_ge 1520 dL_law_1477 (by decide) ?_ ?_
  · refine k_iload 1 rfl dL_law_1520 ?_
    refine k_iload 3 rfl dL_law_1522 ?_
    refine k_icmp_ge 1532 dL_law_1524 (by decide) ?_ ?_
    · refine k_iload 3 rfl dL_law_1532 ?_
      refine k_istore [(21, .int _), (24, .int _), (23, .int _), (22, .int _), (20, .int _), (19, .int _), (17, .int _), (14, .int _), (12, .int _), (11, .int _), (10, .int _), (9, .int _), (0, .ref _), (1, .ref _), (2, .ref _), (3, .ref _), (4, .ref _), (5, .ref _), (6, .ref _), (7, .ref _), (8, .ref _)] rfl (by decide) dL_law_1534 ?_
      refine k_iinc (1) [(22, .int _), (21, .int _), (24, .int _), (23, .int _), (20, .int _), (19, .int _), (17, .int _), (14, .int _), (12, .int _), (11, .int _), (10, .int _), (9, .int _), (0, .ref _), (1, .ref _), (2, .ref _), (3, .ref _), (4, .ref _), (5, .ref _), (6, .ref _), (7, .ref _), (8, .ref _)] 3 rfl (by decide) rfl (by decide) dL_law_1536 ?_
      refine k_goto 1433 dL_law_1539 (by decide) ?_
      exact k_less (by omega) (k_sub [0, 1, 4, 5, 6, 7, 8, 9, 10, 11, 12, 13, 14, 15, 16, 17, 18, 19, 20] rfl (hk1433 ad _ _ _ _ _ _ _ _ _ _ _))
    · refine k_iload 1 rfl dL_law_1527 ?_
      refine k_goto 1534 dL_law_1529 (by decide) ?_
      refine k_istore [(21, .int _), (24, .int _), (23, .int _), (22, .int _), (20, .int _), (19, .int _), (17, .int _), (14, .int _), (12, .int _), (11, .int _), (10, .int _), (9, .int _), (0, .ref _), (1, .ref _), (2, .ref _), (3, .ref _), (4, .ref _), (5, .ref _), (6, .ref _), (7, .ref _), (8, .ref _)] rfl (by decide) dL_law_1534 ?_
      refine k_iinc (1) [(22, .int _), (21, .int _), (24, .int _), (23, .int _), (20, .int _), (19, .int _), (17, .int _), (14, .int _), (12, .int _), (11, .int _), (10, .int _), (9, .int _), (0, .ref _), (1, .ref _), (2, .ref _), (3, .ref _), (4, .ref _), (5, .ref _), (6, .ref _), (7, .ref _), (8, .ref _)] 3 rfl (by decide) rfl (by decide) dL_law_1536 ?_
      refine k_goto 1433 dL_law_1539 (by decide) ?_
      exact k_less (by omega) (k_sub [0, 1, 4, 5, 6, 7, 8, 9, 10, 11, 12, 13, 14, 15, 16, 17, 18, 19, 20] rfl (hk1433 ad _ _ _ _ _ _ _ _ _ _ _))
  · refine k_iload 1 rfl dL_law_1480 ?_
    refine k_aload_n 15 rfl dL_law_1482 ?_
    refine k_iload 0 rfl dL_law_1483 ?_
    refine k_gd (fun h19 => ?_)
    refine k_iaload (lvs_72 _) (cell_72 _ _ _ _) h19 dL_law_1485 ?_
    refine k_if_ne 1510 dL_law_1486 (by decide) ?_ ?_
    · refine k_aload 16 rfl dL_law_1489 ?_
      refine k_iload 0 rfl dL_law_1491 ?_
      refine k_iaload (lvs_73 _) (cell_73 _ _ _ _) h19 dL_law_1493 ?_
      refine k_iload 2 rfl dL_law_1494 ?_
      refine k_icmp_ne 1510 dL_law_1496 (by decide) ?_ ?_
      · refine k_aload 16 rfl dL_law_1499 ?_
        refine k_bipush (32) (by decide) dL_law_1501 ?_
        refine k_iload 0 rfl dL_law_1503 ?_
        refine k_iadd dL_law_1505 ?_
        refine k_gd (fun h20 => ?_)
        refine k_iaload (lvs_73 _) (cell_73 _ _ _ _) h20 dL_law_1506 ?_
        refine k_goto 1511 dL_law_1507 (by decide) ?_
        refine k_isub dL_law_1511 ?_
        refine k_bd ?_
        refine k_istore [(23, .int _), (24, .int _), (22, .int _), (21, .int _), (20, .int _), (19, .int _), (17, .int _), (14, .int _), (12, .int _), (11, .int _), (10, .int _), (9, .int _), (0, .ref _), (1, .ref _), (2, .ref _), (3, .ref _), (4, .ref _), (5, .ref _), (6, .ref _), (7, .ref _), (8, .ref _)] rfl (by decide) dL_law_1512 ?_
        refine k_iinc (1) [(24, .int _), (23, .int _), (22, .int _), (21, .int _), (20, .int _), (19, .int _), (17, .int _), (14, .int _), (12, .int _), (11, .int _), (10, .int _), (9, .int _), (0, .ref _), (1, .ref _), (2, .ref _), (3, .ref _), (4, .ref _), (5, .ref _), (6, .ref _), (7, .ref _), (8, .ref _)] 1 rfl (by decide) rfl (by decide) dL_law_1514 ?_
        refine k_goto 1462 dL_law_1517 (by decide) ?_
        exact k_less (by omega) (k_sub [0, 1, 2, 3, 4, 5, 6, 7, 8, 9, 10, 11, 12, 13, 14, 15, 16, 17, 18, 19, 20] rfl (ih ad _ _ _ _ _ _ _ _ _ _ _ _ _))
      · refine k_iconst (0) (by decide) dL_law_1510 ?_
        refine k_isub dL_law_1511 ?_
        refine k_istore [(23, .int _), (24, .int _), (22, .int _), (21, .int _), (20, .int _), (19, .int _), (17, .int _), (14, .int _), (12, .int _), (11, .int _), (10, .int _), (9, .int _), (0, .ref _), (1, .ref _), (2, .ref _), (3, .ref _), (4, .ref _), (5, .ref _), (6, .ref _), (7, .ref _), (8, .ref _)] rfl (by decide) dL_law_1512 ?_
        refine k_iinc (1) [(24, .int _), (23, .int _), (22, .int _), (21, .int _), (20, .int _), (19, .int _), (17, .int _), (14, .int _), (12, .int _), (11, .int _), (10, .int _), (9, .int _), (0, .ref _), (1, .ref _), (2, .ref _), (3, .ref _), (4, .ref _), (5, .ref _), (6, .ref _), (7, .ref _), (8, .ref _)] 1 rfl (by decide) rfl (by decide) dL_law_1514 ?_
        refine k_goto 1462 dL_law_1517 (by decide) ?_
        exact k_less (by omega) (k_sub [0, 1, 2, 3, 4, 5, 6, 7, 8, 9, 10, 11, 12, 13, 14, 15, 16, 17, 18, 19, 20] rfl (ih ad _ _ _ _ _ _ _ _ _ _ _ _ _))
    · refine k_iconst (0) (by decide) dL_law_1510 ?_
      refine k_isub dL_law_1511 ?_
      refine k_istore [(23, .int _), (24, .int _), (22, .int _), (21, .int _), (20, .int _), (19, .int _), (17, .int _), (14, .int _), (12, .int _), (11, .int _), (10, .int _), (9, .int _), (0, .ref _), (1, .ref _), (2, .ref _), (3, .ref _), (4, .ref _), (5, .ref _), (6, .ref _), (7, .ref _), (8, .ref _)] rfl (by decide) dL_law_1512 ?_
      refine k_iinc (1) [(24, .int _), (23, .int _), (22, .int _), (21, .int _), (20, .int _), (19, .int _), (17, .int _), (14, .int _), (12, .int _), (11, .int _), (10, .int _), (9, .int _), (0, .ref _), (1, .ref _), (2, .ref _), (3, .ref _), (4, .ref _), (5, .ref _), (6, .ref _), (7, .ref _), (8, .ref _)] 1 rfl (by decide) rfl (by decide) dL_law_1514 ?_
      refine k_goto 1462 dL_law_1517 (by decide) ?_
      exact k_less (by omega) (k_sub [0, 1, 2, 3, 4, 5, 6, 7, 8, 9, 10, 11, 12, 13, 14, 15, 16, 17, 18, 19, 20] rfl (ih ad _ _ _ _ _ _ _ _ _ _ _ _ _))
theorem bl_L_law_1433 (X : Xt) (hst : X.1.stackTraces = false) (b L : Nat) (xs : Nat → Int32) (N : Nat) {k600 : Wd → Int32 → Int32 → Int32 → Int32 → Int32 → Int32 → Option Unit} (hk600 : ∀ (ad : Ad) (σ : Wd) (a14 : Int32) (a13 : Int32) (a12 : Int32) (a11 : Int32) (a10 : Int32) (a9 : Int32), Lk X b L xs (N) ad σ 600 [(14, .int a14), (13, .int a13), (12, .int a12), (11, .int a11), (10, .int a10), (9, .int a9), (0, .ref b), (1, .ref (ad 0 0)), (2, .ref (ad 71 0)), (3, .ref (ad 72 0)), (4, .ref (ad 73 0)), (5, .ref (ad 74 0)), (6, .ref (ad 75 0)), (7, .ref (ad 76 0)), (8, .ref (ad 77 0))] [] (k600 σ a14 a13 a12 a11 a10 a9)) : ∀ (n : Nat) (ad : Ad) (σ : Wd) (a22 : Int32) (a21 : Int32) (a20 : Int32) (a19 : Int32) (a17 : Int32) (a14 : Int32) (a12 : Int32) (a11 : Int32) (a10 : Int32) (a9 : Int32), Lk X b L xs (N + 1) ad σ 1433 [(22, .int a22), (21, .int a21), (20, .int a20), (19, .int a19), (17, .int a17), (14, .int a14), (12, .int a12), (11, .int a11), (10, .int a10), (9, .int a9), (0, .ref b), (1, .ref (ad 0 0)), (2, .ref (ad 71 0)), (3, .ref (ad 72 0)), (4, .ref (ad 73 0)), (5, .ref (ad 74 0)), (6, .ref (ad 75 0)), (7, .ref (ad 76 0)), (8, .ref (ad 77 0))] [] (l_L_law_1433 L xs k600 n σ a22 a21 a20 a19 a17 a14 a12 a11 a10 a9) := by
  intro n
  induction n with
  | zero => intros; exact k_none
  | succ n ih =>
  intro ad σ a22 a21 a20 a19 a17 a14 a12 a11 a10 a9
  rw [l_L_law_1433]
  refine k_iload 0 rfl dL_law_1433 ?_
  refine k_iconst (4) (by decide) dL_law_1435 ?_
  refine k_icmp_ge 1542 dL_law_1436 (by decide) ?_ ?_
  · exact k_less (by omega) (k_sub [1, 2, 3, 4, 5, 6, 7, 8, 9, 10, 11, 12, 13, 14, 15, 16, 17, 18] rfl (bj_L_law_1542 X hst b L xs N hk600 ad _ _ _ _ _ _ _ _ _ _))
  · refine k_iload 2 rfl dL_law_1439 ?_
    refine k_if_eq 1542 dL_law_1441 (by decide) ?_ ?_
    · exact k_less (by omega) (k_sub [1, 2, 3, 4, 5, 6, 7, 8, 9, 10, 11, 12, 13, 14, 15, 16, 17, 18] rfl (bj_L_law_1542 X hst b L xs N hk600 ad _ _ _ _ _ _ _ _ _ _))
    · refine k_aload_n 12 rfl dL_law_1444 ?_
      refine k_iload 3 rfl dL_law_1445 ?_
      refine k_iconst (2) (by decide) dL_law_1447 ?_
      refine k_iadd dL_law_1448 ?_
      refine k_iload 0 rfl dL_law_1449 ?_
      refine k_iadd dL_law_1451 ?_
      refine k_gd (fun h17 => ?_)
      refine k_iaload (lvs_71 _) (cell_71 _ _ _ _) h17 dL_law_1452 ?_
      refine k_bd ?_
      refine k_istore [(23, .int _), (22, .int _), (21, .int _), (20, .int _), (19, .int _), (17, .int _), (14, .int _), (12, .int _), (11, .int _), (10, .int _), (9, .int _), (0, .ref _), (1, .ref _), (2, .ref _), (3, .ref _), (4, .ref _), (5, .ref _), (6, .ref _), (7, .ref _), (8, .ref _)] rfl (by decide) dL_law_1453 ?_
      refine k_bipush (8) (by decide) dL_law_1455 ?_
      refine k_iload 5 rfl dL_law_1457 ?_
      refine k_imul dL_law_1459 ?_
      refine k_istore [(24, .int _), (23, .int _), (22, .int _), (21, .int _), (20, .int _), (19, .int _), (17, .int _), (14, .int _), (12, .int _), (11, .int _), (10, .int _), (9, .int _), (0, .ref _), (1, .ref _), (2, .ref _), (3, .ref _), (4, .ref _), (5, .ref _), (6, .ref _), (7, .ref _), (8, .ref _)] rfl (by decide) dL_law_1460 ?_
      exact k_less (by omega) (k_sub [0, 1, 2, 3, 4, 5, 6, 7, 8, 9, 10, 11, 12, 13, 14, 15, 16, 17, 18, 19, 20] rfl (bl_L_law_1462 X hst b L xs N ih FU ad _ _ _ _ _ _ _ _ _ _ _ _ _))
theorem bj_L_law_1424 (X : Xt) (hst : X.1.stackTraces = false) (b L : Nat) (xs : Nat → Int32) (N : Nat) {k600 : Wd → Int32 → Int32 → Int32 → Int32 → Int32 → Int32 → Option Unit} (hk600 : ∀ (ad : Ad) (σ : Wd) (a14 : Int32) (a13 : Int32) (a12 : Int32) (a11 : Int32) (a10 : Int32) (a9 : Int32), Lk X b L xs (N) ad σ 600 [(14, .int a14), (13, .int a13), (12, .int a12), (11, .int a11), (10, .int a10), (9, .int a9), (0, .ref b), (1, .ref (ad 0 0)), (2, .ref (ad 71 0)), (3, .ref (ad 72 0)), (4, .ref (ad 73 0)), (5, .ref (ad 74 0)), (6, .ref (ad 75 0)), (7, .ref (ad 76 0)), (8, .ref (ad 77 0))] [] (k600 σ a14 a13 a12 a11 a10 a9)) (ad : Ad) (σ : Wd) (a19 : Int32) (a17 : Int32) (a14 : Int32) (a12 : Int32) (a11 : Int32) (a10 : Int32) (a9 : Int32) (s0 : Int32) : Lk X b L xs (N + 1) ad σ 1424 [(19, .int a19), (17, .int a17), (14, .int a14), (12, .int a12), (11, .int a11), (10, .int a10), (9, .int a9), (0, .ref b), (1, .ref (ad 0 0)), (2, .ref (ad 71 0)), (3, .ref (ad 72 0)), (4, .ref (ad 73 0)), (5, .ref (ad 74 0)), (6, .ref (ad 75 0)), (7, .ref (ad 76 0)), (8, .ref (ad 77 0))] [.int s0] (j_L_law_1424 L xs k600 σ a19 a17 a14 a12 a11 a10 a9 s0) := by
  unfold j_L_law_1424
  refine k_istore [(20, .int _), (19, .int _), (17, .int _), (14, .int _), (12, .int _), (11, .int _), (10, .int _), (9, .int _), (0, .ref _), (1, .ref _), (2, .ref _), (3, .ref _), (4, .ref _), (5, .ref _), (6, .ref _), (7, .ref _), (8, .ref _)] rfl (by decide) dL_law_1424 ?_
  refine k_ldc (100000) w_600 dL_law_1426 ?_
  refine k_istore [(21, .int _), (20, .int _), (19, .int _), (17, .int _), (14, .int _), (12, .int _), (11, .int _), (10, .int _), (9, .int _), (0, .ref _), (1, .ref _), (2, .ref _), (3, .ref _), (4, .ref _), (5, .ref _), (6, .ref _), (7, .ref _), (8, .ref _)] rfl (by decide) dL_law_1428 ?_
  refine k_iconst (0) (by decide) dL_law_1430 ?_
  refine k_istore [(22, .int _), (21, .int _), (20, .int _), (19, .int _), (17, .int _), (14, .int _), (12, .int _), (11, .int _), (10, .int _), (9, .int _), (0, .ref _), (1, .ref _), (2, .ref _), (3, .ref _), (4, .ref _), (5, .ref _), (6, .ref _), (7, .ref _), (8, .ref _)] rfl (by decide) dL_law_1431 ?_
  exact k_less (by omega) (k_sub [0, 1, 2, 3, 4, 5, 6, 7, 8, 9, 10, 11, 12, 13, 14, 15, 16, 17, 18] rfl (bl_L_law_1433 X hst b L xs N hk600 FU ad _ _ _ _ _ _ _ _ _ _ _))
theorem bj_L_law_1423 (X : Xt) (hst : X.1.stackTraces = false) (b L : Nat) (xs : Nat → Int32) (N : Nat) {k600 : Wd → Int32 → Int32 → Int32 → Int32 → Int32 → Int32 → Option Unit} (hk600 : ∀ (ad : Ad) (σ : Wd) (a14 : Int32) (a13 : Int32) (a12 : Int32) (a11 : Int32) (a10 : Int32) (a9 : Int32), Lk X b L xs (N) ad σ 600 [(14, .int a14), (13, .int a13), (12, .int a12), (11, .int a11), (10, .int a10), (9, .int a9), (0, .ref b), (1, .ref (ad 0 0)), (2, .ref (ad 71 0)), (3, .ref (ad 72 0)), (4, .ref (ad 73 0)), (5, .ref (ad 74 0)), (6, .ref (ad 75 0)), (7, .ref (ad 76 0)), (8, .ref (ad 77 0))] [] (k600 σ a14 a13 a12 a11 a10 a9)) (ad : Ad) (σ : Wd) (a19 : Int32) (a17 : Int32) (a14 : Int32) (a12 : Int32) (a11 : Int32) (a10 : Int32) (a9 : Int32) : Lk X b L xs (N + 1) ad σ 1423 [(19, .int a19), (17, .int a17), (14, .int a14), (12, .int a12), (11, .int a11), (10, .int a10), (9, .int a9), (0, .ref b), (1, .ref (ad 0 0)), (2, .ref (ad 71 0)), (3, .ref (ad 72 0)), (4, .ref (ad 73 0)), (5, .ref (ad 74 0)), (6, .ref (ad 75 0)), (7, .ref (ad 76 0)), (8, .ref (ad 77 0))] [] (j_L_law_1423 L xs k600 σ a19 a17 a14 a12 a11 a10 a9) := by
  unfold j_L_law_1423
  refine k_iconst (0) (by decide) dL_law_1423 ?_
  exact k_less (by omega) (k_sub [0, 1, 2, 3, 4, 5, 6, 7, 8, 9, 10, 11, 12, 13, 14, 15] rfl (bj_L_law_1424 X hst b L xs N hk600 ad _ _ _ _ _ _ _ _ _))
theorem bj_L_law_1779 (X : Xt) (hst : X.1.stackTraces = false) (b L : Nat) (xs : Nat → Int32) (N : Nat) {k600 : Wd → Int32 → Int32 → Int32 → Int32 → Int32 → Int32 → Option Unit} (hk600 : ∀ (ad : Ad) (σ : Wd) (a14 : Int32) (a13 : Int32) (a12 : Int32) (a11 : Int32) (a10 : Int32) (a9 : Int32), Lk X b L xs (N) ad σ 600 [(14, .int a14), (13, .int a13), (12, .int a12), (11, .int a11), (10, .int a10), (9, .int a9), (0, .ref b), (1, .ref (ad 0 0)), (2, .ref (ad 71 0)), (3, .ref (ad 72 0)), (4, .ref (ad 73 0)), (5, .ref (ad 74 0)), (6, .ref (ad 75 0)), (7, .ref (ad 76 0)), (8, .ref (ad 77 0))] [] (k600 σ a14 a13 a12 a11 a10 a9)) (ad : Ad) (σ : Wd) (a13 : Int32) (a14 : Int32) (a12 : Int32) (a11 : Int32) (a10 : Int32) (a9 : Int32) : Lk X b L xs (N) ad σ 1779 [(13, .int a13), (14, .int a14), (12, .int a12), (11, .int a11), (10, .int a10), (9, .int a9), (0, .ref b), (1, .ref (ad 0 0)), (2, .ref (ad 71 0)), (3, .ref (ad 72 0)), (4, .ref (ad 73 0)), (5, .ref (ad 74 0)), (6, .ref (ad 75 0)), (7, .ref (ad 76 0)), (8, .ref (ad 77 0))] [] (j_L_law_1779 L xs k600 σ a13 a14 a12 a11 a10 a9) := by
  unfold j_L_law_1779
  refine k_goto 1937 dL_law_1779 (by decide) ?_
  exact k_less (by omega) (k_sub [0, 1, 2, 3, 4, 5, 6, 7, 8, 9, 10, 11, 12, 13, 14] rfl (bj_L_law_1937 X hst b L xs N hk600 ad _ _ _ _ _ _ _))
theorem bj_L_law_1761 (X : Xt) (hst : X.1.stackTraces = false) (b L : Nat) (xs : Nat → Int32) (N : Nat) {k600 : Wd → Int32 → Int32 → Int32 → Int32 → Int32 → Int32 → Option Unit} (hk600 : ∀ (ad : Ad) (σ : Wd) (a14 : Int32) (a13 : Int32) (a12 : Int32) (a11 : Int32) (a10 : Int32) (a9 : Int32), Lk X b L xs (N) ad σ 600 [(14, .int a14), (13, .int a13), (12, .int a12), (11, .int a11), (10, .int a10), (9, .int a9), (0, .ref b), (1, .ref (ad 0 0)), (2, .ref (ad 71 0)), (3, .ref (ad 72 0)), (4, .ref (ad 73 0)), (5, .ref (ad 74 0)), (6, .ref (ad 75 0)), (7, .ref (ad 76 0)), (8, .ref (ad 77 0))] [] (k600 σ a14 a13 a12 a11 a10 a9)) (ad : Ad) (σ : Wd) (a21 : Int32) (a20 : Int32) (a17 : Int32) (a14 : Int32) (a12 : Int32) (a11 : Int32) (a10 : Int32) (a9 : Int32) (s0 : Int32) : Lk X b L xs (N) ad σ 1761 [(21, .int a21), (20, .int a20), (17, .int a17), (14, .int a14), (12, .int a12), (11, .int a11), (10, .int a10), (9, .int a9), (0, .ref b), (1, .ref (ad 0 0)), (2, .ref (ad 71 0)), (3, .ref (ad 72 0)), (4, .ref (ad 73 0)), (5, .ref (ad 74 0)), (6, .ref (ad 75 0)), (7, .ref (ad 76 0)), (8, .ref (ad 77 0))] [.int s0] (j_L_law_1761 L xs k600 σ a21 a20 a17 a14 a12 a11 a10 a9 s0) := by
  unfold j_L_law_1761
  refine k_istore [(13, .int _), (21, .int _), (20, .int _), (17, .int _), (14, .int _), (12, .int _), (11, .int _), (10, .int _), (9, .int _), (0, .ref _), (1, .ref _), (2, .ref _), (3, .ref _), (4, .ref _), (5, .ref _), (6, .ref _), (7, .ref _), (8, .ref _)] rfl (by decide) dL_law_1761 ?_
  refine k_iload 1 rfl dL_law_1763 ?_
  refine k_if_lt 1779 dL_law_1765 (by decide) ?_ ?_
  · exact k_less (by omega) (k_sub [0, 4, 5, 6, 7, 8, 9, 10, 11, 12, 13, 14, 15, 16, 17] rfl (bj_L_law_1779 X hst b L xs N hk600 ad _ _ _ _ _ _ _))
  · refine k_aload_n 11 rfl dL_law_1768 ?_
    refine k_aload_n 12 rfl dL_law_1769 ?_
    refine k_aload 13 rfl dL_law_1770 ?_
    refine k_iload 3 rfl dL_law_1772 ?_
    refine k_iload 2 rfl dL_law_1774 ?_
    refine k_callS (n := 5) (As := [.ref _, .ref _, .ref _, .int _, .int _]) (nc_L_remove X hst ad _ _ _) ⟨by decide, by decide, by decide +kernel⟩ w_603 w_604 w_502 w_605 rfl rfl (Nat.le_of_ble_eq_true rfl) ⟨by decide, by decide⟩ dL_law_1776 (fun v54 σ55 => ?_)
    exact k_less (by omega) (k_sub [0, 4, 5, 6, 7, 8, 9, 10, 11, 12, 13, 14, 15, 16, 17] rfl (bj_L_law_1779 X hst b L xs N hk600 ad _ _ _ _ _ _ _))
theorem bj_L_law_1740 (X : Xt) (hst : X.1.stackTraces = false) (b L : Nat) (xs : Nat → Int32) (N : Nat) {k600 : Wd → Int32 → Int32 → Int32 → Int32 → Int32 → Int32 → Option Unit} (hk600 : ∀ (ad : Ad) (σ : Wd) (a14 : Int32) (a13 : Int32) (a12 : Int32) (a11 : Int32) (a10 : Int32) (a9 : Int32), Lk X b L xs (N) ad σ 600 [(14, .int a14), (13, .int a13), (12, .int a12), (11, .int a11), (10, .int a10), (9, .int a9), (0, .ref b), (1, .ref (ad 0 0)), (2, .ref (ad 71 0)), (3, .ref (ad 72 0)), (4, .ref (ad 73 0)), (5, .ref (ad 74 0)), (6, .ref (ad 75 0)), (7, .ref (ad 76 0)), (8, .ref (ad 77 0))] [] (k600 σ a14 a13 a12 a11 a10 a9)) (ad : Ad) (σ : Wd) (a20 : Int32) (a17 : Int32) (a14 : Int32) (a12 : Int32) (a11 : Int32) (a10 : Int32) (a9 : Int32) (s0 : Int32) : Lk X b L xs (N + 1) ad σ 1740 [(20, .int a20), (17, .int a17), (14, .int a14), (12, .int a12), (11, .int a11), (10, .int a10), (9, .int a9), (0, .ref b), (1, .ref (ad 0 0)), (2, .ref (ad 71 0)), (3, .ref (ad 72 0)), (4, .ref (ad 73 0)), (5, .ref (ad 74 0)), (6, .ref (ad 75 0)), (7, .ref (ad 76 0)), (8, .ref (ad 77 0))] [.int s0] (j_L_law_1740 L xs k600 σ a20 a17 a14 a12 a11 a10 a9 s0) := by
  unfold j_L_law_1740
  refine k_istore [(21, .int _), (20, .int _), (17, .int _), (14, .int _), (12, .int _), (11, .int _), (10, .int _), (9, .int _), (0, .ref _), (1, .ref _), (2, .ref _), (3, .ref _), (4, .ref _), (5, .ref _), (6, .ref _), (7, .ref _), (8, .ref _)] rfl (by decide) dL_law_1740 ?_
  refine k_aload_n 9 rfl dL_law_1742 ?_
  refine k_iconst (2) (by decide) dL_law_1743 ?_
  refine k_iload 2 rfl dL_law_1744 ?_
  refine k_iload 1 rfl dL_law_1746 ?_
  refine k_callW (n := 4) (As := [.ref _, .int _, .int _, .int _]) (fun kv τ hg => wn_shop X hst ad _ _ _ _ kv τ hg) ⟨by decide, by decide, by decide +kernel⟩ w_601 w_602 w_502 w_557 rfl rfl (Nat.le_of_ble_eq_true rfl) ⟨by decide, by decide⟩ ⟨by decide, by decide⟩ dL_law_1748 (fun v52 σ53 a1 hFa1 => ?_)
  rw [← hFa1 0 0 (by decide), ← hFa1 71 0 (by decide), ← hFa1 72 0 (by decide), ← hFa1 73 0 (by decide), ← hFa1 74 0 (by decide), ← hFa1 75 0 (by decide), ← hFa1 76 0 (by decide), ← hFa1 77 0 (by decide)]
  refine k_iload 0 rfl dL_law_1751 ?_
  refine k_icmp_ne 1760 dL_law_1753 (by decide) ?_ ?_
  · refine k_iconst (1) (by decide) dL_law_1756 ?_
    refine k_goto 1761 dL_law_1757 (by decide) ?_
    exact k_less (by omega) (k_sub [0, 1, 2, 3, 4, 5, 6, 7, 8, 9, 10, 11, 12, 13, 14, 15, 16] rfl (bj_L_law_1761 X hst b L xs N hk600 a1 _ _ _ _ _ _ _ _ _ _))
  · refine k_iconst (0) (by decide) dL_law_1760 ?_
    exact k_less (by omega) (k_sub [0, 1, 2, 3, 4, 5, 6, 7, 8, 9, 10, 11, 12, 13, 14, 15, 16] rfl (bj_L_law_1761 X hst b L xs N hk600 a1 _ _ _ _ _ _ _ _ _ _))
theorem bl_L_law_1888 (X : Xt) (hst : X.1.stackTraces = false) (b L : Nat) (xs : Nat → Int32) (N : Nat) {k600 : Wd → Int32 → Int32 → Int32 → Int32 → Int32 → Int32 → Option Unit} (hk600 : ∀ (ad : Ad) (σ : Wd) (a14 : Int32) (a13 : Int32) (a12 : Int32) (a11 : Int32) (a10 : Int32) (a9 : Int32), Lk X b L xs (N) ad σ 600 [(14, .int a14), (13, .int a13), (12, .int a12), (11, .int a11), (10, .int a10), (9, .int a9), (0, .ref b), (1, .ref (ad 0 0)), (2, .ref (ad 71 0)), (3, .ref (ad 72 0)), (4, .ref (ad 73 0)), (5, .ref (ad 74 0)), (6, .ref (ad 75 0)), (7, .ref (ad 76 0)), (8, .ref (ad 77 0))] [] (k600 σ a14 a13 a12 a11 a10 a9)) : ∀ (n : Nat) (ad : Ad) (σ : Wd) (a21 : Int32) (a13 : Int32) (a10 : Int32) (a14 : Int32) (a9 : Int32), Lk X b L xs (N + 1) ad σ 1888 [(21, .int a21), (13, .int a13), (10, .int a10), (14, .int a14), (9, .int a9), (0, .ref b), (1, .ref (ad 0 0)), (2, .ref (ad 71 0)), (3, .ref (ad 72 0)), (4, .ref (ad 73 0)), (5, .ref (ad 74 0)), (6, .ref (ad 75 0)), (7, .ref (ad 76 0)), (8, .ref (ad 77 0))] [] (l_L_law_1888 L xs k600 n σ a21 a13 a10 a14 a9) := by
  intro n
  induction n with
  | zero => intros; exact k_none
  | succ n ih =>
  intro ad σ a21 a13 a10 a14 a9
  rw [l_L_law_1888]
  refine k_iload 0 rfl dL_law_1888 ?_
  refine k_iconst (3) (by decide) dL_law_1890 ?_
  refine k_icmp_ge 1928 dL_law_1891 (by decide) ?_ ?_
  · refine k_iinc (1) [(9, .int _), (21, .int _), (13, .int _), (10, .int _), (14, .int _), (0, .ref _), (1, .ref _), (2, .ref _), (3, .ref _), (4, .ref _), (5, .ref _), (6, .ref _), (7, .ref _), (8, .ref _)] 4 rfl (by decide) rfl (by decide) dL_law_1928 ?_
    refine k_iconst (0) (by decide) dL_law_1931 ?_
    refine k_istore [(11, .int _), (9, .int _), (21, .int _), (13, .int _), (10, .int _), (14, .int _), (0, .ref _), (1, .ref _), (2, .ref _), (3, .ref _), (4, .ref _), (5, .ref _), (6, .ref _), (7, .ref _), (8, .ref _)] rfl (by decide) dL_law_1932 ?_
    refine k_iconst (0) (by decide) dL_law_1934 ?_
    refine k_istore [(12, .int _), (11, .int _), (9, .int _), (21, .int _), (13, .int _), (10, .int _), (14, .int _), (0, .ref _), (1, .ref _), (2, .ref _), (3, .ref _), (4, .ref _), (5, .ref _), (6, .ref _), (7, .ref _), (8, .ref _)] rfl (by decide) dL_law_1935 ?_
    exact k_less (by omega) (k_sub [4, 6, 0, 1, 5, 2, 7, 8, 9, 10, 11, 12, 13, 14, 15] rfl (bj_L_law_1937 X hst b L xs N hk600 ad _ _ _ _ _ _ _))
  · refine k_iload 1 rfl dL_law_1894 ?_
    refine k_if_eq 1919 dL_law_1896 (by decide) ?_ ?_
    · refine k_iconst (0) (by decide) dL_law_1919 ?_
      refine k_istore [(13, .int _), (21, .int _), (10, .int _), (14, .int _), (9, .int _), (0, .ref _), (1, .ref _), (2, .ref _), (3, .ref _), (4, .ref _), (5, .ref _), (6, .ref _), (7, .ref _), (8, .ref _)] rfl (by decide) dL_law_1920 ?_
      refine k_iinc (1) [(21, .int _), (13, .int _), (10, .int _), (14, .int _), (9, .int _), (0, .ref _), (1, .ref _), (2, .ref _), (3, .ref _), (4, .ref _), (5, .ref _), (6, .ref _), (7, .ref _), (8, .ref _)] 1 rfl (by decide) rfl (by decide) dL_law_1922 ?_
      refine k_goto 1888 dL_law_1925 (by decide) ?_
      exact k_less (by omega) (k_sub [0, 1, 2, 3, 4, 5, 6, 7, 8, 9, 10, 11, 12, 13] rfl (ih ad _ _ _ _ _ _))
    · refine k_aload_n 6 rfl dL_law_1899 ?_
      refine k_iload 0 rfl dL_law_1900 ?_
      refine k_iload 4 rfl dL_law_1902 ?_
      refine k_callV (n := 2) (As := [.int _, .int _]) (nc_X9_ran X hst ad _ _ _) ⟨rfl, by decide, by decide, by decide +kernel⟩ w_617 w_618 w_619 w_203 w_620 rfl rfl (Nat.le_of_ble_eq_true rfl) ⟨by decide, by decide⟩ dL_law_1904 (fun v64 σ65 => ?_)
      refine k_aload 13 rfl dL_law_1907 ?_
      refine k_iload 0 rfl dL_law_1909 ?_
      refine k_gd (fun h23 => ?_)
      refine k_iaload (lvs_77 _) (cell_77 _ _ _ _) h23 dL_law_1911 ?_
      refine k_icmp_ne 1919 dL_law_1912 (by decide) ?_ ?_
      · refine k_iconst (1) (by decide) dL_law_1915 ?_
        refine k_goto 1920 dL_law_1916 (by decide) ?_
        refine k_istore [(13, .int _), (21, .int _), (10, .int _), (14, .int _), (9, .int _), (0, .ref _), (1, .ref _), (2, .ref _), (3, .ref _), (4, .ref _), (5, .ref _), (6, .ref _), (7, .ref _), (8, .ref _)] rfl (by decide) dL_law_1920 ?_
        refine k_iinc (1) [(21, .int _), (13, .int _), (10, .int _), (14, .int _), (9, .int _), (0, .ref _), (1, .ref _), (2, .ref _), (3, .ref _), (4, .ref _), (5, .ref _), (6, .ref _), (7, .ref _), (8, .ref _)] 1 rfl (by decide) rfl (by decide) dL_law_1922 ?_
        refine k_goto 1888 dL_law_1925 (by decide) ?_
        exact k_less (by omega) (k_sub [0, 1, 2, 3, 4, 5, 6, 7, 8, 9, 10, 11, 12, 13] rfl (ih ad _ _ _ _ _ _))
      · refine k_iconst (0) (by decide) dL_law_1919 ?_
        refine k_istore [(13, .int _), (21, .int _), (10, .int _), (14, .int _), (9, .int _), (0, .ref _), (1, .ref _), (2, .ref _), (3, .ref _), (4, .ref _), (5, .ref _), (6, .ref _), (7, .ref _), (8, .ref _)] rfl (by decide) dL_law_1920 ?_
        refine k_iinc (1) [(21, .int _), (13, .int _), (10, .int _), (14, .int _), (9, .int _), (0, .ref _), (1, .ref _), (2, .ref _), (3, .ref _), (4, .ref _), (5, .ref _), (6, .ref _), (7, .ref _), (8, .ref _)] 1 rfl (by decide) rfl (by decide) dL_law_1922 ?_
        refine k_goto 1888 dL_law_1925 (by decide) ?_
        exact k_less (by omega) (k_sub [0, 1, 2, 3, 4, 5, 6, 7, 8, 9, 10, 11, 12, 13] rfl (ih ad _ _ _ _ _ _))
theorem bj_L_law_1883 (X : Xt) (hst : X.1.stackTraces = false) (b L : Nat) (xs : Nat → Int32) (N : Nat) {k600 : Wd → Int32 → Int32 → Int32 → Int32 → Int32 → Int32 → Option Unit} (hk600 : ∀ (ad : Ad) (σ : Wd) (a14 : Int32) (a13 : Int32) (a12 : Int32) (a11 : Int32) (a10 : Int32) (a9 : Int32), Lk X b L xs (N) ad σ 600 [(14, .int a14), (13, .int a13), (12, .int a12), (11, .int a11), (10, .int a10), (9, .int a9), (0, .ref b), (1, .ref (ad 0 0)), (2, .ref (ad 71 0)), (3, .ref (ad 72 0)), (4, .ref (ad 73 0)), (5, .ref (ad 74 0)), (6, .ref (ad 75 0)), (7, .ref (ad 76 0)), (8, .ref (ad 77 0))] [] (k600 σ a14 a13 a12 a11 a10 a9)) (ad : Ad) (σ : Wd) (a10 : Int32) (a14 : Int32) (a9 : Int32) (s0 : Int32) : Lk X b L xs (N + 1) ad σ 1883 [(10, .int a10), (14, .int a14), (9, .int a9), (0, .ref b), (1, .ref (ad 0 0)), (2, .ref (ad 71 0)), (3, .ref (ad 72 0)), (4, .ref (ad 73 0)), (5, .ref (ad 74 0)), (6, .ref (ad 75 0)), (7, .ref (ad 76 0)), (8, .ref (ad 77 0))] [.int s0] (j_L_law_1883 L xs k600 σ a10 a14 a9 s0) := by
  unfold j_L_law_1883
  refine k_istore [(13, .int _), (10, .int _), (14, .int _), (9, .int _), (0, .ref _), (1, .ref _), (2, .ref _), (3, .ref _), (4, .ref _), (5, .ref _), (6, .ref _), (7, .ref _), (8, .ref _)] rfl (by decide) dL_law_1883 ?_
  refine k_iconst (0) (by decide) dL_law_1885 ?_
  refine k_istore [(21, .int _), (13, .int _), (10, .int _), (14, .int _), (9, .int _), (0, .ref _), (1, .ref _), (2, .ref _), (3, .ref _), (4, .ref _), (5, .ref _), (6, .ref _), (7, .ref _), (8, .ref _)] rfl (by decide) dL_law_1886 ?_
  exact k_less (by omega) (k_sub [0, 1, 2, 3, 4, 5, 6, 7, 8, 9, 10, 11, 12, 13] rfl (bl_L_law_1888 X hst b L xs N hk600 FU ad _ _ _ _ _ _))
theorem bj_L_law_1882 (X : Xt) (hst : X.1.stackTraces = false) (b L : Nat) (xs : Nat → Int32) (N : Nat) {k600 : Wd → Int32 → Int32 → Int32 → Int32 → Int32 → Int32 → Option Unit} (hk600 : ∀ (ad : Ad) (σ : Wd) (a14 : Int32) (a13 : Int32) (a12 : Int32) (a11 : Int32) (a10 : Int32) (a9 : Int32), Lk X b L xs (N) ad σ 600 [(14, .int a14), (13, .int a13), (12, .int a12), (11, .int a11), (10, .int a10), (9, .int a9), (0, .ref b), (1, .ref (ad 0 0)), (2, .ref (ad 71 0)), (3, .ref (ad 72 0)), (4, .ref (ad 73 0)), (5, .ref (ad 74 0)), (6, .ref (ad 75 0)), (7, .ref (ad 76 0)), (8, .ref (ad 77 0))] [] (k600 σ a14 a13 a12 a11 a10 a9)) (ad : Ad) (σ : Wd) (a10 : Int32) (a14 : Int32) (a9 : Int32) : Lk X b L xs (N + 1) ad σ 1882 [(10, .int a10), (14, .int a14), (9, .int a9), (0, .ref b), (1, .ref (ad 0 0)), (2, .ref (ad 71 0)), (3, .ref (ad 72 0)), (4, .ref (ad 73 0)), (5, .ref (ad 74 0)), (6, .ref (ad 75 0)), (7, .ref (ad 76 0)), (8, .ref (ad 77 0))] [] (j_L_law_1882 L xs k600 σ a10 a14 a9) := by
  unfold j_L_law_1882
  refine k_iconst (0) (by decide) dL_law_1882 ?_
  exact k_less (by omega) (k_sub [0, 1, 2, 3, 4, 5, 6, 7, 8, 9, 10, 11] rfl (bj_L_law_1883 X hst b L xs N hk600 ad _ _ _ _ _))
theorem bl_L_law_1827 (X : Xt) (hst : X.1.stackTraces = false) (b L : Nat) (xs : Nat → Int32) (N : Nat) {k1817 : Wd → Int32 → Int32 → Int32 → Int32 → Int32 → Option Unit} (hk1817 : ∀ (ad : Ad) (σ : Wd) (a21 : Int32) (a10 : Int32) (a20 : Int32) (a14 : Int32) (a9 : Int32), Lk X b L xs (N + 1) ad σ 1817 [(21, .int a21), (10, .int a10), (20, .int a20), (14, .int a14), (9, .int a9), (0, .ref b), (1, .ref (ad 0 0)), (2, .ref (ad 71 0)), (3, .ref (ad 72 0)), (4, .ref (ad 73 0)), (5, .ref (ad 74 0)), (6, .ref (ad 75 0)), (7, .ref (ad 76 0)), (8, .ref (ad 77 0))] [] (k1817 σ a21 a10 a20 a14 a9)) : ∀ (n : Nat) (ad : Ad) (σ : Wd) (a22 : Int32) (a21 : Int32) (a10 : Int32) (a20 : Int32) (a14 : Int32) (a9 : Int32), Lk X b L xs (N + 1) ad σ 1827 [(22, .int a22), (21, .int a21), (10, .int a10), (20, .int a20), (14, .int a14), (9, .int a9), (0, .ref b), (1, .ref (ad 0 0)), (2, .ref (ad 71 0)), (3, .ref (ad 72 0)), (4, .ref (ad 73 0)), (5, .ref (ad 74 0)), (6, .ref (ad 75 0)), (7, .ref (ad 76 0)), (8, .ref (ad 77 0))] [] (l_L_law_1827 L xs k1817 n σ a22 a21 a10 a20 a14 a9) := by
  intro n
  induction n with
  | zero => intros; exact k_none
  | succ n ih =>
  intro ad σ a22 a21 a10 a20 a14 a9
  rw [l_L_law_1827]
  refine k_iload 0 rfl dL_law_1827 ?_
  refine k_bipush (12) (by decide) dL_law_1829 ?_
  refine k_icmp_ge 1854 dL_law_1831 (by decide) ?_ ?_
  · refine k_iinc (1) [(21, .int _), (22, .int _), (10, .int _), (20, .int _), (14, .int _), (9, .int _), (0, .ref _), (1, .ref _), (2, .ref _), (3, .ref _), (4, .ref _), (5, .ref _), (6, .ref _), (7, .ref _), (8, .ref _)] 1 rfl (by decide) rfl (by decide) dL_law_1854 ?_
    refine k_goto 1817 dL_law_1857 (by decide) ?_
    exact k_less (by omega) (k_sub [0, 2, 3, 4, 5, 6, 7, 8, 9, 10, 11, 12, 13, 14] rfl (hk1817 ad _ _ _ _ _ _))
  · refine k_aload_n 8 rfl dL_law_1834 ?_
    refine k_bipush (16) (by decide) dL_law_1835 ?_
    refine k_iload 1 rfl dL_law_1837 ?_
    refine k_imul dL_law_1839 ?_
    refine k_iload 0 rfl dL_law_1840 ?_
    refine k_iadd dL_law_1842 ?_
    refine k_dup2 rfl rfl dL_law_1843 ?_
    refine k_gd (fun h24 => ?_)
    refine k_iaload (lvs_71 _) (cell_71 _ _ _ _) h24 dL_law_1844 ?_
    refine k_iconst (1) (by decide) dL_law_1845 ?_
    refine k_iadd dL_law_1846 ?_
    refine k_bd ?_
    refine k_iastore (lvs_71 _) (ia_71 _ _ _) h24 dL_law_1847 ?_
    refine k_iinc (1) [(22, .int _), (21, .int _), (10, .int _), (20, .int _), (14, .int _), (9, .int _), (0, .ref _), (1, .ref _), (2, .ref _), (3, .ref _), (4, .ref _), (5, .ref _), (6, .ref _), (7, .ref _), (8, .ref _)] 0 rfl (by decide) rfl (by decide) dL_law_1848 ?_
    refine k_goto 1827 dL_law_1851 (by decide) ?_
    exact k_less (by omega) (k_sub [0, 1, 2, 3, 4, 5, 6, 7, 8, 9, 10, 11, 12, 13, 14] rfl (ih ad _ _ _ _ _ _ _))
