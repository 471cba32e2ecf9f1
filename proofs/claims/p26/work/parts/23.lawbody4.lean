theorem bl_L_law_600 (X : Xt) (hst : X.1.stackTraces = false) (b L : Nat) (xs : Nat → Int32) (N : Nat) : ∀ (n : Nat) (ad : Ad) (σ : Wd) (a14 : Int32) (a13 : Int32) (a12 : Int32) (a11 : Int32) (a10 : Int32) (a9 : Int32), Lk X b L xs (0 + n) ad σ 600 [(14, .int a14), (13, .int a13), (12, .int a12), (11, .int a11), (10, .int a10), (9, .int a9), (0, .ref b), (1, .ref (ad 0 0)), (2, .ref (ad 71 0)), (3, .ref (ad 72 0)), (4, .ref (ad 73 0)), (5, .ref (ad 74 0)), (6, .ref (ad 75 0)), (7, .ref (ad 76 0)), (8, .ref (ad 77 0))] [] (l_L_law_600 L xs n σ a14 a13 a12 a11 a10 a9) := by
  intro n
  induction n with
  | zero => intros; exact k_none
  | succ n ih =>
  intro ad σ a14 a13 a12 a11 a10 a9
  rw [l_L_law_600]
  show Lk X b L xs (0 + n + 1) _ _ _ _ _ _
  refine k_iload 0 rfl dL_law_600 ?_
  refine k_bipush (67) (by decide) dL_law_602 ?_
  refine k_icmp_ge 1976 dL_law_604 (by decide) ?_ ?_
  · refine k_iload 1 rfl dL_law_1976 ?_
    exact k_end dL_law_1978
  · refine k_iload 1 rfl dL_law_607 ?_
    refine k_if_eq 1976 dL_law_609 (by decide) ?_ ?_
    · refine k_iload 1 rfl dL_law_1976 ?_
      exact k_end dL_law_1978
    · refine k_aload_n 6 rfl dL_law_612 ?_
      refine k_iload 0 rfl dL_law_613 ?_
      refine k_gd (fun h1 => ?_)
      refine k_cell hst h1 w_579 w_580 w_502 w_581 (Nat.le_of_ble_eq_true rfl) dL_law_615 ?_
      refine k_bd ?_
      refine k_istore [(15, .int _), (14, .int _), (13, .int _), (12, .int _), (11, .int _), (10, .int _), (9, .int _), (0, .ref _), (1, .ref _), (2, .ref _), (3, .ref _), (4, .ref _), (5, .ref _), (6, .ref _), (7, .ref _), (8, .ref _)] rfl (by decide) dL_law_618 ?_
      refine k_iload 0 rfl dL_law_620 ?_
      refine k_bipush (14) (by decide) dL_law_622 ?_
      refine k_callS (n := 2) (As := [.int _, .int _]) (nc_L_up X hst ad _ _ _) ⟨by decide, by decide, by decide +kernel⟩ w_582 w_583 w_502 w_584 rfl rfl (Nat.le_of_ble_eq_true rfl) ⟨by decide, by decide⟩ dL_law_624 (fun v2 σ3 => ?_)
      refine k_istore [(16, .int _), (15, .int _), (14, .int _), (13, .int _), (12, .int _), (11, .int _), (10, .int _), (9, .int _), (0, .ref _), (1, .ref _), (2, .ref _), (3, .ref _), (4, .ref _), (5, .ref _), (6, .ref _), (7, .ref _), (8, .ref _)] rfl (by decide) dL_law_627 ?_
      refine k_iload 1 rfl dL_law_629 ?_
      refine k_bipush (16) (by decide) dL_law_631 ?_
      refine k_idiv (by decide) dL_law_633 ?_
      refine k_iconst (4) (by decide) dL_law_634 ?_
      refine k_callS (n := 2) (As := [.int _, .int _]) (nc_L_up X hst ad _ _ _) ⟨by decide, by decide, by decide +kernel⟩ w_582 w_583 w_502 w_584 rfl rfl (Nat.le_of_ble_eq_true rfl) ⟨by decide, by decide⟩ dL_law_635 (fun v4 σ5 => ?_)
      refine k_istore [(17, .int _), (16, .int _), (15, .int _), (14, .int _), (13, .int _), (12, .int _), (11, .int _), (10, .int _), (9, .int _), (0, .ref _), (1, .ref _), (2, .ref _), (3, .ref _), (4, .ref _), (5, .ref _), (6, .ref _), (7, .ref _), (8, .ref _)] rfl (by decide) dL_law_638 ?_
      refine k_iload 2 rfl dL_law_640 ?_
      refine k_bipush (64) (by decide) dL_law_642 ?_
      refine k_idiv (by decide) dL_law_644 ?_
      refine k_iconst (4) (by decide) dL_law_645 ?_
      refine k_callS (n := 2) (As := [.int _, .int _]) (nc_L_up X hst ad _ _ _) ⟨by decide, by decide, by decide +kernel⟩ w_582 w_583 w_502 w_584 rfl rfl (Nat.le_of_ble_eq_true rfl) ⟨by decide, by decide⟩ dL_law_646 (fun v6 σ7 => ?_)
      refine k_istore [(18, .int _), (17, .int _), (16, .int _), (15, .int _), (14, .int _), (13, .int _), (12, .int _), (11, .int _), (10, .int _), (9, .int _), (0, .ref _), (1, .ref _), (2, .ref _), (3, .ref _), (4, .ref _), (5, .ref _), (6, .ref _), (7, .ref _), (8, .ref _)] rfl (by decide) dL_law_649 ?_
      refine k_bipush (16) (by decide) dL_law_651 ?_
      refine k_iload 1 rfl dL_law_653 ?_
      refine k_imul dL_law_655 ?_
      refine k_istore [(19, .int _), (18, .int _), (17, .int _), (16, .int _), (15, .int _), (14, .int _), (13, .int _), (12, .int _), (11, .int _), (10, .int _), (9, .int _), (0, .ref _), (1, .ref _), (2, .ref _), (3, .ref _), (4, .ref _), (5, .ref _), (6, .ref _), (7, .ref _), (8, .ref _)] rfl (by decide) dL_law_656 ?_
      refine k_iload 3 rfl dL_law_658 ?_
      refine k_iconst (2) (by decide) dL_law_660 ?_
      refine k_icmp_ge 905 dL_law_661 (by decide) ?_ ?_
      · refine k_iload 3 rfl dL_law_905 ?_
        refine k_iconst (2) (by decide) dL_law_907 ?_
        refine k_icmp_ne 1026 dL_law_908 (by decide) ?_ ?_
        · refine k_iload 4 rfl dL_law_911 ?_
          refine k_sipush (256) (by decide) dL_law_913 ?_
          refine k_idiv (by decide) dL_law_916 ?_
          refine k_iconst (4) (by decide) dL_law_917 ?_
          refine k_callS (n := 2) (As := [.int _, .int _]) (nc_L_up X hst ad _ _ _) ⟨by decide, by decide, by decide +kernel⟩ w_582 w_583 w_502 w_584 rfl rfl (Nat.le_of_ble_eq_true rfl) ⟨by decide, by decide⟩ dL_law_918 (fun v8 σ9 => ?_)
          refine k_if_ne 928 dL_law_921 (by decide) ?_ ?_
          · refine k_iconst (-1) (by decide) dL_law_924 ?_
            refine k_goto 939 dL_law_925 (by decide) ?_
            exact k_less (by omega) (k_sub [1, 4, 5, 7, 8, 9, 10, 11, 12, 13, 14, 15, 16, 17, 18, 19] rfl (bj_L_law_939 X hst b L xs (0 + n) ih ad _ _ _ _ _ _ _ _ _))
          · refine k_iload 4 rfl dL_law_928 ?_
            refine k_sipush (256) (by decide) dL_law_930 ?_
            refine k_idiv (by decide) dL_law_933 ?_
            refine k_bipush (31) (by decide) dL_law_934 ?_
            refine k_callS (n := 2) (As := [.int _, .int _]) (nc_L_up X hst ad _ _ _) ⟨by decide, by decide, by decide +kernel⟩ w_582 w_583 w_502 w_584 rfl rfl (Nat.le_of_ble_eq_true rfl) ⟨by decide, by decide⟩ dL_law_936 (fun v20 σ21 => ?_)
            exact k_less (by omega) (k_sub [1, 4, 5, 7, 8, 9, 10, 11, 12, 13, 14, 15, 16, 17, 18, 19] rfl (bj_L_law_939 X hst b L xs (0 + n) ih ad _ _ _ _ _ _ _ _ _))
        · refine k_iload 3 rfl dL_law_1026 ?_
          refine k_iconst (3) (by decide) dL_law_1028 ?_
          refine k_icmp_ne 1183 dL_law_1029 (by decide) ?_ ?_
          · refine k_iload 4 rfl dL_law_1032 ?_
            refine k_sipush (256) (by decide) dL_law_1034 ?_
            refine k_idiv (by decide) dL_law_1037 ?_
            refine k_iconst (3) (by decide) dL_law_1038 ?_
            refine k_callS (n := 2) (As := [.int _, .int _]) (nc_L_up X hst ad _ _ _) ⟨by decide, by decide, by decide +kernel⟩ w_582 w_583 w_502 w_584 rfl rfl (Nat.le_of_ble_eq_true rfl) ⟨by decide, by decide⟩ dL_law_1039 (fun v22 σ23 => ?_)
            refine k_istore [(20, .int _), (19, .int _), (18, .int _), (17, .int _), (16, .int _), (15, .int _), (14, .int _), (13, .int _), (12, .int _), (11, .int _), (10, .int _), (9, .int _), (0, .ref _), (1, .ref _), (2, .ref _), (3, .ref _), (4, .ref _), (5, .ref _), (6, .ref _), (7, .ref _), (8, .ref _)] rfl (by decide) dL_law_1042 ?_
            refine k_aload 19 rfl dL_law_1044 ?_
            refine k_iload 0 rfl dL_law_1046 ?_
            refine k_bipush (100) (by decide) dL_law_1048 ?_
            refine k_iload 5 rfl dL_law_1050 ?_
            refine k_sipush (512) (by decide) dL_law_1052 ?_
            refine k_idiv (by decide) dL_law_1055 ?_
            refine k_iload 0 rfl dL_law_1056 ?_
            refine k_if_ne 1067 dL_law_1058 (by decide) ?_ ?_
            · refine k_sipush (1500) (by decide) dL_law_1061 ?_
              refine k_goto 1070 dL_law_1064 (by decide) ?_
              exact k_less (by omega) (k_sub [0, 5, 6, 8, 9, 10, 11, 12, 13, 14, 15, 16, 17, 18, 19, 20] rfl (bj_L_law_1070 X hst b L xs (0 + n) ih ad _ _ _ _ _ _ _ _ _ _ _ _))
            · refine k_sipush (9000) (by decide) dL_law_1067 ?_
              exact k_less (by omega) (k_sub [0, 5, 6, 8, 9, 10, 11, 12, 13, 14, 15, 16, 17, 18, 19, 20] rfl (bj_L_law_1070 X hst b L xs (0 + n) ih ad _ _ _ _ _ _ _ _ _ _ _ _))
          · refine k_iload 3 rfl dL_law_1183 ?_
            refine k_iconst (4) (by decide) dL_law_1185 ?_
            refine k_icmp_ne 1265 dL_law_1186 (by decide) ?_ ?_
            · refine k_iload 4 rfl dL_law_1189 ?_
              refine k_sipush (256) (by decide) dL_law_1191 ?_
              refine k_idiv (by decide) dL_law_1194 ?_
              refine k_iconst (3) (by decide) dL_law_1195 ?_
              refine k_callS (n := 2) (As := [.int _, .int _]) (nc_L_up X hst ad _ _ _) ⟨by decide, by decide, by decide +kernel⟩ w_582 w_583 w_502 w_584 rfl rfl (Nat.le_of_ble_eq_true rfl) ⟨by decide, by decide⟩ dL_law_1196 (fun v35 σ36 => ?_)
              refine k_istore [(20, .int _), (19, .int _), (18, .int _), (17, .int _), (16, .int _), (15, .int _), (14, .int _), (13, .int _), (12, .int _), (11, .int _), (10, .int _), (9, .int _), (0, .ref _), (1, .ref _), (2, .ref _), (3, .ref _), (4, .ref _), (5, .ref _), (6, .ref _), (7, .ref _), (8, .ref _)] rfl (by decide) dL_law_1199 ?_
              refine k_iload 5 rfl dL_law_1201 ?_
              refine k_sipush (512) (by decide) dL_law_1203 ?_
              refine k_idiv (by decide) dL_law_1206 ?_
              refine k_iconst (3) (by decide) dL_law_1207 ?_
              refine k_callS (n := 2) (As := [.int _, .int _]) (nc_L_up X hst ad _ _ _) ⟨by decide, by decide, by decide +kernel⟩ w_582 w_583 w_502 w_584 rfl rfl (Nat.le_of_ble_eq_true rfl) ⟨by decide, by decide⟩ dL_law_1208 (fun v37 σ38 => ?_)
              refine k_if_ne 1218 dL_law_1211 (by decide) ?_ ?_
              · refine k_iconst (-1) (by decide) dL_law_1214 ?_
                refine k_goto 1220 dL_law_1215 (by decide) ?_
                exact k_less (by omega) (k_sub [0, 6, 8, 9, 10, 11, 12, 13, 14, 15, 16, 17, 18, 19, 20] rfl (bj_L_law_1220 X hst b L xs (0 + n) ih ad _ _ _ _ _ _ _ _))
              · refine k_iload 3 rfl dL_law_1218 ?_
                exact k_less (by omega) (k_sub [0, 6, 8, 9, 10, 11, 12, 13, 14, 15, 16, 17, 18, 19, 20] rfl (bj_L_law_1220 X hst b L xs (0 + n) ih ad _ _ _ _ _ _ _ _))
            · refine k_iload 3 rfl dL_law_1265 ?_
              refine k_bipush (7) (by decide) dL_law_1267 ?_
              refine k_icmp_ge 1400 dL_law_1269 (by decide) ?_ ?_
              · refine k_iload 3 rfl dL_law_1400 ?_
                refine k_bipush (7) (by decide) dL_law_1402 ?_
                refine k_icmp_ne 1674 dL_law_1404 (by decide) ?_ ?_
                · refine k_aload_n 13 rfl dL_law_1407 ?_
                  refine k_iload 0 rfl dL_law_1408 ?_
                  refine k_gd (fun h13 => ?_)
                  refine k_iaload (lvs_71 _) (cell_71 _ _ _ _) h13 dL_law_1410 ?_
                  refine k_if_ne 1423 dL_law_1411 (by decide) ?_ ?_
                  · refine k_iload 7 rfl dL_law_1414 ?_
                    refine k_if_ne 1423 dL_law_1416 (by decide) ?_ ?_
                    · refine k_iconst (1) (by decide) dL_law_1419 ?_
                      refine k_goto 1424 dL_law_1420 (by decide) ?_
                      exact k_less (by omega) (k_sub [0, 2, 5, 7, 8, 9, 10, 11, 12, 13, 14, 15, 16, 17, 18, 19] rfl (bj_L_law_1424 X hst b L xs (0 + n) ih ad _ _ _ _ _ _ _ _ _))
                    · exact k_less (by omega) (k_sub [0, 2, 5, 7, 8, 9, 10, 11, 12, 13, 14, 15, 16, 17, 18, 19] rfl (bj_L_law_1423 X hst b L xs (0 + n) ih ad _ _ _ _ _ _ _ _))
                  · exact k_less (by omega) (k_sub [0, 2, 5, 7, 8, 9, 10, 11, 12, 13, 14, 15, 16, 17, 18, 19] rfl (bj_L_law_1423 X hst b L xs (0 + n) ih ad _ _ _ _ _ _ _ _))
                · refine k_iload 3 rfl dL_law_1674 ?_
                  refine k_bipush (8) (by decide) dL_law_1676 ?_
                  refine k_icmp_ne 1782 dL_law_1678 (by decide) ?_ ?_
                  · refine k_iload 4 rfl dL_law_1681 ?_
                    refine k_sipush (256) (by decide) dL_law_1683 ?_
                    refine k_idiv (by decide) dL_law_1686 ?_
                    refine k_iconst (4) (by decide) dL_law_1687 ?_
                    refine k_callS (n := 2) (As := [.int _, .int _]) (nc_L_up X hst ad _ _ _) ⟨by decide, by decide, by decide +kernel⟩ w_582 w_583 w_502 w_584 rfl rfl (Nat.le_of_ble_eq_true rfl) ⟨by decide, by decide⟩ dL_law_1688 (fun v50 σ51 => ?_)
                    refine k_istore [(20, .int _), (19, .int _), (18, .int _), (17, .int _), (16, .int _), (15, .int _), (14, .int _), (13, .int _), (12, .int _), (11, .int _), (10, .int _), (9, .int _), (0, .ref _), (1, .ref _), (2, .ref _), (3, .ref _), (4, .ref _), (5, .ref _), (6, .ref _), (7, .ref _), (8, .ref _)] rfl (by decide) dL_law_1691 ?_
                    refine k_iload 0 rfl dL_law_1693 ?_
                    refine k_aload_n 14 rfl dL_law_1695 ?_
                    refine k_iload 1 rfl dL_law_1696 ?_
                    refine k_bipush (12) (by decide) dL_law_1698 ?_
                    refine k_iadd dL_law_1700 ?_
                    refine k_gd (fun h21 => ?_)
                    refine k_iaload (lvs_71 _) (cell_71 _ _ _ _) h21 dL_law_1701 ?_
                    refine k_icmp_lt 1711 dL_law_1702 (by decide) ?_ ?_
                    · refine k_aload_n 15 rfl dL_law_1711 ?_
                      refine k_bipush (8) (by decide) dL_law_1712 ?_
                      refine k_iload 3 rfl dL_law_1714 ?_
                      refine k_imul dL_law_1716 ?_
                      refine k_iload 0 rfl dL_law_1717 ?_
                      refine k_iadd dL_law_1719 ?_
                      refine k_gd (fun h22 => ?_)
                      refine k_iaload (lvs_72 _) (cell_72 _ _ _ _) h22 dL_law_1720 ?_
                      refine k_if_ne 1730 dL_law_1721 (by decide) ?_ ?_
                      · refine k_sipush (-1003) (by decide) dL_law_1724 ?_
                        refine k_goto 1740 dL_law_1727 (by decide) ?_
                        exact k_less (by omega) (k_sub [0, 3, 6, 8, 9, 10, 11, 12, 13, 14, 15, 16, 17, 18, 19, 20] rfl (bj_L_law_1740 X hst b L xs (0 + n) ih ad _ _ _ _ _ _ _ _ _))
                      · refine k_aload_n 15 rfl dL_law_1730 ?_
                        refine k_bipush (8) (by decide) dL_law_1731 ?_
                        refine k_iload 3 rfl dL_law_1733 ?_
                        refine k_imul dL_law_1735 ?_
                        refine k_iload 0 rfl dL_law_1736 ?_
                        refine k_iadd dL_law_1738 ?_
                        refine k_iaload (lvs_72 _) (cell_72 _ _ _ _) h22 dL_law_1739 ?_
                        exact k_less (by omega) (k_sub [0, 3, 6, 8, 9, 10, 11, 12, 13, 14, 15, 16, 17, 18, 19, 20] rfl (bj_L_law_1740 X hst b L xs (0 + n) ih ad _ _ _ _ _ _ _ _ _))
                    · refine k_sipush (-1001) (by decide) dL_law_1705 ?_
                      refine k_goto 1740 dL_law_1708 (by decide) ?_
                      exact k_less (by omega) (k_sub [0, 3, 6, 8, 9, 10, 11, 12, 13, 14, 15, 16, 17, 18, 19, 20] rfl (bj_L_law_1740 X hst b L xs (0 + n) ih ad _ _ _ _ _ _ _ _ _))
                  · refine k_aload_n 13 rfl dL_law_1782 ?_
                    refine k_aload_n 14 rfl dL_law_1783 ?_
                    refine k_aload 15 rfl dL_law_1784 ?_
                    refine k_aload 17 rfl dL_law_1786 ?_
                    refine k_aload 18 rfl dL_law_1788 ?_
                    refine k_iload 10 rfl dL_law_1790 ?_
                    refine k_aload 19 rfl dL_law_1792 ?_
                    refine k_callS (n := 7) (As := [.ref _, .ref _, .ref _, .ref _, .ref _, .int _, .ref _]) (nc_L_allocates X hst ad _ _) ⟨by decide, by decide, by decide +kernel⟩ w_514 w_515 w_502 w_516 rfl rfl (Nat.le_of_ble_eq_true rfl) ⟨by decide, by decide⟩ dL_law_1794 (fun v56 σ57 => ?_)
                    refine k_istore [(20, .int _), (19, .int _), (18, .int _), (17, .int _), (16, .int _), (15, .int _), (14, .int _), (13, .int _), (12, .int _), (11, .int _), (10, .int _), (9, .int _), (0, .ref _), (1, .ref _), (2, .ref _), (3, .ref _), (4, .ref _), (5, .ref _), (6, .ref _), (7, .ref _), (8, .ref _)] rfl (by decide) dL_law_1797 ?_
                    refine k_iload 10 rfl dL_law_1799 ?_
                    refine k_aload_n 14 rfl dL_law_1801 ?_
                    refine k_aload 17 rfl dL_law_1802 ?_
                    refine k_aload 18 rfl dL_law_1804 ?_
                    refine k_aload 20 rfl dL_law_1806 ?_
                    refine k_callS (n := 4) (As := [.ref _, .ref _, .ref _, .ref _]) (nc_L_runs X hst ad _) ⟨by decide, by decide, by decide +kernel⟩ w_606 w_607 w_502 w_608 rfl rfl (Nat.le_of_ble_eq_true rfl) ⟨by decide, by decide⟩ dL_law_1808 (fun v58 σ59 => ?_)
                    refine k_iadd dL_law_1811 ?_
                    refine k_istore [(10, .int _), (20, .int _), (19, .int _), (18, .int _), (17, .int _), (16, .int _), (15, .int _), (14, .int _), (13, .int _), (12, .int _), (11, .int _), (9, .int _), (0, .ref _), (1, .ref _), (2, .ref _), (3, .ref _), (4, .ref _), (5, .ref _), (6, .ref _), (7, .ref _), (8, .ref _)] rfl (by decide) dL_law_1812 ?_
                    refine k_iconst (0) (by decide) dL_law_1814 ?_
                    refine k_istore [(21, .int _), (10, .int _), (20, .int _), (19, .int _), (18, .int _), (17, .int _), (16, .int _), (15, .int _), (14, .int _), (13, .int _), (12, .int _), (11, .int _), (9, .int _), (0, .ref _), (1, .ref _), (2, .ref _), (3, .ref _), (4, .ref _), (5, .ref _), (6, .ref _), (7, .ref _), (8, .ref _)] rfl (by decide) dL_law_1815 ?_
                    exact k_less (by omega) (k_sub [0, 1, 2, 8, 12, 13, 14, 15, 16, 17, 18, 19, 20, 21] rfl (bl_L_law_1817 X hst b L xs (0 + n) ih FU ad _ _ _ _ _ _))
              · refine k_iload 4 rfl dL_law_1272 ?_
                refine k_sipush (256) (by decide) dL_law_1274 ?_
                refine k_idiv (by decide) dL_law_1277 ?_
                refine k_iconst (3) (by decide) dL_law_1278 ?_
                refine k_callS (n := 2) (As := [.int _, .int _]) (nc_L_up X hst ad _ _ _) ⟨by decide, by decide, by decide +kernel⟩ w_582 w_583 w_502 w_584 rfl rfl (Nat.le_of_ble_eq_true rfl) ⟨by decide, by decide⟩ dL_law_1279 (fun v67 σ68 => ?_)
                refine k_istore [(20, .int _), (19, .int _), (18, .int _), (17, .int _), (16, .int _), (15, .int _), (14, .int _), (13, .int _), (12, .int _), (11, .int _), (10, .int _), (9, .int _), (0, .ref _), (1, .ref _), (2, .ref _), (3, .ref _), (4, .ref _), (5, .ref _), (6, .ref _), (7, .ref _), (8, .ref _)] rfl (by decide) dL_law_1282 ?_
                refine k_aload_n 14 rfl dL_law_1284 ?_
                refine k_iload 1 rfl dL_law_1285 ?_
                refine k_gd (fun h25 => ?_)
                refine k_iaload (lvs_71 _) (cell_71 _ _ _ _) h25 dL_law_1287 ?_
                refine k_if_ne 1300 dL_law_1288 (by decide) ?_ ?_
                · refine k_iload 9 rfl dL_law_1291 ?_
                  refine k_if_ne 1300 dL_law_1293 (by decide) ?_ ?_
                  · refine k_iconst (1) (by decide) dL_law_1296 ?_
                    refine k_goto 1301 dL_law_1297 (by decide) ?_
                    exact k_less (by omega) (k_sub [0, 1, 3, 6, 8, 9, 10, 11, 12, 13, 14, 15, 16, 17, 18, 19, 20] rfl (bj_L_law_1301 X hst b L xs (0 + n) ih ad _ _ _ _ _ _ _ _ _ _))
                  · exact k_less (by omega) (k_sub [0, 1, 3, 6, 8, 9, 10, 11, 12, 13, 14, 15, 16, 17, 18, 19, 20] rfl (bj_L_law_1300 X hst b L xs (0 + n) ih ad _ _ _ _ _ _ _ _ _))
                · exact k_less (by omega) (k_sub [0, 1, 3, 6, 8, 9, 10, 11, 12, 13, 14, 15, 16, 17, 18, 19, 20] rfl (bj_L_law_1300 X hst b L xs (0 + n) ih ad _ _ _ _ _ _ _ _ _))
      · refine k_iload 1 rfl dL_law_664 ?_
        refine k_iconst (1) (by decide) dL_law_666 ?_
        refine k_icmp_le 686 dL_law_667 (by decide) ?_ ?_
        · refine k_iload 4 rfl dL_law_686 ?_
          refine k_sipush (256) (by decide) dL_law_688 ?_
          refine k_idiv (by decide) dL_law_691 ?_
          refine k_iconst (4) (by decide) dL_law_692 ?_
          refine k_callS (n := 2) (As := [.int _, .int _]) (nc_L_up X hst ad _ _ _) ⟨by decide, by decide, by decide +kernel⟩ w_582 w_583 w_502 w_584 rfl rfl (Nat.le_of_ble_eq_true rfl) ⟨by decide, by decide⟩ dL_law_693 (fun v73 σ74 => ?_)
          exact k_less (by omega) (k_sub [0, 1, 2, 4, 5, 7, 8, 9, 10, 11, 12, 13, 14, 15, 16, 17, 18, 19] rfl (bj_L_law_696 X hst b L xs (0 + n) ih ad _ _ _ _ _ _ _ _ _ _ _))
        · refine k_iload 4 rfl dL_law_670 ?_
          refine k_sipush (256) (by decide) dL_law_672 ?_
          refine k_idiv (by decide) dL_law_675 ?_
          refine k_bipush (9) (by decide) dL_law_676 ?_
          refine k_callS (n := 2) (As := [.int _, .int _]) (nc_L_up X hst ad _ _ _) ⟨by decide, by decide, by decide +kernel⟩ w_582 w_583 w_502 w_584 rfl rfl (Nat.le_of_ble_eq_true rfl) ⟨by decide, by decide⟩ dL_law_678 (fun v89 σ90 => ?_)
          refine k_iconst (4) (by decide) dL_law_681 ?_
          refine k_isub dL_law_682 ?_
          refine k_goto 696 dL_law_683 (by decide) ?_
          exact k_less (by omega) (k_sub [0, 1, 2, 4, 5, 7, 8, 9, 10, 11, 12, 13, 14, 15, 16, 17, 18, 19] rfl (bj_L_law_696 X hst b L xs (0 + n) ih ad _ _ _ _ _ _ _ _ _ _ _))
theorem bl_L_law_575 (X : Xt) (hst : X.1.stackTraces = false) (b L : Nat) (xs : Nat → Int32) (N : Nat) : ∀ (n : Nat) (ad : Ad) (σ : Wd) (a14 : Int32) (a13 : Int32) (a12 : Int32) (a11 : Int32) (a10 : Int32) (a9 : Int32), Lk X b L xs (100) ad σ 575 [(14, .int a14), (13, .int a13), (12, .int a12), (11, .int a11), (10, .int a10), (9, .int a9), (0, .ref b), (1, .ref (ad 0 0)), (2, .ref (ad 71 0)), (3, .ref (ad 72 0)), (4, .ref (ad 73 0)), (5, .ref (ad 74 0)), (6, .ref (ad 75 0)), (7, .ref (ad 76 0)), (8, .ref (ad 77 0))] [] (l_L_law_575 L xs n σ a14 a13 a12 a11 a10 a9) := by
  intro n
  induction n with
  | zero => intros; exact k_none
  | succ n ih =>
  intro ad σ a14 a13 a12 a11 a10 a9
  rw [l_L_law_575]
  refine k_iload 0 rfl dL_law_575 ?_
  refine k_iconst (4) (by decide) dL_law_577 ?_
  refine k_icmp_ge 596 dL_law_578 (by decide) ?_ ?_
  · refine k_bipush (7) (by decide) dL_law_596 ?_
    refine k_istore [(14, .int _), (13, .int _), (12, .int _), (11, .int _), (10, .int _), (9, .int _), (0, .ref _), (1, .ref _), (2, .ref _), (3, .ref _), (4, .ref _), (5, .ref _), (6, .ref _), (7, .ref _), (8, .ref _)] rfl (by decide) dL_law_598 ?_
    exact k_less (by omega) (k_sub [0, 1, 2, 3, 4, 5, 6, 7, 8, 9, 10, 11, 12, 13, 14] rfl (bl_L_law_600 X hst b L xs 0 100 ad _ _ _ _ _ _ _))
  · refine k_aload 13 rfl dL_law_581 ?_
    refine k_bipush (9) (by decide) dL_law_583 ?_
    refine k_iload 0 rfl dL_law_585 ?_
    refine k_iadd dL_law_587 ?_
    refine k_iconst (-1) (by decide) dL_law_588 ?_
    refine k_gd (fun h34 => ?_)
    refine k_bd ?_
    refine k_iastore (lvs_76 _) (ia_76 _ _ _) h34 dL_law_589 ?_
    refine k_iinc (1) [(14, .int _), (13, .int _), (12, .int _), (11, .int _), (10, .int _), (9, .int _), (0, .ref _), (1, .ref _), (2, .ref _), (3, .ref _), (4, .ref _), (5, .ref _), (6, .ref _), (7, .ref _), (8, .ref _)] 0 rfl (by decide) rfl (by decide) dL_law_590 ?_
    refine k_goto 575 dL_law_593 (by decide) ?_
    exact k_less (by omega) (k_sub [0, 1, 2, 3, 4, 5, 6, 7, 8, 9, 10, 11, 12, 13, 14] rfl (ih ad _ _ _ _ _ _ _))
theorem bj_L_law_526 (X : Xt) (hst : X.1.stackTraces = false) (b L : Nat) (xs : Nat → Int32) (N : Nat) {k233 : Wd → Int32 → Int32 → Int32 → Int32 → Int32 → Int32 → Option Unit} (hk233 : ∀ (ad : Ad) (σ : Wd) (a14 : Int32) (a13 : Int32) (a12 : Int32) (a11 : Int32) (a10 : Int32) (a9 : Int32), Lk X b L xs (N) ad σ 233 [(14, .int a14), (13, .int a13), (12, .int a12), (11, .int a11), (10, .int a10), (9, .int a9), (0, .ref b), (1, .ref (ad 0 0)), (2, .ref (ad 71 0)), (3, .ref (ad 72 0)), (4, .ref (ad 73 0)), (5, .ref (ad 74 0)), (6, .ref (ad 75 0)), (7, .ref (ad 76 0)), (8, .ref (ad 77 0))] [] (k233 σ a14 a13 a12 a11 a10 a9)) (ad : Ad) (σ : Wd) (a13 : Int32) (a14 : Int32) (a12 : Int32) (a11 : Int32) (a10 : Int32) (a9 : Int32) (s0 : Int32) (s1 : Int32) : Lk X b L xs (N) ad σ 526 [(13, .int a13), (14, .int a14), (12, .int a12), (11, .int a11), (10, .int a10), (9, .int a9), (0, .ref b), (1, .ref (ad 0 0)), (2, .ref (ad 71 0)), (3, .ref (ad 72 0)), (4, .ref (ad 73 0)), (5, .ref (ad 74 0)), (6, .ref (ad 75 0)), (7, .ref (ad 76 0)), (8, .ref (ad 77 0))] [.int s0, .int s1, .ref (ad 76 0)] (j_L_law_526 L xs k233 σ a13 a14 a12 a11 a10 a9 s0 s1) := by
  unfold j_L_law_526
  refine k_gd (fun h42 => ?_)
  refine k_bd ?_
  refine k_iastore (lvs_76 _) (ia_76 _ _ _) h42 dL_law_526 ?_
  refine k_aload 13 rfl dL_law_527 ?_
  refine k_iconst (3) (by decide) dL_law_529 ?_
  refine k_iload 1 rfl dL_law_530 ?_
  refine k_iadd dL_law_532 ?_
  refine k_bipush (10) (by decide) dL_law_533 ?_
  refine k_gd (fun h43 => ?_)
  refine k_bd ?_
  refine k_iastore (lvs_76 _) (ia_76 _ _ _) h43 dL_law_535 ?_
  refine k_aload 13 rfl dL_law_536 ?_
  refine k_bipush (6) (by decide) dL_law_538 ?_
  refine k_iload 1 rfl dL_law_540 ?_
  refine k_iadd dL_law_542 ?_
  refine k_iload 1 rfl dL_law_543 ?_
  refine k_if_ne 552 dL_law_545 (by decide) ?_ ?_
  · refine k_iconst (5) (by decide) dL_law_548 ?_
    refine k_goto 565 dL_law_549 (by decide) ?_
    refine k_gd (fun h44 => ?_)
    refine k_bd ?_
    refine k_iastore (lvs_76 _) (ia_76 _ _ _) h44 dL_law_565 ?_
    refine k_iinc (1) [(14, .int _), (13, .int _), (12, .int _), (11, .int _), (10, .int _), (9, .int _), (0, .ref _), (1, .ref _), (2, .ref _), (3, .ref _), (4, .ref _), (5, .ref _), (6, .ref _), (7, .ref _), (8, .ref _)] 1 rfl (by decide) rfl (by decide) dL_law_566 ?_
    refine k_goto 233 dL_law_569 (by decide) ?_
    exact k_less (by omega) (k_sub [0, 1, 2, 3, 4, 5, 6, 7, 8, 9, 10, 11, 12, 13, 14] rfl (hk233 ad _ _ _ _ _ _ _))
  · refine k_iload 1 rfl dL_law_552 ?_
    refine k_iconst (1) (by decide) dL_law_554 ?_
    refine k_icmp_ne 563 dL_law_555 (by decide) ?_ ?_
    · refine k_bipush (20) (by decide) dL_law_558 ?_
      refine k_goto 565 dL_law_560 (by decide) ?_
      refine k_gd (fun h45 => ?_)
      refine k_bd ?_
      refine k_iastore (lvs_76 _) (ia_76 _ _ _) h45 dL_law_565 ?_
      refine k_iinc (1) [(14, .int _), (13, .int _), (12, .int _), (11, .int _), (10, .int _), (9, .int _), (0, .ref _), (1, .ref _), (2, .ref _), (3, .ref _), (4, .ref _), (5, .ref _), (6, .ref _), (7, .ref _), (8, .ref _)] 1 rfl (by decide) rfl (by decide) dL_law_566 ?_
      refine k_goto 233 dL_law_569 (by decide) ?_
      exact k_less (by omega) (k_sub [0, 1, 2, 3, 4, 5, 6, 7, 8, 9, 10, 11, 12, 13, 14] rfl (hk233 ad _ _ _ _ _ _ _))
    · refine k_bipush (60) (by decide) dL_law_563 ?_
      refine k_gd (fun h46 => ?_)
      refine k_bd ?_
      refine k_iastore (lvs_76 _) (ia_76 _ _ _) h46 dL_law_565 ?_
      refine k_iinc (1) [(14, .int _), (13, .int _), (12, .int _), (11, .int _), (10, .int _), (9, .int _), (0, .ref _), (1, .ref _), (2, .ref _), (3, .ref _), (4, .ref _), (5, .ref _), (6, .ref _), (7, .ref _), (8, .ref _)] 1 rfl (by decide) rfl (by decide) dL_law_566 ?_
      refine k_goto 233 dL_law_569 (by decide) ?_
      exact k_less (by omega) (k_sub [0, 1, 2, 3, 4, 5, 6, 7, 8, 9, 10, 11, 12, 13, 14] rfl (hk233 ad _ _ _ _ _ _ _))
theorem bj_L_law_494 (X : Xt) (hst : X.1.stackTraces = false) (b L : Nat) (xs : Nat → Int32) (N : Nat) {k233 : Wd → Int32 → Int32 → Int32 → Int32 → Int32 → Int32 → Option Unit} (hk233 : ∀ (ad : Ad) (σ : Wd) (a14 : Int32) (a13 : Int32) (a12 : Int32) (a11 : Int32) (a10 : Int32) (a9 : Int32), Lk X b L xs (N) ad σ 233 [(14, .int a14), (13, .int a13), (12, .int a12), (11, .int a11), (10, .int a10), (9, .int a9), (0, .ref b), (1, .ref (ad 0 0)), (2, .ref (ad 71 0)), (3, .ref (ad 72 0)), (4, .ref (ad 73 0)), (5, .ref (ad 74 0)), (6, .ref (ad 75 0)), (7, .ref (ad 76 0)), (8, .ref (ad 77 0))] [] (k233 σ a14 a13 a12 a11 a10 a9)) (ad : Ad) (σ : Wd) (a14 : Int32) (a12 : Int32) (a11 : Int32) (a10 : Int32) (a9 : Int32) (s0 : Int32) : Lk X b L xs (N) ad σ 494 [(14, .int a14), (12, .int a12), (11, .int a11), (10, .int a10), (9, .int a9), (0, .ref b), (1, .ref (ad 0 0)), (2, .ref (ad 71 0)), (3, .ref (ad 72 0)), (4, .ref (ad 73 0)), (5, .ref (ad 74 0)), (6, .ref (ad 75 0)), (7, .ref (ad 76 0)), (8, .ref (ad 77 0))] [.int s0] (j_L_law_494 L xs k233 σ a14 a12 a11 a10 a9 s0) := by
  unfold j_L_law_494
  refine k_istore [(13, .int _), (14, .int _), (12, .int _), (11, .int _), (10, .int _), (9, .int _), (0, .ref _), (1, .ref _), (2, .ref _), (3, .ref _), (4, .ref _), (5, .ref _), (6, .ref _), (7, .ref _), (8, .ref _)] rfl (by decide) dL_law_494 ?_
  refine k_aload 13 rfl dL_law_496 ?_
  refine k_iload 1 rfl dL_law_498 ?_
  refine k_iload 1 rfl dL_law_500 ?_
  refine k_if_ne 511 dL_law_502 (by decide) ?_ ?_
  · refine k_sipush (1000) (by decide) dL_law_505 ?_
    refine k_goto 526 dL_law_508 (by decide) ?_
    exact k_less (by omega) (k_sub [0, 1, 2, 3, 4, 5, 6, 7, 8, 9, 10, 11, 12, 13, 14] rfl (bj_L_law_526 X hst b L xs N hk233 ad _ _ _ _ _ _ _ _ _))
  · refine k_iload 1 rfl dL_law_511 ?_
    refine k_iconst (1) (by decide) dL_law_513 ?_
    refine k_icmp_ne 523 dL_law_514 (by decide) ?_ ?_
    · refine k_sipush (3000) (by decide) dL_law_517 ?_
      refine k_goto 526 dL_law_520 (by decide) ?_
      exact k_less (by omega) (k_sub [0, 1, 2, 3, 4, 5, 6, 7, 8, 9, 10, 11, 12, 13, 14] rfl (bj_L_law_526 X hst b L xs N hk233 ad _ _ _ _ _ _ _ _ _))
    · refine k_sipush (9000) (by decide) dL_law_523 ?_
      exact k_less (by omega) (k_sub [0, 1, 2, 3, 4, 5, 6, 7, 8, 9, 10, 11, 12, 13, 14] rfl (bj_L_law_526 X hst b L xs N hk233 ad _ _ _ _ _ _ _ _ _))
theorem bj_L_law_493 (X : Xt) (hst : X.1.stackTraces = false) (b L : Nat) (xs : Nat → Int32) (N : Nat) {k233 : Wd → Int32 → Int32 → Int32 → Int32 → Int32 → Int32 → Option Unit} (hk233 : ∀ (ad : Ad) (σ : Wd) (a14 : Int32) (a13 : Int32) (a12 : Int32) (a11 : Int32) (a10 : Int32) (a9 : Int32), Lk X b L xs (N) ad σ 233 [(14, .int a14), (13, .int a13), (12, .int a12), (11, .int a11), (10, .int a10), (9, .int a9), (0, .ref b), (1, .ref (ad 0 0)), (2, .ref (ad 71 0)), (3, .ref (ad 72 0)), (4, .ref (ad 73 0)), (5, .ref (ad 74 0)), (6, .ref (ad 75 0)), (7, .ref (ad 76 0)), (8, .ref (ad 77 0))] [] (k233 σ a14 a13 a12 a11 a10 a9)) (ad : Ad) (σ : Wd) (a14 : Int32) (a12 : Int32) (a11 : Int32) (a10 : Int32) (a9 : Int32) : Lk X b L xs (N) ad σ 493 [(14, .int a14), (12, .int a12), (11, .int a11), (10, .int a10), (9, .int a9), (0, .ref b), (1, .ref (ad 0 0)), (2, .ref (ad 71 0)), (3, .ref (ad 72 0)), (4, .ref (ad 73 0)), (5, .ref (ad 74 0)), (6, .ref (ad 75 0)), (7, .ref (ad 76 0)), (8, .ref (ad 77 0))] [] (j_L_law_493 L xs k233 σ a14 a12 a11 a10 a9) := by
  unfold j_L_law_493
  refine k_iconst (0) (by decide) dL_law_493 ?_
  exact k_less (by omega) (k_sub [0, 1, 2, 3, 4, 5, 6, 7, 8, 9, 10, 11, 12, 13] rfl (bj_L_law_494 X hst b L xs N hk233 ad _ _ _ _ _ _ _))
theorem bj_L_law_411 (X : Xt) (hst : X.1.stackTraces = false) (b L : Nat) (xs : Nat → Int32) (N : Nat) {k233 : Wd → Int32 → Int32 → Int32 → Int32 → Int32 → Int32 → Option Unit} (hk233 : ∀ (ad : Ad) (σ : Wd) (a14 : Int32) (a13 : Int32) (a12 : Int32) (a11 : Int32) (a10 : Int32) (a9 : Int32), Lk X b L xs (N) ad σ 233 [(14, .int a14), (13, .int a13), (12, .int a12), (11, .int a11), (10, .int a10), (9, .int a9), (0, .ref b), (1, .ref (ad 0 0)), (2, .ref (ad 71 0)), (3, .ref (ad 72 0)), (4, .ref (ad 73 0)), (5, .ref (ad 74 0)), (6, .ref (ad 75 0)), (7, .ref (ad 76 0)), (8, .ref (ad 77 0))] [] (k233 σ a14 a13 a12 a11 a10 a9)) (ad : Ad) (σ : Wd) (a14 : Int32) (a13 : Int32) (a12 : Int32) (a11 : Int32) (a10 : Int32) (a9 : Int32) (s0 : Int32) (s1 : Int32) (s2 : Int32) (s3 : Int32) : Lk X b L xs (N + 1) ad σ 411 [(14, .int a14), (13, .int a13), (12, .int a12), (11, .int a11), (10, .int a10), (9, .int a9), (0, .ref b), (1, .ref (ad 0 0)), (2, .ref (ad 71 0)), (3, .ref (ad 72 0)), (4, .ref (ad 73 0)), (5, .ref (ad 74 0)), (6, .ref (ad 75 0)), (7, .ref (ad 76 0)), (8, .ref (ad 77 0))] [.int s0, .int s1, .int s2, .int s3, .ref (ad 75 0)] (j_L_law_411 L xs k233 σ a14 a13 a12 a11 a10 a9 s0 s1 s2 s3) := by
  unfold j_L_law_411
  refine k_callS (n := 2) (As := [.int _, .int _]) (nc_L_up X hst ad _ _ _) ⟨by decide, by decide, by decide +kernel⟩ w_582 w_583 w_502 w_584 rfl rfl (Nat.le_of_ble_eq_true rfl) ⟨by decide, by decide⟩ dL_law_411 (fun v113 σ114 => ?_)
  refine k_iadd dL_law_414 ?_
  refine k_gd (fun h40 => ?_)
  refine k_bd ?_
  refine k_iastore (lvs_75 _) (ia_75 _ _ _) h40 dL_law_415 ?_
  refine k_aload 12 rfl dL_law_416 ?_
  refine k_bipush (6) (by decide) dL_law_418 ?_
  refine k_iload 0 rfl dL_law_420 ?_
  refine k_imul dL_law_422 ?_
  refine k_iconst (5) (by decide) dL_law_423 ?_
  refine k_iadd dL_law_424 ?_
  refine k_iconst (-1) (by decide) dL_law_425 ?_
  refine k_gd (fun h41 => ?_)
  refine k_bd ?_
  refine k_iastore (lvs_75 _) (ia_75 _ _ _) h41 dL_law_426 ?_
  refine k_iload 1 rfl dL_law_427 ?_
  refine k_if_eq 493 dL_law_429 (by decide) ?_ ?_
  · exact k_less (by omega) (k_sub [0, 2, 3, 4, 5, 6, 7, 8, 9, 10, 11, 12, 13, 14] rfl (bj_L_law_493 X hst b L xs N hk233 ad _ _ _ _ _ _))
  · refine k_aload_n 7 rfl dL_law_432 ?_
    refine k_aload 12 rfl dL_law_433 ?_
    refine k_bipush (6) (by decide) dL_law_435 ?_
    refine k_iload 0 rfl dL_law_437 ?_
    refine k_imul dL_law_439 ?_
    refine k_gd (fun h47 => ?_)
    refine k_iaload (lvs_75 _) (cell_75 _ _ _ _) h47 dL_law_440 ?_
    refine k_aload 12 rfl dL_law_441 ?_
    refine k_bipush (6) (by decide) dL_law_443 ?_
    refine k_iload 0 rfl dL_law_445 ?_
    refine k_imul dL_law_447 ?_
    refine k_iconst (1) (by decide) dL_law_448 ?_
    refine k_iadd dL_law_449 ?_
    refine k_gd (fun h48 => ?_)
    refine k_iaload (lvs_75 _) (cell_75 _ _ _ _) h48 dL_law_450 ?_
    refine k_aload 12 rfl dL_law_451 ?_
    refine k_bipush (6) (by decide) dL_law_453 ?_
    refine k_iload 0 rfl dL_law_455 ?_
    refine k_imul dL_law_457 ?_
    refine k_iconst (2) (by decide) dL_law_458 ?_
    refine k_iadd dL_law_459 ?_
    refine k_gd (fun h49 => ?_)
    refine k_iaload (lvs_75 _) (cell_75 _ _ _ _) h49 dL_law_460 ?_
    refine k_aload 12 rfl dL_law_461 ?_
    refine k_bipush (6) (by decide) dL_law_463 ?_
    refine k_iload 0 rfl dL_law_465 ?_
    refine k_imul dL_law_467 ?_
    refine k_iconst (3) (by decide) dL_law_468 ?_
    refine k_iadd dL_law_469 ?_
    refine k_gd (fun h50 => ?_)
    refine k_iaload (lvs_75 _) (cell_75 _ _ _ _) h50 dL_law_470 ?_
    refine k_aload 12 rfl dL_law_471 ?_
    refine k_bipush (6) (by decide) dL_law_473 ?_
    refine k_iload 0 rfl dL_law_475 ?_
    refine k_imul dL_law_477 ?_
    refine k_iconst (4) (by decide) dL_law_478 ?_
    refine k_iadd dL_law_479 ?_
    refine k_gd (fun h51 => ?_)
    refine k_iaload (lvs_75 _) (cell_75 _ _ _ _) h51 dL_law_480 ?_
    refine k_callVA (n := 5) (As := [.int _, .int _, .int _, .int _, .int _]) (nc_X9_diagram X hst ad _ _ _ _ _ _) ⟨rfl, by decide, by decide, by decide +kernel⟩ w_623 w_624 w_625 w_203 w_626 rfl rfl (Nat.le_of_ble_eq_true rfl) ⟨by decide, by decide⟩ ⟨by decide, by decide⟩ dL_law_481 (fun v122 σ123 a1 hFa1 => ?_)
    rw [← hFa1 0 0 (by decide), ← hFa1 71 0 (by decide), ← hFa1 72 0 (by decide), ← hFa1 73 0 (by decide), ← hFa1 74 0 (by decide), ← hFa1 75 0 (by decide), ← hFa1 76 0 (by decide), ← hFa1 77 0 (by decide)]
    refine k_iload 0 rfl dL_law_484 ?_
    refine k_icmp_ne 493 dL_law_486 (by decide) ?_ ?_
    · refine k_iconst (1) (by decide) dL_law_489 ?_
      refine k_goto 494 dL_law_490 (by decide) ?_
      exact k_less (by omega) (k_sub [0, 2, 3, 4, 5, 6, 7, 8, 9, 10, 11, 12, 13, 14] rfl (bj_L_law_494 X hst b L xs N hk233 a1 _ _ _ _ _ _ _))
    · exact k_less (by omega) (k_sub [0, 2, 3, 4, 5, 6, 7, 8, 9, 10, 11, 12, 13, 14] rfl (bj_L_law_493 X hst b L xs N hk233 a1 _ _ _ _ _ _))
theorem bj_L_law_352 (X : Xt) (hst : X.1.stackTraces = false) (b L : Nat) (xs : Nat → Int32) (N : Nat) {k233 : Wd → Int32 → Int32 → Int32 → Int32 → Int32 → Int32 → Option Unit} (hk233 : ∀ (ad : Ad) (σ : Wd) (a14 : Int32) (a13 : Int32) (a12 : Int32) (a11 : Int32) (a10 : Int32) (a9 : Int32), Lk X b L xs (N) ad σ 233 [(14, .int a14), (13, .int a13), (12, .int a12), (11, .int a11), (10, .int a10), (9, .int a9), (0, .ref b), (1, .ref (ad 0 0)), (2, .ref (ad 71 0)), (3, .ref (ad 72 0)), (4, .ref (ad 73 0)), (5, .ref (ad 74 0)), (6, .ref (ad 75 0)), (7, .ref (ad 76 0)), (8, .ref (ad 77 0))] [] (k233 σ a14 a13 a12 a11 a10 a9)) (ad : Ad) (σ : Wd) (a15 : Int32) (a14 : Int32) (a13 : Int32) (a12 : Int32) (a11 : Int32) (a10 : Int32) (a9 : Int32) (s0 : Int32) (s1 : Int32) (s2 : Int32) (s3 : Int32) : Lk X b L xs (N + 1) ad σ 352 [(15, .int a15), (14, .int a14), (13, .int a13), (12, .int a12), (11, .int a11), (10, .int a10), (9, .int a9), (0, .ref b), (1, .ref (ad 0 0)), (2, .ref (ad 71 0)), (3, .ref (ad 72 0)), (4, .ref (ad 73 0)), (5, .ref (ad 74 0)), (6, .ref (ad 75 0)), (7, .ref (ad 76 0)), (8, .ref (ad 77 0))] [.int s0, .int s1, .int s2, .int s3, .ref (ad 75 0)] (j_L_law_352 L xs k233 σ a15 a14 a13 a12 a11 a10 a9 s0 s1 s2 s3) := by
  unfold j_L_law_352
  refine k_callS (n := 2) (As := [.int _, .int _]) (nc_L_up X hst ad _ _ _) ⟨by decide, by decide, by decide +kernel⟩ w_582 w_583 w_502 w_584 rfl rfl (Nat.le_of_ble_eq_true rfl) ⟨by decide, by decide⟩ dL_law_352 (fun v105 σ106 => ?_)
  refine k_iadd dL_law_355 ?_
  refine k_gd (fun h38 => ?_)
  refine k_bd ?_
  refine k_iastore (lvs_75 _) (ia_75 _ _ _) h38 dL_law_356 ?_
  refine k_aload 13 rfl dL_law_357 ?_
  refine k_bipush (6) (by decide) dL_law_359 ?_
  refine k_iload 1 rfl dL_law_361 ?_
  refine k_imul dL_law_363 ?_
  refine k_iconst (3) (by decide) dL_law_364 ?_
  refine k_iadd dL_law_365 ?_
  refine k_iload 0 rfl dL_law_366 ?_
  refine k_sipush (128) (by decide) dL_law_368 ?_
  refine k_idiv (by decide) dL_law_371 ?_
  refine k_iconst (3) (by decide) dL_law_372 ?_
  refine k_callS (n := 2) (As := [.int _, .int _]) (nc_L_up X hst ad _ _ _) ⟨by decide, by decide, by decide +kernel⟩ w_582 w_583 w_502 w_584 rfl rfl (Nat.le_of_ble_eq_true rfl) ⟨by decide, by decide⟩ dL_law_373 (fun v108 σ109 => ?_)
  refine k_gd (fun h39 => ?_)
  refine k_bd ?_
  refine k_iastore (lvs_75 _) (ia_75 _ _ _) h39 dL_law_376 ?_
  refine k_aload 13 rfl dL_law_377 ?_
  refine k_bipush (6) (by decide) dL_law_379 ?_
  refine k_iload 1 rfl dL_law_381 ?_
  refine k_imul dL_law_383 ?_
  refine k_iconst (4) (by decide) dL_law_384 ?_
  refine k_iadd dL_law_385 ?_
  refine k_iconst (1) (by decide) dL_law_386 ?_
  refine k_iload 0 rfl dL_law_387 ?_
  refine k_sipush (256) (by decide) dL_law_389 ?_
  refine k_idiv (by decide) dL_law_392 ?_
  refine k_iload 0 rfl dL_law_393 ?_
  refine k_bipush (16) (by decide) dL_law_395 ?_
  refine k_idiv (by decide) dL_law_397 ?_
  refine k_iconst (2) (by decide) dL_law_398 ?_
  refine k_callS (n := 2) (As := [.int _, .int _]) (nc_L_up X hst ad _ _ _) ⟨by decide, by decide, by decide +kernel⟩ w_582 w_583 w_502 w_584 rfl rfl (Nat.le_of_ble_eq_true rfl) ⟨by decide, by decide⟩ dL_law_399 (fun v111 σ112 => ?_)
  refine k_if_ne 409 dL_law_402 (by decide) ?_ ?_
  · refine k_iconst (3) (by decide) dL_law_405 ?_
    refine k_goto 411 dL_law_406 (by decide) ?_
    exact k_less (by omega) (k_sub [1, 2, 3, 4, 5, 6, 7, 8, 9, 10, 11, 12, 13, 14, 15] rfl (bj_L_law_411 X hst b L xs N hk233 ad _ _ _ _ _ _ _ _ _ _ _))
  · refine k_bipush (100) (by decide) dL_law_409 ?_
    exact k_less (by omega) (k_sub [1, 2, 3, 4, 5, 6, 7, 8, 9, 10, 11, 12, 13, 14, 15] rfl (bj_L_law_411 X hst b L xs N hk233 ad _ _ _ _ _ _ _ _ _ _ _))
