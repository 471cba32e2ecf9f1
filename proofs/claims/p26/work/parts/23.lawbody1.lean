theorem bj_L_law_1937 (X : Xt) (hst : X.1.stackTraces = false) (b L : Nat) (xs : Nat → Int32) (N : Nat) {k600 : Wd → Int32 → Int32 → Int32 → Int32 → Int32 → Int32 → Option Unit} (hk600 : ∀ (ad : Ad) (σ : Wd) (a14 : Int32) (a13 : Int32) (a12 : Int32) (a11 : Int32) (a10 : Int32) (a9 : Int32), Lk X b L xs (N) ad σ 600 [(14, .int a14), (13, .int a13), (12, .int a12), (11, .int a11), (10, .int a10), (9, .int a9), (0, .ref b), (1, .ref (ad 0 0)), (2, .ref (ad 71 0)), (3, .ref (ad 72 0)), (4, .ref (ad 73 0)), (5, .ref (ad 74 0)), (6, .ref (ad 75 0)), (7, .ref (ad 76 0)), (8, .ref (ad 77 0))] [] (k600 σ a14 a13 a12 a11 a10 a9)) (ad : Ad) (σ : Wd) (a13 : Int32) (a14 : Int32) (a12 : Int32) (a11 : Int32) (a10 : Int32) (a9 : Int32) : Lk X b L xs (N) ad σ 1937 [(13, .int a13), (14, .int a14), (12, .int a12), (11, .int a11), (10, .int a10), (9, .int a9), (0, .ref b), (1, .ref (ad 0 0)), (2, .ref (ad 71 0)), (3, .ref (ad 72 0)), (4, .ref (ad 73 0)), (5, .ref (ad 74 0)), (6, .ref (ad 75 0)), (7, .ref (ad 76 0)), (8, .ref (ad 77 0))] [] (j_L_law_1937 L xs k600 σ a13 a14 a12 a11 a10 a9) := by
  unfold j_L_law_1937
  refine k_iload 0 rfl dL_law_1937 ?_
  refine k_if_eq 1967 dL_law_1939 (by decide) ?_ ?_
  · refine k_iconst (0) (by decide) dL_law_1967 ?_
    refine k_istore [(13, .int _), (14, .int _), (12, .int _), (11, .int _), (10, .int _), (9, .int _), (0, .ref _), (1, .ref _), (2, .ref _), (3, .ref _), (4, .ref _), (5, .ref _), (6, .ref _), (7, .ref _), (8, .ref _)] rfl (by decide) dL_law_1968 ?_
    refine k_iinc (1) [(14, .int _), (13, .int _), (12, .int _), (11, .int _), (10, .int _), (9, .int _), (0, .ref _), (1, .ref _), (2, .ref _), (3, .ref _), (4, .ref _), (5, .ref _), (6, .ref _), (7, .ref _), (8, .ref _)] 1 rfl (by decide) rfl (by decide) dL_law_1970 ?_
    refine k_goto 600 dL_law_1973 (by decide) ?_
    exact k_less (by omega) (k_sub [0, 1, 2, 3, 4, 5, 6, 7, 8, 9, 10, 11, 12, 13, 14] rfl (hk600 ad _ _ _ _ _ _ _))
  · refine k_aload_n 7 rfl dL_law_1942 ?_
    refine k_aload_n 8 rfl dL_law_1943 ?_
    refine k_aload_n 9 rfl dL_law_1944 ?_
    refine k_aload 10 rfl dL_law_1945 ?_
    refine k_aload 11 rfl dL_law_1947 ?_
    refine k_aload 12 rfl dL_law_1949 ?_
    refine k_aload 13 rfl dL_law_1951 ?_
    refine k_iload 5 rfl dL_law_1953 ?_
    refine k_aload 14 rfl dL_law_1955 ?_
    refine k_callS (n := 9) (As := [.ref _, .ref _, .ref _, .ref _, .ref _, .ref _, .ref _, .int _, .ref _]) (nc_L_alike X hst ad _ _) ⟨by decide, by decide, by decide +kernel⟩ w_589 w_590 w_502 w_591 rfl rfl (Nat.le_of_ble_eq_true rfl) ⟨by decide, by decide⟩ dL_law_1957 (fun v16 σ17 => ?_)
    refine k_if_eq 1967 dL_law_1960 (by decide) ?_ ?_
    · refine k_iconst (0) (by decide) dL_law_1967 ?_
      refine k_istore [(13, .int _), (14, .int _), (12, .int _), (11, .int _), (10, .int _), (9, .int _), (0, .ref _), (1, .ref _), (2, .ref _), (3, .ref _), (4, .ref _), (5, .ref _), (6, .ref _), (7, .ref _), (8, .ref _)] rfl (by decide) dL_law_1968 ?_
      refine k_iinc (1) [(14, .int _), (13, .int _), (12, .int _), (11, .int _), (10, .int _), (9, .int _), (0, .ref _), (1, .ref _), (2, .ref _), (3, .ref _), (4, .ref _), (5, .ref _), (6, .ref _), (7, .ref _), (8, .ref _)] 1 rfl (by decide) rfl (by decide) dL_law_1970 ?_
      refine k_goto 600 dL_law_1973 (by decide) ?_
      exact k_less (by omega) (k_sub [0, 1, 2, 3, 4, 5, 6, 7, 8, 9, 10, 11, 12, 13, 14] rfl (hk600 ad _ _ _ _ _ _ _))
    · refine k_iconst (1) (by decide) dL_law_1963 ?_
      refine k_goto 1968 dL_law_1964 (by decide) ?_
      refine k_istore [(13, .int _), (14, .int _), (12, .int _), (11, .int _), (10, .int _), (9, .int _), (0, .ref _), (1, .ref _), (2, .ref _), (3, .ref _), (4, .ref _), (5, .ref _), (6, .ref _), (7, .ref _), (8, .ref _)] rfl (by decide) dL_law_1968 ?_
      refine k_iinc (1) [(14, .int _), (13, .int _), (12, .int _), (11, .int _), (10, .int _), (9, .int _), (0, .ref _), (1, .ref _), (2, .ref _), (3, .ref _), (4, .ref _), (5, .ref _), (6, .ref _), (7, .ref _), (8, .ref _)] 1 rfl (by decide) rfl (by decide) dL_law_1970 ?_
      refine k_goto 600 dL_law_1973 (by decide) ?_
      exact k_less (by omega) (k_sub [0, 1, 2, 3, 4, 5, 6, 7, 8, 9, 10, 11, 12, 13, 14] rfl (hk600 ad _ _ _ _ _ _ _))
theorem bj_L_law_1001 (X : Xt) (hst : X.1.stackTraces = false) (b L : Nat) (xs : Nat → Int32) (N : Nat) {k600 : Wd → Int32 → Int32 → Int32 → Int32 → Int32 → Int32 → Option Unit} (hk600 : ∀ (ad : Ad) (σ : Wd) (a14 : Int32) (a13 : Int32) (a12 : Int32) (a11 : Int32) (a10 : Int32) (a9 : Int32), Lk X b L xs (N) ad σ 600 [(14, .int a14), (13, .int a13), (12, .int a12), (11, .int a11), (10, .int a10), (9, .int a9), (0, .ref b), (1, .ref (ad 0 0)), (2, .ref (ad 71 0)), (3, .ref (ad 72 0)), (4, .ref (ad 73 0)), (5, .ref (ad 74 0)), (6, .ref (ad 75 0)), (7, .ref (ad 76 0)), (8, .ref (ad 77 0))] [] (k600 σ a14 a13 a12 a11 a10 a9)) (ad : Ad) (σ : Wd) (a21 : Int32) (a20 : Int32) (a18 : Int32) (a14 : Int32) (a12 : Int32) (a11 : Int32) (a10 : Int32) (a9 : Int32) (s0 : Int32) : Lk X b L xs (N + 1) ad σ 1001 [(21, .int a21), (20, .int a20), (18, .int a18), (14, .int a14), (12, .int a12), (11, .int a11), (10, .int a10), (9, .int a9), (0, .ref b), (1, .ref (ad 0 0)), (2, .ref (ad 71 0)), (3, .ref (ad 72 0)), (4, .ref (ad 73 0)), (5, .ref (ad 74 0)), (6, .ref (ad 75 0)), (7, .ref (ad 76 0)), (8, .ref (ad 77 0))] [.int s0] (j_L_law_1001 L xs k600 σ a21 a20 a18 a14 a12 a11 a10 a9 s0) := by
  unfold j_L_law_1001
  refine k_istore [(13, .int _), (21, .int _), (20, .int _), (18, .int _), (14, .int _), (12, .int _), (11, .int _), (10, .int _), (9, .int _), (0, .ref _), (1, .ref _), (2, .ref _), (3, .ref _), (4, .ref _), (5, .ref _), (6, .ref _), (7, .ref _), (8, .ref _)] rfl (by decide) dL_law_1001 ?_
  refine k_aload 16 rfl dL_law_1003 ?_
  refine k_bipush (9) (by decide) dL_law_1005 ?_
  refine k_iload 3 rfl dL_law_1007 ?_
  refine k_iadd dL_law_1009 ?_
  refine k_iload 2 rfl dL_law_1010 ?_
  refine k_gd (fun h3 => ?_)
  refine k_bd ?_
  refine k_iastore (lvs_76 _) (ia_76 _ _ _) h3 dL_law_1012 ?_
  refine k_aload 16 rfl dL_law_1013 ?_
  refine k_bipush (13) (by decide) dL_law_1015 ?_
  refine k_iload 3 rfl dL_law_1017 ?_
  refine k_iadd dL_law_1019 ?_
  refine k_iload 1 rfl dL_law_1020 ?_
  refine k_gd (fun h4 => ?_)
  refine k_bd ?_
  refine k_iastore (lvs_76 _) (ia_76 _ _ _) h4 dL_law_1022 ?_
  refine k_goto 1937 dL_law_1023 (by decide) ?_
  exact k_less (by omega) (k_sub [0, 4, 5, 6, 7, 8, 9, 10, 11, 12, 13, 14, 15, 16, 17] rfl (bj_L_law_1937 X hst b L xs N hk600 ad _ _ _ _ _ _ _))
theorem bj_L_law_973 (X : Xt) (hst : X.1.stackTraces = false) (b L : Nat) (xs : Nat → Int32) (N : Nat) {k600 : Wd → Int32 → Int32 → Int32 → Int32 → Int32 → Int32 → Option Unit} (hk600 : ∀ (ad : Ad) (σ : Wd) (a14 : Int32) (a13 : Int32) (a12 : Int32) (a11 : Int32) (a10 : Int32) (a9 : Int32), Lk X b L xs (N) ad σ 600 [(14, .int a14), (13, .int a13), (12, .int a12), (11, .int a11), (10, .int a10), (9, .int a9), (0, .ref b), (1, .ref (ad 0 0)), (2, .ref (ad 71 0)), (3, .ref (ad 72 0)), (4, .ref (ad 73 0)), (5, .ref (ad 74 0)), (6, .ref (ad 75 0)), (7, .ref (ad 76 0)), (8, .ref (ad 77 0))] [] (k600 σ a14 a13 a12 a11 a10 a9)) (ad : Ad) (σ : Wd) (a20 : Int32) (a18 : Int32) (a14 : Int32) (a12 : Int32) (a11 : Int32) (a10 : Int32) (a9 : Int32) (s0 : Int32) : Lk X b L xs (N + 1) ad σ 973 [(20, .int a20), (18, .int a18), (14, .int a14), (12, .int a12), (11, .int a11), (10, .int a10), (9, .int a9), (0, .ref b), (1, .ref (ad 0 0)), (2, .ref (ad 71 0)), (3, .ref (ad 72 0)), (4, .ref (ad 73 0)), (5, .ref (ad 74 0)), (6, .ref (ad 75 0)), (7, .ref (ad 76 0)), (8, .ref (ad 77 0))] [.int s0] (j_L_law_973 L xs k600 σ a20 a18 a14 a12 a11 a10 a9 s0) := by
  unfold j_L_law_973
  refine k_istore [(21, .int _), (20, .int _), (18, .int _), (14, .int _), (12, .int _), (11, .int _), (10, .int _), (9, .int _), (0, .ref _), (1, .ref _), (2, .ref _), (3, .ref _), (4, .ref _), (5, .ref _), (6, .ref _), (7, .ref _), (8, .ref _)] rfl (by decide) dL_law_973 ?_
  refine k_aload_n 9 rfl dL_law_975 ?_
  refine k_iload 2 rfl dL_law_976 ?_
  refine k_iload 1 rfl dL_law_978 ?_
  refine k_iload 0 rfl dL_law_980 ?_
  refine k_callV (n := 3) (As := [.int _, .int _, .int _]) (nc_X9_list X hst ad _ _ _ _) ⟨rfl, by decide, by decide, by decide +kernel⟩ w_585 w_586 w_587 w_203 w_588 rfl rfl (Nat.le_of_ble_eq_true rfl) ⟨by decide, by decide⟩ dL_law_982 (fun v12 σ13 => ?_)
  refine k_aload 15 rfl dL_law_985 ?_
  refine k_bipush (9) (by decide) dL_law_987 ?_
  refine k_iload 2 rfl dL_law_989 ?_
  refine k_iadd dL_law_991 ?_
  refine k_gd (fun h2 => ?_)
  refine k_iaload (lvs_76 _) (cell_76 _ _ _ _) h2 dL_law_992 ?_
  refine k_icmp_ne 1000 dL_law_993 (by decide) ?_ ?_
  · refine k_iconst (1) (by decide) dL_law_996 ?_
    refine k_goto 1001 dL_law_997 (by decide) ?_
    exact k_less (by omega) (k_sub [0, 1, 2, 3, 4, 5, 6, 7, 8, 9, 10, 11, 12, 13, 14, 15, 16] rfl (bj_L_law_1001 X hst b L xs N hk600 ad _ _ _ _ _ _ _ _ _ _))
  · refine k_iconst (0) (by decide) dL_law_1000 ?_
    exact k_less (by omega) (k_sub [0, 1, 2, 3, 4, 5, 6, 7, 8, 9, 10, 11, 12, 13, 14, 15, 16] rfl (bj_L_law_1001 X hst b L xs N hk600 ad _ _ _ _ _ _ _ _ _ _))
theorem bj_L_law_939 (X : Xt) (hst : X.1.stackTraces = false) (b L : Nat) (xs : Nat → Int32) (N : Nat) {k600 : Wd → Int32 → Int32 → Int32 → Int32 → Int32 → Int32 → Option Unit} (hk600 : ∀ (ad : Ad) (σ : Wd) (a14 : Int32) (a13 : Int32) (a12 : Int32) (a11 : Int32) (a10 : Int32) (a9 : Int32), Lk X b L xs (N) ad σ 600 [(14, .int a14), (13, .int a13), (12, .int a12), (11, .int a11), (10, .int a10), (9, .int a9), (0, .ref b), (1, .ref (ad 0 0)), (2, .ref (ad 71 0)), (3, .ref (ad 72 0)), (4, .ref (ad 73 0)), (5, .ref (ad 74 0)), (6, .ref (ad 75 0)), (7, .ref (ad 76 0)), (8, .ref (ad 77 0))] [] (k600 σ a14 a13 a12 a11 a10 a9)) (ad : Ad) (σ : Wd) (a18 : Int32) (a15 : Int32) (a14 : Int32) (a12 : Int32) (a11 : Int32) (a10 : Int32) (a9 : Int32) (s0 : Int32) : Lk X b L xs (N + 1) ad σ 939 [(18, .int a18), (15, .int a15), (14, .int a14), (12, .int a12), (11, .int a11), (10, .int a10), (9, .int a9), (0, .ref b), (1, .ref (ad 0 0)), (2, .ref (ad 71 0)), (3, .ref (ad 72 0)), (4, .ref (ad 73 0)), (5, .ref (ad 74 0)), (6, .ref (ad 75 0)), (7, .ref (ad 76 0)), (8, .ref (ad 77 0))] [.int s0] (j_L_law_939 L xs k600 σ a18 a15 a14 a12 a11 a10 a9 s0) := by
  unfold j_L_law_939
  refine k_istore [(20, .int _), (18, .int _), (15, .int _), (14, .int _), (12, .int _), (11, .int _), (10, .int _), (9, .int _), (0, .ref _), (1, .ref _), (2, .ref _), (3, .ref _), (4, .ref _), (5, .ref _), (6, .ref _), (7, .ref _), (8, .ref _)] rfl (by decide) dL_law_939 ?_
  refine k_iload 0 rfl dL_law_941 ?_
  refine k_if_ge 963 dL_law_943 (by decide) ?_ ?_
  · refine k_iload 2 rfl dL_law_963 ?_
    refine k_sipush (512) (by decide) dL_law_965 ?_
    refine k_idiv (by decide) dL_law_968 ?_
    refine k_iconst (3) (by decide) dL_law_969 ?_
    refine k_callS (n := 2) (As := [.int _, .int _]) (nc_L_up X hst ad _ _ _) ⟨by decide, by decide, by decide +kernel⟩ w_582 w_583 w_502 w_584 rfl rfl (Nat.le_of_ble_eq_true rfl) ⟨by decide, by decide⟩ dL_law_970 (fun v10 σ11 => ?_)
    exact k_less (by omega) (k_sub [0, 1, 3, 4, 5, 6, 7, 8, 9, 10, 11, 12, 13, 14, 15, 16] rfl (bj_L_law_973 X hst b L xs N hk600 ad _ _ _ _ _ _ _ _ _))
  · refine k_iload 2 rfl dL_law_946 ?_
    refine k_sipush (512) (by decide) dL_law_948 ?_
    refine k_idiv (by decide) dL_law_951 ?_
    refine k_bipush (99) (by decide) dL_law_952 ?_
    refine k_callS (n := 2) (As := [.int _, .int _]) (nc_L_up X hst ad _ _ _) ⟨by decide, by decide, by decide +kernel⟩ w_582 w_583 w_502 w_584 rfl rfl (Nat.le_of_ble_eq_true rfl) ⟨by decide, by decide⟩ dL_law_954 (fun v18 σ19 => ?_)
    refine k_bipush (50) (by decide) dL_law_957 ?_
    refine k_isub dL_law_959 ?_
    refine k_goto 973 dL_law_960 (by decide) ?_
    exact k_less (by omega) (k_sub [0, 1, 3, 4, 5, 6, 7, 8, 9, 10, 11, 12, 13, 14, 15, 16] rfl (bj_L_law_973 X hst b L xs N hk600 ad _ _ _ _ _ _ _ _ _))
theorem bj_L_law_1178 (X : Xt) (hst : X.1.stackTraces = false) (b L : Nat) (xs : Nat → Int32) (N : Nat) {k600 : Wd → Int32 → Int32 → Int32 → Int32 → Int32 → Int32 → Option Unit} (hk600 : ∀ (ad : Ad) (σ : Wd) (a14 : Int32) (a13 : Int32) (a12 : Int32) (a11 : Int32) (a10 : Int32) (a9 : Int32), Lk X b L xs (N) ad σ 600 [(14, .int a14), (13, .int a13), (12, .int a12), (11, .int a11), (10, .int a10), (9, .int a9), (0, .ref b), (1, .ref (ad 0 0)), (2, .ref (ad 71 0)), (3, .ref (ad 72 0)), (4, .ref (ad 73 0)), (5, .ref (ad 74 0)), (6, .ref (ad 75 0)), (7, .ref (ad 76 0)), (8, .ref (ad 77 0))] [] (k600 σ a14 a13 a12 a11 a10 a9)) (ad : Ad) (σ : Wd) (a14 : Int32) (a12 : Int32) (a11 : Int32) (a10 : Int32) (a9 : Int32) (s0 : Int32) : Lk X b L xs (N + 1) ad σ 1178 [(14, .int a14), (12, .int a12), (11, .int a11), (10, .int a10), (9, .int a9), (0, .ref b), (1, .ref (ad 0 0)), (2, .ref (ad 71 0)), (3, .ref (ad 72 0)), (4, .ref (ad 73 0)), (5, .ref (ad 74 0)), (6, .ref (ad 75 0)), (7, .ref (ad 76 0)), (8, .ref (ad 77 0))] [.int s0] (j_L_law_1178 L xs k600 σ a14 a12 a11 a10 a9 s0) := by
  unfold j_L_law_1178
  refine k_istore [(13, .int _), (14, .int _), (12, .int _), (11, .int _), (10, .int _), (9, .int _), (0, .ref _), (1, .ref _), (2, .ref _), (3, .ref _), (4, .ref _), (5, .ref _), (6, .ref _), (7, .ref _), (8, .ref _)] rfl (by decide) dL_law_1178 ?_
  refine k_goto 1937 dL_law_1180 (by decide) ?_
  exact k_less (by omega) (k_sub [0, 1, 2, 3, 4, 5, 6, 7, 8, 9, 10, 11, 12, 13, 14] rfl (bj_L_law_1937 X hst b L xs N hk600 ad _ _ _ _ _ _ _))
theorem bj_L_law_1118 (X : Xt) (hst : X.1.stackTraces = false) (b L : Nat) (xs : Nat → Int32) (N : Nat) {k600 : Wd → Int32 → Int32 → Int32 → Int32 → Int32 → Int32 → Option Unit} (hk600 : ∀ (ad : Ad) (σ : Wd) (a14 : Int32) (a13 : Int32) (a12 : Int32) (a11 : Int32) (a10 : Int32) (a9 : Int32), Lk X b L xs (N) ad σ 600 [(14, .int a14), (13, .int a13), (12, .int a12), (11, .int a11), (10, .int a10), (9, .int a9), (0, .ref b), (1, .ref (ad 0 0)), (2, .ref (ad 71 0)), (3, .ref (ad 72 0)), (4, .ref (ad 73 0)), (5, .ref (ad 74 0)), (6, .ref (ad 75 0)), (7, .ref (ad 76 0)), (8, .ref (ad 77 0))] [] (k600 σ a14 a13 a12 a11 a10 a9)) (ad : Ad) (σ : Wd) (a20 : Int32) (a14 : Int32) (a12 : Int32) (a11 : Int32) (a10 : Int32) (a9 : Int32) (s0 : Int32) (s1 : Int32) (s2 : Int32) : Lk X b L xs (N + 1) ad σ 1118 [(20, .int a20), (14, .int a14), (12, .int a12), (11, .int a11), (10, .int a10), (9, .int a9), (0, .ref b), (1, .ref (ad 0 0)), (2, .ref (ad 71 0)), (3, .ref (ad 72 0)), (4, .ref (ad 73 0)), (5, .ref (ad 74 0)), (6, .ref (ad 75 0)), (7, .ref (ad 76 0)), (8, .ref (ad 77 0))] [.int s0, .int s1, .int s2, .ref (ad 76 0)] (j_L_law_1118 L xs k600 σ a20 a14 a12 a11 a10 a9 s0 s1 s2) := by
  unfold j_L_law_1118
  refine k_callS (n := 2) (As := [.int _, .int _]) (nc_L_up X hst ad _ _ _) ⟨by decide, by decide, by decide +kernel⟩ w_582 w_583 w_502 w_584 rfl rfl (Nat.le_of_ble_eq_true rfl) ⟨by decide, by decide⟩ dL_law_1118 (fun v30 σ31 => ?_)
  refine k_gd (fun h7 => ?_)
  refine k_bd ?_
  refine k_iastore (lvs_76 _) (ia_76 _ _ _) h7 dL_law_1121 ?_
  refine k_aload_n 7 rfl dL_law_1122 ?_
  refine k_iload 0 rfl dL_law_1123 ?_
  refine k_aload 13 rfl dL_law_1125 ?_
  refine k_iload 0 rfl dL_law_1127 ?_
  refine k_gd (fun h8 => ?_)
  refine k_iaload (lvs_76 _) (cell_76 _ _ _ _) h8 dL_law_1129 ?_
  refine k_aload 13 rfl dL_law_1130 ?_
  refine k_iconst (3) (by decide) dL_law_1132 ?_
  refine k_iload 0 rfl dL_law_1133 ?_
  refine k_iadd dL_law_1135 ?_
  refine k_gd (fun h9 => ?_)
  refine k_iaload (lvs_76 _) (cell_76 _ _ _ _) h9 dL_law_1136 ?_
  refine k_aload 13 rfl dL_law_1137 ?_
  refine k_bipush (6) (by decide) dL_law_1139 ?_
  refine k_iload 0 rfl dL_law_1141 ?_
  refine k_iadd dL_law_1143 ?_
  refine k_gd (fun h10 => ?_)
  refine k_iaload (lvs_76 _) (cell_76 _ _ _ _) h10 dL_law_1144 ?_
  refine k_callV (n := 4) (As := [.int _, .int _, .int _, .int _]) (nc_X9_exam X hst ad _ _ _ _ _) ⟨rfl, by decide, by decide, by decide +kernel⟩ w_592 w_593 w_594 w_203 w_595 rfl rfl (Nat.le_of_ble_eq_true rfl) ⟨by decide, by decide⟩ dL_law_1145 (fun v33 σ34 => ?_)
  refine k_aload 13 rfl dL_law_1148 ?_
  refine k_iload 0 rfl dL_law_1150 ?_
  refine k_iaload (lvs_76 _) (cell_76 _ _ _ _) h8 dL_law_1152 ?_
  refine k_aload 13 rfl dL_law_1153 ?_
  refine k_iload 0 rfl dL_law_1155 ?_
  refine k_iaload (lvs_76 _) (cell_76 _ _ _ _) h8 dL_law_1157 ?_
  refine k_aload 13 rfl dL_law_1158 ?_
  refine k_iconst (3) (by decide) dL_law_1160 ?_
  refine k_iload 0 rfl dL_law_1161 ?_
  refine k_iadd dL_law_1163 ?_
  refine k_iaload (lvs_76 _) (cell_76 _ _ _ _) h9 dL_law_1164 ?_
  refine k_imul dL_law_1165 ?_
  refine k_bipush (100) (by decide) dL_law_1166 ?_
  refine k_idiv (by decide) dL_law_1168 ?_
  refine k_iadd dL_law_1169 ?_
  refine k_icmp_ne 1177 dL_law_1170 (by decide) ?_ ?_
  · refine k_iconst (1) (by decide) dL_law_1173 ?_
    refine k_goto 1178 dL_law_1174 (by decide) ?_
    exact k_less (by omega) (k_sub [1, 2, 3, 4, 5, 6, 7, 8, 9, 10, 11, 12, 13, 14] rfl (bj_L_law_1178 X hst b L xs N hk600 ad _ _ _ _ _ _ _))
  · refine k_iconst (0) (by decide) dL_law_1177 ?_
    exact k_less (by omega) (k_sub [1, 2, 3, 4, 5, 6, 7, 8, 9, 10, 11, 12, 13, 14] rfl (bj_L_law_1178 X hst b L xs N hk600 ad _ _ _ _ _ _ _))
theorem bj_L_law_1070 (X : Xt) (hst : X.1.stackTraces = false) (b L : Nat) (xs : Nat → Int32) (N : Nat) {k600 : Wd → Int32 → Int32 → Int32 → Int32 → Int32 → Int32 → Option Unit} (hk600 : ∀ (ad : Ad) (σ : Wd) (a14 : Int32) (a13 : Int32) (a12 : Int32) (a11 : Int32) (a10 : Int32) (a9 : Int32), Lk X b L xs (N) ad σ 600 [(14, .int a14), (13, .int a13), (12, .int a12), (11, .int a11), (10, .int a10), (9, .int a9), (0, .ref b), (1, .ref (ad 0 0)), (2, .ref (ad 71 0)), (3, .ref (ad 72 0)), (4, .ref (ad 73 0)), (5, .ref (ad 74 0)), (6, .ref (ad 75 0)), (7, .ref (ad 76 0)), (8, .ref (ad 77 0))] [] (k600 σ a14 a13 a12 a11 a10 a9)) (ad : Ad) (σ : Wd) (a20 : Int32) (a15 : Int32) (a14 : Int32) (a12 : Int32) (a11 : Int32) (a10 : Int32) (a9 : Int32) (s0 : Int32) (s1 : Int32) (s2 : Int32) (s3 : Int32) : Lk X b L xs (N + 1) ad σ 1070 [(20, .int a20), (15, .int a15), (14, .int a14), (12, .int a12), (11, .int a11), (10, .int a10), (9, .int a9), (0, .ref b), (1, .ref (ad 0 0)), (2, .ref (ad 71 0)), (3, .ref (ad 72 0)), (4, .ref (ad 73 0)), (5, .ref (ad 74 0)), (6, .ref (ad 75 0)), (7, .ref (ad 76 0)), (8, .ref (ad 77 0))] [.int s0, .int s1, .int s2, .int s3, .ref (ad 76 0)] (j_L_law_1070 L xs k600 σ a20 a15 a14 a12 a11 a10 a9 s0 s1 s2 s3) := by
  unfold j_L_law_1070
  refine k_callS (n := 2) (As := [.int _, .int _]) (nc_L_up X hst ad _ _ _) ⟨by decide, by decide, by decide +kernel⟩ w_582 w_583 w_502 w_584 rfl rfl (Nat.le_of_ble_eq_true rfl) ⟨by decide, by decide⟩ dL_law_1070 (fun v24 σ25 => ?_)
  refine k_iadd dL_law_1073 ?_
  refine k_gd (fun h5 => ?_)
  refine k_bd ?_
  refine k_iastore (lvs_76 _) (ia_76 _ _ _) h5 dL_law_1074 ?_
  refine k_aload 14 rfl dL_law_1075 ?_
  refine k_iconst (3) (by decide) dL_law_1077 ?_
  refine k_iload 0 rfl dL_law_1078 ?_
  refine k_iadd dL_law_1080 ?_
  refine k_iload 1 rfl dL_law_1081 ?_
  refine k_sipush (1024) (by decide) dL_law_1083 ?_
  refine k_idiv (by decide) dL_law_1086 ?_
  refine k_bipush (21) (by decide) dL_law_1087 ?_
  refine k_callS (n := 2) (As := [.int _, .int _]) (nc_L_up X hst ad _ _ _) ⟨by decide, by decide, by decide +kernel⟩ w_582 w_583 w_502 w_584 rfl rfl (Nat.le_of_ble_eq_true rfl) ⟨by decide, by decide⟩ dL_law_1089 (fun v27 σ28 => ?_)
  refine k_gd (fun h6 => ?_)
  refine k_bd ?_
  refine k_iastore (lvs_76 _) (ia_76 _ _ _) h6 dL_law_1092 ?_
  refine k_aload 14 rfl dL_law_1093 ?_
  refine k_bipush (6) (by decide) dL_law_1095 ?_
  refine k_iload 0 rfl dL_law_1097 ?_
  refine k_iadd dL_law_1099 ?_
  refine k_iload 1 rfl dL_law_1100 ?_
  refine k_sipush (2048) (by decide) dL_law_1102 ?_
  refine k_idiv (by decide) dL_law_1105 ?_
  refine k_iload 0 rfl dL_law_1106 ?_
  refine k_if_ne 1116 dL_law_1108 (by decide) ?_ ?_
  · refine k_bipush (9) (by decide) dL_law_1111 ?_
    refine k_goto 1118 dL_law_1113 (by decide) ?_
    exact k_less (by omega) (k_sub [0, 2, 3, 4, 5, 6, 7, 8, 9, 10, 11, 12, 13, 14, 15] rfl (bj_L_law_1118 X hst b L xs N hk600 ad _ _ _ _ _ _ _ _ _ _))
  · refine k_bipush (60) (by decide) dL_law_1116 ?_
    exact k_less (by omega) (k_sub [0, 2, 3, 4, 5, 6, 7, 8, 9, 10, 11, 12, 13, 14, 15] rfl (bj_L_law_1118 X hst b L xs N hk600 ad _ _ _ _ _ _ _ _ _ _))
theorem bj_L_law_1248 (X : Xt) (hst : X.1.stackTraces = false) (b L : Nat) (xs : Nat → Int32) (N : Nat) {k600 : Wd → Int32 → Int32 → Int32 → Int32 → Int32 → Int32 → Option Unit} (hk600 : ∀ (ad : Ad) (σ : Wd) (a14 : Int32) (a13 : Int32) (a12 : Int32) (a11 : Int32) (a10 : Int32) (a9 : Int32), Lk X b L xs (N) ad σ 600 [(14, .int a14), (13, .int a13), (12, .int a12), (11, .int a11), (10, .int a10), (9, .int a9), (0, .ref b), (1, .ref (ad 0 0)), (2, .ref (ad 71 0)), (3, .ref (ad 72 0)), (4, .ref (ad 73 0)), (5, .ref (ad 74 0)), (6, .ref (ad 75 0)), (7, .ref (ad 76 0)), (8, .ref (ad 77 0))] [] (k600 σ a14 a13 a12 a11 a10 a9)) (ad : Ad) (σ : Wd) (a21 : Int32) (a20 : Int32) (a14 : Int32) (a12 : Int32) (a11 : Int32) (a10 : Int32) (a9 : Int32) (s0 : Int32) : Lk X b L xs (N + 1) ad σ 1248 [(21, .int a21), (20, .int a20), (14, .int a14), (12, .int a12), (11, .int a11), (10, .int a10), (9, .int a9), (0, .ref b), (1, .ref (ad 0 0)), (2, .ref (ad 71 0)), (3, .ref (ad 72 0)), (4, .ref (ad 73 0)), (5, .ref (ad 74 0)), (6, .ref (ad 75 0)), (7, .ref (ad 76 0)), (8, .ref (ad 77 0))] [.int s0] (j_L_law_1248 L xs k600 σ a21 a20 a14 a12 a11 a10 a9 s0) := by
  unfold j_L_law_1248
  refine k_istore [(13, .int _), (21, .int _), (20, .int _), (14, .int _), (12, .int _), (11, .int _), (10, .int _), (9, .int _), (0, .ref _), (1, .ref _), (2, .ref _), (3, .ref _), (4, .ref _), (5, .ref _), (6, .ref _), (7, .ref _), (8, .ref _)] rfl (by decide) dL_law_1248 ?_
  refine k_aload 14 rfl dL_law_1250 ?_
  refine k_bipush (6) (by decide) dL_law_1252 ?_
  refine k_iload 2 rfl dL_law_1254 ?_
  refine k_imul dL_law_1256 ?_
  refine k_iconst (5) (by decide) dL_law_1257 ?_
  refine k_iadd dL_law_1258 ?_
  refine k_iload 1 rfl dL_law_1259 ?_
  refine k_gd (fun h12 => ?_)
  refine k_bd ?_
  refine k_iastore (lvs_75 _) (ia_75 _ _ _) h12 dL_law_1261 ?_
  refine k_goto 1937 dL_law_1262 (by decide) ?_
  exact k_less (by omega) (k_sub [0, 3, 4, 5, 6, 7, 8, 9, 10, 11, 12, 13, 14, 15, 16] rfl (bj_L_law_1937 X hst b L xs N hk600 ad _ _ _ _ _ _ _))
theorem bj_L_law_1220 (X : Xt) (hst : X.1.stackTraces = false) (b L : Nat) (xs : Nat → Int32) (N : Nat) {k600 : Wd → Int32 → Int32 → Int32 → Int32 → Int32 → Int32 → Option Unit} (hk600 : ∀ (ad : Ad) (σ : Wd) (a14 : Int32) (a13 : Int32) (a12 : Int32) (a11 : Int32) (a10 : Int32) (a9 : Int32), Lk X b L xs (N) ad σ 600 [(14, .int a14), (13, .int a13), (12, .int a12), (11, .int a11), (10, .int a10), (9, .int a9), (0, .ref b), (1, .ref (ad 0 0)), (2, .ref (ad 71 0)), (3, .ref (ad 72 0)), (4, .ref (ad 73 0)), (5, .ref (ad 74 0)), (6, .ref (ad 75 0)), (7, .ref (ad 76 0)), (8, .ref (ad 77 0))] [] (k600 σ a14 a13 a12 a11 a10 a9)) (ad : Ad) (σ : Wd) (a20 : Int32) (a14 : Int32) (a12 : Int32) (a11 : Int32) (a10 : Int32) (a9 : Int32) (s0 : Int32) : Lk X b L xs (N + 1) ad σ 1220 [(20, .int a20), (14, .int a14), (12, .int a12), (11, .int a11), (10, .int a10), (9, .int a9), (0, .ref b), (1, .ref (ad 0 0)), (2, .ref (ad 71 0)), (3, .ref (ad 72 0)), (4, .ref (ad 73 0)), (5, .ref (ad 74 0)), (6, .ref (ad 75 0)), (7, .ref (ad 76 0)), (8, .ref (ad 77 0))] [.int s0] (j_L_law_1220 L xs k600 σ a20 a14 a12 a11 a10 a9 s0) := by
  unfold j_L_law_1220
  refine k_istore [(21, .int _), (20, .int _), (14, .int _), (12, .int _), (11, .int _), (10, .int _), (9, .int _), (0, .ref _), (1, .ref _), (2, .ref _), (3, .ref _), (4, .ref _), (5, .ref _), (6, .ref _), (7, .ref _), (8, .ref _)] rfl (by decide) dL_law_1220 ?_
  refine k_aload_n 8 rfl dL_law_1222 ?_
  refine k_iload 1 rfl dL_law_1223 ?_
  refine k_iload 0 rfl dL_law_1225 ?_
  refine k_callV (n := 2) (As := [.int _, .int _]) (nc_X9_pin X hst ad _ _ _) ⟨rfl, by decide, by decide, by decide +kernel⟩ w_596 w_597 w_598 w_203 w_599 rfl rfl (Nat.le_of_ble_eq_true rfl) ⟨by decide, by decide⟩ dL_law_1227 (fun v39 σ40 => ?_)
  refine k_aload 13 rfl dL_law_1230 ?_
  refine k_bipush (6) (by decide) dL_law_1232 ?_
  refine k_iload 1 rfl dL_law_1234 ?_
  refine k_imul dL_law_1236 ?_
  refine k_iconst (5) (by decide) dL_law_1237 ?_
  refine k_iadd dL_law_1238 ?_
  refine k_gd (fun h11 => ?_)
  refine k_iaload (lvs_75 _) (cell_75 _ _ _ _) h11 dL_law_1239 ?_
  refine k_icmp_ne 1247 dL_law_1240 (by decide) ?_ ?_
  · refine k_iconst (1) (by decide) dL_law_1243 ?_
    refine k_goto 1248 dL_law_1244 (by decide) ?_
    exact k_less (by omega) (k_sub [0, 1, 2, 3, 4, 5, 6, 7, 8, 9, 10, 11, 12, 13, 14, 15] rfl (bj_L_law_1248 X hst b L xs N hk600 ad _ _ _ _ _ _ _ _ _))
  · refine k_iconst (0) (by decide) dL_law_1247 ?_
    exact k_less (by omega) (k_sub [0, 1, 2, 3, 4, 5, 6, 7, 8, 9, 10, 11, 12, 13, 14, 15] rfl (bj_L_law_1248 X hst b L xs N hk600 ad _ _ _ _ _ _ _ _ _))
theorem bj_L_law_1671 (X : Xt) (hst : X.1.stackTraces = false) (b L : Nat) (xs : Nat → Int32) (N : Nat) {k600 : Wd → Int32 → Int32 → Int32 → Int32 → Int32 → Int32 → Option Unit} (hk600 : ∀ (ad : Ad) (σ : Wd) (a14 : Int32) (a13 : Int32) (a12 : Int32) (a11 : Int32) (a10 : Int32) (a9 : Int32), Lk X b L xs (N) ad σ 600 [(14, .int a14), (13, .int a13), (12, .int a12), (11, .int a11), (10, .int a10), (9, .int a9), (0, .ref b), (1, .ref (ad 0 0)), (2, .ref (ad 71 0)), (3, .ref (ad 72 0)), (4, .ref (ad 73 0)), (5, .ref (ad 74 0)), (6, .ref (ad 75 0)), (7, .ref (ad 76 0)), (8, .ref (ad 77 0))] [] (k600 σ a14 a13 a12 a11 a10 a9)) (ad : Ad) (σ : Wd) (a12 : Int32) (a13 : Int32) (a14 : Int32) (a11 : Int32) (a10 : Int32) (a9 : Int32) : Lk X b L xs (N) ad σ 1671 [(12, .int a12), (13, .int a13), (14, .int a14), (11, .int a11), (10, .int a10), (9, .int a9), (0, .ref b), (1, .ref (ad 0 0)), (2, .ref (ad 71 0)), (3, .ref (ad 72 0)), (4, .ref (ad 73 0)), (5, .ref (ad 74 0)), (6, .ref (ad 75 0)), (7, .ref (ad 76 0)), (8, .ref (ad 77 0))] [] (j_L_law_1671 L xs k600 σ a12 a13 a14 a11 a10 a9) := by
  unfold j_L_law_1671
  refine k_goto 1937 dL_law_1671 (by decide) ?_
  exact k_less (by omega) (k_sub [1, 2, 0, 3, 4, 5, 6, 7, 8, 9, 10, 11, 12, 13, 14] rfl (bj_L_law_1937 X hst b L xs N hk600 ad _ _ _ _ _ _ _))
theorem bl_L_law_1631 (X : Xt) (hst : X.1.stackTraces = false) (b L : Nat) (xs : Nat → Int32) (N : Nat) {k600 : Wd → Int32 → Int32 → Int32 → Int32 → Int32 → Int32 → Option Unit} (hk600 : ∀ (ad : Ad) (σ : Wd) (a14 : Int32) (a13 : Int32) (a12 : Int32) (a11 : Int32) (a10 : Int32) (a9 : Int32), Lk X b L xs (N) ad σ 600 [(14, .int a14), (13, .int a13), (12, .int a12), (11, .int a11), (10, .int a10), (9, .int a9), (0, .ref b), (1, .ref (ad 0 0)), (2, .ref (ad 71 0)), (3, .ref (ad 72 0)), (4, .ref (ad 73 0)), (5, .ref (ad 74 0)), (6, .ref (ad 75 0)), (7, .ref (ad 76 0)), (8, .ref (ad 77 0))] [] (k600 σ a14 a13 a12 a11 a10 a9)) : ∀ (n : Nat) (ad : Ad) (σ : Wd) (a22 : Int32) (a12 : Int32) (a13 : Int32) (a20 : Int32) (a17 : Int32) (a14 : Int32) (a11 : Int32) (a10 : Int32) (a9 : Int32), Lk X b L xs (N) ad σ 1631 [(22, .int a22), (12, .int a12), (13, .int a13), (20, .int a20), (17, .int a17), (14, .int a14), (11, .int a11), (10, .int a10), (9, .int a9), (0, .ref b), (1, .ref (ad 0 0)), (2, .ref (ad 71 0)), (3, .ref (ad 72 0)), (4, .ref (ad 73 0)), (5, .ref (ad 74 0)), (6, .ref (ad 75 0)), (7, .ref (ad 76 0)), (8, .ref (ad 77 0))] [] (l_L_law_1631 L xs k600 n σ a22 a12 a13 a20 a17 a14 a11 a10 a9) := by
  intro n
  induction n with
  | zero => intros; exact k_none
  | succ n ih =>
  intro ad σ a22 a12 a13 a20 a17 a14 a11 a10 a9
  rw [l_L_law_1631]
  refine k_iload 0 rfl dL_law_1631 ?_
  refine k_if_lt 1671 dL_law_1633 (by decide) ?_ ?_
  · exact k_less (by omega) (k_sub [1, 2, 5, 6, 7, 8, 9, 10, 11, 12, 13, 14, 15, 16, 17] rfl (bj_L_law_1671 X hst b L xs N hk600 ad _ _ _ _ _ _ _))
  · refine k_iload 3 rfl dL_law_1636 ?_
    refine k_if_eq 1671 dL_law_1638 (by decide) ?_ ?_
    · exact k_less (by omega) (k_sub [1, 2, 5, 6, 7, 8, 9, 10, 11, 12, 13, 14, 15, 16, 17] rfl (bj_L_law_1671 X hst b L xs N hk600 ad _ _ _ _ _ _ _))
    · refine k_aload_n 12 rfl dL_law_1641 ?_
      refine k_bipush (8) (by decide) dL_law_1642 ?_
      refine k_iload 4 rfl dL_law_1644 ?_
      refine k_imul dL_law_1646 ?_
      refine k_iload 0 rfl dL_law_1647 ?_
      refine k_iadd dL_law_1649 ?_
      refine k_gd (fun h15 => ?_)
      refine k_iaload (lvs_72 _) (cell_72 _ _ _ _) h15 dL_law_1650 ?_
      refine k_if_ne 1665 dL_law_1651 (by decide) ?_ ?_
      · refine k_aload_n 11 rfl dL_law_1654 ?_
        refine k_aload_n 12 rfl dL_law_1655 ?_
        refine k_aload 13 rfl dL_law_1656 ?_
        refine k_iload 4 rfl dL_law_1658 ?_
        refine k_iload 0 rfl dL_law_1660 ?_
        refine k_callS (n := 5) (As := [.ref _, .ref _, .ref _, .int _, .int _]) (nc_L_remove X hst ad _ _ _) ⟨by decide, by decide, by decide +kernel⟩ w_603 w_604 w_502 w_605 rfl rfl (Nat.le_of_ble_eq_true rfl) ⟨by decide, by decide⟩ dL_law_1662 (fun v45 σ46 => ?_)
        refine k_iinc (-1) [(22, .int _), (12, .int _), (13, .int _), (20, .int _), (17, .int _), (14, .int _), (11, .int _), (10, .int _), (9, .int _), (0, .ref _), (1, .ref _), (2, .ref _), (3, .ref _), (4, .ref _), (5, .ref _), (6, .ref _), (7, .ref _), (8, .ref _)] 0 rfl (by decide) rfl (by decide) dL_law_1665 ?_
        refine k_goto 1631 dL_law_1668 (by decide) ?_
        exact k_less (by omega) (k_sub [0, 1, 2, 3, 4, 5, 6, 7, 8, 9, 10, 11, 12, 13, 14, 15, 16, 17] rfl (ih ad _ _ _ _ _ _ _ _ _ _))
      · refine k_iinc (-1) [(22, .int _), (12, .int _), (13, .int _), (20, .int _), (17, .int _), (14, .int _), (11, .int _), (10, .int _), (9, .int _), (0, .ref _), (1, .ref _), (2, .ref _), (3, .ref _), (4, .ref _), (5, .ref _), (6, .ref _), (7, .ref _), (8, .ref _)] 0 rfl (by decide) rfl (by decide) dL_law_1665 ?_
        refine k_goto 1631 dL_law_1668 (by decide) ?_
        exact k_less (by omega) (k_sub [0, 1, 2, 3, 4, 5, 6, 7, 8, 9, 10, 11, 12, 13, 14, 15, 16, 17] rfl (ih ad _ _ _ _ _ _ _ _ _ _))
theorem bj_L_law_1620 (X : Xt) (hst : X.1.stackTraces = false) (b L : Nat) (xs : Nat → Int32) (N : Nat) {k600 : Wd → Int32 → Int32 → Int32 → Int32 → Int32 → Int32 → Option Unit} (hk600 : ∀ (ad : Ad) (σ : Wd) (a14 : Int32) (a13 : Int32) (a12 : Int32) (a11 : Int32) (a10 : Int32) (a9 : Int32), Lk X b L xs (N) ad σ 600 [(14, .int a14), (13, .int a13), (12, .int a12), (11, .int a11), (10, .int a10), (9, .int a9), (0, .ref b), (1, .ref (ad 0 0)), (2, .ref (ad 71 0)), (3, .ref (ad 72 0)), (4, .ref (ad 73 0)), (5, .ref (ad 74 0)), (6, .ref (ad 75 0)), (7, .ref (ad 76 0)), (8, .ref (ad 77 0))] [] (k600 σ a14 a13 a12 a11 a10 a9)) (ad : Ad) (σ : Wd) (a12 : Int32) (a13 : Int32) (a20 : Int32) (a19 : Int32) (a17 : Int32) (a14 : Int32) (a11 : Int32) (a10 : Int32) (a9 : Int32) : Lk X b L xs (N) ad σ 1620 [(12, .int a12), (13, .int a13), (20, .int a20), (19, .int a19), (17, .int a17), (14, .int a14), (11, .int a11), (10, .int a10), (9, .int a9), (0, .ref b), (1, .ref (ad 0 0)), (2, .ref (ad 71 0)), (3, .ref (ad 72 0)), (4, .ref (ad 73 0)), (5, .ref (ad 74 0)), (6, .ref (ad 75 0)), (7, .ref (ad 76 0)), (8, .ref (ad 77 0))] [] (j_L_law_1620 L xs k600 σ a12 a13 a20 a19 a17 a14 a11 a10 a9) := by
  unfold j_L_law_1620
  refine k_aload_n 11 rfl dL_law_1620 ?_
  refine k_iload 3 rfl dL_law_1621 ?_
  refine k_bipush (12) (by decide) dL_law_1623 ?_
  refine k_iadd dL_law_1625 ?_
  refine k_gd (fun h14 => ?_)
  refine k_iaload (lvs_71 _) (cell_71 _ _ _ _) h14 dL_law_1626 ?_
  refine k_iconst (1) (by decide) dL_law_1627 ?_
  refine k_isub dL_law_1628 ?_
  refine k_bd ?_
  refine k_istore [(22, .int _), (12, .int _), (13, .int _), (20, .int _), (19, .int _), (17, .int _), (14, .int _), (11, .int _), (10, .int _), (9, .int _), (0, .ref _), (1, .ref _), (2, .ref _), (3, .ref _), (4, .ref _), (5, .ref _), (6, .ref _), (7, .ref _), (8, .ref _)] rfl (by decide) dL_law_1629 ?_
  exact k_less (by omega) (k_sub [0, 1, 2, 3, 5, 6, 7, 8, 9, 10, 11, 12, 13, 14, 15, 16, 17, 18] rfl (bl_L_law_1631 X hst b L xs N hk600 FU ad _ _ _ _ _ _ _ _ _ _))
theorem bl_L_law_1593 (X : Xt) (hst : X.1.stackTraces = false) (b L : Nat) (xs : Nat → Int32) (N : Nat) {k600 : Wd → Int32 → Int32 → Int32 → Int32 → Int32 → Int32 → Option Unit} (hk600 : ∀ (ad : Ad) (σ : Wd) (a14 : Int32) (a13 : Int32) (a12 : Int32) (a11 : Int32) (a10 : Int32) (a9 : Int32), Lk X b L xs (N) ad σ 600 [(14, .int a14), (13, .int a13), (12, .int a12), (11, .int a11), (10, .int a10), (9, .int a9), (0, .ref b), (1, .ref (ad 0 0)), (2, .ref (ad 71 0)), (3, .ref (ad 72 0)), (4, .ref (ad 73 0)), (5, .ref (ad 74 0)), (6, .ref (ad 75 0)), (7, .ref (ad 76 0)), (8, .ref (ad 77 0))] [] (k600 σ a14 a13 a12 a11 a10 a9)) : ∀ (n : Nat) (ad : Ad) (σ : Wd) (a22 : Int32) (a12 : Int32) (a13 : Int32) (a21 : Int32) (a20 : Int32) (a19 : Int32) (a17 : Int32) (a14 : Int32) (a11 : Int32) (a10 : Int32) (a9 : Int32), Lk X b L xs (N) ad σ 1593 [(22, .int a22), (12, .int a12), (13, .int a13), (21, .int a21), (20, .int a20), (19, .int a19), (17, .int a17), (14, .int a14), (11, .int a11), (10, .int a10), (9, .int a9), (0, .ref b), (1, .ref (ad 0 0)), (2, .ref (ad 71 0)), (3, .ref (ad 72 0)), (4, .ref (ad 73 0)), (5, .ref (ad 74 0)), (6, .ref (ad 75 0)), (7, .ref (ad 76 0)), (8, .ref (ad 77 0))] [] (l_L_law_1593 L xs k600 n σ a22 a12 a13 a21 a20 a19 a17 a14 a11 a10 a9) := by
  intro n
  induction n with
  | zero => intros; exact k_none
  | succ n ih =>
  intro ad σ a22 a12 a13 a21 a20 a19 a17 a14 a11 a10 a9
  rw [l_L_law_1593]
  refine k_iload 0 rfl dL_law_1593 ?_
  refine k_bipush (6) (by decide) dL_law_1595 ?_
  refine k_icmp_ge 1620 dL_law_1597 (by decide) ?_ ?_
  · exact k_less (by omega) (k_sub [1, 2, 4, 5, 6, 7, 8, 9, 10, 11, 12, 13, 14, 15, 16, 17, 18, 19] rfl (bj_L_law_1620 X hst b L xs N hk600 ad _ _ _ _ _ _ _ _ _ _))
  · refine k_iload 4 rfl dL_law_1600 ?_
    refine k_if_eq 1620 dL_law_1602 (by decide) ?_ ?_
    · exact k_less (by omega) (k_sub [1, 2, 4, 5, 6, 7, 8, 9, 10, 11, 12, 13, 14, 15, 16, 17, 18, 19] rfl (bj_L_law_1620 X hst b L xs N hk600 ad _ _ _ _ _ _ _ _ _ _))
    · refine k_aload_n 13 rfl dL_law_1605 ?_
      refine k_iload 5 rfl dL_law_1606 ?_
      refine k_iload 0 rfl dL_law_1608 ?_
      refine k_iadd dL_law_1610 ?_
      refine k_iload 3 rfl dL_law_1611 ?_
      refine k_gd (fun h16 => ?_)
      refine k_bd ?_
      refine k_iastore (lvs_71 _) (ia_71 _ _ _) h16 dL_law_1613 ?_
      refine k_iinc (1) [(22, .int _), (12, .int _), (13, .int _), (21, .int _), (20, .int _), (19, .int _), (17, .int _), (14, .int _), (11, .int _), (10, .int _), (9, .int _), (0, .ref _), (1, .ref _), (2, .ref _), (3, .ref _), (4, .ref _), (5, .ref _), (6, .ref _), (7, .ref _), (8, .ref _)] 0 rfl (by decide) rfl (by decide) dL_law_1614 ?_
      refine k_goto 1593 dL_law_1617 (by decide) ?_
      exact k_less (by omega) (k_sub [0, 1, 2, 3, 4, 5, 6, 7, 8, 9, 10, 11, 12, 13, 14, 15, 16, 17, 18, 19] rfl (ih ad _ _ _ _ _ _ _ _ _ _ _ _))
theorem bj_L_law_1588 (X : Xt) (hst : X.1.stackTraces = false) (b L : Nat) (xs : Nat → Int32) (N : Nat) {k600 : Wd → Int32 → Int32 → Int32 → Int32 → Int32 → Int32 → Option Unit} (hk600 : ∀ (ad : Ad) (σ : Wd) (a14 : Int32) (a13 : Int32) (a12 : Int32) (a11 : Int32) (a10 : Int32) (a9 : Int32), Lk X b L xs (N) ad σ 600 [(14, .int a14), (13, .int a13), (12, .int a12), (11, .int a11), (10, .int a10), (9, .int a9), (0, .ref b), (1, .ref (ad 0 0)), (2, .ref (ad 71 0)), (3, .ref (ad 72 0)), (4, .ref (ad 73 0)), (5, .ref (ad 74 0)), (6, .ref (ad 75 0)), (7, .ref (ad 76 0)), (8, .ref (ad 77 0))] [] (k600 σ a14 a13 a12 a11 a10 a9)) (ad : Ad) (σ : Wd) (a13 : Int32) (a21 : Int32) (a20 : Int32) (a19 : Int32) (a17 : Int32) (a14 : Int32) (a11 : Int32) (a10 : Int32) (a9 : Int32) (s0 : Int32) : Lk X b L xs (N) ad σ 1588 [(13, .int a13), (21, .int a21), (20, .int a20), (19, .int a19), (17, .int a17), (14, .int a14), (11, .int a11), (10, .int a10), (9, .int a9), (0, .ref b), (1, .ref (ad 0 0)), (2, .ref (ad 71 0)), (3, .ref (ad 72 0)), (4, .ref (ad 73 0)), (5, .ref (ad 74 0)), (6, .ref (ad 75 0)), (7, .ref (ad 76 0)), (8, .ref (ad 77 0))] [.int s0] (j_L_law_1588 L xs k600 σ a13 a21 a20 a19 a17 a14 a11 a10 a9 s0) := by
  unfold j_L_law_1588
  refine k_istore [(12, .int _), (13, .int _), (21, .int _), (20, .int _), (19, .int _), (17, .int _), (14, .int _), (11, .int _), (10, .int _), (9, .int _), (0, .ref _), (1, .ref _), (2, .ref _), (3, .ref _), (4, .ref _), (5, .ref _), (6, .ref _), (7, .ref _), (8, .ref _)] rfl (by decide) dL_law_1588 ?_
  refine k_iconst (2) (by decide) dL_law_1590 ?_
  refine k_istore [(22, .int _), (12, .int _), (13, .int _), (21, .int _), (20, .int _), (19, .int _), (17, .int _), (14, .int _), (11, .int _), (10, .int _), (9, .int _), (0, .ref _), (1, .ref _), (2, .ref _), (3, .ref _), (4, .ref _), (5, .ref _), (6, .ref _), (7, .ref _), (8, .ref _)] rfl (by decide) dL_law_1591 ?_
  exact k_less (by omega) (k_sub [0, 1, 2, 3, 4, 5, 6, 7, 8, 9, 10, 11, 12, 13, 14, 15, 16, 17, 18, 19] rfl (bl_L_law_1593 X hst b L xs N hk600 FU ad _ _ _ _ _ _ _ _ _ _ _ _))
theorem bj_L_law_1583 (X : Xt) (hst : X.1.stackTraces = false) (b L : Nat) (xs : Nat → Int32) (N : Nat) {k600 : Wd → Int32 → Int32 → Int32 → Int32 → Int32 → Int32 → Option Unit} (hk600 : ∀ (ad : Ad) (σ : Wd) (a14 : Int32) (a13 : Int32) (a12 : Int32) (a11 : Int32) (a10 : Int32) (a9 : Int32), Lk X b L xs (N) ad σ 600 [(14, .int a14), (13, .int a13), (12, .int a12), (11, .int a11), (10, .int a10), (9, .int a9), (0, .ref b), (1, .ref (ad 0 0)), (2, .ref (ad 71 0)), (3, .ref (ad 72 0)), (4, .ref (ad 73 0)), (5, .ref (ad 74 0)), (6, .ref (ad 75 0)), (7, .ref (ad 76 0)), (8, .ref (ad 77 0))] [] (k600 σ a14 a13 a12 a11 a10 a9)) (ad : Ad) (σ : Wd) (a13 : Int32) (a21 : Int32) (a20 : Int32) (a19 : Int32) (a17 : Int32) (a14 : Int32) (a11 : Int32) (a10 : Int32) (a9 : Int32) : Lk X b L xs (N) ad σ 1583 [(13, .int a13), (21, .int a21), (20, .int a20), (19, .int a19), (17, .int a17), (14, .int a14), (11, .int a11), (10, .int a10), (9, .int a9), (0, .ref b), (1, .ref (ad 0 0)), (2, .ref (ad 71 0)), (3, .ref (ad 72 0)), (4, .ref (ad 73 0)), (5, .ref (ad 74 0)), (6, .ref (ad 75 0)), (7, .ref (ad 76 0)), (8, .ref (ad 77 0))] [] (j_L_law_1583 L xs k600 σ a13 a21 a20 a19 a17 a14 a11 a10 a9) := by
  unfold j_L_law_1583
  refine k_iconst (1) (by decide) dL_law_1583 ?_
  refine k_goto 1588 dL_law_1584 (by decide) ?_
  exact k_less (by omega) (k_sub [0, 1, 2, 3, 4, 5, 6, 7, 8, 9, 10, 11, 12, 13, 14, 15, 16, 17] rfl (bj_L_law_1588 X hst b L xs N hk600 ad _ _ _ _ _ _ _ _ _ _ _))
