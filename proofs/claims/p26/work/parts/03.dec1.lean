theorem dX0_init_0 : decode cX0_init 0 = .ok (.aload_n 0, 1) := by decide +kernel
theorem dX0_init_1 : decode cX0_init 1 = .ok (.invokespecial 3, 3) := by decide +kernel
theorem dX0_init_4 : decode cX0_init 4 = .ok (.aload_n 0, 1) := by decide +kernel
theorem dX0_init_5 : decode cX0_init 5 = .ok (.iconst (-1), 1) := by decide +kernel
theorem dX0_init_6 : decode cX0_init 6 = .ok (.putfield 9, 3) := by decide +kernel
theorem dX0_init_9 : decode cX0_init 9 = .ok (.aload_n 0, 1) := by decide +kernel
theorem dX0_init_10 : decode cX0_init 10 = .ok (.iload_n 1, 1) := by decide +kernel
theorem dX0_init_11 : decode cX0_init 11 = .ok (.putfield 15, 3) := by decide +kernel
theorem dX0_init_14 : decode cX0_init 14 = .ok (.aload_n 0, 1) := by decide +kernel
theorem dX0_init_15 : decode cX0_init 15 = .ok (.iload_n 2, 1) := by decide +kernel
theorem dX0_init_16 : decode cX0_init 16 = .ok (.putfield 18, 3) := by decide +kernel
theorem dX0_init_19 : decode cX0_init 19 = .ok (.aload_n 0, 1) := by decide +kernel
theorem dX0_init_20 : decode cX0_init 20 = .ok (.iload_n 3, 1) := by decide +kernel
theorem dX0_init_21 : decode cX0_init 21 = .ok (.putfield 21, 3) := by decide +kernel
theorem dX0_init_24 : decode cX0_init 24 = .ok (.aload_n 0, 1) := by decide +kernel
theorem dX0_init_25 : decode cX0_init 25 = .ok (.iload 4, 2) := by decide +kernel
theorem dX0_init_27 : decode cX0_init 27 = .ok (.putfield 24, 3) := by decide +kernel
theorem dX0_init_30 : decode cX0_init 30 = .ok (.aload_n 0, 1) := by decide +kernel
theorem dX0_init_31 : decode cX0_init 31 = .ok (.iload 5, 2) := by decide +kernel
theorem dX0_init_33 : decode cX0_init 33 = .ok (.putfield 27, 3) := by decide +kernel
theorem dX0_init_36 : decode cX0_init 36 = .ok (.return_, 1) := by decide +kernel
theorem dX0_isOpenTo_0 : decode cX0_isOpenTo 0 = .ok (.aload_n 0, 1) := by decide +kernel
theorem dX0_isOpenTo_1 : decode cX0_isOpenTo 1 = .ok (.getfield 9, 3) := by decide +kernel
theorem dX0_isOpenTo_4 : decode cX0_isOpenTo 4 = .ok (.iconst (-1), 1) := by decide +kernel
theorem dX0_isOpenTo_5 : decode cX0_isOpenTo 5 = .ok (.if_icmp .eq 11, 3) := by decide +kernel
theorem dX0_isOpenTo_8 : decode cX0_isOpenTo 8 = .ok (.aload_n 0, 1) := by decide +kernel
theorem dX0_isOpenTo_9 : decode cX0_isOpenTo 9 = .ok (.getfield 9, 3) := by decide +kernel
theorem dX0_isOpenTo_12 : decode cX0_isOpenTo 12 = .ok (.iload_n 1, 1) := by decide +kernel
theorem dX0_isOpenTo_13 : decode cX0_isOpenTo 13 = .ok (.if_icmp .ne 7, 3) := by decide +kernel
theorem dX0_isOpenTo_16 : decode cX0_isOpenTo 16 = .ok (.iconst 1, 1) := by decide +kernel
theorem dX0_isOpenTo_17 : decode cX0_isOpenTo 17 = .ok (.goto 4, 3) := by decide +kernel
theorem dX0_isOpenTo_20 : decode cX0_isOpenTo 20 = .ok (.iconst 0, 1) := by decide +kernel
theorem dX0_isOpenTo_21 : decode cX0_isOpenTo 21 = .ok (.ireturn, 1) := by decide +kernel
theorem dX1_init_0 : decode cX1_init 0 = .ok (.aload_n 0, 1) := by decide +kernel
theorem dX1_init_1 : decode cX1_init 1 = .ok (.invokespecial 1, 3) := by decide +kernel
theorem dX1_init_4 : decode cX1_init 4 = .ok (.aload_n 0, 1) := by decide +kernel
theorem dX1_init_5 : decode cX1_init 5 = .ok (.iload_n 1, 1) := by decide +kernel
theorem dX1_init_6 : decode cX1_init 6 = .ok (.putfield 7, 3) := by decide +kernel
theorem dX1_init_9 : decode cX1_init 9 = .ok (.aload_n 0, 1) := by decide +kernel
theorem dX1_init_10 : decode cX1_init 10 = .ok (.iload_n 2, 1) := by decide +kernel
theorem dX1_init_11 : decode cX1_init 11 = .ok (.putfield 13, 3) := by decide +kernel
theorem dX1_init_14 : decode cX1_init 14 = .ok (.aload_n 0, 1) := by decide +kernel
theorem dX1_init_15 : decode cX1_init 15 = .ok (.iload_n 3, 1) := by decide +kernel
theorem dX1_init_16 : decode cX1_init 16 = .ok (.putfield 16, 3) := by decide +kernel
theorem dX1_init_19 : decode cX1_init 19 = .ok (.return_, 1) := by decide +kernel
theorem dX1_bound_0 : decode cX1_bound 0 = .ok (.aload_n 0, 1) := by decide +kernel
theorem dX1_bound_1 : decode cX1_bound 1 = .ok (.getfield 7, 3) := by decide +kernel
theorem dX1_bound_4 : decode cX1_bound 4 = .ok (.aload_n 0, 1) := by decide +kernel
theorem dX1_bound_5 : decode cX1_bound 5 = .ok (.getfield 7, 3) := by decide +kernel
theorem dX1_bound_8 : decode cX1_bound 8 = .ok (.aload_n 0, 1) := by decide +kernel
theorem dX1_bound_9 : decode cX1_bound 9 = .ok (.getfield 13, 3) := by decide +kernel
theorem dX1_bound_12 : decode cX1_bound 12 = .ok (.imul, 1) := by decide +kernel
theorem dX1_bound_13 : decode cX1_bound 13 = .ok (.bipush 100, 2) := by decide +kernel
theorem dX1_bound_15 : decode cX1_bound 15 = .ok (.idiv, 1) := by decide +kernel
theorem dX1_bound_16 : decode cX1_bound 16 = .ok (.iadd, 1) := by decide +kernel
theorem dX1_bound_17 : decode cX1_bound 17 = .ok (.ireturn, 1) := by decide +kernel
theorem dX1_isOverdue_0 : decode cX1_isOverdue 0 = .ok (.iload_n 1, 1) := by decide +kernel
theorem dX1_isOverdue_1 : decode cX1_isOverdue 1 = .ok (.aload_n 0, 1) := by decide +kernel
theorem dX1_isOverdue_2 : decode cX1_isOverdue 2 = .ok (.invokevirtual 19, 3) := by decide +kernel
theorem dX1_isOverdue_5 : decode cX1_isOverdue 5 = .ok (.if_icmp .gt 11, 3) := by decide +kernel
theorem dX1_isOverdue_8 : decode cX1_isOverdue 8 = .ok (.iload_n 2, 1) := by decide +kernel
theorem dX1_isOverdue_9 : decode cX1_isOverdue 9 = .ok (.aload_n 0, 1) := by decide +kernel
theorem dX1_isOverdue_10 : decode cX1_isOverdue 10 = .ok (.getfield 16, 3) := by decide +kernel
theorem dX1_isOverdue_13 : decode cX1_isOverdue 13 = .ok (.if_icmp .le 7, 3) := by decide +kernel
theorem dX1_isOverdue_16 : decode cX1_isOverdue 16 = .ok (.iconst 1, 1) := by decide +kernel
theorem dX1_isOverdue_17 : decode cX1_isOverdue 17 = .ok (.goto 4, 3) := by decide +kernel
theorem dX1_isOverdue_20 : decode cX1_isOverdue 20 = .ok (.iconst 0, 1) := by decide +kernel
theorem dX1_isOverdue_21 : decode cX1_isOverdue 21 = .ok (.ireturn, 1) := by decide +kernel
theorem dX1_isNear_0 : decode cX1_isNear 0 = .ok (.iload_n 1, 1) := by decide +kernel
theorem dX1_isNear_1 : decode cX1_isNear 1 = .ok (.bipush 100, 2) := by decide +kernel
theorem dX1_isNear_3 : decode cX1_isNear 3 = .ok (.imul, 1) := by decide +kernel
theorem dX1_isNear_4 : decode cX1_isNear 4 = .ok (.bipush 80, 2) := by decide +kernel
theorem dX1_isNear_6 : decode cX1_isNear 6 = .ok (.aload_n 0, 1) := by decide +kernel
theorem dX1_isNear_7 : decode cX1_isNear 7 = .ok (.getfield 7, 3) := by decide +kernel
theorem dX1_isNear_10 : decode cX1_isNear 10 = .ok (.imul, 1) := by decide +kernel
theorem dX1_isNear_11 : decode cX1_isNear 11 = .ok (.if_icmp .lt 7, 3) := by decide +kernel
theorem dX1_isNear_14 : decode cX1_isNear 14 = .ok (.iconst 1, 1) := by decide +kernel
theorem dX1_isNear_15 : decode cX1_isNear 15 = .ok (.goto 4, 3) := by decide +kernel
theorem dX1_isNear_18 : decode cX1_isNear 18 = .ok (.iconst 0, 1) := by decide +kernel
theorem dX1_isNear_19 : decode cX1_isNear 19 = .ok (.ireturn, 1) := by decide +kernel
theorem dX2_init_0 : decode cX2_init 0 = .ok (.aload_n 0, 1) := by decide +kernel
theorem dX2_init_1 : decode cX2_init 1 = .ok (.invokespecial 3, 3) := by decide +kernel
theorem dX2_init_4 : decode cX2_init 4 = .ok (.aload_n 0, 1) := by decide +kernel
theorem dX2_init_5 : decode cX2_init 5 = .ok (.iload_n 1, 1) := by decide +kernel
theorem dX2_init_6 : decode cX2_init 6 = .ok (.putfield 9, 3) := by decide +kernel
theorem dX2_init_9 : decode cX2_init 9 = .ok (.aload_n 0, 1) := by decide +kernel
theorem dX2_init_10 : decode cX2_init 10 = .ok (.iload_n 2, 1) := by decide +kernel
theorem dX2_init_11 : decode cX2_init 11 = .ok (.putfield 15, 3) := by decide +kernel
theorem dX2_init_14 : decode cX2_init 14 = .ok (.aload_n 0, 1) := by decide +kernel
theorem dX2_init_15 : decode cX2_init 15 = .ok (.iload_n 3, 1) := by decide +kernel
theorem dX2_init_16 : decode cX2_init 16 = .ok (.putfield 18, 3) := by decide +kernel
theorem dX2_init_19 : decode cX2_init 19 = .ok (.aload_n 0, 1) := by decide +kernel
theorem dX2_init_20 : decode cX2_init 20 = .ok (.iload 4, 2) := by decide +kernel
theorem dX2_init_22 : decode cX2_init 22 = .ok (.putfield 21, 3) := by decide +kernel
theorem dX2_init_25 : decode cX2_init 25 = .ok (.return_, 1) := by decide +kernel
theorem dX2_isGrave_0 : decode cX2_isGrave 0 = .ok (.aload_n 0, 1) := by decide +kernel
theorem dX2_isGrave_1 : decode cX2_isGrave 1 = .ok (.getfield 9, 3) := by decide +kernel
theorem dX2_isGrave_4 : decode cX2_isGrave 4 = .ok (.ifCond .ne 11, 3) := by decide +kernel
theorem dX2_isGrave_7 : decode cX2_isGrave 7 = .ok (.aload_n 0, 1) := by decide +kernel
theorem dX2_isGrave_8 : decode cX2_isGrave 8 = .ok (.getfield 21, 3) := by decide +kernel
theorem dX2_isGrave_11 : decode cX2_isGrave 11 = .ok (.iconst 4, 1) := by decide +kernel
theorem dX2_isGrave_12 : decode cX2_isGrave 12 = .ok (.if_icmp .gt 20, 3) := by decide +kernel
theorem dX2_isGrave_15 : decode cX2_isGrave 15 = .ok (.aload_n 0, 1) := by decide +kernel
theorem dX2_isGrave_16 : decode cX2_isGrave 16 = .ok (.getfield 9, 3) := by decide +kernel
theorem dX2_isGrave_19 : decode cX2_isGrave 19 = .ok (.iconst 2, 1) := by decide +kernel
theorem dX2_isGrave_20 : decode cX2_isGrave 20 = .ok (.if_icmp .ne 16, 3) := by decide +kernel
theorem dX2_isGrave_23 : decode cX2_isGrave 23 = .ok (.aload_n 0, 1) := by decide +kernel
theorem dX2_isGrave_24 : decode cX2_isGrave 24 = .ok (.getfield 21, 3) := by decide +kernel
theorem dX2_isGrave_27 : decode cX2_isGrave 27 = .ok (.bipush 50, 2) := by decide +kernel
theorem dX2_isGrave_29 : decode cX2_isGrave 29 = .ok (.if_icmp .le 7, 3) := by decide +kernel
theorem dX2_isGrave_32 : decode cX2_isGrave 32 = .ok (.iconst 1, 1) := by decide +kernel
theorem dX2_isGrave_33 : decode cX2_isGrave 33 = .ok (.goto 4, 3) := by decide +kernel
theorem dX2_isGrave_36 : decode cX2_isGrave 36 = .ok (.iconst 0, 1) := by decide +kernel
theorem dX2_isGrave_37 : decode cX2_isGrave 37 = .ok (.ireturn, 1) := by decide +kernel
theorem dX3_init_0 : decode cX3_init 0 = .ok (.aload_n 0, 1) := by decide +kernel
theorem dX3_init_1 : decode cX3_init 1 = .ok (.invokespecial 3, 3) := by decide +kernel
theorem dX3_init_4 : decode cX3_init 4 = .ok (.aload_n 0, 1) := by decide +kernel
theorem dX3_init_5 : decode cX3_init 5 = .ok (.bipush 6, 2) := by decide +kernel
theorem dX3_init_7 : decode cX3_init 7 = .ok (.newarray .int, 2) := by decide +kernel
theorem dX3_init_9 : decode cX3_init 9 = .ok (.putfield 9, 3) := by decide +kernel
theorem dX3_init_12 : decode cX3_init 12 = .ok (.aload_n 0, 1) := by decide +kernel
theorem dX3_init_13 : decode cX3_init 13 = .ok (.bipush 6, 2) := by decide +kernel
theorem dX3_init_15 : decode cX3_init 15 = .ok (.newarray .int, 2) := by decide +kernel
theorem dX3_init_17 : decode cX3_init 17 = .ok (.putfield 15, 3) := by decide +kernel
theorem dX3_init_20 : decode cX3_init 20 = .ok (.aload_n 0, 1) := by decide +kernel
theorem dX3_init_21 : decode cX3_init 21 = .ok (.bipush 6, 2) := by decide +kernel
theorem dX3_init_23 : decode cX3_init 23 = .ok (.newarray .int, 2) := by decide +kernel
theorem dX3_init_25 : decode cX3_init 25 = .ok (.putfield 18, 3) := by decide +kernel
theorem dX3_init_28 : decode cX3_init 28 = .ok (.aload_n 0, 1) := by decide +kernel
theorem dX3_init_29 : decode cX3_init 29 = .ok (.bipush 6, 2) := by decide +kernel
theorem dX3_init_31 : decode cX3_init 31 = .ok (.newarray .int, 2) := by decide +kernel
theorem dX3_init_33 : decode cX3_init 33 = .ok (.putfield 21, 3) := by decide +kernel
theorem dX3_init_36 : decode cX3_init 36 = .ok (.aload_n 0, 1) := by decide +kernel
theorem dX3_init_37 : decode cX3_init 37 = .ok (.bipush 6, 2) := by decide +kernel
theorem dX3_init_39 : decode cX3_init 39 = .ok (.newarray .int, 2) := by decide +kernel
theorem dX3_init_41 : decode cX3_init 41 = .ok (.putfield 24, 3) := by decide +kernel
theorem dX3_init_44 : decode cX3_init 44 = .ok (.aload_n 0, 1) := by decide +kernel
theorem dX3_init_45 : decode cX3_init 45 = .ok (.sipush 448, 3) := by decide +kernel
theorem dX3_init_48 : decode cX3_init 48 = .ok (.newarray .int, 2) := by decide +kernel
theorem dX3_init_50 : decode cX3_init 50 = .ok (.putfield 27, 3) := by decide +kernel
theorem dX3_init_53 : decode cX3_init 53 = .ok (.aload_n 0, 1) := by decide +kernel
theorem dX3_init_54 : decode cX3_init 54 = .ok (.iconst 0, 1) := by decide +kernel
theorem dX3_init_55 : decode cX3_init 55 = .ok (.putfield 30, 3) := by decide +kernel
theorem dX3_init_58 : decode cX3_init 58 = .ok (.aload_n 0, 1) := by decide +kernel
theorem dX3_init_59 : decode cX3_init 59 = .ok (.iconst 0, 1) := by decide +kernel
theorem dX3_init_60 : decode cX3_init 60 = .ok (.putfield 34, 3) := by decide +kernel
theorem dX3_init_63 : decode cX3_init 63 = .ok (.return_, 1) := by decide +kernel
theorem dX3_begin_0 : decode cX3_begin 0 = .ok (.aload_n 0, 1) := by decide +kernel
theorem dX3_begin_1 : decode cX3_begin 1 = .ok (.iconst 0, 1) := by decide +kernel
theorem dX3_begin_2 : decode cX3_begin 2 = .ok (.iload_n 1, 1) := by decide +kernel
theorem dX3_begin_3 : decode cX3_begin 3 = .ok (.bipush 6, 2) := by decide +kernel
theorem dX3_begin_5 : decode cX3_begin 5 = .ok (.invokestatic 37, 3) := by decide +kernel
theorem dX3_begin_8 : decode cX3_begin 8 = .ok (.invokestatic 43, 3) := by decide +kernel
theorem dX3_begin_11 : decode cX3_begin 11 = .ok (.putfield 30, 3) := by decide +kernel
theorem dX3_begin_14 : decode cX3_begin 14 = .ok (.aload_n 0, 1) := by decide +kernel
theorem dX3_begin_15 : decode cX3_begin 15 = .ok (.iconst 0, 1) := by decide +kernel
theorem dX3_begin_16 : decode cX3_begin 16 = .ok (.putfield 34, 3) := by decide +kernel
theorem dX3_begin_19 : decode cX3_begin 19 = .ok (.return_, 1) := by decide +kernel
theorem dX3_addDiagram_0 : decode cX3_addDiagram 0 = .ok (.aload_n 0, 1) := by decide +kernel
theorem dX3_addDiagram_1 : decode cX3_addDiagram 1 = .ok (.getfield 34, 3) := by decide +kernel
theorem dX3_addDiagram_4 : decode cX3_addDiagram 4 = .ok (.istore 4, 2) := by decide +kernel
theorem dX3_addDiagram_6 : decode cX3_addDiagram 6 = .ok (.iload 4, 2) := by decide +kernel
theorem dX3_addDiagram_8 : decode cX3_addDiagram 8 = .ok (.ifCond .lt 67, 3) := by decide +kernel
theorem dX3_addDiagram_11 : decode cX3_addDiagram 11 = .ok (.iload 4, 2) := by decide +kernel
theorem dX3_addDiagram_13 : decode cX3_addDiagram 13 = .ok (.aload_n 0, 1) := by decide +kernel
theorem dX3_addDiagram_14 : decode cX3_addDiagram 14 = .ok (.getfield 9, 3) := by decide +kernel
theorem dX3_addDiagram_17 : decode cX3_addDiagram 17 = .ok (.arraylength, 1) := by decide +kernel
theorem dX3_addDiagram_18 : decode cX3_addDiagram 18 = .ok (.if_icmp .ge 57, 3) := by decide +kernel
theorem dX3_addDiagram_21 : decode cX3_addDiagram 21 = .ok (.iload 4, 2) := by decide +kernel
theorem dX3_addDiagram_23 : decode cX3_addDiagram 23 = .ok (.aload_n 0, 1) := by decide +kernel
theorem dX3_addDiagram_24 : decode cX3_addDiagram 24 = .ok (.getfield 15, 3) := by decide +kernel
theorem dX3_addDiagram_27 : decode cX3_addDiagram 27 = .ok (.arraylength, 1) := by decide +kernel
theorem dX3_addDiagram_28 : decode cX3_addDiagram 28 = .ok (.if_icmp .ge 47, 3) := by decide +kernel
theorem dX3_addDiagram_31 : decode cX3_addDiagram 31 = .ok (.iload 4, 2) := by decide +kernel
theorem dX3_addDiagram_33 : decode cX3_addDiagram 33 = .ok (.aload_n 0, 1) := by decide +kernel
theorem dX3_addDiagram_34 : decode cX3_addDiagram 34 = .ok (.getfield 18, 3) := by decide +kernel
theorem dX3_addDiagram_37 : decode cX3_addDiagram 37 = .ok (.arraylength, 1) := by decide +kernel
theorem dX3_addDiagram_38 : decode cX3_addDiagram 38 = .ok (.if_icmp .ge 37, 3) := by decide +kernel
theorem dX3_addDiagram_41 : decode cX3_addDiagram 41 = .ok (.aload_n 0, 1) := by decide +kernel
theorem dX3_addDiagram_42 : decode cX3_addDiagram 42 = .ok (.getfield 9, 3) := by decide +kernel
theorem dX3_addDiagram_45 : decode cX3_addDiagram 45 = .ok (.iload 4, 2) := by decide +kernel
theorem dX3_addDiagram_47 : decode cX3_addDiagram 47 = .ok (.iload_n 1, 1) := by decide +kernel
theorem dX3_addDiagram_48 : decode cX3_addDiagram 48 = .ok (.iastore, 1) := by decide +kernel
theorem dX3_addDiagram_49 : decode cX3_addDiagram 49 = .ok (.aload_n 0, 1) := by decide +kernel
theorem dX3_addDiagram_50 : decode cX3_addDiagram 50 = .ok (.getfield 15, 3) := by decide +kernel
theorem dX3_addDiagram_53 : decode cX3_addDiagram 53 = .ok (.iload 4, 2) := by decide +kernel
theorem dX3_addDiagram_55 : decode cX3_addDiagram 55 = .ok (.iload_n 2, 1) := by decide +kernel
theorem dX3_addDiagram_56 : decode cX3_addDiagram 56 = .ok (.iastore, 1) := by decide +kernel
theorem dX3_addDiagram_57 : decode cX3_addDiagram 57 = .ok (.aload_n 0, 1) := by decide +kernel
theorem dX3_addDiagram_58 : decode cX3_addDiagram 58 = .ok (.getfield 18, 3) := by decide +kernel
theorem dX3_addDiagram_61 : decode cX3_addDiagram 61 = .ok (.iload 4, 2) := by decide +kernel
theorem dX3_addDiagram_63 : decode cX3_addDiagram 63 = .ok (.iload_n 3, 1) := by decide +kernel
theorem dX3_addDiagram_64 : decode cX3_addDiagram 64 = .ok (.iastore, 1) := by decide +kernel
theorem dX3_addDiagram_65 : decode cX3_addDiagram 65 = .ok (.aload_n 0, 1) := by decide +kernel
theorem dX3_addDiagram_66 : decode cX3_addDiagram 66 = .ok (.dup, 1) := by decide +kernel
theorem dX3_addDiagram_67 : decode cX3_addDiagram 67 = .ok (.getfield 34, 3) := by decide +kernel
theorem dX3_addDiagram_70 : decode cX3_addDiagram 70 = .ok (.iconst 1, 1) := by decide +kernel
theorem dX3_addDiagram_71 : decode cX3_addDiagram 71 = .ok (.iadd, 1) := by decide +kernel
theorem dX3_addDiagram_72 : decode cX3_addDiagram 72 = .ok (.putfield 34, 3) := by decide +kernel
theorem dX3_addDiagram_75 : decode cX3_addDiagram 75 = .ok (.return_, 1) := by decide +kernel
theorem dX3_givenTo_0 : decode cX3_givenTo 0 = .ok (.aload_n 0, 1) := by decide +kernel
theorem dX3_givenTo_1 : decode cX3_givenTo 1 = .ok (.getfield 21, 3) := by decide +kernel
theorem dX3_givenTo_4 : decode cX3_givenTo 4 = .ok (.iload_n 1, 1) := by decide +kernel
theorem dX3_givenTo_5 : decode cX3_givenTo 5 = .ok (.iconst (-1), 1) := by decide +kernel
theorem dX3_givenTo_6 : decode cX3_givenTo 6 = .ok (.invokestatic 46, 3) := by decide +kernel
theorem dX3_givenTo_9 : decode cX3_givenTo 9 = .ok (.ireturn, 1) := by decide +kernel
theorem dX3_lackOfGiven_0 : decode cX3_lackOfGiven 0 = .ok (.aload_n 0, 1) := by decide +kernel
theorem dX3_lackOfGiven_1 : decode cX3_lackOfGiven 1 = .ok (.aload_n 0, 1) := by decide +kernel
theorem dX3_lackOfGiven_2 : decode cX3_lackOfGiven 2 = .ok (.getfield 21, 3) := by decide +kernel
theorem dX3_lackOfGiven_5 : decode cX3_lackOfGiven 5 = .ok (.invokevirtual 50, 3) := by decide +kernel
theorem dX3_lackOfGiven_8 : decode cX3_lackOfGiven 8 = .ok (.ireturn, 1) := by decide +kernel
theorem dX3_at_0 : decode cX3_at 0 = .ok (.iload_n 1, 1) := by decide +kernel
theorem dX3_at_1 : decode cX3_at 1 = .ok (.ifCond .lt 15, 3) := by decide +kernel
theorem dX3_at_4 : decode cX3_at 4 = .ok (.iload_n 1, 1) := by decide +kernel
theorem dX3_at_5 : decode cX3_at 5 = .ok (.aload_n 0, 1) := by decide +kernel
theorem dX3_at_6 : decode cX3_at 6 = .ok (.arraylength, 1) := by decide +kernel
theorem dX3_at_7 : decode cX3_at 7 = .ok (.if_icmp .ge 9, 3) := by decide +kernel
theorem dX3_at_10 : decode cX3_at 10 = .ok (.aload_n 0, 1) := by decide +kernel
theorem dX3_at_11 : decode cX3_at 11 = .ok (.iload_n 1, 1) := by decide +kernel
theorem dX3_at_12 : decode cX3_at 12 = .ok (.iaload, 1) := by decide +kernel
theorem dX3_at_13 : decode cX3_at 13 = .ok (.goto 4, 3) := by decide +kernel
theorem dX3_at_16 : decode cX3_at 16 = .ok (.iload_n 2, 1) := by decide +kernel
theorem dX3_at_17 : decode cX3_at 17 = .ok (.ireturn, 1) := by decide +kernel
theorem dX3_put_0 : decode cX3_put 0 = .ok (.iload_n 1, 1) := by decide +kernel
theorem dX3_put_1 : decode cX3_put 1 = .ok (.ifCond .lt 13, 3) := by decide +kernel
theorem dX3_put_4 : decode cX3_put 4 = .ok (.iload_n 1, 1) := by decide +kernel
theorem dX3_put_5 : decode cX3_put 5 = .ok (.aload_n 0, 1) := by decide +kernel
theorem dX3_put_6 : decode cX3_put 6 = .ok (.arraylength, 1) := by decide +kernel
theorem dX3_put_7 : decode cX3_put 7 = .ok (.if_icmp .ge 7, 3) := by decide +kernel
theorem dX3_put_10 : decode cX3_put 10 = .ok (.aload_n 0, 1) := by decide +kernel
theorem dX3_put_11 : decode cX3_put 11 = .ok (.iload_n 1, 1) := by decide +kernel
theorem dX3_put_12 : decode cX3_put 12 = .ok (.iload_n 2, 1) := by decide +kernel
theorem dX3_put_13 : decode cX3_put 13 = .ok (.iastore, 1) := by decide +kernel
theorem dX3_put_14 : decode cX3_put 14 = .ok (.return_, 1) := by decide +kernel
theorem dX3_has_0 : decode cX3_has 0 = .ok (.iload_n 0, 1) := by decide +kernel
theorem dX3_has_1 : decode cX3_has 1 = .ok (.iload_n 1, 1) := by decide +kernel
theorem dX3_has_2 : decode cX3_has 2 = .ok (.ishr, 1) := by decide +kernel
theorem dX3_has_3 : decode cX3_has 3 = .ok (.iconst 1, 1) := by decide +kernel
theorem dX3_has_4 : decode cX3_has 4 = .ok (.iand, 1) := by decide +kernel
theorem dX3_has_5 : decode cX3_has 5 = .ok (.iconst 1, 1) := by decide +kernel
theorem dX3_has_6 : decode cX3_has 6 = .ok (.if_icmp .ne 7, 3) := by decide +kernel
theorem dX3_has_9 : decode cX3_has 9 = .ok (.iconst 1, 1) := by decide +kernel
theorem dX3_has_10 : decode cX3_has 10 = .ok (.goto 4, 3) := by decide +kernel
theorem dX3_has_13 : decode cX3_has 13 = .ok (.iconst 0, 1) := by decide +kernel
theorem dX3_has_14 : decode cX3_has 14 = .ok (.ireturn, 1) := by decide +kernel
theorem dX3_lackOf_0 : decode cX3_lackOf 0 = .ok (.iconst 0, 1) := by decide +kernel
theorem dX3_lackOf_1 : decode cX3_lackOf 1 = .ok (.istore_n 2, 1) := by decide +kernel
theorem dX3_lackOf_2 : decode cX3_lackOf 2 = .ok (.iconst 0, 1) := by decide +kernel
theorem dX3_lackOf_3 : decode cX3_lackOf 3 = .ok (.istore_n 3, 1) := by decide +kernel
theorem dX3_lackOf_4 : decode cX3_lackOf 4 = .ok (.iload_n 3, 1) := by decide +kernel
theorem dX3_lackOf_5 : decode cX3_lackOf 5 = .ok (.aload_n 0, 1) := by decide +kernel
theorem dX3_lackOf_6 : decode cX3_lackOf 6 = .ok (.getfield 34, 3) := by decide +kernel
theorem dX3_lackOf_9 : decode cX3_lackOf 9 = .ok (.if_icmp .ge 31, 3) := by decide +kernel
theorem dX3_lackOf_12 : decode cX3_lackOf 12 = .ok (.aload_n 1, 1) := by decide +kernel
theorem dX3_lackOf_13 : decode cX3_lackOf 13 = .ok (.iload_n 3, 1) := by decide +kernel
theorem dX3_lackOf_14 : decode cX3_lackOf 14 = .ok (.iconst (-1), 1) := by decide +kernel
theorem dX3_lackOf_15 : decode cX3_lackOf 15 = .ok (.invokestatic 46, 3) := by decide +kernel
theorem dX3_lackOf_18 : decode cX3_lackOf 18 = .ok (.iconst (-1), 1) := by decide +kernel
theorem dX3_lackOf_19 : decode cX3_lackOf 19 = .ok (.if_icmp .ne 15, 3) := by decide +kernel
theorem dX3_lackOf_22 : decode cX3_lackOf 22 = .ok (.iload_n 2, 1) := by decide +kernel
theorem dX3_lackOf_23 : decode cX3_lackOf 23 = .ok (.aload_n 0, 1) := by decide +kernel
theorem dX3_lackOf_24 : decode cX3_lackOf 24 = .ok (.getfield 9, 3) := by decide +kernel
theorem dX3_lackOf_27 : decode cX3_lackOf 27 = .ok (.iload_n 3, 1) := by decide +kernel
theorem dX3_lackOf_28 : decode cX3_lackOf 28 = .ok (.iconst 0, 1) := by decide +kernel
theorem dX3_lackOf_29 : decode cX3_lackOf 29 = .ok (.invokestatic 46, 3) := by decide +kernel
theorem dX3_lackOf_32 : decode cX3_lackOf 32 = .ok (.iadd, 1) := by decide +kernel
theorem dX3_lackOf_33 : decode cX3_lackOf 33 = .ok (.istore_n 2, 1) := by decide +kernel
theorem dX3_lackOf_34 : decode cX3_lackOf 34 = .ok (.iinc 3 1, 3) := by decide +kernel
theorem dX3_lackOf_37 : decode cX3_lackOf 37 = .ok (.goto (-33), 3) := by decide +kernel
theorem dX3_lackOf_40 : decode cX3_lackOf 40 = .ok (.iload_n 2, 1) := by decide +kernel
theorem dX3_lackOf_41 : decode cX3_lackOf 41 = .ok (.ireturn, 1) := by decide +kernel
theorem dX3_homingOf_0 : decode cX3_homingOf 0 = .ok (.iconst 0, 1) := by decide +kernel
theorem dX3_homingOf_1 : decode cX3_homingOf 1 = .ok (.istore_n 2, 1) := by decide +kernel
theorem dX3_homingOf_2 : decode cX3_homingOf 2 = .ok (.iconst 0, 1) := by decide +kernel
theorem dX3_homingOf_3 : decode cX3_homingOf 3 = .ok (.istore_n 3, 1) := by decide +kernel
theorem dX3_homingOf_4 : decode cX3_homingOf 4 = .ok (.iload_n 3, 1) := by decide +kernel
theorem dX3_homingOf_5 : decode cX3_homingOf 5 = .ok (.aload_n 0, 1) := by decide +kernel
theorem dX3_homingOf_6 : decode cX3_homingOf 6 = .ok (.getfield 34, 3) := by decide +kernel
theorem dX3_homingOf_9 : decode cX3_homingOf 9 = .ok (.if_icmp .ge 43, 3) := by decide +kernel
theorem dX3_homingOf_12 : decode cX3_homingOf 12 = .ok (.aload_n 1, 1) := by decide +kernel
theorem dX3_homingOf_13 : decode cX3_homingOf 13 = .ok (.iload_n 3, 1) := by decide +kernel
theorem dX3_homingOf_14 : decode cX3_homingOf 14 = .ok (.iconst (-1), 1) := by decide +kernel
theorem dX3_homingOf_15 : decode cX3_homingOf 15 = .ok (.invokestatic 46, 3) := by decide +kernel
theorem dX3_homingOf_18 : decode cX3_homingOf 18 = .ok (.istore 4, 2) := by decide +kernel
theorem dX3_homingOf_20 : decode cX3_homingOf 20 = .ok (.iload 4, 2) := by decide +kernel
theorem dX3_homingOf_22 : decode cX3_homingOf 22 = .ok (.iconst (-1), 1) := by decide +kernel
theorem dX3_homingOf_23 : decode cX3_homingOf 23 = .ok (.if_icmp .eq 23, 3) := by decide +kernel
theorem dX3_homingOf_26 : decode cX3_homingOf 26 = .ok (.aload_n 0, 1) := by decide +kernel
theorem dX3_homingOf_27 : decode cX3_homingOf 27 = .ok (.getfield 18, 3) := by decide +kernel
theorem dX3_homingOf_30 : decode cX3_homingOf 30 = .ok (.iload_n 3, 1) := by decide +kernel
theorem dX3_homingOf_31 : decode cX3_homingOf 31 = .ok (.iconst 0, 1) := by decide +kernel
theorem dX3_homingOf_32 : decode cX3_homingOf 32 = .ok (.invokestatic 46, 3) := by decide +kernel
theorem dX3_homingOf_35 : decode cX3_homingOf 35 = .ok (.iload 4, 2) := by decide +kernel
theorem dX3_homingOf_37 : decode cX3_homingOf 37 = .ok (.invokestatic 54, 3) := by decide +kernel
theorem dX3_homingOf_40 : decode cX3_homingOf 40 = .ok (.ifCond .eq 6, 3) := by decide +kernel
theorem dX3_homingOf_43 : decode cX3_homingOf 43 = .ok (.iinc 2 1, 3) := by decide +kernel
theorem dX3_homingOf_46 : decode cX3_homingOf 46 = .ok (.iinc 3 1, 3) := by decide +kernel
theorem dX3_homingOf_49 : decode cX3_homingOf 49 = .ok (.goto (-45), 3) := by decide +kernel
theorem dX3_homingOf_52 : decode cX3_homingOf 52 = .ok (.iload_n 2, 1) := by decide +kernel
theorem dX3_homingOf_53 : decode cX3_homingOf 53 = .ok (.ireturn, 1) := by decide +kernel
theorem dX3_allocateByParts_0 : decode cX3_allocateByParts 0 = .ok (.aload_n 0, 1) := by decide +kernel
theorem dX3_allocateByParts_1 : decode cX3_allocateByParts 1 = .ok (.invokevirtual 58, 3) := by decide +kernel
theorem dX3_allocateByParts_4 : decode cX3_allocateByParts 4 = .ok (.iconst 1, 1) := by decide +kernel
theorem dX3_allocateByParts_5 : decode cX3_allocateByParts 5 = .ok (.aload_n 0, 1) := by decide +kernel
theorem dX3_allocateByParts_6 : decode cX3_allocateByParts 6 = .ok (.getfield 30, 3) := by decide +kernel
theorem dX3_allocateByParts_9 : decode cX3_allocateByParts 9 = .ok (.ishl, 1) := by decide +kernel
theorem dX3_allocateByParts_10 : decode cX3_allocateByParts 10 = .ok (.iconst 1, 1) := by decide +kernel
theorem dX3_allocateByParts_11 : decode cX3_allocateByParts 11 = .ok (.isub, 1) := by decide +kernel
theorem dX3_allocateByParts_12 : decode cX3_allocateByParts 12 = .ok (.istore_n 1, 1) := by decide +kernel
theorem dX3_allocateByParts_13 : decode cX3_allocateByParts 13 = .ok (.iconst 0, 1) := by decide +kernel
theorem dX3_allocateByParts_14 : decode cX3_allocateByParts 14 = .ok (.istore_n 2, 1) := by decide +kernel
theorem dX3_allocateByParts_15 : decode cX3_allocateByParts 15 = .ok (.iload_n 2, 1) := by decide +kernel
theorem dX3_allocateByParts_16 : decode cX3_allocateByParts 16 = .ok (.aload_n 0, 1) := by decide +kernel
theorem dX3_allocateByParts_17 : decode cX3_allocateByParts 17 = .ok (.getfield 34, 3) := by decide +kernel
theorem dX3_allocateByParts_20 : decode cX3_allocateByParts 20 = .ok (.if_icmp .ge 31, 3) := by decide +kernel
theorem dX3_allocateByParts_23 : decode cX3_allocateByParts 23 = .ok (.aload_n 0, 1) := by decide +kernel
theorem dX3_allocateByParts_24 : decode cX3_allocateByParts 24 = .ok (.iload_n 2, 1) := by decide +kernel
theorem dX3_allocateByParts_25 : decode cX3_allocateByParts 25 = .ok (.iload_n 1, 1) := by decide +kernel
theorem dX3_allocateByParts_26 : decode cX3_allocateByParts 26 = .ok (.invokevirtual 61, 3) := by decide +kernel
theorem dX3_allocateByParts_29 : decode cX3_allocateByParts 29 = .ok (.istore_n 3, 1) := by decide +kernel
theorem dX3_allocateByParts_30 : decode cX3_allocateByParts 30 = .ok (.aload_n 0, 1) := by decide +kernel
theorem dX3_allocateByParts_31 : decode cX3_allocateByParts 31 = .ok (.getfield 21, 3) := by decide +kernel
theorem dX3_allocateByParts_34 : decode cX3_allocateByParts 34 = .ok (.iload_n 2, 1) := by decide +kernel
theorem dX3_allocateByParts_35 : decode cX3_allocateByParts 35 = .ok (.iload_n 3, 1) := by decide +kernel
theorem dX3_allocateByParts_36 : decode cX3_allocateByParts 36 = .ok (.invokestatic 64, 3) := by decide +kernel
theorem dX3_allocateByParts_39 : decode cX3_allocateByParts 39 = .ok (.iload_n 1, 1) := by decide +kernel
theorem dX3_allocateByParts_40 : decode cX3_allocateByParts 40 = .ok (.iload_n 3, 1) := by decide +kernel
theorem dX3_allocateByParts_41 : decode cX3_allocateByParts 41 = .ok (.invokestatic 68, 3) := by decide +kernel
theorem dX3_allocateByParts_44 : decode cX3_allocateByParts 44 = .ok (.istore_n 1, 1) := by decide +kernel
theorem dX3_allocateByParts_45 : decode cX3_allocateByParts 45 = .ok (.iinc 2 1, 3) := by decide +kernel
theorem dX3_allocateByParts_48 : decode cX3_allocateByParts 48 = .ok (.goto (-33), 3) := by decide +kernel
theorem dX3_allocateByParts_51 : decode cX3_allocateByParts 51 = .ok (.return_, 1) := by decide +kernel
theorem dX3_fillLeastCosts_0 : decode cX3_fillLeastCosts 0 = .ok (.iconst 1, 1) := by decide +kernel
theorem dX3_fillLeastCosts_1 : decode cX3_fillLeastCosts 1 = .ok (.aload_n 0, 1) := by decide +kernel
theorem dX3_fillLeastCosts_2 : decode cX3_fillLeastCosts 2 = .ok (.getfield 30, 3) := by decide +kernel
theorem dX3_fillLeastCosts_5 : decode cX3_fillLeastCosts 5 = .ok (.ishl, 1) := by decide +kernel
theorem dX3_fillLeastCosts_6 : decode cX3_fillLeastCosts 6 = .ok (.istore_n 1, 1) := by decide +kernel
theorem dX3_fillLeastCosts_7 : decode cX3_fillLeastCosts 7 = .ok (.iconst 0, 1) := by decide +kernel
theorem dX3_fillLeastCosts_8 : decode cX3_fillLeastCosts 8 = .ok (.istore_n 2, 1) := by decide +kernel
theorem dX3_fillLeastCosts_9 : decode cX3_fillLeastCosts 9 = .ok (.iload_n 2, 1) := by decide +kernel
theorem dX3_fillLeastCosts_10 : decode cX3_fillLeastCosts 10 = .ok (.iload_n 1, 1) := by decide +kernel
theorem dX3_fillLeastCosts_11 : decode cX3_fillLeastCosts 11 = .ok (.if_icmp .ge 26, 3) := by decide +kernel
theorem dX3_fillLeastCosts_14 : decode cX3_fillLeastCosts 14 = .ok (.aload_n 0, 1) := by decide +kernel
theorem dX3_fillLeastCosts_15 : decode cX3_fillLeastCosts 15 = .ok (.getfield 27, 3) := by decide +kernel
theorem dX3_fillLeastCosts_18 : decode cX3_fillLeastCosts 18 = .ok (.aload_n 0, 1) := by decide +kernel
theorem dX3_fillLeastCosts_19 : decode cX3_fillLeastCosts 19 = .ok (.getfield 34, 3) := by decide +kernel
theorem dX3_fillLeastCosts_22 : decode cX3_fillLeastCosts 22 = .ok (.bipush 64, 2) := by decide +kernel
theorem dX3_fillLeastCosts_24 : decode cX3_fillLeastCosts 24 = .ok (.imul, 1) := by decide +kernel
theorem dX3_fillLeastCosts_25 : decode cX3_fillLeastCosts 25 = .ok (.iload_n 2, 1) := by decide +kernel
theorem dX3_fillLeastCosts_26 : decode cX3_fillLeastCosts 26 = .ok (.iadd, 1) := by decide +kernel
theorem dX3_fillLeastCosts_27 : decode cX3_fillLeastCosts 27 = .ok (.iconst 0, 1) := by decide +kernel
theorem dX3_fillLeastCosts_28 : decode cX3_fillLeastCosts 28 = .ok (.invokestatic 64, 3) := by decide +kernel
theorem dX3_fillLeastCosts_31 : decode cX3_fillLeastCosts 31 = .ok (.iinc 2 1, 3) := by decide +kernel
theorem dX3_fillLeastCosts_34 : decode cX3_fillLeastCosts 34 = .ok (.goto (-25), 3) := by decide +kernel
theorem dX3_fillLeastCosts_37 : decode cX3_fillLeastCosts 37 = .ok (.aload_n 0, 1) := by decide +kernel
theorem dX3_fillLeastCosts_38 : decode cX3_fillLeastCosts 38 = .ok (.getfield 34, 3) := by decide +kernel
theorem dX3_fillLeastCosts_41 : decode cX3_fillLeastCosts 41 = .ok (.iconst 1, 1) := by decide +kernel
theorem dX3_fillLeastCosts_42 : decode cX3_fillLeastCosts 42 = .ok (.isub, 1) := by decide +kernel
theorem dX3_fillLeastCosts_43 : decode cX3_fillLeastCosts 43 = .ok (.istore_n 2, 1) := by decide +kernel
theorem dX3_fillLeastCosts_44 : decode cX3_fillLeastCosts 44 = .ok (.iload_n 2, 1) := by decide +kernel
theorem dX3_fillLeastCosts_45 : decode cX3_fillLeastCosts 45 = .ok (.ifCond .lt 41, 3) := by decide +kernel
theorem dX3_fillLeastCosts_48 : decode cX3_fillLeastCosts 48 = .ok (.iconst 0, 1) := by decide +kernel
theorem dX3_fillLeastCosts_49 : decode cX3_fillLeastCosts 49 = .ok (.istore_n 3, 1) := by decide +kernel
theorem dX3_fillLeastCosts_50 : decode cX3_fillLeastCosts 50 = .ok (.iload_n 3, 1) := by decide +kernel
theorem dX3_fillLeastCosts_51 : decode cX3_fillLeastCosts 51 = .ok (.iload_n 1, 1) := by decide +kernel
theorem dX3_fillLeastCosts_52 : decode cX3_fillLeastCosts 52 = .ok (.if_icmp .ge 28, 3) := by decide +kernel
theorem dX3_fillLeastCosts_55 : decode cX3_fillLeastCosts 55 = .ok (.aload_n 0, 1) := by decide +kernel
theorem dX3_fillLeastCosts_56 : decode cX3_fillLeastCosts 56 = .ok (.getfield 27, 3) := by decide +kernel
theorem dX3_fillLeastCosts_59 : decode cX3_fillLeastCosts 59 = .ok (.iload_n 2, 1) := by decide +kernel
theorem dX3_fillLeastCosts_60 : decode cX3_fillLeastCosts 60 = .ok (.bipush 64, 2) := by decide +kernel
theorem dX3_fillLeastCosts_62 : decode cX3_fillLeastCosts 62 = .ok (.imul, 1) := by decide +kernel
theorem dX3_fillLeastCosts_63 : decode cX3_fillLeastCosts 63 = .ok (.iload_n 3, 1) := by decide +kernel
theorem dX3_fillLeastCosts_64 : decode cX3_fillLeastCosts 64 = .ok (.iadd, 1) := by decide +kernel
theorem dX3_fillLeastCosts_65 : decode cX3_fillLeastCosts 65 = .ok (.aload_n 0, 1) := by decide +kernel
theorem dX3_fillLeastCosts_66 : decode cX3_fillLeastCosts 66 = .ok (.iload_n 2, 1) := by decide +kernel
theorem dX3_fillLeastCosts_67 : decode cX3_fillLeastCosts 67 = .ok (.iload_n 3, 1) := by decide +kernel
theorem dX3_fillLeastCosts_68 : decode cX3_fillLeastCosts 68 = .ok (.invokevirtual 71, 3) := by decide +kernel
theorem dX3_fillLeastCosts_71 : decode cX3_fillLeastCosts 71 = .ok (.invokestatic 64, 3) := by decide +kernel
theorem dX3_fillLeastCosts_74 : decode cX3_fillLeastCosts 74 = .ok (.iinc 3 1, 3) := by decide +kernel
theorem dX3_fillLeastCosts_77 : decode cX3_fillLeastCosts 77 = .ok (.goto (-27), 3) := by decide +kernel
theorem dX3_fillLeastCosts_80 : decode cX3_fillLeastCosts 80 = .ok (.iinc 2 (-1), 3) := by decide +kernel
theorem dX3_fillLeastCosts_83 : decode cX3_fillLeastCosts 83 = .ok (.goto (-39), 3) := by decide +kernel
theorem dX3_fillLeastCosts_86 : decode cX3_fillLeastCosts 86 = .ok (.return_, 1) := by decide +kernel
theorem dX3_leastCostFrom_0 : decode cX3_leastCostFrom 0 = .ok (.aload_n 0, 1) := by decide +kernel
theorem dX3_leastCostFrom_1 : decode cX3_leastCostFrom 1 = .ok (.iload_n 1, 1) := by decide +kernel
theorem dX3_leastCostFrom_2 : decode cX3_leastCostFrom 2 = .ok (.iconst (-1), 1) := by decide +kernel
theorem dX3_leastCostFrom_3 : decode cX3_leastCostFrom 3 = .ok (.iload_n 2, 1) := by decide +kernel
theorem dX3_leastCostFrom_4 : decode cX3_leastCostFrom 4 = .ok (.invokevirtual 74, 3) := by decide +kernel
theorem dX3_leastCostFrom_7 : decode cX3_leastCostFrom 7 = .ok (.istore_n 3, 1) := by decide +kernel
theorem dX3_leastCostFrom_8 : decode cX3_leastCostFrom 8 = .ok (.iload_n 2, 1) := by decide +kernel
theorem dX3_leastCostFrom_9 : decode cX3_leastCostFrom 9 = .ok (.aload_n 0, 1) := by decide +kernel
theorem dX3_leastCostFrom_10 : decode cX3_leastCostFrom 10 = .ok (.getfield 15, 3) := by decide +kernel
theorem dX3_leastCostFrom_13 : decode cX3_leastCostFrom 13 = .ok (.iload_n 1, 1) := by decide +kernel
theorem dX3_leastCostFrom_14 : decode cX3_leastCostFrom 14 = .ok (.iconst 0, 1) := by decide +kernel
theorem dX3_leastCostFrom_15 : decode cX3_leastCostFrom 15 = .ok (.invokestatic 46, 3) := by decide +kernel
theorem dX3_leastCostFrom_18 : decode cX3_leastCostFrom 18 = .ok (.iand, 1) := by decide +kernel
theorem dX3_leastCostFrom_19 : decode cX3_leastCostFrom 19 = .ok (.istore 4, 2) := by decide +kernel
theorem dX3_leastCostFrom_21 : decode cX3_leastCostFrom 21 = .ok (.iconst 0, 1) := by decide +kernel
theorem dX3_leastCostFrom_22 : decode cX3_leastCostFrom 22 = .ok (.istore 5, 2) := by decide +kernel
theorem dX3_leastCostFrom_24 : decode cX3_leastCostFrom 24 = .ok (.iload 5, 2) := by decide +kernel
theorem dX3_leastCostFrom_26 : decode cX3_leastCostFrom 26 = .ok (.aload_n 0, 1) := by decide +kernel
theorem dX3_leastCostFrom_27 : decode cX3_leastCostFrom 27 = .ok (.getfield 30, 3) := by decide +kernel
theorem dX3_leastCostFrom_30 : decode cX3_leastCostFrom 30 = .ok (.if_icmp .ge 32, 3) := by decide +kernel
theorem dX3_leastCostFrom_33 : decode cX3_leastCostFrom 33 = .ok (.iload 4, 2) := by decide +kernel
theorem dX3_leastCostFrom_35 : decode cX3_leastCostFrom 35 = .ok (.iload 5, 2) := by decide +kernel
theorem dX3_leastCostFrom_37 : decode cX3_leastCostFrom 37 = .ok (.invokestatic 54, 3) := by decide +kernel
theorem dX3_leastCostFrom_40 : decode cX3_leastCostFrom 40 = .ok (.ifCond .eq 16, 3) := by decide +kernel
theorem dX3_leastCostFrom_43 : decode cX3_leastCostFrom 43 = .ok (.iload_n 3, 1) := by decide +kernel
theorem dX3_leastCostFrom_44 : decode cX3_leastCostFrom 44 = .ok (.aload_n 0, 1) := by decide +kernel
theorem dX3_leastCostFrom_45 : decode cX3_leastCostFrom 45 = .ok (.iload_n 1, 1) := by decide +kernel
theorem dX3_leastCostFrom_46 : decode cX3_leastCostFrom 46 = .ok (.iload 5, 2) := by decide +kernel
theorem dX3_leastCostFrom_48 : decode cX3_leastCostFrom 48 = .ok (.iload_n 2, 1) := by decide +kernel
theorem dX3_leastCostFrom_49 : decode cX3_leastCostFrom 49 = .ok (.invokevirtual 74, 3) := by decide +kernel
theorem dX3_leastCostFrom_52 : decode cX3_leastCostFrom 52 = .ok (.invokestatic 37, 3) := by decide +kernel
theorem dX3_leastCostFrom_55 : decode cX3_leastCostFrom 55 = .ok (.istore_n 3, 1) := by decide +kernel
theorem dX3_leastCostFrom_56 : decode cX3_leastCostFrom 56 = .ok (.iinc 5 1, 3) := by decide +kernel
theorem dX3_leastCostFrom_59 : decode cX3_leastCostFrom 59 = .ok (.goto (-35), 3) := by decide +kernel
theorem dX3_leastCostFrom_62 : decode cX3_leastCostFrom 62 = .ok (.iload_n 3, 1) := by decide +kernel
theorem dX3_leastCostFrom_63 : decode cX3_leastCostFrom 63 = .ok (.ireturn, 1) := by decide +kernel
theorem dX3_lowestOfLeastCost_0 : decode cX3_lowestOfLeastCost 0 = .ok (.aload_n 0, 1) := by decide +kernel
theorem dX3_lowestOfLeastCost_1 : decode cX3_lowestOfLeastCost 1 = .ok (.getfield 27, 3) := by decide +kernel
theorem dX3_lowestOfLeastCost_4 : decode cX3_lowestOfLeastCost 4 = .ok (.iload_n 1, 1) := by decide +kernel
theorem dX3_lowestOfLeastCost_5 : decode cX3_lowestOfLeastCost 5 = .ok (.bipush 64, 2) := by decide +kernel
theorem dX3_lowestOfLeastCost_7 : decode cX3_lowestOfLeastCost 7 = .ok (.imul, 1) := by decide +kernel
theorem dX3_lowestOfLeastCost_8 : decode cX3_lowestOfLeastCost 8 = .ok (.iload_n 2, 1) := by decide +kernel
theorem dX3_lowestOfLeastCost_9 : decode cX3_lowestOfLeastCost 9 = .ok (.iadd, 1) := by decide +kernel
theorem dX3_lowestOfLeastCost_10 : decode cX3_lowestOfLeastCost 10 = .ok (.iconst 0, 1) := by decide +kernel
theorem dX3_lowestOfLeastCost_11 : decode cX3_lowestOfLeastCost 11 = .ok (.invokestatic 46, 3) := by decide +kernel
theorem dX3_lowestOfLeastCost_14 : decode cX3_lowestOfLeastCost 14 = .ok (.istore_n 3, 1) := by decide +kernel
theorem dX3_lowestOfLeastCost_15 : decode cX3_lowestOfLeastCost 15 = .ok (.iload_n 2, 1) := by decide +kernel
theorem dX3_lowestOfLeastCost_16 : decode cX3_lowestOfLeastCost 16 = .ok (.aload_n 0, 1) := by decide +kernel
theorem dX3_lowestOfLeastCost_17 : decode cX3_lowestOfLeastCost 17 = .ok (.getfield 15, 3) := by decide +kernel
theorem dX3_lowestOfLeastCost_20 : decode cX3_lowestOfLeastCost 20 = .ok (.iload_n 1, 1) := by decide +kernel
theorem dX3_lowestOfLeastCost_21 : decode cX3_lowestOfLeastCost 21 = .ok (.iconst 0, 1) := by decide +kernel
theorem dX3_lowestOfLeastCost_22 : decode cX3_lowestOfLeastCost 22 = .ok (.invokestatic 46, 3) := by decide +kernel
theorem dX3_lowestOfLeastCost_25 : decode cX3_lowestOfLeastCost 25 = .ok (.iand, 1) := by decide +kernel
theorem dX3_lowestOfLeastCost_26 : decode cX3_lowestOfLeastCost 26 = .ok (.istore 4, 2) := by decide +kernel
theorem dX3_lowestOfLeastCost_28 : decode cX3_lowestOfLeastCost 28 = .ok (.iconst 0, 1) := by decide +kernel
theorem dX3_lowestOfLeastCost_29 : decode cX3_lowestOfLeastCost 29 = .ok (.istore 5, 2) := by decide +kernel
theorem dX3_lowestOfLeastCost_31 : decode cX3_lowestOfLeastCost 31 = .ok (.iload 5, 2) := by decide +kernel
theorem dX3_lowestOfLeastCost_33 : decode cX3_lowestOfLeastCost 33 = .ok (.aload_n 0, 1) := by decide +kernel
theorem dX3_lowestOfLeastCost_34 : decode cX3_lowestOfLeastCost 34 = .ok (.getfield 30, 3) := by decide +kernel
theorem dX3_lowestOfLeastCost_37 : decode cX3_lowestOfLeastCost 37 = .ok (.if_icmp .ge 34, 3) := by decide +kernel
theorem dX3_lowestOfLeastCost_40 : decode cX3_lowestOfLeastCost 40 = .ok (.iload 4, 2) := by decide +kernel
theorem dX3_lowestOfLeastCost_42 : decode cX3_lowestOfLeastCost 42 = .ok (.iload 5, 2) := by decide +kernel
theorem dX3_lowestOfLeastCost_44 : decode cX3_lowestOfLeastCost 44 = .ok (.invokestatic 54, 3) := by decide +kernel
theorem dX3_lowestOfLeastCost_47 : decode cX3_lowestOfLeastCost 47 = .ok (.ifCond .eq 18, 3) := by decide +kernel
theorem dX3_lowestOfLeastCost_50 : decode cX3_lowestOfLeastCost 50 = .ok (.aload_n 0, 1) := by decide +kernel
theorem dX3_lowestOfLeastCost_51 : decode cX3_lowestOfLeastCost 51 = .ok (.iload_n 1, 1) := by decide +kernel
theorem dX3_lowestOfLeastCost_52 : decode cX3_lowestOfLeastCost 52 = .ok (.iload 5, 2) := by decide +kernel
theorem dX3_lowestOfLeastCost_54 : decode cX3_lowestOfLeastCost 54 = .ok (.iload_n 2, 1) := by decide +kernel
theorem dX3_lowestOfLeastCost_55 : decode cX3_lowestOfLeastCost 55 = .ok (.invokevirtual 74, 3) := by decide +kernel
theorem dX3_lowestOfLeastCost_58 : decode cX3_lowestOfLeastCost 58 = .ok (.iload_n 3, 1) := by decide +kernel
theorem dX3_lowestOfLeastCost_59 : decode cX3_lowestOfLeastCost 59 = .ok (.if_icmp .ne 6, 3) := by decide +kernel
theorem dX3_lowestOfLeastCost_62 : decode cX3_lowestOfLeastCost 62 = .ok (.iload 5, 2) := by decide +kernel
theorem dX3_lowestOfLeastCost_64 : decode cX3_lowestOfLeastCost 64 = .ok (.ireturn, 1) := by decide +kernel
theorem dX3_lowestOfLeastCost_65 : decode cX3_lowestOfLeastCost 65 = .ok (.iinc 5 1, 3) := by decide +kernel
theorem dX3_lowestOfLeastCost_68 : decode cX3_lowestOfLeastCost 68 = .ok (.goto (-37), 3) := by decide +kernel
theorem dX3_lowestOfLeastCost_71 : decode cX3_lowestOfLeastCost 71 = .ok (.iconst (-1), 1) := by decide +kernel
theorem dX3_lowestOfLeastCost_72 : decode cX3_lowestOfLeastCost 72 = .ok (.ireturn, 1) := by decide +kernel
theorem dX3_costWith_0 : decode cX3_costWith 0 = .ok (.aload_n 0, 1) := by decide +kernel
theorem dX3_costWith_1 : decode cX3_costWith 1 = .ok (.getfield 27, 3) := by decide +kernel
theorem dX3_costWith_4 : decode cX3_costWith 4 = .ok (.iload_n 1, 1) := by decide +kernel
theorem dX3_costWith_5 : decode cX3_costWith 5 = .ok (.iconst 1, 1) := by decide +kernel
theorem dX3_costWith_6 : decode cX3_costWith 6 = .ok (.iadd, 1) := by decide +kernel
theorem dX3_costWith_7 : decode cX3_costWith 7 = .ok (.bipush 64, 2) := by decide +kernel
theorem dX3_costWith_9 : decode cX3_costWith 9 = .ok (.imul, 1) := by decide +kernel
theorem dX3_costWith_10 : decode cX3_costWith 10 = .ok (.iload_n 3, 1) := by decide +kernel
theorem dX3_costWith_11 : decode cX3_costWith 11 = .ok (.iload_n 2, 1) := by decide +kernel
theorem dX3_costWith_12 : decode cX3_costWith 12 = .ok (.invokestatic 68, 3) := by decide +kernel
theorem dX3_costWith_15 : decode cX3_costWith 15 = .ok (.iadd, 1) := by decide +kernel
theorem dX3_costWith_16 : decode cX3_costWith 16 = .ok (.iconst 0, 1) := by decide +kernel
theorem dX3_costWith_17 : decode cX3_costWith 17 = .ok (.invokestatic 46, 3) := by decide +kernel
theorem dX3_costWith_20 : decode cX3_costWith 20 = .ok (.istore 4, 2) := by decide +kernel
theorem dX3_costWith_22 : decode cX3_costWith 22 = .ok (.iload_n 2, 1) := by decide +kernel
theorem dX3_costWith_23 : decode cX3_costWith 23 = .ok (.iconst (-1), 1) := by decide +kernel
theorem dX3_costWith_24 : decode cX3_costWith 24 = .ok (.if_icmp .ne 19, 3) := by decide +kernel
theorem dX3_costWith_27 : decode cX3_costWith 27 = .ok (.iload 4, 2) := by decide +kernel
theorem dX3_costWith_29 : decode cX3_costWith 29 = .ok (.aload_n 0, 1) := by decide +kernel
theorem dX3_costWith_30 : decode cX3_costWith 30 = .ok (.getfield 9, 3) := by decide +kernel
theorem dX3_costWith_33 : decode cX3_costWith 33 = .ok (.iload_n 1, 1) := by decide +kernel
theorem dX3_costWith_34 : decode cX3_costWith 34 = .ok (.iconst 0, 1) := by decide +kernel
theorem dX3_costWith_35 : decode cX3_costWith 35 = .ok (.invokestatic 46, 3) := by decide +kernel
theorem dX3_costWith_38 : decode cX3_costWith 38 = .ok (.bipush 7, 2) := by decide +kernel
theorem dX3_costWith_40 : decode cX3_costWith 40 = .ok (.imul, 1) := by decide +kernel
theorem dX3_costWith_41 : decode cX3_costWith 41 = .ok (.iadd, 1) := by decide +kernel
theorem dX3_costWith_42 : decode cX3_costWith 42 = .ok (.ireturn, 1) := by decide +kernel
theorem dX3_costWith_43 : decode cX3_costWith 43 = .ok (.aload_n 0, 1) := by decide +kernel
theorem dX3_costWith_44 : decode cX3_costWith 44 = .ok (.getfield 18, 3) := by decide +kernel
theorem dX3_costWith_47 : decode cX3_costWith 47 = .ok (.iload_n 1, 1) := by decide +kernel
theorem dX3_costWith_48 : decode cX3_costWith 48 = .ok (.iconst 0, 1) := by decide +kernel
theorem dX3_costWith_49 : decode cX3_costWith 49 = .ok (.invokestatic 46, 3) := by decide +kernel
theorem dX3_costWith_52 : decode cX3_costWith 52 = .ok (.iload_n 2, 1) := by decide +kernel
theorem dX3_costWith_53 : decode cX3_costWith 53 = .ok (.invokestatic 54, 3) := by decide +kernel
theorem dX3_costWith_56 : decode cX3_costWith 56 = .ok (.ifCond .eq 10, 3) := by decide +kernel
theorem dX3_costWith_59 : decode cX3_costWith 59 = .ok (.iload 4, 2) := by decide +kernel
theorem dX3_costWith_61 : decode cX3_costWith 61 = .ok (.iconst 1, 1) := by decide +kernel
theorem dX3_costWith_62 : decode cX3_costWith 62 = .ok (.isub, 1) := by decide +kernel
theorem dX3_costWith_63 : decode cX3_costWith 63 = .ok (.goto 5, 3) := by decide +kernel
theorem dX3_costWith_66 : decode cX3_costWith 66 = .ok (.iload 4, 2) := by decide +kernel
theorem dX3_costWith_68 : decode cX3_costWith 68 = .ok (.ireturn, 1) := by decide +kernel
theorem dX3_without_0 : decode cX3_without 0 = .ok (.iload_n 1, 1) := by decide +kernel
theorem dX3_without_1 : decode cX3_without 1 = .ok (.iconst (-1), 1) := by decide +kernel
theorem dX3_without_2 : decode cX3_without 2 = .ok (.if_icmp .ne 7, 3) := by decide +kernel
theorem dX3_without_5 : decode cX3_without 5 = .ok (.iload_n 0, 1) := by decide +kernel
theorem dX3_without_6 : decode cX3_without 6 = .ok (.goto 10, 3) := by decide +kernel
theorem dX3_without_9 : decode cX3_without 9 = .ok (.iload_n 0, 1) := by decide +kernel
theorem dX3_without_10 : decode cX3_without 10 = .ok (.iconst 1, 1) := by decide +kernel
theorem dX3_without_11 : decode cX3_without 11 = .ok (.iload_n 1, 1) := by decide +kernel
theorem dX3_without_12 : decode cX3_without 12 = .ok (.ishl, 1) := by decide +kernel
theorem dX3_without_13 : decode cX3_without 13 = .ok (.iconst (-1), 1) := by decide +kernel
theorem dX3_without_14 : decode cX3_without 14 = .ok (.ixor, 1) := by decide +kernel
theorem dX3_without_15 : decode cX3_without 15 = .ok (.iand, 1) := by decide +kernel
theorem dX3_without_16 : decode cX3_without 16 = .ok (.ireturn, 1) := by decide +kernel
theorem dX3_allocateByAll_0 : decode cX3_allocateByAll 0 = .ok (.aload_n 0, 1) := by decide +kernel
theorem dX3_allocateByAll_1 : decode cX3_allocateByAll 1 = .ok (.getfield 24, 3) := by decide +kernel
theorem dX3_allocateByAll_4 : decode cX3_allocateByAll 4 = .ok (.aload_n 0, 1) := by decide +kernel
theorem dX3_allocateByAll_5 : decode cX3_allocateByAll 5 = .ok (.invokevirtual 78, 3) := by decide +kernel
theorem dX3_allocateByAll_8 : decode cX3_allocateByAll 8 = .ok (.invokestatic 82, 3) := by decide +kernel
theorem dX3_allocateByAll_11 : decode cX3_allocateByAll 11 = .ok (.aload_n 0, 1) := by decide +kernel
theorem dX3_allocateByAll_12 : decode cX3_allocateByAll 12 = .ok (.getfield 21, 3) := by decide +kernel
theorem dX3_allocateByAll_15 : decode cX3_allocateByAll 15 = .ok (.iconst (-1), 1) := by decide +kernel
theorem dX3_allocateByAll_16 : decode cX3_allocateByAll 16 = .ok (.invokestatic 82, 3) := by decide +kernel
theorem dX3_allocateByAll_19 : decode cX3_allocateByAll 19 = .ok (.aload_n 0, 1) := by decide +kernel
theorem dX3_allocateByAll_20 : decode cX3_allocateByAll 20 = .ok (.invokevirtual 88, 3) := by decide +kernel
theorem dX3_allocateByAll_23 : decode cX3_allocateByAll 23 = .ok (.istore_n 1, 1) := by decide +kernel
theorem dX3_allocateByAll_24 : decode cX3_allocateByAll 24 = .ok (.iconst 0, 1) := by decide +kernel
theorem dX3_allocateByAll_25 : decode cX3_allocateByAll 25 = .ok (.istore_n 2, 1) := by decide +kernel
theorem dX3_allocateByAll_26 : decode cX3_allocateByAll 26 = .ok (.iload_n 2, 1) := by decide +kernel
theorem dX3_allocateByAll_27 : decode cX3_allocateByAll 27 = .ok (.iload_n 1, 1) := by decide +kernel
theorem dX3_allocateByAll_28 : decode cX3_allocateByAll 28 = .ok (.if_icmp .ge 45, 3) := by decide +kernel
theorem dX3_allocateByAll_31 : decode cX3_allocateByAll 31 = .ok (.aload_n 0, 1) := by decide +kernel
theorem dX3_allocateByAll_32 : decode cX3_allocateByAll 32 = .ok (.invokevirtual 91, 3) := by decide +kernel
theorem dX3_allocateByAll_35 : decode cX3_allocateByAll 35 = .ok (.ifCond .eq 28, 3) := by decide +kernel
theorem dX3_allocateByAll_38 : decode cX3_allocateByAll 38 = .ok (.aload_n 0, 1) := by decide +kernel
theorem dX3_allocateByAll_39 : decode cX3_allocateByAll 39 = .ok (.invokevirtual 95, 3) := by decide +kernel
theorem dX3_allocateByAll_42 : decode cX3_allocateByAll 42 = .ok (.ifCond .eq 21, 3) := by decide +kernel
theorem dX3_allocateByAll_45 : decode cX3_allocateByAll 45 = .ok (.aload_n 0, 1) := by decide +kernel
theorem dX3_allocateByAll_46 : decode cX3_allocateByAll 46 = .ok (.getfield 24, 3) := by decide +kernel
theorem dX3_allocateByAll_49 : decode cX3_allocateByAll 49 = .ok (.iconst 0, 1) := by decide +kernel
theorem dX3_allocateByAll_50 : decode cX3_allocateByAll 50 = .ok (.aload_n 0, 1) := by decide +kernel
theorem dX3_allocateByAll_51 : decode cX3_allocateByAll 51 = .ok (.getfield 21, 3) := by decide +kernel
theorem dX3_allocateByAll_54 : decode cX3_allocateByAll 54 = .ok (.iconst 0, 1) := by decide +kernel
theorem dX3_allocateByAll_55 : decode cX3_allocateByAll 55 = .ok (.aload_n 0, 1) := by decide +kernel
theorem dX3_allocateByAll_56 : decode cX3_allocateByAll 56 = .ok (.getfield 21, 3) := by decide +kernel
theorem dX3_allocateByAll_59 : decode cX3_allocateByAll 59 = .ok (.arraylength, 1) := by decide +kernel
theorem dX3_allocateByAll_60 : decode cX3_allocateByAll 60 = .ok (.invokestatic 98, 3) := by decide +kernel
theorem dX3_allocateByAll_63 : decode cX3_allocateByAll 63 = .ok (.aload_n 0, 1) := by decide +kernel
theorem dX3_allocateByAll_64 : decode cX3_allocateByAll 64 = .ok (.invokevirtual 104, 3) := by decide +kernel
theorem dX3_allocateByAll_67 : decode cX3_allocateByAll 67 = .ok (.iinc 2 1, 3) := by decide +kernel
theorem dX3_allocateByAll_70 : decode cX3_allocateByAll 70 = .ok (.goto (-44), 3) := by decide +kernel
theorem dX3_allocateByAll_73 : decode cX3_allocateByAll 73 = .ok (.return_, 1) := by decide +kernel
theorem dX3_howManyTrials_0 : decode cX3_howManyTrials 0 = .ok (.iconst 1, 1) := by decide +kernel
theorem dX3_howManyTrials_1 : decode cX3_howManyTrials 1 = .ok (.istore_n 1, 1) := by decide +kernel
theorem dX3_howManyTrials_2 : decode cX3_howManyTrials 2 = .ok (.iconst 0, 1) := by decide +kernel
theorem dX3_howManyTrials_3 : decode cX3_howManyTrials 3 = .ok (.istore_n 2, 1) := by decide +kernel
theorem dX3_howManyTrials_4 : decode cX3_howManyTrials 4 = .ok (.iload_n 2, 1) := by decide +kernel
theorem dX3_howManyTrials_5 : decode cX3_howManyTrials 5 = .ok (.aload_n 0, 1) := by decide +kernel
theorem dX3_howManyTrials_6 : decode cX3_howManyTrials 6 = .ok (.getfield 34, 3) := by decide +kernel
theorem dX3_howManyTrials_9 : decode cX3_howManyTrials 9 = .ok (.if_icmp .ge 18, 3) := by decide +kernel
theorem dX3_howManyTrials_12 : decode cX3_howManyTrials 12 = .ok (.iload_n 1, 1) := by decide +kernel
theorem dX3_howManyTrials_13 : decode cX3_howManyTrials 13 = .ok (.aload_n 0, 1) := by decide +kernel
theorem dX3_howManyTrials_14 : decode cX3_howManyTrials 14 = .ok (.getfield 30, 3) := by decide +kernel
theorem dX3_howManyTrials_17 : decode cX3_howManyTrials 17 = .ok (.iconst 1, 1) := by decide +kernel
theorem dX3_howManyTrials_18 : decode cX3_howManyTrials 18 = .ok (.iadd, 1) := by decide +kernel
theorem dX3_howManyTrials_19 : decode cX3_howManyTrials 19 = .ok (.imul, 1) := by decide +kernel
theorem dX3_howManyTrials_20 : decode cX3_howManyTrials 20 = .ok (.istore_n 1, 1) := by decide +kernel
theorem dX3_howManyTrials_21 : decode cX3_howManyTrials 21 = .ok (.iinc 2 1, 3) := by decide +kernel
theorem dX3_howManyTrials_24 : decode cX3_howManyTrials 24 = .ok (.goto (-20), 3) := by decide +kernel
theorem dX3_howManyTrials_27 : decode cX3_howManyTrials 27 = .ok (.iload_n 1, 1) := by decide +kernel
theorem dX3_howManyTrials_28 : decode cX3_howManyTrials 28 = .ok (.ireturn, 1) := by decide +kernel
theorem dX3_stepTrial_0 : decode cX3_stepTrial 0 = .ok (.aload_n 0, 1) := by decide +kernel
theorem dX3_stepTrial_1 : decode cX3_stepTrial 1 = .ok (.getfield 34, 3) := by decide +kernel
theorem dX3_stepTrial_4 : decode cX3_stepTrial 4 = .ok (.iconst 1, 1) := by decide +kernel
theorem dX3_stepTrial_5 : decode cX3_stepTrial 5 = .ok (.isub, 1) := by decide +kernel
theorem dX3_stepTrial_6 : decode cX3_stepTrial 6 = .ok (.istore_n 1, 1) := by decide +kernel
theorem dX3_stepTrial_7 : decode cX3_stepTrial 7 = .ok (.iload_n 1, 1) := by decide +kernel
theorem dX3_stepTrial_8 : decode cX3_stepTrial 8 = .ok (.ifCond .lt 62, 3) := by decide +kernel
theorem dX3_stepTrial_11 : decode cX3_stepTrial 11 = .ok (.aload_n 0, 1) := by decide +kernel
theorem dX3_stepTrial_12 : decode cX3_stepTrial 12 = .ok (.getfield 24, 3) := by decide +kernel
theorem dX3_stepTrial_15 : decode cX3_stepTrial 15 = .ok (.iload_n 1, 1) := by decide +kernel
theorem dX3_stepTrial_16 : decode cX3_stepTrial 16 = .ok (.iconst (-1), 1) := by decide +kernel
theorem dX3_stepTrial_17 : decode cX3_stepTrial 17 = .ok (.invokestatic 46, 3) := by decide +kernel
theorem dX3_stepTrial_20 : decode cX3_stepTrial 20 = .ok (.istore_n 2, 1) := by decide +kernel
theorem dX3_stepTrial_21 : decode cX3_stepTrial 21 = .ok (.iload_n 2, 1) := by decide +kernel
theorem dX3_stepTrial_22 : decode cX3_stepTrial 22 = .ok (.iconst (-1), 1) := by decide +kernel
theorem dX3_stepTrial_23 : decode cX3_stepTrial 23 = .ok (.if_icmp .eq 29, 3) := by decide +kernel
theorem dX3_stepTrial_26 : decode cX3_stepTrial 26 = .ok (.aload_n 0, 1) := by decide +kernel
theorem dX3_stepTrial_27 : decode cX3_stepTrial 27 = .ok (.getfield 24, 3) := by decide +kernel
theorem dX3_stepTrial_30 : decode cX3_stepTrial 30 = .ok (.iload_n 1, 1) := by decide +kernel
theorem dX3_stepTrial_31 : decode cX3_stepTrial 31 = .ok (.iload_n 2, 1) := by decide +kernel
theorem dX3_stepTrial_32 : decode cX3_stepTrial 32 = .ok (.iconst 1, 1) := by decide +kernel
theorem dX3_stepTrial_33 : decode cX3_stepTrial 33 = .ok (.iadd, 1) := by decide +kernel
theorem dX3_stepTrial_34 : decode cX3_stepTrial 34 = .ok (.aload_n 0, 1) := by decide +kernel
theorem dX3_stepTrial_35 : decode cX3_stepTrial 35 = .ok (.getfield 30, 3) := by decide +kernel
theorem dX3_stepTrial_38 : decode cX3_stepTrial 38 = .ok (.if_icmp .ge 9, 3) := by decide +kernel
theorem dX3_stepTrial_41 : decode cX3_stepTrial 41 = .ok (.iload_n 2, 1) := by decide +kernel
theorem dX3_stepTrial_42 : decode cX3_stepTrial 42 = .ok (.iconst 1, 1) := by decide +kernel
theorem dX3_stepTrial_43 : decode cX3_stepTrial 43 = .ok (.iadd, 1) := by decide +kernel
theorem dX3_stepTrial_44 : decode cX3_stepTrial 44 = .ok (.goto 4, 3) := by decide +kernel
theorem dX3_stepTrial_47 : decode cX3_stepTrial 47 = .ok (.iconst (-1), 1) := by decide +kernel
theorem dX3_stepTrial_48 : decode cX3_stepTrial 48 = .ok (.invokestatic 64, 3) := by decide +kernel
theorem dX3_stepTrial_51 : decode cX3_stepTrial 51 = .ok (.return_, 1) := by decide +kernel
theorem dX3_stepTrial_52 : decode cX3_stepTrial 52 = .ok (.aload_n 0, 1) := by decide +kernel
theorem dX3_stepTrial_53 : decode cX3_stepTrial 53 = .ok (.getfield 24, 3) := by decide +kernel
theorem dX3_stepTrial_56 : decode cX3_stepTrial 56 = .ok (.iload_n 1, 1) := by decide +kernel
theorem dX3_stepTrial_57 : decode cX3_stepTrial 57 = .ok (.aload_n 0, 1) := by decide +kernel
theorem dX3_stepTrial_58 : decode cX3_stepTrial 58 = .ok (.invokevirtual 78, 3) := by decide +kernel
theorem dX3_stepTrial_61 : decode cX3_stepTrial 61 = .ok (.invokestatic 64, 3) := by decide +kernel
theorem dX3_stepTrial_64 : decode cX3_stepTrial 64 = .ok (.iinc 1 (-1), 3) := by decide +kernel
theorem dX3_stepTrial_67 : decode cX3_stepTrial 67 = .ok (.goto (-60), 3) := by decide +kernel
theorem dX3_stepTrial_70 : decode cX3_stepTrial 70 = .ok (.return_, 1) := by decide +kernel
theorem dX3_firstChoice_0 : decode cX3_firstChoice 0 = .ok (.aload_n 0, 1) := by decide +kernel
theorem dX3_firstChoice_1 : decode cX3_firstChoice 1 = .ok (.getfield 30, 3) := by decide +kernel
theorem dX3_firstChoice_4 : decode cX3_firstChoice 4 = .ok (.ifCond .ne 7, 3) := by decide +kernel
theorem dX3_firstChoice_7 : decode cX3_firstChoice 7 = .ok (.iconst (-1), 1) := by decide +kernel
theorem dX3_firstChoice_8 : decode cX3_firstChoice 8 = .ok (.goto 4, 3) := by decide +kernel
theorem dX3_firstChoice_11 : decode cX3_firstChoice 11 = .ok (.iconst 0, 1) := by decide +kernel
theorem dX3_firstChoice_12 : decode cX3_firstChoice 12 = .ok (.ireturn, 1) := by decide +kernel
theorem dX3_trialIsAllowed_0 : decode cX3_trialIsAllowed 0 = .ok (.iconst 0, 1) := by decide +kernel
theorem dX3_trialIsAllowed_1 : decode cX3_trialIsAllowed 1 = .ok (.istore_n 1, 1) := by decide +kernel
theorem dX3_trialIsAllowed_2 : decode cX3_trialIsAllowed 2 = .ok (.iconst 0, 1) := by decide +kernel
theorem dX3_trialIsAllowed_3 : decode cX3_trialIsAllowed 3 = .ok (.istore_n 2, 1) := by decide +kernel
theorem dX3_trialIsAllowed_4 : decode cX3_trialIsAllowed 4 = .ok (.iload_n 2, 1) := by decide +kernel
theorem dX3_trialIsAllowed_5 : decode cX3_trialIsAllowed 5 = .ok (.aload_n 0, 1) := by decide +kernel
theorem dX3_trialIsAllowed_6 : decode cX3_trialIsAllowed 6 = .ok (.getfield 34, 3) := by decide +kernel
theorem dX3_trialIsAllowed_9 : decode cX3_trialIsAllowed 9 = .ok (.if_icmp .ge 56, 3) := by decide +kernel
theorem dX3_trialIsAllowed_12 : decode cX3_trialIsAllowed 12 = .ok (.aload_n 0, 1) := by decide +kernel
theorem dX3_trialIsAllowed_13 : decode cX3_trialIsAllowed 13 = .ok (.getfield 24, 3) := by decide +kernel
theorem dX3_trialIsAllowed_16 : decode cX3_trialIsAllowed 16 = .ok (.iload_n 2, 1) := by decide +kernel
theorem dX3_trialIsAllowed_17 : decode cX3_trialIsAllowed 17 = .ok (.iconst (-1), 1) := by decide +kernel
theorem dX3_trialIsAllowed_18 : decode cX3_trialIsAllowed 18 = .ok (.invokestatic 46, 3) := by decide +kernel
theorem dX3_trialIsAllowed_21 : decode cX3_trialIsAllowed 21 = .ok (.istore_n 3, 1) := by decide +kernel
theorem dX3_trialIsAllowed_22 : decode cX3_trialIsAllowed 22 = .ok (.iload_n 3, 1) := by decide +kernel
theorem dX3_trialIsAllowed_23 : decode cX3_trialIsAllowed 23 = .ok (.iconst (-1), 1) := by decide +kernel
theorem dX3_trialIsAllowed_24 : decode cX3_trialIsAllowed 24 = .ok (.if_icmp .eq 35, 3) := by decide +kernel
theorem dX3_trialIsAllowed_27 : decode cX3_trialIsAllowed 27 = .ok (.iload_n 1, 1) := by decide +kernel
theorem dX3_trialIsAllowed_28 : decode cX3_trialIsAllowed 28 = .ok (.iload_n 3, 1) := by decide +kernel
theorem dX3_trialIsAllowed_29 : decode cX3_trialIsAllowed 29 = .ok (.invokestatic 54, 3) := by decide +kernel
theorem dX3_trialIsAllowed_32 : decode cX3_trialIsAllowed 32 = .ok (.ifCond .ne 19, 3) := by decide +kernel
theorem dX3_trialIsAllowed_35 : decode cX3_trialIsAllowed 35 = .ok (.aload_n 0, 1) := by decide +kernel
theorem dX3_trialIsAllowed_36 : decode cX3_trialIsAllowed 36 = .ok (.getfield 15, 3) := by decide +kernel
theorem dX3_trialIsAllowed_39 : decode cX3_trialIsAllowed 39 = .ok (.iload_n 2, 1) := by decide +kernel
theorem dX3_trialIsAllowed_40 : decode cX3_trialIsAllowed 40 = .ok (.iconst 0, 1) := by decide +kernel
theorem dX3_trialIsAllowed_41 : decode cX3_trialIsAllowed 41 = .ok (.invokestatic 46, 3) := by decide +kernel
theorem dX3_trialIsAllowed_44 : decode cX3_trialIsAllowed 44 = .ok (.iload_n 3, 1) := by decide +kernel
theorem dX3_trialIsAllowed_45 : decode cX3_trialIsAllowed 45 = .ok (.invokestatic 54, 3) := by decide +kernel
theorem dX3_trialIsAllowed_48 : decode cX3_trialIsAllowed 48 = .ok (.ifCond .ne 5, 3) := by decide +kernel
theorem dX3_trialIsAllowed_51 : decode cX3_trialIsAllowed 51 = .ok (.iconst 0, 1) := by decide +kernel
theorem dX3_trialIsAllowed_52 : decode cX3_trialIsAllowed 52 = .ok (.ireturn, 1) := by decide +kernel
theorem dX3_trialIsAllowed_53 : decode cX3_trialIsAllowed 53 = .ok (.iload_n 1, 1) := by decide +kernel
theorem dX3_trialIsAllowed_54 : decode cX3_trialIsAllowed 54 = .ok (.iconst 1, 1) := by decide +kernel
theorem dX3_trialIsAllowed_55 : decode cX3_trialIsAllowed 55 = .ok (.iload_n 3, 1) := by decide +kernel
theorem dX3_trialIsAllowed_56 : decode cX3_trialIsAllowed 56 = .ok (.ishl, 1) := by decide +kernel
theorem dX3_trialIsAllowed_57 : decode cX3_trialIsAllowed 57 = .ok (.ior, 1) := by decide +kernel
theorem dX3_trialIsAllowed_58 : decode cX3_trialIsAllowed 58 = .ok (.istore_n 1, 1) := by decide +kernel
theorem dX3_trialIsAllowed_59 : decode cX3_trialIsAllowed 59 = .ok (.iinc 2 1, 3) := by decide +kernel
theorem dX3_trialIsAllowed_62 : decode cX3_trialIsAllowed 62 = .ok (.goto (-58), 3) := by decide +kernel
theorem dX3_trialIsAllowed_65 : decode cX3_trialIsAllowed 65 = .ok (.iconst 1, 1) := by decide +kernel
theorem dX3_trialIsAllowed_66 : decode cX3_trialIsAllowed 66 = .ok (.ireturn, 1) := by decide +kernel
theorem dX3_trialIsBetter_0 : decode cX3_trialIsBetter 0 = .ok (.aload_n 0, 1) := by decide +kernel
theorem dX3_trialIsBetter_1 : decode cX3_trialIsBetter 1 = .ok (.aload_n 0, 1) := by decide +kernel
theorem dX3_trialIsBetter_2 : decode cX3_trialIsBetter 2 = .ok (.getfield 24, 3) := by decide +kernel
theorem dX3_trialIsBetter_5 : decode cX3_trialIsBetter 5 = .ok (.invokevirtual 50, 3) := by decide +kernel
theorem dX3_trialIsBetter_8 : decode cX3_trialIsBetter 8 = .ok (.istore_n 1, 1) := by decide +kernel
theorem dX3_trialIsBetter_9 : decode cX3_trialIsBetter 9 = .ok (.aload_n 0, 1) := by decide +kernel
theorem dX3_trialIsBetter_10 : decode cX3_trialIsBetter 10 = .ok (.aload_n 0, 1) := by decide +kernel
theorem dX3_trialIsBetter_11 : decode cX3_trialIsBetter 11 = .ok (.getfield 21, 3) := by decide +kernel
theorem dX3_trialIsBetter_14 : decode cX3_trialIsBetter 14 = .ok (.invokevirtual 50, 3) := by decide +kernel
theorem dX3_trialIsBetter_17 : decode cX3_trialIsBetter 17 = .ok (.istore_n 2, 1) := by decide +kernel
theorem dX3_trialIsBetter_18 : decode cX3_trialIsBetter 18 = .ok (.iload_n 1, 1) := by decide +kernel
theorem dX3_trialIsBetter_19 : decode cX3_trialIsBetter 19 = .ok (.iload_n 2, 1) := by decide +kernel
theorem dX3_trialIsBetter_20 : decode cX3_trialIsBetter 20 = .ok (.if_icmp .lt 27, 3) := by decide +kernel
theorem dX3_trialIsBetter_23 : decode cX3_trialIsBetter 23 = .ok (.iload_n 1, 1) := by decide +kernel
theorem dX3_trialIsBetter_24 : decode cX3_trialIsBetter 24 = .ok (.iload_n 2, 1) := by decide +kernel
theorem dX3_trialIsBetter_25 : decode cX3_trialIsBetter 25 = .ok (.if_icmp .ne 26, 3) := by decide +kernel
theorem dX3_trialIsBetter_28 : decode cX3_trialIsBetter 28 = .ok (.aload_n 0, 1) := by decide +kernel
theorem dX3_trialIsBetter_29 : decode cX3_trialIsBetter 29 = .ok (.aload_n 0, 1) := by decide +kernel
theorem dX3_trialIsBetter_30 : decode cX3_trialIsBetter 30 = .ok (.getfield 24, 3) := by decide +kernel
theorem dX3_trialIsBetter_33 : decode cX3_trialIsBetter 33 = .ok (.invokevirtual 107, 3) := by decide +kernel
theorem dX3_trialIsBetter_36 : decode cX3_trialIsBetter 36 = .ok (.aload_n 0, 1) := by decide +kernel
theorem dX3_trialIsBetter_37 : decode cX3_trialIsBetter 37 = .ok (.aload_n 0, 1) := by decide +kernel
theorem dX3_trialIsBetter_38 : decode cX3_trialIsBetter 38 = .ok (.getfield 21, 3) := by decide +kernel
theorem dX3_trialIsBetter_41 : decode cX3_trialIsBetter 41 = .ok (.invokevirtual 107, 3) := by decide +kernel
theorem dX3_trialIsBetter_44 : decode cX3_trialIsBetter 44 = .ok (.if_icmp .le 7, 3) := by decide +kernel
theorem dX3_trialIsBetter_47 : decode cX3_trialIsBetter 47 = .ok (.iconst 1, 1) := by decide +kernel
theorem dX3_trialIsBetter_48 : decode cX3_trialIsBetter 48 = .ok (.goto 4, 3) := by decide +kernel
theorem dX3_trialIsBetter_51 : decode cX3_trialIsBetter 51 = .ok (.iconst 0, 1) := by decide +kernel
theorem dX3_trialIsBetter_52 : decode cX3_trialIsBetter 52 = .ok (.ireturn, 1) := by decide +kernel
theorem dX4_init_0 : decode cX4_init 0 = .ok (.aload_n 0, 1) := by decide +kernel
theorem dX4_init_1 : decode cX4_init 1 = .ok (.invokespecial 3, 3) := by decide +kernel
theorem dX4_init_4 : decode cX4_init 4 = .ok (.aload_n 0, 1) := by decide +kernel
theorem dX4_init_5 : decode cX4_init 5 = .ok (.sipush 1200, 3) := by decide +kernel
theorem dX4_init_8 : decode cX4_init 8 = .ok (.newarray .int, 2) := by decide +kernel
theorem dX4_init_10 : decode cX4_init 10 = .ok (.putfield 9, 3) := by decide +kernel
theorem dX4_init_13 : decode cX4_init 13 = .ok (.aload_n 0, 1) := by decide +kernel
theorem dX4_init_14 : decode cX4_init 14 = .ok (.getfield 9, 3) := by decide +kernel
theorem dX4_init_17 : decode cX4_init 17 = .ok (.iconst (-1), 1) := by decide +kernel
theorem dX4_init_18 : decode cX4_init 18 = .ok (.invokestatic 15, 3) := by decide +kernel
theorem dX4_init_21 : decode cX4_init 21 = .ok (.return_, 1) := by decide +kernel
theorem dX4_record_0 : decode cX4_record 0 = .ok (.iload_n 2, 1) := by decide +kernel
theorem dX4_record_1 : decode cX4_record 1 = .ok (.bipush 6, 2) := by decide +kernel
theorem dX4_record_3 : decode cX4_record 3 = .ok (.imul, 1) := by decide +kernel
theorem dX4_record_4 : decode cX4_record 4 = .ok (.iload_n 1, 1) := by decide +kernel
theorem dX4_record_5 : decode cX4_record 5 = .ok (.iadd, 1) := by decide +kernel
theorem dX4_record_6 : decode cX4_record 6 = .ok (.istore 4, 2) := by decide +kernel
theorem dX4_record_8 : decode cX4_record 8 = .ok (.iload 4, 2) := by decide +kernel
theorem dX4_record_10 : decode cX4_record 10 = .ok (.ifCond .lt 21, 3) := by decide +kernel
theorem dX4_record_13 : decode cX4_record 13 = .ok (.iload 4, 2) := by decide +kernel
theorem dX4_record_15 : decode cX4_record 15 = .ok (.aload_n 0, 1) := by decide +kernel
theorem dX4_record_16 : decode cX4_record 16 = .ok (.getfield 9, 3) := by decide +kernel
theorem dX4_record_19 : decode cX4_record 19 = .ok (.arraylength, 1) := by decide +kernel
theorem dX4_record_20 : decode cX4_record 20 = .ok (.if_icmp .ge 11, 3) := by decide +kernel
theorem dX4_record_23 : decode cX4_record 23 = .ok (.aload_n 0, 1) := by decide +kernel
theorem dX4_record_24 : decode cX4_record 24 = .ok (.getfield 9, 3) := by decide +kernel
theorem dX4_record_27 : decode cX4_record 27 = .ok (.iload 4, 2) := by decide +kernel
theorem dX4_record_29 : decode cX4_record 29 = .ok (.iload_n 3, 1) := by decide +kernel
theorem dX4_record_30 : decode cX4_record 30 = .ok (.iastore, 1) := by decide +kernel
theorem dX4_record_31 : decode cX4_record 31 = .ok (.return_, 1) := by decide +kernel
theorem dX4_unitThatRan_0 : decode cX4_unitThatRan 0 = .ok (.iload_n 2, 1) := by decide +kernel
theorem dX4_unitThatRan_1 : decode cX4_unitThatRan 1 = .ok (.bipush 6, 2) := by decide +kernel
theorem dX4_unitThatRan_3 : decode cX4_unitThatRan 3 = .ok (.imul, 1) := by decide +kernel
theorem dX4_unitThatRan_4 : decode cX4_unitThatRan 4 = .ok (.iload_n 1, 1) := by decide +kernel
theorem dX4_unitThatRan_5 : decode cX4_unitThatRan 5 = .ok (.iadd, 1) := by decide +kernel
theorem dX4_unitThatRan_6 : decode cX4_unitThatRan 6 = .ok (.istore_n 3, 1) := by decide +kernel
theorem dX4_unitThatRan_7 : decode cX4_unitThatRan 7 = .ok (.iload_n 3, 1) := by decide +kernel
theorem dX4_unitThatRan_8 : decode cX4_unitThatRan 8 = .ok (.ifCond .lt 21, 3) := by decide +kernel
theorem dX4_unitThatRan_11 : decode cX4_unitThatRan 11 = .ok (.iload_n 3, 1) := by decide +kernel
theorem dX4_unitThatRan_12 : decode cX4_unitThatRan 12 = .ok (.aload_n 0, 1) := by decide +kernel
theorem dX4_unitThatRan_13 : decode cX4_unitThatRan 13 = .ok (.getfield 9, 3) := by decide +kernel
theorem dX4_unitThatRan_16 : decode cX4_unitThatRan 16 = .ok (.arraylength, 1) := by decide +kernel
theorem dX4_unitThatRan_17 : decode cX4_unitThatRan 17 = .ok (.if_icmp .ge 12, 3) := by decide +kernel
theorem dX4_unitThatRan_20 : decode cX4_unitThatRan 20 = .ok (.aload_n 0, 1) := by decide +kernel
theorem dX4_unitThatRan_21 : decode cX4_unitThatRan 21 = .ok (.getfield 9, 3) := by decide +kernel
theorem dX4_unitThatRan_24 : decode cX4_unitThatRan 24 = .ok (.iload_n 3, 1) := by decide +kernel
theorem dX4_unitThatRan_25 : decode cX4_unitThatRan 25 = .ok (.iaload, 1) := by decide +kernel
theorem dX4_unitThatRan_26 : decode cX4_unitThatRan 26 = .ok (.goto 4, 3) := by decide +kernel
theorem dX4_unitThatRan_29 : decode cX4_unitThatRan 29 = .ok (.iconst (-1), 1) := by decide +kernel
theorem dX4_unitThatRan_30 : decode cX4_unitThatRan 30 = .ok (.ireturn, 1) := by decide +kernel
theorem dX4_timesThatRan_0 : decode cX4_timesThatRan 0 = .ok (.iconst 0, 1) := by decide +kernel
theorem dX4_timesThatRan_1 : decode cX4_timesThatRan 1 = .ok (.istore_n 3, 1) := by decide +kernel
theorem dX4_timesThatRan_2 : decode cX4_timesThatRan 2 = .ok (.iconst 0, 1) := by decide +kernel
theorem dX4_timesThatRan_3 : decode cX4_timesThatRan 3 = .ok (.istore 4, 2) := by decide +kernel
theorem dX4_timesThatRan_5 : decode cX4_timesThatRan 5 = .ok (.iload 4, 2) := by decide +kernel
theorem dX4_timesThatRan_7 : decode cX4_timesThatRan 7 = .ok (.sipush 200, 3) := by decide +kernel
theorem dX4_timesThatRan_10 : decode cX4_timesThatRan 10 = .ok (.if_icmp .ge 23, 3) := by decide +kernel
theorem dX4_timesThatRan_13 : decode cX4_timesThatRan 13 = .ok (.aload_n 0, 1) := by decide +kernel
theorem dX4_timesThatRan_14 : decode cX4_timesThatRan 14 = .ok (.iload_n 1, 1) := by decide +kernel
theorem dX4_timesThatRan_15 : decode cX4_timesThatRan 15 = .ok (.iload 4, 2) := by decide +kernel
theorem dX4_timesThatRan_17 : decode cX4_timesThatRan 17 = .ok (.invokevirtual 21, 3) := by decide +kernel
theorem dX4_timesThatRan_20 : decode cX4_timesThatRan 20 = .ok (.iload_n 2, 1) := by decide +kernel
theorem dX4_timesThatRan_21 : decode cX4_timesThatRan 21 = .ok (.if_icmp .ne 6, 3) := by decide +kernel
theorem dX4_timesThatRan_24 : decode cX4_timesThatRan 24 = .ok (.iinc 3 1, 3) := by decide +kernel
theorem dX4_timesThatRan_27 : decode cX4_timesThatRan 27 = .ok (.iinc 4 1, 3) := by decide +kernel
theorem dX4_timesThatRan_30 : decode cX4_timesThatRan 30 = .ok (.goto (-25), 3) := by decide +kernel
theorem dX4_timesThatRan_33 : decode cX4_timesThatRan 33 = .ok (.iload_n 3, 1) := by decide +kernel
theorem dX4_timesThatRan_34 : decode cX4_timesThatRan 34 = .ok (.ireturn, 1) := by decide +kernel
theorem dX5_init_0 : decode cX5_init 0 = .ok (.aload_n 0, 1) := by decide +kernel
theorem dX5_init_1 : decode cX5_init 1 = .ok (.invokespecial 3, 3) := by decide +kernel
theorem dX5_init_4 : decode cX5_init 4 = .ok (.aload_n 0, 1) := by decide +kernel
theorem dX5_init_5 : decode cX5_init 5 = .ok (.iconst (-1), 1) := by decide +kernel
theorem dX5_init_6 : decode cX5_init 6 = .ok (.putfield 9, 3) := by decide +kernel
theorem dX5_init_9 : decode cX5_init 9 = .ok (.aload_n 0, 1) := by decide +kernel
theorem dX5_init_10 : decode cX5_init 10 = .ok (.iconst 0, 1) := by decide +kernel
theorem dX5_init_11 : decode cX5_init 11 = .ok (.putfield 15, 3) := by decide +kernel
theorem dX5_init_14 : decode cX5_init 14 = .ok (.return_, 1) := by decide +kernel
theorem dX5_forbids_0 : decode cX5_forbids 0 = .ok (.aload_n 0, 1) := by decide +kernel
theorem dX5_forbids_1 : decode cX5_forbids 1 = .ok (.getfield 9, 3) := by decide +kernel
theorem dX5_forbids_4 : decode cX5_forbids 4 = .ok (.iconst (-1), 1) := by decide +kernel
theorem dX5_forbids_5 : decode cX5_forbids 5 = .ok (.if_icmp .eq 19, 3) := by decide +kernel
theorem dX5_forbids_8 : decode cX5_forbids 8 = .ok (.iload_n 1, 1) := by decide +kernel
theorem dX5_forbids_9 : decode cX5_forbids 9 = .ok (.aload_n 0, 1) := by decide +kernel
theorem dX5_forbids_10 : decode cX5_forbids 10 = .ok (.getfield 9, 3) := by decide +kernel
theorem dX5_forbids_13 : decode cX5_forbids 13 = .ok (.if_icmp .gt 11, 3) := by decide +kernel
theorem dX5_forbids_16 : decode cX5_forbids 16 = .ok (.iload_n 2, 1) := by decide +kernel
theorem dX5_forbids_17 : decode cX5_forbids 17 = .ok (.aload_n 0, 1) := by decide +kernel
theorem dX5_forbids_18 : decode cX5_forbids 18 = .ok (.getfield 15, 3) := by decide +kernel
theorem dX5_forbids_21 : decode cX5_forbids 21 = .ok (.if_icmp .le 7, 3) := by decide +kernel
theorem dX5_forbids_24 : decode cX5_forbids 24 = .ok (.iconst 1, 1) := by decide +kernel
theorem dX5_forbids_25 : decode cX5_forbids 25 = .ok (.goto 4, 3) := by decide +kernel
theorem dX5_forbids_28 : decode cX5_forbids 28 = .ok (.iconst 0, 1) := by decide +kernel
theorem dX5_forbids_29 : decode cX5_forbids 29 = .ok (.ireturn, 1) := by decide +kernel
theorem dX6_init_0 : decode cX6_init 0 = .ok (.aload_n 0, 1) := by decide +kernel
theorem dX6_init_1 : decode cX6_init 1 = .ok (.invokespecial 3, 3) := by decide +kernel
theorem dX6_init_4 : decode cX6_init 4 = .ok (.aload_n 0, 1) := by decide +kernel
theorem dX6_init_5 : decode cX6_init 5 = .ok (.bipush 6, 2) := by decide +kernel
theorem dX6_init_7 : decode cX6_init 7 = .ok (.newarray .int, 2) := by decide +kernel
theorem dX6_init_9 : decode cX6_init 9 = .ok (.putfield 9, 3) := by decide +kernel
theorem dX6_init_12 : decode cX6_init 12 = .ok (.aload_n 0, 1) := by decide +kernel
theorem dX6_init_13 : decode cX6_init 13 = .ok (.iconst 0, 1) := by decide +kernel
theorem dX6_init_14 : decode cX6_init 14 = .ok (.putfield 15, 3) := by decide +kernel
theorem dX6_init_17 : decode cX6_init 17 = .ok (.return_, 1) := by decide +kernel
theorem dX6_come_0 : decode cX6_come 0 = .ok (.aload_n 0, 1) := by decide +kernel
theorem dX6_come_1 : decode cX6_come 1 = .ok (.getfield 15, 3) := by decide +kernel
theorem dX6_come_4 : decode cX6_come 4 = .ok (.ifCond .lt 35, 3) := by decide +kernel
theorem dX6_come_7 : decode cX6_come 7 = .ok (.aload_n 0, 1) := by decide +kernel
theorem dX6_come_8 : decode cX6_come 8 = .ok (.getfield 15, 3) := by decide +kernel
theorem dX6_come_11 : decode cX6_come 11 = .ok (.aload_n 0, 1) := by decide +kernel
theorem dX6_come_12 : decode cX6_come 12 = .ok (.getfield 9, 3) := by decide +kernel
theorem dX6_come_15 : decode cX6_come 15 = .ok (.arraylength, 1) := by decide +kernel
theorem dX6_come_16 : decode cX6_come 16 = .ok (.if_icmp .ge 23, 3) := by decide +kernel
theorem dX6_come_19 : decode cX6_come 19 = .ok (.aload_n 0, 1) := by decide +kernel
theorem dX6_come_20 : decode cX6_come 20 = .ok (.getfield 9, 3) := by decide +kernel
theorem dX6_come_23 : decode cX6_come 23 = .ok (.aload_n 0, 1) := by decide +kernel
theorem dX6_come_24 : decode cX6_come 24 = .ok (.getfield 15, 3) := by decide +kernel
theorem dX6_come_27 : decode cX6_come 27 = .ok (.iload_n 1, 1) := by decide +kernel
theorem dX6_come_28 : decode cX6_come 28 = .ok (.iastore, 1) := by decide +kernel
theorem dX6_come_29 : decode cX6_come 29 = .ok (.aload_n 0, 1) := by decide +kernel
theorem dX6_come_30 : decode cX6_come 30 = .ok (.dup, 1) := by decide +kernel
theorem dX6_come_31 : decode cX6_come 31 = .ok (.getfield 15, 3) := by decide +kernel
theorem dX6_come_34 : decode cX6_come 34 = .ok (.iconst 1, 1) := by decide +kernel
theorem dX6_come_35 : decode cX6_come 35 = .ok (.iadd, 1) := by decide +kernel
theorem dX6_come_36 : decode cX6_come 36 = .ok (.putfield 15, 3) := by decide +kernel
theorem dX6_come_39 : decode cX6_come 39 = .ok (.return_, 1) := by decide +kernel
theorem dX6_leave_0 : decode cX6_leave 0 = .ok (.iconst 0, 1) := by decide +kernel
theorem dX6_leave_1 : decode cX6_leave 1 = .ok (.istore_n 2, 1) := by decide +kernel
theorem dX6_leave_2 : decode cX6_leave 2 = .ok (.iconst 0, 1) := by decide +kernel
theorem dX6_leave_3 : decode cX6_leave 3 = .ok (.istore_n 3, 1) := by decide +kernel
theorem dX6_leave_4 : decode cX6_leave 4 = .ok (.iload_n 3, 1) := by decide +kernel
theorem dX6_leave_5 : decode cX6_leave 5 = .ok (.aload_n 0, 1) := by decide +kernel
theorem dX6_leave_6 : decode cX6_leave 6 = .ok (.getfield 15, 3) := by decide +kernel
theorem dX6_leave_9 : decode cX6_leave 9 = .ok (.if_icmp .ge 52, 3) := by decide +kernel
theorem dX6_leave_12 : decode cX6_leave 12 = .ok (.iload_n 3, 1) := by decide +kernel
theorem dX6_leave_13 : decode cX6_leave 13 = .ok (.aload_n 0, 1) := by decide +kernel
theorem dX6_leave_14 : decode cX6_leave 14 = .ok (.getfield 9, 3) := by decide +kernel
theorem dX6_leave_17 : decode cX6_leave 17 = .ok (.arraylength, 1) := by decide +kernel
theorem dX6_leave_18 : decode cX6_leave 18 = .ok (.if_icmp .ge 43, 3) := by decide +kernel
theorem dX6_leave_21 : decode cX6_leave 21 = .ok (.aload_n 0, 1) := by decide +kernel
theorem dX6_leave_22 : decode cX6_leave 22 = .ok (.getfield 9, 3) := by decide +kernel
theorem dX6_leave_25 : decode cX6_leave 25 = .ok (.iload_n 3, 1) := by decide +kernel
theorem dX6_leave_26 : decode cX6_leave 26 = .ok (.iaload, 1) := by decide +kernel
theorem dX6_leave_27 : decode cX6_leave 27 = .ok (.istore 4, 2) := by decide +kernel
theorem dX6_leave_29 : decode cX6_leave 29 = .ok (.iload 4, 2) := by decide +kernel
theorem dX6_leave_31 : decode cX6_leave 31 = .ok (.iload_n 1, 1) := by decide +kernel
theorem dX6_leave_32 : decode cX6_leave 32 = .ok (.if_icmp .eq 23, 3) := by decide +kernel
theorem dX6_leave_35 : decode cX6_leave 35 = .ok (.iload_n 2, 1) := by decide +kernel
theorem dX6_leave_36 : decode cX6_leave 36 = .ok (.aload_n 0, 1) := by decide +kernel
theorem dX6_leave_37 : decode cX6_leave 37 = .ok (.getfield 9, 3) := by decide +kernel
theorem dX6_leave_40 : decode cX6_leave 40 = .ok (.arraylength, 1) := by decide +kernel
theorem dX6_leave_41 : decode cX6_leave 41 = .ok (.if_icmp .ge 14, 3) := by decide +kernel
theorem dX6_leave_44 : decode cX6_leave 44 = .ok (.aload_n 0, 1) := by decide +kernel
theorem dX6_leave_45 : decode cX6_leave 45 = .ok (.getfield 9, 3) := by decide +kernel
theorem dX6_leave_48 : decode cX6_leave 48 = .ok (.iload_n 2, 1) := by decide +kernel
theorem dX6_leave_49 : decode cX6_leave 49 = .ok (.iload 4, 2) := by decide +kernel
theorem dX6_leave_51 : decode cX6_leave 51 = .ok (.iastore, 1) := by decide +kernel
theorem dX6_leave_52 : decode cX6_leave 52 = .ok (.iinc 2 1, 3) := by decide +kernel
theorem dX6_leave_55 : decode cX6_leave 55 = .ok (.iinc 3 1, 3) := by decide +kernel
theorem dX6_leave_58 : decode cX6_leave 58 = .ok (.goto (-54), 3) := by decide +kernel
theorem dX6_leave_61 : decode cX6_leave 61 = .ok (.aload_n 0, 1) := by decide +kernel
theorem dX6_leave_62 : decode cX6_leave 62 = .ok (.iload_n 2, 1) := by decide +kernel
theorem dX6_leave_63 : decode cX6_leave 63 = .ok (.putfield 15, 3) := by decide +kernel
theorem dX6_leave_66 : decode cX6_leave 66 = .ok (.return_, 1) := by decide +kernel
theorem dX6_behind_0 : decode cX6_behind 0 = .ok (.iconst 0, 1) := by decide +kernel
theorem dX6_behind_1 : decode cX6_behind 1 = .ok (.istore_n 2, 1) := by decide +kernel
theorem dX6_behind_2 : decode cX6_behind 2 = .ok (.iload_n 2, 1) := by decide +kernel
theorem dX6_behind_3 : decode cX6_behind 3 = .ok (.aload_n 0, 1) := by decide +kernel
theorem dX6_behind_4 : decode cX6_behind 4 = .ok (.getfield 15, 3) := by decide +kernel
theorem dX6_behind_7 : decode cX6_behind 7 = .ok (.if_icmp .ge 37, 3) := by decide +kernel
theorem dX6_behind_10 : decode cX6_behind 10 = .ok (.iload_n 2, 1) := by decide +kernel
theorem dX6_behind_11 : decode cX6_behind 11 = .ok (.aload_n 0, 1) := by decide +kernel
theorem dX6_behind_12 : decode cX6_behind 12 = .ok (.getfield 9, 3) := by decide +kernel
theorem dX6_behind_15 : decode cX6_behind 15 = .ok (.arraylength, 1) := by decide +kernel
theorem dX6_behind_16 : decode cX6_behind 16 = .ok (.if_icmp .ge 28, 3) := by decide +kernel
theorem dX6_behind_19 : decode cX6_behind 19 = .ok (.aload_n 0, 1) := by decide +kernel
theorem dX6_behind_20 : decode cX6_behind 20 = .ok (.getfield 9, 3) := by decide +kernel
theorem dX6_behind_23 : decode cX6_behind 23 = .ok (.iload_n 2, 1) := by decide +kernel
theorem dX6_behind_24 : decode cX6_behind 24 = .ok (.iaload, 1) := by decide +kernel
theorem dX6_behind_25 : decode cX6_behind 25 = .ok (.iload_n 1, 1) := by decide +kernel
theorem dX6_behind_26 : decode cX6_behind 26 = .ok (.if_icmp .ne 12, 3) := by decide +kernel
theorem dX6_behind_29 : decode cX6_behind 29 = .ok (.aload_n 0, 1) := by decide +kernel
theorem dX6_behind_30 : decode cX6_behind 30 = .ok (.getfield 15, 3) := by decide +kernel
theorem dX6_behind_33 : decode cX6_behind 33 = .ok (.iconst 1, 1) := by decide +kernel
theorem dX6_behind_34 : decode cX6_behind 34 = .ok (.isub, 1) := by decide +kernel
theorem dX6_behind_35 : decode cX6_behind 35 = .ok (.iload_n 2, 1) := by decide +kernel
theorem dX6_behind_36 : decode cX6_behind 36 = .ok (.isub, 1) := by decide +kernel
theorem dX6_behind_37 : decode cX6_behind 37 = .ok (.ireturn, 1) := by decide +kernel
theorem dX6_behind_38 : decode cX6_behind 38 = .ok (.iinc 2 1, 3) := by decide +kernel
theorem dX6_behind_41 : decode cX6_behind 41 = .ok (.goto (-39), 3) := by decide +kernel
theorem dX6_behind_44 : decode cX6_behind 44 = .ok (.iconst 0, 1) := by decide +kernel
theorem dX6_behind_45 : decode cX6_behind 45 = .ok (.ireturn, 1) := by decide +kernel
theorem dX6_fromExit_0 : decode cX6_fromExit 0 = .ok (.aload_n 0, 1) := by decide +kernel
theorem dX6_fromExit_1 : decode cX6_fromExit 1 = .ok (.getfield 15, 3) := by decide +kernel
theorem dX6_fromExit_4 : decode cX6_fromExit 4 = .ok (.iconst 1, 1) := by decide +kernel
theorem dX6_fromExit_5 : decode cX6_fromExit 5 = .ok (.isub, 1) := by decide +kernel
theorem dX6_fromExit_6 : decode cX6_fromExit 6 = .ok (.iload_n 1, 1) := by decide +kernel
theorem dX6_fromExit_7 : decode cX6_fromExit 7 = .ok (.isub, 1) := by decide +kernel
theorem dX6_fromExit_8 : decode cX6_fromExit 8 = .ok (.istore_n 2, 1) := by decide +kernel
theorem dX6_fromExit_9 : decode cX6_fromExit 9 = .ok (.iload_n 2, 1) := by decide +kernel
theorem dX6_fromExit_10 : decode cX6_fromExit 10 = .ok (.ifCond .lt 21, 3) := by decide +kernel
theorem dX6_fromExit_13 : decode cX6_fromExit 13 = .ok (.iload_n 2, 1) := by decide +kernel
theorem dX6_fromExit_14 : decode cX6_fromExit 14 = .ok (.aload_n 0, 1) := by decide +kernel
theorem dX6_fromExit_15 : decode cX6_fromExit 15 = .ok (.getfield 9, 3) := by decide +kernel
theorem dX6_fromExit_18 : decode cX6_fromExit 18 = .ok (.arraylength, 1) := by decide +kernel
theorem dX6_fromExit_19 : decode cX6_fromExit 19 = .ok (.if_icmp .ge 12, 3) := by decide +kernel
theorem dX6_fromExit_22 : decode cX6_fromExit 22 = .ok (.aload_n 0, 1) := by decide +kernel
theorem dX6_fromExit_23 : decode cX6_fromExit 23 = .ok (.getfield 9, 3) := by decide +kernel
theorem dX6_fromExit_26 : decode cX6_fromExit 26 = .ok (.iload_n 2, 1) := by decide +kernel
theorem dX6_fromExit_27 : decode cX6_fromExit 27 = .ok (.iaload, 1) := by decide +kernel
theorem dX6_fromExit_28 : decode cX6_fromExit 28 = .ok (.goto 4, 3) := by decide +kernel
theorem dX6_fromExit_31 : decode cX6_fromExit 31 = .ok (.iconst (-1), 1) := by decide +kernel
theorem dX6_fromExit_32 : decode cX6_fromExit 32 = .ok (.ireturn, 1) := by decide +kernel
theorem dX7_init_0 : decode cX7_init 0 = .ok (.aload_n 0, 1) := by decide +kernel
theorem dX7_init_1 : decode cX7_init 1 = .ok (.invokespecial 3, 3) := by decide +kernel
theorem dX7_init_4 : decode cX7_init 4 = .ok (.aload_n 0, 1) := by decide +kernel
theorem dX7_init_5 : decode cX7_init 5 = .ok (.iconst 3, 1) := by decide +kernel
theorem dX7_init_6 : decode cX7_init 6 = .ok (.anewarray 9, 3) := by decide +kernel
theorem dX7_init_9 : decode cX7_init 9 = .ok (.dup, 1) := by decide +kernel
theorem dX7_init_10 : decode cX7_init 10 = .ok (.iconst 0, 1) := by decide +kernel
theorem dX7_init_11 : decode cX7_init 11 = .ok (.new 9, 3) := by decide +kernel
theorem dX7_init_14 : decode cX7_init 14 = .ok (.dup, 1) := by decide +kernel
theorem dX7_init_15 : decode cX7_init 15 = .ok (.sipush 1000, 3) := by decide +kernel
theorem dX7_init_18 : decode cX7_init 18 = .ok (.bipush 10, 2) := by decide +kernel
theorem dX7_init_20 : decode cX7_init 20 = .ok (.iconst 5, 1) := by decide +kernel
theorem dX7_init_21 : decode cX7_init 21 = .ok (.invokespecial 11, 3) := by decide +kernel
theorem dX7_init_24 : decode cX7_init 24 = .ok (.aastore, 1) := by decide +kernel
theorem dX7_init_25 : decode cX7_init 25 = .ok (.dup, 1) := by decide +kernel
theorem dX7_init_26 : decode cX7_init 26 = .ok (.iconst 1, 1) := by decide +kernel
theorem dX7_init_27 : decode cX7_init 27 = .ok (.new 9, 3) := by decide +kernel
theorem dX7_init_30 : decode cX7_init 30 = .ok (.dup, 1) := by decide +kernel
theorem dX7_init_31 : decode cX7_init 31 = .ok (.sipush 3000, 3) := by decide +kernel
theorem dX7_init_34 : decode cX7_init 34 = .ok (.bipush 10, 2) := by decide +kernel
theorem dX7_init_36 : decode cX7_init 36 = .ok (.bipush 20, 2) := by decide +kernel
theorem dX7_init_38 : decode cX7_init 38 = .ok (.invokespecial 11, 3) := by decide +kernel
theorem dX7_init_41 : decode cX7_init 41 = .ok (.aastore, 1) := by decide +kernel
theorem dX7_init_42 : decode cX7_init 42 = .ok (.dup, 1) := by decide +kernel
theorem dX7_init_43 : decode cX7_init 43 = .ok (.iconst 2, 1) := by decide +kernel
theorem dX7_init_44 : decode cX7_init 44 = .ok (.new 9, 3) := by decide +kernel
theorem dX7_init_47 : decode cX7_init 47 = .ok (.dup, 1) := by decide +kernel
theorem dX7_init_48 : decode cX7_init 48 = .ok (.sipush 9000, 3) := by decide +kernel
theorem dX7_init_51 : decode cX7_init 51 = .ok (.bipush 10, 2) := by decide +kernel
theorem dX7_init_53 : decode cX7_init 53 = .ok (.bipush 60, 2) := by decide +kernel
theorem dX7_init_55 : decode cX7_init 55 = .ok (.invokespecial 11, 3) := by decide +kernel
theorem dX7_init_58 : decode cX7_init 58 = .ok (.aastore, 1) := by decide +kernel
theorem dX7_init_59 : decode cX7_init 59 = .ok (.putfield 14, 3) := by decide +kernel
theorem dX7_init_62 : decode cX7_init 62 = .ok (.aload_n 0, 1) := by decide +kernel
theorem dX7_init_63 : decode cX7_init 63 = .ok (.iconst 4, 1) := by decide +kernel
theorem dX7_init_64 : decode cX7_init 64 = .ok (.anewarray 20, 3) := by decide +kernel
theorem dX7_init_67 : decode cX7_init 67 = .ok (.dup, 1) := by decide +kernel
theorem dX7_init_68 : decode cX7_init 68 = .ok (.iconst 0, 1) := by decide +kernel
theorem dX7_init_69 : decode cX7_init 69 = .ok (.new 20, 3) := by decide +kernel
theorem dX7_init_72 : decode cX7_init 72 = .ok (.dup, 1) := by decide +kernel
theorem dX7_init_73 : decode cX7_init 73 = .ok (.invokespecial 22, 3) := by decide +kernel
theorem dX7_init_76 : decode cX7_init 76 = .ok (.aastore, 1) := by decide +kernel
theorem dX7_init_77 : decode cX7_init 77 = .ok (.dup, 1) := by decide +kernel
theorem dX7_init_78 : decode cX7_init 78 = .ok (.iconst 1, 1) := by decide +kernel
theorem dX7_init_79 : decode cX7_init 79 = .ok (.new 20, 3) := by decide +kernel
theorem dX7_init_82 : decode cX7_init 82 = .ok (.dup, 1) := by decide +kernel
theorem dX7_init_83 : decode cX7_init 83 = .ok (.invokespecial 22, 3) := by decide +kernel
theorem dX7_init_86 : decode cX7_init 86 = .ok (.aastore, 1) := by decide +kernel
theorem dX7_init_87 : decode cX7_init 87 = .ok (.dup, 1) := by decide +kernel
theorem dX7_init_88 : decode cX7_init 88 = .ok (.iconst 2, 1) := by decide +kernel
theorem dX7_init_89 : decode cX7_init 89 = .ok (.new 20, 3) := by decide +kernel
theorem dX7_init_92 : decode cX7_init 92 = .ok (.dup, 1) := by decide +kernel
theorem dX7_init_93 : decode cX7_init 93 = .ok (.invokespecial 22, 3) := by decide +kernel
theorem dX7_init_96 : decode cX7_init 96 = .ok (.aastore, 1) := by decide +kernel
theorem dX7_init_97 : decode cX7_init 97 = .ok (.dup, 1) := by decide +kernel
theorem dX7_init_98 : decode cX7_init 98 = .ok (.iconst 3, 1) := by decide +kernel
theorem dX7_init_99 : decode cX7_init 99 = .ok (.new 20, 3) := by decide +kernel
theorem dX7_init_102 : decode cX7_init 102 = .ok (.dup, 1) := by decide +kernel
theorem dX7_init_103 : decode cX7_init 103 = .ok (.invokespecial 22, 3) := by decide +kernel
theorem dX7_init_106 : decode cX7_init 106 = .ok (.aastore, 1) := by decide +kernel
theorem dX7_init_107 : decode cX7_init 107 = .ok (.putfield 23, 3) := by decide +kernel
theorem dX7_init_110 : decode cX7_init 110 = .ok (.return_, 1) := by decide +kernel
theorem dX7_examAt_0 : decode cX7_examAt 0 = .ok (.iload_n 1, 1) := by decide +kernel
theorem dX7_examAt_1 : decode cX7_examAt 1 = .ok (.ifCond .lt 21, 3) := by decide +kernel
theorem dX7_examAt_4 : decode cX7_examAt 4 = .ok (.iload_n 1, 1) := by decide +kernel
theorem dX7_examAt_5 : decode cX7_examAt 5 = .ok (.aload_n 0, 1) := by decide +kernel
theorem dX7_examAt_6 : decode cX7_examAt 6 = .ok (.getfield 14, 3) := by decide +kernel
theorem dX7_examAt_9 : decode cX7_examAt 9 = .ok (.arraylength, 1) := by decide +kernel
theorem dX7_examAt_10 : decode cX7_examAt 10 = .ok (.if_icmp .ge 12, 3) := by decide +kernel
theorem dX7_examAt_13 : decode cX7_examAt 13 = .ok (.aload_n 0, 1) := by decide +kernel
theorem dX7_examAt_14 : decode cX7_examAt 14 = .ok (.getfield 14, 3) := by decide +kernel
theorem dX7_examAt_17 : decode cX7_examAt 17 = .ok (.iload_n 1, 1) := by decide +kernel
theorem dX7_examAt_18 : decode cX7_examAt 18 = .ok (.aaload, 1) := by decide +kernel
theorem dX7_examAt_19 : decode cX7_examAt 19 = .ok (.goto 4, 3) := by decide +kernel
theorem dX7_examAt_22 : decode cX7_examAt 22 = .ok (.aconst_null, 1) := by decide +kernel
theorem dX7_examAt_23 : decode cX7_examAt 23 = .ok (.astore_n 2, 1) := by decide +kernel
theorem dX7_examAt_24 : decode cX7_examAt 24 = .ok (.aload_n 2, 1) := by decide +kernel
theorem dX7_examAt_25 : decode cX7_examAt 25 = .ok (.ifnonnull 13, 3) := by decide +kernel
theorem dX7_examAt_28 : decode cX7_examAt 28 = .ok (.new 27, 3) := by decide +kernel
theorem dX7_examAt_31 : decode cX7_examAt 31 = .ok (.dup, 1) := by decide +kernel
theorem dX7_examAt_32 : decode cX7_examAt 32 = .ok (.ldc 29, 2) := by decide +kernel
theorem dX7_examAt_34 : decode cX7_examAt 34 = .ok (.invokespecial 31, 3) := by decide +kernel
theorem dX7_examAt_37 : decode cX7_examAt 37 = .ok (.athrow, 1) := by decide +kernel
theorem dX7_examAt_38 : decode cX7_examAt 38 = .ok (.aload_n 2, 1) := by decide +kernel
theorem dX7_examAt_39 : decode cX7_examAt 39 = .ok (.areturn, 1) := by decide +kernel
theorem dX7_permitAt_0 : decode cX7_permitAt 0 = .ok (.iload_n 1, 1) := by decide +kernel
theorem dX7_permitAt_1 : decode cX7_permitAt 1 = .ok (.ifCond .lt 21, 3) := by decide +kernel
theorem dX7_permitAt_4 : decode cX7_permitAt 4 = .ok (.iload_n 1, 1) := by decide +kernel
theorem dX7_permitAt_5 : decode cX7_permitAt 5 = .ok (.aload_n 0, 1) := by decide +kernel
theorem dX7_permitAt_6 : decode cX7_permitAt 6 = .ok (.getfield 23, 3) := by decide +kernel
theorem dX7_permitAt_9 : decode cX7_permitAt 9 = .ok (.arraylength, 1) := by decide +kernel
theorem dX7_permitAt_10 : decode cX7_permitAt 10 = .ok (.if_icmp .ge 12, 3) := by decide +kernel
theorem dX7_permitAt_13 : decode cX7_permitAt 13 = .ok (.aload_n 0, 1) := by decide +kernel
theorem dX7_permitAt_14 : decode cX7_permitAt 14 = .ok (.getfield 23, 3) := by decide +kernel
theorem dX7_permitAt_17 : decode cX7_permitAt 17 = .ok (.iload_n 1, 1) := by decide +kernel
theorem dX7_permitAt_18 : decode cX7_permitAt 18 = .ok (.aaload, 1) := by decide +kernel
theorem dX7_permitAt_19 : decode cX7_permitAt 19 = .ok (.goto 4, 3) := by decide +kernel
theorem dX7_permitAt_22 : decode cX7_permitAt 22 = .ok (.aconst_null, 1) := by decide +kernel
theorem dX7_permitAt_23 : decode cX7_permitAt 23 = .ok (.astore_n 2, 1) := by decide +kernel
theorem dX7_permitAt_24 : decode cX7_permitAt 24 = .ok (.aload_n 2, 1) := by decide +kernel
theorem dX7_permitAt_25 : decode cX7_permitAt 25 = .ok (.ifnonnull 13, 3) := by decide +kernel
theorem dX7_permitAt_28 : decode cX7_permitAt 28 = .ok (.new 27, 3) := by decide +kernel
theorem dX7_permitAt_31 : decode cX7_permitAt 31 = .ok (.dup, 1) := by decide +kernel
theorem dX7_permitAt_32 : decode cX7_permitAt 32 = .ok (.ldc 34, 2) := by decide +kernel
theorem dX7_permitAt_34 : decode cX7_permitAt 34 = .ok (.invokespecial 31, 3) := by decide +kernel
theorem dX7_permitAt_37 : decode cX7_permitAt 37 = .ok (.athrow, 1) := by decide +kernel
theorem dX7_permitAt_38 : decode cX7_permitAt 38 = .ok (.aload_n 2, 1) := by decide +kernel
theorem dX7_permitAt_39 : decode cX7_permitAt 39 = .ok (.areturn, 1) := by decide +kernel
theorem dX7_reasonAgainst_0 : decode cX7_reasonAgainst 0 = .ok (.aload_n 1, 1) := by decide +kernel
theorem dX7_reasonAgainst_1 : decode cX7_reasonAgainst 1 = .ok (.getfield 36, 3) := by decide +kernel
theorem dX7_reasonAgainst_4 : decode cX7_reasonAgainst 4 = .ok (.aload_n 2, 1) := by decide +kernel
theorem dX7_reasonAgainst_5 : decode cX7_reasonAgainst 5 = .ok (.getfield 42, 3) := by decide +kernel
theorem dX7_reasonAgainst_8 : decode cX7_reasonAgainst 8 = .ok (.if_icmp .eq 5, 3) := by decide +kernel
theorem dX7_reasonAgainst_11 : decode cX7_reasonAgainst 11 = .ok (.iconst 1, 1) := by decide +kernel
theorem dX7_reasonAgainst_12 : decode cX7_reasonAgainst 12 = .ok (.ireturn, 1) := by decide +kernel
theorem dX7_reasonAgainst_13 : decode cX7_reasonAgainst 13 = .ok (.aload_n 0, 1) := by decide +kernel
theorem dX7_reasonAgainst_14 : decode cX7_reasonAgainst 14 = .ok (.aload_n 1, 1) := by decide +kernel
theorem dX7_reasonAgainst_15 : decode cX7_reasonAgainst 15 = .ok (.aload_n 2, 1) := by decide +kernel
theorem dX7_reasonAgainst_16 : decode cX7_reasonAgainst 16 = .ok (.getfield 47, 3) := by decide +kernel
theorem dX7_reasonAgainst_19 : decode cX7_reasonAgainst 19 = .ok (.invokevirtual 50, 3) := by decide +kernel
theorem dX7_reasonAgainst_22 : decode cX7_reasonAgainst 22 = .ok (.ifCond .eq 5, 3) := by decide +kernel
theorem dX7_reasonAgainst_25 : decode cX7_reasonAgainst 25 = .ok (.iconst 2, 1) := by decide +kernel
theorem dX7_reasonAgainst_26 : decode cX7_reasonAgainst 26 = .ok (.ireturn, 1) := by decide +kernel
theorem dX7_reasonAgainst_27 : decode cX7_reasonAgainst 27 = .ok (.aload_n 0, 1) := by decide +kernel
theorem dX7_reasonAgainst_28 : decode cX7_reasonAgainst 28 = .ok (.aload_n 1, 1) := by decide +kernel
theorem dX7_reasonAgainst_29 : decode cX7_reasonAgainst 29 = .ok (.aload_n 2, 1) := by decide +kernel
theorem dX7_reasonAgainst_30 : decode cX7_reasonAgainst 30 = .ok (.getfield 54, 3) := by decide +kernel
theorem dX7_reasonAgainst_33 : decode cX7_reasonAgainst 33 = .ok (.iload_n 3, 1) := by decide +kernel
theorem dX7_reasonAgainst_34 : decode cX7_reasonAgainst 34 = .ok (.invokevirtual 57, 3) := by decide +kernel
theorem dX7_reasonAgainst_37 : decode cX7_reasonAgainst 37 = .ok (.ifCond .eq 5, 3) := by decide +kernel
theorem dX7_reasonAgainst_40 : decode cX7_reasonAgainst 40 = .ok (.iconst 3, 1) := by decide +kernel
theorem dX7_reasonAgainst_41 : decode cX7_reasonAgainst 41 = .ok (.ireturn, 1) := by decide +kernel
theorem dX7_reasonAgainst_42 : decode cX7_reasonAgainst 42 = .ok (.aload_n 1, 1) := by decide +kernel
theorem dX7_reasonAgainst_43 : decode cX7_reasonAgainst 43 = .ok (.invokestatic 61, 3) := by decide +kernel
theorem dX7_reasonAgainst_46 : decode cX7_reasonAgainst 46 = .ok (.ifCond .eq 5, 3) := by decide +kernel
theorem dX7_reasonAgainst_49 : decode cX7_reasonAgainst 49 = .ok (.iconst 4, 1) := by decide +kernel
theorem dX7_reasonAgainst_50 : decode cX7_reasonAgainst 50 = .ok (.ireturn, 1) := by decide +kernel
theorem dX7_reasonAgainst_51 : decode cX7_reasonAgainst 51 = .ok (.aload_n 1, 1) := by decide +kernel
theorem dX7_reasonAgainst_52 : decode cX7_reasonAgainst 52 = .ok (.invokestatic 65, 3) := by decide +kernel
theorem dX7_reasonAgainst_55 : decode cX7_reasonAgainst 55 = .ok (.ifCond .eq 7, 3) := by decide +kernel
theorem dX7_reasonAgainst_58 : decode cX7_reasonAgainst 58 = .ok (.iconst 5, 1) := by decide +kernel
theorem dX7_reasonAgainst_59 : decode cX7_reasonAgainst 59 = .ok (.goto 4, 3) := by decide +kernel
theorem dX7_reasonAgainst_62 : decode cX7_reasonAgainst 62 = .ok (.iconst 0, 1) := by decide +kernel
theorem dX7_reasonAgainst_63 : decode cX7_reasonAgainst 63 = .ok (.ireturn, 1) := by decide +kernel
theorem dX7_isSoon_0 : decode cX7_isSoon 0 = .ok (.iconst 0, 1) := by decide +kernel
theorem dX7_isSoon_1 : decode cX7_isSoon 1 = .ok (.istore_n 2, 1) := by decide +kernel
theorem dX7_isSoon_2 : decode cX7_isSoon 2 = .ok (.iload_n 2, 1) := by decide +kernel
theorem dX7_isSoon_3 : decode cX7_isSoon 3 = .ok (.aload_n 0, 1) := by decide +kernel
theorem dX7_isSoon_4 : decode cX7_isSoon 4 = .ok (.getfield 14, 3) := by decide +kernel
theorem dX7_isSoon_7 : decode cX7_isSoon 7 = .ok (.arraylength, 1) := by decide +kernel
theorem dX7_isSoon_8 : decode cX7_isSoon 8 = .ok (.if_icmp .ge 27, 3) := by decide +kernel
theorem dX7_isSoon_11 : decode cX7_isSoon 11 = .ok (.aload_n 0, 1) := by decide +kernel
theorem dX7_isSoon_12 : decode cX7_isSoon 12 = .ok (.iload_n 2, 1) := by decide +kernel
theorem dX7_isSoon_13 : decode cX7_isSoon 13 = .ok (.invokevirtual 68, 3) := by decide +kernel
theorem dX7_isSoon_16 : decode cX7_isSoon 16 = .ok (.aload_n 1, 1) := by decide +kernel
theorem dX7_isSoon_17 : decode cX7_isSoon 17 = .ok (.iload_n 2, 1) := by decide +kernel
theorem dX7_isSoon_18 : decode cX7_isSoon 18 = .ok (.invokevirtual 72, 3) := by decide +kernel
theorem dX7_isSoon_21 : decode cX7_isSoon 21 = .ok (.invokevirtual 76, 3) := by decide +kernel
theorem dX7_isSoon_24 : decode cX7_isSoon 24 = .ok (.ifCond .eq 5, 3) := by decide +kernel
theorem dX7_isSoon_27 : decode cX7_isSoon 27 = .ok (.iconst 1, 1) := by decide +kernel
theorem dX7_isSoon_28 : decode cX7_isSoon 28 = .ok (.ireturn, 1) := by decide +kernel
theorem dX7_isSoon_29 : decode cX7_isSoon 29 = .ok (.iinc 2 1, 3) := by decide +kernel
theorem dX7_isSoon_32 : decode cX7_isSoon 32 = .ok (.goto (-30), 3) := by decide +kernel
theorem dX7_isSoon_35 : decode cX7_isSoon 35 = .ok (.iconst 0, 1) := by decide +kernel
theorem dX7_isSoon_36 : decode cX7_isSoon 36 = .ok (.ireturn, 1) := by decide +kernel
theorem dX7_overdueBits_0 : decode cX7_overdueBits 0 = .ok (.aload_n 0, 1) := by decide +kernel
theorem dX7_overdueBits_1 : decode cX7_overdueBits 1 = .ok (.aload_n 1, 1) := by decide +kernel
theorem dX7_overdueBits_2 : decode cX7_overdueBits 2 = .ok (.iconst 0, 1) := by decide +kernel
theorem dX7_overdueBits_3 : decode cX7_overdueBits 3 = .ok (.invokevirtual 50, 3) := by decide +kernel
theorem dX7_overdueBits_6 : decode cX7_overdueBits 6 = .ok (.ireturn, 1) := by decide +kernel
theorem dX7_overdueBitsBehind_0 : decode cX7_overdueBitsBehind 0 = .ok (.iconst 0, 1) := by decide +kernel
theorem dX7_overdueBitsBehind_1 : decode cX7_overdueBitsBehind 1 = .ok (.istore_n 3, 1) := by decide +kernel
theorem dX7_overdueBitsBehind_2 : decode cX7_overdueBitsBehind 2 = .ok (.iconst 0, 1) := by decide +kernel
theorem dX7_overdueBitsBehind_3 : decode cX7_overdueBitsBehind 3 = .ok (.istore 4, 2) := by decide +kernel
theorem dX7_overdueBitsBehind_5 : decode cX7_overdueBitsBehind 5 = .ok (.iload 4, 2) := by decide +kernel
theorem dX7_overdueBitsBehind_7 : decode cX7_overdueBitsBehind 7 = .ok (.aload_n 0, 1) := by decide +kernel
theorem dX7_overdueBitsBehind_8 : decode cX7_overdueBitsBehind 8 = .ok (.getfield 14, 3) := by decide +kernel
theorem dX7_overdueBitsBehind_11 : decode cX7_overdueBitsBehind 11 = .ok (.arraylength, 1) := by decide +kernel
theorem dX7_overdueBitsBehind_12 : decode cX7_overdueBitsBehind 12 = .ok (.if_icmp .ge 42, 3) := by decide +kernel
theorem dX7_overdueBitsBehind_15 : decode cX7_overdueBitsBehind 15 = .ok (.aload_n 0, 1) := by decide +kernel
theorem dX7_overdueBitsBehind_16 : decode cX7_overdueBitsBehind 16 = .ok (.iload 4, 2) := by decide +kernel
theorem dX7_overdueBitsBehind_18 : decode cX7_overdueBitsBehind 18 = .ok (.invokevirtual 68, 3) := by decide +kernel
theorem dX7_overdueBitsBehind_21 : decode cX7_overdueBitsBehind 21 = .ok (.aload_n 1, 1) := by decide +kernel
theorem dX7_overdueBitsBehind_22 : decode cX7_overdueBitsBehind 22 = .ok (.iload 4, 2) := by decide +kernel
theorem dX7_overdueBitsBehind_24 : decode cX7_overdueBitsBehind 24 = .ok (.invokevirtual 72, 3) := by decide +kernel
theorem dX7_overdueBitsBehind_27 : decode cX7_overdueBitsBehind 27 = .ok (.iload_n 2, 1) := by decide +kernel
theorem dX7_overdueBitsBehind_28 : decode cX7_overdueBitsBehind 28 = .ok (.iadd, 1) := by decide +kernel
theorem dX7_overdueBitsBehind_29 : decode cX7_overdueBitsBehind 29 = .ok (.aload_n 1, 1) := by decide +kernel
theorem dX7_overdueBitsBehind_30 : decode cX7_overdueBitsBehind 30 = .ok (.iload 4, 2) := by decide +kernel
theorem dX7_overdueBitsBehind_32 : decode cX7_overdueBitsBehind 32 = .ok (.invokevirtual 80, 3) := by decide +kernel
theorem dX7_overdueBitsBehind_35 : decode cX7_overdueBitsBehind 35 = .ok (.invokevirtual 83, 3) := by decide +kernel
theorem dX7_overdueBitsBehind_38 : decode cX7_overdueBitsBehind 38 = .ok (.ifCond .eq 10, 3) := by decide +kernel
theorem dX7_overdueBitsBehind_41 : decode cX7_overdueBitsBehind 41 = .ok (.iload_n 3, 1) := by decide +kernel
theorem dX7_overdueBitsBehind_42 : decode cX7_overdueBitsBehind 42 = .ok (.iconst 1, 1) := by decide +kernel
theorem dX7_overdueBitsBehind_43 : decode cX7_overdueBitsBehind 43 = .ok (.iload 4, 2) := by decide +kernel
theorem dX7_overdueBitsBehind_45 : decode cX7_overdueBitsBehind 45 = .ok (.ishl, 1) := by decide +kernel
theorem dX7_overdueBitsBehind_46 : decode cX7_overdueBitsBehind 46 = .ok (.ior, 1) := by decide +kernel
theorem dX7_overdueBitsBehind_47 : decode cX7_overdueBitsBehind 47 = .ok (.istore_n 3, 1) := by decide +kernel
theorem dX7_overdueBitsBehind_48 : decode cX7_overdueBitsBehind 48 = .ok (.iinc 4 1, 3) := by decide +kernel
theorem dX7_overdueBitsBehind_51 : decode cX7_overdueBitsBehind 51 = .ok (.goto (-46), 3) := by decide +kernel
theorem dX7_overdueBitsBehind_54 : decode cX7_overdueBitsBehind 54 = .ok (.iload_n 3, 1) := by decide +kernel
theorem dX7_overdueBitsBehind_55 : decode cX7_overdueBitsBehind 55 = .ok (.ireturn, 1) := by decide +kernel
theorem dX7_listForbids_0 : decode cX7_listForbids 0 = .ok (.iconst 0, 1) := by decide +kernel
theorem dX7_listForbids_1 : decode cX7_listForbids 1 = .ok (.istore 4, 2) := by decide +kernel
theorem dX7_listForbids_3 : decode cX7_listForbids 3 = .ok (.iload 4, 2) := by decide +kernel
theorem dX7_listForbids_5 : decode cX7_listForbids 5 = .ok (.aload_n 1, 1) := by decide +kernel
theorem dX7_listForbids_6 : decode cX7_listForbids 6 = .ok (.getfield 87, 3) := by decide +kernel
theorem dX7_listForbids_9 : decode cX7_listForbids 9 = .ok (.invokevirtual 91, 3) := by decide +kernel
theorem dX7_listForbids_12 : decode cX7_listForbids 12 = .ok (.if_icmp .ge 42, 3) := by decide +kernel
theorem dX7_listForbids_15 : decode cX7_listForbids 15 = .ok (.aload_n 1, 1) := by decide +kernel
theorem dX7_listForbids_16 : decode cX7_listForbids 16 = .ok (.iload 4, 2) := by decide +kernel
theorem dX7_listForbids_18 : decode cX7_listForbids 18 = .ok (.invokevirtual 97, 3) := by decide +kernel
theorem dX7_listForbids_21 : decode cX7_listForbids 21 = .ok (.astore 5, 2) := by decide +kernel
theorem dX7_listForbids_23 : decode cX7_listForbids 23 = .ok (.aload_n 0, 1) := by decide +kernel
theorem dX7_listForbids_24 : decode cX7_listForbids 24 = .ok (.aload 5, 2) := by decide +kernel
theorem dX7_listForbids_26 : decode cX7_listForbids 26 = .ok (.getfield 101, 3) := by decide +kernel
theorem dX7_listForbids_29 : decode cX7_listForbids 29 = .ok (.invokevirtual 106, 3) := by decide +kernel
theorem dX7_listForbids_32 : decode cX7_listForbids 32 = .ok (.iload_n 3, 1) := by decide +kernel
theorem dX7_listForbids_33 : decode cX7_listForbids 33 = .ok (.aload 5, 2) := by decide +kernel
theorem dX7_listForbids_35 : decode cX7_listForbids 35 = .ok (.getfield 110, 3) := by decide +kernel
theorem dX7_listForbids_38 : decode cX7_listForbids 38 = .ok (.isub, 1) := by decide +kernel
theorem dX7_listForbids_39 : decode cX7_listForbids 39 = .ok (.iload_n 2, 1) := by decide +kernel
theorem dX7_listForbids_40 : decode cX7_listForbids 40 = .ok (.invokevirtual 113, 3) := by decide +kernel
theorem dX7_listForbids_43 : decode cX7_listForbids 43 = .ok (.ifCond .eq 5, 3) := by decide +kernel
theorem dX7_listForbids_46 : decode cX7_listForbids 46 = .ok (.iconst 1, 1) := by decide +kernel
theorem dX7_listForbids_47 : decode cX7_listForbids 47 = .ok (.ireturn, 1) := by decide +kernel
theorem dX7_listForbids_48 : decode cX7_listForbids 48 = .ok (.iinc 4 1, 3) := by decide +kernel
theorem dX7_listForbids_51 : decode cX7_listForbids 51 = .ok (.goto (-48), 3) := by decide +kernel
theorem dX7_listForbids_54 : decode cX7_listForbids 54 = .ok (.iconst 0, 1) := by decide +kernel
theorem dX7_listForbids_55 : decode cX7_listForbids 55 = .ok (.ireturn, 1) := by decide +kernel
theorem dX7_faultsAreGrave_0 : decode cX7_faultsAreGrave 0 = .ok (.iconst 0, 1) := by decide +kernel
theorem dX7_faultsAreGrave_1 : decode cX7_faultsAreGrave 1 = .ok (.istore_n 1, 1) := by decide +kernel
theorem dX7_faultsAreGrave_2 : decode cX7_faultsAreGrave 2 = .ok (.iconst 0, 1) := by decide +kernel
theorem dX7_faultsAreGrave_3 : decode cX7_faultsAreGrave 3 = .ok (.istore_n 2, 1) := by decide +kernel
theorem dX7_faultsAreGrave_4 : decode cX7_faultsAreGrave 4 = .ok (.iload_n 2, 1) := by decide +kernel
theorem dX7_faultsAreGrave_5 : decode cX7_faultsAreGrave 5 = .ok (.aload_n 0, 1) := by decide +kernel
theorem dX7_faultsAreGrave_6 : decode cX7_faultsAreGrave 6 = .ok (.getfield 87, 3) := by decide +kernel
theorem dX7_faultsAreGrave_9 : decode cX7_faultsAreGrave 9 = .ok (.invokevirtual 91, 3) := by decide +kernel
theorem dX7_faultsAreGrave_12 : decode cX7_faultsAreGrave 12 = .ok (.if_icmp .ge 35, 3) := by decide +kernel
theorem dX7_faultsAreGrave_15 : decode cX7_faultsAreGrave 15 = .ok (.aload_n 0, 1) := by decide +kernel
theorem dX7_faultsAreGrave_16 : decode cX7_faultsAreGrave 16 = .ok (.iload_n 2, 1) := by decide +kernel
theorem dX7_faultsAreGrave_17 : decode cX7_faultsAreGrave 17 = .ok (.invokevirtual 97, 3) := by decide +kernel
theorem dX7_faultsAreGrave_20 : decode cX7_faultsAreGrave 20 = .ok (.astore_n 3, 1) := by decide +kernel
theorem dX7_faultsAreGrave_21 : decode cX7_faultsAreGrave 21 = .ok (.aload_n 3, 1) := by decide +kernel
theorem dX7_faultsAreGrave_22 : decode cX7_faultsAreGrave 22 = .ok (.invokevirtual 116, 3) := by decide +kernel
theorem dX7_faultsAreGrave_25 : decode cX7_faultsAreGrave 25 = .ok (.ifCond .eq 5, 3) := by decide +kernel
theorem dX7_faultsAreGrave_28 : decode cX7_faultsAreGrave 28 = .ok (.iconst 1, 1) := by decide +kernel
theorem dX7_faultsAreGrave_29 : decode cX7_faultsAreGrave 29 = .ok (.ireturn, 1) := by decide +kernel
theorem dX7_faultsAreGrave_30 : decode cX7_faultsAreGrave 30 = .ok (.aload_n 3, 1) := by decide +kernel
theorem dX7_faultsAreGrave_31 : decode cX7_faultsAreGrave 31 = .ok (.getfield 101, 3) := by decide +kernel
theorem dX7_faultsAreGrave_34 : decode cX7_faultsAreGrave 34 = .ok (.iconst 1, 1) := by decide +kernel
theorem dX7_faultsAreGrave_35 : decode cX7_faultsAreGrave 35 = .ok (.if_icmp .ne 6, 3) := by decide +kernel
theorem dX7_faultsAreGrave_38 : decode cX7_faultsAreGrave 38 = .ok (.iinc 1 1, 3) := by decide +kernel
theorem dX7_faultsAreGrave_41 : decode cX7_faultsAreGrave 41 = .ok (.iinc 2 1, 3) := by decide +kernel
theorem dX7_faultsAreGrave_44 : decode cX7_faultsAreGrave 44 = .ok (.goto (-40), 3) := by decide +kernel
theorem dX7_faultsAreGrave_47 : decode cX7_faultsAreGrave 47 = .ok (.iload_n 1, 1) := by decide +kernel
theorem dX7_faultsAreGrave_48 : decode cX7_faultsAreGrave 48 = .ok (.iconst 2, 1) := by decide +kernel
theorem dX7_faultsAreGrave_49 : decode cX7_faultsAreGrave 49 = .ok (.if_icmp .lt 7, 3) := by decide +kernel
theorem dX7_faultsAreGrave_52 : decode cX7_faultsAreGrave 52 = .ok (.iconst 1, 1) := by decide +kernel
theorem dX7_faultsAreGrave_53 : decode cX7_faultsAreGrave 53 = .ok (.goto 4, 3) := by decide +kernel
theorem dX7_faultsAreGrave_56 : decode cX7_faultsAreGrave 56 = .ok (.iconst 0, 1) := by decide +kernel
theorem dX7_faultsAreGrave_57 : decode cX7_faultsAreGrave 57 = .ok (.ireturn, 1) := by decide +kernel
theorem dX7_axlesAreBad_0 : decode cX7_axlesAreBad 0 = .ok (.aload_n 0, 1) := by decide +kernel
theorem dX7_axlesAreBad_1 : decode cX7_axlesAreBad 1 = .ok (.invokevirtual 120, 3) := by decide +kernel
theorem dX7_axlesAreBad_4 : decode cX7_axlesAreBad 4 = .ok (.istore_n 1, 1) := by decide +kernel
theorem dX7_axlesAreBad_5 : decode cX7_axlesAreBad 5 = .ok (.aload_n 0, 1) := by decide +kernel
theorem dX7_axlesAreBad_6 : decode cX7_axlesAreBad 6 = .ok (.invokevirtual 123, 3) := by decide +kernel
theorem dX7_axlesAreBad_9 : decode cX7_axlesAreBad 9 = .ok (.iload_n 1, 1) := by decide +kernel
theorem dX7_axlesAreBad_10 : decode cX7_axlesAreBad 10 = .ok (.isub, 1) := by decide +kernel
theorem dX7_axlesAreBad_11 : decode cX7_axlesAreBad 11 = .ok (.bipush 6, 2) := by decide +kernel
theorem dX7_axlesAreBad_13 : decode cX7_axlesAreBad 13 = .ok (.if_icmp .gt 10, 3) := by decide +kernel
theorem dX7_axlesAreBad_16 : decode cX7_axlesAreBad 16 = .ok (.iload_n 1, 1) := by decide +kernel
theorem dX7_axlesAreBad_17 : decode cX7_axlesAreBad 17 = .ok (.sipush 800, 3) := by decide +kernel
theorem dX7_axlesAreBad_20 : decode cX7_axlesAreBad 20 = .ok (.if_icmp .ge 7, 3) := by decide +kernel
theorem dX7_axlesAreBad_23 : decode cX7_axlesAreBad 23 = .ok (.iconst 1, 1) := by decide +kernel
theorem dX7_axlesAreBad_24 : decode cX7_axlesAreBad 24 = .ok (.goto 4, 3) := by decide +kernel
theorem dX7_axlesAreBad_27 : decode cX7_axlesAreBad 27 = .ok (.iconst 0, 1) := by decide +kernel
theorem dX7_axlesAreBad_28 : decode cX7_axlesAreBad 28 = .ok (.ireturn, 1) := by decide +kernel
theorem dX8_init_0 : decode cX8_init 0 = .ok (.aload_n 0, 1) := by decide +kernel
theorem dX8_init_1 : decode cX8_init 1 = .ok (.invokespecial 3, 3) := by decide +kernel
theorem dX8_init_4 : decode cX8_init 4 = .ok (.aload_n 0, 1) := by decide +kernel
theorem dX8_init_5 : decode cX8_init 5 = .ok (.new 9, 3) := by decide +kernel
theorem dX8_init_8 : decode cX8_init 8 = .ok (.dup, 1) := by decide +kernel
theorem dX8_init_9 : decode cX8_init 9 = .ok (.invokespecial 11, 3) := by decide +kernel
theorem dX8_init_12 : decode cX8_init 12 = .ok (.putfield 12, 3) := by decide +kernel
theorem dX8_init_15 : decode cX8_init 15 = .ok (.aload_n 0, 1) := by decide +kernel
theorem dX8_init_16 : decode cX8_init 16 = .ok (.iconst 3, 1) := by decide +kernel
theorem dX8_init_17 : decode cX8_init 17 = .ok (.newarray .int, 2) := by decide +kernel
theorem dX8_init_19 : decode cX8_init 19 = .ok (.putfield 18, 3) := by decide +kernel
theorem dX8_init_22 : decode cX8_init 22 = .ok (.aload_n 0, 1) := by decide +kernel
theorem dX8_init_23 : decode cX8_init 23 = .ok (.iconst 3, 1) := by decide +kernel
theorem dX8_init_24 : decode cX8_init 24 = .ok (.newarray .int, 2) := by decide +kernel
theorem dX8_init_26 : decode cX8_init 26 = .ok (.putfield 22, 3) := by decide +kernel
theorem dX8_init_29 : decode cX8_init 29 = .ok (.aload_n 0, 1) := by decide +kernel
theorem dX8_init_30 : decode cX8_init 30 = .ok (.iconst 4, 1) := by decide +kernel
theorem dX8_init_31 : decode cX8_init 31 = .ok (.newarray .int, 2) := by decide +kernel
theorem dX8_init_33 : decode cX8_init 33 = .ok (.putfield 25, 3) := by decide +kernel
theorem dX8_init_36 : decode cX8_init 36 = .ok (.aload_n 0, 1) := by decide +kernel
theorem dX8_init_37 : decode cX8_init 37 = .ok (.iload_n 1, 1) := by decide +kernel
theorem dX8_init_38 : decode cX8_init 38 = .ok (.putfield 28, 3) := by decide +kernel
theorem dX8_init_41 : decode cX8_init 41 = .ok (.aload_n 0, 1) := by decide +kernel
theorem dX8_init_42 : decode cX8_init 42 = .ok (.iload_n 2, 1) := by decide +kernel
theorem dX8_init_43 : decode cX8_init 43 = .ok (.putfield 32, 3) := by decide +kernel
theorem dX8_init_46 : decode cX8_init 46 = .ok (.aload_n 0, 1) := by decide +kernel
theorem dX8_init_47 : decode cX8_init 47 = .ok (.iload_n 2, 1) := by decide +kernel
theorem dX8_init_48 : decode cX8_init 48 = .ok (.putfield 35, 3) := by decide +kernel
theorem dX8_init_51 : decode cX8_init 51 = .ok (.aload_n 0, 1) := by decide +kernel
theorem dX8_init_52 : decode cX8_init 52 = .ok (.getfield 25, 3) := by decide +kernel
theorem dX8_init_55 : decode cX8_init 55 = .ok (.sipush 900, 3) := by decide +kernel
theorem dX8_init_58 : decode cX8_init 58 = .ok (.invokestatic 38, 3) := by decide +kernel
theorem dX8_init_61 : decode cX8_init 61 = .ok (.return_, 1) := by decide +kernel
theorem dX8_kmSince_0 : decode cX8_kmSince 0 = .ok (.iload_n 1, 1) := by decide +kernel
theorem dX8_kmSince_1 : decode cX8_kmSince 1 = .ok (.ifCond .lt 21, 3) := by decide +kernel
theorem dX8_kmSince_4 : decode cX8_kmSince 4 = .ok (.iload_n 1, 1) := by decide +kernel
theorem dX8_kmSince_5 : decode cX8_kmSince 5 = .ok (.aload_n 0, 1) := by decide +kernel
theorem dX8_kmSince_6 : decode cX8_kmSince 6 = .ok (.getfield 18, 3) := by decide +kernel
theorem dX8_kmSince_9 : decode cX8_kmSince 9 = .ok (.arraylength, 1) := by decide +kernel
theorem dX8_kmSince_10 : decode cX8_kmSince 10 = .ok (.if_icmp .ge 12, 3) := by decide +kernel
theorem dX8_kmSince_13 : decode cX8_kmSince 13 = .ok (.aload_n 0, 1) := by decide +kernel
theorem dX8_kmSince_14 : decode cX8_kmSince 14 = .ok (.getfield 18, 3) := by decide +kernel
theorem dX8_kmSince_17 : decode cX8_kmSince 17 = .ok (.iload_n 1, 1) := by decide +kernel
theorem dX8_kmSince_18 : decode cX8_kmSince 18 = .ok (.iaload, 1) := by decide +kernel
theorem dX8_kmSince_19 : decode cX8_kmSince 19 = .ok (.goto 4, 3) := by decide +kernel
theorem dX8_kmSince_22 : decode cX8_kmSince 22 = .ok (.iconst 0, 1) := by decide +kernel
theorem dX8_kmSince_23 : decode cX8_kmSince 23 = .ok (.ireturn, 1) := by decide +kernel
theorem dX8_daysSince_0 : decode cX8_daysSince 0 = .ok (.iload_n 1, 1) := by decide +kernel
theorem dX8_daysSince_1 : decode cX8_daysSince 1 = .ok (.ifCond .lt 21, 3) := by decide +kernel
theorem dX8_daysSince_4 : decode cX8_daysSince 4 = .ok (.iload_n 1, 1) := by decide +kernel
theorem dX8_daysSince_5 : decode cX8_daysSince 5 = .ok (.aload_n 0, 1) := by decide +kernel
theorem dX8_daysSince_6 : decode cX8_daysSince 6 = .ok (.getfield 22, 3) := by decide +kernel
theorem dX8_daysSince_9 : decode cX8_daysSince 9 = .ok (.arraylength, 1) := by decide +kernel
theorem dX8_daysSince_10 : decode cX8_daysSince 10 = .ok (.if_icmp .ge 12, 3) := by decide +kernel
theorem dX8_daysSince_13 : decode cX8_daysSince 13 = .ok (.aload_n 0, 1) := by decide +kernel
theorem dX8_daysSince_14 : decode cX8_daysSince 14 = .ok (.getfield 22, 3) := by decide +kernel
theorem dX8_daysSince_17 : decode cX8_daysSince 17 = .ok (.iload_n 1, 1) := by decide +kernel
theorem dX8_daysSince_18 : decode cX8_daysSince 18 = .ok (.iaload, 1) := by decide +kernel
theorem dX8_daysSince_19 : decode cX8_daysSince 19 = .ok (.goto 4, 3) := by decide +kernel
theorem dX8_daysSince_22 : decode cX8_daysSince 22 = .ok (.iconst 0, 1) := by decide +kernel
theorem dX8_daysSince_23 : decode cX8_daysSince 23 = .ok (.ireturn, 1) := by decide +kernel
theorem dX8_axleSize_0 : decode cX8_axleSize 0 = .ok (.iload_n 1, 1) := by decide +kernel
theorem dX8_axleSize_1 : decode cX8_axleSize 1 = .ok (.ifCond .lt 21, 3) := by decide +kernel
theorem dX8_axleSize_4 : decode cX8_axleSize 4 = .ok (.iload_n 1, 1) := by decide +kernel
theorem dX8_axleSize_5 : decode cX8_axleSize 5 = .ok (.aload_n 0, 1) := by decide +kernel
theorem dX8_axleSize_6 : decode cX8_axleSize 6 = .ok (.getfield 25, 3) := by decide +kernel
theorem dX8_axleSize_9 : decode cX8_axleSize 9 = .ok (.arraylength, 1) := by decide +kernel
theorem dX8_axleSize_10 : decode cX8_axleSize 10 = .ok (.if_icmp .ge 12, 3) := by decide +kernel
theorem dX8_axleSize_13 : decode cX8_axleSize 13 = .ok (.aload_n 0, 1) := by decide +kernel
theorem dX8_axleSize_14 : decode cX8_axleSize 14 = .ok (.getfield 25, 3) := by decide +kernel
theorem dX8_axleSize_17 : decode cX8_axleSize 17 = .ok (.iload_n 1, 1) := by decide +kernel
theorem dX8_axleSize_18 : decode cX8_axleSize 18 = .ok (.iaload, 1) := by decide +kernel
theorem dX8_axleSize_19 : decode cX8_axleSize 19 = .ok (.goto 4, 3) := by decide +kernel
theorem dX8_axleSize_22 : decode cX8_axleSize 22 = .ok (.iconst 0, 1) := by decide +kernel
theorem dX8_axleSize_23 : decode cX8_axleSize 23 = .ok (.ireturn, 1) := by decide +kernel
theorem dX8_grow_0 : decode cX8_grow 0 = .ok (.aload_n 0, 1) := by decide +kernel
theorem dX8_grow_1 : decode cX8_grow 1 = .ok (.getfield 32, 3) := by decide +kernel
theorem dX8_grow_4 : decode cX8_grow 4 = .ok (.istore_n 2, 1) := by decide +kernel
theorem dX8_grow_5 : decode cX8_grow 5 = .ok (.aload_n 0, 1) := by decide +kernel
theorem dX8_grow_6 : decode cX8_grow 6 = .ok (.dup, 1) := by decide +kernel
theorem dX8_grow_7 : decode cX8_grow 7 = .ok (.getfield 32, 3) := by decide +kernel
theorem dX8_grow_10 : decode cX8_grow 10 = .ok (.iload_n 1, 1) := by decide +kernel
theorem dX8_grow_11 : decode cX8_grow 11 = .ok (.iadd, 1) := by decide +kernel
theorem dX8_grow_12 : decode cX8_grow 12 = .ok (.putfield 32, 3) := by decide +kernel
theorem dX8_grow_15 : decode cX8_grow 15 = .ok (.iconst 0, 1) := by decide +kernel
theorem dX8_grow_16 : decode cX8_grow 16 = .ok (.istore_n 3, 1) := by decide +kernel
theorem dX8_grow_17 : decode cX8_grow 17 = .ok (.iload_n 3, 1) := by decide +kernel
theorem dX8_grow_18 : decode cX8_grow 18 = .ok (.aload_n 0, 1) := by decide +kernel
theorem dX8_grow_19 : decode cX8_grow 19 = .ok (.getfield 18, 3) := by decide +kernel
theorem dX8_grow_22 : decode cX8_grow 22 = .ok (.arraylength, 1) := by decide +kernel
theorem dX8_grow_23 : decode cX8_grow 23 = .ok (.if_icmp .ge 19, 3) := by decide +kernel
theorem dX8_grow_26 : decode cX8_grow 26 = .ok (.aload_n 0, 1) := by decide +kernel
theorem dX8_grow_27 : decode cX8_grow 27 = .ok (.getfield 18, 3) := by decide +kernel
theorem dX8_grow_30 : decode cX8_grow 30 = .ok (.iload_n 3, 1) := by decide +kernel
theorem dX8_grow_31 : decode cX8_grow 31 = .ok (.dup2, 1) := by decide +kernel
theorem dX8_grow_32 : decode cX8_grow 32 = .ok (.iaload, 1) := by decide +kernel
theorem dX8_grow_33 : decode cX8_grow 33 = .ok (.iload_n 1, 1) := by decide +kernel
theorem dX8_grow_34 : decode cX8_grow 34 = .ok (.iadd, 1) := by decide +kernel
theorem dX8_grow_35 : decode cX8_grow 35 = .ok (.iastore, 1) := by decide +kernel
theorem dX8_grow_36 : decode cX8_grow 36 = .ok (.iinc 3 1, 3) := by decide +kernel
theorem dX8_grow_39 : decode cX8_grow 39 = .ok (.goto (-22), 3) := by decide +kernel
theorem dX8_grow_42 : decode cX8_grow 42 = .ok (.iconst 0, 1) := by decide +kernel
theorem dX8_grow_43 : decode cX8_grow 43 = .ok (.istore_n 3, 1) := by decide +kernel
theorem dX8_grow_44 : decode cX8_grow 44 = .ok (.iload_n 3, 1) := by decide +kernel
theorem dX8_grow_45 : decode cX8_grow 45 = .ok (.aload_n 0, 1) := by decide +kernel
theorem dX8_grow_46 : decode cX8_grow 46 = .ok (.getfield 25, 3) := by decide +kernel
theorem dX8_grow_49 : decode cX8_grow 49 = .ok (.arraylength, 1) := by decide +kernel
theorem dX8_grow_50 : decode cX8_grow 50 = .ok (.if_icmp .ge 32, 3) := by decide +kernel
theorem dX8_grow_53 : decode cX8_grow 53 = .ok (.aload_n 0, 1) := by decide +kernel
theorem dX8_grow_54 : decode cX8_grow 54 = .ok (.getfield 25, 3) := by decide +kernel
theorem dX8_grow_57 : decode cX8_grow 57 = .ok (.iload_n 3, 1) := by decide +kernel
theorem dX8_grow_58 : decode cX8_grow 58 = .ok (.dup2, 1) := by decide +kernel
theorem dX8_grow_59 : decode cX8_grow 59 = .ok (.iaload, 1) := by decide +kernel
theorem dX8_grow_60 : decode cX8_grow 60 = .ok (.iload_n 3, 1) := by decide +kernel
theorem dX8_grow_61 : decode cX8_grow 61 = .ok (.aload_n 0, 1) := by decide +kernel
theorem dX8_grow_62 : decode cX8_grow 62 = .ok (.getfield 32, 3) := by decide +kernel
theorem dX8_grow_65 : decode cX8_grow 65 = .ok (.invokestatic 44, 3) := by decide +kernel
theorem dX8_grow_68 : decode cX8_grow 68 = .ok (.iload_n 3, 1) := by decide +kernel
theorem dX8_grow_69 : decode cX8_grow 69 = .ok (.iload_n 2, 1) := by decide +kernel
theorem dX8_grow_70 : decode cX8_grow 70 = .ok (.invokestatic 44, 3) := by decide +kernel
theorem dX8_grow_73 : decode cX8_grow 73 = .ok (.isub, 1) := by decide +kernel
theorem dX8_grow_74 : decode cX8_grow 74 = .ok (.isub, 1) := by decide +kernel
theorem dX8_grow_75 : decode cX8_grow 75 = .ok (.iastore, 1) := by decide +kernel
theorem dX8_grow_76 : decode cX8_grow 76 = .ok (.iinc 3 1, 3) := by decide +kernel
theorem dX8_grow_79 : decode cX8_grow 79 = .ok (.goto (-35), 3) := by decide +kernel
theorem dX8_grow_82 : decode cX8_grow 82 = .ok (.return_, 1) := by decide +kernel
theorem dX8_wear_0 : decode cX8_wear 0 = .ok (.iload_n 0, 1) := by decide +kernel
theorem dX8_wear_1 : decode cX8_wear 1 = .ok (.ifCond .ne 11, 3) := by decide +kernel
theorem dX8_wear_4 : decode cX8_wear 4 = .ok (.iload_n 1, 1) := by decide +kernel
theorem dX8_wear_5 : decode cX8_wear 5 = .ok (.sipush 300, 3) := by decide +kernel
theorem dX8_wear_8 : decode cX8_wear 8 = .ok (.idiv, 1) := by decide +kernel
theorem dX8_wear_9 : decode cX8_wear 9 = .ok (.goto 8, 3) := by decide +kernel
theorem dX8_wear_12 : decode cX8_wear 12 = .ok (.iload_n 1, 1) := by decide +kernel
theorem dX8_wear_13 : decode cX8_wear 13 = .ok (.sipush 500, 3) := by decide +kernel
theorem dX8_wear_16 : decode cX8_wear 16 = .ok (.idiv, 1) := by decide +kernel
theorem dX8_wear_17 : decode cX8_wear 17 = .ok (.ireturn, 1) := by decide +kernel
theorem dX8_growOlder_0 : decode cX8_growOlder 0 = .ok (.iconst 0, 1) := by decide +kernel
theorem dX8_growOlder_1 : decode cX8_growOlder 1 = .ok (.istore_n 1, 1) := by decide +kernel
theorem dX8_growOlder_2 : decode cX8_growOlder 2 = .ok (.iload_n 1, 1) := by decide +kernel
theorem dX8_growOlder_3 : decode cX8_growOlder 3 = .ok (.aload_n 0, 1) := by decide +kernel
theorem dX8_growOlder_4 : decode cX8_growOlder 4 = .ok (.getfield 22, 3) := by decide +kernel
theorem dX8_growOlder_7 : decode cX8_growOlder 7 = .ok (.arraylength, 1) := by decide +kernel
theorem dX8_growOlder_8 : decode cX8_growOlder 8 = .ok (.if_icmp .ge 19, 3) := by decide +kernel
theorem dX8_growOlder_11 : decode cX8_growOlder 11 = .ok (.aload_n 0, 1) := by decide +kernel
theorem dX8_growOlder_12 : decode cX8_growOlder 12 = .ok (.getfield 22, 3) := by decide +kernel
theorem dX8_growOlder_15 : decode cX8_growOlder 15 = .ok (.iload_n 1, 1) := by decide +kernel
theorem dX8_growOlder_16 : decode cX8_growOlder 16 = .ok (.dup2, 1) := by decide +kernel
theorem dX8_growOlder_17 : decode cX8_growOlder 17 = .ok (.iaload, 1) := by decide +kernel
theorem dX8_growOlder_18 : decode cX8_growOlder 18 = .ok (.iconst 1, 1) := by decide +kernel
theorem dX8_growOlder_19 : decode cX8_growOlder 19 = .ok (.iadd, 1) := by decide +kernel
theorem dX8_growOlder_20 : decode cX8_growOlder 20 = .ok (.iastore, 1) := by decide +kernel
theorem dX8_growOlder_21 : decode cX8_growOlder 21 = .ok (.iinc 1 1, 3) := by decide +kernel
theorem dX8_growOlder_24 : decode cX8_growOlder 24 = .ok (.goto (-22), 3) := by decide +kernel
theorem dX8_growOlder_27 : decode cX8_growOlder 27 = .ok (.return_, 1) := by decide +kernel
theorem dX8_beginAgain_0 : decode cX8_beginAgain 0 = .ok (.iconst 0, 1) := by decide +kernel
theorem dX8_beginAgain_1 : decode cX8_beginAgain 1 = .ok (.istore_n 2, 1) := by decide +kernel
theorem dX8_beginAgain_2 : decode cX8_beginAgain 2 = .ok (.iload_n 2, 1) := by decide +kernel
theorem dX8_beginAgain_3 : decode cX8_beginAgain 3 = .ok (.iload_n 1, 1) := by decide +kernel
theorem dX8_beginAgain_4 : decode cX8_beginAgain 4 = .ok (.if_icmp .gt 41, 3) := by decide +kernel
theorem dX8_beginAgain_7 : decode cX8_beginAgain 7 = .ok (.iload_n 2, 1) := by decide +kernel
theorem dX8_beginAgain_8 : decode cX8_beginAgain 8 = .ok (.aload_n 0, 1) := by decide +kernel
theorem dX8_beginAgain_9 : decode cX8_beginAgain 9 = .ok (.getfield 18, 3) := by decide +kernel
theorem dX8_beginAgain_12 : decode cX8_beginAgain 12 = .ok (.arraylength, 1) := by decide +kernel
theorem dX8_beginAgain_13 : decode cX8_beginAgain 13 = .ok (.if_icmp .ge 32, 3) := by decide +kernel
theorem dX8_beginAgain_16 : decode cX8_beginAgain 16 = .ok (.iload_n 2, 1) := by decide +kernel
theorem dX8_beginAgain_17 : decode cX8_beginAgain 17 = .ok (.aload_n 0, 1) := by decide +kernel
theorem dX8_beginAgain_18 : decode cX8_beginAgain 18 = .ok (.getfield 22, 3) := by decide +kernel
theorem dX8_beginAgain_21 : decode cX8_beginAgain 21 = .ok (.arraylength, 1) := by decide +kernel
theorem dX8_beginAgain_22 : decode cX8_beginAgain 22 = .ok (.if_icmp .ge 23, 3) := by decide +kernel
theorem dX8_beginAgain_25 : decode cX8_beginAgain 25 = .ok (.aload_n 0, 1) := by decide +kernel
theorem dX8_beginAgain_26 : decode cX8_beginAgain 26 = .ok (.getfield 18, 3) := by decide +kernel
theorem dX8_beginAgain_29 : decode cX8_beginAgain 29 = .ok (.iload_n 2, 1) := by decide +kernel
theorem dX8_beginAgain_30 : decode cX8_beginAgain 30 = .ok (.iconst 0, 1) := by decide +kernel
theorem dX8_beginAgain_31 : decode cX8_beginAgain 31 = .ok (.iastore, 1) := by decide +kernel
theorem dX8_beginAgain_32 : decode cX8_beginAgain 32 = .ok (.aload_n 0, 1) := by decide +kernel
theorem dX8_beginAgain_33 : decode cX8_beginAgain 33 = .ok (.getfield 22, 3) := by decide +kernel
theorem dX8_beginAgain_36 : decode cX8_beginAgain 36 = .ok (.iload_n 2, 1) := by decide +kernel
theorem dX8_beginAgain_37 : decode cX8_beginAgain 37 = .ok (.iconst 0, 1) := by decide +kernel
theorem dX8_beginAgain_38 : decode cX8_beginAgain 38 = .ok (.iastore, 1) := by decide +kernel
theorem dX8_beginAgain_39 : decode cX8_beginAgain 39 = .ok (.iinc 2 1, 3) := by decide +kernel
theorem dX8_beginAgain_42 : decode cX8_beginAgain 42 = .ok (.goto (-40), 3) := by decide +kernel
theorem dX8_beginAgain_45 : decode cX8_beginAgain 45 = .ok (.return_, 1) := by decide +kernel
theorem dX8_greatestAxle_0 : decode cX8_greatestAxle 0 = .ok (.aload_n 0, 1) := by decide +kernel
theorem dX8_greatestAxle_1 : decode cX8_greatestAxle 1 = .ok (.iconst 0, 1) := by decide +kernel
theorem dX8_greatestAxle_2 : decode cX8_greatestAxle 2 = .ok (.invokevirtual 48, 3) := by decide +kernel
theorem dX8_greatestAxle_5 : decode cX8_greatestAxle 5 = .ok (.istore_n 1, 1) := by decide +kernel
theorem dX8_greatestAxle_6 : decode cX8_greatestAxle 6 = .ok (.iconst 1, 1) := by decide +kernel
theorem dX8_greatestAxle_7 : decode cX8_greatestAxle 7 = .ok (.istore_n 2, 1) := by decide +kernel
theorem dX8_greatestAxle_8 : decode cX8_greatestAxle 8 = .ok (.iload_n 2, 1) := by decide +kernel
theorem dX8_greatestAxle_9 : decode cX8_greatestAxle 9 = .ok (.aload_n 0, 1) := by decide +kernel
theorem dX8_greatestAxle_10 : decode cX8_greatestAxle 10 = .ok (.getfield 25, 3) := by decide +kernel
theorem dX8_greatestAxle_13 : decode cX8_greatestAxle 13 = .ok (.arraylength, 1) := by decide +kernel
theorem dX8_greatestAxle_14 : decode cX8_greatestAxle 14 = .ok (.if_icmp .ge 20, 3) := by decide +kernel
theorem dX8_greatestAxle_17 : decode cX8_greatestAxle 17 = .ok (.iload_n 1, 1) := by decide +kernel
theorem dX8_greatestAxle_18 : decode cX8_greatestAxle 18 = .ok (.aload_n 0, 1) := by decide +kernel
theorem dX8_greatestAxle_19 : decode cX8_greatestAxle 19 = .ok (.getfield 25, 3) := by decide +kernel
theorem dX8_greatestAxle_22 : decode cX8_greatestAxle 22 = .ok (.iload_n 2, 1) := by decide +kernel
theorem dX8_greatestAxle_23 : decode cX8_greatestAxle 23 = .ok (.iaload, 1) := by decide +kernel
theorem dX8_greatestAxle_24 : decode cX8_greatestAxle 24 = .ok (.invokestatic 52, 3) := by decide +kernel
theorem dX8_greatestAxle_27 : decode cX8_greatestAxle 27 = .ok (.istore_n 1, 1) := by decide +kernel
theorem dX8_greatestAxle_28 : decode cX8_greatestAxle 28 = .ok (.iinc 2 1, 3) := by decide +kernel
theorem dX8_greatestAxle_31 : decode cX8_greatestAxle 31 = .ok (.goto (-23), 3) := by decide +kernel
theorem dX8_greatestAxle_34 : decode cX8_greatestAxle 34 = .ok (.iload_n 1, 1) := by decide +kernel
theorem dX8_greatestAxle_35 : decode cX8_greatestAxle 35 = .ok (.ireturn, 1) := by decide +kernel
theorem dX8_leastAxle_0 : decode cX8_leastAxle 0 = .ok (.aload_n 0, 1) := by decide +kernel
theorem dX8_leastAxle_1 : decode cX8_leastAxle 1 = .ok (.iconst 0, 1) := by decide +kernel
theorem dX8_leastAxle_2 : decode cX8_leastAxle 2 = .ok (.invokevirtual 48, 3) := by decide +kernel
theorem dX8_leastAxle_5 : decode cX8_leastAxle 5 = .ok (.istore_n 1, 1) := by decide +kernel
theorem dX8_leastAxle_6 : decode cX8_leastAxle 6 = .ok (.iconst 1, 1) := by decide +kernel
theorem dX8_leastAxle_7 : decode cX8_leastAxle 7 = .ok (.istore_n 2, 1) := by decide +kernel
theorem dX8_leastAxle_8 : decode cX8_leastAxle 8 = .ok (.iload_n 2, 1) := by decide +kernel
theorem dX8_leastAxle_9 : decode cX8_leastAxle 9 = .ok (.aload_n 0, 1) := by decide +kernel
theorem dX8_leastAxle_10 : decode cX8_leastAxle 10 = .ok (.getfield 25, 3) := by decide +kernel
theorem dX8_leastAxle_13 : decode cX8_leastAxle 13 = .ok (.arraylength, 1) := by decide +kernel
theorem dX8_leastAxle_14 : decode cX8_leastAxle 14 = .ok (.if_icmp .ge 20, 3) := by decide +kernel
theorem dX8_leastAxle_17 : decode cX8_leastAxle 17 = .ok (.iload_n 1, 1) := by decide +kernel
theorem dX8_leastAxle_18 : decode cX8_leastAxle 18 = .ok (.aload_n 0, 1) := by decide +kernel
theorem dX8_leastAxle_19 : decode cX8_leastAxle 19 = .ok (.getfield 25, 3) := by decide +kernel
theorem dX8_leastAxle_22 : decode cX8_leastAxle 22 = .ok (.iload_n 2, 1) := by decide +kernel
theorem dX8_leastAxle_23 : decode cX8_leastAxle 23 = .ok (.iaload, 1) := by decide +kernel
theorem dX8_leastAxle_24 : decode cX8_leastAxle 24 = .ok (.invokestatic 57, 3) := by decide +kernel
theorem dX8_leastAxle_27 : decode cX8_leastAxle 27 = .ok (.istore_n 1, 1) := by decide +kernel
theorem dX8_leastAxle_28 : decode cX8_leastAxle 28 = .ok (.iinc 2 1, 3) := by decide +kernel
theorem dX8_leastAxle_31 : decode cX8_leastAxle 31 = .ok (.goto (-23), 3) := by decide +kernel
theorem dX8_leastAxle_34 : decode cX8_leastAxle 34 = .ok (.iload_n 1, 1) := by decide +kernel
theorem dX8_leastAxle_35 : decode cX8_leastAxle 35 = .ok (.ireturn, 1) := by decide +kernel
theorem dX8_turn_0 : decode cX8_turn 0 = .ok (.aload_n 0, 1) := by decide +kernel
theorem dX8_turn_1 : decode cX8_turn 1 = .ok (.iconst 0, 1) := by decide +kernel
theorem dX8_turn_2 : decode cX8_turn 2 = .ok (.invokevirtual 48, 3) := by decide +kernel
theorem dX8_turn_5 : decode cX8_turn 5 = .ok (.aload_n 0, 1) := by decide +kernel
theorem dX8_turn_6 : decode cX8_turn 6 = .ok (.iconst 0, 1) := by decide +kernel
theorem dX8_turn_7 : decode cX8_turn 7 = .ok (.invokevirtual 60, 3) := by decide +kernel
theorem dX8_turn_10 : decode cX8_turn 10 = .ok (.isub, 1) := by decide +kernel
theorem dX8_turn_11 : decode cX8_turn 11 = .ok (.istore_n 1, 1) := by decide +kernel
theorem dX8_turn_12 : decode cX8_turn 12 = .ok (.iconst 1, 1) := by decide +kernel
theorem dX8_turn_13 : decode cX8_turn 13 = .ok (.istore_n 2, 1) := by decide +kernel
theorem dX8_turn_14 : decode cX8_turn 14 = .ok (.iload_n 2, 1) := by decide +kernel
theorem dX8_turn_15 : decode cX8_turn 15 = .ok (.aload_n 0, 1) := by decide +kernel
theorem dX8_turn_16 : decode cX8_turn 16 = .ok (.getfield 25, 3) := by decide +kernel
theorem dX8_turn_19 : decode cX8_turn 19 = .ok (.arraylength, 1) := by decide +kernel
theorem dX8_turn_20 : decode cX8_turn 20 = .ok (.if_icmp .ge 26, 3) := by decide +kernel
theorem dX8_turn_23 : decode cX8_turn 23 = .ok (.iload_n 1, 1) := by decide +kernel
theorem dX8_turn_24 : decode cX8_turn 24 = .ok (.aload_n 0, 1) := by decide +kernel
theorem dX8_turn_25 : decode cX8_turn 25 = .ok (.getfield 25, 3) := by decide +kernel
theorem dX8_turn_28 : decode cX8_turn 28 = .ok (.iload_n 2, 1) := by decide +kernel
theorem dX8_turn_29 : decode cX8_turn 29 = .ok (.iaload, 1) := by decide +kernel
theorem dX8_turn_30 : decode cX8_turn 30 = .ok (.aload_n 0, 1) := by decide +kernel
theorem dX8_turn_31 : decode cX8_turn 31 = .ok (.iload_n 2, 1) := by decide +kernel
theorem dX8_turn_32 : decode cX8_turn 32 = .ok (.invokevirtual 60, 3) := by decide +kernel
theorem dX8_turn_35 : decode cX8_turn 35 = .ok (.isub, 1) := by decide +kernel
theorem dX8_turn_36 : decode cX8_turn 36 = .ok (.invokestatic 57, 3) := by decide +kernel
theorem dX8_turn_39 : decode cX8_turn 39 = .ok (.istore_n 1, 1) := by decide +kernel
theorem dX8_turn_40 : decode cX8_turn 40 = .ok (.iinc 2 1, 3) := by decide +kernel
theorem dX8_turn_43 : decode cX8_turn 43 = .ok (.goto (-29), 3) := by decide +kernel
theorem dX8_turn_46 : decode cX8_turn 46 = .ok (.aload_n 0, 1) := by decide +kernel
theorem dX8_turn_47 : decode cX8_turn 47 = .ok (.getfield 25, 3) := by decide +kernel
theorem dX8_turn_50 : decode cX8_turn 50 = .ok (.iload_n 1, 1) := by decide +kernel
theorem dX8_turn_51 : decode cX8_turn 51 = .ok (.invokestatic 38, 3) := by decide +kernel
theorem dX8_turn_54 : decode cX8_turn 54 = .ok (.aload_n 0, 1) := by decide +kernel
theorem dX8_turn_55 : decode cX8_turn 55 = .ok (.invokevirtual 63, 3) := by decide +kernel
theorem dX8_turn_58 : decode cX8_turn 58 = .ok (.iload_n 1, 1) := by decide +kernel
theorem dX8_turn_59 : decode cX8_turn 59 = .ok (.ireturn, 1) := by decide +kernel
theorem dX8_depthOnAxle_0 : decode cX8_depthOnAxle 0 = .ok (.iconst 0, 1) := by decide +kernel
theorem dX8_depthOnAxle_1 : decode cX8_depthOnAxle 1 = .ok (.istore_n 2, 1) := by decide +kernel
theorem dX8_depthOnAxle_2 : decode cX8_depthOnAxle 2 = .ok (.iconst 0, 1) := by decide +kernel
theorem dX8_depthOnAxle_3 : decode cX8_depthOnAxle 3 = .ok (.istore_n 3, 1) := by decide +kernel
theorem dX8_depthOnAxle_4 : decode cX8_depthOnAxle 4 = .ok (.iload_n 3, 1) := by decide +kernel
theorem dX8_depthOnAxle_5 : decode cX8_depthOnAxle 5 = .ok (.aload_n 0, 1) := by decide +kernel
theorem dX8_depthOnAxle_6 : decode cX8_depthOnAxle 6 = .ok (.getfield 12, 3) := by decide +kernel
theorem dX8_depthOnAxle_9 : decode cX8_depthOnAxle 9 = .ok (.invokevirtual 66, 3) := by decide +kernel
theorem dX8_depthOnAxle_12 : decode cX8_depthOnAxle 12 = .ok (.if_icmp .ge 41, 3) := by decide +kernel
theorem dX8_depthOnAxle_15 : decode cX8_depthOnAxle 15 = .ok (.aload_n 0, 1) := by decide +kernel
theorem dX8_depthOnAxle_16 : decode cX8_depthOnAxle 16 = .ok (.iload_n 3, 1) := by decide +kernel
theorem dX8_depthOnAxle_17 : decode cX8_depthOnAxle 17 = .ok (.invokevirtual 70, 3) := by decide +kernel
theorem dX8_depthOnAxle_20 : decode cX8_depthOnAxle 20 = .ok (.astore 4, 2) := by decide +kernel
theorem dX8_depthOnAxle_22 : decode cX8_depthOnAxle 22 = .ok (.aload 4, 2) := by decide +kernel
theorem dX8_depthOnAxle_24 : decode cX8_depthOnAxle 24 = .ok (.getfield 74, 3) := by decide +kernel
theorem dX8_depthOnAxle_27 : decode cX8_depthOnAxle 27 = .ok (.ifCond .ne 20, 3) := by decide +kernel
theorem dX8_depthOnAxle_30 : decode cX8_depthOnAxle 30 = .ok (.aload 4, 2) := by decide +kernel
theorem dX8_depthOnAxle_32 : decode cX8_depthOnAxle 32 = .ok (.getfield 79, 3) := by decide +kernel
theorem dX8_depthOnAxle_35 : decode cX8_depthOnAxle 35 = .ok (.iload_n 1, 1) := by decide +kernel
theorem dX8_depthOnAxle_36 : decode cX8_depthOnAxle 36 = .ok (.if_icmp .ne 11, 3) := by decide +kernel
theorem dX8_depthOnAxle_39 : decode cX8_depthOnAxle 39 = .ok (.iload_n 2, 1) := by decide +kernel
theorem dX8_depthOnAxle_40 : decode cX8_depthOnAxle 40 = .ok (.aload 4, 2) := by decide +kernel
theorem dX8_depthOnAxle_42 : decode cX8_depthOnAxle 42 = .ok (.getfield 82, 3) := by decide +kernel
theorem dX8_depthOnAxle_45 : decode cX8_depthOnAxle 45 = .ok (.iadd, 1) := by decide +kernel
theorem dX8_depthOnAxle_46 : decode cX8_depthOnAxle 46 = .ok (.istore_n 2, 1) := by decide +kernel
theorem dX8_depthOnAxle_47 : decode cX8_depthOnAxle 47 = .ok (.iinc 3 1, 3) := by decide +kernel
theorem dX8_depthOnAxle_50 : decode cX8_depthOnAxle 50 = .ok (.goto (-46), 3) := by decide +kernel
theorem dX8_depthOnAxle_53 : decode cX8_depthOnAxle 53 = .ok (.iload_n 2, 1) := by decide +kernel
theorem dX8_depthOnAxle_54 : decode cX8_depthOnAxle 54 = .ok (.ireturn, 1) := by decide +kernel
theorem dX8_dropFlats_0 : decode cX8_dropFlats 0 = .ok (.aload_n 0, 1) := by decide +kernel
theorem dX8_dropFlats_1 : decode cX8_dropFlats 1 = .ok (.getfield 12, 3) := by decide +kernel
theorem dX8_dropFlats_4 : decode cX8_dropFlats 4 = .ok (.invokevirtual 66, 3) := by decide +kernel
theorem dX8_dropFlats_7 : decode cX8_dropFlats 7 = .ok (.iconst 1, 1) := by decide +kernel
theorem dX8_dropFlats_8 : decode cX8_dropFlats 8 = .ok (.isub, 1) := by decide +kernel
theorem dX8_dropFlats_9 : decode cX8_dropFlats 9 = .ok (.istore_n 1, 1) := by decide +kernel
theorem dX8_dropFlats_10 : decode cX8_dropFlats 10 = .ok (.iload_n 1, 1) := by decide +kernel
theorem dX8_dropFlats_11 : decode cX8_dropFlats 11 = .ok (.ifCond .lt 25, 3) := by decide +kernel
theorem dX8_dropFlats_14 : decode cX8_dropFlats 14 = .ok (.aload_n 0, 1) := by decide +kernel
theorem dX8_dropFlats_15 : decode cX8_dropFlats 15 = .ok (.iload_n 1, 1) := by decide +kernel
theorem dX8_dropFlats_16 : decode cX8_dropFlats 16 = .ok (.invokevirtual 70, 3) := by decide +kernel
theorem dX8_dropFlats_19 : decode cX8_dropFlats 19 = .ok (.getfield 74, 3) := by decide +kernel
theorem dX8_dropFlats_22 : decode cX8_dropFlats 22 = .ok (.ifCond .ne 8, 3) := by decide +kernel
theorem dX8_dropFlats_25 : decode cX8_dropFlats 25 = .ok (.aload_n 0, 1) := by decide +kernel
theorem dX8_dropFlats_26 : decode cX8_dropFlats 26 = .ok (.iload_n 1, 1) := by decide +kernel
theorem dX8_dropFlats_27 : decode cX8_dropFlats 27 = .ok (.invokevirtual 85, 3) := by decide +kernel
theorem dX8_dropFlats_30 : decode cX8_dropFlats 30 = .ok (.iinc 1 (-1), 3) := by decide +kernel
theorem dX8_dropFlats_33 : decode cX8_dropFlats 33 = .ok (.goto (-23), 3) := by decide +kernel
theorem dX8_dropFlats_36 : decode cX8_dropFlats 36 = .ok (.return_, 1) := by decide +kernel
theorem dX8_faultAtPlace_0 : decode cX8_faultAtPlace 0 = .ok (.iload_n 1, 1) := by decide +kernel
theorem dX8_faultAtPlace_1 : decode cX8_faultAtPlace 1 = .ok (.ifCond .lt 28, 3) := by decide +kernel
theorem dX8_faultAtPlace_4 : decode cX8_faultAtPlace 4 = .ok (.iload_n 1, 1) := by decide +kernel
theorem dX8_faultAtPlace_5 : decode cX8_faultAtPlace 5 = .ok (.aload_n 0, 1) := by decide +kernel
theorem dX8_faultAtPlace_6 : decode cX8_faultAtPlace 6 = .ok (.getfield 12, 3) := by decide +kernel
theorem dX8_faultAtPlace_9 : decode cX8_faultAtPlace 9 = .ok (.invokevirtual 66, 3) := by decide +kernel
theorem dX8_faultAtPlace_12 : decode cX8_faultAtPlace 12 = .ok (.if_icmp .ge 17, 3) := by decide +kernel
theorem dX8_faultAtPlace_15 : decode cX8_faultAtPlace 15 = .ok (.aload_n 0, 1) := by decide +kernel
theorem dX8_faultAtPlace_16 : decode cX8_faultAtPlace 16 = .ok (.getfield 12, 3) := by decide +kernel
theorem dX8_faultAtPlace_19 : decode cX8_faultAtPlace 19 = .ok (.iload_n 1, 1) := by decide +kernel
theorem dX8_faultAtPlace_20 : decode cX8_faultAtPlace 20 = .ok (.invokevirtual 89, 3) := by decide +kernel
theorem dX8_faultAtPlace_23 : decode cX8_faultAtPlace 23 = .ok (.checkcast 75, 3) := by decide +kernel
theorem dX8_faultAtPlace_26 : decode cX8_faultAtPlace 26 = .ok (.goto 4, 3) := by decide +kernel
theorem dX8_faultAtPlace_29 : decode cX8_faultAtPlace 29 = .ok (.aconst_null, 1) := by decide +kernel
theorem dX8_faultAtPlace_30 : decode cX8_faultAtPlace 30 = .ok (.astore_n 2, 1) := by decide +kernel
theorem dX8_faultAtPlace_31 : decode cX8_faultAtPlace 31 = .ok (.aload_n 2, 1) := by decide +kernel
theorem dX8_faultAtPlace_32 : decode cX8_faultAtPlace 32 = .ok (.ifnonnull 13, 3) := by decide +kernel
theorem dX8_faultAtPlace_35 : decode cX8_faultAtPlace 35 = .ok (.new 93, 3) := by decide +kernel
theorem dX8_faultAtPlace_38 : decode cX8_faultAtPlace 38 = .ok (.dup, 1) := by decide +kernel
theorem dX8_faultAtPlace_39 : decode cX8_faultAtPlace 39 = .ok (.ldc 95, 2) := by decide +kernel
theorem dX8_faultAtPlace_41 : decode cX8_faultAtPlace 41 = .ok (.invokespecial 97, 3) := by decide +kernel
theorem dX8_faultAtPlace_44 : decode cX8_faultAtPlace 44 = .ok (.athrow, 1) := by decide +kernel
theorem dX8_faultAtPlace_45 : decode cX8_faultAtPlace 45 = .ok (.aload_n 2, 1) := by decide +kernel
theorem dX8_faultAtPlace_46 : decode cX8_faultAtPlace 46 = .ok (.areturn, 1) := by decide +kernel
theorem dX8_dropFault_0 : decode cX8_dropFault 0 = .ok (.iload_n 1, 1) := by decide +kernel
theorem dX8_dropFault_1 : decode cX8_dropFault 1 = .ok (.ifCond .lt 23, 3) := by decide +kernel
theorem dX8_dropFault_4 : decode cX8_dropFault 4 = .ok (.iload_n 1, 1) := by decide +kernel
theorem dX8_dropFault_5 : decode cX8_dropFault 5 = .ok (.aload_n 0, 1) := by decide +kernel
theorem dX8_dropFault_6 : decode cX8_dropFault 6 = .ok (.getfield 12, 3) := by decide +kernel
theorem dX8_dropFault_9 : decode cX8_dropFault 9 = .ok (.invokevirtual 66, 3) := by decide +kernel
theorem dX8_dropFault_12 : decode cX8_dropFault 12 = .ok (.if_icmp .ge 12, 3) := by decide +kernel
theorem dX8_dropFault_15 : decode cX8_dropFault 15 = .ok (.aload_n 0, 1) := by decide +kernel
theorem dX8_dropFault_16 : decode cX8_dropFault 16 = .ok (.getfield 12, 3) := by decide +kernel
theorem dX8_dropFault_19 : decode cX8_dropFault 19 = .ok (.iload_n 1, 1) := by decide +kernel
theorem dX8_dropFault_20 : decode cX8_dropFault 20 = .ok (.invokevirtual 100, 3) := by decide +kernel
theorem dX8_dropFault_23 : decode cX8_dropFault 23 = .ok (.pop, 1) := by decide +kernel
theorem dX8_dropFault_24 : decode cX8_dropFault 24 = .ok (.return_, 1) := by decide +kernel
theorem dX9_init_0 : decode cX9_init 0 = .ok (.aload_n 0, 1) := by decide +kernel
theorem dX9_init_1 : decode cX9_init 1 = .ok (.invokespecial 1, 3) := by decide +kernel
theorem dX9_init_4 : decode cX9_init 4 = .ok (.aload_n 0, 1) := by decide +kernel
theorem dX9_init_5 : decode cX9_init 5 = .ok (.new 7, 3) := by decide +kernel
theorem dX9_init_8 : decode cX9_init 8 = .ok (.dup, 1) := by decide +kernel
theorem dX9_init_9 : decode cX9_init 9 = .ok (.invokespecial 9, 3) := by decide +kernel
theorem dX9_init_12 : decode cX9_init 12 = .ok (.putfield 10, 3) := by decide +kernel
theorem dX9_init_15 : decode cX9_init 15 = .ok (.aload_n 0, 1) := by decide +kernel
theorem dX9_init_16 : decode cX9_init 16 = .ok (.new 7, 3) := by decide +kernel
theorem dX9_init_19 : decode cX9_init 19 = .ok (.dup, 1) := by decide +kernel
theorem dX9_init_20 : decode cX9_init 20 = .ok (.invokespecial 9, 3) := by decide +kernel
theorem dX9_init_23 : decode cX9_init 23 = .ok (.putfield 16, 3) := by decide +kernel
theorem dX9_init_26 : decode cX9_init 26 = .ok (.aload_n 0, 1) := by decide +kernel
theorem dX9_init_27 : decode cX9_init 27 = .ok (.iconst 3, 1) := by decide +kernel
theorem dX9_init_28 : decode cX9_init 28 = .ok (.anewarray 19, 3) := by decide +kernel
theorem dX9_init_31 : decode cX9_init 31 = .ok (.putfield 21, 3) := by decide +kernel
theorem dX9_init_34 : decode cX9_init 34 = .ok (.aload_n 0, 1) := by decide +kernel
theorem dX9_init_35 : decode cX9_init 35 = .ok (.new 25, 3) := by decide +kernel
theorem dX9_init_38 : decode cX9_init 38 = .ok (.dup, 1) := by decide +kernel
theorem dX9_init_39 : decode cX9_init 39 = .ok (.invokespecial 27, 3) := by decide +kernel
theorem dX9_init_42 : decode cX9_init 42 = .ok (.putfield 28, 3) := by decide +kernel
theorem dX9_init_45 : decode cX9_init 45 = .ok (.aload_n 0, 1) := by decide +kernel
theorem dX9_init_46 : decode cX9_init 46 = .ok (.new 32, 3) := by decide +kernel
theorem dX9_init_49 : decode cX9_init 49 = .ok (.dup, 1) := by decide +kernel
theorem dX9_init_50 : decode cX9_init 50 = .ok (.invokespecial 34, 3) := by decide +kernel
theorem dX9_init_53 : decode cX9_init 53 = .ok (.putfield 35, 3) := by decide +kernel
theorem dX9_init_56 : decode cX9_init 56 = .ok (.aload_n 0, 1) := by decide +kernel
theorem dX9_init_57 : decode cX9_init 57 = .ok (.new 39, 3) := by decide +kernel
theorem dX9_init_60 : decode cX9_init 60 = .ok (.dup, 1) := by decide +kernel
theorem dX9_init_61 : decode cX9_init 61 = .ok (.invokespecial 41, 3) := by decide +kernel
theorem dX9_init_64 : decode cX9_init 64 = .ok (.putfield 42, 3) := by decide +kernel
theorem dX9_init_67 : decode cX9_init 67 = .ok (.aload_n 0, 1) := by decide +kernel
theorem dX9_init_68 : decode cX9_init 68 = .ok (.iconst 0, 1) := by decide +kernel
theorem dX9_init_69 : decode cX9_init 69 = .ok (.putfield 46, 3) := by decide +kernel
theorem dX9_init_72 : decode cX9_init 72 = .ok (.aload_n 0, 1) := by decide +kernel
theorem dX9_init_73 : decode cX9_init 73 = .ok (.iconst 0, 1) := by decide +kernel
theorem dX9_init_74 : decode cX9_init 74 = .ok (.putfield 50, 3) := by decide +kernel
theorem dX9_init_77 : decode cX9_init 77 = .ok (.aload_n 0, 1) := by decide +kernel
theorem dX9_init_78 : decode cX9_init 78 = .ok (.iconst 0, 1) := by decide +kernel
theorem dX9_init_79 : decode cX9_init 79 = .ok (.putfield 53, 3) := by decide +kernel
theorem dX9_init_82 : decode cX9_init 82 = .ok (.aload_n 0, 1) := by decide +kernel
theorem dX9_init_83 : decode cX9_init 83 = .ok (.iconst 0, 1) := by decide +kernel
theorem dX9_init_84 : decode cX9_init 84 = .ok (.putfield 57, 3) := by decide +kernel
theorem dX9_init_87 : decode cX9_init 87 = .ok (.iconst 0, 1) := by decide +kernel
theorem dX9_init_88 : decode cX9_init 88 = .ok (.istore_n 1, 1) := by decide +kernel
theorem dX9_init_89 : decode cX9_init 89 = .ok (.iload_n 1, 1) := by decide +kernel
theorem dX9_init_90 : decode cX9_init 90 = .ok (.aload_n 0, 1) := by decide +kernel
theorem dX9_init_91 : decode cX9_init 91 = .ok (.getfield 21, 3) := by decide +kernel
theorem dX9_init_94 : decode cX9_init 94 = .ok (.arraylength, 1) := by decide +kernel
theorem dX9_init_95 : decode cX9_init 95 = .ok (.if_icmp .ge 22, 3) := by decide +kernel
theorem dX9_init_98 : decode cX9_init 98 = .ok (.aload_n 0, 1) := by decide +kernel
theorem dX9_init_99 : decode cX9_init 99 = .ok (.getfield 21, 3) := by decide +kernel
theorem dX9_init_102 : decode cX9_init 102 = .ok (.iload_n 1, 1) := by decide +kernel
theorem dX9_init_103 : decode cX9_init 103 = .ok (.new 19, 3) := by decide +kernel
theorem dX9_init_106 : decode cX9_init 106 = .ok (.dup, 1) := by decide +kernel
theorem dX9_init_107 : decode cX9_init 107 = .ok (.invokespecial 60, 3) := by decide +kernel
theorem dX9_init_110 : decode cX9_init 110 = .ok (.aastore, 1) := by decide +kernel
theorem dX9_init_111 : decode cX9_init 111 = .ok (.iinc 1 1, 3) := by decide +kernel
theorem dX9_init_114 : decode cX9_init 114 = .ok (.goto (-25), 3) := by decide +kernel
theorem dX9_init_117 : decode cX9_init 117 = .ok (.return_, 1) := by decide +kernel
theorem dX9_unit_0 : decode cX9_unit 0 = .ok (.aload_n 0, 1) := by decide +kernel
theorem dX9_unit_1 : decode cX9_unit 1 = .ok (.iload_n 1, 1) := by decide +kernel
theorem dX9_unit_2 : decode cX9_unit 2 = .ok (.invokevirtual 61, 3) := by decide +kernel
theorem dX9_unit_5 : decode cX9_unit 5 = .ok (.astore_n 3, 1) := by decide +kernel
theorem dX9_unit_6 : decode cX9_unit 6 = .ok (.iload_n 2, 1) := by decide +kernel
theorem dX9_unit_7 : decode cX9_unit 7 = .ok (.iconst 0, 1) := by decide +kernel
theorem dX9_unit_8 : decode cX9_unit 8 = .ok (.ldc 65, 2) := by decide +kernel
theorem dX9_unit_10 : decode cX9_unit 10 = .ok (.invokestatic 66, 3) := by decide +kernel
theorem dX9_unit_13 : decode cX9_unit 13 = .ok (.aload_n 0, 1) := by decide +kernel
theorem dX9_unit_14 : decode cX9_unit 14 = .ok (.getfield 10, 3) := by decide +kernel
theorem dX9_unit_17 : decode cX9_unit 17 = .ok (.invokevirtual 70, 3) := by decide +kernel
theorem dX9_unit_20 : decode cX9_unit 20 = .ok (.istore 4, 2) := by decide +kernel
theorem dX9_unit_22 : decode cX9_unit 22 = .ok (.iload 4, 2) := by decide +kernel
theorem dX9_unit_24 : decode cX9_unit 24 = .ok (.bipush 6, 2) := by decide +kernel
theorem dX9_unit_26 : decode cX9_unit 26 = .ok (.if_icmp .lt 13, 3) := by decide +kernel
theorem dX9_unit_29 : decode cX9_unit 29 = .ok (.new 74, 3) := by decide +kernel
theorem dX9_unit_32 : decode cX9_unit 32 = .ok (.dup, 1) := by decide +kernel
theorem dX9_unit_33 : decode cX9_unit 33 = .ok (.ldc 76, 2) := by decide +kernel
theorem dX9_unit_35 : decode cX9_unit 35 = .ok (.invokespecial 78, 3) := by decide +kernel
theorem dX9_unit_38 : decode cX9_unit 38 = .ok (.athrow, 1) := by decide +kernel
theorem dX9_unit_39 : decode cX9_unit 39 = .ok (.aload_n 0, 1) := by decide +kernel
theorem dX9_unit_40 : decode cX9_unit 40 = .ok (.getfield 10, 3) := by decide +kernel
theorem dX9_unit_43 : decode cX9_unit 43 = .ok (.new 81, 3) := by decide +kernel
theorem dX9_unit_46 : decode cX9_unit 46 = .ok (.dup, 1) := by decide +kernel
theorem dX9_unit_47 : decode cX9_unit 47 = .ok (.iload_n 1, 1) := by decide +kernel
theorem dX9_unit_48 : decode cX9_unit 48 = .ok (.iload_n 2, 1) := by decide +kernel
theorem dX9_unit_49 : decode cX9_unit 49 = .ok (.invokespecial 83, 3) := by decide +kernel
theorem dX9_unit_52 : decode cX9_unit 52 = .ok (.invokevirtual 86, 3) := by decide +kernel
theorem dX9_unit_55 : decode cX9_unit 55 = .ok (.pop, 1) := by decide +kernel
theorem dX9_unit_56 : decode cX9_unit 56 = .ok (.aload_n 3, 1) := by decide +kernel
theorem dX9_unit_57 : decode cX9_unit 57 = .ok (.iload 4, 2) := by decide +kernel
theorem dX9_unit_59 : decode cX9_unit 59 = .ok (.invokevirtual 90, 3) := by decide +kernel
theorem dX9_unit_62 : decode cX9_unit 62 = .ok (.iload 4, 2) := by decide +kernel
theorem dX9_unit_64 : decode cX9_unit 64 = .ok (.ireturn, 1) := by decide +kernel
theorem dX9_diagram_0 : decode cX9_diagram 0 = .ok (.iload_n 1, 1) := by decide +kernel
theorem dX9_diagram_1 : decode cX9_diagram 1 = .ok (.iconst 3, 1) := by decide +kernel
theorem dX9_diagram_2 : decode cX9_diagram 2 = .ok (.invokestatic 94, 3) := by decide +kernel
theorem dX9_diagram_5 : decode cX9_diagram 5 = .ok (.iload_n 2, 1) := by decide +kernel
theorem dX9_diagram_6 : decode cX9_diagram 6 = .ok (.iconst 3, 1) := by decide +kernel
theorem dX9_diagram_7 : decode cX9_diagram 7 = .ok (.invokestatic 94, 3) := by decide +kernel
theorem dX9_diagram_10 : decode cX9_diagram 10 = .ok (.iload_n 3, 1) := by decide +kernel
theorem dX9_diagram_11 : decode cX9_diagram 11 = .ok (.iconst 1, 1) := by decide +kernel
theorem dX9_diagram_12 : decode cX9_diagram 12 = .ok (.sipush 2000, 3) := by decide +kernel
theorem dX9_diagram_15 : decode cX9_diagram 15 = .ok (.invokestatic 66, 3) := by decide +kernel
theorem dX9_diagram_18 : decode cX9_diagram 18 = .ok (.iload 4, 2) := by decide +kernel
theorem dX9_diagram_20 : decode cX9_diagram 20 = .ok (.iconst 0, 1) := by decide +kernel
theorem dX9_diagram_21 : decode cX9_diagram 21 = .ok (.iconst 2, 1) := by decide +kernel
theorem dX9_diagram_22 : decode cX9_diagram 22 = .ok (.invokestatic 66, 3) := by decide +kernel
theorem dX9_diagram_25 : decode cX9_diagram 25 = .ok (.iload 5, 2) := by decide +kernel
theorem dX9_diagram_27 : decode cX9_diagram 27 = .ok (.iconst 1, 1) := by decide +kernel
theorem dX9_diagram_28 : decode cX9_diagram 28 = .ok (.bipush 100, 2) := by decide +kernel
theorem dX9_diagram_30 : decode cX9_diagram 30 = .ok (.invokestatic 66, 3) := by decide +kernel
theorem dX9_diagram_33 : decode cX9_diagram 33 = .ok (.aload_n 0, 1) := by decide +kernel
theorem dX9_diagram_34 : decode cX9_diagram 34 = .ok (.getfield 16, 3) := by decide +kernel
theorem dX9_diagram_37 : decode cX9_diagram 37 = .ok (.invokevirtual 70, 3) := by decide +kernel
theorem dX9_diagram_40 : decode cX9_diagram 40 = .ok (.istore 6, 2) := by decide +kernel
theorem dX9_diagram_42 : decode cX9_diagram 42 = .ok (.iload 6, 2) := by decide +kernel
theorem dX9_diagram_44 : decode cX9_diagram 44 = .ok (.bipush 6, 2) := by decide +kernel
theorem dX9_diagram_46 : decode cX9_diagram 46 = .ok (.if_icmp .lt 13, 3) := by decide +kernel
theorem dX9_diagram_49 : decode cX9_diagram 49 = .ok (.new 74, 3) := by decide +kernel
theorem dX9_diagram_52 : decode cX9_diagram 52 = .ok (.dup, 1) := by decide +kernel
theorem dX9_diagram_53 : decode cX9_diagram 53 = .ok (.ldc 97, 2) := by decide +kernel
theorem dX9_diagram_55 : decode cX9_diagram 55 = .ok (.invokespecial 78, 3) := by decide +kernel
theorem dX9_diagram_58 : decode cX9_diagram 58 = .ok (.athrow, 1) := by decide +kernel
theorem dX9_diagram_59 : decode cX9_diagram 59 = .ok (.aload_n 0, 1) := by decide +kernel
theorem dX9_diagram_60 : decode cX9_diagram 60 = .ok (.getfield 16, 3) := by decide +kernel
theorem dX9_diagram_63 : decode cX9_diagram 63 = .ok (.new 99, 3) := by decide +kernel
theorem dX9_diagram_66 : decode cX9_diagram 66 = .ok (.dup, 1) := by decide +kernel
theorem dX9_diagram_67 : decode cX9_diagram 67 = .ok (.iload_n 1, 1) := by decide +kernel
theorem dX9_diagram_68 : decode cX9_diagram 68 = .ok (.iload_n 2, 1) := by decide +kernel
theorem dX9_diagram_69 : decode cX9_diagram 69 = .ok (.iload_n 3, 1) := by decide +kernel
theorem dX9_diagram_70 : decode cX9_diagram 70 = .ok (.iload 4, 2) := by decide +kernel
theorem dX9_diagram_72 : decode cX9_diagram 72 = .ok (.iload 5, 2) := by decide +kernel
