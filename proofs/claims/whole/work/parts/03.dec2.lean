theorem dX9_ran_8 : decode cX9_ran 8 = .ok (.invokestatic 94, 3) := by decide +kernel
theorem dX9_ran_11 : decode cX9_ran 11 = .ok (.iload_n 2, 1) := by decide +kernel
theorem dX9_ran_12 : decode cX9_ran 12 = .ok (.iconst 0, 1) := by decide +kernel
theorem dX9_ran_13 : decode cX9_ran 13 = .ok (.aload_n 0, 1) := by decide +kernel
theorem dX9_ran_14 : decode cX9_ran 14 = .ok (.getfield 46, 3) := by decide +kernel
theorem dX9_ran_17 : decode cX9_ran 17 = .ok (.iconst 1, 1) := by decide +kernel
theorem dX9_ran_18 : decode cX9_ran 18 = .ok (.isub, 1) := by decide +kernel
theorem dX9_ran_19 : decode cX9_ran 19 = .ok (.invokestatic 66, 3) := by decide +kernel
theorem dX9_ran_22 : decode cX9_ran 22 = .ok (.aload_n 0, 1) := by decide +kernel
theorem dX9_ran_23 : decode cX9_ran 23 = .ok (.getfield 42, 3) := by decide +kernel
theorem dX9_ran_26 : decode cX9_ran 26 = .ok (.iload_n 1, 1) := by decide +kernel
theorem dX9_ran_27 : decode cX9_ran 27 = .ok (.iload_n 2, 1) := by decide +kernel
theorem dX9_ran_28 : decode cX9_ran 28 = .ok (.invokevirtual 259, 3) := by decide +kernel
theorem dX9_ran_31 : decode cX9_ran 31 = .ok (.ireturn, 1) := by decide +kernel
theorem dX9_kmAnew_0 : decode cX9_kmAnew 0 = .ok (.aload_n 0, 1) := by decide +kernel
theorem dX9_kmAnew_1 : decode cX9_kmAnew 1 = .ok (.iload_n 1, 1) := by decide +kernel
theorem dX9_kmAnew_2 : decode cX9_kmAnew 2 = .ok (.invokevirtual 133, 3) := by decide +kernel
theorem dX9_kmAnew_5 : decode cX9_kmAnew 5 = .ok (.getfield 263, 3) := by decide +kernel
theorem dX9_kmAnew_8 : decode cX9_kmAnew 8 = .ok (.istore_n 2, 1) := by decide +kernel
theorem dX9_kmAnew_9 : decode cX9_kmAnew 9 = .ok (.iconst 0, 1) := by decide +kernel
theorem dX9_kmAnew_10 : decode cX9_kmAnew 10 = .ok (.istore_n 3, 1) := by decide +kernel
theorem dX9_kmAnew_11 : decode cX9_kmAnew 11 = .ok (.iload_n 3, 1) := by decide +kernel
theorem dX9_kmAnew_12 : decode cX9_kmAnew 12 = .ok (.aload_n 0, 1) := by decide +kernel
theorem dX9_kmAnew_13 : decode cX9_kmAnew 13 = .ok (.getfield 16, 3) := by decide +kernel
theorem dX9_kmAnew_16 : decode cX9_kmAnew 16 = .ok (.invokevirtual 70, 3) := by decide +kernel
theorem dX9_kmAnew_19 : decode cX9_kmAnew 19 = .ok (.if_icmp .ge 30, 3) := by decide +kernel
theorem dX9_kmAnew_22 : decode cX9_kmAnew 22 = .ok (.iload_n 2, 1) := by decide +kernel
theorem dX9_kmAnew_23 : decode cX9_kmAnew 23 = .ok (.aload_n 0, 1) := by decide +kernel
theorem dX9_kmAnew_24 : decode cX9_kmAnew 24 = .ok (.iload_n 3, 1) := by decide +kernel
theorem dX9_kmAnew_25 : decode cX9_kmAnew 25 = .ok (.invokevirtual 147, 3) := by decide +kernel
theorem dX9_kmAnew_28 : decode cX9_kmAnew 28 = .ok (.getfield 266, 3) := by decide +kernel
theorem dX9_kmAnew_31 : decode cX9_kmAnew 31 = .ok (.aload_n 0, 1) := by decide +kernel
theorem dX9_kmAnew_32 : decode cX9_kmAnew 32 = .ok (.getfield 42, 3) := by decide +kernel
theorem dX9_kmAnew_35 : decode cX9_kmAnew 35 = .ok (.iload_n 3, 1) := by decide +kernel
theorem dX9_kmAnew_36 : decode cX9_kmAnew 36 = .ok (.iload_n 1, 1) := by decide +kernel
theorem dX9_kmAnew_37 : decode cX9_kmAnew 37 = .ok (.invokevirtual 267, 3) := by decide +kernel
theorem dX9_kmAnew_40 : decode cX9_kmAnew 40 = .ok (.imul, 1) := by decide +kernel
theorem dX9_kmAnew_41 : decode cX9_kmAnew 41 = .ok (.iadd, 1) := by decide +kernel
theorem dX9_kmAnew_42 : decode cX9_kmAnew 42 = .ok (.istore_n 2, 1) := by decide +kernel
theorem dX9_kmAnew_43 : decode cX9_kmAnew 43 = .ok (.iinc 3 1, 3) := by decide +kernel
theorem dX9_kmAnew_46 : decode cX9_kmAnew 46 = .ok (.goto (-35), 3) := by decide +kernel
theorem dX9_kmAnew_49 : decode cX9_kmAnew 49 = .ok (.iload_n 2, 1) := by decide +kernel
theorem dX9_kmAnew_50 : decode cX9_kmAnew 50 = .ok (.ireturn, 1) := by decide +kernel
theorem dX9_checkNumber_0 : decode cX9_checkNumber 0 = .ok (.iload_n 0, 1) := by decide +kernel
theorem dX9_checkNumber_1 : decode cX9_checkNumber 1 = .ok (.ifCond .lt 8, 3) := by decide +kernel
theorem dX9_checkNumber_4 : decode cX9_checkNumber 4 = .ok (.iload_n 0, 1) := by decide +kernel
theorem dX9_checkNumber_5 : decode cX9_checkNumber 5 = .ok (.iload_n 1, 1) := by decide +kernel
theorem dX9_checkNumber_6 : decode cX9_checkNumber 6 = .ok (.if_icmp .lt 14, 3) := by decide +kernel
theorem dX9_checkNumber_9 : decode cX9_checkNumber 9 = .ok (.new 251, 3) := by decide +kernel
theorem dX9_checkNumber_12 : decode cX9_checkNumber 12 = .ok (.dup, 1) := by decide +kernel
theorem dX9_checkNumber_13 : decode cX9_checkNumber 13 = .ok (.ldc_w 270, 3) := by decide +kernel
theorem dX9_checkNumber_16 : decode cX9_checkNumber 16 = .ok (.invokespecial 255, 3) := by decide +kernel
theorem dX9_checkNumber_19 : decode cX9_checkNumber 19 = .ok (.athrow, 1) := by decide +kernel
theorem dX9_checkNumber_20 : decode cX9_checkNumber 20 = .ok (.return_, 1) := by decide +kernel
theorem dX9_checkRange_0 : decode cX9_checkRange 0 = .ok (.iload_n 0, 1) := by decide +kernel
theorem dX9_checkRange_1 : decode cX9_checkRange 1 = .ok (.iload_n 1, 1) := by decide +kernel
theorem dX9_checkRange_2 : decode cX9_checkRange 2 = .ok (.if_icmp .lt 8, 3) := by decide +kernel
theorem dX9_checkRange_5 : decode cX9_checkRange 5 = .ok (.iload_n 0, 1) := by decide +kernel
theorem dX9_checkRange_6 : decode cX9_checkRange 6 = .ok (.iload_n 2, 1) := by decide +kernel
theorem dX9_checkRange_7 : decode cX9_checkRange 7 = .ok (.if_icmp .le 14, 3) := by decide +kernel
theorem dX9_checkRange_10 : decode cX9_checkRange 10 = .ok (.new 226, 3) := by decide +kernel
theorem dX9_checkRange_13 : decode cX9_checkRange 13 = .ok (.dup, 1) := by decide +kernel
theorem dX9_checkRange_14 : decode cX9_checkRange 14 = .ok (.ldc_w 272, 3) := by decide +kernel
theorem dX9_checkRange_17 : decode cX9_checkRange 17 = .ok (.invokespecial 230, 3) := by decide +kernel
theorem dX9_checkRange_20 : decode cX9_checkRange 20 = .ok (.athrow, 1) := by decide +kernel
theorem dX9_checkRange_21 : decode cX9_checkRange 21 = .ok (.return_, 1) := by decide +kernel
theorem dX9_unitAt_0 : decode cX9_unitAt 0 = .ok (.iload_n 1, 1) := by decide +kernel
theorem dX9_unitAt_1 : decode cX9_unitAt 1 = .ok (.ifCond .lt 28, 3) := by decide +kernel
theorem dX9_unitAt_4 : decode cX9_unitAt 4 = .ok (.iload_n 1, 1) := by decide +kernel
theorem dX9_unitAt_5 : decode cX9_unitAt 5 = .ok (.aload_n 0, 1) := by decide +kernel
theorem dX9_unitAt_6 : decode cX9_unitAt 6 = .ok (.getfield 10, 3) := by decide +kernel
theorem dX9_unitAt_9 : decode cX9_unitAt 9 = .ok (.invokevirtual 70, 3) := by decide +kernel
theorem dX9_unitAt_12 : decode cX9_unitAt 12 = .ok (.if_icmp .ge 17, 3) := by decide +kernel
theorem dX9_unitAt_15 : decode cX9_unitAt 15 = .ok (.aload_n 0, 1) := by decide +kernel
theorem dX9_unitAt_16 : decode cX9_unitAt 16 = .ok (.getfield 10, 3) := by decide +kernel
theorem dX9_unitAt_19 : decode cX9_unitAt 19 = .ok (.iload_n 1, 1) := by decide +kernel
theorem dX9_unitAt_20 : decode cX9_unitAt 20 = .ok (.invokevirtual 274, 3) := by decide +kernel
theorem dX9_unitAt_23 : decode cX9_unitAt 23 = .ok (.checkcast 81, 3) := by decide +kernel
theorem dX9_unitAt_26 : decode cX9_unitAt 26 = .ok (.goto 4, 3) := by decide +kernel
theorem dX9_unitAt_29 : decode cX9_unitAt 29 = .ok (.aconst_null, 1) := by decide +kernel
theorem dX9_unitAt_30 : decode cX9_unitAt 30 = .ok (.astore_n 2, 1) := by decide +kernel
theorem dX9_unitAt_31 : decode cX9_unitAt 31 = .ok (.aload_n 2, 1) := by decide +kernel
theorem dX9_unitAt_32 : decode cX9_unitAt 32 = .ok (.ifnonnull 14, 3) := by decide +kernel
theorem dX9_unitAt_35 : decode cX9_unitAt 35 = .ok (.new 251, 3) := by decide +kernel
theorem dX9_unitAt_38 : decode cX9_unitAt 38 = .ok (.dup, 1) := by decide +kernel
theorem dX9_unitAt_39 : decode cX9_unitAt 39 = .ok (.ldc_w 278, 3) := by decide +kernel
theorem dX9_unitAt_42 : decode cX9_unitAt 42 = .ok (.invokespecial 255, 3) := by decide +kernel
theorem dX9_unitAt_45 : decode cX9_unitAt 45 = .ok (.athrow, 1) := by decide +kernel
theorem dX9_unitAt_46 : decode cX9_unitAt 46 = .ok (.aload_n 2, 1) := by decide +kernel
theorem dX9_unitAt_47 : decode cX9_unitAt 47 = .ok (.areturn, 1) := by decide +kernel
theorem dX9_diagramAt_0 : decode cX9_diagramAt 0 = .ok (.iload_n 1, 1) := by decide +kernel
theorem dX9_diagramAt_1 : decode cX9_diagramAt 1 = .ok (.ifCond .lt 28, 3) := by decide +kernel
theorem dX9_diagramAt_4 : decode cX9_diagramAt 4 = .ok (.iload_n 1, 1) := by decide +kernel
theorem dX9_diagramAt_5 : decode cX9_diagramAt 5 = .ok (.aload_n 0, 1) := by decide +kernel
theorem dX9_diagramAt_6 : decode cX9_diagramAt 6 = .ok (.getfield 16, 3) := by decide +kernel
theorem dX9_diagramAt_9 : decode cX9_diagramAt 9 = .ok (.invokevirtual 70, 3) := by decide +kernel
theorem dX9_diagramAt_12 : decode cX9_diagramAt 12 = .ok (.if_icmp .ge 17, 3) := by decide +kernel
theorem dX9_diagramAt_15 : decode cX9_diagramAt 15 = .ok (.aload_n 0, 1) := by decide +kernel
theorem dX9_diagramAt_16 : decode cX9_diagramAt 16 = .ok (.getfield 16, 3) := by decide +kernel
theorem dX9_diagramAt_19 : decode cX9_diagramAt 19 = .ok (.iload_n 1, 1) := by decide +kernel
theorem dX9_diagramAt_20 : decode cX9_diagramAt 20 = .ok (.invokevirtual 274, 3) := by decide +kernel
theorem dX9_diagramAt_23 : decode cX9_diagramAt 23 = .ok (.checkcast 99, 3) := by decide +kernel
theorem dX9_diagramAt_26 : decode cX9_diagramAt 26 = .ok (.goto 4, 3) := by decide +kernel
theorem dX9_diagramAt_29 : decode cX9_diagramAt 29 = .ok (.aconst_null, 1) := by decide +kernel
theorem dX9_diagramAt_30 : decode cX9_diagramAt 30 = .ok (.astore_n 2, 1) := by decide +kernel
theorem dX9_diagramAt_31 : decode cX9_diagramAt 31 = .ok (.aload_n 2, 1) := by decide +kernel
theorem dX9_diagramAt_32 : decode cX9_diagramAt 32 = .ok (.ifnonnull 14, 3) := by decide +kernel
theorem dX9_diagramAt_35 : decode cX9_diagramAt 35 = .ok (.new 251, 3) := by decide +kernel
theorem dX9_diagramAt_38 : decode cX9_diagramAt 38 = .ok (.dup, 1) := by decide +kernel
theorem dX9_diagramAt_39 : decode cX9_diagramAt 39 = .ok (.ldc_w 280, 3) := by decide +kernel
theorem dX9_diagramAt_42 : decode cX9_diagramAt 42 = .ok (.invokespecial 255, 3) := by decide +kernel
theorem dX9_diagramAt_45 : decode cX9_diagramAt 45 = .ok (.athrow, 1) := by decide +kernel
theorem dX9_diagramAt_46 : decode cX9_diagramAt 46 = .ok (.aload_n 2, 1) := by decide +kernel
theorem dX9_diagramAt_47 : decode cX9_diagramAt 47 = .ok (.areturn, 1) := by decide +kernel
theorem dX9_rowAt_0 : decode cX9_rowAt 0 = .ok (.iload_n 1, 1) := by decide +kernel
theorem dX9_rowAt_1 : decode cX9_rowAt 1 = .ok (.ifCond .lt 21, 3) := by decide +kernel
theorem dX9_rowAt_4 : decode cX9_rowAt 4 = .ok (.iload_n 1, 1) := by decide +kernel
theorem dX9_rowAt_5 : decode cX9_rowAt 5 = .ok (.aload_n 0, 1) := by decide +kernel
theorem dX9_rowAt_6 : decode cX9_rowAt 6 = .ok (.getfield 21, 3) := by decide +kernel
theorem dX9_rowAt_9 : decode cX9_rowAt 9 = .ok (.arraylength, 1) := by decide +kernel
theorem dX9_rowAt_10 : decode cX9_rowAt 10 = .ok (.if_icmp .ge 12, 3) := by decide +kernel
theorem dX9_rowAt_13 : decode cX9_rowAt 13 = .ok (.aload_n 0, 1) := by decide +kernel
theorem dX9_rowAt_14 : decode cX9_rowAt 14 = .ok (.getfield 21, 3) := by decide +kernel
theorem dX9_rowAt_17 : decode cX9_rowAt 17 = .ok (.iload_n 1, 1) := by decide +kernel
theorem dX9_rowAt_18 : decode cX9_rowAt 18 = .ok (.aaload, 1) := by decide +kernel
theorem dX9_rowAt_19 : decode cX9_rowAt 19 = .ok (.goto 4, 3) := by decide +kernel
theorem dX9_rowAt_22 : decode cX9_rowAt 22 = .ok (.aconst_null, 1) := by decide +kernel
theorem dX9_rowAt_23 : decode cX9_rowAt 23 = .ok (.astore_n 2, 1) := by decide +kernel
theorem dX9_rowAt_24 : decode cX9_rowAt 24 = .ok (.aload_n 2, 1) := by decide +kernel
theorem dX9_rowAt_25 : decode cX9_rowAt 25 = .ok (.ifnonnull 14, 3) := by decide +kernel
theorem dX9_rowAt_28 : decode cX9_rowAt 28 = .ok (.new 251, 3) := by decide +kernel
theorem dX9_rowAt_31 : decode cX9_rowAt 31 = .ok (.dup, 1) := by decide +kernel
theorem dX9_rowAt_32 : decode cX9_rowAt 32 = .ok (.ldc_w 282, 3) := by decide +kernel
theorem dX9_rowAt_35 : decode cX9_rowAt 35 = .ok (.invokespecial 255, 3) := by decide +kernel
theorem dX9_rowAt_38 : decode cX9_rowAt 38 = .ok (.athrow, 1) := by decide +kernel
theorem dX9_rowAt_39 : decode cX9_rowAt 39 = .ok (.aload_n 2, 1) := by decide +kernel
theorem dX9_rowAt_40 : decode cX9_rowAt 40 = .ok (.areturn, 1) := by decide +kernel
theorem dX9_readMorning_0 : decode cX9_readMorning 0 = .ok (.aload_n 0, 1) := by decide +kernel
theorem dX9_readMorning_1 : decode cX9_readMorning 1 = .ok (.getfield 35, 3) := by decide +kernel
theorem dX9_readMorning_4 : decode cX9_readMorning 4 = .ok (.aload_n 0, 1) := by decide +kernel
theorem dX9_readMorning_5 : decode cX9_readMorning 5 = .ok (.getfield 10, 3) := by decide +kernel
theorem dX9_readMorning_8 : decode cX9_readMorning 8 = .ok (.invokevirtual 70, 3) := by decide +kernel
theorem dX9_readMorning_11 : decode cX9_readMorning 11 = .ok (.invokevirtual 284, 3) := by decide +kernel
theorem dX9_readMorning_14 : decode cX9_readMorning 14 = .ok (.iconst 0, 1) := by decide +kernel
theorem dX9_readMorning_15 : decode cX9_readMorning 15 = .ok (.istore_n 1, 1) := by decide +kernel
theorem dX9_readMorning_16 : decode cX9_readMorning 16 = .ok (.iload_n 1, 1) := by decide +kernel
theorem dX9_readMorning_17 : decode cX9_readMorning 17 = .ok (.aload_n 0, 1) := by decide +kernel
theorem dX9_readMorning_18 : decode cX9_readMorning 18 = .ok (.getfield 16, 3) := by decide +kernel
theorem dX9_readMorning_21 : decode cX9_readMorning 21 = .ok (.invokevirtual 70, 3) := by decide +kernel
theorem dX9_readMorning_24 : decode cX9_readMorning 24 = .ok (.if_icmp .ge 124, 3) := by decide +kernel
theorem dX9_readMorning_27 : decode cX9_readMorning 27 = .ok (.aload_n 0, 1) := by decide +kernel
theorem dX9_readMorning_28 : decode cX9_readMorning 28 = .ok (.iload_n 1, 1) := by decide +kernel
theorem dX9_readMorning_29 : decode cX9_readMorning 29 = .ok (.invokevirtual 147, 3) := by decide +kernel
theorem dX9_readMorning_32 : decode cX9_readMorning 32 = .ok (.astore_n 2, 1) := by decide +kernel
theorem dX9_readMorning_33 : decode cX9_readMorning 33 = .ok (.iconst 0, 1) := by decide +kernel
theorem dX9_readMorning_34 : decode cX9_readMorning 34 = .ok (.istore_n 3, 1) := by decide +kernel
theorem dX9_readMorning_35 : decode cX9_readMorning 35 = .ok (.iconst 0, 1) := by decide +kernel
theorem dX9_readMorning_36 : decode cX9_readMorning 36 = .ok (.istore 4, 2) := by decide +kernel
theorem dX9_readMorning_38 : decode cX9_readMorning 38 = .ok (.iconst 0, 1) := by decide +kernel
theorem dX9_readMorning_39 : decode cX9_readMorning 39 = .ok (.istore 5, 2) := by decide +kernel
theorem dX9_readMorning_41 : decode cX9_readMorning 41 = .ok (.iload 5, 2) := by decide +kernel
theorem dX9_readMorning_43 : decode cX9_readMorning 43 = .ok (.aload_n 0, 1) := by decide +kernel
theorem dX9_readMorning_44 : decode cX9_readMorning 44 = .ok (.getfield 10, 3) := by decide +kernel
theorem dX9_readMorning_47 : decode cX9_readMorning 47 = .ok (.invokevirtual 70, 3) := by decide +kernel
theorem dX9_readMorning_50 : decode cX9_readMorning 50 = .ok (.if_icmp .ge 78, 3) := by decide +kernel
theorem dX9_readMorning_53 : decode cX9_readMorning 53 = .ok (.aload_n 0, 1) := by decide +kernel
theorem dX9_readMorning_54 : decode cX9_readMorning 54 = .ok (.iload 5, 2) := by decide +kernel
theorem dX9_readMorning_56 : decode cX9_readMorning 56 = .ok (.invokevirtual 133, 3) := by decide +kernel
theorem dX9_readMorning_59 : decode cX9_readMorning 59 = .ok (.astore 6, 2) := by decide +kernel
theorem dX9_readMorning_61 : decode cX9_readMorning 61 = .ok (.aload_n 2, 1) := by decide +kernel
theorem dX9_readMorning_62 : decode cX9_readMorning 62 = .ok (.iload 5, 2) := by decide +kernel
theorem dX9_readMorning_64 : decode cX9_readMorning 64 = .ok (.invokevirtual 287, 3) := by decide +kernel
theorem dX9_readMorning_67 : decode cX9_readMorning 67 = .ok (.ifCond .eq 27, 3) := by decide +kernel
theorem dX9_readMorning_70 : decode cX9_readMorning 70 = .ok (.aload_n 0, 1) := by decide +kernel
theorem dX9_readMorning_71 : decode cX9_readMorning 71 = .ok (.getfield 28, 3) := by decide +kernel
theorem dX9_readMorning_74 : decode cX9_readMorning 74 = .ok (.aload 6, 2) := by decide +kernel
theorem dX9_readMorning_76 : decode cX9_readMorning 76 = .ok (.aload_n 2, 1) := by decide +kernel
theorem dX9_readMorning_77 : decode cX9_readMorning 77 = .ok (.aload_n 0, 1) := by decide +kernel
theorem dX9_readMorning_78 : decode cX9_readMorning 78 = .ok (.getfield 46, 3) := by decide +kernel
theorem dX9_readMorning_81 : decode cX9_readMorning 81 = .ok (.invokevirtual 154, 3) := by decide +kernel
theorem dX9_readMorning_84 : decode cX9_readMorning 84 = .ok (.ifCond .ne 10, 3) := by decide +kernel
theorem dX9_readMorning_87 : decode cX9_readMorning 87 = .ok (.iload_n 3, 1) := by decide +kernel
theorem dX9_readMorning_88 : decode cX9_readMorning 88 = .ok (.iconst 1, 1) := by decide +kernel
theorem dX9_readMorning_89 : decode cX9_readMorning 89 = .ok (.iload 5, 2) := by decide +kernel
theorem dX9_readMorning_91 : decode cX9_readMorning 91 = .ok (.ishl, 1) := by decide +kernel
theorem dX9_readMorning_92 : decode cX9_readMorning 92 = .ok (.ior, 1) := by decide +kernel
theorem dX9_readMorning_93 : decode cX9_readMorning 93 = .ok (.istore_n 3, 1) := by decide +kernel
theorem dX9_readMorning_94 : decode cX9_readMorning 94 = .ok (.aload_n 2, 1) := by decide +kernel
theorem dX9_readMorning_95 : decode cX9_readMorning 95 = .ok (.getfield 291, 3) := by decide +kernel
theorem dX9_readMorning_98 : decode cX9_readMorning 98 = .ok (.ifCond .ne 24, 3) := by decide +kernel
theorem dX9_readMorning_101 : decode cX9_readMorning 101 = .ok (.aload_n 0, 1) := by decide +kernel
theorem dX9_readMorning_102 : decode cX9_readMorning 102 = .ok (.getfield 28, 3) := by decide +kernel
theorem dX9_readMorning_105 : decode cX9_readMorning 105 = .ok (.aload 6, 2) := by decide +kernel
theorem dX9_readMorning_107 : decode cX9_readMorning 107 = .ok (.invokevirtual 218, 3) := by decide +kernel
theorem dX9_readMorning_110 : decode cX9_readMorning 110 = .ok (.ifCond .eq 12, 3) := by decide +kernel
theorem dX9_readMorning_113 : decode cX9_readMorning 113 = .ok (.iload 4, 2) := by decide +kernel
theorem dX9_readMorning_115 : decode cX9_readMorning 115 = .ok (.iconst 1, 1) := by decide +kernel
theorem dX9_readMorning_116 : decode cX9_readMorning 116 = .ok (.iload 5, 2) := by decide +kernel
theorem dX9_readMorning_118 : decode cX9_readMorning 118 = .ok (.ishl, 1) := by decide +kernel
theorem dX9_readMorning_119 : decode cX9_readMorning 119 = .ok (.ior, 1) := by decide +kernel
theorem dX9_readMorning_120 : decode cX9_readMorning 120 = .ok (.istore 4, 2) := by decide +kernel
theorem dX9_readMorning_122 : decode cX9_readMorning 122 = .ok (.iinc 5 1, 3) := by decide +kernel
theorem dX9_readMorning_125 : decode cX9_readMorning 125 = .ok (.goto (-84), 3) := by decide +kernel
theorem dX9_readMorning_128 : decode cX9_readMorning 128 = .ok (.aload_n 0, 1) := by decide +kernel
theorem dX9_readMorning_129 : decode cX9_readMorning 129 = .ok (.getfield 35, 3) := by decide +kernel
theorem dX9_readMorning_132 : decode cX9_readMorning 132 = .ok (.aload_n 2, 1) := by decide +kernel
theorem dX9_readMorning_133 : decode cX9_readMorning 133 = .ok (.getfield 294, 3) := by decide +kernel
theorem dX9_readMorning_136 : decode cX9_readMorning 136 = .ok (.iload_n 3, 1) := by decide +kernel
theorem dX9_readMorning_137 : decode cX9_readMorning 137 = .ok (.iload 4, 2) := by decide +kernel
theorem dX9_readMorning_139 : decode cX9_readMorning 139 = .ok (.invokevirtual 297, 3) := by decide +kernel
theorem dX9_readMorning_142 : decode cX9_readMorning 142 = .ok (.iinc 1 1, 3) := by decide +kernel
theorem dX9_readMorning_145 : decode cX9_readMorning 145 = .ok (.goto (-129), 3) := by decide +kernel
theorem dX9_readMorning_148 : decode cX9_readMorning 148 = .ok (.return_, 1) := by decide +kernel
theorem dX9_leaveRows_0 : decode cX9_leaveRows 0 = .ok (.iconst 0, 1) := by decide +kernel
theorem dX9_leaveRows_1 : decode cX9_leaveRows 1 = .ok (.istore_n 1, 1) := by decide +kernel
theorem dX9_leaveRows_2 : decode cX9_leaveRows 2 = .ok (.iload_n 1, 1) := by decide +kernel
theorem dX9_leaveRows_3 : decode cX9_leaveRows 3 = .ok (.aload_n 0, 1) := by decide +kernel
theorem dX9_leaveRows_4 : decode cX9_leaveRows 4 = .ok (.getfield 16, 3) := by decide +kernel
theorem dX9_leaveRows_7 : decode cX9_leaveRows 7 = .ok (.invokevirtual 70, 3) := by decide +kernel
theorem dX9_leaveRows_10 : decode cX9_leaveRows 10 = .ok (.if_icmp .ge 68, 3) := by decide +kernel
theorem dX9_leaveRows_13 : decode cX9_leaveRows 13 = .ok (.aload_n 0, 1) := by decide +kernel
theorem dX9_leaveRows_14 : decode cX9_leaveRows 14 = .ok (.getfield 35, 3) := by decide +kernel
theorem dX9_leaveRows_17 : decode cX9_leaveRows 17 = .ok (.iload_n 1, 1) := by decide +kernel
theorem dX9_leaveRows_18 : decode cX9_leaveRows 18 = .ok (.invokevirtual 164, 3) := by decide +kernel
theorem dX9_leaveRows_21 : decode cX9_leaveRows 21 = .ok (.istore_n 2, 1) := by decide +kernel
theorem dX9_leaveRows_22 : decode cX9_leaveRows 22 = .ok (.aload_n 0, 1) := by decide +kernel
theorem dX9_leaveRows_23 : decode cX9_leaveRows 23 = .ok (.getfield 42, 3) := by decide +kernel
theorem dX9_leaveRows_26 : decode cX9_leaveRows 26 = .ok (.iload_n 1, 1) := by decide +kernel
theorem dX9_leaveRows_27 : decode cX9_leaveRows 27 = .ok (.aload_n 0, 1) := by decide +kernel
theorem dX9_leaveRows_28 : decode cX9_leaveRows 28 = .ok (.getfield 46, 3) := by decide +kernel
theorem dX9_leaveRows_31 : decode cX9_leaveRows 31 = .ok (.iload_n 2, 1) := by decide +kernel
theorem dX9_leaveRows_32 : decode cX9_leaveRows 32 = .ok (.invokevirtual 300, 3) := by decide +kernel
theorem dX9_leaveRows_35 : decode cX9_leaveRows 35 = .ok (.iload_n 2, 1) := by decide +kernel
theorem dX9_leaveRows_36 : decode cX9_leaveRows 36 = .ok (.iconst (-1), 1) := by decide +kernel
theorem dX9_leaveRows_37 : decode cX9_leaveRows 37 = .ok (.if_icmp .eq 35, 3) := by decide +kernel
theorem dX9_leaveRows_40 : decode cX9_leaveRows 40 = .ok (.aload_n 0, 1) := by decide +kernel
theorem dX9_leaveRows_41 : decode cX9_leaveRows 41 = .ok (.aload_n 0, 1) := by decide +kernel
theorem dX9_leaveRows_42 : decode cX9_leaveRows 42 = .ok (.iload_n 2, 1) := by decide +kernel
theorem dX9_leaveRows_43 : decode cX9_leaveRows 43 = .ok (.invokevirtual 133, 3) := by decide +kernel
theorem dX9_leaveRows_46 : decode cX9_leaveRows 46 = .ok (.getfield 187, 3) := by decide +kernel
theorem dX9_leaveRows_49 : decode cX9_leaveRows 49 = .ok (.invokevirtual 61, 3) := by decide +kernel
theorem dX9_leaveRows_52 : decode cX9_leaveRows 52 = .ok (.astore_n 3, 1) := by decide +kernel
theorem dX9_leaveRows_53 : decode cX9_leaveRows 53 = .ok (.aload_n 0, 1) := by decide +kernel
theorem dX9_leaveRows_54 : decode cX9_leaveRows 54 = .ok (.dup, 1) := by decide +kernel
theorem dX9_leaveRows_55 : decode cX9_leaveRows 55 = .ok (.getfield 50, 3) := by decide +kernel
theorem dX9_leaveRows_58 : decode cX9_leaveRows 58 = .ok (.aload_n 3, 1) := by decide +kernel
theorem dX9_leaveRows_59 : decode cX9_leaveRows 59 = .ok (.iload_n 2, 1) := by decide +kernel
theorem dX9_leaveRows_60 : decode cX9_leaveRows 60 = .ok (.invokevirtual 215, 3) := by decide +kernel
theorem dX9_leaveRows_63 : decode cX9_leaveRows 63 = .ok (.iadd, 1) := by decide +kernel
theorem dX9_leaveRows_64 : decode cX9_leaveRows 64 = .ok (.putfield 50, 3) := by decide +kernel
theorem dX9_leaveRows_67 : decode cX9_leaveRows 67 = .ok (.aload_n 3, 1) := by decide +kernel
theorem dX9_leaveRows_68 : decode cX9_leaveRows 68 = .ok (.iload_n 2, 1) := by decide +kernel
theorem dX9_leaveRows_69 : decode cX9_leaveRows 69 = .ok (.invokevirtual 303, 3) := by decide +kernel
theorem dX9_leaveRows_72 : decode cX9_leaveRows 72 = .ok (.iinc 1 1, 3) := by decide +kernel
theorem dX9_leaveRows_75 : decode cX9_leaveRows 75 = .ok (.goto (-73), 3) := by decide +kernel
theorem dX9_leaveRows_78 : decode cX9_leaveRows 78 = .ok (.return_, 1) := by decide +kernel
theorem dX9_comeToDepots_0 : decode cX9_comeToDepots 0 = .ok (.iconst 0, 1) := by decide +kernel
theorem dX9_comeToDepots_1 : decode cX9_comeToDepots 1 = .ok (.istore_n 1, 1) := by decide +kernel
theorem dX9_comeToDepots_2 : decode cX9_comeToDepots 2 = .ok (.iload_n 1, 1) := by decide +kernel
theorem dX9_comeToDepots_3 : decode cX9_comeToDepots 3 = .ok (.aload_n 0, 1) := by decide +kernel
theorem dX9_comeToDepots_4 : decode cX9_comeToDepots 4 = .ok (.getfield 16, 3) := by decide +kernel
theorem dX9_comeToDepots_7 : decode cX9_comeToDepots 7 = .ok (.invokevirtual 70, 3) := by decide +kernel
theorem dX9_comeToDepots_10 : decode cX9_comeToDepots 10 = .ok (.if_icmp .ge 66, 3) := by decide +kernel
theorem dX9_comeToDepots_13 : decode cX9_comeToDepots 13 = .ok (.aload_n 0, 1) := by decide +kernel
theorem dX9_comeToDepots_14 : decode cX9_comeToDepots 14 = .ok (.getfield 35, 3) := by decide +kernel
theorem dX9_comeToDepots_17 : decode cX9_comeToDepots 17 = .ok (.iload_n 1, 1) := by decide +kernel
theorem dX9_comeToDepots_18 : decode cX9_comeToDepots 18 = .ok (.invokevirtual 164, 3) := by decide +kernel
theorem dX9_comeToDepots_21 : decode cX9_comeToDepots 21 = .ok (.istore_n 2, 1) := by decide +kernel
theorem dX9_comeToDepots_22 : decode cX9_comeToDepots 22 = .ok (.iload_n 2, 1) := by decide +kernel
theorem dX9_comeToDepots_23 : decode cX9_comeToDepots 23 = .ok (.iconst (-1), 1) := by decide +kernel
theorem dX9_comeToDepots_24 : decode cX9_comeToDepots 24 = .ok (.if_icmp .eq 46, 3) := by decide +kernel
theorem dX9_comeToDepots_27 : decode cX9_comeToDepots 27 = .ok (.aload_n 0, 1) := by decide +kernel
theorem dX9_comeToDepots_28 : decode cX9_comeToDepots 28 = .ok (.iload_n 1, 1) := by decide +kernel
theorem dX9_comeToDepots_29 : decode cX9_comeToDepots 29 = .ok (.invokevirtual 147, 3) := by decide +kernel
theorem dX9_comeToDepots_32 : decode cX9_comeToDepots 32 = .ok (.astore_n 3, 1) := by decide +kernel
theorem dX9_comeToDepots_33 : decode cX9_comeToDepots 33 = .ok (.aload_n 0, 1) := by decide +kernel
theorem dX9_comeToDepots_34 : decode cX9_comeToDepots 34 = .ok (.iload_n 2, 1) := by decide +kernel
theorem dX9_comeToDepots_35 : decode cX9_comeToDepots 35 = .ok (.invokevirtual 133, 3) := by decide +kernel
theorem dX9_comeToDepots_38 : decode cX9_comeToDepots 38 = .ok (.astore 4, 2) := by decide +kernel
theorem dX9_comeToDepots_40 : decode cX9_comeToDepots 40 = .ok (.aload 4, 2) := by decide +kernel
theorem dX9_comeToDepots_42 : decode cX9_comeToDepots 42 = .ok (.aload_n 3, 1) := by decide +kernel
theorem dX9_comeToDepots_43 : decode cX9_comeToDepots 43 = .ok (.getfield 291, 3) := by decide +kernel
theorem dX9_comeToDepots_46 : decode cX9_comeToDepots 46 = .ok (.putfield 187, 3) := by decide +kernel
theorem dX9_comeToDepots_49 : decode cX9_comeToDepots 49 = .ok (.aload 4, 2) := by decide +kernel
theorem dX9_comeToDepots_51 : decode cX9_comeToDepots 51 = .ok (.aload_n 3, 1) := by decide +kernel
theorem dX9_comeToDepots_52 : decode cX9_comeToDepots 52 = .ok (.getfield 266, 3) := by decide +kernel
theorem dX9_comeToDepots_55 : decode cX9_comeToDepots 55 = .ok (.invokevirtual 306, 3) := by decide +kernel
theorem dX9_comeToDepots_58 : decode cX9_comeToDepots 58 = .ok (.aload_n 0, 1) := by decide +kernel
theorem dX9_comeToDepots_59 : decode cX9_comeToDepots 59 = .ok (.aload_n 3, 1) := by decide +kernel
theorem dX9_comeToDepots_60 : decode cX9_comeToDepots 60 = .ok (.getfield 291, 3) := by decide +kernel
theorem dX9_comeToDepots_63 : decode cX9_comeToDepots 63 = .ok (.invokevirtual 61, 3) := by decide +kernel
theorem dX9_comeToDepots_66 : decode cX9_comeToDepots 66 = .ok (.iload_n 2, 1) := by decide +kernel
theorem dX9_comeToDepots_67 : decode cX9_comeToDepots 67 = .ok (.invokevirtual 90, 3) := by decide +kernel
theorem dX9_comeToDepots_70 : decode cX9_comeToDepots 70 = .ok (.iinc 1 1, 3) := by decide +kernel
theorem dX9_comeToDepots_73 : decode cX9_comeToDepots 73 = .ok (.goto (-71), 3) := by decide +kernel
theorem dX9_comeToDepots_76 : decode cX9_comeToDepots 76 = .ok (.return_, 1) := by decide +kernel
theorem dX10_init_0 : decode cX10_init 0 = .ok (.aload_n 0, 1) := by decide +kernel
theorem dX10_init_1 : decode cX10_init 1 = .ok (.invokespecial 1, 3) := by decide +kernel
theorem dX10_init_4 : decode cX10_init 4 = .ok (.aload_n 0, 1) := by decide +kernel
theorem dX10_init_5 : decode cX10_init 5 = .ok (.bipush 6, 2) := by decide +kernel
theorem dX10_init_7 : decode cX10_init 7 = .ok (.newarray .int, 2) := by decide +kernel
theorem dX10_init_9 : decode cX10_init 9 = .ok (.putfield 7, 3) := by decide +kernel
theorem dX10_init_12 : decode cX10_init 12 = .ok (.aload_n 0, 1) := by decide +kernel
theorem dX10_init_13 : decode cX10_init 13 = .ok (.bipush 6, 2) := by decide +kernel
theorem dX10_init_15 : decode cX10_init 15 = .ok (.newarray .int, 2) := by decide +kernel
theorem dX10_init_17 : decode cX10_init 17 = .ok (.putfield 13, 3) := by decide +kernel
theorem dX10_init_20 : decode cX10_init 20 = .ok (.aload_n 0, 1) := by decide +kernel
theorem dX10_init_21 : decode cX10_init 21 = .ok (.bipush 6, 2) := by decide +kernel
theorem dX10_init_23 : decode cX10_init 23 = .ok (.newarray .int, 2) := by decide +kernel
theorem dX10_init_25 : decode cX10_init 25 = .ok (.putfield 16, 3) := by decide +kernel
theorem dX10_init_28 : decode cX10_init 28 = .ok (.aload_n 0, 1) := by decide +kernel
theorem dX10_init_29 : decode cX10_init 29 = .ok (.bipush 24, 2) := by decide +kernel
theorem dX10_init_31 : decode cX10_init 31 = .ok (.newarray .int, 2) := by decide +kernel
theorem dX10_init_33 : decode cX10_init 33 = .ok (.putfield 19, 3) := by decide +kernel
theorem dX10_init_36 : decode cX10_init 36 = .ok (.aload_n 0, 1) := by decide +kernel
theorem dX10_init_37 : decode cX10_init 37 = .ok (.bipush 18, 2) := by decide +kernel
theorem dX10_init_39 : decode cX10_init 39 = .ok (.newarray .int, 2) := by decide +kernel
theorem dX10_init_41 : decode cX10_init 41 = .ok (.putfield 22, 3) := by decide +kernel
theorem dX10_init_44 : decode cX10_init 44 = .ok (.aload_n 0, 1) := by decide +kernel
theorem dX10_init_45 : decode cX10_init 45 = .ok (.bipush 18, 2) := by decide +kernel
theorem dX10_init_47 : decode cX10_init 47 = .ok (.newarray .int, 2) := by decide +kernel
theorem dX10_init_49 : decode cX10_init 49 = .ok (.putfield 25, 3) := by decide +kernel
theorem dX10_init_52 : decode cX10_init 52 = .ok (.aload_n 0, 1) := by decide +kernel
theorem dX10_init_53 : decode cX10_init 53 = .ok (.bipush 18, 2) := by decide +kernel
theorem dX10_init_55 : decode cX10_init 55 = .ok (.newarray .int, 2) := by decide +kernel
theorem dX10_init_57 : decode cX10_init 57 = .ok (.putfield 28, 3) := by decide +kernel
theorem dX10_init_60 : decode cX10_init 60 = .ok (.aload_n 0, 1) := by decide +kernel
theorem dX10_init_61 : decode cX10_init 61 = .ok (.iconst 3, 1) := by decide +kernel
theorem dX10_init_62 : decode cX10_init 62 = .ok (.newarray .int, 2) := by decide +kernel
theorem dX10_init_64 : decode cX10_init 64 = .ok (.putfield 31, 3) := by decide +kernel
theorem dX10_init_67 : decode cX10_init 67 = .ok (.aload_n 0, 1) := by decide +kernel
theorem dX10_init_68 : decode cX10_init 68 = .ok (.bipush 6, 2) := by decide +kernel
theorem dX10_init_70 : decode cX10_init 70 = .ok (.newarray .int, 2) := by decide +kernel
theorem dX10_init_72 : decode cX10_init 72 = .ok (.putfield 34, 3) := by decide +kernel
theorem dX10_init_75 : decode cX10_init 75 = .ok (.aload_n 0, 1) := by decide +kernel
theorem dX10_init_76 : decode cX10_init 76 = .ok (.bipush 48, 2) := by decide +kernel
theorem dX10_init_78 : decode cX10_init 78 = .ok (.newarray .int, 2) := by decide +kernel
theorem dX10_init_80 : decode cX10_init 80 = .ok (.putfield 37, 3) := by decide +kernel
theorem dX10_init_83 : decode cX10_init 83 = .ok (.aload_n 0, 1) := by decide +kernel
theorem dX10_init_84 : decode cX10_init 84 = .ok (.bipush 48, 2) := by decide +kernel
theorem dX10_init_86 : decode cX10_init 86 = .ok (.newarray .int, 2) := by decide +kernel
theorem dX10_init_88 : decode cX10_init 88 = .ok (.putfield 40, 3) := by decide +kernel
theorem dX10_init_91 : decode cX10_init 91 = .ok (.aload_n 0, 1) := by decide +kernel
theorem dX10_init_92 : decode cX10_init 92 = .ok (.bipush 48, 2) := by decide +kernel
theorem dX10_init_94 : decode cX10_init 94 = .ok (.newarray .int, 2) := by decide +kernel
theorem dX10_init_96 : decode cX10_init 96 = .ok (.putfield 43, 3) := by decide +kernel
theorem dX10_init_99 : decode cX10_init 99 = .ok (.aload_n 0, 1) := by decide +kernel
theorem dX10_init_100 : decode cX10_init 100 = .ok (.bipush 48, 2) := by decide +kernel
theorem dX10_init_102 : decode cX10_init 102 = .ok (.newarray .int, 2) := by decide +kernel
theorem dX10_init_104 : decode cX10_init 104 = .ok (.putfield 46, 3) := by decide +kernel
theorem dX10_init_107 : decode cX10_init 107 = .ok (.aload_n 0, 1) := by decide +kernel
theorem dX10_init_108 : decode cX10_init 108 = .ok (.bipush 6, 2) := by decide +kernel
theorem dX10_init_110 : decode cX10_init 110 = .ok (.newarray .int, 2) := by decide +kernel
theorem dX10_init_112 : decode cX10_init 112 = .ok (.putfield 49, 3) := by decide +kernel
theorem dX10_init_115 : decode cX10_init 115 = .ok (.aload_n 0, 1) := by decide +kernel
theorem dX10_init_116 : decode cX10_init 116 = .ok (.bipush 6, 2) := by decide +kernel
theorem dX10_init_118 : decode cX10_init 118 = .ok (.newarray .int, 2) := by decide +kernel
theorem dX10_init_120 : decode cX10_init 120 = .ok (.putfield 52, 3) := by decide +kernel
theorem dX10_init_123 : decode cX10_init 123 = .ok (.aload_n 0, 1) := by decide +kernel
theorem dX10_init_124 : decode cX10_init 124 = .ok (.bipush 6, 2) := by decide +kernel
theorem dX10_init_126 : decode cX10_init 126 = .ok (.newarray .int, 2) := by decide +kernel
theorem dX10_init_128 : decode cX10_init 128 = .ok (.putfield 55, 3) := by decide +kernel
theorem dX10_init_131 : decode cX10_init 131 = .ok (.aload_n 0, 1) := by decide +kernel
theorem dX10_init_132 : decode cX10_init 132 = .ok (.bipush 6, 2) := by decide +kernel
theorem dX10_init_134 : decode cX10_init 134 = .ok (.newarray .int, 2) := by decide +kernel
theorem dX10_init_136 : decode cX10_init 136 = .ok (.putfield 58, 3) := by decide +kernel
theorem dX10_init_139 : decode cX10_init 139 = .ok (.aload_n 0, 1) := by decide +kernel
theorem dX10_init_140 : decode cX10_init 140 = .ok (.bipush 6, 2) := by decide +kernel
theorem dX10_init_142 : decode cX10_init 142 = .ok (.newarray .int, 2) := by decide +kernel
theorem dX10_init_144 : decode cX10_init 144 = .ok (.putfield 61, 3) := by decide +kernel
theorem dX10_init_147 : decode cX10_init 147 = .ok (.aload_n 0, 1) := by decide +kernel
theorem dX10_init_148 : decode cX10_init 148 = .ok (.bipush 6, 2) := by decide +kernel
theorem dX10_init_150 : decode cX10_init 150 = .ok (.newarray .int, 2) := by decide +kernel
theorem dX10_init_152 : decode cX10_init 152 = .ok (.putfield 64, 3) := by decide +kernel
theorem dX10_init_155 : decode cX10_init 155 = .ok (.aload_n 0, 1) := by decide +kernel
theorem dX10_init_156 : decode cX10_init 156 = .ok (.iconst 3, 1) := by decide +kernel
theorem dX10_init_157 : decode cX10_init 157 = .ok (.newarray .int, 2) := by decide +kernel
theorem dX10_init_159 : decode cX10_init 159 = .ok (.putfield 67, 3) := by decide +kernel
theorem dX10_init_162 : decode cX10_init 162 = .ok (.aload_n 0, 1) := by decide +kernel
theorem dX10_init_163 : decode cX10_init 163 = .ok (.iconst 3, 1) := by decide +kernel
theorem dX10_init_164 : decode cX10_init 164 = .ok (.newarray .int, 2) := by decide +kernel
theorem dX10_init_166 : decode cX10_init 166 = .ok (.putfield 70, 3) := by decide +kernel
theorem dX10_init_169 : decode cX10_init 169 = .ok (.aload_n 0, 1) := by decide +kernel
theorem dX10_init_170 : decode cX10_init 170 = .ok (.iconst 3, 1) := by decide +kernel
theorem dX10_init_171 : decode cX10_init 171 = .ok (.newarray .int, 2) := by decide +kernel
theorem dX10_init_173 : decode cX10_init 173 = .ok (.putfield 73, 3) := by decide +kernel
theorem dX10_init_176 : decode cX10_init 176 = .ok (.aload_n 0, 1) := by decide +kernel
theorem dX10_init_177 : decode cX10_init 177 = .ok (.iconst 4, 1) := by decide +kernel
theorem dX10_init_178 : decode cX10_init 178 = .ok (.newarray .int, 2) := by decide +kernel
theorem dX10_init_180 : decode cX10_init 180 = .ok (.putfield 76, 3) := by decide +kernel
theorem dX10_init_183 : decode cX10_init 183 = .ok (.aload_n 0, 1) := by decide +kernel
theorem dX10_init_184 : decode cX10_init 184 = .ok (.iconst 4, 1) := by decide +kernel
theorem dX10_init_185 : decode cX10_init 185 = .ok (.newarray .int, 2) := by decide +kernel
theorem dX10_init_187 : decode cX10_init 187 = .ok (.putfield 79, 3) := by decide +kernel
theorem dX10_init_190 : decode cX10_init 190 = .ok (.aload_n 0, 1) := by decide +kernel
theorem dX10_init_191 : decode cX10_init 191 = .ok (.sipush 1200, 3) := by decide +kernel
theorem dX10_init_194 : decode cX10_init 194 = .ok (.newarray .int, 2) := by decide +kernel
theorem dX10_init_196 : decode cX10_init 196 = .ok (.putfield 82, 3) := by decide +kernel
theorem dX10_init_199 : decode cX10_init 199 = .ok (.aload_n 0, 1) := by decide +kernel
theorem dX10_init_200 : decode cX10_init 200 = .ok (.bipush 6, 2) := by decide +kernel
theorem dX10_init_202 : decode cX10_init 202 = .ok (.newarray .int, 2) := by decide +kernel
theorem dX10_init_204 : decode cX10_init 204 = .ok (.putfield 85, 3) := by decide +kernel
theorem dX10_init_207 : decode cX10_init 207 = .ok (.aload_n 0, 1) := by decide +kernel
theorem dX10_init_208 : decode cX10_init 208 = .ok (.bipush 6, 2) := by decide +kernel
theorem dX10_init_210 : decode cX10_init 210 = .ok (.newarray .int, 2) := by decide +kernel
theorem dX10_init_212 : decode cX10_init 212 = .ok (.putfield 88, 3) := by decide +kernel
theorem dX10_init_215 : decode cX10_init 215 = .ok (.aload_n 0, 1) := by decide +kernel
theorem dX10_init_216 : decode cX10_init 216 = .ok (.bipush 6, 2) := by decide +kernel
theorem dX10_init_218 : decode cX10_init 218 = .ok (.newarray .boolean, 2) := by decide +kernel
theorem dX10_init_220 : decode cX10_init 220 = .ok (.putfield 91, 3) := by decide +kernel
theorem dX10_init_223 : decode cX10_init 223 = .ok (.aload_n 0, 1) := by decide +kernel
theorem dX10_init_224 : decode cX10_init 224 = .ok (.bipush 36, 2) := by decide +kernel
theorem dX10_init_226 : decode cX10_init 226 = .ok (.newarray .boolean, 2) := by decide +kernel
theorem dX10_init_228 : decode cX10_init 228 = .ok (.putfield 95, 3) := by decide +kernel
theorem dX10_init_231 : decode cX10_init 231 = .ok (.aload_n 0, 1) := by decide +kernel
theorem dX10_init_232 : decode cX10_init 232 = .ok (.bipush 6, 2) := by decide +kernel
theorem dX10_init_234 : decode cX10_init 234 = .ok (.newarray .boolean, 2) := by decide +kernel
theorem dX10_init_236 : decode cX10_init 236 = .ok (.putfield 98, 3) := by decide +kernel
theorem dX10_init_239 : decode cX10_init 239 = .ok (.aload_n 0, 1) := by decide +kernel
theorem dX10_init_240 : decode cX10_init 240 = .ok (.getfield 67, 3) := by decide +kernel
theorem dX10_init_243 : decode cX10_init 243 = .ok (.iconst 0, 1) := by decide +kernel
theorem dX10_init_244 : decode cX10_init 244 = .ok (.sipush 1000, 3) := by decide +kernel
theorem dX10_init_247 : decode cX10_init 247 = .ok (.iastore, 1) := by decide +kernel
theorem dX10_init_248 : decode cX10_init 248 = .ok (.aload_n 0, 1) := by decide +kernel
theorem dX10_init_249 : decode cX10_init 249 = .ok (.getfield 67, 3) := by decide +kernel
theorem dX10_init_252 : decode cX10_init 252 = .ok (.iconst 1, 1) := by decide +kernel
theorem dX10_init_253 : decode cX10_init 253 = .ok (.sipush 3000, 3) := by decide +kernel
theorem dX10_init_256 : decode cX10_init 256 = .ok (.iastore, 1) := by decide +kernel
theorem dX10_init_257 : decode cX10_init 257 = .ok (.aload_n 0, 1) := by decide +kernel
theorem dX10_init_258 : decode cX10_init 258 = .ok (.getfield 67, 3) := by decide +kernel
theorem dX10_init_261 : decode cX10_init 261 = .ok (.iconst 2, 1) := by decide +kernel
theorem dX10_init_262 : decode cX10_init 262 = .ok (.sipush 9000, 3) := by decide +kernel
theorem dX10_init_265 : decode cX10_init 265 = .ok (.iastore, 1) := by decide +kernel
theorem dX10_init_266 : decode cX10_init 266 = .ok (.aload_n 0, 1) := by decide +kernel
theorem dX10_init_267 : decode cX10_init 267 = .ok (.getfield 73, 3) := by decide +kernel
theorem dX10_init_270 : decode cX10_init 270 = .ok (.iconst 0, 1) := by decide +kernel
theorem dX10_init_271 : decode cX10_init 271 = .ok (.iconst 5, 1) := by decide +kernel
theorem dX10_init_272 : decode cX10_init 272 = .ok (.iastore, 1) := by decide +kernel
theorem dX10_init_273 : decode cX10_init 273 = .ok (.aload_n 0, 1) := by decide +kernel
theorem dX10_init_274 : decode cX10_init 274 = .ok (.getfield 73, 3) := by decide +kernel
theorem dX10_init_277 : decode cX10_init 277 = .ok (.iconst 1, 1) := by decide +kernel
theorem dX10_init_278 : decode cX10_init 278 = .ok (.bipush 20, 2) := by decide +kernel
theorem dX10_init_280 : decode cX10_init 280 = .ok (.iastore, 1) := by decide +kernel
theorem dX10_init_281 : decode cX10_init 281 = .ok (.aload_n 0, 1) := by decide +kernel
theorem dX10_init_282 : decode cX10_init 282 = .ok (.getfield 73, 3) := by decide +kernel
theorem dX10_init_285 : decode cX10_init 285 = .ok (.iconst 2, 1) := by decide +kernel
theorem dX10_init_286 : decode cX10_init 286 = .ok (.bipush 60, 2) := by decide +kernel
theorem dX10_init_288 : decode cX10_init 288 = .ok (.iastore, 1) := by decide +kernel
theorem dX10_init_289 : decode cX10_init 289 = .ok (.iconst 0, 1) := by decide +kernel
theorem dX10_init_290 : decode cX10_init 290 = .ok (.istore_n 1, 1) := by decide +kernel
theorem dX10_init_291 : decode cX10_init 291 = .ok (.iload_n 1, 1) := by decide +kernel
theorem dX10_init_292 : decode cX10_init 292 = .ok (.iconst 3, 1) := by decide +kernel
theorem dX10_init_293 : decode cX10_init 293 = .ok (.if_icmp .ge 17, 3) := by decide +kernel
theorem dX10_init_296 : decode cX10_init 296 = .ok (.aload_n 0, 1) := by decide +kernel
theorem dX10_init_297 : decode cX10_init 297 = .ok (.getfield 70, 3) := by decide +kernel
theorem dX10_init_300 : decode cX10_init 300 = .ok (.iload_n 1, 1) := by decide +kernel
theorem dX10_init_301 : decode cX10_init 301 = .ok (.bipush 10, 2) := by decide +kernel
theorem dX10_init_303 : decode cX10_init 303 = .ok (.iastore, 1) := by decide +kernel
theorem dX10_init_304 : decode cX10_init 304 = .ok (.iinc 1 1, 3) := by decide +kernel
theorem dX10_init_307 : decode cX10_init 307 = .ok (.goto (-16), 3) := by decide +kernel
theorem dX10_init_310 : decode cX10_init 310 = .ok (.iconst 0, 1) := by decide +kernel
theorem dX10_init_311 : decode cX10_init 311 = .ok (.istore_n 1, 1) := by decide +kernel
theorem dX10_init_312 : decode cX10_init 312 = .ok (.iload_n 1, 1) := by decide +kernel
theorem dX10_init_313 : decode cX10_init 313 = .ok (.iconst 4, 1) := by decide +kernel
theorem dX10_init_314 : decode cX10_init 314 = .ok (.if_icmp .ge 16, 3) := by decide +kernel
theorem dX10_init_317 : decode cX10_init 317 = .ok (.aload_n 0, 1) := by decide +kernel
theorem dX10_init_318 : decode cX10_init 318 = .ok (.getfield 76, 3) := by decide +kernel
theorem dX10_init_321 : decode cX10_init 321 = .ok (.iload_n 1, 1) := by decide +kernel
theorem dX10_init_322 : decode cX10_init 322 = .ok (.iconst (-1), 1) := by decide +kernel
theorem dX10_init_323 : decode cX10_init 323 = .ok (.iastore, 1) := by decide +kernel
theorem dX10_init_324 : decode cX10_init 324 = .ok (.iinc 1 1, 3) := by decide +kernel
theorem dX10_init_327 : decode cX10_init 327 = .ok (.goto (-15), 3) := by decide +kernel
theorem dX10_init_330 : decode cX10_init 330 = .ok (.iconst 0, 1) := by decide +kernel
theorem dX10_init_331 : decode cX10_init 331 = .ok (.istore_n 1, 1) := by decide +kernel
theorem dX10_init_332 : decode cX10_init 332 = .ok (.iload_n 1, 1) := by decide +kernel
theorem dX10_init_333 : decode cX10_init 333 = .ok (.sipush 1200, 3) := by decide +kernel
theorem dX10_init_336 : decode cX10_init 336 = .ok (.if_icmp .ge 16, 3) := by decide +kernel
theorem dX10_init_339 : decode cX10_init 339 = .ok (.aload_n 0, 1) := by decide +kernel
theorem dX10_init_340 : decode cX10_init 340 = .ok (.getfield 82, 3) := by decide +kernel
theorem dX10_init_343 : decode cX10_init 343 = .ok (.iload_n 1, 1) := by decide +kernel
theorem dX10_init_344 : decode cX10_init 344 = .ok (.iconst (-1), 1) := by decide +kernel
theorem dX10_init_345 : decode cX10_init 345 = .ok (.iastore, 1) := by decide +kernel
theorem dX10_init_346 : decode cX10_init 346 = .ok (.iinc 1 1, 3) := by decide +kernel
theorem dX10_init_349 : decode cX10_init 349 = .ok (.goto (-17), 3) := by decide +kernel
theorem dX10_init_352 : decode cX10_init 352 = .ok (.return_, 1) := by decide +kernel
theorem dX10_thrown_0 : decode cX10_thrown 0 = .ok (.aload_n 0, 1) := by decide +kernel
theorem dX10_thrown_1 : decode cX10_thrown 1 = .ok (.getfield 101, 3) := by decide +kernel
theorem dX10_thrown_4 : decode cX10_thrown 4 = .ok (.ireturn, 1) := by decide +kernel
theorem dX10_between_0 : decode cX10_between 0 = .ok (.iload_n 1, 1) := by decide +kernel
theorem dX10_between_1 : decode cX10_between 1 = .ok (.iload_n 2, 1) := by decide +kernel
theorem dX10_between_2 : decode cX10_between 2 = .ok (.if_icmp .lt 12, 3) := by decide +kernel
theorem dX10_between_5 : decode cX10_between 5 = .ok (.iload_n 1, 1) := by decide +kernel
theorem dX10_between_6 : decode cX10_between 6 = .ok (.iload_n 3, 1) := by decide +kernel
theorem dX10_between_7 : decode cX10_between 7 = .ok (.if_icmp .gt 7, 3) := by decide +kernel
theorem dX10_between_10 : decode cX10_between 10 = .ok (.iconst 1, 1) := by decide +kernel
theorem dX10_between_11 : decode cX10_between 11 = .ok (.goto 4, 3) := by decide +kernel
theorem dX10_between_14 : decode cX10_between 14 = .ok (.iconst 0, 1) := by decide +kernel
theorem dX10_between_15 : decode cX10_between 15 = .ok (.ireturn, 1) := by decide +kernel
theorem dX10_isDepot_0 : decode cX10_isDepot 0 = .ok (.aload_n 0, 1) := by decide +kernel
theorem dX10_isDepot_1 : decode cX10_isDepot 1 = .ok (.iload_n 1, 1) := by decide +kernel
theorem dX10_isDepot_2 : decode cX10_isDepot 2 = .ok (.iconst 0, 1) := by decide +kernel
theorem dX10_isDepot_3 : decode cX10_isDepot 3 = .ok (.iconst 2, 1) := by decide +kernel
theorem dX10_isDepot_4 : decode cX10_isDepot 4 = .ok (.invokevirtual 105, 3) := by decide +kernel
theorem dX10_isDepot_7 : decode cX10_isDepot 7 = .ok (.ireturn, 1) := by decide +kernel
theorem dX10_isUnit_0 : decode cX10_isUnit 0 = .ok (.aload_n 0, 1) := by decide +kernel
theorem dX10_isUnit_1 : decode cX10_isUnit 1 = .ok (.iload_n 1, 1) := by decide +kernel
theorem dX10_isUnit_2 : decode cX10_isUnit 2 = .ok (.iconst 0, 1) := by decide +kernel
theorem dX10_isUnit_3 : decode cX10_isUnit 3 = .ok (.aload_n 0, 1) := by decide +kernel
theorem dX10_isUnit_4 : decode cX10_isUnit 4 = .ok (.getfield 109, 3) := by decide +kernel
theorem dX10_isUnit_7 : decode cX10_isUnit 7 = .ok (.iconst 1, 1) := by decide +kernel
theorem dX10_isUnit_8 : decode cX10_isUnit 8 = .ok (.isub, 1) := by decide +kernel
theorem dX10_isUnit_9 : decode cX10_isUnit 9 = .ok (.invokevirtual 105, 3) := by decide +kernel
theorem dX10_isUnit_12 : decode cX10_isUnit 12 = .ok (.ireturn, 1) := by decide +kernel
theorem dX10_isDiagram_0 : decode cX10_isDiagram 0 = .ok (.aload_n 0, 1) := by decide +kernel
theorem dX10_isDiagram_1 : decode cX10_isDiagram 1 = .ok (.iload_n 1, 1) := by decide +kernel
theorem dX10_isDiagram_2 : decode cX10_isDiagram 2 = .ok (.iconst 0, 1) := by decide +kernel
theorem dX10_isDiagram_3 : decode cX10_isDiagram 3 = .ok (.aload_n 0, 1) := by decide +kernel
theorem dX10_isDiagram_4 : decode cX10_isDiagram 4 = .ok (.getfield 112, 3) := by decide +kernel
theorem dX10_isDiagram_7 : decode cX10_isDiagram 7 = .ok (.iconst 1, 1) := by decide +kernel
theorem dX10_isDiagram_8 : decode cX10_isDiagram 8 = .ok (.isub, 1) := by decide +kernel
theorem dX10_isDiagram_9 : decode cX10_isDiagram 9 = .ok (.invokevirtual 105, 3) := by decide +kernel
theorem dX10_isDiagram_12 : decode cX10_isDiagram 12 = .ok (.ireturn, 1) := by decide +kernel
theorem dX10_isExam_0 : decode cX10_isExam 0 = .ok (.aload_n 0, 1) := by decide +kernel
theorem dX10_isExam_1 : decode cX10_isExam 1 = .ok (.iload_n 1, 1) := by decide +kernel
theorem dX10_isExam_2 : decode cX10_isExam 2 = .ok (.iconst 0, 1) := by decide +kernel
theorem dX10_isExam_3 : decode cX10_isExam 3 = .ok (.iconst 2, 1) := by decide +kernel
theorem dX10_isExam_4 : decode cX10_isExam 4 = .ok (.invokevirtual 105, 3) := by decide +kernel
theorem dX10_isExam_7 : decode cX10_isExam 7 = .ok (.ireturn, 1) := by decide +kernel
theorem dX10_isFault_0 : decode cX10_isFault 0 = .ok (.aload_n 0, 1) := by decide +kernel
theorem dX10_isFault_1 : decode cX10_isFault 1 = .ok (.iload_n 1, 1) := by decide +kernel
theorem dX10_isFault_2 : decode cX10_isFault 2 = .ok (.invokevirtual 115, 3) := by decide +kernel
theorem dX10_isFault_5 : decode cX10_isFault 5 = .ok (.ifCond .eq 24, 3) := by decide +kernel
theorem dX10_isFault_8 : decode cX10_isFault 8 = .ok (.aload_n 0, 1) := by decide +kernel
theorem dX10_isFault_9 : decode cX10_isFault 9 = .ok (.iload_n 2, 1) := by decide +kernel
theorem dX10_isFault_10 : decode cX10_isFault 10 = .ok (.iconst 0, 1) := by decide +kernel
theorem dX10_isFault_11 : decode cX10_isFault 11 = .ok (.aload_n 0, 1) := by decide +kernel
theorem dX10_isFault_12 : decode cX10_isFault 12 = .ok (.getfield 34, 3) := by decide +kernel
theorem dX10_isFault_15 : decode cX10_isFault 15 = .ok (.iload_n 1, 1) := by decide +kernel
theorem dX10_isFault_16 : decode cX10_isFault 16 = .ok (.iaload, 1) := by decide +kernel
theorem dX10_isFault_17 : decode cX10_isFault 17 = .ok (.iconst 1, 1) := by decide +kernel
theorem dX10_isFault_18 : decode cX10_isFault 18 = .ok (.isub, 1) := by decide +kernel
theorem dX10_isFault_19 : decode cX10_isFault 19 = .ok (.invokevirtual 105, 3) := by decide +kernel
theorem dX10_isFault_22 : decode cX10_isFault 22 = .ok (.ifCond .eq 7, 3) := by decide +kernel
theorem dX10_isFault_25 : decode cX10_isFault 25 = .ok (.iconst 1, 1) := by decide +kernel
theorem dX10_isFault_26 : decode cX10_isFault 26 = .ok (.goto 4, 3) := by decide +kernel
theorem dX10_isFault_29 : decode cX10_isFault 29 = .ok (.iconst 0, 1) := by decide +kernel
theorem dX10_isFault_30 : decode cX10_isFault 30 = .ok (.ireturn, 1) := by decide +kernel
theorem dX10_bound_0 : decode cX10_bound 0 = .ok (.aload_n 0, 1) := by decide +kernel
theorem dX10_bound_1 : decode cX10_bound 1 = .ok (.getfield 67, 3) := by decide +kernel
theorem dX10_bound_4 : decode cX10_bound 4 = .ok (.iload_n 1, 1) := by decide +kernel
theorem dX10_bound_5 : decode cX10_bound 5 = .ok (.iaload, 1) := by decide +kernel
theorem dX10_bound_6 : decode cX10_bound 6 = .ok (.aload_n 0, 1) := by decide +kernel
theorem dX10_bound_7 : decode cX10_bound 7 = .ok (.getfield 67, 3) := by decide +kernel
theorem dX10_bound_10 : decode cX10_bound 10 = .ok (.iload_n 1, 1) := by decide +kernel
theorem dX10_bound_11 : decode cX10_bound 11 = .ok (.iaload, 1) := by decide +kernel
theorem dX10_bound_12 : decode cX10_bound 12 = .ok (.aload_n 0, 1) := by decide +kernel
theorem dX10_bound_13 : decode cX10_bound 13 = .ok (.getfield 70, 3) := by decide +kernel
theorem dX10_bound_16 : decode cX10_bound 16 = .ok (.iload_n 1, 1) := by decide +kernel
theorem dX10_bound_17 : decode cX10_bound 17 = .ok (.iaload, 1) := by decide +kernel
theorem dX10_bound_18 : decode cX10_bound 18 = .ok (.imul, 1) := by decide +kernel
theorem dX10_bound_19 : decode cX10_bound 19 = .ok (.bipush 100, 2) := by decide +kernel
theorem dX10_bound_21 : decode cX10_bound 21 = .ok (.idiv, 1) := by decide +kernel
theorem dX10_bound_22 : decode cX10_bound 22 = .ok (.iadd, 1) := by decide +kernel
theorem dX10_bound_23 : decode cX10_bound 23 = .ok (.ireturn, 1) := by decide +kernel
theorem dX10_comes_0 : decode cX10_comes 0 = .ok (.aload_n 0, 1) := by decide +kernel
theorem dX10_comes_1 : decode cX10_comes 1 = .ok (.getfield 7, 3) := by decide +kernel
theorem dX10_comes_4 : decode cX10_comes 4 = .ok (.iload_n 1, 1) := by decide +kernel
theorem dX10_comes_5 : decode cX10_comes 5 = .ok (.iload_n 2, 1) := by decide +kernel
theorem dX10_comes_6 : decode cX10_comes 6 = .ok (.iastore, 1) := by decide +kernel
theorem dX10_comes_7 : decode cX10_comes 7 = .ok (.aload_n 0, 1) := by decide +kernel
theorem dX10_comes_8 : decode cX10_comes 8 = .ok (.getfield 28, 3) := by decide +kernel
theorem dX10_comes_11 : decode cX10_comes 11 = .ok (.bipush 6, 2) := by decide +kernel
theorem dX10_comes_13 : decode cX10_comes 13 = .ok (.iload_n 2, 1) := by decide +kernel
theorem dX10_comes_14 : decode cX10_comes 14 = .ok (.imul, 1) := by decide +kernel
theorem dX10_comes_15 : decode cX10_comes 15 = .ok (.aload_n 0, 1) := by decide +kernel
theorem dX10_comes_16 : decode cX10_comes 16 = .ok (.getfield 31, 3) := by decide +kernel
theorem dX10_comes_19 : decode cX10_comes 19 = .ok (.iload_n 2, 1) := by decide +kernel
theorem dX10_comes_20 : decode cX10_comes 20 = .ok (.iaload, 1) := by decide +kernel
theorem dX10_comes_21 : decode cX10_comes 21 = .ok (.iadd, 1) := by decide +kernel
theorem dX10_comes_22 : decode cX10_comes 22 = .ok (.iload_n 1, 1) := by decide +kernel
theorem dX10_comes_23 : decode cX10_comes 23 = .ok (.iastore, 1) := by decide +kernel
theorem dX10_comes_24 : decode cX10_comes 24 = .ok (.aload_n 0, 1) := by decide +kernel
theorem dX10_comes_25 : decode cX10_comes 25 = .ok (.getfield 31, 3) := by decide +kernel
theorem dX10_comes_28 : decode cX10_comes 28 = .ok (.iload_n 2, 1) := by decide +kernel
theorem dX10_comes_29 : decode cX10_comes 29 = .ok (.dup2, 1) := by decide +kernel
theorem dX10_comes_30 : decode cX10_comes 30 = .ok (.iaload, 1) := by decide +kernel
theorem dX10_comes_31 : decode cX10_comes 31 = .ok (.iconst 1, 1) := by decide +kernel
theorem dX10_comes_32 : decode cX10_comes 32 = .ok (.iadd, 1) := by decide +kernel
theorem dX10_comes_33 : decode cX10_comes 33 = .ok (.iastore, 1) := by decide +kernel
theorem dX10_comes_34 : decode cX10_comes 34 = .ok (.return_, 1) := by decide +kernel
theorem dX10_placeOf_0 : decode cX10_placeOf 0 = .ok (.bipush 6, 2) := by decide +kernel
theorem dX10_placeOf_2 : decode cX10_placeOf 2 = .ok (.aload_n 0, 1) := by decide +kernel
theorem dX10_placeOf_3 : decode cX10_placeOf 3 = .ok (.getfield 7, 3) := by decide +kernel
theorem dX10_placeOf_6 : decode cX10_placeOf 6 = .ok (.iload_n 1, 1) := by decide +kernel
theorem dX10_placeOf_7 : decode cX10_placeOf 7 = .ok (.iaload, 1) := by decide +kernel
theorem dX10_placeOf_8 : decode cX10_placeOf 8 = .ok (.imul, 1) := by decide +kernel
theorem dX10_placeOf_9 : decode cX10_placeOf 9 = .ok (.istore_n 2, 1) := by decide +kernel
theorem dX10_placeOf_10 : decode cX10_placeOf 10 = .ok (.aload_n 0, 1) := by decide +kernel
theorem dX10_placeOf_11 : decode cX10_placeOf 11 = .ok (.getfield 28, 3) := by decide +kernel
theorem dX10_placeOf_14 : decode cX10_placeOf 14 = .ok (.iload_n 2, 1) := by decide +kernel
theorem dX10_placeOf_15 : decode cX10_placeOf 15 = .ok (.iaload, 1) := by decide +kernel
theorem dX10_placeOf_16 : decode cX10_placeOf 16 = .ok (.iload_n 1, 1) := by decide +kernel
theorem dX10_placeOf_17 : decode cX10_placeOf 17 = .ok (.if_icmp .eq 9, 3) := by decide +kernel
theorem dX10_placeOf_20 : decode cX10_placeOf 20 = .ok (.iinc 2 1, 3) := by decide +kernel
theorem dX10_placeOf_23 : decode cX10_placeOf 23 = .ok (.goto (-13), 3) := by decide +kernel
theorem dX10_placeOf_26 : decode cX10_placeOf 26 = .ok (.iload_n 2, 1) := by decide +kernel
theorem dX10_placeOf_27 : decode cX10_placeOf 27 = .ok (.bipush 6, 2) := by decide +kernel
theorem dX10_placeOf_29 : decode cX10_placeOf 29 = .ok (.aload_n 0, 1) := by decide +kernel
theorem dX10_placeOf_30 : decode cX10_placeOf 30 = .ok (.getfield 7, 3) := by decide +kernel
theorem dX10_placeOf_33 : decode cX10_placeOf 33 = .ok (.iload_n 1, 1) := by decide +kernel
theorem dX10_placeOf_34 : decode cX10_placeOf 34 = .ok (.iaload, 1) := by decide +kernel
theorem dX10_placeOf_35 : decode cX10_placeOf 35 = .ok (.imul, 1) := by decide +kernel
theorem dX10_placeOf_36 : decode cX10_placeOf 36 = .ok (.isub, 1) := by decide +kernel
theorem dX10_placeOf_37 : decode cX10_placeOf 37 = .ok (.ireturn, 1) := by decide +kernel
theorem dX10_unit_0 : decode cX10_unit 0 = .ok (.aload_n 0, 1) := by decide +kernel
theorem dX10_unit_1 : decode cX10_unit 1 = .ok (.aload_n 0, 1) := by decide +kernel
theorem dX10_unit_2 : decode cX10_unit 2 = .ok (.iload_n 1, 1) := by decide +kernel
theorem dX10_unit_3 : decode cX10_unit 3 = .ok (.invokevirtual 119, 3) := by decide +kernel
theorem dX10_unit_6 : decode cX10_unit 6 = .ok (.ifCond .ne 7, 3) := by decide +kernel
theorem dX10_unit_9 : decode cX10_unit 9 = .ok (.iconst 1, 1) := by decide +kernel
theorem dX10_unit_10 : decode cX10_unit 10 = .ok (.goto 32, 3) := by decide +kernel
theorem dX10_unit_13 : decode cX10_unit 13 = .ok (.aload_n 0, 1) := by decide +kernel
theorem dX10_unit_14 : decode cX10_unit 14 = .ok (.iload_n 2, 1) := by decide +kernel
theorem dX10_unit_15 : decode cX10_unit 15 = .ok (.iconst 0, 1) := by decide +kernel
theorem dX10_unit_16 : decode cX10_unit 16 = .ok (.ldc 122, 2) := by decide +kernel
theorem dX10_unit_18 : decode cX10_unit 18 = .ok (.invokevirtual 105, 3) := by decide +kernel
theorem dX10_unit_21 : decode cX10_unit 21 = .ok (.ifCond .ne 7, 3) := by decide +kernel
theorem dX10_unit_24 : decode cX10_unit 24 = .ok (.iconst 2, 1) := by decide +kernel
theorem dX10_unit_25 : decode cX10_unit 25 = .ok (.goto 17, 3) := by decide +kernel
theorem dX10_unit_28 : decode cX10_unit 28 = .ok (.aload_n 0, 1) := by decide +kernel
theorem dX10_unit_29 : decode cX10_unit 29 = .ok (.getfield 109, 3) := by decide +kernel
theorem dX10_unit_32 : decode cX10_unit 32 = .ok (.bipush 6, 2) := by decide +kernel
theorem dX10_unit_34 : decode cX10_unit 34 = .ok (.if_icmp .ne 7, 3) := by decide +kernel
theorem dX10_unit_37 : decode cX10_unit 37 = .ok (.iconst 3, 1) := by decide +kernel
theorem dX10_unit_38 : decode cX10_unit 38 = .ok (.goto 4, 3) := by decide +kernel
theorem dX10_unit_41 : decode cX10_unit 41 = .ok (.iconst 0, 1) := by decide +kernel
theorem dX10_unit_42 : decode cX10_unit 42 = .ok (.putfield 101, 3) := by decide +kernel
theorem dX10_unit_45 : decode cX10_unit 45 = .ok (.aload_n 0, 1) := by decide +kernel
theorem dX10_unit_46 : decode cX10_unit 46 = .ok (.getfield 101, 3) := by decide +kernel
theorem dX10_unit_49 : decode cX10_unit 49 = .ok (.ifCond .le 5, 3) := by decide +kernel
theorem dX10_unit_52 : decode cX10_unit 52 = .ok (.iconst 0, 1) := by decide +kernel
theorem dX10_unit_53 : decode cX10_unit 53 = .ok (.ireturn, 1) := by decide +kernel
theorem dX10_unit_54 : decode cX10_unit 54 = .ok (.aload_n 0, 1) := by decide +kernel
theorem dX10_unit_55 : decode cX10_unit 55 = .ok (.getfield 16, 3) := by decide +kernel
theorem dX10_unit_58 : decode cX10_unit 58 = .ok (.aload_n 0, 1) := by decide +kernel
theorem dX10_unit_59 : decode cX10_unit 59 = .ok (.getfield 109, 3) := by decide +kernel
theorem dX10_unit_62 : decode cX10_unit 62 = .ok (.iload_n 2, 1) := by decide +kernel
theorem dX10_unit_63 : decode cX10_unit 63 = .ok (.iastore, 1) := by decide +kernel
theorem dX10_unit_64 : decode cX10_unit 64 = .ok (.aload_n 0, 1) := by decide +kernel
theorem dX10_unit_65 : decode cX10_unit 65 = .ok (.getfield 13, 3) := by decide +kernel
theorem dX10_unit_68 : decode cX10_unit 68 = .ok (.aload_n 0, 1) := by decide +kernel
theorem dX10_unit_69 : decode cX10_unit 69 = .ok (.getfield 109, 3) := by decide +kernel
theorem dX10_unit_72 : decode cX10_unit 72 = .ok (.iload_n 2, 1) := by decide +kernel
theorem dX10_unit_73 : decode cX10_unit 73 = .ok (.iastore, 1) := by decide +kernel
theorem dX10_unit_74 : decode cX10_unit 74 = .ok (.iconst 0, 1) := by decide +kernel
theorem dX10_unit_75 : decode cX10_unit 75 = .ok (.istore_n 3, 1) := by decide +kernel
theorem dX10_unit_76 : decode cX10_unit 76 = .ok (.iload_n 3, 1) := by decide +kernel
theorem dX10_unit_77 : decode cX10_unit 77 = .ok (.iconst 4, 1) := by decide +kernel
theorem dX10_unit_78 : decode cX10_unit 78 = .ok (.if_icmp .ge 25, 3) := by decide +kernel
theorem dX10_unit_81 : decode cX10_unit 81 = .ok (.aload_n 0, 1) := by decide +kernel
theorem dX10_unit_82 : decode cX10_unit 82 = .ok (.getfield 19, 3) := by decide +kernel
theorem dX10_unit_85 : decode cX10_unit 85 = .ok (.iconst 4, 1) := by decide +kernel
theorem dX10_unit_86 : decode cX10_unit 86 = .ok (.aload_n 0, 1) := by decide +kernel
theorem dX10_unit_87 : decode cX10_unit 87 = .ok (.getfield 109, 3) := by decide +kernel
theorem dX10_unit_90 : decode cX10_unit 90 = .ok (.imul, 1) := by decide +kernel
theorem dX10_unit_91 : decode cX10_unit 91 = .ok (.iload_n 3, 1) := by decide +kernel
theorem dX10_unit_92 : decode cX10_unit 92 = .ok (.iadd, 1) := by decide +kernel
theorem dX10_unit_93 : decode cX10_unit 93 = .ok (.sipush 900, 3) := by decide +kernel
theorem dX10_unit_96 : decode cX10_unit 96 = .ok (.iastore, 1) := by decide +kernel
theorem dX10_unit_97 : decode cX10_unit 97 = .ok (.iinc 3 1, 3) := by decide +kernel
theorem dX10_unit_100 : decode cX10_unit 100 = .ok (.goto (-24), 3) := by decide +kernel
theorem dX10_unit_103 : decode cX10_unit 103 = .ok (.aload_n 0, 1) := by decide +kernel
theorem dX10_unit_104 : decode cX10_unit 104 = .ok (.aload_n 0, 1) := by decide +kernel
theorem dX10_unit_105 : decode cX10_unit 105 = .ok (.getfield 109, 3) := by decide +kernel
theorem dX10_unit_108 : decode cX10_unit 108 = .ok (.iload_n 1, 1) := by decide +kernel
theorem dX10_unit_109 : decode cX10_unit 109 = .ok (.invokevirtual 123, 3) := by decide +kernel
theorem dX10_unit_112 : decode cX10_unit 112 = .ok (.aload_n 0, 1) := by decide +kernel
theorem dX10_unit_113 : decode cX10_unit 113 = .ok (.dup, 1) := by decide +kernel
theorem dX10_unit_114 : decode cX10_unit 114 = .ok (.getfield 109, 3) := by decide +kernel
theorem dX10_unit_117 : decode cX10_unit 117 = .ok (.iconst 1, 1) := by decide +kernel
theorem dX10_unit_118 : decode cX10_unit 118 = .ok (.iadd, 1) := by decide +kernel
theorem dX10_unit_119 : decode cX10_unit 119 = .ok (.putfield 109, 3) := by decide +kernel
theorem dX10_unit_122 : decode cX10_unit 122 = .ok (.aload_n 0, 1) := by decide +kernel
theorem dX10_unit_123 : decode cX10_unit 123 = .ok (.getfield 109, 3) := by decide +kernel
theorem dX10_unit_126 : decode cX10_unit 126 = .ok (.iconst 1, 1) := by decide +kernel
theorem dX10_unit_127 : decode cX10_unit 127 = .ok (.isub, 1) := by decide +kernel
theorem dX10_unit_128 : decode cX10_unit 128 = .ok (.ireturn, 1) := by decide +kernel
theorem dX10_diagram_0 : decode cX10_diagram 0 = .ok (.aload_n 0, 1) := by decide +kernel
theorem dX10_diagram_1 : decode cX10_diagram 1 = .ok (.aload_n 0, 1) := by decide +kernel
theorem dX10_diagram_2 : decode cX10_diagram 2 = .ok (.iload_n 1, 1) := by decide +kernel
theorem dX10_diagram_3 : decode cX10_diagram 3 = .ok (.invokevirtual 119, 3) := by decide +kernel
theorem dX10_diagram_6 : decode cX10_diagram 6 = .ok (.ifCond .eq 11, 3) := by decide +kernel
theorem dX10_diagram_9 : decode cX10_diagram 9 = .ok (.aload_n 0, 1) := by decide +kernel
theorem dX10_diagram_10 : decode cX10_diagram 10 = .ok (.iload_n 2, 1) := by decide +kernel
theorem dX10_diagram_11 : decode cX10_diagram 11 = .ok (.invokevirtual 119, 3) := by decide +kernel
theorem dX10_diagram_14 : decode cX10_diagram 14 = .ok (.ifCond .ne 7, 3) := by decide +kernel
theorem dX10_diagram_17 : decode cX10_diagram 17 = .ok (.iconst 1, 1) := by decide +kernel
theorem dX10_diagram_18 : decode cX10_diagram 18 = .ok (.goto 56, 3) := by decide +kernel
theorem dX10_diagram_21 : decode cX10_diagram 21 = .ok (.aload_n 0, 1) := by decide +kernel
theorem dX10_diagram_22 : decode cX10_diagram 22 = .ok (.iload_n 3, 1) := by decide +kernel
theorem dX10_diagram_23 : decode cX10_diagram 23 = .ok (.iconst 1, 1) := by decide +kernel
theorem dX10_diagram_24 : decode cX10_diagram 24 = .ok (.sipush 2000, 3) := by decide +kernel
theorem dX10_diagram_27 : decode cX10_diagram 27 = .ok (.invokevirtual 105, 3) := by decide +kernel
theorem dX10_diagram_30 : decode cX10_diagram 30 = .ok (.ifCond .eq 26, 3) := by decide +kernel
theorem dX10_diagram_33 : decode cX10_diagram 33 = .ok (.aload_n 0, 1) := by decide +kernel
theorem dX10_diagram_34 : decode cX10_diagram 34 = .ok (.iload 4, 2) := by decide +kernel
theorem dX10_diagram_36 : decode cX10_diagram 36 = .ok (.iconst 0, 1) := by decide +kernel
theorem dX10_diagram_37 : decode cX10_diagram 37 = .ok (.iconst 2, 1) := by decide +kernel
theorem dX10_diagram_38 : decode cX10_diagram 38 = .ok (.invokevirtual 105, 3) := by decide +kernel
theorem dX10_diagram_41 : decode cX10_diagram 41 = .ok (.ifCond .eq 15, 3) := by decide +kernel
theorem dX10_diagram_44 : decode cX10_diagram 44 = .ok (.aload_n 0, 1) := by decide +kernel
theorem dX10_diagram_45 : decode cX10_diagram 45 = .ok (.iload 5, 2) := by decide +kernel
theorem dX10_diagram_47 : decode cX10_diagram 47 = .ok (.iconst 1, 1) := by decide +kernel
theorem dX10_diagram_48 : decode cX10_diagram 48 = .ok (.bipush 100, 2) := by decide +kernel
theorem dX10_diagram_50 : decode cX10_diagram 50 = .ok (.invokevirtual 105, 3) := by decide +kernel
theorem dX10_diagram_53 : decode cX10_diagram 53 = .ok (.ifCond .ne 7, 3) := by decide +kernel
theorem dX10_diagram_56 : decode cX10_diagram 56 = .ok (.iconst 2, 1) := by decide +kernel
theorem dX10_diagram_57 : decode cX10_diagram 57 = .ok (.goto 17, 3) := by decide +kernel
theorem dX10_diagram_60 : decode cX10_diagram 60 = .ok (.aload_n 0, 1) := by decide +kernel
theorem dX10_diagram_61 : decode cX10_diagram 61 = .ok (.getfield 112, 3) := by decide +kernel
theorem dX10_diagram_64 : decode cX10_diagram 64 = .ok (.bipush 6, 2) := by decide +kernel
theorem dX10_diagram_66 : decode cX10_diagram 66 = .ok (.if_icmp .ne 7, 3) := by decide +kernel
theorem dX10_diagram_69 : decode cX10_diagram 69 = .ok (.iconst 3, 1) := by decide +kernel
theorem dX10_diagram_70 : decode cX10_diagram 70 = .ok (.goto 4, 3) := by decide +kernel
theorem dX10_diagram_73 : decode cX10_diagram 73 = .ok (.iconst 0, 1) := by decide +kernel
theorem dX10_diagram_74 : decode cX10_diagram 74 = .ok (.putfield 101, 3) := by decide +kernel
theorem dX10_diagram_77 : decode cX10_diagram 77 = .ok (.aload_n 0, 1) := by decide +kernel
theorem dX10_diagram_78 : decode cX10_diagram 78 = .ok (.getfield 101, 3) := by decide +kernel
theorem dX10_diagram_81 : decode cX10_diagram 81 = .ok (.ifCond .le 5, 3) := by decide +kernel
theorem dX10_diagram_84 : decode cX10_diagram 84 = .ok (.iconst 0, 1) := by decide +kernel
theorem dX10_diagram_85 : decode cX10_diagram 85 = .ok (.ireturn, 1) := by decide +kernel
theorem dX10_diagram_86 : decode cX10_diagram 86 = .ok (.aload_n 0, 1) := by decide +kernel
theorem dX10_diagram_87 : decode cX10_diagram 87 = .ok (.getfield 49, 3) := by decide +kernel
theorem dX10_diagram_90 : decode cX10_diagram 90 = .ok (.aload_n 0, 1) := by decide +kernel
theorem dX10_diagram_91 : decode cX10_diagram 91 = .ok (.getfield 112, 3) := by decide +kernel
theorem dX10_diagram_94 : decode cX10_diagram 94 = .ok (.iload_n 1, 1) := by decide +kernel
theorem dX10_diagram_95 : decode cX10_diagram 95 = .ok (.iastore, 1) := by decide +kernel
theorem dX10_diagram_96 : decode cX10_diagram 96 = .ok (.aload_n 0, 1) := by decide +kernel
theorem dX10_diagram_97 : decode cX10_diagram 97 = .ok (.getfield 52, 3) := by decide +kernel
theorem dX10_diagram_100 : decode cX10_diagram 100 = .ok (.aload_n 0, 1) := by decide +kernel
theorem dX10_diagram_101 : decode cX10_diagram 101 = .ok (.getfield 112, 3) := by decide +kernel
theorem dX10_diagram_104 : decode cX10_diagram 104 = .ok (.iload_n 2, 1) := by decide +kernel
theorem dX10_diagram_105 : decode cX10_diagram 105 = .ok (.iastore, 1) := by decide +kernel
theorem dX10_diagram_106 : decode cX10_diagram 106 = .ok (.aload_n 0, 1) := by decide +kernel
theorem dX10_diagram_107 : decode cX10_diagram 107 = .ok (.getfield 55, 3) := by decide +kernel
theorem dX10_diagram_110 : decode cX10_diagram 110 = .ok (.aload_n 0, 1) := by decide +kernel
theorem dX10_diagram_111 : decode cX10_diagram 111 = .ok (.getfield 112, 3) := by decide +kernel
theorem dX10_diagram_114 : decode cX10_diagram 114 = .ok (.iload_n 3, 1) := by decide +kernel
theorem dX10_diagram_115 : decode cX10_diagram 115 = .ok (.iastore, 1) := by decide +kernel
theorem dX10_diagram_116 : decode cX10_diagram 116 = .ok (.aload_n 0, 1) := by decide +kernel
theorem dX10_diagram_117 : decode cX10_diagram 117 = .ok (.getfield 58, 3) := by decide +kernel
theorem dX10_diagram_120 : decode cX10_diagram 120 = .ok (.aload_n 0, 1) := by decide +kernel
theorem dX10_diagram_121 : decode cX10_diagram 121 = .ok (.getfield 112, 3) := by decide +kernel
theorem dX10_diagram_124 : decode cX10_diagram 124 = .ok (.iload 4, 2) := by decide +kernel
theorem dX10_diagram_126 : decode cX10_diagram 126 = .ok (.iastore, 1) := by decide +kernel
theorem dX10_diagram_127 : decode cX10_diagram 127 = .ok (.aload_n 0, 1) := by decide +kernel
theorem dX10_diagram_128 : decode cX10_diagram 128 = .ok (.getfield 61, 3) := by decide +kernel
theorem dX10_diagram_131 : decode cX10_diagram 131 = .ok (.aload_n 0, 1) := by decide +kernel
theorem dX10_diagram_132 : decode cX10_diagram 132 = .ok (.getfield 112, 3) := by decide +kernel
theorem dX10_diagram_135 : decode cX10_diagram 135 = .ok (.iload 5, 2) := by decide +kernel
theorem dX10_diagram_137 : decode cX10_diagram 137 = .ok (.iastore, 1) := by decide +kernel
theorem dX10_diagram_138 : decode cX10_diagram 138 = .ok (.aload_n 0, 1) := by decide +kernel
theorem dX10_diagram_139 : decode cX10_diagram 139 = .ok (.getfield 64, 3) := by decide +kernel
theorem dX10_diagram_142 : decode cX10_diagram 142 = .ok (.aload_n 0, 1) := by decide +kernel
theorem dX10_diagram_143 : decode cX10_diagram 143 = .ok (.getfield 112, 3) := by decide +kernel
theorem dX10_diagram_146 : decode cX10_diagram 146 = .ok (.iconst (-1), 1) := by decide +kernel
theorem dX10_diagram_147 : decode cX10_diagram 147 = .ok (.iastore, 1) := by decide +kernel
theorem dX10_diagram_148 : decode cX10_diagram 148 = .ok (.aload_n 0, 1) := by decide +kernel
theorem dX10_diagram_149 : decode cX10_diagram 149 = .ok (.dup, 1) := by decide +kernel
theorem dX10_diagram_150 : decode cX10_diagram 150 = .ok (.getfield 112, 3) := by decide +kernel
theorem dX10_diagram_153 : decode cX10_diagram 153 = .ok (.iconst 1, 1) := by decide +kernel
theorem dX10_diagram_154 : decode cX10_diagram 154 = .ok (.iadd, 1) := by decide +kernel
theorem dX10_diagram_155 : decode cX10_diagram 155 = .ok (.putfield 112, 3) := by decide +kernel
theorem dX10_diagram_158 : decode cX10_diagram 158 = .ok (.aload_n 0, 1) := by decide +kernel
theorem dX10_diagram_159 : decode cX10_diagram 159 = .ok (.getfield 112, 3) := by decide +kernel
theorem dX10_diagram_162 : decode cX10_diagram 162 = .ok (.iconst 1, 1) := by decide +kernel
theorem dX10_diagram_163 : decode cX10_diagram 163 = .ok (.isub, 1) := by decide +kernel
theorem dX10_diagram_164 : decode cX10_diagram 164 = .ok (.ireturn, 1) := by decide +kernel
theorem dX10_exam_0 : decode cX10_exam 0 = .ok (.aload_n 0, 1) := by decide +kernel
theorem dX10_exam_1 : decode cX10_exam 1 = .ok (.aload_n 0, 1) := by decide +kernel
theorem dX10_exam_2 : decode cX10_exam 2 = .ok (.iload_n 1, 1) := by decide +kernel
theorem dX10_exam_3 : decode cX10_exam 3 = .ok (.invokevirtual 127, 3) := by decide +kernel
theorem dX10_exam_6 : decode cX10_exam 6 = .ok (.ifCond .ne 7, 3) := by decide +kernel
theorem dX10_exam_9 : decode cX10_exam 9 = .ok (.iconst 1, 1) := by decide +kernel
theorem dX10_exam_10 : decode cX10_exam 10 = .ok (.goto 44, 3) := by decide +kernel
theorem dX10_exam_13 : decode cX10_exam 13 = .ok (.aload_n 0, 1) := by decide +kernel
theorem dX10_exam_14 : decode cX10_exam 14 = .ok (.iload_n 2, 1) := by decide +kernel
theorem dX10_exam_15 : decode cX10_exam 15 = .ok (.bipush 100, 2) := by decide +kernel
theorem dX10_exam_17 : decode cX10_exam 17 = .ok (.ldc 130, 2) := by decide +kernel
theorem dX10_exam_19 : decode cX10_exam 19 = .ok (.invokevirtual 105, 3) := by decide +kernel
theorem dX10_exam_22 : decode cX10_exam 22 = .ok (.ifCond .eq 27, 3) := by decide +kernel
theorem dX10_exam_25 : decode cX10_exam 25 = .ok (.aload_n 0, 1) := by decide +kernel
theorem dX10_exam_26 : decode cX10_exam 26 = .ok (.iload_n 3, 1) := by decide +kernel
theorem dX10_exam_27 : decode cX10_exam 27 = .ok (.iconst 0, 1) := by decide +kernel
theorem dX10_exam_28 : decode cX10_exam 28 = .ok (.bipush 20, 2) := by decide +kernel
theorem dX10_exam_30 : decode cX10_exam 30 = .ok (.invokevirtual 105, 3) := by decide +kernel
theorem dX10_exam_33 : decode cX10_exam 33 = .ok (.ifCond .eq 16, 3) := by decide +kernel
theorem dX10_exam_36 : decode cX10_exam 36 = .ok (.aload_n 0, 1) := by decide +kernel
theorem dX10_exam_37 : decode cX10_exam 37 = .ok (.iload 4, 2) := by decide +kernel
theorem dX10_exam_39 : decode cX10_exam 39 = .ok (.iconst 0, 1) := by decide +kernel
theorem dX10_exam_40 : decode cX10_exam 40 = .ok (.sipush 400, 3) := by decide +kernel
theorem dX10_exam_43 : decode cX10_exam 43 = .ok (.invokevirtual 105, 3) := by decide +kernel
theorem dX10_exam_46 : decode cX10_exam 46 = .ok (.ifCond .ne 7, 3) := by decide +kernel
theorem dX10_exam_49 : decode cX10_exam 49 = .ok (.iconst 2, 1) := by decide +kernel
theorem dX10_exam_50 : decode cX10_exam 50 = .ok (.goto 4, 3) := by decide +kernel
theorem dX10_exam_53 : decode cX10_exam 53 = .ok (.iconst 0, 1) := by decide +kernel
theorem dX10_exam_54 : decode cX10_exam 54 = .ok (.putfield 101, 3) := by decide +kernel
theorem dX10_exam_57 : decode cX10_exam 57 = .ok (.aload_n 0, 1) := by decide +kernel
theorem dX10_exam_58 : decode cX10_exam 58 = .ok (.getfield 101, 3) := by decide +kernel
theorem dX10_exam_61 : decode cX10_exam 61 = .ok (.ifCond .le 5, 3) := by decide +kernel
theorem dX10_exam_64 : decode cX10_exam 64 = .ok (.iconst 0, 1) := by decide +kernel
theorem dX10_exam_65 : decode cX10_exam 65 = .ok (.ireturn, 1) := by decide +kernel
theorem dX10_exam_66 : decode cX10_exam 66 = .ok (.aload_n 0, 1) := by decide +kernel
theorem dX10_exam_67 : decode cX10_exam 67 = .ok (.getfield 67, 3) := by decide +kernel
theorem dX10_exam_70 : decode cX10_exam 70 = .ok (.iload_n 1, 1) := by decide +kernel
theorem dX10_exam_71 : decode cX10_exam 71 = .ok (.iload_n 2, 1) := by decide +kernel
theorem dX10_exam_72 : decode cX10_exam 72 = .ok (.iastore, 1) := by decide +kernel
theorem dX10_exam_73 : decode cX10_exam 73 = .ok (.aload_n 0, 1) := by decide +kernel
theorem dX10_exam_74 : decode cX10_exam 74 = .ok (.getfield 70, 3) := by decide +kernel
theorem dX10_exam_77 : decode cX10_exam 77 = .ok (.iload_n 1, 1) := by decide +kernel
theorem dX10_exam_78 : decode cX10_exam 78 = .ok (.iload_n 3, 1) := by decide +kernel
theorem dX10_exam_79 : decode cX10_exam 79 = .ok (.iastore, 1) := by decide +kernel
theorem dX10_exam_80 : decode cX10_exam 80 = .ok (.aload_n 0, 1) := by decide +kernel
theorem dX10_exam_81 : decode cX10_exam 81 = .ok (.getfield 73, 3) := by decide +kernel
theorem dX10_exam_84 : decode cX10_exam 84 = .ok (.iload_n 1, 1) := by decide +kernel
theorem dX10_exam_85 : decode cX10_exam 85 = .ok (.iload 4, 2) := by decide +kernel
theorem dX10_exam_87 : decode cX10_exam 87 = .ok (.iastore, 1) := by decide +kernel
theorem dX10_exam_88 : decode cX10_exam 88 = .ok (.aload_n 0, 1) := by decide +kernel
theorem dX10_exam_89 : decode cX10_exam 89 = .ok (.iload_n 1, 1) := by decide +kernel
theorem dX10_exam_90 : decode cX10_exam 90 = .ok (.invokevirtual 131, 3) := by decide +kernel
theorem dX10_exam_93 : decode cX10_exam 93 = .ok (.ireturn, 1) := by decide +kernel
theorem dX10_list_0 : decode cX10_list 0 = .ok (.aload_n 0, 1) := by decide +kernel
theorem dX10_list_1 : decode cX10_list 1 = .ok (.aload_n 0, 1) := by decide +kernel
theorem dX10_list_2 : decode cX10_list 2 = .ok (.iload_n 1, 1) := by decide +kernel
theorem dX10_list_3 : decode cX10_list 3 = .ok (.iconst 0, 1) := by decide +kernel
theorem dX10_list_4 : decode cX10_list 4 = .ok (.iconst 3, 1) := by decide +kernel
theorem dX10_list_5 : decode cX10_list 5 = .ok (.invokevirtual 105, 3) := by decide +kernel
theorem dX10_list_8 : decode cX10_list 8 = .ok (.ifCond .ne 7, 3) := by decide +kernel
theorem dX10_list_11 : decode cX10_list 11 = .ok (.iconst 1, 1) := by decide +kernel
theorem dX10_list_12 : decode cX10_list 12 = .ok (.goto 34, 3) := by decide +kernel
theorem dX10_list_15 : decode cX10_list 15 = .ok (.aload_n 0, 1) := by decide +kernel
theorem dX10_list_16 : decode cX10_list 16 = .ok (.iload_n 2, 1) := by decide +kernel
theorem dX10_list_17 : decode cX10_list 17 = .ok (.iconst (-1), 1) := by decide +kernel
theorem dX10_list_18 : decode cX10_list 18 = .ok (.bipush 30, 2) := by decide +kernel
theorem dX10_list_20 : decode cX10_list 20 = .ok (.invokevirtual 105, 3) := by decide +kernel
theorem dX10_list_23 : decode cX10_list 23 = .ok (.ifCond .eq 18, 3) := by decide +kernel
theorem dX10_list_26 : decode cX10_list 26 = .ok (.iload_n 2, 1) := by decide +kernel
theorem dX10_list_27 : decode cX10_list 27 = .ok (.iconst (-1), 1) := by decide +kernel
theorem dX10_list_28 : decode cX10_list 28 = .ok (.if_icmp .eq 17, 3) := by decide +kernel
theorem dX10_list_31 : decode cX10_list 31 = .ok (.aload_n 0, 1) := by decide +kernel
theorem dX10_list_32 : decode cX10_list 32 = .ok (.iload_n 3, 1) := by decide +kernel
theorem dX10_list_33 : decode cX10_list 33 = .ok (.iconst 0, 1) := by decide +kernel
theorem dX10_list_34 : decode cX10_list 34 = .ok (.iconst 2, 1) := by decide +kernel
theorem dX10_list_35 : decode cX10_list 35 = .ok (.invokevirtual 105, 3) := by decide +kernel
theorem dX10_list_38 : decode cX10_list 38 = .ok (.ifCond .ne 7, 3) := by decide +kernel
theorem dX10_list_41 : decode cX10_list 41 = .ok (.iconst 2, 1) := by decide +kernel
theorem dX10_list_42 : decode cX10_list 42 = .ok (.goto 4, 3) := by decide +kernel
theorem dX10_list_45 : decode cX10_list 45 = .ok (.iconst 0, 1) := by decide +kernel
theorem dX10_list_46 : decode cX10_list 46 = .ok (.putfield 101, 3) := by decide +kernel
theorem dX10_list_49 : decode cX10_list 49 = .ok (.aload_n 0, 1) := by decide +kernel
theorem dX10_list_50 : decode cX10_list 50 = .ok (.getfield 101, 3) := by decide +kernel
theorem dX10_list_53 : decode cX10_list 53 = .ok (.ifCond .le 5, 3) := by decide +kernel
theorem dX10_list_56 : decode cX10_list 56 = .ok (.iconst 0, 1) := by decide +kernel
theorem dX10_list_57 : decode cX10_list 57 = .ok (.ireturn, 1) := by decide +kernel
theorem dX10_list_58 : decode cX10_list 58 = .ok (.aload_n 0, 1) := by decide +kernel
theorem dX10_list_59 : decode cX10_list 59 = .ok (.getfield 76, 3) := by decide +kernel
theorem dX10_list_62 : decode cX10_list 62 = .ok (.iload_n 1, 1) := by decide +kernel
theorem dX10_list_63 : decode cX10_list 63 = .ok (.iaload, 1) := by decide +kernel
theorem dX10_list_64 : decode cX10_list 64 = .ok (.istore 4, 2) := by decide +kernel
theorem dX10_list_66 : decode cX10_list 66 = .ok (.aload_n 0, 1) := by decide +kernel
theorem dX10_list_67 : decode cX10_list 67 = .ok (.getfield 76, 3) := by decide +kernel
theorem dX10_list_70 : decode cX10_list 70 = .ok (.iload_n 1, 1) := by decide +kernel
theorem dX10_list_71 : decode cX10_list 71 = .ok (.iload_n 2, 1) := by decide +kernel
theorem dX10_list_72 : decode cX10_list 72 = .ok (.iastore, 1) := by decide +kernel
theorem dX10_list_73 : decode cX10_list 73 = .ok (.aload_n 0, 1) := by decide +kernel
theorem dX10_list_74 : decode cX10_list 74 = .ok (.getfield 79, 3) := by decide +kernel
theorem dX10_list_77 : decode cX10_list 77 = .ok (.iload_n 1, 1) := by decide +kernel
theorem dX10_list_78 : decode cX10_list 78 = .ok (.iload_n 3, 1) := by decide +kernel
theorem dX10_list_79 : decode cX10_list 79 = .ok (.iastore, 1) := by decide +kernel
theorem dX10_list_80 : decode cX10_list 80 = .ok (.iload 4, 2) := by decide +kernel
theorem dX10_list_82 : decode cX10_list 82 = .ok (.ireturn, 1) := by decide +kernel
theorem dX10_fault_0 : decode cX10_fault 0 = .ok (.aload_n 0, 1) := by decide +kernel
theorem dX10_fault_1 : decode cX10_fault 1 = .ok (.aload_n 0, 1) := by decide +kernel
theorem dX10_fault_2 : decode cX10_fault 2 = .ok (.iload_n 1, 1) := by decide +kernel
theorem dX10_fault_3 : decode cX10_fault 3 = .ok (.invokevirtual 115, 3) := by decide +kernel
theorem dX10_fault_6 : decode cX10_fault 6 = .ok (.ifCond .eq 28, 3) := by decide +kernel
theorem dX10_fault_9 : decode cX10_fault 9 = .ok (.aload_n 0, 1) := by decide +kernel
theorem dX10_fault_10 : decode cX10_fault 10 = .ok (.iload_n 2, 1) := by decide +kernel
theorem dX10_fault_11 : decode cX10_fault 11 = .ok (.iconst 0, 1) := by decide +kernel
theorem dX10_fault_12 : decode cX10_fault 12 = .ok (.iconst 3, 1) := by decide +kernel
theorem dX10_fault_13 : decode cX10_fault 13 = .ok (.invokevirtual 105, 3) := by decide +kernel
theorem dX10_fault_16 : decode cX10_fault 16 = .ok (.ifCond .eq 18, 3) := by decide +kernel
theorem dX10_fault_19 : decode cX10_fault 19 = .ok (.iload_n 2, 1) := by decide +kernel
theorem dX10_fault_20 : decode cX10_fault 20 = .ok (.iconst 1, 1) := by decide +kernel
theorem dX10_fault_21 : decode cX10_fault 21 = .ok (.if_icmp .gt 17, 3) := by decide +kernel
theorem dX10_fault_24 : decode cX10_fault 24 = .ok (.aload_n 0, 1) := by decide +kernel
theorem dX10_fault_25 : decode cX10_fault 25 = .ok (.iload_n 3, 1) := by decide +kernel
theorem dX10_fault_26 : decode cX10_fault 26 = .ok (.iconst 0, 1) := by decide +kernel
theorem dX10_fault_27 : decode cX10_fault 27 = .ok (.iconst 3, 1) := by decide +kernel
theorem dX10_fault_28 : decode cX10_fault 28 = .ok (.invokevirtual 105, 3) := by decide +kernel
theorem dX10_fault_31 : decode cX10_fault 31 = .ok (.ifCond .ne 7, 3) := by decide +kernel
theorem dX10_fault_34 : decode cX10_fault 34 = .ok (.iconst 1, 1) := by decide +kernel
theorem dX10_fault_35 : decode cX10_fault 35 = .ok (.goto 4, 3) := by decide +kernel
theorem dX10_fault_38 : decode cX10_fault 38 = .ok (.iconst 0, 1) := by decide +kernel
theorem dX10_fault_39 : decode cX10_fault 39 = .ok (.putfield 101, 3) := by decide +kernel
theorem dX10_fault_42 : decode cX10_fault 42 = .ok (.aload_n 0, 1) := by decide +kernel
theorem dX10_fault_43 : decode cX10_fault 43 = .ok (.getfield 101, 3) := by decide +kernel
theorem dX10_fault_46 : decode cX10_fault 46 = .ok (.ifCond .ne 41, 3) := by decide +kernel
theorem dX10_fault_49 : decode cX10_fault 49 = .ok (.iload_n 2, 1) := by decide +kernel
theorem dX10_fault_50 : decode cX10_fault 50 = .ok (.ifCond .ne 15, 3) := by decide +kernel
theorem dX10_fault_53 : decode cX10_fault 53 = .ok (.aload_n 0, 1) := by decide +kernel
theorem dX10_fault_54 : decode cX10_fault 54 = .ok (.iload 4, 2) := by decide +kernel
theorem dX10_fault_56 : decode cX10_fault 56 = .ok (.iconst 1, 1) := by decide +kernel
theorem dX10_fault_57 : decode cX10_fault 57 = .ok (.bipush 20, 2) := by decide +kernel
theorem dX10_fault_59 : decode cX10_fault 59 = .ok (.invokevirtual 105, 3) := by decide +kernel
theorem dX10_fault_62 : decode cX10_fault 62 = .ok (.ifCond .eq 20, 3) := by decide +kernel
theorem dX10_fault_65 : decode cX10_fault 65 = .ok (.iload_n 2, 1) := by decide +kernel
theorem dX10_fault_66 : decode cX10_fault 66 = .ok (.iconst 2, 1) := by decide +kernel
theorem dX10_fault_67 : decode cX10_fault 67 = .ok (.if_icmp .ne 20, 3) := by decide +kernel
theorem dX10_fault_70 : decode cX10_fault 70 = .ok (.aload_n 0, 1) := by decide +kernel
theorem dX10_fault_71 : decode cX10_fault 71 = .ok (.iload 4, 2) := by decide +kernel
theorem dX10_fault_73 : decode cX10_fault 73 = .ok (.iconst 1, 1) := by decide +kernel
theorem dX10_fault_74 : decode cX10_fault 74 = .ok (.bipush 100, 2) := by decide +kernel
theorem dX10_fault_76 : decode cX10_fault 76 = .ok (.invokevirtual 105, 3) := by decide +kernel
theorem dX10_fault_79 : decode cX10_fault 79 = .ok (.ifCond .ne 8, 3) := by decide +kernel
theorem dX10_fault_82 : decode cX10_fault 82 = .ok (.aload_n 0, 1) := by decide +kernel
theorem dX10_fault_83 : decode cX10_fault 83 = .ok (.iconst 2, 1) := by decide +kernel
theorem dX10_fault_84 : decode cX10_fault 84 = .ok (.putfield 101, 3) := by decide +kernel
theorem dX10_fault_87 : decode cX10_fault 87 = .ok (.aload_n 0, 1) := by decide +kernel
theorem dX10_fault_88 : decode cX10_fault 88 = .ok (.getfield 101, 3) := by decide +kernel
theorem dX10_fault_91 : decode cX10_fault 91 = .ok (.ifCond .ne 19, 3) := by decide +kernel
theorem dX10_fault_94 : decode cX10_fault 94 = .ok (.aload_n 0, 1) := by decide +kernel
theorem dX10_fault_95 : decode cX10_fault 95 = .ok (.getfield 34, 3) := by decide +kernel
theorem dX10_fault_98 : decode cX10_fault 98 = .ok (.iload_n 1, 1) := by decide +kernel
theorem dX10_fault_99 : decode cX10_fault 99 = .ok (.iaload, 1) := by decide +kernel
theorem dX10_fault_100 : decode cX10_fault 100 = .ok (.bipush 8, 2) := by decide +kernel
theorem dX10_fault_102 : decode cX10_fault 102 = .ok (.if_icmp .ne 8, 3) := by decide +kernel
theorem dX10_fault_105 : decode cX10_fault 105 = .ok (.aload_n 0, 1) := by decide +kernel
theorem dX10_fault_106 : decode cX10_fault 106 = .ok (.iconst 3, 1) := by decide +kernel
theorem dX10_fault_107 : decode cX10_fault 107 = .ok (.putfield 101, 3) := by decide +kernel
theorem dX10_fault_110 : decode cX10_fault 110 = .ok (.aload_n 0, 1) := by decide +kernel
theorem dX10_fault_111 : decode cX10_fault 111 = .ok (.getfield 101, 3) := by decide +kernel
theorem dX10_fault_114 : decode cX10_fault 114 = .ok (.ifCond .le 5, 3) := by decide +kernel
theorem dX10_fault_117 : decode cX10_fault 117 = .ok (.iconst 0, 1) := by decide +kernel
theorem dX10_fault_118 : decode cX10_fault 118 = .ok (.ireturn, 1) := by decide +kernel
theorem dX10_fault_119 : decode cX10_fault 119 = .ok (.bipush 8, 2) := by decide +kernel
theorem dX10_fault_121 : decode cX10_fault 121 = .ok (.iload_n 1, 1) := by decide +kernel
theorem dX10_fault_122 : decode cX10_fault 122 = .ok (.imul, 1) := by decide +kernel
theorem dX10_fault_123 : decode cX10_fault 123 = .ok (.aload_n 0, 1) := by decide +kernel
theorem dX10_fault_124 : decode cX10_fault 124 = .ok (.getfield 34, 3) := by decide +kernel
theorem dX10_fault_127 : decode cX10_fault 127 = .ok (.iload_n 1, 1) := by decide +kernel
theorem dX10_fault_128 : decode cX10_fault 128 = .ok (.iaload, 1) := by decide +kernel
theorem dX10_fault_129 : decode cX10_fault 129 = .ok (.iadd, 1) := by decide +kernel
theorem dX10_fault_130 : decode cX10_fault 130 = .ok (.istore 5, 2) := by decide +kernel
theorem dX10_fault_132 : decode cX10_fault 132 = .ok (.aload_n 0, 1) := by decide +kernel
theorem dX10_fault_133 : decode cX10_fault 133 = .ok (.getfield 37, 3) := by decide +kernel
theorem dX10_fault_136 : decode cX10_fault 136 = .ok (.iload 5, 2) := by decide +kernel
theorem dX10_fault_138 : decode cX10_fault 138 = .ok (.iload_n 2, 1) := by decide +kernel
theorem dX10_fault_139 : decode cX10_fault 139 = .ok (.iastore, 1) := by decide +kernel
theorem dX10_fault_140 : decode cX10_fault 140 = .ok (.aload_n 0, 1) := by decide +kernel
theorem dX10_fault_141 : decode cX10_fault 141 = .ok (.getfield 40, 3) := by decide +kernel
theorem dX10_fault_144 : decode cX10_fault 144 = .ok (.iload 5, 2) := by decide +kernel
theorem dX10_fault_146 : decode cX10_fault 146 = .ok (.aload_n 0, 1) := by decide +kernel
theorem dX10_fault_147 : decode cX10_fault 147 = .ok (.getfield 135, 3) := by decide +kernel
theorem dX10_fault_150 : decode cX10_fault 150 = .ok (.iastore, 1) := by decide +kernel
theorem dX10_fault_151 : decode cX10_fault 151 = .ok (.aload_n 0, 1) := by decide +kernel
theorem dX10_fault_152 : decode cX10_fault 152 = .ok (.getfield 43, 3) := by decide +kernel
theorem dX10_fault_155 : decode cX10_fault 155 = .ok (.iload 5, 2) := by decide +kernel
theorem dX10_fault_157 : decode cX10_fault 157 = .ok (.iload_n 2, 1) := by decide +kernel
theorem dX10_fault_158 : decode cX10_fault 158 = .ok (.iconst 1, 1) := by decide +kernel
theorem dX10_fault_159 : decode cX10_fault 159 = .ok (.if_icmp .gt 7, 3) := by decide +kernel
theorem dX10_fault_162 : decode cX10_fault 162 = .ok (.iload_n 3, 1) := by decide +kernel
theorem dX10_fault_163 : decode cX10_fault 163 = .ok (.goto 4, 3) := by decide +kernel
theorem dX10_fault_166 : decode cX10_fault 166 = .ok (.iconst (-1), 1) := by decide +kernel
theorem dX10_fault_167 : decode cX10_fault 167 = .ok (.iastore, 1) := by decide +kernel
theorem dX10_fault_168 : decode cX10_fault 168 = .ok (.aload_n 0, 1) := by decide +kernel
theorem dX10_fault_169 : decode cX10_fault 169 = .ok (.getfield 46, 3) := by decide +kernel
theorem dX10_fault_172 : decode cX10_fault 172 = .ok (.iload 5, 2) := by decide +kernel
theorem dX10_fault_174 : decode cX10_fault 174 = .ok (.iload_n 2, 1) := by decide +kernel
theorem dX10_fault_175 : decode cX10_fault 175 = .ok (.ifCond .eq 8, 3) := by decide +kernel
theorem dX10_fault_178 : decode cX10_fault 178 = .ok (.iload_n 2, 1) := by decide +kernel
theorem dX10_fault_179 : decode cX10_fault 179 = .ok (.iconst 2, 1) := by decide +kernel
theorem dX10_fault_180 : decode cX10_fault 180 = .ok (.if_icmp .ne 8, 3) := by decide +kernel
theorem dX10_fault_183 : decode cX10_fault 183 = .ok (.iload 4, 2) := by decide +kernel
theorem dX10_fault_185 : decode cX10_fault 185 = .ok (.goto 4, 3) := by decide +kernel
theorem dX10_fault_188 : decode cX10_fault 188 = .ok (.iconst (-1), 1) := by decide +kernel
theorem dX10_fault_189 : decode cX10_fault 189 = .ok (.iastore, 1) := by decide +kernel
theorem dX10_fault_190 : decode cX10_fault 190 = .ok (.aload_n 0, 1) := by decide +kernel
theorem dX10_fault_191 : decode cX10_fault 191 = .ok (.getfield 34, 3) := by decide +kernel
theorem dX10_fault_194 : decode cX10_fault 194 = .ok (.iload_n 1, 1) := by decide +kernel
theorem dX10_fault_195 : decode cX10_fault 195 = .ok (.dup2, 1) := by decide +kernel
theorem dX10_fault_196 : decode cX10_fault 196 = .ok (.iaload, 1) := by decide +kernel
theorem dX10_fault_197 : decode cX10_fault 197 = .ok (.iconst 1, 1) := by decide +kernel
theorem dX10_fault_198 : decode cX10_fault 198 = .ok (.iadd, 1) := by decide +kernel
theorem dX10_fault_199 : decode cX10_fault 199 = .ok (.iastore, 1) := by decide +kernel
theorem dX10_fault_200 : decode cX10_fault 200 = .ok (.aload_n 0, 1) := by decide +kernel
theorem dX10_fault_201 : decode cX10_fault 201 = .ok (.getfield 34, 3) := by decide +kernel
theorem dX10_fault_204 : decode cX10_fault 204 = .ok (.iload_n 1, 1) := by decide +kernel
theorem dX10_fault_205 : decode cX10_fault 205 = .ok (.iaload, 1) := by decide +kernel
theorem dX10_fault_206 : decode cX10_fault 206 = .ok (.ireturn, 1) := by decide +kernel
theorem dX10_pin_0 : decode cX10_pin 0 = .ok (.aload_n 0, 1) := by decide +kernel
theorem dX10_pin_1 : decode cX10_pin 1 = .ok (.aload_n 0, 1) := by decide +kernel
theorem dX10_pin_2 : decode cX10_pin 2 = .ok (.iload_n 1, 1) := by decide +kernel
theorem dX10_pin_3 : decode cX10_pin 3 = .ok (.invokevirtual 138, 3) := by decide +kernel
theorem dX10_pin_6 : decode cX10_pin 6 = .ok (.ifCond .eq 16, 3) := by decide +kernel
theorem dX10_pin_9 : decode cX10_pin 9 = .ok (.iload_n 2, 1) := by decide +kernel
theorem dX10_pin_10 : decode cX10_pin 10 = .ok (.iconst (-1), 1) := by decide +kernel
theorem dX10_pin_11 : decode cX10_pin 11 = .ok (.if_icmp .eq 15, 3) := by decide +kernel
theorem dX10_pin_14 : decode cX10_pin 14 = .ok (.aload_n 0, 1) := by decide +kernel
theorem dX10_pin_15 : decode cX10_pin 15 = .ok (.iload_n 2, 1) := by decide +kernel
theorem dX10_pin_16 : decode cX10_pin 16 = .ok (.invokevirtual 115, 3) := by decide +kernel
theorem dX10_pin_19 : decode cX10_pin 19 = .ok (.ifCond .ne 7, 3) := by decide +kernel
theorem dX10_pin_22 : decode cX10_pin 22 = .ok (.iconst 1, 1) := by decide +kernel
theorem dX10_pin_23 : decode cX10_pin 23 = .ok (.goto 4, 3) := by decide +kernel
theorem dX10_pin_26 : decode cX10_pin 26 = .ok (.iconst 0, 1) := by decide +kernel
theorem dX10_pin_27 : decode cX10_pin 27 = .ok (.putfield 101, 3) := by decide +kernel
theorem dX10_pin_30 : decode cX10_pin 30 = .ok (.aload_n 0, 1) := by decide +kernel
theorem dX10_pin_31 : decode cX10_pin 31 = .ok (.getfield 101, 3) := by decide +kernel
theorem dX10_pin_34 : decode cX10_pin 34 = .ok (.ifCond .le 5, 3) := by decide +kernel
theorem dX10_pin_37 : decode cX10_pin 37 = .ok (.iconst 0, 1) := by decide +kernel
theorem dX10_pin_38 : decode cX10_pin 38 = .ok (.ireturn, 1) := by decide +kernel
theorem dX10_pin_39 : decode cX10_pin 39 = .ok (.aload_n 0, 1) := by decide +kernel
theorem dX10_pin_40 : decode cX10_pin 40 = .ok (.getfield 64, 3) := by decide +kernel
theorem dX10_pin_43 : decode cX10_pin 43 = .ok (.iload_n 1, 1) := by decide +kernel
theorem dX10_pin_44 : decode cX10_pin 44 = .ok (.iaload, 1) := by decide +kernel
theorem dX10_pin_45 : decode cX10_pin 45 = .ok (.istore_n 3, 1) := by decide +kernel
theorem dX10_pin_46 : decode cX10_pin 46 = .ok (.aload_n 0, 1) := by decide +kernel
theorem dX10_pin_47 : decode cX10_pin 47 = .ok (.getfield 64, 3) := by decide +kernel
theorem dX10_pin_50 : decode cX10_pin 50 = .ok (.iload_n 1, 1) := by decide +kernel
theorem dX10_pin_51 : decode cX10_pin 51 = .ok (.iload_n 2, 1) := by decide +kernel
theorem dX10_pin_52 : decode cX10_pin 52 = .ok (.iastore, 1) := by decide +kernel
theorem dX10_pin_53 : decode cX10_pin 53 = .ok (.iload_n 3, 1) := by decide +kernel
theorem dX10_pin_54 : decode cX10_pin 54 = .ok (.ireturn, 1) := by decide +kernel
theorem dX10_isExamDue_0 : decode cX10_isExamDue 0 = .ok (.iconst 0, 1) := by decide +kernel
theorem dX10_isExamDue_1 : decode cX10_isExamDue 1 = .ok (.istore_n 3, 1) := by decide +kernel
theorem dX10_isExamDue_2 : decode cX10_isExamDue 2 = .ok (.iconst 0, 1) := by decide +kernel
theorem dX10_isExamDue_3 : decode cX10_isExamDue 3 = .ok (.istore 4, 2) := by decide +kernel
theorem dX10_isExamDue_5 : decode cX10_isExamDue 5 = .ok (.iload 4, 2) := by decide +kernel
theorem dX10_isExamDue_7 : decode cX10_isExamDue 7 = .ok (.iconst 3, 1) := by decide +kernel
theorem dX10_isExamDue_8 : decode cX10_isExamDue 8 = .ok (.if_icmp .ge 62, 3) := by decide +kernel
theorem dX10_isExamDue_11 : decode cX10_isExamDue 11 = .ok (.iload_n 3, 1) := by decide +kernel
theorem dX10_isExamDue_12 : decode cX10_isExamDue 12 = .ok (.ifCond .ne 46, 3) := by decide +kernel
theorem dX10_isExamDue_15 : decode cX10_isExamDue 15 = .ok (.aload_n 0, 1) := by decide +kernel
theorem dX10_isExamDue_16 : decode cX10_isExamDue 16 = .ok (.getfield 22, 3) := by decide +kernel
theorem dX10_isExamDue_19 : decode cX10_isExamDue 19 = .ok (.iconst 3, 1) := by decide +kernel
theorem dX10_isExamDue_20 : decode cX10_isExamDue 20 = .ok (.iload_n 1, 1) := by decide +kernel
theorem dX10_isExamDue_21 : decode cX10_isExamDue 21 = .ok (.imul, 1) := by decide +kernel
theorem dX10_isExamDue_22 : decode cX10_isExamDue 22 = .ok (.iload 4, 2) := by decide +kernel
theorem dX10_isExamDue_24 : decode cX10_isExamDue 24 = .ok (.iadd, 1) := by decide +kernel
theorem dX10_isExamDue_25 : decode cX10_isExamDue 25 = .ok (.iaload, 1) := by decide +kernel
theorem dX10_isExamDue_26 : decode cX10_isExamDue 26 = .ok (.iload_n 2, 1) := by decide +kernel
theorem dX10_isExamDue_27 : decode cX10_isExamDue 27 = .ok (.iadd, 1) := by decide +kernel
theorem dX10_isExamDue_28 : decode cX10_isExamDue 28 = .ok (.aload_n 0, 1) := by decide +kernel
theorem dX10_isExamDue_29 : decode cX10_isExamDue 29 = .ok (.iload 4, 2) := by decide +kernel
theorem dX10_isExamDue_31 : decode cX10_isExamDue 31 = .ok (.invokevirtual 131, 3) := by decide +kernel
theorem dX10_isExamDue_34 : decode cX10_isExamDue 34 = .ok (.if_icmp .gt 24, 3) := by decide +kernel
theorem dX10_isExamDue_37 : decode cX10_isExamDue 37 = .ok (.aload_n 0, 1) := by decide +kernel
theorem dX10_isExamDue_38 : decode cX10_isExamDue 38 = .ok (.getfield 25, 3) := by decide +kernel
theorem dX10_isExamDue_41 : decode cX10_isExamDue 41 = .ok (.iconst 3, 1) := by decide +kernel
theorem dX10_isExamDue_42 : decode cX10_isExamDue 42 = .ok (.iload_n 1, 1) := by decide +kernel
theorem dX10_isExamDue_43 : decode cX10_isExamDue 43 = .ok (.imul, 1) := by decide +kernel
theorem dX10_isExamDue_44 : decode cX10_isExamDue 44 = .ok (.iload 4, 2) := by decide +kernel
theorem dX10_isExamDue_46 : decode cX10_isExamDue 46 = .ok (.iadd, 1) := by decide +kernel
theorem dX10_isExamDue_47 : decode cX10_isExamDue 47 = .ok (.iaload, 1) := by decide +kernel
theorem dX10_isExamDue_48 : decode cX10_isExamDue 48 = .ok (.aload_n 0, 1) := by decide +kernel
theorem dX10_isExamDue_49 : decode cX10_isExamDue 49 = .ok (.getfield 73, 3) := by decide +kernel
theorem dX10_isExamDue_52 : decode cX10_isExamDue 52 = .ok (.iload 4, 2) := by decide +kernel
theorem dX10_isExamDue_54 : decode cX10_isExamDue 54 = .ok (.iaload, 1) := by decide +kernel
theorem dX10_isExamDue_55 : decode cX10_isExamDue 55 = .ok (.if_icmp .le 7, 3) := by decide +kernel
theorem dX10_isExamDue_58 : decode cX10_isExamDue 58 = .ok (.iconst 1, 1) := by decide +kernel
theorem dX10_isExamDue_59 : decode cX10_isExamDue 59 = .ok (.goto 4, 3) := by decide +kernel
theorem dX10_isExamDue_62 : decode cX10_isExamDue 62 = .ok (.iconst 0, 1) := by decide +kernel
theorem dX10_isExamDue_63 : decode cX10_isExamDue 63 = .ok (.istore_n 3, 1) := by decide +kernel
theorem dX10_isExamDue_64 : decode cX10_isExamDue 64 = .ok (.iinc 4 1, 3) := by decide +kernel
theorem dX10_isExamDue_67 : decode cX10_isExamDue 67 = .ok (.goto (-62), 3) := by decide +kernel
theorem dX10_isExamDue_70 : decode cX10_isExamDue 70 = .ok (.iload_n 3, 1) := by decide +kernel
theorem dX10_isExamDue_71 : decode cX10_isExamDue 71 = .ok (.ireturn, 1) := by decide +kernel
theorem dX10_isBarredByList_0 : decode cX10_isBarredByList 0 = .ok (.iconst 0, 1) := by decide +kernel
theorem dX10_isBarredByList_1 : decode cX10_isBarredByList 1 = .ok (.istore_n 3, 1) := by decide +kernel
theorem dX10_isBarredByList_2 : decode cX10_isBarredByList 2 = .ok (.bipush 8, 2) := by decide +kernel
theorem dX10_isBarredByList_4 : decode cX10_isBarredByList 4 = .ok (.iload_n 1, 1) := by decide +kernel
theorem dX10_isBarredByList_5 : decode cX10_isBarredByList 5 = .ok (.imul, 1) := by decide +kernel
theorem dX10_isBarredByList_6 : decode cX10_isBarredByList 6 = .ok (.istore 4, 2) := by decide +kernel
theorem dX10_isBarredByList_8 : decode cX10_isBarredByList 8 = .ok (.iload 4, 2) := by decide +kernel
theorem dX10_isBarredByList_10 : decode cX10_isBarredByList 10 = .ok (.bipush 8, 2) := by decide +kernel
theorem dX10_isBarredByList_12 : decode cX10_isBarredByList 12 = .ok (.iload_n 1, 1) := by decide +kernel
theorem dX10_isBarredByList_13 : decode cX10_isBarredByList 13 = .ok (.imul, 1) := by decide +kernel
theorem dX10_isBarredByList_14 : decode cX10_isBarredByList 14 = .ok (.aload_n 0, 1) := by decide +kernel
theorem dX10_isBarredByList_15 : decode cX10_isBarredByList 15 = .ok (.getfield 34, 3) := by decide +kernel
theorem dX10_isBarredByList_18 : decode cX10_isBarredByList 18 = .ok (.iload_n 1, 1) := by decide +kernel
theorem dX10_isBarredByList_19 : decode cX10_isBarredByList 19 = .ok (.iaload, 1) := by decide +kernel
theorem dX10_isBarredByList_20 : decode cX10_isBarredByList 20 = .ok (.iadd, 1) := by decide +kernel
theorem dX10_isBarredByList_21 : decode cX10_isBarredByList 21 = .ok (.if_icmp .ge 72, 3) := by decide +kernel
theorem dX10_isBarredByList_24 : decode cX10_isBarredByList 24 = .ok (.aload_n 0, 1) := by decide +kernel
theorem dX10_isBarredByList_25 : decode cX10_isBarredByList 25 = .ok (.getfield 76, 3) := by decide +kernel
theorem dX10_isBarredByList_28 : decode cX10_isBarredByList 28 = .ok (.aload_n 0, 1) := by decide +kernel
theorem dX10_isBarredByList_29 : decode cX10_isBarredByList 29 = .ok (.getfield 37, 3) := by decide +kernel
theorem dX10_isBarredByList_32 : decode cX10_isBarredByList 32 = .ok (.iload 4, 2) := by decide +kernel
theorem dX10_isBarredByList_34 : decode cX10_isBarredByList 34 = .ok (.iaload, 1) := by decide +kernel
theorem dX10_isBarredByList_35 : decode cX10_isBarredByList 35 = .ok (.iaload, 1) := by decide +kernel
theorem dX10_isBarredByList_36 : decode cX10_isBarredByList 36 = .ok (.istore 5, 2) := by decide +kernel
theorem dX10_isBarredByList_38 : decode cX10_isBarredByList 38 = .ok (.iload_n 3, 1) := by decide +kernel
theorem dX10_isBarredByList_39 : decode cX10_isBarredByList 39 = .ok (.ifCond .ne 42, 3) := by decide +kernel
theorem dX10_isBarredByList_42 : decode cX10_isBarredByList 42 = .ok (.iload 5, 2) := by decide +kernel
theorem dX10_isBarredByList_44 : decode cX10_isBarredByList 44 = .ok (.iconst (-1), 1) := by decide +kernel
theorem dX10_isBarredByList_45 : decode cX10_isBarredByList 45 = .ok (.if_icmp .eq 36, 3) := by decide +kernel
theorem dX10_isBarredByList_48 : decode cX10_isBarredByList 48 = .ok (.aload_n 0, 1) := by decide +kernel
theorem dX10_isBarredByList_49 : decode cX10_isBarredByList 49 = .ok (.getfield 135, 3) := by decide +kernel
theorem dX10_isBarredByList_52 : decode cX10_isBarredByList 52 = .ok (.aload_n 0, 1) := by decide +kernel
theorem dX10_isBarredByList_53 : decode cX10_isBarredByList 53 = .ok (.getfield 40, 3) := by decide +kernel
theorem dX10_isBarredByList_56 : decode cX10_isBarredByList 56 = .ok (.iload 4, 2) := by decide +kernel
theorem dX10_isBarredByList_58 : decode cX10_isBarredByList 58 = .ok (.iaload, 1) := by decide +kernel
theorem dX10_isBarredByList_59 : decode cX10_isBarredByList 59 = .ok (.isub, 1) := by decide +kernel
theorem dX10_isBarredByList_60 : decode cX10_isBarredByList 60 = .ok (.iload 5, 2) := by decide +kernel
theorem dX10_isBarredByList_62 : decode cX10_isBarredByList 62 = .ok (.if_icmp .gt 19, 3) := by decide +kernel
theorem dX10_isBarredByList_65 : decode cX10_isBarredByList 65 = .ok (.iload_n 2, 1) := by decide +kernel
theorem dX10_isBarredByList_66 : decode cX10_isBarredByList 66 = .ok (.aload_n 0, 1) := by decide +kernel
theorem dX10_isBarredByList_67 : decode cX10_isBarredByList 67 = .ok (.getfield 79, 3) := by decide +kernel
theorem dX10_isBarredByList_70 : decode cX10_isBarredByList 70 = .ok (.aload_n 0, 1) := by decide +kernel
theorem dX10_isBarredByList_71 : decode cX10_isBarredByList 71 = .ok (.getfield 37, 3) := by decide +kernel
theorem dX10_isBarredByList_74 : decode cX10_isBarredByList 74 = .ok (.iload 4, 2) := by decide +kernel
theorem dX10_isBarredByList_76 : decode cX10_isBarredByList 76 = .ok (.iaload, 1) := by decide +kernel
theorem dX10_isBarredByList_77 : decode cX10_isBarredByList 77 = .ok (.iaload, 1) := by decide +kernel
theorem dX10_isBarredByList_78 : decode cX10_isBarredByList 78 = .ok (.if_icmp .le 7, 3) := by decide +kernel
theorem dX10_isBarredByList_81 : decode cX10_isBarredByList 81 = .ok (.iconst 1, 1) := by decide +kernel
theorem dX10_isBarredByList_82 : decode cX10_isBarredByList 82 = .ok (.goto 4, 3) := by decide +kernel
theorem dX10_isBarredByList_85 : decode cX10_isBarredByList 85 = .ok (.iconst 0, 1) := by decide +kernel
theorem dX10_isBarredByList_86 : decode cX10_isBarredByList 86 = .ok (.istore_n 3, 1) := by decide +kernel
theorem dX10_isBarredByList_87 : decode cX10_isBarredByList 87 = .ok (.iinc 4 1, 3) := by decide +kernel
theorem dX10_isBarredByList_90 : decode cX10_isBarredByList 90 = .ok (.goto (-82), 3) := by decide +kernel
theorem dX10_isBarredByList_93 : decode cX10_isBarredByList 93 = .ok (.iload_n 3, 1) := by decide +kernel
theorem dX10_isBarredByList_94 : decode cX10_isBarredByList 94 = .ok (.ireturn, 1) := by decide +kernel
theorem dX10_isBad_0 : decode cX10_isBad 0 = .ok (.iconst 0, 1) := by decide +kernel
theorem dX10_isBad_1 : decode cX10_isBad 1 = .ok (.istore_n 2, 1) := by decide +kernel
theorem dX10_isBad_2 : decode cX10_isBad 2 = .ok (.iconst 0, 1) := by decide +kernel
theorem dX10_isBad_3 : decode cX10_isBad 3 = .ok (.istore_n 3, 1) := by decide +kernel
theorem dX10_isBad_4 : decode cX10_isBad 4 = .ok (.bipush 8, 2) := by decide +kernel
theorem dX10_isBad_6 : decode cX10_isBad 6 = .ok (.iload_n 1, 1) := by decide +kernel
theorem dX10_isBad_7 : decode cX10_isBad 7 = .ok (.imul, 1) := by decide +kernel
theorem dX10_isBad_8 : decode cX10_isBad 8 = .ok (.istore 4, 2) := by decide +kernel
theorem dX10_isBad_10 : decode cX10_isBad 10 = .ok (.iload 4, 2) := by decide +kernel
theorem dX10_isBad_12 : decode cX10_isBad 12 = .ok (.bipush 8, 2) := by decide +kernel
theorem dX10_isBad_14 : decode cX10_isBad 14 = .ok (.iload_n 1, 1) := by decide +kernel
theorem dX10_isBad_15 : decode cX10_isBad 15 = .ok (.imul, 1) := by decide +kernel
theorem dX10_isBad_16 : decode cX10_isBad 16 = .ok (.aload_n 0, 1) := by decide +kernel
theorem dX10_isBad_17 : decode cX10_isBad 17 = .ok (.getfield 34, 3) := by decide +kernel
theorem dX10_isBad_20 : decode cX10_isBad 20 = .ok (.iload_n 1, 1) := by decide +kernel
theorem dX10_isBad_21 : decode cX10_isBad 21 = .ok (.iaload, 1) := by decide +kernel
theorem dX10_isBad_22 : decode cX10_isBad 22 = .ok (.iadd, 1) := by decide +kernel
theorem dX10_isBad_23 : decode cX10_isBad 23 = .ok (.if_icmp .ge 82, 3) := by decide +kernel
theorem dX10_isBad_26 : decode cX10_isBad 26 = .ok (.iload_n 2, 1) := by decide +kernel
theorem dX10_isBad_27 : decode cX10_isBad 27 = .ok (.ifCond .ne 47, 3) := by decide +kernel
theorem dX10_isBad_30 : decode cX10_isBad 30 = .ok (.aload_n 0, 1) := by decide +kernel
theorem dX10_isBad_31 : decode cX10_isBad 31 = .ok (.getfield 37, 3) := by decide +kernel
theorem dX10_isBad_34 : decode cX10_isBad 34 = .ok (.iload 4, 2) := by decide +kernel
theorem dX10_isBad_36 : decode cX10_isBad 36 = .ok (.iaload, 1) := by decide +kernel
theorem dX10_isBad_37 : decode cX10_isBad 37 = .ok (.ifCond .ne 14, 3) := by decide +kernel
theorem dX10_isBad_40 : decode cX10_isBad 40 = .ok (.aload_n 0, 1) := by decide +kernel
theorem dX10_isBad_41 : decode cX10_isBad 41 = .ok (.getfield 46, 3) := by decide +kernel
theorem dX10_isBad_44 : decode cX10_isBad 44 = .ok (.iload 4, 2) := by decide +kernel
theorem dX10_isBad_46 : decode cX10_isBad 46 = .ok (.iaload, 1) := by decide +kernel
theorem dX10_isBad_47 : decode cX10_isBad 47 = .ok (.iconst 4, 1) := by decide +kernel
theorem dX10_isBad_48 : decode cX10_isBad 48 = .ok (.if_icmp .gt 26, 3) := by decide +kernel
theorem dX10_isBad_51 : decode cX10_isBad 51 = .ok (.aload_n 0, 1) := by decide +kernel
theorem dX10_isBad_52 : decode cX10_isBad 52 = .ok (.getfield 37, 3) := by decide +kernel
theorem dX10_isBad_55 : decode cX10_isBad 55 = .ok (.iload 4, 2) := by decide +kernel
theorem dX10_isBad_57 : decode cX10_isBad 57 = .ok (.iaload, 1) := by decide +kernel
theorem dX10_isBad_58 : decode cX10_isBad 58 = .ok (.iconst 2, 1) := by decide +kernel
theorem dX10_isBad_59 : decode cX10_isBad 59 = .ok (.if_icmp .ne 19, 3) := by decide +kernel
theorem dX10_isBad_62 : decode cX10_isBad 62 = .ok (.aload_n 0, 1) := by decide +kernel
theorem dX10_isBad_63 : decode cX10_isBad 63 = .ok (.getfield 46, 3) := by decide +kernel
theorem dX10_isBad_66 : decode cX10_isBad 66 = .ok (.iload 4, 2) := by decide +kernel
theorem dX10_isBad_68 : decode cX10_isBad 68 = .ok (.iaload, 1) := by decide +kernel
theorem dX10_isBad_69 : decode cX10_isBad 69 = .ok (.bipush 50, 2) := by decide +kernel
theorem dX10_isBad_71 : decode cX10_isBad 71 = .ok (.if_icmp .le 7, 3) := by decide +kernel
theorem dX10_isBad_74 : decode cX10_isBad 74 = .ok (.iconst 1, 1) := by decide +kernel
theorem dX10_isBad_75 : decode cX10_isBad 75 = .ok (.goto 4, 3) := by decide +kernel
theorem dX10_isBad_78 : decode cX10_isBad 78 = .ok (.iconst 0, 1) := by decide +kernel
theorem dX10_isBad_79 : decode cX10_isBad 79 = .ok (.istore_n 2, 1) := by decide +kernel
theorem dX10_isBad_80 : decode cX10_isBad 80 = .ok (.iload_n 3, 1) := by decide +kernel
theorem dX10_isBad_81 : decode cX10_isBad 81 = .ok (.aload_n 0, 1) := by decide +kernel
theorem dX10_isBad_82 : decode cX10_isBad 82 = .ok (.getfield 37, 3) := by decide +kernel
theorem dX10_isBad_85 : decode cX10_isBad 85 = .ok (.iload 4, 2) := by decide +kernel
theorem dX10_isBad_87 : decode cX10_isBad 87 = .ok (.iaload, 1) := by decide +kernel
theorem dX10_isBad_88 : decode cX10_isBad 88 = .ok (.iconst 1, 1) := by decide +kernel
theorem dX10_isBad_89 : decode cX10_isBad 89 = .ok (.if_icmp .ne 7, 3) := by decide +kernel
theorem dX10_isBad_92 : decode cX10_isBad 92 = .ok (.iconst 1, 1) := by decide +kernel
theorem dX10_isBad_93 : decode cX10_isBad 93 = .ok (.goto 4, 3) := by decide +kernel
theorem dX10_isBad_96 : decode cX10_isBad 96 = .ok (.iconst 0, 1) := by decide +kernel
theorem dX10_isBad_97 : decode cX10_isBad 97 = .ok (.iadd, 1) := by decide +kernel
theorem dX10_isBad_98 : decode cX10_isBad 98 = .ok (.istore_n 3, 1) := by decide +kernel
theorem dX10_isBad_99 : decode cX10_isBad 99 = .ok (.iinc 4 1, 3) := by decide +kernel
theorem dX10_isBad_102 : decode cX10_isBad 102 = .ok (.goto (-92), 3) := by decide +kernel
theorem dX10_isBad_105 : decode cX10_isBad 105 = .ok (.iload_n 2, 1) := by decide +kernel
theorem dX10_isBad_106 : decode cX10_isBad 106 = .ok (.ifCond .ne 8, 3) := by decide +kernel
theorem dX10_isBad_109 : decode cX10_isBad 109 = .ok (.iload_n 3, 1) := by decide +kernel
theorem dX10_isBad_110 : decode cX10_isBad 110 = .ok (.iconst 1, 1) := by decide +kernel
theorem dX10_isBad_111 : decode cX10_isBad 111 = .ok (.if_icmp .le 7, 3) := by decide +kernel
theorem dX10_isBad_114 : decode cX10_isBad 114 = .ok (.iconst 1, 1) := by decide +kernel
theorem dX10_isBad_115 : decode cX10_isBad 115 = .ok (.goto 4, 3) := by decide +kernel
theorem dX10_isBad_118 : decode cX10_isBad 118 = .ok (.iconst 0, 1) := by decide +kernel
theorem dX10_isBad_119 : decode cX10_isBad 119 = .ok (.ireturn, 1) := by decide +kernel
theorem dX10_isWorn_0 : decode cX10_isWorn 0 = .ok (.aload_n 0, 1) := by decide +kernel
theorem dX10_isWorn_1 : decode cX10_isWorn 1 = .ok (.getfield 19, 3) := by decide +kernel
theorem dX10_isWorn_4 : decode cX10_isWorn 4 = .ok (.iconst 4, 1) := by decide +kernel
theorem dX10_isWorn_5 : decode cX10_isWorn 5 = .ok (.iload_n 1, 1) := by decide +kernel
theorem dX10_isWorn_6 : decode cX10_isWorn 6 = .ok (.imul, 1) := by decide +kernel
theorem dX10_isWorn_7 : decode cX10_isWorn 7 = .ok (.iaload, 1) := by decide +kernel
theorem dX10_isWorn_8 : decode cX10_isWorn 8 = .ok (.istore_n 2, 1) := by decide +kernel
theorem dX10_isWorn_9 : decode cX10_isWorn 9 = .ok (.iload_n 2, 1) := by decide +kernel
theorem dX10_isWorn_10 : decode cX10_isWorn 10 = .ok (.istore_n 3, 1) := by decide +kernel
theorem dX10_isWorn_11 : decode cX10_isWorn 11 = .ok (.iconst 4, 1) := by decide +kernel
theorem dX10_isWorn_12 : decode cX10_isWorn 12 = .ok (.iload_n 1, 1) := by decide +kernel
theorem dX10_isWorn_13 : decode cX10_isWorn 13 = .ok (.imul, 1) := by decide +kernel
theorem dX10_isWorn_14 : decode cX10_isWorn 14 = .ok (.istore 4, 2) := by decide +kernel
theorem dX10_isWorn_16 : decode cX10_isWorn 16 = .ok (.iload 4, 2) := by decide +kernel
theorem dX10_isWorn_18 : decode cX10_isWorn 18 = .ok (.iconst 4, 1) := by decide +kernel
theorem dX10_isWorn_19 : decode cX10_isWorn 19 = .ok (.iload_n 1, 1) := by decide +kernel
theorem dX10_isWorn_20 : decode cX10_isWorn 20 = .ok (.imul, 1) := by decide +kernel
theorem dX10_isWorn_21 : decode cX10_isWorn 21 = .ok (.iconst 4, 1) := by decide +kernel
theorem dX10_isWorn_22 : decode cX10_isWorn 22 = .ok (.iadd, 1) := by decide +kernel
theorem dX10_isWorn_23 : decode cX10_isWorn 23 = .ok (.if_icmp .ge 55, 3) := by decide +kernel
theorem dX10_isWorn_26 : decode cX10_isWorn 26 = .ok (.aload_n 0, 1) := by decide +kernel
theorem dX10_isWorn_27 : decode cX10_isWorn 27 = .ok (.getfield 19, 3) := by decide +kernel
theorem dX10_isWorn_30 : decode cX10_isWorn 30 = .ok (.iload 4, 2) := by decide +kernel
theorem dX10_isWorn_32 : decode cX10_isWorn 32 = .ok (.iaload, 1) := by decide +kernel
theorem dX10_isWorn_33 : decode cX10_isWorn 33 = .ok (.iload_n 2, 1) := by decide +kernel
theorem dX10_isWorn_34 : decode cX10_isWorn 34 = .ok (.if_icmp .ge 13, 3) := by decide +kernel
theorem dX10_isWorn_37 : decode cX10_isWorn 37 = .ok (.aload_n 0, 1) := by decide +kernel
theorem dX10_isWorn_38 : decode cX10_isWorn 38 = .ok (.getfield 19, 3) := by decide +kernel
theorem dX10_isWorn_41 : decode cX10_isWorn 41 = .ok (.iload 4, 2) := by decide +kernel
theorem dX10_isWorn_43 : decode cX10_isWorn 43 = .ok (.iaload, 1) := by decide +kernel
theorem dX10_isWorn_44 : decode cX10_isWorn 44 = .ok (.goto 4, 3) := by decide +kernel
theorem dX10_isWorn_47 : decode cX10_isWorn 47 = .ok (.iload_n 2, 1) := by decide +kernel
theorem dX10_isWorn_48 : decode cX10_isWorn 48 = .ok (.istore_n 2, 1) := by decide +kernel
theorem dX10_isWorn_49 : decode cX10_isWorn 49 = .ok (.aload_n 0, 1) := by decide +kernel
theorem dX10_isWorn_50 : decode cX10_isWorn 50 = .ok (.getfield 19, 3) := by decide +kernel
theorem dX10_isWorn_53 : decode cX10_isWorn 53 = .ok (.iload 4, 2) := by decide +kernel
theorem dX10_isWorn_55 : decode cX10_isWorn 55 = .ok (.iaload, 1) := by decide +kernel
theorem dX10_isWorn_56 : decode cX10_isWorn 56 = .ok (.iload_n 3, 1) := by decide +kernel
theorem dX10_isWorn_57 : decode cX10_isWorn 57 = .ok (.if_icmp .le 13, 3) := by decide +kernel
theorem dX10_isWorn_60 : decode cX10_isWorn 60 = .ok (.aload_n 0, 1) := by decide +kernel
theorem dX10_isWorn_61 : decode cX10_isWorn 61 = .ok (.getfield 19, 3) := by decide +kernel
theorem dX10_isWorn_64 : decode cX10_isWorn 64 = .ok (.iload 4, 2) := by decide +kernel
theorem dX10_isWorn_66 : decode cX10_isWorn 66 = .ok (.iaload, 1) := by decide +kernel
theorem dX10_isWorn_67 : decode cX10_isWorn 67 = .ok (.goto 4, 3) := by decide +kernel
theorem dX10_isWorn_70 : decode cX10_isWorn 70 = .ok (.iload_n 3, 1) := by decide +kernel
theorem dX10_isWorn_71 : decode cX10_isWorn 71 = .ok (.istore_n 3, 1) := by decide +kernel
theorem dX10_isWorn_72 : decode cX10_isWorn 72 = .ok (.iinc 4 1, 3) := by decide +kernel
theorem dX10_isWorn_75 : decode cX10_isWorn 75 = .ok (.goto (-59), 3) := by decide +kernel
theorem dX10_isWorn_78 : decode cX10_isWorn 78 = .ok (.iload_n 3, 1) := by decide +kernel
theorem dX10_isWorn_79 : decode cX10_isWorn 79 = .ok (.iload_n 2, 1) := by decide +kernel
theorem dX10_isWorn_80 : decode cX10_isWorn 80 = .ok (.isub, 1) := by decide +kernel
theorem dX10_isWorn_81 : decode cX10_isWorn 81 = .ok (.bipush 6, 2) := by decide +kernel
theorem dX10_isWorn_83 : decode cX10_isWorn 83 = .ok (.if_icmp .gt 10, 3) := by decide +kernel
theorem dX10_isWorn_86 : decode cX10_isWorn 86 = .ok (.iload_n 2, 1) := by decide +kernel
theorem dX10_isWorn_87 : decode cX10_isWorn 87 = .ok (.sipush 800, 3) := by decide +kernel
theorem dX10_isWorn_90 : decode cX10_isWorn 90 = .ok (.if_icmp .ge 7, 3) := by decide +kernel
theorem dX10_isWorn_93 : decode cX10_isWorn 93 = .ok (.iconst 1, 1) := by decide +kernel
theorem dX10_isWorn_94 : decode cX10_isWorn 94 = .ok (.goto 4, 3) := by decide +kernel
theorem dX10_isWorn_97 : decode cX10_isWorn 97 = .ok (.iconst 0, 1) := by decide +kernel
theorem dX10_isWorn_98 : decode cX10_isWorn 98 = .ok (.ireturn, 1) := by decide +kernel
theorem dX10_reason_0 : decode cX10_reason 0 = .ok (.aload_n 0, 1) := by decide +kernel
theorem dX10_reason_1 : decode cX10_reason 1 = .ok (.getfield 7, 3) := by decide +kernel
theorem dX10_reason_4 : decode cX10_reason 4 = .ok (.iload_n 1, 1) := by decide +kernel
theorem dX10_reason_5 : decode cX10_reason 5 = .ok (.iaload, 1) := by decide +kernel
theorem dX10_reason_6 : decode cX10_reason 6 = .ok (.aload_n 0, 1) := by decide +kernel
theorem dX10_reason_7 : decode cX10_reason 7 = .ok (.getfield 49, 3) := by decide +kernel
theorem dX10_reason_10 : decode cX10_reason 10 = .ok (.iload_n 2, 1) := by decide +kernel
theorem dX10_reason_11 : decode cX10_reason 11 = .ok (.iaload, 1) := by decide +kernel
theorem dX10_reason_12 : decode cX10_reason 12 = .ok (.if_icmp .eq 5, 3) := by decide +kernel
theorem dX10_reason_15 : decode cX10_reason 15 = .ok (.iconst 1, 1) := by decide +kernel
theorem dX10_reason_16 : decode cX10_reason 16 = .ok (.ireturn, 1) := by decide +kernel
theorem dX10_reason_17 : decode cX10_reason 17 = .ok (.aload_n 0, 1) := by decide +kernel
theorem dX10_reason_18 : decode cX10_reason 18 = .ok (.iload_n 1, 1) := by decide +kernel
theorem dX10_reason_19 : decode cX10_reason 19 = .ok (.aload_n 0, 1) := by decide +kernel
theorem dX10_reason_20 : decode cX10_reason 20 = .ok (.getfield 55, 3) := by decide +kernel
theorem dX10_reason_23 : decode cX10_reason 23 = .ok (.iload_n 2, 1) := by decide +kernel
theorem dX10_reason_24 : decode cX10_reason 24 = .ok (.iaload, 1) := by decide +kernel
theorem dX10_reason_25 : decode cX10_reason 25 = .ok (.invokevirtual 141, 3) := by decide +kernel
theorem dX10_reason_28 : decode cX10_reason 28 = .ok (.ifCond .eq 7, 3) := by decide +kernel
theorem dX10_reason_31 : decode cX10_reason 31 = .ok (.iconst 2, 1) := by decide +kernel
theorem dX10_reason_32 : decode cX10_reason 32 = .ok (.goto 46, 3) := by decide +kernel
theorem dX10_reason_35 : decode cX10_reason 35 = .ok (.aload_n 0, 1) := by decide +kernel
theorem dX10_reason_36 : decode cX10_reason 36 = .ok (.iload_n 1, 1) := by decide +kernel
theorem dX10_reason_37 : decode cX10_reason 37 = .ok (.aload_n 0, 1) := by decide +kernel
theorem dX10_reason_38 : decode cX10_reason 38 = .ok (.getfield 58, 3) := by decide +kernel
theorem dX10_reason_41 : decode cX10_reason 41 = .ok (.iload_n 2, 1) := by decide +kernel
theorem dX10_reason_42 : decode cX10_reason 42 = .ok (.iaload, 1) := by decide +kernel
theorem dX10_reason_43 : decode cX10_reason 43 = .ok (.invokevirtual 145, 3) := by decide +kernel
theorem dX10_reason_46 : decode cX10_reason 46 = .ok (.ifCond .eq 7, 3) := by decide +kernel
theorem dX10_reason_49 : decode cX10_reason 49 = .ok (.iconst 3, 1) := by decide +kernel
theorem dX10_reason_50 : decode cX10_reason 50 = .ok (.goto 28, 3) := by decide +kernel
theorem dX10_reason_53 : decode cX10_reason 53 = .ok (.aload_n 0, 1) := by decide +kernel
theorem dX10_reason_54 : decode cX10_reason 54 = .ok (.iload_n 1, 1) := by decide +kernel
theorem dX10_reason_55 : decode cX10_reason 55 = .ok (.invokevirtual 148, 3) := by decide +kernel
theorem dX10_reason_58 : decode cX10_reason 58 = .ok (.ifCond .eq 7, 3) := by decide +kernel
theorem dX10_reason_61 : decode cX10_reason 61 = .ok (.iconst 4, 1) := by decide +kernel
theorem dX10_reason_62 : decode cX10_reason 62 = .ok (.goto 16, 3) := by decide +kernel
theorem dX10_reason_65 : decode cX10_reason 65 = .ok (.aload_n 0, 1) := by decide +kernel
theorem dX10_reason_66 : decode cX10_reason 66 = .ok (.iload_n 1, 1) := by decide +kernel
theorem dX10_reason_67 : decode cX10_reason 67 = .ok (.invokevirtual 151, 3) := by decide +kernel
theorem dX10_reason_70 : decode cX10_reason 70 = .ok (.ifCond .eq 7, 3) := by decide +kernel
theorem dX10_reason_73 : decode cX10_reason 73 = .ok (.iconst 5, 1) := by decide +kernel
theorem dX10_reason_74 : decode cX10_reason 74 = .ok (.goto 4, 3) := by decide +kernel
theorem dX10_reason_77 : decode cX10_reason 77 = .ok (.iconst 0, 1) := by decide +kernel
theorem dX10_reason_78 : decode cX10_reason 78 = .ok (.ireturn, 1) := by decide +kernel
theorem dX10_whyNot_0 : decode cX10_whyNot 0 = .ok (.aload_n 0, 1) := by decide +kernel
theorem dX10_whyNot_1 : decode cX10_whyNot 1 = .ok (.aload_n 0, 1) := by decide +kernel
theorem dX10_whyNot_2 : decode cX10_whyNot 2 = .ok (.iload_n 1, 1) := by decide +kernel
theorem dX10_whyNot_3 : decode cX10_whyNot 3 = .ok (.invokevirtual 115, 3) := by decide +kernel
theorem dX10_whyNot_6 : decode cX10_whyNot 6 = .ok (.ifCond .eq 11, 3) := by decide +kernel
theorem dX10_whyNot_9 : decode cX10_whyNot 9 = .ok (.aload_n 0, 1) := by decide +kernel
theorem dX10_whyNot_10 : decode cX10_whyNot 10 = .ok (.iload_n 2, 1) := by decide +kernel
theorem dX10_whyNot_11 : decode cX10_whyNot 11 = .ok (.invokevirtual 138, 3) := by decide +kernel
theorem dX10_whyNot_14 : decode cX10_whyNot 14 = .ok (.ifCond .ne 7, 3) := by decide +kernel
theorem dX10_whyNot_17 : decode cX10_whyNot 17 = .ok (.iconst 1, 1) := by decide +kernel
theorem dX10_whyNot_18 : decode cX10_whyNot 18 = .ok (.goto 4, 3) := by decide +kernel
theorem dX10_whyNot_21 : decode cX10_whyNot 21 = .ok (.iconst 0, 1) := by decide +kernel
theorem dX10_whyNot_22 : decode cX10_whyNot 22 = .ok (.putfield 101, 3) := by decide +kernel
theorem dX10_whyNot_25 : decode cX10_whyNot 25 = .ok (.aload_n 0, 1) := by decide +kernel
theorem dX10_whyNot_26 : decode cX10_whyNot 26 = .ok (.getfield 101, 3) := by decide +kernel
theorem dX10_whyNot_29 : decode cX10_whyNot 29 = .ok (.ifCond .le 7, 3) := by decide +kernel
theorem dX10_whyNot_32 : decode cX10_whyNot 32 = .ok (.iconst 0, 1) := by decide +kernel
theorem dX10_whyNot_33 : decode cX10_whyNot 33 = .ok (.goto 9, 3) := by decide +kernel
theorem dX10_whyNot_36 : decode cX10_whyNot 36 = .ok (.aload_n 0, 1) := by decide +kernel
theorem dX10_whyNot_37 : decode cX10_whyNot 37 = .ok (.iload_n 1, 1) := by decide +kernel
theorem dX10_whyNot_38 : decode cX10_whyNot 38 = .ok (.iload_n 2, 1) := by decide +kernel
theorem dX10_whyNot_39 : decode cX10_whyNot 39 = .ok (.invokevirtual 154, 3) := by decide +kernel
theorem dX10_whyNot_42 : decode cX10_whyNot 42 = .ok (.ireturn, 1) := by decide +kernel
theorem dX10_isSoon_0 : decode cX10_isSoon 0 = .ok (.iconst 0, 1) := by decide +kernel
theorem dX10_isSoon_1 : decode cX10_isSoon 1 = .ok (.istore_n 2, 1) := by decide +kernel
theorem dX10_isSoon_2 : decode cX10_isSoon 2 = .ok (.iconst 0, 1) := by decide +kernel
theorem dX10_isSoon_3 : decode cX10_isSoon 3 = .ok (.istore_n 3, 1) := by decide +kernel
theorem dX10_isSoon_4 : decode cX10_isSoon 4 = .ok (.iload_n 3, 1) := by decide +kernel
theorem dX10_isSoon_5 : decode cX10_isSoon 5 = .ok (.iconst 3, 1) := by decide +kernel
theorem dX10_isSoon_6 : decode cX10_isSoon 6 = .ok (.if_icmp .ge 44, 3) := by decide +kernel
theorem dX10_isSoon_9 : decode cX10_isSoon 9 = .ok (.iload_n 2, 1) := by decide +kernel
theorem dX10_isSoon_10 : decode cX10_isSoon 10 = .ok (.ifCond .ne 28, 3) := by decide +kernel
theorem dX10_isSoon_13 : decode cX10_isSoon 13 = .ok (.aload_n 0, 1) := by decide +kernel
theorem dX10_isSoon_14 : decode cX10_isSoon 14 = .ok (.getfield 22, 3) := by decide +kernel
theorem dX10_isSoon_17 : decode cX10_isSoon 17 = .ok (.iconst 3, 1) := by decide +kernel
theorem dX10_isSoon_18 : decode cX10_isSoon 18 = .ok (.iload_n 1, 1) := by decide +kernel
theorem dX10_isSoon_19 : decode cX10_isSoon 19 = .ok (.imul, 1) := by decide +kernel
theorem dX10_isSoon_20 : decode cX10_isSoon 20 = .ok (.iload_n 3, 1) := by decide +kernel
theorem dX10_isSoon_21 : decode cX10_isSoon 21 = .ok (.iadd, 1) := by decide +kernel
theorem dX10_isSoon_22 : decode cX10_isSoon 22 = .ok (.iaload, 1) := by decide +kernel
theorem dX10_isSoon_23 : decode cX10_isSoon 23 = .ok (.bipush 100, 2) := by decide +kernel
theorem dX10_isSoon_25 : decode cX10_isSoon 25 = .ok (.imul, 1) := by decide +kernel
theorem dX10_isSoon_26 : decode cX10_isSoon 26 = .ok (.bipush 80, 2) := by decide +kernel
theorem dX10_isSoon_28 : decode cX10_isSoon 28 = .ok (.aload_n 0, 1) := by decide +kernel
theorem dX10_isSoon_29 : decode cX10_isSoon 29 = .ok (.getfield 67, 3) := by decide +kernel
theorem dX10_isSoon_32 : decode cX10_isSoon 32 = .ok (.iload_n 3, 1) := by decide +kernel
theorem dX10_isSoon_33 : decode cX10_isSoon 33 = .ok (.iaload, 1) := by decide +kernel
theorem dX10_isSoon_34 : decode cX10_isSoon 34 = .ok (.imul, 1) := by decide +kernel
theorem dX10_isSoon_35 : decode cX10_isSoon 35 = .ok (.if_icmp .lt 7, 3) := by decide +kernel
theorem dX10_isSoon_38 : decode cX10_isSoon 38 = .ok (.iconst 1, 1) := by decide +kernel
theorem dX10_isSoon_39 : decode cX10_isSoon 39 = .ok (.goto 4, 3) := by decide +kernel
theorem dX10_isSoon_42 : decode cX10_isSoon 42 = .ok (.iconst 0, 1) := by decide +kernel
theorem dX10_isSoon_43 : decode cX10_isSoon 43 = .ok (.istore_n 2, 1) := by decide +kernel
theorem dX10_isSoon_44 : decode cX10_isSoon 44 = .ok (.iinc 3 1, 3) := by decide +kernel
theorem dX10_isSoon_47 : decode cX10_isSoon 47 = .ok (.goto (-43), 3) := by decide +kernel
theorem dX10_isSoon_50 : decode cX10_isSoon 50 = .ok (.iload_n 2, 1) := by decide +kernel
theorem dX10_isSoon_51 : decode cX10_isSoon 51 = .ok (.ireturn, 1) := by decide +kernel
theorem dX10_looks_0 : decode cX10_looks 0 = .ok (.iconst 0, 1) := by decide +kernel
theorem dX10_looks_1 : decode cX10_looks 1 = .ok (.istore_n 1, 1) := by decide +kernel
theorem dX10_looks_2 : decode cX10_looks 2 = .ok (.iconst 0, 1) := by decide +kernel
theorem dX10_looks_3 : decode cX10_looks 3 = .ok (.istore_n 2, 1) := by decide +kernel
theorem dX10_looks_4 : decode cX10_looks 4 = .ok (.iconst 0, 1) := by decide +kernel
theorem dX10_looks_5 : decode cX10_looks 5 = .ok (.istore_n 3, 1) := by decide +kernel
theorem dX10_looks_6 : decode cX10_looks 6 = .ok (.iload_n 3, 1) := by decide +kernel
theorem dX10_looks_7 : decode cX10_looks 7 = .ok (.aload_n 0, 1) := by decide +kernel
theorem dX10_looks_8 : decode cX10_looks 8 = .ok (.getfield 112, 3) := by decide +kernel
theorem dX10_looks_11 : decode cX10_looks 11 = .ok (.if_icmp .ge 79, 3) := by decide +kernel
theorem dX10_looks_14 : decode cX10_looks 14 = .ok (.iload_n 1, 1) := by decide +kernel
theorem dX10_looks_15 : decode cX10_looks 15 = .ok (.aload_n 0, 1) := by decide +kernel
theorem dX10_looks_16 : decode cX10_looks 16 = .ok (.getfield 88, 3) := by decide +kernel
theorem dX10_looks_19 : decode cX10_looks 19 = .ok (.iload_n 3, 1) := by decide +kernel
theorem dX10_looks_20 : decode cX10_looks 20 = .ok (.iaload, 1) := by decide +kernel
theorem dX10_looks_21 : decode cX10_looks 21 = .ok (.aload_n 0, 1) := by decide +kernel
theorem dX10_looks_22 : decode cX10_looks 22 = .ok (.getfield 109, 3) := by decide +kernel
theorem dX10_looks_25 : decode cX10_looks 25 = .ok (.if_icmp .ne 12, 3) := by decide +kernel
theorem dX10_looks_28 : decode cX10_looks 28 = .ok (.aload_n 0, 1) := by decide +kernel
theorem dX10_looks_29 : decode cX10_looks 29 = .ok (.getfield 61, 3) := by decide +kernel
theorem dX10_looks_32 : decode cX10_looks 32 = .ok (.iload_n 3, 1) := by decide +kernel
theorem dX10_looks_33 : decode cX10_looks 33 = .ok (.iaload, 1) := by decide +kernel
theorem dX10_looks_34 : decode cX10_looks 34 = .ok (.goto 4, 3) := by decide +kernel
theorem dX10_looks_37 : decode cX10_looks 37 = .ok (.iconst 0, 1) := by decide +kernel
theorem dX10_looks_38 : decode cX10_looks 38 = .ok (.iadd, 1) := by decide +kernel
theorem dX10_looks_39 : decode cX10_looks 39 = .ok (.istore_n 1, 1) := by decide +kernel
theorem dX10_looks_40 : decode cX10_looks 40 = .ok (.iload_n 2, 1) := by decide +kernel
theorem dX10_looks_41 : decode cX10_looks 41 = .ok (.aload_n 0, 1) := by decide +kernel
theorem dX10_looks_42 : decode cX10_looks 42 = .ok (.getfield 88, 3) := by decide +kernel
theorem dX10_looks_45 : decode cX10_looks 45 = .ok (.iload_n 3, 1) := by decide +kernel
theorem dX10_looks_46 : decode cX10_looks 46 = .ok (.iaload, 1) := by decide +kernel
theorem dX10_looks_47 : decode cX10_looks 47 = .ok (.aload_n 0, 1) := by decide +kernel
theorem dX10_looks_48 : decode cX10_looks 48 = .ok (.getfield 109, 3) := by decide +kernel
theorem dX10_looks_51 : decode cX10_looks 51 = .ok (.if_icmp .ge 30, 3) := by decide +kernel
theorem dX10_looks_54 : decode cX10_looks 54 = .ok (.aload_n 0, 1) := by decide +kernel
theorem dX10_looks_55 : decode cX10_looks 55 = .ok (.getfield 52, 3) := by decide +kernel
theorem dX10_looks_58 : decode cX10_looks 58 = .ok (.iload_n 3, 1) := by decide +kernel
theorem dX10_looks_59 : decode cX10_looks 59 = .ok (.iaload, 1) := by decide +kernel
theorem dX10_looks_60 : decode cX10_looks 60 = .ok (.ifCond .ne 21, 3) := by decide +kernel
theorem dX10_looks_63 : decode cX10_looks 63 = .ok (.aload_n 0, 1) := by decide +kernel
theorem dX10_looks_64 : decode cX10_looks 64 = .ok (.getfield 98, 3) := by decide +kernel
theorem dX10_looks_67 : decode cX10_looks 67 = .ok (.aload_n 0, 1) := by decide +kernel
theorem dX10_looks_68 : decode cX10_looks 68 = .ok (.getfield 88, 3) := by decide +kernel
theorem dX10_looks_71 : decode cX10_looks 71 = .ok (.iload_n 3, 1) := by decide +kernel
theorem dX10_looks_72 : decode cX10_looks 72 = .ok (.iaload, 1) := by decide +kernel
theorem dX10_looks_73 : decode cX10_looks 73 = .ok (.baload, 1) := by decide +kernel
theorem dX10_looks_74 : decode cX10_looks 74 = .ok (.ifCond .eq 7, 3) := by decide +kernel
theorem dX10_looks_77 : decode cX10_looks 77 = .ok (.iconst 1, 1) := by decide +kernel
theorem dX10_looks_78 : decode cX10_looks 78 = .ok (.goto 4, 3) := by decide +kernel
theorem dX10_looks_81 : decode cX10_looks 81 = .ok (.iconst 0, 1) := by decide +kernel
theorem dX10_looks_82 : decode cX10_looks 82 = .ok (.iadd, 1) := by decide +kernel
theorem dX10_looks_83 : decode cX10_looks 83 = .ok (.istore_n 2, 1) := by decide +kernel
theorem dX10_looks_84 : decode cX10_looks 84 = .ok (.iinc 3 1, 3) := by decide +kernel
theorem dX10_looks_87 : decode cX10_looks 87 = .ok (.goto (-81), 3) := by decide +kernel
theorem dX10_looks_90 : decode cX10_looks 90 = .ok (.aload_n 0, 1) := by decide +kernel
theorem dX10_looks_91 : decode cX10_looks 91 = .ok (.getfield 158, 3) := by decide +kernel
theorem dX10_looks_94 : decode cX10_looks 94 = .ok (.iconst (-1), 1) := by decide +kernel
theorem dX10_looks_95 : decode cX10_looks 95 = .ok (.if_icmp .eq 27, 3) := by decide +kernel
theorem dX10_looks_98 : decode cX10_looks 98 = .ok (.iload_n 1, 1) := by decide +kernel
theorem dX10_looks_99 : decode cX10_looks 99 = .ok (.aload_n 0, 1) := by decide +kernel
theorem dX10_looks_100 : decode cX10_looks 100 = .ok (.getfield 158, 3) := by decide +kernel
theorem dX10_looks_103 : decode cX10_looks 103 = .ok (.if_icmp .lt 19, 3) := by decide +kernel
theorem dX10_looks_106 : decode cX10_looks 106 = .ok (.iload_n 1, 1) := by decide +kernel
theorem dX10_looks_107 : decode cX10_looks 107 = .ok (.aload_n 0, 1) := by decide +kernel
theorem dX10_looks_108 : decode cX10_looks 108 = .ok (.getfield 158, 3) := by decide +kernel
theorem dX10_looks_111 : decode cX10_looks 111 = .ok (.if_icmp .ne 66, 3) := by decide +kernel
theorem dX10_looks_114 : decode cX10_looks 114 = .ok (.iload_n 2, 1) := by decide +kernel
theorem dX10_looks_115 : decode cX10_looks 115 = .ok (.aload_n 0, 1) := by decide +kernel
theorem dX10_looks_116 : decode cX10_looks 116 = .ok (.getfield 161, 3) := by decide +kernel
theorem dX10_looks_119 : decode cX10_looks 119 = .ok (.if_icmp .le 58, 3) := by decide +kernel
theorem dX10_looks_122 : decode cX10_looks 122 = .ok (.aload_n 0, 1) := by decide +kernel
theorem dX10_looks_123 : decode cX10_looks 123 = .ok (.iload_n 1, 1) := by decide +kernel
theorem dX10_looks_124 : decode cX10_looks 124 = .ok (.putfield 158, 3) := by decide +kernel
theorem dX10_looks_127 : decode cX10_looks 127 = .ok (.aload_n 0, 1) := by decide +kernel
theorem dX10_looks_128 : decode cX10_looks 128 = .ok (.iload_n 2, 1) := by decide +kernel
theorem dX10_looks_129 : decode cX10_looks 129 = .ok (.putfield 161, 3) := by decide +kernel
theorem dX10_looks_132 : decode cX10_looks 132 = .ok (.iconst 0, 1) := by decide +kernel
theorem dX10_looks_133 : decode cX10_looks 133 = .ok (.istore_n 3, 1) := by decide +kernel
theorem dX10_looks_134 : decode cX10_looks 134 = .ok (.iload_n 3, 1) := by decide +kernel
theorem dX10_looks_135 : decode cX10_looks 135 = .ok (.aload_n 0, 1) := by decide +kernel
theorem dX10_looks_136 : decode cX10_looks 136 = .ok (.getfield 112, 3) := by decide +kernel
theorem dX10_looks_139 : decode cX10_looks 139 = .ok (.if_icmp .ge 38, 3) := by decide +kernel
theorem dX10_looks_142 : decode cX10_looks 142 = .ok (.aload_n 0, 1) := by decide +kernel
theorem dX10_looks_143 : decode cX10_looks 143 = .ok (.getfield 85, 3) := by decide +kernel
theorem dX10_looks_146 : decode cX10_looks 146 = .ok (.iload_n 3, 1) := by decide +kernel
theorem dX10_looks_147 : decode cX10_looks 147 = .ok (.aload_n 0, 1) := by decide +kernel
theorem dX10_looks_148 : decode cX10_looks 148 = .ok (.getfield 88, 3) := by decide +kernel
theorem dX10_looks_151 : decode cX10_looks 151 = .ok (.iload_n 3, 1) := by decide +kernel
theorem dX10_looks_152 : decode cX10_looks 152 = .ok (.iaload, 1) := by decide +kernel
theorem dX10_looks_153 : decode cX10_looks 153 = .ok (.aload_n 0, 1) := by decide +kernel
theorem dX10_looks_154 : decode cX10_looks 154 = .ok (.getfield 109, 3) := by decide +kernel
theorem dX10_looks_157 : decode cX10_looks 157 = .ok (.if_icmp .ne 7, 3) := by decide +kernel
theorem dX10_looks_160 : decode cX10_looks 160 = .ok (.iconst (-1), 1) := by decide +kernel
theorem dX10_looks_161 : decode cX10_looks 161 = .ok (.goto 9, 3) := by decide +kernel
theorem dX10_looks_164 : decode cX10_looks 164 = .ok (.aload_n 0, 1) := by decide +kernel
theorem dX10_looks_165 : decode cX10_looks 165 = .ok (.getfield 88, 3) := by decide +kernel
theorem dX10_looks_168 : decode cX10_looks 168 = .ok (.iload_n 3, 1) := by decide +kernel
theorem dX10_looks_169 : decode cX10_looks 169 = .ok (.iaload, 1) := by decide +kernel
theorem dX10_looks_170 : decode cX10_looks 170 = .ok (.iastore, 1) := by decide +kernel
theorem dX10_looks_171 : decode cX10_looks 171 = .ok (.iinc 3 1, 3) := by decide +kernel
theorem dX10_looks_174 : decode cX10_looks 174 = .ok (.goto (-40), 3) := by decide +kernel
theorem dX10_looks_177 : decode cX10_looks 177 = .ok (.return_, 1) := by decide +kernel
theorem dX10_decides_0 : decode cX10_decides 0 = .ok (.aload_n 0, 1) := by decide +kernel
theorem dX10_decides_1 : decode cX10_decides 1 = .ok (.aload_n 0, 1) := by decide +kernel
theorem dX10_decides_2 : decode cX10_decides 2 = .ok (.getfield 112, 3) := by decide +kernel
theorem dX10_decides_5 : decode cX10_decides 5 = .ok (.ifCond .ne 7, 3) := by decide +kernel
theorem dX10_decides_8 : decode cX10_decides 8 = .ok (.iconst 0, 1) := by decide +kernel
theorem dX10_decides_9 : decode cX10_decides 9 = .ok (.goto 4, 3) := by decide +kernel
theorem dX10_decides_12 : decode cX10_decides 12 = .ok (.iconst (-1), 1) := by decide +kernel
theorem dX10_decides_13 : decode cX10_decides 13 = .ok (.putfield 158, 3) := by decide +kernel
theorem dX10_decides_16 : decode cX10_decides 16 = .ok (.aload_n 0, 1) := by decide +kernel
theorem dX10_decides_17 : decode cX10_decides 17 = .ok (.iconst 0, 1) := by decide +kernel
theorem dX10_decides_18 : decode cX10_decides 18 = .ok (.putfield 161, 3) := by decide +kernel
theorem dX10_decides_21 : decode cX10_decides 21 = .ok (.iconst 0, 1) := by decide +kernel
theorem dX10_decides_22 : decode cX10_decides 22 = .ok (.istore_n 1, 1) := by decide +kernel
theorem dX10_decides_23 : decode cX10_decides 23 = .ok (.iload_n 1, 1) := by decide +kernel
theorem dX10_decides_24 : decode cX10_decides 24 = .ok (.aload_n 0, 1) := by decide +kernel
theorem dX10_decides_25 : decode cX10_decides 25 = .ok (.getfield 109, 3) := by decide +kernel
theorem dX10_decides_28 : decode cX10_decides 28 = .ok (.if_icmp .ge 88, 3) := by decide +kernel
theorem dX10_decides_31 : decode cX10_decides 31 = .ok (.aload_n 0, 1) := by decide +kernel
theorem dX10_decides_32 : decode cX10_decides 32 = .ok (.getfield 91, 3) := by decide +kernel
theorem dX10_decides_35 : decode cX10_decides 35 = .ok (.iload_n 1, 1) := by decide +kernel
theorem dX10_decides_36 : decode cX10_decides 36 = .ok (.iconst 0, 1) := by decide +kernel
theorem dX10_decides_37 : decode cX10_decides 37 = .ok (.bastore, 1) := by decide +kernel
theorem dX10_decides_38 : decode cX10_decides 38 = .ok (.aload_n 0, 1) := by decide +kernel
theorem dX10_decides_39 : decode cX10_decides 39 = .ok (.getfield 98, 3) := by decide +kernel
theorem dX10_decides_42 : decode cX10_decides 42 = .ok (.iload_n 1, 1) := by decide +kernel
theorem dX10_decides_43 : decode cX10_decides 43 = .ok (.aload_n 0, 1) := by decide +kernel
theorem dX10_decides_44 : decode cX10_decides 44 = .ok (.iload_n 1, 1) := by decide +kernel
theorem dX10_decides_45 : decode cX10_decides 45 = .ok (.invokevirtual 164, 3) := by decide +kernel
theorem dX10_decides_48 : decode cX10_decides 48 = .ok (.bastore, 1) := by decide +kernel
theorem dX10_decides_49 : decode cX10_decides 49 = .ok (.iconst 0, 1) := by decide +kernel
theorem dX10_decides_50 : decode cX10_decides 50 = .ok (.istore_n 2, 1) := by decide +kernel
theorem dX10_decides_51 : decode cX10_decides 51 = .ok (.iload_n 2, 1) := by decide +kernel
theorem dX10_decides_52 : decode cX10_decides 52 = .ok (.aload_n 0, 1) := by decide +kernel
theorem dX10_decides_53 : decode cX10_decides 53 = .ok (.getfield 112, 3) := by decide +kernel
theorem dX10_decides_56 : decode cX10_decides 56 = .ok (.if_icmp .ge 54, 3) := by decide +kernel
theorem dX10_decides_59 : decode cX10_decides 59 = .ok (.aload_n 0, 1) := by decide +kernel
theorem dX10_decides_60 : decode cX10_decides 60 = .ok (.getfield 95, 3) := by decide +kernel
theorem dX10_decides_63 : decode cX10_decides 63 = .ok (.bipush 6, 2) := by decide +kernel
theorem dX10_decides_65 : decode cX10_decides 65 = .ok (.iload_n 2, 1) := by decide +kernel
theorem dX10_decides_66 : decode cX10_decides 66 = .ok (.imul, 1) := by decide +kernel
theorem dX10_decides_67 : decode cX10_decides 67 = .ok (.iload_n 1, 1) := by decide +kernel
theorem dX10_decides_68 : decode cX10_decides 68 = .ok (.iadd, 1) := by decide +kernel
theorem dX10_decides_69 : decode cX10_decides 69 = .ok (.aload_n 0, 1) := by decide +kernel
theorem dX10_decides_70 : decode cX10_decides 70 = .ok (.iload_n 1, 1) := by decide +kernel
theorem dX10_decides_71 : decode cX10_decides 71 = .ok (.iload_n 2, 1) := by decide +kernel
theorem dX10_decides_72 : decode cX10_decides 72 = .ok (.invokevirtual 154, 3) := by decide +kernel
theorem dX10_decides_75 : decode cX10_decides 75 = .ok (.ifCond .ne 27, 3) := by decide +kernel
theorem dX10_decides_78 : decode cX10_decides 78 = .ok (.aload_n 0, 1) := by decide +kernel
theorem dX10_decides_79 : decode cX10_decides 79 = .ok (.getfield 64, 3) := by decide +kernel
theorem dX10_decides_82 : decode cX10_decides 82 = .ok (.iload_n 2, 1) := by decide +kernel
theorem dX10_decides_83 : decode cX10_decides 83 = .ok (.iaload, 1) := by decide +kernel
theorem dX10_decides_84 : decode cX10_decides 84 = .ok (.iconst (-1), 1) := by decide +kernel
theorem dX10_decides_85 : decode cX10_decides 85 = .ok (.if_icmp .eq 13, 3) := by decide +kernel
theorem dX10_decides_88 : decode cX10_decides 88 = .ok (.aload_n 0, 1) := by decide +kernel
theorem dX10_decides_89 : decode cX10_decides 89 = .ok (.getfield 64, 3) := by decide +kernel
theorem dX10_decides_92 : decode cX10_decides 92 = .ok (.iload_n 2, 1) := by decide +kernel
theorem dX10_decides_93 : decode cX10_decides 93 = .ok (.iaload, 1) := by decide +kernel
theorem dX10_decides_94 : decode cX10_decides 94 = .ok (.iload_n 1, 1) := by decide +kernel
theorem dX10_decides_95 : decode cX10_decides 95 = .ok (.if_icmp .ne 7, 3) := by decide +kernel
theorem dX10_decides_98 : decode cX10_decides 98 = .ok (.iconst 1, 1) := by decide +kernel
theorem dX10_decides_99 : decode cX10_decides 99 = .ok (.goto 4, 3) := by decide +kernel
theorem dX10_decides_102 : decode cX10_decides 102 = .ok (.iconst 0, 1) := by decide +kernel
theorem dX10_decides_103 : decode cX10_decides 103 = .ok (.bastore, 1) := by decide +kernel
theorem dX10_decides_104 : decode cX10_decides 104 = .ok (.iinc 2 1, 3) := by decide +kernel
theorem dX10_decides_107 : decode cX10_decides 107 = .ok (.goto (-56), 3) := by decide +kernel
theorem dX10_decides_110 : decode cX10_decides 110 = .ok (.iinc 1 1, 3) := by decide +kernel
theorem dX10_decides_113 : decode cX10_decides 113 = .ok (.goto (-90), 3) := by decide +kernel
theorem dX10_decides_116 : decode cX10_decides 116 = .ok (.aload_n 0, 1) := by decide +kernel
theorem dX10_decides_117 : decode cX10_decides 117 = .ok (.getfield 112, 3) := by decide +kernel
theorem dX10_decides_120 : decode cX10_decides 120 = .ok (.ifCond .ne 7, 3) := by decide +kernel
theorem dX10_decides_123 : decode cX10_decides 123 = .ok (.iconst (-1), 1) := by decide +kernel
theorem dX10_decides_124 : decode cX10_decides 124 = .ok (.goto 4, 3) := by decide +kernel
theorem dX10_decides_127 : decode cX10_decides 127 = .ok (.iconst 0, 1) := by decide +kernel
theorem dX10_decides_128 : decode cX10_decides 128 = .ok (.istore_n 1, 1) := by decide +kernel
theorem dX10_decides_129 : decode cX10_decides 129 = .ok (.aload_n 0, 1) := by decide +kernel
theorem dX10_decides_130 : decode cX10_decides 130 = .ok (.getfield 88, 3) := by decide +kernel
theorem dX10_decides_133 : decode cX10_decides 133 = .ok (.iconst 0, 1) := by decide +kernel
theorem dX10_decides_134 : decode cX10_decides 134 = .ok (.iconst (-1), 1) := by decide +kernel
theorem dX10_decides_135 : decode cX10_decides 135 = .ok (.iastore, 1) := by decide +kernel
theorem dX10_decides_136 : decode cX10_decides 136 = .ok (.iload_n 1, 1) := by decide +kernel
theorem dX10_decides_137 : decode cX10_decides 137 = .ok (.ifCond .lt 178, 3) := by decide +kernel
theorem dX10_decides_140 : decode cX10_decides 140 = .ok (.aload_n 0, 1) := by decide +kernel
theorem dX10_decides_141 : decode cX10_decides 141 = .ok (.aload_n 0, 1) := by decide +kernel
theorem dX10_decides_142 : decode cX10_decides 142 = .ok (.getfield 88, 3) := by decide +kernel
theorem dX10_decides_145 : decode cX10_decides 145 = .ok (.iload_n 1, 1) := by decide +kernel
theorem dX10_decides_146 : decode cX10_decides 146 = .ok (.iaload, 1) := by decide +kernel
theorem dX10_decides_147 : decode cX10_decides 147 = .ok (.iconst 0, 1) := by decide +kernel
theorem dX10_decides_148 : decode cX10_decides 148 = .ok (.aload_n 0, 1) := by decide +kernel
theorem dX10_decides_149 : decode cX10_decides 149 = .ok (.getfield 109, 3) := by decide +kernel
theorem dX10_decides_152 : decode cX10_decides 152 = .ok (.iconst 1, 1) := by decide +kernel
theorem dX10_decides_153 : decode cX10_decides 153 = .ok (.isub, 1) := by decide +kernel
theorem dX10_decides_154 : decode cX10_decides 154 = .ok (.invokevirtual 105, 3) := by decide +kernel
theorem dX10_decides_157 : decode cX10_decides 157 = .ok (.ifCond .eq 15, 3) := by decide +kernel
theorem dX10_decides_160 : decode cX10_decides 160 = .ok (.aload_n 0, 1) := by decide +kernel
theorem dX10_decides_161 : decode cX10_decides 161 = .ok (.getfield 91, 3) := by decide +kernel
theorem dX10_decides_164 : decode cX10_decides 164 = .ok (.aload_n 0, 1) := by decide +kernel
theorem dX10_decides_165 : decode cX10_decides 165 = .ok (.getfield 88, 3) := by decide +kernel
theorem dX10_decides_168 : decode cX10_decides 168 = .ok (.iload_n 1, 1) := by decide +kernel
theorem dX10_decides_169 : decode cX10_decides 169 = .ok (.iaload, 1) := by decide +kernel
theorem dX10_decides_170 : decode cX10_decides 170 = .ok (.iconst 0, 1) := by decide +kernel
theorem dX10_decides_171 : decode cX10_decides 171 = .ok (.bastore, 1) := by decide +kernel
theorem dX10_decides_172 : decode cX10_decides 172 = .ok (.aload_n 0, 1) := by decide +kernel
theorem dX10_decides_173 : decode cX10_decides 173 = .ok (.getfield 88, 3) := by decide +kernel
theorem dX10_decides_176 : decode cX10_decides 176 = .ok (.iload_n 1, 1) := by decide +kernel
theorem dX10_decides_177 : decode cX10_decides 177 = .ok (.dup2, 1) := by decide +kernel
theorem dX10_decides_178 : decode cX10_decides 178 = .ok (.iaload, 1) := by decide +kernel
theorem dX10_decides_179 : decode cX10_decides 179 = .ok (.iconst 1, 1) := by decide +kernel
theorem dX10_decides_180 : decode cX10_decides 180 = .ok (.iadd, 1) := by decide +kernel
theorem dX10_decides_181 : decode cX10_decides 181 = .ok (.iastore, 1) := by decide +kernel
theorem dX10_decides_182 : decode cX10_decides 182 = .ok (.aload_n 0, 1) := by decide +kernel
theorem dX10_decides_183 : decode cX10_decides 183 = .ok (.getfield 88, 3) := by decide +kernel
theorem dX10_decides_186 : decode cX10_decides 186 = .ok (.iload_n 1, 1) := by decide +kernel
theorem dX10_decides_187 : decode cX10_decides 187 = .ok (.iaload, 1) := by decide +kernel
theorem dX10_decides_188 : decode cX10_decides 188 = .ok (.aload_n 0, 1) := by decide +kernel
theorem dX10_decides_189 : decode cX10_decides 189 = .ok (.getfield 109, 3) := by decide +kernel
theorem dX10_decides_192 : decode cX10_decides 192 = .ok (.if_icmp .ge 49, 3) := by decide +kernel
theorem dX10_decides_195 : decode cX10_decides 195 = .ok (.aload_n 0, 1) := by decide +kernel
theorem dX10_decides_196 : decode cX10_decides 196 = .ok (.getfield 91, 3) := by decide +kernel
theorem dX10_decides_199 : decode cX10_decides 199 = .ok (.aload_n 0, 1) := by decide +kernel
theorem dX10_decides_200 : decode cX10_decides 200 = .ok (.getfield 88, 3) := by decide +kernel
theorem dX10_decides_203 : decode cX10_decides 203 = .ok (.iload_n 1, 1) := by decide +kernel
theorem dX10_decides_204 : decode cX10_decides 204 = .ok (.iaload, 1) := by decide +kernel
theorem dX10_decides_205 : decode cX10_decides 205 = .ok (.baload, 1) := by decide +kernel
theorem dX10_decides_206 : decode cX10_decides 206 = .ok (.ifCond .ne 22, 3) := by decide +kernel
theorem dX10_decides_209 : decode cX10_decides 209 = .ok (.aload_n 0, 1) := by decide +kernel
theorem dX10_decides_210 : decode cX10_decides 210 = .ok (.getfield 95, 3) := by decide +kernel
theorem dX10_decides_213 : decode cX10_decides 213 = .ok (.bipush 6, 2) := by decide +kernel
theorem dX10_decides_215 : decode cX10_decides 215 = .ok (.iload_n 1, 1) := by decide +kernel
theorem dX10_decides_216 : decode cX10_decides 216 = .ok (.imul, 1) := by decide +kernel
theorem dX10_decides_217 : decode cX10_decides 217 = .ok (.aload_n 0, 1) := by decide +kernel
theorem dX10_decides_218 : decode cX10_decides 218 = .ok (.getfield 88, 3) := by decide +kernel
theorem dX10_decides_221 : decode cX10_decides 221 = .ok (.iload_n 1, 1) := by decide +kernel
theorem dX10_decides_222 : decode cX10_decides 222 = .ok (.iaload, 1) := by decide +kernel
theorem dX10_decides_223 : decode cX10_decides 223 = .ok (.iadd, 1) := by decide +kernel
theorem dX10_decides_224 : decode cX10_decides 224 = .ok (.baload, 1) := by decide +kernel
theorem dX10_decides_225 : decode cX10_decides 225 = .ok (.ifCond .ne 16, 3) := by decide +kernel
theorem dX10_decides_228 : decode cX10_decides 228 = .ok (.aload_n 0, 1) := by decide +kernel
theorem dX10_decides_229 : decode cX10_decides 229 = .ok (.getfield 88, 3) := by decide +kernel
theorem dX10_decides_232 : decode cX10_decides 232 = .ok (.iload_n 1, 1) := by decide +kernel
theorem dX10_decides_233 : decode cX10_decides 233 = .ok (.dup2, 1) := by decide +kernel
theorem dX10_decides_234 : decode cX10_decides 234 = .ok (.iaload, 1) := by decide +kernel
theorem dX10_decides_235 : decode cX10_decides 235 = .ok (.iconst 1, 1) := by decide +kernel
theorem dX10_decides_236 : decode cX10_decides 236 = .ok (.iadd, 1) := by decide +kernel
theorem dX10_decides_237 : decode cX10_decides 237 = .ok (.iastore, 1) := by decide +kernel
theorem dX10_decides_238 : decode cX10_decides 238 = .ok (.goto (-56), 3) := by decide +kernel
theorem dX10_decides_241 : decode cX10_decides 241 = .ok (.aload_n 0, 1) := by decide +kernel
theorem dX10_decides_242 : decode cX10_decides 242 = .ok (.getfield 88, 3) := by decide +kernel
theorem dX10_decides_245 : decode cX10_decides 245 = .ok (.iload_n 1, 1) := by decide +kernel
theorem dX10_decides_246 : decode cX10_decides 246 = .ok (.iaload, 1) := by decide +kernel
theorem dX10_decides_247 : decode cX10_decides 247 = .ok (.aload_n 0, 1) := by decide +kernel
theorem dX10_decides_248 : decode cX10_decides 248 = .ok (.getfield 109, 3) := by decide +kernel
theorem dX10_decides_251 : decode cX10_decides 251 = .ok (.if_icmp .le 9, 3) := by decide +kernel
theorem dX10_decides_254 : decode cX10_decides 254 = .ok (.iinc 1 (-1), 3) := by decide +kernel
theorem dX10_decides_257 : decode cX10_decides 257 = .ok (.goto (-121), 3) := by decide +kernel
theorem dX10_decides_260 : decode cX10_decides 260 = .ok (.aload_n 0, 1) := by decide +kernel
theorem dX10_decides_261 : decode cX10_decides 261 = .ok (.getfield 88, 3) := by decide +kernel
theorem dX10_decides_264 : decode cX10_decides 264 = .ok (.iload_n 1, 1) := by decide +kernel
theorem dX10_decides_265 : decode cX10_decides 265 = .ok (.iaload, 1) := by decide +kernel
theorem dX10_decides_266 : decode cX10_decides 266 = .ok (.aload_n 0, 1) := by decide +kernel
theorem dX10_decides_267 : decode cX10_decides 267 = .ok (.getfield 109, 3) := by decide +kernel
theorem dX10_decides_270 : decode cX10_decides 270 = .ok (.if_icmp .ge 15, 3) := by decide +kernel
theorem dX10_decides_273 : decode cX10_decides 273 = .ok (.aload_n 0, 1) := by decide +kernel
theorem dX10_decides_274 : decode cX10_decides 274 = .ok (.getfield 91, 3) := by decide +kernel
theorem dX10_decides_277 : decode cX10_decides 277 = .ok (.aload_n 0, 1) := by decide +kernel
theorem dX10_decides_278 : decode cX10_decides 278 = .ok (.getfield 88, 3) := by decide +kernel
theorem dX10_decides_281 : decode cX10_decides 281 = .ok (.iload_n 1, 1) := by decide +kernel
theorem dX10_decides_282 : decode cX10_decides 282 = .ok (.iaload, 1) := by decide +kernel
theorem dX10_decides_283 : decode cX10_decides 283 = .ok (.iconst 1, 1) := by decide +kernel
theorem dX10_decides_284 : decode cX10_decides 284 = .ok (.bastore, 1) := by decide +kernel
theorem dX10_decides_285 : decode cX10_decides 285 = .ok (.iload_n 1, 1) := by decide +kernel
theorem dX10_decides_286 : decode cX10_decides 286 = .ok (.aload_n 0, 1) := by decide +kernel
theorem dX10_decides_287 : decode cX10_decides 287 = .ok (.getfield 112, 3) := by decide +kernel
theorem dX10_decides_290 : decode cX10_decides 290 = .ok (.iconst 1, 1) := by decide +kernel
theorem dX10_decides_291 : decode cX10_decides 291 = .ok (.isub, 1) := by decide +kernel
theorem dX10_decides_292 : decode cX10_decides 292 = .ok (.if_icmp .ne 10, 3) := by decide +kernel
theorem dX10_decides_295 : decode cX10_decides 295 = .ok (.aload_n 0, 1) := by decide +kernel
theorem dX10_decides_296 : decode cX10_decides 296 = .ok (.invokevirtual 167, 3) := by decide +kernel
theorem dX10_decides_299 : decode cX10_decides 299 = .ok (.goto (-163), 3) := by decide +kernel
theorem dX10_decides_302 : decode cX10_decides 302 = .ok (.iinc 1 1, 3) := by decide +kernel
theorem dX10_decides_305 : decode cX10_decides 305 = .ok (.aload_n 0, 1) := by decide +kernel
theorem dX10_decides_306 : decode cX10_decides 306 = .ok (.getfield 88, 3) := by decide +kernel
theorem dX10_decides_309 : decode cX10_decides 309 = .ok (.iload_n 1, 1) := by decide +kernel
theorem dX10_decides_310 : decode cX10_decides 310 = .ok (.iconst (-1), 1) := by decide +kernel
theorem dX10_decides_311 : decode cX10_decides 311 = .ok (.iastore, 1) := by decide +kernel
theorem dX10_decides_312 : decode cX10_decides 312 = .ok (.goto (-176), 3) := by decide +kernel
theorem dX10_decides_315 : decode cX10_decides 315 = .ok (.return_, 1) := by decide +kernel
theorem dX10_allocation_0 : decode cX10_allocation 0 = .ok (.aload_n 0, 1) := by decide +kernel
theorem dX10_allocation_1 : decode cX10_allocation 1 = .ok (.aload_n 0, 1) := by decide +kernel
theorem dX10_allocation_2 : decode cX10_allocation 2 = .ok (.iload_n 1, 1) := by decide +kernel
theorem dX10_allocation_3 : decode cX10_allocation 3 = .ok (.invokevirtual 138, 3) := by decide +kernel
theorem dX10_allocation_6 : decode cX10_allocation 6 = .ok (.ifCond .eq 7, 3) := by decide +kernel
theorem dX10_allocation_9 : decode cX10_allocation 9 = .ok (.iconst 0, 1) := by decide +kernel
theorem dX10_allocation_10 : decode cX10_allocation 10 = .ok (.goto 4, 3) := by decide +kernel
theorem dX10_allocation_13 : decode cX10_allocation 13 = .ok (.iconst 1, 1) := by decide +kernel
theorem dX10_allocation_14 : decode cX10_allocation 14 = .ok (.putfield 101, 3) := by decide +kernel
theorem dX10_allocation_17 : decode cX10_allocation 17 = .ok (.aload_n 0, 1) := by decide +kernel
theorem dX10_allocation_18 : decode cX10_allocation 18 = .ok (.getfield 101, 3) := by decide +kernel
theorem dX10_allocation_21 : decode cX10_allocation 21 = .ok (.ifCond .le 5, 3) := by decide +kernel
theorem dX10_allocation_24 : decode cX10_allocation 24 = .ok (.iconst 0, 1) := by decide +kernel
theorem dX10_allocation_25 : decode cX10_allocation 25 = .ok (.ireturn, 1) := by decide +kernel
theorem dX10_allocation_26 : decode cX10_allocation 26 = .ok (.aload_n 0, 1) := by decide +kernel
theorem dX10_allocation_27 : decode cX10_allocation 27 = .ok (.invokevirtual 170, 3) := by decide +kernel
theorem dX10_allocation_30 : decode cX10_allocation 30 = .ok (.aload_n 0, 1) := by decide +kernel
theorem dX10_allocation_31 : decode cX10_allocation 31 = .ok (.getfield 85, 3) := by decide +kernel
theorem dX10_allocation_34 : decode cX10_allocation 34 = .ok (.iload_n 1, 1) := by decide +kernel
theorem dX10_allocation_35 : decode cX10_allocation 35 = .ok (.iaload, 1) := by decide +kernel
theorem dX10_allocation_36 : decode cX10_allocation 36 = .ok (.ireturn, 1) := by decide +kernel
theorem dX10_allocationAnew_0 : decode cX10_allocationAnew 0 = .ok (.aload_n 0, 1) := by decide +kernel
theorem dX10_allocationAnew_1 : decode cX10_allocationAnew 1 = .ok (.aload_n 0, 1) := by decide +kernel
theorem dX10_allocationAnew_2 : decode cX10_allocationAnew 2 = .ok (.iload_n 1, 1) := by decide +kernel
theorem dX10_allocationAnew_3 : decode cX10_allocationAnew 3 = .ok (.invokevirtual 138, 3) := by decide +kernel
theorem dX10_allocationAnew_6 : decode cX10_allocationAnew 6 = .ok (.ifCond .ne 7, 3) := by decide +kernel
theorem dX10_allocationAnew_9 : decode cX10_allocationAnew 9 = .ok (.iconst 1, 1) := by decide +kernel
theorem dX10_allocationAnew_10 : decode cX10_allocationAnew 10 = .ok (.goto 16, 3) := by decide +kernel
theorem dX10_allocationAnew_13 : decode cX10_allocationAnew 13 = .ok (.aload_n 0, 1) := by decide +kernel
theorem dX10_allocationAnew_14 : decode cX10_allocationAnew 14 = .ok (.getfield 112, 3) := by decide +kernel
theorem dX10_allocationAnew_17 : decode cX10_allocationAnew 17 = .ok (.iconst 4, 1) := by decide +kernel
theorem dX10_allocationAnew_18 : decode cX10_allocationAnew 18 = .ok (.if_icmp .le 7, 3) := by decide +kernel
theorem dX10_allocationAnew_21 : decode cX10_allocationAnew 21 = .ok (.iconst 2, 1) := by decide +kernel
theorem dX10_allocationAnew_22 : decode cX10_allocationAnew 22 = .ok (.goto 4, 3) := by decide +kernel
theorem dX10_allocationAnew_25 : decode cX10_allocationAnew 25 = .ok (.iconst 0, 1) := by decide +kernel
theorem dX10_allocationAnew_26 : decode cX10_allocationAnew 26 = .ok (.putfield 101, 3) := by decide +kernel
theorem dX10_allocationAnew_29 : decode cX10_allocationAnew 29 = .ok (.aload_n 0, 1) := by decide +kernel
theorem dX10_allocationAnew_30 : decode cX10_allocationAnew 30 = .ok (.getfield 101, 3) := by decide +kernel
theorem dX10_allocationAnew_33 : decode cX10_allocationAnew 33 = .ok (.ifCond .le 5, 3) := by decide +kernel
theorem dX10_allocationAnew_36 : decode cX10_allocationAnew 36 = .ok (.iconst 0, 1) := by decide +kernel
theorem dX10_allocationAnew_37 : decode cX10_allocationAnew 37 = .ok (.ireturn, 1) := by decide +kernel
theorem dX10_allocationAnew_38 : decode cX10_allocationAnew 38 = .ok (.aload_n 0, 1) := by decide +kernel
theorem dX10_allocationAnew_39 : decode cX10_allocationAnew 39 = .ok (.invokevirtual 170, 3) := by decide +kernel
theorem dX10_allocationAnew_42 : decode cX10_allocationAnew 42 = .ok (.aload_n 0, 1) := by decide +kernel
theorem dX10_allocationAnew_43 : decode cX10_allocationAnew 43 = .ok (.getfield 85, 3) := by decide +kernel
theorem dX10_allocationAnew_46 : decode cX10_allocationAnew 46 = .ok (.iload_n 1, 1) := by decide +kernel
theorem dX10_allocationAnew_47 : decode cX10_allocationAnew 47 = .ok (.iaload, 1) := by decide +kernel
theorem dX10_allocationAnew_48 : decode cX10_allocationAnew 48 = .ok (.ireturn, 1) := by decide +kernel
theorem dX10_lack_0 : decode cX10_lack 0 = .ok (.aload_n 0, 1) := by decide +kernel
theorem dX10_lack_1 : decode cX10_lack 1 = .ok (.iconst 0, 1) := by decide +kernel
theorem dX10_lack_2 : decode cX10_lack 2 = .ok (.putfield 101, 3) := by decide +kernel
theorem dX10_lack_5 : decode cX10_lack 5 = .ok (.aload_n 0, 1) := by decide +kernel
theorem dX10_lack_6 : decode cX10_lack 6 = .ok (.invokevirtual 170, 3) := by decide +kernel
theorem dX10_lack_9 : decode cX10_lack 9 = .ok (.aload_n 0, 1) := by decide +kernel
theorem dX10_lack_10 : decode cX10_lack 10 = .ok (.getfield 158, 3) := by decide +kernel
theorem dX10_lack_13 : decode cX10_lack 13 = .ok (.ireturn, 1) := by decide +kernel
theorem dX10_leaves_0 : decode cX10_leaves 0 = .ok (.aload_n 0, 1) := by decide +kernel
theorem dX10_leaves_1 : decode cX10_leaves 1 = .ok (.getfield 7, 3) := by decide +kernel
theorem dX10_leaves_4 : decode cX10_leaves 4 = .ok (.iload_n 1, 1) := by decide +kernel
theorem dX10_leaves_5 : decode cX10_leaves 5 = .ok (.iaload, 1) := by decide +kernel
theorem dX10_leaves_6 : decode cX10_leaves 6 = .ok (.istore_n 2, 1) := by decide +kernel
theorem dX10_leaves_7 : decode cX10_leaves 7 = .ok (.aload_n 0, 1) := by decide +kernel
theorem dX10_leaves_8 : decode cX10_leaves 8 = .ok (.iload_n 1, 1) := by decide +kernel
theorem dX10_leaves_9 : decode cX10_leaves 9 = .ok (.invokevirtual 173, 3) := by decide +kernel
theorem dX10_leaves_12 : decode cX10_leaves 12 = .ok (.istore_n 3, 1) := by decide +kernel
theorem dX10_leaves_13 : decode cX10_leaves 13 = .ok (.aload_n 0, 1) := by decide +kernel
theorem dX10_leaves_14 : decode cX10_leaves 14 = .ok (.dup, 1) := by decide +kernel
theorem dX10_leaves_15 : decode cX10_leaves 15 = .ok (.getfield 176, 3) := by decide +kernel
theorem dX10_leaves_18 : decode cX10_leaves 18 = .ok (.aload_n 0, 1) := by decide +kernel
theorem dX10_leaves_19 : decode cX10_leaves 19 = .ok (.getfield 31, 3) := by decide +kernel
theorem dX10_leaves_22 : decode cX10_leaves 22 = .ok (.iload_n 2, 1) := by decide +kernel
theorem dX10_leaves_23 : decode cX10_leaves 23 = .ok (.iaload, 1) := by decide +kernel
theorem dX10_leaves_24 : decode cX10_leaves 24 = .ok (.iconst 1, 1) := by decide +kernel
theorem dX10_leaves_25 : decode cX10_leaves 25 = .ok (.isub, 1) := by decide +kernel
theorem dX10_leaves_26 : decode cX10_leaves 26 = .ok (.iload_n 3, 1) := by decide +kernel
theorem dX10_leaves_27 : decode cX10_leaves 27 = .ok (.isub, 1) := by decide +kernel
theorem dX10_leaves_28 : decode cX10_leaves 28 = .ok (.iadd, 1) := by decide +kernel
theorem dX10_leaves_29 : decode cX10_leaves 29 = .ok (.putfield 176, 3) := by decide +kernel
theorem dX10_leaves_32 : decode cX10_leaves 32 = .ok (.iload_n 3, 1) := by decide +kernel
theorem dX10_leaves_33 : decode cX10_leaves 33 = .ok (.istore 4, 2) := by decide +kernel
theorem dX10_leaves_35 : decode cX10_leaves 35 = .ok (.iload 4, 2) := by decide +kernel
theorem dX10_leaves_37 : decode cX10_leaves 37 = .ok (.aload_n 0, 1) := by decide +kernel
theorem dX10_leaves_38 : decode cX10_leaves 38 = .ok (.getfield 31, 3) := by decide +kernel
theorem dX10_leaves_41 : decode cX10_leaves 41 = .ok (.iload_n 2, 1) := by decide +kernel
theorem dX10_leaves_42 : decode cX10_leaves 42 = .ok (.iaload, 1) := by decide +kernel
theorem dX10_leaves_43 : decode cX10_leaves 43 = .ok (.iconst 1, 1) := by decide +kernel
theorem dX10_leaves_44 : decode cX10_leaves 44 = .ok (.isub, 1) := by decide +kernel
theorem dX10_leaves_45 : decode cX10_leaves 45 = .ok (.if_icmp .ge 35, 3) := by decide +kernel
theorem dX10_leaves_48 : decode cX10_leaves 48 = .ok (.aload_n 0, 1) := by decide +kernel
theorem dX10_leaves_49 : decode cX10_leaves 49 = .ok (.getfield 28, 3) := by decide +kernel
theorem dX10_leaves_52 : decode cX10_leaves 52 = .ok (.bipush 6, 2) := by decide +kernel
theorem dX10_leaves_54 : decode cX10_leaves 54 = .ok (.iload_n 2, 1) := by decide +kernel
theorem dX10_leaves_55 : decode cX10_leaves 55 = .ok (.imul, 1) := by decide +kernel
theorem dX10_leaves_56 : decode cX10_leaves 56 = .ok (.iload 4, 2) := by decide +kernel
theorem dX10_leaves_58 : decode cX10_leaves 58 = .ok (.iadd, 1) := by decide +kernel
theorem dX10_leaves_59 : decode cX10_leaves 59 = .ok (.aload_n 0, 1) := by decide +kernel
theorem dX10_leaves_60 : decode cX10_leaves 60 = .ok (.getfield 28, 3) := by decide +kernel
theorem dX10_leaves_63 : decode cX10_leaves 63 = .ok (.bipush 6, 2) := by decide +kernel
theorem dX10_leaves_65 : decode cX10_leaves 65 = .ok (.iload_n 2, 1) := by decide +kernel
theorem dX10_leaves_66 : decode cX10_leaves 66 = .ok (.imul, 1) := by decide +kernel
theorem dX10_leaves_67 : decode cX10_leaves 67 = .ok (.iload 4, 2) := by decide +kernel
theorem dX10_leaves_69 : decode cX10_leaves 69 = .ok (.iadd, 1) := by decide +kernel
theorem dX10_leaves_70 : decode cX10_leaves 70 = .ok (.iconst 1, 1) := by decide +kernel
theorem dX10_leaves_71 : decode cX10_leaves 71 = .ok (.iadd, 1) := by decide +kernel
theorem dX10_leaves_72 : decode cX10_leaves 72 = .ok (.iaload, 1) := by decide +kernel
theorem dX10_leaves_73 : decode cX10_leaves 73 = .ok (.iastore, 1) := by decide +kernel
theorem dX10_leaves_74 : decode cX10_leaves 74 = .ok (.iinc 4 1, 3) := by decide +kernel
theorem dX10_leaves_77 : decode cX10_leaves 77 = .ok (.goto (-42), 3) := by decide +kernel
theorem dX10_leaves_80 : decode cX10_leaves 80 = .ok (.aload_n 0, 1) := by decide +kernel
theorem dX10_leaves_81 : decode cX10_leaves 81 = .ok (.getfield 31, 3) := by decide +kernel
theorem dX10_leaves_84 : decode cX10_leaves 84 = .ok (.iload_n 2, 1) := by decide +kernel
theorem dX10_leaves_85 : decode cX10_leaves 85 = .ok (.dup2, 1) := by decide +kernel
theorem dX10_leaves_86 : decode cX10_leaves 86 = .ok (.iaload, 1) := by decide +kernel
theorem dX10_leaves_87 : decode cX10_leaves 87 = .ok (.iconst 1, 1) := by decide +kernel
theorem dX10_leaves_88 : decode cX10_leaves 88 = .ok (.isub, 1) := by decide +kernel
theorem dX10_leaves_89 : decode cX10_leaves 89 = .ok (.iastore, 1) := by decide +kernel
theorem dX10_leaves_90 : decode cX10_leaves 90 = .ok (.return_, 1) := by decide +kernel
theorem dX10_runs_0 : decode cX10_runs 0 = .ok (.aload_n 0, 1) := by decide +kernel
theorem dX10_runs_1 : decode cX10_runs 1 = .ok (.getfield 16, 3) := by decide +kernel
theorem dX10_runs_4 : decode cX10_runs 4 = .ok (.iload_n 1, 1) := by decide +kernel
theorem dX10_runs_5 : decode cX10_runs 5 = .ok (.iaload, 1) := by decide +kernel
theorem dX10_runs_6 : decode cX10_runs 6 = .ok (.iload_n 2, 1) := by decide +kernel
theorem dX10_runs_7 : decode cX10_runs 7 = .ok (.iadd, 1) := by decide +kernel
theorem dX10_runs_8 : decode cX10_runs 8 = .ok (.istore_n 3, 1) := by decide +kernel
theorem dX10_runs_9 : decode cX10_runs 9 = .ok (.iconst 0, 1) := by decide +kernel
theorem dX10_runs_10 : decode cX10_runs 10 = .ok (.istore 4, 2) := by decide +kernel
theorem dX10_runs_12 : decode cX10_runs 12 = .ok (.iload 4, 2) := by decide +kernel
theorem dX10_runs_14 : decode cX10_runs 14 = .ok (.iconst 4, 1) := by decide +kernel
theorem dX10_runs_15 : decode cX10_runs 15 = .ok (.if_icmp .ge 53, 3) := by decide +kernel
theorem dX10_runs_18 : decode cX10_runs 18 = .ok (.iload 4, 2) := by decide +kernel
theorem dX10_runs_20 : decode cX10_runs 20 = .ok (.ifCond .ne 9, 3) := by decide +kernel
theorem dX10_runs_23 : decode cX10_runs 23 = .ok (.sipush 300, 3) := by decide +kernel
theorem dX10_runs_26 : decode cX10_runs 26 = .ok (.goto 6, 3) := by decide +kernel
theorem dX10_runs_29 : decode cX10_runs 29 = .ok (.sipush 500, 3) := by decide +kernel
theorem dX10_runs_32 : decode cX10_runs 32 = .ok (.istore 5, 2) := by decide +kernel
theorem dX10_runs_34 : decode cX10_runs 34 = .ok (.aload_n 0, 1) := by decide +kernel
theorem dX10_runs_35 : decode cX10_runs 35 = .ok (.getfield 19, 3) := by decide +kernel
theorem dX10_runs_38 : decode cX10_runs 38 = .ok (.iconst 4, 1) := by decide +kernel
theorem dX10_runs_39 : decode cX10_runs 39 = .ok (.iload_n 1, 1) := by decide +kernel
theorem dX10_runs_40 : decode cX10_runs 40 = .ok (.imul, 1) := by decide +kernel
theorem dX10_runs_41 : decode cX10_runs 41 = .ok (.iload 4, 2) := by decide +kernel
theorem dX10_runs_43 : decode cX10_runs 43 = .ok (.iadd, 1) := by decide +kernel
theorem dX10_runs_44 : decode cX10_runs 44 = .ok (.dup2, 1) := by decide +kernel
theorem dX10_runs_45 : decode cX10_runs 45 = .ok (.iaload, 1) := by decide +kernel
theorem dX10_runs_46 : decode cX10_runs 46 = .ok (.iload_n 3, 1) := by decide +kernel
theorem dX10_runs_47 : decode cX10_runs 47 = .ok (.iload 5, 2) := by decide +kernel
theorem dX10_runs_49 : decode cX10_runs 49 = .ok (.idiv, 1) := by decide +kernel
theorem dX10_runs_50 : decode cX10_runs 50 = .ok (.aload_n 0, 1) := by decide +kernel
theorem dX10_runs_51 : decode cX10_runs 51 = .ok (.getfield 16, 3) := by decide +kernel
theorem dX10_runs_54 : decode cX10_runs 54 = .ok (.iload_n 1, 1) := by decide +kernel
theorem dX10_runs_55 : decode cX10_runs 55 = .ok (.iaload, 1) := by decide +kernel
theorem dX10_runs_56 : decode cX10_runs 56 = .ok (.iload 5, 2) := by decide +kernel
theorem dX10_runs_58 : decode cX10_runs 58 = .ok (.idiv, 1) := by decide +kernel
theorem dX10_runs_59 : decode cX10_runs 59 = .ok (.isub, 1) := by decide +kernel
theorem dX10_runs_60 : decode cX10_runs 60 = .ok (.isub, 1) := by decide +kernel
theorem dX10_runs_61 : decode cX10_runs 61 = .ok (.iastore, 1) := by decide +kernel
theorem dX10_runs_62 : decode cX10_runs 62 = .ok (.iinc 4 1, 3) := by decide +kernel
theorem dX10_runs_65 : decode cX10_runs 65 = .ok (.goto (-53), 3) := by decide +kernel
theorem dX10_runs_68 : decode cX10_runs 68 = .ok (.aload_n 0, 1) := by decide +kernel
theorem dX10_runs_69 : decode cX10_runs 69 = .ok (.getfield 16, 3) := by decide +kernel
theorem dX10_runs_72 : decode cX10_runs 72 = .ok (.iload_n 1, 1) := by decide +kernel
theorem dX10_runs_73 : decode cX10_runs 73 = .ok (.iload_n 3, 1) := by decide +kernel
theorem dX10_runs_74 : decode cX10_runs 74 = .ok (.iastore, 1) := by decide +kernel
theorem dX10_runs_75 : decode cX10_runs 75 = .ok (.iconst 0, 1) := by decide +kernel
theorem dX10_runs_76 : decode cX10_runs 76 = .ok (.istore 4, 2) := by decide +kernel
theorem dX10_runs_78 : decode cX10_runs 78 = .ok (.iload 4, 2) := by decide +kernel
theorem dX10_runs_80 : decode cX10_runs 80 = .ok (.iconst 3, 1) := by decide +kernel
theorem dX10_runs_81 : decode cX10_runs 81 = .ok (.if_icmp .ge 24, 3) := by decide +kernel
theorem dX10_runs_84 : decode cX10_runs 84 = .ok (.aload_n 0, 1) := by decide +kernel
theorem dX10_runs_85 : decode cX10_runs 85 = .ok (.getfield 22, 3) := by decide +kernel
theorem dX10_runs_88 : decode cX10_runs 88 = .ok (.iconst 3, 1) := by decide +kernel
theorem dX10_runs_89 : decode cX10_runs 89 = .ok (.iload_n 1, 1) := by decide +kernel
theorem dX10_runs_90 : decode cX10_runs 90 = .ok (.imul, 1) := by decide +kernel
theorem dX10_runs_91 : decode cX10_runs 91 = .ok (.iload 4, 2) := by decide +kernel
theorem dX10_runs_93 : decode cX10_runs 93 = .ok (.iadd, 1) := by decide +kernel
theorem dX10_runs_94 : decode cX10_runs 94 = .ok (.dup2, 1) := by decide +kernel
theorem dX10_runs_95 : decode cX10_runs 95 = .ok (.iaload, 1) := by decide +kernel
theorem dX10_runs_96 : decode cX10_runs 96 = .ok (.iload_n 2, 1) := by decide +kernel
theorem dX10_runs_97 : decode cX10_runs 97 = .ok (.iadd, 1) := by decide +kernel
theorem dX10_runs_98 : decode cX10_runs 98 = .ok (.iastore, 1) := by decide +kernel
theorem dX10_runs_99 : decode cX10_runs 99 = .ok (.iinc 4 1, 3) := by decide +kernel
theorem dX10_runs_102 : decode cX10_runs 102 = .ok (.goto (-24), 3) := by decide +kernel
theorem dX10_runs_105 : decode cX10_runs 105 = .ok (.return_, 1) := by decide +kernel
theorem dX10_day_0 : decode cX10_day 0 = .ok (.aload_n 0, 1) := by decide +kernel
theorem dX10_day_1 : decode cX10_day 1 = .ok (.aload_n 0, 1) := by decide +kernel
theorem dX10_day_2 : decode cX10_day 2 = .ok (.getfield 135, 3) := by decide +kernel
theorem dX10_day_5 : decode cX10_day 5 = .ok (.sipush 200, 3) := by decide +kernel
theorem dX10_day_8 : decode cX10_day 8 = .ok (.if_icmp .ne 7, 3) := by decide +kernel
theorem dX10_day_11 : decode cX10_day 11 = .ok (.iconst 1, 1) := by decide +kernel
theorem dX10_day_12 : decode cX10_day 12 = .ok (.goto 4, 3) := by decide +kernel
theorem dX10_day_15 : decode cX10_day 15 = .ok (.iconst 0, 1) := by decide +kernel
theorem dX10_day_16 : decode cX10_day 16 = .ok (.putfield 101, 3) := by decide +kernel
theorem dX10_day_19 : decode cX10_day 19 = .ok (.aload_n 0, 1) := by decide +kernel
theorem dX10_day_20 : decode cX10_day 20 = .ok (.getfield 101, 3) := by decide +kernel
theorem dX10_day_23 : decode cX10_day 23 = .ok (.ifCond .le 5, 3) := by decide +kernel
theorem dX10_day_26 : decode cX10_day 26 = .ok (.iconst 0, 1) := by decide +kernel
theorem dX10_day_27 : decode cX10_day 27 = .ok (.ireturn, 1) := by decide +kernel
theorem dX10_day_28 : decode cX10_day 28 = .ok (.aload_n 0, 1) := by decide +kernel
theorem dX10_day_29 : decode cX10_day 29 = .ok (.invokevirtual 170, 3) := by decide +kernel
theorem dX10_day_32 : decode cX10_day 32 = .ok (.iconst 0, 1) := by decide +kernel
theorem dX10_day_33 : decode cX10_day 33 = .ok (.istore_n 1, 1) := by decide +kernel
theorem dX10_day_34 : decode cX10_day 34 = .ok (.iload_n 1, 1) := by decide +kernel
theorem dX10_day_35 : decode cX10_day 35 = .ok (.aload_n 0, 1) := by decide +kernel
theorem dX10_day_36 : decode cX10_day 36 = .ok (.getfield 112, 3) := by decide +kernel
theorem dX10_day_39 : decode cX10_day 39 = .ok (.if_icmp .ge 50, 3) := by decide +kernel
theorem dX10_day_42 : decode cX10_day 42 = .ok (.aload_n 0, 1) := by decide +kernel
theorem dX10_day_43 : decode cX10_day 43 = .ok (.getfield 82, 3) := by decide +kernel
theorem dX10_day_46 : decode cX10_day 46 = .ok (.sipush 200, 3) := by decide +kernel
theorem dX10_day_49 : decode cX10_day 49 = .ok (.iload_n 1, 1) := by decide +kernel
theorem dX10_day_50 : decode cX10_day 50 = .ok (.imul, 1) := by decide +kernel
theorem dX10_day_51 : decode cX10_day 51 = .ok (.aload_n 0, 1) := by decide +kernel
theorem dX10_day_52 : decode cX10_day 52 = .ok (.getfield 135, 3) := by decide +kernel
theorem dX10_day_55 : decode cX10_day 55 = .ok (.iadd, 1) := by decide +kernel
theorem dX10_day_56 : decode cX10_day 56 = .ok (.aload_n 0, 1) := by decide +kernel
theorem dX10_day_57 : decode cX10_day 57 = .ok (.getfield 85, 3) := by decide +kernel
theorem dX10_day_60 : decode cX10_day 60 = .ok (.iload_n 1, 1) := by decide +kernel
theorem dX10_day_61 : decode cX10_day 61 = .ok (.iaload, 1) := by decide +kernel
theorem dX10_day_62 : decode cX10_day 62 = .ok (.iastore, 1) := by decide +kernel
theorem dX10_day_63 : decode cX10_day 63 = .ok (.aload_n 0, 1) := by decide +kernel
theorem dX10_day_64 : decode cX10_day 64 = .ok (.getfield 85, 3) := by decide +kernel
theorem dX10_day_67 : decode cX10_day 67 = .ok (.iload_n 1, 1) := by decide +kernel
theorem dX10_day_68 : decode cX10_day 68 = .ok (.iaload, 1) := by decide +kernel
theorem dX10_day_69 : decode cX10_day 69 = .ok (.iconst (-1), 1) := by decide +kernel
theorem dX10_day_70 : decode cX10_day 70 = .ok (.if_icmp .eq 13, 3) := by decide +kernel
theorem dX10_day_73 : decode cX10_day 73 = .ok (.aload_n 0, 1) := by decide +kernel
theorem dX10_day_74 : decode cX10_day 74 = .ok (.aload_n 0, 1) := by decide +kernel
theorem dX10_day_75 : decode cX10_day 75 = .ok (.getfield 85, 3) := by decide +kernel
theorem dX10_day_78 : decode cX10_day 78 = .ok (.iload_n 1, 1) := by decide +kernel
theorem dX10_day_79 : decode cX10_day 79 = .ok (.iaload, 1) := by decide +kernel
theorem dX10_day_80 : decode cX10_day 80 = .ok (.invokevirtual 179, 3) := by decide +kernel
theorem dX10_day_83 : decode cX10_day 83 = .ok (.iinc 1 1, 3) := by decide +kernel
theorem dX10_day_86 : decode cX10_day 86 = .ok (.goto (-52), 3) := by decide +kernel
theorem dX10_day_89 : decode cX10_day 89 = .ok (.iconst 0, 1) := by decide +kernel
theorem dX10_day_90 : decode cX10_day 90 = .ok (.istore_n 1, 1) := by decide +kernel
theorem dX10_day_91 : decode cX10_day 91 = .ok (.iload_n 1, 1) := by decide +kernel
theorem dX10_day_92 : decode cX10_day 92 = .ok (.aload_n 0, 1) := by decide +kernel
theorem dX10_day_93 : decode cX10_day 93 = .ok (.getfield 112, 3) := by decide +kernel
theorem dX10_day_96 : decode cX10_day 96 = .ok (.if_icmp .ge 51, 3) := by decide +kernel
theorem dX10_day_99 : decode cX10_day 99 = .ok (.aload_n 0, 1) := by decide +kernel
theorem dX10_day_100 : decode cX10_day 100 = .ok (.getfield 85, 3) := by decide +kernel
theorem dX10_day_103 : decode cX10_day 103 = .ok (.iload_n 1, 1) := by decide +kernel
theorem dX10_day_104 : decode cX10_day 104 = .ok (.iaload, 1) := by decide +kernel
theorem dX10_day_105 : decode cX10_day 105 = .ok (.iconst (-1), 1) := by decide +kernel
theorem dX10_day_106 : decode cX10_day 106 = .ok (.if_icmp .eq 35, 3) := by decide +kernel
theorem dX10_day_109 : decode cX10_day 109 = .ok (.aload_n 0, 1) := by decide +kernel
theorem dX10_day_110 : decode cX10_day 110 = .ok (.aload_n 0, 1) := by decide +kernel
theorem dX10_day_111 : decode cX10_day 111 = .ok (.getfield 85, 3) := by decide +kernel
theorem dX10_day_114 : decode cX10_day 114 = .ok (.iload_n 1, 1) := by decide +kernel
theorem dX10_day_115 : decode cX10_day 115 = .ok (.iaload, 1) := by decide +kernel
theorem dX10_day_116 : decode cX10_day 116 = .ok (.aload_n 0, 1) := by decide +kernel
theorem dX10_day_117 : decode cX10_day 117 = .ok (.getfield 52, 3) := by decide +kernel
theorem dX10_day_120 : decode cX10_day 120 = .ok (.iload_n 1, 1) := by decide +kernel
theorem dX10_day_121 : decode cX10_day 121 = .ok (.iaload, 1) := by decide +kernel
theorem dX10_day_122 : decode cX10_day 122 = .ok (.invokevirtual 123, 3) := by decide +kernel
theorem dX10_day_125 : decode cX10_day 125 = .ok (.aload_n 0, 1) := by decide +kernel
theorem dX10_day_126 : decode cX10_day 126 = .ok (.aload_n 0, 1) := by decide +kernel
theorem dX10_day_127 : decode cX10_day 127 = .ok (.getfield 85, 3) := by decide +kernel
theorem dX10_day_130 : decode cX10_day 130 = .ok (.iload_n 1, 1) := by decide +kernel
theorem dX10_day_131 : decode cX10_day 131 = .ok (.iaload, 1) := by decide +kernel
theorem dX10_day_132 : decode cX10_day 132 = .ok (.aload_n 0, 1) := by decide +kernel
theorem dX10_day_133 : decode cX10_day 133 = .ok (.getfield 55, 3) := by decide +kernel
theorem dX10_day_136 : decode cX10_day 136 = .ok (.iload_n 1, 1) := by decide +kernel
theorem dX10_day_137 : decode cX10_day 137 = .ok (.iaload, 1) := by decide +kernel
theorem dX10_day_138 : decode cX10_day 138 = .ok (.invokevirtual 183, 3) := by decide +kernel
theorem dX10_day_141 : decode cX10_day 141 = .ok (.iinc 1 1, 3) := by decide +kernel
theorem dX10_day_144 : decode cX10_day 144 = .ok (.goto (-53), 3) := by decide +kernel
theorem dX10_day_147 : decode cX10_day 147 = .ok (.iconst 0, 1) := by decide +kernel
theorem dX10_day_148 : decode cX10_day 148 = .ok (.istore_n 1, 1) := by decide +kernel
theorem dX10_day_149 : decode cX10_day 149 = .ok (.iload_n 1, 1) := by decide +kernel
theorem dX10_day_150 : decode cX10_day 150 = .ok (.iconst 3, 1) := by decide +kernel
theorem dX10_day_151 : decode cX10_day 151 = .ok (.aload_n 0, 1) := by decide +kernel
theorem dX10_day_152 : decode cX10_day 152 = .ok (.getfield 109, 3) := by decide +kernel
theorem dX10_day_155 : decode cX10_day 155 = .ok (.imul, 1) := by decide +kernel
theorem dX10_day_156 : decode cX10_day 156 = .ok (.if_icmp .ge 19, 3) := by decide +kernel
theorem dX10_day_159 : decode cX10_day 159 = .ok (.aload_n 0, 1) := by decide +kernel
theorem dX10_day_160 : decode cX10_day 160 = .ok (.getfield 25, 3) := by decide +kernel
theorem dX10_day_163 : decode cX10_day 163 = .ok (.iload_n 1, 1) := by decide +kernel
theorem dX10_day_164 : decode cX10_day 164 = .ok (.dup2, 1) := by decide +kernel
theorem dX10_day_165 : decode cX10_day 165 = .ok (.iaload, 1) := by decide +kernel
theorem dX10_day_166 : decode cX10_day 166 = .ok (.iconst 1, 1) := by decide +kernel
theorem dX10_day_167 : decode cX10_day 167 = .ok (.iadd, 1) := by decide +kernel
theorem dX10_day_168 : decode cX10_day 168 = .ok (.iastore, 1) := by decide +kernel
theorem dX10_day_169 : decode cX10_day 169 = .ok (.iinc 1 1, 3) := by decide +kernel
theorem dX10_day_172 : decode cX10_day 172 = .ok (.goto (-23), 3) := by decide +kernel
theorem dX10_day_175 : decode cX10_day 175 = .ok (.aload_n 0, 1) := by decide +kernel
theorem dX10_day_176 : decode cX10_day 176 = .ok (.iconst 0, 1) := by decide +kernel
theorem dX10_day_177 : decode cX10_day 177 = .ok (.putfield 186, 3) := by decide +kernel
theorem dX10_day_180 : decode cX10_day 180 = .ok (.aload_n 0, 1) := by decide +kernel
theorem dX10_day_181 : decode cX10_day 181 = .ok (.iconst 0, 1) := by decide +kernel
theorem dX10_day_182 : decode cX10_day 182 = .ok (.putfield 190, 3) := by decide +kernel
theorem dX10_day_185 : decode cX10_day 185 = .ok (.aload_n 0, 1) := by decide +kernel
theorem dX10_day_186 : decode cX10_day 186 = .ok (.dup, 1) := by decide +kernel
theorem dX10_day_187 : decode cX10_day 187 = .ok (.getfield 135, 3) := by decide +kernel
theorem dX10_day_190 : decode cX10_day 190 = .ok (.iconst 1, 1) := by decide +kernel
theorem dX10_day_191 : decode cX10_day 191 = .ok (.iadd, 1) := by decide +kernel
theorem dX10_day_192 : decode cX10_day 192 = .ok (.putfield 135, 3) := by decide +kernel
theorem dX10_day_195 : decode cX10_day 195 = .ok (.aload_n 0, 1) := by decide +kernel
theorem dX10_day_196 : decode cX10_day 196 = .ok (.getfield 158, 3) := by decide +kernel
theorem dX10_day_199 : decode cX10_day 199 = .ok (.ireturn, 1) := by decide +kernel
theorem dX10_examine_0 : decode cX10_examine 0 = .ok (.aload_n 0, 1) := by decide +kernel
theorem dX10_examine_1 : decode cX10_examine 1 = .ok (.aload_n 0, 1) := by decide +kernel
theorem dX10_examine_2 : decode cX10_examine 2 = .ok (.iload_n 1, 1) := by decide +kernel
theorem dX10_examine_3 : decode cX10_examine 3 = .ok (.invokevirtual 115, 3) := by decide +kernel
theorem dX10_examine_6 : decode cX10_examine 6 = .ok (.ifCond .eq 11, 3) := by decide +kernel
theorem dX10_examine_9 : decode cX10_examine 9 = .ok (.aload_n 0, 1) := by decide +kernel
theorem dX10_examine_10 : decode cX10_examine 10 = .ok (.iload_n 2, 1) := by decide +kernel
theorem dX10_examine_11 : decode cX10_examine 11 = .ok (.invokevirtual 127, 3) := by decide +kernel
theorem dX10_examine_14 : decode cX10_examine 14 = .ok (.ifCond .ne 7, 3) := by decide +kernel
theorem dX10_examine_17 : decode cX10_examine 17 = .ok (.iconst 1, 1) := by decide +kernel
theorem dX10_examine_18 : decode cX10_examine 18 = .ok (.goto 24, 3) := by decide +kernel
theorem dX10_examine_21 : decode cX10_examine 21 = .ok (.aload_n 0, 1) := by decide +kernel
theorem dX10_examine_22 : decode cX10_examine 22 = .ok (.getfield 7, 3) := by decide +kernel
theorem dX10_examine_25 : decode cX10_examine 25 = .ok (.iload_n 1, 1) := by decide +kernel
theorem dX10_examine_26 : decode cX10_examine 26 = .ok (.iaload, 1) := by decide +kernel
theorem dX10_examine_27 : decode cX10_examine 27 = .ok (.ifCond .ne 10, 3) := by decide +kernel
theorem dX10_examine_30 : decode cX10_examine 30 = .ok (.aload_n 0, 1) := by decide +kernel
theorem dX10_examine_31 : decode cX10_examine 31 = .ok (.getfield 186, 3) := by decide +kernel
theorem dX10_examine_34 : decode cX10_examine 34 = .ok (.ifCond .eq 7, 3) := by decide +kernel
theorem dX10_examine_37 : decode cX10_examine 37 = .ok (.iconst 2, 1) := by decide +kernel
theorem dX10_examine_38 : decode cX10_examine 38 = .ok (.goto 4, 3) := by decide +kernel
theorem dX10_examine_41 : decode cX10_examine 41 = .ok (.iconst 0, 1) := by decide +kernel
theorem dX10_examine_42 : decode cX10_examine 42 = .ok (.putfield 101, 3) := by decide +kernel
theorem dX10_examine_45 : decode cX10_examine 45 = .ok (.aload_n 0, 1) := by decide +kernel
theorem dX10_examine_46 : decode cX10_examine 46 = .ok (.getfield 101, 3) := by decide +kernel
theorem dX10_examine_49 : decode cX10_examine 49 = .ok (.ifCond .le 5, 3) := by decide +kernel
theorem dX10_examine_52 : decode cX10_examine 52 = .ok (.iconst 0, 1) := by decide +kernel
theorem dX10_examine_53 : decode cX10_examine 53 = .ok (.ireturn, 1) := by decide +kernel
theorem dX10_examine_54 : decode cX10_examine 54 = .ok (.aload_n 0, 1) := by decide +kernel
theorem dX10_examine_55 : decode cX10_examine 55 = .ok (.iconst 1, 1) := by decide +kernel
theorem dX10_examine_56 : decode cX10_examine 56 = .ok (.putfield 186, 3) := by decide +kernel
theorem dX10_examine_59 : decode cX10_examine 59 = .ok (.iconst 0, 1) := by decide +kernel
theorem dX10_examine_60 : decode cX10_examine 60 = .ok (.istore_n 3, 1) := by decide +kernel
theorem dX10_examine_61 : decode cX10_examine 61 = .ok (.iload_n 3, 1) := by decide +kernel
theorem dX10_examine_62 : decode cX10_examine 62 = .ok (.iload_n 2, 1) := by decide +kernel
theorem dX10_examine_63 : decode cX10_examine 63 = .ok (.if_icmp .gt 31, 3) := by decide +kernel
theorem dX10_examine_66 : decode cX10_examine 66 = .ok (.aload_n 0, 1) := by decide +kernel
theorem dX10_examine_67 : decode cX10_examine 67 = .ok (.getfield 22, 3) := by decide +kernel
theorem dX10_examine_70 : decode cX10_examine 70 = .ok (.iconst 3, 1) := by decide +kernel
theorem dX10_examine_71 : decode cX10_examine 71 = .ok (.iload_n 1, 1) := by decide +kernel
theorem dX10_examine_72 : decode cX10_examine 72 = .ok (.imul, 1) := by decide +kernel
theorem dX10_examine_73 : decode cX10_examine 73 = .ok (.iload_n 3, 1) := by decide +kernel
theorem dX10_examine_74 : decode cX10_examine 74 = .ok (.iadd, 1) := by decide +kernel
theorem dX10_examine_75 : decode cX10_examine 75 = .ok (.iconst 0, 1) := by decide +kernel
theorem dX10_examine_76 : decode cX10_examine 76 = .ok (.iastore, 1) := by decide +kernel
theorem dX10_examine_77 : decode cX10_examine 77 = .ok (.aload_n 0, 1) := by decide +kernel
theorem dX10_examine_78 : decode cX10_examine 78 = .ok (.getfield 25, 3) := by decide +kernel
theorem dX10_examine_81 : decode cX10_examine 81 = .ok (.iconst 3, 1) := by decide +kernel
theorem dX10_examine_82 : decode cX10_examine 82 = .ok (.iload_n 1, 1) := by decide +kernel
theorem dX10_examine_83 : decode cX10_examine 83 = .ok (.imul, 1) := by decide +kernel
theorem dX10_examine_84 : decode cX10_examine 84 = .ok (.iload_n 3, 1) := by decide +kernel
theorem dX10_examine_85 : decode cX10_examine 85 = .ok (.iadd, 1) := by decide +kernel
theorem dX10_examine_86 : decode cX10_examine 86 = .ok (.iconst 0, 1) := by decide +kernel
theorem dX10_examine_87 : decode cX10_examine 87 = .ok (.iastore, 1) := by decide +kernel
theorem dX10_examine_88 : decode cX10_examine 88 = .ok (.iinc 3 1, 3) := by decide +kernel
theorem dX10_examine_91 : decode cX10_examine 91 = .ok (.goto (-30), 3) := by decide +kernel
theorem dX10_examine_94 : decode cX10_examine 94 = .ok (.iload_n 2, 1) := by decide +kernel
theorem dX10_examine_95 : decode cX10_examine 95 = .ok (.iconst 1, 1) := by decide +kernel
theorem dX10_examine_96 : decode cX10_examine 96 = .ok (.iadd, 1) := by decide +kernel
theorem dX10_examine_97 : decode cX10_examine 97 = .ok (.ireturn, 1) := by decide +kernel
theorem dX10_goes_0 : decode cX10_goes 0 = .ok (.bipush 8, 2) := by decide +kernel
theorem dX10_goes_2 : decode cX10_goes 2 = .ok (.iload_n 1, 1) := by decide +kernel
theorem dX10_goes_3 : decode cX10_goes 3 = .ok (.imul, 1) := by decide +kernel
theorem dX10_goes_4 : decode cX10_goes 4 = .ok (.iload_n 2, 1) := by decide +kernel
theorem dX10_goes_5 : decode cX10_goes 5 = .ok (.iadd, 1) := by decide +kernel
theorem dX10_goes_6 : decode cX10_goes 6 = .ok (.istore_n 3, 1) := by decide +kernel
theorem dX10_goes_7 : decode cX10_goes 7 = .ok (.iload_n 3, 1) := by decide +kernel
theorem dX10_goes_8 : decode cX10_goes 8 = .ok (.bipush 8, 2) := by decide +kernel
theorem dX10_goes_10 : decode cX10_goes 10 = .ok (.iload_n 1, 1) := by decide +kernel
theorem dX10_goes_11 : decode cX10_goes 11 = .ok (.imul, 1) := by decide +kernel
theorem dX10_goes_12 : decode cX10_goes 12 = .ok (.aload_n 0, 1) := by decide +kernel
theorem dX10_goes_13 : decode cX10_goes 13 = .ok (.getfield 34, 3) := by decide +kernel
theorem dX10_goes_16 : decode cX10_goes 16 = .ok (.iload_n 1, 1) := by decide +kernel
theorem dX10_goes_17 : decode cX10_goes 17 = .ok (.iaload, 1) := by decide +kernel
theorem dX10_goes_18 : decode cX10_goes 18 = .ok (.iadd, 1) := by decide +kernel
theorem dX10_goes_19 : decode cX10_goes 19 = .ok (.iconst 1, 1) := by decide +kernel
theorem dX10_goes_20 : decode cX10_goes 20 = .ok (.isub, 1) := by decide +kernel
theorem dX10_goes_21 : decode cX10_goes 21 = .ok (.if_icmp .ge 65, 3) := by decide +kernel
theorem dX10_goes_24 : decode cX10_goes 24 = .ok (.aload_n 0, 1) := by decide +kernel
theorem dX10_goes_25 : decode cX10_goes 25 = .ok (.getfield 37, 3) := by decide +kernel
theorem dX10_goes_28 : decode cX10_goes 28 = .ok (.iload_n 3, 1) := by decide +kernel
theorem dX10_goes_29 : decode cX10_goes 29 = .ok (.aload_n 0, 1) := by decide +kernel
theorem dX10_goes_30 : decode cX10_goes 30 = .ok (.getfield 37, 3) := by decide +kernel
theorem dX10_goes_33 : decode cX10_goes 33 = .ok (.iload_n 3, 1) := by decide +kernel
theorem dX10_goes_34 : decode cX10_goes 34 = .ok (.iconst 1, 1) := by decide +kernel
theorem dX10_goes_35 : decode cX10_goes 35 = .ok (.iadd, 1) := by decide +kernel
theorem dX10_goes_36 : decode cX10_goes 36 = .ok (.iaload, 1) := by decide +kernel
theorem dX10_goes_37 : decode cX10_goes 37 = .ok (.iastore, 1) := by decide +kernel
theorem dX10_goes_38 : decode cX10_goes 38 = .ok (.aload_n 0, 1) := by decide +kernel
theorem dX10_goes_39 : decode cX10_goes 39 = .ok (.getfield 40, 3) := by decide +kernel
theorem dX10_goes_42 : decode cX10_goes 42 = .ok (.iload_n 3, 1) := by decide +kernel
theorem dX10_goes_43 : decode cX10_goes 43 = .ok (.aload_n 0, 1) := by decide +kernel
theorem dX10_goes_44 : decode cX10_goes 44 = .ok (.getfield 40, 3) := by decide +kernel
theorem dX10_goes_47 : decode cX10_goes 47 = .ok (.iload_n 3, 1) := by decide +kernel
theorem dX10_goes_48 : decode cX10_goes 48 = .ok (.iconst 1, 1) := by decide +kernel
theorem dX10_goes_49 : decode cX10_goes 49 = .ok (.iadd, 1) := by decide +kernel
theorem dX10_goes_50 : decode cX10_goes 50 = .ok (.iaload, 1) := by decide +kernel
theorem dX10_goes_51 : decode cX10_goes 51 = .ok (.iastore, 1) := by decide +kernel
theorem dX10_goes_52 : decode cX10_goes 52 = .ok (.aload_n 0, 1) := by decide +kernel
theorem dX10_goes_53 : decode cX10_goes 53 = .ok (.getfield 43, 3) := by decide +kernel
theorem dX10_goes_56 : decode cX10_goes 56 = .ok (.iload_n 3, 1) := by decide +kernel
theorem dX10_goes_57 : decode cX10_goes 57 = .ok (.aload_n 0, 1) := by decide +kernel
theorem dX10_goes_58 : decode cX10_goes 58 = .ok (.getfield 43, 3) := by decide +kernel
theorem dX10_goes_61 : decode cX10_goes 61 = .ok (.iload_n 3, 1) := by decide +kernel
theorem dX10_goes_62 : decode cX10_goes 62 = .ok (.iconst 1, 1) := by decide +kernel
theorem dX10_goes_63 : decode cX10_goes 63 = .ok (.iadd, 1) := by decide +kernel
theorem dX10_goes_64 : decode cX10_goes 64 = .ok (.iaload, 1) := by decide +kernel
theorem dX10_goes_65 : decode cX10_goes 65 = .ok (.iastore, 1) := by decide +kernel
theorem dX10_goes_66 : decode cX10_goes 66 = .ok (.aload_n 0, 1) := by decide +kernel
theorem dX10_goes_67 : decode cX10_goes 67 = .ok (.getfield 46, 3) := by decide +kernel
theorem dX10_goes_70 : decode cX10_goes 70 = .ok (.iload_n 3, 1) := by decide +kernel
theorem dX10_goes_71 : decode cX10_goes 71 = .ok (.aload_n 0, 1) := by decide +kernel
theorem dX10_goes_72 : decode cX10_goes 72 = .ok (.getfield 46, 3) := by decide +kernel
theorem dX10_goes_75 : decode cX10_goes 75 = .ok (.iload_n 3, 1) := by decide +kernel
theorem dX10_goes_76 : decode cX10_goes 76 = .ok (.iconst 1, 1) := by decide +kernel
theorem dX10_goes_77 : decode cX10_goes 77 = .ok (.iadd, 1) := by decide +kernel
theorem dX10_goes_78 : decode cX10_goes 78 = .ok (.iaload, 1) := by decide +kernel
theorem dX10_goes_79 : decode cX10_goes 79 = .ok (.iastore, 1) := by decide +kernel
theorem dX10_goes_80 : decode cX10_goes 80 = .ok (.iinc 3 1, 3) := by decide +kernel
theorem dX10_goes_83 : decode cX10_goes 83 = .ok (.goto (-76), 3) := by decide +kernel
theorem dX10_goes_86 : decode cX10_goes 86 = .ok (.aload_n 0, 1) := by decide +kernel
theorem dX10_goes_87 : decode cX10_goes 87 = .ok (.getfield 34, 3) := by decide +kernel
theorem dX10_goes_90 : decode cX10_goes 90 = .ok (.iload_n 1, 1) := by decide +kernel
theorem dX10_goes_91 : decode cX10_goes 91 = .ok (.dup2, 1) := by decide +kernel
theorem dX10_goes_92 : decode cX10_goes 92 = .ok (.iaload, 1) := by decide +kernel
theorem dX10_goes_93 : decode cX10_goes 93 = .ok (.iconst 1, 1) := by decide +kernel
theorem dX10_goes_94 : decode cX10_goes 94 = .ok (.isub, 1) := by decide +kernel
theorem dX10_goes_95 : decode cX10_goes 95 = .ok (.iastore, 1) := by decide +kernel
theorem dX10_goes_96 : decode cX10_goes 96 = .ok (.return_, 1) := by decide +kernel
theorem dX10_lathe_0 : decode cX10_lathe 0 = .ok (.aload_n 0, 1) := by decide +kernel
theorem dX10_lathe_1 : decode cX10_lathe 1 = .ok (.aload_n 0, 1) := by decide +kernel
theorem dX10_lathe_2 : decode cX10_lathe 2 = .ok (.iload_n 1, 1) := by decide +kernel
theorem dX10_lathe_3 : decode cX10_lathe 3 = .ok (.invokevirtual 115, 3) := by decide +kernel
theorem dX10_lathe_6 : decode cX10_lathe 6 = .ok (.ifCond .ne 7, 3) := by decide +kernel
theorem dX10_lathe_9 : decode cX10_lathe 9 = .ok (.iconst 1, 1) := by decide +kernel
theorem dX10_lathe_10 : decode cX10_lathe 10 = .ok (.goto 24, 3) := by decide +kernel
theorem dX10_lathe_13 : decode cX10_lathe 13 = .ok (.aload_n 0, 1) := by decide +kernel
theorem dX10_lathe_14 : decode cX10_lathe 14 = .ok (.getfield 7, 3) := by decide +kernel
theorem dX10_lathe_17 : decode cX10_lathe 17 = .ok (.iload_n 1, 1) := by decide +kernel
theorem dX10_lathe_18 : decode cX10_lathe 18 = .ok (.iaload, 1) := by decide +kernel
theorem dX10_lathe_19 : decode cX10_lathe 19 = .ok (.ifCond .ne 10, 3) := by decide +kernel
theorem dX10_lathe_22 : decode cX10_lathe 22 = .ok (.aload_n 0, 1) := by decide +kernel
theorem dX10_lathe_23 : decode cX10_lathe 23 = .ok (.getfield 190, 3) := by decide +kernel
theorem dX10_lathe_26 : decode cX10_lathe 26 = .ok (.ifCond .eq 7, 3) := by decide +kernel
theorem dX10_lathe_29 : decode cX10_lathe 29 = .ok (.iconst 2, 1) := by decide +kernel
theorem dX10_lathe_30 : decode cX10_lathe 30 = .ok (.goto 4, 3) := by decide +kernel
theorem dX10_lathe_33 : decode cX10_lathe 33 = .ok (.iconst 0, 1) := by decide +kernel
theorem dX10_lathe_34 : decode cX10_lathe 34 = .ok (.putfield 101, 3) := by decide +kernel
theorem dX10_lathe_37 : decode cX10_lathe 37 = .ok (.aload_n 0, 1) := by decide +kernel
theorem dX10_lathe_38 : decode cX10_lathe 38 = .ok (.getfield 101, 3) := by decide +kernel
theorem dX10_lathe_41 : decode cX10_lathe 41 = .ok (.ifCond .le 5, 3) := by decide +kernel
theorem dX10_lathe_44 : decode cX10_lathe 44 = .ok (.iconst 0, 1) := by decide +kernel
theorem dX10_lathe_45 : decode cX10_lathe 45 = .ok (.ireturn, 1) := by decide +kernel
theorem dX10_lathe_46 : decode cX10_lathe 46 = .ok (.aload_n 0, 1) := by decide +kernel
theorem dX10_lathe_47 : decode cX10_lathe 47 = .ok (.iconst 1, 1) := by decide +kernel
theorem dX10_lathe_48 : decode cX10_lathe 48 = .ok (.putfield 190, 3) := by decide +kernel
theorem dX10_lathe_51 : decode cX10_lathe 51 = .ok (.aload_n 0, 1) := by decide +kernel
theorem dX10_lathe_52 : decode cX10_lathe 52 = .ok (.getfield 34, 3) := by decide +kernel
theorem dX10_lathe_55 : decode cX10_lathe 55 = .ok (.iload_n 1, 1) := by decide +kernel
theorem dX10_lathe_56 : decode cX10_lathe 56 = .ok (.iaload, 1) := by decide +kernel
theorem dX10_lathe_57 : decode cX10_lathe 57 = .ok (.iconst 1, 1) := by decide +kernel
theorem dX10_lathe_58 : decode cX10_lathe 58 = .ok (.isub, 1) := by decide +kernel
theorem dX10_lathe_59 : decode cX10_lathe 59 = .ok (.istore_n 2, 1) := by decide +kernel
theorem dX10_lathe_60 : decode cX10_lathe 60 = .ok (.iload_n 2, 1) := by decide +kernel
theorem dX10_lathe_61 : decode cX10_lathe 61 = .ok (.ifCond .lt 55, 3) := by decide +kernel
