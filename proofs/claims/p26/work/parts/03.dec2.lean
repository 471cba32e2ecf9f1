theorem dX9_diagram_74 : decode cX9_diagram 74 = .ok (.invokespecial 101, 3) := by decide +kernel
theorem dX9_diagram_77 : decode cX9_diagram 77 = .ok (.invokevirtual 86, 3) := by decide +kernel
theorem dX9_diagram_80 : decode cX9_diagram 80 = .ok (.pop, 1) := by decide +kernel
theorem dX9_diagram_81 : decode cX9_diagram 81 = .ok (.iload 6, 2) := by decide +kernel
theorem dX9_diagram_83 : decode cX9_diagram 83 = .ok (.ireturn, 1) := by decide +kernel
theorem dX9_exam_0 : decode cX9_exam 0 = .ok (.aload_n 0, 1) := by decide +kernel
theorem dX9_exam_1 : decode cX9_exam 1 = .ok (.getfield 28, 3) := by decide +kernel
theorem dX9_exam_4 : decode cX9_exam 4 = .ok (.iload_n 1, 1) := by decide +kernel
theorem dX9_exam_5 : decode cX9_exam 5 = .ok (.invokevirtual 104, 3) := by decide +kernel
theorem dX9_exam_8 : decode cX9_exam 8 = .ok (.astore 5, 2) := by decide +kernel
theorem dX9_exam_10 : decode cX9_exam 10 = .ok (.iload_n 2, 1) := by decide +kernel
theorem dX9_exam_11 : decode cX9_exam 11 = .ok (.bipush 100, 2) := by decide +kernel
theorem dX9_exam_13 : decode cX9_exam 13 = .ok (.ldc 108, 2) := by decide +kernel
theorem dX9_exam_15 : decode cX9_exam 15 = .ok (.invokestatic 66, 3) := by decide +kernel
theorem dX9_exam_18 : decode cX9_exam 18 = .ok (.iload_n 3, 1) := by decide +kernel
theorem dX9_exam_19 : decode cX9_exam 19 = .ok (.iconst 0, 1) := by decide +kernel
theorem dX9_exam_20 : decode cX9_exam 20 = .ok (.bipush 20, 2) := by decide +kernel
theorem dX9_exam_22 : decode cX9_exam 22 = .ok (.invokestatic 66, 3) := by decide +kernel
theorem dX9_exam_25 : decode cX9_exam 25 = .ok (.iload 4, 2) := by decide +kernel
theorem dX9_exam_27 : decode cX9_exam 27 = .ok (.iconst 0, 1) := by decide +kernel
theorem dX9_exam_28 : decode cX9_exam 28 = .ok (.sipush 400, 3) := by decide +kernel
theorem dX9_exam_31 : decode cX9_exam 31 = .ok (.invokestatic 66, 3) := by decide +kernel
theorem dX9_exam_34 : decode cX9_exam 34 = .ok (.aload 5, 2) := by decide +kernel
theorem dX9_exam_36 : decode cX9_exam 36 = .ok (.iload_n 2, 1) := by decide +kernel
theorem dX9_exam_37 : decode cX9_exam 37 = .ok (.putfield 109, 3) := by decide +kernel
theorem dX9_exam_40 : decode cX9_exam 40 = .ok (.aload 5, 2) := by decide +kernel
theorem dX9_exam_42 : decode cX9_exam 42 = .ok (.iload_n 3, 1) := by decide +kernel
theorem dX9_exam_43 : decode cX9_exam 43 = .ok (.putfield 114, 3) := by decide +kernel
theorem dX9_exam_46 : decode cX9_exam 46 = .ok (.aload 5, 2) := by decide +kernel
theorem dX9_exam_48 : decode cX9_exam 48 = .ok (.iload 4, 2) := by decide +kernel
theorem dX9_exam_50 : decode cX9_exam 50 = .ok (.putfield 117, 3) := by decide +kernel
theorem dX9_exam_53 : decode cX9_exam 53 = .ok (.aload 5, 2) := by decide +kernel
theorem dX9_exam_55 : decode cX9_exam 55 = .ok (.invokevirtual 120, 3) := by decide +kernel
theorem dX9_exam_58 : decode cX9_exam 58 = .ok (.ireturn, 1) := by decide +kernel
theorem dX9_list_0 : decode cX9_list 0 = .ok (.aload_n 0, 1) := by decide +kernel
theorem dX9_list_1 : decode cX9_list 1 = .ok (.getfield 28, 3) := by decide +kernel
theorem dX9_list_4 : decode cX9_list 4 = .ok (.iload_n 1, 1) := by decide +kernel
theorem dX9_list_5 : decode cX9_list 5 = .ok (.invokevirtual 123, 3) := by decide +kernel
theorem dX9_list_8 : decode cX9_list 8 = .ok (.astore 4, 2) := by decide +kernel
theorem dX9_list_10 : decode cX9_list 10 = .ok (.iload_n 2, 1) := by decide +kernel
theorem dX9_list_11 : decode cX9_list 11 = .ok (.iconst (-1), 1) := by decide +kernel
theorem dX9_list_12 : decode cX9_list 12 = .ok (.bipush 30, 2) := by decide +kernel
theorem dX9_list_14 : decode cX9_list 14 = .ok (.invokestatic 66, 3) := by decide +kernel
theorem dX9_list_17 : decode cX9_list 17 = .ok (.iload_n 2, 1) := by decide +kernel
theorem dX9_list_18 : decode cX9_list 18 = .ok (.iconst (-1), 1) := by decide +kernel
theorem dX9_list_19 : decode cX9_list 19 = .ok (.if_icmp .eq 9, 3) := by decide +kernel
theorem dX9_list_22 : decode cX9_list 22 = .ok (.iload_n 3, 1) := by decide +kernel
theorem dX9_list_23 : decode cX9_list 23 = .ok (.iconst 0, 1) := by decide +kernel
theorem dX9_list_24 : decode cX9_list 24 = .ok (.iconst 2, 1) := by decide +kernel
theorem dX9_list_25 : decode cX9_list 25 = .ok (.invokestatic 66, 3) := by decide +kernel
theorem dX9_list_28 : decode cX9_list 28 = .ok (.aload 4, 2) := by decide +kernel
theorem dX9_list_30 : decode cX9_list 30 = .ok (.getfield 127, 3) := by decide +kernel
theorem dX9_list_33 : decode cX9_list 33 = .ok (.istore 5, 2) := by decide +kernel
theorem dX9_list_35 : decode cX9_list 35 = .ok (.aload 4, 2) := by decide +kernel
theorem dX9_list_37 : decode cX9_list 37 = .ok (.iload_n 2, 1) := by decide +kernel
theorem dX9_list_38 : decode cX9_list 38 = .ok (.putfield 127, 3) := by decide +kernel
theorem dX9_list_41 : decode cX9_list 41 = .ok (.aload 4, 2) := by decide +kernel
theorem dX9_list_43 : decode cX9_list 43 = .ok (.iload_n 3, 1) := by decide +kernel
theorem dX9_list_44 : decode cX9_list 44 = .ok (.putfield 130, 3) := by decide +kernel
theorem dX9_list_47 : decode cX9_list 47 = .ok (.iload 5, 2) := by decide +kernel
theorem dX9_list_49 : decode cX9_list 49 = .ok (.ireturn, 1) := by decide +kernel
theorem dX9_fault_0 : decode cX9_fault 0 = .ok (.aload_n 0, 1) := by decide +kernel
theorem dX9_fault_1 : decode cX9_fault 1 = .ok (.iload_n 1, 1) := by decide +kernel
theorem dX9_fault_2 : decode cX9_fault 2 = .ok (.invokevirtual 133, 3) := by decide +kernel
theorem dX9_fault_5 : decode cX9_fault 5 = .ok (.astore 5, 2) := by decide +kernel
theorem dX9_fault_7 : decode cX9_fault 7 = .ok (.iload_n 2, 1) := by decide +kernel
theorem dX9_fault_8 : decode cX9_fault 8 = .ok (.iconst 4, 1) := by decide +kernel
theorem dX9_fault_9 : decode cX9_fault 9 = .ok (.invokestatic 94, 3) := by decide +kernel
theorem dX9_fault_12 : decode cX9_fault 12 = .ok (.iload_n 2, 1) := by decide +kernel
theorem dX9_fault_13 : decode cX9_fault 13 = .ok (.ifCond .eq 8, 3) := by decide +kernel
theorem dX9_fault_16 : decode cX9_fault 16 = .ok (.iload_n 2, 1) := by decide +kernel
theorem dX9_fault_17 : decode cX9_fault 17 = .ok (.iconst 1, 1) := by decide +kernel
theorem dX9_fault_18 : decode cX9_fault 18 = .ok (.if_icmp .ne 7, 3) := by decide +kernel
theorem dX9_fault_21 : decode cX9_fault 21 = .ok (.iconst 1, 1) := by decide +kernel
theorem dX9_fault_22 : decode cX9_fault 22 = .ok (.goto 4, 3) := by decide +kernel
theorem dX9_fault_25 : decode cX9_fault 25 = .ok (.iconst 0, 1) := by decide +kernel
theorem dX9_fault_26 : decode cX9_fault 26 = .ok (.istore 6, 2) := by decide +kernel
theorem dX9_fault_28 : decode cX9_fault 28 = .ok (.iload_n 2, 1) := by decide +kernel
theorem dX9_fault_29 : decode cX9_fault 29 = .ok (.ifCond .eq 8, 3) := by decide +kernel
theorem dX9_fault_32 : decode cX9_fault 32 = .ok (.iload_n 2, 1) := by decide +kernel
theorem dX9_fault_33 : decode cX9_fault 33 = .ok (.iconst 2, 1) := by decide +kernel
theorem dX9_fault_34 : decode cX9_fault 34 = .ok (.if_icmp .ne 7, 3) := by decide +kernel
theorem dX9_fault_37 : decode cX9_fault 37 = .ok (.iconst 1, 1) := by decide +kernel
theorem dX9_fault_38 : decode cX9_fault 38 = .ok (.goto 4, 3) := by decide +kernel
theorem dX9_fault_41 : decode cX9_fault 41 = .ok (.iconst 0, 1) := by decide +kernel
theorem dX9_fault_42 : decode cX9_fault 42 = .ok (.istore 7, 2) := by decide +kernel
theorem dX9_fault_44 : decode cX9_fault 44 = .ok (.iload 6, 2) := by decide +kernel
theorem dX9_fault_46 : decode cX9_fault 46 = .ok (.ifCond .eq 16, 3) := by decide +kernel
theorem dX9_fault_49 : decode cX9_fault 49 = .ok (.iload_n 3, 1) := by decide +kernel
theorem dX9_fault_50 : decode cX9_fault 50 = .ok (.iload_n 2, 1) := by decide +kernel
theorem dX9_fault_51 : decode cX9_fault 51 = .ok (.ifCond .ne 7, 3) := by decide +kernel
theorem dX9_fault_54 : decode cX9_fault 54 = .ok (.iconst 4, 1) := by decide +kernel
theorem dX9_fault_55 : decode cX9_fault 55 = .ok (.goto 4, 3) := by decide +kernel
theorem dX9_fault_58 : decode cX9_fault 58 = .ok (.iconst 4, 1) := by decide +kernel
theorem dX9_fault_59 : decode cX9_fault 59 = .ok (.invokestatic 94, 3) := by decide +kernel
theorem dX9_fault_62 : decode cX9_fault 62 = .ok (.iload 7, 2) := by decide +kernel
theorem dX9_fault_64 : decode cX9_fault 64 = .ok (.ifCond .eq 20, 3) := by decide +kernel
theorem dX9_fault_67 : decode cX9_fault 67 = .ok (.iload 4, 2) := by decide +kernel
theorem dX9_fault_69 : decode cX9_fault 69 = .ok (.iconst 1, 1) := by decide +kernel
theorem dX9_fault_70 : decode cX9_fault 70 = .ok (.iload_n 2, 1) := by decide +kernel
theorem dX9_fault_71 : decode cX9_fault 71 = .ok (.ifCond .ne 8, 3) := by decide +kernel
theorem dX9_fault_74 : decode cX9_fault 74 = .ok (.bipush 20, 2) := by decide +kernel
theorem dX9_fault_76 : decode cX9_fault 76 = .ok (.goto 5, 3) := by decide +kernel
theorem dX9_fault_79 : decode cX9_fault 79 = .ok (.bipush 100, 2) := by decide +kernel
theorem dX9_fault_81 : decode cX9_fault 81 = .ok (.invokestatic 66, 3) := by decide +kernel
theorem dX9_fault_84 : decode cX9_fault 84 = .ok (.aload 5, 2) := by decide +kernel
theorem dX9_fault_86 : decode cX9_fault 86 = .ok (.getfield 137, 3) := by decide +kernel
theorem dX9_fault_89 : decode cX9_fault 89 = .ok (.invokevirtual 70, 3) := by decide +kernel
theorem dX9_fault_92 : decode cX9_fault 92 = .ok (.bipush 8, 2) := by decide +kernel
theorem dX9_fault_94 : decode cX9_fault 94 = .ok (.if_icmp .lt 13, 3) := by decide +kernel
theorem dX9_fault_97 : decode cX9_fault 97 = .ok (.new 74, 3) := by decide +kernel
theorem dX9_fault_100 : decode cX9_fault 100 = .ok (.dup, 1) := by decide +kernel
theorem dX9_fault_101 : decode cX9_fault 101 = .ok (.ldc 140, 2) := by decide +kernel
theorem dX9_fault_103 : decode cX9_fault 103 = .ok (.invokespecial 78, 3) := by decide +kernel
theorem dX9_fault_106 : decode cX9_fault 106 = .ok (.athrow, 1) := by decide +kernel
theorem dX9_fault_107 : decode cX9_fault 107 = .ok (.aload 5, 2) := by decide +kernel
theorem dX9_fault_109 : decode cX9_fault 109 = .ok (.getfield 137, 3) := by decide +kernel
theorem dX9_fault_112 : decode cX9_fault 112 = .ok (.new 142, 3) := by decide +kernel
theorem dX9_fault_115 : decode cX9_fault 115 = .ok (.dup, 1) := by decide +kernel
theorem dX9_fault_116 : decode cX9_fault 116 = .ok (.iload_n 2, 1) := by decide +kernel
theorem dX9_fault_117 : decode cX9_fault 117 = .ok (.aload_n 0, 1) := by decide +kernel
theorem dX9_fault_118 : decode cX9_fault 118 = .ok (.getfield 46, 3) := by decide +kernel
theorem dX9_fault_121 : decode cX9_fault 121 = .ok (.iload 6, 2) := by decide +kernel
theorem dX9_fault_123 : decode cX9_fault 123 = .ok (.ifCond .eq 7, 3) := by decide +kernel
theorem dX9_fault_126 : decode cX9_fault 126 = .ok (.iload_n 3, 1) := by decide +kernel
theorem dX9_fault_127 : decode cX9_fault 127 = .ok (.goto 4, 3) := by decide +kernel
theorem dX9_fault_130 : decode cX9_fault 130 = .ok (.iconst (-1), 1) := by decide +kernel
theorem dX9_fault_131 : decode cX9_fault 131 = .ok (.iload 7, 2) := by decide +kernel
theorem dX9_fault_133 : decode cX9_fault 133 = .ok (.ifCond .eq 8, 3) := by decide +kernel
theorem dX9_fault_136 : decode cX9_fault 136 = .ok (.iload 4, 2) := by decide +kernel
theorem dX9_fault_138 : decode cX9_fault 138 = .ok (.goto 4, 3) := by decide +kernel
theorem dX9_fault_141 : decode cX9_fault 141 = .ok (.iconst (-1), 1) := by decide +kernel
theorem dX9_fault_142 : decode cX9_fault 142 = .ok (.invokespecial 144, 3) := by decide +kernel
theorem dX9_fault_145 : decode cX9_fault 145 = .ok (.invokevirtual 86, 3) := by decide +kernel
theorem dX9_fault_148 : decode cX9_fault 148 = .ok (.pop, 1) := by decide +kernel
theorem dX9_fault_149 : decode cX9_fault 149 = .ok (.aload 5, 2) := by decide +kernel
theorem dX9_fault_151 : decode cX9_fault 151 = .ok (.getfield 137, 3) := by decide +kernel
theorem dX9_fault_154 : decode cX9_fault 154 = .ok (.invokevirtual 70, 3) := by decide +kernel
theorem dX9_fault_157 : decode cX9_fault 157 = .ok (.ireturn, 1) := by decide +kernel
theorem dX9_pin_0 : decode cX9_pin 0 = .ok (.aload_n 0, 1) := by decide +kernel
theorem dX9_pin_1 : decode cX9_pin 1 = .ok (.iload_n 1, 1) := by decide +kernel
theorem dX9_pin_2 : decode cX9_pin 2 = .ok (.invokevirtual 147, 3) := by decide +kernel
theorem dX9_pin_5 : decode cX9_pin 5 = .ok (.astore_n 3, 1) := by decide +kernel
theorem dX9_pin_6 : decode cX9_pin 6 = .ok (.iload_n 2, 1) := by decide +kernel
theorem dX9_pin_7 : decode cX9_pin 7 = .ok (.iconst (-1), 1) := by decide +kernel
theorem dX9_pin_8 : decode cX9_pin 8 = .ok (.if_icmp .eq 14, 3) := by decide +kernel
theorem dX9_pin_11 : decode cX9_pin 11 = .ok (.iload_n 2, 1) := by decide +kernel
theorem dX9_pin_12 : decode cX9_pin 12 = .ok (.aload_n 0, 1) := by decide +kernel
theorem dX9_pin_13 : decode cX9_pin 13 = .ok (.getfield 10, 3) := by decide +kernel
theorem dX9_pin_16 : decode cX9_pin 16 = .ok (.invokevirtual 70, 3) := by decide +kernel
theorem dX9_pin_19 : decode cX9_pin 19 = .ok (.invokestatic 94, 3) := by decide +kernel
theorem dX9_pin_22 : decode cX9_pin 22 = .ok (.aload_n 3, 1) := by decide +kernel
theorem dX9_pin_23 : decode cX9_pin 23 = .ok (.getfield 151, 3) := by decide +kernel
theorem dX9_pin_26 : decode cX9_pin 26 = .ok (.istore 4, 2) := by decide +kernel
theorem dX9_pin_28 : decode cX9_pin 28 = .ok (.aload_n 3, 1) := by decide +kernel
theorem dX9_pin_29 : decode cX9_pin 29 = .ok (.iload_n 2, 1) := by decide +kernel
theorem dX9_pin_30 : decode cX9_pin 30 = .ok (.putfield 151, 3) := by decide +kernel
theorem dX9_pin_33 : decode cX9_pin 33 = .ok (.iload 4, 2) := by decide +kernel
theorem dX9_pin_35 : decode cX9_pin 35 = .ok (.ireturn, 1) := by decide +kernel
theorem dX9_whyNot_0 : decode cX9_whyNot 0 = .ok (.aload_n 0, 1) := by decide +kernel
theorem dX9_whyNot_1 : decode cX9_whyNot 1 = .ok (.getfield 28, 3) := by decide +kernel
theorem dX9_whyNot_4 : decode cX9_whyNot 4 = .ok (.aload_n 0, 1) := by decide +kernel
theorem dX9_whyNot_5 : decode cX9_whyNot 5 = .ok (.iload_n 1, 1) := by decide +kernel
theorem dX9_whyNot_6 : decode cX9_whyNot 6 = .ok (.invokevirtual 133, 3) := by decide +kernel
theorem dX9_whyNot_9 : decode cX9_whyNot 9 = .ok (.aload_n 0, 1) := by decide +kernel
theorem dX9_whyNot_10 : decode cX9_whyNot 10 = .ok (.iload_n 2, 1) := by decide +kernel
theorem dX9_whyNot_11 : decode cX9_whyNot 11 = .ok (.invokevirtual 147, 3) := by decide +kernel
theorem dX9_whyNot_14 : decode cX9_whyNot 14 = .ok (.aload_n 0, 1) := by decide +kernel
theorem dX9_whyNot_15 : decode cX9_whyNot 15 = .ok (.getfield 46, 3) := by decide +kernel
theorem dX9_whyNot_18 : decode cX9_whyNot 18 = .ok (.invokevirtual 154, 3) := by decide +kernel
theorem dX9_whyNot_21 : decode cX9_whyNot 21 = .ok (.ireturn, 1) := by decide +kernel
theorem dX9_allocation_0 : decode cX9_allocation 0 = .ok (.iload_n 1, 1) := by decide +kernel
theorem dX9_allocation_1 : decode cX9_allocation 1 = .ok (.aload_n 0, 1) := by decide +kernel
theorem dX9_allocation_2 : decode cX9_allocation 2 = .ok (.getfield 16, 3) := by decide +kernel
theorem dX9_allocation_5 : decode cX9_allocation 5 = .ok (.invokevirtual 70, 3) := by decide +kernel
theorem dX9_allocation_8 : decode cX9_allocation 8 = .ok (.invokestatic 94, 3) := by decide +kernel
theorem dX9_allocation_11 : decode cX9_allocation 11 = .ok (.aload_n 0, 1) := by decide +kernel
theorem dX9_allocation_12 : decode cX9_allocation 12 = .ok (.invokevirtual 158, 3) := by decide +kernel
theorem dX9_allocation_15 : decode cX9_allocation 15 = .ok (.aload_n 0, 1) := by decide +kernel
theorem dX9_allocation_16 : decode cX9_allocation 16 = .ok (.getfield 35, 3) := by decide +kernel
theorem dX9_allocation_19 : decode cX9_allocation 19 = .ok (.invokevirtual 161, 3) := by decide +kernel
theorem dX9_allocation_22 : decode cX9_allocation 22 = .ok (.aload_n 0, 1) := by decide +kernel
theorem dX9_allocation_23 : decode cX9_allocation 23 = .ok (.getfield 35, 3) := by decide +kernel
theorem dX9_allocation_26 : decode cX9_allocation 26 = .ok (.iload_n 1, 1) := by decide +kernel
theorem dX9_allocation_27 : decode cX9_allocation 27 = .ok (.invokevirtual 164, 3) := by decide +kernel
theorem dX9_allocation_30 : decode cX9_allocation 30 = .ok (.ireturn, 1) := by decide +kernel
theorem dX9_allocationAnew_0 : decode cX9_allocationAnew 0 = .ok (.iload_n 1, 1) := by decide +kernel
theorem dX9_allocationAnew_1 : decode cX9_allocationAnew 1 = .ok (.aload_n 0, 1) := by decide +kernel
theorem dX9_allocationAnew_2 : decode cX9_allocationAnew 2 = .ok (.getfield 16, 3) := by decide +kernel
theorem dX9_allocationAnew_5 : decode cX9_allocationAnew 5 = .ok (.invokevirtual 70, 3) := by decide +kernel
theorem dX9_allocationAnew_8 : decode cX9_allocationAnew 8 = .ok (.invokestatic 94, 3) := by decide +kernel
theorem dX9_allocationAnew_11 : decode cX9_allocationAnew 11 = .ok (.aload_n 0, 1) := by decide +kernel
theorem dX9_allocationAnew_12 : decode cX9_allocationAnew 12 = .ok (.getfield 16, 3) := by decide +kernel
theorem dX9_allocationAnew_15 : decode cX9_allocationAnew 15 = .ok (.invokevirtual 70, 3) := by decide +kernel
theorem dX9_allocationAnew_18 : decode cX9_allocationAnew 18 = .ok (.iconst 4, 1) := by decide +kernel
theorem dX9_allocationAnew_19 : decode cX9_allocationAnew 19 = .ok (.if_icmp .le 13, 3) := by decide +kernel
theorem dX9_allocationAnew_22 : decode cX9_allocationAnew 22 = .ok (.new 74, 3) := by decide +kernel
theorem dX9_allocationAnew_25 : decode cX9_allocationAnew 25 = .ok (.dup, 1) := by decide +kernel
theorem dX9_allocationAnew_26 : decode cX9_allocationAnew 26 = .ok (.ldc 168, 2) := by decide +kernel
theorem dX9_allocationAnew_28 : decode cX9_allocationAnew 28 = .ok (.invokespecial 78, 3) := by decide +kernel
theorem dX9_allocationAnew_31 : decode cX9_allocationAnew 31 = .ok (.athrow, 1) := by decide +kernel
theorem dX9_allocationAnew_32 : decode cX9_allocationAnew 32 = .ok (.aload_n 0, 1) := by decide +kernel
theorem dX9_allocationAnew_33 : decode cX9_allocationAnew 33 = .ok (.invokevirtual 158, 3) := by decide +kernel
theorem dX9_allocationAnew_36 : decode cX9_allocationAnew 36 = .ok (.aload_n 0, 1) := by decide +kernel
theorem dX9_allocationAnew_37 : decode cX9_allocationAnew 37 = .ok (.getfield 35, 3) := by decide +kernel
theorem dX9_allocationAnew_40 : decode cX9_allocationAnew 40 = .ok (.invokevirtual 170, 3) := by decide +kernel
theorem dX9_allocationAnew_43 : decode cX9_allocationAnew 43 = .ok (.aload_n 0, 1) := by decide +kernel
theorem dX9_allocationAnew_44 : decode cX9_allocationAnew 44 = .ok (.getfield 35, 3) := by decide +kernel
theorem dX9_allocationAnew_47 : decode cX9_allocationAnew 47 = .ok (.iload_n 1, 1) := by decide +kernel
theorem dX9_allocationAnew_48 : decode cX9_allocationAnew 48 = .ok (.invokevirtual 164, 3) := by decide +kernel
theorem dX9_allocationAnew_51 : decode cX9_allocationAnew 51 = .ok (.ireturn, 1) := by decide +kernel
theorem dX9_lack_0 : decode cX9_lack 0 = .ok (.aload_n 0, 1) := by decide +kernel
theorem dX9_lack_1 : decode cX9_lack 1 = .ok (.invokevirtual 158, 3) := by decide +kernel
theorem dX9_lack_4 : decode cX9_lack 4 = .ok (.aload_n 0, 1) := by decide +kernel
theorem dX9_lack_5 : decode cX9_lack 5 = .ok (.getfield 35, 3) := by decide +kernel
theorem dX9_lack_8 : decode cX9_lack 8 = .ok (.invokevirtual 161, 3) := by decide +kernel
theorem dX9_lack_11 : decode cX9_lack 11 = .ok (.aload_n 0, 1) := by decide +kernel
theorem dX9_lack_12 : decode cX9_lack 12 = .ok (.getfield 35, 3) := by decide +kernel
theorem dX9_lack_15 : decode cX9_lack 15 = .ok (.invokevirtual 173, 3) := by decide +kernel
theorem dX9_lack_18 : decode cX9_lack 18 = .ok (.ireturn, 1) := by decide +kernel
theorem dX9_day_0 : decode cX9_day 0 = .ok (.aload_n 0, 1) := by decide +kernel
theorem dX9_day_1 : decode cX9_day 1 = .ok (.getfield 46, 3) := by decide +kernel
theorem dX9_day_4 : decode cX9_day 4 = .ok (.sipush 200, 3) := by decide +kernel
theorem dX9_day_7 : decode cX9_day 7 = .ok (.if_icmp .lt 13, 3) := by decide +kernel
theorem dX9_day_10 : decode cX9_day 10 = .ok (.new 74, 3) := by decide +kernel
theorem dX9_day_13 : decode cX9_day 13 = .ok (.dup, 1) := by decide +kernel
theorem dX9_day_14 : decode cX9_day 14 = .ok (.ldc 176, 2) := by decide +kernel
theorem dX9_day_16 : decode cX9_day 16 = .ok (.invokespecial 78, 3) := by decide +kernel
theorem dX9_day_19 : decode cX9_day 19 = .ok (.athrow, 1) := by decide +kernel
theorem dX9_day_20 : decode cX9_day 20 = .ok (.aload_n 0, 1) := by decide +kernel
theorem dX9_day_21 : decode cX9_day 21 = .ok (.invokevirtual 158, 3) := by decide +kernel
theorem dX9_day_24 : decode cX9_day 24 = .ok (.aload_n 0, 1) := by decide +kernel
theorem dX9_day_25 : decode cX9_day 25 = .ok (.getfield 35, 3) := by decide +kernel
theorem dX9_day_28 : decode cX9_day 28 = .ok (.invokevirtual 161, 3) := by decide +kernel
theorem dX9_day_31 : decode cX9_day 31 = .ok (.aload_n 0, 1) := by decide +kernel
theorem dX9_day_32 : decode cX9_day 32 = .ok (.invokevirtual 178, 3) := by decide +kernel
theorem dX9_day_35 : decode cX9_day 35 = .ok (.aload_n 0, 1) := by decide +kernel
theorem dX9_day_36 : decode cX9_day 36 = .ok (.invokevirtual 181, 3) := by decide +kernel
theorem dX9_day_39 : decode cX9_day 39 = .ok (.iconst 0, 1) := by decide +kernel
theorem dX9_day_40 : decode cX9_day 40 = .ok (.istore_n 1, 1) := by decide +kernel
theorem dX9_day_41 : decode cX9_day 41 = .ok (.iload_n 1, 1) := by decide +kernel
theorem dX9_day_42 : decode cX9_day 42 = .ok (.aload_n 0, 1) := by decide +kernel
theorem dX9_day_43 : decode cX9_day 43 = .ok (.getfield 10, 3) := by decide +kernel
theorem dX9_day_46 : decode cX9_day 46 = .ok (.invokevirtual 70, 3) := by decide +kernel
theorem dX9_day_49 : decode cX9_day 49 = .ok (.if_icmp .ge 17, 3) := by decide +kernel
theorem dX9_day_52 : decode cX9_day 52 = .ok (.aload_n 0, 1) := by decide +kernel
theorem dX9_day_53 : decode cX9_day 53 = .ok (.iload_n 1, 1) := by decide +kernel
theorem dX9_day_54 : decode cX9_day 54 = .ok (.invokevirtual 133, 3) := by decide +kernel
theorem dX9_day_57 : decode cX9_day 57 = .ok (.invokevirtual 184, 3) := by decide +kernel
theorem dX9_day_60 : decode cX9_day 60 = .ok (.iinc 1 1, 3) := by decide +kernel
theorem dX9_day_63 : decode cX9_day 63 = .ok (.goto (-22), 3) := by decide +kernel
theorem dX9_day_66 : decode cX9_day 66 = .ok (.aload_n 0, 1) := by decide +kernel
theorem dX9_day_67 : decode cX9_day 67 = .ok (.iconst 0, 1) := by decide +kernel
theorem dX9_day_68 : decode cX9_day 68 = .ok (.putfield 53, 3) := by decide +kernel
theorem dX9_day_71 : decode cX9_day 71 = .ok (.aload_n 0, 1) := by decide +kernel
theorem dX9_day_72 : decode cX9_day 72 = .ok (.iconst 0, 1) := by decide +kernel
theorem dX9_day_73 : decode cX9_day 73 = .ok (.putfield 57, 3) := by decide +kernel
theorem dX9_day_76 : decode cX9_day 76 = .ok (.aload_n 0, 1) := by decide +kernel
theorem dX9_day_77 : decode cX9_day 77 = .ok (.dup, 1) := by decide +kernel
theorem dX9_day_78 : decode cX9_day 78 = .ok (.getfield 46, 3) := by decide +kernel
theorem dX9_day_81 : decode cX9_day 81 = .ok (.iconst 1, 1) := by decide +kernel
theorem dX9_day_82 : decode cX9_day 82 = .ok (.iadd, 1) := by decide +kernel
theorem dX9_day_83 : decode cX9_day 83 = .ok (.putfield 46, 3) := by decide +kernel
theorem dX9_day_86 : decode cX9_day 86 = .ok (.aload_n 0, 1) := by decide +kernel
theorem dX9_day_87 : decode cX9_day 87 = .ok (.getfield 35, 3) := by decide +kernel
theorem dX9_day_90 : decode cX9_day 90 = .ok (.invokevirtual 173, 3) := by decide +kernel
theorem dX9_day_93 : decode cX9_day 93 = .ok (.ireturn, 1) := by decide +kernel
theorem dX9_examine_0 : decode cX9_examine 0 = .ok (.aload_n 0, 1) := by decide +kernel
theorem dX9_examine_1 : decode cX9_examine 1 = .ok (.iload_n 1, 1) := by decide +kernel
theorem dX9_examine_2 : decode cX9_examine 2 = .ok (.invokevirtual 133, 3) := by decide +kernel
theorem dX9_examine_5 : decode cX9_examine 5 = .ok (.astore_n 3, 1) := by decide +kernel
theorem dX9_examine_6 : decode cX9_examine 6 = .ok (.iload_n 2, 1) := by decide +kernel
theorem dX9_examine_7 : decode cX9_examine 7 = .ok (.iconst 3, 1) := by decide +kernel
theorem dX9_examine_8 : decode cX9_examine 8 = .ok (.invokestatic 94, 3) := by decide +kernel
theorem dX9_examine_11 : decode cX9_examine 11 = .ok (.aload_n 3, 1) := by decide +kernel
theorem dX9_examine_12 : decode cX9_examine 12 = .ok (.getfield 187, 3) := by decide +kernel
theorem dX9_examine_15 : decode cX9_examine 15 = .ok (.ifCond .ne 10, 3) := by decide +kernel
theorem dX9_examine_18 : decode cX9_examine 18 = .ok (.aload_n 0, 1) := by decide +kernel
theorem dX9_examine_19 : decode cX9_examine 19 = .ok (.getfield 53, 3) := by decide +kernel
theorem dX9_examine_22 : decode cX9_examine 22 = .ok (.ifCond .eq 13, 3) := by decide +kernel
theorem dX9_examine_25 : decode cX9_examine 25 = .ok (.new 74, 3) := by decide +kernel
theorem dX9_examine_28 : decode cX9_examine 28 = .ok (.dup, 1) := by decide +kernel
theorem dX9_examine_29 : decode cX9_examine 29 = .ok (.ldc 190, 2) := by decide +kernel
theorem dX9_examine_31 : decode cX9_examine 31 = .ok (.invokespecial 78, 3) := by decide +kernel
theorem dX9_examine_34 : decode cX9_examine 34 = .ok (.athrow, 1) := by decide +kernel
theorem dX9_examine_35 : decode cX9_examine 35 = .ok (.aload_n 0, 1) := by decide +kernel
theorem dX9_examine_36 : decode cX9_examine 36 = .ok (.iconst 1, 1) := by decide +kernel
theorem dX9_examine_37 : decode cX9_examine 37 = .ok (.putfield 53, 3) := by decide +kernel
theorem dX9_examine_40 : decode cX9_examine 40 = .ok (.aload_n 3, 1) := by decide +kernel
theorem dX9_examine_41 : decode cX9_examine 41 = .ok (.iload_n 2, 1) := by decide +kernel
theorem dX9_examine_42 : decode cX9_examine 42 = .ok (.invokevirtual 192, 3) := by decide +kernel
theorem dX9_examine_45 : decode cX9_examine 45 = .ok (.iload_n 2, 1) := by decide +kernel
theorem dX9_examine_46 : decode cX9_examine 46 = .ok (.iconst 1, 1) := by decide +kernel
theorem dX9_examine_47 : decode cX9_examine 47 = .ok (.iadd, 1) := by decide +kernel
theorem dX9_examine_48 : decode cX9_examine 48 = .ok (.ireturn, 1) := by decide +kernel
theorem dX9_lathe_0 : decode cX9_lathe 0 = .ok (.aload_n 0, 1) := by decide +kernel
theorem dX9_lathe_1 : decode cX9_lathe 1 = .ok (.iload_n 1, 1) := by decide +kernel
theorem dX9_lathe_2 : decode cX9_lathe 2 = .ok (.invokevirtual 133, 3) := by decide +kernel
theorem dX9_lathe_5 : decode cX9_lathe 5 = .ok (.astore_n 2, 1) := by decide +kernel
theorem dX9_lathe_6 : decode cX9_lathe 6 = .ok (.aload_n 2, 1) := by decide +kernel
theorem dX9_lathe_7 : decode cX9_lathe 7 = .ok (.getfield 187, 3) := by decide +kernel
theorem dX9_lathe_10 : decode cX9_lathe 10 = .ok (.ifCond .ne 10, 3) := by decide +kernel
theorem dX9_lathe_13 : decode cX9_lathe 13 = .ok (.aload_n 0, 1) := by decide +kernel
theorem dX9_lathe_14 : decode cX9_lathe 14 = .ok (.getfield 57, 3) := by decide +kernel
theorem dX9_lathe_17 : decode cX9_lathe 17 = .ok (.ifCond .eq 13, 3) := by decide +kernel
theorem dX9_lathe_20 : decode cX9_lathe 20 = .ok (.new 74, 3) := by decide +kernel
theorem dX9_lathe_23 : decode cX9_lathe 23 = .ok (.dup, 1) := by decide +kernel
theorem dX9_lathe_24 : decode cX9_lathe 24 = .ok (.ldc 195, 2) := by decide +kernel
theorem dX9_lathe_26 : decode cX9_lathe 26 = .ok (.invokespecial 78, 3) := by decide +kernel
theorem dX9_lathe_29 : decode cX9_lathe 29 = .ok (.athrow, 1) := by decide +kernel
theorem dX9_lathe_30 : decode cX9_lathe 30 = .ok (.aload_n 0, 1) := by decide +kernel
theorem dX9_lathe_31 : decode cX9_lathe 31 = .ok (.iconst 1, 1) := by decide +kernel
theorem dX9_lathe_32 : decode cX9_lathe 32 = .ok (.putfield 57, 3) := by decide +kernel
theorem dX9_lathe_35 : decode cX9_lathe 35 = .ok (.aload_n 2, 1) := by decide +kernel
theorem dX9_lathe_36 : decode cX9_lathe 36 = .ok (.invokevirtual 197, 3) := by decide +kernel
theorem dX9_lathe_39 : decode cX9_lathe 39 = .ok (.ireturn, 1) := by decide +kernel
theorem dX9_mend_0 : decode cX9_mend 0 = .ok (.aload_n 0, 1) := by decide +kernel
theorem dX9_mend_1 : decode cX9_mend 1 = .ok (.iload_n 1, 1) := by decide +kernel
theorem dX9_mend_2 : decode cX9_mend 2 = .ok (.invokevirtual 133, 3) := by decide +kernel
theorem dX9_mend_5 : decode cX9_mend 5 = .ok (.astore_n 3, 1) := by decide +kernel
theorem dX9_mend_6 : decode cX9_mend 6 = .ok (.aload_n 3, 1) := by decide +kernel
theorem dX9_mend_7 : decode cX9_mend 7 = .ok (.iload_n 2, 1) := by decide +kernel
theorem dX9_mend_8 : decode cX9_mend 8 = .ok (.invokevirtual 200, 3) := by decide +kernel
theorem dX9_mend_11 : decode cX9_mend 11 = .ok (.getfield 204, 3) := by decide +kernel
theorem dX9_mend_14 : decode cX9_mend 14 = .ok (.istore 4, 2) := by decide +kernel
theorem dX9_mend_16 : decode cX9_mend 16 = .ok (.iload 4, 2) := by decide +kernel
theorem dX9_mend_18 : decode cX9_mend 18 = .ok (.ifCond .ne 13, 3) := by decide +kernel
theorem dX9_mend_21 : decode cX9_mend 21 = .ok (.new 74, 3) := by decide +kernel
theorem dX9_mend_24 : decode cX9_mend 24 = .ok (.dup, 1) := by decide +kernel
theorem dX9_mend_25 : decode cX9_mend 25 = .ok (.ldc 207, 2) := by decide +kernel
theorem dX9_mend_27 : decode cX9_mend 27 = .ok (.invokespecial 78, 3) := by decide +kernel
theorem dX9_mend_30 : decode cX9_mend 30 = .ok (.athrow, 1) := by decide +kernel
theorem dX9_mend_31 : decode cX9_mend 31 = .ok (.aload_n 3, 1) := by decide +kernel
theorem dX9_mend_32 : decode cX9_mend 32 = .ok (.iload_n 2, 1) := by decide +kernel
theorem dX9_mend_33 : decode cX9_mend 33 = .ok (.invokevirtual 209, 3) := by decide +kernel
theorem dX9_mend_36 : decode cX9_mend 36 = .ok (.iload 4, 2) := by decide +kernel
theorem dX9_mend_38 : decode cX9_mend 38 = .ok (.ireturn, 1) := by decide +kernel
theorem dX9_today_0 : decode cX9_today 0 = .ok (.aload_n 0, 1) := by decide +kernel
theorem dX9_today_1 : decode cX9_today 1 = .ok (.getfield 46, 3) := by decide +kernel
theorem dX9_today_4 : decode cX9_today 4 = .ok (.ireturn, 1) := by decide +kernel
theorem dX9_about_0 : decode cX9_about 0 = .ok (.aload_n 0, 1) := by decide +kernel
theorem dX9_about_1 : decode cX9_about 1 = .ok (.iload_n 1, 1) := by decide +kernel
theorem dX9_about_2 : decode cX9_about 2 = .ok (.invokevirtual 133, 3) := by decide +kernel
theorem dX9_about_5 : decode cX9_about 5 = .ok (.astore_n 3, 1) := by decide +kernel
theorem dX9_about_6 : decode cX9_about 6 = .ok (.iload_n 2, 1) := by decide +kernel
theorem dX9_about_7 : decode cX9_about 7 = .ok (.tableswitch 94 0 5 #[37, 42, 47, 55, 68, 85], 37) := by decide +kernel
theorem dX9_about_44 : decode cX9_about 44 = .ok (.aload_n 3, 1) := by decide +kernel
theorem dX9_about_45 : decode cX9_about 45 = .ok (.getfield 187, 3) := by decide +kernel
theorem dX9_about_48 : decode cX9_about 48 = .ok (.ireturn, 1) := by decide +kernel
theorem dX9_about_49 : decode cX9_about 49 = .ok (.aload_n 3, 1) := by decide +kernel
theorem dX9_about_50 : decode cX9_about 50 = .ok (.getfield 212, 3) := by decide +kernel
theorem dX9_about_53 : decode cX9_about 53 = .ok (.ireturn, 1) := by decide +kernel
theorem dX9_about_54 : decode cX9_about 54 = .ok (.aload_n 3, 1) := by decide +kernel
theorem dX9_about_55 : decode cX9_about 55 = .ok (.getfield 137, 3) := by decide +kernel
theorem dX9_about_58 : decode cX9_about 58 = .ok (.invokevirtual 70, 3) := by decide +kernel
theorem dX9_about_61 : decode cX9_about 61 = .ok (.ireturn, 1) := by decide +kernel
theorem dX9_about_62 : decode cX9_about 62 = .ok (.aload_n 0, 1) := by decide +kernel
theorem dX9_about_63 : decode cX9_about 63 = .ok (.aload_n 3, 1) := by decide +kernel
theorem dX9_about_64 : decode cX9_about 64 = .ok (.getfield 187, 3) := by decide +kernel
theorem dX9_about_67 : decode cX9_about 67 = .ok (.invokevirtual 61, 3) := by decide +kernel
theorem dX9_about_70 : decode cX9_about 70 = .ok (.iload_n 1, 1) := by decide +kernel
theorem dX9_about_71 : decode cX9_about 71 = .ok (.invokevirtual 215, 3) := by decide +kernel
theorem dX9_about_74 : decode cX9_about 74 = .ok (.ireturn, 1) := by decide +kernel
theorem dX9_about_75 : decode cX9_about 75 = .ok (.aload_n 0, 1) := by decide +kernel
theorem dX9_about_76 : decode cX9_about 76 = .ok (.getfield 28, 3) := by decide +kernel
theorem dX9_about_79 : decode cX9_about 79 = .ok (.aload_n 3, 1) := by decide +kernel
theorem dX9_about_80 : decode cX9_about 80 = .ok (.invokevirtual 218, 3) := by decide +kernel
theorem dX9_about_83 : decode cX9_about 83 = .ok (.ifCond .eq 7, 3) := by decide +kernel
theorem dX9_about_86 : decode cX9_about 86 = .ok (.iconst 1, 1) := by decide +kernel
theorem dX9_about_87 : decode cX9_about 87 = .ok (.goto 4, 3) := by decide +kernel
theorem dX9_about_90 : decode cX9_about 90 = .ok (.iconst 0, 1) := by decide +kernel
theorem dX9_about_91 : decode cX9_about 91 = .ok (.ireturn, 1) := by decide +kernel
theorem dX9_about_92 : decode cX9_about 92 = .ok (.aload_n 0, 1) := by decide +kernel
theorem dX9_about_93 : decode cX9_about 93 = .ok (.getfield 28, 3) := by decide +kernel
theorem dX9_about_96 : decode cX9_about 96 = .ok (.aload_n 3, 1) := by decide +kernel
theorem dX9_about_97 : decode cX9_about 97 = .ok (.invokevirtual 222, 3) := by decide +kernel
theorem dX9_about_100 : decode cX9_about 100 = .ok (.ireturn, 1) := by decide +kernel
theorem dX9_about_101 : decode cX9_about 101 = .ok (.new 226, 3) := by decide +kernel
theorem dX9_about_104 : decode cX9_about 104 = .ok (.dup, 1) := by decide +kernel
theorem dX9_about_105 : decode cX9_about 105 = .ok (.ldc 228, 2) := by decide +kernel
theorem dX9_about_107 : decode cX9_about 107 = .ok (.invokespecial 230, 3) := by decide +kernel
theorem dX9_about_110 : decode cX9_about 110 = .ok (.athrow, 1) := by decide +kernel
theorem dX9_clock_0 : decode cX9_clock 0 = .ok (.aload_n 0, 1) := by decide +kernel
theorem dX9_clock_1 : decode cX9_clock 1 = .ok (.iload_n 1, 1) := by decide +kernel
theorem dX9_clock_2 : decode cX9_clock 2 = .ok (.invokevirtual 133, 3) := by decide +kernel
theorem dX9_clock_5 : decode cX9_clock 5 = .ok (.astore 4, 2) := by decide +kernel
theorem dX9_clock_7 : decode cX9_clock 7 = .ok (.iload_n 2, 1) := by decide +kernel
theorem dX9_clock_8 : decode cX9_clock 8 = .ok (.iconst 3, 1) := by decide +kernel
theorem dX9_clock_9 : decode cX9_clock 9 = .ok (.invokestatic 94, 3) := by decide +kernel
theorem dX9_clock_12 : decode cX9_clock 12 = .ok (.iload_n 3, 1) := by decide +kernel
theorem dX9_clock_13 : decode cX9_clock 13 = .ok (.ifCond .eq 12, 3) := by decide +kernel
theorem dX9_clock_16 : decode cX9_clock 16 = .ok (.aload 4, 2) := by decide +kernel
theorem dX9_clock_18 : decode cX9_clock 18 = .ok (.iload_n 2, 1) := by decide +kernel
theorem dX9_clock_19 : decode cX9_clock 19 = .ok (.invokevirtual 231, 3) := by decide +kernel
theorem dX9_clock_22 : decode cX9_clock 22 = .ok (.goto 9, 3) := by decide +kernel
theorem dX9_clock_25 : decode cX9_clock 25 = .ok (.aload 4, 2) := by decide +kernel
theorem dX9_clock_27 : decode cX9_clock 27 = .ok (.iload_n 2, 1) := by decide +kernel
theorem dX9_clock_28 : decode cX9_clock 28 = .ok (.invokevirtual 234, 3) := by decide +kernel
theorem dX9_clock_31 : decode cX9_clock 31 = .ok (.ireturn, 1) := by decide +kernel
theorem dX9_axle_0 : decode cX9_axle 0 = .ok (.aload_n 0, 1) := by decide +kernel
theorem dX9_axle_1 : decode cX9_axle 1 = .ok (.iload_n 1, 1) := by decide +kernel
theorem dX9_axle_2 : decode cX9_axle 2 = .ok (.invokevirtual 133, 3) := by decide +kernel
theorem dX9_axle_5 : decode cX9_axle 5 = .ok (.astore_n 3, 1) := by decide +kernel
theorem dX9_axle_6 : decode cX9_axle 6 = .ok (.iload_n 2, 1) := by decide +kernel
theorem dX9_axle_7 : decode cX9_axle 7 = .ok (.iconst 4, 1) := by decide +kernel
theorem dX9_axle_8 : decode cX9_axle 8 = .ok (.invokestatic 94, 3) := by decide +kernel
theorem dX9_axle_11 : decode cX9_axle 11 = .ok (.aload_n 3, 1) := by decide +kernel
theorem dX9_axle_12 : decode cX9_axle 12 = .ok (.iload_n 2, 1) := by decide +kernel
theorem dX9_axle_13 : decode cX9_axle 13 = .ok (.invokevirtual 237, 3) := by decide +kernel
theorem dX9_axle_16 : decode cX9_axle 16 = .ok (.ireturn, 1) := by decide +kernel
theorem dX9_faultAt_0 : decode cX9_faultAt 0 = .ok (.aload_n 0, 1) := by decide +kernel
theorem dX9_faultAt_1 : decode cX9_faultAt 1 = .ok (.iload_n 1, 1) := by decide +kernel
theorem dX9_faultAt_2 : decode cX9_faultAt 2 = .ok (.invokevirtual 133, 3) := by decide +kernel
theorem dX9_faultAt_5 : decode cX9_faultAt 5 = .ok (.iload_n 2, 1) := by decide +kernel
theorem dX9_faultAt_6 : decode cX9_faultAt 6 = .ok (.invokevirtual 200, 3) := by decide +kernel
theorem dX9_faultAt_9 : decode cX9_faultAt 9 = .ok (.astore 4, 2) := by decide +kernel
theorem dX9_faultAt_11 : decode cX9_faultAt 11 = .ok (.iload_n 3, 1) := by decide +kernel
theorem dX9_faultAt_12 : decode cX9_faultAt 12 = .ok (.tableswitch 56 0 3 #[32, 38, 44, 50], 32) := by decide +kernel
theorem dX9_faultAt_44 : decode cX9_faultAt 44 = .ok (.aload 4, 2) := by decide +kernel
theorem dX9_faultAt_46 : decode cX9_faultAt 46 = .ok (.getfield 204, 3) := by decide +kernel
theorem dX9_faultAt_49 : decode cX9_faultAt 49 = .ok (.ireturn, 1) := by decide +kernel
theorem dX9_faultAt_50 : decode cX9_faultAt 50 = .ok (.aload 4, 2) := by decide +kernel
theorem dX9_faultAt_52 : decode cX9_faultAt 52 = .ok (.getfield 240, 3) := by decide +kernel
theorem dX9_faultAt_55 : decode cX9_faultAt 55 = .ok (.ireturn, 1) := by decide +kernel
theorem dX9_faultAt_56 : decode cX9_faultAt 56 = .ok (.aload 4, 2) := by decide +kernel
theorem dX9_faultAt_58 : decode cX9_faultAt 58 = .ok (.getfield 243, 3) := by decide +kernel
theorem dX9_faultAt_61 : decode cX9_faultAt 61 = .ok (.ireturn, 1) := by decide +kernel
theorem dX9_faultAt_62 : decode cX9_faultAt 62 = .ok (.aload 4, 2) := by decide +kernel
theorem dX9_faultAt_64 : decode cX9_faultAt 64 = .ok (.getfield 246, 3) := by decide +kernel
theorem dX9_faultAt_67 : decode cX9_faultAt 67 = .ok (.ireturn, 1) := by decide +kernel
theorem dX9_faultAt_68 : decode cX9_faultAt 68 = .ok (.new 226, 3) := by decide +kernel
theorem dX9_faultAt_71 : decode cX9_faultAt 71 = .ok (.dup, 1) := by decide +kernel
theorem dX9_faultAt_72 : decode cX9_faultAt 72 = .ok (.ldc 249, 2) := by decide +kernel
theorem dX9_faultAt_74 : decode cX9_faultAt 74 = .ok (.invokespecial 230, 3) := by decide +kernel
theorem dX9_faultAt_77 : decode cX9_faultAt 77 = .ok (.athrow, 1) := by decide +kernel
theorem dX9_stands_0 : decode cX9_stands 0 = .ok (.aload_n 0, 1) := by decide +kernel
theorem dX9_stands_1 : decode cX9_stands 1 = .ok (.iload_n 1, 1) := by decide +kernel
theorem dX9_stands_2 : decode cX9_stands 2 = .ok (.invokevirtual 61, 3) := by decide +kernel
theorem dX9_stands_5 : decode cX9_stands 5 = .ok (.astore_n 3, 1) := by decide +kernel
theorem dX9_stands_6 : decode cX9_stands 6 = .ok (.iload_n 2, 1) := by decide +kernel
theorem dX9_stands_7 : decode cX9_stands 7 = .ok (.ifCond .ge 13, 3) := by decide +kernel
theorem dX9_stands_10 : decode cX9_stands 10 = .ok (.new 251, 3) := by decide +kernel
theorem dX9_stands_13 : decode cX9_stands 13 = .ok (.dup, 1) := by decide +kernel
theorem dX9_stands_14 : decode cX9_stands 14 = .ok (.ldc 253, 2) := by decide +kernel
theorem dX9_stands_16 : decode cX9_stands 16 = .ok (.invokespecial 255, 3) := by decide +kernel
theorem dX9_stands_19 : decode cX9_stands 19 = .ok (.athrow, 1) := by decide +kernel
theorem dX9_stands_20 : decode cX9_stands 20 = .ok (.aload_n 3, 1) := by decide +kernel
theorem dX9_stands_21 : decode cX9_stands 21 = .ok (.iload_n 2, 1) := by decide +kernel
theorem dX9_stands_22 : decode cX9_stands 22 = .ok (.invokevirtual 256, 3) := by decide +kernel
theorem dX9_stands_25 : decode cX9_stands 25 = .ok (.ireturn, 1) := by decide +kernel
theorem dX9_shunts_0 : decode cX9_shunts 0 = .ok (.aload_n 0, 1) := by decide +kernel
theorem dX9_shunts_1 : decode cX9_shunts 1 = .ok (.getfield 50, 3) := by decide +kernel
theorem dX9_shunts_4 : decode cX9_shunts 4 = .ok (.ireturn, 1) := by decide +kernel
theorem dX9_ran_0 : decode cX9_ran 0 = .ok (.iload_n 1, 1) := by decide +kernel
theorem dX9_ran_1 : decode cX9_ran 1 = .ok (.aload_n 0, 1) := by decide +kernel
theorem dX9_ran_2 : decode cX9_ran 2 = .ok (.getfield 16, 3) := by decide +kernel
theorem dX9_ran_5 : decode cX9_ran 5 = .ok (.invokevirtual 70, 3) := by decide +kernel
theorem dX9_ran_8 : decode cX9_ran 8 = .ok (.invokestatic 94, 3) := by decide +kernel
theorem dX9_ran_11 : decode cX9_ran 11 = .ok (.iload_n 2, 1) := by decide +kernel
theorem dX9_ran_12 : decode cX9_ran 12 = .ok (.iconst 0, 1) := by decide +kernel
theorem dX9_ran_13 : decode cX9_ran 13 = .ok (.aload_n 0, 1) := by decide +kernel
theorem dX9_ran_14 : decode cX9_ran 14 = .ok (.getfield 46, 3) := by decide +kernel
theorem dX9_ran_17 : decode cX9_ran 17 = .ok (.iconst 1, 1) := by decide +kernel
theorem dX9_ran_18 : decode cX9_ran 18 = .ok (.isub, 1) := by decide +kernel
theorem dX9_ran_19 : decode cX9_ran 19 = .ok (.invokestatic 66, 3) := by decide +kernel
theorem dX9_ran_22 : decode cX9_ran 22 = .ok (.aload_n 0, 1) := by decide +kernel
theorem dX9_ran_23 : decode cX9_ran 23 = .ok (.getfield 42, 3) := by decide +kernel
theorem dX9_ran_26 : decode cX9_ran 26 = .ok (.iload_n 1, 1) := by decide +kernel
theorem dX9_ran_27 : decode cX9_ran 27 = .ok (.iload_n 2, 1) := by decide +kernel
theorem dX9_ran_28 : decode cX9_ran 28 = .ok (.invokevirtual 259, 3) := by decide +kernel
theorem dX9_ran_31 : decode cX9_ran 31 = .ok (.ireturn, 1) := by decide +kernel
theorem dX9_kmAnew_0 : decode cX9_kmAnew 0 = .ok (.aload_n 0, 1) := by decide +kernel
theorem dX9_kmAnew_1 : decode cX9_kmAnew 1 = .ok (.iload_n 1, 1) := by decide +kernel
theorem dX9_kmAnew_2 : decode cX9_kmAnew 2 = .ok (.invokevirtual 133, 3) := by decide +kernel
theorem dX9_kmAnew_5 : decode cX9_kmAnew 5 = .ok (.getfield 263, 3) := by decide +kernel
theorem dX9_kmAnew_8 : decode cX9_kmAnew 8 = .ok (.istore_n 2, 1) := by decide +kernel
theorem dX9_kmAnew_9 : decode cX9_kmAnew 9 = .ok (.iconst 0, 1) := by decide +kernel
theorem dX9_kmAnew_10 : decode cX9_kmAnew 10 = .ok (.istore_n 3, 1) := by decide +kernel
theorem dX9_kmAnew_11 : decode cX9_kmAnew 11 = .ok (.iload_n 3, 1) := by decide +kernel
theorem dX9_kmAnew_12 : decode cX9_kmAnew 12 = .ok (.aload_n 0, 1) := by decide +kernel
theorem dX9_kmAnew_13 : decode cX9_kmAnew 13 = .ok (.getfield 16, 3) := by decide +kernel
theorem dX9_kmAnew_16 : decode cX9_kmAnew 16 = .ok (.invokevirtual 70, 3) := by decide +kernel
theorem dX9_kmAnew_19 : decode cX9_kmAnew 19 = .ok (.if_icmp .ge 30, 3) := by decide +kernel
theorem dX9_kmAnew_22 : decode cX9_kmAnew 22 = .ok (.iload_n 2, 1) := by decide +kernel
theorem dX9_kmAnew_23 : decode cX9_kmAnew 23 = .ok (.aload_n 0, 1) := by decide +kernel
theorem dX9_kmAnew_24 : decode cX9_kmAnew 24 = .ok (.iload_n 3, 1) := by decide +kernel
theorem dX9_kmAnew_25 : decode cX9_kmAnew 25 = .ok (.invokevirtual 147, 3) := by decide +kernel
theorem dX9_kmAnew_28 : decode cX9_kmAnew 28 = .ok (.getfield 266, 3) := by decide +kernel
theorem dX9_kmAnew_31 : decode cX9_kmAnew 31 = .ok (.aload_n 0, 1) := by decide +kernel
theorem dX9_kmAnew_32 : decode cX9_kmAnew 32 = .ok (.getfield 42, 3) := by decide +kernel
theorem dX9_kmAnew_35 : decode cX9_kmAnew 35 = .ok (.iload_n 3, 1) := by decide +kernel
theorem dX9_kmAnew_36 : decode cX9_kmAnew 36 = .ok (.iload_n 1, 1) := by decide +kernel
theorem dX9_kmAnew_37 : decode cX9_kmAnew 37 = .ok (.invokevirtual 267, 3) := by decide +kernel
theorem dX9_kmAnew_40 : decode cX9_kmAnew 40 = .ok (.imul, 1) := by decide +kernel
theorem dX9_kmAnew_41 : decode cX9_kmAnew 41 = .ok (.iadd, 1) := by decide +kernel
theorem dX9_kmAnew_42 : decode cX9_kmAnew 42 = .ok (.istore_n 2, 1) := by decide +kernel
theorem dX9_kmAnew_43 : decode cX9_kmAnew 43 = .ok (.iinc 3 1, 3) := by decide +kernel
theorem dX9_kmAnew_46 : decode cX9_kmAnew 46 = .ok (.goto (-35), 3) := by decide +kernel
theorem dX9_kmAnew_49 : decode cX9_kmAnew 49 = .ok (.iload_n 2, 1) := by decide +kernel
theorem dX9_kmAnew_50 : decode cX9_kmAnew 50 = .ok (.ireturn, 1) := by decide +kernel
theorem dX9_checkNumber_0 : decode cX9_checkNumber 0 = .ok (.iload_n 0, 1) := by decide +kernel
theorem dX9_checkNumber_1 : decode cX9_checkNumber 1 = .ok (.ifCond .lt 8, 3) := by decide +kernel
theorem dX9_checkNumber_4 : decode cX9_checkNumber 4 = .ok (.iload_n 0, 1) := by decide +kernel
theorem dX9_checkNumber_5 : decode cX9_checkNumber 5 = .ok (.iload_n 1, 1) := by decide +kernel
theorem dX9_checkNumber_6 : decode cX9_checkNumber 6 = .ok (.if_icmp .lt 14, 3) := by decide +kernel
theorem dX9_checkNumber_9 : decode cX9_checkNumber 9 = .ok (.new 251, 3) := by decide +kernel
theorem dX9_checkNumber_12 : decode cX9_checkNumber 12 = .ok (.dup, 1) := by decide +kernel
theorem dX9_checkNumber_13 : decode cX9_checkNumber 13 = .ok (.ldc_w 270, 3) := by decide +kernel
theorem dX9_checkNumber_16 : decode cX9_checkNumber 16 = .ok (.invokespecial 255, 3) := by decide +kernel
theorem dX9_checkNumber_19 : decode cX9_checkNumber 19 = .ok (.athrow, 1) := by decide +kernel
theorem dX9_checkNumber_20 : decode cX9_checkNumber 20 = .ok (.return_, 1) := by decide +kernel
theorem dX9_checkRange_0 : decode cX9_checkRange 0 = .ok (.iload_n 0, 1) := by decide +kernel
theorem dX9_checkRange_1 : decode cX9_checkRange 1 = .ok (.iload_n 1, 1) := by decide +kernel
theorem dX9_checkRange_2 : decode cX9_checkRange 2 = .ok (.if_icmp .lt 8, 3) := by decide +kernel
theorem dX9_checkRange_5 : decode cX9_checkRange 5 = .ok (.iload_n 0, 1) := by decide +kernel
theorem dX9_checkRange_6 : decode cX9_checkRange 6 = .ok (.iload_n 2, 1) := by decide +kernel
theorem dX9_checkRange_7 : decode cX9_checkRange 7 = .ok (.if_icmp .le 14, 3) := by decide +kernel
theorem dX9_checkRange_10 : decode cX9_checkRange 10 = .ok (.new 226, 3) := by decide +kernel
theorem dX9_checkRange_13 : decode cX9_checkRange 13 = .ok (.dup, 1) := by decide +kernel
theorem dX9_checkRange_14 : decode cX9_checkRange 14 = .ok (.ldc_w 272, 3) := by decide +kernel
theorem dX9_checkRange_17 : decode cX9_checkRange 17 = .ok (.invokespecial 230, 3) := by decide +kernel
theorem dX9_checkRange_20 : decode cX9_checkRange 20 = .ok (.athrow, 1) := by decide +kernel
theorem dX9_checkRange_21 : decode cX9_checkRange 21 = .ok (.return_, 1) := by decide +kernel
theorem dX9_unitAt_0 : decode cX9_unitAt 0 = .ok (.iload_n 1, 1) := by decide +kernel
theorem dX9_unitAt_1 : decode cX9_unitAt 1 = .ok (.ifCond .lt 28, 3) := by decide +kernel
theorem dX9_unitAt_4 : decode cX9_unitAt 4 = .ok (.iload_n 1, 1) := by decide +kernel
theorem dX9_unitAt_5 : decode cX9_unitAt 5 = .ok (.aload_n 0, 1) := by decide +kernel
theorem dX9_unitAt_6 : decode cX9_unitAt 6 = .ok (.getfield 10, 3) := by decide +kernel
theorem dX9_unitAt_9 : decode cX9_unitAt 9 = .ok (.invokevirtual 70, 3) := by decide +kernel
theorem dX9_unitAt_12 : decode cX9_unitAt 12 = .ok (.if_icmp .ge 17, 3) := by decide +kernel
theorem dX9_unitAt_15 : decode cX9_unitAt 15 = .ok (.aload_n 0, 1) := by decide +kernel
theorem dX9_unitAt_16 : decode cX9_unitAt 16 = .ok (.getfield 10, 3) := by decide +kernel
theorem dX9_unitAt_19 : decode cX9_unitAt 19 = .ok (.iload_n 1, 1) := by decide +kernel
theorem dX9_unitAt_20 : decode cX9_unitAt 20 = .ok (.invokevirtual 274, 3) := by decide +kernel
theorem dX9_unitAt_23 : decode cX9_unitAt 23 = .ok (.checkcast 81, 3) := by decide +kernel
theorem dX9_unitAt_26 : decode cX9_unitAt 26 = .ok (.goto 4, 3) := by decide +kernel
theorem dX9_unitAt_29 : decode cX9_unitAt 29 = .ok (.aconst_null, 1) := by decide +kernel
theorem dX9_unitAt_30 : decode cX9_unitAt 30 = .ok (.astore_n 2, 1) := by decide +kernel
theorem dX9_unitAt_31 : decode cX9_unitAt 31 = .ok (.aload_n 2, 1) := by decide +kernel
theorem dX9_unitAt_32 : decode cX9_unitAt 32 = .ok (.ifnonnull 14, 3) := by decide +kernel
theorem dX9_unitAt_35 : decode cX9_unitAt 35 = .ok (.new 251, 3) := by decide +kernel
theorem dX9_unitAt_38 : decode cX9_unitAt 38 = .ok (.dup, 1) := by decide +kernel
theorem dX9_unitAt_39 : decode cX9_unitAt 39 = .ok (.ldc_w 278, 3) := by decide +kernel
theorem dX9_unitAt_42 : decode cX9_unitAt 42 = .ok (.invokespecial 255, 3) := by decide +kernel
theorem dX9_unitAt_45 : decode cX9_unitAt 45 = .ok (.athrow, 1) := by decide +kernel
theorem dX9_unitAt_46 : decode cX9_unitAt 46 = .ok (.aload_n 2, 1) := by decide +kernel
theorem dX9_unitAt_47 : decode cX9_unitAt 47 = .ok (.areturn, 1) := by decide +kernel
theorem dX9_diagramAt_0 : decode cX9_diagramAt 0 = .ok (.iload_n 1, 1) := by decide +kernel
theorem dX9_diagramAt_1 : decode cX9_diagramAt 1 = .ok (.ifCond .lt 28, 3) := by decide +kernel
theorem dX9_diagramAt_4 : decode cX9_diagramAt 4 = .ok (.iload_n 1, 1) := by decide +kernel
theorem dX9_diagramAt_5 : decode cX9_diagramAt 5 = .ok (.aload_n 0, 1) := by decide +kernel
theorem dX9_diagramAt_6 : decode cX9_diagramAt 6 = .ok (.getfield 16, 3) := by decide +kernel
theorem dX9_diagramAt_9 : decode cX9_diagramAt 9 = .ok (.invokevirtual 70, 3) := by decide +kernel
theorem dX9_diagramAt_12 : decode cX9_diagramAt 12 = .ok (.if_icmp .ge 17, 3) := by decide +kernel
theorem dX9_diagramAt_15 : decode cX9_diagramAt 15 = .ok (.aload_n 0, 1) := by decide +kernel
theorem dX9_diagramAt_16 : decode cX9_diagramAt 16 = .ok (.getfield 16, 3) := by decide +kernel
theorem dX9_diagramAt_19 : decode cX9_diagramAt 19 = .ok (.iload_n 1, 1) := by decide +kernel
theorem dX9_diagramAt_20 : decode cX9_diagramAt 20 = .ok (.invokevirtual 274, 3) := by decide +kernel
theorem dX9_diagramAt_23 : decode cX9_diagramAt 23 = .ok (.checkcast 99, 3) := by decide +kernel
theorem dX9_diagramAt_26 : decode cX9_diagramAt 26 = .ok (.goto 4, 3) := by decide +kernel
theorem dX9_diagramAt_29 : decode cX9_diagramAt 29 = .ok (.aconst_null, 1) := by decide +kernel
theorem dX9_diagramAt_30 : decode cX9_diagramAt 30 = .ok (.astore_n 2, 1) := by decide +kernel
theorem dX9_diagramAt_31 : decode cX9_diagramAt 31 = .ok (.aload_n 2, 1) := by decide +kernel
theorem dX9_diagramAt_32 : decode cX9_diagramAt 32 = .ok (.ifnonnull 14, 3) := by decide +kernel
theorem dX9_diagramAt_35 : decode cX9_diagramAt 35 = .ok (.new 251, 3) := by decide +kernel
theorem dX9_diagramAt_38 : decode cX9_diagramAt 38 = .ok (.dup, 1) := by decide +kernel
theorem dX9_diagramAt_39 : decode cX9_diagramAt 39 = .ok (.ldc_w 280, 3) := by decide +kernel
theorem dX9_diagramAt_42 : decode cX9_diagramAt 42 = .ok (.invokespecial 255, 3) := by decide +kernel
theorem dX9_diagramAt_45 : decode cX9_diagramAt 45 = .ok (.athrow, 1) := by decide +kernel
theorem dX9_diagramAt_46 : decode cX9_diagramAt 46 = .ok (.aload_n 2, 1) := by decide +kernel
theorem dX9_diagramAt_47 : decode cX9_diagramAt 47 = .ok (.areturn, 1) := by decide +kernel
theorem dX9_rowAt_0 : decode cX9_rowAt 0 = .ok (.iload_n 1, 1) := by decide +kernel
theorem dX9_rowAt_1 : decode cX9_rowAt 1 = .ok (.ifCond .lt 21, 3) := by decide +kernel
theorem dX9_rowAt_4 : decode cX9_rowAt 4 = .ok (.iload_n 1, 1) := by decide +kernel
theorem dX9_rowAt_5 : decode cX9_rowAt 5 = .ok (.aload_n 0, 1) := by decide +kernel
theorem dX9_rowAt_6 : decode cX9_rowAt 6 = .ok (.getfield 21, 3) := by decide +kernel
theorem dX9_rowAt_9 : decode cX9_rowAt 9 = .ok (.arraylength, 1) := by decide +kernel
theorem dX9_rowAt_10 : decode cX9_rowAt 10 = .ok (.if_icmp .ge 12, 3) := by decide +kernel
theorem dX9_rowAt_13 : decode cX9_rowAt 13 = .ok (.aload_n 0, 1) := by decide +kernel
theorem dX9_rowAt_14 : decode cX9_rowAt 14 = .ok (.getfield 21, 3) := by decide +kernel
theorem dX9_rowAt_17 : decode cX9_rowAt 17 = .ok (.iload_n 1, 1) := by decide +kernel
theorem dX9_rowAt_18 : decode cX9_rowAt 18 = .ok (.aaload, 1) := by decide +kernel
theorem dX9_rowAt_19 : decode cX9_rowAt 19 = .ok (.goto 4, 3) := by decide +kernel
theorem dX9_rowAt_22 : decode cX9_rowAt 22 = .ok (.aconst_null, 1) := by decide +kernel
theorem dX9_rowAt_23 : decode cX9_rowAt 23 = .ok (.astore_n 2, 1) := by decide +kernel
theorem dX9_rowAt_24 : decode cX9_rowAt 24 = .ok (.aload_n 2, 1) := by decide +kernel
theorem dX9_rowAt_25 : decode cX9_rowAt 25 = .ok (.ifnonnull 14, 3) := by decide +kernel
theorem dX9_rowAt_28 : decode cX9_rowAt 28 = .ok (.new 251, 3) := by decide +kernel
theorem dX9_rowAt_31 : decode cX9_rowAt 31 = .ok (.dup, 1) := by decide +kernel
theorem dX9_rowAt_32 : decode cX9_rowAt 32 = .ok (.ldc_w 282, 3) := by decide +kernel
theorem dX9_rowAt_35 : decode cX9_rowAt 35 = .ok (.invokespecial 255, 3) := by decide +kernel
theorem dX9_rowAt_38 : decode cX9_rowAt 38 = .ok (.athrow, 1) := by decide +kernel
theorem dX9_rowAt_39 : decode cX9_rowAt 39 = .ok (.aload_n 2, 1) := by decide +kernel
theorem dX9_rowAt_40 : decode cX9_rowAt 40 = .ok (.areturn, 1) := by decide +kernel
theorem dX9_readMorning_0 : decode cX9_readMorning 0 = .ok (.aload_n 0, 1) := by decide +kernel
theorem dX9_readMorning_1 : decode cX9_readMorning 1 = .ok (.getfield 35, 3) := by decide +kernel
theorem dX9_readMorning_4 : decode cX9_readMorning 4 = .ok (.aload_n 0, 1) := by decide +kernel
theorem dX9_readMorning_5 : decode cX9_readMorning 5 = .ok (.getfield 10, 3) := by decide +kernel
theorem dX9_readMorning_8 : decode cX9_readMorning 8 = .ok (.invokevirtual 70, 3) := by decide +kernel
theorem dX9_readMorning_11 : decode cX9_readMorning 11 = .ok (.invokevirtual 284, 3) := by decide +kernel
theorem dX9_readMorning_14 : decode cX9_readMorning 14 = .ok (.iconst 0, 1) := by decide +kernel
theorem dX9_readMorning_15 : decode cX9_readMorning 15 = .ok (.istore_n 1, 1) := by decide +kernel
theorem dX9_readMorning_16 : decode cX9_readMorning 16 = .ok (.iload_n 1, 1) := by decide +kernel
theorem dX9_readMorning_17 : decode cX9_readMorning 17 = .ok (.aload_n 0, 1) := by decide +kernel
theorem dX9_readMorning_18 : decode cX9_readMorning 18 = .ok (.getfield 16, 3) := by decide +kernel
theorem dX9_readMorning_21 : decode cX9_readMorning 21 = .ok (.invokevirtual 70, 3) := by decide +kernel
theorem dX9_readMorning_24 : decode cX9_readMorning 24 = .ok (.if_icmp .ge 124, 3) := by decide +kernel
theorem dX9_readMorning_27 : decode cX9_readMorning 27 = .ok (.aload_n 0, 1) := by decide +kernel
theorem dX9_readMorning_28 : decode cX9_readMorning 28 = .ok (.iload_n 1, 1) := by decide +kernel
theorem dX9_readMorning_29 : decode cX9_readMorning 29 = .ok (.invokevirtual 147, 3) := by decide +kernel
theorem dX9_readMorning_32 : decode cX9_readMorning 32 = .ok (.astore_n 2, 1) := by decide +kernel
theorem dX9_readMorning_33 : decode cX9_readMorning 33 = .ok (.iconst 0, 1) := by decide +kernel
theorem dX9_readMorning_34 : decode cX9_readMorning 34 = .ok (.istore_n 3, 1) := by decide +kernel
theorem dX9_readMorning_35 : decode cX9_readMorning 35 = .ok (.iconst 0, 1) := by decide +kernel
theorem dX9_readMorning_36 : decode cX9_readMorning 36 = .ok (.istore 4, 2) := by decide +kernel
theorem dX9_readMorning_38 : decode cX9_readMorning 38 = .ok (.iconst 0, 1) := by decide +kernel
theorem dX9_readMorning_39 : decode cX9_readMorning 39 = .ok (.istore 5, 2) := by decide +kernel
theorem dX9_readMorning_41 : decode cX9_readMorning 41 = .ok (.iload 5, 2) := by decide +kernel
theorem dX9_readMorning_43 : decode cX9_readMorning 43 = .ok (.aload_n 0, 1) := by decide +kernel
theorem dX9_readMorning_44 : decode cX9_readMorning 44 = .ok (.getfield 10, 3) := by decide +kernel
theorem dX9_readMorning_47 : decode cX9_readMorning 47 = .ok (.invokevirtual 70, 3) := by decide +kernel
theorem dX9_readMorning_50 : decode cX9_readMorning 50 = .ok (.if_icmp .ge 78, 3) := by decide +kernel
theorem dX9_readMorning_53 : decode cX9_readMorning 53 = .ok (.aload_n 0, 1) := by decide +kernel
theorem dX9_readMorning_54 : decode cX9_readMorning 54 = .ok (.iload 5, 2) := by decide +kernel
theorem dX9_readMorning_56 : decode cX9_readMorning 56 = .ok (.invokevirtual 133, 3) := by decide +kernel
theorem dX9_readMorning_59 : decode cX9_readMorning 59 = .ok (.astore 6, 2) := by decide +kernel
theorem dX9_readMorning_61 : decode cX9_readMorning 61 = .ok (.aload_n 2, 1) := by decide +kernel
theorem dX9_readMorning_62 : decode cX9_readMorning 62 = .ok (.iload 5, 2) := by decide +kernel
theorem dX9_readMorning_64 : decode cX9_readMorning 64 = .ok (.invokevirtual 287, 3) := by decide +kernel
theorem dX9_readMorning_67 : decode cX9_readMorning 67 = .ok (.ifCond .eq 27, 3) := by decide +kernel
theorem dX9_readMorning_70 : decode cX9_readMorning 70 = .ok (.aload_n 0, 1) := by decide +kernel
theorem dX9_readMorning_71 : decode cX9_readMorning 71 = .ok (.getfield 28, 3) := by decide +kernel
theorem dX9_readMorning_74 : decode cX9_readMorning 74 = .ok (.aload 6, 2) := by decide +kernel
theorem dX9_readMorning_76 : decode cX9_readMorning 76 = .ok (.aload_n 2, 1) := by decide +kernel
theorem dX9_readMorning_77 : decode cX9_readMorning 77 = .ok (.aload_n 0, 1) := by decide +kernel
theorem dX9_readMorning_78 : decode cX9_readMorning 78 = .ok (.getfield 46, 3) := by decide +kernel
theorem dX9_readMorning_81 : decode cX9_readMorning 81 = .ok (.invokevirtual 154, 3) := by decide +kernel
theorem dX9_readMorning_84 : decode cX9_readMorning 84 = .ok (.ifCond .ne 10, 3) := by decide +kernel
theorem dX9_readMorning_87 : decode cX9_readMorning 87 = .ok (.iload_n 3, 1) := by decide +kernel
theorem dX9_readMorning_88 : decode cX9_readMorning 88 = .ok (.iconst 1, 1) := by decide +kernel
theorem dX9_readMorning_89 : decode cX9_readMorning 89 = .ok (.iload 5, 2) := by decide +kernel
theorem dX9_readMorning_91 : decode cX9_readMorning 91 = .ok (.ishl, 1) := by decide +kernel
theorem dX9_readMorning_92 : decode cX9_readMorning 92 = .ok (.ior, 1) := by decide +kernel
theorem dX9_readMorning_93 : decode cX9_readMorning 93 = .ok (.istore_n 3, 1) := by decide +kernel
theorem dX9_readMorning_94 : decode cX9_readMorning 94 = .ok (.aload_n 2, 1) := by decide +kernel
theorem dX9_readMorning_95 : decode cX9_readMorning 95 = .ok (.getfield 291, 3) := by decide +kernel
theorem dX9_readMorning_98 : decode cX9_readMorning 98 = .ok (.ifCond .ne 24, 3) := by decide +kernel
theorem dX9_readMorning_101 : decode cX9_readMorning 101 = .ok (.aload_n 0, 1) := by decide +kernel
theorem dX9_readMorning_102 : decode cX9_readMorning 102 = .ok (.getfield 28, 3) := by decide +kernel
theorem dX9_readMorning_105 : decode cX9_readMorning 105 = .ok (.aload 6, 2) := by decide +kernel
theorem dX9_readMorning_107 : decode cX9_readMorning 107 = .ok (.invokevirtual 218, 3) := by decide +kernel
theorem dX9_readMorning_110 : decode cX9_readMorning 110 = .ok (.ifCond .eq 12, 3) := by decide +kernel
theorem dX9_readMorning_113 : decode cX9_readMorning 113 = .ok (.iload 4, 2) := by decide +kernel
theorem dX9_readMorning_115 : decode cX9_readMorning 115 = .ok (.iconst 1, 1) := by decide +kernel
theorem dX9_readMorning_116 : decode cX9_readMorning 116 = .ok (.iload 5, 2) := by decide +kernel
theorem dX9_readMorning_118 : decode cX9_readMorning 118 = .ok (.ishl, 1) := by decide +kernel
theorem dX9_readMorning_119 : decode cX9_readMorning 119 = .ok (.ior, 1) := by decide +kernel
theorem dX9_readMorning_120 : decode cX9_readMorning 120 = .ok (.istore 4, 2) := by decide +kernel
theorem dX9_readMorning_122 : decode cX9_readMorning 122 = .ok (.iinc 5 1, 3) := by decide +kernel
theorem dX9_readMorning_125 : decode cX9_readMorning 125 = .ok (.goto (-84), 3) := by decide +kernel
theorem dX9_readMorning_128 : decode cX9_readMorning 128 = .ok (.aload_n 0, 1) := by decide +kernel
theorem dX9_readMorning_129 : decode cX9_readMorning 129 = .ok (.getfield 35, 3) := by decide +kernel
theorem dX9_readMorning_132 : decode cX9_readMorning 132 = .ok (.aload_n 2, 1) := by decide +kernel
theorem dX9_readMorning_133 : decode cX9_readMorning 133 = .ok (.getfield 294, 3) := by decide +kernel
theorem dX9_readMorning_136 : decode cX9_readMorning 136 = .ok (.iload_n 3, 1) := by decide +kernel
theorem dX9_readMorning_137 : decode cX9_readMorning 137 = .ok (.iload 4, 2) := by decide +kernel
theorem dX9_readMorning_139 : decode cX9_readMorning 139 = .ok (.invokevirtual 297, 3) := by decide +kernel
theorem dX9_readMorning_142 : decode cX9_readMorning 142 = .ok (.iinc 1 1, 3) := by decide +kernel
theorem dX9_readMorning_145 : decode cX9_readMorning 145 = .ok (.goto (-129), 3) := by decide +kernel
theorem dX9_readMorning_148 : decode cX9_readMorning 148 = .ok (.return_, 1) := by decide +kernel
theorem dX9_leaveRows_0 : decode cX9_leaveRows 0 = .ok (.iconst 0, 1) := by decide +kernel
theorem dX9_leaveRows_1 : decode cX9_leaveRows 1 = .ok (.istore_n 1, 1) := by decide +kernel
theorem dX9_leaveRows_2 : decode cX9_leaveRows 2 = .ok (.iload_n 1, 1) := by decide +kernel
theorem dX9_leaveRows_3 : decode cX9_leaveRows 3 = .ok (.aload_n 0, 1) := by decide +kernel
theorem dX9_leaveRows_4 : decode cX9_leaveRows 4 = .ok (.getfield 16, 3) := by decide +kernel
theorem dX9_leaveRows_7 : decode cX9_leaveRows 7 = .ok (.invokevirtual 70, 3) := by decide +kernel
theorem dX9_leaveRows_10 : decode cX9_leaveRows 10 = .ok (.if_icmp .ge 68, 3) := by decide +kernel
theorem dX9_leaveRows_13 : decode cX9_leaveRows 13 = .ok (.aload_n 0, 1) := by decide +kernel
theorem dX9_leaveRows_14 : decode cX9_leaveRows 14 = .ok (.getfield 35, 3) := by decide +kernel
theorem dX9_leaveRows_17 : decode cX9_leaveRows 17 = .ok (.iload_n 1, 1) := by decide +kernel
theorem dX9_leaveRows_18 : decode cX9_leaveRows 18 = .ok (.invokevirtual 164, 3) := by decide +kernel
theorem dX9_leaveRows_21 : decode cX9_leaveRows 21 = .ok (.istore_n 2, 1) := by decide +kernel
theorem dX9_leaveRows_22 : decode cX9_leaveRows 22 = .ok (.aload_n 0, 1) := by decide +kernel
theorem dX9_leaveRows_23 : decode cX9_leaveRows 23 = .ok (.getfield 42, 3) := by decide +kernel
theorem dX9_leaveRows_26 : decode cX9_leaveRows 26 = .ok (.iload_n 1, 1) := by decide +kernel
theorem dX9_leaveRows_27 : decode cX9_leaveRows 27 = .ok (.aload_n 0, 1) := by decide +kernel
theorem dX9_leaveRows_28 : decode cX9_leaveRows 28 = .ok (.getfield 46, 3) := by decide +kernel
theorem dX9_leaveRows_31 : decode cX9_leaveRows 31 = .ok (.iload_n 2, 1) := by decide +kernel
theorem dX9_leaveRows_32 : decode cX9_leaveRows 32 = .ok (.invokevirtual 300, 3) := by decide +kernel
theorem dX9_leaveRows_35 : decode cX9_leaveRows 35 = .ok (.iload_n 2, 1) := by decide +kernel
theorem dX9_leaveRows_36 : decode cX9_leaveRows 36 = .ok (.iconst (-1), 1) := by decide +kernel
theorem dX9_leaveRows_37 : decode cX9_leaveRows 37 = .ok (.if_icmp .eq 35, 3) := by decide +kernel
theorem dX9_leaveRows_40 : decode cX9_leaveRows 40 = .ok (.aload_n 0, 1) := by decide +kernel
theorem dX9_leaveRows_41 : decode cX9_leaveRows 41 = .ok (.aload_n 0, 1) := by decide +kernel
theorem dX9_leaveRows_42 : decode cX9_leaveRows 42 = .ok (.iload_n 2, 1) := by decide +kernel
theorem dX9_leaveRows_43 : decode cX9_leaveRows 43 = .ok (.invokevirtual 133, 3) := by decide +kernel
theorem dX9_leaveRows_46 : decode cX9_leaveRows 46 = .ok (.getfield 187, 3) := by decide +kernel
theorem dX9_leaveRows_49 : decode cX9_leaveRows 49 = .ok (.invokevirtual 61, 3) := by decide +kernel
theorem dX9_leaveRows_52 : decode cX9_leaveRows 52 = .ok (.astore_n 3, 1) := by decide +kernel
theorem dX9_leaveRows_53 : decode cX9_leaveRows 53 = .ok (.aload_n 0, 1) := by decide +kernel
theorem dX9_leaveRows_54 : decode cX9_leaveRows 54 = .ok (.dup, 1) := by decide +kernel
theorem dX9_leaveRows_55 : decode cX9_leaveRows 55 = .ok (.getfield 50, 3) := by decide +kernel
theorem dX9_leaveRows_58 : decode cX9_leaveRows 58 = .ok (.aload_n 3, 1) := by decide +kernel
theorem dX9_leaveRows_59 : decode cX9_leaveRows 59 = .ok (.iload_n 2, 1) := by decide +kernel
theorem dX9_leaveRows_60 : decode cX9_leaveRows 60 = .ok (.invokevirtual 215, 3) := by decide +kernel
theorem dX9_leaveRows_63 : decode cX9_leaveRows 63 = .ok (.iadd, 1) := by decide +kernel
theorem dX9_leaveRows_64 : decode cX9_leaveRows 64 = .ok (.putfield 50, 3) := by decide +kernel
theorem dX9_leaveRows_67 : decode cX9_leaveRows 67 = .ok (.aload_n 3, 1) := by decide +kernel
theorem dX9_leaveRows_68 : decode cX9_leaveRows 68 = .ok (.iload_n 2, 1) := by decide +kernel
theorem dX9_leaveRows_69 : decode cX9_leaveRows 69 = .ok (.invokevirtual 303, 3) := by decide +kernel
theorem dX9_leaveRows_72 : decode cX9_leaveRows 72 = .ok (.iinc 1 1, 3) := by decide +kernel
theorem dX9_leaveRows_75 : decode cX9_leaveRows 75 = .ok (.goto (-73), 3) := by decide +kernel
theorem dX9_leaveRows_78 : decode cX9_leaveRows 78 = .ok (.return_, 1) := by decide +kernel
theorem dX9_comeToDepots_0 : decode cX9_comeToDepots 0 = .ok (.iconst 0, 1) := by decide +kernel
theorem dX9_comeToDepots_1 : decode cX9_comeToDepots 1 = .ok (.istore_n 1, 1) := by decide +kernel
theorem dX9_comeToDepots_2 : decode cX9_comeToDepots 2 = .ok (.iload_n 1, 1) := by decide +kernel
theorem dX9_comeToDepots_3 : decode cX9_comeToDepots 3 = .ok (.aload_n 0, 1) := by decide +kernel
theorem dX9_comeToDepots_4 : decode cX9_comeToDepots 4 = .ok (.getfield 16, 3) := by decide +kernel
theorem dX9_comeToDepots_7 : decode cX9_comeToDepots 7 = .ok (.invokevirtual 70, 3) := by decide +kernel
theorem dX9_comeToDepots_10 : decode cX9_comeToDepots 10 = .ok (.if_icmp .ge 66, 3) := by decide +kernel
theorem dX9_comeToDepots_13 : decode cX9_comeToDepots 13 = .ok (.aload_n 0, 1) := by decide +kernel
theorem dX9_comeToDepots_14 : decode cX9_comeToDepots 14 = .ok (.getfield 35, 3) := by decide +kernel
theorem dX9_comeToDepots_17 : decode cX9_comeToDepots 17 = .ok (.iload_n 1, 1) := by decide +kernel
theorem dX9_comeToDepots_18 : decode cX9_comeToDepots 18 = .ok (.invokevirtual 164, 3) := by decide +kernel
theorem dX9_comeToDepots_21 : decode cX9_comeToDepots 21 = .ok (.istore_n 2, 1) := by decide +kernel
theorem dX9_comeToDepots_22 : decode cX9_comeToDepots 22 = .ok (.iload_n 2, 1) := by decide +kernel
theorem dX9_comeToDepots_23 : decode cX9_comeToDepots 23 = .ok (.iconst (-1), 1) := by decide +kernel
theorem dX9_comeToDepots_24 : decode cX9_comeToDepots 24 = .ok (.if_icmp .eq 46, 3) := by decide +kernel
theorem dX9_comeToDepots_27 : decode cX9_comeToDepots 27 = .ok (.aload_n 0, 1) := by decide +kernel
theorem dX9_comeToDepots_28 : decode cX9_comeToDepots 28 = .ok (.iload_n 1, 1) := by decide +kernel
theorem dX9_comeToDepots_29 : decode cX9_comeToDepots 29 = .ok (.invokevirtual 147, 3) := by decide +kernel
theorem dX9_comeToDepots_32 : decode cX9_comeToDepots 32 = .ok (.astore_n 3, 1) := by decide +kernel
theorem dX9_comeToDepots_33 : decode cX9_comeToDepots 33 = .ok (.aload_n 0, 1) := by decide +kernel
theorem dX9_comeToDepots_34 : decode cX9_comeToDepots 34 = .ok (.iload_n 2, 1) := by decide +kernel
theorem dX9_comeToDepots_35 : decode cX9_comeToDepots 35 = .ok (.invokevirtual 133, 3) := by decide +kernel
theorem dX9_comeToDepots_38 : decode cX9_comeToDepots 38 = .ok (.astore 4, 2) := by decide +kernel
theorem dX9_comeToDepots_40 : decode cX9_comeToDepots 40 = .ok (.aload 4, 2) := by decide +kernel
theorem dX9_comeToDepots_42 : decode cX9_comeToDepots 42 = .ok (.aload_n 3, 1) := by decide +kernel
theorem dX9_comeToDepots_43 : decode cX9_comeToDepots 43 = .ok (.getfield 291, 3) := by decide +kernel
theorem dX9_comeToDepots_46 : decode cX9_comeToDepots 46 = .ok (.putfield 187, 3) := by decide +kernel
theorem dX9_comeToDepots_49 : decode cX9_comeToDepots 49 = .ok (.aload 4, 2) := by decide +kernel
theorem dX9_comeToDepots_51 : decode cX9_comeToDepots 51 = .ok (.aload_n 3, 1) := by decide +kernel
theorem dX9_comeToDepots_52 : decode cX9_comeToDepots 52 = .ok (.getfield 266, 3) := by decide +kernel
theorem dX9_comeToDepots_55 : decode cX9_comeToDepots 55 = .ok (.invokevirtual 306, 3) := by decide +kernel
theorem dX9_comeToDepots_58 : decode cX9_comeToDepots 58 = .ok (.aload_n 0, 1) := by decide +kernel
theorem dX9_comeToDepots_59 : decode cX9_comeToDepots 59 = .ok (.aload_n 3, 1) := by decide +kernel
theorem dX9_comeToDepots_60 : decode cX9_comeToDepots 60 = .ok (.getfield 291, 3) := by decide +kernel
theorem dX9_comeToDepots_63 : decode cX9_comeToDepots 63 = .ok (.invokevirtual 61, 3) := by decide +kernel
theorem dX9_comeToDepots_66 : decode cX9_comeToDepots 66 = .ok (.iload_n 2, 1) := by decide +kernel
theorem dX9_comeToDepots_67 : decode cX9_comeToDepots 67 = .ok (.invokevirtual 90, 3) := by decide +kernel
theorem dX9_comeToDepots_70 : decode cX9_comeToDepots 70 = .ok (.iinc 1 1, 3) := by decide +kernel
theorem dX9_comeToDepots_73 : decode cX9_comeToDepots 73 = .ok (.goto (-71), 3) := by decide +kernel
theorem dX9_comeToDepots_76 : decode cX9_comeToDepots 76 = .ok (.return_, 1) := by decide +kernel
theorem dJ9_max_7cf53_0 : decode cJ9_max_7cf53 0 = .ok (.iload_n 0, 1) := by decide +kernel
theorem dJ9_max_7cf53_1 : decode cJ9_max_7cf53 1 = .ok (.iload_n 1, 1) := by decide +kernel
theorem dJ9_max_7cf53_2 : decode cJ9_max_7cf53 2 = .ok (.if_icmp .lt 7, 3) := by decide +kernel
theorem dJ9_max_7cf53_5 : decode cJ9_max_7cf53 5 = .ok (.iload_n 0, 1) := by decide +kernel
theorem dJ9_max_7cf53_6 : decode cJ9_max_7cf53 6 = .ok (.goto 4, 3) := by decide +kernel
theorem dJ9_max_7cf53_9 : decode cJ9_max_7cf53 9 = .ok (.iload_n 1, 1) := by decide +kernel
theorem dJ9_max_7cf53_10 : decode cJ9_max_7cf53 10 = .ok (.ireturn, 1) := by decide +kernel
theorem dJ9_min_7cf53_0 : decode cJ9_min_7cf53 0 = .ok (.iload_n 0, 1) := by decide +kernel
theorem dJ9_min_7cf53_1 : decode cJ9_min_7cf53 1 = .ok (.iload_n 1, 1) := by decide +kernel
theorem dJ9_min_7cf53_2 : decode cJ9_min_7cf53 2 = .ok (.if_icmp .gt 7, 3) := by decide +kernel
theorem dJ9_min_7cf53_5 : decode cJ9_min_7cf53 5 = .ok (.iload_n 0, 1) := by decide +kernel
theorem dJ9_min_7cf53_6 : decode cJ9_min_7cf53 6 = .ok (.goto 4, 3) := by decide +kernel
theorem dJ9_min_7cf53_9 : decode cJ9_min_7cf53 9 = .ok (.iload_n 1, 1) := by decide +kernel
theorem dJ9_min_7cf53_10 : decode cJ9_min_7cf53 10 = .ok (.ireturn, 1) := by decide +kernel
theorem dJxa1e45_init_da8c8_0 : decode cJxa1e45_init_da8c8 0 = .ok (.aload_n 0, 1) := by decide +kernel
theorem dJxa1e45_init_da8c8_1 : decode cJxa1e45_init_da8c8 1 = .ok (.invokespecial 1, 3) := by decide +kernel
theorem dJxa1e45_init_da8c8_4 : decode cJxa1e45_init_da8c8 4 = .ok (.return_, 1) := by decide +kernel
theorem dJxc12de_init_da8c8_0 : decode cJxc12de_init_da8c8 0 = .ok (.aload_n 0, 1) := by decide +kernel
theorem dJxc12de_init_da8c8_1 : decode cJxc12de_init_da8c8 1 = .ok (.invokespecial 1, 3) := by decide +kernel
theorem dJxc12de_init_da8c8_4 : decode cJxc12de_init_da8c8 4 = .ok (.aload_n 0, 1) := by decide +kernel
theorem dJxc12de_init_da8c8_5 : decode cJxc12de_init_da8c8 5 = .ok (.iconst 0, 1) := by decide +kernel
theorem dJxc12de_init_da8c8_6 : decode cJxc12de_init_da8c8 6 = .ok (.putfield 7, 3) := by decide +kernel
theorem dJxc12de_init_da8c8_9 : decode cJxc12de_init_da8c8 9 = .ok (.return_, 1) := by decide +kernel
theorem dJx4a65c_init_da8c8_0 : decode cJx4a65c_init_da8c8 0 = .ok (.aload_n 0, 1) := by decide +kernel
theorem dJx4a65c_init_da8c8_1 : decode cJx4a65c_init_da8c8 1 = .ok (.invokespecial 1, 3) := by decide +kernel
theorem dJx4a65c_init_da8c8_4 : decode cJx4a65c_init_da8c8 4 = .ok (.aload_n 0, 1) := by decide +kernel
theorem dJx4a65c_init_da8c8_5 : decode cJx4a65c_init_da8c8 5 = .ok (.getstatic 39, 3) := by decide +kernel
theorem dJx4a65c_init_da8c8_8 : decode cJx4a65c_init_da8c8 8 = .ok (.putfield 9, 3) := by decide +kernel
theorem dJx4a65c_init_da8c8_11 : decode cJx4a65c_init_da8c8 11 = .ok (.return_, 1) := by decide +kernel
theorem dJx4a65c_grow_92f84_0 : decode cJx4a65c_grow_92f84 0 = .ok (.aload_n 0, 1) := by decide +kernel
theorem dJx4a65c_grow_92f84_1 : decode cJx4a65c_grow_92f84 1 = .ok (.getfield 9, 3) := by decide +kernel
theorem dJx4a65c_grow_92f84_4 : decode cJx4a65c_grow_92f84 4 = .ok (.arraylength, 1) := by decide +kernel
theorem dJx4a65c_grow_92f84_5 : decode cJx4a65c_grow_92f84 5 = .ok (.istore_n 2, 1) := by decide +kernel
theorem dJx4a65c_grow_92f84_6 : decode cJx4a65c_grow_92f84 6 = .ok (.iload_n 2, 1) := by decide +kernel
theorem dJx4a65c_grow_92f84_7 : decode cJx4a65c_grow_92f84 7 = .ok (.ifCond .gt 13, 3) := by decide +kernel
theorem dJx4a65c_grow_92f84_10 : decode cJx4a65c_grow_92f84 10 = .ok (.aload_n 0, 1) := by decide +kernel
theorem dJx4a65c_grow_92f84_11 : decode cJx4a65c_grow_92f84 11 = .ok (.getfield 9, 3) := by decide +kernel
theorem dJx4a65c_grow_92f84_14 : decode cJx4a65c_grow_92f84 14 = .ok (.getstatic 39, 3) := by decide +kernel
theorem dJx4a65c_grow_92f84_17 : decode cJx4a65c_grow_92f84 17 = .ok (.if_acmp .eq 28, 3) := by decide +kernel
theorem dJx4a65c_grow_92f84_20 : decode cJx4a65c_grow_92f84 20 = .ok (.iload_n 2, 1) := by decide +kernel
theorem dJx4a65c_grow_92f84_21 : decode cJx4a65c_grow_92f84 21 = .ok (.iload_n 1, 1) := by decide +kernel
theorem dJx4a65c_grow_92f84_22 : decode cJx4a65c_grow_92f84 22 = .ok (.iload_n 2, 1) := by decide +kernel
theorem dJx4a65c_grow_92f84_23 : decode cJx4a65c_grow_92f84 23 = .ok (.isub, 1) := by decide +kernel
theorem dJx4a65c_grow_92f84_24 : decode cJx4a65c_grow_92f84 24 = .ok (.iload_n 2, 1) := by decide +kernel
theorem dJx4a65c_grow_92f84_25 : decode cJx4a65c_grow_92f84 25 = .ok (.iconst 1, 1) := by decide +kernel
theorem dJx4a65c_grow_92f84_26 : decode cJx4a65c_grow_92f84 26 = .ok (.ishr, 1) := by decide +kernel
theorem dJx4a65c_grow_92f84_27 : decode cJx4a65c_grow_92f84 27 = .ok (.invokestatic 73, 3) := by decide +kernel
theorem dJx4a65c_grow_92f84_30 : decode cJx4a65c_grow_92f84 30 = .ok (.istore_n 3, 1) := by decide +kernel
theorem dJx4a65c_grow_92f84_31 : decode cJx4a65c_grow_92f84 31 = .ok (.aload_n 0, 1) := by decide +kernel
theorem dJx4a65c_grow_92f84_32 : decode cJx4a65c_grow_92f84 32 = .ok (.aload_n 0, 1) := by decide +kernel
theorem dJx4a65c_grow_92f84_33 : decode cJx4a65c_grow_92f84 33 = .ok (.getfield 9, 3) := by decide +kernel
theorem dJx4a65c_grow_92f84_36 : decode cJx4a65c_grow_92f84 36 = .ok (.iload_n 3, 1) := by decide +kernel
theorem dJx4a65c_grow_92f84_37 : decode cJx4a65c_grow_92f84 37 = .ok (.invokestatic 66, 3) := by decide +kernel
theorem dJx4a65c_grow_92f84_40 : decode cJx4a65c_grow_92f84 40 = .ok (.dup_x1, 1) := by decide +kernel
theorem dJx4a65c_grow_92f84_41 : decode cJx4a65c_grow_92f84 41 = .ok (.putfield 9, 3) := by decide +kernel
theorem dJx4a65c_grow_92f84_44 : decode cJx4a65c_grow_92f84 44 = .ok (.areturn, 1) := by decide +kernel
theorem dJx4a65c_grow_92f84_45 : decode cJx4a65c_grow_92f84 45 = .ok (.aload_n 0, 1) := by decide +kernel
theorem dJx4a65c_grow_92f84_46 : decode cJx4a65c_grow_92f84 46 = .ok (.bipush 10, 2) := by decide +kernel
theorem dJx4a65c_grow_92f84_48 : decode cJx4a65c_grow_92f84 48 = .ok (.iload_n 1, 1) := by decide +kernel
theorem dJx4a65c_grow_92f84_49 : decode cJx4a65c_grow_92f84 49 = .ok (.invokestatic 79, 3) := by decide +kernel
theorem dJx4a65c_grow_92f84_52 : decode cJx4a65c_grow_92f84 52 = .ok (.anewarray 7, 3) := by decide +kernel
theorem dJx4a65c_grow_92f84_55 : decode cJx4a65c_grow_92f84 55 = .ok (.dup_x1, 1) := by decide +kernel
theorem dJx4a65c_grow_92f84_56 : decode cJx4a65c_grow_92f84 56 = .ok (.putfield 9, 3) := by decide +kernel
theorem dJx4a65c_grow_92f84_59 : decode cJx4a65c_grow_92f84 59 = .ok (.areturn, 1) := by decide +kernel
theorem dJx4a65c_grow_d5877_0 : decode cJx4a65c_grow_d5877 0 = .ok (.aload_n 0, 1) := by decide +kernel
theorem dJx4a65c_grow_d5877_1 : decode cJx4a65c_grow_d5877 1 = .ok (.aload_n 0, 1) := by decide +kernel
theorem dJx4a65c_grow_d5877_2 : decode cJx4a65c_grow_d5877 2 = .ok (.getfield 48, 3) := by decide +kernel
theorem dJx4a65c_grow_d5877_5 : decode cJx4a65c_grow_d5877 5 = .ok (.iconst 1, 1) := by decide +kernel
theorem dJx4a65c_grow_d5877_6 : decode cJx4a65c_grow_d5877 6 = .ok (.iadd, 1) := by decide +kernel
theorem dJx4a65c_grow_d5877_7 : decode cJx4a65c_grow_d5877 7 = .ok (.invokevirtual 69, 3) := by decide +kernel
theorem dJx4a65c_grow_d5877_10 : decode cJx4a65c_grow_d5877 10 = .ok (.areturn, 1) := by decide +kernel
theorem dJx4a65c_size_8abf5_0 : decode cJx4a65c_size_8abf5 0 = .ok (.aload_n 0, 1) := by decide +kernel
theorem dJx4a65c_size_8abf5_1 : decode cJx4a65c_size_8abf5 1 = .ok (.getfield 48, 3) := by decide +kernel
theorem dJx4a65c_size_8abf5_4 : decode cJx4a65c_size_8abf5 4 = .ok (.ireturn, 1) := by decide +kernel
theorem dJx4a65c_elementData_915e3_0 : decode cJx4a65c_elementData_915e3 0 = .ok (.aload_n 0, 1) := by decide +kernel
theorem dJx4a65c_elementData_915e3_1 : decode cJx4a65c_elementData_915e3 1 = .ok (.getfield 9, 3) := by decide +kernel
theorem dJx4a65c_elementData_915e3_4 : decode cJx4a65c_elementData_915e3 4 = .ok (.iload_n 1, 1) := by decide +kernel
theorem dJx4a65c_elementData_915e3_5 : decode cJx4a65c_elementData_915e3 5 = .ok (.aaload, 1) := by decide +kernel
theorem dJx4a65c_elementData_915e3_6 : decode cJx4a65c_elementData_915e3 6 = .ok (.areturn, 1) := by decide +kernel
theorem dJx4a65c_get_915e3_0 : decode cJx4a65c_get_915e3 0 = .ok (.iload_n 1, 1) := by decide +kernel
theorem dJx4a65c_get_915e3_1 : decode cJx4a65c_get_915e3 1 = .ok (.aload_n 0, 1) := by decide +kernel
theorem dJx4a65c_get_915e3_2 : decode cJx4a65c_get_915e3 2 = .ok (.getfield 48, 3) := by decide +kernel
theorem dJx4a65c_get_915e3_5 : decode cJx4a65c_get_915e3 5 = .ok (.invokestatic 118, 3) := by decide +kernel
theorem dJx4a65c_get_915e3_8 : decode cJx4a65c_get_915e3 8 = .ok (.pop, 1) := by decide +kernel
theorem dJx4a65c_get_915e3_9 : decode cJx4a65c_get_915e3 9 = .ok (.aload_n 0, 1) := by decide +kernel
theorem dJx4a65c_get_915e3_10 : decode cJx4a65c_get_915e3 10 = .ok (.iload_n 1, 1) := by decide +kernel
theorem dJx4a65c_get_915e3_11 : decode cJx4a65c_get_915e3 11 = .ok (.invokevirtual 123, 3) := by decide +kernel
theorem dJx4a65c_get_915e3_14 : decode cJx4a65c_get_915e3 14 = .ok (.areturn, 1) := by decide +kernel
theorem dJx4a65c_add_72be8_0 : decode cJx4a65c_add_72be8 0 = .ok (.iload_n 3, 1) := by decide +kernel
theorem dJx4a65c_add_72be8_1 : decode cJx4a65c_add_72be8 1 = .ok (.aload_n 2, 1) := by decide +kernel
theorem dJx4a65c_add_72be8_2 : decode cJx4a65c_add_72be8 2 = .ok (.arraylength, 1) := by decide +kernel
theorem dJx4a65c_add_72be8_3 : decode cJx4a65c_add_72be8 3 = .ok (.if_icmp .ne 8, 3) := by decide +kernel
theorem dJx4a65c_add_72be8_6 : decode cJx4a65c_add_72be8 6 = .ok (.aload_n 0, 1) := by decide +kernel
theorem dJx4a65c_add_72be8_7 : decode cJx4a65c_add_72be8 7 = .ok (.invokevirtual 129, 3) := by decide +kernel
theorem dJx4a65c_add_72be8_10 : decode cJx4a65c_add_72be8 10 = .ok (.astore_n 2, 1) := by decide +kernel
theorem dJx4a65c_add_72be8_11 : decode cJx4a65c_add_72be8 11 = .ok (.aload_n 2, 1) := by decide +kernel
theorem dJx4a65c_add_72be8_12 : decode cJx4a65c_add_72be8 12 = .ok (.iload_n 3, 1) := by decide +kernel
theorem dJx4a65c_add_72be8_13 : decode cJx4a65c_add_72be8 13 = .ok (.aload_n 1, 1) := by decide +kernel
theorem dJx4a65c_add_72be8_14 : decode cJx4a65c_add_72be8 14 = .ok (.aastore, 1) := by decide +kernel
theorem dJx4a65c_add_72be8_15 : decode cJx4a65c_add_72be8 15 = .ok (.aload_n 0, 1) := by decide +kernel
theorem dJx4a65c_add_72be8_16 : decode cJx4a65c_add_72be8 16 = .ok (.iload_n 3, 1) := by decide +kernel
theorem dJx4a65c_add_72be8_17 : decode cJx4a65c_add_72be8 17 = .ok (.iconst 1, 1) := by decide +kernel
theorem dJx4a65c_add_72be8_18 : decode cJx4a65c_add_72be8 18 = .ok (.iadd, 1) := by decide +kernel
theorem dJx4a65c_add_72be8_19 : decode cJx4a65c_add_72be8 19 = .ok (.putfield 48, 3) := by decide +kernel
theorem dJx4a65c_add_72be8_22 : decode cJx4a65c_add_72be8 22 = .ok (.return_, 1) := by decide +kernel
theorem dJx4a65c_add_9ea2d_0 : decode cJx4a65c_add_9ea2d 0 = .ok (.aload_n 0, 1) := by decide +kernel
theorem dJx4a65c_add_9ea2d_1 : decode cJx4a65c_add_9ea2d 1 = .ok (.dup, 1) := by decide +kernel
theorem dJx4a65c_add_9ea2d_2 : decode cJx4a65c_add_9ea2d 2 = .ok (.getfield 63, 3) := by decide +kernel
theorem dJx4a65c_add_9ea2d_5 : decode cJx4a65c_add_9ea2d 5 = .ok (.iconst 1, 1) := by decide +kernel
theorem dJx4a65c_add_9ea2d_6 : decode cJx4a65c_add_9ea2d 6 = .ok (.iadd, 1) := by decide +kernel
theorem dJx4a65c_add_9ea2d_7 : decode cJx4a65c_add_9ea2d 7 = .ok (.putfield 63, 3) := by decide +kernel
theorem dJx4a65c_add_9ea2d_10 : decode cJx4a65c_add_9ea2d 10 = .ok (.aload_n 0, 1) := by decide +kernel
theorem dJx4a65c_add_9ea2d_11 : decode cJx4a65c_add_9ea2d 11 = .ok (.aload_n 1, 1) := by decide +kernel
theorem dJx4a65c_add_9ea2d_12 : decode cJx4a65c_add_9ea2d 12 = .ok (.aload_n 0, 1) := by decide +kernel
theorem dJx4a65c_add_9ea2d_13 : decode cJx4a65c_add_9ea2d 13 = .ok (.getfield 9, 3) := by decide +kernel
theorem dJx4a65c_add_9ea2d_16 : decode cJx4a65c_add_9ea2d 16 = .ok (.aload_n 0, 1) := by decide +kernel
theorem dJx4a65c_add_9ea2d_17 : decode cJx4a65c_add_9ea2d 17 = .ok (.getfield 48, 3) := by decide +kernel
theorem dJx4a65c_add_9ea2d_20 : decode cJx4a65c_add_9ea2d 20 = .ok (.invokevirtual 131, 3) := by decide +kernel
theorem dJx4a65c_add_9ea2d_23 : decode cJx4a65c_add_9ea2d 23 = .ok (.iconst 1, 1) := by decide +kernel
theorem dJx4a65c_add_9ea2d_24 : decode cJx4a65c_add_9ea2d 24 = .ok (.ireturn, 1) := by decide +kernel
theorem dJx4a65c_remove_915e3_0 : decode cJx4a65c_remove_915e3 0 = .ok (.iload_n 1, 1) := by decide +kernel
theorem dJx4a65c_remove_915e3_1 : decode cJx4a65c_remove_915e3 1 = .ok (.aload_n 0, 1) := by decide +kernel
theorem dJx4a65c_remove_915e3_2 : decode cJx4a65c_remove_915e3 2 = .ok (.getfield 48, 3) := by decide +kernel
theorem dJx4a65c_remove_915e3_5 : decode cJx4a65c_remove_915e3 5 = .ok (.invokestatic 118, 3) := by decide +kernel
theorem dJx4a65c_remove_915e3_8 : decode cJx4a65c_remove_915e3 8 = .ok (.pop, 1) := by decide +kernel
theorem dJx4a65c_remove_915e3_9 : decode cJx4a65c_remove_915e3 9 = .ok (.aload_n 0, 1) := by decide +kernel
theorem dJx4a65c_remove_915e3_10 : decode cJx4a65c_remove_915e3 10 = .ok (.getfield 9, 3) := by decide +kernel
theorem dJx4a65c_remove_915e3_13 : decode cJx4a65c_remove_915e3 13 = .ok (.astore_n 2, 1) := by decide +kernel
theorem dJx4a65c_remove_915e3_14 : decode cJx4a65c_remove_915e3 14 = .ok (.aload_n 2, 1) := by decide +kernel
theorem dJx4a65c_remove_915e3_15 : decode cJx4a65c_remove_915e3 15 = .ok (.iload_n 1, 1) := by decide +kernel
theorem dJx4a65c_remove_915e3_16 : decode cJx4a65c_remove_915e3 16 = .ok (.aaload, 1) := by decide +kernel
theorem dJx4a65c_remove_915e3_17 : decode cJx4a65c_remove_915e3 17 = .ok (.astore_n 3, 1) := by decide +kernel
theorem dJx4a65c_remove_915e3_18 : decode cJx4a65c_remove_915e3 18 = .ok (.aload_n 0, 1) := by decide +kernel
theorem dJx4a65c_remove_915e3_19 : decode cJx4a65c_remove_915e3 19 = .ok (.aload_n 2, 1) := by decide +kernel
theorem dJx4a65c_remove_915e3_20 : decode cJx4a65c_remove_915e3 20 = .ok (.iload_n 1, 1) := by decide +kernel
theorem dJx4a65c_remove_915e3_21 : decode cJx4a65c_remove_915e3 21 = .ok (.invokevirtual 144, 3) := by decide +kernel
theorem dJx4a65c_remove_915e3_24 : decode cJx4a65c_remove_915e3 24 = .ok (.aload_n 3, 1) := by decide +kernel
theorem dJx4a65c_remove_915e3_25 : decode cJx4a65c_remove_915e3 25 = .ok (.areturn, 1) := by decide +kernel
theorem dJx4a65c_fastRemove_b59b0_0 : decode cJx4a65c_fastRemove_b59b0 0 = .ok (.aload_n 0, 1) := by decide +kernel
theorem dJx4a65c_fastRemove_b59b0_1 : decode cJx4a65c_fastRemove_b59b0 1 = .ok (.dup, 1) := by decide +kernel
theorem dJx4a65c_fastRemove_b59b0_2 : decode cJx4a65c_fastRemove_b59b0 2 = .ok (.getfield 63, 3) := by decide +kernel
theorem dJx4a65c_fastRemove_b59b0_5 : decode cJx4a65c_fastRemove_b59b0 5 = .ok (.iconst 1, 1) := by decide +kernel
theorem dJx4a65c_fastRemove_b59b0_6 : decode cJx4a65c_fastRemove_b59b0 6 = .ok (.iadd, 1) := by decide +kernel
theorem dJx4a65c_fastRemove_b59b0_7 : decode cJx4a65c_fastRemove_b59b0 7 = .ok (.putfield 63, 3) := by decide +kernel
theorem dJx4a65c_fastRemove_b59b0_10 : decode cJx4a65c_fastRemove_b59b0 10 = .ok (.aload_n 0, 1) := by decide +kernel
theorem dJx4a65c_fastRemove_b59b0_11 : decode cJx4a65c_fastRemove_b59b0 11 = .ok (.getfield 48, 3) := by decide +kernel
theorem dJx4a65c_fastRemove_b59b0_14 : decode cJx4a65c_fastRemove_b59b0 14 = .ok (.iconst 1, 1) := by decide +kernel
theorem dJx4a65c_fastRemove_b59b0_15 : decode cJx4a65c_fastRemove_b59b0 15 = .ok (.isub, 1) := by decide +kernel
theorem dJx4a65c_fastRemove_b59b0_16 : decode cJx4a65c_fastRemove_b59b0 16 = .ok (.dup, 1) := by decide +kernel
theorem dJx4a65c_fastRemove_b59b0_17 : decode cJx4a65c_fastRemove_b59b0 17 = .ok (.istore_n 3, 1) := by decide +kernel
theorem dJx4a65c_fastRemove_b59b0_18 : decode cJx4a65c_fastRemove_b59b0 18 = .ok (.iload_n 2, 1) := by decide +kernel
theorem dJx4a65c_fastRemove_b59b0_19 : decode cJx4a65c_fastRemove_b59b0 19 = .ok (.if_icmp .le 15, 3) := by decide +kernel
theorem dJx4a65c_fastRemove_b59b0_22 : decode cJx4a65c_fastRemove_b59b0 22 = .ok (.aload_n 1, 1) := by decide +kernel
theorem dJx4a65c_fastRemove_b59b0_23 : decode cJx4a65c_fastRemove_b59b0 23 = .ok (.iload_n 2, 1) := by decide +kernel
theorem dJx4a65c_fastRemove_b59b0_24 : decode cJx4a65c_fastRemove_b59b0 24 = .ok (.iconst 1, 1) := by decide +kernel
theorem dJx4a65c_fastRemove_b59b0_25 : decode cJx4a65c_fastRemove_b59b0 25 = .ok (.iadd, 1) := by decide +kernel
theorem dJx4a65c_fastRemove_b59b0_26 : decode cJx4a65c_fastRemove_b59b0 26 = .ok (.aload_n 1, 1) := by decide +kernel
theorem dJx4a65c_fastRemove_b59b0_27 : decode cJx4a65c_fastRemove_b59b0 27 = .ok (.iload_n 2, 1) := by decide +kernel
theorem dJx4a65c_fastRemove_b59b0_28 : decode cJx4a65c_fastRemove_b59b0 28 = .ok (.iload_n 3, 1) := by decide +kernel
theorem dJx4a65c_fastRemove_b59b0_29 : decode cJx4a65c_fastRemove_b59b0 29 = .ok (.iload_n 2, 1) := by decide +kernel
theorem dJx4a65c_fastRemove_b59b0_30 : decode cJx4a65c_fastRemove_b59b0 30 = .ok (.isub, 1) := by decide +kernel
theorem dJx4a65c_fastRemove_b59b0_31 : decode cJx4a65c_fastRemove_b59b0 31 = .ok (.invokestatic 112, 3) := by decide +kernel
theorem dJx4a65c_fastRemove_b59b0_34 : decode cJx4a65c_fastRemove_b59b0 34 = .ok (.aload_n 1, 1) := by decide +kernel
theorem dJx4a65c_fastRemove_b59b0_35 : decode cJx4a65c_fastRemove_b59b0 35 = .ok (.aload_n 0, 1) := by decide +kernel
theorem dJx4a65c_fastRemove_b59b0_36 : decode cJx4a65c_fastRemove_b59b0 36 = .ok (.iload_n 3, 1) := by decide +kernel
theorem dJx4a65c_fastRemove_b59b0_37 : decode cJx4a65c_fastRemove_b59b0 37 = .ok (.dup_x1, 1) := by decide +kernel
theorem dJx4a65c_fastRemove_b59b0_38 : decode cJx4a65c_fastRemove_b59b0 38 = .ok (.putfield 48, 3) := by decide +kernel
theorem dJx4a65c_fastRemove_b59b0_41 : decode cJx4a65c_fastRemove_b59b0 41 = .ok (.aconst_null, 1) := by decide +kernel
theorem dJx4a65c_fastRemove_b59b0_42 : decode cJx4a65c_fastRemove_b59b0 42 = .ok (.aastore, 1) := by decide +kernel
theorem dJx4a65c_fastRemove_b59b0_43 : decode cJx4a65c_fastRemove_b59b0 43 = .ok (.return_, 1) := by decide +kernel
theorem dJ7_fill_53178_0 : decode cJ7_fill_53178 0 = .ok (.iconst 0, 1) := by decide +kernel
theorem dJ7_fill_53178_1 : decode cJ7_fill_53178 1 = .ok (.istore_n 2, 1) := by decide +kernel
theorem dJ7_fill_53178_2 : decode cJ7_fill_53178 2 = .ok (.aload_n 0, 1) := by decide +kernel
theorem dJ7_fill_53178_3 : decode cJ7_fill_53178 3 = .ok (.arraylength, 1) := by decide +kernel
theorem dJ7_fill_53178_4 : decode cJ7_fill_53178 4 = .ok (.istore_n 3, 1) := by decide +kernel
theorem dJ7_fill_53178_5 : decode cJ7_fill_53178 5 = .ok (.iload_n 2, 1) := by decide +kernel
theorem dJ7_fill_53178_6 : decode cJ7_fill_53178 6 = .ok (.iload_n 3, 1) := by decide +kernel
theorem dJ7_fill_53178_7 : decode cJ7_fill_53178 7 = .ok (.if_icmp .ge 13, 3) := by decide +kernel
theorem dJ7_fill_53178_10 : decode cJ7_fill_53178 10 = .ok (.aload_n 0, 1) := by decide +kernel
theorem dJ7_fill_53178_11 : decode cJ7_fill_53178 11 = .ok (.iload_n 2, 1) := by decide +kernel
theorem dJ7_fill_53178_12 : decode cJ7_fill_53178 12 = .ok (.iload_n 1, 1) := by decide +kernel
theorem dJ7_fill_53178_13 : decode cJ7_fill_53178 13 = .ok (.iastore, 1) := by decide +kernel
theorem dJ7_fill_53178_14 : decode cJ7_fill_53178 14 = .ok (.iinc 2 1, 3) := by decide +kernel
theorem dJ7_fill_53178_17 : decode cJ7_fill_53178 17 = .ok (.goto (-12), 3) := by decide +kernel
theorem dJ7_fill_53178_20 : decode cJ7_fill_53178 20 = .ok (.return_, 1) := by decide +kernel
theorem dJ7_copyOf_1904c_0 : decode cJ7_copyOf_1904c 0 = .ok (.aload_n 0, 1) := by decide +kernel
theorem dJ7_copyOf_1904c_1 : decode cJ7_copyOf_1904c 1 = .ok (.iload_n 1, 1) := by decide +kernel
theorem dJ7_copyOf_1904c_2 : decode cJ7_copyOf_1904c 2 = .ok (.aload_n 0, 1) := by decide +kernel
theorem dJ7_copyOf_1904c_3 : decode cJ7_copyOf_1904c 3 = .ok (.invokevirtual 86, 3) := by decide +kernel
theorem dJ7_copyOf_1904c_6 : decode cJ7_copyOf_1904c 6 = .ok (.invokestatic 300, 3) := by decide +kernel
theorem dJ7_copyOf_1904c_9 : decode cJ7_copyOf_1904c 9 = .ok (.areturn, 1) := by decide +kernel
theorem dJ7_copyOf_6403c_0 : decode cJ7_copyOf_6403c 0 = .ok (.aload_n 2, 1) := by decide +kernel
theorem dJ7_copyOf_6403c_1 : decode cJ7_copyOf_6403c 1 = .ok (.ldc 110, 2) := by decide +kernel
theorem dJ7_copyOf_6403c_3 : decode cJ7_copyOf_6403c 3 = .ok (.if_acmp .ne 10, 3) := by decide +kernel
theorem dJ7_copyOf_6403c_6 : decode cJ7_copyOf_6403c 6 = .ok (.iload_n 1, 1) := by decide +kernel
theorem dJ7_copyOf_6403c_7 : decode cJ7_copyOf_6403c 7 = .ok (.anewarray 2, 3) := by decide +kernel
theorem dJ7_copyOf_6403c_10 : decode cJ7_copyOf_6403c 10 = .ok (.goto 14, 3) := by decide +kernel
theorem dJ7_copyOf_6403c_13 : decode cJ7_copyOf_6403c 13 = .ok (.aload_n 2, 1) := by decide +kernel
theorem dJ7_copyOf_6403c_14 : decode cJ7_copyOf_6403c 14 = .ok (.invokevirtual 90, 3) := by decide +kernel
theorem dJ7_copyOf_6403c_17 : decode cJ7_copyOf_6403c 17 = .ok (.iload_n 1, 1) := by decide +kernel
theorem dJ7_copyOf_6403c_18 : decode cJ7_copyOf_6403c 18 = .ok (.invokestatic 95, 3) := by decide +kernel
theorem dJ7_copyOf_6403c_21 : decode cJ7_copyOf_6403c 21 = .ok (.checkcast 110, 3) := by decide +kernel
theorem dJ7_copyOf_6403c_24 : decode cJ7_copyOf_6403c 24 = .ok (.astore_n 3, 1) := by decide +kernel
theorem dJ7_copyOf_6403c_25 : decode cJ7_copyOf_6403c 25 = .ok (.aload_n 0, 1) := by decide +kernel
theorem dJ7_copyOf_6403c_26 : decode cJ7_copyOf_6403c 26 = .ok (.iconst 0, 1) := by decide +kernel
theorem dJ7_copyOf_6403c_27 : decode cJ7_copyOf_6403c 27 = .ok (.aload_n 3, 1) := by decide +kernel
theorem dJ7_copyOf_6403c_28 : decode cJ7_copyOf_6403c 28 = .ok (.iconst 0, 1) := by decide +kernel
theorem dJ7_copyOf_6403c_29 : decode cJ7_copyOf_6403c 29 = .ok (.aload_n 0, 1) := by decide +kernel
theorem dJ7_copyOf_6403c_30 : decode cJ7_copyOf_6403c 30 = .ok (.arraylength, 1) := by decide +kernel
theorem dJ7_copyOf_6403c_31 : decode cJ7_copyOf_6403c 31 = .ok (.iload_n 1, 1) := by decide +kernel
theorem dJ7_copyOf_6403c_32 : decode cJ7_copyOf_6403c 32 = .ok (.invokestatic 304, 3) := by decide +kernel
theorem dJ7_copyOf_6403c_35 : decode cJ7_copyOf_6403c 35 = .ok (.invokestatic 150, 3) := by decide +kernel
theorem dJ7_copyOf_6403c_38 : decode cJ7_copyOf_6403c 38 = .ok (.aload_n 3, 1) := by decide +kernel
theorem dJ7_copyOf_6403c_39 : decode cJ7_copyOf_6403c 39 = .ok (.areturn, 1) := by decide +kernel
theorem dJ15_checkIndex_7cf53_0 : decode cJ15_checkIndex_7cf53 0 = .ok (.iload_n 0, 1) := by decide +kernel
theorem dJ15_checkIndex_7cf53_1 : decode cJ15_checkIndex_7cf53 1 = .ok (.iload_n 1, 1) := by decide +kernel
theorem dJ15_checkIndex_7cf53_2 : decode cJ15_checkIndex_7cf53 2 = .ok (.aconst_null, 1) := by decide +kernel
theorem dJ15_checkIndex_7cf53_3 : decode cJ15_checkIndex_7cf53 3 = .ok (.invokestatic 105, 3) := by decide +kernel
theorem dJ15_checkIndex_7cf53_6 : decode cJ15_checkIndex_7cf53 6 = .ok (.ireturn, 1) := by decide +kernel
theorem dJ8_newLength_cabcc_0 : decode cJ8_newLength_cabcc 0 = .ok (.iload_n 0, 1) := by decide +kernel
theorem dJ8_newLength_cabcc_1 : decode cJ8_newLength_cabcc 1 = .ok (.iload_n 1, 1) := by decide +kernel
theorem dJ8_newLength_cabcc_2 : decode cJ8_newLength_cabcc 2 = .ok (.iload_n 2, 1) := by decide +kernel
theorem dJ8_newLength_cabcc_3 : decode cJ8_newLength_cabcc 3 = .ok (.invokestatic 194, 3) := by decide +kernel
theorem dJ8_newLength_cabcc_6 : decode cJ8_newLength_cabcc 6 = .ok (.iadd, 1) := by decide +kernel
theorem dJ8_newLength_cabcc_7 : decode cJ8_newLength_cabcc 7 = .ok (.istore_n 3, 1) := by decide +kernel
theorem dJ8_newLength_cabcc_8 : decode cJ8_newLength_cabcc 8 = .ok (.iconst 0, 1) := by decide +kernel
theorem dJ8_newLength_cabcc_9 : decode cJ8_newLength_cabcc 9 = .ok (.iload_n 3, 1) := by decide +kernel
theorem dJ8_newLength_cabcc_10 : decode cJ8_newLength_cabcc 10 = .ok (.if_icmp .ge 11, 3) := by decide +kernel
theorem dJ8_newLength_cabcc_13 : decode cJ8_newLength_cabcc 13 = .ok (.iload_n 3, 1) := by decide +kernel
theorem dJ8_newLength_cabcc_14 : decode cJ8_newLength_cabcc 14 = .ok (.ldc 200, 2) := by decide +kernel
theorem dJ8_newLength_cabcc_16 : decode cJ8_newLength_cabcc 16 = .ok (.if_icmp .gt 5, 3) := by decide +kernel
theorem dJ8_newLength_cabcc_19 : decode cJ8_newLength_cabcc 19 = .ok (.iload_n 3, 1) := by decide +kernel
theorem dJ8_newLength_cabcc_20 : decode cJ8_newLength_cabcc 20 = .ok (.ireturn, 1) := by decide +kernel
theorem dJ8_newLength_cabcc_21 : decode cJ8_newLength_cabcc 21 = .ok (.iload_n 0, 1) := by decide +kernel
theorem dJ8_newLength_cabcc_22 : decode cJ8_newLength_cabcc 22 = .ok (.iload_n 1, 1) := by decide +kernel
theorem dJ8_newLength_cabcc_23 : decode cJ8_newLength_cabcc 23 = .ok (.invokestatic 201, 3) := by decide +kernel
theorem dJ8_newLength_cabcc_26 : decode cJ8_newLength_cabcc 26 = .ok (.ireturn, 1) := by decide +kernel
theorem dJ8_hugeLength_7cf53_0 : decode cJ8_hugeLength_7cf53 0 = .ok (.iload_n 0, 1) := by decide +kernel
theorem dJ8_hugeLength_7cf53_1 : decode cJ8_hugeLength_7cf53 1 = .ok (.iload_n 1, 1) := by decide +kernel
theorem dJ8_hugeLength_7cf53_2 : decode cJ8_hugeLength_7cf53 2 = .ok (.iadd, 1) := by decide +kernel
theorem dJ8_hugeLength_7cf53_3 : decode cJ8_hugeLength_7cf53 3 = .ok (.istore_n 2, 1) := by decide +kernel
theorem dJ8_hugeLength_7cf53_4 : decode cJ8_hugeLength_7cf53 4 = .ok (.iload_n 2, 1) := by decide +kernel
theorem dJ8_hugeLength_7cf53_5 : decode cJ8_hugeLength_7cf53 5 = .ok (.ifCond .ge 44, 3) := by decide +kernel
theorem dJ8_hugeLength_7cf53_8 : decode cJ8_hugeLength_7cf53 8 = .ok (.new 204, 3) := by decide +kernel
theorem dJ8_hugeLength_7cf53_11 : decode cJ8_hugeLength_7cf53 11 = .ok (.dup, 1) := by decide +kernel
theorem dJ8_hugeLength_7cf53_12 : decode cJ8_hugeLength_7cf53 12 = .ok (.new 89, 3) := by decide +kernel
theorem dJ8_hugeLength_7cf53_15 : decode cJ8_hugeLength_7cf53 15 = .ok (.dup, 1) := by decide +kernel
theorem dJ8_hugeLength_7cf53_16 : decode cJ8_hugeLength_7cf53 16 = .ok (.invokespecial 91, 3) := by decide +kernel
theorem dJ8_hugeLength_7cf53_19 : decode cJ8_hugeLength_7cf53 19 = .ok (.ldc 206, 2) := by decide +kernel
theorem dJ8_hugeLength_7cf53_21 : decode cJ8_hugeLength_7cf53 21 = .ok (.invokevirtual 94, 3) := by decide +kernel
theorem dJ8_hugeLength_7cf53_24 : decode cJ8_hugeLength_7cf53 24 = .ok (.iload_n 0, 1) := by decide +kernel
theorem dJ8_hugeLength_7cf53_25 : decode cJ8_hugeLength_7cf53 25 = .ok (.invokevirtual 98, 3) := by decide +kernel
theorem dJ8_hugeLength_7cf53_28 : decode cJ8_hugeLength_7cf53 28 = .ok (.ldc 208, 2) := by decide +kernel
theorem dJ8_hugeLength_7cf53_30 : decode cJ8_hugeLength_7cf53 30 = .ok (.invokevirtual 94, 3) := by decide +kernel
theorem dJ8_hugeLength_7cf53_33 : decode cJ8_hugeLength_7cf53 33 = .ok (.iload_n 1, 1) := by decide +kernel
theorem dJ8_hugeLength_7cf53_34 : decode cJ8_hugeLength_7cf53 34 = .ok (.invokevirtual 98, 3) := by decide +kernel
theorem dJ8_hugeLength_7cf53_37 : decode cJ8_hugeLength_7cf53 37 = .ok (.ldc 210, 2) := by decide +kernel
theorem dJ8_hugeLength_7cf53_39 : decode cJ8_hugeLength_7cf53 39 = .ok (.invokevirtual 94, 3) := by decide +kernel
theorem dJ8_hugeLength_7cf53_42 : decode cJ8_hugeLength_7cf53 42 = .ok (.invokevirtual 101, 3) := by decide +kernel
theorem dJ8_hugeLength_7cf53_45 : decode cJ8_hugeLength_7cf53 45 = .ok (.invokespecial 212, 3) := by decide +kernel
theorem dJ8_hugeLength_7cf53_48 : decode cJ8_hugeLength_7cf53 48 = .ok (.athrow, 1) := by decide +kernel
theorem dJ8_hugeLength_7cf53_49 : decode cJ8_hugeLength_7cf53 49 = .ok (.iload_n 2, 1) := by decide +kernel
theorem dJ8_hugeLength_7cf53_50 : decode cJ8_hugeLength_7cf53 50 = .ok (.ldc 200, 2) := by decide +kernel
theorem dJ8_hugeLength_7cf53_52 : decode cJ8_hugeLength_7cf53 52 = .ok (.if_icmp .gt 6, 3) := by decide +kernel
theorem dJ8_hugeLength_7cf53_55 : decode cJ8_hugeLength_7cf53 55 = .ok (.ldc 200, 2) := by decide +kernel
theorem dJ8_hugeLength_7cf53_57 : decode cJ8_hugeLength_7cf53 57 = .ok (.ireturn, 1) := by decide +kernel
theorem dJ8_hugeLength_7cf53_58 : decode cJ8_hugeLength_7cf53 58 = .ok (.iload_n 2, 1) := by decide +kernel
theorem dJ8_hugeLength_7cf53_59 : decode cJ8_hugeLength_7cf53 59 = .ok (.ireturn, 1) := by decide +kernel
theorem dJ3_checkIndex_8e157_0 : decode cJ3_checkIndex_8e157 0 = .ok (.iload_n 0, 1) := by decide +kernel
theorem dJ3_checkIndex_8e157_1 : decode cJ3_checkIndex_8e157 1 = .ok (.ifCond .lt 8, 3) := by decide +kernel
theorem dJ3_checkIndex_8e157_4 : decode cJ3_checkIndex_8e157 4 = .ok (.iload_n 0, 1) := by decide +kernel
theorem dJ3_checkIndex_8e157_5 : decode cJ3_checkIndex_8e157 5 = .ok (.iload_n 1, 1) := by decide +kernel
theorem dJ3_checkIndex_8e157_6 : decode cJ3_checkIndex_8e157 6 = .ok (.if_icmp .lt 10, 3) := by decide +kernel
theorem dJ3_checkIndex_8e157_9 : decode cJ3_checkIndex_8e157 9 = .ok (.aload_n 2, 1) := by decide +kernel
theorem dJ3_checkIndex_8e157_10 : decode cJ3_checkIndex_8e157 10 = .ok (.iload_n 0, 1) := by decide +kernel
theorem dJ3_checkIndex_8e157_11 : decode cJ3_checkIndex_8e157 11 = .ok (.iload_n 1, 1) := by decide +kernel
theorem dJ3_checkIndex_8e157_12 : decode cJ3_checkIndex_8e157 12 = .ok (.invokestatic 95, 3) := by decide +kernel
theorem dJ3_checkIndex_8e157_15 : decode cJ3_checkIndex_8e157 15 = .ok (.athrow, 1) := by decide +kernel
theorem dJ3_checkIndex_8e157_16 : decode cJ3_checkIndex_8e157 16 = .ok (.iload_n 0, 1) := by decide +kernel
theorem dJ3_checkIndex_8e157_17 : decode cJ3_checkIndex_8e157 17 = .ok (.ireturn, 1) := by decide +kernel
theorem dL_up_0 : decode cL_up 0 = .ok (.iload_n 0, 1) := by decide +kernel
theorem dL_up_1 : decode cL_up 1 = .ok (.iconst 2, 1) := by decide +kernel
theorem dL_up_2 : decode cL_up 2 = .ok (.iushr, 1) := by decide +kernel
theorem dL_up_3 : decode cL_up 3 = .ok (.iload_n 1, 1) := by decide +kernel
theorem dL_up_4 : decode cL_up 4 = .ok (.irem, 1) := by decide +kernel
theorem dL_up_5 : decode cL_up 5 = .ok (.ireturn, 1) := by decide +kernel
theorem dL_cell_0 : decode cL_cell 0 = .ok (.aload_n 0, 1) := by decide +kernel
theorem dL_cell_1 : decode cL_cell 1 = .ok (.arraylength, 1) := by decide +kernel
theorem dL_cell_2 : decode cL_cell 2 = .ok (.ifCond .ne 7, 3) := by decide +kernel
theorem dL_cell_5 : decode cL_cell 5 = .ok (.iconst 0, 1) := by decide +kernel
theorem dL_cell_6 : decode cL_cell 6 = .ok (.goto 14, 3) := by decide +kernel
theorem dL_cell_9 : decode cL_cell 9 = .ok (.aload_n 0, 1) := by decide +kernel
theorem dL_cell_10 : decode cL_cell 10 = .ok (.iload_n 1, 1) := by decide +kernel
theorem dL_cell_11 : decode cL_cell 11 = .ok (.aload_n 0, 1) := by decide +kernel
theorem dL_cell_12 : decode cL_cell 12 = .ok (.arraylength, 1) := by decide +kernel
theorem dL_cell_13 : decode cL_cell 13 = .ok (.irem, 1) := by decide +kernel
theorem dL_cell_14 : decode cL_cell 14 = .ok (.iaload, 1) := by decide +kernel
theorem dL_cell_15 : decode cL_cell 15 = .ok (.bipush 31, 2) := by decide +kernel
theorem dL_cell_17 : decode cL_cell 17 = .ok (.iload_n 1, 1) := by decide +kernel
theorem dL_cell_18 : decode cL_cell 18 = .ok (.imul, 1) := by decide +kernel
theorem dL_cell_19 : decode cL_cell 19 = .ok (.iadd, 1) := by decide +kernel
theorem dL_cell_20 : decode cL_cell 20 = .ok (.ireturn, 1) := by decide +kernel
theorem dL_why_0 : decode cL_why 0 = .ok (.bipush 16, 2) := by decide +kernel
theorem dL_why_2 : decode cL_why 2 = .ok (.iload 5, 2) := by decide +kernel
theorem dL_why_4 : decode cL_why 4 = .ok (.imul, 1) := by decide +kernel
theorem dL_why_5 : decode cL_why 5 = .ok (.istore 8, 2) := by decide +kernel
theorem dL_why_7 : decode cL_why 7 = .ok (.bipush 6, 2) := by decide +kernel
theorem dL_why_9 : decode cL_why 9 = .ok (.iload 6, 2) := by decide +kernel
theorem dL_why_11 : decode cL_why 11 = .ok (.imul, 1) := by decide +kernel
theorem dL_why_12 : decode cL_why 12 = .ok (.istore 9, 2) := by decide +kernel
theorem dL_why_14 : decode cL_why 14 = .ok (.aload_n 0, 1) := by decide +kernel
theorem dL_why_15 : decode cL_why 15 = .ok (.iload 8, 2) := by decide +kernel
theorem dL_why_17 : decode cL_why 17 = .ok (.iaload, 1) := by decide +kernel
theorem dL_why_18 : decode cL_why 18 = .ok (.aload_n 3, 1) := by decide +kernel
theorem dL_why_19 : decode cL_why 19 = .ok (.iload 9, 2) := by decide +kernel
theorem dL_why_21 : decode cL_why 21 = .ok (.iaload, 1) := by decide +kernel
theorem dL_why_22 : decode cL_why 22 = .ok (.if_icmp .eq 5, 3) := by decide +kernel
theorem dL_why_25 : decode cL_why 25 = .ok (.iconst 1, 1) := by decide +kernel
theorem dL_why_26 : decode cL_why 26 = .ok (.ireturn, 1) := by decide +kernel
theorem dL_why_27 : decode cL_why 27 = .ok (.iconst 0, 1) := by decide +kernel
theorem dL_why_28 : decode cL_why 28 = .ok (.istore 10, 2) := by decide +kernel
theorem dL_why_30 : decode cL_why 30 = .ok (.iload 10, 2) := by decide +kernel
theorem dL_why_32 : decode cL_why 32 = .ok (.iconst 3, 1) := by decide +kernel
theorem dL_why_33 : decode cL_why 33 = .ok (.if_icmp .ge 74, 3) := by decide +kernel
theorem dL_why_36 : decode cL_why 36 = .ok (.aload_n 0, 1) := by decide +kernel
theorem dL_why_37 : decode cL_why 37 = .ok (.iload 8, 2) := by decide +kernel
theorem dL_why_39 : decode cL_why 39 = .ok (.bipush 6, 2) := by decide +kernel
theorem dL_why_41 : decode cL_why 41 = .ok (.iadd, 1) := by decide +kernel
theorem dL_why_42 : decode cL_why 42 = .ok (.iload 10, 2) := by decide +kernel
theorem dL_why_44 : decode cL_why 44 = .ok (.iadd, 1) := by decide +kernel
theorem dL_why_45 : decode cL_why 45 = .ok (.iaload, 1) := by decide +kernel
theorem dL_why_46 : decode cL_why 46 = .ok (.aload_n 3, 1) := by decide +kernel
theorem dL_why_47 : decode cL_why 47 = .ok (.iload 9, 2) := by decide +kernel
theorem dL_why_49 : decode cL_why 49 = .ok (.iconst 2, 1) := by decide +kernel
theorem dL_why_50 : decode cL_why 50 = .ok (.iadd, 1) := by decide +kernel
theorem dL_why_51 : decode cL_why 51 = .ok (.iaload, 1) := by decide +kernel
theorem dL_why_52 : decode cL_why 52 = .ok (.iadd, 1) := by decide +kernel
theorem dL_why_53 : decode cL_why 53 = .ok (.aload 4, 2) := by decide +kernel
theorem dL_why_55 : decode cL_why 55 = .ok (.iload 10, 2) := by decide +kernel
theorem dL_why_57 : decode cL_why 57 = .ok (.iaload, 1) := by decide +kernel
theorem dL_why_58 : decode cL_why 58 = .ok (.aload 4, 2) := by decide +kernel
theorem dL_why_60 : decode cL_why 60 = .ok (.iload 10, 2) := by decide +kernel
theorem dL_why_62 : decode cL_why 62 = .ok (.iaload, 1) := by decide +kernel
theorem dL_why_63 : decode cL_why 63 = .ok (.aload 4, 2) := by decide +kernel
theorem dL_why_65 : decode cL_why 65 = .ok (.iconst 3, 1) := by decide +kernel
theorem dL_why_66 : decode cL_why 66 = .ok (.iload 10, 2) := by decide +kernel
theorem dL_why_68 : decode cL_why 68 = .ok (.iadd, 1) := by decide +kernel
theorem dL_why_69 : decode cL_why 69 = .ok (.iaload, 1) := by decide +kernel
theorem dL_why_70 : decode cL_why 70 = .ok (.imul, 1) := by decide +kernel
theorem dL_why_71 : decode cL_why 71 = .ok (.bipush 100, 2) := by decide +kernel
theorem dL_why_73 : decode cL_why 73 = .ok (.idiv, 1) := by decide +kernel
theorem dL_why_74 : decode cL_why 74 = .ok (.iadd, 1) := by decide +kernel
theorem dL_why_75 : decode cL_why 75 = .ok (.if_icmp .gt 24, 3) := by decide +kernel
theorem dL_why_78 : decode cL_why 78 = .ok (.aload_n 0, 1) := by decide +kernel
theorem dL_why_79 : decode cL_why 79 = .ok (.iload 8, 2) := by decide +kernel
theorem dL_why_81 : decode cL_why 81 = .ok (.bipush 9, 2) := by decide +kernel
theorem dL_why_83 : decode cL_why 83 = .ok (.iadd, 1) := by decide +kernel
theorem dL_why_84 : decode cL_why 84 = .ok (.iload 10, 2) := by decide +kernel
theorem dL_why_86 : decode cL_why 86 = .ok (.iadd, 1) := by decide +kernel
theorem dL_why_87 : decode cL_why 87 = .ok (.iaload, 1) := by decide +kernel
theorem dL_why_88 : decode cL_why 88 = .ok (.aload 4, 2) := by decide +kernel
theorem dL_why_90 : decode cL_why 90 = .ok (.bipush 6, 2) := by decide +kernel
theorem dL_why_92 : decode cL_why 92 = .ok (.iload 10, 2) := by decide +kernel
theorem dL_why_94 : decode cL_why 94 = .ok (.iadd, 1) := by decide +kernel
theorem dL_why_95 : decode cL_why 95 = .ok (.iaload, 1) := by decide +kernel
theorem dL_why_96 : decode cL_why 96 = .ok (.if_icmp .le 5, 3) := by decide +kernel
theorem dL_why_99 : decode cL_why 99 = .ok (.iconst 2, 1) := by decide +kernel
theorem dL_why_100 : decode cL_why 100 = .ok (.ireturn, 1) := by decide +kernel
theorem dL_why_101 : decode cL_why 101 = .ok (.iinc 10 1, 3) := by decide +kernel
theorem dL_why_104 : decode cL_why 104 = .ok (.goto (-74), 3) := by decide +kernel
theorem dL_why_107 : decode cL_why 107 = .ok (.iconst 0, 1) := by decide +kernel
theorem dL_why_108 : decode cL_why 108 = .ok (.istore 10, 2) := by decide +kernel
theorem dL_why_110 : decode cL_why 110 = .ok (.iconst 0, 1) := by decide +kernel
theorem dL_why_111 : decode cL_why 111 = .ok (.istore 11, 2) := by decide +kernel
theorem dL_why_113 : decode cL_why 113 = .ok (.bipush 8, 2) := by decide +kernel
theorem dL_why_115 : decode cL_why 115 = .ok (.iload 5, 2) := by decide +kernel
theorem dL_why_117 : decode cL_why 117 = .ok (.imul, 1) := by decide +kernel
theorem dL_why_118 : decode cL_why 118 = .ok (.istore 12, 2) := by decide +kernel
theorem dL_why_120 : decode cL_why 120 = .ok (.iload 12, 2) := by decide +kernel
theorem dL_why_122 : decode cL_why 122 = .ok (.bipush 8, 2) := by decide +kernel
theorem dL_why_124 : decode cL_why 124 = .ok (.iload 5, 2) := by decide +kernel
theorem dL_why_126 : decode cL_why 126 = .ok (.imul, 1) := by decide +kernel
theorem dL_why_127 : decode cL_why 127 = .ok (.aload_n 0, 1) := by decide +kernel
theorem dL_why_128 : decode cL_why 128 = .ok (.iload 8, 2) := by decide +kernel
theorem dL_why_130 : decode cL_why 130 = .ok (.bipush 12, 2) := by decide +kernel
theorem dL_why_132 : decode cL_why 132 = .ok (.iadd, 1) := by decide +kernel
theorem dL_why_133 : decode cL_why 133 = .ok (.iaload, 1) := by decide +kernel
theorem dL_why_134 : decode cL_why 134 = .ok (.iadd, 1) := by decide +kernel
theorem dL_why_135 : decode cL_why 135 = .ok (.if_icmp .ge 130, 3) := by decide +kernel
theorem dL_why_138 : decode cL_why 138 = .ok (.aload 4, 2) := by decide +kernel
theorem dL_why_140 : decode cL_why 140 = .ok (.bipush 9, 2) := by decide +kernel
theorem dL_why_142 : decode cL_why 142 = .ok (.aload_n 1, 1) := by decide +kernel
theorem dL_why_143 : decode cL_why 143 = .ok (.iload 12, 2) := by decide +kernel
theorem dL_why_145 : decode cL_why 145 = .ok (.iaload, 1) := by decide +kernel
theorem dL_why_146 : decode cL_why 146 = .ok (.iadd, 1) := by decide +kernel
theorem dL_why_147 : decode cL_why 147 = .ok (.iaload, 1) := by decide +kernel
theorem dL_why_148 : decode cL_why 148 = .ok (.istore 13, 2) := by decide +kernel
theorem dL_why_150 : decode cL_why 150 = .ok (.iload 13, 2) := by decide +kernel
theorem dL_why_152 : decode cL_why 152 = .ok (.ifCond .lt 37, 3) := by decide +kernel
theorem dL_why_155 : decode cL_why 155 = .ok (.iload 7, 2) := by decide +kernel
theorem dL_why_157 : decode cL_why 157 = .ok (.aload_n 1, 1) := by decide +kernel
theorem dL_why_158 : decode cL_why 158 = .ok (.bipush 32, 2) := by decide +kernel
theorem dL_why_160 : decode cL_why 160 = .ok (.iload 12, 2) := by decide +kernel
theorem dL_why_162 : decode cL_why 162 = .ok (.iadd, 1) := by decide +kernel
theorem dL_why_163 : decode cL_why 163 = .ok (.iaload, 1) := by decide +kernel
theorem dL_why_164 : decode cL_why 164 = .ok (.isub, 1) := by decide +kernel
theorem dL_why_165 : decode cL_why 165 = .ok (.iload 13, 2) := by decide +kernel
theorem dL_why_167 : decode cL_why 167 = .ok (.if_icmp .gt 22, 3) := by decide +kernel
theorem dL_why_170 : decode cL_why 170 = .ok (.aload_n 3, 1) := by decide +kernel
theorem dL_why_171 : decode cL_why 171 = .ok (.iload 9, 2) := by decide +kernel
theorem dL_why_173 : decode cL_why 173 = .ok (.iconst 3, 1) := by decide +kernel
theorem dL_why_174 : decode cL_why 174 = .ok (.iadd, 1) := by decide +kernel
theorem dL_why_175 : decode cL_why 175 = .ok (.iaload, 1) := by decide +kernel
theorem dL_why_176 : decode cL_why 176 = .ok (.aload 4, 2) := by decide +kernel
theorem dL_why_178 : decode cL_why 178 = .ok (.bipush 13, 2) := by decide +kernel
theorem dL_why_180 : decode cL_why 180 = .ok (.aload_n 1, 1) := by decide +kernel
theorem dL_why_181 : decode cL_why 181 = .ok (.iload 12, 2) := by decide +kernel
theorem dL_why_183 : decode cL_why 183 = .ok (.iaload, 1) := by decide +kernel
theorem dL_why_184 : decode cL_why 184 = .ok (.iadd, 1) := by decide +kernel
theorem dL_why_185 : decode cL_why 185 = .ok (.iaload, 1) := by decide +kernel
theorem dL_why_186 : decode cL_why 186 = .ok (.if_icmp .le 5, 3) := by decide +kernel
theorem dL_why_189 : decode cL_why 189 = .ok (.iconst 3, 1) := by decide +kernel
theorem dL_why_190 : decode cL_why 190 = .ok (.ireturn, 1) := by decide +kernel
theorem dL_why_191 : decode cL_why 191 = .ok (.iload 10, 2) := by decide +kernel
theorem dL_why_193 : decode cL_why 193 = .ok (.aload_n 1, 1) := by decide +kernel
theorem dL_why_194 : decode cL_why 194 = .ok (.iload 12, 2) := by decide +kernel
theorem dL_why_196 : decode cL_why 196 = .ok (.iaload, 1) := by decide +kernel
theorem dL_why_197 : decode cL_why 197 = .ok (.iconst 1, 1) := by decide +kernel
theorem dL_why_198 : decode cL_why 198 = .ok (.if_icmp .ne 7, 3) := by decide +kernel
theorem dL_why_201 : decode cL_why 201 = .ok (.iconst 1, 1) := by decide +kernel
theorem dL_why_202 : decode cL_why 202 = .ok (.goto 4, 3) := by decide +kernel
theorem dL_why_205 : decode cL_why 205 = .ok (.iconst 0, 1) := by decide +kernel
theorem dL_why_206 : decode cL_why 206 = .ok (.iadd, 1) := by decide +kernel
theorem dL_why_207 : decode cL_why 207 = .ok (.istore 10, 2) := by decide +kernel
theorem dL_why_209 : decode cL_why 209 = .ok (.iload 11, 2) := by decide +kernel
theorem dL_why_211 : decode cL_why 211 = .ok (.ifCond .ne 41, 3) := by decide +kernel
theorem dL_why_214 : decode cL_why 214 = .ok (.aload_n 1, 1) := by decide +kernel
theorem dL_why_215 : decode cL_why 215 = .ok (.iload 12, 2) := by decide +kernel
theorem dL_why_217 : decode cL_why 217 = .ok (.iaload, 1) := by decide +kernel
theorem dL_why_218 : decode cL_why 218 = .ok (.ifCond .ne 14, 3) := by decide +kernel
theorem dL_why_221 : decode cL_why 221 = .ok (.aload_n 2, 1) := by decide +kernel
theorem dL_why_222 : decode cL_why 222 = .ok (.bipush 32, 2) := by decide +kernel
theorem dL_why_224 : decode cL_why 224 = .ok (.iload 12, 2) := by decide +kernel
theorem dL_why_226 : decode cL_why 226 = .ok (.iadd, 1) := by decide +kernel
theorem dL_why_227 : decode cL_why 227 = .ok (.iaload, 1) := by decide +kernel
theorem dL_why_228 : decode cL_why 228 = .ok (.iconst 4, 1) := by decide +kernel
theorem dL_why_229 : decode cL_why 229 = .ok (.if_icmp .gt 23, 3) := by decide +kernel
theorem dL_why_232 : decode cL_why 232 = .ok (.aload_n 1, 1) := by decide +kernel
theorem dL_why_233 : decode cL_why 233 = .ok (.iload 12, 2) := by decide +kernel
theorem dL_why_235 : decode cL_why 235 = .ok (.iaload, 1) := by decide +kernel
theorem dL_why_236 : decode cL_why 236 = .ok (.iconst 2, 1) := by decide +kernel
theorem dL_why_237 : decode cL_why 237 = .ok (.if_icmp .ne 19, 3) := by decide +kernel
theorem dL_why_240 : decode cL_why 240 = .ok (.aload_n 2, 1) := by decide +kernel
theorem dL_why_241 : decode cL_why 241 = .ok (.bipush 32, 2) := by decide +kernel
theorem dL_why_243 : decode cL_why 243 = .ok (.iload 12, 2) := by decide +kernel
theorem dL_why_245 : decode cL_why 245 = .ok (.iadd, 1) := by decide +kernel
theorem dL_why_246 : decode cL_why 246 = .ok (.iaload, 1) := by decide +kernel
theorem dL_why_247 : decode cL_why 247 = .ok (.bipush 50, 2) := by decide +kernel
theorem dL_why_249 : decode cL_why 249 = .ok (.if_icmp .le 7, 3) := by decide +kernel
theorem dL_why_252 : decode cL_why 252 = .ok (.iconst 1, 1) := by decide +kernel
theorem dL_why_253 : decode cL_why 253 = .ok (.goto 4, 3) := by decide +kernel
theorem dL_why_256 : decode cL_why 256 = .ok (.iconst 0, 1) := by decide +kernel
theorem dL_why_257 : decode cL_why 257 = .ok (.istore 11, 2) := by decide +kernel
theorem dL_why_259 : decode cL_why 259 = .ok (.iinc 12 1, 3) := by decide +kernel
theorem dL_why_262 : decode cL_why 262 = .ok (.goto (-142), 3) := by decide +kernel
theorem dL_why_265 : decode cL_why 265 = .ok (.iload 11, 2) := by decide +kernel
theorem dL_why_267 : decode cL_why 267 = .ok (.ifCond .ne 9, 3) := by decide +kernel
theorem dL_why_270 : decode cL_why 270 = .ok (.iload 10, 2) := by decide +kernel
theorem dL_why_272 : decode cL_why 272 = .ok (.iconst 1, 1) := by decide +kernel
theorem dL_why_273 : decode cL_why 273 = .ok (.if_icmp .le 5, 3) := by decide +kernel
theorem dL_why_276 : decode cL_why 276 = .ok (.iconst 4, 1) := by decide +kernel
theorem dL_why_277 : decode cL_why 277 = .ok (.ireturn, 1) := by decide +kernel
theorem dL_why_278 : decode cL_why 278 = .ok (.sipush 1000, 3) := by decide +kernel
theorem dL_why_281 : decode cL_why 281 = .ok (.istore 12, 2) := by decide +kernel
theorem dL_why_283 : decode cL_why 283 = .ok (.ldc 7, 2) := by decide +kernel
theorem dL_why_285 : decode cL_why 285 = .ok (.istore 13, 2) := by decide +kernel
theorem dL_why_287 : decode cL_why 287 = .ok (.iconst 2, 1) := by decide +kernel
theorem dL_why_288 : decode cL_why 288 = .ok (.istore 14, 2) := by decide +kernel
theorem dL_why_290 : decode cL_why 290 = .ok (.iload 14, 2) := by decide +kernel
theorem dL_why_292 : decode cL_why 292 = .ok (.bipush 6, 2) := by decide +kernel
theorem dL_why_294 : decode cL_why 294 = .ok (.if_icmp .ge 61, 3) := by decide +kernel
theorem dL_why_297 : decode cL_why 297 = .ok (.aload_n 0, 1) := by decide +kernel
theorem dL_why_298 : decode cL_why 298 = .ok (.iload 8, 2) := by decide +kernel
theorem dL_why_300 : decode cL_why 300 = .ok (.iload 14, 2) := by decide +kernel
theorem dL_why_302 : decode cL_why 302 = .ok (.iadd, 1) := by decide +kernel
theorem dL_why_303 : decode cL_why 303 = .ok (.iaload, 1) := by decide +kernel
theorem dL_why_304 : decode cL_why 304 = .ok (.iload 12, 2) := by decide +kernel
theorem dL_why_306 : decode cL_why 306 = .ok (.if_icmp .ge 13, 3) := by decide +kernel
theorem dL_why_309 : decode cL_why 309 = .ok (.aload_n 0, 1) := by decide +kernel
theorem dL_why_310 : decode cL_why 310 = .ok (.iload 8, 2) := by decide +kernel
theorem dL_why_312 : decode cL_why 312 = .ok (.iload 14, 2) := by decide +kernel
theorem dL_why_314 : decode cL_why 314 = .ok (.iadd, 1) := by decide +kernel
theorem dL_why_315 : decode cL_why 315 = .ok (.iaload, 1) := by decide +kernel
theorem dL_why_316 : decode cL_why 316 = .ok (.goto 5, 3) := by decide +kernel
theorem dL_why_319 : decode cL_why 319 = .ok (.iload 12, 2) := by decide +kernel
theorem dL_why_321 : decode cL_why 321 = .ok (.istore 12, 2) := by decide +kernel
theorem dL_why_323 : decode cL_why 323 = .ok (.aload_n 0, 1) := by decide +kernel
theorem dL_why_324 : decode cL_why 324 = .ok (.iload 8, 2) := by decide +kernel
theorem dL_why_326 : decode cL_why 326 = .ok (.iload 14, 2) := by decide +kernel
theorem dL_why_328 : decode cL_why 328 = .ok (.iadd, 1) := by decide +kernel
theorem dL_why_329 : decode cL_why 329 = .ok (.iaload, 1) := by decide +kernel
theorem dL_why_330 : decode cL_why 330 = .ok (.iload 13, 2) := by decide +kernel
theorem dL_why_332 : decode cL_why 332 = .ok (.if_icmp .le 13, 3) := by decide +kernel
theorem dL_why_335 : decode cL_why 335 = .ok (.aload_n 0, 1) := by decide +kernel
theorem dL_why_336 : decode cL_why 336 = .ok (.iload 8, 2) := by decide +kernel
theorem dL_why_338 : decode cL_why 338 = .ok (.iload 14, 2) := by decide +kernel
theorem dL_why_340 : decode cL_why 340 = .ok (.iadd, 1) := by decide +kernel
theorem dL_why_341 : decode cL_why 341 = .ok (.iaload, 1) := by decide +kernel
theorem dL_why_342 : decode cL_why 342 = .ok (.goto 5, 3) := by decide +kernel
theorem dL_why_345 : decode cL_why 345 = .ok (.iload 13, 2) := by decide +kernel
theorem dL_why_347 : decode cL_why 347 = .ok (.istore 13, 2) := by decide +kernel
theorem dL_why_349 : decode cL_why 349 = .ok (.iinc 14 1, 3) := by decide +kernel
theorem dL_why_352 : decode cL_why 352 = .ok (.goto (-62), 3) := by decide +kernel
theorem dL_why_355 : decode cL_why 355 = .ok (.iload 13, 2) := by decide +kernel
theorem dL_why_357 : decode cL_why 357 = .ok (.iload 12, 2) := by decide +kernel
theorem dL_why_359 : decode cL_why 359 = .ok (.isub, 1) := by decide +kernel
theorem dL_why_360 : decode cL_why 360 = .ok (.bipush 6, 2) := by decide +kernel
theorem dL_why_362 : decode cL_why 362 = .ok (.if_icmp .gt 11, 3) := by decide +kernel
theorem dL_why_365 : decode cL_why 365 = .ok (.iload 12, 2) := by decide +kernel
theorem dL_why_367 : decode cL_why 367 = .ok (.sipush 800, 3) := by decide +kernel
theorem dL_why_370 : decode cL_why 370 = .ok (.if_icmp .ge 7, 3) := by decide +kernel
theorem dL_why_373 : decode cL_why 373 = .ok (.iconst 5, 1) := by decide +kernel
theorem dL_why_374 : decode cL_why 374 = .ok (.goto 4, 3) := by decide +kernel
theorem dL_why_377 : decode cL_why 377 = .ok (.iconst 0, 1) := by decide +kernel
theorem dL_why_378 : decode cL_why 378 = .ok (.ireturn, 1) := by decide +kernel
theorem dL_soon_0 : decode cL_soon 0 = .ok (.iconst 0, 1) := by decide +kernel
theorem dL_soon_1 : decode cL_soon 1 = .ok (.istore_n 3, 1) := by decide +kernel
theorem dL_soon_2 : decode cL_soon 2 = .ok (.iconst 0, 1) := by decide +kernel
theorem dL_soon_3 : decode cL_soon 3 = .ok (.istore 4, 2) := by decide +kernel
theorem dL_soon_5 : decode cL_soon 5 = .ok (.iload 4, 2) := by decide +kernel
theorem dL_soon_7 : decode cL_soon 7 = .ok (.iconst 3, 1) := by decide +kernel
theorem dL_soon_8 : decode cL_soon 8 = .ok (.if_icmp .ge 42, 3) := by decide +kernel
theorem dL_soon_11 : decode cL_soon 11 = .ok (.iload_n 3, 1) := by decide +kernel
theorem dL_soon_12 : decode cL_soon 12 = .ok (.ifCond .ne 26, 3) := by decide +kernel
theorem dL_soon_15 : decode cL_soon 15 = .ok (.aload_n 0, 1) := by decide +kernel
theorem dL_soon_16 : decode cL_soon 16 = .ok (.bipush 16, 2) := by decide +kernel
theorem dL_soon_18 : decode cL_soon 18 = .ok (.iload_n 2, 1) := by decide +kernel
theorem dL_soon_19 : decode cL_soon 19 = .ok (.imul, 1) := by decide +kernel
theorem dL_soon_20 : decode cL_soon 20 = .ok (.bipush 6, 2) := by decide +kernel
theorem dL_soon_22 : decode cL_soon 22 = .ok (.iadd, 1) := by decide +kernel
theorem dL_soon_23 : decode cL_soon 23 = .ok (.iload 4, 2) := by decide +kernel
theorem dL_soon_25 : decode cL_soon 25 = .ok (.iadd, 1) := by decide +kernel
theorem dL_soon_26 : decode cL_soon 26 = .ok (.iaload, 1) := by decide +kernel
theorem dL_soon_27 : decode cL_soon 27 = .ok (.iconst 5, 1) := by decide +kernel
theorem dL_soon_28 : decode cL_soon 28 = .ok (.imul, 1) := by decide +kernel
theorem dL_soon_29 : decode cL_soon 29 = .ok (.iconst 4, 1) := by decide +kernel
theorem dL_soon_30 : decode cL_soon 30 = .ok (.aload_n 1, 1) := by decide +kernel
theorem dL_soon_31 : decode cL_soon 31 = .ok (.iload 4, 2) := by decide +kernel
theorem dL_soon_33 : decode cL_soon 33 = .ok (.iaload, 1) := by decide +kernel
theorem dL_soon_34 : decode cL_soon 34 = .ok (.imul, 1) := by decide +kernel
theorem dL_soon_35 : decode cL_soon 35 = .ok (.if_icmp .lt 7, 3) := by decide +kernel
theorem dL_soon_38 : decode cL_soon 38 = .ok (.iconst 1, 1) := by decide +kernel
theorem dL_soon_39 : decode cL_soon 39 = .ok (.goto 4, 3) := by decide +kernel
theorem dL_soon_42 : decode cL_soon 42 = .ok (.iconst 0, 1) := by decide +kernel
theorem dL_soon_43 : decode cL_soon 43 = .ok (.istore_n 3, 1) := by decide +kernel
theorem dL_soon_44 : decode cL_soon 44 = .ok (.iinc 4 1, 3) := by decide +kernel
theorem dL_soon_47 : decode cL_soon 47 = .ok (.goto (-42), 3) := by decide +kernel
theorem dL_soon_50 : decode cL_soon 50 = .ok (.iload_n 3, 1) := by decide +kernel
theorem dL_soon_51 : decode cL_soon 51 = .ok (.ireturn, 1) := by decide +kernel
theorem dL_allocates_0 : decode cL_allocates 0 = .ok (.sipush 1000, 3) := by decide +kernel
theorem dL_allocates_3 : decode cL_allocates 3 = .ok (.istore 7, 2) := by decide +kernel
theorem dL_allocates_5 : decode cL_allocates 5 = .ok (.iconst (-1), 1) := by decide +kernel
theorem dL_allocates_6 : decode cL_allocates 6 = .ok (.istore 8, 2) := by decide +kernel
theorem dL_allocates_8 : decode cL_allocates 8 = .ok (.iconst 0, 1) := by decide +kernel
theorem dL_allocates_9 : decode cL_allocates 9 = .ok (.istore 9, 2) := by decide +kernel
theorem dL_allocates_11 : decode cL_allocates 11 = .ok (.iload 9, 2) := by decide +kernel
theorem dL_allocates_13 : decode cL_allocates 13 = .ok (.bipush 125, 2) := by decide +kernel
theorem dL_allocates_15 : decode cL_allocates 15 = .ok (.if_icmp .ge 323, 3) := by decide +kernel
theorem dL_allocates_18 : decode cL_allocates 18 = .ok (.iload 9, 2) := by decide +kernel
theorem dL_allocates_20 : decode cL_allocates 20 = .ok (.bipush 25, 2) := by decide +kernel
theorem dL_allocates_22 : decode cL_allocates 22 = .ok (.idiv, 1) := by decide +kernel
theorem dL_allocates_23 : decode cL_allocates 23 = .ok (.istore 10, 2) := by decide +kernel
theorem dL_allocates_25 : decode cL_allocates 25 = .ok (.iload 9, 2) := by decide +kernel
theorem dL_allocates_27 : decode cL_allocates 27 = .ok (.iconst 5, 1) := by decide +kernel
theorem dL_allocates_28 : decode cL_allocates 28 = .ok (.idiv, 1) := by decide +kernel
theorem dL_allocates_29 : decode cL_allocates 29 = .ok (.iconst 5, 1) := by decide +kernel
theorem dL_allocates_30 : decode cL_allocates 30 = .ok (.irem, 1) := by decide +kernel
theorem dL_allocates_31 : decode cL_allocates 31 = .ok (.istore 11, 2) := by decide +kernel
theorem dL_allocates_33 : decode cL_allocates 33 = .ok (.iload 9, 2) := by decide +kernel
theorem dL_allocates_35 : decode cL_allocates 35 = .ok (.iconst 5, 1) := by decide +kernel
theorem dL_allocates_36 : decode cL_allocates 36 = .ok (.irem, 1) := by decide +kernel
theorem dL_allocates_37 : decode cL_allocates 37 = .ok (.istore 12, 2) := by decide +kernel
theorem dL_allocates_39 : decode cL_allocates 39 = .ok (.iload 10, 2) := by decide +kernel
theorem dL_allocates_41 : decode cL_allocates 41 = .ok (.iconst 4, 1) := by decide +kernel
theorem dL_allocates_42 : decode cL_allocates 42 = .ok (.if_icmp .eq 17, 3) := by decide +kernel
theorem dL_allocates_45 : decode cL_allocates 45 = .ok (.iload 10, 2) := by decide +kernel
theorem dL_allocates_47 : decode cL_allocates 47 = .ok (.iload 11, 2) := by decide +kernel
theorem dL_allocates_49 : decode cL_allocates 49 = .ok (.if_icmp .eq 27, 3) := by decide +kernel
theorem dL_allocates_52 : decode cL_allocates 52 = .ok (.iload 10, 2) := by decide +kernel
theorem dL_allocates_54 : decode cL_allocates 54 = .ok (.iload 12, 2) := by decide +kernel
theorem dL_allocates_56 : decode cL_allocates 56 = .ok (.if_icmp .eq 20, 3) := by decide +kernel
theorem dL_allocates_59 : decode cL_allocates 59 = .ok (.iload 11, 2) := by decide +kernel
theorem dL_allocates_61 : decode cL_allocates 61 = .ok (.iconst 4, 1) := by decide +kernel
theorem dL_allocates_62 : decode cL_allocates 62 = .ok (.if_icmp .eq 10, 3) := by decide +kernel
theorem dL_allocates_65 : decode cL_allocates 65 = .ok (.iload 11, 2) := by decide +kernel
theorem dL_allocates_67 : decode cL_allocates 67 = .ok (.iload 12, 2) := by decide +kernel
theorem dL_allocates_69 : decode cL_allocates 69 = .ok (.if_icmp .eq 7, 3) := by decide +kernel
theorem dL_allocates_72 : decode cL_allocates 72 = .ok (.iconst 1, 1) := by decide +kernel
theorem dL_allocates_73 : decode cL_allocates 73 = .ok (.goto 4, 3) := by decide +kernel
theorem dL_allocates_76 : decode cL_allocates 76 = .ok (.iconst 0, 1) := by decide +kernel
theorem dL_allocates_77 : decode cL_allocates 77 = .ok (.istore 13, 2) := by decide +kernel
theorem dL_allocates_79 : decode cL_allocates 79 = .ok (.iconst 0, 1) := by decide +kernel
theorem dL_allocates_80 : decode cL_allocates 80 = .ok (.istore 14, 2) := by decide +kernel
theorem dL_allocates_82 : decode cL_allocates 82 = .ok (.iconst 0, 1) := by decide +kernel
theorem dL_allocates_83 : decode cL_allocates 83 = .ok (.istore 15, 2) := by decide +kernel
theorem dL_allocates_85 : decode cL_allocates 85 = .ok (.iconst 0, 1) := by decide +kernel
theorem dL_allocates_86 : decode cL_allocates 86 = .ok (.istore 16, 2) := by decide +kernel
theorem dL_allocates_88 : decode cL_allocates 88 = .ok (.iload 16, 2) := by decide +kernel
theorem dL_allocates_90 : decode cL_allocates 90 = .ok (.iconst 3, 1) := by decide +kernel
theorem dL_allocates_91 : decode cL_allocates 91 = .ok (.if_icmp .ge 159, 3) := by decide +kernel
theorem dL_allocates_94 : decode cL_allocates 94 = .ok (.iload 16, 2) := by decide +kernel
theorem dL_allocates_96 : decode cL_allocates 96 = .ok (.ifCond .ne 8, 3) := by decide +kernel
theorem dL_allocates_99 : decode cL_allocates 99 = .ok (.iload 10, 2) := by decide +kernel
theorem dL_allocates_101 : decode cL_allocates 101 = .ok (.goto 16, 3) := by decide +kernel
theorem dL_allocates_104 : decode cL_allocates 104 = .ok (.iload 16, 2) := by decide +kernel
theorem dL_allocates_106 : decode cL_allocates 106 = .ok (.iconst 1, 1) := by decide +kernel
theorem dL_allocates_107 : decode cL_allocates 107 = .ok (.if_icmp .ne 8, 3) := by decide +kernel
theorem dL_allocates_110 : decode cL_allocates 110 = .ok (.iload 11, 2) := by decide +kernel
theorem dL_allocates_112 : decode cL_allocates 112 = .ok (.goto 5, 3) := by decide +kernel
theorem dL_allocates_115 : decode cL_allocates 115 = .ok (.iload 12, 2) := by decide +kernel
theorem dL_allocates_117 : decode cL_allocates 117 = .ok (.istore 17, 2) := by decide +kernel
theorem dL_allocates_119 : decode cL_allocates 119 = .ok (.iload 13, 2) := by decide +kernel
theorem dL_allocates_121 : decode cL_allocates 121 = .ok (.ifCond .eq 57, 3) := by decide +kernel
theorem dL_allocates_124 : decode cL_allocates 124 = .ok (.iload 17, 2) := by decide +kernel
theorem dL_allocates_126 : decode cL_allocates 126 = .ok (.iconst 4, 1) := by decide +kernel
theorem dL_allocates_127 : decode cL_allocates 127 = .ok (.if_icmp .eq 47, 3) := by decide +kernel
theorem dL_allocates_130 : decode cL_allocates 130 = .ok (.aload_n 0, 1) := by decide +kernel
theorem dL_allocates_131 : decode cL_allocates 131 = .ok (.aload_n 1, 1) := by decide +kernel
theorem dL_allocates_132 : decode cL_allocates 132 = .ok (.aload_n 2, 1) := by decide +kernel
theorem dL_allocates_133 : decode cL_allocates 133 = .ok (.aload_n 3, 1) := by decide +kernel
theorem dL_allocates_134 : decode cL_allocates 134 = .ok (.aload 4, 2) := by decide +kernel
theorem dL_allocates_136 : decode cL_allocates 136 = .ok (.iload 17, 2) := by decide +kernel
theorem dL_allocates_138 : decode cL_allocates 138 = .ok (.iload 16, 2) := by decide +kernel
theorem dL_allocates_140 : decode cL_allocates 140 = .ok (.iload 5, 2) := by decide +kernel
theorem dL_allocates_142 : decode cL_allocates 142 = .ok (.invokestatic 8, 3) := by decide +kernel
theorem dL_allocates_145 : decode cL_allocates 145 = .ok (.ifCond .ne 33, 3) := by decide +kernel
theorem dL_allocates_148 : decode cL_allocates 148 = .ok (.aload_n 3, 1) := by decide +kernel
theorem dL_allocates_149 : decode cL_allocates 149 = .ok (.bipush 6, 2) := by decide +kernel
theorem dL_allocates_151 : decode cL_allocates 151 = .ok (.iload 16, 2) := by decide +kernel
theorem dL_allocates_153 : decode cL_allocates 153 = .ok (.imul, 1) := by decide +kernel
theorem dL_allocates_154 : decode cL_allocates 154 = .ok (.iconst 5, 1) := by decide +kernel
theorem dL_allocates_155 : decode cL_allocates 155 = .ok (.iadd, 1) := by decide +kernel
theorem dL_allocates_156 : decode cL_allocates 156 = .ok (.iaload, 1) := by decide +kernel
theorem dL_allocates_157 : decode cL_allocates 157 = .ok (.ifCond .lt 17, 3) := by decide +kernel
theorem dL_allocates_160 : decode cL_allocates 160 = .ok (.aload_n 3, 1) := by decide +kernel
theorem dL_allocates_161 : decode cL_allocates 161 = .ok (.bipush 6, 2) := by decide +kernel
theorem dL_allocates_163 : decode cL_allocates 163 = .ok (.iload 16, 2) := by decide +kernel
theorem dL_allocates_165 : decode cL_allocates 165 = .ok (.imul, 1) := by decide +kernel
theorem dL_allocates_166 : decode cL_allocates 166 = .ok (.iconst 5, 1) := by decide +kernel
theorem dL_allocates_167 : decode cL_allocates 167 = .ok (.iadd, 1) := by decide +kernel
theorem dL_allocates_168 : decode cL_allocates 168 = .ok (.iaload, 1) := by decide +kernel
theorem dL_allocates_169 : decode cL_allocates 169 = .ok (.iload 17, 2) := by decide +kernel
theorem dL_allocates_171 : decode cL_allocates 171 = .ok (.if_icmp .ne 7, 3) := by decide +kernel
theorem dL_allocates_174 : decode cL_allocates 174 = .ok (.iconst 1, 1) := by decide +kernel
theorem dL_allocates_175 : decode cL_allocates 175 = .ok (.goto 4, 3) := by decide +kernel
theorem dL_allocates_178 : decode cL_allocates 178 = .ok (.iconst 0, 1) := by decide +kernel
theorem dL_allocates_179 : decode cL_allocates 179 = .ok (.istore 13, 2) := by decide +kernel
theorem dL_allocates_181 : decode cL_allocates 181 = .ok (.iload 14, 2) := by decide +kernel
theorem dL_allocates_183 : decode cL_allocates 183 = .ok (.iload 17, 2) := by decide +kernel
theorem dL_allocates_185 : decode cL_allocates 185 = .ok (.iconst 4, 1) := by decide +kernel
theorem dL_allocates_186 : decode cL_allocates 186 = .ok (.if_icmp .ne 15, 3) := by decide +kernel
theorem dL_allocates_189 : decode cL_allocates 189 = .ok (.aload_n 3, 1) := by decide +kernel
theorem dL_allocates_190 : decode cL_allocates 190 = .ok (.bipush 6, 2) := by decide +kernel
theorem dL_allocates_192 : decode cL_allocates 192 = .ok (.iload 16, 2) := by decide +kernel
theorem dL_allocates_194 : decode cL_allocates 194 = .ok (.imul, 1) := by decide +kernel
theorem dL_allocates_195 : decode cL_allocates 195 = .ok (.iconst 4, 1) := by decide +kernel
theorem dL_allocates_196 : decode cL_allocates 196 = .ok (.iadd, 1) := by decide +kernel
theorem dL_allocates_197 : decode cL_allocates 197 = .ok (.iaload, 1) := by decide +kernel
theorem dL_allocates_198 : decode cL_allocates 198 = .ok (.goto 4, 3) := by decide +kernel
theorem dL_allocates_201 : decode cL_allocates 201 = .ok (.iconst 0, 1) := by decide +kernel
theorem dL_allocates_202 : decode cL_allocates 202 = .ok (.iadd, 1) := by decide +kernel
theorem dL_allocates_203 : decode cL_allocates 203 = .ok (.istore 14, 2) := by decide +kernel
theorem dL_allocates_205 : decode cL_allocates 205 = .ok (.iload 15, 2) := by decide +kernel
theorem dL_allocates_207 : decode cL_allocates 207 = .ok (.iload 17, 2) := by decide +kernel
theorem dL_allocates_209 : decode cL_allocates 209 = .ok (.iconst 4, 1) := by decide +kernel
theorem dL_allocates_210 : decode cL_allocates 210 = .ok (.if_icmp .ge 30, 3) := by decide +kernel
theorem dL_allocates_213 : decode cL_allocates 213 = .ok (.aload_n 3, 1) := by decide +kernel
theorem dL_allocates_214 : decode cL_allocates 214 = .ok (.bipush 6, 2) := by decide +kernel
theorem dL_allocates_216 : decode cL_allocates 216 = .ok (.iload 16, 2) := by decide +kernel
theorem dL_allocates_218 : decode cL_allocates 218 = .ok (.imul, 1) := by decide +kernel
theorem dL_allocates_219 : decode cL_allocates 219 = .ok (.iconst 1, 1) := by decide +kernel
theorem dL_allocates_220 : decode cL_allocates 220 = .ok (.iadd, 1) := by decide +kernel
theorem dL_allocates_221 : decode cL_allocates 221 = .ok (.iaload, 1) := by decide +kernel
theorem dL_allocates_222 : decode cL_allocates 222 = .ok (.ifCond .ne 18, 3) := by decide +kernel
theorem dL_allocates_225 : decode cL_allocates 225 = .ok (.aload_n 0, 1) := by decide +kernel
theorem dL_allocates_226 : decode cL_allocates 226 = .ok (.aload 4, 2) := by decide +kernel
theorem dL_allocates_228 : decode cL_allocates 228 = .ok (.iload 17, 2) := by decide +kernel
theorem dL_allocates_230 : decode cL_allocates 230 = .ok (.invokestatic 14, 3) := by decide +kernel
theorem dL_allocates_233 : decode cL_allocates 233 = .ok (.ifCond .eq 7, 3) := by decide +kernel
theorem dL_allocates_236 : decode cL_allocates 236 = .ok (.iconst 1, 1) := by decide +kernel
theorem dL_allocates_237 : decode cL_allocates 237 = .ok (.goto 4, 3) := by decide +kernel
theorem dL_allocates_240 : decode cL_allocates 240 = .ok (.iconst 0, 1) := by decide +kernel
theorem dL_allocates_241 : decode cL_allocates 241 = .ok (.iadd, 1) := by decide +kernel
theorem dL_allocates_242 : decode cL_allocates 242 = .ok (.istore 15, 2) := by decide +kernel
theorem dL_allocates_244 : decode cL_allocates 244 = .ok (.iinc 16 1, 3) := by decide +kernel
theorem dL_allocates_247 : decode cL_allocates 247 = .ok (.goto (-159), 3) := by decide +kernel
theorem dL_allocates_250 : decode cL_allocates 250 = .ok (.iload 13, 2) := by decide +kernel
theorem dL_allocates_252 : decode cL_allocates 252 = .ok (.ifCond .eq 80, 3) := by decide +kernel
theorem dL_allocates_255 : decode cL_allocates 255 = .ok (.iload 14, 2) := by decide +kernel
theorem dL_allocates_257 : decode cL_allocates 257 = .ok (.iload 7, 2) := by decide +kernel
theorem dL_allocates_259 : decode cL_allocates 259 = .ok (.if_icmp .lt 17, 3) := by decide +kernel
theorem dL_allocates_262 : decode cL_allocates 262 = .ok (.iload 14, 2) := by decide +kernel
theorem dL_allocates_264 : decode cL_allocates 264 = .ok (.iload 7, 2) := by decide +kernel
theorem dL_allocates_266 : decode cL_allocates 266 = .ok (.if_icmp .ne 66, 3) := by decide +kernel
theorem dL_allocates_269 : decode cL_allocates 269 = .ok (.iload 15, 2) := by decide +kernel
theorem dL_allocates_271 : decode cL_allocates 271 = .ok (.iload 8, 2) := by decide +kernel
theorem dL_allocates_273 : decode cL_allocates 273 = .ok (.if_icmp .le 59, 3) := by decide +kernel
theorem dL_allocates_276 : decode cL_allocates 276 = .ok (.iload 14, 2) := by decide +kernel
theorem dL_allocates_278 : decode cL_allocates 278 = .ok (.istore 7, 2) := by decide +kernel
theorem dL_allocates_280 : decode cL_allocates 280 = .ok (.iload 15, 2) := by decide +kernel
theorem dL_allocates_282 : decode cL_allocates 282 = .ok (.istore 8, 2) := by decide +kernel
theorem dL_allocates_284 : decode cL_allocates 284 = .ok (.aload 6, 2) := by decide +kernel
theorem dL_allocates_286 : decode cL_allocates 286 = .ok (.iconst 0, 1) := by decide +kernel
theorem dL_allocates_287 : decode cL_allocates 287 = .ok (.iload 10, 2) := by decide +kernel
theorem dL_allocates_289 : decode cL_allocates 289 = .ok (.iconst 4, 1) := by decide +kernel
theorem dL_allocates_290 : decode cL_allocates 290 = .ok (.if_icmp .ne 7, 3) := by decide +kernel
theorem dL_allocates_293 : decode cL_allocates 293 = .ok (.iconst (-1), 1) := by decide +kernel
theorem dL_allocates_294 : decode cL_allocates 294 = .ok (.goto 5, 3) := by decide +kernel
theorem dL_allocates_297 : decode cL_allocates 297 = .ok (.iload 10, 2) := by decide +kernel
theorem dL_allocates_299 : decode cL_allocates 299 = .ok (.iastore, 1) := by decide +kernel
theorem dL_allocates_300 : decode cL_allocates 300 = .ok (.aload 6, 2) := by decide +kernel
theorem dL_allocates_302 : decode cL_allocates 302 = .ok (.iconst 1, 1) := by decide +kernel
theorem dL_allocates_303 : decode cL_allocates 303 = .ok (.iload 11, 2) := by decide +kernel
theorem dL_allocates_305 : decode cL_allocates 305 = .ok (.iconst 4, 1) := by decide +kernel
theorem dL_allocates_306 : decode cL_allocates 306 = .ok (.if_icmp .ne 7, 3) := by decide +kernel
theorem dL_allocates_309 : decode cL_allocates 309 = .ok (.iconst (-1), 1) := by decide +kernel
theorem dL_allocates_310 : decode cL_allocates 310 = .ok (.goto 5, 3) := by decide +kernel
theorem dL_allocates_313 : decode cL_allocates 313 = .ok (.iload 11, 2) := by decide +kernel
theorem dL_allocates_315 : decode cL_allocates 315 = .ok (.iastore, 1) := by decide +kernel
theorem dL_allocates_316 : decode cL_allocates 316 = .ok (.aload 6, 2) := by decide +kernel
theorem dL_allocates_318 : decode cL_allocates 318 = .ok (.iconst 2, 1) := by decide +kernel
theorem dL_allocates_319 : decode cL_allocates 319 = .ok (.iload 12, 2) := by decide +kernel
theorem dL_allocates_321 : decode cL_allocates 321 = .ok (.iconst 4, 1) := by decide +kernel
theorem dL_allocates_322 : decode cL_allocates 322 = .ok (.if_icmp .ne 7, 3) := by decide +kernel
theorem dL_allocates_325 : decode cL_allocates 325 = .ok (.iconst (-1), 1) := by decide +kernel
theorem dL_allocates_326 : decode cL_allocates 326 = .ok (.goto 5, 3) := by decide +kernel
theorem dL_allocates_329 : decode cL_allocates 329 = .ok (.iload 12, 2) := by decide +kernel
theorem dL_allocates_331 : decode cL_allocates 331 = .ok (.iastore, 1) := by decide +kernel
theorem dL_allocates_332 : decode cL_allocates 332 = .ok (.iinc 9 1, 3) := by decide +kernel
theorem dL_allocates_335 : decode cL_allocates 335 = .ok (.goto (-324), 3) := by decide +kernel
theorem dL_allocates_338 : decode cL_allocates 338 = .ok (.iload 7, 2) := by decide +kernel
theorem dL_allocates_340 : decode cL_allocates 340 = .ok (.ireturn, 1) := by decide +kernel
theorem dL_place_0 : decode cL_place 0 = .ok (.iconst 0, 1) := by decide +kernel
theorem dL_place_1 : decode cL_place 1 = .ok (.istore_n 3, 1) := by decide +kernel
theorem dL_place_2 : decode cL_place 2 = .ok (.iconst 0, 1) := by decide +kernel
theorem dL_place_3 : decode cL_place 3 = .ok (.istore 4, 2) := by decide +kernel
theorem dL_place_5 : decode cL_place 5 = .ok (.iload 4, 2) := by decide +kernel
theorem dL_place_7 : decode cL_place 7 = .ok (.aload_n 1, 1) := by decide +kernel
theorem dL_place_8 : decode cL_place 8 = .ok (.bipush 12, 2) := by decide +kernel
theorem dL_place_10 : decode cL_place 10 = .ok (.aload_n 0, 1) := by decide +kernel
theorem dL_place_11 : decode cL_place 11 = .ok (.bipush 16, 2) := by decide +kernel
theorem dL_place_13 : decode cL_place 13 = .ok (.iload_n 2, 1) := by decide +kernel
theorem dL_place_14 : decode cL_place 14 = .ok (.imul, 1) := by decide +kernel
theorem dL_place_15 : decode cL_place 15 = .ok (.iaload, 1) := by decide +kernel
theorem dL_place_16 : decode cL_place 16 = .ok (.iadd, 1) := by decide +kernel
theorem dL_place_17 : decode cL_place 17 = .ok (.iaload, 1) := by decide +kernel
theorem dL_place_18 : decode cL_place 18 = .ok (.if_icmp .ge 33, 3) := by decide +kernel
theorem dL_place_21 : decode cL_place 21 = .ok (.aload_n 1, 1) := by decide +kernel
theorem dL_place_22 : decode cL_place 22 = .ok (.iconst 4, 1) := by decide +kernel
theorem dL_place_23 : decode cL_place 23 = .ok (.aload_n 0, 1) := by decide +kernel
theorem dL_place_24 : decode cL_place 24 = .ok (.bipush 16, 2) := by decide +kernel
theorem dL_place_26 : decode cL_place 26 = .ok (.iload_n 2, 1) := by decide +kernel
theorem dL_place_27 : decode cL_place 27 = .ok (.imul, 1) := by decide +kernel
theorem dL_place_28 : decode cL_place 28 = .ok (.iaload, 1) := by decide +kernel
theorem dL_place_29 : decode cL_place 29 = .ok (.imul, 1) := by decide +kernel
theorem dL_place_30 : decode cL_place 30 = .ok (.iload 4, 2) := by decide +kernel
theorem dL_place_32 : decode cL_place 32 = .ok (.iadd, 1) := by decide +kernel
theorem dL_place_33 : decode cL_place 33 = .ok (.iaload, 1) := by decide +kernel
theorem dL_place_34 : decode cL_place 34 = .ok (.iload_n 2, 1) := by decide +kernel
theorem dL_place_35 : decode cL_place 35 = .ok (.if_icmp .ne 8, 3) := by decide +kernel
theorem dL_place_38 : decode cL_place 38 = .ok (.iload 4, 2) := by decide +kernel
theorem dL_place_40 : decode cL_place 40 = .ok (.goto 4, 3) := by decide +kernel
theorem dL_place_43 : decode cL_place 43 = .ok (.iload_n 3, 1) := by decide +kernel
theorem dL_place_44 : decode cL_place 44 = .ok (.istore_n 3, 1) := by decide +kernel
theorem dL_place_45 : decode cL_place 45 = .ok (.iinc 4 1, 3) := by decide +kernel
theorem dL_place_48 : decode cL_place 48 = .ok (.goto (-43), 3) := by decide +kernel
theorem dL_place_51 : decode cL_place 51 = .ok (.iload_n 3, 1) := by decide +kernel
theorem dL_place_52 : decode cL_place 52 = .ok (.ireturn, 1) := by decide +kernel
theorem dL_runs_0 : decode cL_runs 0 = .ok (.iconst 0, 1) := by decide +kernel
theorem dL_runs_1 : decode cL_runs 1 = .ok (.istore 4, 2) := by decide +kernel
theorem dL_runs_3 : decode cL_runs 3 = .ok (.iconst 0, 1) := by decide +kernel
theorem dL_runs_4 : decode cL_runs 4 = .ok (.istore 5, 2) := by decide +kernel
theorem dL_runs_6 : decode cL_runs 6 = .ok (.iload 5, 2) := by decide +kernel
theorem dL_runs_8 : decode cL_runs 8 = .ok (.iconst 3, 1) := by decide +kernel
theorem dL_runs_9 : decode cL_runs 9 = .ok (.if_icmp .ge 110, 3) := by decide +kernel
theorem dL_runs_12 : decode cL_runs 12 = .ok (.aload_n 3, 1) := by decide +kernel
theorem dL_runs_13 : decode cL_runs 13 = .ok (.iload 5, 2) := by decide +kernel
theorem dL_runs_15 : decode cL_runs 15 = .ok (.iaload, 1) := by decide +kernel
theorem dL_runs_16 : decode cL_runs 16 = .ok (.ifCond .lt 97, 3) := by decide +kernel
theorem dL_runs_19 : decode cL_runs 19 = .ok (.aload_n 0, 1) := by decide +kernel
theorem dL_runs_20 : decode cL_runs 20 = .ok (.bipush 16, 2) := by decide +kernel
theorem dL_runs_22 : decode cL_runs 22 = .ok (.aload_n 3, 1) := by decide +kernel
theorem dL_runs_23 : decode cL_runs 23 = .ok (.iload 5, 2) := by decide +kernel
theorem dL_runs_25 : decode cL_runs 25 = .ok (.iaload, 1) := by decide +kernel
theorem dL_runs_26 : decode cL_runs 26 = .ok (.imul, 1) := by decide +kernel
theorem dL_runs_27 : decode cL_runs 27 = .ok (.iaload, 1) := by decide +kernel
theorem dL_runs_28 : decode cL_runs 28 = .ok (.istore 6, 2) := by decide +kernel
theorem dL_runs_30 : decode cL_runs 30 = .ok (.aload_n 0, 1) := by decide +kernel
theorem dL_runs_31 : decode cL_runs 31 = .ok (.aload_n 1, 1) := by decide +kernel
theorem dL_runs_32 : decode cL_runs 32 = .ok (.aload_n 3, 1) := by decide +kernel
theorem dL_runs_33 : decode cL_runs 33 = .ok (.iload 5, 2) := by decide +kernel
theorem dL_runs_35 : decode cL_runs 35 = .ok (.iaload, 1) := by decide +kernel
theorem dL_runs_36 : decode cL_runs 36 = .ok (.invokestatic 18, 3) := by decide +kernel
theorem dL_runs_39 : decode cL_runs 39 = .ok (.istore 7, 2) := by decide +kernel
theorem dL_runs_41 : decode cL_runs 41 = .ok (.iload 4, 2) := by decide +kernel
theorem dL_runs_43 : decode cL_runs 43 = .ok (.aload_n 1, 1) := by decide +kernel
theorem dL_runs_44 : decode cL_runs 44 = .ok (.bipush 12, 2) := by decide +kernel
theorem dL_runs_46 : decode cL_runs 46 = .ok (.iload 6, 2) := by decide +kernel
theorem dL_runs_48 : decode cL_runs 48 = .ok (.iadd, 1) := by decide +kernel
theorem dL_runs_49 : decode cL_runs 49 = .ok (.iaload, 1) := by decide +kernel
theorem dL_runs_50 : decode cL_runs 50 = .ok (.iconst 1, 1) := by decide +kernel
theorem dL_runs_51 : decode cL_runs 51 = .ok (.isub, 1) := by decide +kernel
theorem dL_runs_52 : decode cL_runs 52 = .ok (.iload 7, 2) := by decide +kernel
theorem dL_runs_54 : decode cL_runs 54 = .ok (.isub, 1) := by decide +kernel
theorem dL_runs_55 : decode cL_runs 55 = .ok (.iadd, 1) := by decide +kernel
theorem dL_runs_56 : decode cL_runs 56 = .ok (.istore 4, 2) := by decide +kernel
theorem dL_runs_58 : decode cL_runs 58 = .ok (.iload 7, 2) := by decide +kernel
theorem dL_runs_60 : decode cL_runs 60 = .ok (.istore 8, 2) := by decide +kernel
theorem dL_runs_62 : decode cL_runs 62 = .ok (.iload 8, 2) := by decide +kernel
theorem dL_runs_64 : decode cL_runs 64 = .ok (.aload_n 1, 1) := by decide +kernel
theorem dL_runs_65 : decode cL_runs 65 = .ok (.bipush 12, 2) := by decide +kernel
theorem dL_runs_67 : decode cL_runs 67 = .ok (.iload 6, 2) := by decide +kernel
theorem dL_runs_69 : decode cL_runs 69 = .ok (.iadd, 1) := by decide +kernel
theorem dL_runs_70 : decode cL_runs 70 = .ok (.iaload, 1) := by decide +kernel
theorem dL_runs_71 : decode cL_runs 71 = .ok (.iconst 1, 1) := by decide +kernel
theorem dL_runs_72 : decode cL_runs 72 = .ok (.isub, 1) := by decide +kernel
theorem dL_runs_73 : decode cL_runs 73 = .ok (.if_icmp .ge 29, 3) := by decide +kernel
theorem dL_runs_76 : decode cL_runs 76 = .ok (.aload_n 1, 1) := by decide +kernel
theorem dL_runs_77 : decode cL_runs 77 = .ok (.iconst 4, 1) := by decide +kernel
theorem dL_runs_78 : decode cL_runs 78 = .ok (.iload 6, 2) := by decide +kernel
theorem dL_runs_80 : decode cL_runs 80 = .ok (.imul, 1) := by decide +kernel
theorem dL_runs_81 : decode cL_runs 81 = .ok (.iload 8, 2) := by decide +kernel
theorem dL_runs_83 : decode cL_runs 83 = .ok (.iadd, 1) := by decide +kernel
theorem dL_runs_84 : decode cL_runs 84 = .ok (.aload_n 1, 1) := by decide +kernel
theorem dL_runs_85 : decode cL_runs 85 = .ok (.iconst 4, 1) := by decide +kernel
theorem dL_runs_86 : decode cL_runs 86 = .ok (.iload 6, 2) := by decide +kernel
theorem dL_runs_88 : decode cL_runs 88 = .ok (.imul, 1) := by decide +kernel
theorem dL_runs_89 : decode cL_runs 89 = .ok (.iload 8, 2) := by decide +kernel
theorem dL_runs_91 : decode cL_runs 91 = .ok (.iadd, 1) := by decide +kernel
theorem dL_runs_92 : decode cL_runs 92 = .ok (.iconst 1, 1) := by decide +kernel
theorem dL_runs_93 : decode cL_runs 93 = .ok (.iadd, 1) := by decide +kernel
theorem dL_runs_94 : decode cL_runs 94 = .ok (.iaload, 1) := by decide +kernel
theorem dL_runs_95 : decode cL_runs 95 = .ok (.iastore, 1) := by decide +kernel
theorem dL_runs_96 : decode cL_runs 96 = .ok (.iinc 8 1, 3) := by decide +kernel
theorem dL_runs_99 : decode cL_runs 99 = .ok (.goto (-37), 3) := by decide +kernel
theorem dL_runs_102 : decode cL_runs 102 = .ok (.aload_n 1, 1) := by decide +kernel
theorem dL_runs_103 : decode cL_runs 103 = .ok (.bipush 12, 2) := by decide +kernel
theorem dL_runs_105 : decode cL_runs 105 = .ok (.iload 6, 2) := by decide +kernel
theorem dL_runs_107 : decode cL_runs 107 = .ok (.iadd, 1) := by decide +kernel
theorem dL_runs_108 : decode cL_runs 108 = .ok (.dup2, 1) := by decide +kernel
theorem dL_runs_109 : decode cL_runs 109 = .ok (.iaload, 1) := by decide +kernel
theorem dL_runs_110 : decode cL_runs 110 = .ok (.iconst 1, 1) := by decide +kernel
theorem dL_runs_111 : decode cL_runs 111 = .ok (.isub, 1) := by decide +kernel
theorem dL_runs_112 : decode cL_runs 112 = .ok (.iastore, 1) := by decide +kernel
theorem dL_runs_113 : decode cL_runs 113 = .ok (.iinc 5 1, 3) := by decide +kernel
theorem dL_runs_116 : decode cL_runs 116 = .ok (.goto (-110), 3) := by decide +kernel
theorem dL_runs_119 : decode cL_runs 119 = .ok (.iconst 0, 1) := by decide +kernel
theorem dL_runs_120 : decode cL_runs 120 = .ok (.istore 5, 2) := by decide +kernel
theorem dL_runs_122 : decode cL_runs 122 = .ok (.iload 5, 2) := by decide +kernel
theorem dL_runs_124 : decode cL_runs 124 = .ok (.iconst 3, 1) := by decide +kernel
theorem dL_runs_125 : decode cL_runs 125 = .ok (.if_icmp .ge 202, 3) := by decide +kernel
theorem dL_runs_128 : decode cL_runs 128 = .ok (.aload_n 3, 1) := by decide +kernel
theorem dL_runs_129 : decode cL_runs 129 = .ok (.iload 5, 2) := by decide +kernel
theorem dL_runs_131 : decode cL_runs 131 = .ok (.iaload, 1) := by decide +kernel
theorem dL_runs_132 : decode cL_runs 132 = .ok (.ifCond .lt 189, 3) := by decide +kernel
theorem dL_runs_135 : decode cL_runs 135 = .ok (.bipush 16, 2) := by decide +kernel
theorem dL_runs_137 : decode cL_runs 137 = .ok (.aload_n 3, 1) := by decide +kernel
theorem dL_runs_138 : decode cL_runs 138 = .ok (.iload 5, 2) := by decide +kernel
theorem dL_runs_140 : decode cL_runs 140 = .ok (.iaload, 1) := by decide +kernel
theorem dL_runs_141 : decode cL_runs 141 = .ok (.imul, 1) := by decide +kernel
theorem dL_runs_142 : decode cL_runs 142 = .ok (.istore 6, 2) := by decide +kernel
theorem dL_runs_144 : decode cL_runs 144 = .ok (.aload_n 2, 1) := by decide +kernel
theorem dL_runs_145 : decode cL_runs 145 = .ok (.bipush 6, 2) := by decide +kernel
theorem dL_runs_147 : decode cL_runs 147 = .ok (.iload 5, 2) := by decide +kernel
theorem dL_runs_149 : decode cL_runs 149 = .ok (.imul, 1) := by decide +kernel
theorem dL_runs_150 : decode cL_runs 150 = .ok (.iconst 1, 1) := by decide +kernel
theorem dL_runs_151 : decode cL_runs 151 = .ok (.iadd, 1) := by decide +kernel
theorem dL_runs_152 : decode cL_runs 152 = .ok (.iaload, 1) := by decide +kernel
theorem dL_runs_153 : decode cL_runs 153 = .ok (.istore 7, 2) := by decide +kernel
theorem dL_runs_155 : decode cL_runs 155 = .ok (.aload_n 1, 1) := by decide +kernel
theorem dL_runs_156 : decode cL_runs 156 = .ok (.iconst 4, 1) := by decide +kernel
theorem dL_runs_157 : decode cL_runs 157 = .ok (.iload 7, 2) := by decide +kernel
theorem dL_runs_159 : decode cL_runs 159 = .ok (.imul, 1) := by decide +kernel
theorem dL_runs_160 : decode cL_runs 160 = .ok (.aload_n 1, 1) := by decide +kernel
theorem dL_runs_161 : decode cL_runs 161 = .ok (.bipush 12, 2) := by decide +kernel
theorem dL_runs_163 : decode cL_runs 163 = .ok (.iload 7, 2) := by decide +kernel
theorem dL_runs_165 : decode cL_runs 165 = .ok (.iadd, 1) := by decide +kernel
theorem dL_runs_166 : decode cL_runs 166 = .ok (.iaload, 1) := by decide +kernel
theorem dL_runs_167 : decode cL_runs 167 = .ok (.iadd, 1) := by decide +kernel
theorem dL_runs_168 : decode cL_runs 168 = .ok (.aload_n 3, 1) := by decide +kernel
theorem dL_runs_169 : decode cL_runs 169 = .ok (.iload 5, 2) := by decide +kernel
theorem dL_runs_171 : decode cL_runs 171 = .ok (.iaload, 1) := by decide +kernel
theorem dL_runs_172 : decode cL_runs 172 = .ok (.iastore, 1) := by decide +kernel
theorem dL_runs_173 : decode cL_runs 173 = .ok (.aload_n 1, 1) := by decide +kernel
theorem dL_runs_174 : decode cL_runs 174 = .ok (.bipush 12, 2) := by decide +kernel
theorem dL_runs_176 : decode cL_runs 176 = .ok (.iload 7, 2) := by decide +kernel
theorem dL_runs_178 : decode cL_runs 178 = .ok (.iadd, 1) := by decide +kernel
theorem dL_runs_179 : decode cL_runs 179 = .ok (.dup2, 1) := by decide +kernel
theorem dL_runs_180 : decode cL_runs 180 = .ok (.iaload, 1) := by decide +kernel
theorem dL_runs_181 : decode cL_runs 181 = .ok (.iconst 1, 1) := by decide +kernel
theorem dL_runs_182 : decode cL_runs 182 = .ok (.iadd, 1) := by decide +kernel
theorem dL_runs_183 : decode cL_runs 183 = .ok (.iastore, 1) := by decide +kernel
theorem dL_runs_184 : decode cL_runs 184 = .ok (.aload_n 0, 1) := by decide +kernel
theorem dL_runs_185 : decode cL_runs 185 = .ok (.iload 6, 2) := by decide +kernel
theorem dL_runs_187 : decode cL_runs 187 = .ok (.iload 7, 2) := by decide +kernel
theorem dL_runs_189 : decode cL_runs 189 = .ok (.iastore, 1) := by decide +kernel
