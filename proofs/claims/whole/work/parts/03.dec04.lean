theorem dXE_init_0 : decode cXE_init 0 = .ok (.aload_n 0, 1) := by decide +kernel
theorem dXE_init_1 : decode cXE_init 1 = .ok (.invokespecial 3, 3) := by decide +kernel
theorem dXE_init_4 : decode cXE_init 4 = .ok (.aload_n 0, 1) := by decide +kernel
theorem dXE_init_5 : decode cXE_init 5 = .ok (.aload_n 1, 1) := by decide +kernel
theorem dXE_init_6 : decode cXE_init 6 = .ok (.putfield 9, 3) := by decide +kernel
theorem dXE_init_9 : decode cXE_init 9 = .ok (.aload_n 0, 1) := by decide +kernel
theorem dXE_init_10 : decode cXE_init 10 = .ok (.aload_n 1, 1) := by decide +kernel
theorem dXE_init_11 : decode cXE_init 11 = .ok (.invokevirtual 15, 3) := by decide +kernel
theorem dXE_init_14 : decode cXE_init 14 = .ok (.newarray .int, 2) := by decide +kernel
theorem dXE_init_16 : decode cXE_init 16 = .ok (.putfield 21, 3) := by decide +kernel
theorem dXE_init_19 : decode cXE_init 19 = .ok (.return_, 1) := by decide +kernel
theorem dXE_clears_0 : decode cXE_clears 0 = .ok (.iload_n 1, 1) := by decide +kernel
theorem dXE_clears_1 : decode cXE_clears 1 = .ok (.istore_n 2, 1) := by decide +kernel
theorem dXE_clears_2 : decode cXE_clears 2 = .ok (.iconst 0, 1) := by decide +kernel
theorem dXE_clears_3 : decode cXE_clears 3 = .ok (.istore_n 3, 1) := by decide +kernel
theorem dXE_clears_4 : decode cXE_clears 4 = .ok (.iload_n 3, 1) := by decide +kernel
theorem dXE_clears_5 : decode cXE_clears 5 = .ok (.aload_n 0, 1) := by decide +kernel
theorem dXE_clears_6 : decode cXE_clears 6 = .ok (.getfield 9, 3) := by decide +kernel
theorem dXE_clears_9 : decode cXE_clears 9 = .ok (.invokevirtual 15, 3) := by decide +kernel
theorem dXE_clears_12 : decode cXE_clears 12 = .ok (.if_icmp .ge 54, 3) := by decide +kernel
theorem dXE_clears_15 : decode cXE_clears 15 = .ok (.iload_n 2, 1) := by decide +kernel
theorem dXE_clears_16 : decode cXE_clears 16 = .ok (.iload_n 3, 1) := by decide +kernel
theorem dXE_clears_17 : decode cXE_clears 17 = .ok (.invokestatic 33, 3) := by decide +kernel
theorem dXE_clears_20 : decode cXE_clears 20 = .ok (.ifCond .eq 40, 3) := by decide +kernel
theorem dXE_clears_23 : decode cXE_clears 23 = .ok (.aload_n 0, 1) := by decide +kernel
theorem dXE_clears_24 : decode cXE_clears 24 = .ok (.getfield 9, 3) := by decide +kernel
theorem dXE_clears_27 : decode cXE_clears 27 = .ok (.iload_n 3, 1) := by decide +kernel
theorem dXE_clears_28 : decode cXE_clears 28 = .ok (.iload_n 1, 1) := by decide +kernel
theorem dXE_clears_29 : decode cXE_clears 29 = .ok (.invokevirtual 37, 3) := by decide +kernel
theorem dXE_clears_32 : decode cXE_clears 32 = .ok (.istore 4, 2) := by decide +kernel
theorem dXE_clears_34 : decode cXE_clears 34 = .ok (.iload_n 2, 1) := by decide +kernel
theorem dXE_clears_35 : decode cXE_clears 35 = .ok (.iload 4, 2) := by decide +kernel
theorem dXE_clears_37 : decode cXE_clears 37 = .ok (.iconst (-1), 1) := by decide +kernel
theorem dXE_clears_38 : decode cXE_clears 38 = .ok (.ixor, 1) := by decide +kernel
theorem dXE_clears_39 : decode cXE_clears 39 = .ok (.iand, 1) := by decide +kernel
theorem dXE_clears_40 : decode cXE_clears 40 = .ok (.istore_n 2, 1) := by decide +kernel
theorem dXE_clears_41 : decode cXE_clears 41 = .ok (.aload_n 0, 1) := by decide +kernel
theorem dXE_clears_42 : decode cXE_clears 42 = .ok (.iload 4, 2) := by decide +kernel
theorem dXE_clears_44 : decode cXE_clears 44 = .ok (.invokevirtual 25, 3) := by decide +kernel
theorem dXE_clears_47 : decode cXE_clears 47 = .ok (.aload_n 0, 1) := by decide +kernel
theorem dXE_clears_48 : decode cXE_clears 48 = .ok (.getfield 41, 3) := by decide +kernel
theorem dXE_clears_51 : decode cXE_clears 51 = .ok (.invokestatic 44, 3) := by decide +kernel
theorem dXE_clears_54 : decode cXE_clears 54 = .ok (.iconst 1, 1) := by decide +kernel
theorem dXE_clears_55 : decode cXE_clears 55 = .ok (.if_icmp .eq 5, 3) := by decide +kernel
theorem dXE_clears_58 : decode cXE_clears 58 = .ok (.iconst 0, 1) := by decide +kernel
theorem dXE_clears_59 : decode cXE_clears 59 = .ok (.ireturn, 1) := by decide +kernel
theorem dXE_clears_60 : decode cXE_clears 60 = .ok (.iinc 3 1, 3) := by decide +kernel
theorem dXE_clears_63 : decode cXE_clears 63 = .ok (.goto (-59), 3) := by decide +kernel
theorem dXE_clears_66 : decode cXE_clears 66 = .ok (.iconst 1, 1) := by decide +kernel
theorem dXE_clears_67 : decode cXE_clears 67 = .ok (.ireturn, 1) := by decide +kernel
theorem dXE_run_0 : decode cXE_run 0 = .ok (.aload_n 0, 1) := by decide +kernel
theorem dXE_run_1 : decode cXE_run 1 = .ok (.iload_n 1, 1) := by decide +kernel
theorem dXE_run_2 : decode cXE_run 2 = .ok (.putfield 41, 3) := by decide +kernel
theorem dXE_run_5 : decode cXE_run 5 = .ok (.aload_n 0, 1) := by decide +kernel
theorem dXE_run_6 : decode cXE_run 6 = .ok (.iconst 0, 1) := by decide +kernel
theorem dXE_run_7 : decode cXE_run 7 = .ok (.putfield 29, 3) := by decide +kernel
theorem dXE_run_10 : decode cXE_run 10 = .ok (.aload_n 0, 1) := by decide +kernel
theorem dXE_run_11 : decode cXE_run 11 = .ok (.invokevirtual 54, 3) := by decide +kernel
theorem dXE_run_14 : decode cXE_run 14 = .ok (.istore_n 2, 1) := by decide +kernel
theorem dXE_run_15 : decode cXE_run 15 = .ok (.iload_n 2, 1) := by decide +kernel
theorem dXE_run_16 : decode cXE_run 16 = .ok (.iconst (-1), 1) := by decide +kernel
theorem dXE_run_17 : decode cXE_run 17 = .ok (.if_icmp .eq 60, 3) := by decide +kernel
theorem dXE_run_20 : decode cXE_run 20 = .ok (.aload_n 0, 1) := by decide +kernel
theorem dXE_run_21 : decode cXE_run 21 = .ok (.getfield 29, 3) := by decide +kernel
theorem dXE_run_24 : decode cXE_run 24 = .ok (.aload_n 0, 1) := by decide +kernel
theorem dXE_run_25 : decode cXE_run 25 = .ok (.getfield 21, 3) := by decide +kernel
theorem dXE_run_28 : decode cXE_run 28 = .ok (.arraylength, 1) := by decide +kernel
theorem dXE_run_29 : decode cXE_run 29 = .ok (.if_icmp .ge 48, 3) := by decide +kernel
theorem dXE_run_32 : decode cXE_run 32 = .ok (.aload_n 0, 1) := by decide +kernel
theorem dXE_run_33 : decode cXE_run 33 = .ok (.getfield 21, 3) := by decide +kernel
theorem dXE_run_36 : decode cXE_run 36 = .ok (.aload_n 0, 1) := by decide +kernel
theorem dXE_run_37 : decode cXE_run 37 = .ok (.getfield 29, 3) := by decide +kernel
theorem dXE_run_40 : decode cXE_run 40 = .ok (.iload_n 2, 1) := by decide +kernel
theorem dXE_run_41 : decode cXE_run 41 = .ok (.iastore, 1) := by decide +kernel
theorem dXE_run_42 : decode cXE_run 42 = .ok (.aload_n 0, 1) := by decide +kernel
theorem dXE_run_43 : decode cXE_run 43 = .ok (.dup, 1) := by decide +kernel
theorem dXE_run_44 : decode cXE_run 44 = .ok (.getfield 29, 3) := by decide +kernel
theorem dXE_run_47 : decode cXE_run 47 = .ok (.iconst 1, 1) := by decide +kernel
theorem dXE_run_48 : decode cXE_run 48 = .ok (.iadd, 1) := by decide +kernel
theorem dXE_run_49 : decode cXE_run 49 = .ok (.putfield 29, 3) := by decide +kernel
theorem dXE_run_52 : decode cXE_run 52 = .ok (.aload_n 0, 1) := by decide +kernel
theorem dXE_run_53 : decode cXE_run 53 = .ok (.dup, 1) := by decide +kernel
theorem dXE_run_54 : decode cXE_run 54 = .ok (.getfield 41, 3) := by decide +kernel
theorem dXE_run_57 : decode cXE_run 57 = .ok (.iconst 1, 1) := by decide +kernel
theorem dXE_run_58 : decode cXE_run 58 = .ok (.iload_n 2, 1) := by decide +kernel
theorem dXE_run_59 : decode cXE_run 59 = .ok (.bipush 16, 2) := by decide +kernel
theorem dXE_run_61 : decode cXE_run 61 = .ok (.irem, 1) := by decide +kernel
theorem dXE_run_62 : decode cXE_run 62 = .ok (.ishl, 1) := by decide +kernel
theorem dXE_run_63 : decode cXE_run 63 = .ok (.iconst (-1), 1) := by decide +kernel
theorem dXE_run_64 : decode cXE_run 64 = .ok (.ixor, 1) := by decide +kernel
theorem dXE_run_65 : decode cXE_run 65 = .ok (.iand, 1) := by decide +kernel
theorem dXE_run_66 : decode cXE_run 66 = .ok (.putfield 41, 3) := by decide +kernel
theorem dXE_run_69 : decode cXE_run 69 = .ok (.aload_n 0, 1) := by decide +kernel
theorem dXE_run_70 : decode cXE_run 70 = .ok (.invokevirtual 54, 3) := by decide +kernel
theorem dXE_run_73 : decode cXE_run 73 = .ok (.istore_n 2, 1) := by decide +kernel
theorem dXE_run_74 : decode cXE_run 74 = .ok (.goto (-59), 3) := by decide +kernel
theorem dXE_run_77 : decode cXE_run 77 = .ok (.return_, 1) := by decide +kernel
theorem dXE_nextStep_0 : decode cXE_nextStep 0 = .ok (.aload_n 0, 1) := by decide +kernel
theorem dXE_nextStep_1 : decode cXE_nextStep 1 = .ok (.getfield 9, 3) := by decide +kernel
theorem dXE_nextStep_4 : decode cXE_nextStep 4 = .ok (.invokevirtual 15, 3) := by decide +kernel
theorem dXE_nextStep_7 : decode cXE_nextStep 7 = .ok (.iconst 1, 1) := by decide +kernel
theorem dXE_nextStep_8 : decode cXE_nextStep 8 = .ok (.isub, 1) := by decide +kernel
theorem dXE_nextStep_9 : decode cXE_nextStep 9 = .ok (.istore_n 1, 1) := by decide +kernel
theorem dXE_nextStep_10 : decode cXE_nextStep 10 = .ok (.iload_n 1, 1) := by decide +kernel
theorem dXE_nextStep_11 : decode cXE_nextStep 11 = .ok (.ifCond .lt 37, 3) := by decide +kernel
theorem dXE_nextStep_14 : decode cXE_nextStep 14 = .ok (.aload_n 0, 1) := by decide +kernel
theorem dXE_nextStep_15 : decode cXE_nextStep 15 = .ok (.getfield 41, 3) := by decide +kernel
theorem dXE_nextStep_18 : decode cXE_nextStep 18 = .ok (.iload_n 1, 1) := by decide +kernel
theorem dXE_nextStep_19 : decode cXE_nextStep 19 = .ok (.invokestatic 33, 3) := by decide +kernel
theorem dXE_nextStep_22 : decode cXE_nextStep 22 = .ok (.ifCond .eq 11, 3) := by decide +kernel
theorem dXE_nextStep_25 : decode cXE_nextStep 25 = .ok (.aload_n 0, 1) := by decide +kernel
theorem dXE_nextStep_26 : decode cXE_nextStep 26 = .ok (.iload_n 1, 1) := by decide +kernel
theorem dXE_nextStep_27 : decode cXE_nextStep 27 = .ok (.invokevirtual 57, 3) := by decide +kernel
theorem dXE_nextStep_30 : decode cXE_nextStep 30 = .ok (.goto 4, 3) := by decide +kernel
theorem dXE_nextStep_33 : decode cXE_nextStep 33 = .ok (.iconst (-1), 1) := by decide +kernel
theorem dXE_nextStep_34 : decode cXE_nextStep 34 = .ok (.istore_n 2, 1) := by decide +kernel
theorem dXE_nextStep_35 : decode cXE_nextStep 35 = .ok (.iload_n 2, 1) := by decide +kernel
theorem dXE_nextStep_36 : decode cXE_nextStep 36 = .ok (.iconst (-1), 1) := by decide +kernel
theorem dXE_nextStep_37 : decode cXE_nextStep 37 = .ok (.if_icmp .eq 5, 3) := by decide +kernel
theorem dXE_nextStep_40 : decode cXE_nextStep 40 = .ok (.iload_n 2, 1) := by decide +kernel
theorem dXE_nextStep_41 : decode cXE_nextStep 41 = .ok (.ireturn, 1) := by decide +kernel
theorem dXE_nextStep_42 : decode cXE_nextStep 42 = .ok (.iinc 1 (-1), 3) := by decide +kernel
theorem dXE_nextStep_45 : decode cXE_nextStep 45 = .ok (.goto (-35), 3) := by decide +kernel
theorem dXE_nextStep_48 : decode cXE_nextStep 48 = .ok (.iconst (-1), 1) := by decide +kernel
theorem dXE_nextStep_49 : decode cXE_nextStep 49 = .ok (.ireturn, 1) := by decide +kernel
theorem dXE_stepAt_0 : decode cXE_stepAt 0 = .ok (.aload_n 0, 1) := by decide +kernel
theorem dXE_stepAt_1 : decode cXE_stepAt 1 = .ok (.getfield 9, 3) := by decide +kernel
theorem dXE_stepAt_4 : decode cXE_stepAt 4 = .ok (.iload_n 1, 1) := by decide +kernel
theorem dXE_stepAt_5 : decode cXE_stepAt 5 = .ok (.aload_n 0, 1) := by decide +kernel
theorem dXE_stepAt_6 : decode cXE_stepAt 6 = .ok (.getfield 41, 3) := by decide +kernel
theorem dXE_stepAt_9 : decode cXE_stepAt 9 = .ok (.invokevirtual 60, 3) := by decide +kernel
theorem dXE_stepAt_12 : decode cXE_stepAt 12 = .ok (.istore_n 2, 1) := by decide +kernel
theorem dXE_stepAt_13 : decode cXE_stepAt 13 = .ok (.iload_n 2, 1) := by decide +kernel
theorem dXE_stepAt_14 : decode cXE_stepAt 14 = .ok (.invokestatic 44, 3) := by decide +kernel
theorem dXE_stepAt_17 : decode cXE_stepAt 17 = .ok (.iconst 1, 1) := by decide +kernel
theorem dXE_stepAt_18 : decode cXE_stepAt 18 = .ok (.if_icmp .ne 7, 3) := by decide +kernel
theorem dXE_stepAt_21 : decode cXE_stepAt 21 = .ok (.iconst 1, 1) := by decide +kernel
theorem dXE_stepAt_22 : decode cXE_stepAt 22 = .ok (.goto 4, 3) := by decide +kernel
theorem dXE_stepAt_25 : decode cXE_stepAt 25 = .ok (.iconst 0, 1) := by decide +kernel
theorem dXE_stepAt_26 : decode cXE_stepAt 26 = .ok (.istore_n 3, 1) := by decide +kernel
theorem dXE_stepAt_27 : decode cXE_stepAt 27 = .ok (.iconst 0, 1) := by decide +kernel
theorem dXE_stepAt_28 : decode cXE_stepAt 28 = .ok (.istore 4, 2) := by decide +kernel
theorem dXE_stepAt_30 : decode cXE_stepAt 30 = .ok (.iload 4, 2) := by decide +kernel
theorem dXE_stepAt_32 : decode cXE_stepAt 32 = .ok (.aload_n 0, 1) := by decide +kernel
theorem dXE_stepAt_33 : decode cXE_stepAt 33 = .ok (.getfield 9, 3) := by decide +kernel
theorem dXE_stepAt_36 : decode cXE_stepAt 36 = .ok (.invokevirtual 15, 3) := by decide +kernel
theorem dXE_stepAt_39 : decode cXE_stepAt 39 = .ok (.if_icmp .ge 96, 3) := by decide +kernel
theorem dXE_stepAt_42 : decode cXE_stepAt 42 = .ok (.iload_n 2, 1) := by decide +kernel
theorem dXE_stepAt_43 : decode cXE_stepAt 43 = .ok (.iload 4, 2) := by decide +kernel
theorem dXE_stepAt_45 : decode cXE_stepAt 45 = .ok (.invokestatic 33, 3) := by decide +kernel
theorem dXE_stepAt_48 : decode cXE_stepAt 48 = .ok (.istore 5, 2) := by decide +kernel
theorem dXE_stepAt_50 : decode cXE_stepAt 50 = .ok (.iload_n 3, 1) := by decide +kernel
theorem dXE_stepAt_51 : decode cXE_stepAt 51 = .ok (.ifCond .eq 16, 3) := by decide +kernel
theorem dXE_stepAt_54 : decode cXE_stepAt 54 = .ok (.iload 5, 2) := by decide +kernel
theorem dXE_stepAt_56 : decode cXE_stepAt 56 = .ok (.ifCond .eq 11, 3) := by decide +kernel
theorem dXE_stepAt_59 : decode cXE_stepAt 59 = .ok (.iload_n 1, 1) := by decide +kernel
theorem dXE_stepAt_60 : decode cXE_stepAt 60 = .ok (.bipush 16, 2) := by decide +kernel
theorem dXE_stepAt_62 : decode cXE_stepAt 62 = .ok (.iload 4, 2) := by decide +kernel
theorem dXE_stepAt_64 : decode cXE_stepAt 64 = .ok (.imul, 1) := by decide +kernel
theorem dXE_stepAt_65 : decode cXE_stepAt 65 = .ok (.iadd, 1) := by decide +kernel
theorem dXE_stepAt_66 : decode cXE_stepAt 66 = .ok (.ireturn, 1) := by decide +kernel
theorem dXE_stepAt_67 : decode cXE_stepAt 67 = .ok (.iload_n 3, 1) := by decide +kernel
theorem dXE_stepAt_68 : decode cXE_stepAt 68 = .ok (.ifCond .ne 61, 3) := by decide +kernel
theorem dXE_stepAt_71 : decode cXE_stepAt 71 = .ok (.iload 4, 2) := by decide +kernel
theorem dXE_stepAt_73 : decode cXE_stepAt 73 = .ok (.iload_n 1, 1) := by decide +kernel
theorem dXE_stepAt_74 : decode cXE_stepAt 74 = .ok (.if_icmp .eq 55, 3) := by decide +kernel
theorem dXE_stepAt_77 : decode cXE_stepAt 77 = .ok (.aload_n 0, 1) := by decide +kernel
theorem dXE_stepAt_78 : decode cXE_stepAt 78 = .ok (.getfield 41, 3) := by decide +kernel
theorem dXE_stepAt_81 : decode cXE_stepAt 81 = .ok (.iload 4, 2) := by decide +kernel
theorem dXE_stepAt_83 : decode cXE_stepAt 83 = .ok (.invokestatic 33, 3) := by decide +kernel
theorem dXE_stepAt_86 : decode cXE_stepAt 86 = .ok (.ifCond .eq 43, 3) := by decide +kernel
theorem dXE_stepAt_89 : decode cXE_stepAt 89 = .ok (.aload_n 0, 1) := by decide +kernel
theorem dXE_stepAt_90 : decode cXE_stepAt 90 = .ok (.getfield 9, 3) := by decide +kernel
theorem dXE_stepAt_93 : decode cXE_stepAt 93 = .ok (.iload_n 1, 1) := by decide +kernel
theorem dXE_stepAt_94 : decode cXE_stepAt 94 = .ok (.iload 4, 2) := by decide +kernel
theorem dXE_stepAt_96 : decode cXE_stepAt 96 = .ok (.aload_n 0, 1) := by decide +kernel
theorem dXE_stepAt_97 : decode cXE_stepAt 97 = .ok (.getfield 41, 3) := by decide +kernel
theorem dXE_stepAt_100 : decode cXE_stepAt 100 = .ok (.invokevirtual 63, 3) := by decide +kernel
theorem dXE_stepAt_103 : decode cXE_stepAt 103 = .ok (.ifCond .eq 26, 3) := by decide +kernel
theorem dXE_stepAt_106 : decode cXE_stepAt 106 = .ok (.iload_n 1, 1) := by decide +kernel
theorem dXE_stepAt_107 : decode cXE_stepAt 107 = .ok (.bipush 16, 2) := by decide +kernel
theorem dXE_stepAt_109 : decode cXE_stepAt 109 = .ok (.iload 4, 2) := by decide +kernel
theorem dXE_stepAt_111 : decode cXE_stepAt 111 = .ok (.imul, 1) := by decide +kernel
theorem dXE_stepAt_112 : decode cXE_stepAt 112 = .ok (.iadd, 1) := by decide +kernel
theorem dXE_stepAt_113 : decode cXE_stepAt 113 = .ok (.iload 5, 2) := by decide +kernel
theorem dXE_stepAt_115 : decode cXE_stepAt 115 = .ok (.ifCond .eq 9, 3) := by decide +kernel
theorem dXE_stepAt_118 : decode cXE_stepAt 118 = .ok (.sipush 512, 3) := by decide +kernel
theorem dXE_stepAt_121 : decode cXE_stepAt 121 = .ok (.goto 6, 3) := by decide +kernel
theorem dXE_stepAt_124 : decode cXE_stepAt 124 = .ok (.sipush 256, 3) := by decide +kernel
theorem dXE_stepAt_127 : decode cXE_stepAt 127 = .ok (.iadd, 1) := by decide +kernel
theorem dXE_stepAt_128 : decode cXE_stepAt 128 = .ok (.ireturn, 1) := by decide +kernel
theorem dXE_stepAt_129 : decode cXE_stepAt 129 = .ok (.iinc 4 1, 3) := by decide +kernel
theorem dXE_stepAt_132 : decode cXE_stepAt 132 = .ok (.goto (-102), 3) := by decide +kernel
theorem dXE_stepAt_135 : decode cXE_stepAt 135 = .ok (.iconst (-1), 1) := by decide +kernel
theorem dXE_stepAt_136 : decode cXE_stepAt 136 = .ok (.ireturn, 1) := by decide +kernel
theorem dXE_stepOf_0 : decode cXE_stepOf 0 = .ok (.aload_n 0, 1) := by decide +kernel
theorem dXE_stepOf_1 : decode cXE_stepOf 1 = .ok (.iload_n 1, 1) := by decide +kernel
theorem dXE_stepOf_2 : decode cXE_stepOf 2 = .ok (.invokevirtual 25, 3) := by decide +kernel
theorem dXE_stepOf_5 : decode cXE_stepOf 5 = .ok (.iload_n 2, 1) := by decide +kernel
theorem dXE_stepOf_6 : decode cXE_stepOf 6 = .ok (.ifCond .lt 20, 3) := by decide +kernel
theorem dXE_stepOf_9 : decode cXE_stepOf 9 = .ok (.iload_n 2, 1) := by decide +kernel
theorem dXE_stepOf_10 : decode cXE_stepOf 10 = .ok (.aload_n 0, 1) := by decide +kernel
theorem dXE_stepOf_11 : decode cXE_stepOf 11 = .ok (.getfield 29, 3) := by decide +kernel
theorem dXE_stepOf_14 : decode cXE_stepOf 14 = .ok (.if_icmp .ge 12, 3) := by decide +kernel
theorem dXE_stepOf_17 : decode cXE_stepOf 17 = .ok (.aload_n 0, 1) := by decide +kernel
theorem dXE_stepOf_18 : decode cXE_stepOf 18 = .ok (.getfield 21, 3) := by decide +kernel
theorem dXE_stepOf_21 : decode cXE_stepOf 21 = .ok (.iload_n 2, 1) := by decide +kernel
theorem dXE_stepOf_22 : decode cXE_stepOf 22 = .ok (.iaload, 1) := by decide +kernel
theorem dXE_stepOf_23 : decode cXE_stepOf 23 = .ok (.goto 4, 3) := by decide +kernel
theorem dXE_stepOf_26 : decode cXE_stepOf 26 = .ok (.iconst (-1), 1) := by decide +kernel
theorem dXE_stepOf_27 : decode cXE_stepOf 27 = .ok (.ireturn, 1) := by decide +kernel
theorem dXE_obstructionIn_0 : decode cXE_obstructionIn 0 = .ok (.aload_n 0, 1) := by decide +kernel
theorem dXE_obstructionIn_1 : decode cXE_obstructionIn 1 = .ok (.iload_n 1, 1) := by decide +kernel
theorem dXE_obstructionIn_2 : decode cXE_obstructionIn 2 = .ok (.invokevirtual 50, 3) := by decide +kernel
theorem dXE_obstructionIn_5 : decode cXE_obstructionIn 5 = .ok (.ifCond .eq 5, 3) := by decide +kernel
theorem dXE_obstructionIn_8 : decode cXE_obstructionIn 8 = .ok (.iconst (-1), 1) := by decide +kernel
theorem dXE_obstructionIn_9 : decode cXE_obstructionIn 9 = .ok (.ireturn, 1) := by decide +kernel
theorem dXE_obstructionIn_10 : decode cXE_obstructionIn 10 = .ok (.iload_n 1, 1) := by decide +kernel
theorem dXE_obstructionIn_11 : decode cXE_obstructionIn 11 = .ok (.istore_n 2, 1) := by decide +kernel
theorem dXE_obstructionIn_12 : decode cXE_obstructionIn 12 = .ok (.iconst 0, 1) := by decide +kernel
theorem dXE_obstructionIn_13 : decode cXE_obstructionIn 13 = .ok (.istore_n 3, 1) := by decide +kernel
theorem dXE_obstructionIn_14 : decode cXE_obstructionIn 14 = .ok (.iload_n 3, 1) := by decide +kernel
theorem dXE_obstructionIn_15 : decode cXE_obstructionIn 15 = .ok (.aload_n 0, 1) := by decide +kernel
theorem dXE_obstructionIn_16 : decode cXE_obstructionIn 16 = .ok (.getfield 9, 3) := by decide +kernel
theorem dXE_obstructionIn_19 : decode cXE_obstructionIn 19 = .ok (.invokevirtual 15, 3) := by decide +kernel
theorem dXE_obstructionIn_22 : decode cXE_obstructionIn 22 = .ok (.if_icmp .ge 38, 3) := by decide +kernel
theorem dXE_obstructionIn_25 : decode cXE_obstructionIn 25 = .ok (.iload_n 2, 1) := by decide +kernel
theorem dXE_obstructionIn_26 : decode cXE_obstructionIn 26 = .ok (.iconst 1, 1) := by decide +kernel
theorem dXE_obstructionIn_27 : decode cXE_obstructionIn 27 = .ok (.iload_n 3, 1) := by decide +kernel
theorem dXE_obstructionIn_28 : decode cXE_obstructionIn 28 = .ok (.ishl, 1) := by decide +kernel
theorem dXE_obstructionIn_29 : decode cXE_obstructionIn 29 = .ok (.iconst (-1), 1) := by decide +kernel
theorem dXE_obstructionIn_30 : decode cXE_obstructionIn 30 = .ok (.ixor, 1) := by decide +kernel
theorem dXE_obstructionIn_31 : decode cXE_obstructionIn 31 = .ok (.iand, 1) := by decide +kernel
theorem dXE_obstructionIn_32 : decode cXE_obstructionIn 32 = .ok (.istore 4, 2) := by decide +kernel
theorem dXE_obstructionIn_34 : decode cXE_obstructionIn 34 = .ok (.iload_n 2, 1) := by decide +kernel
theorem dXE_obstructionIn_35 : decode cXE_obstructionIn 35 = .ok (.iload_n 3, 1) := by decide +kernel
theorem dXE_obstructionIn_36 : decode cXE_obstructionIn 36 = .ok (.invokestatic 33, 3) := by decide +kernel
theorem dXE_obstructionIn_39 : decode cXE_obstructionIn 39 = .ok (.ifCond .eq 15, 3) := by decide +kernel
theorem dXE_obstructionIn_42 : decode cXE_obstructionIn 42 = .ok (.aload_n 0, 1) := by decide +kernel
theorem dXE_obstructionIn_43 : decode cXE_obstructionIn 43 = .ok (.iload 4, 2) := by decide +kernel
theorem dXE_obstructionIn_45 : decode cXE_obstructionIn 45 = .ok (.invokevirtual 50, 3) := by decide +kernel
theorem dXE_obstructionIn_48 : decode cXE_obstructionIn 48 = .ok (.ifCond .ne 6, 3) := by decide +kernel
theorem dXE_obstructionIn_51 : decode cXE_obstructionIn 51 = .ok (.iload 4, 2) := by decide +kernel
theorem dXE_obstructionIn_53 : decode cXE_obstructionIn 53 = .ok (.istore_n 2, 1) := by decide +kernel
theorem dXE_obstructionIn_54 : decode cXE_obstructionIn 54 = .ok (.iinc 3 1, 3) := by decide +kernel
theorem dXE_obstructionIn_57 : decode cXE_obstructionIn 57 = .ok (.goto (-43), 3) := by decide +kernel
theorem dXE_obstructionIn_60 : decode cXE_obstructionIn 60 = .ok (.iload_n 2, 1) := by decide +kernel
theorem dXE_obstructionIn_61 : decode cXE_obstructionIn 61 = .ok (.ireturn, 1) := by decide +kernel
