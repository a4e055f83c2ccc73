theorem dXM_cross_7 : decode cXM_cross 7 = .ok (.iload_n 1, 1) := by decide +kernel
theorem dXM_cross_8 : decode cXM_cross 8 = .ok (.iconst (-1), 1) := by decide +kernel
theorem dXM_cross_9 : decode cXM_cross 9 = .ok (.ixor, 1) := by decide +kernel
theorem dXM_cross_10 : decode cXM_cross 10 = .ok (.iand, 1) := by decide +kernel
theorem dXM_cross_11 : decode cXM_cross 11 = .ok (.ifCond .eq 15, 3) := by decide +kernel
theorem dXM_cross_14 : decode cXM_cross 14 = .ok (.iload_n 1, 1) := by decide +kernel
theorem dXM_cross_15 : decode cXM_cross 15 = .ok (.iload_n 0, 1) := by decide +kernel
theorem dXM_cross_16 : decode cXM_cross 16 = .ok (.iconst (-1), 1) := by decide +kernel
theorem dXM_cross_17 : decode cXM_cross 17 = .ok (.ixor, 1) := by decide +kernel
theorem dXM_cross_18 : decode cXM_cross 18 = .ok (.iand, 1) := by decide +kernel
theorem dXM_cross_19 : decode cXM_cross 19 = .ok (.ifCond .eq 7, 3) := by decide +kernel
theorem dXM_cross_22 : decode cXM_cross 22 = .ok (.iconst 1, 1) := by decide +kernel
theorem dXM_cross_23 : decode cXM_cross 23 = .ok (.goto 4, 3) := by decide +kernel
theorem dXM_cross_26 : decode cXM_cross 26 = .ok (.iconst 0, 1) := by decide +kernel
theorem dXM_cross_27 : decode cXM_cross 27 = .ok (.ireturn, 1) := by decide +kernel
theorem dXM_strong_0 : decode cXM_strong 0 = .ok (.aload_n 0, 1) := by decide +kernel
theorem dXM_strong_1 : decode cXM_strong 1 = .ok (.iload_n 1, 1) := by decide +kernel
theorem dXM_strong_2 : decode cXM_strong 2 = .ok (.invokevirtual 32, 3) := by decide +kernel
theorem dXM_strong_5 : decode cXM_strong 5 = .ok (.ifCond .ne 5, 3) := by decide +kernel
theorem dXM_strong_8 : decode cXM_strong 8 = .ok (.iconst (-1), 1) := by decide +kernel
theorem dXM_strong_9 : decode cXM_strong 9 = .ok (.ireturn, 1) := by decide +kernel
theorem dXM_strong_10 : decode cXM_strong 10 = .ok (.aload_n 0, 1) := by decide +kernel
theorem dXM_strong_11 : decode cXM_strong 11 = .ok (.aload_n 0, 1) := by decide +kernel
theorem dXM_strong_12 : decode cXM_strong 12 = .ok (.iload_n 1, 1) := by decide +kernel
theorem dXM_strong_13 : decode cXM_strong 13 = .ok (.invokevirtual 60, 3) := by decide +kernel
theorem dXM_strong_16 : decode cXM_strong 16 = .ok (.invokevirtual 63, 3) := by decide +kernel
theorem dXM_strong_19 : decode cXM_strong 19 = .ok (.aload_n 0, 1) := by decide +kernel
theorem dXM_strong_20 : decode cXM_strong 20 = .ok (.getfield 54, 3) := by decide +kernel
theorem dXM_strong_23 : decode cXM_strong 23 = .ok (.ireturn, 1) := by decide +kernel
theorem dXM_set_0 : decode cXM_set 0 = .ok (.aload_n 0, 1) := by decide +kernel
theorem dXM_set_1 : decode cXM_set 1 = .ok (.iload_n 1, 1) := by decide +kernel
theorem dXM_set_2 : decode cXM_set 2 = .ok (.iload_n 2, 1) := by decide +kernel
theorem dXM_set_3 : decode cXM_set 3 = .ok (.invokevirtual 67, 3) := by decide +kernel
theorem dXM_set_6 : decode cXM_set 6 = .ok (.ireturn, 1) := by decide +kernel
theorem dXM_nodeSet_0 : decode cXM_nodeSet 0 = .ok (.aload_n 0, 1) := by decide +kernel
theorem dXM_nodeSet_1 : decode cXM_nodeSet 1 = .ok (.iload_n 1, 1) := by decide +kernel
theorem dXM_nodeSet_2 : decode cXM_nodeSet 2 = .ok (.invokevirtual 32, 3) := by decide +kernel
theorem dXM_nodeSet_5 : decode cXM_nodeSet 5 = .ok (.ifCond .eq 7, 3) := by decide +kernel
theorem dXM_nodeSet_8 : decode cXM_nodeSet 8 = .ok (.iload_n 2, 1) := by decide +kernel
theorem dXM_nodeSet_9 : decode cXM_nodeSet 9 = .ok (.ifCond .ge 5, 3) := by decide +kernel
theorem dXM_nodeSet_12 : decode cXM_nodeSet 12 = .ok (.iconst (-1), 1) := by decide +kernel
theorem dXM_nodeSet_13 : decode cXM_nodeSet 13 = .ok (.ireturn, 1) := by decide +kernel
theorem dXM_nodeSet_14 : decode cXM_nodeSet 14 = .ok (.aload_n 0, 1) := by decide +kernel
theorem dXM_nodeSet_15 : decode cXM_nodeSet 15 = .ok (.iload_n 1, 1) := by decide +kernel
theorem dXM_nodeSet_16 : decode cXM_nodeSet 16 = .ok (.invokevirtual 60, 3) := by decide +kernel
theorem dXM_nodeSet_19 : decode cXM_nodeSet 19 = .ok (.istore_n 3, 1) := by decide +kernel
theorem dXM_nodeSet_20 : decode cXM_nodeSet 20 = .ok (.aload_n 0, 1) := by decide +kernel
theorem dXM_nodeSet_21 : decode cXM_nodeSet 21 = .ok (.iload_n 3, 1) := by decide +kernel
theorem dXM_nodeSet_22 : decode cXM_nodeSet 22 = .ok (.invokevirtual 63, 3) := by decide +kernel
theorem dXM_nodeSet_25 : decode cXM_nodeSet 25 = .ok (.iload_n 2, 1) := by decide +kernel
theorem dXM_nodeSet_26 : decode cXM_nodeSet 26 = .ok (.ifCond .ne 7, 3) := by decide +kernel
theorem dXM_nodeSet_29 : decode cXM_nodeSet 29 = .ok (.iload_n 3, 1) := by decide +kernel
theorem dXM_nodeSet_30 : decode cXM_nodeSet 30 = .ok (.goto 23, 3) := by decide +kernel
theorem dXM_nodeSet_33 : decode cXM_nodeSet 33 = .ok (.iload_n 2, 1) := by decide +kernel
theorem dXM_nodeSet_34 : decode cXM_nodeSet 34 = .ok (.aload_n 0, 1) := by decide +kernel
theorem dXM_nodeSet_35 : decode cXM_nodeSet 35 = .ok (.getfield 54, 3) := by decide +kernel
theorem dXM_nodeSet_38 : decode cXM_nodeSet 38 = .ok (.if_icmp .gt 14, 3) := by decide +kernel
theorem dXM_nodeSet_41 : decode cXM_nodeSet 41 = .ok (.aload_n 0, 1) := by decide +kernel
theorem dXM_nodeSet_42 : decode cXM_nodeSet 42 = .ok (.getfield 16, 3) := by decide +kernel
theorem dXM_nodeSet_45 : decode cXM_nodeSet 45 = .ok (.iload_n 2, 1) := by decide +kernel
theorem dXM_nodeSet_46 : decode cXM_nodeSet 46 = .ok (.iconst 1, 1) := by decide +kernel
theorem dXM_nodeSet_47 : decode cXM_nodeSet 47 = .ok (.isub, 1) := by decide +kernel
theorem dXM_nodeSet_48 : decode cXM_nodeSet 48 = .ok (.iaload, 1) := by decide +kernel
theorem dXM_nodeSet_49 : decode cXM_nodeSet 49 = .ok (.goto 4, 3) := by decide +kernel
theorem dXM_nodeSet_52 : decode cXM_nodeSet 52 = .ok (.iconst (-1), 1) := by decide +kernel
theorem dXM_nodeSet_53 : decode cXM_nodeSet 53 = .ok (.ireturn, 1) := by decide +kernel
theorem dXM_kind_0 : decode cXM_kind 0 = .ok (.aload_n 0, 1) := by decide +kernel
theorem dXM_kind_1 : decode cXM_kind 1 = .ok (.iload_n 1, 1) := by decide +kernel
theorem dXM_kind_2 : decode cXM_kind 2 = .ok (.iload_n 2, 1) := by decide +kernel
theorem dXM_kind_3 : decode cXM_kind 3 = .ok (.invokevirtual 86, 3) := by decide +kernel
theorem dXM_kind_6 : decode cXM_kind 6 = .ok (.ifCond .ne 5, 3) := by decide +kernel
theorem dXM_kind_9 : decode cXM_kind 9 = .ok (.iconst (-1), 1) := by decide +kernel
theorem dXM_kind_10 : decode cXM_kind 10 = .ok (.ireturn, 1) := by decide +kernel
theorem dXM_kind_11 : decode cXM_kind 11 = .ok (.aload_n 0, 1) := by decide +kernel
theorem dXM_kind_12 : decode cXM_kind 12 = .ok (.invokevirtual 89, 3) := by decide +kernel
theorem dXM_kind_15 : decode cXM_kind 15 = .ok (.istore_n 3, 1) := by decide +kernel
theorem dXM_kind_16 : decode cXM_kind 16 = .ok (.iload_n 3, 1) := by decide +kernel
theorem dXM_kind_17 : decode cXM_kind 17 = .ok (.bipush (-2), 2) := by decide +kernel
theorem dXM_kind_19 : decode cXM_kind 19 = .ok (.if_icmp .ne 7, 3) := by decide +kernel
theorem dXM_kind_22 : decode cXM_kind 22 = .ok (.iconst 1, 1) := by decide +kernel
theorem dXM_kind_23 : decode cXM_kind 23 = .ok (.goto 13, 3) := by decide +kernel
theorem dXM_kind_26 : decode cXM_kind 26 = .ok (.iload_n 3, 1) := by decide +kernel
theorem dXM_kind_27 : decode cXM_kind 27 = .ok (.iconst (-1), 1) := by decide +kernel
theorem dXM_kind_28 : decode cXM_kind 28 = .ok (.if_icmp .ne 7, 3) := by decide +kernel
theorem dXM_kind_31 : decode cXM_kind 31 = .ok (.iconst 3, 1) := by decide +kernel
theorem dXM_kind_32 : decode cXM_kind 32 = .ok (.goto 4, 3) := by decide +kernel
theorem dXM_kind_35 : decode cXM_kind 35 = .ok (.iconst 2, 1) := by decide +kernel
theorem dXM_kind_36 : decode cXM_kind 36 = .ok (.ireturn, 1) := by decide +kernel
theorem dXM_open_0 : decode cXM_open 0 = .ok (.aload_n 0, 1) := by decide +kernel
theorem dXM_open_1 : decode cXM_open 1 = .ok (.iload_n 1, 1) := by decide +kernel
theorem dXM_open_2 : decode cXM_open 2 = .ok (.iload_n 2, 1) := by decide +kernel
theorem dXM_open_3 : decode cXM_open 3 = .ok (.invokevirtual 67, 3) := by decide +kernel
theorem dXM_open_6 : decode cXM_open 6 = .ok (.istore_n 3, 1) := by decide +kernel
theorem dXM_open_7 : decode cXM_open 7 = .ok (.iload_n 3, 1) := by decide +kernel
theorem dXM_open_8 : decode cXM_open 8 = .ok (.iconst (-1), 1) := by decide +kernel
theorem dXM_open_9 : decode cXM_open 9 = .ok (.if_icmp .ne 5, 3) := by decide +kernel
theorem dXM_open_12 : decode cXM_open 12 = .ok (.iconst 0, 1) := by decide +kernel
theorem dXM_open_13 : decode cXM_open 13 = .ok (.ireturn, 1) := by decide +kernel
theorem dXM_open_14 : decode cXM_open 14 = .ok (.aload_n 0, 1) := by decide +kernel
theorem dXM_open_15 : decode cXM_open 15 = .ok (.iload_n 1, 1) := by decide +kernel
theorem dXM_open_16 : decode cXM_open 16 = .ok (.invokevirtual 60, 3) := by decide +kernel
theorem dXM_open_19 : decode cXM_open 19 = .ok (.istore 4, 2) := by decide +kernel
theorem dXM_open_21 : decode cXM_open 21 = .ok (.aload_n 0, 1) := by decide +kernel
theorem dXM_open_22 : decode cXM_open 22 = .ok (.iconst 0, 1) := by decide +kernel
theorem dXM_open_23 : decode cXM_open 23 = .ok (.putfield 73, 3) := by decide +kernel
theorem dXM_open_26 : decode cXM_open 26 = .ok (.iconst 1, 1) := by decide +kernel
theorem dXM_open_27 : decode cXM_open 27 = .ok (.istore 5, 2) := by decide +kernel
theorem dXM_open_29 : decode cXM_open 29 = .ok (.iload 5, 2) := by decide +kernel
theorem dXM_open_31 : decode cXM_open 31 = .ok (.sipush 512, 3) := by decide +kernel
theorem dXM_open_34 : decode cXM_open 34 = .ok (.if_icmp .ge 51, 3) := by decide +kernel
theorem dXM_open_37 : decode cXM_open 37 = .ok (.aload_n 0, 1) := by decide +kernel
theorem dXM_open_38 : decode cXM_open 38 = .ok (.iload 5, 2) := by decide +kernel
theorem dXM_open_40 : decode cXM_open 40 = .ok (.iload_n 3, 1) := by decide +kernel
theorem dXM_open_41 : decode cXM_open 41 = .ok (.iload 4, 2) := by decide +kernel
theorem dXM_open_43 : decode cXM_open 43 = .ok (.iload_n 2, 1) := by decide +kernel
theorem dXM_open_44 : decode cXM_open 44 = .ok (.ifCond .ne 7, 3) := by decide +kernel
theorem dXM_open_47 : decode cXM_open 47 = .ok (.iconst 1, 1) := by decide +kernel
theorem dXM_open_48 : decode cXM_open 48 = .ok (.goto 4, 3) := by decide +kernel
theorem dXM_open_51 : decode cXM_open 51 = .ok (.iconst 0, 1) := by decide +kernel
theorem dXM_open_52 : decode cXM_open 52 = .ok (.invokevirtual 76, 3) := by decide +kernel
theorem dXM_open_55 : decode cXM_open 55 = .ok (.ifCond .eq 24, 3) := by decide +kernel
theorem dXM_open_58 : decode cXM_open 58 = .ok (.aload_n 0, 1) := by decide +kernel
theorem dXM_open_59 : decode cXM_open 59 = .ok (.getfield 19, 3) := by decide +kernel
theorem dXM_open_62 : decode cXM_open 62 = .ok (.aload_n 0, 1) := by decide +kernel
theorem dXM_open_63 : decode cXM_open 63 = .ok (.getfield 73, 3) := by decide +kernel
theorem dXM_open_66 : decode cXM_open 66 = .ok (.iload 5, 2) := by decide +kernel
theorem dXM_open_68 : decode cXM_open 68 = .ok (.iastore, 1) := by decide +kernel
theorem dXM_open_69 : decode cXM_open 69 = .ok (.aload_n 0, 1) := by decide +kernel
theorem dXM_open_70 : decode cXM_open 70 = .ok (.dup, 1) := by decide +kernel
theorem dXM_open_71 : decode cXM_open 71 = .ok (.getfield 73, 3) := by decide +kernel
theorem dXM_open_74 : decode cXM_open 74 = .ok (.iconst 1, 1) := by decide +kernel
theorem dXM_open_75 : decode cXM_open 75 = .ok (.iadd, 1) := by decide +kernel
theorem dXM_open_76 : decode cXM_open 76 = .ok (.putfield 73, 3) := by decide +kernel
theorem dXM_open_79 : decode cXM_open 79 = .ok (.iinc 5 1, 3) := by decide +kernel
theorem dXM_open_82 : decode cXM_open 82 = .ok (.goto (-53), 3) := by decide +kernel
theorem dXM_open_85 : decode cXM_open 85 = .ok (.iconst 1, 1) := by decide +kernel
theorem dXM_open_86 : decode cXM_open 86 = .ok (.ireturn, 1) := by decide +kernel
theorem dXM_isPart_0 : decode cXM_isPart 0 = .ok (.iload 4, 2) := by decide +kernel
theorem dXM_isPart_2 : decode cXM_isPart 2 = .ok (.ifCond .ne 14, 3) := by decide +kernel
theorem dXM_isPart_5 : decode cXM_isPart 5 = .ok (.iload_n 1, 1) := by decide +kernel
theorem dXM_isPart_6 : decode cXM_isPart 6 = .ok (.iload_n 3, 1) := by decide +kernel
theorem dXM_isPart_7 : decode cXM_isPart 7 = .ok (.iload_n 2, 1) := by decide +kernel
theorem dXM_isPart_8 : decode cXM_isPart 8 = .ok (.iconst (-1), 1) := by decide +kernel
theorem dXM_isPart_9 : decode cXM_isPart 9 = .ok (.ixor, 1) := by decide +kernel
theorem dXM_isPart_10 : decode cXM_isPart 10 = .ok (.iand, 1) := by decide +kernel
theorem dXM_isPart_11 : decode cXM_isPart 11 = .ok (.if_icmp .ne 5, 3) := by decide +kernel
theorem dXM_isPart_14 : decode cXM_isPart 14 = .ok (.iconst 1, 1) := by decide +kernel
theorem dXM_isPart_15 : decode cXM_isPart 15 = .ok (.ireturn, 1) := by decide +kernel
theorem dXM_isPart_16 : decode cXM_isPart 16 = .ok (.iload_n 1, 1) := by decide +kernel
theorem dXM_isPart_17 : decode cXM_isPart 17 = .ok (.invokestatic 47, 3) := by decide +kernel
theorem dXM_isPart_20 : decode cXM_isPart 20 = .ok (.iconst 1, 1) := by decide +kernel
theorem dXM_isPart_21 : decode cXM_isPart 21 = .ok (.if_icmp .ne 13, 3) := by decide +kernel
theorem dXM_isPart_24 : decode cXM_isPart 24 = .ok (.iload_n 1, 1) := by decide +kernel
theorem dXM_isPart_25 : decode cXM_isPart 25 = .ok (.iload_n 2, 1) := by decide +kernel
theorem dXM_isPart_26 : decode cXM_isPart 26 = .ok (.iand, 1) := by decide +kernel
theorem dXM_isPart_27 : decode cXM_isPart 27 = .ok (.ifCond .eq 7, 3) := by decide +kernel
theorem dXM_isPart_30 : decode cXM_isPart 30 = .ok (.iconst 1, 1) := by decide +kernel
theorem dXM_isPart_31 : decode cXM_isPart 31 = .ok (.goto 4, 3) := by decide +kernel
theorem dXM_isPart_34 : decode cXM_isPart 34 = .ok (.iconst 0, 1) := by decide +kernel
theorem dXM_isPart_35 : decode cXM_isPart 35 = .ok (.istore 5, 2) := by decide +kernel
theorem dXM_isPart_37 : decode cXM_isPart 37 = .ok (.iconst 0, 1) := by decide +kernel
theorem dXM_isPart_38 : decode cXM_isPart 38 = .ok (.istore 6, 2) := by decide +kernel
theorem dXM_isPart_40 : decode cXM_isPart 40 = .ok (.iconst 0, 1) := by decide +kernel
theorem dXM_isPart_41 : decode cXM_isPart 41 = .ok (.istore 7, 2) := by decide +kernel
theorem dXM_isPart_43 : decode cXM_isPart 43 = .ok (.iconst 0, 1) := by decide +kernel
theorem dXM_isPart_44 : decode cXM_isPart 44 = .ok (.istore 8, 2) := by decide +kernel
theorem dXM_isPart_46 : decode cXM_isPart 46 = .ok (.iload 8, 2) := by decide +kernel
theorem dXM_isPart_48 : decode cXM_isPart 48 = .ok (.aload_n 0, 1) := by decide +kernel
theorem dXM_isPart_49 : decode cXM_isPart 49 = .ok (.getfield 54, 3) := by decide +kernel
theorem dXM_isPart_52 : decode cXM_isPart 52 = .ok (.if_icmp .ge 81, 3) := by decide +kernel
theorem dXM_isPart_55 : decode cXM_isPart 55 = .ok (.aload_n 0, 1) := by decide +kernel
theorem dXM_isPart_56 : decode cXM_isPart 56 = .ok (.getfield 16, 3) := by decide +kernel
theorem dXM_isPart_59 : decode cXM_isPart 59 = .ok (.iload 8, 2) := by decide +kernel
theorem dXM_isPart_61 : decode cXM_isPart 61 = .ok (.iaload, 1) := by decide +kernel
theorem dXM_isPart_62 : decode cXM_isPart 62 = .ok (.iload_n 2, 1) := by decide +kernel
theorem dXM_isPart_63 : decode cXM_isPart 63 = .ok (.invokestatic 70, 3) := by decide +kernel
theorem dXM_isPart_66 : decode cXM_isPart 66 = .ok (.istore 9, 2) := by decide +kernel
theorem dXM_isPart_68 : decode cXM_isPart 68 = .ok (.iload 6, 2) := by decide +kernel
theorem dXM_isPart_70 : decode cXM_isPart 70 = .ok (.ifCond .ne 19, 3) := by decide +kernel
theorem dXM_isPart_73 : decode cXM_isPart 73 = .ok (.iload 9, 2) := by decide +kernel
theorem dXM_isPart_75 : decode cXM_isPart 75 = .ok (.ifCond .eq 18, 3) := by decide +kernel
theorem dXM_isPart_78 : decode cXM_isPart 78 = .ok (.aload_n 0, 1) := by decide +kernel
theorem dXM_isPart_79 : decode cXM_isPart 79 = .ok (.getfield 16, 3) := by decide +kernel
theorem dXM_isPart_82 : decode cXM_isPart 82 = .ok (.iload 8, 2) := by decide +kernel
theorem dXM_isPart_84 : decode cXM_isPart 84 = .ok (.iaload, 1) := by decide +kernel
theorem dXM_isPart_85 : decode cXM_isPart 85 = .ok (.iload_n 1, 1) := by decide +kernel
theorem dXM_isPart_86 : decode cXM_isPart 86 = .ok (.if_icmp .ne 7, 3) := by decide +kernel
theorem dXM_isPart_89 : decode cXM_isPart 89 = .ok (.iconst 1, 1) := by decide +kernel
theorem dXM_isPart_90 : decode cXM_isPart 90 = .ok (.goto 4, 3) := by decide +kernel
theorem dXM_isPart_93 : decode cXM_isPart 93 = .ok (.iconst 0, 1) := by decide +kernel
theorem dXM_isPart_94 : decode cXM_isPart 94 = .ok (.istore 6, 2) := by decide +kernel
theorem dXM_isPart_96 : decode cXM_isPart 96 = .ok (.iload 7, 2) := by decide +kernel
theorem dXM_isPart_98 : decode cXM_isPart 98 = .ok (.ifCond .ne 22, 3) := by decide +kernel
theorem dXM_isPart_101 : decode cXM_isPart 101 = .ok (.iload 9, 2) := by decide +kernel
theorem dXM_isPart_103 : decode cXM_isPart 103 = .ok (.ifCond .eq 21, 3) := by decide +kernel
theorem dXM_isPart_106 : decode cXM_isPart 106 = .ok (.iload_n 1, 1) := by decide +kernel
theorem dXM_isPart_107 : decode cXM_isPart 107 = .ok (.aload_n 0, 1) := by decide +kernel
theorem dXM_isPart_108 : decode cXM_isPart 108 = .ok (.getfield 16, 3) := by decide +kernel
theorem dXM_isPart_111 : decode cXM_isPart 111 = .ok (.iload 8, 2) := by decide +kernel
theorem dXM_isPart_113 : decode cXM_isPart 113 = .ok (.iaload, 1) := by decide +kernel
theorem dXM_isPart_114 : decode cXM_isPart 114 = .ok (.invokestatic 70, 3) := by decide +kernel
theorem dXM_isPart_117 : decode cXM_isPart 117 = .ok (.ifCond .eq 7, 3) := by decide +kernel
theorem dXM_isPart_120 : decode cXM_isPart 120 = .ok (.iconst 1, 1) := by decide +kernel
theorem dXM_isPart_121 : decode cXM_isPart 121 = .ok (.goto 4, 3) := by decide +kernel
theorem dXM_isPart_124 : decode cXM_isPart 124 = .ok (.iconst 0, 1) := by decide +kernel
theorem dXM_isPart_125 : decode cXM_isPart 125 = .ok (.istore 7, 2) := by decide +kernel
theorem dXM_isPart_127 : decode cXM_isPart 127 = .ok (.iinc 8 1, 3) := by decide +kernel
theorem dXM_isPart_130 : decode cXM_isPart 130 = .ok (.goto (-84), 3) := by decide +kernel
theorem dXM_isPart_133 : decode cXM_isPart 133 = .ok (.iload 5, 2) := by decide +kernel
theorem dXM_isPart_135 : decode cXM_isPart 135 = .ok (.ifCond .ne 8, 3) := by decide +kernel
theorem dXM_isPart_138 : decode cXM_isPart 138 = .ok (.iload 6, 2) := by decide +kernel
theorem dXM_isPart_140 : decode cXM_isPart 140 = .ok (.ifCond .eq 12, 3) := by decide +kernel
theorem dXM_isPart_143 : decode cXM_isPart 143 = .ok (.iload 7, 2) := by decide +kernel
theorem dXM_isPart_145 : decode cXM_isPart 145 = .ok (.ifCond .ne 7, 3) := by decide +kernel
theorem dXM_isPart_148 : decode cXM_isPart 148 = .ok (.iconst 1, 1) := by decide +kernel
theorem dXM_isPart_149 : decode cXM_isPart 149 = .ok (.goto 4, 3) := by decide +kernel
theorem dXM_isPart_152 : decode cXM_isPart 152 = .ok (.iconst 0, 1) := by decide +kernel
theorem dXM_isPart_153 : decode cXM_isPart 153 = .ok (.ireturn, 1) := by decide +kernel
theorem dXM_inside_0 : decode cXM_inside 0 = .ok (.iload_n 0, 1) := by decide +kernel
theorem dXM_inside_1 : decode cXM_inside 1 = .ok (.iload_n 1, 1) := by decide +kernel
theorem dXM_inside_2 : decode cXM_inside 2 = .ok (.if_icmp .eq 15, 3) := by decide +kernel
theorem dXM_inside_5 : decode cXM_inside 5 = .ok (.iload_n 0, 1) := by decide +kernel
theorem dXM_inside_6 : decode cXM_inside 6 = .ok (.iload_n 1, 1) := by decide +kernel
theorem dXM_inside_7 : decode cXM_inside 7 = .ok (.iconst (-1), 1) := by decide +kernel
theorem dXM_inside_8 : decode cXM_inside 8 = .ok (.ixor, 1) := by decide +kernel
theorem dXM_inside_9 : decode cXM_inside 9 = .ok (.iand, 1) := by decide +kernel
theorem dXM_inside_10 : decode cXM_inside 10 = .ok (.ifCond .ne 7, 3) := by decide +kernel
theorem dXM_inside_13 : decode cXM_inside 13 = .ok (.iconst 1, 1) := by decide +kernel
theorem dXM_inside_14 : decode cXM_inside 14 = .ok (.goto 4, 3) := by decide +kernel
theorem dXM_inside_17 : decode cXM_inside 17 = .ok (.iconst 0, 1) := by decide +kernel
theorem dXM_inside_18 : decode cXM_inside 18 = .ok (.ireturn, 1) := by decide +kernel
theorem dXM_middle_0 : decode cXM_middle 0 = .ok (.iconst 0, 1) := by decide +kernel
theorem dXM_middle_1 : decode cXM_middle 1 = .ok (.istore_n 1, 1) := by decide +kernel
theorem dXM_middle_2 : decode cXM_middle 2 = .ok (.iconst (-1), 1) := by decide +kernel
theorem dXM_middle_3 : decode cXM_middle 3 = .ok (.istore_n 2, 1) := by decide +kernel
theorem dXM_middle_4 : decode cXM_middle 4 = .ok (.iconst 0, 1) := by decide +kernel
theorem dXM_middle_5 : decode cXM_middle 5 = .ok (.istore_n 3, 1) := by decide +kernel
theorem dXM_middle_6 : decode cXM_middle 6 = .ok (.iload_n 3, 1) := by decide +kernel
theorem dXM_middle_7 : decode cXM_middle 7 = .ok (.aload_n 0, 1) := by decide +kernel
theorem dXM_middle_8 : decode cXM_middle 8 = .ok (.getfield 73, 3) := by decide +kernel
theorem dXM_middle_11 : decode cXM_middle 11 = .ok (.if_icmp .ge 42, 3) := by decide +kernel
theorem dXM_middle_14 : decode cXM_middle 14 = .ok (.iload_n 1, 1) := by decide +kernel
theorem dXM_middle_15 : decode cXM_middle 15 = .ok (.aload_n 0, 1) := by decide +kernel
theorem dXM_middle_16 : decode cXM_middle 16 = .ok (.iload_n 3, 1) := by decide +kernel
theorem dXM_middle_17 : decode cXM_middle 17 = .ok (.invokevirtual 83, 3) := by decide +kernel
theorem dXM_middle_20 : decode cXM_middle 20 = .ok (.iadd, 1) := by decide +kernel
theorem dXM_middle_21 : decode cXM_middle 21 = .ok (.istore_n 1, 1) := by decide +kernel
theorem dXM_middle_22 : decode cXM_middle 22 = .ok (.aload_n 0, 1) := by decide +kernel
theorem dXM_middle_23 : decode cXM_middle 23 = .ok (.iload_n 3, 1) := by decide +kernel
theorem dXM_middle_24 : decode cXM_middle 24 = .ok (.invokevirtual 83, 3) := by decide +kernel
theorem dXM_middle_27 : decode cXM_middle 27 = .ok (.aload_n 0, 1) := by decide +kernel
theorem dXM_middle_28 : decode cXM_middle 28 = .ok (.getfield 73, 3) := by decide +kernel
theorem dXM_middle_31 : decode cXM_middle 31 = .ok (.iconst 1, 1) := by decide +kernel
theorem dXM_middle_32 : decode cXM_middle 32 = .ok (.isub, 1) := by decide +kernel
theorem dXM_middle_33 : decode cXM_middle 33 = .ok (.if_icmp .ne 12, 3) := by decide +kernel
theorem dXM_middle_36 : decode cXM_middle 36 = .ok (.iload_n 2, 1) := by decide +kernel
theorem dXM_middle_37 : decode cXM_middle 37 = .ok (.iconst (-1), 1) := by decide +kernel
theorem dXM_middle_38 : decode cXM_middle 38 = .ok (.if_icmp .ne 7, 3) := by decide +kernel
theorem dXM_middle_41 : decode cXM_middle 41 = .ok (.iload_n 3, 1) := by decide +kernel
theorem dXM_middle_42 : decode cXM_middle 42 = .ok (.goto 4, 3) := by decide +kernel
theorem dXM_middle_45 : decode cXM_middle 45 = .ok (.iload_n 2, 1) := by decide +kernel
theorem dXM_middle_46 : decode cXM_middle 46 = .ok (.istore_n 2, 1) := by decide +kernel
theorem dXM_middle_47 : decode cXM_middle 47 = .ok (.iinc 3 1, 3) := by decide +kernel
theorem dXM_middle_50 : decode cXM_middle 50 = .ok (.goto (-44), 3) := by decide +kernel
theorem dXM_middle_53 : decode cXM_middle 53 = .ok (.iload_n 1, 1) := by decide +kernel
theorem dXM_middle_54 : decode cXM_middle 54 = .ok (.aload_n 0, 1) := by decide +kernel
theorem dXM_middle_55 : decode cXM_middle 55 = .ok (.getfield 73, 3) := by decide +kernel
theorem dXM_middle_58 : decode cXM_middle 58 = .ok (.aload_n 0, 1) := by decide +kernel
theorem dXM_middle_59 : decode cXM_middle 59 = .ok (.getfield 73, 3) := by decide +kernel
theorem dXM_middle_62 : decode cXM_middle 62 = .ok (.iconst 1, 1) := by decide +kernel
theorem dXM_middle_63 : decode cXM_middle 63 = .ok (.isub, 1) := by decide +kernel
theorem dXM_middle_64 : decode cXM_middle 64 = .ok (.imul, 1) := by decide +kernel
theorem dXM_middle_65 : decode cXM_middle 65 = .ok (.if_icmp .ne 6, 3) := by decide +kernel
theorem dXM_middle_68 : decode cXM_middle 68 = .ok (.bipush (-2), 2) := by decide +kernel
theorem dXM_middle_70 : decode cXM_middle 70 = .ok (.ireturn, 1) := by decide +kernel
theorem dXM_middle_71 : decode cXM_middle 71 = .ok (.iload_n 2, 1) := by decide +kernel
theorem dXM_middle_72 : decode cXM_middle 72 = .ok (.iconst (-1), 1) := by decide +kernel
theorem dXM_middle_73 : decode cXM_middle 73 = .ok (.if_icmp .eq 19, 3) := by decide +kernel
theorem dXM_middle_76 : decode cXM_middle 76 = .ok (.iload_n 1, 1) := by decide +kernel
theorem dXM_middle_77 : decode cXM_middle 77 = .ok (.iconst 2, 1) := by decide +kernel
theorem dXM_middle_78 : decode cXM_middle 78 = .ok (.aload_n 0, 1) := by decide +kernel
theorem dXM_middle_79 : decode cXM_middle 79 = .ok (.getfield 73, 3) := by decide +kernel
theorem dXM_middle_82 : decode cXM_middle 82 = .ok (.iconst 1, 1) := by decide +kernel
theorem dXM_middle_83 : decode cXM_middle 83 = .ok (.isub, 1) := by decide +kernel
theorem dXM_middle_84 : decode cXM_middle 84 = .ok (.imul, 1) := by decide +kernel
theorem dXM_middle_85 : decode cXM_middle 85 = .ok (.if_icmp .ne 7, 3) := by decide +kernel
theorem dXM_middle_88 : decode cXM_middle 88 = .ok (.iload_n 2, 1) := by decide +kernel
theorem dXM_middle_89 : decode cXM_middle 89 = .ok (.goto 4, 3) := by decide +kernel
theorem dXM_middle_92 : decode cXM_middle 92 = .ok (.iconst (-1), 1) := by decide +kernel
theorem dXM_middle_93 : decode cXM_middle 93 = .ok (.ireturn, 1) := by decide +kernel
theorem dXM_links_0 : decode cXM_links 0 = .ok (.iconst 0, 1) := by decide +kernel
theorem dXM_links_1 : decode cXM_links 1 = .ok (.istore_n 2, 1) := by decide +kernel
theorem dXM_links_2 : decode cXM_links 2 = .ok (.iconst 0, 1) := by decide +kernel
theorem dXM_links_3 : decode cXM_links 3 = .ok (.istore_n 3, 1) := by decide +kernel
theorem dXM_links_4 : decode cXM_links 4 = .ok (.iload_n 3, 1) := by decide +kernel
theorem dXM_links_5 : decode cXM_links 5 = .ok (.aload_n 0, 1) := by decide +kernel
theorem dXM_links_6 : decode cXM_links 6 = .ok (.getfield 73, 3) := by decide +kernel
theorem dXM_links_9 : decode cXM_links 9 = .ok (.if_icmp .ge 41, 3) := by decide +kernel
theorem dXM_links_12 : decode cXM_links 12 = .ok (.iload_n 2, 1) := by decide +kernel
theorem dXM_links_13 : decode cXM_links 13 = .ok (.iload_n 3, 1) := by decide +kernel
theorem dXM_links_14 : decode cXM_links 14 = .ok (.iload_n 1, 1) := by decide +kernel
theorem dXM_links_15 : decode cXM_links 15 = .ok (.if_icmp .eq 26, 3) := by decide +kernel
theorem dXM_links_18 : decode cXM_links 18 = .ok (.aload_n 0, 1) := by decide +kernel
theorem dXM_links_19 : decode cXM_links 19 = .ok (.aload_n 0, 1) := by decide +kernel
theorem dXM_links_20 : decode cXM_links 20 = .ok (.getfield 19, 3) := by decide +kernel
theorem dXM_links_23 : decode cXM_links 23 = .ok (.iload_n 1, 1) := by decide +kernel
theorem dXM_links_24 : decode cXM_links 24 = .ok (.iaload, 1) := by decide +kernel
theorem dXM_links_25 : decode cXM_links 25 = .ok (.aload_n 0, 1) := by decide +kernel
theorem dXM_links_26 : decode cXM_links 26 = .ok (.getfield 19, 3) := by decide +kernel
theorem dXM_links_29 : decode cXM_links 29 = .ok (.iload_n 3, 1) := by decide +kernel
theorem dXM_links_30 : decode cXM_links 30 = .ok (.iaload, 1) := by decide +kernel
theorem dXM_links_31 : decode cXM_links 31 = .ok (.invokevirtual 80, 3) := by decide +kernel
theorem dXM_links_34 : decode cXM_links 34 = .ok (.ifCond .eq 7, 3) := by decide +kernel
theorem dXM_links_37 : decode cXM_links 37 = .ok (.iconst 1, 1) := by decide +kernel
theorem dXM_links_38 : decode cXM_links 38 = .ok (.goto 4, 3) := by decide +kernel
theorem dXM_links_41 : decode cXM_links 41 = .ok (.iconst 0, 1) := by decide +kernel
theorem dXM_links_42 : decode cXM_links 42 = .ok (.iadd, 1) := by decide +kernel
theorem dXM_links_43 : decode cXM_links 43 = .ok (.istore_n 2, 1) := by decide +kernel
theorem dXM_links_44 : decode cXM_links 44 = .ok (.iinc 3 1, 3) := by decide +kernel
theorem dXM_links_47 : decode cXM_links 47 = .ok (.goto (-43), 3) := by decide +kernel
theorem dXM_links_50 : decode cXM_links 50 = .ok (.iload_n 2, 1) := by decide +kernel
theorem dXM_links_51 : decode cXM_links 51 = .ok (.ireturn, 1) := by decide +kernel
theorem dXM_joined_0 : decode cXM_joined 0 = .ok (.iconst 0, 1) := by decide +kernel
theorem dXM_joined_1 : decode cXM_joined 1 = .ok (.istore_n 3, 1) := by decide +kernel
theorem dXM_joined_2 : decode cXM_joined 2 = .ok (.iconst 0, 1) := by decide +kernel
theorem dXM_joined_3 : decode cXM_joined 3 = .ok (.istore 4, 2) := by decide +kernel
theorem dXM_joined_5 : decode cXM_joined 5 = .ok (.iload 4, 2) := by decide +kernel
theorem dXM_joined_7 : decode cXM_joined 7 = .ok (.aload_n 0, 1) := by decide +kernel
theorem dXM_joined_8 : decode cXM_joined 8 = .ok (.getfield 28, 3) := by decide +kernel
theorem dXM_joined_11 : decode cXM_joined 11 = .ok (.if_icmp .ge 41, 3) := by decide +kernel
theorem dXM_joined_14 : decode cXM_joined 14 = .ok (.iload_n 3, 1) := by decide +kernel
theorem dXM_joined_15 : decode cXM_joined 15 = .ok (.ifCond .ne 25, 3) := by decide +kernel
theorem dXM_joined_18 : decode cXM_joined 18 = .ok (.iload_n 1, 1) := by decide +kernel
theorem dXM_joined_19 : decode cXM_joined 19 = .ok (.iload 4, 2) := by decide +kernel
theorem dXM_joined_21 : decode cXM_joined 21 = .ok (.ishr, 1) := by decide +kernel
theorem dXM_joined_22 : decode cXM_joined 22 = .ok (.iconst 1, 1) := by decide +kernel
theorem dXM_joined_23 : decode cXM_joined 23 = .ok (.iand, 1) := by decide +kernel
theorem dXM_joined_24 : decode cXM_joined 24 = .ok (.iconst 1, 1) := by decide +kernel
theorem dXM_joined_25 : decode cXM_joined 25 = .ok (.if_icmp .ne 19, 3) := by decide +kernel
theorem dXM_joined_28 : decode cXM_joined 28 = .ok (.aload_n 0, 1) := by decide +kernel
theorem dXM_joined_29 : decode cXM_joined 29 = .ok (.getfield 7, 3) := by decide +kernel
theorem dXM_joined_32 : decode cXM_joined 32 = .ok (.iload 4, 2) := by decide +kernel
theorem dXM_joined_34 : decode cXM_joined 34 = .ok (.iaload, 1) := by decide +kernel
theorem dXM_joined_35 : decode cXM_joined 35 = .ok (.iload_n 2, 1) := by decide +kernel
theorem dXM_joined_36 : decode cXM_joined 36 = .ok (.iand, 1) := by decide +kernel
theorem dXM_joined_37 : decode cXM_joined 37 = .ok (.ifCond .eq 7, 3) := by decide +kernel
theorem dXM_joined_40 : decode cXM_joined 40 = .ok (.iconst 1, 1) := by decide +kernel
theorem dXM_joined_41 : decode cXM_joined 41 = .ok (.goto 4, 3) := by decide +kernel
theorem dXM_joined_44 : decode cXM_joined 44 = .ok (.iconst 0, 1) := by decide +kernel
theorem dXM_joined_45 : decode cXM_joined 45 = .ok (.istore_n 3, 1) := by decide +kernel
theorem dXM_joined_46 : decode cXM_joined 46 = .ok (.iinc 4 1, 3) := by decide +kernel
theorem dXM_joined_49 : decode cXM_joined 49 = .ok (.goto (-44), 3) := by decide +kernel
theorem dXM_joined_52 : decode cXM_joined 52 = .ok (.iload_n 3, 1) := by decide +kernel
theorem dXM_joined_53 : decode cXM_joined 53 = .ok (.ireturn, 1) := by decide +kernel
theorem dXM_parts_0 : decode cXM_parts 0 = .ok (.aload_n 0, 1) := by decide +kernel
theorem dXM_parts_1 : decode cXM_parts 1 = .ok (.iload_n 1, 1) := by decide +kernel
theorem dXM_parts_2 : decode cXM_parts 2 = .ok (.iload_n 2, 1) := by decide +kernel
theorem dXM_parts_3 : decode cXM_parts 3 = .ok (.invokevirtual 86, 3) := by decide +kernel
theorem dXM_parts_6 : decode cXM_parts 6 = .ok (.ifCond .eq 10, 3) := by decide +kernel
theorem dXM_parts_9 : decode cXM_parts 9 = .ok (.aload_n 0, 1) := by decide +kernel
theorem dXM_parts_10 : decode cXM_parts 10 = .ok (.getfield 73, 3) := by decide +kernel
theorem dXM_parts_13 : decode cXM_parts 13 = .ok (.goto 4, 3) := by decide +kernel
theorem dXM_parts_16 : decode cXM_parts 16 = .ok (.iconst (-1), 1) := by decide +kernel
theorem dXM_parts_17 : decode cXM_parts 17 = .ok (.ireturn, 1) := by decide +kernel
theorem dXM_part_0 : decode cXM_part 0 = .ok (.aload_n 0, 1) := by decide +kernel
theorem dXM_part_1 : decode cXM_part 1 = .ok (.iload_n 1, 1) := by decide +kernel
theorem dXM_part_2 : decode cXM_part 2 = .ok (.iload_n 2, 1) := by decide +kernel
theorem dXM_part_3 : decode cXM_part 3 = .ok (.invokevirtual 86, 3) := by decide +kernel
theorem dXM_part_6 : decode cXM_part 6 = .ok (.ifCond .eq 24, 3) := by decide +kernel
theorem dXM_part_9 : decode cXM_part 9 = .ok (.iload_n 3, 1) := by decide +kernel
theorem dXM_part_10 : decode cXM_part 10 = .ok (.ifCond .lt 20, 3) := by decide +kernel
theorem dXM_part_13 : decode cXM_part 13 = .ok (.iload_n 3, 1) := by decide +kernel
theorem dXM_part_14 : decode cXM_part 14 = .ok (.aload_n 0, 1) := by decide +kernel
theorem dXM_part_15 : decode cXM_part 15 = .ok (.getfield 73, 3) := by decide +kernel
theorem dXM_part_18 : decode cXM_part 18 = .ok (.if_icmp .ge 12, 3) := by decide +kernel
theorem dXM_part_21 : decode cXM_part 21 = .ok (.aload_n 0, 1) := by decide +kernel
theorem dXM_part_22 : decode cXM_part 22 = .ok (.getfield 19, 3) := by decide +kernel
theorem dXM_part_25 : decode cXM_part 25 = .ok (.iload_n 3, 1) := by decide +kernel
theorem dXM_part_26 : decode cXM_part 26 = .ok (.iaload, 1) := by decide +kernel
theorem dXM_part_27 : decode cXM_part 27 = .ok (.goto 4, 3) := by decide +kernel
theorem dXM_part_30 : decode cXM_part 30 = .ok (.iconst (-1), 1) := by decide +kernel
theorem dXM_part_31 : decode cXM_part 31 = .ok (.ireturn, 1) := by decide +kernel
theorem dXM_centre_0 : decode cXM_centre 0 = .ok (.aload_n 0, 1) := by decide +kernel
theorem dXM_centre_1 : decode cXM_centre 1 = .ok (.iload_n 1, 1) := by decide +kernel
theorem dXM_centre_2 : decode cXM_centre 2 = .ok (.iload_n 2, 1) := by decide +kernel
theorem dXM_centre_3 : decode cXM_centre 3 = .ok (.invokevirtual 86, 3) := by decide +kernel
theorem dXM_centre_6 : decode cXM_centre 6 = .ok (.ifCond .ne 5, 3) := by decide +kernel
theorem dXM_centre_9 : decode cXM_centre 9 = .ok (.iconst (-1), 1) := by decide +kernel
theorem dXM_centre_10 : decode cXM_centre 10 = .ok (.ireturn, 1) := by decide +kernel
theorem dXM_centre_11 : decode cXM_centre 11 = .ok (.aload_n 0, 1) := by decide +kernel
theorem dXM_centre_12 : decode cXM_centre 12 = .ok (.invokevirtual 89, 3) := by decide +kernel
theorem dXM_centre_15 : decode cXM_centre 15 = .ok (.istore_n 3, 1) := by decide +kernel
theorem dXM_centre_16 : decode cXM_centre 16 = .ok (.iload_n 3, 1) := by decide +kernel
theorem dXM_centre_17 : decode cXM_centre 17 = .ok (.ifCond .lt 12, 3) := by decide +kernel
theorem dXM_centre_20 : decode cXM_centre 20 = .ok (.aload_n 0, 1) := by decide +kernel
theorem dXM_centre_21 : decode cXM_centre 21 = .ok (.getfield 19, 3) := by decide +kernel
theorem dXM_centre_24 : decode cXM_centre 24 = .ok (.iload_n 3, 1) := by decide +kernel
theorem dXM_centre_25 : decode cXM_centre 25 = .ok (.iaload, 1) := by decide +kernel
theorem dXM_centre_26 : decode cXM_centre 26 = .ok (.goto 4, 3) := by decide +kernel
theorem dXM_centre_29 : decode cXM_centre 29 = .ok (.iconst (-1), 1) := by decide +kernel
