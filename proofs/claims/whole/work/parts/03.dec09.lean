theorem dXM_centre_30 : decode cXM_centre 30 = .ok (.ireturn, 1) := by decide +kernel
theorem dXM_linked_0 : decode cXM_linked 0 = .ok (.aload_n 0, 1) := by decide +kernel
theorem dXM_linked_1 : decode cXM_linked 1 = .ok (.iload_n 1, 1) := by decide +kernel
theorem dXM_linked_2 : decode cXM_linked 2 = .ok (.invokevirtual 32, 3) := by decide +kernel
theorem dXM_linked_5 : decode cXM_linked 5 = .ok (.ifCond .eq 28, 3) := by decide +kernel
theorem dXM_linked_8 : decode cXM_linked 8 = .ok (.aload_n 0, 1) := by decide +kernel
theorem dXM_linked_9 : decode cXM_linked 9 = .ok (.iload_n 2, 1) := by decide +kernel
theorem dXM_linked_10 : decode cXM_linked 10 = .ok (.invokevirtual 32, 3) := by decide +kernel
theorem dXM_linked_13 : decode cXM_linked 13 = .ok (.ifCond .eq 20, 3) := by decide +kernel
theorem dXM_linked_16 : decode cXM_linked 16 = .ok (.iload_n 1, 1) := by decide +kernel
theorem dXM_linked_17 : decode cXM_linked 17 = .ok (.iload_n 2, 1) := by decide +kernel
theorem dXM_linked_18 : decode cXM_linked 18 = .ok (.if_icmp .eq 15, 3) := by decide +kernel
theorem dXM_linked_21 : decode cXM_linked 21 = .ok (.aload_n 0, 1) := by decide +kernel
theorem dXM_linked_22 : decode cXM_linked 22 = .ok (.iload_n 1, 1) := by decide +kernel
theorem dXM_linked_23 : decode cXM_linked 23 = .ok (.invokevirtual 60, 3) := by decide +kernel
theorem dXM_linked_26 : decode cXM_linked 26 = .ok (.iload_n 2, 1) := by decide +kernel
theorem dXM_linked_27 : decode cXM_linked 27 = .ok (.ishr, 1) := by decide +kernel
theorem dXM_linked_28 : decode cXM_linked 28 = .ok (.iconst 1, 1) := by decide +kernel
theorem dXM_linked_29 : decode cXM_linked 29 = .ok (.iand, 1) := by decide +kernel
theorem dXM_linked_30 : decode cXM_linked 30 = .ok (.ifCond .ne 5, 3) := by decide +kernel
theorem dXM_linked_33 : decode cXM_linked 33 = .ok (.iconst 0, 1) := by decide +kernel
theorem dXM_linked_34 : decode cXM_linked 34 = .ok (.ireturn, 1) := by decide +kernel
theorem dXM_linked_35 : decode cXM_linked 35 = .ok (.aload_n 0, 1) := by decide +kernel
theorem dXM_linked_36 : decode cXM_linked 36 = .ok (.aload_n 0, 1) := by decide +kernel
theorem dXM_linked_37 : decode cXM_linked 37 = .ok (.iload_n 1, 1) := by decide +kernel
theorem dXM_linked_38 : decode cXM_linked 38 = .ok (.invokevirtual 60, 3) := by decide +kernel
theorem dXM_linked_41 : decode cXM_linked 41 = .ok (.invokevirtual 63, 3) := by decide +kernel
theorem dXM_linked_44 : decode cXM_linked 44 = .ok (.aload_n 0, 1) := by decide +kernel
theorem dXM_linked_45 : decode cXM_linked 45 = .ok (.getfield 54, 3) := by decide +kernel
theorem dXM_linked_48 : decode cXM_linked 48 = .ok (.iconst 1, 1) := by decide +kernel
theorem dXM_linked_49 : decode cXM_linked 49 = .ok (.iadd, 1) := by decide +kernel
theorem dXM_linked_50 : decode cXM_linked 50 = .ok (.istore_n 3, 1) := by decide +kernel
theorem dXM_linked_51 : decode cXM_linked 51 = .ok (.iconst 1, 1) := by decide +kernel
theorem dXM_linked_52 : decode cXM_linked 52 = .ok (.istore 4, 2) := by decide +kernel
theorem dXM_linked_54 : decode cXM_linked 54 = .ok (.iconst 0, 1) := by decide +kernel
theorem dXM_linked_55 : decode cXM_linked 55 = .ok (.istore 5, 2) := by decide +kernel
theorem dXM_linked_57 : decode cXM_linked 57 = .ok (.iload 5, 2) := by decide +kernel
theorem dXM_linked_59 : decode cXM_linked 59 = .ok (.iload_n 3, 1) := by decide +kernel
theorem dXM_linked_60 : decode cXM_linked 60 = .ok (.if_icmp .ge 77, 3) := by decide +kernel
theorem dXM_linked_63 : decode cXM_linked 63 = .ok (.iload 4, 2) := by decide +kernel
theorem dXM_linked_65 : decode cXM_linked 65 = .ok (.ifCond .eq 72, 3) := by decide +kernel
theorem dXM_linked_68 : decode cXM_linked 68 = .ok (.aload_n 0, 1) := by decide +kernel
theorem dXM_linked_69 : decode cXM_linked 69 = .ok (.iload_n 1, 1) := by decide +kernel
theorem dXM_linked_70 : decode cXM_linked 70 = .ok (.iload 5, 2) := by decide +kernel
theorem dXM_linked_72 : decode cXM_linked 72 = .ok (.invokevirtual 86, 3) := by decide +kernel
theorem dXM_linked_75 : decode cXM_linked 75 = .ok (.istore 6, 2) := by decide +kernel
theorem dXM_linked_77 : decode cXM_linked 77 = .ok (.aload_n 0, 1) := by decide +kernel
theorem dXM_linked_78 : decode cXM_linked 78 = .ok (.iload_n 1, 1) := by decide +kernel
theorem dXM_linked_79 : decode cXM_linked 79 = .ok (.invokevirtual 93, 3) := by decide +kernel
theorem dXM_linked_82 : decode cXM_linked 82 = .ok (.istore 7, 2) := by decide +kernel
theorem dXM_linked_84 : decode cXM_linked 84 = .ok (.aload_n 0, 1) := by decide +kernel
theorem dXM_linked_85 : decode cXM_linked 85 = .ok (.iload_n 2, 1) := by decide +kernel
theorem dXM_linked_86 : decode cXM_linked 86 = .ok (.invokevirtual 93, 3) := by decide +kernel
theorem dXM_linked_89 : decode cXM_linked 89 = .ok (.istore 8, 2) := by decide +kernel
theorem dXM_linked_91 : decode cXM_linked 91 = .ok (.iload 6, 2) := by decide +kernel
theorem dXM_linked_93 : decode cXM_linked 93 = .ok (.ifCond .eq 35, 3) := by decide +kernel
theorem dXM_linked_96 : decode cXM_linked 96 = .ok (.iload 7, 2) := by decide +kernel
theorem dXM_linked_98 : decode cXM_linked 98 = .ok (.iload 8, 2) := by decide +kernel
theorem dXM_linked_100 : decode cXM_linked 100 = .ok (.if_icmp .eq 24, 3) := by decide +kernel
theorem dXM_linked_103 : decode cXM_linked 103 = .ok (.aload_n 0, 1) := by decide +kernel
theorem dXM_linked_104 : decode cXM_linked 104 = .ok (.aload_n 0, 1) := by decide +kernel
theorem dXM_linked_105 : decode cXM_linked 105 = .ok (.getfield 19, 3) := by decide +kernel
theorem dXM_linked_108 : decode cXM_linked 108 = .ok (.iload 7, 2) := by decide +kernel
theorem dXM_linked_110 : decode cXM_linked 110 = .ok (.iaload, 1) := by decide +kernel
theorem dXM_linked_111 : decode cXM_linked 111 = .ok (.aload_n 0, 1) := by decide +kernel
theorem dXM_linked_112 : decode cXM_linked 112 = .ok (.getfield 19, 3) := by decide +kernel
theorem dXM_linked_115 : decode cXM_linked 115 = .ok (.iload 8, 2) := by decide +kernel
theorem dXM_linked_117 : decode cXM_linked 117 = .ok (.iaload, 1) := by decide +kernel
theorem dXM_linked_118 : decode cXM_linked 118 = .ok (.invokevirtual 80, 3) := by decide +kernel
theorem dXM_linked_121 : decode cXM_linked 121 = .ok (.ifCond .eq 7, 3) := by decide +kernel
theorem dXM_linked_124 : decode cXM_linked 124 = .ok (.iconst 1, 1) := by decide +kernel
theorem dXM_linked_125 : decode cXM_linked 125 = .ok (.goto 4, 3) := by decide +kernel
theorem dXM_linked_128 : decode cXM_linked 128 = .ok (.iconst 0, 1) := by decide +kernel
theorem dXM_linked_129 : decode cXM_linked 129 = .ok (.istore 4, 2) := by decide +kernel
theorem dXM_linked_131 : decode cXM_linked 131 = .ok (.iinc 5 1, 3) := by decide +kernel
theorem dXM_linked_134 : decode cXM_linked 134 = .ok (.goto (-77), 3) := by decide +kernel
theorem dXM_linked_137 : decode cXM_linked 137 = .ok (.iload 4, 2) := by decide +kernel
theorem dXM_linked_139 : decode cXM_linked 139 = .ok (.ireturn, 1) := by decide +kernel
theorem dXM_partOf_0 : decode cXM_partOf 0 = .ok (.iconst 0, 1) := by decide +kernel
theorem dXM_partOf_1 : decode cXM_partOf 1 = .ok (.istore_n 2, 1) := by decide +kernel
theorem dXM_partOf_2 : decode cXM_partOf 2 = .ok (.iconst 0, 1) := by decide +kernel
theorem dXM_partOf_3 : decode cXM_partOf 3 = .ok (.istore_n 3, 1) := by decide +kernel
theorem dXM_partOf_4 : decode cXM_partOf 4 = .ok (.iload_n 3, 1) := by decide +kernel
theorem dXM_partOf_5 : decode cXM_partOf 5 = .ok (.aload_n 0, 1) := by decide +kernel
theorem dXM_partOf_6 : decode cXM_partOf 6 = .ok (.getfield 73, 3) := by decide +kernel
theorem dXM_partOf_9 : decode cXM_partOf 9 = .ok (.if_icmp .ge 29, 3) := by decide +kernel
theorem dXM_partOf_12 : decode cXM_partOf 12 = .ok (.aload_n 0, 1) := by decide +kernel
theorem dXM_partOf_13 : decode cXM_partOf 13 = .ok (.getfield 19, 3) := by decide +kernel
theorem dXM_partOf_16 : decode cXM_partOf 16 = .ok (.iload_n 3, 1) := by decide +kernel
theorem dXM_partOf_17 : decode cXM_partOf 17 = .ok (.iaload, 1) := by decide +kernel
theorem dXM_partOf_18 : decode cXM_partOf 18 = .ok (.iload_n 1, 1) := by decide +kernel
theorem dXM_partOf_19 : decode cXM_partOf 19 = .ok (.ishr, 1) := by decide +kernel
theorem dXM_partOf_20 : decode cXM_partOf 20 = .ok (.iconst 1, 1) := by decide +kernel
theorem dXM_partOf_21 : decode cXM_partOf 21 = .ok (.iand, 1) := by decide +kernel
theorem dXM_partOf_22 : decode cXM_partOf 22 = .ok (.iconst 1, 1) := by decide +kernel
theorem dXM_partOf_23 : decode cXM_partOf 23 = .ok (.if_icmp .ne 7, 3) := by decide +kernel
theorem dXM_partOf_26 : decode cXM_partOf 26 = .ok (.iload_n 3, 1) := by decide +kernel
theorem dXM_partOf_27 : decode cXM_partOf 27 = .ok (.goto 4, 3) := by decide +kernel
theorem dXM_partOf_30 : decode cXM_partOf 30 = .ok (.iload_n 2, 1) := by decide +kernel
theorem dXM_partOf_31 : decode cXM_partOf 31 = .ok (.istore_n 2, 1) := by decide +kernel
theorem dXM_partOf_32 : decode cXM_partOf 32 = .ok (.iinc 3 1, 3) := by decide +kernel
theorem dXM_partOf_35 : decode cXM_partOf 35 = .ok (.goto (-31), 3) := by decide +kernel
theorem dXM_partOf_38 : decode cXM_partOf 38 = .ok (.iload_n 2, 1) := by decide +kernel
theorem dXM_partOf_39 : decode cXM_partOf 39 = .ok (.ireturn, 1) := by decide +kernel
theorem dXM_hereditary_0 : decode cXM_hereditary 0 = .ok (.aload_n 0, 1) := by decide +kernel
theorem dXM_hereditary_1 : decode cXM_hereditary 1 = .ok (.iload_n 1, 1) := by decide +kernel
theorem dXM_hereditary_2 : decode cXM_hereditary 2 = .ok (.invokevirtual 32, 3) := by decide +kernel
theorem dXM_hereditary_5 : decode cXM_hereditary 5 = .ok (.ifCond .eq 19, 3) := by decide +kernel
theorem dXM_hereditary_8 : decode cXM_hereditary 8 = .ok (.aload_n 0, 1) := by decide +kernel
theorem dXM_hereditary_9 : decode cXM_hereditary 9 = .ok (.aload_n 0, 1) := by decide +kernel
theorem dXM_hereditary_10 : decode cXM_hereditary 10 = .ok (.iload_n 1, 1) := by decide +kernel
theorem dXM_hereditary_11 : decode cXM_hereditary 11 = .ok (.invokevirtual 60, 3) := by decide +kernel
theorem dXM_hereditary_14 : decode cXM_hereditary 14 = .ok (.invokevirtual 109, 3) := by decide +kernel
theorem dXM_hereditary_17 : decode cXM_hereditary 17 = .ok (.ifCond .eq 7, 3) := by decide +kernel
theorem dXM_hereditary_20 : decode cXM_hereditary 20 = .ok (.iconst 1, 1) := by decide +kernel
theorem dXM_hereditary_21 : decode cXM_hereditary 21 = .ok (.goto 4, 3) := by decide +kernel
theorem dXM_hereditary_24 : decode cXM_hereditary 24 = .ok (.iconst 0, 1) := by decide +kernel
theorem dXM_hereditary_25 : decode cXM_hereditary 25 = .ok (.ireturn, 1) := by decide +kernel
theorem dXM_fine_0 : decode cXM_fine 0 = .ok (.iconst 1, 1) := by decide +kernel
theorem dXM_fine_1 : decode cXM_fine 1 = .ok (.istore_n 2, 1) := by decide +kernel
theorem dXM_fine_2 : decode cXM_fine 2 = .ok (.iconst 0, 1) := by decide +kernel
theorem dXM_fine_3 : decode cXM_fine 3 = .ok (.istore_n 3, 1) := by decide +kernel
theorem dXM_fine_4 : decode cXM_fine 4 = .ok (.iload_n 3, 1) := by decide +kernel
theorem dXM_fine_5 : decode cXM_fine 5 = .ok (.aload_n 0, 1) := by decide +kernel
theorem dXM_fine_6 : decode cXM_fine 6 = .ok (.getfield 28, 3) := by decide +kernel
theorem dXM_fine_9 : decode cXM_fine 9 = .ok (.if_icmp .ge 37, 3) := by decide +kernel
theorem dXM_fine_12 : decode cXM_fine 12 = .ok (.iload_n 2, 1) := by decide +kernel
theorem dXM_fine_13 : decode cXM_fine 13 = .ok (.ifCond .eq 33, 3) := by decide +kernel
theorem dXM_fine_16 : decode cXM_fine 16 = .ok (.iload_n 1, 1) := by decide +kernel
theorem dXM_fine_17 : decode cXM_fine 17 = .ok (.iload_n 3, 1) := by decide +kernel
theorem dXM_fine_18 : decode cXM_fine 18 = .ok (.ishr, 1) := by decide +kernel
theorem dXM_fine_19 : decode cXM_fine 19 = .ok (.iconst 1, 1) := by decide +kernel
theorem dXM_fine_20 : decode cXM_fine 20 = .ok (.iand, 1) := by decide +kernel
theorem dXM_fine_21 : decode cXM_fine 21 = .ok (.iconst 1, 1) := by decide +kernel
theorem dXM_fine_22 : decode cXM_fine 22 = .ok (.if_icmp .ne 18, 3) := by decide +kernel
theorem dXM_fine_25 : decode cXM_fine 25 = .ok (.aload_n 0, 1) := by decide +kernel
theorem dXM_fine_26 : decode cXM_fine 26 = .ok (.aload_n 0, 1) := by decide +kernel
theorem dXM_fine_27 : decode cXM_fine 27 = .ok (.iload_n 3, 1) := by decide +kernel
theorem dXM_fine_28 : decode cXM_fine 28 = .ok (.iload_n 1, 1) := by decide +kernel
theorem dXM_fine_29 : decode cXM_fine 29 = .ok (.invokevirtual 36, 3) := by decide +kernel
theorem dXM_fine_32 : decode cXM_fine 32 = .ok (.invokevirtual 106, 3) := by decide +kernel
theorem dXM_fine_35 : decode cXM_fine 35 = .ok (.aload_n 0, 1) := by decide +kernel
theorem dXM_fine_36 : decode cXM_fine 36 = .ok (.getfield 102, 3) := by decide +kernel
theorem dXM_fine_39 : decode cXM_fine 39 = .ok (.istore_n 2, 1) := by decide +kernel
theorem dXM_fine_40 : decode cXM_fine 40 = .ok (.iinc 3 1, 3) := by decide +kernel
theorem dXM_fine_43 : decode cXM_fine 43 = .ok (.goto (-39), 3) := by decide +kernel
theorem dXM_fine_46 : decode cXM_fine 46 = .ok (.iload_n 2, 1) := by decide +kernel
theorem dXM_fine_47 : decode cXM_fine 47 = .ok (.ireturn, 1) := by decide +kernel
theorem dXM_eliminate_0 : decode cXM_eliminate 0 = .ok (.iload_n 1, 1) := by decide +kernel
theorem dXM_eliminate_1 : decode cXM_eliminate 1 = .ok (.istore_n 2, 1) := by decide +kernel
theorem dXM_eliminate_2 : decode cXM_eliminate 2 = .ok (.aload_n 0, 1) := by decide +kernel
theorem dXM_eliminate_3 : decode cXM_eliminate 3 = .ok (.iconst 0, 1) := by decide +kernel
theorem dXM_eliminate_4 : decode cXM_eliminate 4 = .ok (.putfield 96, 3) := by decide +kernel
theorem dXM_eliminate_7 : decode cXM_eliminate 7 = .ok (.iload_n 2, 1) := by decide +kernel
theorem dXM_eliminate_8 : decode cXM_eliminate 8 = .ok (.invokestatic 47, 3) := by decide +kernel
theorem dXM_eliminate_11 : decode cXM_eliminate 11 = .ok (.iconst 1, 1) := by decide +kernel
theorem dXM_eliminate_12 : decode cXM_eliminate 12 = .ok (.if_icmp .le 7, 3) := by decide +kernel
theorem dXM_eliminate_15 : decode cXM_eliminate 15 = .ok (.iconst 1, 1) := by decide +kernel
theorem dXM_eliminate_16 : decode cXM_eliminate 16 = .ok (.goto 4, 3) := by decide +kernel
theorem dXM_eliminate_19 : decode cXM_eliminate 19 = .ok (.iconst 0, 1) := by decide +kernel
theorem dXM_eliminate_20 : decode cXM_eliminate 20 = .ok (.istore_n 3, 1) := by decide +kernel
theorem dXM_eliminate_21 : decode cXM_eliminate 21 = .ok (.iload_n 3, 1) := by decide +kernel
theorem dXM_eliminate_22 : decode cXM_eliminate 22 = .ok (.ifCond .eq 106, 3) := by decide +kernel
theorem dXM_eliminate_25 : decode cXM_eliminate 25 = .ok (.bipush 8, 2) := by decide +kernel
theorem dXM_eliminate_27 : decode cXM_eliminate 27 = .ok (.istore 4, 2) := by decide +kernel
theorem dXM_eliminate_29 : decode cXM_eliminate 29 = .ok (.iload 4, 2) := by decide +kernel
theorem dXM_eliminate_31 : decode cXM_eliminate 31 = .ok (.ifCond .lt 29, 3) := by decide +kernel
theorem dXM_eliminate_34 : decode cXM_eliminate 34 = .ok (.iload_n 2, 1) := by decide +kernel
theorem dXM_eliminate_35 : decode cXM_eliminate 35 = .ok (.iload 4, 2) := by decide +kernel
theorem dXM_eliminate_37 : decode cXM_eliminate 37 = .ok (.ishr, 1) := by decide +kernel
theorem dXM_eliminate_38 : decode cXM_eliminate 38 = .ok (.iconst 1, 1) := by decide +kernel
theorem dXM_eliminate_39 : decode cXM_eliminate 39 = .ok (.iand, 1) := by decide +kernel
theorem dXM_eliminate_40 : decode cXM_eliminate 40 = .ok (.ifCond .eq 14, 3) := by decide +kernel
theorem dXM_eliminate_43 : decode cXM_eliminate 43 = .ok (.aload_n 0, 1) := by decide +kernel
theorem dXM_eliminate_44 : decode cXM_eliminate 44 = .ok (.iload 4, 2) := by decide +kernel
theorem dXM_eliminate_46 : decode cXM_eliminate 46 = .ok (.iload_n 2, 1) := by decide +kernel
theorem dXM_eliminate_47 : decode cXM_eliminate 47 = .ok (.invokevirtual 99, 3) := by decide +kernel
theorem dXM_eliminate_50 : decode cXM_eliminate 50 = .ok (.iconst (-1), 1) := by decide +kernel
theorem dXM_eliminate_51 : decode cXM_eliminate 51 = .ok (.if_icmp .ne 9, 3) := by decide +kernel
theorem dXM_eliminate_54 : decode cXM_eliminate 54 = .ok (.iinc 4 (-1), 3) := by decide +kernel
theorem dXM_eliminate_57 : decode cXM_eliminate 57 = .ok (.goto (-28), 3) := by decide +kernel
theorem dXM_eliminate_60 : decode cXM_eliminate 60 = .ok (.iload 4, 2) := by decide +kernel
theorem dXM_eliminate_62 : decode cXM_eliminate 62 = .ok (.ifCond .lt 44, 3) := by decide +kernel
theorem dXM_eliminate_65 : decode cXM_eliminate 65 = .ok (.aload_n 0, 1) := by decide +kernel
theorem dXM_eliminate_66 : decode cXM_eliminate 66 = .ok (.getfield 22, 3) := by decide +kernel
theorem dXM_eliminate_69 : decode cXM_eliminate 69 = .ok (.aload_n 0, 1) := by decide +kernel
theorem dXM_eliminate_70 : decode cXM_eliminate 70 = .ok (.getfield 96, 3) := by decide +kernel
theorem dXM_eliminate_73 : decode cXM_eliminate 73 = .ok (.iload 4, 2) := by decide +kernel
theorem dXM_eliminate_75 : decode cXM_eliminate 75 = .ok (.bipush 16, 2) := by decide +kernel
theorem dXM_eliminate_77 : decode cXM_eliminate 77 = .ok (.aload_n 0, 1) := by decide +kernel
theorem dXM_eliminate_78 : decode cXM_eliminate 78 = .ok (.iload 4, 2) := by decide +kernel
theorem dXM_eliminate_80 : decode cXM_eliminate 80 = .ok (.iload_n 2, 1) := by decide +kernel
theorem dXM_eliminate_81 : decode cXM_eliminate 81 = .ok (.invokevirtual 99, 3) := by decide +kernel
theorem dXM_eliminate_84 : decode cXM_eliminate 84 = .ok (.imul, 1) := by decide +kernel
theorem dXM_eliminate_85 : decode cXM_eliminate 85 = .ok (.iadd, 1) := by decide +kernel
theorem dXM_eliminate_86 : decode cXM_eliminate 86 = .ok (.iastore, 1) := by decide +kernel
theorem dXM_eliminate_87 : decode cXM_eliminate 87 = .ok (.aload_n 0, 1) := by decide +kernel
theorem dXM_eliminate_88 : decode cXM_eliminate 88 = .ok (.dup, 1) := by decide +kernel
theorem dXM_eliminate_89 : decode cXM_eliminate 89 = .ok (.getfield 96, 3) := by decide +kernel
theorem dXM_eliminate_92 : decode cXM_eliminate 92 = .ok (.iconst 1, 1) := by decide +kernel
theorem dXM_eliminate_93 : decode cXM_eliminate 93 = .ok (.iadd, 1) := by decide +kernel
theorem dXM_eliminate_94 : decode cXM_eliminate 94 = .ok (.putfield 96, 3) := by decide +kernel
theorem dXM_eliminate_97 : decode cXM_eliminate 97 = .ok (.iload_n 2, 1) := by decide +kernel
theorem dXM_eliminate_98 : decode cXM_eliminate 98 = .ok (.iconst 1, 1) := by decide +kernel
theorem dXM_eliminate_99 : decode cXM_eliminate 99 = .ok (.iload 4, 2) := by decide +kernel
theorem dXM_eliminate_101 : decode cXM_eliminate 101 = .ok (.ishl, 1) := by decide +kernel
theorem dXM_eliminate_102 : decode cXM_eliminate 102 = .ok (.iconst (-1), 1) := by decide +kernel
theorem dXM_eliminate_103 : decode cXM_eliminate 103 = .ok (.ixor, 1) := by decide +kernel
theorem dXM_eliminate_104 : decode cXM_eliminate 104 = .ok (.iand, 1) := by decide +kernel
theorem dXM_eliminate_105 : decode cXM_eliminate 105 = .ok (.istore_n 2, 1) := by decide +kernel
theorem dXM_eliminate_106 : decode cXM_eliminate 106 = .ok (.iload 4, 2) := by decide +kernel
theorem dXM_eliminate_108 : decode cXM_eliminate 108 = .ok (.ifCond .lt 15, 3) := by decide +kernel
theorem dXM_eliminate_111 : decode cXM_eliminate 111 = .ok (.iload_n 2, 1) := by decide +kernel
theorem dXM_eliminate_112 : decode cXM_eliminate 112 = .ok (.invokestatic 47, 3) := by decide +kernel
theorem dXM_eliminate_115 : decode cXM_eliminate 115 = .ok (.iconst 1, 1) := by decide +kernel
theorem dXM_eliminate_116 : decode cXM_eliminate 116 = .ok (.if_icmp .le 7, 3) := by decide +kernel
theorem dXM_eliminate_119 : decode cXM_eliminate 119 = .ok (.iconst 1, 1) := by decide +kernel
theorem dXM_eliminate_120 : decode cXM_eliminate 120 = .ok (.goto 4, 3) := by decide +kernel
theorem dXM_eliminate_123 : decode cXM_eliminate 123 = .ok (.iconst 0, 1) := by decide +kernel
theorem dXM_eliminate_124 : decode cXM_eliminate 124 = .ok (.istore_n 3, 1) := by decide +kernel
theorem dXM_eliminate_125 : decode cXM_eliminate 125 = .ok (.goto (-104), 3) := by decide +kernel
theorem dXM_eliminate_128 : decode cXM_eliminate 128 = .ok (.aload_n 0, 1) := by decide +kernel
theorem dXM_eliminate_129 : decode cXM_eliminate 129 = .ok (.iload_n 2, 1) := by decide +kernel
theorem dXM_eliminate_130 : decode cXM_eliminate 130 = .ok (.invokestatic 47, 3) := by decide +kernel
theorem dXM_eliminate_133 : decode cXM_eliminate 133 = .ok (.iconst 1, 1) := by decide +kernel
theorem dXM_eliminate_134 : decode cXM_eliminate 134 = .ok (.if_icmp .gt 7, 3) := by decide +kernel
theorem dXM_eliminate_137 : decode cXM_eliminate 137 = .ok (.iconst 1, 1) := by decide +kernel
theorem dXM_eliminate_138 : decode cXM_eliminate 138 = .ok (.goto 4, 3) := by decide +kernel
theorem dXM_eliminate_141 : decode cXM_eliminate 141 = .ok (.iconst 0, 1) := by decide +kernel
theorem dXM_eliminate_142 : decode cXM_eliminate 142 = .ok (.putfield 102, 3) := by decide +kernel
theorem dXM_eliminate_145 : decode cXM_eliminate 145 = .ok (.return_, 1) := by decide +kernel
theorem dXM_way_0 : decode cXM_way 0 = .ok (.aload_n 0, 1) := by decide +kernel
theorem dXM_way_1 : decode cXM_way 1 = .ok (.getfield 7, 3) := by decide +kernel
theorem dXM_way_4 : decode cXM_way 4 = .ok (.iload_n 1, 1) := by decide +kernel
theorem dXM_way_5 : decode cXM_way 5 = .ok (.iaload, 1) := by decide +kernel
theorem dXM_way_6 : decode cXM_way 6 = .ok (.iload_n 2, 1) := by decide +kernel
theorem dXM_way_7 : decode cXM_way 7 = .ok (.iand, 1) := by decide +kernel
theorem dXM_way_8 : decode cXM_way 8 = .ok (.istore_n 3, 1) := by decide +kernel
theorem dXM_way_9 : decode cXM_way 9 = .ok (.iload_n 3, 1) := by decide +kernel
theorem dXM_way_10 : decode cXM_way 10 = .ok (.invokestatic 47, 3) := by decide +kernel
theorem dXM_way_13 : decode cXM_way 13 = .ok (.iconst 1, 1) := by decide +kernel
theorem dXM_way_14 : decode cXM_way 14 = .ok (.if_icmp .ne 8, 3) := by decide +kernel
theorem dXM_way_17 : decode cXM_way 17 = .ok (.iload_n 3, 1) := by decide +kernel
theorem dXM_way_18 : decode cXM_way 18 = .ok (.invokestatic 43, 3) := by decide +kernel
theorem dXM_way_21 : decode cXM_way 21 = .ok (.ireturn, 1) := by decide +kernel
theorem dXM_way_22 : decode cXM_way 22 = .ok (.iconst 0, 1) := by decide +kernel
theorem dXM_way_23 : decode cXM_way 23 = .ok (.istore 4, 2) := by decide +kernel
theorem dXM_way_25 : decode cXM_way 25 = .ok (.iload 4, 2) := by decide +kernel
theorem dXM_way_27 : decode cXM_way 27 = .ok (.aload_n 0, 1) := by decide +kernel
theorem dXM_way_28 : decode cXM_way 28 = .ok (.getfield 28, 3) := by decide +kernel
theorem dXM_way_31 : decode cXM_way 31 = .ok (.if_icmp .ge 91, 3) := by decide +kernel
theorem dXM_way_34 : decode cXM_way 34 = .ok (.iconst 1, 1) := by decide +kernel
theorem dXM_way_35 : decode cXM_way 35 = .ok (.iload_n 1, 1) := by decide +kernel
theorem dXM_way_36 : decode cXM_way 36 = .ok (.ishl, 1) := by decide +kernel
theorem dXM_way_37 : decode cXM_way 37 = .ok (.iconst 1, 1) := by decide +kernel
theorem dXM_way_38 : decode cXM_way 38 = .ok (.iload 4, 2) := by decide +kernel
theorem dXM_way_40 : decode cXM_way 40 = .ok (.ishl, 1) := by decide +kernel
theorem dXM_way_41 : decode cXM_way 41 = .ok (.ior, 1) := by decide +kernel
theorem dXM_way_42 : decode cXM_way 42 = .ok (.istore 5, 2) := by decide +kernel
theorem dXM_way_44 : decode cXM_way 44 = .ok (.iload 4, 2) := by decide +kernel
theorem dXM_way_46 : decode cXM_way 46 = .ok (.iload_n 1, 1) := by decide +kernel
theorem dXM_way_47 : decode cXM_way 47 = .ok (.if_icmp .eq 40, 3) := by decide +kernel
theorem dXM_way_50 : decode cXM_way 50 = .ok (.iload_n 2, 1) := by decide +kernel
theorem dXM_way_51 : decode cXM_way 51 = .ok (.iload 4, 2) := by decide +kernel
theorem dXM_way_53 : decode cXM_way 53 = .ok (.ishr, 1) := by decide +kernel
theorem dXM_way_54 : decode cXM_way 54 = .ok (.iconst 1, 1) := by decide +kernel
theorem dXM_way_55 : decode cXM_way 55 = .ok (.iand, 1) := by decide +kernel
theorem dXM_way_56 : decode cXM_way 56 = .ok (.iconst 1, 1) := by decide +kernel
theorem dXM_way_57 : decode cXM_way 57 = .ok (.if_icmp .ne 30, 3) := by decide +kernel
theorem dXM_way_60 : decode cXM_way 60 = .ok (.iload_n 3, 1) := by decide +kernel
theorem dXM_way_61 : decode cXM_way 61 = .ok (.iload 5, 2) := by decide +kernel
theorem dXM_way_63 : decode cXM_way 63 = .ok (.iconst (-1), 1) := by decide +kernel
theorem dXM_way_64 : decode cXM_way 64 = .ok (.ixor, 1) := by decide +kernel
theorem dXM_way_65 : decode cXM_way 65 = .ok (.iand, 1) := by decide +kernel
theorem dXM_way_66 : decode cXM_way 66 = .ok (.aload_n 0, 1) := by decide +kernel
theorem dXM_way_67 : decode cXM_way 67 = .ok (.getfield 7, 3) := by decide +kernel
theorem dXM_way_70 : decode cXM_way 70 = .ok (.iload 4, 2) := by decide +kernel
theorem dXM_way_72 : decode cXM_way 72 = .ok (.iaload, 1) := by decide +kernel
theorem dXM_way_73 : decode cXM_way 73 = .ok (.iload_n 2, 1) := by decide +kernel
theorem dXM_way_74 : decode cXM_way 74 = .ok (.iand, 1) := by decide +kernel
theorem dXM_way_75 : decode cXM_way 75 = .ok (.iload 5, 2) := by decide +kernel
theorem dXM_way_77 : decode cXM_way 77 = .ok (.iconst (-1), 1) := by decide +kernel
theorem dXM_way_78 : decode cXM_way 78 = .ok (.ixor, 1) := by decide +kernel
theorem dXM_way_79 : decode cXM_way 79 = .ok (.iand, 1) := by decide +kernel
theorem dXM_way_80 : decode cXM_way 80 = .ok (.if_icmp .ne 7, 3) := by decide +kernel
theorem dXM_way_83 : decode cXM_way 83 = .ok (.iconst 1, 1) := by decide +kernel
theorem dXM_way_84 : decode cXM_way 84 = .ok (.goto 4, 3) := by decide +kernel
theorem dXM_way_87 : decode cXM_way 87 = .ok (.iconst 0, 1) := by decide +kernel
theorem dXM_way_88 : decode cXM_way 88 = .ok (.istore 6, 2) := by decide +kernel
theorem dXM_way_90 : decode cXM_way 90 = .ok (.iload 6, 2) := by decide +kernel
theorem dXM_way_92 : decode cXM_way 92 = .ok (.ifCond .eq 24, 3) := by decide +kernel
theorem dXM_way_95 : decode cXM_way 95 = .ok (.iload 4, 2) := by decide +kernel
theorem dXM_way_97 : decode cXM_way 97 = .ok (.iload_n 3, 1) := by decide +kernel
theorem dXM_way_98 : decode cXM_way 98 = .ok (.iload 4, 2) := by decide +kernel
theorem dXM_way_100 : decode cXM_way 100 = .ok (.ishr, 1) := by decide +kernel
theorem dXM_way_101 : decode cXM_way 101 = .ok (.iconst 1, 1) := by decide +kernel
theorem dXM_way_102 : decode cXM_way 102 = .ok (.iand, 1) := by decide +kernel
theorem dXM_way_103 : decode cXM_way 103 = .ok (.iconst 1, 1) := by decide +kernel
theorem dXM_way_104 : decode cXM_way 104 = .ok (.if_icmp .ne 8, 3) := by decide +kernel
theorem dXM_way_107 : decode cXM_way 107 = .ok (.bipush 32, 2) := by decide +kernel
theorem dXM_way_109 : decode cXM_way 109 = .ok (.goto 5, 3) := by decide +kernel
theorem dXM_way_112 : decode cXM_way 112 = .ok (.bipush 16, 2) := by decide +kernel
theorem dXM_way_114 : decode cXM_way 114 = .ok (.iadd, 1) := by decide +kernel
theorem dXM_way_115 : decode cXM_way 115 = .ok (.ireturn, 1) := by decide +kernel
theorem dXM_way_116 : decode cXM_way 116 = .ok (.iinc 4 1, 3) := by decide +kernel
theorem dXM_way_119 : decode cXM_way 119 = .ok (.goto (-94), 3) := by decide +kernel
theorem dXM_way_122 : decode cXM_way 122 = .ok (.iconst (-1), 1) := by decide +kernel
theorem dXM_way_123 : decode cXM_way 123 = .ok (.ireturn, 1) := by decide +kernel
theorem dXM_step_0 : decode cXM_step 0 = .ok (.aload_n 0, 1) := by decide +kernel
theorem dXM_step_1 : decode cXM_step 1 = .ok (.iload_n 1, 1) := by decide +kernel
theorem dXM_step_2 : decode cXM_step 2 = .ok (.invokevirtual 32, 3) := by decide +kernel
theorem dXM_step_5 : decode cXM_step 5 = .ok (.ifCond .ne 5, 3) := by decide +kernel
theorem dXM_step_8 : decode cXM_step 8 = .ok (.iconst (-1), 1) := by decide +kernel
theorem dXM_step_9 : decode cXM_step 9 = .ok (.ireturn, 1) := by decide +kernel
theorem dXM_step_10 : decode cXM_step 10 = .ok (.aload_n 0, 1) := by decide +kernel
theorem dXM_step_11 : decode cXM_step 11 = .ok (.aload_n 0, 1) := by decide +kernel
theorem dXM_step_12 : decode cXM_step 12 = .ok (.iload_n 1, 1) := by decide +kernel
theorem dXM_step_13 : decode cXM_step 13 = .ok (.invokevirtual 60, 3) := by decide +kernel
theorem dXM_step_16 : decode cXM_step 16 = .ok (.invokevirtual 106, 3) := by decide +kernel
theorem dXM_step_19 : decode cXM_step 19 = .ok (.iload_n 2, 1) := by decide +kernel
theorem dXM_step_20 : decode cXM_step 20 = .ok (.ifCond .lt 20, 3) := by decide +kernel
theorem dXM_step_23 : decode cXM_step 23 = .ok (.iload_n 2, 1) := by decide +kernel
theorem dXM_step_24 : decode cXM_step 24 = .ok (.aload_n 0, 1) := by decide +kernel
theorem dXM_step_25 : decode cXM_step 25 = .ok (.getfield 96, 3) := by decide +kernel
theorem dXM_step_28 : decode cXM_step 28 = .ok (.if_icmp .ge 12, 3) := by decide +kernel
theorem dXM_step_31 : decode cXM_step 31 = .ok (.aload_n 0, 1) := by decide +kernel
theorem dXM_step_32 : decode cXM_step 32 = .ok (.getfield 22, 3) := by decide +kernel
theorem dXM_step_35 : decode cXM_step 35 = .ok (.iload_n 2, 1) := by decide +kernel
theorem dXM_step_36 : decode cXM_step 36 = .ok (.iaload, 1) := by decide +kernel
theorem dXM_step_37 : decode cXM_step 37 = .ok (.goto 4, 3) := by decide +kernel
theorem dXM_step_40 : decode cXM_step 40 = .ok (.iconst (-1), 1) := by decide +kernel
theorem dXM_step_41 : decode cXM_step 41 = .ok (.ireturn, 1) := by decide +kernel
theorem dXM_obstruction_0 : decode cXM_obstruction 0 = .ok (.aload_n 0, 1) := by decide +kernel
theorem dXM_obstruction_1 : decode cXM_obstruction 1 = .ok (.iload_n 1, 1) := by decide +kernel
theorem dXM_obstruction_2 : decode cXM_obstruction 2 = .ok (.invokevirtual 32, 3) := by decide +kernel
theorem dXM_obstruction_5 : decode cXM_obstruction 5 = .ok (.ifCond .eq 15, 3) := by decide +kernel
theorem dXM_obstruction_8 : decode cXM_obstruction 8 = .ok (.aload_n 0, 1) := by decide +kernel
theorem dXM_obstruction_9 : decode cXM_obstruction 9 = .ok (.aload_n 0, 1) := by decide +kernel
theorem dXM_obstruction_10 : decode cXM_obstruction 10 = .ok (.iload_n 1, 1) := by decide +kernel
theorem dXM_obstruction_11 : decode cXM_obstruction 11 = .ok (.invokevirtual 60, 3) := by decide +kernel
theorem dXM_obstruction_14 : decode cXM_obstruction 14 = .ok (.invokevirtual 109, 3) := by decide +kernel
theorem dXM_obstruction_17 : decode cXM_obstruction 17 = .ok (.ifCond .eq 5, 3) := by decide +kernel
theorem dXM_obstruction_20 : decode cXM_obstruction 20 = .ok (.iconst (-1), 1) := by decide +kernel
theorem dXM_obstruction_21 : decode cXM_obstruction 21 = .ok (.ireturn, 1) := by decide +kernel
theorem dXM_obstruction_22 : decode cXM_obstruction 22 = .ok (.aload_n 0, 1) := by decide +kernel
theorem dXM_obstruction_23 : decode cXM_obstruction 23 = .ok (.iload_n 1, 1) := by decide +kernel
theorem dXM_obstruction_24 : decode cXM_obstruction 24 = .ok (.invokevirtual 60, 3) := by decide +kernel
theorem dXM_obstruction_27 : decode cXM_obstruction 27 = .ok (.istore_n 2, 1) := by decide +kernel
theorem dXM_obstruction_28 : decode cXM_obstruction 28 = .ok (.iconst 0, 1) := by decide +kernel
theorem dXM_obstruction_29 : decode cXM_obstruction 29 = .ok (.istore_n 3, 1) := by decide +kernel
theorem dXM_obstruction_30 : decode cXM_obstruction 30 = .ok (.iload_n 3, 1) := by decide +kernel
theorem dXM_obstruction_31 : decode cXM_obstruction 31 = .ok (.aload_n 0, 1) := by decide +kernel
theorem dXM_obstruction_32 : decode cXM_obstruction 32 = .ok (.getfield 28, 3) := by decide +kernel
theorem dXM_obstruction_35 : decode cXM_obstruction 35 = .ok (.if_icmp .ge 34, 3) := by decide +kernel
theorem dXM_obstruction_38 : decode cXM_obstruction 38 = .ok (.iload_n 2, 1) := by decide +kernel
theorem dXM_obstruction_39 : decode cXM_obstruction 39 = .ok (.iconst 1, 1) := by decide +kernel
theorem dXM_obstruction_40 : decode cXM_obstruction 40 = .ok (.iload_n 3, 1) := by decide +kernel
theorem dXM_obstruction_41 : decode cXM_obstruction 41 = .ok (.ishl, 1) := by decide +kernel
theorem dXM_obstruction_42 : decode cXM_obstruction 42 = .ok (.iconst (-1), 1) := by decide +kernel
theorem dXM_obstruction_43 : decode cXM_obstruction 43 = .ok (.ixor, 1) := by decide +kernel
theorem dXM_obstruction_44 : decode cXM_obstruction 44 = .ok (.iand, 1) := by decide +kernel
theorem dXM_obstruction_45 : decode cXM_obstruction 45 = .ok (.istore 4, 2) := by decide +kernel
theorem dXM_obstruction_47 : decode cXM_obstruction 47 = .ok (.aload_n 0, 1) := by decide +kernel
theorem dXM_obstruction_48 : decode cXM_obstruction 48 = .ok (.iload 4, 2) := by decide +kernel
theorem dXM_obstruction_50 : decode cXM_obstruction 50 = .ok (.invokevirtual 109, 3) := by decide +kernel
theorem dXM_obstruction_53 : decode cXM_obstruction 53 = .ok (.ifCond .eq 7, 3) := by decide +kernel
theorem dXM_obstruction_56 : decode cXM_obstruction 56 = .ok (.iload_n 2, 1) := by decide +kernel
theorem dXM_obstruction_57 : decode cXM_obstruction 57 = .ok (.goto 5, 3) := by decide +kernel
theorem dXM_obstruction_60 : decode cXM_obstruction 60 = .ok (.iload 4, 2) := by decide +kernel
theorem dXM_obstruction_62 : decode cXM_obstruction 62 = .ok (.istore_n 2, 1) := by decide +kernel
theorem dXM_obstruction_63 : decode cXM_obstruction 63 = .ok (.iinc 3 1, 3) := by decide +kernel
theorem dXM_obstruction_66 : decode cXM_obstruction 66 = .ok (.goto (-36), 3) := by decide +kernel
theorem dXM_obstruction_69 : decode cXM_obstruction 69 = .ok (.iload_n 2, 1) := by decide +kernel
theorem dXM_obstruction_70 : decode cXM_obstruction 70 = .ok (.ireturn, 1) := by decide +kernel
theorem dXM_obstacle_0 : decode cXM_obstacle 0 = .ok (.aload_n 0, 1) := by decide +kernel
theorem dXM_obstacle_1 : decode cXM_obstacle 1 = .ok (.iload_n 1, 1) := by decide +kernel
theorem dXM_obstacle_2 : decode cXM_obstacle 2 = .ok (.invokevirtual 112, 3) := by decide +kernel
theorem dXM_obstacle_5 : decode cXM_obstacle 5 = .ok (.istore_n 2, 1) := by decide +kernel
theorem dXM_obstacle_6 : decode cXM_obstacle 6 = .ok (.iload_n 2, 1) := by decide +kernel
theorem dXM_obstacle_7 : decode cXM_obstacle 7 = .ok (.iconst (-1), 1) := by decide +kernel
theorem dXM_obstacle_8 : decode cXM_obstacle 8 = .ok (.if_icmp .ne 5, 3) := by decide +kernel
theorem dXM_obstacle_11 : decode cXM_obstacle 11 = .ok (.iconst (-1), 1) := by decide +kernel
theorem dXM_obstacle_12 : decode cXM_obstacle 12 = .ok (.ireturn, 1) := by decide +kernel
theorem dXM_obstacle_13 : decode cXM_obstacle 13 = .ok (.iload_n 2, 1) := by decide +kernel
theorem dXM_obstacle_14 : decode cXM_obstacle 14 = .ok (.invokestatic 47, 3) := by decide +kernel
theorem dXM_obstacle_17 : decode cXM_obstacle 17 = .ok (.istore_n 3, 1) := by decide +kernel
theorem dXM_obstacle_18 : decode cXM_obstacle 18 = .ok (.aload_n 0, 1) := by decide +kernel
theorem dXM_obstacle_19 : decode cXM_obstacle 19 = .ok (.iload_n 2, 1) := by decide +kernel
theorem dXM_obstacle_20 : decode cXM_obstacle 20 = .ok (.invokevirtual 115, 3) := by decide +kernel
theorem dXM_obstacle_23 : decode cXM_obstacle 23 = .ok (.istore 4, 2) := by decide +kernel
theorem dXM_obstacle_25 : decode cXM_obstacle 25 = .ok (.iload 4, 2) := by decide +kernel
theorem dXM_obstacle_27 : decode cXM_obstacle 27 = .ok (.iload_n 3, 1) := by decide +kernel
theorem dXM_obstacle_28 : decode cXM_obstacle 28 = .ok (.if_icmp .ne 5, 3) := by decide +kernel
theorem dXM_obstacle_31 : decode cXM_obstacle 31 = .ok (.iconst 1, 1) := by decide +kernel
theorem dXM_obstacle_32 : decode cXM_obstacle 32 = .ok (.ireturn, 1) := by decide +kernel
theorem dXM_obstacle_33 : decode cXM_obstacle 33 = .ok (.iload_n 3, 1) := by decide +kernel
theorem dXM_obstacle_34 : decode cXM_obstacle 34 = .ok (.iconst 5, 1) := by decide +kernel
theorem dXM_obstacle_35 : decode cXM_obstacle 35 = .ok (.if_icmp .ne 12, 3) := by decide +kernel
theorem dXM_obstacle_38 : decode cXM_obstacle 38 = .ok (.iload 4, 2) := by decide +kernel
theorem dXM_obstacle_40 : decode cXM_obstacle 40 = .ok (.bipush 6, 2) := by decide +kernel
