theorem dXM_obstacle_42 : decode cXM_obstacle 42 = .ok (.if_icmp .ne 5, 3) := by decide +kernel
theorem dXM_obstacle_45 : decode cXM_obstacle 45 = .ok (.iconst 2, 1) := by decide +kernel
theorem dXM_obstacle_46 : decode cXM_obstacle 46 = .ok (.ireturn, 1) := by decide +kernel
theorem dXM_obstacle_47 : decode cXM_obstacle 47 = .ok (.iload_n 3, 1) := by decide +kernel
theorem dXM_obstacle_48 : decode cXM_obstacle 48 = .ok (.iconst 5, 1) := by decide +kernel
theorem dXM_obstacle_49 : decode cXM_obstacle 49 = .ok (.if_icmp .ne 7, 3) := by decide +kernel
theorem dXM_obstacle_52 : decode cXM_obstacle 52 = .ok (.iconst 3, 1) := by decide +kernel
theorem dXM_obstacle_53 : decode cXM_obstacle 53 = .ok (.goto 4, 3) := by decide +kernel
theorem dXM_obstacle_56 : decode cXM_obstacle 56 = .ok (.iconst 4, 1) := by decide +kernel
theorem dXM_obstacle_57 : decode cXM_obstacle 57 = .ok (.ireturn, 1) := by decide +kernel
theorem dXM_edges_0 : decode cXM_edges 0 = .ok (.iconst 0, 1) := by decide +kernel
theorem dXM_edges_1 : decode cXM_edges 1 = .ok (.istore_n 2, 1) := by decide +kernel
theorem dXM_edges_2 : decode cXM_edges 2 = .ok (.iconst 0, 1) := by decide +kernel
theorem dXM_edges_3 : decode cXM_edges 3 = .ok (.istore_n 3, 1) := by decide +kernel
theorem dXM_edges_4 : decode cXM_edges 4 = .ok (.iload_n 3, 1) := by decide +kernel
theorem dXM_edges_5 : decode cXM_edges 5 = .ok (.aload_n 0, 1) := by decide +kernel
theorem dXM_edges_6 : decode cXM_edges 6 = .ok (.getfield 28, 3) := by decide +kernel
theorem dXM_edges_9 : decode cXM_edges 9 = .ok (.if_icmp .ge 36, 3) := by decide +kernel
theorem dXM_edges_12 : decode cXM_edges 12 = .ok (.iload_n 2, 1) := by decide +kernel
theorem dXM_edges_13 : decode cXM_edges 13 = .ok (.iload_n 1, 1) := by decide +kernel
theorem dXM_edges_14 : decode cXM_edges 14 = .ok (.iload_n 3, 1) := by decide +kernel
theorem dXM_edges_15 : decode cXM_edges 15 = .ok (.ishr, 1) := by decide +kernel
theorem dXM_edges_16 : decode cXM_edges 16 = .ok (.iconst 1, 1) := by decide +kernel
theorem dXM_edges_17 : decode cXM_edges 17 = .ok (.iand, 1) := by decide +kernel
theorem dXM_edges_18 : decode cXM_edges 18 = .ok (.iconst 1, 1) := by decide +kernel
theorem dXM_edges_19 : decode cXM_edges 19 = .ok (.if_icmp .ne 17, 3) := by decide +kernel
theorem dXM_edges_22 : decode cXM_edges 22 = .ok (.aload_n 0, 1) := by decide +kernel
theorem dXM_edges_23 : decode cXM_edges 23 = .ok (.getfield 7, 3) := by decide +kernel
theorem dXM_edges_26 : decode cXM_edges 26 = .ok (.iload_n 3, 1) := by decide +kernel
theorem dXM_edges_27 : decode cXM_edges 27 = .ok (.iaload, 1) := by decide +kernel
theorem dXM_edges_28 : decode cXM_edges 28 = .ok (.iload_n 1, 1) := by decide +kernel
theorem dXM_edges_29 : decode cXM_edges 29 = .ok (.iand, 1) := by decide +kernel
theorem dXM_edges_30 : decode cXM_edges 30 = .ok (.invokestatic 47, 3) := by decide +kernel
theorem dXM_edges_33 : decode cXM_edges 33 = .ok (.goto 4, 3) := by decide +kernel
theorem dXM_edges_36 : decode cXM_edges 36 = .ok (.iconst 0, 1) := by decide +kernel
theorem dXM_edges_37 : decode cXM_edges 37 = .ok (.iadd, 1) := by decide +kernel
theorem dXM_edges_38 : decode cXM_edges 38 = .ok (.istore_n 2, 1) := by decide +kernel
theorem dXM_edges_39 : decode cXM_edges 39 = .ok (.iinc 3 1, 3) := by decide +kernel
theorem dXM_edges_42 : decode cXM_edges 42 = .ok (.goto (-38), 3) := by decide +kernel
theorem dXM_edges_45 : decode cXM_edges 45 = .ok (.iload_n 2, 1) := by decide +kernel
theorem dXM_edges_46 : decode cXM_edges 46 = .ok (.iconst 2, 1) := by decide +kernel
theorem dXM_edges_47 : decode cXM_edges 47 = .ok (.idiv, 1) := by decide +kernel
theorem dXM_edges_48 : decode cXM_edges 48 = .ok (.ireturn, 1) := by decide +kernel
theorem dXM_apart_0 : decode cXM_apart 0 = .ok (.aload_n 0, 1) := by decide +kernel
theorem dXM_apart_1 : decode cXM_apart 1 = .ok (.iload_n 1, 1) := by decide +kernel
theorem dXM_apart_2 : decode cXM_apart 2 = .ok (.invokevirtual 118, 3) := by decide +kernel
theorem dXM_apart_5 : decode cXM_apart 5 = .ok (.ifCond .eq 16, 3) := by decide +kernel
theorem dXM_apart_8 : decode cXM_apart 8 = .ok (.aload_n 0, 1) := by decide +kernel
theorem dXM_apart_9 : decode cXM_apart 9 = .ok (.aload_n 0, 1) := by decide +kernel
theorem dXM_apart_10 : decode cXM_apart 10 = .ok (.iload_n 1, 1) := by decide +kernel
theorem dXM_apart_11 : decode cXM_apart 11 = .ok (.invokevirtual 60, 3) := by decide +kernel
theorem dXM_apart_14 : decode cXM_apart 14 = .ok (.iconst 0, 1) := by decide +kernel
theorem dXM_apart_15 : decode cXM_apart 15 = .ok (.invokevirtual 121, 3) := by decide +kernel
theorem dXM_apart_18 : decode cXM_apart 18 = .ok (.goto 4, 3) := by decide +kernel
theorem dXM_apart_21 : decode cXM_apart 21 = .ok (.iconst (-1), 1) := by decide +kernel
theorem dXM_apart_22 : decode cXM_apart 22 = .ok (.ireturn, 1) := by decide +kernel
theorem dXM_best_0 : decode cXM_best 0 = .ok (.iconst 0, 1) := by decide +kernel
theorem dXM_best_1 : decode cXM_best 1 = .ok (.istore_n 3, 1) := by decide +kernel
theorem dXM_best_2 : decode cXM_best 2 = .ok (.iconst 0, 1) := by decide +kernel
theorem dXM_best_3 : decode cXM_best 3 = .ok (.istore 4, 2) := by decide +kernel
theorem dXM_best_5 : decode cXM_best 5 = .ok (.iconst 1, 1) := by decide +kernel
theorem dXM_best_6 : decode cXM_best 6 = .ok (.istore 5, 2) := by decide +kernel
theorem dXM_best_8 : decode cXM_best 8 = .ok (.iload 5, 2) := by decide +kernel
theorem dXM_best_10 : decode cXM_best 10 = .ok (.sipush 512, 3) := by decide +kernel
theorem dXM_best_13 : decode cXM_best 13 = .ok (.if_icmp .ge 46, 3) := by decide +kernel
theorem dXM_best_16 : decode cXM_best 16 = .ok (.iload 5, 2) := by decide +kernel
theorem dXM_best_18 : decode cXM_best 18 = .ok (.iload_n 1, 1) := by decide +kernel
theorem dXM_best_19 : decode cXM_best 19 = .ok (.iconst (-1), 1) := by decide +kernel
theorem dXM_best_20 : decode cXM_best 20 = .ok (.ixor, 1) := by decide +kernel
theorem dXM_best_21 : decode cXM_best 21 = .ok (.iand, 1) := by decide +kernel
theorem dXM_best_22 : decode cXM_best 22 = .ok (.ifCond .ne 31, 3) := by decide +kernel
theorem dXM_best_25 : decode cXM_best 25 = .ok (.aload_n 0, 1) := by decide +kernel
theorem dXM_best_26 : decode cXM_best 26 = .ok (.iload 5, 2) := by decide +kernel
theorem dXM_best_28 : decode cXM_best 28 = .ok (.invokevirtual 115, 3) := by decide +kernel
theorem dXM_best_31 : decode cXM_best 31 = .ok (.ifCond .ne 22, 3) := by decide +kernel
theorem dXM_best_34 : decode cXM_best 34 = .ok (.iload 5, 2) := by decide +kernel
theorem dXM_best_36 : decode cXM_best 36 = .ok (.invokestatic 47, 3) := by decide +kernel
theorem dXM_best_39 : decode cXM_best 39 = .ok (.iload_n 3, 1) := by decide +kernel
theorem dXM_best_40 : decode cXM_best 40 = .ok (.if_icmp .le 13, 3) := by decide +kernel
theorem dXM_best_43 : decode cXM_best 43 = .ok (.iload 5, 2) := by decide +kernel
theorem dXM_best_45 : decode cXM_best 45 = .ok (.invokestatic 47, 3) := by decide +kernel
theorem dXM_best_48 : decode cXM_best 48 = .ok (.istore_n 3, 1) := by decide +kernel
theorem dXM_best_49 : decode cXM_best 49 = .ok (.iload 5, 2) := by decide +kernel
theorem dXM_best_51 : decode cXM_best 51 = .ok (.istore 4, 2) := by decide +kernel
theorem dXM_best_53 : decode cXM_best 53 = .ok (.iinc 5 1, 3) := by decide +kernel
theorem dXM_best_56 : decode cXM_best 56 = .ok (.goto (-48), 3) := by decide +kernel
theorem dXM_best_59 : decode cXM_best 59 = .ok (.iload_n 2, 1) := by decide +kernel
theorem dXM_best_60 : decode cXM_best 60 = .ok (.ifCond .eq 8, 3) := by decide +kernel
theorem dXM_best_63 : decode cXM_best 63 = .ok (.iload 4, 2) := by decide +kernel
theorem dXM_best_65 : decode cXM_best 65 = .ok (.goto 4, 3) := by decide +kernel
theorem dXM_best_68 : decode cXM_best 68 = .ok (.iload_n 3, 1) := by decide +kernel
theorem dXM_best_69 : decode cXM_best 69 = .ok (.ireturn, 1) := by decide +kernel
theorem dXM_chosen_0 : decode cXM_chosen 0 = .ok (.aload_n 0, 1) := by decide +kernel
theorem dXM_chosen_1 : decode cXM_chosen 1 = .ok (.iload_n 1, 1) := by decide +kernel
theorem dXM_chosen_2 : decode cXM_chosen 2 = .ok (.invokevirtual 118, 3) := by decide +kernel
theorem dXM_chosen_5 : decode cXM_chosen 5 = .ok (.ifCond .eq 16, 3) := by decide +kernel
theorem dXM_chosen_8 : decode cXM_chosen 8 = .ok (.aload_n 0, 1) := by decide +kernel
theorem dXM_chosen_9 : decode cXM_chosen 9 = .ok (.aload_n 0, 1) := by decide +kernel
theorem dXM_chosen_10 : decode cXM_chosen 10 = .ok (.iload_n 1, 1) := by decide +kernel
theorem dXM_chosen_11 : decode cXM_chosen 11 = .ok (.invokevirtual 60, 3) := by decide +kernel
theorem dXM_chosen_14 : decode cXM_chosen 14 = .ok (.iconst 1, 1) := by decide +kernel
theorem dXM_chosen_15 : decode cXM_chosen 15 = .ok (.invokevirtual 121, 3) := by decide +kernel
theorem dXM_chosen_18 : decode cXM_chosen 18 = .ok (.goto 4, 3) := by decide +kernel
theorem dXM_chosen_21 : decode cXM_chosen 21 = .ok (.iconst (-1), 1) := by decide +kernel
theorem dXM_chosen_22 : decode cXM_chosen 22 = .ok (.ireturn, 1) := by decide +kernel
theorem dXM_cover_0 : decode cXM_cover 0 = .ok (.aload_n 0, 1) := by decide +kernel
theorem dXM_cover_1 : decode cXM_cover 1 = .ok (.iload_n 1, 1) := by decide +kernel
theorem dXM_cover_2 : decode cXM_cover 2 = .ok (.invokevirtual 118, 3) := by decide +kernel
theorem dXM_cover_5 : decode cXM_cover 5 = .ok (.ifCond .ne 5, 3) := by decide +kernel
theorem dXM_cover_8 : decode cXM_cover 8 = .ok (.iconst (-1), 1) := by decide +kernel
theorem dXM_cover_9 : decode cXM_cover 9 = .ok (.ireturn, 1) := by decide +kernel
theorem dXM_cover_10 : decode cXM_cover 10 = .ok (.aload_n 0, 1) := by decide +kernel
theorem dXM_cover_11 : decode cXM_cover 11 = .ok (.iload_n 1, 1) := by decide +kernel
theorem dXM_cover_12 : decode cXM_cover 12 = .ok (.invokevirtual 60, 3) := by decide +kernel
theorem dXM_cover_15 : decode cXM_cover 15 = .ok (.istore_n 2, 1) := by decide +kernel
theorem dXM_cover_16 : decode cXM_cover 16 = .ok (.aload_n 0, 1) := by decide +kernel
theorem dXM_cover_17 : decode cXM_cover 17 = .ok (.getfield 25, 3) := by decide +kernel
theorem dXM_cover_20 : decode cXM_cover 20 = .ok (.iconst 0, 1) := by decide +kernel
theorem dXM_cover_21 : decode cXM_cover 21 = .ok (.iconst 0, 1) := by decide +kernel
theorem dXM_cover_22 : decode cXM_cover 22 = .ok (.iastore, 1) := by decide +kernel
theorem dXM_cover_23 : decode cXM_cover 23 = .ok (.iconst 1, 1) := by decide +kernel
theorem dXM_cover_24 : decode cXM_cover 24 = .ok (.istore_n 3, 1) := by decide +kernel
theorem dXM_cover_25 : decode cXM_cover 25 = .ok (.iload_n 3, 1) := by decide +kernel
theorem dXM_cover_26 : decode cXM_cover 26 = .ok (.sipush 512, 3) := by decide +kernel
theorem dXM_cover_29 : decode cXM_cover 29 = .ok (.if_icmp .ge 128, 3) := by decide +kernel
theorem dXM_cover_32 : decode cXM_cover 32 = .ok (.aload_n 0, 1) := by decide +kernel
theorem dXM_cover_33 : decode cXM_cover 33 = .ok (.getfield 25, 3) := by decide +kernel
theorem dXM_cover_36 : decode cXM_cover 36 = .ok (.iload_n 3, 1) := by decide +kernel
theorem dXM_cover_37 : decode cXM_cover 37 = .ok (.bipush 9, 2) := by decide +kernel
theorem dXM_cover_39 : decode cXM_cover 39 = .ok (.iastore, 1) := by decide +kernel
theorem dXM_cover_40 : decode cXM_cover 40 = .ok (.iload_n 3, 1) := by decide +kernel
theorem dXM_cover_41 : decode cXM_cover 41 = .ok (.iload_n 2, 1) := by decide +kernel
theorem dXM_cover_42 : decode cXM_cover 42 = .ok (.iconst (-1), 1) := by decide +kernel
theorem dXM_cover_43 : decode cXM_cover 43 = .ok (.ixor, 1) := by decide +kernel
theorem dXM_cover_44 : decode cXM_cover 44 = .ok (.iand, 1) := by decide +kernel
theorem dXM_cover_45 : decode cXM_cover 45 = .ok (.ifCond .ne 106, 3) := by decide +kernel
theorem dXM_cover_48 : decode cXM_cover 48 = .ok (.iload_n 3, 1) := by decide +kernel
theorem dXM_cover_49 : decode cXM_cover 49 = .ok (.istore 4, 2) := by decide +kernel
theorem dXM_cover_51 : decode cXM_cover 51 = .ok (.iload 4, 2) := by decide +kernel
theorem dXM_cover_53 : decode cXM_cover 53 = .ok (.ifCond .le 98, 3) := by decide +kernel
theorem dXM_cover_56 : decode cXM_cover 56 = .ok (.iload 4, 2) := by decide +kernel
theorem dXM_cover_58 : decode cXM_cover 58 = .ok (.iload_n 3, 1) := by decide +kernel
theorem dXM_cover_59 : decode cXM_cover 59 = .ok (.invokestatic 43, 3) := by decide +kernel
theorem dXM_cover_62 : decode cXM_cover 62 = .ok (.ishr, 1) := by decide +kernel
theorem dXM_cover_63 : decode cXM_cover 63 = .ok (.iconst 1, 1) := by decide +kernel
theorem dXM_cover_64 : decode cXM_cover 64 = .ok (.iand, 1) := by decide +kernel
theorem dXM_cover_65 : decode cXM_cover 65 = .ok (.iconst 1, 1) := by decide +kernel
theorem dXM_cover_66 : decode cXM_cover 66 = .ok (.if_icmp .ne 38, 3) := by decide +kernel
theorem dXM_cover_69 : decode cXM_cover 69 = .ok (.aload_n 0, 1) := by decide +kernel
theorem dXM_cover_70 : decode cXM_cover 70 = .ok (.getfield 25, 3) := by decide +kernel
theorem dXM_cover_73 : decode cXM_cover 73 = .ok (.iload_n 3, 1) := by decide +kernel
theorem dXM_cover_74 : decode cXM_cover 74 = .ok (.iload 4, 2) := by decide +kernel
theorem dXM_cover_76 : decode cXM_cover 76 = .ok (.iconst (-1), 1) := by decide +kernel
theorem dXM_cover_77 : decode cXM_cover 77 = .ok (.ixor, 1) := by decide +kernel
theorem dXM_cover_78 : decode cXM_cover 78 = .ok (.iand, 1) := by decide +kernel
theorem dXM_cover_79 : decode cXM_cover 79 = .ok (.iaload, 1) := by decide +kernel
theorem dXM_cover_80 : decode cXM_cover 80 = .ok (.aload_n 0, 1) := by decide +kernel
theorem dXM_cover_81 : decode cXM_cover 81 = .ok (.getfield 25, 3) := by decide +kernel
theorem dXM_cover_84 : decode cXM_cover 84 = .ok (.iload_n 3, 1) := by decide +kernel
theorem dXM_cover_85 : decode cXM_cover 85 = .ok (.iaload, 1) := by decide +kernel
theorem dXM_cover_86 : decode cXM_cover 86 = .ok (.iconst 1, 1) := by decide +kernel
theorem dXM_cover_87 : decode cXM_cover 87 = .ok (.isub, 1) := by decide +kernel
theorem dXM_cover_88 : decode cXM_cover 88 = .ok (.if_icmp .ge 16, 3) := by decide +kernel
theorem dXM_cover_91 : decode cXM_cover 91 = .ok (.aload_n 0, 1) := by decide +kernel
theorem dXM_cover_92 : decode cXM_cover 92 = .ok (.iload 4, 2) := by decide +kernel
theorem dXM_cover_94 : decode cXM_cover 94 = .ok (.invokevirtual 125, 3) := by decide +kernel
theorem dXM_cover_97 : decode cXM_cover 97 = .ok (.ifCond .eq 7, 3) := by decide +kernel
theorem dXM_cover_100 : decode cXM_cover 100 = .ok (.iconst 1, 1) := by decide +kernel
theorem dXM_cover_101 : decode cXM_cover 101 = .ok (.goto 4, 3) := by decide +kernel
theorem dXM_cover_104 : decode cXM_cover 104 = .ok (.iconst 0, 1) := by decide +kernel
theorem dXM_cover_105 : decode cXM_cover 105 = .ok (.istore 5, 2) := by decide +kernel
theorem dXM_cover_107 : decode cXM_cover 107 = .ok (.aload_n 0, 1) := by decide +kernel
theorem dXM_cover_108 : decode cXM_cover 108 = .ok (.getfield 25, 3) := by decide +kernel
theorem dXM_cover_111 : decode cXM_cover 111 = .ok (.iload_n 3, 1) := by decide +kernel
theorem dXM_cover_112 : decode cXM_cover 112 = .ok (.iload 5, 2) := by decide +kernel
theorem dXM_cover_114 : decode cXM_cover 114 = .ok (.ifCond .eq 19, 3) := by decide +kernel
theorem dXM_cover_117 : decode cXM_cover 117 = .ok (.aload_n 0, 1) := by decide +kernel
theorem dXM_cover_118 : decode cXM_cover 118 = .ok (.getfield 25, 3) := by decide +kernel
theorem dXM_cover_121 : decode cXM_cover 121 = .ok (.iload_n 3, 1) := by decide +kernel
theorem dXM_cover_122 : decode cXM_cover 122 = .ok (.iload 4, 2) := by decide +kernel
theorem dXM_cover_124 : decode cXM_cover 124 = .ok (.iconst (-1), 1) := by decide +kernel
theorem dXM_cover_125 : decode cXM_cover 125 = .ok (.ixor, 1) := by decide +kernel
theorem dXM_cover_126 : decode cXM_cover 126 = .ok (.iand, 1) := by decide +kernel
theorem dXM_cover_127 : decode cXM_cover 127 = .ok (.iaload, 1) := by decide +kernel
theorem dXM_cover_128 : decode cXM_cover 128 = .ok (.iconst 1, 1) := by decide +kernel
theorem dXM_cover_129 : decode cXM_cover 129 = .ok (.iadd, 1) := by decide +kernel
theorem dXM_cover_130 : decode cXM_cover 130 = .ok (.goto 9, 3) := by decide +kernel
theorem dXM_cover_133 : decode cXM_cover 133 = .ok (.aload_n 0, 1) := by decide +kernel
theorem dXM_cover_134 : decode cXM_cover 134 = .ok (.getfield 25, 3) := by decide +kernel
theorem dXM_cover_137 : decode cXM_cover 137 = .ok (.iload_n 3, 1) := by decide +kernel
theorem dXM_cover_138 : decode cXM_cover 138 = .ok (.iaload, 1) := by decide +kernel
theorem dXM_cover_139 : decode cXM_cover 139 = .ok (.iastore, 1) := by decide +kernel
theorem dXM_cover_140 : decode cXM_cover 140 = .ok (.iload 4, 2) := by decide +kernel
theorem dXM_cover_142 : decode cXM_cover 142 = .ok (.iconst 1, 1) := by decide +kernel
theorem dXM_cover_143 : decode cXM_cover 143 = .ok (.isub, 1) := by decide +kernel
theorem dXM_cover_144 : decode cXM_cover 144 = .ok (.iload_n 3, 1) := by decide +kernel
theorem dXM_cover_145 : decode cXM_cover 145 = .ok (.iand, 1) := by decide +kernel
theorem dXM_cover_146 : decode cXM_cover 146 = .ok (.istore 4, 2) := by decide +kernel
theorem dXM_cover_148 : decode cXM_cover 148 = .ok (.goto (-97), 3) := by decide +kernel
theorem dXM_cover_151 : decode cXM_cover 151 = .ok (.iinc 3 1, 3) := by decide +kernel
theorem dXM_cover_154 : decode cXM_cover 154 = .ok (.goto (-129), 3) := by decide +kernel
theorem dXM_cover_157 : decode cXM_cover 157 = .ok (.aload_n 0, 1) := by decide +kernel
theorem dXM_cover_158 : decode cXM_cover 158 = .ok (.getfield 25, 3) := by decide +kernel
theorem dXM_cover_161 : decode cXM_cover 161 = .ok (.iload_n 2, 1) := by decide +kernel
theorem dXM_cover_162 : decode cXM_cover 162 = .ok (.iaload, 1) := by decide +kernel
theorem dXM_cover_163 : decode cXM_cover 163 = .ok (.ireturn, 1) := by decide +kernel
theorem dXM_clique_0 : decode cXM_clique 0 = .ok (.iload_n 1, 1) := by decide +kernel
theorem dXM_clique_1 : decode cXM_clique 1 = .ok (.invokestatic 47, 3) := by decide +kernel
theorem dXM_clique_4 : decode cXM_clique 4 = .ok (.istore_n 2, 1) := by decide +kernel
theorem dXM_clique_5 : decode cXM_clique 5 = .ok (.aload_n 0, 1) := by decide +kernel
theorem dXM_clique_6 : decode cXM_clique 6 = .ok (.iload_n 1, 1) := by decide +kernel
theorem dXM_clique_7 : decode cXM_clique 7 = .ok (.invokevirtual 115, 3) := by decide +kernel
theorem dXM_clique_10 : decode cXM_clique 10 = .ok (.iload_n 2, 1) := by decide +kernel
theorem dXM_clique_11 : decode cXM_clique 11 = .ok (.iload_n 2, 1) := by decide +kernel
theorem dXM_clique_12 : decode cXM_clique 12 = .ok (.iconst 1, 1) := by decide +kernel
theorem dXM_clique_13 : decode cXM_clique 13 = .ok (.isub, 1) := by decide +kernel
theorem dXM_clique_14 : decode cXM_clique 14 = .ok (.imul, 1) := by decide +kernel
theorem dXM_clique_15 : decode cXM_clique 15 = .ok (.iconst 2, 1) := by decide +kernel
theorem dXM_clique_16 : decode cXM_clique 16 = .ok (.idiv, 1) := by decide +kernel
theorem dXM_clique_17 : decode cXM_clique 17 = .ok (.if_icmp .ne 7, 3) := by decide +kernel
theorem dXM_clique_20 : decode cXM_clique 20 = .ok (.iconst 1, 1) := by decide +kernel
theorem dXM_clique_21 : decode cXM_clique 21 = .ok (.goto 4, 3) := by decide +kernel
theorem dXM_clique_24 : decode cXM_clique 24 = .ok (.iconst 0, 1) := by decide +kernel
theorem dXM_clique_25 : decode cXM_clique 25 = .ok (.ireturn, 1) := by decide +kernel
