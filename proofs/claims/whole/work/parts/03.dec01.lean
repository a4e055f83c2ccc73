theorem dXG_init_0 : decode cXG_init 0 = .ok (.aload_n 0, 1) := by decide +kernel
theorem dXG_init_1 : decode cXG_init 1 = .ok (.invokespecial 1, 3) := by decide +kernel
theorem dXG_init_4 : decode cXG_init 4 = .ok (.aload_n 0, 1) := by decide +kernel
theorem dXG_init_5 : decode cXG_init 5 = .ok (.iload_n 1, 1) := by decide +kernel
theorem dXG_init_6 : decode cXG_init 6 = .ok (.putfield 7, 3) := by decide +kernel
theorem dXG_init_9 : decode cXG_init 9 = .ok (.aload_n 0, 1) := by decide +kernel
theorem dXG_init_10 : decode cXG_init 10 = .ok (.iload_n 1, 1) := by decide +kernel
theorem dXG_init_11 : decode cXG_init 11 = .ok (.newarray .int, 2) := by decide +kernel
theorem dXG_init_13 : decode cXG_init 13 = .ok (.putfield 13, 3) := by decide +kernel
theorem dXG_init_16 : decode cXG_init 16 = .ok (.return_, 1) := by decide +kernel
theorem dXG_size_0 : decode cXG_size 0 = .ok (.aload_n 0, 1) := by decide +kernel
theorem dXG_size_1 : decode cXG_size 1 = .ok (.getfield 7, 3) := by decide +kernel
theorem dXG_size_4 : decode cXG_size 4 = .ok (.ireturn, 1) := by decide +kernel
theorem dXG_has_0 : decode cXG_has 0 = .ok (.iload_n 1, 1) := by decide +kernel
theorem dXG_has_1 : decode cXG_has 1 = .ok (.ifCond .lt 15, 3) := by decide +kernel
theorem dXG_has_4 : decode cXG_has 4 = .ok (.iload_n 1, 1) := by decide +kernel
theorem dXG_has_5 : decode cXG_has 5 = .ok (.aload_n 0, 1) := by decide +kernel
theorem dXG_has_6 : decode cXG_has 6 = .ok (.getfield 7, 3) := by decide +kernel
theorem dXG_has_9 : decode cXG_has 9 = .ok (.if_icmp .ge 7, 3) := by decide +kernel
theorem dXG_has_12 : decode cXG_has 12 = .ok (.iconst 1, 1) := by decide +kernel
theorem dXG_has_13 : decode cXG_has 13 = .ok (.goto 4, 3) := by decide +kernel
theorem dXG_has_16 : decode cXG_has 16 = .ok (.iconst 0, 1) := by decide +kernel
theorem dXG_has_17 : decode cXG_has 17 = .ok (.ireturn, 1) := by decide +kernel
theorem dXG_toggle_0 : decode cXG_toggle 0 = .ok (.aload_n 0, 1) := by decide +kernel
theorem dXG_toggle_1 : decode cXG_toggle 1 = .ok (.getfield 13, 3) := by decide +kernel
theorem dXG_toggle_4 : decode cXG_toggle 4 = .ok (.iload_n 1, 1) := by decide +kernel
theorem dXG_toggle_5 : decode cXG_toggle 5 = .ok (.dup2, 1) := by decide +kernel
theorem dXG_toggle_6 : decode cXG_toggle 6 = .ok (.iaload, 1) := by decide +kernel
theorem dXG_toggle_7 : decode cXG_toggle 7 = .ok (.iconst 1, 1) := by decide +kernel
theorem dXG_toggle_8 : decode cXG_toggle 8 = .ok (.iload_n 2, 1) := by decide +kernel
theorem dXG_toggle_9 : decode cXG_toggle 9 = .ok (.ishl, 1) := by decide +kernel
theorem dXG_toggle_10 : decode cXG_toggle 10 = .ok (.ixor, 1) := by decide +kernel
theorem dXG_toggle_11 : decode cXG_toggle 11 = .ok (.iastore, 1) := by decide +kernel
theorem dXG_toggle_12 : decode cXG_toggle 12 = .ok (.aload_n 0, 1) := by decide +kernel
theorem dXG_toggle_13 : decode cXG_toggle 13 = .ok (.getfield 13, 3) := by decide +kernel
theorem dXG_toggle_16 : decode cXG_toggle 16 = .ok (.iload_n 2, 1) := by decide +kernel
theorem dXG_toggle_17 : decode cXG_toggle 17 = .ok (.dup2, 1) := by decide +kernel
theorem dXG_toggle_18 : decode cXG_toggle 18 = .ok (.iaload, 1) := by decide +kernel
theorem dXG_toggle_19 : decode cXG_toggle 19 = .ok (.iconst 1, 1) := by decide +kernel
theorem dXG_toggle_20 : decode cXG_toggle 20 = .ok (.iload_n 1, 1) := by decide +kernel
theorem dXG_toggle_21 : decode cXG_toggle 21 = .ok (.ishl, 1) := by decide +kernel
theorem dXG_toggle_22 : decode cXG_toggle 22 = .ok (.ixor, 1) := by decide +kernel
theorem dXG_toggle_23 : decode cXG_toggle 23 = .ok (.iastore, 1) := by decide +kernel
theorem dXG_toggle_24 : decode cXG_toggle 24 = .ok (.return_, 1) := by decide +kernel
theorem dXG_edge_0 : decode cXG_edge 0 = .ok (.aload_n 0, 1) := by decide +kernel
theorem dXG_edge_1 : decode cXG_edge 1 = .ok (.getfield 13, 3) := by decide +kernel
theorem dXG_edge_4 : decode cXG_edge 4 = .ok (.iload_n 1, 1) := by decide +kernel
theorem dXG_edge_5 : decode cXG_edge 5 = .ok (.iaload, 1) := by decide +kernel
theorem dXG_edge_6 : decode cXG_edge 6 = .ok (.iload_n 2, 1) := by decide +kernel
theorem dXG_edge_7 : decode cXG_edge 7 = .ok (.invokestatic 17, 3) := by decide +kernel
theorem dXG_edge_10 : decode cXG_edge 10 = .ok (.ireturn, 1) := by decide +kernel
theorem dXG_all_0 : decode cXG_all 0 = .ok (.iconst 1, 1) := by decide +kernel
theorem dXG_all_1 : decode cXG_all 1 = .ok (.aload_n 0, 1) := by decide +kernel
theorem dXG_all_2 : decode cXG_all 2 = .ok (.getfield 7, 3) := by decide +kernel
theorem dXG_all_5 : decode cXG_all 5 = .ok (.ishl, 1) := by decide +kernel
theorem dXG_all_6 : decode cXG_all 6 = .ok (.iconst 1, 1) := by decide +kernel
theorem dXG_all_7 : decode cXG_all 7 = .ok (.isub, 1) := by decide +kernel
theorem dXG_all_8 : decode cXG_all 8 = .ok (.ireturn, 1) := by decide +kernel
theorem dXG_reached_0 : decode cXG_reached 0 = .ok (.iconst 1, 1) := by decide +kernel
theorem dXG_reached_1 : decode cXG_reached 1 = .ok (.iload_n 1, 1) := by decide +kernel
theorem dXG_reached_2 : decode cXG_reached 2 = .ok (.ishl, 1) := by decide +kernel
theorem dXG_reached_3 : decode cXG_reached 3 = .ok (.istore_n 3, 1) := by decide +kernel
theorem dXG_reached_4 : decode cXG_reached 4 = .ok (.iconst 0, 1) := by decide +kernel
theorem dXG_reached_5 : decode cXG_reached 5 = .ok (.istore 4, 2) := by decide +kernel
theorem dXG_reached_7 : decode cXG_reached 7 = .ok (.iload 4, 2) := by decide +kernel
theorem dXG_reached_9 : decode cXG_reached 9 = .ok (.aload_n 0, 1) := by decide +kernel
theorem dXG_reached_10 : decode cXG_reached 10 = .ok (.getfield 7, 3) := by decide +kernel
theorem dXG_reached_13 : decode cXG_reached 13 = .ok (.if_icmp .ge 31, 3) := by decide +kernel
theorem dXG_reached_16 : decode cXG_reached 16 = .ok (.iload_n 3, 1) := by decide +kernel
theorem dXG_reached_17 : decode cXG_reached 17 = .ok (.aload_n 0, 1) := by decide +kernel
theorem dXG_reached_18 : decode cXG_reached 18 = .ok (.iload_n 3, 1) := by decide +kernel
theorem dXG_reached_19 : decode cXG_reached 19 = .ok (.iload_n 2, 1) := by decide +kernel
theorem dXG_reached_20 : decode cXG_reached 20 = .ok (.invokevirtual 23, 3) := by decide +kernel
theorem dXG_reached_23 : decode cXG_reached 23 = .ok (.ior, 1) := by decide +kernel
theorem dXG_reached_24 : decode cXG_reached 24 = .ok (.istore 5, 2) := by decide +kernel
theorem dXG_reached_26 : decode cXG_reached 26 = .ok (.iload 5, 2) := by decide +kernel
theorem dXG_reached_28 : decode cXG_reached 28 = .ok (.iload_n 3, 1) := by decide +kernel
theorem dXG_reached_29 : decode cXG_reached 29 = .ok (.if_icmp .ne 6, 3) := by decide +kernel
theorem dXG_reached_32 : decode cXG_reached 32 = .ok (.goto 12, 3) := by decide +kernel
theorem dXG_reached_35 : decode cXG_reached 35 = .ok (.iload 5, 2) := by decide +kernel
theorem dXG_reached_37 : decode cXG_reached 37 = .ok (.istore_n 3, 1) := by decide +kernel
theorem dXG_reached_38 : decode cXG_reached 38 = .ok (.iinc 4 1, 3) := by decide +kernel
theorem dXG_reached_41 : decode cXG_reached 41 = .ok (.goto (-34), 3) := by decide +kernel
theorem dXG_reached_44 : decode cXG_reached 44 = .ok (.iload_n 3, 1) := by decide +kernel
theorem dXG_reached_45 : decode cXG_reached 45 = .ok (.ireturn, 1) := by decide +kernel
theorem dXG_nearToAny_0 : decode cXG_nearToAny 0 = .ok (.iconst 0, 1) := by decide +kernel
theorem dXG_nearToAny_1 : decode cXG_nearToAny 1 = .ok (.istore_n 3, 1) := by decide +kernel
theorem dXG_nearToAny_2 : decode cXG_nearToAny 2 = .ok (.iconst 0, 1) := by decide +kernel
theorem dXG_nearToAny_3 : decode cXG_nearToAny 3 = .ok (.istore 4, 2) := by decide +kernel
theorem dXG_nearToAny_5 : decode cXG_nearToAny 5 = .ok (.iload 4, 2) := by decide +kernel
theorem dXG_nearToAny_7 : decode cXG_nearToAny 7 = .ok (.aload_n 0, 1) := by decide +kernel
theorem dXG_nearToAny_8 : decode cXG_nearToAny 8 = .ok (.getfield 7, 3) := by decide +kernel
theorem dXG_nearToAny_11 : decode cXG_nearToAny 11 = .ok (.if_icmp .ge 30, 3) := by decide +kernel
theorem dXG_nearToAny_14 : decode cXG_nearToAny 14 = .ok (.iload_n 1, 1) := by decide +kernel
theorem dXG_nearToAny_15 : decode cXG_nearToAny 15 = .ok (.iload 4, 2) := by decide +kernel
theorem dXG_nearToAny_17 : decode cXG_nearToAny 17 = .ok (.invokestatic 17, 3) := by decide +kernel
theorem dXG_nearToAny_20 : decode cXG_nearToAny 20 = .ok (.ifCond .eq 15, 3) := by decide +kernel
theorem dXG_nearToAny_23 : decode cXG_nearToAny 23 = .ok (.iload_n 3, 1) := by decide +kernel
theorem dXG_nearToAny_24 : decode cXG_nearToAny 24 = .ok (.aload_n 0, 1) := by decide +kernel
theorem dXG_nearToAny_25 : decode cXG_nearToAny 25 = .ok (.getfield 13, 3) := by decide +kernel
theorem dXG_nearToAny_28 : decode cXG_nearToAny 28 = .ok (.iload 4, 2) := by decide +kernel
theorem dXG_nearToAny_30 : decode cXG_nearToAny 30 = .ok (.iaload, 1) := by decide +kernel
theorem dXG_nearToAny_31 : decode cXG_nearToAny 31 = .ok (.iload_n 2, 1) := by decide +kernel
theorem dXG_nearToAny_32 : decode cXG_nearToAny 32 = .ok (.iand, 1) := by decide +kernel
theorem dXG_nearToAny_33 : decode cXG_nearToAny 33 = .ok (.ior, 1) := by decide +kernel
theorem dXG_nearToAny_34 : decode cXG_nearToAny 34 = .ok (.istore_n 3, 1) := by decide +kernel
theorem dXG_nearToAny_35 : decode cXG_nearToAny 35 = .ok (.iinc 4 1, 3) := by decide +kernel
theorem dXG_nearToAny_38 : decode cXG_nearToAny 38 = .ok (.goto (-33), 3) := by decide +kernel
theorem dXG_nearToAny_41 : decode cXG_nearToAny 41 = .ok (.iload_n 3, 1) := by decide +kernel
theorem dXG_nearToAny_42 : decode cXG_nearToAny 42 = .ok (.ireturn, 1) := by decide +kernel
theorem dXG_nearInside_0 : decode cXG_nearInside 0 = .ok (.aload_n 0, 1) := by decide +kernel
theorem dXG_nearInside_1 : decode cXG_nearInside 1 = .ok (.getfield 13, 3) := by decide +kernel
theorem dXG_nearInside_4 : decode cXG_nearInside 4 = .ok (.iload_n 1, 1) := by decide +kernel
theorem dXG_nearInside_5 : decode cXG_nearInside 5 = .ok (.iaload, 1) := by decide +kernel
theorem dXG_nearInside_6 : decode cXG_nearInside 6 = .ok (.iload_n 2, 1) := by decide +kernel
theorem dXG_nearInside_7 : decode cXG_nearInside 7 = .ok (.iand, 1) := by decide +kernel
theorem dXG_nearInside_8 : decode cXG_nearInside 8 = .ok (.ireturn, 1) := by decide +kernel
theorem dXG_joined_0 : decode cXG_joined 0 = .ok (.aload_n 0, 1) := by decide +kernel
theorem dXG_joined_1 : decode cXG_joined 1 = .ok (.iload_n 1, 1) := by decide +kernel
theorem dXG_joined_2 : decode cXG_joined 2 = .ok (.iload_n 2, 1) := by decide +kernel
theorem dXG_joined_3 : decode cXG_joined 3 = .ok (.invokevirtual 23, 3) := by decide +kernel
theorem dXG_joined_6 : decode cXG_joined 6 = .ok (.ifCond .eq 7, 3) := by decide +kernel
theorem dXG_joined_9 : decode cXG_joined 9 = .ok (.iconst 1, 1) := by decide +kernel
theorem dXG_joined_10 : decode cXG_joined 10 = .ok (.goto 4, 3) := by decide +kernel
theorem dXG_joined_13 : decode cXG_joined 13 = .ok (.iconst 0, 1) := by decide +kernel
theorem dXG_joined_14 : decode cXG_joined 14 = .ok (.ireturn, 1) := by decide +kernel
theorem dXG_areTwins_0 : decode cXG_areTwins 0 = .ok (.iload_n 3, 1) := by decide +kernel
theorem dXG_areTwins_1 : decode cXG_areTwins 1 = .ok (.iconst 1, 1) := by decide +kernel
theorem dXG_areTwins_2 : decode cXG_areTwins 2 = .ok (.iload_n 1, 1) := by decide +kernel
theorem dXG_areTwins_3 : decode cXG_areTwins 3 = .ok (.ishl, 1) := by decide +kernel
theorem dXG_areTwins_4 : decode cXG_areTwins 4 = .ok (.iconst (-1), 1) := by decide +kernel
theorem dXG_areTwins_5 : decode cXG_areTwins 5 = .ok (.ixor, 1) := by decide +kernel
theorem dXG_areTwins_6 : decode cXG_areTwins 6 = .ok (.iand, 1) := by decide +kernel
theorem dXG_areTwins_7 : decode cXG_areTwins 7 = .ok (.iconst 1, 1) := by decide +kernel
theorem dXG_areTwins_8 : decode cXG_areTwins 8 = .ok (.iload_n 2, 1) := by decide +kernel
theorem dXG_areTwins_9 : decode cXG_areTwins 9 = .ok (.ishl, 1) := by decide +kernel
theorem dXG_areTwins_10 : decode cXG_areTwins 10 = .ok (.iconst (-1), 1) := by decide +kernel
theorem dXG_areTwins_11 : decode cXG_areTwins 11 = .ok (.ixor, 1) := by decide +kernel
theorem dXG_areTwins_12 : decode cXG_areTwins 12 = .ok (.iand, 1) := by decide +kernel
theorem dXG_areTwins_13 : decode cXG_areTwins 13 = .ok (.istore 4, 2) := by decide +kernel
theorem dXG_areTwins_15 : decode cXG_areTwins 15 = .ok (.aload_n 0, 1) := by decide +kernel
theorem dXG_areTwins_16 : decode cXG_areTwins 16 = .ok (.getfield 13, 3) := by decide +kernel
theorem dXG_areTwins_19 : decode cXG_areTwins 19 = .ok (.iload_n 1, 1) := by decide +kernel
theorem dXG_areTwins_20 : decode cXG_areTwins 20 = .ok (.iaload, 1) := by decide +kernel
theorem dXG_areTwins_21 : decode cXG_areTwins 21 = .ok (.iload 4, 2) := by decide +kernel
theorem dXG_areTwins_23 : decode cXG_areTwins 23 = .ok (.iand, 1) := by decide +kernel
theorem dXG_areTwins_24 : decode cXG_areTwins 24 = .ok (.aload_n 0, 1) := by decide +kernel
theorem dXG_areTwins_25 : decode cXG_areTwins 25 = .ok (.getfield 13, 3) := by decide +kernel
theorem dXG_areTwins_28 : decode cXG_areTwins 28 = .ok (.iload_n 2, 1) := by decide +kernel
theorem dXG_areTwins_29 : decode cXG_areTwins 29 = .ok (.iaload, 1) := by decide +kernel
theorem dXG_areTwins_30 : decode cXG_areTwins 30 = .ok (.iload 4, 2) := by decide +kernel
theorem dXG_areTwins_32 : decode cXG_areTwins 32 = .ok (.iand, 1) := by decide +kernel
theorem dXG_areTwins_33 : decode cXG_areTwins 33 = .ok (.if_icmp .ne 7, 3) := by decide +kernel
theorem dXG_areTwins_36 : decode cXG_areTwins 36 = .ok (.iconst 1, 1) := by decide +kernel
theorem dXG_areTwins_37 : decode cXG_areTwins 37 = .ok (.goto 4, 3) := by decide +kernel
theorem dXG_areTwins_40 : decode cXG_areTwins 40 = .ok (.iconst 0, 1) := by decide +kernel
theorem dXG_areTwins_41 : decode cXG_areTwins 41 = .ok (.ireturn, 1) := by decide +kernel
theorem dXG_edgesInside_0 : decode cXG_edgesInside 0 = .ok (.iconst 0, 1) := by decide +kernel
theorem dXG_edgesInside_1 : decode cXG_edgesInside 1 = .ok (.istore_n 2, 1) := by decide +kernel
theorem dXG_edgesInside_2 : decode cXG_edgesInside 2 = .ok (.iconst 0, 1) := by decide +kernel
theorem dXG_edgesInside_3 : decode cXG_edgesInside 3 = .ok (.istore_n 3, 1) := by decide +kernel
theorem dXG_edgesInside_4 : decode cXG_edgesInside 4 = .ok (.iload_n 3, 1) := by decide +kernel
theorem dXG_edgesInside_5 : decode cXG_edgesInside 5 = .ok (.aload_n 0, 1) := by decide +kernel
theorem dXG_edgesInside_6 : decode cXG_edgesInside 6 = .ok (.getfield 7, 3) := by decide +kernel
theorem dXG_edgesInside_9 : decode cXG_edgesInside 9 = .ok (.if_icmp .ge 31, 3) := by decide +kernel
theorem dXG_edgesInside_12 : decode cXG_edgesInside 12 = .ok (.iload_n 1, 1) := by decide +kernel
theorem dXG_edgesInside_13 : decode cXG_edgesInside 13 = .ok (.iload_n 3, 1) := by decide +kernel
theorem dXG_edgesInside_14 : decode cXG_edgesInside 14 = .ok (.invokestatic 17, 3) := by decide +kernel
theorem dXG_edgesInside_17 : decode cXG_edgesInside 17 = .ok (.ifCond .eq 17, 3) := by decide +kernel
theorem dXG_edgesInside_20 : decode cXG_edgesInside 20 = .ok (.iload_n 2, 1) := by decide +kernel
theorem dXG_edgesInside_21 : decode cXG_edgesInside 21 = .ok (.aload_n 0, 1) := by decide +kernel
theorem dXG_edgesInside_22 : decode cXG_edgesInside 22 = .ok (.getfield 13, 3) := by decide +kernel
theorem dXG_edgesInside_25 : decode cXG_edgesInside 25 = .ok (.iload_n 3, 1) := by decide +kernel
theorem dXG_edgesInside_26 : decode cXG_edgesInside 26 = .ok (.iaload, 1) := by decide +kernel
theorem dXG_edgesInside_27 : decode cXG_edgesInside 27 = .ok (.iload_n 1, 1) := by decide +kernel
theorem dXG_edgesInside_28 : decode cXG_edgesInside 28 = .ok (.iand, 1) := by decide +kernel
theorem dXG_edgesInside_29 : decode cXG_edgesInside 29 = .ok (.invokestatic 27, 3) := by decide +kernel
theorem dXG_edgesInside_32 : decode cXG_edgesInside 32 = .ok (.iadd, 1) := by decide +kernel
theorem dXG_edgesInside_33 : decode cXG_edgesInside 33 = .ok (.istore_n 2, 1) := by decide +kernel
theorem dXG_edgesInside_34 : decode cXG_edgesInside 34 = .ok (.iinc 3 1, 3) := by decide +kernel
theorem dXG_edgesInside_37 : decode cXG_edgesInside 37 = .ok (.goto (-33), 3) := by decide +kernel
theorem dXG_edgesInside_40 : decode cXG_edgesInside 40 = .ok (.iload_n 2, 1) := by decide +kernel
theorem dXG_edgesInside_41 : decode cXG_edgesInside 41 = .ok (.iconst 2, 1) := by decide +kernel
theorem dXG_edgesInside_42 : decode cXG_edgesInside 42 = .ok (.idiv, 1) := by decide +kernel
theorem dXG_edgesInside_43 : decode cXG_edgesInside 43 = .ok (.ireturn, 1) := by decide +kernel
