theorem dXM_init_0 : decode cXM_init 0 = .ok (.aload_n 0, 1) := by decide +kernel
theorem dXM_init_1 : decode cXM_init 1 = .ok (.invokespecial 1, 3) := by decide +kernel
theorem dXM_init_4 : decode cXM_init 4 = .ok (.aload_n 0, 1) := by decide +kernel
theorem dXM_init_5 : decode cXM_init 5 = .ok (.bipush 9, 2) := by decide +kernel
theorem dXM_init_7 : decode cXM_init 7 = .ok (.newarray .int, 2) := by decide +kernel
theorem dXM_init_9 : decode cXM_init 9 = .ok (.putfield 7, 3) := by decide +kernel
theorem dXM_init_12 : decode cXM_init 12 = .ok (.aload_n 0, 1) := by decide +kernel
theorem dXM_init_13 : decode cXM_init 13 = .ok (.sipush 256, 3) := by decide +kernel
theorem dXM_init_16 : decode cXM_init 16 = .ok (.newarray .int, 2) := by decide +kernel
theorem dXM_init_18 : decode cXM_init 18 = .ok (.putfield 13, 3) := by decide +kernel
theorem dXM_init_21 : decode cXM_init 21 = .ok (.aload_n 0, 1) := by decide +kernel
theorem dXM_init_22 : decode cXM_init 22 = .ok (.sipush 256, 3) := by decide +kernel
theorem dXM_init_25 : decode cXM_init 25 = .ok (.newarray .int, 2) := by decide +kernel
theorem dXM_init_27 : decode cXM_init 27 = .ok (.putfield 16, 3) := by decide +kernel
theorem dXM_init_30 : decode cXM_init 30 = .ok (.aload_n 0, 1) := by decide +kernel
theorem dXM_init_31 : decode cXM_init 31 = .ok (.bipush 16, 2) := by decide +kernel
theorem dXM_init_33 : decode cXM_init 33 = .ok (.newarray .int, 2) := by decide +kernel
theorem dXM_init_35 : decode cXM_init 35 = .ok (.putfield 19, 3) := by decide +kernel
theorem dXM_init_38 : decode cXM_init 38 = .ok (.aload_n 0, 1) := by decide +kernel
theorem dXM_init_39 : decode cXM_init 39 = .ok (.bipush 9, 2) := by decide +kernel
theorem dXM_init_41 : decode cXM_init 41 = .ok (.newarray .int, 2) := by decide +kernel
theorem dXM_init_43 : decode cXM_init 43 = .ok (.putfield 22, 3) := by decide +kernel
theorem dXM_init_46 : decode cXM_init 46 = .ok (.aload_n 0, 1) := by decide +kernel
theorem dXM_init_47 : decode cXM_init 47 = .ok (.sipush 512, 3) := by decide +kernel
theorem dXM_init_50 : decode cXM_init 50 = .ok (.newarray .int, 2) := by decide +kernel
theorem dXM_init_52 : decode cXM_init 52 = .ok (.putfield 25, 3) := by decide +kernel
theorem dXM_init_55 : decode cXM_init 55 = .ok (.aload_n 0, 1) := by decide +kernel
theorem dXM_init_56 : decode cXM_init 56 = .ok (.iload_n 1, 1) := by decide +kernel
theorem dXM_init_57 : decode cXM_init 57 = .ok (.iconst 1, 1) := by decide +kernel
theorem dXM_init_58 : decode cXM_init 58 = .ok (.if_icmp .lt 9, 3) := by decide +kernel
theorem dXM_init_61 : decode cXM_init 61 = .ok (.iload_n 1, 1) := by decide +kernel
theorem dXM_init_62 : decode cXM_init 62 = .ok (.bipush 9, 2) := by decide +kernel
theorem dXM_init_64 : decode cXM_init 64 = .ok (.if_icmp .le 8, 3) := by decide +kernel
theorem dXM_init_67 : decode cXM_init 67 = .ok (.bipush 7, 2) := by decide +kernel
theorem dXM_init_69 : decode cXM_init 69 = .ok (.goto 4, 3) := by decide +kernel
theorem dXM_init_72 : decode cXM_init 72 = .ok (.iload_n 1, 1) := by decide +kernel
theorem dXM_init_73 : decode cXM_init 73 = .ok (.putfield 28, 3) := by decide +kernel
theorem dXM_init_76 : decode cXM_init 76 = .ok (.return_, 1) := by decide +kernel
theorem dXM_vertices_0 : decode cXM_vertices 0 = .ok (.aload_n 0, 1) := by decide +kernel
theorem dXM_vertices_1 : decode cXM_vertices 1 = .ok (.getfield 28, 3) := by decide +kernel
theorem dXM_vertices_4 : decode cXM_vertices 4 = .ok (.ireturn, 1) := by decide +kernel
theorem dXM_flip_0 : decode cXM_flip 0 = .ok (.aload_n 0, 1) := by decide +kernel
theorem dXM_flip_1 : decode cXM_flip 1 = .ok (.iload_n 1, 1) := by decide +kernel
theorem dXM_flip_2 : decode cXM_flip 2 = .ok (.invokevirtual 32, 3) := by decide +kernel
theorem dXM_flip_5 : decode cXM_flip 5 = .ok (.ifCond .eq 16, 3) := by decide +kernel
theorem dXM_flip_8 : decode cXM_flip 8 = .ok (.aload_n 0, 1) := by decide +kernel
theorem dXM_flip_9 : decode cXM_flip 9 = .ok (.iload_n 2, 1) := by decide +kernel
theorem dXM_flip_10 : decode cXM_flip 10 = .ok (.invokevirtual 32, 3) := by decide +kernel
theorem dXM_flip_13 : decode cXM_flip 13 = .ok (.ifCond .eq 8, 3) := by decide +kernel
theorem dXM_flip_16 : decode cXM_flip 16 = .ok (.iload_n 1, 1) := by decide +kernel
theorem dXM_flip_17 : decode cXM_flip 17 = .ok (.iload_n 2, 1) := by decide +kernel
theorem dXM_flip_18 : decode cXM_flip 18 = .ok (.if_icmp .ne 5, 3) := by decide +kernel
theorem dXM_flip_21 : decode cXM_flip 21 = .ok (.iconst 0, 1) := by decide +kernel
theorem dXM_flip_22 : decode cXM_flip 22 = .ok (.ireturn, 1) := by decide +kernel
theorem dXM_flip_23 : decode cXM_flip 23 = .ok (.aload_n 0, 1) := by decide +kernel
theorem dXM_flip_24 : decode cXM_flip 24 = .ok (.getfield 7, 3) := by decide +kernel
theorem dXM_flip_27 : decode cXM_flip 27 = .ok (.iload_n 1, 1) := by decide +kernel
theorem dXM_flip_28 : decode cXM_flip 28 = .ok (.aload_n 0, 1) := by decide +kernel
theorem dXM_flip_29 : decode cXM_flip 29 = .ok (.getfield 7, 3) := by decide +kernel
theorem dXM_flip_32 : decode cXM_flip 32 = .ok (.iload_n 1, 1) := by decide +kernel
theorem dXM_flip_33 : decode cXM_flip 33 = .ok (.iaload, 1) := by decide +kernel
theorem dXM_flip_34 : decode cXM_flip 34 = .ok (.iconst 1, 1) := by decide +kernel
theorem dXM_flip_35 : decode cXM_flip 35 = .ok (.iload_n 2, 1) := by decide +kernel
theorem dXM_flip_36 : decode cXM_flip 36 = .ok (.ishl, 1) := by decide +kernel
theorem dXM_flip_37 : decode cXM_flip 37 = .ok (.ixor, 1) := by decide +kernel
theorem dXM_flip_38 : decode cXM_flip 38 = .ok (.iastore, 1) := by decide +kernel
theorem dXM_flip_39 : decode cXM_flip 39 = .ok (.aload_n 0, 1) := by decide +kernel
theorem dXM_flip_40 : decode cXM_flip 40 = .ok (.getfield 7, 3) := by decide +kernel
theorem dXM_flip_43 : decode cXM_flip 43 = .ok (.iload_n 2, 1) := by decide +kernel
theorem dXM_flip_44 : decode cXM_flip 44 = .ok (.aload_n 0, 1) := by decide +kernel
theorem dXM_flip_45 : decode cXM_flip 45 = .ok (.getfield 7, 3) := by decide +kernel
theorem dXM_flip_48 : decode cXM_flip 48 = .ok (.iload_n 2, 1) := by decide +kernel
theorem dXM_flip_49 : decode cXM_flip 49 = .ok (.iaload, 1) := by decide +kernel
theorem dXM_flip_50 : decode cXM_flip 50 = .ok (.iconst 1, 1) := by decide +kernel
theorem dXM_flip_51 : decode cXM_flip 51 = .ok (.iload_n 1, 1) := by decide +kernel
theorem dXM_flip_52 : decode cXM_flip 52 = .ok (.ishl, 1) := by decide +kernel
theorem dXM_flip_53 : decode cXM_flip 53 = .ok (.ixor, 1) := by decide +kernel
theorem dXM_flip_54 : decode cXM_flip 54 = .ok (.iastore, 1) := by decide +kernel
theorem dXM_flip_55 : decode cXM_flip 55 = .ok (.aload_n 0, 1) := by decide +kernel
theorem dXM_flip_56 : decode cXM_flip 56 = .ok (.getfield 7, 3) := by decide +kernel
theorem dXM_flip_59 : decode cXM_flip 59 = .ok (.iload_n 1, 1) := by decide +kernel
theorem dXM_flip_60 : decode cXM_flip 60 = .ok (.iaload, 1) := by decide +kernel
theorem dXM_flip_61 : decode cXM_flip 61 = .ok (.iload_n 2, 1) := by decide +kernel
theorem dXM_flip_62 : decode cXM_flip 62 = .ok (.ishr, 1) := by decide +kernel
theorem dXM_flip_63 : decode cXM_flip 63 = .ok (.iconst 1, 1) := by decide +kernel
theorem dXM_flip_64 : decode cXM_flip 64 = .ok (.iand, 1) := by decide +kernel
theorem dXM_flip_65 : decode cXM_flip 65 = .ok (.iconst 1, 1) := by decide +kernel
theorem dXM_flip_66 : decode cXM_flip 66 = .ok (.if_icmp .ne 7, 3) := by decide +kernel
theorem dXM_flip_69 : decode cXM_flip 69 = .ok (.iconst 1, 1) := by decide +kernel
theorem dXM_flip_70 : decode cXM_flip 70 = .ok (.goto 4, 3) := by decide +kernel
theorem dXM_flip_73 : decode cXM_flip 73 = .ok (.iconst 0, 1) := by decide +kernel
theorem dXM_flip_74 : decode cXM_flip 74 = .ok (.ireturn, 1) := by decide +kernel
theorem dXM_is_0 : decode cXM_is 0 = .ok (.iload_n 1, 1) := by decide +kernel
theorem dXM_is_1 : decode cXM_is 1 = .ok (.ifCond .lt 15, 3) := by decide +kernel
theorem dXM_is_4 : decode cXM_is 4 = .ok (.iload_n 1, 1) := by decide +kernel
theorem dXM_is_5 : decode cXM_is 5 = .ok (.aload_n 0, 1) := by decide +kernel
theorem dXM_is_6 : decode cXM_is 6 = .ok (.getfield 28, 3) := by decide +kernel
theorem dXM_is_9 : decode cXM_is 9 = .ok (.if_icmp .ge 7, 3) := by decide +kernel
theorem dXM_is_12 : decode cXM_is 12 = .ok (.iconst 1, 1) := by decide +kernel
theorem dXM_is_13 : decode cXM_is 13 = .ok (.goto 4, 3) := by decide +kernel
theorem dXM_is_16 : decode cXM_is 16 = .ok (.iconst 0, 1) := by decide +kernel
theorem dXM_is_17 : decode cXM_is 17 = .ok (.ireturn, 1) := by decide +kernel
theorem dXM_neighbours_0 : decode cXM_neighbours 0 = .ok (.aload_n 0, 1) := by decide +kernel
theorem dXM_neighbours_1 : decode cXM_neighbours 1 = .ok (.iload_n 1, 1) := by decide +kernel
theorem dXM_neighbours_2 : decode cXM_neighbours 2 = .ok (.invokevirtual 32, 3) := by decide +kernel
theorem dXM_neighbours_5 : decode cXM_neighbours 5 = .ok (.ifCond .eq 29, 3) := by decide +kernel
theorem dXM_neighbours_8 : decode cXM_neighbours 8 = .ok (.aload_n 0, 1) := by decide +kernel
theorem dXM_neighbours_9 : decode cXM_neighbours 9 = .ok (.iload_n 2, 1) := by decide +kernel
theorem dXM_neighbours_10 : decode cXM_neighbours 10 = .ok (.invokevirtual 32, 3) := by decide +kernel
theorem dXM_neighbours_13 : decode cXM_neighbours 13 = .ok (.ifCond .eq 21, 3) := by decide +kernel
theorem dXM_neighbours_16 : decode cXM_neighbours 16 = .ok (.aload_n 0, 1) := by decide +kernel
theorem dXM_neighbours_17 : decode cXM_neighbours 17 = .ok (.getfield 7, 3) := by decide +kernel
theorem dXM_neighbours_20 : decode cXM_neighbours 20 = .ok (.iload_n 1, 1) := by decide +kernel
theorem dXM_neighbours_21 : decode cXM_neighbours 21 = .ok (.iaload, 1) := by decide +kernel
theorem dXM_neighbours_22 : decode cXM_neighbours 22 = .ok (.iload_n 2, 1) := by decide +kernel
theorem dXM_neighbours_23 : decode cXM_neighbours 23 = .ok (.ishr, 1) := by decide +kernel
theorem dXM_neighbours_24 : decode cXM_neighbours 24 = .ok (.iconst 1, 1) := by decide +kernel
theorem dXM_neighbours_25 : decode cXM_neighbours 25 = .ok (.iand, 1) := by decide +kernel
theorem dXM_neighbours_26 : decode cXM_neighbours 26 = .ok (.iconst 1, 1) := by decide +kernel
theorem dXM_neighbours_27 : decode cXM_neighbours 27 = .ok (.if_icmp .ne 7, 3) := by decide +kernel
theorem dXM_neighbours_30 : decode cXM_neighbours 30 = .ok (.iconst 1, 1) := by decide +kernel
theorem dXM_neighbours_31 : decode cXM_neighbours 31 = .ok (.goto 4, 3) := by decide +kernel
theorem dXM_neighbours_34 : decode cXM_neighbours 34 = .ok (.iconst 0, 1) := by decide +kernel
theorem dXM_neighbours_35 : decode cXM_neighbours 35 = .ok (.ireturn, 1) := by decide +kernel
theorem dXM_component_0 : decode cXM_component 0 = .ok (.aload_n 0, 1) := by decide +kernel
theorem dXM_component_1 : decode cXM_component 1 = .ok (.iload_n 1, 1) := by decide +kernel
theorem dXM_component_2 : decode cXM_component 2 = .ok (.invokevirtual 32, 3) := by decide +kernel
theorem dXM_component_5 : decode cXM_component 5 = .ok (.ifCond .eq 19, 3) := by decide +kernel
theorem dXM_component_8 : decode cXM_component 8 = .ok (.aload_n 0, 1) := by decide +kernel
theorem dXM_component_9 : decode cXM_component 9 = .ok (.iload_n 1, 1) := by decide +kernel
theorem dXM_component_10 : decode cXM_component 10 = .ok (.iconst 1, 1) := by decide +kernel
theorem dXM_component_11 : decode cXM_component 11 = .ok (.aload_n 0, 1) := by decide +kernel
theorem dXM_component_12 : decode cXM_component 12 = .ok (.getfield 28, 3) := by decide +kernel
theorem dXM_component_15 : decode cXM_component 15 = .ok (.ishl, 1) := by decide +kernel
theorem dXM_component_16 : decode cXM_component 16 = .ok (.iconst 1, 1) := by decide +kernel
theorem dXM_component_17 : decode cXM_component 17 = .ok (.isub, 1) := by decide +kernel
theorem dXM_component_18 : decode cXM_component 18 = .ok (.invokevirtual 36, 3) := by decide +kernel
theorem dXM_component_21 : decode cXM_component 21 = .ok (.goto 4, 3) := by decide +kernel
theorem dXM_component_24 : decode cXM_component 24 = .ok (.iconst 0, 1) := by decide +kernel
theorem dXM_component_25 : decode cXM_component 25 = .ok (.ireturn, 1) := by decide +kernel
theorem dXM_within_0 : decode cXM_within 0 = .ok (.iconst 1, 1) := by decide +kernel
theorem dXM_within_1 : decode cXM_within 1 = .ok (.iload_n 1, 1) := by decide +kernel
theorem dXM_within_2 : decode cXM_within 2 = .ok (.ishl, 1) := by decide +kernel
theorem dXM_within_3 : decode cXM_within 3 = .ok (.istore_n 3, 1) := by decide +kernel
theorem dXM_within_4 : decode cXM_within 4 = .ok (.iconst 0, 1) := by decide +kernel
theorem dXM_within_5 : decode cXM_within 5 = .ok (.istore 4, 2) := by decide +kernel
theorem dXM_within_7 : decode cXM_within 7 = .ok (.iload 4, 2) := by decide +kernel
theorem dXM_within_9 : decode cXM_within 9 = .ok (.bipush 9, 2) := by decide +kernel
theorem dXM_within_11 : decode cXM_within 11 = .ok (.if_icmp .ge 53, 3) := by decide +kernel
theorem dXM_within_14 : decode cXM_within 14 = .ok (.iconst 0, 1) := by decide +kernel
theorem dXM_within_15 : decode cXM_within 15 = .ok (.istore 5, 2) := by decide +kernel
theorem dXM_within_17 : decode cXM_within 17 = .ok (.iload 5, 2) := by decide +kernel
theorem dXM_within_19 : decode cXM_within 19 = .ok (.aload_n 0, 1) := by decide +kernel
theorem dXM_within_20 : decode cXM_within 20 = .ok (.getfield 28, 3) := by decide +kernel
theorem dXM_within_23 : decode cXM_within 23 = .ok (.if_icmp .ge 35, 3) := by decide +kernel
theorem dXM_within_26 : decode cXM_within 26 = .ok (.iload_n 3, 1) := by decide +kernel
theorem dXM_within_27 : decode cXM_within 27 = .ok (.iload 5, 2) := by decide +kernel
theorem dXM_within_29 : decode cXM_within 29 = .ok (.ishr, 1) := by decide +kernel
theorem dXM_within_30 : decode cXM_within 30 = .ok (.iconst 1, 1) := by decide +kernel
theorem dXM_within_31 : decode cXM_within 31 = .ok (.iand, 1) := by decide +kernel
theorem dXM_within_32 : decode cXM_within 32 = .ok (.iconst 1, 1) := by decide +kernel
theorem dXM_within_33 : decode cXM_within 33 = .ok (.if_icmp .ne 17, 3) := by decide +kernel
theorem dXM_within_36 : decode cXM_within 36 = .ok (.iload_n 3, 1) := by decide +kernel
theorem dXM_within_37 : decode cXM_within 37 = .ok (.aload_n 0, 1) := by decide +kernel
theorem dXM_within_38 : decode cXM_within 38 = .ok (.getfield 7, 3) := by decide +kernel
theorem dXM_within_41 : decode cXM_within 41 = .ok (.iload 5, 2) := by decide +kernel
theorem dXM_within_43 : decode cXM_within 43 = .ok (.iaload, 1) := by decide +kernel
theorem dXM_within_44 : decode cXM_within 44 = .ok (.iload_n 2, 1) := by decide +kernel
theorem dXM_within_45 : decode cXM_within 45 = .ok (.iand, 1) := by decide +kernel
theorem dXM_within_46 : decode cXM_within 46 = .ok (.ior, 1) := by decide +kernel
theorem dXM_within_47 : decode cXM_within 47 = .ok (.goto 4, 3) := by decide +kernel
theorem dXM_within_50 : decode cXM_within 50 = .ok (.iload_n 3, 1) := by decide +kernel
theorem dXM_within_51 : decode cXM_within 51 = .ok (.istore_n 3, 1) := by decide +kernel
theorem dXM_within_52 : decode cXM_within 52 = .ok (.iinc 5 1, 3) := by decide +kernel
theorem dXM_within_55 : decode cXM_within 55 = .ok (.goto (-38), 3) := by decide +kernel
theorem dXM_within_58 : decode cXM_within 58 = .ok (.iinc 4 1, 3) := by decide +kernel
theorem dXM_within_61 : decode cXM_within 61 = .ok (.goto (-54), 3) := by decide +kernel
theorem dXM_within_64 : decode cXM_within 64 = .ok (.iload_n 3, 1) := by decide +kernel
theorem dXM_within_65 : decode cXM_within 65 = .ok (.ireturn, 1) := by decide +kernel
theorem dXM_splits_0 : decode cXM_splits 0 = .ok (.aload_n 0, 1) := by decide +kernel
theorem dXM_splits_1 : decode cXM_splits 1 = .ok (.iload_n 1, 1) := by decide +kernel
theorem dXM_splits_2 : decode cXM_splits 2 = .ok (.invokevirtual 32, 3) := by decide +kernel
theorem dXM_splits_5 : decode cXM_splits 5 = .ok (.ifCond .ne 5, 3) := by decide +kernel
theorem dXM_splits_8 : decode cXM_splits 8 = .ok (.iconst (-1), 1) := by decide +kernel
theorem dXM_splits_9 : decode cXM_splits 9 = .ok (.ireturn, 1) := by decide +kernel
theorem dXM_splits_10 : decode cXM_splits 10 = .ok (.aload_n 0, 1) := by decide +kernel
theorem dXM_splits_11 : decode cXM_splits 11 = .ok (.aload_n 0, 1) := by decide +kernel
theorem dXM_splits_12 : decode cXM_splits 12 = .ok (.iload_n 1, 1) := by decide +kernel
theorem dXM_splits_13 : decode cXM_splits 13 = .ok (.invokevirtual 60, 3) := by decide +kernel
theorem dXM_splits_16 : decode cXM_splits 16 = .ok (.invokevirtual 63, 3) := by decide +kernel
theorem dXM_splits_19 : decode cXM_splits 19 = .ok (.aload_n 0, 1) := by decide +kernel
theorem dXM_splits_20 : decode cXM_splits 20 = .ok (.getfield 40, 3) := by decide +kernel
theorem dXM_splits_23 : decode cXM_splits 23 = .ok (.ireturn, 1) := by decide +kernel
theorem dXM_find_0 : decode cXM_find 0 = .ok (.aload_n 0, 1) := by decide +kernel
theorem dXM_find_1 : decode cXM_find 1 = .ok (.iconst 0, 1) := by decide +kernel
theorem dXM_find_2 : decode cXM_find 2 = .ok (.putfield 40, 3) := by decide +kernel
theorem dXM_find_5 : decode cXM_find 5 = .ok (.iconst 1, 1) := by decide +kernel
theorem dXM_find_6 : decode cXM_find 6 = .ok (.iload_n 1, 1) := by decide +kernel
theorem dXM_find_7 : decode cXM_find 7 = .ok (.invokestatic 43, 3) := by decide +kernel
theorem dXM_find_10 : decode cXM_find 10 = .ok (.ishl, 1) := by decide +kernel
theorem dXM_find_11 : decode cXM_find 11 = .ok (.istore_n 2, 1) := by decide +kernel
theorem dXM_find_12 : decode cXM_find 12 = .ok (.iconst 0, 1) := by decide +kernel
theorem dXM_find_13 : decode cXM_find 13 = .ok (.istore_n 3, 1) := by decide +kernel
theorem dXM_find_14 : decode cXM_find 14 = .ok (.iload_n 3, 1) := by decide +kernel
theorem dXM_find_15 : decode cXM_find 15 = .ok (.sipush 512, 3) := by decide +kernel
theorem dXM_find_18 : decode cXM_find 18 = .ok (.if_icmp .ge 88, 3) := by decide +kernel
theorem dXM_find_21 : decode cXM_find 21 = .ok (.iload_n 3, 1) := by decide +kernel
theorem dXM_find_22 : decode cXM_find 22 = .ok (.iload_n 1, 1) := by decide +kernel
theorem dXM_find_23 : decode cXM_find 23 = .ok (.iconst (-1), 1) := by decide +kernel
theorem dXM_find_24 : decode cXM_find 24 = .ok (.ixor, 1) := by decide +kernel
theorem dXM_find_25 : decode cXM_find 25 = .ok (.iand, 1) := by decide +kernel
theorem dXM_find_26 : decode cXM_find 26 = .ok (.ifCond .ne 33, 3) := by decide +kernel
theorem dXM_find_29 : decode cXM_find 29 = .ok (.iload_n 3, 1) := by decide +kernel
theorem dXM_find_30 : decode cXM_find 30 = .ok (.iload_n 2, 1) := by decide +kernel
theorem dXM_find_31 : decode cXM_find 31 = .ok (.iand, 1) := by decide +kernel
theorem dXM_find_32 : decode cXM_find 32 = .ok (.ifCond .ne 27, 3) := by decide +kernel
theorem dXM_find_35 : decode cXM_find 35 = .ok (.iload_n 3, 1) := by decide +kernel
theorem dXM_find_36 : decode cXM_find 36 = .ok (.invokestatic 47, 3) := by decide +kernel
theorem dXM_find_39 : decode cXM_find 39 = .ok (.iconst 2, 1) := by decide +kernel
theorem dXM_find_40 : decode cXM_find 40 = .ok (.if_icmp .lt 19, 3) := by decide +kernel
theorem dXM_find_43 : decode cXM_find 43 = .ok (.iload_n 1, 1) := by decide +kernel
theorem dXM_find_44 : decode cXM_find 44 = .ok (.iload_n 3, 1) := by decide +kernel
theorem dXM_find_45 : decode cXM_find 45 = .ok (.iconst (-1), 1) := by decide +kernel
theorem dXM_find_46 : decode cXM_find 46 = .ok (.ixor, 1) := by decide +kernel
theorem dXM_find_47 : decode cXM_find 47 = .ok (.iand, 1) := by decide +kernel
theorem dXM_find_48 : decode cXM_find 48 = .ok (.invokestatic 47, 3) := by decide +kernel
theorem dXM_find_51 : decode cXM_find 51 = .ok (.iconst 2, 1) := by decide +kernel
theorem dXM_find_52 : decode cXM_find 52 = .ok (.if_icmp .lt 7, 3) := by decide +kernel
theorem dXM_find_55 : decode cXM_find 55 = .ok (.iconst 1, 1) := by decide +kernel
theorem dXM_find_56 : decode cXM_find 56 = .ok (.goto 4, 3) := by decide +kernel
theorem dXM_find_59 : decode cXM_find 59 = .ok (.iconst 0, 1) := by decide +kernel
theorem dXM_find_60 : decode cXM_find 60 = .ok (.istore 4, 2) := by decide +kernel
theorem dXM_find_62 : decode cXM_find 62 = .ok (.iload 4, 2) := by decide +kernel
theorem dXM_find_64 : decode cXM_find 64 = .ok (.ifCond .eq 36, 3) := by decide +kernel
theorem dXM_find_67 : decode cXM_find 67 = .ok (.aload_n 0, 1) := by decide +kernel
theorem dXM_find_68 : decode cXM_find 68 = .ok (.iload_n 3, 1) := by decide +kernel
theorem dXM_find_69 : decode cXM_find 69 = .ok (.iload_n 1, 1) := by decide +kernel
theorem dXM_find_70 : decode cXM_find 70 = .ok (.iload_n 3, 1) := by decide +kernel
theorem dXM_find_71 : decode cXM_find 71 = .ok (.iconst (-1), 1) := by decide +kernel
theorem dXM_find_72 : decode cXM_find 72 = .ok (.ixor, 1) := by decide +kernel
theorem dXM_find_73 : decode cXM_find 73 = .ok (.iand, 1) := by decide +kernel
theorem dXM_find_74 : decode cXM_find 74 = .ok (.invokevirtual 50, 3) := by decide +kernel
theorem dXM_find_77 : decode cXM_find 77 = .ok (.ifCond .eq 23, 3) := by decide +kernel
theorem dXM_find_80 : decode cXM_find 80 = .ok (.aload_n 0, 1) := by decide +kernel
theorem dXM_find_81 : decode cXM_find 81 = .ok (.getfield 13, 3) := by decide +kernel
theorem dXM_find_84 : decode cXM_find 84 = .ok (.aload_n 0, 1) := by decide +kernel
theorem dXM_find_85 : decode cXM_find 85 = .ok (.getfield 40, 3) := by decide +kernel
theorem dXM_find_88 : decode cXM_find 88 = .ok (.iload_n 3, 1) := by decide +kernel
theorem dXM_find_89 : decode cXM_find 89 = .ok (.iastore, 1) := by decide +kernel
theorem dXM_find_90 : decode cXM_find 90 = .ok (.aload_n 0, 1) := by decide +kernel
theorem dXM_find_91 : decode cXM_find 91 = .ok (.dup, 1) := by decide +kernel
theorem dXM_find_92 : decode cXM_find 92 = .ok (.getfield 40, 3) := by decide +kernel
theorem dXM_find_95 : decode cXM_find 95 = .ok (.iconst 1, 1) := by decide +kernel
theorem dXM_find_96 : decode cXM_find 96 = .ok (.iadd, 1) := by decide +kernel
theorem dXM_find_97 : decode cXM_find 97 = .ok (.putfield 40, 3) := by decide +kernel
theorem dXM_find_100 : decode cXM_find 100 = .ok (.iinc 3 1, 3) := by decide +kernel
theorem dXM_find_103 : decode cXM_find 103 = .ok (.goto (-89), 3) := by decide +kernel
theorem dXM_find_106 : decode cXM_find 106 = .ok (.aload_n 0, 1) := by decide +kernel
theorem dXM_find_107 : decode cXM_find 107 = .ok (.iconst 0, 1) := by decide +kernel
theorem dXM_find_108 : decode cXM_find 108 = .ok (.putfield 54, 3) := by decide +kernel
theorem dXM_find_111 : decode cXM_find 111 = .ok (.iconst 0, 1) := by decide +kernel
theorem dXM_find_112 : decode cXM_find 112 = .ok (.istore_n 3, 1) := by decide +kernel
theorem dXM_find_113 : decode cXM_find 113 = .ok (.iload_n 3, 1) := by decide +kernel
theorem dXM_find_114 : decode cXM_find 114 = .ok (.aload_n 0, 1) := by decide +kernel
theorem dXM_find_115 : decode cXM_find 115 = .ok (.getfield 40, 3) := by decide +kernel
theorem dXM_find_118 : decode cXM_find 118 = .ok (.if_icmp .ge 91, 3) := by decide +kernel
theorem dXM_find_121 : decode cXM_find 121 = .ok (.iconst 1, 1) := by decide +kernel
theorem dXM_find_122 : decode cXM_find 122 = .ok (.istore 4, 2) := by decide +kernel
theorem dXM_find_124 : decode cXM_find 124 = .ok (.iconst 0, 1) := by decide +kernel
theorem dXM_find_125 : decode cXM_find 125 = .ok (.istore 5, 2) := by decide +kernel
theorem dXM_find_127 : decode cXM_find 127 = .ok (.iload 5, 2) := by decide +kernel
theorem dXM_find_129 : decode cXM_find 129 = .ok (.aload_n 0, 1) := by decide +kernel
theorem dXM_find_130 : decode cXM_find 130 = .ok (.getfield 40, 3) := by decide +kernel
theorem dXM_find_133 : decode cXM_find 133 = .ok (.if_icmp .ge 40, 3) := by decide +kernel
theorem dXM_find_136 : decode cXM_find 136 = .ok (.iload 4, 2) := by decide +kernel
theorem dXM_find_138 : decode cXM_find 138 = .ok (.ifCond .eq 26, 3) := by decide +kernel
theorem dXM_find_141 : decode cXM_find 141 = .ok (.aload_n 0, 1) := by decide +kernel
theorem dXM_find_142 : decode cXM_find 142 = .ok (.getfield 13, 3) := by decide +kernel
theorem dXM_find_145 : decode cXM_find 145 = .ok (.iload_n 3, 1) := by decide +kernel
theorem dXM_find_146 : decode cXM_find 146 = .ok (.iaload, 1) := by decide +kernel
theorem dXM_find_147 : decode cXM_find 147 = .ok (.aload_n 0, 1) := by decide +kernel
theorem dXM_find_148 : decode cXM_find 148 = .ok (.getfield 13, 3) := by decide +kernel
theorem dXM_find_151 : decode cXM_find 151 = .ok (.iload 5, 2) := by decide +kernel
theorem dXM_find_153 : decode cXM_find 153 = .ok (.iaload, 1) := by decide +kernel
theorem dXM_find_154 : decode cXM_find 154 = .ok (.invokestatic 57, 3) := by decide +kernel
theorem dXM_find_157 : decode cXM_find 157 = .ok (.ifCond .ne 7, 3) := by decide +kernel
theorem dXM_find_160 : decode cXM_find 160 = .ok (.iconst 1, 1) := by decide +kernel
theorem dXM_find_161 : decode cXM_find 161 = .ok (.goto 4, 3) := by decide +kernel
theorem dXM_find_164 : decode cXM_find 164 = .ok (.iconst 0, 1) := by decide +kernel
theorem dXM_find_165 : decode cXM_find 165 = .ok (.istore 4, 2) := by decide +kernel
theorem dXM_find_167 : decode cXM_find 167 = .ok (.iinc 5 1, 3) := by decide +kernel
theorem dXM_find_170 : decode cXM_find 170 = .ok (.goto (-43), 3) := by decide +kernel
theorem dXM_find_173 : decode cXM_find 173 = .ok (.iload 4, 2) := by decide +kernel
theorem dXM_find_175 : decode cXM_find 175 = .ok (.ifCond .eq 28, 3) := by decide +kernel
theorem dXM_find_178 : decode cXM_find 178 = .ok (.aload_n 0, 1) := by decide +kernel
theorem dXM_find_179 : decode cXM_find 179 = .ok (.getfield 16, 3) := by decide +kernel
theorem dXM_find_182 : decode cXM_find 182 = .ok (.aload_n 0, 1) := by decide +kernel
theorem dXM_find_183 : decode cXM_find 183 = .ok (.getfield 54, 3) := by decide +kernel
theorem dXM_find_186 : decode cXM_find 186 = .ok (.aload_n 0, 1) := by decide +kernel
theorem dXM_find_187 : decode cXM_find 187 = .ok (.getfield 13, 3) := by decide +kernel
theorem dXM_find_190 : decode cXM_find 190 = .ok (.iload_n 3, 1) := by decide +kernel
theorem dXM_find_191 : decode cXM_find 191 = .ok (.iaload, 1) := by decide +kernel
theorem dXM_find_192 : decode cXM_find 192 = .ok (.iastore, 1) := by decide +kernel
theorem dXM_find_193 : decode cXM_find 193 = .ok (.aload_n 0, 1) := by decide +kernel
theorem dXM_find_194 : decode cXM_find 194 = .ok (.dup, 1) := by decide +kernel
theorem dXM_find_195 : decode cXM_find 195 = .ok (.getfield 54, 3) := by decide +kernel
theorem dXM_find_198 : decode cXM_find 198 = .ok (.iconst 1, 1) := by decide +kernel
theorem dXM_find_199 : decode cXM_find 199 = .ok (.iadd, 1) := by decide +kernel
theorem dXM_find_200 : decode cXM_find 200 = .ok (.putfield 54, 3) := by decide +kernel
theorem dXM_find_203 : decode cXM_find 203 = .ok (.iinc 3 1, 3) := by decide +kernel
theorem dXM_find_206 : decode cXM_find 206 = .ok (.goto (-93), 3) := by decide +kernel
theorem dXM_find_209 : decode cXM_find 209 = .ok (.return_, 1) := by decide +kernel
theorem dXM_least_0 : decode cXM_least 0 = .ok (.iconst 0, 1) := by decide +kernel
theorem dXM_least_1 : decode cXM_least 1 = .ok (.istore_n 1, 1) := by decide +kernel
theorem dXM_least_2 : decode cXM_least 2 = .ok (.iload_n 1, 1) := by decide +kernel
theorem dXM_least_3 : decode cXM_least 3 = .ok (.bipush 9, 2) := by decide +kernel
theorem dXM_least_5 : decode cXM_least 5 = .ok (.if_icmp .ge 17, 3) := by decide +kernel
theorem dXM_least_8 : decode cXM_least 8 = .ok (.iload_n 0, 1) := by decide +kernel
theorem dXM_least_9 : decode cXM_least 9 = .ok (.iload_n 1, 1) := by decide +kernel
theorem dXM_least_10 : decode cXM_least 10 = .ok (.ishr, 1) := by decide +kernel
theorem dXM_least_11 : decode cXM_least 11 = .ok (.iconst 1, 1) := by decide +kernel
theorem dXM_least_12 : decode cXM_least 12 = .ok (.iand, 1) := by decide +kernel
theorem dXM_least_13 : decode cXM_least 13 = .ok (.ifCond .ne 9, 3) := by decide +kernel
theorem dXM_least_16 : decode cXM_least 16 = .ok (.iinc 1 1, 3) := by decide +kernel
theorem dXM_least_19 : decode cXM_least 19 = .ok (.goto (-17), 3) := by decide +kernel
theorem dXM_least_22 : decode cXM_least 22 = .ok (.iload_n 1, 1) := by decide +kernel
theorem dXM_least_23 : decode cXM_least 23 = .ok (.ireturn, 1) := by decide +kernel
theorem dXM_size_0 : decode cXM_size 0 = .ok (.iconst 0, 1) := by decide +kernel
theorem dXM_size_1 : decode cXM_size 1 = .ok (.istore_n 1, 1) := by decide +kernel
theorem dXM_size_2 : decode cXM_size 2 = .ok (.iconst 0, 1) := by decide +kernel
theorem dXM_size_3 : decode cXM_size 3 = .ok (.istore_n 2, 1) := by decide +kernel
theorem dXM_size_4 : decode cXM_size 4 = .ok (.iload_n 2, 1) := by decide +kernel
theorem dXM_size_5 : decode cXM_size 5 = .ok (.bipush 9, 2) := by decide +kernel
theorem dXM_size_7 : decode cXM_size 7 = .ok (.if_icmp .ge 17, 3) := by decide +kernel
theorem dXM_size_10 : decode cXM_size 10 = .ok (.iload_n 1, 1) := by decide +kernel
theorem dXM_size_11 : decode cXM_size 11 = .ok (.iload_n 0, 1) := by decide +kernel
theorem dXM_size_12 : decode cXM_size 12 = .ok (.iload_n 2, 1) := by decide +kernel
theorem dXM_size_13 : decode cXM_size 13 = .ok (.ishr, 1) := by decide +kernel
theorem dXM_size_14 : decode cXM_size 14 = .ok (.iconst 1, 1) := by decide +kernel
theorem dXM_size_15 : decode cXM_size 15 = .ok (.iand, 1) := by decide +kernel
theorem dXM_size_16 : decode cXM_size 16 = .ok (.iadd, 1) := by decide +kernel
theorem dXM_size_17 : decode cXM_size 17 = .ok (.istore_n 1, 1) := by decide +kernel
theorem dXM_size_18 : decode cXM_size 18 = .ok (.iinc 2 1, 3) := by decide +kernel
theorem dXM_size_21 : decode cXM_size 21 = .ok (.goto (-17), 3) := by decide +kernel
theorem dXM_size_24 : decode cXM_size 24 = .ok (.iload_n 1, 1) := by decide +kernel
theorem dXM_size_25 : decode cXM_size 25 = .ok (.ireturn, 1) := by decide +kernel
theorem dXM_complete_0 : decode cXM_complete 0 = .ok (.iconst 0, 1) := by decide +kernel
theorem dXM_complete_1 : decode cXM_complete 1 = .ok (.istore_n 3, 1) := by decide +kernel
theorem dXM_complete_2 : decode cXM_complete 2 = .ok (.iconst 1, 1) := by decide +kernel
theorem dXM_complete_3 : decode cXM_complete 3 = .ok (.istore 4, 2) := by decide +kernel
theorem dXM_complete_5 : decode cXM_complete 5 = .ok (.iconst 0, 1) := by decide +kernel
theorem dXM_complete_6 : decode cXM_complete 6 = .ok (.istore 5, 2) := by decide +kernel
theorem dXM_complete_8 : decode cXM_complete 8 = .ok (.iload 5, 2) := by decide +kernel
theorem dXM_complete_10 : decode cXM_complete 10 = .ok (.aload_n 0, 1) := by decide +kernel
theorem dXM_complete_11 : decode cXM_complete 11 = .ok (.getfield 28, 3) := by decide +kernel
theorem dXM_complete_14 : decode cXM_complete 14 = .ok (.if_icmp .ge 73, 3) := by decide +kernel
theorem dXM_complete_17 : decode cXM_complete 17 = .ok (.iload_n 1, 1) := by decide +kernel
theorem dXM_complete_18 : decode cXM_complete 18 = .ok (.iload 5, 2) := by decide +kernel
theorem dXM_complete_20 : decode cXM_complete 20 = .ok (.ishr, 1) := by decide +kernel
theorem dXM_complete_21 : decode cXM_complete 21 = .ok (.iconst 1, 1) := by decide +kernel
theorem dXM_complete_22 : decode cXM_complete 22 = .ok (.iand, 1) := by decide +kernel
theorem dXM_complete_23 : decode cXM_complete 23 = .ok (.iconst 1, 1) := by decide +kernel
theorem dXM_complete_24 : decode cXM_complete 24 = .ok (.if_icmp .ne 15, 3) := by decide +kernel
theorem dXM_complete_27 : decode cXM_complete 27 = .ok (.aload_n 0, 1) := by decide +kernel
theorem dXM_complete_28 : decode cXM_complete 28 = .ok (.getfield 7, 3) := by decide +kernel
theorem dXM_complete_31 : decode cXM_complete 31 = .ok (.iload 5, 2) := by decide +kernel
theorem dXM_complete_33 : decode cXM_complete 33 = .ok (.iaload, 1) := by decide +kernel
theorem dXM_complete_34 : decode cXM_complete 34 = .ok (.iload_n 2, 1) := by decide +kernel
theorem dXM_complete_35 : decode cXM_complete 35 = .ok (.iand, 1) := by decide +kernel
theorem dXM_complete_36 : decode cXM_complete 36 = .ok (.goto 4, 3) := by decide +kernel
theorem dXM_complete_39 : decode cXM_complete 39 = .ok (.iconst 0, 1) := by decide +kernel
theorem dXM_complete_40 : decode cXM_complete 40 = .ok (.istore 6, 2) := by decide +kernel
theorem dXM_complete_42 : decode cXM_complete 42 = .ok (.iload 4, 2) := by decide +kernel
theorem dXM_complete_44 : decode cXM_complete 44 = .ok (.ifCond .eq 22, 3) := by decide +kernel
theorem dXM_complete_47 : decode cXM_complete 47 = .ok (.iload 6, 2) := by decide +kernel
theorem dXM_complete_49 : decode cXM_complete 49 = .ok (.ifCond .eq 13, 3) := by decide +kernel
theorem dXM_complete_52 : decode cXM_complete 52 = .ok (.iload_n 3, 1) := by decide +kernel
theorem dXM_complete_53 : decode cXM_complete 53 = .ok (.ifCond .eq 9, 3) := by decide +kernel
theorem dXM_complete_56 : decode cXM_complete 56 = .ok (.iload 6, 2) := by decide +kernel
theorem dXM_complete_58 : decode cXM_complete 58 = .ok (.iload_n 3, 1) := by decide +kernel
theorem dXM_complete_59 : decode cXM_complete 59 = .ok (.if_icmp .ne 7, 3) := by decide +kernel
theorem dXM_complete_62 : decode cXM_complete 62 = .ok (.iconst 1, 1) := by decide +kernel
theorem dXM_complete_63 : decode cXM_complete 63 = .ok (.goto 4, 3) := by decide +kernel
theorem dXM_complete_66 : decode cXM_complete 66 = .ok (.iconst 0, 1) := by decide +kernel
theorem dXM_complete_67 : decode cXM_complete 67 = .ok (.istore 4, 2) := by decide +kernel
theorem dXM_complete_69 : decode cXM_complete 69 = .ok (.iload 6, 2) := by decide +kernel
theorem dXM_complete_71 : decode cXM_complete 71 = .ok (.ifCond .ne 7, 3) := by decide +kernel
theorem dXM_complete_74 : decode cXM_complete 74 = .ok (.iload_n 3, 1) := by decide +kernel
theorem dXM_complete_75 : decode cXM_complete 75 = .ok (.goto 5, 3) := by decide +kernel
theorem dXM_complete_78 : decode cXM_complete 78 = .ok (.iload 6, 2) := by decide +kernel
theorem dXM_complete_80 : decode cXM_complete 80 = .ok (.istore_n 3, 1) := by decide +kernel
theorem dXM_complete_81 : decode cXM_complete 81 = .ok (.iinc 5 1, 3) := by decide +kernel
theorem dXM_complete_84 : decode cXM_complete 84 = .ok (.goto (-76), 3) := by decide +kernel
theorem dXM_complete_87 : decode cXM_complete 87 = .ok (.iload 4, 2) := by decide +kernel
theorem dXM_complete_89 : decode cXM_complete 89 = .ok (.ireturn, 1) := by decide +kernel
theorem dXM_cross_0 : decode cXM_cross 0 = .ok (.iload_n 0, 1) := by decide +kernel
theorem dXM_cross_1 : decode cXM_cross 1 = .ok (.iload_n 1, 1) := by decide +kernel
theorem dXM_cross_2 : decode cXM_cross 2 = .ok (.iand, 1) := by decide +kernel
theorem dXM_cross_3 : decode cXM_cross 3 = .ok (.ifCond .eq 23, 3) := by decide +kernel
theorem dXM_cross_6 : decode cXM_cross 6 = .ok (.iload_n 0, 1) := by decide +kernel
