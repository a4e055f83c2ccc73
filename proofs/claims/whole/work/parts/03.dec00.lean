theorem dXF_init_0 : decode cXF_init 0 = .ok (.aload_n 0, 1) := by decide +kernel
theorem dXF_init_1 : decode cXF_init 1 = .ok (.invokespecial 1, 3) := by decide +kernel
theorem dXF_init_4 : decode cXF_init 4 = .ok (.aload_n 0, 1) := by decide +kernel
theorem dXF_init_5 : decode cXF_init 5 = .ok (.new 7, 3) := by decide +kernel
theorem dXF_init_8 : decode cXF_init 8 = .ok (.dup, 1) := by decide +kernel
theorem dXF_init_9 : decode cXF_init 9 = .ok (.iload_n 1, 1) := by decide +kernel
theorem dXF_init_10 : decode cXF_init 10 = .ok (.iconst 1, 1) := by decide +kernel
theorem dXF_init_11 : decode cXF_init 11 = .ok (.if_icmp .lt 13, 3) := by decide +kernel
theorem dXF_init_14 : decode cXF_init 14 = .ok (.iload_n 1, 1) := by decide +kernel
theorem dXF_init_15 : decode cXF_init 15 = .ok (.bipush 9, 2) := by decide +kernel
theorem dXF_init_17 : decode cXF_init 17 = .ok (.if_icmp .gt 7, 3) := by decide +kernel
theorem dXF_init_20 : decode cXF_init 20 = .ok (.iload_n 1, 1) := by decide +kernel
theorem dXF_init_21 : decode cXF_init 21 = .ok (.goto 5, 3) := by decide +kernel
theorem dXF_init_24 : decode cXF_init 24 = .ok (.bipush 7, 2) := by decide +kernel
theorem dXF_init_26 : decode cXF_init 26 = .ok (.invokespecial 11, 3) := by decide +kernel
theorem dXF_init_29 : decode cXF_init 29 = .ok (.putfield 14, 3) := by decide +kernel
theorem dXF_init_32 : decode cXF_init 32 = .ok (.aload_n 0, 1) := by decide +kernel
theorem dXF_init_33 : decode cXF_init 33 = .ok (.new 18, 3) := by decide +kernel
theorem dXF_init_36 : decode cXF_init 36 = .ok (.dup, 1) := by decide +kernel
theorem dXF_init_37 : decode cXF_init 37 = .ok (.aload_n 0, 1) := by decide +kernel
theorem dXF_init_38 : decode cXF_init 38 = .ok (.getfield 14, 3) := by decide +kernel
theorem dXF_init_41 : decode cXF_init 41 = .ok (.invokespecial 20, 3) := by decide +kernel
theorem dXF_init_44 : decode cXF_init 44 = .ok (.putfield 23, 3) := by decide +kernel
theorem dXF_init_47 : decode cXF_init 47 = .ok (.aload_n 0, 1) := by decide +kernel
theorem dXF_init_48 : decode cXF_init 48 = .ok (.new 27, 3) := by decide +kernel
theorem dXF_init_51 : decode cXF_init 51 = .ok (.dup, 1) := by decide +kernel
theorem dXF_init_52 : decode cXF_init 52 = .ok (.aload_n 0, 1) := by decide +kernel
theorem dXF_init_53 : decode cXF_init 53 = .ok (.getfield 14, 3) := by decide +kernel
theorem dXF_init_56 : decode cXF_init 56 = .ok (.invokespecial 29, 3) := by decide +kernel
theorem dXF_init_59 : decode cXF_init 59 = .ok (.putfield 30, 3) := by decide +kernel
theorem dXF_init_62 : decode cXF_init 62 = .ok (.aload_n 0, 1) := by decide +kernel
theorem dXF_init_63 : decode cXF_init 63 = .ok (.new 34, 3) := by decide +kernel
theorem dXF_init_66 : decode cXF_init 66 = .ok (.dup, 1) := by decide +kernel
theorem dXF_init_67 : decode cXF_init 67 = .ok (.aload_n 0, 1) := by decide +kernel
theorem dXF_init_68 : decode cXF_init 68 = .ok (.getfield 14, 3) := by decide +kernel
theorem dXF_init_71 : decode cXF_init 71 = .ok (.invokespecial 36, 3) := by decide +kernel
theorem dXF_init_74 : decode cXF_init 74 = .ok (.putfield 37, 3) := by decide +kernel
theorem dXF_init_77 : decode cXF_init 77 = .ok (.return_, 1) := by decide +kernel
theorem dXF_vertices_0 : decode cXF_vertices 0 = .ok (.aload_n 0, 1) := by decide +kernel
theorem dXF_vertices_1 : decode cXF_vertices 1 = .ok (.getfield 14, 3) := by decide +kernel
theorem dXF_vertices_4 : decode cXF_vertices 4 = .ok (.invokevirtual 41, 3) := by decide +kernel
theorem dXF_vertices_7 : decode cXF_vertices 7 = .ok (.ireturn, 1) := by decide +kernel
theorem dXF_flip_0 : decode cXF_flip 0 = .ok (.aload_n 0, 1) := by decide +kernel
theorem dXF_flip_1 : decode cXF_flip 1 = .ok (.getfield 14, 3) := by decide +kernel
theorem dXF_flip_4 : decode cXF_flip 4 = .ok (.iload_n 1, 1) := by decide +kernel
theorem dXF_flip_5 : decode cXF_flip 5 = .ok (.invokevirtual 45, 3) := by decide +kernel
theorem dXF_flip_8 : decode cXF_flip 8 = .ok (.ifCond .eq 19, 3) := by decide +kernel
theorem dXF_flip_11 : decode cXF_flip 11 = .ok (.aload_n 0, 1) := by decide +kernel
theorem dXF_flip_12 : decode cXF_flip 12 = .ok (.getfield 14, 3) := by decide +kernel
theorem dXF_flip_15 : decode cXF_flip 15 = .ok (.iload_n 2, 1) := by decide +kernel
theorem dXF_flip_16 : decode cXF_flip 16 = .ok (.invokevirtual 45, 3) := by decide +kernel
theorem dXF_flip_19 : decode cXF_flip 19 = .ok (.ifCond .eq 8, 3) := by decide +kernel
theorem dXF_flip_22 : decode cXF_flip 22 = .ok (.iload_n 1, 1) := by decide +kernel
theorem dXF_flip_23 : decode cXF_flip 23 = .ok (.iload_n 2, 1) := by decide +kernel
theorem dXF_flip_24 : decode cXF_flip 24 = .ok (.if_icmp .ne 5, 3) := by decide +kernel
theorem dXF_flip_27 : decode cXF_flip 27 = .ok (.iconst 0, 1) := by decide +kernel
theorem dXF_flip_28 : decode cXF_flip 28 = .ok (.ireturn, 1) := by decide +kernel
theorem dXF_flip_29 : decode cXF_flip 29 = .ok (.aload_n 0, 1) := by decide +kernel
theorem dXF_flip_30 : decode cXF_flip 30 = .ok (.getfield 14, 3) := by decide +kernel
theorem dXF_flip_33 : decode cXF_flip 33 = .ok (.iload_n 1, 1) := by decide +kernel
theorem dXF_flip_34 : decode cXF_flip 34 = .ok (.iload_n 2, 1) := by decide +kernel
theorem dXF_flip_35 : decode cXF_flip 35 = .ok (.invokevirtual 49, 3) := by decide +kernel
theorem dXF_flip_38 : decode cXF_flip 38 = .ok (.aload_n 0, 1) := by decide +kernel
theorem dXF_flip_39 : decode cXF_flip 39 = .ok (.getfield 23, 3) := by decide +kernel
theorem dXF_flip_42 : decode cXF_flip 42 = .ok (.invokevirtual 53, 3) := by decide +kernel
theorem dXF_flip_45 : decode cXF_flip 45 = .ok (.aload_n 0, 1) := by decide +kernel
theorem dXF_flip_46 : decode cXF_flip 46 = .ok (.getfield 14, 3) := by decide +kernel
theorem dXF_flip_49 : decode cXF_flip 49 = .ok (.iload_n 1, 1) := by decide +kernel
theorem dXF_flip_50 : decode cXF_flip 50 = .ok (.iload_n 2, 1) := by decide +kernel
theorem dXF_flip_51 : decode cXF_flip 51 = .ok (.invokevirtual 56, 3) := by decide +kernel
theorem dXF_flip_54 : decode cXF_flip 54 = .ok (.ireturn, 1) := by decide +kernel
theorem dXF_contains_0 : decode cXF_contains 0 = .ok (.iload_n 0, 1) := by decide +kernel
theorem dXF_contains_1 : decode cXF_contains 1 = .ok (.iload_n 1, 1) := by decide +kernel
theorem dXF_contains_2 : decode cXF_contains 2 = .ok (.ishr, 1) := by decide +kernel
theorem dXF_contains_3 : decode cXF_contains 3 = .ok (.iconst 1, 1) := by decide +kernel
theorem dXF_contains_4 : decode cXF_contains 4 = .ok (.iand, 1) := by decide +kernel
theorem dXF_contains_5 : decode cXF_contains 5 = .ok (.ifCond .eq 7, 3) := by decide +kernel
theorem dXF_contains_8 : decode cXF_contains 8 = .ok (.iconst 1, 1) := by decide +kernel
theorem dXF_contains_9 : decode cXF_contains 9 = .ok (.goto 4, 3) := by decide +kernel
theorem dXF_contains_12 : decode cXF_contains 12 = .ok (.iconst 0, 1) := by decide +kernel
theorem dXF_contains_13 : decode cXF_contains 13 = .ok (.ireturn, 1) := by decide +kernel
theorem dXF_neighbours_0 : decode cXF_neighbours 0 = .ok (.aload_n 0, 1) := by decide +kernel
theorem dXF_neighbours_1 : decode cXF_neighbours 1 = .ok (.getfield 14, 3) := by decide +kernel
theorem dXF_neighbours_4 : decode cXF_neighbours 4 = .ok (.iload_n 1, 1) := by decide +kernel
theorem dXF_neighbours_5 : decode cXF_neighbours 5 = .ok (.invokevirtual 45, 3) := by decide +kernel
theorem dXF_neighbours_8 : decode cXF_neighbours 8 = .ok (.ifCond .eq 30, 3) := by decide +kernel
theorem dXF_neighbours_11 : decode cXF_neighbours 11 = .ok (.aload_n 0, 1) := by decide +kernel
theorem dXF_neighbours_12 : decode cXF_neighbours 12 = .ok (.getfield 14, 3) := by decide +kernel
theorem dXF_neighbours_15 : decode cXF_neighbours 15 = .ok (.iload_n 2, 1) := by decide +kernel
theorem dXF_neighbours_16 : decode cXF_neighbours 16 = .ok (.invokevirtual 45, 3) := by decide +kernel
theorem dXF_neighbours_19 : decode cXF_neighbours 19 = .ok (.ifCond .eq 19, 3) := by decide +kernel
theorem dXF_neighbours_22 : decode cXF_neighbours 22 = .ok (.aload_n 0, 1) := by decide +kernel
theorem dXF_neighbours_23 : decode cXF_neighbours 23 = .ok (.getfield 14, 3) := by decide +kernel
theorem dXF_neighbours_26 : decode cXF_neighbours 26 = .ok (.iload_n 1, 1) := by decide +kernel
theorem dXF_neighbours_27 : decode cXF_neighbours 27 = .ok (.iload_n 2, 1) := by decide +kernel
theorem dXF_neighbours_28 : decode cXF_neighbours 28 = .ok (.invokevirtual 56, 3) := by decide +kernel
theorem dXF_neighbours_31 : decode cXF_neighbours 31 = .ok (.ifCond .eq 7, 3) := by decide +kernel
theorem dXF_neighbours_34 : decode cXF_neighbours 34 = .ok (.iconst 1, 1) := by decide +kernel
theorem dXF_neighbours_35 : decode cXF_neighbours 35 = .ok (.goto 4, 3) := by decide +kernel
theorem dXF_neighbours_38 : decode cXF_neighbours 38 = .ok (.iconst 0, 1) := by decide +kernel
theorem dXF_neighbours_39 : decode cXF_neighbours 39 = .ok (.ireturn, 1) := by decide +kernel
theorem dXF_component_0 : decode cXF_component 0 = .ok (.aload_n 0, 1) := by decide +kernel
theorem dXF_component_1 : decode cXF_component 1 = .ok (.getfield 14, 3) := by decide +kernel
theorem dXF_component_4 : decode cXF_component 4 = .ok (.iload_n 1, 1) := by decide +kernel
theorem dXF_component_5 : decode cXF_component 5 = .ok (.invokevirtual 45, 3) := by decide +kernel
theorem dXF_component_8 : decode cXF_component 8 = .ok (.ifCond .eq 11, 3) := by decide +kernel
theorem dXF_component_11 : decode cXF_component 11 = .ok (.aload_n 0, 1) := by decide +kernel
theorem dXF_component_12 : decode cXF_component 12 = .ok (.iload_n 1, 1) := by decide +kernel
theorem dXF_component_13 : decode cXF_component 13 = .ok (.invokevirtual 60, 3) := by decide +kernel
theorem dXF_component_16 : decode cXF_component 16 = .ok (.goto 4, 3) := by decide +kernel
theorem dXF_component_19 : decode cXF_component 19 = .ok (.iconst 0, 1) := by decide +kernel
theorem dXF_component_20 : decode cXF_component 20 = .ok (.ireturn, 1) := by decide +kernel
theorem dXF_componentOf_0 : decode cXF_componentOf 0 = .ok (.aload_n 0, 1) := by decide +kernel
theorem dXF_componentOf_1 : decode cXF_componentOf 1 = .ok (.getfield 14, 3) := by decide +kernel
theorem dXF_componentOf_4 : decode cXF_componentOf 4 = .ok (.iload_n 1, 1) := by decide +kernel
theorem dXF_componentOf_5 : decode cXF_componentOf 5 = .ok (.aload_n 0, 1) := by decide +kernel
theorem dXF_componentOf_6 : decode cXF_componentOf 6 = .ok (.getfield 14, 3) := by decide +kernel
theorem dXF_componentOf_9 : decode cXF_componentOf 9 = .ok (.invokevirtual 128, 3) := by decide +kernel
theorem dXF_componentOf_12 : decode cXF_componentOf 12 = .ok (.invokevirtual 131, 3) := by decide +kernel
theorem dXF_componentOf_15 : decode cXF_componentOf 15 = .ok (.ireturn, 1) := by decide +kernel
theorem dXF_splits_0 : decode cXF_splits 0 = .ok (.aload_n 0, 1) := by decide +kernel
theorem dXF_splits_1 : decode cXF_splits 1 = .ok (.getfield 14, 3) := by decide +kernel
theorem dXF_splits_4 : decode cXF_splits 4 = .ok (.iload_n 1, 1) := by decide +kernel
theorem dXF_splits_5 : decode cXF_splits 5 = .ok (.invokevirtual 45, 3) := by decide +kernel
theorem dXF_splits_8 : decode cXF_splits 8 = .ok (.ifCond .eq 14, 3) := by decide +kernel
theorem dXF_splits_11 : decode cXF_splits 11 = .ok (.aload_n 0, 1) := by decide +kernel
theorem dXF_splits_12 : decode cXF_splits 12 = .ok (.iload_n 1, 1) := by decide +kernel
theorem dXF_splits_13 : decode cXF_splits 13 = .ok (.invokevirtual 64, 3) := by decide +kernel
theorem dXF_splits_16 : decode cXF_splits 16 = .ok (.invokevirtual 68, 3) := by decide +kernel
theorem dXF_splits_19 : decode cXF_splits 19 = .ok (.goto 4, 3) := by decide +kernel
theorem dXF_splits_22 : decode cXF_splits 22 = .ok (.iconst (-1), 1) := by decide +kernel
theorem dXF_splits_23 : decode cXF_splits 23 = .ok (.ireturn, 1) := by decide +kernel
theorem dXF_treeOf_0 : decode cXF_treeOf 0 = .ok (.aload_n 0, 1) := by decide +kernel
theorem dXF_treeOf_1 : decode cXF_treeOf 1 = .ok (.getfield 23, 3) := by decide +kernel
theorem dXF_treeOf_4 : decode cXF_treeOf 4 = .ok (.aload_n 0, 1) := by decide +kernel
theorem dXF_treeOf_5 : decode cXF_treeOf 5 = .ok (.iload_n 1, 1) := by decide +kernel
theorem dXF_treeOf_6 : decode cXF_treeOf 6 = .ok (.invokevirtual 60, 3) := by decide +kernel
theorem dXF_treeOf_9 : decode cXF_treeOf 9 = .ok (.invokevirtual 134, 3) := by decide +kernel
theorem dXF_treeOf_12 : decode cXF_treeOf 12 = .ok (.aload_n 0, 1) := by decide +kernel
theorem dXF_treeOf_13 : decode cXF_treeOf 13 = .ok (.getfield 23, 3) := by decide +kernel
theorem dXF_treeOf_16 : decode cXF_treeOf 16 = .ok (.areturn, 1) := by decide +kernel
theorem dXF_strong_0 : decode cXF_strong 0 = .ok (.aload_n 0, 1) := by decide +kernel
theorem dXF_strong_1 : decode cXF_strong 1 = .ok (.getfield 14, 3) := by decide +kernel
theorem dXF_strong_4 : decode cXF_strong 4 = .ok (.iload_n 1, 1) := by decide +kernel
theorem dXF_strong_5 : decode cXF_strong 5 = .ok (.invokevirtual 45, 3) := by decide +kernel
theorem dXF_strong_8 : decode cXF_strong 8 = .ok (.ifCond .eq 16, 3) := by decide +kernel
theorem dXF_strong_11 : decode cXF_strong 11 = .ok (.aload_n 0, 1) := by decide +kernel
theorem dXF_strong_12 : decode cXF_strong 12 = .ok (.iload_n 1, 1) := by decide +kernel
theorem dXF_strong_13 : decode cXF_strong 13 = .ok (.invokevirtual 64, 3) := by decide +kernel
theorem dXF_strong_16 : decode cXF_strong 16 = .ok (.invokevirtual 71, 3) := by decide +kernel
theorem dXF_strong_19 : decode cXF_strong 19 = .ok (.iconst 1, 1) := by decide +kernel
theorem dXF_strong_20 : decode cXF_strong 20 = .ok (.isub, 1) := by decide +kernel
theorem dXF_strong_21 : decode cXF_strong 21 = .ok (.goto 4, 3) := by decide +kernel
theorem dXF_strong_24 : decode cXF_strong 24 = .ok (.iconst (-1), 1) := by decide +kernel
theorem dXF_strong_25 : decode cXF_strong 25 = .ok (.ireturn, 1) := by decide +kernel
theorem dXF_set_0 : decode cXF_set 0 = .ok (.aload_n 0, 1) := by decide +kernel
theorem dXF_set_1 : decode cXF_set 1 = .ok (.iload_n 1, 1) := by decide +kernel
theorem dXF_set_2 : decode cXF_set 2 = .ok (.iload_n 2, 1) := by decide +kernel
theorem dXF_set_3 : decode cXF_set 3 = .ok (.invokevirtual 74, 3) := by decide +kernel
theorem dXF_set_6 : decode cXF_set 6 = .ok (.ifCond .eq 14, 3) := by decide +kernel
theorem dXF_set_9 : decode cXF_set 9 = .ok (.aload_n 0, 1) := by decide +kernel
theorem dXF_set_10 : decode cXF_set 10 = .ok (.getfield 23, 3) := by decide +kernel
theorem dXF_set_13 : decode cXF_set 13 = .ok (.iload_n 2, 1) := by decide +kernel
theorem dXF_set_14 : decode cXF_set 14 = .ok (.invokevirtual 77, 3) := by decide +kernel
theorem dXF_set_17 : decode cXF_set 17 = .ok (.goto 4, 3) := by decide +kernel
theorem dXF_set_20 : decode cXF_set 20 = .ok (.iconst (-1), 1) := by decide +kernel
theorem dXF_set_21 : decode cXF_set 21 = .ok (.ireturn, 1) := by decide +kernel
theorem dXF_hasNode_0 : decode cXF_hasNode 0 = .ok (.aload_n 0, 1) := by decide +kernel
theorem dXF_hasNode_1 : decode cXF_hasNode 1 = .ok (.getfield 14, 3) := by decide +kernel
theorem dXF_hasNode_4 : decode cXF_hasNode 4 = .ok (.iload_n 1, 1) := by decide +kernel
theorem dXF_hasNode_5 : decode cXF_hasNode 5 = .ok (.invokevirtual 45, 3) := by decide +kernel
theorem dXF_hasNode_8 : decode cXF_hasNode 8 = .ok (.ifCond .eq 23, 3) := by decide +kernel
theorem dXF_hasNode_11 : decode cXF_hasNode 11 = .ok (.iload_n 2, 1) := by decide +kernel
theorem dXF_hasNode_12 : decode cXF_hasNode 12 = .ok (.ifCond .lt 19, 3) := by decide +kernel
theorem dXF_hasNode_15 : decode cXF_hasNode 15 = .ok (.iload_n 2, 1) := by decide +kernel
theorem dXF_hasNode_16 : decode cXF_hasNode 16 = .ok (.aload_n 0, 1) := by decide +kernel
theorem dXF_hasNode_17 : decode cXF_hasNode 17 = .ok (.iload_n 1, 1) := by decide +kernel
theorem dXF_hasNode_18 : decode cXF_hasNode 18 = .ok (.invokevirtual 64, 3) := by decide +kernel
theorem dXF_hasNode_21 : decode cXF_hasNode 21 = .ok (.invokevirtual 71, 3) := by decide +kernel
theorem dXF_hasNode_24 : decode cXF_hasNode 24 = .ok (.if_icmp .ge 7, 3) := by decide +kernel
theorem dXF_hasNode_27 : decode cXF_hasNode 27 = .ok (.iconst 1, 1) := by decide +kernel
theorem dXF_hasNode_28 : decode cXF_hasNode 28 = .ok (.goto 4, 3) := by decide +kernel
theorem dXF_hasNode_31 : decode cXF_hasNode 31 = .ok (.iconst 0, 1) := by decide +kernel
theorem dXF_hasNode_32 : decode cXF_hasNode 32 = .ok (.ireturn, 1) := by decide +kernel
theorem dXF_kind_0 : decode cXF_kind 0 = .ok (.aload_n 0, 1) := by decide +kernel
theorem dXF_kind_1 : decode cXF_kind 1 = .ok (.iload_n 1, 1) := by decide +kernel
theorem dXF_kind_2 : decode cXF_kind 2 = .ok (.iload_n 2, 1) := by decide +kernel
theorem dXF_kind_3 : decode cXF_kind 3 = .ok (.invokevirtual 74, 3) := by decide +kernel
theorem dXF_kind_6 : decode cXF_kind 6 = .ok (.ifCond .eq 14, 3) := by decide +kernel
theorem dXF_kind_9 : decode cXF_kind 9 = .ok (.aload_n 0, 1) := by decide +kernel
theorem dXF_kind_10 : decode cXF_kind 10 = .ok (.getfield 23, 3) := by decide +kernel
theorem dXF_kind_13 : decode cXF_kind 13 = .ok (.iload_n 2, 1) := by decide +kernel
theorem dXF_kind_14 : decode cXF_kind 14 = .ok (.invokevirtual 80, 3) := by decide +kernel
theorem dXF_kind_17 : decode cXF_kind 17 = .ok (.goto 4, 3) := by decide +kernel
theorem dXF_kind_20 : decode cXF_kind 20 = .ok (.iconst (-1), 1) := by decide +kernel
theorem dXF_kind_21 : decode cXF_kind 21 = .ok (.ireturn, 1) := by decide +kernel
theorem dXF_parts_0 : decode cXF_parts 0 = .ok (.aload_n 0, 1) := by decide +kernel
theorem dXF_parts_1 : decode cXF_parts 1 = .ok (.iload_n 1, 1) := by decide +kernel
theorem dXF_parts_2 : decode cXF_parts 2 = .ok (.iload_n 2, 1) := by decide +kernel
theorem dXF_parts_3 : decode cXF_parts 3 = .ok (.invokevirtual 74, 3) := by decide +kernel
theorem dXF_parts_6 : decode cXF_parts 6 = .ok (.ifCond .eq 14, 3) := by decide +kernel
theorem dXF_parts_9 : decode cXF_parts 9 = .ok (.aload_n 0, 1) := by decide +kernel
theorem dXF_parts_10 : decode cXF_parts 10 = .ok (.getfield 23, 3) := by decide +kernel
theorem dXF_parts_13 : decode cXF_parts 13 = .ok (.iload_n 2, 1) := by decide +kernel
theorem dXF_parts_14 : decode cXF_parts 14 = .ok (.invokevirtual 83, 3) := by decide +kernel
theorem dXF_parts_17 : decode cXF_parts 17 = .ok (.goto 4, 3) := by decide +kernel
theorem dXF_parts_20 : decode cXF_parts 20 = .ok (.iconst (-1), 1) := by decide +kernel
theorem dXF_parts_21 : decode cXF_parts 21 = .ok (.ireturn, 1) := by decide +kernel
theorem dXF_part_0 : decode cXF_part 0 = .ok (.aload_n 0, 1) := by decide +kernel
theorem dXF_part_1 : decode cXF_part 1 = .ok (.iload_n 1, 1) := by decide +kernel
theorem dXF_part_2 : decode cXF_part 2 = .ok (.iload_n 2, 1) := by decide +kernel
theorem dXF_part_3 : decode cXF_part 3 = .ok (.invokevirtual 74, 3) := by decide +kernel
theorem dXF_part_6 : decode cXF_part 6 = .ok (.ifCond .eq 15, 3) := by decide +kernel
theorem dXF_part_9 : decode cXF_part 9 = .ok (.aload_n 0, 1) := by decide +kernel
theorem dXF_part_10 : decode cXF_part 10 = .ok (.getfield 23, 3) := by decide +kernel
theorem dXF_part_13 : decode cXF_part 13 = .ok (.iload_n 2, 1) := by decide +kernel
theorem dXF_part_14 : decode cXF_part 14 = .ok (.iload_n 3, 1) := by decide +kernel
theorem dXF_part_15 : decode cXF_part 15 = .ok (.invokevirtual 86, 3) := by decide +kernel
theorem dXF_part_18 : decode cXF_part 18 = .ok (.goto 4, 3) := by decide +kernel
theorem dXF_part_21 : decode cXF_part 21 = .ok (.iconst (-1), 1) := by decide +kernel
theorem dXF_part_22 : decode cXF_part 22 = .ok (.ireturn, 1) := by decide +kernel
theorem dXF_centre_0 : decode cXF_centre 0 = .ok (.aload_n 0, 1) := by decide +kernel
theorem dXF_centre_1 : decode cXF_centre 1 = .ok (.iload_n 1, 1) := by decide +kernel
theorem dXF_centre_2 : decode cXF_centre 2 = .ok (.iload_n 2, 1) := by decide +kernel
theorem dXF_centre_3 : decode cXF_centre 3 = .ok (.invokevirtual 74, 3) := by decide +kernel
theorem dXF_centre_6 : decode cXF_centre 6 = .ok (.ifCond .eq 14, 3) := by decide +kernel
theorem dXF_centre_9 : decode cXF_centre 9 = .ok (.aload_n 0, 1) := by decide +kernel
theorem dXF_centre_10 : decode cXF_centre 10 = .ok (.getfield 23, 3) := by decide +kernel
theorem dXF_centre_13 : decode cXF_centre 13 = .ok (.iload_n 2, 1) := by decide +kernel
theorem dXF_centre_14 : decode cXF_centre 14 = .ok (.invokevirtual 90, 3) := by decide +kernel
theorem dXF_centre_17 : decode cXF_centre 17 = .ok (.goto 4, 3) := by decide +kernel
theorem dXF_centre_20 : decode cXF_centre 20 = .ok (.iconst (-1), 1) := by decide +kernel
theorem dXF_centre_21 : decode cXF_centre 21 = .ok (.ireturn, 1) := by decide +kernel
theorem dXF_linked_0 : decode cXF_linked 0 = .ok (.aload_n 0, 1) := by decide +kernel
theorem dXF_linked_1 : decode cXF_linked 1 = .ok (.getfield 14, 3) := by decide +kernel
theorem dXF_linked_4 : decode cXF_linked 4 = .ok (.iload_n 1, 1) := by decide +kernel
theorem dXF_linked_5 : decode cXF_linked 5 = .ok (.invokevirtual 45, 3) := by decide +kernel
theorem dXF_linked_8 : decode cXF_linked 8 = .ok (.ifCond .eq 19, 3) := by decide +kernel
theorem dXF_linked_11 : decode cXF_linked 11 = .ok (.aload_n 0, 1) := by decide +kernel
theorem dXF_linked_12 : decode cXF_linked 12 = .ok (.getfield 14, 3) := by decide +kernel
theorem dXF_linked_15 : decode cXF_linked 15 = .ok (.iload_n 2, 1) := by decide +kernel
theorem dXF_linked_16 : decode cXF_linked 16 = .ok (.invokevirtual 45, 3) := by decide +kernel
theorem dXF_linked_19 : decode cXF_linked 19 = .ok (.ifCond .eq 8, 3) := by decide +kernel
theorem dXF_linked_22 : decode cXF_linked 22 = .ok (.iload_n 1, 1) := by decide +kernel
theorem dXF_linked_23 : decode cXF_linked 23 = .ok (.iload_n 2, 1) := by decide +kernel
theorem dXF_linked_24 : decode cXF_linked 24 = .ok (.if_icmp .ne 5, 3) := by decide +kernel
theorem dXF_linked_27 : decode cXF_linked 27 = .ok (.iconst 0, 1) := by decide +kernel
theorem dXF_linked_28 : decode cXF_linked 28 = .ok (.ireturn, 1) := by decide +kernel
theorem dXF_linked_29 : decode cXF_linked 29 = .ok (.aload_n 0, 1) := by decide +kernel
theorem dXF_linked_30 : decode cXF_linked 30 = .ok (.iload_n 1, 1) := by decide +kernel
theorem dXF_linked_31 : decode cXF_linked 31 = .ok (.invokevirtual 60, 3) := by decide +kernel
theorem dXF_linked_34 : decode cXF_linked 34 = .ok (.iload_n 2, 1) := by decide +kernel
theorem dXF_linked_35 : decode cXF_linked 35 = .ok (.invokestatic 93, 3) := by decide +kernel
theorem dXF_linked_38 : decode cXF_linked 38 = .ok (.ifCond .eq 20, 3) := by decide +kernel
theorem dXF_linked_41 : decode cXF_linked 41 = .ok (.aload_n 0, 1) := by decide +kernel
theorem dXF_linked_42 : decode cXF_linked 42 = .ok (.iload_n 1, 1) := by decide +kernel
theorem dXF_linked_43 : decode cXF_linked 43 = .ok (.invokevirtual 64, 3) := by decide +kernel
theorem dXF_linked_46 : decode cXF_linked 46 = .ok (.iload_n 1, 1) := by decide +kernel
theorem dXF_linked_47 : decode cXF_linked 47 = .ok (.iload_n 2, 1) := by decide +kernel
theorem dXF_linked_48 : decode cXF_linked 48 = .ok (.invokevirtual 96, 3) := by decide +kernel
theorem dXF_linked_51 : decode cXF_linked 51 = .ok (.ifCond .eq 7, 3) := by decide +kernel
theorem dXF_linked_54 : decode cXF_linked 54 = .ok (.iconst 1, 1) := by decide +kernel
theorem dXF_linked_55 : decode cXF_linked 55 = .ok (.goto 4, 3) := by decide +kernel
theorem dXF_linked_58 : decode cXF_linked 58 = .ok (.iconst 0, 1) := by decide +kernel
theorem dXF_linked_59 : decode cXF_linked 59 = .ok (.ireturn, 1) := by decide +kernel
theorem dXF_hereditary_0 : decode cXF_hereditary 0 = .ok (.aload_n 0, 1) := by decide +kernel
theorem dXF_hereditary_1 : decode cXF_hereditary 1 = .ok (.getfield 14, 3) := by decide +kernel
theorem dXF_hereditary_4 : decode cXF_hereditary 4 = .ok (.iload_n 1, 1) := by decide +kernel
theorem dXF_hereditary_5 : decode cXF_hereditary 5 = .ok (.invokevirtual 45, 3) := by decide +kernel
theorem dXF_hereditary_8 : decode cXF_hereditary 8 = .ok (.ifCond .eq 22, 3) := by decide +kernel
theorem dXF_hereditary_11 : decode cXF_hereditary 11 = .ok (.aload_n 0, 1) := by decide +kernel
theorem dXF_hereditary_12 : decode cXF_hereditary 12 = .ok (.getfield 30, 3) := by decide +kernel
theorem dXF_hereditary_15 : decode cXF_hereditary 15 = .ok (.aload_n 0, 1) := by decide +kernel
theorem dXF_hereditary_16 : decode cXF_hereditary 16 = .ok (.iload_n 1, 1) := by decide +kernel
theorem dXF_hereditary_17 : decode cXF_hereditary 17 = .ok (.invokevirtual 60, 3) := by decide +kernel
theorem dXF_hereditary_20 : decode cXF_hereditary 20 = .ok (.invokevirtual 99, 3) := by decide +kernel
theorem dXF_hereditary_23 : decode cXF_hereditary 23 = .ok (.ifCond .eq 7, 3) := by decide +kernel
theorem dXF_hereditary_26 : decode cXF_hereditary 26 = .ok (.iconst 1, 1) := by decide +kernel
theorem dXF_hereditary_27 : decode cXF_hereditary 27 = .ok (.goto 4, 3) := by decide +kernel
theorem dXF_hereditary_30 : decode cXF_hereditary 30 = .ok (.iconst 0, 1) := by decide +kernel
theorem dXF_hereditary_31 : decode cXF_hereditary 31 = .ok (.ireturn, 1) := by decide +kernel
theorem dXF_step_0 : decode cXF_step 0 = .ok (.aload_n 0, 1) := by decide +kernel
theorem dXF_step_1 : decode cXF_step 1 = .ok (.getfield 14, 3) := by decide +kernel
theorem dXF_step_4 : decode cXF_step 4 = .ok (.iload_n 1, 1) := by decide +kernel
theorem dXF_step_5 : decode cXF_step 5 = .ok (.invokevirtual 45, 3) := by decide +kernel
theorem dXF_step_8 : decode cXF_step 8 = .ok (.ifCond .eq 19, 3) := by decide +kernel
theorem dXF_step_11 : decode cXF_step 11 = .ok (.aload_n 0, 1) := by decide +kernel
theorem dXF_step_12 : decode cXF_step 12 = .ok (.getfield 30, 3) := by decide +kernel
theorem dXF_step_15 : decode cXF_step 15 = .ok (.aload_n 0, 1) := by decide +kernel
theorem dXF_step_16 : decode cXF_step 16 = .ok (.iload_n 1, 1) := by decide +kernel
theorem dXF_step_17 : decode cXF_step 17 = .ok (.invokevirtual 60, 3) := by decide +kernel
theorem dXF_step_20 : decode cXF_step 20 = .ok (.iload_n 2, 1) := by decide +kernel
theorem dXF_step_21 : decode cXF_step 21 = .ok (.invokevirtual 102, 3) := by decide +kernel
theorem dXF_step_24 : decode cXF_step 24 = .ok (.goto 4, 3) := by decide +kernel
theorem dXF_step_27 : decode cXF_step 27 = .ok (.iconst (-1), 1) := by decide +kernel
theorem dXF_step_28 : decode cXF_step 28 = .ok (.ireturn, 1) := by decide +kernel
theorem dXF_obstruction_0 : decode cXF_obstruction 0 = .ok (.aload_n 0, 1) := by decide +kernel
theorem dXF_obstruction_1 : decode cXF_obstruction 1 = .ok (.getfield 14, 3) := by decide +kernel
theorem dXF_obstruction_4 : decode cXF_obstruction 4 = .ok (.iload_n 1, 1) := by decide +kernel
theorem dXF_obstruction_5 : decode cXF_obstruction 5 = .ok (.invokevirtual 45, 3) := by decide +kernel
theorem dXF_obstruction_8 : decode cXF_obstruction 8 = .ok (.ifCond .eq 18, 3) := by decide +kernel
theorem dXF_obstruction_11 : decode cXF_obstruction 11 = .ok (.aload_n 0, 1) := by decide +kernel
theorem dXF_obstruction_12 : decode cXF_obstruction 12 = .ok (.getfield 30, 3) := by decide +kernel
theorem dXF_obstruction_15 : decode cXF_obstruction 15 = .ok (.aload_n 0, 1) := by decide +kernel
theorem dXF_obstruction_16 : decode cXF_obstruction 16 = .ok (.iload_n 1, 1) := by decide +kernel
theorem dXF_obstruction_17 : decode cXF_obstruction 17 = .ok (.invokevirtual 60, 3) := by decide +kernel
theorem dXF_obstruction_20 : decode cXF_obstruction 20 = .ok (.invokevirtual 105, 3) := by decide +kernel
theorem dXF_obstruction_23 : decode cXF_obstruction 23 = .ok (.goto 4, 3) := by decide +kernel
theorem dXF_obstruction_26 : decode cXF_obstruction 26 = .ok (.iconst (-1), 1) := by decide +kernel
theorem dXF_obstruction_27 : decode cXF_obstruction 27 = .ok (.ireturn, 1) := by decide +kernel
theorem dXF_obstacle_0 : decode cXF_obstacle 0 = .ok (.aload_n 0, 1) := by decide +kernel
theorem dXF_obstacle_1 : decode cXF_obstacle 1 = .ok (.getfield 14, 3) := by decide +kernel
theorem dXF_obstacle_4 : decode cXF_obstacle 4 = .ok (.iload_n 1, 1) := by decide +kernel
theorem dXF_obstacle_5 : decode cXF_obstacle 5 = .ok (.invokevirtual 45, 3) := by decide +kernel
theorem dXF_obstacle_8 : decode cXF_obstacle 8 = .ok (.ifCond .eq 18, 3) := by decide +kernel
theorem dXF_obstacle_11 : decode cXF_obstacle 11 = .ok (.aload_n 0, 1) := by decide +kernel
theorem dXF_obstacle_12 : decode cXF_obstacle 12 = .ok (.getfield 30, 3) := by decide +kernel
theorem dXF_obstacle_15 : decode cXF_obstacle 15 = .ok (.aload_n 0, 1) := by decide +kernel
theorem dXF_obstacle_16 : decode cXF_obstacle 16 = .ok (.iload_n 1, 1) := by decide +kernel
theorem dXF_obstacle_17 : decode cXF_obstacle 17 = .ok (.invokevirtual 60, 3) := by decide +kernel
theorem dXF_obstacle_20 : decode cXF_obstacle 20 = .ok (.invokevirtual 105, 3) := by decide +kernel
theorem dXF_obstacle_23 : decode cXF_obstacle 23 = .ok (.goto 4, 3) := by decide +kernel
theorem dXF_obstacle_26 : decode cXF_obstacle 26 = .ok (.iconst (-1), 1) := by decide +kernel
theorem dXF_obstacle_27 : decode cXF_obstacle 27 = .ok (.istore_n 2, 1) := by decide +kernel
theorem dXF_obstacle_28 : decode cXF_obstacle 28 = .ok (.iload_n 2, 1) := by decide +kernel
theorem dXF_obstacle_29 : decode cXF_obstacle 29 = .ok (.iconst (-1), 1) := by decide +kernel
theorem dXF_obstacle_30 : decode cXF_obstacle 30 = .ok (.if_icmp .ne 7, 3) := by decide +kernel
theorem dXF_obstacle_33 : decode cXF_obstacle 33 = .ok (.iconst (-1), 1) := by decide +kernel
theorem dXF_obstacle_34 : decode cXF_obstacle 34 = .ok (.goto 18, 3) := by decide +kernel
theorem dXF_obstacle_37 : decode cXF_obstacle 37 = .ok (.iload_n 2, 1) := by decide +kernel
theorem dXF_obstacle_38 : decode cXF_obstacle 38 = .ok (.invokestatic 108, 3) := by decide +kernel
theorem dXF_obstacle_41 : decode cXF_obstacle 41 = .ok (.aload_n 0, 1) := by decide +kernel
theorem dXF_obstacle_42 : decode cXF_obstacle 42 = .ok (.getfield 14, 3) := by decide +kernel
theorem dXF_obstacle_45 : decode cXF_obstacle 45 = .ok (.iload_n 2, 1) := by decide +kernel
theorem dXF_obstacle_46 : decode cXF_obstacle 46 = .ok (.invokevirtual 113, 3) := by decide +kernel
theorem dXF_obstacle_49 : decode cXF_obstacle 49 = .ok (.invokestatic 116, 3) := by decide +kernel
theorem dXF_obstacle_52 : decode cXF_obstacle 52 = .ok (.ireturn, 1) := by decide +kernel
theorem dXF_obstacleKind_0 : decode cXF_obstacleKind 0 = .ok (.iload_n 1, 1) := by decide +kernel
theorem dXF_obstacleKind_1 : decode cXF_obstacleKind 1 = .ok (.iload_n 0, 1) := by decide +kernel
theorem dXF_obstacleKind_2 : decode cXF_obstacleKind 2 = .ok (.if_icmp .ne 5, 3) := by decide +kernel
theorem dXF_obstacleKind_5 : decode cXF_obstacleKind 5 = .ok (.iconst 1, 1) := by decide +kernel
theorem dXF_obstacleKind_6 : decode cXF_obstacleKind 6 = .ok (.ireturn, 1) := by decide +kernel
theorem dXF_obstacleKind_7 : decode cXF_obstacleKind 7 = .ok (.iload_n 0, 1) := by decide +kernel
theorem dXF_obstacleKind_8 : decode cXF_obstacleKind 8 = .ok (.bipush 6, 2) := by decide +kernel
theorem dXF_obstacleKind_10 : decode cXF_obstacleKind 10 = .ok (.if_icmp .ne 5, 3) := by decide +kernel
theorem dXF_obstacleKind_13 : decode cXF_obstacleKind 13 = .ok (.iconst 4, 1) := by decide +kernel
theorem dXF_obstacleKind_14 : decode cXF_obstacleKind 14 = .ok (.ireturn, 1) := by decide +kernel
theorem dXF_obstacleKind_15 : decode cXF_obstacleKind 15 = .ok (.iload_n 1, 1) := by decide +kernel
theorem dXF_obstacleKind_16 : decode cXF_obstacleKind 16 = .ok (.bipush 6, 2) := by decide +kernel
theorem dXF_obstacleKind_18 : decode cXF_obstacleKind 18 = .ok (.if_icmp .ne 7, 3) := by decide +kernel
theorem dXF_obstacleKind_21 : decode cXF_obstacleKind 21 = .ok (.iconst 2, 1) := by decide +kernel
theorem dXF_obstacleKind_22 : decode cXF_obstacleKind 22 = .ok (.goto 4, 3) := by decide +kernel
theorem dXF_obstacleKind_25 : decode cXF_obstacleKind 25 = .ok (.iconst 3, 1) := by decide +kernel
theorem dXF_obstacleKind_26 : decode cXF_obstacleKind 26 = .ok (.ireturn, 1) := by decide +kernel
theorem dXF_apart_0 : decode cXF_apart 0 = .ok (.aload_n 0, 1) := by decide +kernel
theorem dXF_apart_1 : decode cXF_apart 1 = .ok (.iload_n 1, 1) := by decide +kernel
theorem dXF_apart_2 : decode cXF_apart 2 = .ok (.invokevirtual 119, 3) := by decide +kernel
theorem dXF_apart_5 : decode cXF_apart 5 = .ok (.ifCond .eq 21, 3) := by decide +kernel
theorem dXF_apart_8 : decode cXF_apart 8 = .ok (.aload_n 0, 1) := by decide +kernel
theorem dXF_apart_9 : decode cXF_apart 9 = .ok (.getfield 37, 3) := by decide +kernel
theorem dXF_apart_12 : decode cXF_apart 12 = .ok (.aload_n 0, 1) := by decide +kernel
theorem dXF_apart_13 : decode cXF_apart 13 = .ok (.iload_n 1, 1) := by decide +kernel
theorem dXF_apart_14 : decode cXF_apart 14 = .ok (.invokevirtual 60, 3) := by decide +kernel
theorem dXF_apart_17 : decode cXF_apart 17 = .ok (.invokevirtual 122, 3) := by decide +kernel
theorem dXF_apart_20 : decode cXF_apart 20 = .ok (.invokestatic 108, 3) := by decide +kernel
theorem dXF_apart_23 : decode cXF_apart 23 = .ok (.goto 4, 3) := by decide +kernel
theorem dXF_apart_26 : decode cXF_apart 26 = .ok (.iconst (-1), 1) := by decide +kernel
theorem dXF_apart_27 : decode cXF_apart 27 = .ok (.ireturn, 1) := by decide +kernel
theorem dXF_chosen_0 : decode cXF_chosen 0 = .ok (.aload_n 0, 1) := by decide +kernel
theorem dXF_chosen_1 : decode cXF_chosen 1 = .ok (.iload_n 1, 1) := by decide +kernel
theorem dXF_chosen_2 : decode cXF_chosen 2 = .ok (.invokevirtual 119, 3) := by decide +kernel
theorem dXF_chosen_5 : decode cXF_chosen 5 = .ok (.ifCond .eq 18, 3) := by decide +kernel
theorem dXF_chosen_8 : decode cXF_chosen 8 = .ok (.aload_n 0, 1) := by decide +kernel
theorem dXF_chosen_9 : decode cXF_chosen 9 = .ok (.getfield 37, 3) := by decide +kernel
theorem dXF_chosen_12 : decode cXF_chosen 12 = .ok (.aload_n 0, 1) := by decide +kernel
theorem dXF_chosen_13 : decode cXF_chosen 13 = .ok (.iload_n 1, 1) := by decide +kernel
theorem dXF_chosen_14 : decode cXF_chosen 14 = .ok (.invokevirtual 60, 3) := by decide +kernel
theorem dXF_chosen_17 : decode cXF_chosen 17 = .ok (.invokevirtual 122, 3) := by decide +kernel
theorem dXF_chosen_20 : decode cXF_chosen 20 = .ok (.goto 4, 3) := by decide +kernel
theorem dXF_chosen_23 : decode cXF_chosen 23 = .ok (.iconst (-1), 1) := by decide +kernel
theorem dXF_chosen_24 : decode cXF_chosen 24 = .ok (.ireturn, 1) := by decide +kernel
theorem dXF_cover_0 : decode cXF_cover 0 = .ok (.aload_n 0, 1) := by decide +kernel
theorem dXF_cover_1 : decode cXF_cover 1 = .ok (.iload_n 1, 1) := by decide +kernel
theorem dXF_cover_2 : decode cXF_cover 2 = .ok (.invokevirtual 119, 3) := by decide +kernel
theorem dXF_cover_5 : decode cXF_cover 5 = .ok (.ifCond .eq 18, 3) := by decide +kernel
theorem dXF_cover_8 : decode cXF_cover 8 = .ok (.aload_n 0, 1) := by decide +kernel
theorem dXF_cover_9 : decode cXF_cover 9 = .ok (.getfield 37, 3) := by decide +kernel
theorem dXF_cover_12 : decode cXF_cover 12 = .ok (.aload_n 0, 1) := by decide +kernel
theorem dXF_cover_13 : decode cXF_cover 13 = .ok (.iload_n 1, 1) := by decide +kernel
theorem dXF_cover_14 : decode cXF_cover 14 = .ok (.invokevirtual 60, 3) := by decide +kernel
theorem dXF_cover_17 : decode cXF_cover 17 = .ok (.invokevirtual 125, 3) := by decide +kernel
theorem dXF_cover_20 : decode cXF_cover 20 = .ok (.goto 4, 3) := by decide +kernel
theorem dXF_cover_23 : decode cXF_cover 23 = .ok (.iconst (-1), 1) := by decide +kernel
theorem dXF_cover_24 : decode cXF_cover 24 = .ok (.ireturn, 1) := by decide +kernel
