theorem dXC_init_0 : decode cXC_init 0 = .ok (.aload_n 0, 1) := by decide +kernel
theorem dXC_init_1 : decode cXC_init 1 = .ok (.invokespecial 1, 3) := by decide +kernel
theorem dXC_init_4 : decode cXC_init 4 = .ok (.aload_n 0, 1) := by decide +kernel
theorem dXC_init_5 : decode cXC_init 5 = .ok (.aload_n 1, 1) := by decide +kernel
theorem dXC_init_6 : decode cXC_init 6 = .ok (.putfield 7, 3) := by decide +kernel
theorem dXC_init_9 : decode cXC_init 9 = .ok (.aload_n 0, 1) := by decide +kernel
theorem dXC_init_10 : decode cXC_init 10 = .ok (.iconst 1, 1) := by decide +kernel
theorem dXC_init_11 : decode cXC_init 11 = .ok (.aload_n 1, 1) := by decide +kernel
theorem dXC_init_12 : decode cXC_init 12 = .ok (.invokevirtual 13, 3) := by decide +kernel
theorem dXC_init_15 : decode cXC_init 15 = .ok (.ishl, 1) := by decide +kernel
theorem dXC_init_16 : decode cXC_init 16 = .ok (.newarray .int, 2) := by decide +kernel
theorem dXC_init_18 : decode cXC_init 18 = .ok (.putfield 19, 3) := by decide +kernel
theorem dXC_init_21 : decode cXC_init 21 = .ok (.return_, 1) := by decide +kernel
theorem dXC_largestApart_0 : decode cXC_largestApart 0 = .ok (.iconst 0, 1) := by decide +kernel
theorem dXC_largestApart_1 : decode cXC_largestApart 1 = .ok (.istore_n 2, 1) := by decide +kernel
theorem dXC_largestApart_2 : decode cXC_largestApart 2 = .ok (.iconst 1, 1) := by decide +kernel
theorem dXC_largestApart_3 : decode cXC_largestApart 3 = .ok (.istore_n 3, 1) := by decide +kernel
theorem dXC_largestApart_4 : decode cXC_largestApart 4 = .ok (.iload_n 3, 1) := by decide +kernel
theorem dXC_largestApart_5 : decode cXC_largestApart 5 = .ok (.iload_n 1, 1) := by decide +kernel
theorem dXC_largestApart_6 : decode cXC_largestApart 6 = .ok (.if_icmp .gt 42, 3) := by decide +kernel
theorem dXC_largestApart_9 : decode cXC_largestApart 9 = .ok (.iload_n 3, 1) := by decide +kernel
theorem dXC_largestApart_10 : decode cXC_largestApart 10 = .ok (.iload_n 1, 1) := by decide +kernel
theorem dXC_largestApart_11 : decode cXC_largestApart 11 = .ok (.iconst (-1), 1) := by decide +kernel
theorem dXC_largestApart_12 : decode cXC_largestApart 12 = .ok (.ixor, 1) := by decide +kernel
theorem dXC_largestApart_13 : decode cXC_largestApart 13 = .ok (.iand, 1) := by decide +kernel
theorem dXC_largestApart_14 : decode cXC_largestApart 14 = .ok (.ifCond .ne 28, 3) := by decide +kernel
theorem dXC_largestApart_17 : decode cXC_largestApart 17 = .ok (.iload_n 3, 1) := by decide +kernel
theorem dXC_largestApart_18 : decode cXC_largestApart 18 = .ok (.invokestatic 23, 3) := by decide +kernel
theorem dXC_largestApart_21 : decode cXC_largestApart 21 = .ok (.iload_n 2, 1) := by decide +kernel
theorem dXC_largestApart_22 : decode cXC_largestApart 22 = .ok (.invokestatic 23, 3) := by decide +kernel
theorem dXC_largestApart_25 : decode cXC_largestApart 25 = .ok (.if_icmp .le 17, 3) := by decide +kernel
theorem dXC_largestApart_28 : decode cXC_largestApart 28 = .ok (.aload_n 0, 1) := by decide +kernel
theorem dXC_largestApart_29 : decode cXC_largestApart 29 = .ok (.getfield 7, 3) := by decide +kernel
theorem dXC_largestApart_32 : decode cXC_largestApart 32 = .ok (.iload_n 3, 1) := by decide +kernel
theorem dXC_largestApart_33 : decode cXC_largestApart 33 = .ok (.iload_n 3, 1) := by decide +kernel
theorem dXC_largestApart_34 : decode cXC_largestApart 34 = .ok (.invokevirtual 29, 3) := by decide +kernel
theorem dXC_largestApart_37 : decode cXC_largestApart 37 = .ok (.ifCond .ne 5, 3) := by decide +kernel
theorem dXC_largestApart_40 : decode cXC_largestApart 40 = .ok (.iload_n 3, 1) := by decide +kernel
theorem dXC_largestApart_41 : decode cXC_largestApart 41 = .ok (.istore_n 2, 1) := by decide +kernel
theorem dXC_largestApart_42 : decode cXC_largestApart 42 = .ok (.iinc 3 1, 3) := by decide +kernel
theorem dXC_largestApart_45 : decode cXC_largestApart 45 = .ok (.goto (-41), 3) := by decide +kernel
theorem dXC_largestApart_48 : decode cXC_largestApart 48 = .ok (.iload_n 2, 1) := by decide +kernel
theorem dXC_largestApart_49 : decode cXC_largestApart 49 = .ok (.ireturn, 1) := by decide +kernel
theorem dXC_fewestCliques_0 : decode cXC_fewestCliques 0 = .ok (.iconst 0, 1) := by decide +kernel
theorem dXC_fewestCliques_1 : decode cXC_fewestCliques 1 = .ok (.istore_n 2, 1) := by decide +kernel
theorem dXC_fewestCliques_2 : decode cXC_fewestCliques 2 = .ok (.iconst 0, 1) := by decide +kernel
theorem dXC_fewestCliques_3 : decode cXC_fewestCliques 3 = .ok (.istore_n 3, 1) := by decide +kernel
theorem dXC_fewestCliques_4 : decode cXC_fewestCliques 4 = .ok (.iload_n 3, 1) := by decide +kernel
theorem dXC_fewestCliques_5 : decode cXC_fewestCliques 5 = .ok (.aload_n 0, 1) := by decide +kernel
theorem dXC_fewestCliques_6 : decode cXC_fewestCliques 6 = .ok (.getfield 7, 3) := by decide +kernel
theorem dXC_fewestCliques_9 : decode cXC_fewestCliques 9 = .ok (.invokevirtual 13, 3) := by decide +kernel
theorem dXC_fewestCliques_12 : decode cXC_fewestCliques 12 = .ok (.if_icmp .ge 29, 3) := by decide +kernel
theorem dXC_fewestCliques_15 : decode cXC_fewestCliques 15 = .ok (.iload_n 1, 1) := by decide +kernel
theorem dXC_fewestCliques_16 : decode cXC_fewestCliques 16 = .ok (.iload_n 3, 1) := by decide +kernel
theorem dXC_fewestCliques_17 : decode cXC_fewestCliques 17 = .ok (.invokestatic 33, 3) := by decide +kernel
theorem dXC_fewestCliques_20 : decode cXC_fewestCliques 20 = .ok (.ifCond .eq 15, 3) := by decide +kernel
theorem dXC_fewestCliques_23 : decode cXC_fewestCliques 23 = .ok (.aload_n 0, 1) := by decide +kernel
theorem dXC_fewestCliques_24 : decode cXC_fewestCliques 24 = .ok (.iload_n 3, 1) := by decide +kernel
theorem dXC_fewestCliques_25 : decode cXC_fewestCliques 25 = .ok (.iload_n 2, 1) := by decide +kernel
theorem dXC_fewestCliques_26 : decode cXC_fewestCliques 26 = .ok (.invokevirtual 38, 3) := by decide +kernel
theorem dXC_fewestCliques_29 : decode cXC_fewestCliques 29 = .ok (.iload_n 2, 1) := by decide +kernel
theorem dXC_fewestCliques_30 : decode cXC_fewestCliques 30 = .ok (.iconst 1, 1) := by decide +kernel
theorem dXC_fewestCliques_31 : decode cXC_fewestCliques 31 = .ok (.iload_n 3, 1) := by decide +kernel
theorem dXC_fewestCliques_32 : decode cXC_fewestCliques 32 = .ok (.ishl, 1) := by decide +kernel
theorem dXC_fewestCliques_33 : decode cXC_fewestCliques 33 = .ok (.ior, 1) := by decide +kernel
theorem dXC_fewestCliques_34 : decode cXC_fewestCliques 34 = .ok (.istore_n 2, 1) := by decide +kernel
theorem dXC_fewestCliques_35 : decode cXC_fewestCliques 35 = .ok (.iinc 3 1, 3) := by decide +kernel
theorem dXC_fewestCliques_38 : decode cXC_fewestCliques 38 = .ok (.goto (-34), 3) := by decide +kernel
theorem dXC_fewestCliques_41 : decode cXC_fewestCliques 41 = .ok (.aload_n 0, 1) := by decide +kernel
theorem dXC_fewestCliques_42 : decode cXC_fewestCliques 42 = .ok (.getfield 19, 3) := by decide +kernel
theorem dXC_fewestCliques_45 : decode cXC_fewestCliques 45 = .ok (.iload_n 1, 1) := by decide +kernel
theorem dXC_fewestCliques_46 : decode cXC_fewestCliques 46 = .ok (.iaload, 1) := by decide +kernel
theorem dXC_fewestCliques_47 : decode cXC_fewestCliques 47 = .ok (.ireturn, 1) := by decide +kernel
theorem dXC_coverWith_0 : decode cXC_coverWith 0 = .ok (.iconst 0, 1) := by decide +kernel
theorem dXC_coverWith_1 : decode cXC_coverWith 1 = .ok (.istore_n 3, 1) := by decide +kernel
theorem dXC_coverWith_2 : decode cXC_coverWith 2 = .ok (.iload_n 3, 1) := by decide +kernel
theorem dXC_coverWith_3 : decode cXC_coverWith 3 = .ok (.iload_n 2, 1) := by decide +kernel
theorem dXC_coverWith_4 : decode cXC_coverWith 4 = .ok (.if_icmp .gt 33, 3) := by decide +kernel
theorem dXC_coverWith_7 : decode cXC_coverWith 7 = .ok (.iload_n 3, 1) := by decide +kernel
theorem dXC_coverWith_8 : decode cXC_coverWith 8 = .ok (.iload_n 2, 1) := by decide +kernel
theorem dXC_coverWith_9 : decode cXC_coverWith 9 = .ok (.iconst (-1), 1) := by decide +kernel
theorem dXC_coverWith_10 : decode cXC_coverWith 10 = .ok (.ixor, 1) := by decide +kernel
theorem dXC_coverWith_11 : decode cXC_coverWith 11 = .ok (.iand, 1) := by decide +kernel
theorem dXC_coverWith_12 : decode cXC_coverWith 12 = .ok (.ifCond .ne 19, 3) := by decide +kernel
theorem dXC_coverWith_15 : decode cXC_coverWith 15 = .ok (.aload_n 0, 1) := by decide +kernel
theorem dXC_coverWith_16 : decode cXC_coverWith 16 = .ok (.getfield 19, 3) := by decide +kernel
theorem dXC_coverWith_19 : decode cXC_coverWith 19 = .ok (.iload_n 3, 1) := by decide +kernel
theorem dXC_coverWith_20 : decode cXC_coverWith 20 = .ok (.iconst 1, 1) := by decide +kernel
theorem dXC_coverWith_21 : decode cXC_coverWith 21 = .ok (.iload_n 1, 1) := by decide +kernel
theorem dXC_coverWith_22 : decode cXC_coverWith 22 = .ok (.ishl, 1) := by decide +kernel
theorem dXC_coverWith_23 : decode cXC_coverWith 23 = .ok (.ior, 1) := by decide +kernel
theorem dXC_coverWith_24 : decode cXC_coverWith 24 = .ok (.aload_n 0, 1) := by decide +kernel
theorem dXC_coverWith_25 : decode cXC_coverWith 25 = .ok (.iload_n 1, 1) := by decide +kernel
theorem dXC_coverWith_26 : decode cXC_coverWith 26 = .ok (.iload_n 3, 1) := by decide +kernel
theorem dXC_coverWith_27 : decode cXC_coverWith 27 = .ok (.invokevirtual 42, 3) := by decide +kernel
theorem dXC_coverWith_30 : decode cXC_coverWith 30 = .ok (.iastore, 1) := by decide +kernel
theorem dXC_coverWith_31 : decode cXC_coverWith 31 = .ok (.iinc 3 1, 3) := by decide +kernel
theorem dXC_coverWith_34 : decode cXC_coverWith 34 = .ok (.goto (-32), 3) := by decide +kernel
theorem dXC_coverWith_37 : decode cXC_coverWith 37 = .ok (.return_, 1) := by decide +kernel
theorem dXC_fewestWith_0 : decode cXC_fewestWith 0 = .ok (.aload_n 0, 1) := by decide +kernel
theorem dXC_fewestWith_1 : decode cXC_fewestWith 1 = .ok (.getfield 7, 3) := by decide +kernel
theorem dXC_fewestWith_4 : decode cXC_fewestWith 4 = .ok (.iload_n 1, 1) := by decide +kernel
theorem dXC_fewestWith_5 : decode cXC_fewestWith 5 = .ok (.iload_n 2, 1) := by decide +kernel
theorem dXC_fewestWith_6 : decode cXC_fewestWith 6 = .ok (.invokevirtual 46, 3) := by decide +kernel
theorem dXC_fewestWith_9 : decode cXC_fewestWith 9 = .ok (.istore_n 3, 1) := by decide +kernel
theorem dXC_fewestWith_10 : decode cXC_fewestWith 10 = .ok (.iconst 1, 1) := by decide +kernel
theorem dXC_fewestWith_11 : decode cXC_fewestWith 11 = .ok (.aload_n 0, 1) := by decide +kernel
theorem dXC_fewestWith_12 : decode cXC_fewestWith 12 = .ok (.getfield 19, 3) := by decide +kernel
theorem dXC_fewestWith_15 : decode cXC_fewestWith 15 = .ok (.iload_n 2, 1) := by decide +kernel
theorem dXC_fewestWith_16 : decode cXC_fewestWith 16 = .ok (.iaload, 1) := by decide +kernel
theorem dXC_fewestWith_17 : decode cXC_fewestWith 17 = .ok (.iadd, 1) := by decide +kernel
theorem dXC_fewestWith_18 : decode cXC_fewestWith 18 = .ok (.istore 4, 2) := by decide +kernel
theorem dXC_fewestWith_20 : decode cXC_fewestWith 20 = .ok (.iload_n 3, 1) := by decide +kernel
theorem dXC_fewestWith_21 : decode cXC_fewestWith 21 = .ok (.istore 5, 2) := by decide +kernel
theorem dXC_fewestWith_23 : decode cXC_fewestWith 23 = .ok (.iload 5, 2) := by decide +kernel
theorem dXC_fewestWith_25 : decode cXC_fewestWith 25 = .ok (.ifCond .le 45, 3) := by decide +kernel
theorem dXC_fewestWith_28 : decode cXC_fewestWith 28 = .ok (.aload_n 0, 1) := by decide +kernel
theorem dXC_fewestWith_29 : decode cXC_fewestWith 29 = .ok (.getfield 19, 3) := by decide +kernel
theorem dXC_fewestWith_32 : decode cXC_fewestWith 32 = .ok (.iload 5, 2) := by decide +kernel
theorem dXC_fewestWith_34 : decode cXC_fewestWith 34 = .ok (.iaload, 1) := by decide +kernel
theorem dXC_fewestWith_35 : decode cXC_fewestWith 35 = .ok (.iconst 1, 1) := by decide +kernel
theorem dXC_fewestWith_36 : decode cXC_fewestWith 36 = .ok (.if_icmp .ne 23, 3) := by decide +kernel
theorem dXC_fewestWith_39 : decode cXC_fewestWith 39 = .ok (.iload 4, 2) := by decide +kernel
theorem dXC_fewestWith_41 : decode cXC_fewestWith 41 = .ok (.iconst 1, 1) := by decide +kernel
theorem dXC_fewestWith_42 : decode cXC_fewestWith 42 = .ok (.aload_n 0, 1) := by decide +kernel
theorem dXC_fewestWith_43 : decode cXC_fewestWith 43 = .ok (.getfield 19, 3) := by decide +kernel
theorem dXC_fewestWith_46 : decode cXC_fewestWith 46 = .ok (.iload_n 2, 1) := by decide +kernel
theorem dXC_fewestWith_47 : decode cXC_fewestWith 47 = .ok (.iload 5, 2) := by decide +kernel
theorem dXC_fewestWith_49 : decode cXC_fewestWith 49 = .ok (.iconst (-1), 1) := by decide +kernel
theorem dXC_fewestWith_50 : decode cXC_fewestWith 50 = .ok (.ixor, 1) := by decide +kernel
theorem dXC_fewestWith_51 : decode cXC_fewestWith 51 = .ok (.iand, 1) := by decide +kernel
theorem dXC_fewestWith_52 : decode cXC_fewestWith 52 = .ok (.iaload, 1) := by decide +kernel
theorem dXC_fewestWith_53 : decode cXC_fewestWith 53 = .ok (.iadd, 1) := by decide +kernel
theorem dXC_fewestWith_54 : decode cXC_fewestWith 54 = .ok (.invokestatic 49, 3) := by decide +kernel
theorem dXC_fewestWith_57 : decode cXC_fewestWith 57 = .ok (.istore 4, 2) := by decide +kernel
theorem dXC_fewestWith_59 : decode cXC_fewestWith 59 = .ok (.iload 5, 2) := by decide +kernel
theorem dXC_fewestWith_61 : decode cXC_fewestWith 61 = .ok (.iconst 1, 1) := by decide +kernel
theorem dXC_fewestWith_62 : decode cXC_fewestWith 62 = .ok (.isub, 1) := by decide +kernel
theorem dXC_fewestWith_63 : decode cXC_fewestWith 63 = .ok (.iload_n 3, 1) := by decide +kernel
theorem dXC_fewestWith_64 : decode cXC_fewestWith 64 = .ok (.iand, 1) := by decide +kernel
theorem dXC_fewestWith_65 : decode cXC_fewestWith 65 = .ok (.istore 5, 2) := by decide +kernel
theorem dXC_fewestWith_67 : decode cXC_fewestWith 67 = .ok (.goto (-44), 3) := by decide +kernel
theorem dXC_fewestWith_70 : decode cXC_fewestWith 70 = .ok (.iload 4, 2) := by decide +kernel
theorem dXC_fewestWith_72 : decode cXC_fewestWith 72 = .ok (.ireturn, 1) := by decide +kernel
