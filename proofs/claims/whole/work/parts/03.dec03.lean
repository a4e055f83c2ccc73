theorem dXT_addPart_1 : decode cXT_addPart 1 = .ok (.getfield 54, 3) := by decide +kernel
theorem dXT_addPart_4 : decode cXT_addPart 4 = .ok (.istore_n 2, 1) := by decide +kernel
theorem dXT_addPart_5 : decode cXT_addPart 5 = .ok (.iload_n 2, 1) := by decide +kernel
theorem dXT_addPart_6 : decode cXT_addPart 6 = .ok (.ifCond .le 35, 3) := by decide +kernel
theorem dXT_addPart_9 : decode cXT_addPart 9 = .ok (.aload_n 0, 1) := by decide +kernel
theorem dXT_addPart_10 : decode cXT_addPart 10 = .ok (.getfield 28, 3) := by decide +kernel
theorem dXT_addPart_13 : decode cXT_addPart 13 = .ok (.iload_n 2, 1) := by decide +kernel
theorem dXT_addPart_14 : decode cXT_addPart 14 = .ok (.iconst 1, 1) := by decide +kernel
theorem dXT_addPart_15 : decode cXT_addPart 15 = .ok (.isub, 1) := by decide +kernel
theorem dXT_addPart_16 : decode cXT_addPart 16 = .ok (.iaload, 1) := by decide +kernel
theorem dXT_addPart_17 : decode cXT_addPart 17 = .ok (.iload_n 1, 1) := by decide +kernel
theorem dXT_addPart_18 : decode cXT_addPart 18 = .ok (.if_icmp .le 23, 3) := by decide +kernel
theorem dXT_addPart_21 : decode cXT_addPart 21 = .ok (.aload_n 0, 1) := by decide +kernel
theorem dXT_addPart_22 : decode cXT_addPart 22 = .ok (.getfield 28, 3) := by decide +kernel
theorem dXT_addPart_25 : decode cXT_addPart 25 = .ok (.iload_n 2, 1) := by decide +kernel
theorem dXT_addPart_26 : decode cXT_addPart 26 = .ok (.aload_n 0, 1) := by decide +kernel
theorem dXT_addPart_27 : decode cXT_addPart 27 = .ok (.getfield 28, 3) := by decide +kernel
theorem dXT_addPart_30 : decode cXT_addPart 30 = .ok (.iload_n 2, 1) := by decide +kernel
theorem dXT_addPart_31 : decode cXT_addPart 31 = .ok (.iconst 1, 1) := by decide +kernel
theorem dXT_addPart_32 : decode cXT_addPart 32 = .ok (.isub, 1) := by decide +kernel
theorem dXT_addPart_33 : decode cXT_addPart 33 = .ok (.iaload, 1) := by decide +kernel
theorem dXT_addPart_34 : decode cXT_addPart 34 = .ok (.iastore, 1) := by decide +kernel
theorem dXT_addPart_35 : decode cXT_addPart 35 = .ok (.iinc 2 (-1), 3) := by decide +kernel
theorem dXT_addPart_38 : decode cXT_addPart 38 = .ok (.goto (-33), 3) := by decide +kernel
theorem dXT_addPart_41 : decode cXT_addPart 41 = .ok (.aload_n 0, 1) := by decide +kernel
theorem dXT_addPart_42 : decode cXT_addPart 42 = .ok (.getfield 28, 3) := by decide +kernel
theorem dXT_addPart_45 : decode cXT_addPart 45 = .ok (.iload_n 2, 1) := by decide +kernel
theorem dXT_addPart_46 : decode cXT_addPart 46 = .ok (.iload_n 1, 1) := by decide +kernel
theorem dXT_addPart_47 : decode cXT_addPart 47 = .ok (.iastore, 1) := by decide +kernel
theorem dXT_addPart_48 : decode cXT_addPart 48 = .ok (.aload_n 0, 1) := by decide +kernel
theorem dXT_addPart_49 : decode cXT_addPart 49 = .ok (.dup, 1) := by decide +kernel
theorem dXT_addPart_50 : decode cXT_addPart 50 = .ok (.getfield 54, 3) := by decide +kernel
theorem dXT_addPart_53 : decode cXT_addPart 53 = .ok (.iconst 1, 1) := by decide +kernel
theorem dXT_addPart_54 : decode cXT_addPart 54 = .ok (.iadd, 1) := by decide +kernel
theorem dXT_addPart_55 : decode cXT_addPart 55 = .ok (.putfield 54, 3) := by decide +kernel
theorem dXT_addPart_58 : decode cXT_addPart 58 = .ok (.return_, 1) := by decide +kernel
theorem dXT_centreIndex_0 : decode cXT_centreIndex 0 = .ok (.iconst 0, 1) := by decide +kernel
theorem dXT_centreIndex_1 : decode cXT_centreIndex 1 = .ok (.istore_n 1, 1) := by decide +kernel
theorem dXT_centreIndex_2 : decode cXT_centreIndex 2 = .ok (.iload_n 1, 1) := by decide +kernel
theorem dXT_centreIndex_3 : decode cXT_centreIndex 3 = .ok (.aload_n 0, 1) := by decide +kernel
theorem dXT_centreIndex_4 : decode cXT_centreIndex 4 = .ok (.getfield 54, 3) := by decide +kernel
theorem dXT_centreIndex_7 : decode cXT_centreIndex 7 = .ok (.if_icmp .ge 39, 3) := by decide +kernel
theorem dXT_centreIndex_10 : decode cXT_centreIndex 10 = .ok (.aload_n 0, 1) := by decide +kernel
theorem dXT_centreIndex_11 : decode cXT_centreIndex 11 = .ok (.getfield 31, 3) := by decide +kernel
theorem dXT_centreIndex_14 : decode cXT_centreIndex 14 = .ok (.iload_n 1, 1) := by decide +kernel
theorem dXT_centreIndex_15 : decode cXT_centreIndex 15 = .ok (.iaload, 1) := by decide +kernel
theorem dXT_centreIndex_16 : decode cXT_centreIndex 16 = .ok (.aload_n 0, 1) := by decide +kernel
theorem dXT_centreIndex_17 : decode cXT_centreIndex 17 = .ok (.getfield 54, 3) := by decide +kernel
theorem dXT_centreIndex_20 : decode cXT_centreIndex 20 = .ok (.iconst 1, 1) := by decide +kernel
theorem dXT_centreIndex_21 : decode cXT_centreIndex 21 = .ok (.isub, 1) := by decide +kernel
theorem dXT_centreIndex_22 : decode cXT_centreIndex 22 = .ok (.if_icmp .ne 18, 3) := by decide +kernel
theorem dXT_centreIndex_25 : decode cXT_centreIndex 25 = .ok (.aload_n 0, 1) := by decide +kernel
theorem dXT_centreIndex_26 : decode cXT_centreIndex 26 = .ok (.getfield 60, 3) := by decide +kernel
theorem dXT_centreIndex_29 : decode cXT_centreIndex 29 = .ok (.aload_n 0, 1) := by decide +kernel
theorem dXT_centreIndex_30 : decode cXT_centreIndex 30 = .ok (.getfield 54, 3) := by decide +kernel
theorem dXT_centreIndex_33 : decode cXT_centreIndex 33 = .ok (.iconst 1, 1) := by decide +kernel
theorem dXT_centreIndex_34 : decode cXT_centreIndex 34 = .ok (.isub, 1) := by decide +kernel
theorem dXT_centreIndex_35 : decode cXT_centreIndex 35 = .ok (.if_icmp .ne 5, 3) := by decide +kernel
theorem dXT_centreIndex_38 : decode cXT_centreIndex 38 = .ok (.iload_n 1, 1) := by decide +kernel
theorem dXT_centreIndex_39 : decode cXT_centreIndex 39 = .ok (.ireturn, 1) := by decide +kernel
theorem dXT_centreIndex_40 : decode cXT_centreIndex 40 = .ok (.iinc 1 1, 3) := by decide +kernel
theorem dXT_centreIndex_43 : decode cXT_centreIndex 43 = .ok (.goto (-41), 3) := by decide +kernel
theorem dXT_centreIndex_46 : decode cXT_centreIndex 46 = .ok (.iconst (-1), 1) := by decide +kernel
theorem dXT_centreIndex_47 : decode cXT_centreIndex 47 = .ok (.ireturn, 1) := by decide +kernel
theorem dXT_partCount_0 : decode cXT_partCount 0 = .ok (.aload_n 0, 1) := by decide +kernel
theorem dXT_partCount_1 : decode cXT_partCount 1 = .ok (.iload_n 1, 1) := by decide +kernel
theorem dXT_partCount_2 : decode cXT_partCount 2 = .ok (.invokevirtual 50, 3) := by decide +kernel
theorem dXT_partCount_5 : decode cXT_partCount 5 = .ok (.aload_n 0, 1) := by decide +kernel
theorem dXT_partCount_6 : decode cXT_partCount 6 = .ok (.getfield 54, 3) := by decide +kernel
theorem dXT_partCount_9 : decode cXT_partCount 9 = .ok (.ireturn, 1) := by decide +kernel
theorem dXT_partSet_0 : decode cXT_partSet 0 = .ok (.aload_n 0, 1) := by decide +kernel
theorem dXT_partSet_1 : decode cXT_partSet 1 = .ok (.iload_n 1, 1) := by decide +kernel
theorem dXT_partSet_2 : decode cXT_partSet 2 = .ok (.invokevirtual 50, 3) := by decide +kernel
theorem dXT_partSet_5 : decode cXT_partSet 5 = .ok (.iload_n 2, 1) := by decide +kernel
theorem dXT_partSet_6 : decode cXT_partSet 6 = .ok (.ifCond .lt 20, 3) := by decide +kernel
theorem dXT_partSet_9 : decode cXT_partSet 9 = .ok (.iload_n 2, 1) := by decide +kernel
theorem dXT_partSet_10 : decode cXT_partSet 10 = .ok (.aload_n 0, 1) := by decide +kernel
theorem dXT_partSet_11 : decode cXT_partSet 11 = .ok (.getfield 54, 3) := by decide +kernel
theorem dXT_partSet_14 : decode cXT_partSet 14 = .ok (.if_icmp .ge 12, 3) := by decide +kernel
theorem dXT_partSet_17 : decode cXT_partSet 17 = .ok (.aload_n 0, 1) := by decide +kernel
theorem dXT_partSet_18 : decode cXT_partSet 18 = .ok (.getfield 28, 3) := by decide +kernel
theorem dXT_partSet_21 : decode cXT_partSet 21 = .ok (.iload_n 2, 1) := by decide +kernel
theorem dXT_partSet_22 : decode cXT_partSet 22 = .ok (.iaload, 1) := by decide +kernel
theorem dXT_partSet_23 : decode cXT_partSet 23 = .ok (.goto 4, 3) := by decide +kernel
theorem dXT_partSet_26 : decode cXT_partSet 26 = .ok (.iconst (-1), 1) := by decide +kernel
theorem dXT_partSet_27 : decode cXT_partSet 27 = .ok (.ireturn, 1) := by decide +kernel
theorem dXT_centreSet_0 : decode cXT_centreSet 0 = .ok (.aload_n 0, 1) := by decide +kernel
theorem dXT_centreSet_1 : decode cXT_centreSet 1 = .ok (.iload_n 1, 1) := by decide +kernel
theorem dXT_centreSet_2 : decode cXT_centreSet 2 = .ok (.invokevirtual 66, 3) := by decide +kernel
theorem dXT_centreSet_5 : decode cXT_centreSet 5 = .ok (.iconst 2, 1) := by decide +kernel
theorem dXT_centreSet_6 : decode cXT_centreSet 6 = .ok (.if_icmp .ne 15, 3) := by decide +kernel
theorem dXT_centreSet_9 : decode cXT_centreSet 9 = .ok (.aload_n 0, 1) := by decide +kernel
theorem dXT_centreSet_10 : decode cXT_centreSet 10 = .ok (.getfield 28, 3) := by decide +kernel
theorem dXT_centreSet_13 : decode cXT_centreSet 13 = .ok (.aload_n 0, 1) := by decide +kernel
theorem dXT_centreSet_14 : decode cXT_centreSet 14 = .ok (.invokevirtual 63, 3) := by decide +kernel
theorem dXT_centreSet_17 : decode cXT_centreSet 17 = .ok (.iaload, 1) := by decide +kernel
theorem dXT_centreSet_18 : decode cXT_centreSet 18 = .ok (.goto 4, 3) := by decide +kernel
theorem dXT_centreSet_21 : decode cXT_centreSet 21 = .ok (.iconst (-1), 1) := by decide +kernel
theorem dXT_centreSet_22 : decode cXT_centreSet 22 = .ok (.ireturn, 1) := by decide +kernel
theorem dXT_links_0 : decode cXT_links 0 = .ok (.iconst 0, 1) := by decide +kernel
theorem dXT_links_1 : decode cXT_links 1 = .ok (.istore_n 3, 1) := by decide +kernel
theorem dXT_links_2 : decode cXT_links 2 = .ok (.iload_n 3, 1) := by decide +kernel
theorem dXT_links_3 : decode cXT_links 3 = .ok (.aload_n 0, 1) := by decide +kernel
theorem dXT_links_4 : decode cXT_links 4 = .ok (.getfield 47, 3) := by decide +kernel
theorem dXT_links_7 : decode cXT_links 7 = .ok (.if_icmp .ge 48, 3) := by decide +kernel
theorem dXT_links_10 : decode cXT_links 10 = .ok (.aload_n 0, 1) := by decide +kernel
theorem dXT_links_11 : decode cXT_links 11 = .ok (.iload_n 3, 1) := by decide +kernel
theorem dXT_links_12 : decode cXT_links 12 = .ok (.iload_n 1, 1) := by decide +kernel
theorem dXT_links_13 : decode cXT_links 13 = .ok (.invokevirtual 70, 3) := by decide +kernel
theorem dXT_links_16 : decode cXT_links 16 = .ok (.istore 4, 2) := by decide +kernel
theorem dXT_links_18 : decode cXT_links 18 = .ok (.aload_n 0, 1) := by decide +kernel
theorem dXT_links_19 : decode cXT_links 19 = .ok (.iload_n 3, 1) := by decide +kernel
theorem dXT_links_20 : decode cXT_links 20 = .ok (.iload_n 2, 1) := by decide +kernel
theorem dXT_links_21 : decode cXT_links 21 = .ok (.invokevirtual 70, 3) := by decide +kernel
theorem dXT_links_24 : decode cXT_links 24 = .ok (.istore 5, 2) := by decide +kernel
theorem dXT_links_26 : decode cXT_links 26 = .ok (.iload 4, 2) := by decide +kernel
theorem dXT_links_28 : decode cXT_links 28 = .ok (.iload 5, 2) := by decide +kernel
theorem dXT_links_30 : decode cXT_links 30 = .ok (.if_icmp .eq 19, 3) := by decide +kernel
theorem dXT_links_33 : decode cXT_links 33 = .ok (.aload_n 0, 1) := by decide +kernel
theorem dXT_links_34 : decode cXT_links 34 = .ok (.getfield 9, 3) := by decide +kernel
theorem dXT_links_37 : decode cXT_links 37 = .ok (.iload 4, 2) := by decide +kernel
theorem dXT_links_39 : decode cXT_links 39 = .ok (.iload 5, 2) := by decide +kernel
theorem dXT_links_41 : decode cXT_links 41 = .ok (.invokevirtual 74, 3) := by decide +kernel
theorem dXT_links_44 : decode cXT_links 44 = .ok (.ifCond .ne 5, 3) := by decide +kernel
theorem dXT_links_47 : decode cXT_links 47 = .ok (.iconst 0, 1) := by decide +kernel
theorem dXT_links_48 : decode cXT_links 48 = .ok (.ireturn, 1) := by decide +kernel
theorem dXT_links_49 : decode cXT_links 49 = .ok (.iinc 3 1, 3) := by decide +kernel
theorem dXT_links_52 : decode cXT_links 52 = .ok (.goto (-50), 3) := by decide +kernel
theorem dXT_links_55 : decode cXT_links 55 = .ok (.iconst 1, 1) := by decide +kernel
theorem dXT_links_56 : decode cXT_links 56 = .ok (.ireturn, 1) := by decide +kernel
