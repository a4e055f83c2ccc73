theorem dXT_init_0 : decode cXT_init 0 = .ok (.aload_n 0, 1) := by decide +kernel
theorem dXT_init_1 : decode cXT_init 1 = .ok (.invokespecial 3, 3) := by decide +kernel
theorem dXT_init_4 : decode cXT_init 4 = .ok (.aload_n 0, 1) := by decide +kernel
theorem dXT_init_5 : decode cXT_init 5 = .ok (.aload_n 1, 1) := by decide +kernel
theorem dXT_init_6 : decode cXT_init 6 = .ok (.putfield 9, 3) := by decide +kernel
theorem dXT_init_9 : decode cXT_init 9 = .ok (.aload_n 0, 1) := by decide +kernel
theorem dXT_init_10 : decode cXT_init 10 = .ok (.iconst 1, 1) := by decide +kernel
theorem dXT_init_11 : decode cXT_init 11 = .ok (.aload_n 1, 1) := by decide +kernel
theorem dXT_init_12 : decode cXT_init 12 = .ok (.invokevirtual 15, 3) := by decide +kernel
theorem dXT_init_15 : decode cXT_init 15 = .ok (.iconst 1, 1) := by decide +kernel
theorem dXT_init_16 : decode cXT_init 16 = .ok (.isub, 1) := by decide +kernel
theorem dXT_init_17 : decode cXT_init 17 = .ok (.ishl, 1) := by decide +kernel
theorem dXT_init_18 : decode cXT_init 18 = .ok (.newarray .int, 2) := by decide +kernel
theorem dXT_init_20 : decode cXT_init 20 = .ok (.putfield 21, 3) := by decide +kernel
theorem dXT_init_23 : decode cXT_init 23 = .ok (.aload_n 0, 1) := by decide +kernel
theorem dXT_init_24 : decode cXT_init 24 = .ok (.iconst 1, 1) := by decide +kernel
theorem dXT_init_25 : decode cXT_init 25 = .ok (.aload_n 1, 1) := by decide +kernel
theorem dXT_init_26 : decode cXT_init 26 = .ok (.invokevirtual 15, 3) := by decide +kernel
theorem dXT_init_29 : decode cXT_init 29 = .ok (.iconst 1, 1) := by decide +kernel
theorem dXT_init_30 : decode cXT_init 30 = .ok (.isub, 1) := by decide +kernel
theorem dXT_init_31 : decode cXT_init 31 = .ok (.ishl, 1) := by decide +kernel
theorem dXT_init_32 : decode cXT_init 32 = .ok (.newarray .int, 2) := by decide +kernel
theorem dXT_init_34 : decode cXT_init 34 = .ok (.putfield 25, 3) := by decide +kernel
theorem dXT_init_37 : decode cXT_init 37 = .ok (.aload_n 0, 1) := by decide +kernel
theorem dXT_init_38 : decode cXT_init 38 = .ok (.aload_n 1, 1) := by decide +kernel
theorem dXT_init_39 : decode cXT_init 39 = .ok (.invokevirtual 15, 3) := by decide +kernel
theorem dXT_init_42 : decode cXT_init 42 = .ok (.newarray .int, 2) := by decide +kernel
theorem dXT_init_44 : decode cXT_init 44 = .ok (.putfield 28, 3) := by decide +kernel
theorem dXT_init_47 : decode cXT_init 47 = .ok (.aload_n 0, 1) := by decide +kernel
theorem dXT_init_48 : decode cXT_init 48 = .ok (.aload_n 1, 1) := by decide +kernel
theorem dXT_init_49 : decode cXT_init 49 = .ok (.invokevirtual 15, 3) := by decide +kernel
theorem dXT_init_52 : decode cXT_init 52 = .ok (.newarray .int, 2) := by decide +kernel
theorem dXT_init_54 : decode cXT_init 54 = .ok (.putfield 31, 3) := by decide +kernel
theorem dXT_init_57 : decode cXT_init 57 = .ok (.return_, 1) := by decide +kernel
theorem dXT_forget_0 : decode cXT_forget 0 = .ok (.aload_n 0, 1) := by decide +kernel
theorem dXT_forget_1 : decode cXT_forget 1 = .ok (.iconst 0, 1) := by decide +kernel
theorem dXT_forget_2 : decode cXT_forget 2 = .ok (.putfield 34, 3) := by decide +kernel
theorem dXT_forget_5 : decode cXT_forget 5 = .ok (.return_, 1) := by decide +kernel
theorem dXT_growFor_0 : decode cXT_growFor 0 = .ok (.aload_n 0, 1) := by decide +kernel
theorem dXT_growFor_1 : decode cXT_growFor 1 = .ok (.getfield 34, 3) := by decide +kernel
theorem dXT_growFor_4 : decode cXT_growFor 4 = .ok (.iload_n 1, 1) := by decide +kernel
theorem dXT_growFor_5 : decode cXT_growFor 5 = .ok (.if_icmp .eq 16, 3) := by decide +kernel
theorem dXT_growFor_8 : decode cXT_growFor 8 = .ok (.aload_n 0, 1) := by decide +kernel
theorem dXT_growFor_9 : decode cXT_growFor 9 = .ok (.iload_n 1, 1) := by decide +kernel
theorem dXT_growFor_10 : decode cXT_growFor 10 = .ok (.putfield 34, 3) := by decide +kernel
theorem dXT_growFor_13 : decode cXT_growFor 13 = .ok (.aload_n 0, 1) := by decide +kernel
theorem dXT_growFor_14 : decode cXT_growFor 14 = .ok (.invokevirtual 38, 3) := by decide +kernel
theorem dXT_growFor_17 : decode cXT_growFor 17 = .ok (.aload_n 0, 1) := by decide +kernel
theorem dXT_growFor_18 : decode cXT_growFor 18 = .ok (.invokevirtual 41, 3) := by decide +kernel
theorem dXT_growFor_21 : decode cXT_growFor 21 = .ok (.return_, 1) := by decide +kernel
theorem dXT_findSplits_0 : decode cXT_findSplits 0 = .ok (.aload_n 0, 1) := by decide +kernel
theorem dXT_findSplits_1 : decode cXT_findSplits 1 = .ok (.getfield 34, 3) := by decide +kernel
theorem dXT_findSplits_4 : decode cXT_findSplits 4 = .ok (.aload_n 0, 1) := by decide +kernel
theorem dXT_findSplits_5 : decode cXT_findSplits 5 = .ok (.getfield 34, 3) := by decide +kernel
theorem dXT_findSplits_8 : decode cXT_findSplits 8 = .ok (.iconst 1, 1) := by decide +kernel
theorem dXT_findSplits_9 : decode cXT_findSplits 9 = .ok (.isub, 1) := by decide +kernel
theorem dXT_findSplits_10 : decode cXT_findSplits 10 = .ok (.iand, 1) := by decide +kernel
theorem dXT_findSplits_11 : decode cXT_findSplits 11 = .ok (.istore_n 1, 1) := by decide +kernel
theorem dXT_findSplits_12 : decode cXT_findSplits 12 = .ok (.aload_n 0, 1) := by decide +kernel
theorem dXT_findSplits_13 : decode cXT_findSplits 13 = .ok (.iconst 0, 1) := by decide +kernel
theorem dXT_findSplits_14 : decode cXT_findSplits 14 = .ok (.putfield 44, 3) := by decide +kernel
theorem dXT_findSplits_17 : decode cXT_findSplits 17 = .ok (.iconst 1, 1) := by decide +kernel
theorem dXT_findSplits_18 : decode cXT_findSplits 18 = .ok (.istore_n 2, 1) := by decide +kernel
theorem dXT_findSplits_19 : decode cXT_findSplits 19 = .ok (.iload_n 2, 1) := by decide +kernel
theorem dXT_findSplits_20 : decode cXT_findSplits 20 = .ok (.iload_n 1, 1) := by decide +kernel
theorem dXT_findSplits_21 : decode cXT_findSplits 21 = .ok (.if_icmp .gt 53, 3) := by decide +kernel
theorem dXT_findSplits_24 : decode cXT_findSplits 24 = .ok (.iload_n 2, 1) := by decide +kernel
theorem dXT_findSplits_25 : decode cXT_findSplits 25 = .ok (.iload_n 1, 1) := by decide +kernel
theorem dXT_findSplits_26 : decode cXT_findSplits 26 = .ok (.iconst (-1), 1) := by decide +kernel
theorem dXT_findSplits_27 : decode cXT_findSplits 27 = .ok (.ixor, 1) := by decide +kernel
theorem dXT_findSplits_28 : decode cXT_findSplits 28 = .ok (.iand, 1) := by decide +kernel
theorem dXT_findSplits_29 : decode cXT_findSplits 29 = .ok (.ifCond .ne 39, 3) := by decide +kernel
theorem dXT_findSplits_32 : decode cXT_findSplits 32 = .ok (.aload_n 0, 1) := by decide +kernel
theorem dXT_findSplits_33 : decode cXT_findSplits 33 = .ok (.iload_n 2, 1) := by decide +kernel
theorem dXT_findSplits_34 : decode cXT_findSplits 34 = .ok (.aload_n 0, 1) := by decide +kernel
theorem dXT_findSplits_35 : decode cXT_findSplits 35 = .ok (.getfield 34, 3) := by decide +kernel
theorem dXT_findSplits_38 : decode cXT_findSplits 38 = .ok (.iload_n 2, 1) := by decide +kernel
theorem dXT_findSplits_39 : decode cXT_findSplits 39 = .ok (.iconst (-1), 1) := by decide +kernel
theorem dXT_findSplits_40 : decode cXT_findSplits 40 = .ok (.ixor, 1) := by decide +kernel
theorem dXT_findSplits_41 : decode cXT_findSplits 41 = .ok (.iand, 1) := by decide +kernel
theorem dXT_findSplits_42 : decode cXT_findSplits 42 = .ok (.invokevirtual 78, 3) := by decide +kernel
theorem dXT_findSplits_45 : decode cXT_findSplits 45 = .ok (.ifCond .eq 23, 3) := by decide +kernel
theorem dXT_findSplits_48 : decode cXT_findSplits 48 = .ok (.aload_n 0, 1) := by decide +kernel
theorem dXT_findSplits_49 : decode cXT_findSplits 49 = .ok (.getfield 21, 3) := by decide +kernel
theorem dXT_findSplits_52 : decode cXT_findSplits 52 = .ok (.aload_n 0, 1) := by decide +kernel
theorem dXT_findSplits_53 : decode cXT_findSplits 53 = .ok (.getfield 44, 3) := by decide +kernel
theorem dXT_findSplits_56 : decode cXT_findSplits 56 = .ok (.iload_n 2, 1) := by decide +kernel
theorem dXT_findSplits_57 : decode cXT_findSplits 57 = .ok (.iastore, 1) := by decide +kernel
theorem dXT_findSplits_58 : decode cXT_findSplits 58 = .ok (.aload_n 0, 1) := by decide +kernel
theorem dXT_findSplits_59 : decode cXT_findSplits 59 = .ok (.dup, 1) := by decide +kernel
theorem dXT_findSplits_60 : decode cXT_findSplits 60 = .ok (.getfield 44, 3) := by decide +kernel
theorem dXT_findSplits_63 : decode cXT_findSplits 63 = .ok (.iconst 1, 1) := by decide +kernel
theorem dXT_findSplits_64 : decode cXT_findSplits 64 = .ok (.iadd, 1) := by decide +kernel
theorem dXT_findSplits_65 : decode cXT_findSplits 65 = .ok (.putfield 44, 3) := by decide +kernel
theorem dXT_findSplits_68 : decode cXT_findSplits 68 = .ok (.iinc 2 1, 3) := by decide +kernel
theorem dXT_findSplits_71 : decode cXT_findSplits 71 = .ok (.goto (-52), 3) := by decide +kernel
theorem dXT_findSplits_74 : decode cXT_findSplits 74 = .ok (.return_, 1) := by decide +kernel
theorem dXT_isSplit_0 : decode cXT_isSplit 0 = .ok (.iload_n 1, 1) := by decide +kernel
theorem dXT_isSplit_1 : decode cXT_isSplit 1 = .ok (.invokestatic 81, 3) := by decide +kernel
theorem dXT_isSplit_4 : decode cXT_isSplit 4 = .ok (.iconst 2, 1) := by decide +kernel
theorem dXT_isSplit_5 : decode cXT_isSplit 5 = .ok (.if_icmp .lt 11, 3) := by decide +kernel
theorem dXT_isSplit_8 : decode cXT_isSplit 8 = .ok (.iload_n 2, 1) := by decide +kernel
theorem dXT_isSplit_9 : decode cXT_isSplit 9 = .ok (.invokestatic 81, 3) := by decide +kernel
theorem dXT_isSplit_12 : decode cXT_isSplit 12 = .ok (.iconst 2, 1) := by decide +kernel
theorem dXT_isSplit_13 : decode cXT_isSplit 13 = .ok (.if_icmp .ge 5, 3) := by decide +kernel
theorem dXT_isSplit_16 : decode cXT_isSplit 16 = .ok (.iconst 0, 1) := by decide +kernel
theorem dXT_isSplit_17 : decode cXT_isSplit 17 = .ok (.ireturn, 1) := by decide +kernel
theorem dXT_isSplit_18 : decode cXT_isSplit 18 = .ok (.iconst 0, 1) := by decide +kernel
theorem dXT_isSplit_19 : decode cXT_isSplit 19 = .ok (.istore_n 3, 1) := by decide +kernel
theorem dXT_isSplit_20 : decode cXT_isSplit 20 = .ok (.iconst 0, 1) := by decide +kernel
theorem dXT_isSplit_21 : decode cXT_isSplit 21 = .ok (.istore 4, 2) := by decide +kernel
theorem dXT_isSplit_23 : decode cXT_isSplit 23 = .ok (.iload 4, 2) := by decide +kernel
theorem dXT_isSplit_25 : decode cXT_isSplit 25 = .ok (.aload_n 0, 1) := by decide +kernel
theorem dXT_isSplit_26 : decode cXT_isSplit 26 = .ok (.getfield 9, 3) := by decide +kernel
theorem dXT_isSplit_29 : decode cXT_isSplit 29 = .ok (.invokevirtual 15, 3) := by decide +kernel
theorem dXT_isSplit_32 : decode cXT_isSplit 32 = .ok (.if_icmp .ge 56, 3) := by decide +kernel
theorem dXT_isSplit_35 : decode cXT_isSplit 35 = .ok (.iload_n 1, 1) := by decide +kernel
theorem dXT_isSplit_36 : decode cXT_isSplit 36 = .ok (.iload 4, 2) := by decide +kernel
theorem dXT_isSplit_38 : decode cXT_isSplit 38 = .ok (.invokestatic 86, 3) := by decide +kernel
theorem dXT_isSplit_41 : decode cXT_isSplit 41 = .ok (.ifCond .eq 16, 3) := by decide +kernel
theorem dXT_isSplit_44 : decode cXT_isSplit 44 = .ok (.aload_n 0, 1) := by decide +kernel
theorem dXT_isSplit_45 : decode cXT_isSplit 45 = .ok (.getfield 9, 3) := by decide +kernel
theorem dXT_isSplit_48 : decode cXT_isSplit 48 = .ok (.iload 4, 2) := by decide +kernel
theorem dXT_isSplit_50 : decode cXT_isSplit 50 = .ok (.iload_n 2, 1) := by decide +kernel
theorem dXT_isSplit_51 : decode cXT_isSplit 51 = .ok (.invokevirtual 89, 3) := by decide +kernel
theorem dXT_isSplit_54 : decode cXT_isSplit 54 = .ok (.goto 4, 3) := by decide +kernel
theorem dXT_isSplit_57 : decode cXT_isSplit 57 = .ok (.iconst 0, 1) := by decide +kernel
theorem dXT_isSplit_58 : decode cXT_isSplit 58 = .ok (.istore 5, 2) := by decide +kernel
theorem dXT_isSplit_60 : decode cXT_isSplit 60 = .ok (.iload 5, 2) := by decide +kernel
theorem dXT_isSplit_62 : decode cXT_isSplit 62 = .ok (.ifCond .eq 15, 3) := by decide +kernel
theorem dXT_isSplit_65 : decode cXT_isSplit 65 = .ok (.iload_n 3, 1) := by decide +kernel
theorem dXT_isSplit_66 : decode cXT_isSplit 66 = .ok (.ifCond .eq 11, 3) := by decide +kernel
theorem dXT_isSplit_69 : decode cXT_isSplit 69 = .ok (.iload 5, 2) := by decide +kernel
theorem dXT_isSplit_71 : decode cXT_isSplit 71 = .ok (.iload_n 3, 1) := by decide +kernel
theorem dXT_isSplit_72 : decode cXT_isSplit 72 = .ok (.if_icmp .eq 5, 3) := by decide +kernel
theorem dXT_isSplit_75 : decode cXT_isSplit 75 = .ok (.iconst 0, 1) := by decide +kernel
theorem dXT_isSplit_76 : decode cXT_isSplit 76 = .ok (.ireturn, 1) := by decide +kernel
theorem dXT_isSplit_77 : decode cXT_isSplit 77 = .ok (.iload_n 3, 1) := by decide +kernel
theorem dXT_isSplit_78 : decode cXT_isSplit 78 = .ok (.iload 5, 2) := by decide +kernel
theorem dXT_isSplit_80 : decode cXT_isSplit 80 = .ok (.ior, 1) := by decide +kernel
theorem dXT_isSplit_81 : decode cXT_isSplit 81 = .ok (.istore_n 3, 1) := by decide +kernel
theorem dXT_isSplit_82 : decode cXT_isSplit 82 = .ok (.iinc 4 1, 3) := by decide +kernel
theorem dXT_isSplit_85 : decode cXT_isSplit 85 = .ok (.goto (-62), 3) := by decide +kernel
theorem dXT_isSplit_88 : decode cXT_isSplit 88 = .ok (.iconst 1, 1) := by decide +kernel
theorem dXT_isSplit_89 : decode cXT_isSplit 89 = .ok (.ireturn, 1) := by decide +kernel
theorem dXT_findNodes_0 : decode cXT_findNodes 0 = .ok (.aload_n 0, 1) := by decide +kernel
theorem dXT_findNodes_1 : decode cXT_findNodes 1 = .ok (.getfield 25, 3) := by decide +kernel
theorem dXT_findNodes_4 : decode cXT_findNodes 4 = .ok (.iconst 0, 1) := by decide +kernel
theorem dXT_findNodes_5 : decode cXT_findNodes 5 = .ok (.aload_n 0, 1) := by decide +kernel
theorem dXT_findNodes_6 : decode cXT_findNodes 6 = .ok (.getfield 34, 3) := by decide +kernel
theorem dXT_findNodes_9 : decode cXT_findNodes 9 = .ok (.iastore, 1) := by decide +kernel
theorem dXT_findNodes_10 : decode cXT_findNodes 10 = .ok (.aload_n 0, 1) := by decide +kernel
theorem dXT_findNodes_11 : decode cXT_findNodes 11 = .ok (.iconst 1, 1) := by decide +kernel
theorem dXT_findNodes_12 : decode cXT_findNodes 12 = .ok (.putfield 47, 3) := by decide +kernel
theorem dXT_findNodes_15 : decode cXT_findNodes 15 = .ok (.iconst 0, 1) := by decide +kernel
theorem dXT_findNodes_16 : decode cXT_findNodes 16 = .ok (.istore_n 1, 1) := by decide +kernel
theorem dXT_findNodes_17 : decode cXT_findNodes 17 = .ok (.iload_n 1, 1) := by decide +kernel
theorem dXT_findNodes_18 : decode cXT_findNodes 18 = .ok (.aload_n 0, 1) := by decide +kernel
theorem dXT_findNodes_19 : decode cXT_findNodes 19 = .ok (.getfield 44, 3) := by decide +kernel
theorem dXT_findNodes_22 : decode cXT_findNodes 22 = .ok (.if_icmp .ge 47, 3) := by decide +kernel
theorem dXT_findNodes_25 : decode cXT_findNodes 25 = .ok (.aload_n 0, 1) := by decide +kernel
theorem dXT_findNodes_26 : decode cXT_findNodes 26 = .ok (.aload_n 0, 1) := by decide +kernel
theorem dXT_findNodes_27 : decode cXT_findNodes 27 = .ok (.getfield 21, 3) := by decide +kernel
theorem dXT_findNodes_30 : decode cXT_findNodes 30 = .ok (.iload_n 1, 1) := by decide +kernel
theorem dXT_findNodes_31 : decode cXT_findNodes 31 = .ok (.iaload, 1) := by decide +kernel
theorem dXT_findNodes_32 : decode cXT_findNodes 32 = .ok (.invokevirtual 92, 3) := by decide +kernel
theorem dXT_findNodes_35 : decode cXT_findNodes 35 = .ok (.ifCond .eq 28, 3) := by decide +kernel
theorem dXT_findNodes_38 : decode cXT_findNodes 38 = .ok (.aload_n 0, 1) := by decide +kernel
theorem dXT_findNodes_39 : decode cXT_findNodes 39 = .ok (.getfield 25, 3) := by decide +kernel
theorem dXT_findNodes_42 : decode cXT_findNodes 42 = .ok (.aload_n 0, 1) := by decide +kernel
theorem dXT_findNodes_43 : decode cXT_findNodes 43 = .ok (.getfield 47, 3) := by decide +kernel
theorem dXT_findNodes_46 : decode cXT_findNodes 46 = .ok (.aload_n 0, 1) := by decide +kernel
theorem dXT_findNodes_47 : decode cXT_findNodes 47 = .ok (.getfield 21, 3) := by decide +kernel
theorem dXT_findNodes_50 : decode cXT_findNodes 50 = .ok (.iload_n 1, 1) := by decide +kernel
theorem dXT_findNodes_51 : decode cXT_findNodes 51 = .ok (.iaload, 1) := by decide +kernel
theorem dXT_findNodes_52 : decode cXT_findNodes 52 = .ok (.iastore, 1) := by decide +kernel
theorem dXT_findNodes_53 : decode cXT_findNodes 53 = .ok (.aload_n 0, 1) := by decide +kernel
theorem dXT_findNodes_54 : decode cXT_findNodes 54 = .ok (.dup, 1) := by decide +kernel
theorem dXT_findNodes_55 : decode cXT_findNodes 55 = .ok (.getfield 47, 3) := by decide +kernel
theorem dXT_findNodes_58 : decode cXT_findNodes 58 = .ok (.iconst 1, 1) := by decide +kernel
theorem dXT_findNodes_59 : decode cXT_findNodes 59 = .ok (.iadd, 1) := by decide +kernel
theorem dXT_findNodes_60 : decode cXT_findNodes 60 = .ok (.putfield 47, 3) := by decide +kernel
theorem dXT_findNodes_63 : decode cXT_findNodes 63 = .ok (.iinc 1 1, 3) := by decide +kernel
theorem dXT_findNodes_66 : decode cXT_findNodes 66 = .ok (.goto (-49), 3) := by decide +kernel
theorem dXT_findNodes_69 : decode cXT_findNodes 69 = .ok (.return_, 1) := by decide +kernel
theorem dXT_isStrong_0 : decode cXT_isStrong 0 = .ok (.iconst 0, 1) := by decide +kernel
theorem dXT_isStrong_1 : decode cXT_isStrong 1 = .ok (.istore_n 2, 1) := by decide +kernel
theorem dXT_isStrong_2 : decode cXT_isStrong 2 = .ok (.iload_n 2, 1) := by decide +kernel
theorem dXT_isStrong_3 : decode cXT_isStrong 3 = .ok (.aload_n 0, 1) := by decide +kernel
theorem dXT_isStrong_4 : decode cXT_isStrong 4 = .ok (.getfield 44, 3) := by decide +kernel
theorem dXT_isStrong_7 : decode cXT_isStrong 7 = .ok (.if_icmp .ge 40, 3) := by decide +kernel
theorem dXT_isStrong_10 : decode cXT_isStrong 10 = .ok (.aload_n 0, 1) := by decide +kernel
theorem dXT_isStrong_11 : decode cXT_isStrong 11 = .ok (.getfield 21, 3) := by decide +kernel
theorem dXT_isStrong_14 : decode cXT_isStrong 14 = .ok (.iload_n 2, 1) := by decide +kernel
theorem dXT_isStrong_15 : decode cXT_isStrong 15 = .ok (.iaload, 1) := by decide +kernel
theorem dXT_isStrong_16 : decode cXT_isStrong 16 = .ok (.istore_n 3, 1) := by decide +kernel
theorem dXT_isStrong_17 : decode cXT_isStrong 17 = .ok (.iload_n 1, 1) := by decide +kernel
theorem dXT_isStrong_18 : decode cXT_isStrong 18 = .ok (.iload_n 3, 1) := by decide +kernel
theorem dXT_isStrong_19 : decode cXT_isStrong 19 = .ok (.iand, 1) := by decide +kernel
theorem dXT_isStrong_20 : decode cXT_isStrong 20 = .ok (.ifCond .eq 21, 3) := by decide +kernel
theorem dXT_isStrong_23 : decode cXT_isStrong 23 = .ok (.iload_n 1, 1) := by decide +kernel
theorem dXT_isStrong_24 : decode cXT_isStrong 24 = .ok (.iload_n 3, 1) := by decide +kernel
theorem dXT_isStrong_25 : decode cXT_isStrong 25 = .ok (.iconst (-1), 1) := by decide +kernel
theorem dXT_isStrong_26 : decode cXT_isStrong 26 = .ok (.ixor, 1) := by decide +kernel
theorem dXT_isStrong_27 : decode cXT_isStrong 27 = .ok (.iand, 1) := by decide +kernel
theorem dXT_isStrong_28 : decode cXT_isStrong 28 = .ok (.ifCond .eq 13, 3) := by decide +kernel
theorem dXT_isStrong_31 : decode cXT_isStrong 31 = .ok (.iload_n 3, 1) := by decide +kernel
theorem dXT_isStrong_32 : decode cXT_isStrong 32 = .ok (.iload_n 1, 1) := by decide +kernel
theorem dXT_isStrong_33 : decode cXT_isStrong 33 = .ok (.iconst (-1), 1) := by decide +kernel
theorem dXT_isStrong_34 : decode cXT_isStrong 34 = .ok (.ixor, 1) := by decide +kernel
theorem dXT_isStrong_35 : decode cXT_isStrong 35 = .ok (.iand, 1) := by decide +kernel
theorem dXT_isStrong_36 : decode cXT_isStrong 36 = .ok (.ifCond .eq 5, 3) := by decide +kernel
theorem dXT_isStrong_39 : decode cXT_isStrong 39 = .ok (.iconst 0, 1) := by decide +kernel
theorem dXT_isStrong_40 : decode cXT_isStrong 40 = .ok (.ireturn, 1) := by decide +kernel
theorem dXT_isStrong_41 : decode cXT_isStrong 41 = .ok (.iinc 2 1, 3) := by decide +kernel
theorem dXT_isStrong_44 : decode cXT_isStrong 44 = .ok (.goto (-42), 3) := by decide +kernel
theorem dXT_isStrong_47 : decode cXT_isStrong 47 = .ok (.iconst 1, 1) := by decide +kernel
theorem dXT_isStrong_48 : decode cXT_isStrong 48 = .ok (.ireturn, 1) := by decide +kernel
theorem dXT_splitCount_0 : decode cXT_splitCount 0 = .ok (.aload_n 0, 1) := by decide +kernel
theorem dXT_splitCount_1 : decode cXT_splitCount 1 = .ok (.getfield 44, 3) := by decide +kernel
theorem dXT_splitCount_4 : decode cXT_splitCount 4 = .ok (.ireturn, 1) := by decide +kernel
theorem dXT_nodeCount_0 : decode cXT_nodeCount 0 = .ok (.aload_n 0, 1) := by decide +kernel
theorem dXT_nodeCount_1 : decode cXT_nodeCount 1 = .ok (.getfield 47, 3) := by decide +kernel
theorem dXT_nodeCount_4 : decode cXT_nodeCount 4 = .ok (.ireturn, 1) := by decide +kernel
theorem dXT_nodeSet_0 : decode cXT_nodeSet 0 = .ok (.aload_n 0, 1) := by decide +kernel
theorem dXT_nodeSet_1 : decode cXT_nodeSet 1 = .ok (.getfield 25, 3) := by decide +kernel
theorem dXT_nodeSet_4 : decode cXT_nodeSet 4 = .ok (.iload_n 1, 1) := by decide +kernel
theorem dXT_nodeSet_5 : decode cXT_nodeSet 5 = .ok (.iaload, 1) := by decide +kernel
theorem dXT_nodeSet_6 : decode cXT_nodeSet 6 = .ok (.ireturn, 1) := by decide +kernel
theorem dXT_nodeKind_0 : decode cXT_nodeKind 0 = .ok (.aload_n 0, 1) := by decide +kernel
theorem dXT_nodeKind_1 : decode cXT_nodeKind 1 = .ok (.iload_n 1, 1) := by decide +kernel
theorem dXT_nodeKind_2 : decode cXT_nodeKind 2 = .ok (.invokevirtual 57, 3) := by decide +kernel
theorem dXT_nodeKind_5 : decode cXT_nodeKind 5 = .ok (.aload_n 0, 1) := by decide +kernel
theorem dXT_nodeKind_6 : decode cXT_nodeKind 6 = .ok (.getfield 60, 3) := by decide +kernel
theorem dXT_nodeKind_9 : decode cXT_nodeKind 9 = .ok (.aload_n 0, 1) := by decide +kernel
theorem dXT_nodeKind_10 : decode cXT_nodeKind 10 = .ok (.getfield 54, 3) := by decide +kernel
theorem dXT_nodeKind_13 : decode cXT_nodeKind 13 = .ok (.aload_n 0, 1) := by decide +kernel
theorem dXT_nodeKind_14 : decode cXT_nodeKind 14 = .ok (.getfield 54, 3) := by decide +kernel
theorem dXT_nodeKind_17 : decode cXT_nodeKind 17 = .ok (.iconst 1, 1) := by decide +kernel
theorem dXT_nodeKind_18 : decode cXT_nodeKind 18 = .ok (.isub, 1) := by decide +kernel
theorem dXT_nodeKind_19 : decode cXT_nodeKind 19 = .ok (.imul, 1) := by decide +kernel
theorem dXT_nodeKind_20 : decode cXT_nodeKind 20 = .ok (.iconst 2, 1) := by decide +kernel
theorem dXT_nodeKind_21 : decode cXT_nodeKind 21 = .ok (.idiv, 1) := by decide +kernel
theorem dXT_nodeKind_22 : decode cXT_nodeKind 22 = .ok (.if_icmp .ne 5, 3) := by decide +kernel
theorem dXT_nodeKind_25 : decode cXT_nodeKind 25 = .ok (.iconst 1, 1) := by decide +kernel
theorem dXT_nodeKind_26 : decode cXT_nodeKind 26 = .ok (.ireturn, 1) := by decide +kernel
theorem dXT_nodeKind_27 : decode cXT_nodeKind 27 = .ok (.aload_n 0, 1) := by decide +kernel
theorem dXT_nodeKind_28 : decode cXT_nodeKind 28 = .ok (.invokevirtual 63, 3) := by decide +kernel
theorem dXT_nodeKind_31 : decode cXT_nodeKind 31 = .ok (.iconst (-1), 1) := by decide +kernel
theorem dXT_nodeKind_32 : decode cXT_nodeKind 32 = .ok (.if_icmp .ne 7, 3) := by decide +kernel
theorem dXT_nodeKind_35 : decode cXT_nodeKind 35 = .ok (.iconst 3, 1) := by decide +kernel
theorem dXT_nodeKind_36 : decode cXT_nodeKind 36 = .ok (.goto 4, 3) := by decide +kernel
theorem dXT_nodeKind_39 : decode cXT_nodeKind 39 = .ok (.iconst 2, 1) := by decide +kernel
theorem dXT_nodeKind_40 : decode cXT_nodeKind 40 = .ok (.ireturn, 1) := by decide +kernel
theorem dXT_findJoins_0 : decode cXT_findJoins 0 = .ok (.aload_n 0, 1) := by decide +kernel
theorem dXT_findJoins_1 : decode cXT_findJoins 1 = .ok (.iload_n 1, 1) := by decide +kernel
theorem dXT_findJoins_2 : decode cXT_findJoins 2 = .ok (.invokevirtual 50, 3) := by decide +kernel
theorem dXT_findJoins_5 : decode cXT_findJoins 5 = .ok (.aload_n 0, 1) := by decide +kernel
theorem dXT_findJoins_6 : decode cXT_findJoins 6 = .ok (.iconst 0, 1) := by decide +kernel
theorem dXT_findJoins_7 : decode cXT_findJoins 7 = .ok (.putfield 60, 3) := by decide +kernel
theorem dXT_findJoins_10 : decode cXT_findJoins 10 = .ok (.iconst 0, 1) := by decide +kernel
theorem dXT_findJoins_11 : decode cXT_findJoins 11 = .ok (.istore_n 2, 1) := by decide +kernel
theorem dXT_findJoins_12 : decode cXT_findJoins 12 = .ok (.iload_n 2, 1) := by decide +kernel
theorem dXT_findJoins_13 : decode cXT_findJoins 13 = .ok (.aload_n 0, 1) := by decide +kernel
theorem dXT_findJoins_14 : decode cXT_findJoins 14 = .ok (.getfield 54, 3) := by decide +kernel
theorem dXT_findJoins_17 : decode cXT_findJoins 17 = .ok (.if_icmp .ge 81, 3) := by decide +kernel
theorem dXT_findJoins_20 : decode cXT_findJoins 20 = .ok (.aload_n 0, 1) := by decide +kernel
theorem dXT_findJoins_21 : decode cXT_findJoins 21 = .ok (.getfield 31, 3) := by decide +kernel
theorem dXT_findJoins_24 : decode cXT_findJoins 24 = .ok (.iload_n 2, 1) := by decide +kernel
theorem dXT_findJoins_25 : decode cXT_findJoins 25 = .ok (.iconst 0, 1) := by decide +kernel
theorem dXT_findJoins_26 : decode cXT_findJoins 26 = .ok (.iastore, 1) := by decide +kernel
theorem dXT_findJoins_27 : decode cXT_findJoins 27 = .ok (.iconst 0, 1) := by decide +kernel
theorem dXT_findJoins_28 : decode cXT_findJoins 28 = .ok (.istore_n 3, 1) := by decide +kernel
theorem dXT_findJoins_29 : decode cXT_findJoins 29 = .ok (.iload_n 3, 1) := by decide +kernel
theorem dXT_findJoins_30 : decode cXT_findJoins 30 = .ok (.iload_n 2, 1) := by decide +kernel
theorem dXT_findJoins_31 : decode cXT_findJoins 31 = .ok (.if_icmp .ge 61, 3) := by decide +kernel
theorem dXT_findJoins_34 : decode cXT_findJoins 34 = .ok (.aload_n 0, 1) := by decide +kernel
theorem dXT_findJoins_35 : decode cXT_findJoins 35 = .ok (.getfield 9, 3) := by decide +kernel
theorem dXT_findJoins_38 : decode cXT_findJoins 38 = .ok (.aload_n 0, 1) := by decide +kernel
theorem dXT_findJoins_39 : decode cXT_findJoins 39 = .ok (.getfield 28, 3) := by decide +kernel
theorem dXT_findJoins_42 : decode cXT_findJoins 42 = .ok (.iload_n 2, 1) := by decide +kernel
theorem dXT_findJoins_43 : decode cXT_findJoins 43 = .ok (.iaload, 1) := by decide +kernel
theorem dXT_findJoins_44 : decode cXT_findJoins 44 = .ok (.aload_n 0, 1) := by decide +kernel
theorem dXT_findJoins_45 : decode cXT_findJoins 45 = .ok (.getfield 28, 3) := by decide +kernel
theorem dXT_findJoins_48 : decode cXT_findJoins 48 = .ok (.iload_n 3, 1) := by decide +kernel
theorem dXT_findJoins_49 : decode cXT_findJoins 49 = .ok (.iaload, 1) := by decide +kernel
theorem dXT_findJoins_50 : decode cXT_findJoins 50 = .ok (.invokevirtual 74, 3) := by decide +kernel
theorem dXT_findJoins_53 : decode cXT_findJoins 53 = .ok (.ifCond .eq 33, 3) := by decide +kernel
theorem dXT_findJoins_56 : decode cXT_findJoins 56 = .ok (.aload_n 0, 1) := by decide +kernel
theorem dXT_findJoins_57 : decode cXT_findJoins 57 = .ok (.getfield 31, 3) := by decide +kernel
theorem dXT_findJoins_60 : decode cXT_findJoins 60 = .ok (.iload_n 2, 1) := by decide +kernel
theorem dXT_findJoins_61 : decode cXT_findJoins 61 = .ok (.dup2, 1) := by decide +kernel
theorem dXT_findJoins_62 : decode cXT_findJoins 62 = .ok (.iaload, 1) := by decide +kernel
theorem dXT_findJoins_63 : decode cXT_findJoins 63 = .ok (.iconst 1, 1) := by decide +kernel
theorem dXT_findJoins_64 : decode cXT_findJoins 64 = .ok (.iadd, 1) := by decide +kernel
theorem dXT_findJoins_65 : decode cXT_findJoins 65 = .ok (.iastore, 1) := by decide +kernel
theorem dXT_findJoins_66 : decode cXT_findJoins 66 = .ok (.aload_n 0, 1) := by decide +kernel
theorem dXT_findJoins_67 : decode cXT_findJoins 67 = .ok (.getfield 31, 3) := by decide +kernel
theorem dXT_findJoins_70 : decode cXT_findJoins 70 = .ok (.iload_n 3, 1) := by decide +kernel
theorem dXT_findJoins_71 : decode cXT_findJoins 71 = .ok (.dup2, 1) := by decide +kernel
theorem dXT_findJoins_72 : decode cXT_findJoins 72 = .ok (.iaload, 1) := by decide +kernel
theorem dXT_findJoins_73 : decode cXT_findJoins 73 = .ok (.iconst 1, 1) := by decide +kernel
theorem dXT_findJoins_74 : decode cXT_findJoins 74 = .ok (.iadd, 1) := by decide +kernel
theorem dXT_findJoins_75 : decode cXT_findJoins 75 = .ok (.iastore, 1) := by decide +kernel
theorem dXT_findJoins_76 : decode cXT_findJoins 76 = .ok (.aload_n 0, 1) := by decide +kernel
theorem dXT_findJoins_77 : decode cXT_findJoins 77 = .ok (.dup, 1) := by decide +kernel
theorem dXT_findJoins_78 : decode cXT_findJoins 78 = .ok (.getfield 60, 3) := by decide +kernel
theorem dXT_findJoins_81 : decode cXT_findJoins 81 = .ok (.iconst 1, 1) := by decide +kernel
theorem dXT_findJoins_82 : decode cXT_findJoins 82 = .ok (.iadd, 1) := by decide +kernel
theorem dXT_findJoins_83 : decode cXT_findJoins 83 = .ok (.putfield 60, 3) := by decide +kernel
theorem dXT_findJoins_86 : decode cXT_findJoins 86 = .ok (.iinc 3 1, 3) := by decide +kernel
theorem dXT_findJoins_89 : decode cXT_findJoins 89 = .ok (.goto (-60), 3) := by decide +kernel
theorem dXT_findJoins_92 : decode cXT_findJoins 92 = .ok (.iinc 2 1, 3) := by decide +kernel
theorem dXT_findJoins_95 : decode cXT_findJoins 95 = .ok (.goto (-83), 3) := by decide +kernel
theorem dXT_findJoins_98 : decode cXT_findJoins 98 = .ok (.return_, 1) := by decide +kernel
theorem dXT_findParts_0 : decode cXT_findParts 0 = .ok (.aload_n 0, 1) := by decide +kernel
theorem dXT_findParts_1 : decode cXT_findParts 1 = .ok (.getfield 34, 3) := by decide +kernel
theorem dXT_findParts_4 : decode cXT_findParts 4 = .ok (.istore_n 2, 1) := by decide +kernel
theorem dXT_findParts_5 : decode cXT_findParts 5 = .ok (.aload_n 0, 1) := by decide +kernel
theorem dXT_findParts_6 : decode cXT_findParts 6 = .ok (.iconst 0, 1) := by decide +kernel
theorem dXT_findParts_7 : decode cXT_findParts 7 = .ok (.putfield 54, 3) := by decide +kernel
theorem dXT_findParts_10 : decode cXT_findParts 10 = .ok (.iconst 0, 1) := by decide +kernel
theorem dXT_findParts_11 : decode cXT_findParts 11 = .ok (.istore_n 3, 1) := by decide +kernel
theorem dXT_findParts_12 : decode cXT_findParts 12 = .ok (.iload_n 3, 1) := by decide +kernel
theorem dXT_findParts_13 : decode cXT_findParts 13 = .ok (.aload_n 0, 1) := by decide +kernel
theorem dXT_findParts_14 : decode cXT_findParts 14 = .ok (.getfield 9, 3) := by decide +kernel
theorem dXT_findParts_17 : decode cXT_findParts 17 = .ok (.invokevirtual 15, 3) := by decide +kernel
theorem dXT_findParts_20 : decode cXT_findParts 20 = .ok (.if_icmp .ge 38, 3) := by decide +kernel
theorem dXT_findParts_23 : decode cXT_findParts 23 = .ok (.iload_n 2, 1) := by decide +kernel
theorem dXT_findParts_24 : decode cXT_findParts 24 = .ok (.iload_n 3, 1) := by decide +kernel
theorem dXT_findParts_25 : decode cXT_findParts 25 = .ok (.invokestatic 86, 3) := by decide +kernel
theorem dXT_findParts_28 : decode cXT_findParts 28 = .ok (.ifCond .eq 24, 3) := by decide +kernel
theorem dXT_findParts_31 : decode cXT_findParts 31 = .ok (.aload_n 0, 1) := by decide +kernel
theorem dXT_findParts_32 : decode cXT_findParts 32 = .ok (.iload_n 1, 1) := by decide +kernel
theorem dXT_findParts_33 : decode cXT_findParts 33 = .ok (.iload_n 3, 1) := by decide +kernel
theorem dXT_findParts_34 : decode cXT_findParts 34 = .ok (.invokevirtual 70, 3) := by decide +kernel
theorem dXT_findParts_37 : decode cXT_findParts 37 = .ok (.istore 4, 2) := by decide +kernel
theorem dXT_findParts_39 : decode cXT_findParts 39 = .ok (.iload_n 2, 1) := by decide +kernel
theorem dXT_findParts_40 : decode cXT_findParts 40 = .ok (.iload 4, 2) := by decide +kernel
theorem dXT_findParts_42 : decode cXT_findParts 42 = .ok (.iconst (-1), 1) := by decide +kernel
theorem dXT_findParts_43 : decode cXT_findParts 43 = .ok (.ixor, 1) := by decide +kernel
theorem dXT_findParts_44 : decode cXT_findParts 44 = .ok (.iand, 1) := by decide +kernel
theorem dXT_findParts_45 : decode cXT_findParts 45 = .ok (.istore_n 2, 1) := by decide +kernel
theorem dXT_findParts_46 : decode cXT_findParts 46 = .ok (.aload_n 0, 1) := by decide +kernel
theorem dXT_findParts_47 : decode cXT_findParts 47 = .ok (.iload 4, 2) := by decide +kernel
theorem dXT_findParts_49 : decode cXT_findParts 49 = .ok (.invokevirtual 96, 3) := by decide +kernel
theorem dXT_findParts_52 : decode cXT_findParts 52 = .ok (.iinc 3 1, 3) := by decide +kernel
theorem dXT_findParts_55 : decode cXT_findParts 55 = .ok (.goto (-43), 3) := by decide +kernel
theorem dXT_findParts_58 : decode cXT_findParts 58 = .ok (.return_, 1) := by decide +kernel
theorem dXT_partWith_0 : decode cXT_partWith 0 = .ok (.aload_n 0, 1) := by decide +kernel
theorem dXT_partWith_1 : decode cXT_partWith 1 = .ok (.getfield 25, 3) := by decide +kernel
theorem dXT_partWith_4 : decode cXT_partWith 4 = .ok (.iload_n 1, 1) := by decide +kernel
theorem dXT_partWith_5 : decode cXT_partWith 5 = .ok (.iaload, 1) := by decide +kernel
theorem dXT_partWith_6 : decode cXT_partWith 6 = .ok (.istore_n 3, 1) := by decide +kernel
theorem dXT_partWith_7 : decode cXT_partWith 7 = .ok (.iload_n 3, 1) := by decide +kernel
theorem dXT_partWith_8 : decode cXT_partWith 8 = .ok (.iload_n 2, 1) := by decide +kernel
theorem dXT_partWith_9 : decode cXT_partWith 9 = .ok (.invokestatic 86, 3) := by decide +kernel
theorem dXT_partWith_12 : decode cXT_partWith 12 = .ok (.ifCond .ne 12, 3) := by decide +kernel
theorem dXT_partWith_15 : decode cXT_partWith 15 = .ok (.aload_n 0, 1) := by decide +kernel
theorem dXT_partWith_16 : decode cXT_partWith 16 = .ok (.getfield 34, 3) := by decide +kernel
theorem dXT_partWith_19 : decode cXT_partWith 19 = .ok (.iload_n 3, 1) := by decide +kernel
theorem dXT_partWith_20 : decode cXT_partWith 20 = .ok (.iconst (-1), 1) := by decide +kernel
theorem dXT_partWith_21 : decode cXT_partWith 21 = .ok (.ixor, 1) := by decide +kernel
theorem dXT_partWith_22 : decode cXT_partWith 22 = .ok (.iand, 1) := by decide +kernel
theorem dXT_partWith_23 : decode cXT_partWith 23 = .ok (.ireturn, 1) := by decide +kernel
theorem dXT_partWith_24 : decode cXT_partWith 24 = .ok (.iconst 1, 1) := by decide +kernel
theorem dXT_partWith_25 : decode cXT_partWith 25 = .ok (.iload_n 2, 1) := by decide +kernel
theorem dXT_partWith_26 : decode cXT_partWith 26 = .ok (.ishl, 1) := by decide +kernel
theorem dXT_partWith_27 : decode cXT_partWith 27 = .ok (.istore 4, 2) := by decide +kernel
theorem dXT_partWith_29 : decode cXT_partWith 29 = .ok (.iconst 1, 1) := by decide +kernel
theorem dXT_partWith_30 : decode cXT_partWith 30 = .ok (.istore 5, 2) := by decide +kernel
theorem dXT_partWith_32 : decode cXT_partWith 32 = .ok (.iload 5, 2) := by decide +kernel
theorem dXT_partWith_34 : decode cXT_partWith 34 = .ok (.aload_n 0, 1) := by decide +kernel
theorem dXT_partWith_35 : decode cXT_partWith 35 = .ok (.getfield 47, 3) := by decide +kernel
theorem dXT_partWith_38 : decode cXT_partWith 38 = .ok (.if_icmp .ge 46, 3) := by decide +kernel
theorem dXT_partWith_41 : decode cXT_partWith 41 = .ok (.aload_n 0, 1) := by decide +kernel
theorem dXT_partWith_42 : decode cXT_partWith 42 = .ok (.getfield 25, 3) := by decide +kernel
theorem dXT_partWith_45 : decode cXT_partWith 45 = .ok (.iload 5, 2) := by decide +kernel
theorem dXT_partWith_47 : decode cXT_partWith 47 = .ok (.iaload, 1) := by decide +kernel
theorem dXT_partWith_48 : decode cXT_partWith 48 = .ok (.istore 6, 2) := by decide +kernel
theorem dXT_partWith_50 : decode cXT_partWith 50 = .ok (.iload 6, 2) := by decide +kernel
theorem dXT_partWith_52 : decode cXT_partWith 52 = .ok (.iload_n 2, 1) := by decide +kernel
theorem dXT_partWith_53 : decode cXT_partWith 53 = .ok (.invokestatic 86, 3) := by decide +kernel
theorem dXT_partWith_56 : decode cXT_partWith 56 = .ok (.ifCond .eq 22, 3) := by decide +kernel
theorem dXT_partWith_59 : decode cXT_partWith 59 = .ok (.iload 6, 2) := by decide +kernel
theorem dXT_partWith_61 : decode cXT_partWith 61 = .ok (.iload_n 3, 1) := by decide +kernel
theorem dXT_partWith_62 : decode cXT_partWith 62 = .ok (.if_icmp .eq 16, 3) := by decide +kernel
theorem dXT_partWith_65 : decode cXT_partWith 65 = .ok (.iload 6, 2) := by decide +kernel
theorem dXT_partWith_67 : decode cXT_partWith 67 = .ok (.iload_n 3, 1) := by decide +kernel
theorem dXT_partWith_68 : decode cXT_partWith 68 = .ok (.iconst (-1), 1) := by decide +kernel
theorem dXT_partWith_69 : decode cXT_partWith 69 = .ok (.ixor, 1) := by decide +kernel
theorem dXT_partWith_70 : decode cXT_partWith 70 = .ok (.iand, 1) := by decide +kernel
theorem dXT_partWith_71 : decode cXT_partWith 71 = .ok (.ifCond .ne 7, 3) := by decide +kernel
theorem dXT_partWith_74 : decode cXT_partWith 74 = .ok (.iload 6, 2) := by decide +kernel
theorem dXT_partWith_76 : decode cXT_partWith 76 = .ok (.istore 4, 2) := by decide +kernel
theorem dXT_partWith_78 : decode cXT_partWith 78 = .ok (.iinc 5 1, 3) := by decide +kernel
theorem dXT_partWith_81 : decode cXT_partWith 81 = .ok (.goto (-49), 3) := by decide +kernel
theorem dXT_partWith_84 : decode cXT_partWith 84 = .ok (.iload 4, 2) := by decide +kernel
theorem dXT_partWith_86 : decode cXT_partWith 86 = .ok (.ireturn, 1) := by decide +kernel
theorem dXT_addPart_0 : decode cXT_addPart 0 = .ok (.aload_n 0, 1) := by decide +kernel
