theorem dXJ_bitCount_0 : decode cXJ_bitCount 0 = .ok (.iload_n 0, 1) := by decide +kernel
theorem dXJ_bitCount_1 : decode cXJ_bitCount 1 = .ok (.iload_n 0, 1) := by decide +kernel
theorem dXJ_bitCount_2 : decode cXJ_bitCount 2 = .ok (.iconst 1, 1) := by decide +kernel
theorem dXJ_bitCount_3 : decode cXJ_bitCount 3 = .ok (.iushr, 1) := by decide +kernel
theorem dXJ_bitCount_4 : decode cXJ_bitCount 4 = .ok (.ldc_w 265, 3) := by decide +kernel
theorem dXJ_bitCount_7 : decode cXJ_bitCount 7 = .ok (.iand, 1) := by decide +kernel
theorem dXJ_bitCount_8 : decode cXJ_bitCount 8 = .ok (.isub, 1) := by decide +kernel
theorem dXJ_bitCount_9 : decode cXJ_bitCount 9 = .ok (.istore_n 0, 1) := by decide +kernel
theorem dXJ_bitCount_10 : decode cXJ_bitCount 10 = .ok (.iload_n 0, 1) := by decide +kernel
theorem dXJ_bitCount_11 : decode cXJ_bitCount 11 = .ok (.ldc_w 266, 3) := by decide +kernel
theorem dXJ_bitCount_14 : decode cXJ_bitCount 14 = .ok (.iand, 1) := by decide +kernel
theorem dXJ_bitCount_15 : decode cXJ_bitCount 15 = .ok (.iload_n 0, 1) := by decide +kernel
theorem dXJ_bitCount_16 : decode cXJ_bitCount 16 = .ok (.iconst 2, 1) := by decide +kernel
theorem dXJ_bitCount_17 : decode cXJ_bitCount 17 = .ok (.iushr, 1) := by decide +kernel
theorem dXJ_bitCount_18 : decode cXJ_bitCount 18 = .ok (.ldc_w 266, 3) := by decide +kernel
theorem dXJ_bitCount_21 : decode cXJ_bitCount 21 = .ok (.iand, 1) := by decide +kernel
theorem dXJ_bitCount_22 : decode cXJ_bitCount 22 = .ok (.iadd, 1) := by decide +kernel
theorem dXJ_bitCount_23 : decode cXJ_bitCount 23 = .ok (.istore_n 0, 1) := by decide +kernel
theorem dXJ_bitCount_24 : decode cXJ_bitCount 24 = .ok (.iload_n 0, 1) := by decide +kernel
theorem dXJ_bitCount_25 : decode cXJ_bitCount 25 = .ok (.iload_n 0, 1) := by decide +kernel
theorem dXJ_bitCount_26 : decode cXJ_bitCount 26 = .ok (.iconst 4, 1) := by decide +kernel
theorem dXJ_bitCount_27 : decode cXJ_bitCount 27 = .ok (.iushr, 1) := by decide +kernel
theorem dXJ_bitCount_28 : decode cXJ_bitCount 28 = .ok (.iadd, 1) := by decide +kernel
theorem dXJ_bitCount_29 : decode cXJ_bitCount 29 = .ok (.ldc_w 267, 3) := by decide +kernel
theorem dXJ_bitCount_32 : decode cXJ_bitCount 32 = .ok (.iand, 1) := by decide +kernel
theorem dXJ_bitCount_33 : decode cXJ_bitCount 33 = .ok (.istore_n 0, 1) := by decide +kernel
theorem dXJ_bitCount_34 : decode cXJ_bitCount 34 = .ok (.iload_n 0, 1) := by decide +kernel
theorem dXJ_bitCount_35 : decode cXJ_bitCount 35 = .ok (.iload_n 0, 1) := by decide +kernel
theorem dXJ_bitCount_36 : decode cXJ_bitCount 36 = .ok (.bipush 8, 2) := by decide +kernel
theorem dXJ_bitCount_38 : decode cXJ_bitCount 38 = .ok (.iushr, 1) := by decide +kernel
theorem dXJ_bitCount_39 : decode cXJ_bitCount 39 = .ok (.iadd, 1) := by decide +kernel
theorem dXJ_bitCount_40 : decode cXJ_bitCount 40 = .ok (.istore_n 0, 1) := by decide +kernel
theorem dXJ_bitCount_41 : decode cXJ_bitCount 41 = .ok (.iload_n 0, 1) := by decide +kernel
theorem dXJ_bitCount_42 : decode cXJ_bitCount 42 = .ok (.iload_n 0, 1) := by decide +kernel
theorem dXJ_bitCount_43 : decode cXJ_bitCount 43 = .ok (.bipush 16, 2) := by decide +kernel
theorem dXJ_bitCount_45 : decode cXJ_bitCount 45 = .ok (.iushr, 1) := by decide +kernel
theorem dXJ_bitCount_46 : decode cXJ_bitCount 46 = .ok (.iadd, 1) := by decide +kernel
theorem dXJ_bitCount_47 : decode cXJ_bitCount 47 = .ok (.istore_n 0, 1) := by decide +kernel
theorem dXJ_bitCount_48 : decode cXJ_bitCount 48 = .ok (.iload_n 0, 1) := by decide +kernel
theorem dXJ_bitCount_49 : decode cXJ_bitCount 49 = .ok (.bipush 63, 2) := by decide +kernel
theorem dXJ_bitCount_51 : decode cXJ_bitCount 51 = .ok (.iand, 1) := by decide +kernel
theorem dXJ_bitCount_52 : decode cXJ_bitCount 52 = .ok (.ireturn, 1) := by decide +kernel
