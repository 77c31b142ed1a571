theorem dJ6_numberOfTrailingZeros_0f7a4_0 : decode cJ6_numberOfTrailingZeros_0f7a4 0 = .ok (.iload_n 0, 1) := by decide +kernel
theorem dJ6_numberOfTrailingZeros_0f7a4_1 : decode cJ6_numberOfTrailingZeros_0f7a4 1 = .ok (.iconst (-1), 1) := by decide +kernel
theorem dJ6_numberOfTrailingZeros_0f7a4_2 : decode cJ6_numberOfTrailingZeros_0f7a4 2 = .ok (.ixor, 1) := by decide +kernel
theorem dJ6_numberOfTrailingZeros_0f7a4_3 : decode cJ6_numberOfTrailingZeros_0f7a4 3 = .ok (.iload_n 0, 1) := by decide +kernel
theorem dJ6_numberOfTrailingZeros_0f7a4_4 : decode cJ6_numberOfTrailingZeros_0f7a4 4 = .ok (.iconst 1, 1) := by decide +kernel
theorem dJ6_numberOfTrailingZeros_0f7a4_5 : decode cJ6_numberOfTrailingZeros_0f7a4 5 = .ok (.isub, 1) := by decide +kernel
theorem dJ6_numberOfTrailingZeros_0f7a4_6 : decode cJ6_numberOfTrailingZeros_0f7a4 6 = .ok (.iand, 1) := by decide +kernel
theorem dJ6_numberOfTrailingZeros_0f7a4_7 : decode cJ6_numberOfTrailingZeros_0f7a4 7 = .ok (.istore_n 0, 1) := by decide +kernel
theorem dJ6_numberOfTrailingZeros_0f7a4_8 : decode cJ6_numberOfTrailingZeros_0f7a4 8 = .ok (.iload_n 0, 1) := by decide +kernel
theorem dJ6_numberOfTrailingZeros_0f7a4_9 : decode cJ6_numberOfTrailingZeros_0f7a4 9 = .ok (.ifCond .gt 8, 3) := by decide +kernel
theorem dJ6_numberOfTrailingZeros_0f7a4_12 : decode cJ6_numberOfTrailingZeros_0f7a4 12 = .ok (.iload_n 0, 1) := by decide +kernel
theorem dJ6_numberOfTrailingZeros_0f7a4_13 : decode cJ6_numberOfTrailingZeros_0f7a4 13 = .ok (.bipush 32, 2) := by decide +kernel
theorem dJ6_numberOfTrailingZeros_0f7a4_15 : decode cJ6_numberOfTrailingZeros_0f7a4 15 = .ok (.iand, 1) := by decide +kernel
theorem dJ6_numberOfTrailingZeros_0f7a4_16 : decode cJ6_numberOfTrailingZeros_0f7a4 16 = .ok (.ireturn, 1) := by decide +kernel
theorem dJ6_numberOfTrailingZeros_0f7a4_17 : decode cJ6_numberOfTrailingZeros_0f7a4 17 = .ok (.iconst 1, 1) := by decide +kernel
theorem dJ6_numberOfTrailingZeros_0f7a4_18 : decode cJ6_numberOfTrailingZeros_0f7a4 18 = .ok (.istore_n 1, 1) := by decide +kernel
theorem dJ6_numberOfTrailingZeros_0f7a4_19 : decode cJ6_numberOfTrailingZeros_0f7a4 19 = .ok (.iload_n 0, 1) := by decide +kernel
theorem dJ6_numberOfTrailingZeros_0f7a4_20 : decode cJ6_numberOfTrailingZeros_0f7a4 20 = .ok (.ldc_w 264, 3) := by decide +kernel
theorem dJ6_numberOfTrailingZeros_0f7a4_23 : decode cJ6_numberOfTrailingZeros_0f7a4 23 = .ok (.if_icmp .le 11, 3) := by decide +kernel
theorem dJ6_numberOfTrailingZeros_0f7a4_26 : decode cJ6_numberOfTrailingZeros_0f7a4 26 = .ok (.iinc 1 16, 3) := by decide +kernel
theorem dJ6_numberOfTrailingZeros_0f7a4_29 : decode cJ6_numberOfTrailingZeros_0f7a4 29 = .ok (.iload_n 0, 1) := by decide +kernel
theorem dJ6_numberOfTrailingZeros_0f7a4_30 : decode cJ6_numberOfTrailingZeros_0f7a4 30 = .ok (.bipush 16, 2) := by decide +kernel
theorem dJ6_numberOfTrailingZeros_0f7a4_32 : decode cJ6_numberOfTrailingZeros_0f7a4 32 = .ok (.iushr, 1) := by decide +kernel
theorem dJ6_numberOfTrailingZeros_0f7a4_33 : decode cJ6_numberOfTrailingZeros_0f7a4 33 = .ok (.istore_n 0, 1) := by decide +kernel
theorem dJ6_numberOfTrailingZeros_0f7a4_34 : decode cJ6_numberOfTrailingZeros_0f7a4 34 = .ok (.iload_n 0, 1) := by decide +kernel
theorem dJ6_numberOfTrailingZeros_0f7a4_35 : decode cJ6_numberOfTrailingZeros_0f7a4 35 = .ok (.sipush 256, 3) := by decide +kernel
theorem dJ6_numberOfTrailingZeros_0f7a4_38 : decode cJ6_numberOfTrailingZeros_0f7a4 38 = .ok (.if_icmp .le 11, 3) := by decide +kernel
theorem dJ6_numberOfTrailingZeros_0f7a4_41 : decode cJ6_numberOfTrailingZeros_0f7a4 41 = .ok (.iinc 1 8, 3) := by decide +kernel
theorem dJ6_numberOfTrailingZeros_0f7a4_44 : decode cJ6_numberOfTrailingZeros_0f7a4 44 = .ok (.iload_n 0, 1) := by decide +kernel
theorem dJ6_numberOfTrailingZeros_0f7a4_45 : decode cJ6_numberOfTrailingZeros_0f7a4 45 = .ok (.bipush 8, 2) := by decide +kernel
theorem dJ6_numberOfTrailingZeros_0f7a4_47 : decode cJ6_numberOfTrailingZeros_0f7a4 47 = .ok (.iushr, 1) := by decide +kernel
theorem dJ6_numberOfTrailingZeros_0f7a4_48 : decode cJ6_numberOfTrailingZeros_0f7a4 48 = .ok (.istore_n 0, 1) := by decide +kernel
theorem dJ6_numberOfTrailingZeros_0f7a4_49 : decode cJ6_numberOfTrailingZeros_0f7a4 49 = .ok (.iload_n 0, 1) := by decide +kernel
theorem dJ6_numberOfTrailingZeros_0f7a4_50 : decode cJ6_numberOfTrailingZeros_0f7a4 50 = .ok (.bipush 16, 2) := by decide +kernel
theorem dJ6_numberOfTrailingZeros_0f7a4_52 : decode cJ6_numberOfTrailingZeros_0f7a4 52 = .ok (.if_icmp .le 10, 3) := by decide +kernel
theorem dJ6_numberOfTrailingZeros_0f7a4_55 : decode cJ6_numberOfTrailingZeros_0f7a4 55 = .ok (.iinc 1 4, 3) := by decide +kernel
theorem dJ6_numberOfTrailingZeros_0f7a4_58 : decode cJ6_numberOfTrailingZeros_0f7a4 58 = .ok (.iload_n 0, 1) := by decide +kernel
theorem dJ6_numberOfTrailingZeros_0f7a4_59 : decode cJ6_numberOfTrailingZeros_0f7a4 59 = .ok (.iconst 4, 1) := by decide +kernel
theorem dJ6_numberOfTrailingZeros_0f7a4_60 : decode cJ6_numberOfTrailingZeros_0f7a4 60 = .ok (.iushr, 1) := by decide +kernel
theorem dJ6_numberOfTrailingZeros_0f7a4_61 : decode cJ6_numberOfTrailingZeros_0f7a4 61 = .ok (.istore_n 0, 1) := by decide +kernel
theorem dJ6_numberOfTrailingZeros_0f7a4_62 : decode cJ6_numberOfTrailingZeros_0f7a4 62 = .ok (.iload_n 0, 1) := by decide +kernel
theorem dJ6_numberOfTrailingZeros_0f7a4_63 : decode cJ6_numberOfTrailingZeros_0f7a4 63 = .ok (.iconst 4, 1) := by decide +kernel
theorem dJ6_numberOfTrailingZeros_0f7a4_64 : decode cJ6_numberOfTrailingZeros_0f7a4 64 = .ok (.if_icmp .le 10, 3) := by decide +kernel
theorem dJ6_numberOfTrailingZeros_0f7a4_67 : decode cJ6_numberOfTrailingZeros_0f7a4 67 = .ok (.iinc 1 2, 3) := by decide +kernel
theorem dJ6_numberOfTrailingZeros_0f7a4_70 : decode cJ6_numberOfTrailingZeros_0f7a4 70 = .ok (.iload_n 0, 1) := by decide +kernel
theorem dJ6_numberOfTrailingZeros_0f7a4_71 : decode cJ6_numberOfTrailingZeros_0f7a4 71 = .ok (.iconst 2, 1) := by decide +kernel
theorem dJ6_numberOfTrailingZeros_0f7a4_72 : decode cJ6_numberOfTrailingZeros_0f7a4 72 = .ok (.iushr, 1) := by decide +kernel
theorem dJ6_numberOfTrailingZeros_0f7a4_73 : decode cJ6_numberOfTrailingZeros_0f7a4 73 = .ok (.istore_n 0, 1) := by decide +kernel
theorem dJ6_numberOfTrailingZeros_0f7a4_74 : decode cJ6_numberOfTrailingZeros_0f7a4 74 = .ok (.iload_n 1, 1) := by decide +kernel
theorem dJ6_numberOfTrailingZeros_0f7a4_75 : decode cJ6_numberOfTrailingZeros_0f7a4 75 = .ok (.iload_n 0, 1) := by decide +kernel
theorem dJ6_numberOfTrailingZeros_0f7a4_76 : decode cJ6_numberOfTrailingZeros_0f7a4 76 = .ok (.iconst 1, 1) := by decide +kernel
theorem dJ6_numberOfTrailingZeros_0f7a4_77 : decode cJ6_numberOfTrailingZeros_0f7a4 77 = .ok (.iushr, 1) := by decide +kernel
theorem dJ6_numberOfTrailingZeros_0f7a4_78 : decode cJ6_numberOfTrailingZeros_0f7a4 78 = .ok (.iadd, 1) := by decide +kernel
theorem dJ6_numberOfTrailingZeros_0f7a4_79 : decode cJ6_numberOfTrailingZeros_0f7a4 79 = .ok (.ireturn, 1) := by decide +kernel
theorem dJ6_bitCount_0f7a4_0 : decode cJ6_bitCount_0f7a4 0 = .ok (.iload_n 0, 1) := by decide +kernel
theorem dJ6_bitCount_0f7a4_1 : decode cJ6_bitCount_0f7a4 1 = .ok (.iload_n 0, 1) := by decide +kernel
theorem dJ6_bitCount_0f7a4_2 : decode cJ6_bitCount_0f7a4 2 = .ok (.iconst 1, 1) := by decide +kernel
theorem dJ6_bitCount_0f7a4_3 : decode cJ6_bitCount_0f7a4 3 = .ok (.iushr, 1) := by decide +kernel
theorem dJ6_bitCount_0f7a4_4 : decode cJ6_bitCount_0f7a4 4 = .ok (.ldc_w 265, 3) := by decide +kernel
theorem dJ6_bitCount_0f7a4_7 : decode cJ6_bitCount_0f7a4 7 = .ok (.iand, 1) := by decide +kernel
theorem dJ6_bitCount_0f7a4_8 : decode cJ6_bitCount_0f7a4 8 = .ok (.isub, 1) := by decide +kernel
theorem dJ6_bitCount_0f7a4_9 : decode cJ6_bitCount_0f7a4 9 = .ok (.istore_n 0, 1) := by decide +kernel
theorem dJ6_bitCount_0f7a4_10 : decode cJ6_bitCount_0f7a4 10 = .ok (.iload_n 0, 1) := by decide +kernel
theorem dJ6_bitCount_0f7a4_11 : decode cJ6_bitCount_0f7a4 11 = .ok (.ldc_w 266, 3) := by decide +kernel
theorem dJ6_bitCount_0f7a4_14 : decode cJ6_bitCount_0f7a4 14 = .ok (.iand, 1) := by decide +kernel
theorem dJ6_bitCount_0f7a4_15 : decode cJ6_bitCount_0f7a4 15 = .ok (.iload_n 0, 1) := by decide +kernel
theorem dJ6_bitCount_0f7a4_16 : decode cJ6_bitCount_0f7a4 16 = .ok (.iconst 2, 1) := by decide +kernel
theorem dJ6_bitCount_0f7a4_17 : decode cJ6_bitCount_0f7a4 17 = .ok (.iushr, 1) := by decide +kernel
theorem dJ6_bitCount_0f7a4_18 : decode cJ6_bitCount_0f7a4 18 = .ok (.ldc_w 266, 3) := by decide +kernel
theorem dJ6_bitCount_0f7a4_21 : decode cJ6_bitCount_0f7a4 21 = .ok (.iand, 1) := by decide +kernel
theorem dJ6_bitCount_0f7a4_22 : decode cJ6_bitCount_0f7a4 22 = .ok (.iadd, 1) := by decide +kernel
theorem dJ6_bitCount_0f7a4_23 : decode cJ6_bitCount_0f7a4 23 = .ok (.istore_n 0, 1) := by decide +kernel
theorem dJ6_bitCount_0f7a4_24 : decode cJ6_bitCount_0f7a4 24 = .ok (.iload_n 0, 1) := by decide +kernel
theorem dJ6_bitCount_0f7a4_25 : decode cJ6_bitCount_0f7a4 25 = .ok (.iload_n 0, 1) := by decide +kernel
theorem dJ6_bitCount_0f7a4_26 : decode cJ6_bitCount_0f7a4 26 = .ok (.iconst 4, 1) := by decide +kernel
theorem dJ6_bitCount_0f7a4_27 : decode cJ6_bitCount_0f7a4 27 = .ok (.iushr, 1) := by decide +kernel
theorem dJ6_bitCount_0f7a4_28 : decode cJ6_bitCount_0f7a4 28 = .ok (.iadd, 1) := by decide +kernel
theorem dJ6_bitCount_0f7a4_29 : decode cJ6_bitCount_0f7a4 29 = .ok (.ldc_w 267, 3) := by decide +kernel
theorem dJ6_bitCount_0f7a4_32 : decode cJ6_bitCount_0f7a4 32 = .ok (.iand, 1) := by decide +kernel
theorem dJ6_bitCount_0f7a4_33 : decode cJ6_bitCount_0f7a4 33 = .ok (.istore_n 0, 1) := by decide +kernel
theorem dJ6_bitCount_0f7a4_34 : decode cJ6_bitCount_0f7a4 34 = .ok (.iload_n 0, 1) := by decide +kernel
theorem dJ6_bitCount_0f7a4_35 : decode cJ6_bitCount_0f7a4 35 = .ok (.iload_n 0, 1) := by decide +kernel
theorem dJ6_bitCount_0f7a4_36 : decode cJ6_bitCount_0f7a4 36 = .ok (.bipush 8, 2) := by decide +kernel
theorem dJ6_bitCount_0f7a4_38 : decode cJ6_bitCount_0f7a4 38 = .ok (.iushr, 1) := by decide +kernel
theorem dJ6_bitCount_0f7a4_39 : decode cJ6_bitCount_0f7a4 39 = .ok (.iadd, 1) := by decide +kernel
theorem dJ6_bitCount_0f7a4_40 : decode cJ6_bitCount_0f7a4 40 = .ok (.istore_n 0, 1) := by decide +kernel
theorem dJ6_bitCount_0f7a4_41 : decode cJ6_bitCount_0f7a4 41 = .ok (.iload_n 0, 1) := by decide +kernel
theorem dJ6_bitCount_0f7a4_42 : decode cJ6_bitCount_0f7a4 42 = .ok (.iload_n 0, 1) := by decide +kernel
theorem dJ6_bitCount_0f7a4_43 : decode cJ6_bitCount_0f7a4 43 = .ok (.bipush 16, 2) := by decide +kernel
theorem dJ6_bitCount_0f7a4_45 : decode cJ6_bitCount_0f7a4 45 = .ok (.iushr, 1) := by decide +kernel
theorem dJ6_bitCount_0f7a4_46 : decode cJ6_bitCount_0f7a4 46 = .ok (.iadd, 1) := by decide +kernel
theorem dJ6_bitCount_0f7a4_47 : decode cJ6_bitCount_0f7a4 47 = .ok (.istore_n 0, 1) := by decide +kernel
theorem dJ6_bitCount_0f7a4_48 : decode cJ6_bitCount_0f7a4 48 = .ok (.iload_n 0, 1) := by decide +kernel
theorem dJ6_bitCount_0f7a4_49 : decode cJ6_bitCount_0f7a4 49 = .ok (.bipush 63, 2) := by decide +kernel
theorem dJ6_bitCount_0f7a4_51 : decode cJ6_bitCount_0f7a4 51 = .ok (.iand, 1) := by decide +kernel
theorem dJ6_bitCount_0f7a4_52 : decode cJ6_bitCount_0f7a4 52 = .ok (.ireturn, 1) := by decide +kernel
theorem dJ13_bitCount_95d88_0 : decode cJ13_bitCount_95d88 0 = .ok (.lload_n 0, 1) := by decide +kernel
theorem dJ13_bitCount_95d88_1 : decode cJ13_bitCount_95d88 1 = .ok (.lload_n 0, 1) := by decide +kernel
theorem dJ13_bitCount_95d88_2 : decode cJ13_bitCount_95d88 2 = .ok (.iconst 1, 1) := by decide +kernel
theorem dJ13_bitCount_95d88_3 : decode cJ13_bitCount_95d88 3 = .ok (.lushr, 1) := by decide +kernel
theorem dJ13_bitCount_95d88_4 : decode cJ13_bitCount_95d88 4 = .ok (.ldc2_w 314, 3) := by decide +kernel
theorem dJ13_bitCount_95d88_7 : decode cJ13_bitCount_95d88 7 = .ok (.land, 1) := by decide +kernel
theorem dJ13_bitCount_95d88_8 : decode cJ13_bitCount_95d88 8 = .ok (.lsub, 1) := by decide +kernel
theorem dJ13_bitCount_95d88_9 : decode cJ13_bitCount_95d88 9 = .ok (.lstore_n 0, 1) := by decide +kernel
theorem dJ13_bitCount_95d88_10 : decode cJ13_bitCount_95d88 10 = .ok (.lload_n 0, 1) := by decide +kernel
theorem dJ13_bitCount_95d88_11 : decode cJ13_bitCount_95d88 11 = .ok (.ldc2_w 316, 3) := by decide +kernel
theorem dJ13_bitCount_95d88_14 : decode cJ13_bitCount_95d88 14 = .ok (.land, 1) := by decide +kernel
theorem dJ13_bitCount_95d88_15 : decode cJ13_bitCount_95d88 15 = .ok (.lload_n 0, 1) := by decide +kernel
theorem dJ13_bitCount_95d88_16 : decode cJ13_bitCount_95d88 16 = .ok (.iconst 2, 1) := by decide +kernel
theorem dJ13_bitCount_95d88_17 : decode cJ13_bitCount_95d88 17 = .ok (.lushr, 1) := by decide +kernel
theorem dJ13_bitCount_95d88_18 : decode cJ13_bitCount_95d88 18 = .ok (.ldc2_w 316, 3) := by decide +kernel
theorem dJ13_bitCount_95d88_21 : decode cJ13_bitCount_95d88 21 = .ok (.land, 1) := by decide +kernel
theorem dJ13_bitCount_95d88_22 : decode cJ13_bitCount_95d88 22 = .ok (.ladd, 1) := by decide +kernel
theorem dJ13_bitCount_95d88_23 : decode cJ13_bitCount_95d88 23 = .ok (.lstore_n 0, 1) := by decide +kernel
theorem dJ13_bitCount_95d88_24 : decode cJ13_bitCount_95d88 24 = .ok (.lload_n 0, 1) := by decide +kernel
theorem dJ13_bitCount_95d88_25 : decode cJ13_bitCount_95d88 25 = .ok (.lload_n 0, 1) := by decide +kernel
theorem dJ13_bitCount_95d88_26 : decode cJ13_bitCount_95d88 26 = .ok (.iconst 4, 1) := by decide +kernel
theorem dJ13_bitCount_95d88_27 : decode cJ13_bitCount_95d88 27 = .ok (.lushr, 1) := by decide +kernel
theorem dJ13_bitCount_95d88_28 : decode cJ13_bitCount_95d88 28 = .ok (.ladd, 1) := by decide +kernel
theorem dJ13_bitCount_95d88_29 : decode cJ13_bitCount_95d88 29 = .ok (.ldc2_w 318, 3) := by decide +kernel
theorem dJ13_bitCount_95d88_32 : decode cJ13_bitCount_95d88 32 = .ok (.land, 1) := by decide +kernel
theorem dJ13_bitCount_95d88_33 : decode cJ13_bitCount_95d88 33 = .ok (.lstore_n 0, 1) := by decide +kernel
theorem dJ13_bitCount_95d88_34 : decode cJ13_bitCount_95d88 34 = .ok (.lload_n 0, 1) := by decide +kernel
theorem dJ13_bitCount_95d88_35 : decode cJ13_bitCount_95d88 35 = .ok (.lload_n 0, 1) := by decide +kernel
theorem dJ13_bitCount_95d88_36 : decode cJ13_bitCount_95d88 36 = .ok (.bipush 8, 2) := by decide +kernel
theorem dJ13_bitCount_95d88_38 : decode cJ13_bitCount_95d88 38 = .ok (.lushr, 1) := by decide +kernel
theorem dJ13_bitCount_95d88_39 : decode cJ13_bitCount_95d88 39 = .ok (.ladd, 1) := by decide +kernel
theorem dJ13_bitCount_95d88_40 : decode cJ13_bitCount_95d88 40 = .ok (.lstore_n 0, 1) := by decide +kernel
theorem dJ13_bitCount_95d88_41 : decode cJ13_bitCount_95d88 41 = .ok (.lload_n 0, 1) := by decide +kernel
theorem dJ13_bitCount_95d88_42 : decode cJ13_bitCount_95d88 42 = .ok (.lload_n 0, 1) := by decide +kernel
theorem dJ13_bitCount_95d88_43 : decode cJ13_bitCount_95d88 43 = .ok (.bipush 16, 2) := by decide +kernel
theorem dJ13_bitCount_95d88_45 : decode cJ13_bitCount_95d88 45 = .ok (.lushr, 1) := by decide +kernel
theorem dJ13_bitCount_95d88_46 : decode cJ13_bitCount_95d88 46 = .ok (.ladd, 1) := by decide +kernel
theorem dJ13_bitCount_95d88_47 : decode cJ13_bitCount_95d88 47 = .ok (.lstore_n 0, 1) := by decide +kernel
theorem dJ13_bitCount_95d88_48 : decode cJ13_bitCount_95d88 48 = .ok (.lload_n 0, 1) := by decide +kernel
theorem dJ13_bitCount_95d88_49 : decode cJ13_bitCount_95d88 49 = .ok (.lload_n 0, 1) := by decide +kernel
theorem dJ13_bitCount_95d88_50 : decode cJ13_bitCount_95d88 50 = .ok (.bipush 32, 2) := by decide +kernel
theorem dJ13_bitCount_95d88_52 : decode cJ13_bitCount_95d88 52 = .ok (.lushr, 1) := by decide +kernel
theorem dJ13_bitCount_95d88_53 : decode cJ13_bitCount_95d88 53 = .ok (.ladd, 1) := by decide +kernel
theorem dJ13_bitCount_95d88_54 : decode cJ13_bitCount_95d88 54 = .ok (.lstore_n 0, 1) := by decide +kernel
theorem dJ13_bitCount_95d88_55 : decode cJ13_bitCount_95d88 55 = .ok (.lload_n 0, 1) := by decide +kernel
theorem dJ13_bitCount_95d88_56 : decode cJ13_bitCount_95d88 56 = .ok (.l2i, 1) := by decide +kernel
theorem dJ13_bitCount_95d88_57 : decode cJ13_bitCount_95d88 57 = .ok (.bipush 127, 2) := by decide +kernel
theorem dJ13_bitCount_95d88_59 : decode cJ13_bitCount_95d88 59 = .ok (.iand, 1) := by decide +kernel
theorem dJ13_bitCount_95d88_60 : decode cJ13_bitCount_95d88 60 = .ok (.ireturn, 1) := by decide +kernel
theorem dJ9_max_7cf53_0 : decode cJ9_max_7cf53 0 = .ok (.iload_n 0, 1) := by decide +kernel
theorem dJ9_max_7cf53_1 : decode cJ9_max_7cf53 1 = .ok (.iload_n 1, 1) := by decide +kernel
theorem dJ9_max_7cf53_2 : decode cJ9_max_7cf53 2 = .ok (.if_icmp .lt 7, 3) := by decide +kernel
theorem dJ9_max_7cf53_5 : decode cJ9_max_7cf53 5 = .ok (.iload_n 0, 1) := by decide +kernel
theorem dJ9_max_7cf53_6 : decode cJ9_max_7cf53 6 = .ok (.goto 4, 3) := by decide +kernel
theorem dJ9_max_7cf53_9 : decode cJ9_max_7cf53 9 = .ok (.iload_n 1, 1) := by decide +kernel
theorem dJ9_max_7cf53_10 : decode cJ9_max_7cf53 10 = .ok (.ireturn, 1) := by decide +kernel
theorem dJ9_min_7cf53_0 : decode cJ9_min_7cf53 0 = .ok (.iload_n 0, 1) := by decide +kernel
theorem dJ9_min_7cf53_1 : decode cJ9_min_7cf53 1 = .ok (.iload_n 1, 1) := by decide +kernel
theorem dJ9_min_7cf53_2 : decode cJ9_min_7cf53 2 = .ok (.if_icmp .gt 7, 3) := by decide +kernel
theorem dJ9_min_7cf53_5 : decode cJ9_min_7cf53 5 = .ok (.iload_n 0, 1) := by decide +kernel
theorem dJ9_min_7cf53_6 : decode cJ9_min_7cf53 6 = .ok (.goto 4, 3) := by decide +kernel
theorem dJ9_min_7cf53_9 : decode cJ9_min_7cf53 9 = .ok (.iload_n 1, 1) := by decide +kernel
theorem dJ9_min_7cf53_10 : decode cJ9_min_7cf53 10 = .ok (.ireturn, 1) := by decide +kernel
theorem dJ0_length_8abf5_0 : decode cJ0_length_8abf5 0 = .ok (.aload_n 0, 1) := by decide +kernel
theorem dJ0_length_8abf5_1 : decode cJ0_length_8abf5 1 = .ok (.getfield 9, 3) := by decide +kernel
theorem dJ0_length_8abf5_4 : decode cJ0_length_8abf5 4 = .ok (.arraylength, 1) := by decide +kernel
theorem dJ0_length_8abf5_5 : decode cJ0_length_8abf5 5 = .ok (.aload_n 0, 1) := by decide +kernel
theorem dJ0_length_8abf5_6 : decode cJ0_length_8abf5 6 = .ok (.invokevirtual 335, 3) := by decide +kernel
theorem dJ0_length_8abf5_9 : decode cJ0_length_8abf5 9 = .ok (.ishr, 1) := by decide +kernel
theorem dJ0_length_8abf5_10 : decode cJ0_length_8abf5 10 = .ok (.ireturn, 1) := by decide +kernel
theorem dJ0_charAt_5068e_0 : decode cJ0_charAt_5068e 0 = .ok (.aload_n 0, 1) := by decide +kernel
theorem dJ0_charAt_5068e_1 : decode cJ0_charAt_5068e 1 = .ok (.invokevirtual 492, 3) := by decide +kernel
theorem dJ0_charAt_5068e_4 : decode cJ0_charAt_5068e 4 = .ok (.ifCond .eq 12, 3) := by decide +kernel
theorem dJ0_charAt_5068e_7 : decode cJ0_charAt_5068e 7 = .ok (.aload_n 0, 1) := by decide +kernel
theorem dJ0_charAt_5068e_8 : decode cJ0_charAt_5068e 8 = .ok (.getfield 9, 3) := by decide +kernel
theorem dJ0_charAt_5068e_11 : decode cJ0_charAt_5068e 11 = .ok (.iload_n 1, 1) := by decide +kernel
theorem dJ0_charAt_5068e_12 : decode cJ0_charAt_5068e 12 = .ok (.invokestatic 495, 3) := by decide +kernel
theorem dJ0_charAt_5068e_15 : decode cJ0_charAt_5068e 15 = .ok (.ireturn, 1) := by decide +kernel
theorem dJ0_charAt_5068e_16 : decode cJ0_charAt_5068e 16 = .ok (.aload_n 0, 1) := by decide +kernel
theorem dJ0_charAt_5068e_17 : decode cJ0_charAt_5068e 17 = .ok (.getfield 9, 3) := by decide +kernel
theorem dJ0_charAt_5068e_20 : decode cJ0_charAt_5068e 20 = .ok (.iload_n 1, 1) := by decide +kernel
theorem dJ0_charAt_5068e_21 : decode cJ0_charAt_5068e 21 = .ok (.invokestatic 498, 3) := by decide +kernel
theorem dJ0_charAt_5068e_24 : decode cJ0_charAt_5068e 24 = .ok (.ireturn, 1) := by decide +kernel
theorem dJ0_coder_7d493_0 : decode cJ0_coder_7d493 0 = .ok (.getstatic 38, 3) := by decide +kernel
theorem dJ0_coder_7d493_3 : decode cJ0_coder_7d493 3 = .ok (.ifCond .eq 10, 3) := by decide +kernel
theorem dJ0_coder_7d493_6 : decode cJ0_coder_7d493 6 = .ok (.aload_n 0, 1) := by decide +kernel
theorem dJ0_coder_7d493_7 : decode cJ0_coder_7d493 7 = .ok (.getfield 15, 3) := by decide +kernel
theorem dJ0_coder_7d493_10 : decode cJ0_coder_7d493 10 = .ok (.goto 4, 3) := by decide +kernel
theorem dJ0_coder_7d493_13 : decode cJ0_coder_7d493 13 = .ok (.iconst 1, 1) := by decide +kernel
theorem dJ0_coder_7d493_14 : decode cJ0_coder_7d493 14 = .ok (.ireturn, 1) := by decide +kernel
theorem dJ0_isLatin1_aae02_0 : decode cJ0_isLatin1_aae02 0 = .ok (.getstatic 38, 3) := by decide +kernel
theorem dJ0_isLatin1_aae02_3 : decode cJ0_isLatin1_aae02 3 = .ok (.ifCond .eq 14, 3) := by decide +kernel
theorem dJ0_isLatin1_aae02_6 : decode cJ0_isLatin1_aae02 6 = .ok (.aload_n 0, 1) := by decide +kernel
theorem dJ0_isLatin1_aae02_7 : decode cJ0_isLatin1_aae02 7 = .ok (.getfield 15, 3) := by decide +kernel
theorem dJ0_isLatin1_aae02_10 : decode cJ0_isLatin1_aae02 10 = .ok (.ifCond .ne 7, 3) := by decide +kernel
theorem dJ0_isLatin1_aae02_13 : decode cJ0_isLatin1_aae02 13 = .ok (.iconst 1, 1) := by decide +kernel
theorem dJ0_isLatin1_aae02_14 : decode cJ0_isLatin1_aae02 14 = .ok (.goto 4, 3) := by decide +kernel
theorem dJ0_isLatin1_aae02_17 : decode cJ0_isLatin1_aae02 17 = .ok (.iconst 0, 1) := by decide +kernel
theorem dJ0_isLatin1_aae02_18 : decode cJ0_isLatin1_aae02 18 = .ok (.ireturn, 1) := by decide +kernel
theorem dJ0_checkIndex_df160_0 : decode cJ0_checkIndex_df160 0 = .ok (.iload_n 0, 1) := by decide +kernel
theorem dJ0_checkIndex_df160_1 : decode cJ0_checkIndex_df160 1 = .ok (.iload_n 1, 1) := by decide +kernel
theorem dJ0_checkIndex_df160_2 : decode cJ0_checkIndex_df160 2 = .ok (.getstatic 1053, 3) := by decide +kernel
theorem dJ0_checkIndex_df160_5 : decode cJ0_checkIndex_df160 5 = .ok (.invokestatic 1059, 3) := by decide +kernel
theorem dJ0_checkIndex_df160_8 : decode cJ0_checkIndex_df160 8 = .ok (.pop, 1) := by decide +kernel
theorem dJ0_checkIndex_df160_9 : decode cJ0_checkIndex_df160 9 = .ok (.return_, 1) := by decide +kernel
theorem dJ1_charAt_3b067_0 : decode cJ1_charAt_3b067 0 = .ok (.iload_n 1, 1) := by decide +kernel
theorem dJ1_charAt_3b067_1 : decode cJ1_charAt_3b067 1 = .ok (.aload_n 0, 1) := by decide +kernel
theorem dJ1_charAt_3b067_2 : decode cJ1_charAt_3b067 2 = .ok (.arraylength, 1) := by decide +kernel
theorem dJ1_charAt_3b067_3 : decode cJ1_charAt_3b067 3 = .ok (.invokestatic 9, 3) := by decide +kernel
theorem dJ1_charAt_3b067_6 : decode cJ1_charAt_3b067 6 = .ok (.aload_n 0, 1) := by decide +kernel
theorem dJ1_charAt_3b067_7 : decode cJ1_charAt_3b067 7 = .ok (.iload_n 1, 1) := by decide +kernel
theorem dJ1_charAt_3b067_8 : decode cJ1_charAt_3b067 8 = .ok (.baload, 1) := by decide +kernel
theorem dJ1_charAt_3b067_9 : decode cJ1_charAt_3b067 9 = .ok (.sipush 255, 3) := by decide +kernel
theorem dJ1_charAt_3b067_12 : decode cJ1_charAt_3b067 12 = .ok (.iand, 1) := by decide +kernel
theorem dJ1_charAt_3b067_13 : decode cJ1_charAt_3b067 13 = .ok (.i2c, 1) := by decide +kernel
theorem dJ1_charAt_3b067_14 : decode cJ1_charAt_3b067 14 = .ok (.ireturn, 1) := by decide +kernel
theorem dJ2_getChar_3b067_0 : decode cJ2_getChar_3b067 0 = .ok (.getstatic 44, 3) := by decide +kernel
theorem dJ2_getChar_3b067_3 : decode cJ2_getChar_3b067 3 = .ok (.ifCond .ne 25, 3) := by decide +kernel
theorem dJ2_getChar_3b067_6 : decode cJ2_getChar_3b067 6 = .ok (.iload_n 1, 1) := by decide +kernel
theorem dJ2_getChar_3b067_7 : decode cJ2_getChar_3b067 7 = .ok (.ifCond .lt 11, 3) := by decide +kernel
theorem dJ2_getChar_3b067_10 : decode cJ2_getChar_3b067 10 = .ok (.iload_n 1, 1) := by decide +kernel
theorem dJ2_getChar_3b067_11 : decode cJ2_getChar_3b067 11 = .ok (.aload_n 0, 1) := by decide +kernel
theorem dJ2_getChar_3b067_12 : decode cJ2_getChar_3b067 12 = .ok (.invokestatic 48, 3) := by decide +kernel
theorem dJ2_getChar_3b067_15 : decode cJ2_getChar_3b067 15 = .ok (.if_icmp .lt 13, 3) := by decide +kernel
theorem dJ2_getChar_3b067_18 : decode cJ2_getChar_3b067 18 = .ok (.new 52, 3) := by decide +kernel
theorem dJ2_getChar_3b067_21 : decode cJ2_getChar_3b067 21 = .ok (.dup, 1) := by decide +kernel
theorem dJ2_getChar_3b067_22 : decode cJ2_getChar_3b067 22 = .ok (.ldc 54, 2) := by decide +kernel
theorem dJ2_getChar_3b067_24 : decode cJ2_getChar_3b067 24 = .ok (.invokespecial 56, 3) := by decide +kernel
theorem dJ2_getChar_3b067_27 : decode cJ2_getChar_3b067 27 = .ok (.athrow, 1) := by decide +kernel
theorem dJ2_getChar_3b067_28 : decode cJ2_getChar_3b067 28 = .ok (.iload_n 1, 1) := by decide +kernel
theorem dJ2_getChar_3b067_29 : decode cJ2_getChar_3b067 29 = .ok (.iconst 1, 1) := by decide +kernel
theorem dJ2_getChar_3b067_30 : decode cJ2_getChar_3b067 30 = .ok (.ishl, 1) := by decide +kernel
theorem dJ2_getChar_3b067_31 : decode cJ2_getChar_3b067 31 = .ok (.istore_n 1, 1) := by decide +kernel
theorem dJ2_getChar_3b067_32 : decode cJ2_getChar_3b067 32 = .ok (.aload_n 0, 1) := by decide +kernel
theorem dJ2_getChar_3b067_33 : decode cJ2_getChar_3b067 33 = .ok (.iload_n 1, 1) := by decide +kernel
theorem dJ2_getChar_3b067_34 : decode cJ2_getChar_3b067 34 = .ok (.iinc 1 1, 3) := by decide +kernel
theorem dJ2_getChar_3b067_37 : decode cJ2_getChar_3b067 37 = .ok (.baload, 1) := by decide +kernel
theorem dJ2_getChar_3b067_38 : decode cJ2_getChar_3b067 38 = .ok (.sipush 255, 3) := by decide +kernel
theorem dJ2_getChar_3b067_41 : decode cJ2_getChar_3b067 41 = .ok (.iand, 1) := by decide +kernel
theorem dJ2_getChar_3b067_42 : decode cJ2_getChar_3b067 42 = .ok (.getstatic 59, 3) := by decide +kernel
theorem dJ2_getChar_3b067_45 : decode cJ2_getChar_3b067 45 = .ok (.ishl, 1) := by decide +kernel
theorem dJ2_getChar_3b067_46 : decode cJ2_getChar_3b067 46 = .ok (.aload_n 0, 1) := by decide +kernel
theorem dJ2_getChar_3b067_47 : decode cJ2_getChar_3b067 47 = .ok (.iload_n 1, 1) := by decide +kernel
theorem dJ2_getChar_3b067_48 : decode cJ2_getChar_3b067 48 = .ok (.baload, 1) := by decide +kernel
theorem dJ2_getChar_3b067_49 : decode cJ2_getChar_3b067 49 = .ok (.sipush 255, 3) := by decide +kernel
theorem dJ2_getChar_3b067_52 : decode cJ2_getChar_3b067 52 = .ok (.iand, 1) := by decide +kernel
theorem dJ2_getChar_3b067_53 : decode cJ2_getChar_3b067 53 = .ok (.getstatic 63, 3) := by decide +kernel
theorem dJ2_getChar_3b067_56 : decode cJ2_getChar_3b067 56 = .ok (.ishl, 1) := by decide +kernel
theorem dJ2_getChar_3b067_57 : decode cJ2_getChar_3b067 57 = .ok (.ior, 1) := by decide +kernel
theorem dJ2_getChar_3b067_58 : decode cJ2_getChar_3b067 58 = .ok (.i2c, 1) := by decide +kernel
theorem dJ2_getChar_3b067_59 : decode cJ2_getChar_3b067 59 = .ok (.ireturn, 1) := by decide +kernel
theorem dJ2_length_9d52b_0 : decode cJ2_length_9d52b 0 = .ok (.aload_n 0, 1) := by decide +kernel
theorem dJ2_length_9d52b_1 : decode cJ2_length_9d52b 1 = .ok (.arraylength, 1) := by decide +kernel
theorem dJ2_length_9d52b_2 : decode cJ2_length_9d52b 2 = .ok (.iconst 1, 1) := by decide +kernel
theorem dJ2_length_9d52b_3 : decode cJ2_length_9d52b 3 = .ok (.ishr, 1) := by decide +kernel
theorem dJ2_length_9d52b_4 : decode cJ2_length_9d52b 4 = .ok (.ireturn, 1) := by decide +kernel
theorem dJ2_charAt_3b067_0 : decode cJ2_charAt_3b067 0 = .ok (.iload_n 1, 1) := by decide +kernel
theorem dJ2_charAt_3b067_1 : decode cJ2_charAt_3b067 1 = .ok (.aload_n 0, 1) := by decide +kernel
theorem dJ2_charAt_3b067_2 : decode cJ2_charAt_3b067 2 = .ok (.invokestatic 67, 3) := by decide +kernel
theorem dJ2_charAt_3b067_5 : decode cJ2_charAt_3b067 5 = .ok (.aload_n 0, 1) := by decide +kernel
theorem dJ2_charAt_3b067_6 : decode cJ2_charAt_3b067 6 = .ok (.iload_n 1, 1) := by decide +kernel
theorem dJ2_charAt_3b067_7 : decode cJ2_charAt_3b067 7 = .ok (.invokestatic 71, 3) := by decide +kernel
theorem dJ2_charAt_3b067_10 : decode cJ2_charAt_3b067 10 = .ok (.ireturn, 1) := by decide +kernel
theorem dJ2_checkIndex_2214a_0 : decode cJ2_checkIndex_2214a 0 = .ok (.iload_n 0, 1) := by decide +kernel
theorem dJ2_checkIndex_2214a_1 : decode cJ2_checkIndex_2214a 1 = .ok (.aload_n 1, 1) := by decide +kernel
theorem dJ2_checkIndex_2214a_2 : decode cJ2_checkIndex_2214a 2 = .ok (.invokestatic 48, 3) := by decide +kernel
theorem dJ2_checkIndex_2214a_5 : decode cJ2_checkIndex_2214a 5 = .ok (.invokestatic 414, 3) := by decide +kernel
theorem dJ2_checkIndex_2214a_8 : decode cJ2_checkIndex_2214a 8 = .ok (.return_, 1) := by decide +kernel
theorem dJ7_fill_d0a16_0 : decode cJ7_fill_d0a16 0 = .ok (.iconst 0, 1) := by decide +kernel
theorem dJ7_fill_d0a16_1 : decode cJ7_fill_d0a16 1 = .ok (.istore_n 3, 1) := by decide +kernel
theorem dJ7_fill_d0a16_2 : decode cJ7_fill_d0a16 2 = .ok (.aload_n 0, 1) := by decide +kernel
theorem dJ7_fill_d0a16_3 : decode cJ7_fill_d0a16 3 = .ok (.arraylength, 1) := by decide +kernel
theorem dJ7_fill_d0a16_4 : decode cJ7_fill_d0a16 4 = .ok (.istore 4, 2) := by decide +kernel
theorem dJ7_fill_d0a16_6 : decode cJ7_fill_d0a16 6 = .ok (.iload_n 3, 1) := by decide +kernel
theorem dJ7_fill_d0a16_7 : decode cJ7_fill_d0a16 7 = .ok (.iload 4, 2) := by decide +kernel
theorem dJ7_fill_d0a16_9 : decode cJ7_fill_d0a16 9 = .ok (.if_icmp .ge 13, 3) := by decide +kernel
theorem dJ7_fill_d0a16_12 : decode cJ7_fill_d0a16 12 = .ok (.aload_n 0, 1) := by decide +kernel
theorem dJ7_fill_d0a16_13 : decode cJ7_fill_d0a16 13 = .ok (.iload_n 3, 1) := by decide +kernel
theorem dJ7_fill_d0a16_14 : decode cJ7_fill_d0a16 14 = .ok (.lload_n 1, 1) := by decide +kernel
theorem dJ7_fill_d0a16_15 : decode cJ7_fill_d0a16 15 = .ok (.lastore, 1) := by decide +kernel
theorem dJ7_fill_d0a16_16 : decode cJ7_fill_d0a16 16 = .ok (.iinc 3 1, 3) := by decide +kernel
theorem dJ7_fill_d0a16_19 : decode cJ7_fill_d0a16 19 = .ok (.goto (-13), 3) := by decide +kernel
theorem dJ7_fill_d0a16_22 : decode cJ7_fill_d0a16 22 = .ok (.return_, 1) := by decide +kernel
theorem dJ7_fill_53178_0 : decode cJ7_fill_53178 0 = .ok (.iconst 0, 1) := by decide +kernel
theorem dJ7_fill_53178_1 : decode cJ7_fill_53178 1 = .ok (.istore_n 2, 1) := by decide +kernel
theorem dJ7_fill_53178_2 : decode cJ7_fill_53178 2 = .ok (.aload_n 0, 1) := by decide +kernel
theorem dJ7_fill_53178_3 : decode cJ7_fill_53178 3 = .ok (.arraylength, 1) := by decide +kernel
theorem dJ7_fill_53178_4 : decode cJ7_fill_53178 4 = .ok (.istore_n 3, 1) := by decide +kernel
theorem dJ7_fill_53178_5 : decode cJ7_fill_53178 5 = .ok (.iload_n 2, 1) := by decide +kernel
theorem dJ7_fill_53178_6 : decode cJ7_fill_53178 6 = .ok (.iload_n 3, 1) := by decide +kernel
theorem dJ7_fill_53178_7 : decode cJ7_fill_53178 7 = .ok (.if_icmp .ge 13, 3) := by decide +kernel
theorem dJ7_fill_53178_10 : decode cJ7_fill_53178 10 = .ok (.aload_n 0, 1) := by decide +kernel
theorem dJ7_fill_53178_11 : decode cJ7_fill_53178 11 = .ok (.iload_n 2, 1) := by decide +kernel
theorem dJ7_fill_53178_12 : decode cJ7_fill_53178 12 = .ok (.iload_n 1, 1) := by decide +kernel
theorem dJ7_fill_53178_13 : decode cJ7_fill_53178 13 = .ok (.iastore, 1) := by decide +kernel
theorem dJ7_fill_53178_14 : decode cJ7_fill_53178 14 = .ok (.iinc 2 1, 3) := by decide +kernel
theorem dJ7_fill_53178_17 : decode cJ7_fill_53178 17 = .ok (.goto (-12), 3) := by decide +kernel
theorem dJ7_fill_53178_20 : decode cJ7_fill_53178 20 = .ok (.return_, 1) := by decide +kernel
theorem dJ3_checkIndex_8e157_0 : decode cJ3_checkIndex_8e157 0 = .ok (.iload_n 0, 1) := by decide +kernel
theorem dJ3_checkIndex_8e157_1 : decode cJ3_checkIndex_8e157 1 = .ok (.ifCond .lt 8, 3) := by decide +kernel
theorem dJ3_checkIndex_8e157_4 : decode cJ3_checkIndex_8e157 4 = .ok (.iload_n 0, 1) := by decide +kernel
theorem dJ3_checkIndex_8e157_5 : decode cJ3_checkIndex_8e157 5 = .ok (.iload_n 1, 1) := by decide +kernel
theorem dJ3_checkIndex_8e157_6 : decode cJ3_checkIndex_8e157 6 = .ok (.if_icmp .lt 10, 3) := by decide +kernel
theorem dJ3_checkIndex_8e157_9 : decode cJ3_checkIndex_8e157 9 = .ok (.aload_n 2, 1) := by decide +kernel
theorem dJ3_checkIndex_8e157_10 : decode cJ3_checkIndex_8e157 10 = .ok (.iload_n 0, 1) := by decide +kernel
theorem dJ3_checkIndex_8e157_11 : decode cJ3_checkIndex_8e157 11 = .ok (.iload_n 1, 1) := by decide +kernel
theorem dJ3_checkIndex_8e157_12 : decode cJ3_checkIndex_8e157 12 = .ok (.invokestatic 95, 3) := by decide +kernel
theorem dJ3_checkIndex_8e157_15 : decode cJ3_checkIndex_8e157 15 = .ok (.athrow, 1) := by decide +kernel
theorem dJ3_checkIndex_8e157_16 : decode cJ3_checkIndex_8e157 16 = .ok (.iload_n 0, 1) := by decide +kernel
theorem dJ3_checkIndex_8e157_17 : decode cJ3_checkIndex_8e157 17 = .ok (.ireturn, 1) := by decide +kernel
theorem dX0_init_0 : decode cX0_init 0 = .ok (.aload_n 0, 1) := by decide +kernel
theorem dX0_init_1 : decode cX0_init 1 = .ok (.invokespecial 3, 3) := by decide +kernel
theorem dX0_init_4 : decode cX0_init 4 = .ok (.aload_n 0, 1) := by decide +kernel
theorem dX0_init_5 : decode cX0_init 5 = .ok (.bipush 12, 2) := by decide +kernel
theorem dX0_init_7 : decode cX0_init 7 = .ok (.newarray .int, 2) := by decide +kernel
theorem dX0_init_9 : decode cX0_init 9 = .ok (.putfield 9, 3) := by decide +kernel
theorem dX0_init_12 : decode cX0_init 12 = .ok (.aload_n 0, 1) := by decide +kernel
theorem dX0_init_13 : decode cX0_init 13 = .ok (.iconst 0, 1) := by decide +kernel
theorem dX0_init_14 : decode cX0_init 14 = .ok (.putfield 15, 3) := by decide +kernel
theorem dX0_init_17 : decode cX0_init 17 = .ok (.aload_n 0, 1) := by decide +kernel
theorem dX0_init_18 : decode cX0_init 18 = .ok (.iconst 0, 1) := by decide +kernel
theorem dX0_init_19 : decode cX0_init 19 = .ok (.putfield 19, 3) := by decide +kernel
theorem dX0_init_22 : decode cX0_init 22 = .ok (.aload_n 0, 1) := by decide +kernel
theorem dX0_init_23 : decode cX0_init 23 = .ok (.iconst 0, 1) := by decide +kernel
theorem dX0_init_24 : decode cX0_init 24 = .ok (.putfield 22, 3) := by decide +kernel
theorem dX0_init_27 : decode cX0_init 27 = .ok (.aload_n 0, 1) := by decide +kernel
theorem dX0_init_28 : decode cX0_init 28 = .ok (.iconst 0, 1) := by decide +kernel
theorem dX0_init_29 : decode cX0_init 29 = .ok (.putfield 25, 3) := by decide +kernel
theorem dX0_init_32 : decode cX0_init 32 = .ok (.aload_n 0, 1) := by decide +kernel
theorem dX0_init_33 : decode cX0_init 33 = .ok (.iconst 0, 1) := by decide +kernel
theorem dX0_init_34 : decode cX0_init 34 = .ok (.putfield 28, 3) := by decide +kernel
theorem dX0_init_37 : decode cX0_init 37 = .ok (.aload_n 0, 1) := by decide +kernel
theorem dX0_init_38 : decode cX0_init 38 = .ok (.aload_n 1, 1) := by decide +kernel
theorem dX0_init_39 : decode cX0_init 39 = .ok (.putfield 31, 3) := by decide +kernel
theorem dX0_init_42 : decode cX0_init 42 = .ok (.return_, 1) := by decide +kernel
theorem dX0_spread_0 : decode cX0_spread 0 = .ok (.aload_n 1, 1) := by decide +kernel
theorem dX0_spread_1 : decode cX0_spread 1 = .ok (.invokevirtual 34, 3) := by decide +kernel
theorem dX0_spread_4 : decode cX0_spread 4 = .ok (.istore_n 2, 1) := by decide +kernel
theorem dX0_spread_5 : decode cX0_spread 5 = .ok (.aload_n 0, 1) := by decide +kernel
theorem dX0_spread_6 : decode cX0_spread 6 = .ok (.getfield 31, 3) := by decide +kernel
theorem dX0_spread_9 : decode cX0_spread 9 = .ok (.iconst 0, 1) := by decide +kernel
theorem dX0_spread_10 : decode cX0_spread 10 = .ok (.iconst 0, 1) := by decide +kernel
theorem dX0_spread_11 : decode cX0_spread 11 = .ok (.iastore, 1) := by decide +kernel
theorem dX0_spread_12 : decode cX0_spread 12 = .ok (.iconst 1, 1) := by decide +kernel
theorem dX0_spread_13 : decode cX0_spread 13 = .ok (.istore_n 3, 1) := by decide +kernel
theorem dX0_spread_14 : decode cX0_spread 14 = .ok (.iload_n 3, 1) := by decide +kernel
theorem dX0_spread_15 : decode cX0_spread 15 = .ok (.iload_n 2, 1) := by decide +kernel
theorem dX0_spread_16 : decode cX0_spread 16 = .ok (.if_icmp .gt 35, 3) := by decide +kernel
theorem dX0_spread_19 : decode cX0_spread 19 = .ok (.aload_n 0, 1) := by decide +kernel
theorem dX0_spread_20 : decode cX0_spread 20 = .ok (.getfield 31, 3) := by decide +kernel
theorem dX0_spread_23 : decode cX0_spread 23 = .ok (.iload_n 3, 1) := by decide +kernel
theorem dX0_spread_24 : decode cX0_spread 24 = .ok (.aload_n 0, 1) := by decide +kernel
theorem dX0_spread_25 : decode cX0_spread 25 = .ok (.getfield 31, 3) := by decide +kernel
theorem dX0_spread_28 : decode cX0_spread 28 = .ok (.iload_n 3, 1) := by decide +kernel
theorem dX0_spread_29 : decode cX0_spread 29 = .ok (.iload_n 3, 1) := by decide +kernel
theorem dX0_spread_30 : decode cX0_spread 30 = .ok (.iconst 1, 1) := by decide +kernel
theorem dX0_spread_31 : decode cX0_spread 31 = .ok (.isub, 1) := by decide +kernel
theorem dX0_spread_32 : decode cX0_spread 32 = .ok (.iand, 1) := by decide +kernel
theorem dX0_spread_33 : decode cX0_spread 33 = .ok (.iaload, 1) := by decide +kernel
theorem dX0_spread_34 : decode cX0_spread 34 = .ok (.aload_n 1, 1) := by decide +kernel
theorem dX0_spread_35 : decode cX0_spread 35 = .ok (.getfield 40, 3) := by decide +kernel
theorem dX0_spread_38 : decode cX0_spread 38 = .ok (.iload_n 3, 1) := by decide +kernel
theorem dX0_spread_39 : decode cX0_spread 39 = .ok (.invokestatic 43, 3) := by decide +kernel
theorem dX0_spread_42 : decode cX0_spread 42 = .ok (.iaload, 1) := by decide +kernel
theorem dX0_spread_43 : decode cX0_spread 43 = .ok (.ior, 1) := by decide +kernel
theorem dX0_spread_44 : decode cX0_spread 44 = .ok (.iastore, 1) := by decide +kernel
theorem dX0_spread_45 : decode cX0_spread 45 = .ok (.iinc 3 1, 3) := by decide +kernel
theorem dX0_spread_48 : decode cX0_spread 48 = .ok (.goto (-34), 3) := by decide +kernel
theorem dX0_spread_51 : decode cX0_spread 51 = .ok (.return_, 1) := by decide +kernel
theorem dX0_coversWithout_0 : decode cX0_coversWithout 0 = .ok (.aload_n 0, 1) := by decide +kernel
theorem dX0_coversWithout_1 : decode cX0_coversWithout 1 = .ok (.getfield 31, 3) := by decide +kernel
theorem dX0_coversWithout_4 : decode cX0_coversWithout 4 = .ok (.iload_n 1, 1) := by decide +kernel
theorem dX0_coversWithout_5 : decode cX0_coversWithout 5 = .ok (.iaload, 1) := by decide +kernel
theorem dX0_coversWithout_6 : decode cX0_coversWithout 6 = .ok (.iload_n 1, 1) := by decide +kernel
theorem dX0_coversWithout_7 : decode cX0_coversWithout 7 = .ok (.iand, 1) := by decide +kernel
theorem dX0_coversWithout_8 : decode cX0_coversWithout 8 = .ok (.ifCond .ne 7, 3) := by decide +kernel
theorem dX0_coversWithout_11 : decode cX0_coversWithout 11 = .ok (.iconst 1, 1) := by decide +kernel
theorem dX0_coversWithout_12 : decode cX0_coversWithout 12 = .ok (.goto 4, 3) := by decide +kernel
theorem dX0_coversWithout_15 : decode cX0_coversWithout 15 = .ok (.iconst 0, 1) := by decide +kernel
theorem dX0_coversWithout_16 : decode cX0_coversWithout 16 = .ok (.ireturn, 1) := by decide +kernel
theorem dX0_findFewest_0 : decode cX0_findFewest 0 = .ok (.aload_n 1, 1) := by decide +kernel
theorem dX0_findFewest_1 : decode cX0_findFewest 1 = .ok (.invokevirtual 34, 3) := by decide +kernel
theorem dX0_findFewest_4 : decode cX0_findFewest 4 = .ok (.istore_n 2, 1) := by decide +kernel
theorem dX0_findFewest_5 : decode cX0_findFewest 5 = .ok (.aload_n 0, 1) := by decide +kernel
theorem dX0_findFewest_6 : decode cX0_findFewest 6 = .ok (.aload_n 1, 1) := by decide +kernel
theorem dX0_findFewest_7 : decode cX0_findFewest 7 = .ok (.invokevirtual 49, 3) := by decide +kernel
theorem dX0_findFewest_10 : decode cX0_findFewest 10 = .ok (.aload_n 0, 1) := by decide +kernel
theorem dX0_findFewest_11 : decode cX0_findFewest 11 = .ok (.bipush 13, 2) := by decide +kernel
theorem dX0_findFewest_13 : decode cX0_findFewest 13 = .ok (.putfield 15, 3) := by decide +kernel
theorem dX0_findFewest_16 : decode cX0_findFewest 16 = .ok (.iconst 0, 1) := by decide +kernel
theorem dX0_findFewest_17 : decode cX0_findFewest 17 = .ok (.istore_n 3, 1) := by decide +kernel
theorem dX0_findFewest_18 : decode cX0_findFewest 18 = .ok (.iload_n 3, 1) := by decide +kernel
theorem dX0_findFewest_19 : decode cX0_findFewest 19 = .ok (.iload_n 2, 1) := by decide +kernel
theorem dX0_findFewest_20 : decode cX0_findFewest 20 = .ok (.if_icmp .gt 86, 3) := by decide +kernel
theorem dX0_findFewest_23 : decode cX0_findFewest 23 = .ok (.iload_n 3, 1) := by decide +kernel
theorem dX0_findFewest_24 : decode cX0_findFewest 24 = .ok (.invokestatic 53, 3) := by decide +kernel
theorem dX0_findFewest_27 : decode cX0_findFewest 27 = .ok (.istore 4, 2) := by decide +kernel
theorem dX0_findFewest_29 : decode cX0_findFewest 29 = .ok (.iload 4, 2) := by decide +kernel
theorem dX0_findFewest_31 : decode cX0_findFewest 31 = .ok (.aload_n 0, 1) := by decide +kernel
theorem dX0_findFewest_32 : decode cX0_findFewest 32 = .ok (.getfield 15, 3) := by decide +kernel
theorem dX0_findFewest_35 : decode cX0_findFewest 35 = .ok (.if_icmp .gt 65, 3) := by decide +kernel
theorem dX0_findFewest_38 : decode cX0_findFewest 38 = .ok (.aload_n 0, 1) := by decide +kernel
theorem dX0_findFewest_39 : decode cX0_findFewest 39 = .ok (.iload_n 2, 1) := by decide +kernel
theorem dX0_findFewest_40 : decode cX0_findFewest 40 = .ok (.iload_n 3, 1) := by decide +kernel
theorem dX0_findFewest_41 : decode cX0_findFewest 41 = .ok (.ixor, 1) := by decide +kernel
theorem dX0_findFewest_42 : decode cX0_findFewest 42 = .ok (.invokevirtual 56, 3) := by decide +kernel
theorem dX0_findFewest_45 : decode cX0_findFewest 45 = .ok (.ifCond .ne 6, 3) := by decide +kernel
theorem dX0_findFewest_48 : decode cX0_findFewest 48 = .ok (.goto 52, 3) := by decide +kernel
theorem dX0_findFewest_51 : decode cX0_findFewest 51 = .ok (.iload 4, 2) := by decide +kernel
theorem dX0_findFewest_53 : decode cX0_findFewest 53 = .ok (.aload_n 0, 1) := by decide +kernel
theorem dX0_findFewest_54 : decode cX0_findFewest 54 = .ok (.getfield 15, 3) := by decide +kernel
theorem dX0_findFewest_57 : decode cX0_findFewest 57 = .ok (.if_icmp .ge 13, 3) := by decide +kernel
theorem dX0_findFewest_60 : decode cX0_findFewest 60 = .ok (.aload_n 0, 1) := by decide +kernel
theorem dX0_findFewest_61 : decode cX0_findFewest 61 = .ok (.iload_n 3, 1) := by decide +kernel
theorem dX0_findFewest_62 : decode cX0_findFewest 62 = .ok (.iload 4, 2) := by decide +kernel
theorem dX0_findFewest_64 : decode cX0_findFewest 64 = .ok (.invokevirtual 60, 3) := by decide +kernel
theorem dX0_findFewest_67 : decode cX0_findFewest 67 = .ok (.goto 33, 3) := by decide +kernel
theorem dX0_findFewest_70 : decode cX0_findFewest 70 = .ok (.aload_n 0, 1) := by decide +kernel
theorem dX0_findFewest_71 : decode cX0_findFewest 71 = .ok (.dup, 1) := by decide +kernel
theorem dX0_findFewest_72 : decode cX0_findFewest 72 = .ok (.getfield 22, 3) := by decide +kernel
theorem dX0_findFewest_75 : decode cX0_findFewest 75 = .ok (.iconst 1, 1) := by decide +kernel
theorem dX0_findFewest_76 : decode cX0_findFewest 76 = .ok (.iadd, 1) := by decide +kernel
theorem dX0_findFewest_77 : decode cX0_findFewest 77 = .ok (.putfield 22, 3) := by decide +kernel
theorem dX0_findFewest_80 : decode cX0_findFewest 80 = .ok (.aload_n 0, 1) := by decide +kernel
theorem dX0_findFewest_81 : decode cX0_findFewest 81 = .ok (.dup, 1) := by decide +kernel
theorem dX0_findFewest_82 : decode cX0_findFewest 82 = .ok (.getfield 25, 3) := by decide +kernel
theorem dX0_findFewest_85 : decode cX0_findFewest 85 = .ok (.iload_n 3, 1) := by decide +kernel
theorem dX0_findFewest_86 : decode cX0_findFewest 86 = .ok (.iand, 1) := by decide +kernel
theorem dX0_findFewest_87 : decode cX0_findFewest 87 = .ok (.putfield 25, 3) := by decide +kernel
theorem dX0_findFewest_90 : decode cX0_findFewest 90 = .ok (.aload_n 0, 1) := by decide +kernel
theorem dX0_findFewest_91 : decode cX0_findFewest 91 = .ok (.dup, 1) := by decide +kernel
theorem dX0_findFewest_92 : decode cX0_findFewest 92 = .ok (.getfield 28, 3) := by decide +kernel
theorem dX0_findFewest_95 : decode cX0_findFewest 95 = .ok (.iload_n 3, 1) := by decide +kernel
theorem dX0_findFewest_96 : decode cX0_findFewest 96 = .ok (.ior, 1) := by decide +kernel
theorem dX0_findFewest_97 : decode cX0_findFewest 97 = .ok (.putfield 28, 3) := by decide +kernel
theorem dX0_findFewest_100 : decode cX0_findFewest 100 = .ok (.iinc 3 1, 3) := by decide +kernel
theorem dX0_findFewest_103 : decode cX0_findFewest 103 = .ok (.goto (-85), 3) := by decide +kernel
theorem dX0_findFewest_106 : decode cX0_findFewest 106 = .ok (.return_, 1) := by decide +kernel
theorem dX0_startWith_0 : decode cX0_startWith 0 = .ok (.aload_n 0, 1) := by decide +kernel
theorem dX0_startWith_1 : decode cX0_startWith 1 = .ok (.iload_n 2, 1) := by decide +kernel
theorem dX0_startWith_2 : decode cX0_startWith 2 = .ok (.putfield 15, 3) := by decide +kernel
theorem dX0_startWith_5 : decode cX0_startWith 5 = .ok (.aload_n 0, 1) := by decide +kernel
theorem dX0_startWith_6 : decode cX0_startWith 6 = .ok (.iload_n 1, 1) := by decide +kernel
theorem dX0_startWith_7 : decode cX0_startWith 7 = .ok (.putfield 19, 3) := by decide +kernel
theorem dX0_startWith_10 : decode cX0_startWith 10 = .ok (.aload_n 0, 1) := by decide +kernel
theorem dX0_startWith_11 : decode cX0_startWith 11 = .ok (.iconst 1, 1) := by decide +kernel
theorem dX0_startWith_12 : decode cX0_startWith 12 = .ok (.putfield 22, 3) := by decide +kernel
theorem dX0_startWith_15 : decode cX0_startWith 15 = .ok (.aload_n 0, 1) := by decide +kernel
theorem dX0_startWith_16 : decode cX0_startWith 16 = .ok (.iload_n 1, 1) := by decide +kernel
theorem dX0_startWith_17 : decode cX0_startWith 17 = .ok (.putfield 25, 3) := by decide +kernel
theorem dX0_startWith_20 : decode cX0_startWith 20 = .ok (.aload_n 0, 1) := by decide +kernel
theorem dX0_startWith_21 : decode cX0_startWith 21 = .ok (.iload_n 1, 1) := by decide +kernel
theorem dX0_startWith_22 : decode cX0_startWith 22 = .ok (.putfield 28, 3) := by decide +kernel
theorem dX0_startWith_25 : decode cX0_startWith 25 = .ok (.return_, 1) := by decide +kernel
theorem dX0_findCheapest_0 : decode cX0_findCheapest 0 = .ok (.aload_n 1, 1) := by decide +kernel
theorem dX0_findCheapest_1 : decode cX0_findCheapest 1 = .ok (.invokevirtual 34, 3) := by decide +kernel
theorem dX0_findCheapest_4 : decode cX0_findCheapest 4 = .ok (.istore_n 2, 1) := by decide +kernel
theorem dX0_findCheapest_5 : decode cX0_findCheapest 5 = .ok (.aload_n 0, 1) := by decide +kernel
theorem dX0_findCheapest_6 : decode cX0_findCheapest 6 = .ok (.aload_n 1, 1) := by decide +kernel
theorem dX0_findCheapest_7 : decode cX0_findCheapest 7 = .ok (.invokevirtual 49, 3) := by decide +kernel
theorem dX0_findCheapest_10 : decode cX0_findCheapest 10 = .ok (.iconst 0, 1) := by decide +kernel
theorem dX0_findCheapest_11 : decode cX0_findCheapest 11 = .ok (.istore_n 3, 1) := by decide +kernel
theorem dX0_findCheapest_12 : decode cX0_findCheapest 12 = .ok (.iload_n 3, 1) := by decide +kernel
theorem dX0_findCheapest_13 : decode cX0_findCheapest 13 = .ok (.aload_n 1, 1) := by decide +kernel
theorem dX0_findCheapest_14 : decode cX0_findCheapest 14 = .ok (.getfield 64, 3) := by decide +kernel
theorem dX0_findCheapest_17 : decode cX0_findCheapest 17 = .ok (.if_icmp .ge 20, 3) := by decide +kernel
theorem dX0_findCheapest_20 : decode cX0_findCheapest 20 = .ok (.aload_n 0, 1) := by decide +kernel
theorem dX0_findCheapest_21 : decode cX0_findCheapest 21 = .ok (.getfield 9, 3) := by decide +kernel
theorem dX0_findCheapest_24 : decode cX0_findCheapest 24 = .ok (.iload_n 3, 1) := by decide +kernel
theorem dX0_findCheapest_25 : decode cX0_findCheapest 25 = .ok (.aload_n 1, 1) := by decide +kernel
theorem dX0_findCheapest_26 : decode cX0_findCheapest 26 = .ok (.iload_n 3, 1) := by decide +kernel
theorem dX0_findCheapest_27 : decode cX0_findCheapest 27 = .ok (.invokevirtual 67, 3) := by decide +kernel
theorem dX0_findCheapest_30 : decode cX0_findCheapest 30 = .ok (.iastore, 1) := by decide +kernel
theorem dX0_findCheapest_31 : decode cX0_findCheapest 31 = .ok (.iinc 3 1, 3) := by decide +kernel
theorem dX0_findCheapest_34 : decode cX0_findCheapest 34 = .ok (.goto (-22), 3) := by decide +kernel
theorem dX0_findCheapest_37 : decode cX0_findCheapest 37 = .ok (.aload_n 0, 1) := by decide +kernel
theorem dX0_findCheapest_38 : decode cX0_findCheapest 38 = .ok (.aload_n 1, 1) := by decide +kernel
theorem dX0_findCheapest_39 : decode cX0_findCheapest 39 = .ok (.iload_n 2, 1) := by decide +kernel
theorem dX0_findCheapest_40 : decode cX0_findCheapest 40 = .ok (.invokevirtual 70, 3) := by decide +kernel
theorem dX0_findCheapest_43 : decode cX0_findCheapest 43 = .ok (.iconst 1, 1) := by decide +kernel
theorem dX0_findCheapest_44 : decode cX0_findCheapest 44 = .ok (.iadd, 1) := by decide +kernel
theorem dX0_findCheapest_45 : decode cX0_findCheapest 45 = .ok (.putfield 15, 3) := by decide +kernel
theorem dX0_findCheapest_48 : decode cX0_findCheapest 48 = .ok (.iconst 0, 1) := by decide +kernel
theorem dX0_findCheapest_49 : decode cX0_findCheapest 49 = .ok (.istore_n 3, 1) := by decide +kernel
theorem dX0_findCheapest_50 : decode cX0_findCheapest 50 = .ok (.iload_n 3, 1) := by decide +kernel
theorem dX0_findCheapest_51 : decode cX0_findCheapest 51 = .ok (.iload_n 2, 1) := by decide +kernel
theorem dX0_findCheapest_52 : decode cX0_findCheapest 52 = .ok (.if_icmp .gt 71, 3) := by decide +kernel
theorem dX0_findCheapest_55 : decode cX0_findCheapest 55 = .ok (.aload_n 0, 1) := by decide +kernel
theorem dX0_findCheapest_56 : decode cX0_findCheapest 56 = .ok (.iload_n 2, 1) := by decide +kernel
theorem dX0_findCheapest_57 : decode cX0_findCheapest 57 = .ok (.iload_n 3, 1) := by decide +kernel
theorem dX0_findCheapest_58 : decode cX0_findCheapest 58 = .ok (.ixor, 1) := by decide +kernel
theorem dX0_findCheapest_59 : decode cX0_findCheapest 59 = .ok (.invokevirtual 56, 3) := by decide +kernel
theorem dX0_findCheapest_62 : decode cX0_findCheapest 62 = .ok (.ifCond .ne 6, 3) := by decide +kernel
theorem dX0_findCheapest_65 : decode cX0_findCheapest 65 = .ok (.goto 52, 3) := by decide +kernel
theorem dX0_findCheapest_68 : decode cX0_findCheapest 68 = .ok (.aload_n 0, 1) := by decide +kernel
theorem dX0_findCheapest_69 : decode cX0_findCheapest 69 = .ok (.iload_n 3, 1) := by decide +kernel
theorem dX0_findCheapest_70 : decode cX0_findCheapest 70 = .ok (.aload_n 1, 1) := by decide +kernel
theorem dX0_findCheapest_71 : decode cX0_findCheapest 71 = .ok (.getfield 64, 3) := by decide +kernel
theorem dX0_findCheapest_74 : decode cX0_findCheapest 74 = .ok (.invokevirtual 73, 3) := by decide +kernel
theorem dX0_findCheapest_77 : decode cX0_findCheapest 77 = .ok (.istore 4, 2) := by decide +kernel
theorem dX0_findCheapest_79 : decode cX0_findCheapest 79 = .ok (.iload 4, 2) := by decide +kernel
theorem dX0_findCheapest_81 : decode cX0_findCheapest 81 = .ok (.aload_n 0, 1) := by decide +kernel
theorem dX0_findCheapest_82 : decode cX0_findCheapest 82 = .ok (.getfield 15, 3) := by decide +kernel
theorem dX0_findCheapest_85 : decode cX0_findCheapest 85 = .ok (.if_icmp .ge 13, 3) := by decide +kernel
theorem dX0_findCheapest_88 : decode cX0_findCheapest 88 = .ok (.aload_n 0, 1) := by decide +kernel
theorem dX0_findCheapest_89 : decode cX0_findCheapest 89 = .ok (.iload_n 3, 1) := by decide +kernel
theorem dX0_findCheapest_90 : decode cX0_findCheapest 90 = .ok (.iload 4, 2) := by decide +kernel
theorem dX0_findCheapest_92 : decode cX0_findCheapest 92 = .ok (.invokevirtual 60, 3) := by decide +kernel
theorem dX0_findCheapest_95 : decode cX0_findCheapest 95 = .ok (.goto 22, 3) := by decide +kernel
theorem dX0_findCheapest_98 : decode cX0_findCheapest 98 = .ok (.iload 4, 2) := by decide +kernel
theorem dX0_findCheapest_100 : decode cX0_findCheapest 100 = .ok (.aload_n 0, 1) := by decide +kernel
theorem dX0_findCheapest_101 : decode cX0_findCheapest 101 = .ok (.getfield 15, 3) := by decide +kernel
theorem dX0_findCheapest_104 : decode cX0_findCheapest 104 = .ok (.if_icmp .ne 13, 3) := by decide +kernel
theorem dX0_findCheapest_107 : decode cX0_findCheapest 107 = .ok (.aload_n 0, 1) := by decide +kernel
theorem dX0_findCheapest_108 : decode cX0_findCheapest 108 = .ok (.dup, 1) := by decide +kernel
theorem dX0_findCheapest_109 : decode cX0_findCheapest 109 = .ok (.getfield 22, 3) := by decide +kernel
theorem dX0_findCheapest_112 : decode cX0_findCheapest 112 = .ok (.iconst 1, 1) := by decide +kernel
theorem dX0_findCheapest_113 : decode cX0_findCheapest 113 = .ok (.iadd, 1) := by decide +kernel
theorem dX0_findCheapest_114 : decode cX0_findCheapest 114 = .ok (.putfield 22, 3) := by decide +kernel
theorem dX0_findCheapest_117 : decode cX0_findCheapest 117 = .ok (.iinc 3 1, 3) := by decide +kernel
theorem dX0_findCheapest_120 : decode cX0_findCheapest 120 = .ok (.goto (-70), 3) := by decide +kernel
theorem dX0_findCheapest_123 : decode cX0_findCheapest 123 = .ok (.return_, 1) := by decide +kernel
theorem dX0_priceOf_0 : decode cX0_priceOf 0 = .ok (.iconst 0, 1) := by decide +kernel
theorem dX0_priceOf_1 : decode cX0_priceOf 1 = .ok (.istore_n 3, 1) := by decide +kernel
theorem dX0_priceOf_2 : decode cX0_priceOf 2 = .ok (.iconst 0, 1) := by decide +kernel
theorem dX0_priceOf_3 : decode cX0_priceOf 3 = .ok (.istore 4, 2) := by decide +kernel
theorem dX0_priceOf_5 : decode cX0_priceOf 5 = .ok (.iload 4, 2) := by decide +kernel
theorem dX0_priceOf_7 : decode cX0_priceOf 7 = .ok (.iload_n 2, 1) := by decide +kernel
theorem dX0_priceOf_8 : decode cX0_priceOf 8 = .ok (.if_icmp .ge 28, 3) := by decide +kernel
theorem dX0_priceOf_11 : decode cX0_priceOf 11 = .ok (.iload_n 1, 1) := by decide +kernel
theorem dX0_priceOf_12 : decode cX0_priceOf 12 = .ok (.iload 4, 2) := by decide +kernel
theorem dX0_priceOf_14 : decode cX0_priceOf 14 = .ok (.ishr, 1) := by decide +kernel
theorem dX0_priceOf_15 : decode cX0_priceOf 15 = .ok (.iconst 1, 1) := by decide +kernel
theorem dX0_priceOf_16 : decode cX0_priceOf 16 = .ok (.iand, 1) := by decide +kernel
theorem dX0_priceOf_17 : decode cX0_priceOf 17 = .ok (.ifCond .eq 13, 3) := by decide +kernel
theorem dX0_priceOf_20 : decode cX0_priceOf 20 = .ok (.iload_n 3, 1) := by decide +kernel
theorem dX0_priceOf_21 : decode cX0_priceOf 21 = .ok (.aload_n 0, 1) := by decide +kernel
theorem dX0_priceOf_22 : decode cX0_priceOf 22 = .ok (.getfield 9, 3) := by decide +kernel
theorem dX0_priceOf_25 : decode cX0_priceOf 25 = .ok (.iload 4, 2) := by decide +kernel
theorem dX0_priceOf_27 : decode cX0_priceOf 27 = .ok (.iaload, 1) := by decide +kernel
theorem dX0_priceOf_28 : decode cX0_priceOf 28 = .ok (.iadd, 1) := by decide +kernel
theorem dX0_priceOf_29 : decode cX0_priceOf 29 = .ok (.istore_n 3, 1) := by decide +kernel
theorem dX0_priceOf_30 : decode cX0_priceOf 30 = .ok (.iinc 4 1, 3) := by decide +kernel
theorem dX0_priceOf_33 : decode cX0_priceOf 33 = .ok (.goto (-28), 3) := by decide +kernel
theorem dX0_priceOf_36 : decode cX0_priceOf 36 = .ok (.iload_n 3, 1) := by decide +kernel
theorem dX0_priceOf_37 : decode cX0_priceOf 37 = .ok (.ireturn, 1) := by decide +kernel
theorem dX0_findBare_0 : decode cX0_findBare 0 = .ok (.aload_n 1, 1) := by decide +kernel
theorem dX0_findBare_1 : decode cX0_findBare 1 = .ok (.invokevirtual 34, 3) := by decide +kernel
theorem dX0_findBare_4 : decode cX0_findBare 4 = .ok (.istore_n 2, 1) := by decide +kernel
theorem dX0_findBare_5 : decode cX0_findBare 5 = .ok (.aload_n 0, 1) := by decide +kernel
theorem dX0_findBare_6 : decode cX0_findBare 6 = .ok (.aload_n 1, 1) := by decide +kernel
theorem dX0_findBare_7 : decode cX0_findBare 7 = .ok (.invokevirtual 49, 3) := by decide +kernel
theorem dX0_findBare_10 : decode cX0_findBare 10 = .ok (.aload_n 0, 1) := by decide +kernel
theorem dX0_findBare_11 : decode cX0_findBare 11 = .ok (.iconst (-1), 1) := by decide +kernel
theorem dX0_findBare_12 : decode cX0_findBare 12 = .ok (.putfield 15, 3) := by decide +kernel
theorem dX0_findBare_15 : decode cX0_findBare 15 = .ok (.aload_n 0, 1) := by decide +kernel
theorem dX0_findBare_16 : decode cX0_findBare 16 = .ok (.iconst 0, 1) := by decide +kernel
theorem dX0_findBare_17 : decode cX0_findBare 17 = .ok (.putfield 22, 3) := by decide +kernel
theorem dX0_findBare_20 : decode cX0_findBare 20 = .ok (.iconst 0, 1) := by decide +kernel
theorem dX0_findBare_21 : decode cX0_findBare 21 = .ok (.istore_n 3, 1) := by decide +kernel
theorem dX0_findBare_22 : decode cX0_findBare 22 = .ok (.iload_n 3, 1) := by decide +kernel
theorem dX0_findBare_23 : decode cX0_findBare 23 = .ok (.iload_n 2, 1) := by decide +kernel
theorem dX0_findBare_24 : decode cX0_findBare 24 = .ok (.if_icmp .gt 60, 3) := by decide +kernel
theorem dX0_findBare_27 : decode cX0_findBare 27 = .ok (.aload_n 0, 1) := by decide +kernel
theorem dX0_findBare_28 : decode cX0_findBare 28 = .ok (.getfield 31, 3) := by decide +kernel
theorem dX0_findBare_31 : decode cX0_findBare 31 = .ok (.iload_n 2, 1) := by decide +kernel
theorem dX0_findBare_32 : decode cX0_findBare 32 = .ok (.iload_n 3, 1) := by decide +kernel
theorem dX0_findBare_33 : decode cX0_findBare 33 = .ok (.ixor, 1) := by decide +kernel
theorem dX0_findBare_34 : decode cX0_findBare 34 = .ok (.iaload, 1) := by decide +kernel
theorem dX0_findBare_35 : decode cX0_findBare 35 = .ok (.iload_n 3, 1) := by decide +kernel
theorem dX0_findBare_36 : decode cX0_findBare 36 = .ok (.if_icmp .eq 6, 3) := by decide +kernel
theorem dX0_findBare_39 : decode cX0_findBare 39 = .ok (.goto 39, 3) := by decide +kernel
theorem dX0_findBare_42 : decode cX0_findBare 42 = .ok (.aload_n 0, 1) := by decide +kernel
theorem dX0_findBare_43 : decode cX0_findBare 43 = .ok (.dup, 1) := by decide +kernel
theorem dX0_findBare_44 : decode cX0_findBare 44 = .ok (.getfield 22, 3) := by decide +kernel
theorem dX0_findBare_47 : decode cX0_findBare 47 = .ok (.iconst 1, 1) := by decide +kernel
theorem dX0_findBare_48 : decode cX0_findBare 48 = .ok (.iadd, 1) := by decide +kernel
theorem dX0_findBare_49 : decode cX0_findBare 49 = .ok (.putfield 22, 3) := by decide +kernel
theorem dX0_findBare_52 : decode cX0_findBare 52 = .ok (.iload_n 3, 1) := by decide +kernel
theorem dX0_findBare_53 : decode cX0_findBare 53 = .ok (.invokestatic 53, 3) := by decide +kernel
theorem dX0_findBare_56 : decode cX0_findBare 56 = .ok (.istore 4, 2) := by decide +kernel
theorem dX0_findBare_58 : decode cX0_findBare 58 = .ok (.iload 4, 2) := by decide +kernel
theorem dX0_findBare_60 : decode cX0_findBare 60 = .ok (.aload_n 0, 1) := by decide +kernel
theorem dX0_findBare_61 : decode cX0_findBare 61 = .ok (.getfield 15, 3) := by decide +kernel
theorem dX0_findBare_64 : decode cX0_findBare 64 = .ok (.if_icmp .le 14, 3) := by decide +kernel
theorem dX0_findBare_67 : decode cX0_findBare 67 = .ok (.aload_n 0, 1) := by decide +kernel
theorem dX0_findBare_68 : decode cX0_findBare 68 = .ok (.iload 4, 2) := by decide +kernel
theorem dX0_findBare_70 : decode cX0_findBare 70 = .ok (.putfield 15, 3) := by decide +kernel
theorem dX0_findBare_73 : decode cX0_findBare 73 = .ok (.aload_n 0, 1) := by decide +kernel
theorem dX0_findBare_74 : decode cX0_findBare 74 = .ok (.iload_n 3, 1) := by decide +kernel
theorem dX0_findBare_75 : decode cX0_findBare 75 = .ok (.putfield 19, 3) := by decide +kernel
theorem dX0_findBare_78 : decode cX0_findBare 78 = .ok (.iinc 3 1, 3) := by decide +kernel
theorem dX0_findBare_81 : decode cX0_findBare 81 = .ok (.goto (-59), 3) := by decide +kernel
theorem dX0_findBare_84 : decode cX0_findBare 84 = .ok (.return_, 1) := by decide +kernel
theorem dX0_howMany_0 : decode cX0_howMany 0 = .ok (.aload_n 1, 1) := by decide +kernel
theorem dX0_howMany_1 : decode cX0_howMany 1 = .ok (.invokevirtual 34, 3) := by decide +kernel
theorem dX0_howMany_4 : decode cX0_howMany 4 = .ok (.istore_n 2, 1) := by decide +kernel
theorem dX0_howMany_5 : decode cX0_howMany 5 = .ok (.iconst 0, 1) := by decide +kernel
theorem dX0_howMany_6 : decode cX0_howMany 6 = .ok (.istore_n 3, 1) := by decide +kernel
theorem dX0_howMany_7 : decode cX0_howMany 7 = .ok (.aload_n 0, 1) := by decide +kernel
theorem dX0_howMany_8 : decode cX0_howMany 8 = .ok (.aload_n 1, 1) := by decide +kernel
theorem dX0_howMany_9 : decode cX0_howMany 9 = .ok (.invokevirtual 49, 3) := by decide +kernel
theorem dX0_howMany_12 : decode cX0_howMany 12 = .ok (.iconst 0, 1) := by decide +kernel
theorem dX0_howMany_13 : decode cX0_howMany 13 = .ok (.istore 4, 2) := by decide +kernel
theorem dX0_howMany_15 : decode cX0_howMany 15 = .ok (.iload 4, 2) := by decide +kernel
theorem dX0_howMany_17 : decode cX0_howMany 17 = .ok (.iload_n 2, 1) := by decide +kernel
theorem dX0_howMany_18 : decode cX0_howMany 18 = .ok (.if_icmp .gt 23, 3) := by decide +kernel
theorem dX0_howMany_21 : decode cX0_howMany 21 = .ok (.aload_n 0, 1) := by decide +kernel
theorem dX0_howMany_22 : decode cX0_howMany 22 = .ok (.iload_n 2, 1) := by decide +kernel
theorem dX0_howMany_23 : decode cX0_howMany 23 = .ok (.iload 4, 2) := by decide +kernel
theorem dX0_howMany_25 : decode cX0_howMany 25 = .ok (.ixor, 1) := by decide +kernel
theorem dX0_howMany_26 : decode cX0_howMany 26 = .ok (.invokevirtual 56, 3) := by decide +kernel
theorem dX0_howMany_29 : decode cX0_howMany 29 = .ok (.ifCond .eq 6, 3) := by decide +kernel
theorem dX0_howMany_32 : decode cX0_howMany 32 = .ok (.iinc 3 1, 3) := by decide +kernel
theorem dX0_howMany_35 : decode cX0_howMany 35 = .ok (.iinc 4 1, 3) := by decide +kernel
theorem dX0_howMany_38 : decode cX0_howMany 38 = .ok (.goto (-23), 3) := by decide +kernel
theorem dX0_howMany_41 : decode cX0_howMany 41 = .ok (.iload_n 3, 1) := by decide +kernel
theorem dX0_howMany_42 : decode cX0_howMany 42 = .ok (.ireturn, 1) := by decide +kernel
theorem dX0_howManyOf_0 : decode cX0_howManyOf 0 = .ok (.aload_n 1, 1) := by decide +kernel
theorem dX0_howManyOf_1 : decode cX0_howManyOf 1 = .ok (.invokevirtual 34, 3) := by decide +kernel
theorem dX0_howManyOf_4 : decode cX0_howManyOf 4 = .ok (.istore 5, 2) := by decide +kernel
theorem dX0_howManyOf_6 : decode cX0_howManyOf 6 = .ok (.iconst 0, 1) := by decide +kernel
theorem dX0_howManyOf_7 : decode cX0_howManyOf 7 = .ok (.istore 6, 2) := by decide +kernel
theorem dX0_howManyOf_9 : decode cX0_howManyOf 9 = .ok (.aload_n 0, 1) := by decide +kernel
theorem dX0_howManyOf_10 : decode cX0_howManyOf 10 = .ok (.aload_n 1, 1) := by decide +kernel
theorem dX0_howManyOf_11 : decode cX0_howManyOf 11 = .ok (.invokevirtual 49, 3) := by decide +kernel
theorem dX0_howManyOf_14 : decode cX0_howManyOf 14 = .ok (.iconst 0, 1) := by decide +kernel
theorem dX0_howManyOf_15 : decode cX0_howManyOf 15 = .ok (.istore 7, 2) := by decide +kernel
theorem dX0_howManyOf_17 : decode cX0_howManyOf 17 = .ok (.iload 7, 2) := by decide +kernel
theorem dX0_howManyOf_19 : decode cX0_howManyOf 19 = .ok (.iload 5, 2) := by decide +kernel
theorem dX0_howManyOf_21 : decode cX0_howManyOf 21 = .ok (.if_icmp .gt 52, 3) := by decide +kernel
theorem dX0_howManyOf_24 : decode cX0_howManyOf 24 = .ok (.iload 7, 2) := by decide +kernel
theorem dX0_howManyOf_26 : decode cX0_howManyOf 26 = .ok (.iload_n 3, 1) := by decide +kernel
theorem dX0_howManyOf_27 : decode cX0_howManyOf 27 = .ok (.iand, 1) := by decide +kernel
theorem dX0_howManyOf_28 : decode cX0_howManyOf 28 = .ok (.iload_n 3, 1) := by decide +kernel
theorem dX0_howManyOf_29 : decode cX0_howManyOf 29 = .ok (.if_icmp .ne 38, 3) := by decide +kernel
theorem dX0_howManyOf_32 : decode cX0_howManyOf 32 = .ok (.iload 7, 2) := by decide +kernel
theorem dX0_howManyOf_34 : decode cX0_howManyOf 34 = .ok (.iload 4, 2) := by decide +kernel
theorem dX0_howManyOf_36 : decode cX0_howManyOf 36 = .ok (.iand, 1) := by decide +kernel
theorem dX0_howManyOf_37 : decode cX0_howManyOf 37 = .ok (.ifCond .eq 6, 3) := by decide +kernel
theorem dX0_howManyOf_40 : decode cX0_howManyOf 40 = .ok (.goto 27, 3) := by decide +kernel
theorem dX0_howManyOf_43 : decode cX0_howManyOf 43 = .ok (.iload 7, 2) := by decide +kernel
theorem dX0_howManyOf_45 : decode cX0_howManyOf 45 = .ok (.invokestatic 53, 3) := by decide +kernel
theorem dX0_howManyOf_48 : decode cX0_howManyOf 48 = .ok (.iload_n 2, 1) := by decide +kernel
theorem dX0_howManyOf_49 : decode cX0_howManyOf 49 = .ok (.if_icmp .ne 18, 3) := by decide +kernel
theorem dX0_howManyOf_52 : decode cX0_howManyOf 52 = .ok (.aload_n 0, 1) := by decide +kernel
theorem dX0_howManyOf_53 : decode cX0_howManyOf 53 = .ok (.iload 5, 2) := by decide +kernel
theorem dX0_howManyOf_55 : decode cX0_howManyOf 55 = .ok (.iload 7, 2) := by decide +kernel
theorem dX0_howManyOf_57 : decode cX0_howManyOf 57 = .ok (.ixor, 1) := by decide +kernel
theorem dX0_howManyOf_58 : decode cX0_howManyOf 58 = .ok (.invokevirtual 56, 3) := by decide +kernel
theorem dX0_howManyOf_61 : decode cX0_howManyOf 61 = .ok (.ifCond .eq 6, 3) := by decide +kernel
theorem dX0_howManyOf_64 : decode cX0_howManyOf 64 = .ok (.iinc 6 1, 3) := by decide +kernel
theorem dX0_howManyOf_67 : decode cX0_howManyOf 67 = .ok (.iinc 7 1, 3) := by decide +kernel
theorem dX0_howManyOf_70 : decode cX0_howManyOf 70 = .ok (.goto (-53), 3) := by decide +kernel
theorem dX0_howManyOf_73 : decode cX0_howManyOf 73 = .ok (.iload 6, 2) := by decide +kernel
theorem dX0_howManyOf_75 : decode cX0_howManyOf 75 = .ok (.ireturn, 1) := by decide +kernel
theorem dX0_fewestOf_0 : decode cX0_fewestOf 0 = .ok (.aload_n 0, 1) := by decide +kernel
theorem dX0_fewestOf_1 : decode cX0_fewestOf 1 = .ok (.iload_n 1, 1) := by decide +kernel
theorem dX0_fewestOf_2 : decode cX0_fewestOf 2 = .ok (.iconst 0, 1) := by decide +kernel
theorem dX0_fewestOf_3 : decode cX0_fewestOf 3 = .ok (.invokestatic 77, 3) := by decide +kernel
theorem dX0_fewestOf_6 : decode cX0_fewestOf 6 = .ok (.ireturn, 1) := by decide +kernel
theorem dX0_fewestIn_0 : decode cX0_fewestIn 0 = .ok (.aload_n 0, 1) := by decide +kernel
theorem dX0_fewestIn_1 : decode cX0_fewestIn 1 = .ok (.iload_n 1, 1) := by decide +kernel
theorem dX0_fewestIn_2 : decode cX0_fewestIn 2 = .ok (.invokestatic 81, 3) := by decide +kernel
theorem dX0_fewestIn_5 : decode cX0_fewestIn 5 = .ok (.istore_n 3, 1) := by decide +kernel
theorem dX0_fewestIn_6 : decode cX0_fewestIn 6 = .ok (.iload_n 3, 1) := by decide +kernel
theorem dX0_fewestIn_7 : decode cX0_fewestIn 7 = .ok (.ifCond .lt 9, 3) := by decide +kernel
theorem dX0_fewestIn_10 : decode cX0_fewestIn 10 = .ok (.iload_n 2, 1) := by decide +kernel
theorem dX0_fewestIn_11 : decode cX0_fewestIn 11 = .ok (.bipush 12, 2) := by decide +kernel
theorem dX0_fewestIn_13 : decode cX0_fewestIn 13 = .ok (.if_icmp .le 5, 3) := by decide +kernel
theorem dX0_fewestIn_16 : decode cX0_fewestIn 16 = .ok (.iconst 0, 1) := by decide +kernel
theorem dX0_fewestIn_17 : decode cX0_fewestIn 17 = .ok (.ireturn, 1) := by decide +kernel
theorem dX0_fewestIn_18 : decode cX0_fewestIn 18 = .ok (.aload_n 0, 1) := by decide +kernel
theorem dX0_fewestIn_19 : decode cX0_fewestIn 19 = .ok (.iload_n 3, 1) := by decide +kernel
theorem dX0_fewestIn_20 : decode cX0_fewestIn 20 = .ok (.iaload, 1) := by decide +kernel
theorem dX0_fewestIn_21 : decode cX0_fewestIn 21 = .ok (.iload_n 1, 1) := by decide +kernel
theorem dX0_fewestIn_22 : decode cX0_fewestIn 22 = .ok (.iand, 1) := by decide +kernel
theorem dX0_fewestIn_23 : decode cX0_fewestIn 23 = .ok (.istore 4, 2) := by decide +kernel
theorem dX0_fewestIn_25 : decode cX0_fewestIn 25 = .ok (.iload_n 1, 1) := by decide +kernel
theorem dX0_fewestIn_26 : decode cX0_fewestIn 26 = .ok (.iconst 1, 1) := by decide +kernel
theorem dX0_fewestIn_27 : decode cX0_fewestIn 27 = .ok (.iload_n 3, 1) := by decide +kernel
theorem dX0_fewestIn_28 : decode cX0_fewestIn 28 = .ok (.ishl, 1) := by decide +kernel
theorem dX0_fewestIn_29 : decode cX0_fewestIn 29 = .ok (.iconst (-1), 1) := by decide +kernel
theorem dX0_fewestIn_30 : decode cX0_fewestIn 30 = .ok (.ixor, 1) := by decide +kernel
theorem dX0_fewestIn_31 : decode cX0_fewestIn 31 = .ok (.iand, 1) := by decide +kernel
theorem dX0_fewestIn_32 : decode cX0_fewestIn 32 = .ok (.istore 5, 2) := by decide +kernel
theorem dX0_fewestIn_34 : decode cX0_fewestIn 34 = .ok (.iconst 1, 1) := by decide +kernel
theorem dX0_fewestIn_35 : decode cX0_fewestIn 35 = .ok (.aload_n 0, 1) := by decide +kernel
theorem dX0_fewestIn_36 : decode cX0_fewestIn 36 = .ok (.iload 5, 2) := by decide +kernel
theorem dX0_fewestIn_38 : decode cX0_fewestIn 38 = .ok (.iload_n 2, 1) := by decide +kernel
theorem dX0_fewestIn_39 : decode cX0_fewestIn 39 = .ok (.iconst 1, 1) := by decide +kernel
theorem dX0_fewestIn_40 : decode cX0_fewestIn 40 = .ok (.iadd, 1) := by decide +kernel
theorem dX0_fewestIn_41 : decode cX0_fewestIn 41 = .ok (.invokestatic 77, 3) := by decide +kernel
theorem dX0_fewestIn_44 : decode cX0_fewestIn 44 = .ok (.iadd, 1) := by decide +kernel
theorem dX0_fewestIn_45 : decode cX0_fewestIn 45 = .ok (.istore 6, 2) := by decide +kernel
theorem dX0_fewestIn_47 : decode cX0_fewestIn 47 = .ok (.iload 4, 2) := by decide +kernel
theorem dX0_fewestIn_49 : decode cX0_fewestIn 49 = .ok (.invokestatic 53, 3) := by decide +kernel
theorem dX0_fewestIn_52 : decode cX0_fewestIn 52 = .ok (.iconst 1, 1) := by decide +kernel
theorem dX0_fewestIn_53 : decode cX0_fewestIn 53 = .ok (.if_icmp .ne 6, 3) := by decide +kernel
theorem dX0_fewestIn_56 : decode cX0_fewestIn 56 = .ok (.iload 6, 2) := by decide +kernel
theorem dX0_fewestIn_58 : decode cX0_fewestIn 58 = .ok (.ireturn, 1) := by decide +kernel
theorem dX0_fewestIn_59 : decode cX0_fewestIn 59 = .ok (.iload 6, 2) := by decide +kernel
theorem dX0_fewestIn_61 : decode cX0_fewestIn 61 = .ok (.iload 4, 2) := by decide +kernel
theorem dX0_fewestIn_63 : decode cX0_fewestIn 63 = .ok (.invokestatic 53, 3) := by decide +kernel
theorem dX0_fewestIn_66 : decode cX0_fewestIn 66 = .ok (.aload_n 0, 1) := by decide +kernel
theorem dX0_fewestIn_67 : decode cX0_fewestIn 67 = .ok (.iload 5, 2) := by decide +kernel
theorem dX0_fewestIn_69 : decode cX0_fewestIn 69 = .ok (.iload 4, 2) := by decide +kernel
theorem dX0_fewestIn_71 : decode cX0_fewestIn 71 = .ok (.iconst (-1), 1) := by decide +kernel
theorem dX0_fewestIn_72 : decode cX0_fewestIn 72 = .ok (.ixor, 1) := by decide +kernel
theorem dX0_fewestIn_73 : decode cX0_fewestIn 73 = .ok (.iand, 1) := by decide +kernel
theorem dX0_fewestIn_74 : decode cX0_fewestIn 74 = .ok (.iload_n 2, 1) := by decide +kernel
theorem dX0_fewestIn_75 : decode cX0_fewestIn 75 = .ok (.iconst 1, 1) := by decide +kernel
theorem dX0_fewestIn_76 : decode cX0_fewestIn 76 = .ok (.iadd, 1) := by decide +kernel
theorem dX0_fewestIn_77 : decode cX0_fewestIn 77 = .ok (.invokestatic 77, 3) := by decide +kernel
theorem dX0_fewestIn_80 : decode cX0_fewestIn 80 = .ok (.iadd, 1) := by decide +kernel
theorem dX0_fewestIn_81 : decode cX0_fewestIn 81 = .ok (.invokestatic 85, 3) := by decide +kernel
theorem dX0_fewestIn_84 : decode cX0_fewestIn 84 = .ok (.ireturn, 1) := by decide +kernel
theorem dX1_init_0 : decode cX1_init 0 = .ok (.aload_n 0, 1) := by decide +kernel
theorem dX1_init_1 : decode cX1_init 1 = .ok (.invokespecial 1, 3) := by decide +kernel
theorem dX1_init_4 : decode cX1_init 4 = .ok (.aload_n 0, 1) := by decide +kernel
theorem dX1_init_5 : decode cX1_init 5 = .ok (.iconst 0, 1) := by decide +kernel
theorem dX1_init_6 : decode cX1_init 6 = .ok (.putfield 7, 3) := by decide +kernel
theorem dX1_init_9 : decode cX1_init 9 = .ok (.aload_n 0, 1) := by decide +kernel
theorem dX1_init_10 : decode cX1_init 10 = .ok (.iconst 0, 1) := by decide +kernel
theorem dX1_init_11 : decode cX1_init 11 = .ok (.putfield 13, 3) := by decide +kernel
theorem dX1_init_14 : decode cX1_init 14 = .ok (.return_, 1) := by decide +kernel
theorem dX1_isOne_0 : decode cX1_isOne 0 = .ok (.iload_n 3, 1) := by decide +kernel
theorem dX1_isOne_1 : decode cX1_isOne 1 = .ok (.invokestatic 16, 3) := by decide +kernel
theorem dX1_isOne_4 : decode cX1_isOne 4 = .ok (.istore 4, 2) := by decide +kernel
theorem dX1_isOne_6 : decode cX1_isOne 6 = .ok (.iload_n 2, 1) := by decide +kernel
theorem dX1_isOne_7 : decode cX1_isOne 7 = .ok (.ifCond .eq 18, 3) := by decide +kernel
theorem dX1_isOne_10 : decode cX1_isOne 10 = .ok (.iload_n 3, 1) := by decide +kernel
theorem dX1_isOne_11 : decode cX1_isOne 11 = .ok (.iload_n 2, 1) := by decide +kernel
theorem dX1_isOne_12 : decode cX1_isOne 12 = .ok (.iand, 1) := by decide +kernel
theorem dX1_isOne_13 : decode cX1_isOne 13 = .ok (.ifCond .ne 12, 3) := by decide +kernel
theorem dX1_isOne_16 : decode cX1_isOne 16 = .ok (.iload 4, 2) := by decide +kernel
theorem dX1_isOne_18 : decode cX1_isOne 18 = .ok (.iload_n 2, 1) := by decide +kernel
theorem dX1_isOne_19 : decode cX1_isOne 19 = .ok (.invokestatic 16, 3) := by decide +kernel
theorem dX1_isOne_22 : decode cX1_isOne 22 = .ok (.if_icmp .le 5, 3) := by decide +kernel
theorem dX1_isOne_25 : decode cX1_isOne 25 = .ok (.iconst 0, 1) := by decide +kernel
theorem dX1_isOne_26 : decode cX1_isOne 26 = .ok (.ireturn, 1) := by decide +kernel
theorem dX1_isOne_27 : decode cX1_isOne 27 = .ok (.iload 4, 2) := by decide +kernel
theorem dX1_isOne_29 : decode cX1_isOne 29 = .ok (.ifCond .eq 18, 3) := by decide +kernel
theorem dX1_isOne_32 : decode cX1_isOne 32 = .ok (.aload_n 1, 1) := by decide +kernel
theorem dX1_isOne_33 : decode cX1_isOne 33 = .ok (.aload_n 0, 1) := by decide +kernel
theorem dX1_isOne_34 : decode cX1_isOne 34 = .ok (.getfield 22, 3) := by decide +kernel
theorem dX1_isOne_37 : decode cX1_isOne 37 = .ok (.iload_n 3, 1) := by decide +kernel
theorem dX1_isOne_38 : decode cX1_isOne 38 = .ok (.iload_n 2, 1) := by decide +kernel
theorem dX1_isOne_39 : decode cX1_isOne 39 = .ok (.invokevirtual 28, 3) := by decide +kernel
theorem dX1_isOne_42 : decode cX1_isOne 42 = .ok (.iload 4, 2) := by decide +kernel
theorem dX1_isOne_44 : decode cX1_isOne 44 = .ok (.if_icmp .ne 7, 3) := by decide +kernel
theorem dX1_isOne_47 : decode cX1_isOne 47 = .ok (.iconst 1, 1) := by decide +kernel
theorem dX1_isOne_48 : decode cX1_isOne 48 = .ok (.goto 4, 3) := by decide +kernel
theorem dX1_isOne_51 : decode cX1_isOne 51 = .ok (.iconst 0, 1) := by decide +kernel
theorem dX1_isOne_52 : decode cX1_isOne 52 = .ok (.ireturn, 1) := by decide +kernel
theorem dX1_find_0 : decode cX1_find 0 = .ok (.aload_n 1, 1) := by decide +kernel
theorem dX1_find_1 : decode cX1_find 1 = .ok (.invokevirtual 34, 3) := by decide +kernel
theorem dX1_find_4 : decode cX1_find 4 = .ok (.istore 4, 2) := by decide +kernel
theorem dX1_find_6 : decode cX1_find 6 = .ok (.aload_n 0, 1) := by decide +kernel
theorem dX1_find_7 : decode cX1_find 7 = .ok (.iconst 0, 1) := by decide +kernel
theorem dX1_find_8 : decode cX1_find 8 = .ok (.putfield 7, 3) := by decide +kernel
theorem dX1_find_11 : decode cX1_find 11 = .ok (.aload_n 0, 1) := by decide +kernel
theorem dX1_find_12 : decode cX1_find 12 = .ok (.iconst 0, 1) := by decide +kernel
theorem dX1_find_13 : decode cX1_find 13 = .ok (.putfield 13, 3) := by decide +kernel
theorem dX1_find_16 : decode cX1_find 16 = .ok (.aload_n 3, 1) := by decide +kernel
theorem dX1_find_17 : decode cX1_find 17 = .ok (.aload_n 1, 1) := by decide +kernel
theorem dX1_find_18 : decode cX1_find 18 = .ok (.invokevirtual 38, 3) := by decide +kernel
theorem dX1_find_21 : decode cX1_find 21 = .ok (.iconst 1, 1) := by decide +kernel
theorem dX1_find_22 : decode cX1_find 22 = .ok (.istore 5, 2) := by decide +kernel
theorem dX1_find_24 : decode cX1_find 24 = .ok (.iload 5, 2) := by decide +kernel
theorem dX1_find_26 : decode cX1_find 26 = .ok (.iload 4, 2) := by decide +kernel
theorem dX1_find_28 : decode cX1_find 28 = .ok (.if_icmp .gt 60, 3) := by decide +kernel
theorem dX1_find_31 : decode cX1_find 31 = .ok (.aload_n 1, 1) := by decide +kernel
theorem dX1_find_32 : decode cX1_find 32 = .ok (.aload_n 2, 1) := by decide +kernel
theorem dX1_find_33 : decode cX1_find 33 = .ok (.iload 5, 2) := by decide +kernel
theorem dX1_find_35 : decode cX1_find 35 = .ok (.aload_n 3, 1) := by decide +kernel
theorem dX1_find_36 : decode cX1_find 36 = .ok (.getfield 44, 3) := by decide +kernel
theorem dX1_find_39 : decode cX1_find 39 = .ok (.iload 5, 2) := by decide +kernel
theorem dX1_find_41 : decode cX1_find 41 = .ok (.iaload, 1) := by decide +kernel
theorem dX1_find_42 : decode cX1_find 42 = .ok (.invokestatic 47, 3) := by decide +kernel
theorem dX1_find_45 : decode cX1_find 45 = .ok (.ifCond .ne 6, 3) := by decide +kernel
theorem dX1_find_48 : decode cX1_find 48 = .ok (.goto 34, 3) := by decide +kernel
theorem dX1_find_51 : decode cX1_find 51 = .ok (.aload_n 0, 1) := by decide +kernel
theorem dX1_find_52 : decode cX1_find 52 = .ok (.dup, 1) := by decide +kernel
theorem dX1_find_53 : decode cX1_find 53 = .ok (.getfield 7, 3) := by decide +kernel
theorem dX1_find_56 : decode cX1_find 56 = .ok (.iconst 1, 1) := by decide +kernel
theorem dX1_find_57 : decode cX1_find 57 = .ok (.iadd, 1) := by decide +kernel
theorem dX1_find_58 : decode cX1_find 58 = .ok (.putfield 7, 3) := by decide +kernel
theorem dX1_find_61 : decode cX1_find 61 = .ok (.iload 5, 2) := by decide +kernel
theorem dX1_find_63 : decode cX1_find 63 = .ok (.invokestatic 16, 3) := by decide +kernel
theorem dX1_find_66 : decode cX1_find 66 = .ok (.aload_n 0, 1) := by decide +kernel
theorem dX1_find_67 : decode cX1_find 67 = .ok (.getfield 13, 3) := by decide +kernel
theorem dX1_find_70 : decode cX1_find 70 = .ok (.invokestatic 16, 3) := by decide +kernel
theorem dX1_find_73 : decode cX1_find 73 = .ok (.if_icmp .le 9, 3) := by decide +kernel
theorem dX1_find_76 : decode cX1_find 76 = .ok (.aload_n 0, 1) := by decide +kernel
theorem dX1_find_77 : decode cX1_find 77 = .ok (.iload 5, 2) := by decide +kernel
theorem dX1_find_79 : decode cX1_find 79 = .ok (.putfield 13, 3) := by decide +kernel
theorem dX1_find_82 : decode cX1_find 82 = .ok (.iinc 5 1, 3) := by decide +kernel
theorem dX1_find_85 : decode cX1_find 85 = .ok (.goto (-61), 3) := by decide +kernel
theorem dX1_find_88 : decode cX1_find 88 = .ok (.return_, 1) := by decide +kernel
theorem dX2_init_0 : decode cX2_init 0 = .ok (.aload_n 0, 1) := by decide +kernel
theorem dX2_init_1 : decode cX2_init 1 = .ok (.invokespecial 3, 3) := by decide +kernel
theorem dX2_init_4 : decode cX2_init 4 = .ok (.aload_n 0, 1) := by decide +kernel
theorem dX2_init_5 : decode cX2_init 5 = .ok (.bipush 12, 2) := by decide +kernel
theorem dX2_init_7 : decode cX2_init 7 = .ok (.newarray .int, 2) := by decide +kernel
theorem dX2_init_9 : decode cX2_init 9 = .ok (.putfield 9, 3) := by decide +kernel
theorem dX2_init_12 : decode cX2_init 12 = .ok (.aload_n 0, 1) := by decide +kernel
theorem dX2_init_13 : decode cX2_init 13 = .ok (.bipush 12, 2) := by decide +kernel
theorem dX2_init_15 : decode cX2_init 15 = .ok (.newarray .int, 2) := by decide +kernel
theorem dX2_init_17 : decode cX2_init 17 = .ok (.putfield 15, 3) := by decide +kernel
theorem dX2_init_20 : decode cX2_init 20 = .ok (.aload_n 0, 1) := by decide +kernel
theorem dX2_init_21 : decode cX2_init 21 = .ok (.bipush 12, 2) := by decide +kernel
theorem dX2_init_23 : decode cX2_init 23 = .ok (.newarray .int, 2) := by decide +kernel
theorem dX2_init_25 : decode cX2_init 25 = .ok (.putfield 18, 3) := by decide +kernel
theorem dX2_init_28 : decode cX2_init 28 = .ok (.aload_n 0, 1) := by decide +kernel
theorem dX2_init_29 : decode cX2_init 29 = .ok (.bipush 12, 2) := by decide +kernel
theorem dX2_init_31 : decode cX2_init 31 = .ok (.newarray .int, 2) := by decide +kernel
theorem dX2_init_33 : decode cX2_init 33 = .ok (.putfield 21, 3) := by decide +kernel
theorem dX2_init_36 : decode cX2_init 36 = .ok (.aload_n 0, 1) := by decide +kernel
theorem dX2_init_37 : decode cX2_init 37 = .ok (.iconst 0, 1) := by decide +kernel
theorem dX2_init_38 : decode cX2_init 38 = .ok (.putfield 24, 3) := by decide +kernel
theorem dX2_init_41 : decode cX2_init 41 = .ok (.aload_n 0, 1) := by decide +kernel
theorem dX2_init_42 : decode cX2_init 42 = .ok (.iconst 0, 1) := by decide +kernel
theorem dX2_init_43 : decode cX2_init 43 = .ok (.putfield 28, 3) := by decide +kernel
theorem dX2_init_46 : decode cX2_init 46 = .ok (.aload_n 0, 1) := by decide +kernel
theorem dX2_init_47 : decode cX2_init 47 = .ok (.iconst 0, 1) := by decide +kernel
theorem dX2_init_48 : decode cX2_init 48 = .ok (.putfield 31, 3) := by decide +kernel
theorem dX2_init_51 : decode cX2_init 51 = .ok (.aload_n 0, 1) := by decide +kernel
theorem dX2_init_52 : decode cX2_init 52 = .ok (.iconst 0, 1) := by decide +kernel
theorem dX2_init_53 : decode cX2_init 53 = .ok (.putfield 34, 3) := by decide +kernel
theorem dX2_init_56 : decode cX2_init 56 = .ok (.return_, 1) := by decide +kernel
theorem dX2_mostPairs_0 : decode cX2_mostPairs 0 = .ok (.iconst 0, 1) := by decide +kernel
theorem dX2_mostPairs_1 : decode cX2_mostPairs 1 = .ok (.istore 4, 2) := by decide +kernel
theorem dX2_mostPairs_3 : decode cX2_mostPairs 3 = .ok (.aload_n 0, 1) := by decide +kernel
theorem dX2_mostPairs_4 : decode cX2_mostPairs 4 = .ok (.iconst 0, 1) := by decide +kernel
theorem dX2_mostPairs_5 : decode cX2_mostPairs 5 = .ok (.putfield 24, 3) := by decide +kernel
theorem dX2_mostPairs_8 : decode cX2_mostPairs 8 = .ok (.aload_n 0, 1) := by decide +kernel
theorem dX2_mostPairs_9 : decode cX2_mostPairs 9 = .ok (.getfield 9, 3) := by decide +kernel
theorem dX2_mostPairs_12 : decode cX2_mostPairs 12 = .ok (.iconst (-1), 1) := by decide +kernel
theorem dX2_mostPairs_13 : decode cX2_mostPairs 13 = .ok (.invokestatic 37, 3) := by decide +kernel
theorem dX2_mostPairs_16 : decode cX2_mostPairs 16 = .ok (.aload_n 0, 1) := by decide +kernel
theorem dX2_mostPairs_17 : decode cX2_mostPairs 17 = .ok (.getfield 15, 3) := by decide +kernel
theorem dX2_mostPairs_20 : decode cX2_mostPairs 20 = .ok (.iconst (-1), 1) := by decide +kernel
theorem dX2_mostPairs_21 : decode cX2_mostPairs 21 = .ok (.invokestatic 37, 3) := by decide +kernel
theorem dX2_mostPairs_24 : decode cX2_mostPairs 24 = .ok (.iconst 0, 1) := by decide +kernel
theorem dX2_mostPairs_25 : decode cX2_mostPairs 25 = .ok (.istore 5, 2) := by decide +kernel
theorem dX2_mostPairs_27 : decode cX2_mostPairs 27 = .ok (.iload 5, 2) := by decide +kernel
theorem dX2_mostPairs_29 : decode cX2_mostPairs 29 = .ok (.bipush 12, 2) := by decide +kernel
theorem dX2_mostPairs_31 : decode cX2_mostPairs 31 = .ok (.if_icmp .ge 32, 3) := by decide +kernel
theorem dX2_mostPairs_34 : decode cX2_mostPairs 34 = .ok (.iload_n 2, 1) := by decide +kernel
theorem dX2_mostPairs_35 : decode cX2_mostPairs 35 = .ok (.iload 5, 2) := by decide +kernel
theorem dX2_mostPairs_37 : decode cX2_mostPairs 37 = .ok (.ishr, 1) := by decide +kernel
theorem dX2_mostPairs_38 : decode cX2_mostPairs 38 = .ok (.iconst 1, 1) := by decide +kernel
theorem dX2_mostPairs_39 : decode cX2_mostPairs 39 = .ok (.iand, 1) := by decide +kernel
theorem dX2_mostPairs_40 : decode cX2_mostPairs 40 = .ok (.ifCond .eq 17, 3) := by decide +kernel
theorem dX2_mostPairs_43 : decode cX2_mostPairs 43 = .ok (.aload_n 0, 1) := by decide +kernel
theorem dX2_mostPairs_44 : decode cX2_mostPairs 44 = .ok (.aload_n 1, 1) := by decide +kernel
theorem dX2_mostPairs_45 : decode cX2_mostPairs 45 = .ok (.iload 5, 2) := by decide +kernel
theorem dX2_mostPairs_47 : decode cX2_mostPairs 47 = .ok (.iload_n 3, 1) := by decide +kernel
theorem dX2_mostPairs_48 : decode cX2_mostPairs 48 = .ok (.invokevirtual 43, 3) := by decide +kernel
theorem dX2_mostPairs_51 : decode cX2_mostPairs 51 = .ok (.ifCond .eq 6, 3) := by decide +kernel
theorem dX2_mostPairs_54 : decode cX2_mostPairs 54 = .ok (.iinc 4 1, 3) := by decide +kernel
theorem dX2_mostPairs_57 : decode cX2_mostPairs 57 = .ok (.iinc 5 1, 3) := by decide +kernel
theorem dX2_mostPairs_60 : decode cX2_mostPairs 60 = .ok (.goto (-33), 3) := by decide +kernel
theorem dX2_mostPairs_63 : decode cX2_mostPairs 63 = .ok (.iload 4, 2) := by decide +kernel
theorem dX2_mostPairs_65 : decode cX2_mostPairs 65 = .ok (.ireturn, 1) := by decide +kernel
theorem dX2_pairsOneMore_0 : decode cX2_pairsOneMore 0 = .ok (.iconst 0, 1) := by decide +kernel
theorem dX2_pairsOneMore_1 : decode cX2_pairsOneMore 1 = .ok (.istore 4, 2) := by decide +kernel
theorem dX2_pairsOneMore_3 : decode cX2_pairsOneMore 3 = .ok (.iconst 1, 1) := by decide +kernel
theorem dX2_pairsOneMore_4 : decode cX2_pairsOneMore 4 = .ok (.istore 5, 2) := by decide +kernel
theorem dX2_pairsOneMore_6 : decode cX2_pairsOneMore 6 = .ok (.aload_n 0, 1) := by decide +kernel
theorem dX2_pairsOneMore_7 : decode cX2_pairsOneMore 7 = .ok (.getfield 21, 3) := by decide +kernel
theorem dX2_pairsOneMore_10 : decode cX2_pairsOneMore 10 = .ok (.iconst 0, 1) := by decide +kernel
theorem dX2_pairsOneMore_11 : decode cX2_pairsOneMore 11 = .ok (.iload_n 2, 1) := by decide +kernel
theorem dX2_pairsOneMore_12 : decode cX2_pairsOneMore 12 = .ok (.iastore, 1) := by decide +kernel
theorem dX2_pairsOneMore_13 : decode cX2_pairsOneMore 13 = .ok (.iconst 0, 1) := by decide +kernel
theorem dX2_pairsOneMore_14 : decode cX2_pairsOneMore 14 = .ok (.istore 6, 2) := by decide +kernel
theorem dX2_pairsOneMore_16 : decode cX2_pairsOneMore 16 = .ok (.iload 6, 2) := by decide +kernel
theorem dX2_pairsOneMore_18 : decode cX2_pairsOneMore 18 = .ok (.iload 5, 2) := by decide +kernel
theorem dX2_pairsOneMore_20 : decode cX2_pairsOneMore 20 = .ok (.if_icmp .ge 173, 3) := by decide +kernel
theorem dX2_pairsOneMore_23 : decode cX2_pairsOneMore 23 = .ok (.iload 6, 2) := by decide +kernel
theorem dX2_pairsOneMore_25 : decode cX2_pairsOneMore 25 = .ok (.bipush 12, 2) := by decide +kernel
theorem dX2_pairsOneMore_27 : decode cX2_pairsOneMore 27 = .ok (.if_icmp .ge 166, 3) := by decide +kernel
theorem dX2_pairsOneMore_30 : decode cX2_pairsOneMore 30 = .ok (.aload_n 0, 1) := by decide +kernel
theorem dX2_pairsOneMore_31 : decode cX2_pairsOneMore 31 = .ok (.getfield 21, 3) := by decide +kernel
theorem dX2_pairsOneMore_34 : decode cX2_pairsOneMore 34 = .ok (.iload 6, 2) := by decide +kernel
theorem dX2_pairsOneMore_36 : decode cX2_pairsOneMore 36 = .ok (.iaload, 1) := by decide +kernel
theorem dX2_pairsOneMore_37 : decode cX2_pairsOneMore 37 = .ok (.istore 7, 2) := by decide +kernel
theorem dX2_pairsOneMore_39 : decode cX2_pairsOneMore 39 = .ok (.aload_n 1, 1) := by decide +kernel
theorem dX2_pairsOneMore_40 : decode cX2_pairsOneMore 40 = .ok (.iload 7, 2) := by decide +kernel
theorem dX2_pairsOneMore_42 : decode cX2_pairsOneMore 42 = .ok (.iaload, 1) := by decide +kernel
theorem dX2_pairsOneMore_43 : decode cX2_pairsOneMore 43 = .ok (.iload_n 3, 1) := by decide +kernel
theorem dX2_pairsOneMore_44 : decode cX2_pairsOneMore 44 = .ok (.iand, 1) := by decide +kernel
theorem dX2_pairsOneMore_45 : decode cX2_pairsOneMore 45 = .ok (.iload 4, 2) := by decide +kernel
theorem dX2_pairsOneMore_47 : decode cX2_pairsOneMore 47 = .ok (.iconst (-1), 1) := by decide +kernel
theorem dX2_pairsOneMore_48 : decode cX2_pairsOneMore 48 = .ok (.ixor, 1) := by decide +kernel
theorem dX2_pairsOneMore_49 : decode cX2_pairsOneMore 49 = .ok (.iand, 1) := by decide +kernel
theorem dX2_pairsOneMore_50 : decode cX2_pairsOneMore 50 = .ok (.istore 8, 2) := by decide +kernel
theorem dX2_pairsOneMore_52 : decode cX2_pairsOneMore 52 = .ok (.iload 8, 2) := by decide +kernel
theorem dX2_pairsOneMore_54 : decode cX2_pairsOneMore 54 = .ok (.aload_n 0, 1) := by decide +kernel
theorem dX2_pairsOneMore_55 : decode cX2_pairsOneMore 55 = .ok (.getfield 24, 3) := by decide +kernel
theorem dX2_pairsOneMore_58 : decode cX2_pairsOneMore 58 = .ok (.iconst (-1), 1) := by decide +kernel
theorem dX2_pairsOneMore_59 : decode cX2_pairsOneMore 59 = .ok (.ixor, 1) := by decide +kernel
theorem dX2_pairsOneMore_60 : decode cX2_pairsOneMore 60 = .ok (.iand, 1) := by decide +kernel
theorem dX2_pairsOneMore_61 : decode cX2_pairsOneMore 61 = .ok (.istore 9, 2) := by decide +kernel
theorem dX2_pairsOneMore_63 : decode cX2_pairsOneMore 63 = .ok (.iload 9, 2) := by decide +kernel
theorem dX2_pairsOneMore_65 : decode cX2_pairsOneMore 65 = .ok (.ifCond .eq 40, 3) := by decide +kernel
theorem dX2_pairsOneMore_68 : decode cX2_pairsOneMore 68 = .ok (.iload 9, 2) := by decide +kernel
theorem dX2_pairsOneMore_70 : decode cX2_pairsOneMore 70 = .ok (.invokestatic 47, 3) := by decide +kernel
theorem dX2_pairsOneMore_73 : decode cX2_pairsOneMore 73 = .ok (.istore 10, 2) := by decide +kernel
theorem dX2_pairsOneMore_75 : decode cX2_pairsOneMore 75 = .ok (.aload_n 0, 1) := by decide +kernel
theorem dX2_pairsOneMore_76 : decode cX2_pairsOneMore 76 = .ok (.getfield 18, 3) := by decide +kernel
theorem dX2_pairsOneMore_79 : decode cX2_pairsOneMore 79 = .ok (.iload 10, 2) := by decide +kernel
theorem dX2_pairsOneMore_81 : decode cX2_pairsOneMore 81 = .ok (.iload 7, 2) := by decide +kernel
theorem dX2_pairsOneMore_83 : decode cX2_pairsOneMore 83 = .ok (.iastore, 1) := by decide +kernel
theorem dX2_pairsOneMore_84 : decode cX2_pairsOneMore 84 = .ok (.aload_n 0, 1) := by decide +kernel
theorem dX2_pairsOneMore_85 : decode cX2_pairsOneMore 85 = .ok (.dup, 1) := by decide +kernel
theorem dX2_pairsOneMore_86 : decode cX2_pairsOneMore 86 = .ok (.getfield 24, 3) := by decide +kernel
theorem dX2_pairsOneMore_89 : decode cX2_pairsOneMore 89 = .ok (.iconst 1, 1) := by decide +kernel
theorem dX2_pairsOneMore_90 : decode cX2_pairsOneMore 90 = .ok (.iload 10, 2) := by decide +kernel
theorem dX2_pairsOneMore_92 : decode cX2_pairsOneMore 92 = .ok (.ishl, 1) := by decide +kernel
theorem dX2_pairsOneMore_93 : decode cX2_pairsOneMore 93 = .ok (.ior, 1) := by decide +kernel
theorem dX2_pairsOneMore_94 : decode cX2_pairsOneMore 94 = .ok (.putfield 24, 3) := by decide +kernel
theorem dX2_pairsOneMore_97 : decode cX2_pairsOneMore 97 = .ok (.aload_n 0, 1) := by decide +kernel
theorem dX2_pairsOneMore_98 : decode cX2_pairsOneMore 98 = .ok (.iload 10, 2) := by decide +kernel
theorem dX2_pairsOneMore_100 : decode cX2_pairsOneMore 100 = .ok (.invokevirtual 53, 3) := by decide +kernel
theorem dX2_pairsOneMore_103 : decode cX2_pairsOneMore 103 = .ok (.iconst 1, 1) := by decide +kernel
theorem dX2_pairsOneMore_104 : decode cX2_pairsOneMore 104 = .ok (.ireturn, 1) := by decide +kernel
theorem dX2_pairsOneMore_105 : decode cX2_pairsOneMore 105 = .ok (.iload 4, 2) := by decide +kernel
theorem dX2_pairsOneMore_107 : decode cX2_pairsOneMore 107 = .ok (.iload 8, 2) := by decide +kernel
theorem dX2_pairsOneMore_109 : decode cX2_pairsOneMore 109 = .ok (.ior, 1) := by decide +kernel
theorem dX2_pairsOneMore_110 : decode cX2_pairsOneMore 110 = .ok (.istore 4, 2) := by decide +kernel
theorem dX2_pairsOneMore_112 : decode cX2_pairsOneMore 112 = .ok (.iconst 0, 1) := by decide +kernel
theorem dX2_pairsOneMore_113 : decode cX2_pairsOneMore 113 = .ok (.istore 10, 2) := by decide +kernel
theorem dX2_pairsOneMore_115 : decode cX2_pairsOneMore 115 = .ok (.iload 10, 2) := by decide +kernel
theorem dX2_pairsOneMore_117 : decode cX2_pairsOneMore 117 = .ok (.bipush 12, 2) := by decide +kernel
theorem dX2_pairsOneMore_119 : decode cX2_pairsOneMore 119 = .ok (.if_icmp .ge 68, 3) := by decide +kernel
theorem dX2_pairsOneMore_122 : decode cX2_pairsOneMore 122 = .ok (.iload 8, 2) := by decide +kernel
theorem dX2_pairsOneMore_124 : decode cX2_pairsOneMore 124 = .ok (.iload 10, 2) := by decide +kernel
theorem dX2_pairsOneMore_126 : decode cX2_pairsOneMore 126 = .ok (.ishr, 1) := by decide +kernel
theorem dX2_pairsOneMore_127 : decode cX2_pairsOneMore 127 = .ok (.iconst 1, 1) := by decide +kernel
theorem dX2_pairsOneMore_128 : decode cX2_pairsOneMore 128 = .ok (.iand, 1) := by decide +kernel
theorem dX2_pairsOneMore_129 : decode cX2_pairsOneMore 129 = .ok (.ifCond .ne 6, 3) := by decide +kernel
theorem dX2_pairsOneMore_132 : decode cX2_pairsOneMore 132 = .ok (.goto 49, 3) := by decide +kernel
theorem dX2_pairsOneMore_135 : decode cX2_pairsOneMore 135 = .ok (.aload_n 0, 1) := by decide +kernel
theorem dX2_pairsOneMore_136 : decode cX2_pairsOneMore 136 = .ok (.getfield 18, 3) := by decide +kernel
theorem dX2_pairsOneMore_139 : decode cX2_pairsOneMore 139 = .ok (.iload 10, 2) := by decide +kernel
theorem dX2_pairsOneMore_141 : decode cX2_pairsOneMore 141 = .ok (.iload 7, 2) := by decide +kernel
theorem dX2_pairsOneMore_143 : decode cX2_pairsOneMore 143 = .ok (.iastore, 1) := by decide +kernel
theorem dX2_pairsOneMore_144 : decode cX2_pairsOneMore 144 = .ok (.aload_n 0, 1) := by decide +kernel
theorem dX2_pairsOneMore_145 : decode cX2_pairsOneMore 145 = .ok (.getfield 15, 3) := by decide +kernel
theorem dX2_pairsOneMore_148 : decode cX2_pairsOneMore 148 = .ok (.iload 10, 2) := by decide +kernel
theorem dX2_pairsOneMore_150 : decode cX2_pairsOneMore 150 = .ok (.iaload, 1) := by decide +kernel
theorem dX2_pairsOneMore_151 : decode cX2_pairsOneMore 151 = .ok (.ifCond .lt 30, 3) := by decide +kernel
theorem dX2_pairsOneMore_154 : decode cX2_pairsOneMore 154 = .ok (.iload 5, 2) := by decide +kernel
theorem dX2_pairsOneMore_156 : decode cX2_pairsOneMore 156 = .ok (.bipush 12, 2) := by decide +kernel
theorem dX2_pairsOneMore_158 : decode cX2_pairsOneMore 158 = .ok (.if_icmp .lt 6, 3) := by decide +kernel
theorem dX2_pairsOneMore_161 : decode cX2_pairsOneMore 161 = .ok (.goto 20, 3) := by decide +kernel
theorem dX2_pairsOneMore_164 : decode cX2_pairsOneMore 164 = .ok (.aload_n 0, 1) := by decide +kernel
theorem dX2_pairsOneMore_165 : decode cX2_pairsOneMore 165 = .ok (.getfield 21, 3) := by decide +kernel
theorem dX2_pairsOneMore_168 : decode cX2_pairsOneMore 168 = .ok (.iload 5, 2) := by decide +kernel
theorem dX2_pairsOneMore_170 : decode cX2_pairsOneMore 170 = .ok (.aload_n 0, 1) := by decide +kernel
theorem dX2_pairsOneMore_171 : decode cX2_pairsOneMore 171 = .ok (.getfield 15, 3) := by decide +kernel
theorem dX2_pairsOneMore_174 : decode cX2_pairsOneMore 174 = .ok (.iload 10, 2) := by decide +kernel
theorem dX2_pairsOneMore_176 : decode cX2_pairsOneMore 176 = .ok (.iaload, 1) := by decide +kernel
theorem dX2_pairsOneMore_177 : decode cX2_pairsOneMore 177 = .ok (.iastore, 1) := by decide +kernel
theorem dX2_pairsOneMore_178 : decode cX2_pairsOneMore 178 = .ok (.iinc 5 1, 3) := by decide +kernel
theorem dX2_pairsOneMore_181 : decode cX2_pairsOneMore 181 = .ok (.iinc 10 1, 3) := by decide +kernel
theorem dX2_pairsOneMore_184 : decode cX2_pairsOneMore 184 = .ok (.goto (-69), 3) := by decide +kernel
theorem dX2_pairsOneMore_187 : decode cX2_pairsOneMore 187 = .ok (.iinc 6 1, 3) := by decide +kernel
theorem dX2_pairsOneMore_190 : decode cX2_pairsOneMore 190 = .ok (.goto (-174), 3) := by decide +kernel
theorem dX2_pairsOneMore_193 : decode cX2_pairsOneMore 193 = .ok (.iconst 0, 1) := by decide +kernel
theorem dX2_pairsOneMore_194 : decode cX2_pairsOneMore 194 = .ok (.ireturn, 1) := by decide +kernel
theorem dX2_shiftPairs_0 : decode cX2_shiftPairs 0 = .ok (.iload_n 1, 1) := by decide +kernel
theorem dX2_shiftPairs_1 : decode cX2_shiftPairs 1 = .ok (.istore_n 2, 1) := by decide +kernel
theorem dX2_shiftPairs_2 : decode cX2_shiftPairs 2 = .ok (.iconst 0, 1) := by decide +kernel
theorem dX2_shiftPairs_3 : decode cX2_shiftPairs 3 = .ok (.istore_n 3, 1) := by decide +kernel
theorem dX2_shiftPairs_4 : decode cX2_shiftPairs 4 = .ok (.iload_n 3, 1) := by decide +kernel
theorem dX2_shiftPairs_5 : decode cX2_shiftPairs 5 = .ok (.bipush 12, 2) := by decide +kernel
theorem dX2_shiftPairs_7 : decode cX2_shiftPairs 7 = .ok (.if_icmp .ge 49, 3) := by decide +kernel
theorem dX2_shiftPairs_10 : decode cX2_shiftPairs 10 = .ok (.iload_n 2, 1) := by decide +kernel
theorem dX2_shiftPairs_11 : decode cX2_shiftPairs 11 = .ok (.ifCond .lt 45, 3) := by decide +kernel
theorem dX2_shiftPairs_14 : decode cX2_shiftPairs 14 = .ok (.aload_n 0, 1) := by decide +kernel
theorem dX2_shiftPairs_15 : decode cX2_shiftPairs 15 = .ok (.getfield 18, 3) := by decide +kernel
theorem dX2_shiftPairs_18 : decode cX2_shiftPairs 18 = .ok (.iload_n 2, 1) := by decide +kernel
theorem dX2_shiftPairs_19 : decode cX2_shiftPairs 19 = .ok (.iaload, 1) := by decide +kernel
theorem dX2_shiftPairs_20 : decode cX2_shiftPairs 20 = .ok (.istore 4, 2) := by decide +kernel
theorem dX2_shiftPairs_22 : decode cX2_shiftPairs 22 = .ok (.aload_n 0, 1) := by decide +kernel
theorem dX2_shiftPairs_23 : decode cX2_shiftPairs 23 = .ok (.getfield 9, 3) := by decide +kernel
theorem dX2_shiftPairs_26 : decode cX2_shiftPairs 26 = .ok (.iload 4, 2) := by decide +kernel
theorem dX2_shiftPairs_28 : decode cX2_shiftPairs 28 = .ok (.iaload, 1) := by decide +kernel
theorem dX2_shiftPairs_29 : decode cX2_shiftPairs 29 = .ok (.istore 5, 2) := by decide +kernel
theorem dX2_shiftPairs_31 : decode cX2_shiftPairs 31 = .ok (.aload_n 0, 1) := by decide +kernel
theorem dX2_shiftPairs_32 : decode cX2_shiftPairs 32 = .ok (.getfield 9, 3) := by decide +kernel
theorem dX2_shiftPairs_35 : decode cX2_shiftPairs 35 = .ok (.iload 4, 2) := by decide +kernel
theorem dX2_shiftPairs_37 : decode cX2_shiftPairs 37 = .ok (.iload_n 2, 1) := by decide +kernel
theorem dX2_shiftPairs_38 : decode cX2_shiftPairs 38 = .ok (.iastore, 1) := by decide +kernel
theorem dX2_shiftPairs_39 : decode cX2_shiftPairs 39 = .ok (.aload_n 0, 1) := by decide +kernel
theorem dX2_shiftPairs_40 : decode cX2_shiftPairs 40 = .ok (.getfield 15, 3) := by decide +kernel
theorem dX2_shiftPairs_43 : decode cX2_shiftPairs 43 = .ok (.iload_n 2, 1) := by decide +kernel
theorem dX2_shiftPairs_44 : decode cX2_shiftPairs 44 = .ok (.iload 4, 2) := by decide +kernel
theorem dX2_shiftPairs_46 : decode cX2_shiftPairs 46 = .ok (.iastore, 1) := by decide +kernel
theorem dX2_shiftPairs_47 : decode cX2_shiftPairs 47 = .ok (.iload 5, 2) := by decide +kernel
theorem dX2_shiftPairs_49 : decode cX2_shiftPairs 49 = .ok (.istore_n 2, 1) := by decide +kernel
theorem dX2_shiftPairs_50 : decode cX2_shiftPairs 50 = .ok (.iinc 3 1, 3) := by decide +kernel
theorem dX2_shiftPairs_53 : decode cX2_shiftPairs 53 = .ok (.goto (-49), 3) := by decide +kernel
theorem dX2_shiftPairs_56 : decode cX2_shiftPairs 56 = .ok (.return_, 1) := by decide +kernel
theorem dX2_least_0 : decode cX2_least 0 = .ok (.aload_n 0, 1) := by decide +kernel
theorem dX2_least_1 : decode cX2_least 1 = .ok (.aload_n 1, 1) := by decide +kernel
theorem dX2_least_2 : decode cX2_least 2 = .ok (.iload_n 2, 1) := by decide +kernel
theorem dX2_least_3 : decode cX2_least 3 = .ok (.iload_n 2, 1) := by decide +kernel
theorem dX2_least_4 : decode cX2_least 4 = .ok (.invokevirtual 57, 3) := by decide +kernel
theorem dX2_least_7 : decode cX2_least 7 = .ok (.ireturn, 1) := by decide +kernel
theorem dX2_leastWith_0 : decode cX2_leastWith 0 = .ok (.iload_n 2, 1) := by decide +kernel
theorem dX2_leastWith_1 : decode cX2_leastWith 1 = .ok (.invokestatic 61, 3) := by decide +kernel
theorem dX2_leastWith_4 : decode cX2_leastWith 4 = .ok (.iload 4, 2) := by decide +kernel
theorem dX2_leastWith_6 : decode cX2_leastWith 6 = .ok (.invokestatic 61, 3) := by decide +kernel
theorem dX2_leastWith_9 : decode cX2_leastWith 9 = .ok (.iadd, 1) := by decide +kernel
theorem dX2_leastWith_10 : decode cX2_leastWith 10 = .ok (.istore 6, 2) := by decide +kernel
theorem dX2_leastWith_12 : decode cX2_leastWith 12 = .ok (.iload 6, 2) := by decide +kernel
theorem dX2_leastWith_14 : decode cX2_leastWith 14 = .ok (.aload_n 0, 1) := by decide +kernel
theorem dX2_leastWith_15 : decode cX2_leastWith 15 = .ok (.aload_n 1, 1) := by decide +kernel
theorem dX2_leastWith_16 : decode cX2_leastWith 16 = .ok (.iload_n 3, 1) := by decide +kernel
theorem dX2_leastWith_17 : decode cX2_leastWith 17 = .ok (.iload 5, 2) := by decide +kernel
theorem dX2_leastWith_19 : decode cX2_leastWith 19 = .ok (.invokevirtual 57, 3) := by decide +kernel
theorem dX2_leastWith_22 : decode cX2_leastWith 22 = .ok (.iadd, 1) := by decide +kernel
theorem dX2_leastWith_23 : decode cX2_leastWith 23 = .ok (.ireturn, 1) := by decide +kernel
theorem dX2_settle_0 : decode cX2_settle 0 = .ok (.aload_n 0, 1) := by decide +kernel
theorem dX2_settle_1 : decode cX2_settle 1 = .ok (.aload_n 1, 1) := by decide +kernel
theorem dX2_settle_2 : decode cX2_settle 2 = .ok (.iload_n 2, 1) := by decide +kernel
theorem dX2_settle_3 : decode cX2_settle 3 = .ok (.invokevirtual 64, 3) := by decide +kernel
theorem dX2_settle_6 : decode cX2_settle 6 = .ok (.istore_n 3, 1) := by decide +kernel
theorem dX2_settle_7 : decode cX2_settle 7 = .ok (.iconst 0, 1) := by decide +kernel
theorem dX2_settle_8 : decode cX2_settle 8 = .ok (.istore 4, 2) := by decide +kernel
theorem dX2_settle_10 : decode cX2_settle 10 = .ok (.iconst 0, 1) := by decide +kernel
theorem dX2_settle_11 : decode cX2_settle 11 = .ok (.istore 5, 2) := by decide +kernel
theorem dX2_settle_13 : decode cX2_settle 13 = .ok (.aload_n 0, 1) := by decide +kernel
theorem dX2_settle_14 : decode cX2_settle 14 = .ok (.iconst 0, 1) := by decide +kernel
theorem dX2_settle_15 : decode cX2_settle 15 = .ok (.putfield 28, 3) := by decide +kernel
theorem dX2_settle_18 : decode cX2_settle 18 = .ok (.aload_n 0, 1) := by decide +kernel
theorem dX2_settle_19 : decode cX2_settle 19 = .ok (.iconst 0, 1) := by decide +kernel
theorem dX2_settle_20 : decode cX2_settle 20 = .ok (.putfield 31, 3) := by decide +kernel
theorem dX2_settle_23 : decode cX2_settle 23 = .ok (.aload_n 0, 1) := by decide +kernel
theorem dX2_settle_24 : decode cX2_settle 24 = .ok (.iconst 0, 1) := by decide +kernel
theorem dX2_settle_25 : decode cX2_settle 25 = .ok (.putfield 34, 3) := by decide +kernel
theorem dX2_settle_28 : decode cX2_settle 28 = .ok (.iconst 0, 1) := by decide +kernel
theorem dX2_settle_29 : decode cX2_settle 29 = .ok (.istore 6, 2) := by decide +kernel
theorem dX2_settle_31 : decode cX2_settle 31 = .ok (.iload 6, 2) := by decide +kernel
theorem dX2_settle_33 : decode cX2_settle 33 = .ok (.bipush 12, 2) := by decide +kernel
theorem dX2_settle_35 : decode cX2_settle 35 = .ok (.if_icmp .ge 224, 3) := by decide +kernel
theorem dX2_settle_38 : decode cX2_settle 38 = .ok (.iconst 1, 1) := by decide +kernel
theorem dX2_settle_39 : decode cX2_settle 39 = .ok (.iload 6, 2) := by decide +kernel
theorem dX2_settle_41 : decode cX2_settle 41 = .ok (.ishl, 1) := by decide +kernel
theorem dX2_settle_42 : decode cX2_settle 42 = .ok (.istore 7, 2) := by decide +kernel
theorem dX2_settle_44 : decode cX2_settle 44 = .ok (.iload_n 2, 1) := by decide +kernel
theorem dX2_settle_45 : decode cX2_settle 45 = .ok (.iload 7, 2) := by decide +kernel
theorem dX2_settle_47 : decode cX2_settle 47 = .ok (.iand, 1) := by decide +kernel
theorem dX2_settle_48 : decode cX2_settle 48 = .ok (.ifCond .ne 6, 3) := by decide +kernel
theorem dX2_settle_51 : decode cX2_settle 51 = .ok (.goto 202, 3) := by decide +kernel
theorem dX2_settle_54 : decode cX2_settle 54 = .ok (.aload_n 1, 1) := by decide +kernel
theorem dX2_settle_55 : decode cX2_settle 55 = .ok (.iload 6, 2) := by decide +kernel
theorem dX2_settle_57 : decode cX2_settle 57 = .ok (.iaload, 1) := by decide +kernel
theorem dX2_settle_58 : decode cX2_settle 58 = .ok (.iload_n 2, 1) := by decide +kernel
theorem dX2_settle_59 : decode cX2_settle 59 = .ok (.iand, 1) := by decide +kernel
theorem dX2_settle_60 : decode cX2_settle 60 = .ok (.istore 8, 2) := by decide +kernel
theorem dX2_settle_62 : decode cX2_settle 62 = .ok (.iload_n 2, 1) := by decide +kernel
theorem dX2_settle_63 : decode cX2_settle 63 = .ok (.aload_n 0, 1) := by decide +kernel
theorem dX2_settle_64 : decode cX2_settle 64 = .ok (.getfield 28, 3) := by decide +kernel
theorem dX2_settle_67 : decode cX2_settle 67 = .ok (.iload 7, 2) := by decide +kernel
theorem dX2_settle_69 : decode cX2_settle 69 = .ok (.ior, 1) := by decide +kernel
theorem dX2_settle_70 : decode cX2_settle 70 = .ok (.iconst (-1), 1) := by decide +kernel
theorem dX2_settle_71 : decode cX2_settle 71 = .ok (.ixor, 1) := by decide +kernel
theorem dX2_settle_72 : decode cX2_settle 72 = .ok (.iand, 1) := by decide +kernel
theorem dX2_settle_73 : decode cX2_settle 73 = .ok (.istore 9, 2) := by decide +kernel
theorem dX2_settle_75 : decode cX2_settle 75 = .ok (.iload_n 2, 1) := by decide +kernel
theorem dX2_settle_76 : decode cX2_settle 76 = .ok (.aload_n 0, 1) := by decide +kernel
theorem dX2_settle_77 : decode cX2_settle 77 = .ok (.getfield 28, 3) := by decide +kernel
theorem dX2_settle_80 : decode cX2_settle 80 = .ok (.aload_n 0, 1) := by decide +kernel
theorem dX2_settle_81 : decode cX2_settle 81 = .ok (.getfield 31, 3) := by decide +kernel
theorem dX2_settle_84 : decode cX2_settle 84 = .ok (.ior, 1) := by decide +kernel
theorem dX2_settle_85 : decode cX2_settle 85 = .ok (.iload 7, 2) := by decide +kernel
theorem dX2_settle_87 : decode cX2_settle 87 = .ok (.ior, 1) := by decide +kernel
theorem dX2_settle_88 : decode cX2_settle 88 = .ok (.iconst (-1), 1) := by decide +kernel
theorem dX2_settle_89 : decode cX2_settle 89 = .ok (.ixor, 1) := by decide +kernel
theorem dX2_settle_90 : decode cX2_settle 90 = .ok (.iand, 1) := by decide +kernel
theorem dX2_settle_91 : decode cX2_settle 91 = .ok (.istore 10, 2) := by decide +kernel
theorem dX2_settle_93 : decode cX2_settle 93 = .ok (.iload 4, 2) := by decide +kernel
theorem dX2_settle_95 : decode cX2_settle 95 = .ok (.iload 5, 2) := by decide +kernel
theorem dX2_settle_97 : decode cX2_settle 97 = .ok (.ior, 1) := by decide +kernel
theorem dX2_settle_98 : decode cX2_settle 98 = .ok (.iload 7, 2) := by decide +kernel
theorem dX2_settle_100 : decode cX2_settle 100 = .ok (.iand, 1) := by decide +kernel
theorem dX2_settle_101 : decode cX2_settle 101 = .ok (.ifCond .ne 70, 3) := by decide +kernel
theorem dX2_settle_104 : decode cX2_settle 104 = .ok (.aload_n 0, 1) := by decide +kernel
theorem dX2_settle_105 : decode cX2_settle 105 = .ok (.aload_n 1, 1) := by decide +kernel
theorem dX2_settle_106 : decode cX2_settle 106 = .ok (.iload 4, 2) := by decide +kernel
theorem dX2_settle_108 : decode cX2_settle 108 = .ok (.iload 8, 2) := by decide +kernel
theorem dX2_settle_110 : decode cX2_settle 110 = .ok (.ior, 1) := by decide +kernel
theorem dX2_settle_111 : decode cX2_settle 111 = .ok (.iload 9, 2) := by decide +kernel
theorem dX2_settle_113 : decode cX2_settle 113 = .ok (.iload 4, 2) := by decide +kernel
theorem dX2_settle_115 : decode cX2_settle 115 = .ok (.iload 8, 2) := by decide +kernel
theorem dX2_settle_117 : decode cX2_settle 117 = .ok (.ior, 1) := by decide +kernel
theorem dX2_settle_118 : decode cX2_settle 118 = .ok (.iconst (-1), 1) := by decide +kernel
theorem dX2_settle_119 : decode cX2_settle 119 = .ok (.ixor, 1) := by decide +kernel
theorem dX2_settle_120 : decode cX2_settle 120 = .ok (.iand, 1) := by decide +kernel
theorem dX2_settle_121 : decode cX2_settle 121 = .ok (.iload 5, 2) := by decide +kernel
theorem dX2_settle_123 : decode cX2_settle 123 = .ok (.iload 8, 2) := by decide +kernel
theorem dX2_settle_125 : decode cX2_settle 125 = .ok (.ior, 1) := by decide +kernel
theorem dX2_settle_126 : decode cX2_settle 126 = .ok (.iload 10, 2) := by decide +kernel
theorem dX2_settle_128 : decode cX2_settle 128 = .ok (.iload 5, 2) := by decide +kernel
theorem dX2_settle_130 : decode cX2_settle 130 = .ok (.iload 8, 2) := by decide +kernel
theorem dX2_settle_132 : decode cX2_settle 132 = .ok (.ior, 1) := by decide +kernel
theorem dX2_settle_133 : decode cX2_settle 133 = .ok (.iconst (-1), 1) := by decide +kernel
theorem dX2_settle_134 : decode cX2_settle 134 = .ok (.ixor, 1) := by decide +kernel
theorem dX2_settle_135 : decode cX2_settle 135 = .ok (.iand, 1) := by decide +kernel
theorem dX2_settle_136 : decode cX2_settle 136 = .ok (.invokevirtual 68, 3) := by decide +kernel
theorem dX2_settle_139 : decode cX2_settle 139 = .ok (.iload_n 3, 1) := by decide +kernel
theorem dX2_settle_140 : decode cX2_settle 140 = .ok (.if_icmp .ne 31, 3) := by decide +kernel
theorem dX2_settle_143 : decode cX2_settle 143 = .ok (.aload_n 0, 1) := by decide +kernel
theorem dX2_settle_144 : decode cX2_settle 144 = .ok (.dup, 1) := by decide +kernel
theorem dX2_settle_145 : decode cX2_settle 145 = .ok (.getfield 28, 3) := by decide +kernel
theorem dX2_settle_148 : decode cX2_settle 148 = .ok (.iload 7, 2) := by decide +kernel
theorem dX2_settle_150 : decode cX2_settle 150 = .ok (.ior, 1) := by decide +kernel
theorem dX2_settle_151 : decode cX2_settle 151 = .ok (.putfield 28, 3) := by decide +kernel
theorem dX2_settle_154 : decode cX2_settle 154 = .ok (.iload 4, 2) := by decide +kernel
theorem dX2_settle_156 : decode cX2_settle 156 = .ok (.iload 8, 2) := by decide +kernel
theorem dX2_settle_158 : decode cX2_settle 158 = .ok (.ior, 1) := by decide +kernel
theorem dX2_settle_159 : decode cX2_settle 159 = .ok (.istore 4, 2) := by decide +kernel
theorem dX2_settle_161 : decode cX2_settle 161 = .ok (.iload 5, 2) := by decide +kernel
theorem dX2_settle_163 : decode cX2_settle 163 = .ok (.iload 8, 2) := by decide +kernel
theorem dX2_settle_165 : decode cX2_settle 165 = .ok (.ior, 1) := by decide +kernel
theorem dX2_settle_166 : decode cX2_settle 166 = .ok (.istore 5, 2) := by decide +kernel
theorem dX2_settle_168 : decode cX2_settle 168 = .ok (.goto 85, 3) := by decide +kernel
theorem dX2_settle_171 : decode cX2_settle 171 = .ok (.aload_n 0, 1) := by decide +kernel
theorem dX2_settle_172 : decode cX2_settle 172 = .ok (.aload_n 1, 1) := by decide +kernel
theorem dX2_settle_173 : decode cX2_settle 173 = .ok (.iload 4, 2) := by decide +kernel
theorem dX2_settle_175 : decode cX2_settle 175 = .ok (.iload 7, 2) := by decide +kernel
theorem dX2_settle_177 : decode cX2_settle 177 = .ok (.ior, 1) := by decide +kernel
theorem dX2_settle_178 : decode cX2_settle 178 = .ok (.iload 9, 2) := by decide +kernel
theorem dX2_settle_180 : decode cX2_settle 180 = .ok (.iload 4, 2) := by decide +kernel
theorem dX2_settle_182 : decode cX2_settle 182 = .ok (.iconst (-1), 1) := by decide +kernel
theorem dX2_settle_183 : decode cX2_settle 183 = .ok (.ixor, 1) := by decide +kernel
theorem dX2_settle_184 : decode cX2_settle 184 = .ok (.iand, 1) := by decide +kernel
theorem dX2_settle_185 : decode cX2_settle 185 = .ok (.iload 5, 2) := by decide +kernel
theorem dX2_settle_187 : decode cX2_settle 187 = .ok (.iload 7, 2) := by decide +kernel
theorem dX2_settle_189 : decode cX2_settle 189 = .ok (.ior, 1) := by decide +kernel
theorem dX2_settle_190 : decode cX2_settle 190 = .ok (.iload 10, 2) := by decide +kernel
theorem dX2_settle_192 : decode cX2_settle 192 = .ok (.iload 5, 2) := by decide +kernel
theorem dX2_settle_194 : decode cX2_settle 194 = .ok (.iconst (-1), 1) := by decide +kernel
theorem dX2_settle_195 : decode cX2_settle 195 = .ok (.ixor, 1) := by decide +kernel
theorem dX2_settle_196 : decode cX2_settle 196 = .ok (.iand, 1) := by decide +kernel
theorem dX2_settle_197 : decode cX2_settle 197 = .ok (.invokevirtual 68, 3) := by decide +kernel
theorem dX2_settle_200 : decode cX2_settle 200 = .ok (.iload_n 3, 1) := by decide +kernel
theorem dX2_settle_201 : decode cX2_settle 201 = .ok (.if_icmp .ne 31, 3) := by decide +kernel
theorem dX2_settle_204 : decode cX2_settle 204 = .ok (.aload_n 0, 1) := by decide +kernel
theorem dX2_settle_205 : decode cX2_settle 205 = .ok (.dup, 1) := by decide +kernel
theorem dX2_settle_206 : decode cX2_settle 206 = .ok (.getfield 34, 3) := by decide +kernel
theorem dX2_settle_209 : decode cX2_settle 209 = .ok (.iload 7, 2) := by decide +kernel
theorem dX2_settle_211 : decode cX2_settle 211 = .ok (.ior, 1) := by decide +kernel
theorem dX2_settle_212 : decode cX2_settle 212 = .ok (.putfield 34, 3) := by decide +kernel
theorem dX2_settle_215 : decode cX2_settle 215 = .ok (.iload 4, 2) := by decide +kernel
theorem dX2_settle_217 : decode cX2_settle 217 = .ok (.iload 7, 2) := by decide +kernel
theorem dX2_settle_219 : decode cX2_settle 219 = .ok (.ior, 1) := by decide +kernel
theorem dX2_settle_220 : decode cX2_settle 220 = .ok (.istore 4, 2) := by decide +kernel
theorem dX2_settle_222 : decode cX2_settle 222 = .ok (.iload 5, 2) := by decide +kernel
theorem dX2_settle_224 : decode cX2_settle 224 = .ok (.iload 7, 2) := by decide +kernel
theorem dX2_settle_226 : decode cX2_settle 226 = .ok (.ior, 1) := by decide +kernel
theorem dX2_settle_227 : decode cX2_settle 227 = .ok (.istore 5, 2) := by decide +kernel
theorem dX2_settle_229 : decode cX2_settle 229 = .ok (.goto 24, 3) := by decide +kernel
theorem dX2_settle_232 : decode cX2_settle 232 = .ok (.aload_n 0, 1) := by decide +kernel
theorem dX2_settle_233 : decode cX2_settle 233 = .ok (.dup, 1) := by decide +kernel
theorem dX2_settle_234 : decode cX2_settle 234 = .ok (.getfield 31, 3) := by decide +kernel
theorem dX2_settle_237 : decode cX2_settle 237 = .ok (.iload 7, 2) := by decide +kernel
theorem dX2_settle_239 : decode cX2_settle 239 = .ok (.ior, 1) := by decide +kernel
theorem dX2_settle_240 : decode cX2_settle 240 = .ok (.putfield 31, 3) := by decide +kernel
theorem dX2_settle_243 : decode cX2_settle 243 = .ok (.iload 4, 2) := by decide +kernel
theorem dX2_settle_245 : decode cX2_settle 245 = .ok (.iload 7, 2) := by decide +kernel
theorem dX2_settle_247 : decode cX2_settle 247 = .ok (.iload 8, 2) := by decide +kernel
theorem dX2_settle_249 : decode cX2_settle 249 = .ok (.ior, 1) := by decide +kernel
theorem dX2_settle_250 : decode cX2_settle 250 = .ok (.ior, 1) := by decide +kernel
theorem dX2_settle_251 : decode cX2_settle 251 = .ok (.istore 4, 2) := by decide +kernel
theorem dX2_settle_253 : decode cX2_settle 253 = .ok (.iinc 6 1, 3) := by decide +kernel
theorem dX2_settle_256 : decode cX2_settle 256 = .ok (.goto (-225), 3) := by decide +kernel
theorem dX2_settle_259 : decode cX2_settle 259 = .ok (.return_, 1) := by decide +kernel
theorem dX2_possible_0 : decode cX2_possible 0 = .ok (.iconst 1, 1) := by decide +kernel
theorem dX2_possible_1 : decode cX2_possible 1 = .ok (.iload_n 3, 1) := by decide +kernel
theorem dX2_possible_2 : decode cX2_possible 2 = .ok (.ishl, 1) := by decide +kernel
theorem dX2_possible_3 : decode cX2_possible 3 = .ok (.istore 4, 2) := by decide +kernel
theorem dX2_possible_5 : decode cX2_possible 5 = .ok (.aload_n 1, 1) := by decide +kernel
theorem dX2_possible_6 : decode cX2_possible 6 = .ok (.iload_n 3, 1) := by decide +kernel
theorem dX2_possible_7 : decode cX2_possible 7 = .ok (.iaload, 1) := by decide +kernel
theorem dX2_possible_8 : decode cX2_possible 8 = .ok (.iload_n 2, 1) := by decide +kernel
theorem dX2_possible_9 : decode cX2_possible 9 = .ok (.iand, 1) := by decide +kernel
theorem dX2_possible_10 : decode cX2_possible 10 = .ok (.istore 5, 2) := by decide +kernel
theorem dX2_possible_12 : decode cX2_possible 12 = .ok (.iload_n 2, 1) := by decide +kernel
theorem dX2_possible_13 : decode cX2_possible 13 = .ok (.iload 4, 2) := by decide +kernel
theorem dX2_possible_15 : decode cX2_possible 15 = .ok (.iconst (-1), 1) := by decide +kernel
theorem dX2_possible_16 : decode cX2_possible 16 = .ok (.ixor, 1) := by decide +kernel
theorem dX2_possible_17 : decode cX2_possible 17 = .ok (.iand, 1) := by decide +kernel
theorem dX2_possible_18 : decode cX2_possible 18 = .ok (.istore 6, 2) := by decide +kernel
theorem dX2_possible_20 : decode cX2_possible 20 = .ok (.aload_n 0, 1) := by decide +kernel
theorem dX2_possible_21 : decode cX2_possible 21 = .ok (.aload_n 1, 1) := by decide +kernel
theorem dX2_possible_22 : decode cX2_possible 22 = .ok (.iload_n 2, 1) := by decide +kernel
theorem dX2_possible_23 : decode cX2_possible 23 = .ok (.invokevirtual 64, 3) := by decide +kernel
theorem dX2_possible_26 : decode cX2_possible 26 = .ok (.istore 7, 2) := by decide +kernel
theorem dX2_possible_28 : decode cX2_possible 28 = .ok (.iconst 0, 1) := by decide +kernel
theorem dX2_possible_29 : decode cX2_possible 29 = .ok (.istore 8, 2) := by decide +kernel
theorem dX2_possible_31 : decode cX2_possible 31 = .ok (.aload_n 0, 1) := by decide +kernel
theorem dX2_possible_32 : decode cX2_possible 32 = .ok (.aload_n 1, 1) := by decide +kernel
theorem dX2_possible_33 : decode cX2_possible 33 = .ok (.iload 5, 2) := by decide +kernel
theorem dX2_possible_35 : decode cX2_possible 35 = .ok (.iload 6, 2) := by decide +kernel
theorem dX2_possible_37 : decode cX2_possible 37 = .ok (.iload 5, 2) := by decide +kernel
theorem dX2_possible_39 : decode cX2_possible 39 = .ok (.iconst (-1), 1) := by decide +kernel
theorem dX2_possible_40 : decode cX2_possible 40 = .ok (.ixor, 1) := by decide +kernel
theorem dX2_possible_41 : decode cX2_possible 41 = .ok (.iand, 1) := by decide +kernel
theorem dX2_possible_42 : decode cX2_possible 42 = .ok (.iload 5, 2) := by decide +kernel
theorem dX2_possible_44 : decode cX2_possible 44 = .ok (.iload 6, 2) := by decide +kernel
theorem dX2_possible_46 : decode cX2_possible 46 = .ok (.iload 5, 2) := by decide +kernel
theorem dX2_possible_48 : decode cX2_possible 48 = .ok (.iconst (-1), 1) := by decide +kernel
theorem dX2_possible_49 : decode cX2_possible 49 = .ok (.ixor, 1) := by decide +kernel
theorem dX2_possible_50 : decode cX2_possible 50 = .ok (.iand, 1) := by decide +kernel
theorem dX2_possible_51 : decode cX2_possible 51 = .ok (.invokevirtual 68, 3) := by decide +kernel
theorem dX2_possible_54 : decode cX2_possible 54 = .ok (.iload 7, 2) := by decide +kernel
theorem dX2_possible_56 : decode cX2_possible 56 = .ok (.if_icmp .ne 9, 3) := by decide +kernel
theorem dX2_possible_59 : decode cX2_possible 59 = .ok (.iload 8, 2) := by decide +kernel
theorem dX2_possible_61 : decode cX2_possible 61 = .ok (.iconst 1, 1) := by decide +kernel
theorem dX2_possible_62 : decode cX2_possible 62 = .ok (.ior, 1) := by decide +kernel
theorem dX2_possible_63 : decode cX2_possible 63 = .ok (.istore 8, 2) := by decide +kernel
theorem dX2_possible_65 : decode cX2_possible 65 = .ok (.aload_n 0, 1) := by decide +kernel
theorem dX2_possible_66 : decode cX2_possible 66 = .ok (.aload_n 1, 1) := by decide +kernel
theorem dX2_possible_67 : decode cX2_possible 67 = .ok (.iload 4, 2) := by decide +kernel
theorem dX2_possible_69 : decode cX2_possible 69 = .ok (.iload 5, 2) := by decide +kernel
theorem dX2_possible_71 : decode cX2_possible 71 = .ok (.ior, 1) := by decide +kernel
theorem dX2_possible_72 : decode cX2_possible 72 = .ok (.iload 6, 2) := by decide +kernel
theorem dX2_possible_74 : decode cX2_possible 74 = .ok (.iload 5, 2) := by decide +kernel
theorem dX2_possible_76 : decode cX2_possible 76 = .ok (.iconst (-1), 1) := by decide +kernel
theorem dX2_possible_77 : decode cX2_possible 77 = .ok (.ixor, 1) := by decide +kernel
theorem dX2_possible_78 : decode cX2_possible 78 = .ok (.iand, 1) := by decide +kernel
theorem dX2_possible_79 : decode cX2_possible 79 = .ok (.iconst 0, 1) := by decide +kernel
theorem dX2_possible_80 : decode cX2_possible 80 = .ok (.iload 6, 2) := by decide +kernel
theorem dX2_possible_82 : decode cX2_possible 82 = .ok (.invokevirtual 68, 3) := by decide +kernel
theorem dX2_possible_85 : decode cX2_possible 85 = .ok (.iload 7, 2) := by decide +kernel
theorem dX2_possible_87 : decode cX2_possible 87 = .ok (.if_icmp .ne 9, 3) := by decide +kernel
theorem dX2_possible_90 : decode cX2_possible 90 = .ok (.iload 8, 2) := by decide +kernel
theorem dX2_possible_92 : decode cX2_possible 92 = .ok (.iconst 2, 1) := by decide +kernel
theorem dX2_possible_93 : decode cX2_possible 93 = .ok (.ior, 1) := by decide +kernel
theorem dX2_possible_94 : decode cX2_possible 94 = .ok (.istore 8, 2) := by decide +kernel
theorem dX2_possible_96 : decode cX2_possible 96 = .ok (.aload_n 0, 1) := by decide +kernel
theorem dX2_possible_97 : decode cX2_possible 97 = .ok (.aload_n 1, 1) := by decide +kernel
theorem dX2_possible_98 : decode cX2_possible 98 = .ok (.iload 4, 2) := by decide +kernel
theorem dX2_possible_100 : decode cX2_possible 100 = .ok (.iload 6, 2) := by decide +kernel
theorem dX2_possible_102 : decode cX2_possible 102 = .ok (.iload 4, 2) := by decide +kernel
theorem dX2_possible_104 : decode cX2_possible 104 = .ok (.iload 6, 2) := by decide +kernel
theorem dX2_possible_106 : decode cX2_possible 106 = .ok (.invokevirtual 68, 3) := by decide +kernel
theorem dX2_possible_109 : decode cX2_possible 109 = .ok (.iload 7, 2) := by decide +kernel
theorem dX2_possible_111 : decode cX2_possible 111 = .ok (.if_icmp .ne 9, 3) := by decide +kernel
theorem dX2_possible_114 : decode cX2_possible 114 = .ok (.iload 8, 2) := by decide +kernel
theorem dX2_possible_116 : decode cX2_possible 116 = .ok (.iconst 4, 1) := by decide +kernel
theorem dX2_possible_117 : decode cX2_possible 117 = .ok (.ior, 1) := by decide +kernel
theorem dX2_possible_118 : decode cX2_possible 118 = .ok (.istore 8, 2) := by decide +kernel
theorem dX2_possible_120 : decode cX2_possible 120 = .ok (.iload 8, 2) := by decide +kernel
theorem dX2_possible_122 : decode cX2_possible 122 = .ok (.ireturn, 1) := by decide +kernel
theorem dX2_firstMate_0 : decode cX2_firstMate 0 = .ok (.iload_n 2, 1) := by decide +kernel
theorem dX2_firstMate_1 : decode cX2_firstMate 1 = .ok (.istore 5, 2) := by decide +kernel
theorem dX2_firstMate_3 : decode cX2_firstMate 3 = .ok (.iload_n 3, 1) := by decide +kernel
theorem dX2_firstMate_4 : decode cX2_firstMate 4 = .ok (.istore 6, 2) := by decide +kernel
theorem dX2_firstMate_6 : decode cX2_firstMate 6 = .ok (.iconst 0, 1) := by decide +kernel
theorem dX2_firstMate_7 : decode cX2_firstMate 7 = .ok (.istore 7, 2) := by decide +kernel
theorem dX2_firstMate_9 : decode cX2_firstMate 9 = .ok (.iload 7, 2) := by decide +kernel
theorem dX2_firstMate_11 : decode cX2_firstMate 11 = .ok (.bipush 12, 2) := by decide +kernel
theorem dX2_firstMate_13 : decode cX2_firstMate 13 = .ok (.if_icmp .ge 89, 3) := by decide +kernel
theorem dX2_firstMate_16 : decode cX2_firstMate 16 = .ok (.iload_n 2, 1) := by decide +kernel
theorem dX2_firstMate_17 : decode cX2_firstMate 17 = .ok (.iload 7, 2) := by decide +kernel
theorem dX2_firstMate_19 : decode cX2_firstMate 19 = .ok (.ishr, 1) := by decide +kernel
theorem dX2_firstMate_20 : decode cX2_firstMate 20 = .ok (.iconst 1, 1) := by decide +kernel
theorem dX2_firstMate_21 : decode cX2_firstMate 21 = .ok (.iand, 1) := by decide +kernel
theorem dX2_firstMate_22 : decode cX2_firstMate 22 = .ok (.ifCond .ne 6, 3) := by decide +kernel
theorem dX2_firstMate_25 : decode cX2_firstMate 25 = .ok (.goto 71, 3) := by decide +kernel
theorem dX2_firstMate_28 : decode cX2_firstMate 28 = .ok (.iload 5, 2) := by decide +kernel
theorem dX2_firstMate_30 : decode cX2_firstMate 30 = .ok (.iconst 1, 1) := by decide +kernel
theorem dX2_firstMate_31 : decode cX2_firstMate 31 = .ok (.iload 7, 2) := by decide +kernel
theorem dX2_firstMate_33 : decode cX2_firstMate 33 = .ok (.ishl, 1) := by decide +kernel
theorem dX2_firstMate_34 : decode cX2_firstMate 34 = .ok (.iconst (-1), 1) := by decide +kernel
theorem dX2_firstMate_35 : decode cX2_firstMate 35 = .ok (.ixor, 1) := by decide +kernel
theorem dX2_firstMate_36 : decode cX2_firstMate 36 = .ok (.iand, 1) := by decide +kernel
theorem dX2_firstMate_37 : decode cX2_firstMate 37 = .ok (.istore 5, 2) := by decide +kernel
theorem dX2_firstMate_39 : decode cX2_firstMate 39 = .ok (.aload_n 0, 1) := by decide +kernel
theorem dX2_firstMate_40 : decode cX2_firstMate 40 = .ok (.aload_n 1, 1) := by decide +kernel
theorem dX2_firstMate_41 : decode cX2_firstMate 41 = .ok (.aload_n 1, 1) := by decide +kernel
theorem dX2_firstMate_42 : decode cX2_firstMate 42 = .ok (.iload 7, 2) := by decide +kernel
theorem dX2_firstMate_44 : decode cX2_firstMate 44 = .ok (.iaload, 1) := by decide +kernel
theorem dX2_firstMate_45 : decode cX2_firstMate 45 = .ok (.iload 6, 2) := by decide +kernel
theorem dX2_firstMate_47 : decode cX2_firstMate 47 = .ok (.iand, 1) := by decide +kernel
theorem dX2_firstMate_48 : decode cX2_firstMate 48 = .ok (.iload 5, 2) := by decide +kernel
theorem dX2_firstMate_50 : decode cX2_firstMate 50 = .ok (.iload 6, 2) := by decide +kernel
theorem dX2_firstMate_52 : decode cX2_firstMate 52 = .ok (.invokevirtual 72, 3) := by decide +kernel
theorem dX2_firstMate_55 : decode cX2_firstMate 55 = .ok (.istore 8, 2) := by decide +kernel
theorem dX2_firstMate_57 : decode cX2_firstMate 57 = .ok (.iload 8, 2) := by decide +kernel
theorem dX2_firstMate_59 : decode cX2_firstMate 59 = .ok (.ifCond .ge 6, 3) := by decide +kernel
theorem dX2_firstMate_62 : decode cX2_firstMate 62 = .ok (.goto 34, 3) := by decide +kernel
theorem dX2_firstMate_65 : decode cX2_firstMate 65 = .ok (.iload 7, 2) := by decide +kernel
theorem dX2_firstMate_67 : decode cX2_firstMate 67 = .ok (.iload 4, 2) := by decide +kernel
theorem dX2_firstMate_69 : decode cX2_firstMate 69 = .ok (.if_icmp .ne 6, 3) := by decide +kernel
theorem dX2_firstMate_72 : decode cX2_firstMate 72 = .ok (.iload 8, 2) := by decide +kernel
theorem dX2_firstMate_74 : decode cX2_firstMate 74 = .ok (.ireturn, 1) := by decide +kernel
theorem dX2_firstMate_75 : decode cX2_firstMate 75 = .ok (.iload 8, 2) := by decide +kernel
theorem dX2_firstMate_77 : decode cX2_firstMate 77 = .ok (.iload 4, 2) := by decide +kernel
theorem dX2_firstMate_79 : decode cX2_firstMate 79 = .ok (.if_icmp .ne 6, 3) := by decide +kernel
theorem dX2_firstMate_82 : decode cX2_firstMate 82 = .ok (.iload 7, 2) := by decide +kernel
theorem dX2_firstMate_84 : decode cX2_firstMate 84 = .ok (.ireturn, 1) := by decide +kernel
theorem dX2_firstMate_85 : decode cX2_firstMate 85 = .ok (.iload 6, 2) := by decide +kernel
theorem dX2_firstMate_87 : decode cX2_firstMate 87 = .ok (.iconst 1, 1) := by decide +kernel
theorem dX2_firstMate_88 : decode cX2_firstMate 88 = .ok (.iload 8, 2) := by decide +kernel
theorem dX2_firstMate_90 : decode cX2_firstMate 90 = .ok (.ishl, 1) := by decide +kernel
theorem dX2_firstMate_91 : decode cX2_firstMate 91 = .ok (.iconst (-1), 1) := by decide +kernel
theorem dX2_firstMate_92 : decode cX2_firstMate 92 = .ok (.ixor, 1) := by decide +kernel
theorem dX2_firstMate_93 : decode cX2_firstMate 93 = .ok (.iand, 1) := by decide +kernel
theorem dX2_firstMate_94 : decode cX2_firstMate 94 = .ok (.istore 6, 2) := by decide +kernel
theorem dX2_firstMate_96 : decode cX2_firstMate 96 = .ok (.iinc 7 1, 3) := by decide +kernel
theorem dX2_firstMate_99 : decode cX2_firstMate 99 = .ok (.goto (-90), 3) := by decide +kernel
theorem dX2_firstMate_102 : decode cX2_firstMate 102 = .ok (.iconst (-1), 1) := by decide +kernel
theorem dX2_firstMate_103 : decode cX2_firstMate 103 = .ok (.ireturn, 1) := by decide +kernel
theorem dX2_leastMate_0 : decode cX2_leastMate 0 = .ok (.iconst 0, 1) := by decide +kernel
theorem dX2_leastMate_1 : decode cX2_leastMate 1 = .ok (.istore 5, 2) := by decide +kernel
theorem dX2_leastMate_3 : decode cX2_leastMate 3 = .ok (.iload 5, 2) := by decide +kernel
theorem dX2_leastMate_5 : decode cX2_leastMate 5 = .ok (.bipush 12, 2) := by decide +kernel
theorem dX2_leastMate_7 : decode cX2_leastMate 7 = .ok (.if_icmp .ge 46, 3) := by decide +kernel
theorem dX2_leastMate_10 : decode cX2_leastMate 10 = .ok (.iload_n 2, 1) := by decide +kernel
theorem dX2_leastMate_11 : decode cX2_leastMate 11 = .ok (.iload 5, 2) := by decide +kernel
theorem dX2_leastMate_13 : decode cX2_leastMate 13 = .ok (.ishr, 1) := by decide +kernel
theorem dX2_leastMate_14 : decode cX2_leastMate 14 = .ok (.iconst 1, 1) := by decide +kernel
theorem dX2_leastMate_15 : decode cX2_leastMate 15 = .ok (.iand, 1) := by decide +kernel
theorem dX2_leastMate_16 : decode cX2_leastMate 16 = .ok (.ifCond .ne 6, 3) := by decide +kernel
theorem dX2_leastMate_19 : decode cX2_leastMate 19 = .ok (.goto 28, 3) := by decide +kernel
theorem dX2_leastMate_22 : decode cX2_leastMate 22 = .ok (.aload_n 0, 1) := by decide +kernel
theorem dX2_leastMate_23 : decode cX2_leastMate 23 = .ok (.aload_n 1, 1) := by decide +kernel
theorem dX2_leastMate_24 : decode cX2_leastMate 24 = .ok (.iload_n 3, 1) := by decide +kernel
theorem dX2_leastMate_25 : decode cX2_leastMate 25 = .ok (.iload 4, 2) := by decide +kernel
theorem dX2_leastMate_27 : decode cX2_leastMate 27 = .ok (.iconst 1, 1) := by decide +kernel
theorem dX2_leastMate_28 : decode cX2_leastMate 28 = .ok (.iload 5, 2) := by decide +kernel
theorem dX2_leastMate_30 : decode cX2_leastMate 30 = .ok (.ishl, 1) := by decide +kernel
theorem dX2_leastMate_31 : decode cX2_leastMate 31 = .ok (.iconst (-1), 1) := by decide +kernel
theorem dX2_leastMate_32 : decode cX2_leastMate 32 = .ok (.ixor, 1) := by decide +kernel
theorem dX2_leastMate_33 : decode cX2_leastMate 33 = .ok (.iand, 1) := by decide +kernel
theorem dX2_leastMate_34 : decode cX2_leastMate 34 = .ok (.invokevirtual 57, 3) := by decide +kernel
theorem dX2_leastMate_37 : decode cX2_leastMate 37 = .ok (.iload_n 3, 1) := by decide +kernel
theorem dX2_leastMate_38 : decode cX2_leastMate 38 = .ok (.invokestatic 61, 3) := by decide +kernel
theorem dX2_leastMate_41 : decode cX2_leastMate 41 = .ok (.if_icmp .ne 6, 3) := by decide +kernel
theorem dX2_leastMate_44 : decode cX2_leastMate 44 = .ok (.iload 5, 2) := by decide +kernel
theorem dX2_leastMate_46 : decode cX2_leastMate 46 = .ok (.ireturn, 1) := by decide +kernel
theorem dX2_leastMate_47 : decode cX2_leastMate 47 = .ok (.iinc 5 1, 3) := by decide +kernel
theorem dX2_leastMate_50 : decode cX2_leastMate 50 = .ok (.goto (-47), 3) := by decide +kernel
theorem dX2_leastMate_53 : decode cX2_leastMate 53 = .ok (.iconst (-1), 1) := by decide +kernel
theorem dX2_leastMate_54 : decode cX2_leastMate 54 = .ok (.ireturn, 1) := by decide +kernel
theorem dX3_init_0 : decode cX3_init 0 = .ok (.aload_n 0, 1) := by decide +kernel
theorem dX3_init_1 : decode cX3_init 1 = .ok (.invokespecial 3, 3) := by decide +kernel
theorem dX3_init_4 : decode cX3_init 4 = .ok (.aload_n 0, 1) := by decide +kernel
theorem dX3_init_5 : decode cX3_init 5 = .ok (.new 9, 3) := by decide +kernel
theorem dX3_init_8 : decode cX3_init 8 = .ok (.dup, 1) := by decide +kernel
theorem dX3_init_9 : decode cX3_init 9 = .ok (.invokespecial 11, 3) := by decide +kernel
theorem dX3_init_12 : decode cX3_init 12 = .ok (.putfield 12, 3) := by decide +kernel
theorem dX3_init_15 : decode cX3_init 15 = .ok (.aload_n 0, 1) := by decide +kernel
theorem dX3_init_16 : decode cX3_init 16 = .ok (.bipush 12, 2) := by decide +kernel
theorem dX3_init_18 : decode cX3_init 18 = .ok (.newarray .int, 2) := by decide +kernel
theorem dX3_init_20 : decode cX3_init 20 = .ok (.putfield 18, 3) := by decide +kernel
theorem dX3_init_23 : decode cX3_init 23 = .ok (.aload_n 0, 1) := by decide +kernel
theorem dX3_init_24 : decode cX3_init 24 = .ok (.bipush 12, 2) := by decide +kernel
theorem dX3_init_26 : decode cX3_init 26 = .ok (.newarray .int, 2) := by decide +kernel
theorem dX3_init_28 : decode cX3_init 28 = .ok (.putfield 22, 3) := by decide +kernel
theorem dX3_init_31 : decode cX3_init 31 = .ok (.aload_n 0, 1) := by decide +kernel
theorem dX3_init_32 : decode cX3_init 32 = .ok (.bipush 12, 2) := by decide +kernel
theorem dX3_init_34 : decode cX3_init 34 = .ok (.newarray .int, 2) := by decide +kernel
theorem dX3_init_36 : decode cX3_init 36 = .ok (.putfield 25, 3) := by decide +kernel
theorem dX3_init_39 : decode cX3_init 39 = .ok (.aload_n 0, 1) := by decide +kernel
theorem dX3_init_40 : decode cX3_init 40 = .ok (.iconst 0, 1) := by decide +kernel
theorem dX3_init_41 : decode cX3_init 41 = .ok (.putfield 28, 3) := by decide +kernel
theorem dX3_init_44 : decode cX3_init 44 = .ok (.aload_n 0, 1) := by decide +kernel
theorem dX3_init_45 : decode cX3_init 45 = .ok (.iconst 0, 1) := by decide +kernel
theorem dX3_init_46 : decode cX3_init 46 = .ok (.putfield 32, 3) := by decide +kernel
theorem dX3_init_49 : decode cX3_init 49 = .ok (.aload_n 0, 1) := by decide +kernel
theorem dX3_init_50 : decode cX3_init 50 = .ok (.iconst 0, 1) := by decide +kernel
theorem dX3_init_51 : decode cX3_init 51 = .ok (.putfield 35, 3) := by decide +kernel
theorem dX3_init_54 : decode cX3_init 54 = .ok (.aload_n 0, 1) := by decide +kernel
theorem dX3_init_55 : decode cX3_init 55 = .ok (.iconst 0, 1) := by decide +kernel
theorem dX3_init_56 : decode cX3_init 56 = .ok (.putfield 38, 3) := by decide +kernel
theorem dX3_init_59 : decode cX3_init 59 = .ok (.return_, 1) := by decide +kernel
theorem dX3_reduce_0 : decode cX3_reduce 0 = .ok (.aload_n 0, 1) := by decide +kernel
theorem dX3_reduce_1 : decode cX3_reduce 1 = .ok (.iconst 0, 1) := by decide +kernel
theorem dX3_reduce_2 : decode cX3_reduce 2 = .ok (.putfield 28, 3) := by decide +kernel
theorem dX3_reduce_5 : decode cX3_reduce 5 = .ok (.aload_n 0, 1) := by decide +kernel
theorem dX3_reduce_6 : decode cX3_reduce 6 = .ok (.aload_n 1, 1) := by decide +kernel
theorem dX3_reduce_7 : decode cX3_reduce 7 = .ok (.invokevirtual 41, 3) := by decide +kernel
theorem dX3_reduce_10 : decode cX3_reduce 10 = .ok (.putfield 32, 3) := by decide +kernel
theorem dX3_reduce_13 : decode cX3_reduce 13 = .ok (.aload_n 0, 1) := by decide +kernel
theorem dX3_reduce_14 : decode cX3_reduce 14 = .ok (.iconst 0, 1) := by decide +kernel
theorem dX3_reduce_15 : decode cX3_reduce 15 = .ok (.putfield 35, 3) := by decide +kernel
theorem dX3_reduce_18 : decode cX3_reduce 18 = .ok (.aload_n 0, 1) := by decide +kernel
theorem dX3_reduce_19 : decode cX3_reduce 19 = .ok (.iload_n 2, 1) := by decide +kernel
theorem dX3_reduce_20 : decode cX3_reduce 20 = .ok (.putfield 38, 3) := by decide +kernel
theorem dX3_reduce_23 : decode cX3_reduce 23 = .ok (.iconst 0, 1) := by decide +kernel
theorem dX3_reduce_24 : decode cX3_reduce 24 = .ok (.istore_n 3, 1) := by decide +kernel
theorem dX3_reduce_25 : decode cX3_reduce 25 = .ok (.iload_n 3, 1) := by decide +kernel
theorem dX3_reduce_26 : decode cX3_reduce 26 = .ok (.bipush 12, 2) := by decide +kernel
theorem dX3_reduce_28 : decode cX3_reduce 28 = .ok (.if_icmp .ge 30, 3) := by decide +kernel
theorem dX3_reduce_31 : decode cX3_reduce 31 = .ok (.aload_n 0, 1) := by decide +kernel
theorem dX3_reduce_32 : decode cX3_reduce 32 = .ok (.getfield 38, 3) := by decide +kernel
theorem dX3_reduce_35 : decode cX3_reduce 35 = .ok (.ifCond .lt 23, 3) := by decide +kernel
theorem dX3_reduce_38 : decode cX3_reduce 38 = .ok (.aload_n 0, 1) := by decide +kernel
theorem dX3_reduce_39 : decode cX3_reduce 39 = .ok (.aload_n 1, 1) := by decide +kernel
theorem dX3_reduce_40 : decode cX3_reduce 40 = .ok (.getfield 47, 3) := by decide +kernel
theorem dX3_reduce_43 : decode cX3_reduce 43 = .ok (.invokevirtual 50, 3) := by decide +kernel
theorem dX3_reduce_46 : decode cX3_reduce 46 = .ok (.ifCond .ne 6, 3) := by decide +kernel
theorem dX3_reduce_49 : decode cX3_reduce 49 = .ok (.goto 9, 3) := by decide +kernel
theorem dX3_reduce_52 : decode cX3_reduce 52 = .ok (.iinc 3 1, 3) := by decide +kernel
theorem dX3_reduce_55 : decode cX3_reduce 55 = .ok (.goto (-30), 3) := by decide +kernel
theorem dX3_reduce_58 : decode cX3_reduce 58 = .ok (.return_, 1) := by decide +kernel
theorem dX3_doesRound_0 : decode cX3_doesRound 0 = .ok (.aload_n 0, 1) := by decide +kernel
theorem dX3_doesRound_1 : decode cX3_doesRound 1 = .ok (.aload_n 1, 1) := by decide +kernel
theorem dX3_doesRound_2 : decode cX3_doesRound 2 = .ok (.iconst 0, 1) := by decide +kernel
theorem dX3_doesRound_3 : decode cX3_doesRound 3 = .ok (.iconst 0, 1) := by decide +kernel
theorem dX3_doesRound_4 : decode cX3_doesRound 4 = .ok (.invokevirtual 54, 3) := by decide +kernel
theorem dX3_doesRound_7 : decode cX3_doesRound 7 = .ok (.istore_n 2, 1) := by decide +kernel
theorem dX3_doesRound_8 : decode cX3_doesRound 8 = .ok (.iload_n 2, 1) := by decide +kernel
theorem dX3_doesRound_9 : decode cX3_doesRound 9 = .ok (.ifCond .lt 13, 3) := by decide +kernel
theorem dX3_doesRound_12 : decode cX3_doesRound 12 = .ok (.aload_n 0, 1) := by decide +kernel
theorem dX3_doesRound_13 : decode cX3_doesRound 13 = .ok (.iconst 0, 1) := by decide +kernel
theorem dX3_doesRound_14 : decode cX3_doesRound 14 = .ok (.iconst 1, 1) := by decide +kernel
theorem dX3_doesRound_15 : decode cX3_doesRound 15 = .ok (.iload_n 2, 1) := by decide +kernel
theorem dX3_doesRound_16 : decode cX3_doesRound 16 = .ok (.ishl, 1) := by decide +kernel
theorem dX3_doesRound_17 : decode cX3_doesRound 17 = .ok (.iconst 0, 1) := by decide +kernel
theorem dX3_doesRound_18 : decode cX3_doesRound 18 = .ok (.invokevirtual 58, 3) := by decide +kernel
theorem dX3_doesRound_21 : decode cX3_doesRound 21 = .ok (.ireturn, 1) := by decide +kernel
theorem dX3_doesRound_22 : decode cX3_doesRound 22 = .ok (.aload_n 0, 1) := by decide +kernel
theorem dX3_doesRound_23 : decode cX3_doesRound 23 = .ok (.aload_n 1, 1) := by decide +kernel
theorem dX3_doesRound_24 : decode cX3_doesRound 24 = .ok (.aload_n 0, 1) := by decide +kernel
theorem dX3_doesRound_25 : decode cX3_doesRound 25 = .ok (.getfield 38, 3) := by decide +kernel
theorem dX3_doesRound_28 : decode cX3_doesRound 28 = .ok (.iconst 1, 1) := by decide +kernel
theorem dX3_doesRound_29 : decode cX3_doesRound 29 = .ok (.iadd, 1) := by decide +kernel
theorem dX3_doesRound_30 : decode cX3_doesRound 30 = .ok (.bipush 12, 2) := by decide +kernel
theorem dX3_doesRound_32 : decode cX3_doesRound 32 = .ok (.invokevirtual 54, 3) := by decide +kernel
theorem dX3_doesRound_35 : decode cX3_doesRound 35 = .ok (.istore_n 2, 1) := by decide +kernel
theorem dX3_doesRound_36 : decode cX3_doesRound 36 = .ok (.iload_n 2, 1) := by decide +kernel
theorem dX3_doesRound_37 : decode cX3_doesRound 37 = .ok (.ifCond .lt 15, 3) := by decide +kernel
theorem dX3_doesRound_40 : decode cX3_doesRound 40 = .ok (.aload_n 0, 1) := by decide +kernel
theorem dX3_doesRound_41 : decode cX3_doesRound 41 = .ok (.iconst 1, 1) := by decide +kernel
theorem dX3_doesRound_42 : decode cX3_doesRound 42 = .ok (.iconst 1, 1) := by decide +kernel
theorem dX3_doesRound_43 : decode cX3_doesRound 43 = .ok (.iload_n 2, 1) := by decide +kernel
theorem dX3_doesRound_44 : decode cX3_doesRound 44 = .ok (.ishl, 1) := by decide +kernel
theorem dX3_doesRound_45 : decode cX3_doesRound 45 = .ok (.iconst 1, 1) := by decide +kernel
theorem dX3_doesRound_46 : decode cX3_doesRound 46 = .ok (.iload_n 2, 1) := by decide +kernel
theorem dX3_doesRound_47 : decode cX3_doesRound 47 = .ok (.ishl, 1) := by decide +kernel
theorem dX3_doesRound_48 : decode cX3_doesRound 48 = .ok (.invokevirtual 58, 3) := by decide +kernel
theorem dX3_doesRound_51 : decode cX3_doesRound 51 = .ok (.ireturn, 1) := by decide +kernel
theorem dX3_doesRound_52 : decode cX3_doesRound 52 = .ok (.aload_n 0, 1) := by decide +kernel
theorem dX3_doesRound_53 : decode cX3_doesRound 53 = .ok (.aload_n 1, 1) := by decide +kernel
theorem dX3_doesRound_54 : decode cX3_doesRound 54 = .ok (.iconst 1, 1) := by decide +kernel
theorem dX3_doesRound_55 : decode cX3_doesRound 55 = .ok (.iconst 1, 1) := by decide +kernel
theorem dX3_doesRound_56 : decode cX3_doesRound 56 = .ok (.invokevirtual 54, 3) := by decide +kernel
theorem dX3_doesRound_59 : decode cX3_doesRound 59 = .ok (.istore_n 2, 1) := by decide +kernel
theorem dX3_doesRound_60 : decode cX3_doesRound 60 = .ok (.iload_n 2, 1) := by decide +kernel
theorem dX3_doesRound_61 : decode cX3_doesRound 61 = .ok (.ifCond .lt 29, 3) := by decide +kernel
theorem dX3_doesRound_64 : decode cX3_doesRound 64 = .ok (.aload_n 0, 1) := by decide +kernel
theorem dX3_doesRound_65 : decode cX3_doesRound 65 = .ok (.iconst 2, 1) := by decide +kernel
theorem dX3_doesRound_66 : decode cX3_doesRound 66 = .ok (.iconst 1, 1) := by decide +kernel
theorem dX3_doesRound_67 : decode cX3_doesRound 67 = .ok (.iload_n 2, 1) := by decide +kernel
theorem dX3_doesRound_68 : decode cX3_doesRound 68 = .ok (.ishl, 1) := by decide +kernel
theorem dX3_doesRound_69 : decode cX3_doesRound 69 = .ok (.aload_n 1, 1) := by decide +kernel
theorem dX3_doesRound_70 : decode cX3_doesRound 70 = .ok (.iload_n 2, 1) := by decide +kernel
theorem dX3_doesRound_71 : decode cX3_doesRound 71 = .ok (.iaload, 1) := by decide +kernel
theorem dX3_doesRound_72 : decode cX3_doesRound 72 = .ok (.aload_n 0, 1) := by decide +kernel
theorem dX3_doesRound_73 : decode cX3_doesRound 73 = .ok (.getfield 32, 3) := by decide +kernel
theorem dX3_doesRound_76 : decode cX3_doesRound 76 = .ok (.iand, 1) := by decide +kernel
theorem dX3_doesRound_77 : decode cX3_doesRound 77 = .ok (.ior, 1) := by decide +kernel
theorem dX3_doesRound_78 : decode cX3_doesRound 78 = .ok (.aload_n 1, 1) := by decide +kernel
theorem dX3_doesRound_79 : decode cX3_doesRound 79 = .ok (.iload_n 2, 1) := by decide +kernel
theorem dX3_doesRound_80 : decode cX3_doesRound 80 = .ok (.iaload, 1) := by decide +kernel
theorem dX3_doesRound_81 : decode cX3_doesRound 81 = .ok (.aload_n 0, 1) := by decide +kernel
theorem dX3_doesRound_82 : decode cX3_doesRound 82 = .ok (.getfield 32, 3) := by decide +kernel
theorem dX3_doesRound_85 : decode cX3_doesRound 85 = .ok (.iand, 1) := by decide +kernel
theorem dX3_doesRound_86 : decode cX3_doesRound 86 = .ok (.invokevirtual 58, 3) := by decide +kernel
theorem dX3_doesRound_89 : decode cX3_doesRound 89 = .ok (.ireturn, 1) := by decide +kernel
theorem dX3_doesRound_90 : decode cX3_doesRound 90 = .ok (.aload_n 0, 1) := by decide +kernel
theorem dX3_doesRound_91 : decode cX3_doesRound 91 = .ok (.getfield 32, 3) := by decide +kernel
theorem dX3_doesRound_94 : decode cX3_doesRound 94 = .ok (.ifCond .ne 5, 3) := by decide +kernel
theorem dX3_doesRound_97 : decode cX3_doesRound 97 = .ok (.iconst 0, 1) := by decide +kernel
theorem dX3_doesRound_98 : decode cX3_doesRound 98 = .ok (.ireturn, 1) := by decide +kernel
theorem dX3_doesRound_99 : decode cX3_doesRound 99 = .ok (.aload_n 0, 1) := by decide +kernel
theorem dX3_doesRound_100 : decode cX3_doesRound 100 = .ok (.getfield 12, 3) := by decide +kernel
theorem dX3_doesRound_103 : decode cX3_doesRound 103 = .ok (.aload_n 1, 1) := by decide +kernel
theorem dX3_doesRound_104 : decode cX3_doesRound 104 = .ok (.aload_n 0, 1) := by decide +kernel
theorem dX3_doesRound_105 : decode cX3_doesRound 105 = .ok (.getfield 32, 3) := by decide +kernel
theorem dX3_doesRound_108 : decode cX3_doesRound 108 = .ok (.invokevirtual 62, 3) := by decide +kernel
theorem dX3_doesRound_111 : decode cX3_doesRound 111 = .ok (.aload_n 0, 1) := by decide +kernel
theorem dX3_doesRound_112 : decode cX3_doesRound 112 = .ok (.getfield 12, 3) := by decide +kernel
theorem dX3_doesRound_115 : decode cX3_doesRound 115 = .ok (.getfield 66, 3) := by decide +kernel
theorem dX3_doesRound_118 : decode cX3_doesRound 118 = .ok (.ifCond .ne 5, 3) := by decide +kernel
theorem dX3_doesRound_121 : decode cX3_doesRound 121 = .ok (.iconst 0, 1) := by decide +kernel
theorem dX3_doesRound_122 : decode cX3_doesRound 122 = .ok (.ireturn, 1) := by decide +kernel
theorem dX3_doesRound_123 : decode cX3_doesRound 123 = .ok (.aload_n 0, 1) := by decide +kernel
theorem dX3_doesRound_124 : decode cX3_doesRound 124 = .ok (.iconst 3, 1) := by decide +kernel
theorem dX3_doesRound_125 : decode cX3_doesRound 125 = .ok (.aload_n 0, 1) := by decide +kernel
theorem dX3_doesRound_126 : decode cX3_doesRound 126 = .ok (.getfield 12, 3) := by decide +kernel
theorem dX3_doesRound_129 : decode cX3_doesRound 129 = .ok (.getfield 66, 3) := by decide +kernel
theorem dX3_doesRound_132 : decode cX3_doesRound 132 = .ok (.aload_n 0, 1) := by decide +kernel
theorem dX3_doesRound_133 : decode cX3_doesRound 133 = .ok (.getfield 12, 3) := by decide +kernel
theorem dX3_doesRound_136 : decode cX3_doesRound 136 = .ok (.getfield 69, 3) := by decide +kernel
theorem dX3_doesRound_139 : decode cX3_doesRound 139 = .ok (.ior, 1) := by decide +kernel
theorem dX3_doesRound_140 : decode cX3_doesRound 140 = .ok (.aload_n 0, 1) := by decide +kernel
theorem dX3_doesRound_141 : decode cX3_doesRound 141 = .ok (.getfield 12, 3) := by decide +kernel
theorem dX3_doesRound_144 : decode cX3_doesRound 144 = .ok (.getfield 69, 3) := by decide +kernel
theorem dX3_doesRound_147 : decode cX3_doesRound 147 = .ok (.invokevirtual 58, 3) := by decide +kernel
theorem dX3_doesRound_150 : decode cX3_doesRound 150 = .ok (.ireturn, 1) := by decide +kernel
theorem dX3_leastWith_0 : decode cX3_leastWith 0 = .ok (.iconst 0, 1) := by decide +kernel
theorem dX3_leastWith_1 : decode cX3_leastWith 1 = .ok (.istore 4, 2) := by decide +kernel
theorem dX3_leastWith_3 : decode cX3_leastWith 3 = .ok (.iload 4, 2) := by decide +kernel
theorem dX3_leastWith_5 : decode cX3_leastWith 5 = .ok (.bipush 12, 2) := by decide +kernel
theorem dX3_leastWith_7 : decode cX3_leastWith 7 = .ok (.if_icmp .ge 44, 3) := by decide +kernel
theorem dX3_leastWith_10 : decode cX3_leastWith 10 = .ok (.aload_n 0, 1) := by decide +kernel
theorem dX3_leastWith_11 : decode cX3_leastWith 11 = .ok (.getfield 32, 3) := by decide +kernel
theorem dX3_leastWith_14 : decode cX3_leastWith 14 = .ok (.iload 4, 2) := by decide +kernel
theorem dX3_leastWith_16 : decode cX3_leastWith 16 = .ok (.ishr, 1) := by decide +kernel
theorem dX3_leastWith_17 : decode cX3_leastWith 17 = .ok (.iconst 1, 1) := by decide +kernel
theorem dX3_leastWith_18 : decode cX3_leastWith 18 = .ok (.iand, 1) := by decide +kernel
theorem dX3_leastWith_19 : decode cX3_leastWith 19 = .ok (.ifCond .eq 26, 3) := by decide +kernel
theorem dX3_leastWith_22 : decode cX3_leastWith 22 = .ok (.aload_n 1, 1) := by decide +kernel
theorem dX3_leastWith_23 : decode cX3_leastWith 23 = .ok (.iload 4, 2) := by decide +kernel
theorem dX3_leastWith_25 : decode cX3_leastWith 25 = .ok (.iaload, 1) := by decide +kernel
theorem dX3_leastWith_26 : decode cX3_leastWith 26 = .ok (.aload_n 0, 1) := by decide +kernel
theorem dX3_leastWith_27 : decode cX3_leastWith 27 = .ok (.getfield 32, 3) := by decide +kernel
theorem dX3_leastWith_30 : decode cX3_leastWith 30 = .ok (.iand, 1) := by decide +kernel
theorem dX3_leastWith_31 : decode cX3_leastWith 31 = .ok (.invokestatic 72, 3) := by decide +kernel
theorem dX3_leastWith_34 : decode cX3_leastWith 34 = .ok (.iload_n 2, 1) := by decide +kernel
theorem dX3_leastWith_35 : decode cX3_leastWith 35 = .ok (.iload_n 3, 1) := by decide +kernel
theorem dX3_leastWith_36 : decode cX3_leastWith 36 = .ok (.invokestatic 78, 3) := by decide +kernel
theorem dX3_leastWith_39 : decode cX3_leastWith 39 = .ok (.ifCond .eq 6, 3) := by decide +kernel
theorem dX3_leastWith_42 : decode cX3_leastWith 42 = .ok (.iload 4, 2) := by decide +kernel
theorem dX3_leastWith_44 : decode cX3_leastWith 44 = .ok (.ireturn, 1) := by decide +kernel
theorem dX3_leastWith_45 : decode cX3_leastWith 45 = .ok (.iinc 4 1, 3) := by decide +kernel
theorem dX3_leastWith_48 : decode cX3_leastWith 48 = .ok (.goto (-45), 3) := by decide +kernel
theorem dX3_leastWith_51 : decode cX3_leastWith 51 = .ok (.iconst (-1), 1) := by decide +kernel
theorem dX3_leastWith_52 : decode cX3_leastWith 52 = .ok (.ireturn, 1) := by decide +kernel
theorem dX3_goes_0 : decode cX3_goes 0 = .ok (.aload_n 0, 1) := by decide +kernel
theorem dX3_goes_1 : decode cX3_goes 1 = .ok (.getfield 28, 3) := by decide +kernel
theorem dX3_goes_4 : decode cX3_goes 4 = .ok (.bipush 12, 2) := by decide +kernel
theorem dX3_goes_6 : decode cX3_goes 6 = .ok (.if_icmp .lt 5, 3) := by decide +kernel
theorem dX3_goes_9 : decode cX3_goes 9 = .ok (.iconst 0, 1) := by decide +kernel
theorem dX3_goes_10 : decode cX3_goes 10 = .ok (.ireturn, 1) := by decide +kernel
theorem dX3_goes_11 : decode cX3_goes 11 = .ok (.aload_n 0, 1) := by decide +kernel
theorem dX3_goes_12 : decode cX3_goes 12 = .ok (.getfield 18, 3) := by decide +kernel
theorem dX3_goes_15 : decode cX3_goes 15 = .ok (.aload_n 0, 1) := by decide +kernel
theorem dX3_goes_16 : decode cX3_goes 16 = .ok (.getfield 28, 3) := by decide +kernel
theorem dX3_goes_19 : decode cX3_goes 19 = .ok (.iload_n 1, 1) := by decide +kernel
theorem dX3_goes_20 : decode cX3_goes 20 = .ok (.iastore, 1) := by decide +kernel
theorem dX3_goes_21 : decode cX3_goes 21 = .ok (.aload_n 0, 1) := by decide +kernel
theorem dX3_goes_22 : decode cX3_goes 22 = .ok (.getfield 22, 3) := by decide +kernel
theorem dX3_goes_25 : decode cX3_goes 25 = .ok (.aload_n 0, 1) := by decide +kernel
theorem dX3_goes_26 : decode cX3_goes 26 = .ok (.getfield 28, 3) := by decide +kernel
theorem dX3_goes_29 : decode cX3_goes 29 = .ok (.iload_n 2, 1) := by decide +kernel
theorem dX3_goes_30 : decode cX3_goes 30 = .ok (.iastore, 1) := by decide +kernel
theorem dX3_goes_31 : decode cX3_goes 31 = .ok (.aload_n 0, 1) := by decide +kernel
theorem dX3_goes_32 : decode cX3_goes 32 = .ok (.getfield 25, 3) := by decide +kernel
theorem dX3_goes_35 : decode cX3_goes 35 = .ok (.aload_n 0, 1) := by decide +kernel
theorem dX3_goes_36 : decode cX3_goes 36 = .ok (.getfield 28, 3) := by decide +kernel
theorem dX3_goes_39 : decode cX3_goes 39 = .ok (.iload_n 3, 1) := by decide +kernel
theorem dX3_goes_40 : decode cX3_goes 40 = .ok (.iastore, 1) := by decide +kernel
theorem dX3_goes_41 : decode cX3_goes 41 = .ok (.aload_n 0, 1) := by decide +kernel
theorem dX3_goes_42 : decode cX3_goes 42 = .ok (.dup, 1) := by decide +kernel
theorem dX3_goes_43 : decode cX3_goes 43 = .ok (.getfield 28, 3) := by decide +kernel
theorem dX3_goes_46 : decode cX3_goes 46 = .ok (.iconst 1, 1) := by decide +kernel
theorem dX3_goes_47 : decode cX3_goes 47 = .ok (.iadd, 1) := by decide +kernel
theorem dX3_goes_48 : decode cX3_goes 48 = .ok (.putfield 28, 3) := by decide +kernel
theorem dX3_goes_51 : decode cX3_goes 51 = .ok (.aload_n 0, 1) := by decide +kernel
theorem dX3_goes_52 : decode cX3_goes 52 = .ok (.dup, 1) := by decide +kernel
theorem dX3_goes_53 : decode cX3_goes 53 = .ok (.getfield 32, 3) := by decide +kernel
theorem dX3_goes_56 : decode cX3_goes 56 = .ok (.iload_n 2, 1) := by decide +kernel
theorem dX3_goes_57 : decode cX3_goes 57 = .ok (.iconst (-1), 1) := by decide +kernel
theorem dX3_goes_58 : decode cX3_goes 58 = .ok (.ixor, 1) := by decide +kernel
theorem dX3_goes_59 : decode cX3_goes 59 = .ok (.iand, 1) := by decide +kernel
theorem dX3_goes_60 : decode cX3_goes 60 = .ok (.putfield 32, 3) := by decide +kernel
theorem dX3_goes_63 : decode cX3_goes 63 = .ok (.aload_n 0, 1) := by decide +kernel
theorem dX3_goes_64 : decode cX3_goes 64 = .ok (.dup, 1) := by decide +kernel
theorem dX3_goes_65 : decode cX3_goes 65 = .ok (.getfield 35, 3) := by decide +kernel
theorem dX3_goes_68 : decode cX3_goes 68 = .ok (.iload_n 3, 1) := by decide +kernel
theorem dX3_goes_69 : decode cX3_goes 69 = .ok (.ior, 1) := by decide +kernel
theorem dX3_goes_70 : decode cX3_goes 70 = .ok (.putfield 35, 3) := by decide +kernel
theorem dX3_goes_73 : decode cX3_goes 73 = .ok (.aload_n 0, 1) := by decide +kernel
theorem dX3_goes_74 : decode cX3_goes 74 = .ok (.dup, 1) := by decide +kernel
theorem dX3_goes_75 : decode cX3_goes 75 = .ok (.getfield 38, 3) := by decide +kernel
theorem dX3_goes_78 : decode cX3_goes 78 = .ok (.iload_n 3, 1) := by decide +kernel
theorem dX3_goes_79 : decode cX3_goes 79 = .ok (.invokestatic 72, 3) := by decide +kernel
theorem dX3_goes_82 : decode cX3_goes 82 = .ok (.isub, 1) := by decide +kernel
theorem dX3_goes_83 : decode cX3_goes 83 = .ok (.putfield 38, 3) := by decide +kernel
theorem dX3_goes_86 : decode cX3_goes 86 = .ok (.iconst 1, 1) := by decide +kernel
theorem dX3_goes_87 : decode cX3_goes 87 = .ok (.ireturn, 1) := by decide +kernel
theorem dX3_refuses_0 : decode cX3_refuses 0 = .ok (.aload_n 0, 1) := by decide +kernel
theorem dX3_refuses_1 : decode cX3_refuses 1 = .ok (.getfield 38, 3) := by decide +kernel
theorem dX3_refuses_4 : decode cX3_refuses 4 = .ok (.ifCond .lt 19, 3) := by decide +kernel
theorem dX3_refuses_7 : decode cX3_refuses 7 = .ok (.aload_n 0, 1) := by decide +kernel
theorem dX3_refuses_8 : decode cX3_refuses 8 = .ok (.getfield 32, 3) := by decide +kernel
theorem dX3_refuses_11 : decode cX3_refuses 11 = .ok (.invokestatic 72, 3) := by decide +kernel
theorem dX3_refuses_14 : decode cX3_refuses 14 = .ok (.iconst 2, 1) := by decide +kernel
theorem dX3_refuses_15 : decode cX3_refuses 15 = .ok (.aload_n 0, 1) := by decide +kernel
theorem dX3_refuses_16 : decode cX3_refuses 16 = .ok (.getfield 38, 3) := by decide +kernel
theorem dX3_refuses_19 : decode cX3_refuses 19 = .ok (.imul, 1) := by decide +kernel
theorem dX3_refuses_20 : decode cX3_refuses 20 = .ok (.if_icmp .le 7, 3) := by decide +kernel
theorem dX3_refuses_23 : decode cX3_refuses 23 = .ok (.iconst 1, 1) := by decide +kernel
theorem dX3_refuses_24 : decode cX3_refuses 24 = .ok (.goto 4, 3) := by decide +kernel
theorem dX3_refuses_27 : decode cX3_refuses 27 = .ok (.iconst 0, 1) := by decide +kernel
theorem dX3_refuses_28 : decode cX3_refuses 28 = .ok (.ireturn, 1) := by decide +kernel
theorem dX4_init_0 : decode cX4_init 0 = .ok (.aload_n 0, 1) := by decide +kernel
theorem dX4_init_1 : decode cX4_init 1 = .ok (.invokespecial 3, 3) := by decide +kernel
theorem dX4_init_4 : decode cX4_init 4 = .ok (.aload_n 0, 1) := by decide +kernel
theorem dX4_init_5 : decode cX4_init 5 = .ok (.bipush 12, 2) := by decide +kernel
theorem dX4_init_7 : decode cX4_init 7 = .ok (.newarray .int, 2) := by decide +kernel
theorem dX4_init_9 : decode cX4_init 9 = .ok (.putfield 9, 3) := by decide +kernel
theorem dX4_init_12 : decode cX4_init 12 = .ok (.aload_n 0, 1) := by decide +kernel
theorem dX4_init_13 : decode cX4_init 13 = .ok (.bipush 12, 2) := by decide +kernel
theorem dX4_init_15 : decode cX4_init 15 = .ok (.newarray .int, 2) := by decide +kernel
theorem dX4_init_17 : decode cX4_init 17 = .ok (.putfield 15, 3) := by decide +kernel
theorem dX4_init_20 : decode cX4_init 20 = .ok (.aload_n 0, 1) := by decide +kernel
theorem dX4_init_21 : decode cX4_init 21 = .ok (.bipush 12, 2) := by decide +kernel
theorem dX4_init_23 : decode cX4_init 23 = .ok (.newarray .int, 2) := by decide +kernel
theorem dX4_init_25 : decode cX4_init 25 = .ok (.putfield 18, 3) := by decide +kernel
theorem dX4_init_28 : decode cX4_init 28 = .ok (.aload_n 0, 1) := by decide +kernel
theorem dX4_init_29 : decode cX4_init 29 = .ok (.bipush 12, 2) := by decide +kernel
theorem dX4_init_31 : decode cX4_init 31 = .ok (.newarray .int, 2) := by decide +kernel
theorem dX4_init_33 : decode cX4_init 33 = .ok (.putfield 21, 3) := by decide +kernel
theorem dX4_init_36 : decode cX4_init 36 = .ok (.aload_n 0, 1) := by decide +kernel
theorem dX4_init_37 : decode cX4_init 37 = .ok (.iconst 0, 1) := by decide +kernel
theorem dX4_init_38 : decode cX4_init 38 = .ok (.putfield 24, 3) := by decide +kernel
theorem dX4_init_41 : decode cX4_init 41 = .ok (.return_, 1) := by decide +kernel
theorem dX4_has_0 : decode cX4_has 0 = .ok (.iload_n 1, 1) := by decide +kernel
theorem dX4_has_1 : decode cX4_has 1 = .ok (.ifCond .lt 15, 3) := by decide +kernel
theorem dX4_has_4 : decode cX4_has 4 = .ok (.iload_n 1, 1) := by decide +kernel
theorem dX4_has_5 : decode cX4_has 5 = .ok (.aload_n 0, 1) := by decide +kernel
theorem dX4_has_6 : decode cX4_has 6 = .ok (.getfield 24, 3) := by decide +kernel
theorem dX4_has_9 : decode cX4_has 9 = .ok (.if_icmp .ge 7, 3) := by decide +kernel
theorem dX4_has_12 : decode cX4_has 12 = .ok (.iconst 1, 1) := by decide +kernel
theorem dX4_has_13 : decode cX4_has 13 = .ok (.goto 4, 3) := by decide +kernel
theorem dX4_has_16 : decode cX4_has 16 = .ok (.iconst 0, 1) := by decide +kernel
theorem dX4_has_17 : decode cX4_has 17 = .ok (.ireturn, 1) := by decide +kernel
theorem dX4_hasTwo_0 : decode cX4_hasTwo 0 = .ok (.aload_n 0, 1) := by decide +kernel
theorem dX4_hasTwo_1 : decode cX4_hasTwo 1 = .ok (.iload_n 1, 1) := by decide +kernel
theorem dX4_hasTwo_2 : decode cX4_hasTwo 2 = .ok (.invokevirtual 28, 3) := by decide +kernel
theorem dX4_hasTwo_5 : decode cX4_hasTwo 5 = .ok (.ifCond .eq 20, 3) := by decide +kernel
theorem dX4_hasTwo_8 : decode cX4_hasTwo 8 = .ok (.aload_n 0, 1) := by decide +kernel
theorem dX4_hasTwo_9 : decode cX4_hasTwo 9 = .ok (.iload_n 2, 1) := by decide +kernel
theorem dX4_hasTwo_10 : decode cX4_hasTwo 10 = .ok (.invokevirtual 28, 3) := by decide +kernel
theorem dX4_hasTwo_13 : decode cX4_hasTwo 13 = .ok (.ifCond .eq 12, 3) := by decide +kernel
theorem dX4_hasTwo_16 : decode cX4_hasTwo 16 = .ok (.iload_n 1, 1) := by decide +kernel
theorem dX4_hasTwo_17 : decode cX4_hasTwo 17 = .ok (.iload_n 2, 1) := by decide +kernel
theorem dX4_hasTwo_18 : decode cX4_hasTwo 18 = .ok (.if_icmp .eq 7, 3) := by decide +kernel
theorem dX4_hasTwo_21 : decode cX4_hasTwo 21 = .ok (.iconst 1, 1) := by decide +kernel
theorem dX4_hasTwo_22 : decode cX4_hasTwo 22 = .ok (.goto 4, 3) := by decide +kernel
theorem dX4_hasTwo_25 : decode cX4_hasTwo 25 = .ok (.iconst 0, 1) := by decide +kernel
theorem dX4_hasTwo_26 : decode cX4_hasTwo 26 = .ok (.ireturn, 1) := by decide +kernel
theorem dX4_all_0 : decode cX4_all 0 = .ok (.iconst 1, 1) := by decide +kernel
theorem dX4_all_1 : decode cX4_all 1 = .ok (.aload_n 0, 1) := by decide +kernel
theorem dX4_all_2 : decode cX4_all 2 = .ok (.getfield 24, 3) := by decide +kernel
theorem dX4_all_5 : decode cX4_all 5 = .ok (.ishl, 1) := by decide +kernel
theorem dX4_all_6 : decode cX4_all 6 = .ok (.iconst 1, 1) := by decide +kernel
theorem dX4_all_7 : decode cX4_all 7 = .ok (.isub, 1) := by decide +kernel
theorem dX4_all_8 : decode cX4_all 8 = .ok (.ireturn, 1) := by decide +kernel
theorem dX4_hasAll_0 : decode cX4_hasAll 0 = .ok (.iload_n 1, 1) := by decide +kernel
theorem dX4_hasAll_1 : decode cX4_hasAll 1 = .ok (.aload_n 0, 1) := by decide +kernel
theorem dX4_hasAll_2 : decode cX4_hasAll 2 = .ok (.invokevirtual 32, 3) := by decide +kernel
theorem dX4_hasAll_5 : decode cX4_hasAll 5 = .ok (.iconst (-1), 1) := by decide +kernel
theorem dX4_hasAll_6 : decode cX4_hasAll 6 = .ok (.ixor, 1) := by decide +kernel
theorem dX4_hasAll_7 : decode cX4_hasAll 7 = .ok (.iand, 1) := by decide +kernel
theorem dX4_hasAll_8 : decode cX4_hasAll 8 = .ok (.ifCond .ne 7, 3) := by decide +kernel
theorem dX4_hasAll_11 : decode cX4_hasAll 11 = .ok (.iconst 1, 1) := by decide +kernel
theorem dX4_hasAll_12 : decode cX4_hasAll 12 = .ok (.goto 4, 3) := by decide +kernel
theorem dX4_hasAll_15 : decode cX4_hasAll 15 = .ok (.iconst 0, 1) := by decide +kernel
theorem dX4_hasAll_16 : decode cX4_hasAll 16 = .ok (.ireturn, 1) := by decide +kernel
theorem dX4_clear_0 : decode cX4_clear 0 = .ok (.aload_n 0, 1) := by decide +kernel
theorem dX4_clear_1 : decode cX4_clear 1 = .ok (.iconst 0, 1) := by decide +kernel
theorem dX4_clear_2 : decode cX4_clear 2 = .ok (.putfield 24, 3) := by decide +kernel
theorem dX4_clear_5 : decode cX4_clear 5 = .ok (.aload_n 0, 1) := by decide +kernel
theorem dX4_clear_6 : decode cX4_clear 6 = .ok (.getfield 18, 3) := by decide +kernel
theorem dX4_clear_9 : decode cX4_clear 9 = .ok (.iconst 0, 1) := by decide +kernel
theorem dX4_clear_10 : decode cX4_clear 10 = .ok (.invokestatic 36, 3) := by decide +kernel
theorem dX4_clear_13 : decode cX4_clear 13 = .ok (.return_, 1) := by decide +kernel
theorem dX4_add_0 : decode cX4_add 0 = .ok (.aload_n 0, 1) := by decide +kernel
theorem dX4_add_1 : decode cX4_add 1 = .ok (.getfield 24, 3) := by decide +kernel
theorem dX4_add_4 : decode cX4_add 4 = .ok (.bipush 12, 2) := by decide +kernel
theorem dX4_add_6 : decode cX4_add 6 = .ok (.if_icmp .lt 6, 3) := by decide +kernel
theorem dX4_add_9 : decode cX4_add 9 = .ok (.bipush (-4), 2) := by decide +kernel
theorem dX4_add_11 : decode cX4_add 11 = .ok (.ireturn, 1) := by decide +kernel
theorem dX4_add_12 : decode cX4_add 12 = .ok (.aload_n 0, 1) := by decide +kernel
theorem dX4_add_13 : decode cX4_add 13 = .ok (.getfield 9, 3) := by decide +kernel
theorem dX4_add_16 : decode cX4_add 16 = .ok (.aload_n 0, 1) := by decide +kernel
theorem dX4_add_17 : decode cX4_add 17 = .ok (.getfield 24, 3) := by decide +kernel
theorem dX4_add_20 : decode cX4_add 20 = .ok (.iload_n 1, 1) := by decide +kernel
theorem dX4_add_21 : decode cX4_add 21 = .ok (.iastore, 1) := by decide +kernel
theorem dX4_add_22 : decode cX4_add 22 = .ok (.aload_n 0, 1) := by decide +kernel
theorem dX4_add_23 : decode cX4_add 23 = .ok (.getfield 15, 3) := by decide +kernel
theorem dX4_add_26 : decode cX4_add 26 = .ok (.aload_n 0, 1) := by decide +kernel
theorem dX4_add_27 : decode cX4_add 27 = .ok (.getfield 24, 3) := by decide +kernel
theorem dX4_add_30 : decode cX4_add 30 = .ok (.iload_n 2, 1) := by decide +kernel
theorem dX4_add_31 : decode cX4_add 31 = .ok (.iastore, 1) := by decide +kernel
theorem dX4_add_32 : decode cX4_add 32 = .ok (.aload_n 0, 1) := by decide +kernel
theorem dX4_add_33 : decode cX4_add 33 = .ok (.getfield 18, 3) := by decide +kernel
theorem dX4_add_36 : decode cX4_add 36 = .ok (.aload_n 0, 1) := by decide +kernel
theorem dX4_add_37 : decode cX4_add 37 = .ok (.getfield 24, 3) := by decide +kernel
theorem dX4_add_40 : decode cX4_add 40 = .ok (.iconst 0, 1) := by decide +kernel
theorem dX4_add_41 : decode cX4_add 41 = .ok (.iastore, 1) := by decide +kernel
theorem dX4_add_42 : decode cX4_add 42 = .ok (.aload_n 0, 1) := by decide +kernel
theorem dX4_add_43 : decode cX4_add 43 = .ok (.dup, 1) := by decide +kernel
theorem dX4_add_44 : decode cX4_add 44 = .ok (.getfield 24, 3) := by decide +kernel
theorem dX4_add_47 : decode cX4_add 47 = .ok (.iconst 1, 1) := by decide +kernel
theorem dX4_add_48 : decode cX4_add 48 = .ok (.iadd, 1) := by decide +kernel
theorem dX4_add_49 : decode cX4_add 49 = .ok (.putfield 24, 3) := by decide +kernel
theorem dX4_add_52 : decode cX4_add 52 = .ok (.aload_n 0, 1) := by decide +kernel
theorem dX4_add_53 : decode cX4_add 53 = .ok (.getfield 24, 3) := by decide +kernel
theorem dX4_add_56 : decode cX4_add 56 = .ok (.iconst 1, 1) := by decide +kernel
theorem dX4_add_57 : decode cX4_add 57 = .ok (.isub, 1) := by decide +kernel
theorem dX4_add_58 : decode cX4_add 58 = .ok (.ireturn, 1) := by decide +kernel
theorem dX4_joined_0 : decode cX4_joined 0 = .ok (.aload_n 0, 1) := by decide +kernel
theorem dX4_joined_1 : decode cX4_joined 1 = .ok (.iload_n 1, 1) := by decide +kernel
theorem dX4_joined_2 : decode cX4_joined 2 = .ok (.invokevirtual 28, 3) := by decide +kernel
theorem dX4_joined_5 : decode cX4_joined 5 = .ok (.ifCond .eq 28, 3) := by decide +kernel
theorem dX4_joined_8 : decode cX4_joined 8 = .ok (.aload_n 0, 1) := by decide +kernel
theorem dX4_joined_9 : decode cX4_joined 9 = .ok (.iload_n 2, 1) := by decide +kernel
theorem dX4_joined_10 : decode cX4_joined 10 = .ok (.invokevirtual 28, 3) := by decide +kernel
theorem dX4_joined_13 : decode cX4_joined 13 = .ok (.ifCond .eq 20, 3) := by decide +kernel
theorem dX4_joined_16 : decode cX4_joined 16 = .ok (.aload_n 0, 1) := by decide +kernel
theorem dX4_joined_17 : decode cX4_joined 17 = .ok (.getfield 18, 3) := by decide +kernel
theorem dX4_joined_20 : decode cX4_joined 20 = .ok (.iload_n 1, 1) := by decide +kernel
theorem dX4_joined_21 : decode cX4_joined 21 = .ok (.iaload, 1) := by decide +kernel
theorem dX4_joined_22 : decode cX4_joined 22 = .ok (.iload_n 2, 1) := by decide +kernel
theorem dX4_joined_23 : decode cX4_joined 23 = .ok (.ishr, 1) := by decide +kernel
theorem dX4_joined_24 : decode cX4_joined 24 = .ok (.iconst 1, 1) := by decide +kernel
theorem dX4_joined_25 : decode cX4_joined 25 = .ok (.iand, 1) := by decide +kernel
theorem dX4_joined_26 : decode cX4_joined 26 = .ok (.ifCond .eq 7, 3) := by decide +kernel
theorem dX4_joined_29 : decode cX4_joined 29 = .ok (.iconst 1, 1) := by decide +kernel
theorem dX4_joined_30 : decode cX4_joined 30 = .ok (.goto 4, 3) := by decide +kernel
theorem dX4_joined_33 : decode cX4_joined 33 = .ok (.iconst 0, 1) := by decide +kernel
theorem dX4_joined_34 : decode cX4_joined 34 = .ok (.ireturn, 1) := by decide +kernel
theorem dX4_join_0 : decode cX4_join 0 = .ok (.aload_n 0, 1) := by decide +kernel
theorem dX4_join_1 : decode cX4_join 1 = .ok (.iload_n 1, 1) := by decide +kernel
theorem dX4_join_2 : decode cX4_join 2 = .ok (.iload_n 2, 1) := by decide +kernel
theorem dX4_join_3 : decode cX4_join 3 = .ok (.invokevirtual 42, 3) := by decide +kernel
theorem dX4_join_6 : decode cX4_join 6 = .ok (.ifCond .ne 4, 3) := by decide +kernel
theorem dX4_join_9 : decode cX4_join 9 = .ok (.return_, 1) := by decide +kernel
theorem dX4_join_10 : decode cX4_join 10 = .ok (.iload_n 3, 1) := by decide +kernel
theorem dX4_join_11 : decode cX4_join 11 = .ok (.ifCond .eq 30, 3) := by decide +kernel
theorem dX4_join_14 : decode cX4_join 14 = .ok (.aload_n 0, 1) := by decide +kernel
theorem dX4_join_15 : decode cX4_join 15 = .ok (.getfield 18, 3) := by decide +kernel
theorem dX4_join_18 : decode cX4_join 18 = .ok (.iload_n 1, 1) := by decide +kernel
theorem dX4_join_19 : decode cX4_join 19 = .ok (.dup2, 1) := by decide +kernel
theorem dX4_join_20 : decode cX4_join 20 = .ok (.iaload, 1) := by decide +kernel
theorem dX4_join_21 : decode cX4_join 21 = .ok (.iconst 1, 1) := by decide +kernel
theorem dX4_join_22 : decode cX4_join 22 = .ok (.iload_n 2, 1) := by decide +kernel
theorem dX4_join_23 : decode cX4_join 23 = .ok (.ishl, 1) := by decide +kernel
theorem dX4_join_24 : decode cX4_join 24 = .ok (.ior, 1) := by decide +kernel
theorem dX4_join_25 : decode cX4_join 25 = .ok (.iastore, 1) := by decide +kernel
theorem dX4_join_26 : decode cX4_join 26 = .ok (.aload_n 0, 1) := by decide +kernel
theorem dX4_join_27 : decode cX4_join 27 = .ok (.getfield 18, 3) := by decide +kernel
theorem dX4_join_30 : decode cX4_join 30 = .ok (.iload_n 2, 1) := by decide +kernel
theorem dX4_join_31 : decode cX4_join 31 = .ok (.dup2, 1) := by decide +kernel
theorem dX4_join_32 : decode cX4_join 32 = .ok (.iaload, 1) := by decide +kernel
theorem dX4_join_33 : decode cX4_join 33 = .ok (.iconst 1, 1) := by decide +kernel
theorem dX4_join_34 : decode cX4_join 34 = .ok (.iload_n 1, 1) := by decide +kernel
theorem dX4_join_35 : decode cX4_join 35 = .ok (.ishl, 1) := by decide +kernel
theorem dX4_join_36 : decode cX4_join 36 = .ok (.ior, 1) := by decide +kernel
theorem dX4_join_37 : decode cX4_join 37 = .ok (.iastore, 1) := by decide +kernel
theorem dX4_join_38 : decode cX4_join 38 = .ok (.goto 31, 3) := by decide +kernel
theorem dX4_join_41 : decode cX4_join 41 = .ok (.aload_n 0, 1) := by decide +kernel
theorem dX4_join_42 : decode cX4_join 42 = .ok (.getfield 18, 3) := by decide +kernel
theorem dX4_join_45 : decode cX4_join 45 = .ok (.iload_n 1, 1) := by decide +kernel
theorem dX4_join_46 : decode cX4_join 46 = .ok (.dup2, 1) := by decide +kernel
theorem dX4_join_47 : decode cX4_join 47 = .ok (.iaload, 1) := by decide +kernel
theorem dX4_join_48 : decode cX4_join 48 = .ok (.iconst 1, 1) := by decide +kernel
theorem dX4_join_49 : decode cX4_join 49 = .ok (.iload_n 2, 1) := by decide +kernel
theorem dX4_join_50 : decode cX4_join 50 = .ok (.ishl, 1) := by decide +kernel
theorem dX4_join_51 : decode cX4_join 51 = .ok (.iconst (-1), 1) := by decide +kernel
theorem dX4_join_52 : decode cX4_join 52 = .ok (.ixor, 1) := by decide +kernel
theorem dX4_join_53 : decode cX4_join 53 = .ok (.iand, 1) := by decide +kernel
theorem dX4_join_54 : decode cX4_join 54 = .ok (.iastore, 1) := by decide +kernel
theorem dX4_join_55 : decode cX4_join 55 = .ok (.aload_n 0, 1) := by decide +kernel
theorem dX4_join_56 : decode cX4_join 56 = .ok (.getfield 18, 3) := by decide +kernel
theorem dX4_join_59 : decode cX4_join 59 = .ok (.iload_n 2, 1) := by decide +kernel
theorem dX4_join_60 : decode cX4_join 60 = .ok (.dup2, 1) := by decide +kernel
theorem dX4_join_61 : decode cX4_join 61 = .ok (.iaload, 1) := by decide +kernel
theorem dX4_join_62 : decode cX4_join 62 = .ok (.iconst 1, 1) := by decide +kernel
theorem dX4_join_63 : decode cX4_join 63 = .ok (.iload_n 1, 1) := by decide +kernel
theorem dX4_join_64 : decode cX4_join 64 = .ok (.ishl, 1) := by decide +kernel
theorem dX4_join_65 : decode cX4_join 65 = .ok (.iconst (-1), 1) := by decide +kernel
theorem dX4_join_66 : decode cX4_join 66 = .ok (.ixor, 1) := by decide +kernel
theorem dX4_join_67 : decode cX4_join 67 = .ok (.iand, 1) := by decide +kernel
theorem dX4_join_68 : decode cX4_join 68 = .ok (.iastore, 1) := by decide +kernel
theorem dX4_join_69 : decode cX4_join 69 = .ok (.return_, 1) := by decide +kernel
theorem dX4_become_0 : decode cX4_become 0 = .ok (.aload_n 0, 1) := by decide +kernel
theorem dX4_become_1 : decode cX4_become 1 = .ok (.aload_n 1, 1) := by decide +kernel
theorem dX4_become_2 : decode cX4_become 2 = .ok (.getfield 24, 3) := by decide +kernel
theorem dX4_become_5 : decode cX4_become 5 = .ok (.putfield 24, 3) := by decide +kernel
theorem dX4_become_8 : decode cX4_become 8 = .ok (.aload_n 1, 1) := by decide +kernel
theorem dX4_become_9 : decode cX4_become 9 = .ok (.getfield 9, 3) := by decide +kernel
theorem dX4_become_12 : decode cX4_become 12 = .ok (.iconst 0, 1) := by decide +kernel
theorem dX4_become_13 : decode cX4_become 13 = .ok (.aload_n 0, 1) := by decide +kernel
theorem dX4_become_14 : decode cX4_become 14 = .ok (.getfield 9, 3) := by decide +kernel
theorem dX4_become_17 : decode cX4_become 17 = .ok (.iconst 0, 1) := by decide +kernel
theorem dX4_become_18 : decode cX4_become 18 = .ok (.bipush 12, 2) := by decide +kernel
theorem dX4_become_20 : decode cX4_become 20 = .ok (.invokestatic 46, 3) := by decide +kernel
theorem dX4_become_23 : decode cX4_become 23 = .ok (.aload_n 1, 1) := by decide +kernel
theorem dX4_become_24 : decode cX4_become 24 = .ok (.getfield 15, 3) := by decide +kernel
theorem dX4_become_27 : decode cX4_become 27 = .ok (.iconst 0, 1) := by decide +kernel
theorem dX4_become_28 : decode cX4_become 28 = .ok (.aload_n 0, 1) := by decide +kernel
theorem dX4_become_29 : decode cX4_become 29 = .ok (.getfield 15, 3) := by decide +kernel
theorem dX4_become_32 : decode cX4_become 32 = .ok (.iconst 0, 1) := by decide +kernel
theorem dX4_become_33 : decode cX4_become 33 = .ok (.bipush 12, 2) := by decide +kernel
theorem dX4_become_35 : decode cX4_become 35 = .ok (.invokestatic 46, 3) := by decide +kernel
theorem dX4_become_38 : decode cX4_become 38 = .ok (.aload_n 1, 1) := by decide +kernel
theorem dX4_become_39 : decode cX4_become 39 = .ok (.getfield 18, 3) := by decide +kernel
theorem dX4_become_42 : decode cX4_become 42 = .ok (.iconst 0, 1) := by decide +kernel
theorem dX4_become_43 : decode cX4_become 43 = .ok (.aload_n 0, 1) := by decide +kernel
theorem dX4_become_44 : decode cX4_become 44 = .ok (.getfield 18, 3) := by decide +kernel
theorem dX4_become_47 : decode cX4_become 47 = .ok (.iconst 0, 1) := by decide +kernel
theorem dX4_become_48 : decode cX4_become 48 = .ok (.bipush 12, 2) := by decide +kernel
theorem dX4_become_50 : decode cX4_become 50 = .ok (.invokestatic 46, 3) := by decide +kernel
theorem dX4_become_53 : decode cX4_become 53 = .ok (.return_, 1) := by decide +kernel
theorem dX4_becomeDealt_0 : decode cX4_becomeDealt 0 = .ok (.iload_n 1, 1) := by decide +kernel
theorem dX4_becomeDealt_1 : decode cX4_becomeDealt 1 = .ok (.istore 4, 2) := by decide +kernel
theorem dX4_becomeDealt_3 : decode cX4_becomeDealt 3 = .ok (.aload_n 0, 1) := by decide +kernel
theorem dX4_becomeDealt_4 : decode cX4_becomeDealt 4 = .ok (.invokevirtual 52, 3) := by decide +kernel
theorem dX4_becomeDealt_7 : decode cX4_becomeDealt 7 = .ok (.iconst 0, 1) := by decide +kernel
theorem dX4_becomeDealt_8 : decode cX4_becomeDealt 8 = .ok (.istore 5, 2) := by decide +kernel
theorem dX4_becomeDealt_10 : decode cX4_becomeDealt 10 = .ok (.iload 5, 2) := by decide +kernel
theorem dX4_becomeDealt_12 : decode cX4_becomeDealt 12 = .ok (.iload_n 2, 1) := by decide +kernel
theorem dX4_becomeDealt_13 : decode cX4_becomeDealt 13 = .ok (.if_icmp .ge 57, 3) := by decide +kernel
theorem dX4_becomeDealt_16 : decode cX4_becomeDealt 16 = .ok (.iload 5, 2) := by decide +kernel
theorem dX4_becomeDealt_18 : decode cX4_becomeDealt 18 = .ok (.bipush 12, 2) := by decide +kernel
theorem dX4_becomeDealt_20 : decode cX4_becomeDealt 20 = .ok (.if_icmp .ge 50, 3) := by decide +kernel
theorem dX4_becomeDealt_23 : decode cX4_becomeDealt 23 = .ok (.iload 4, 2) := by decide +kernel
theorem dX4_becomeDealt_25 : decode cX4_becomeDealt 25 = .ok (.invokestatic 55, 3) := by decide +kernel
theorem dX4_becomeDealt_28 : decode cX4_becomeDealt 28 = .ok (.istore 4, 2) := by decide +kernel
theorem dX4_becomeDealt_30 : decode cX4_becomeDealt 30 = .ok (.iload 4, 2) := by decide +kernel
theorem dX4_becomeDealt_32 : decode cX4_becomeDealt 32 = .ok (.bipush 16, 2) := by decide +kernel
theorem dX4_becomeDealt_34 : decode cX4_becomeDealt 34 = .ok (.iushr, 1) := by decide +kernel
theorem dX4_becomeDealt_35 : decode cX4_becomeDealt 35 = .ok (.bipush 6, 2) := by decide +kernel
theorem dX4_becomeDealt_37 : decode cX4_becomeDealt 37 = .ok (.irem, 1) := by decide +kernel
theorem dX4_becomeDealt_38 : decode cX4_becomeDealt 38 = .ok (.istore 6, 2) := by decide +kernel
theorem dX4_becomeDealt_40 : decode cX4_becomeDealt 40 = .ok (.iload 4, 2) := by decide +kernel
theorem dX4_becomeDealt_42 : decode cX4_becomeDealt 42 = .ok (.invokestatic 55, 3) := by decide +kernel
theorem dX4_becomeDealt_45 : decode cX4_becomeDealt 45 = .ok (.istore 4, 2) := by decide +kernel
theorem dX4_becomeDealt_47 : decode cX4_becomeDealt 47 = .ok (.aload_n 0, 1) := by decide +kernel
theorem dX4_becomeDealt_48 : decode cX4_becomeDealt 48 = .ok (.iload 6, 2) := by decide +kernel
theorem dX4_becomeDealt_50 : decode cX4_becomeDealt 50 = .ok (.iconst 1, 1) := by decide +kernel
theorem dX4_becomeDealt_51 : decode cX4_becomeDealt 51 = .ok (.iload 4, 2) := by decide +kernel
theorem dX4_becomeDealt_53 : decode cX4_becomeDealt 53 = .ok (.bipush 16, 2) := by decide +kernel
theorem dX4_becomeDealt_55 : decode cX4_becomeDealt 55 = .ok (.iushr, 1) := by decide +kernel
theorem dX4_becomeDealt_56 : decode cX4_becomeDealt 56 = .ok (.bipush 9, 2) := by decide +kernel
theorem dX4_becomeDealt_58 : decode cX4_becomeDealt 58 = .ok (.irem, 1) := by decide +kernel
theorem dX4_becomeDealt_59 : decode cX4_becomeDealt 59 = .ok (.iadd, 1) := by decide +kernel
theorem dX4_becomeDealt_60 : decode cX4_becomeDealt 60 = .ok (.invokevirtual 59, 3) := by decide +kernel
theorem dX4_becomeDealt_63 : decode cX4_becomeDealt 63 = .ok (.pop, 1) := by decide +kernel
theorem dX4_becomeDealt_64 : decode cX4_becomeDealt 64 = .ok (.iinc 5 1, 3) := by decide +kernel
theorem dX4_becomeDealt_67 : decode cX4_becomeDealt 67 = .ok (.goto (-57), 3) := by decide +kernel
theorem dX4_becomeDealt_70 : decode cX4_becomeDealt 70 = .ok (.iconst 0, 1) := by decide +kernel
theorem dX4_becomeDealt_71 : decode cX4_becomeDealt 71 = .ok (.istore 5, 2) := by decide +kernel
theorem dX4_becomeDealt_73 : decode cX4_becomeDealt 73 = .ok (.iload 5, 2) := by decide +kernel
theorem dX4_becomeDealt_75 : decode cX4_becomeDealt 75 = .ok (.aload_n 0, 1) := by decide +kernel
theorem dX4_becomeDealt_76 : decode cX4_becomeDealt 76 = .ok (.getfield 24, 3) := by decide +kernel
theorem dX4_becomeDealt_79 : decode cX4_becomeDealt 79 = .ok (.if_icmp .ge 58, 3) := by decide +kernel
theorem dX4_becomeDealt_82 : decode cX4_becomeDealt 82 = .ok (.iload 5, 2) := by decide +kernel
theorem dX4_becomeDealt_84 : decode cX4_becomeDealt 84 = .ok (.iconst 1, 1) := by decide +kernel
theorem dX4_becomeDealt_85 : decode cX4_becomeDealt 85 = .ok (.iadd, 1) := by decide +kernel
theorem dX4_becomeDealt_86 : decode cX4_becomeDealt 86 = .ok (.istore 6, 2) := by decide +kernel
theorem dX4_becomeDealt_88 : decode cX4_becomeDealt 88 = .ok (.iload 6, 2) := by decide +kernel
theorem dX4_becomeDealt_90 : decode cX4_becomeDealt 90 = .ok (.aload_n 0, 1) := by decide +kernel
theorem dX4_becomeDealt_91 : decode cX4_becomeDealt 91 = .ok (.getfield 24, 3) := by decide +kernel
theorem dX4_becomeDealt_94 : decode cX4_becomeDealt 94 = .ok (.if_icmp .ge 37, 3) := by decide +kernel
theorem dX4_becomeDealt_97 : decode cX4_becomeDealt 97 = .ok (.iload 4, 2) := by decide +kernel
theorem dX4_becomeDealt_99 : decode cX4_becomeDealt 99 = .ok (.invokestatic 55, 3) := by decide +kernel
theorem dX4_becomeDealt_102 : decode cX4_becomeDealt 102 = .ok (.istore 4, 2) := by decide +kernel
theorem dX4_becomeDealt_104 : decode cX4_becomeDealt 104 = .ok (.iload 4, 2) := by decide +kernel
theorem dX4_becomeDealt_106 : decode cX4_becomeDealt 106 = .ok (.bipush 16, 2) := by decide +kernel
theorem dX4_becomeDealt_108 : decode cX4_becomeDealt 108 = .ok (.iushr, 1) := by decide +kernel
theorem dX4_becomeDealt_109 : decode cX4_becomeDealt 109 = .ok (.bipush 10, 2) := by decide +kernel
theorem dX4_becomeDealt_111 : decode cX4_becomeDealt 111 = .ok (.irem, 1) := by decide +kernel
theorem dX4_becomeDealt_112 : decode cX4_becomeDealt 112 = .ok (.iload_n 3, 1) := by decide +kernel
theorem dX4_becomeDealt_113 : decode cX4_becomeDealt 113 = .ok (.if_icmp .ge 12, 3) := by decide +kernel
theorem dX4_becomeDealt_116 : decode cX4_becomeDealt 116 = .ok (.aload_n 0, 1) := by decide +kernel
theorem dX4_becomeDealt_117 : decode cX4_becomeDealt 117 = .ok (.iload 5, 2) := by decide +kernel
theorem dX4_becomeDealt_119 : decode cX4_becomeDealt 119 = .ok (.iload 6, 2) := by decide +kernel
theorem dX4_becomeDealt_121 : decode cX4_becomeDealt 121 = .ok (.iconst 1, 1) := by decide +kernel
theorem dX4_becomeDealt_122 : decode cX4_becomeDealt 122 = .ok (.invokevirtual 63, 3) := by decide +kernel
theorem dX4_becomeDealt_125 : decode cX4_becomeDealt 125 = .ok (.iinc 6 1, 3) := by decide +kernel
theorem dX4_becomeDealt_128 : decode cX4_becomeDealt 128 = .ok (.goto (-40), 3) := by decide +kernel
theorem dX4_becomeDealt_131 : decode cX4_becomeDealt 131 = .ok (.iinc 5 1, 3) := by decide +kernel
theorem dX4_becomeDealt_134 : decode cX4_becomeDealt 134 = .ok (.goto (-61), 3) := by decide +kernel
theorem dX4_becomeDealt_137 : decode cX4_becomeDealt 137 = .ok (.iload 4, 2) := by decide +kernel
theorem dX4_becomeDealt_139 : decode cX4_becomeDealt 139 = .ok (.ireturn, 1) := by decide +kernel
theorem dX4_drawn_0 : decode cX4_drawn 0 = .ok (.iload_n 0, 1) := by decide +kernel
theorem dX4_drawn_1 : decode cX4_drawn 1 = .ok (.ldc 67, 2) := by decide +kernel
theorem dX4_drawn_3 : decode cX4_drawn 3 = .ok (.imul, 1) := by decide +kernel
theorem dX4_drawn_4 : decode cX4_drawn 4 = .ok (.sipush 12345, 3) := by decide +kernel
theorem dX4_drawn_7 : decode cX4_drawn 7 = .ok (.iadd, 1) := by decide +kernel
theorem dX4_drawn_8 : decode cX4_drawn 8 = .ok (.ireturn, 1) := by decide +kernel
theorem dX4_degree_0 : decode cX4_degree 0 = .ok (.aload_n 0, 1) := by decide +kernel
theorem dX4_degree_1 : decode cX4_degree 1 = .ok (.getfield 18, 3) := by decide +kernel
theorem dX4_degree_4 : decode cX4_degree 4 = .ok (.iload_n 1, 1) := by decide +kernel
theorem dX4_degree_5 : decode cX4_degree 5 = .ok (.iaload, 1) := by decide +kernel
theorem dX4_degree_6 : decode cX4_degree 6 = .ok (.invokestatic 68, 3) := by decide +kernel
theorem dX4_degree_9 : decode cX4_degree 9 = .ok (.ireturn, 1) := by decide +kernel
theorem dX4_lines_0 : decode cX4_lines 0 = .ok (.iconst 0, 1) := by decide +kernel
theorem dX4_lines_1 : decode cX4_lines 1 = .ok (.istore_n 1, 1) := by decide +kernel
theorem dX4_lines_2 : decode cX4_lines 2 = .ok (.iconst 0, 1) := by decide +kernel
theorem dX4_lines_3 : decode cX4_lines 3 = .ok (.istore_n 2, 1) := by decide +kernel
theorem dX4_lines_4 : decode cX4_lines 4 = .ok (.iload_n 2, 1) := by decide +kernel
theorem dX4_lines_5 : decode cX4_lines 5 = .ok (.aload_n 0, 1) := by decide +kernel
theorem dX4_lines_6 : decode cX4_lines 6 = .ok (.getfield 24, 3) := by decide +kernel
theorem dX4_lines_9 : decode cX4_lines 9 = .ok (.if_icmp .ge 17, 3) := by decide +kernel
theorem dX4_lines_12 : decode cX4_lines 12 = .ok (.iload_n 1, 1) := by decide +kernel
theorem dX4_lines_13 : decode cX4_lines 13 = .ok (.aload_n 0, 1) := by decide +kernel
theorem dX4_lines_14 : decode cX4_lines 14 = .ok (.iload_n 2, 1) := by decide +kernel
theorem dX4_lines_15 : decode cX4_lines 15 = .ok (.invokevirtual 73, 3) := by decide +kernel
theorem dX4_lines_18 : decode cX4_lines 18 = .ok (.iadd, 1) := by decide +kernel
theorem dX4_lines_19 : decode cX4_lines 19 = .ok (.istore_n 1, 1) := by decide +kernel
theorem dX4_lines_20 : decode cX4_lines 20 = .ok (.iinc 2 1, 3) := by decide +kernel
theorem dX4_lines_23 : decode cX4_lines 23 = .ok (.goto (-19), 3) := by decide +kernel
theorem dX4_lines_26 : decode cX4_lines 26 = .ok (.iload_n 1, 1) := by decide +kernel
theorem dX4_lines_27 : decode cX4_lines 27 = .ok (.iconst 2, 1) := by decide +kernel
theorem dX4_lines_28 : decode cX4_lines 28 = .ok (.idiv, 1) := by decide +kernel
theorem dX4_lines_29 : decode cX4_lines 29 = .ok (.ireturn, 1) := by decide +kernel
theorem dX4_lonely_0 : decode cX4_lonely 0 = .ok (.iconst 0, 1) := by decide +kernel
theorem dX4_lonely_1 : decode cX4_lonely 1 = .ok (.istore_n 1, 1) := by decide +kernel
theorem dX4_lonely_2 : decode cX4_lonely 2 = .ok (.iconst 0, 1) := by decide +kernel
theorem dX4_lonely_3 : decode cX4_lonely 3 = .ok (.istore_n 2, 1) := by decide +kernel
theorem dX4_lonely_4 : decode cX4_lonely 4 = .ok (.iload_n 2, 1) := by decide +kernel
theorem dX4_lonely_5 : decode cX4_lonely 5 = .ok (.aload_n 0, 1) := by decide +kernel
theorem dX4_lonely_6 : decode cX4_lonely 6 = .ok (.getfield 24, 3) := by decide +kernel
theorem dX4_lonely_9 : decode cX4_lonely 9 = .ok (.if_icmp .ge 21, 3) := by decide +kernel
theorem dX4_lonely_12 : decode cX4_lonely 12 = .ok (.aload_n 0, 1) := by decide +kernel
theorem dX4_lonely_13 : decode cX4_lonely 13 = .ok (.getfield 18, 3) := by decide +kernel
theorem dX4_lonely_16 : decode cX4_lonely 16 = .ok (.iload_n 2, 1) := by decide +kernel
theorem dX4_lonely_17 : decode cX4_lonely 17 = .ok (.iaload, 1) := by decide +kernel
theorem dX4_lonely_18 : decode cX4_lonely 18 = .ok (.ifCond .ne 6, 3) := by decide +kernel
theorem dX4_lonely_21 : decode cX4_lonely 21 = .ok (.iinc 1 1, 3) := by decide +kernel
theorem dX4_lonely_24 : decode cX4_lonely 24 = .ok (.iinc 2 1, 3) := by decide +kernel
theorem dX4_lonely_27 : decode cX4_lonely 27 = .ok (.goto (-23), 3) := by decide +kernel
theorem dX4_lonely_30 : decode cX4_lonely 30 = .ok (.iload_n 1, 1) := by decide +kernel
theorem dX4_lonely_31 : decode cX4_lonely 31 = .ok (.ireturn, 1) := by decide +kernel
theorem dX4_price_0 : decode cX4_price 0 = .ok (.aload_n 0, 1) := by decide +kernel
theorem dX4_price_1 : decode cX4_price 1 = .ok (.getfield 9, 3) := by decide +kernel
theorem dX4_price_4 : decode cX4_price 4 = .ok (.iload_n 1, 1) := by decide +kernel
theorem dX4_price_5 : decode cX4_price 5 = .ok (.iaload, 1) := by decide +kernel
theorem dX4_price_6 : decode cX4_price 6 = .ok (.aload_n 0, 1) := by decide +kernel
theorem dX4_price_7 : decode cX4_price 7 = .ok (.getfield 15, 3) := by decide +kernel
theorem dX4_price_10 : decode cX4_price 10 = .ok (.iload_n 1, 1) := by decide +kernel
theorem dX4_price_11 : decode cX4_price 11 = .ok (.iaload, 1) := by decide +kernel
theorem dX4_price_12 : decode cX4_price 12 = .ok (.aload_n 0, 1) := by decide +kernel
theorem dX4_price_13 : decode cX4_price 13 = .ok (.iload_n 1, 1) := by decide +kernel
theorem dX4_price_14 : decode cX4_price 14 = .ok (.invokevirtual 73, 3) := by decide +kernel
theorem dX4_price_17 : decode cX4_price 17 = .ok (.iload_n 1, 1) := by decide +kernel
theorem dX4_price_18 : decode cX4_price 18 = .ok (.invokestatic 76, 3) := by decide +kernel
theorem dX4_price_21 : decode cX4_price 21 = .ok (.ireturn, 1) := by decide +kernel
theorem dX4_priceOfAll_0 : decode cX4_priceOfAll 0 = .ok (.iconst 0, 1) := by decide +kernel
theorem dX4_priceOfAll_1 : decode cX4_priceOfAll 1 = .ok (.istore_n 2, 1) := by decide +kernel
theorem dX4_priceOfAll_2 : decode cX4_priceOfAll 2 = .ok (.iconst 0, 1) := by decide +kernel
theorem dX4_priceOfAll_3 : decode cX4_priceOfAll 3 = .ok (.istore_n 3, 1) := by decide +kernel
theorem dX4_priceOfAll_4 : decode cX4_priceOfAll 4 = .ok (.iload_n 3, 1) := by decide +kernel
theorem dX4_priceOfAll_5 : decode cX4_priceOfAll 5 = .ok (.aload_n 0, 1) := by decide +kernel
theorem dX4_priceOfAll_6 : decode cX4_priceOfAll 6 = .ok (.getfield 24, 3) := by decide +kernel
theorem dX4_priceOfAll_9 : decode cX4_priceOfAll 9 = .ok (.if_icmp .ge 25, 3) := by decide +kernel
theorem dX4_priceOfAll_12 : decode cX4_priceOfAll 12 = .ok (.iload_n 1, 1) := by decide +kernel
theorem dX4_priceOfAll_13 : decode cX4_priceOfAll 13 = .ok (.iload_n 3, 1) := by decide +kernel
theorem dX4_priceOfAll_14 : decode cX4_priceOfAll 14 = .ok (.ishr, 1) := by decide +kernel
theorem dX4_priceOfAll_15 : decode cX4_priceOfAll 15 = .ok (.iconst 1, 1) := by decide +kernel
theorem dX4_priceOfAll_16 : decode cX4_priceOfAll 16 = .ok (.iand, 1) := by decide +kernel
theorem dX4_priceOfAll_17 : decode cX4_priceOfAll 17 = .ok (.ifCond .eq 11, 3) := by decide +kernel
theorem dX4_priceOfAll_20 : decode cX4_priceOfAll 20 = .ok (.iload_n 2, 1) := by decide +kernel
theorem dX4_priceOfAll_21 : decode cX4_priceOfAll 21 = .ok (.aload_n 0, 1) := by decide +kernel
theorem dX4_priceOfAll_22 : decode cX4_priceOfAll 22 = .ok (.iload_n 3, 1) := by decide +kernel
theorem dX4_priceOfAll_23 : decode cX4_priceOfAll 23 = .ok (.invokevirtual 80, 3) := by decide +kernel
theorem dX4_priceOfAll_26 : decode cX4_priceOfAll 26 = .ok (.iadd, 1) := by decide +kernel
theorem dX4_priceOfAll_27 : decode cX4_priceOfAll 27 = .ok (.istore_n 2, 1) := by decide +kernel
theorem dX4_priceOfAll_28 : decode cX4_priceOfAll 28 = .ok (.iinc 3 1, 3) := by decide +kernel
theorem dX4_priceOfAll_31 : decode cX4_priceOfAll 31 = .ok (.goto (-27), 3) := by decide +kernel
theorem dX4_priceOfAll_34 : decode cX4_priceOfAll 34 = .ok (.iload_n 2, 1) := by decide +kernel
theorem dX4_priceOfAll_35 : decode cX4_priceOfAll 35 = .ok (.ireturn, 1) := by decide +kernel
theorem dX4_covers_0 : decode cX4_covers 0 = .ok (.iconst 0, 1) := by decide +kernel
theorem dX4_covers_1 : decode cX4_covers 1 = .ok (.istore_n 2, 1) := by decide +kernel
theorem dX4_covers_2 : decode cX4_covers 2 = .ok (.iload_n 2, 1) := by decide +kernel
theorem dX4_covers_3 : decode cX4_covers 3 = .ok (.aload_n 0, 1) := by decide +kernel
theorem dX4_covers_4 : decode cX4_covers 4 = .ok (.getfield 24, 3) := by decide +kernel
theorem dX4_covers_7 : decode cX4_covers 7 = .ok (.if_icmp .ge 32, 3) := by decide +kernel
theorem dX4_covers_10 : decode cX4_covers 10 = .ok (.iload_n 1, 1) := by decide +kernel
theorem dX4_covers_11 : decode cX4_covers 11 = .ok (.iload_n 2, 1) := by decide +kernel
theorem dX4_covers_12 : decode cX4_covers 12 = .ok (.ishr, 1) := by decide +kernel
theorem dX4_covers_13 : decode cX4_covers 13 = .ok (.iconst 1, 1) := by decide +kernel
theorem dX4_covers_14 : decode cX4_covers 14 = .ok (.iand, 1) := by decide +kernel
theorem dX4_covers_15 : decode cX4_covers 15 = .ok (.ifCond .ne 18, 3) := by decide +kernel
theorem dX4_covers_18 : decode cX4_covers 18 = .ok (.aload_n 0, 1) := by decide +kernel
theorem dX4_covers_19 : decode cX4_covers 19 = .ok (.getfield 18, 3) := by decide +kernel
theorem dX4_covers_22 : decode cX4_covers 22 = .ok (.iload_n 2, 1) := by decide +kernel
theorem dX4_covers_23 : decode cX4_covers 23 = .ok (.iaload, 1) := by decide +kernel
theorem dX4_covers_24 : decode cX4_covers 24 = .ok (.iload_n 1, 1) := by decide +kernel
theorem dX4_covers_25 : decode cX4_covers 25 = .ok (.iconst (-1), 1) := by decide +kernel
theorem dX4_covers_26 : decode cX4_covers 26 = .ok (.ixor, 1) := by decide +kernel
theorem dX4_covers_27 : decode cX4_covers 27 = .ok (.iand, 1) := by decide +kernel
theorem dX4_covers_28 : decode cX4_covers 28 = .ok (.ifCond .eq 5, 3) := by decide +kernel
theorem dX4_covers_31 : decode cX4_covers 31 = .ok (.iconst 0, 1) := by decide +kernel
theorem dX4_covers_32 : decode cX4_covers 32 = .ok (.ireturn, 1) := by decide +kernel
theorem dX4_covers_33 : decode cX4_covers 33 = .ok (.iinc 2 1, 3) := by decide +kernel
theorem dX4_covers_36 : decode cX4_covers 36 = .ok (.goto (-34), 3) := by decide +kernel
theorem dX4_covers_39 : decode cX4_covers 39 = .ok (.iconst 1, 1) := by decide +kernel
theorem dX4_covers_40 : decode cX4_covers 40 = .ok (.ireturn, 1) := by decide +kernel
theorem dX4_needsAll_0 : decode cX4_needsAll 0 = .ok (.iconst 0, 1) := by decide +kernel
theorem dX4_needsAll_1 : decode cX4_needsAll 1 = .ok (.istore_n 2, 1) := by decide +kernel
theorem dX4_needsAll_2 : decode cX4_needsAll 2 = .ok (.iload_n 2, 1) := by decide +kernel
theorem dX4_needsAll_3 : decode cX4_needsAll 3 = .ok (.aload_n 0, 1) := by decide +kernel
theorem dX4_needsAll_4 : decode cX4_needsAll 4 = .ok (.getfield 24, 3) := by decide +kernel
theorem dX4_needsAll_7 : decode cX4_needsAll 7 = .ok (.if_icmp .ge 32, 3) := by decide +kernel
theorem dX4_needsAll_10 : decode cX4_needsAll 10 = .ok (.iload_n 1, 1) := by decide +kernel
theorem dX4_needsAll_11 : decode cX4_needsAll 11 = .ok (.iload_n 2, 1) := by decide +kernel
theorem dX4_needsAll_12 : decode cX4_needsAll 12 = .ok (.ishr, 1) := by decide +kernel
theorem dX4_needsAll_13 : decode cX4_needsAll 13 = .ok (.iconst 1, 1) := by decide +kernel
theorem dX4_needsAll_14 : decode cX4_needsAll 14 = .ok (.iand, 1) := by decide +kernel
theorem dX4_needsAll_15 : decode cX4_needsAll 15 = .ok (.ifCond .eq 18, 3) := by decide +kernel
theorem dX4_needsAll_18 : decode cX4_needsAll 18 = .ok (.aload_n 0, 1) := by decide +kernel
theorem dX4_needsAll_19 : decode cX4_needsAll 19 = .ok (.getfield 18, 3) := by decide +kernel
theorem dX4_needsAll_22 : decode cX4_needsAll 22 = .ok (.iload_n 2, 1) := by decide +kernel
theorem dX4_needsAll_23 : decode cX4_needsAll 23 = .ok (.iaload, 1) := by decide +kernel
theorem dX4_needsAll_24 : decode cX4_needsAll 24 = .ok (.iload_n 1, 1) := by decide +kernel
theorem dX4_needsAll_25 : decode cX4_needsAll 25 = .ok (.iconst (-1), 1) := by decide +kernel
theorem dX4_needsAll_26 : decode cX4_needsAll 26 = .ok (.ixor, 1) := by decide +kernel
theorem dX4_needsAll_27 : decode cX4_needsAll 27 = .ok (.iand, 1) := by decide +kernel
theorem dX4_needsAll_28 : decode cX4_needsAll 28 = .ok (.ifCond .ne 5, 3) := by decide +kernel
theorem dX4_needsAll_31 : decode cX4_needsAll 31 = .ok (.iconst 0, 1) := by decide +kernel
theorem dX4_needsAll_32 : decode cX4_needsAll 32 = .ok (.ireturn, 1) := by decide +kernel
theorem dX4_needsAll_33 : decode cX4_needsAll 33 = .ok (.iinc 2 1, 3) := by decide +kernel
theorem dX4_needsAll_36 : decode cX4_needsAll 36 = .ok (.goto (-34), 3) := by decide +kernel
theorem dX4_needsAll_39 : decode cX4_needsAll 39 = .ok (.iconst 1, 1) := by decide +kernel
theorem dX4_needsAll_40 : decode cX4_needsAll 40 = .ok (.ireturn, 1) := by decide +kernel
theorem dX4_near_0 : decode cX4_near 0 = .ok (.iconst 0, 1) := by decide +kernel
theorem dX4_near_1 : decode cX4_near 1 = .ok (.istore_n 2, 1) := by decide +kernel
theorem dX4_near_2 : decode cX4_near 2 = .ok (.iconst 0, 1) := by decide +kernel
theorem dX4_near_3 : decode cX4_near 3 = .ok (.istore_n 3, 1) := by decide +kernel
theorem dX4_near_4 : decode cX4_near 4 = .ok (.iload_n 3, 1) := by decide +kernel
theorem dX4_near_5 : decode cX4_near 5 = .ok (.aload_n 0, 1) := by decide +kernel
theorem dX4_near_6 : decode cX4_near 6 = .ok (.getfield 24, 3) := by decide +kernel
theorem dX4_near_9 : decode cX4_near 9 = .ok (.if_icmp .ge 26, 3) := by decide +kernel
theorem dX4_near_12 : decode cX4_near 12 = .ok (.iload_n 1, 1) := by decide +kernel
theorem dX4_near_13 : decode cX4_near 13 = .ok (.iload_n 3, 1) := by decide +kernel
theorem dX4_near_14 : decode cX4_near 14 = .ok (.ishr, 1) := by decide +kernel
theorem dX4_near_15 : decode cX4_near 15 = .ok (.iconst 1, 1) := by decide +kernel
theorem dX4_near_16 : decode cX4_near 16 = .ok (.iand, 1) := by decide +kernel
theorem dX4_near_17 : decode cX4_near 17 = .ok (.ifCond .eq 12, 3) := by decide +kernel
theorem dX4_near_20 : decode cX4_near 20 = .ok (.iload_n 2, 1) := by decide +kernel
theorem dX4_near_21 : decode cX4_near 21 = .ok (.aload_n 0, 1) := by decide +kernel
theorem dX4_near_22 : decode cX4_near 22 = .ok (.getfield 18, 3) := by decide +kernel
theorem dX4_near_25 : decode cX4_near 25 = .ok (.iload_n 3, 1) := by decide +kernel
theorem dX4_near_26 : decode cX4_near 26 = .ok (.iaload, 1) := by decide +kernel
theorem dX4_near_27 : decode cX4_near 27 = .ok (.ior, 1) := by decide +kernel
theorem dX4_near_28 : decode cX4_near 28 = .ok (.istore_n 2, 1) := by decide +kernel
theorem dX4_near_29 : decode cX4_near 29 = .ok (.iinc 3 1, 3) := by decide +kernel
theorem dX4_near_32 : decode cX4_near 32 = .ok (.goto (-28), 3) := by decide +kernel
theorem dX4_near_35 : decode cX4_near 35 = .ok (.iload_n 2, 1) := by decide +kernel
theorem dX4_near_36 : decode cX4_near 36 = .ok (.ireturn, 1) := by decide +kernel
theorem dX4_payUpTo_0 : decode cX4_payUpTo 0 = .ok (.iconst 0, 1) := by decide +kernel
theorem dX4_payUpTo_1 : decode cX4_payUpTo 1 = .ok (.istore_n 3, 1) := by decide +kernel
theorem dX4_payUpTo_2 : decode cX4_payUpTo 2 = .ok (.iconst 0, 1) := by decide +kernel
theorem dX4_payUpTo_3 : decode cX4_payUpTo 3 = .ok (.istore 4, 2) := by decide +kernel
theorem dX4_payUpTo_5 : decode cX4_payUpTo 5 = .ok (.iload 4, 2) := by decide +kernel
theorem dX4_payUpTo_7 : decode cX4_payUpTo 7 = .ok (.aload_n 0, 1) := by decide +kernel
theorem dX4_payUpTo_8 : decode cX4_payUpTo 8 = .ok (.getfield 24, 3) := by decide +kernel
theorem dX4_payUpTo_11 : decode cX4_payUpTo 11 = .ok (.if_icmp .ge 22, 3) := by decide +kernel
theorem dX4_payUpTo_14 : decode cX4_payUpTo 14 = .ok (.aload_n 0, 1) := by decide +kernel
theorem dX4_payUpTo_15 : decode cX4_payUpTo 15 = .ok (.getfield 21, 3) := by decide +kernel
theorem dX4_payUpTo_18 : decode cX4_payUpTo 18 = .ok (.iload 4, 2) := by decide +kernel
theorem dX4_payUpTo_20 : decode cX4_payUpTo 20 = .ok (.aload_n 0, 1) := by decide +kernel
theorem dX4_payUpTo_21 : decode cX4_payUpTo 21 = .ok (.iload 4, 2) := by decide +kernel
theorem dX4_payUpTo_23 : decode cX4_payUpTo 23 = .ok (.invokevirtual 80, 3) := by decide +kernel
theorem dX4_payUpTo_26 : decode cX4_payUpTo 26 = .ok (.iastore, 1) := by decide +kernel
theorem dX4_payUpTo_27 : decode cX4_payUpTo 27 = .ok (.iinc 4 1, 3) := by decide +kernel
theorem dX4_payUpTo_30 : decode cX4_payUpTo 30 = .ok (.goto (-25), 3) := by decide +kernel
theorem dX4_payUpTo_33 : decode cX4_payUpTo 33 = .ok (.iconst 0, 1) := by decide +kernel
theorem dX4_payUpTo_34 : decode cX4_payUpTo 34 = .ok (.istore 4, 2) := by decide +kernel
theorem dX4_payUpTo_36 : decode cX4_payUpTo 36 = .ok (.iload 4, 2) := by decide +kernel
theorem dX4_payUpTo_38 : decode cX4_payUpTo 38 = .ok (.aload_n 0, 1) := by decide +kernel
theorem dX4_payUpTo_39 : decode cX4_payUpTo 39 = .ok (.getfield 24, 3) := by decide +kernel
theorem dX4_payUpTo_42 : decode cX4_payUpTo 42 = .ok (.if_icmp .ge 106, 3) := by decide +kernel
theorem dX4_payUpTo_45 : decode cX4_payUpTo 45 = .ok (.iload 4, 2) := by decide +kernel
theorem dX4_payUpTo_47 : decode cX4_payUpTo 47 = .ok (.iconst 1, 1) := by decide +kernel
theorem dX4_payUpTo_48 : decode cX4_payUpTo 48 = .ok (.iadd, 1) := by decide +kernel
theorem dX4_payUpTo_49 : decode cX4_payUpTo 49 = .ok (.istore 5, 2) := by decide +kernel
theorem dX4_payUpTo_51 : decode cX4_payUpTo 51 = .ok (.iload 5, 2) := by decide +kernel
theorem dX4_payUpTo_53 : decode cX4_payUpTo 53 = .ok (.aload_n 0, 1) := by decide +kernel
theorem dX4_payUpTo_54 : decode cX4_payUpTo 54 = .ok (.getfield 24, 3) := by decide +kernel
theorem dX4_payUpTo_57 : decode cX4_payUpTo 57 = .ok (.if_icmp .ge 85, 3) := by decide +kernel
theorem dX4_payUpTo_60 : decode cX4_payUpTo 60 = .ok (.iload 4, 2) := by decide +kernel
theorem dX4_payUpTo_62 : decode cX4_payUpTo 62 = .ok (.iload_n 1, 1) := by decide +kernel
theorem dX4_payUpTo_63 : decode cX4_payUpTo 63 = .ok (.if_icmp .ne 11, 3) := by decide +kernel
theorem dX4_payUpTo_66 : decode cX4_payUpTo 66 = .ok (.iload 5, 2) := by decide +kernel
theorem dX4_payUpTo_68 : decode cX4_payUpTo 68 = .ok (.iload_n 2, 1) := by decide +kernel
theorem dX4_payUpTo_69 : decode cX4_payUpTo 69 = .ok (.if_icmp .ne 5, 3) := by decide +kernel
theorem dX4_payUpTo_72 : decode cX4_payUpTo 72 = .ok (.iload_n 3, 1) := by decide +kernel
theorem dX4_payUpTo_73 : decode cX4_payUpTo 73 = .ok (.ireturn, 1) := by decide +kernel
theorem dX4_payUpTo_74 : decode cX4_payUpTo 74 = .ok (.aload_n 0, 1) := by decide +kernel
theorem dX4_payUpTo_75 : decode cX4_payUpTo 75 = .ok (.iload 4, 2) := by decide +kernel
theorem dX4_payUpTo_77 : decode cX4_payUpTo 77 = .ok (.iload 5, 2) := by decide +kernel
theorem dX4_payUpTo_79 : decode cX4_payUpTo 79 = .ok (.invokevirtual 83, 3) := by decide +kernel
theorem dX4_payUpTo_82 : decode cX4_payUpTo 82 = .ok (.ifCond .ne 6, 3) := by decide +kernel
theorem dX4_payUpTo_85 : decode cX4_payUpTo 85 = .ok (.goto 51, 3) := by decide +kernel
theorem dX4_payUpTo_88 : decode cX4_payUpTo 88 = .ok (.aload_n 0, 1) := by decide +kernel
theorem dX4_payUpTo_89 : decode cX4_payUpTo 89 = .ok (.getfield 21, 3) := by decide +kernel
theorem dX4_payUpTo_92 : decode cX4_payUpTo 92 = .ok (.iload 4, 2) := by decide +kernel
theorem dX4_payUpTo_94 : decode cX4_payUpTo 94 = .ok (.iaload, 1) := by decide +kernel
theorem dX4_payUpTo_95 : decode cX4_payUpTo 95 = .ok (.aload_n 0, 1) := by decide +kernel
theorem dX4_payUpTo_96 : decode cX4_payUpTo 96 = .ok (.getfield 21, 3) := by decide +kernel
theorem dX4_payUpTo_99 : decode cX4_payUpTo 99 = .ok (.iload 5, 2) := by decide +kernel
theorem dX4_payUpTo_101 : decode cX4_payUpTo 101 = .ok (.iaload, 1) := by decide +kernel
theorem dX4_payUpTo_102 : decode cX4_payUpTo 102 = .ok (.invokestatic 86, 3) := by decide +kernel
theorem dX4_payUpTo_105 : decode cX4_payUpTo 105 = .ok (.istore 6, 2) := by decide +kernel
theorem dX4_payUpTo_107 : decode cX4_payUpTo 107 = .ok (.aload_n 0, 1) := by decide +kernel
theorem dX4_payUpTo_108 : decode cX4_payUpTo 108 = .ok (.getfield 21, 3) := by decide +kernel
theorem dX4_payUpTo_111 : decode cX4_payUpTo 111 = .ok (.iload 4, 2) := by decide +kernel
theorem dX4_payUpTo_113 : decode cX4_payUpTo 113 = .ok (.dup2, 1) := by decide +kernel
theorem dX4_payUpTo_114 : decode cX4_payUpTo 114 = .ok (.iaload, 1) := by decide +kernel
theorem dX4_payUpTo_115 : decode cX4_payUpTo 115 = .ok (.iload 6, 2) := by decide +kernel
theorem dX4_payUpTo_117 : decode cX4_payUpTo 117 = .ok (.isub, 1) := by decide +kernel
theorem dX4_payUpTo_118 : decode cX4_payUpTo 118 = .ok (.iastore, 1) := by decide +kernel
theorem dX4_payUpTo_119 : decode cX4_payUpTo 119 = .ok (.aload_n 0, 1) := by decide +kernel
theorem dX4_payUpTo_120 : decode cX4_payUpTo 120 = .ok (.getfield 21, 3) := by decide +kernel
theorem dX4_payUpTo_123 : decode cX4_payUpTo 123 = .ok (.iload 5, 2) := by decide +kernel
theorem dX4_payUpTo_125 : decode cX4_payUpTo 125 = .ok (.dup2, 1) := by decide +kernel
theorem dX4_payUpTo_126 : decode cX4_payUpTo 126 = .ok (.iaload, 1) := by decide +kernel
theorem dX4_payUpTo_127 : decode cX4_payUpTo 127 = .ok (.iload 6, 2) := by decide +kernel
theorem dX4_payUpTo_129 : decode cX4_payUpTo 129 = .ok (.isub, 1) := by decide +kernel
theorem dX4_payUpTo_130 : decode cX4_payUpTo 130 = .ok (.iastore, 1) := by decide +kernel
theorem dX4_payUpTo_131 : decode cX4_payUpTo 131 = .ok (.iload_n 3, 1) := by decide +kernel
theorem dX4_payUpTo_132 : decode cX4_payUpTo 132 = .ok (.iload 6, 2) := by decide +kernel
theorem dX4_payUpTo_134 : decode cX4_payUpTo 134 = .ok (.iadd, 1) := by decide +kernel
theorem dX4_payUpTo_135 : decode cX4_payUpTo 135 = .ok (.istore_n 3, 1) := by decide +kernel
theorem dX4_payUpTo_136 : decode cX4_payUpTo 136 = .ok (.iinc 5 1, 3) := by decide +kernel
theorem dX4_payUpTo_139 : decode cX4_payUpTo 139 = .ok (.goto (-88), 3) := by decide +kernel
theorem dX4_payUpTo_142 : decode cX4_payUpTo 142 = .ok (.iinc 4 1, 3) := by decide +kernel
theorem dX4_payUpTo_145 : decode cX4_payUpTo 145 = .ok (.goto (-109), 3) := by decide +kernel
theorem dX4_payUpTo_148 : decode cX4_payUpTo 148 = .ok (.iload_n 3, 1) := by decide +kernel
theorem dX4_payUpTo_149 : decode cX4_payUpTo 149 = .ok (.ireturn, 1) := by decide +kernel
theorem dX4_spent_0 : decode cX4_spent 0 = .ok (.iconst 0, 1) := by decide +kernel
theorem dX4_spent_1 : decode cX4_spent 1 = .ok (.istore_n 1, 1) := by decide +kernel
theorem dX4_spent_2 : decode cX4_spent 2 = .ok (.iconst 0, 1) := by decide +kernel
theorem dX4_spent_3 : decode cX4_spent 3 = .ok (.istore_n 2, 1) := by decide +kernel
theorem dX4_spent_4 : decode cX4_spent 4 = .ok (.iload_n 2, 1) := by decide +kernel
theorem dX4_spent_5 : decode cX4_spent 5 = .ok (.aload_n 0, 1) := by decide +kernel
theorem dX4_spent_6 : decode cX4_spent 6 = .ok (.getfield 24, 3) := by decide +kernel
theorem dX4_spent_9 : decode cX4_spent 9 = .ok (.if_icmp .ge 24, 3) := by decide +kernel
theorem dX4_spent_12 : decode cX4_spent 12 = .ok (.aload_n 0, 1) := by decide +kernel
theorem dX4_spent_13 : decode cX4_spent 13 = .ok (.getfield 21, 3) := by decide +kernel
theorem dX4_spent_16 : decode cX4_spent 16 = .ok (.iload_n 2, 1) := by decide +kernel
theorem dX4_spent_17 : decode cX4_spent 17 = .ok (.iaload, 1) := by decide +kernel
theorem dX4_spent_18 : decode cX4_spent 18 = .ok (.ifCond .ne 9, 3) := by decide +kernel
theorem dX4_spent_21 : decode cX4_spent 21 = .ok (.iload_n 1, 1) := by decide +kernel
theorem dX4_spent_22 : decode cX4_spent 22 = .ok (.iconst 1, 1) := by decide +kernel
theorem dX4_spent_23 : decode cX4_spent 23 = .ok (.iload_n 2, 1) := by decide +kernel
theorem dX4_spent_24 : decode cX4_spent 24 = .ok (.ishl, 1) := by decide +kernel
theorem dX4_spent_25 : decode cX4_spent 25 = .ok (.ior, 1) := by decide +kernel
theorem dX4_spent_26 : decode cX4_spent 26 = .ok (.istore_n 1, 1) := by decide +kernel
theorem dX4_spent_27 : decode cX4_spent 27 = .ok (.iinc 2 1, 3) := by decide +kernel
theorem dX4_spent_30 : decode cX4_spent 30 = .ok (.goto (-26), 3) := by decide +kernel
theorem dX4_spent_33 : decode cX4_spent 33 = .ok (.iload_n 1, 1) := by decide +kernel
theorem dX4_spent_34 : decode cX4_spent 34 = .ok (.ireturn, 1) := by decide +kernel
theorem dX4_mayFollow_0 : decode cX4_mayFollow 0 = .ok (.aload_n 1, 1) := by decide +kernel
theorem dX4_mayFollow_1 : decode cX4_mayFollow 1 = .ok (.iload_n 2, 1) := by decide +kernel
theorem dX4_mayFollow_2 : decode cX4_mayFollow 2 = .ok (.iaload, 1) := by decide +kernel
theorem dX4_mayFollow_3 : decode cX4_mayFollow 3 = .ok (.iconst 0, 1) := by decide +kernel
theorem dX4_mayFollow_4 : decode cX4_mayFollow 4 = .ok (.iconst 2, 1) := by decide +kernel
theorem dX4_mayFollow_5 : decode cX4_mayFollow 5 = .ok (.invokestatic 91, 3) := by decide +kernel
theorem dX4_mayFollow_8 : decode cX4_mayFollow 8 = .ok (.ifCond .ne 5, 3) := by decide +kernel
theorem dX4_mayFollow_11 : decode cX4_mayFollow 11 = .ok (.iconst 0, 1) := by decide +kernel
theorem dX4_mayFollow_12 : decode cX4_mayFollow 12 = .ok (.ireturn, 1) := by decide +kernel
theorem dX4_mayFollow_13 : decode cX4_mayFollow 13 = .ok (.iconst 0, 1) := by decide +kernel
theorem dX4_mayFollow_14 : decode cX4_mayFollow 14 = .ok (.istore_n 3, 1) := by decide +kernel
theorem dX4_mayFollow_15 : decode cX4_mayFollow 15 = .ok (.iload_n 3, 1) := by decide +kernel
theorem dX4_mayFollow_16 : decode cX4_mayFollow 16 = .ok (.iload_n 2, 1) := by decide +kernel
theorem dX4_mayFollow_17 : decode cX4_mayFollow 17 = .ok (.if_icmp .ge 31, 3) := by decide +kernel
theorem dX4_mayFollow_20 : decode cX4_mayFollow 20 = .ok (.aload_n 0, 1) := by decide +kernel
theorem dX4_mayFollow_21 : decode cX4_mayFollow 21 = .ok (.iload_n 3, 1) := by decide +kernel
theorem dX4_mayFollow_22 : decode cX4_mayFollow 22 = .ok (.iload_n 2, 1) := by decide +kernel
theorem dX4_mayFollow_23 : decode cX4_mayFollow 23 = .ok (.invokevirtual 83, 3) := by decide +kernel
theorem dX4_mayFollow_26 : decode cX4_mayFollow 26 = .ok (.ifCond .eq 16, 3) := by decide +kernel
theorem dX4_mayFollow_29 : decode cX4_mayFollow 29 = .ok (.aload_n 1, 1) := by decide +kernel
theorem dX4_mayFollow_30 : decode cX4_mayFollow 30 = .ok (.iload_n 3, 1) := by decide +kernel
theorem dX4_mayFollow_31 : decode cX4_mayFollow 31 = .ok (.iaload, 1) := by decide +kernel
theorem dX4_mayFollow_32 : decode cX4_mayFollow 32 = .ok (.aload_n 1, 1) := by decide +kernel
theorem dX4_mayFollow_33 : decode cX4_mayFollow 33 = .ok (.iload_n 2, 1) := by decide +kernel
theorem dX4_mayFollow_34 : decode cX4_mayFollow 34 = .ok (.iaload, 1) := by decide +kernel
theorem dX4_mayFollow_35 : decode cX4_mayFollow 35 = .ok (.iadd, 1) := by decide +kernel
theorem dX4_mayFollow_36 : decode cX4_mayFollow 36 = .ok (.iconst 2, 1) := by decide +kernel
theorem dX4_mayFollow_37 : decode cX4_mayFollow 37 = .ok (.if_icmp .ge 5, 3) := by decide +kernel
theorem dX4_mayFollow_40 : decode cX4_mayFollow 40 = .ok (.iconst 0, 1) := by decide +kernel
theorem dX4_mayFollow_41 : decode cX4_mayFollow 41 = .ok (.ireturn, 1) := by decide +kernel
theorem dX4_mayFollow_42 : decode cX4_mayFollow 42 = .ok (.iinc 3 1, 3) := by decide +kernel
theorem dX4_mayFollow_45 : decode cX4_mayFollow 45 = .ok (.goto (-30), 3) := by decide +kernel
theorem dX4_mayFollow_48 : decode cX4_mayFollow 48 = .ok (.iconst 1, 1) := by decide +kernel
theorem dX4_mayFollow_49 : decode cX4_mayFollow 49 = .ok (.ireturn, 1) := by decide +kernel
theorem dX4_busiest_0 : decode cX4_busiest 0 = .ok (.iconst (-1), 1) := by decide +kernel
theorem dX4_busiest_1 : decode cX4_busiest 1 = .ok (.istore_n 2, 1) := by decide +kernel
theorem dX4_busiest_2 : decode cX4_busiest 2 = .ok (.iconst 0, 1) := by decide +kernel
theorem dX4_busiest_3 : decode cX4_busiest 3 = .ok (.istore_n 3, 1) := by decide +kernel
theorem dX4_busiest_4 : decode cX4_busiest 4 = .ok (.iconst 0, 1) := by decide +kernel
theorem dX4_busiest_5 : decode cX4_busiest 5 = .ok (.istore 4, 2) := by decide +kernel
theorem dX4_busiest_7 : decode cX4_busiest 7 = .ok (.iload 4, 2) := by decide +kernel
theorem dX4_busiest_9 : decode cX4_busiest 9 = .ok (.bipush 12, 2) := by decide +kernel
theorem dX4_busiest_11 : decode cX4_busiest 11 = .ok (.if_icmp .ge 44, 3) := by decide +kernel
theorem dX4_busiest_14 : decode cX4_busiest 14 = .ok (.iload_n 1, 1) := by decide +kernel
theorem dX4_busiest_15 : decode cX4_busiest 15 = .ok (.iload 4, 2) := by decide +kernel
theorem dX4_busiest_17 : decode cX4_busiest 17 = .ok (.ishr, 1) := by decide +kernel
theorem dX4_busiest_18 : decode cX4_busiest 18 = .ok (.iconst 1, 1) := by decide +kernel
theorem dX4_busiest_19 : decode cX4_busiest 19 = .ok (.iand, 1) := by decide +kernel
theorem dX4_busiest_20 : decode cX4_busiest 20 = .ok (.ifCond .ne 6, 3) := by decide +kernel
theorem dX4_busiest_23 : decode cX4_busiest 23 = .ok (.goto 26, 3) := by decide +kernel
theorem dX4_busiest_26 : decode cX4_busiest 26 = .ok (.aload_n 0, 1) := by decide +kernel
theorem dX4_busiest_27 : decode cX4_busiest 27 = .ok (.iload 4, 2) := by decide +kernel
theorem dX4_busiest_29 : decode cX4_busiest 29 = .ok (.iaload, 1) := by decide +kernel
theorem dX4_busiest_30 : decode cX4_busiest 30 = .ok (.iload_n 1, 1) := by decide +kernel
theorem dX4_busiest_31 : decode cX4_busiest 31 = .ok (.iand, 1) := by decide +kernel
theorem dX4_busiest_32 : decode cX4_busiest 32 = .ok (.invokestatic 68, 3) := by decide +kernel
theorem dX4_busiest_35 : decode cX4_busiest 35 = .ok (.istore 5, 2) := by decide +kernel
theorem dX4_busiest_37 : decode cX4_busiest 37 = .ok (.iload 5, 2) := by decide +kernel
theorem dX4_busiest_39 : decode cX4_busiest 39 = .ok (.iload_n 3, 1) := by decide +kernel
theorem dX4_busiest_40 : decode cX4_busiest 40 = .ok (.if_icmp .le 9, 3) := by decide +kernel
theorem dX4_busiest_43 : decode cX4_busiest 43 = .ok (.iload 5, 2) := by decide +kernel
theorem dX4_busiest_45 : decode cX4_busiest 45 = .ok (.istore_n 3, 1) := by decide +kernel
theorem dX4_busiest_46 : decode cX4_busiest 46 = .ok (.iload 4, 2) := by decide +kernel
theorem dX4_busiest_48 : decode cX4_busiest 48 = .ok (.istore_n 2, 1) := by decide +kernel
theorem dX4_busiest_49 : decode cX4_busiest 49 = .ok (.iinc 4 1, 3) := by decide +kernel
theorem dX4_busiest_52 : decode cX4_busiest 52 = .ok (.goto (-45), 3) := by decide +kernel
theorem dX4_busiest_55 : decode cX4_busiest 55 = .ok (.iload_n 2, 1) := by decide +kernel
theorem dX4_busiest_56 : decode cX4_busiest 56 = .ok (.ireturn, 1) := by decide +kernel
theorem dX5_init_0 : decode cX5_init 0 = .ok (.aload_n 0, 1) := by decide +kernel
theorem dX5_init_1 : decode cX5_init 1 = .ok (.invokespecial 3, 3) := by decide +kernel
theorem dX5_init_4 : decode cX5_init 4 = .ok (.aload_n 0, 1) := by decide +kernel
theorem dX5_init_5 : decode cX5_init 5 = .ok (.iconst 0, 1) := by decide +kernel
theorem dX5_init_6 : decode cX5_init 6 = .ok (.putfield 9, 3) := by decide +kernel
theorem dX5_init_9 : decode cX5_init 9 = .ok (.aload_n 0, 1) := by decide +kernel
theorem dX5_init_10 : decode cX5_init 10 = .ok (.iconst 0, 1) := by decide +kernel
theorem dX5_init_11 : decode cX5_init 11 = .ok (.putfield 15, 3) := by decide +kernel
theorem dX5_init_14 : decode cX5_init 14 = .ok (.aload_n 0, 1) := by decide +kernel
theorem dX5_init_15 : decode cX5_init 15 = .ok (.aload_n 1, 1) := by decide +kernel
theorem dX5_init_16 : decode cX5_init 16 = .ok (.putfield 18, 3) := by decide +kernel
theorem dX5_init_19 : decode cX5_init 19 = .ok (.return_, 1) := by decide +kernel
theorem dX5_findBest_0 : decode cX5_findBest 0 = .ok (.aload_n 1, 1) := by decide +kernel
theorem dX5_findBest_1 : decode cX5_findBest 1 = .ok (.invokevirtual 22, 3) := by decide +kernel
theorem dX5_findBest_4 : decode cX5_findBest 4 = .ok (.istore_n 2, 1) := by decide +kernel
theorem dX5_findBest_5 : decode cX5_findBest 5 = .ok (.aload_n 0, 1) := by decide +kernel
theorem dX5_findBest_6 : decode cX5_findBest 6 = .ok (.getfield 18, 3) := by decide +kernel
theorem dX5_findBest_9 : decode cX5_findBest 9 = .ok (.iconst 0, 1) := by decide +kernel
theorem dX5_findBest_10 : decode cX5_findBest 10 = .ok (.iconst 0, 1) := by decide +kernel
theorem dX5_findBest_11 : decode cX5_findBest 11 = .ok (.iastore, 1) := by decide +kernel
theorem dX5_findBest_12 : decode cX5_findBest 12 = .ok (.iconst 1, 1) := by decide +kernel
theorem dX5_findBest_13 : decode cX5_findBest 13 = .ok (.istore_n 3, 1) := by decide +kernel
theorem dX5_findBest_14 : decode cX5_findBest 14 = .ok (.iload_n 3, 1) := by decide +kernel
theorem dX5_findBest_15 : decode cX5_findBest 15 = .ok (.iload_n 2, 1) := by decide +kernel
theorem dX5_findBest_16 : decode cX5_findBest 16 = .ok (.if_icmp .gt 24, 3) := by decide +kernel
theorem dX5_findBest_19 : decode cX5_findBest 19 = .ok (.aload_n 0, 1) := by decide +kernel
theorem dX5_findBest_20 : decode cX5_findBest 20 = .ok (.getfield 18, 3) := by decide +kernel
theorem dX5_findBest_23 : decode cX5_findBest 23 = .ok (.iload_n 3, 1) := by decide +kernel
theorem dX5_findBest_24 : decode cX5_findBest 24 = .ok (.aload_n 0, 1) := by decide +kernel
theorem dX5_findBest_25 : decode cX5_findBest 25 = .ok (.aload_n 1, 1) := by decide +kernel
theorem dX5_findBest_26 : decode cX5_findBest 26 = .ok (.getfield 28, 3) := by decide +kernel
theorem dX5_findBest_29 : decode cX5_findBest 29 = .ok (.iload_n 3, 1) := by decide +kernel
theorem dX5_findBest_30 : decode cX5_findBest 30 = .ok (.invokevirtual 31, 3) := by decide +kernel
theorem dX5_findBest_33 : decode cX5_findBest 33 = .ok (.iastore, 1) := by decide +kernel
theorem dX5_findBest_34 : decode cX5_findBest 34 = .ok (.iinc 3 1, 3) := by decide +kernel
theorem dX5_findBest_37 : decode cX5_findBest 37 = .ok (.goto (-23), 3) := by decide +kernel
theorem dX5_findBest_40 : decode cX5_findBest 40 = .ok (.aload_n 0, 1) := by decide +kernel
theorem dX5_findBest_41 : decode cX5_findBest 41 = .ok (.aload_n 0, 1) := by decide +kernel
theorem dX5_findBest_42 : decode cX5_findBest 42 = .ok (.getfield 18, 3) := by decide +kernel
theorem dX5_findBest_45 : decode cX5_findBest 45 = .ok (.iload_n 2, 1) := by decide +kernel
theorem dX5_findBest_46 : decode cX5_findBest 46 = .ok (.iaload, 1) := by decide +kernel
theorem dX5_findBest_47 : decode cX5_findBest 47 = .ok (.bipush 16, 2) := by decide +kernel
theorem dX5_findBest_49 : decode cX5_findBest 49 = .ok (.iadd, 1) := by decide +kernel
theorem dX5_findBest_50 : decode cX5_findBest 50 = .ok (.iconst 1, 1) := by decide +kernel
theorem dX5_findBest_51 : decode cX5_findBest 51 = .ok (.isub, 1) := by decide +kernel
theorem dX5_findBest_52 : decode cX5_findBest 52 = .ok (.bipush 16, 2) := by decide +kernel
theorem dX5_findBest_54 : decode cX5_findBest 54 = .ok (.idiv, 1) := by decide +kernel
theorem dX5_findBest_55 : decode cX5_findBest 55 = .ok (.putfield 9, 3) := by decide +kernel
theorem dX5_findBest_58 : decode cX5_findBest 58 = .ok (.aload_n 0, 1) := by decide +kernel
theorem dX5_findBest_59 : decode cX5_findBest 59 = .ok (.aload_n 0, 1) := by decide +kernel
theorem dX5_findBest_60 : decode cX5_findBest 60 = .ok (.getfield 9, 3) := by decide +kernel
theorem dX5_findBest_63 : decode cX5_findBest 63 = .ok (.bipush 16, 2) := by decide +kernel
theorem dX5_findBest_65 : decode cX5_findBest 65 = .ok (.imul, 1) := by decide +kernel
theorem dX5_findBest_66 : decode cX5_findBest 66 = .ok (.aload_n 0, 1) := by decide +kernel
theorem dX5_findBest_67 : decode cX5_findBest 67 = .ok (.getfield 18, 3) := by decide +kernel
theorem dX5_findBest_70 : decode cX5_findBest 70 = .ok (.iload_n 2, 1) := by decide +kernel
theorem dX5_findBest_71 : decode cX5_findBest 71 = .ok (.iaload, 1) := by decide +kernel
theorem dX5_findBest_72 : decode cX5_findBest 72 = .ok (.isub, 1) := by decide +kernel
theorem dX5_findBest_73 : decode cX5_findBest 73 = .ok (.putfield 15, 3) := by decide +kernel
theorem dX5_findBest_76 : decode cX5_findBest 76 = .ok (.return_, 1) := by decide +kernel
theorem dX5_bestOf_0 : decode cX5_bestOf 0 = .ok (.iload_n 2, 1) := by decide +kernel
theorem dX5_bestOf_1 : decode cX5_bestOf 1 = .ok (.iload_n 2, 1) := by decide +kernel
theorem dX5_bestOf_2 : decode cX5_bestOf 2 = .ok (.iconst 1, 1) := by decide +kernel
theorem dX5_bestOf_3 : decode cX5_bestOf 3 = .ok (.isub, 1) := by decide +kernel
theorem dX5_bestOf_4 : decode cX5_bestOf 4 = .ok (.iand, 1) := by decide +kernel
theorem dX5_bestOf_5 : decode cX5_bestOf 5 = .ok (.istore_n 3, 1) := by decide +kernel
theorem dX5_bestOf_6 : decode cX5_bestOf 6 = .ok (.aload_n 1, 1) := by decide +kernel
theorem dX5_bestOf_7 : decode cX5_bestOf 7 = .ok (.iload_n 2, 1) := by decide +kernel
theorem dX5_bestOf_8 : decode cX5_bestOf 8 = .ok (.invokestatic 35, 3) := by decide +kernel
theorem dX5_bestOf_11 : decode cX5_bestOf 11 = .ok (.iaload, 1) := by decide +kernel
theorem dX5_bestOf_12 : decode cX5_bestOf 12 = .ok (.iload_n 3, 1) := by decide +kernel
theorem dX5_bestOf_13 : decode cX5_bestOf 13 = .ok (.iand, 1) := by decide +kernel
theorem dX5_bestOf_14 : decode cX5_bestOf 14 = .ok (.istore 4, 2) := by decide +kernel
theorem dX5_bestOf_16 : decode cX5_bestOf 16 = .ok (.aload_n 0, 1) := by decide +kernel
theorem dX5_bestOf_17 : decode cX5_bestOf 17 = .ok (.getfield 18, 3) := by decide +kernel
theorem dX5_bestOf_20 : decode cX5_bestOf 20 = .ok (.iload_n 3, 1) := by decide +kernel
theorem dX5_bestOf_21 : decode cX5_bestOf 21 = .ok (.iaload, 1) := by decide +kernel
theorem dX5_bestOf_22 : decode cX5_bestOf 22 = .ok (.istore 5, 2) := by decide +kernel
theorem dX5_bestOf_24 : decode cX5_bestOf 24 = .ok (.iconst 0, 1) := by decide +kernel
theorem dX5_bestOf_25 : decode cX5_bestOf 25 = .ok (.istore 6, 2) := by decide +kernel
theorem dX5_bestOf_27 : decode cX5_bestOf 27 = .ok (.iload 6, 2) := by decide +kernel
theorem dX5_bestOf_29 : decode cX5_bestOf 29 = .ok (.bipush 12, 2) := by decide +kernel
theorem dX5_bestOf_31 : decode cX5_bestOf 31 = .ok (.if_icmp .ge 131, 3) := by decide +kernel
theorem dX5_bestOf_34 : decode cX5_bestOf 34 = .ok (.iload 4, 2) := by decide +kernel
theorem dX5_bestOf_36 : decode cX5_bestOf 36 = .ok (.iload 6, 2) := by decide +kernel
theorem dX5_bestOf_38 : decode cX5_bestOf 38 = .ok (.ishr, 1) := by decide +kernel
theorem dX5_bestOf_39 : decode cX5_bestOf 39 = .ok (.iconst 1, 1) := by decide +kernel
theorem dX5_bestOf_40 : decode cX5_bestOf 40 = .ok (.iand, 1) := by decide +kernel
theorem dX5_bestOf_41 : decode cX5_bestOf 41 = .ok (.ifCond .ne 6, 3) := by decide +kernel
theorem dX5_bestOf_44 : decode cX5_bestOf 44 = .ok (.goto 112, 3) := by decide +kernel
theorem dX5_bestOf_47 : decode cX5_bestOf 47 = .ok (.iload_n 3, 1) := by decide +kernel
theorem dX5_bestOf_48 : decode cX5_bestOf 48 = .ok (.iconst 1, 1) := by decide +kernel
theorem dX5_bestOf_49 : decode cX5_bestOf 49 = .ok (.iload 6, 2) := by decide +kernel
theorem dX5_bestOf_51 : decode cX5_bestOf 51 = .ok (.ishl, 1) := by decide +kernel
theorem dX5_bestOf_52 : decode cX5_bestOf 52 = .ok (.iconst (-1), 1) := by decide +kernel
theorem dX5_bestOf_53 : decode cX5_bestOf 53 = .ok (.ixor, 1) := by decide +kernel
theorem dX5_bestOf_54 : decode cX5_bestOf 54 = .ok (.iand, 1) := by decide +kernel
theorem dX5_bestOf_55 : decode cX5_bestOf 55 = .ok (.istore 7, 2) := by decide +kernel
theorem dX5_bestOf_57 : decode cX5_bestOf 57 = .ok (.iload 5, 2) := by decide +kernel
theorem dX5_bestOf_59 : decode cX5_bestOf 59 = .ok (.aload_n 0, 1) := by decide +kernel
theorem dX5_bestOf_60 : decode cX5_bestOf 60 = .ok (.getfield 18, 3) := by decide +kernel
theorem dX5_bestOf_63 : decode cX5_bestOf 63 = .ok (.iload 7, 2) := by decide +kernel
theorem dX5_bestOf_65 : decode cX5_bestOf 65 = .ok (.iaload, 1) := by decide +kernel
theorem dX5_bestOf_66 : decode cX5_bestOf 66 = .ok (.bipush 16, 2) := by decide +kernel
theorem dX5_bestOf_68 : decode cX5_bestOf 68 = .ok (.iadd, 1) := by decide +kernel
theorem dX5_bestOf_69 : decode cX5_bestOf 69 = .ok (.iconst 1, 1) := by decide +kernel
theorem dX5_bestOf_70 : decode cX5_bestOf 70 = .ok (.isub, 1) := by decide +kernel
theorem dX5_bestOf_71 : decode cX5_bestOf 71 = .ok (.invokestatic 41, 3) := by decide +kernel
theorem dX5_bestOf_74 : decode cX5_bestOf 74 = .ok (.istore 5, 2) := by decide +kernel
theorem dX5_bestOf_76 : decode cX5_bestOf 76 = .ok (.iload 4, 2) := by decide +kernel
theorem dX5_bestOf_78 : decode cX5_bestOf 78 = .ok (.aload_n 1, 1) := by decide +kernel
theorem dX5_bestOf_79 : decode cX5_bestOf 79 = .ok (.iload 6, 2) := by decide +kernel
theorem dX5_bestOf_81 : decode cX5_bestOf 81 = .ok (.iaload, 1) := by decide +kernel
theorem dX5_bestOf_82 : decode cX5_bestOf 82 = .ok (.iand, 1) := by decide +kernel
theorem dX5_bestOf_83 : decode cX5_bestOf 83 = .ok (.iconst (-1), 1) := by decide +kernel
theorem dX5_bestOf_84 : decode cX5_bestOf 84 = .ok (.iload 6, 2) := by decide +kernel
theorem dX5_bestOf_86 : decode cX5_bestOf 86 = .ok (.ishl, 1) := by decide +kernel
theorem dX5_bestOf_87 : decode cX5_bestOf 87 = .ok (.iand, 1) := by decide +kernel
theorem dX5_bestOf_88 : decode cX5_bestOf 88 = .ok (.istore 8, 2) := by decide +kernel
theorem dX5_bestOf_90 : decode cX5_bestOf 90 = .ok (.iload 6, 2) := by decide +kernel
theorem dX5_bestOf_92 : decode cX5_bestOf 92 = .ok (.iconst 1, 1) := by decide +kernel
theorem dX5_bestOf_93 : decode cX5_bestOf 93 = .ok (.iadd, 1) := by decide +kernel
theorem dX5_bestOf_94 : decode cX5_bestOf 94 = .ok (.istore 9, 2) := by decide +kernel
theorem dX5_bestOf_96 : decode cX5_bestOf 96 = .ok (.iload 9, 2) := by decide +kernel
theorem dX5_bestOf_98 : decode cX5_bestOf 98 = .ok (.bipush 12, 2) := by decide +kernel
theorem dX5_bestOf_100 : decode cX5_bestOf 100 = .ok (.if_icmp .ge 56, 3) := by decide +kernel
theorem dX5_bestOf_103 : decode cX5_bestOf 103 = .ok (.iload 8, 2) := by decide +kernel
theorem dX5_bestOf_105 : decode cX5_bestOf 105 = .ok (.iload 9, 2) := by decide +kernel
theorem dX5_bestOf_107 : decode cX5_bestOf 107 = .ok (.ishr, 1) := by decide +kernel
theorem dX5_bestOf_108 : decode cX5_bestOf 108 = .ok (.ifCond .eq 48, 3) := by decide +kernel
theorem dX5_bestOf_111 : decode cX5_bestOf 111 = .ok (.iload 8, 2) := by decide +kernel
theorem dX5_bestOf_113 : decode cX5_bestOf 113 = .ok (.iload 9, 2) := by decide +kernel
theorem dX5_bestOf_115 : decode cX5_bestOf 115 = .ok (.ishr, 1) := by decide +kernel
theorem dX5_bestOf_116 : decode cX5_bestOf 116 = .ok (.iconst 1, 1) := by decide +kernel
theorem dX5_bestOf_117 : decode cX5_bestOf 117 = .ok (.iand, 1) := by decide +kernel
theorem dX5_bestOf_118 : decode cX5_bestOf 118 = .ok (.ifCond .ne 6, 3) := by decide +kernel
theorem dX5_bestOf_121 : decode cX5_bestOf 121 = .ok (.goto 29, 3) := by decide +kernel
theorem dX5_bestOf_124 : decode cX5_bestOf 124 = .ok (.iload 5, 2) := by decide +kernel
theorem dX5_bestOf_126 : decode cX5_bestOf 126 = .ok (.aload_n 0, 1) := by decide +kernel
theorem dX5_bestOf_127 : decode cX5_bestOf 127 = .ok (.getfield 18, 3) := by decide +kernel
theorem dX5_bestOf_130 : decode cX5_bestOf 130 = .ok (.iload 7, 2) := by decide +kernel
theorem dX5_bestOf_132 : decode cX5_bestOf 132 = .ok (.iconst 1, 1) := by decide +kernel
theorem dX5_bestOf_133 : decode cX5_bestOf 133 = .ok (.iload 9, 2) := by decide +kernel
theorem dX5_bestOf_135 : decode cX5_bestOf 135 = .ok (.ishl, 1) := by decide +kernel
theorem dX5_bestOf_136 : decode cX5_bestOf 136 = .ok (.iconst (-1), 1) := by decide +kernel
theorem dX5_bestOf_137 : decode cX5_bestOf 137 = .ok (.ixor, 1) := by decide +kernel
theorem dX5_bestOf_138 : decode cX5_bestOf 138 = .ok (.iand, 1) := by decide +kernel
theorem dX5_bestOf_139 : decode cX5_bestOf 139 = .ok (.iaload, 1) := by decide +kernel
theorem dX5_bestOf_140 : decode cX5_bestOf 140 = .ok (.bipush 32, 2) := by decide +kernel
theorem dX5_bestOf_142 : decode cX5_bestOf 142 = .ok (.iadd, 1) := by decide +kernel
theorem dX5_bestOf_143 : decode cX5_bestOf 143 = .ok (.iconst 1, 1) := by decide +kernel
theorem dX5_bestOf_144 : decode cX5_bestOf 144 = .ok (.isub, 1) := by decide +kernel
theorem dX5_bestOf_145 : decode cX5_bestOf 145 = .ok (.invokestatic 41, 3) := by decide +kernel
theorem dX5_bestOf_148 : decode cX5_bestOf 148 = .ok (.istore 5, 2) := by decide +kernel
theorem dX5_bestOf_150 : decode cX5_bestOf 150 = .ok (.iinc 9 1, 3) := by decide +kernel
theorem dX5_bestOf_153 : decode cX5_bestOf 153 = .ok (.goto (-57), 3) := by decide +kernel
theorem dX5_bestOf_156 : decode cX5_bestOf 156 = .ok (.iinc 6 1, 3) := by decide +kernel
theorem dX5_bestOf_159 : decode cX5_bestOf 159 = .ok (.goto (-132), 3) := by decide +kernel
theorem dX5_bestOf_162 : decode cX5_bestOf 162 = .ok (.iload 5, 2) := by decide +kernel
theorem dX5_bestOf_164 : decode cX5_bestOf 164 = .ok (.ireturn, 1) := by decide +kernel
theorem dX5_canHold_0 : decode cX5_canHold 0 = .ok (.aload_n 1, 1) := by decide +kernel
theorem dX5_canHold_1 : decode cX5_canHold 1 = .ok (.iload_n 2, 1) := by decide +kernel
theorem dX5_canHold_2 : decode cX5_canHold 2 = .ok (.invokevirtual 47, 3) := by decide +kernel
theorem dX5_canHold_5 : decode cX5_canHold 5 = .ok (.ifCond .eq 15, 3) := by decide +kernel
theorem dX5_canHold_8 : decode cX5_canHold 8 = .ok (.iload_n 2, 1) := by decide +kernel
theorem dX5_canHold_9 : decode cX5_canHold 9 = .ok (.invokestatic 51, 3) := by decide +kernel
theorem dX5_canHold_12 : decode cX5_canHold 12 = .ok (.iconst 2, 1) := by decide +kernel
theorem dX5_canHold_13 : decode cX5_canHold 13 = .ok (.iconst 3, 1) := by decide +kernel
theorem dX5_canHold_14 : decode cX5_canHold 14 = .ok (.invokestatic 54, 3) := by decide +kernel
theorem dX5_canHold_17 : decode cX5_canHold 17 = .ok (.ifCond .ne 5, 3) := by decide +kernel
theorem dX5_canHold_20 : decode cX5_canHold 20 = .ok (.iconst 0, 1) := by decide +kernel
theorem dX5_canHold_21 : decode cX5_canHold 21 = .ok (.ireturn, 1) := by decide +kernel
theorem dX5_canHold_22 : decode cX5_canHold 22 = .ok (.iconst 0, 1) := by decide +kernel
theorem dX5_canHold_23 : decode cX5_canHold 23 = .ok (.istore_n 3, 1) := by decide +kernel
theorem dX5_canHold_24 : decode cX5_canHold 24 = .ok (.iload_n 3, 1) := by decide +kernel
theorem dX5_canHold_25 : decode cX5_canHold 25 = .ok (.aload_n 1, 1) := by decide +kernel
theorem dX5_canHold_26 : decode cX5_canHold 26 = .ok (.getfield 58, 3) := by decide +kernel
theorem dX5_canHold_29 : decode cX5_canHold 29 = .ok (.if_icmp .ge 38, 3) := by decide +kernel
theorem dX5_canHold_32 : decode cX5_canHold 32 = .ok (.iload_n 2, 1) := by decide +kernel
theorem dX5_canHold_33 : decode cX5_canHold 33 = .ok (.iload_n 3, 1) := by decide +kernel
theorem dX5_canHold_34 : decode cX5_canHold 34 = .ok (.ishr, 1) := by decide +kernel
theorem dX5_canHold_35 : decode cX5_canHold 35 = .ok (.iconst 1, 1) := by decide +kernel
theorem dX5_canHold_36 : decode cX5_canHold 36 = .ok (.iand, 1) := by decide +kernel
theorem dX5_canHold_37 : decode cX5_canHold 37 = .ok (.ifCond .eq 24, 3) := by decide +kernel
theorem dX5_canHold_40 : decode cX5_canHold 40 = .ok (.iload_n 2, 1) := by decide +kernel
theorem dX5_canHold_41 : decode cX5_canHold 41 = .ok (.iconst 1, 1) := by decide +kernel
theorem dX5_canHold_42 : decode cX5_canHold 42 = .ok (.iload_n 3, 1) := by decide +kernel
theorem dX5_canHold_43 : decode cX5_canHold 43 = .ok (.ishl, 1) := by decide +kernel
theorem dX5_canHold_44 : decode cX5_canHold 44 = .ok (.iconst (-1), 1) := by decide +kernel
theorem dX5_canHold_45 : decode cX5_canHold 45 = .ok (.ixor, 1) := by decide +kernel
theorem dX5_canHold_46 : decode cX5_canHold 46 = .ok (.iand, 1) := by decide +kernel
theorem dX5_canHold_47 : decode cX5_canHold 47 = .ok (.aload_n 1, 1) := by decide +kernel
theorem dX5_canHold_48 : decode cX5_canHold 48 = .ok (.getfield 28, 3) := by decide +kernel
theorem dX5_canHold_51 : decode cX5_canHold 51 = .ok (.iload_n 3, 1) := by decide +kernel
theorem dX5_canHold_52 : decode cX5_canHold 52 = .ok (.iaload, 1) := by decide +kernel
theorem dX5_canHold_53 : decode cX5_canHold 53 = .ok (.iconst (-1), 1) := by decide +kernel
theorem dX5_canHold_54 : decode cX5_canHold 54 = .ok (.ixor, 1) := by decide +kernel
theorem dX5_canHold_55 : decode cX5_canHold 55 = .ok (.iand, 1) := by decide +kernel
theorem dX5_canHold_56 : decode cX5_canHold 56 = .ok (.ifCond .eq 5, 3) := by decide +kernel
theorem dX5_canHold_59 : decode cX5_canHold 59 = .ok (.iconst 0, 1) := by decide +kernel
theorem dX5_canHold_60 : decode cX5_canHold 60 = .ok (.ireturn, 1) := by decide +kernel
theorem dX5_canHold_61 : decode cX5_canHold 61 = .ok (.iinc 3 1, 3) := by decide +kernel
theorem dX5_canHold_64 : decode cX5_canHold 64 = .ok (.goto (-40), 3) := by decide +kernel
theorem dX5_canHold_67 : decode cX5_canHold 67 = .ok (.iconst 1, 1) := by decide +kernel
theorem dX5_canHold_68 : decode cX5_canHold 68 = .ok (.ireturn, 1) := by decide +kernel
theorem dX6_init_0 : decode cX6_init 0 = .ok (.aload_n 0, 1) := by decide +kernel
theorem dX6_init_1 : decode cX6_init 1 = .ok (.invokespecial 3, 3) := by decide +kernel
theorem dX6_init_4 : decode cX6_init 4 = .ok (.aload_n 0, 1) := by decide +kernel
theorem dX6_init_5 : decode cX6_init 5 = .ok (.new 9, 3) := by decide +kernel
theorem dX6_init_8 : decode cX6_init 8 = .ok (.dup, 1) := by decide +kernel
theorem dX6_init_9 : decode cX6_init 9 = .ok (.invokespecial 11, 3) := by decide +kernel
theorem dX6_init_12 : decode cX6_init 12 = .ok (.putfield 12, 3) := by decide +kernel
theorem dX6_init_15 : decode cX6_init 15 = .ok (.aload_n 0, 1) := by decide +kernel
theorem dX6_init_16 : decode cX6_init 16 = .ok (.bipush 60, 2) := by decide +kernel
theorem dX6_init_18 : decode cX6_init 18 = .ok (.newarray .int, 2) := by decide +kernel
theorem dX6_init_20 : decode cX6_init 20 = .ok (.putfield 18, 3) := by decide +kernel
theorem dX6_init_23 : decode cX6_init 23 = .ok (.aload_n 0, 1) := by decide +kernel
theorem dX6_init_24 : decode cX6_init 24 = .ok (.iconst 0, 1) := by decide +kernel
theorem dX6_init_25 : decode cX6_init 25 = .ok (.putfield 22, 3) := by decide +kernel
theorem dX6_init_28 : decode cX6_init 28 = .ok (.aload_n 0, 1) := by decide +kernel
theorem dX6_init_29 : decode cX6_init 29 = .ok (.iconst 0, 1) := by decide +kernel
theorem dX6_init_30 : decode cX6_init 30 = .ok (.putfield 26, 3) := by decide +kernel
theorem dX6_init_33 : decode cX6_init 33 = .ok (.aload_n 0, 1) := by decide +kernel
theorem dX6_init_34 : decode cX6_init 34 = .ok (.iconst 0, 1) := by decide +kernel
theorem dX6_init_35 : decode cX6_init 35 = .ok (.putfield 29, 3) := by decide +kernel
theorem dX6_init_38 : decode cX6_init 38 = .ok (.aload_n 0, 1) := by decide +kernel
theorem dX6_init_39 : decode cX6_init 39 = .ok (.iconst 0, 1) := by decide +kernel
theorem dX6_init_40 : decode cX6_init 40 = .ok (.putfield 32, 3) := by decide +kernel
theorem dX6_init_43 : decode cX6_init 43 = .ok (.aload_n 0, 1) := by decide +kernel
theorem dX6_init_44 : decode cX6_init 44 = .ok (.iconst 0, 1) := by decide +kernel
theorem dX6_init_45 : decode cX6_init 45 = .ok (.putfield 35, 3) := by decide +kernel
theorem dX6_init_48 : decode cX6_init 48 = .ok (.aload_n 0, 1) := by decide +kernel
theorem dX6_init_49 : decode cX6_init 49 = .ok (.iconst (-1), 1) := by decide +kernel
theorem dX6_init_50 : decode cX6_init 50 = .ok (.putfield 39, 3) := by decide +kernel
theorem dX6_init_53 : decode cX6_init 53 = .ok (.aload_n 0, 1) := by decide +kernel
theorem dX6_init_54 : decode cX6_init 54 = .ok (.iconst (-1), 1) := by decide +kernel
theorem dX6_init_55 : decode cX6_init 55 = .ok (.putfield 42, 3) := by decide +kernel
theorem dX6_init_58 : decode cX6_init 58 = .ok (.aload_n 0, 1) := by decide +kernel
theorem dX6_init_59 : decode cX6_init 59 = .ok (.iconst 0, 1) := by decide +kernel
theorem dX6_init_60 : decode cX6_init 60 = .ok (.putfield 45, 3) := by decide +kernel
theorem dX6_init_63 : decode cX6_init 63 = .ok (.aload_n 0, 1) := by decide +kernel
theorem dX6_init_64 : decode cX6_init 64 = .ok (.iconst 0, 1) := by decide +kernel
theorem dX6_init_65 : decode cX6_init 65 = .ok (.putfield 48, 3) := by decide +kernel
theorem dX6_init_68 : decode cX6_init 68 = .ok (.aload_n 0, 1) := by decide +kernel
theorem dX6_init_69 : decode cX6_init 69 = .ok (.iconst 0, 1) := by decide +kernel
theorem dX6_init_70 : decode cX6_init 70 = .ok (.putfield 51, 3) := by decide +kernel
theorem dX6_init_73 : decode cX6_init 73 = .ok (.aload_n 0, 1) := by decide +kernel
theorem dX6_init_74 : decode cX6_init 74 = .ok (.iconst 0, 1) := by decide +kernel
theorem dX6_init_75 : decode cX6_init 75 = .ok (.putfield 54, 3) := by decide +kernel
theorem dX6_init_78 : decode cX6_init 78 = .ok (.aload_n 0, 1) := by decide +kernel
theorem dX6_init_79 : decode cX6_init 79 = .ok (.iconst 0, 1) := by decide +kernel
theorem dX6_init_80 : decode cX6_init 80 = .ok (.putfield 57, 3) := by decide +kernel
theorem dX6_init_83 : decode cX6_init 83 = .ok (.return_, 1) := by decide +kernel
theorem dX6_run_0 : decode cX6_run 0 = .ok (.aload_n 0, 1) := by decide +kernel
theorem dX6_run_1 : decode cX6_run 1 = .ok (.iconst 0, 1) := by decide +kernel
theorem dX6_run_2 : decode cX6_run 2 = .ok (.putfield 22, 3) := by decide +kernel
theorem dX6_run_5 : decode cX6_run 5 = .ok (.aload_n 0, 1) := by decide +kernel
theorem dX6_run_6 : decode cX6_run 6 = .ok (.iconst 0, 1) := by decide +kernel
theorem dX6_run_7 : decode cX6_run 7 = .ok (.putfield 26, 3) := by decide +kernel
theorem dX6_run_10 : decode cX6_run 10 = .ok (.aload_n 0, 1) := by decide +kernel
theorem dX6_run_11 : decode cX6_run 11 = .ok (.iconst 0, 1) := by decide +kernel
theorem dX6_run_12 : decode cX6_run 12 = .ok (.putfield 29, 3) := by decide +kernel
theorem dX6_run_15 : decode cX6_run 15 = .ok (.aload_n 0, 1) := by decide +kernel
theorem dX6_run_16 : decode cX6_run 16 = .ok (.iconst 0, 1) := by decide +kernel
theorem dX6_run_17 : decode cX6_run 17 = .ok (.putfield 32, 3) := by decide +kernel
theorem dX6_run_20 : decode cX6_run 20 = .ok (.aload_n 0, 1) := by decide +kernel
theorem dX6_run_21 : decode cX6_run 21 = .ok (.iconst 0, 1) := by decide +kernel
theorem dX6_run_22 : decode cX6_run 22 = .ok (.putfield 35, 3) := by decide +kernel
theorem dX6_run_25 : decode cX6_run 25 = .ok (.aload_n 0, 1) := by decide +kernel
theorem dX6_run_26 : decode cX6_run 26 = .ok (.iload_n 3, 1) := by decide +kernel
theorem dX6_run_27 : decode cX6_run 27 = .ok (.putfield 39, 3) := by decide +kernel
theorem dX6_run_30 : decode cX6_run 30 = .ok (.aload_n 0, 1) := by decide +kernel
theorem dX6_run_31 : decode cX6_run 31 = .ok (.aload_n 1, 1) := by decide +kernel
theorem dX6_run_32 : decode cX6_run 32 = .ok (.getfield 60, 3) := by decide +kernel
theorem dX6_run_35 : decode cX6_run 35 = .ok (.aload_n 1, 1) := by decide +kernel
theorem dX6_run_36 : decode cX6_run 36 = .ok (.invokevirtual 65, 3) := by decide +kernel
theorem dX6_run_39 : decode cX6_run 39 = .ok (.iconst 0, 1) := by decide +kernel
theorem dX6_run_40 : decode cX6_run 40 = .ok (.iload_n 2, 1) := by decide +kernel
theorem dX6_run_41 : decode cX6_run 41 = .ok (.iconst 0, 1) := by decide +kernel
theorem dX6_run_42 : decode cX6_run 42 = .ok (.invokevirtual 69, 3) := by decide +kernel
theorem dX6_run_45 : decode cX6_run 45 = .ok (.return_, 1) := by decide +kernel
theorem dX6_begins_0 : decode cX6_begins 0 = .ok (.aload_n 0, 1) := by decide +kernel
theorem dX6_begins_1 : decode cX6_begins 1 = .ok (.getfield 35, 3) := by decide +kernel
theorem dX6_begins_4 : decode cX6_begins 4 = .ok (.ifCond .ne 10, 3) := by decide +kernel
theorem dX6_begins_7 : decode cX6_begins 7 = .ok (.iload 5, 2) := by decide +kernel
theorem dX6_begins_9 : decode cX6_begins 9 = .ok (.bipush 12, 2) := by decide +kernel
theorem dX6_begins_11 : decode cX6_begins 11 = .ok (.if_icmp .le 4, 3) := by decide +kernel
theorem dX6_begins_14 : decode cX6_begins 14 = .ok (.return_, 1) := by decide +kernel
theorem dX6_begins_15 : decode cX6_begins 15 = .ok (.aload_n 0, 1) := by decide +kernel
theorem dX6_begins_16 : decode cX6_begins 16 = .ok (.getfield 12, 3) := by decide +kernel
theorem dX6_begins_19 : decode cX6_begins 19 = .ok (.aload_n 1, 1) := by decide +kernel
theorem dX6_begins_20 : decode cX6_begins 20 = .ok (.iload_n 2, 1) := by decide +kernel
theorem dX6_begins_21 : decode cX6_begins 21 = .ok (.invokevirtual 73, 3) := by decide +kernel
theorem dX6_begins_24 : decode cX6_begins 24 = .ok (.iconst 2, 1) := by decide +kernel
theorem dX6_begins_25 : decode cX6_begins 25 = .ok (.iload 4, 2) := by decide +kernel
theorem dX6_begins_27 : decode cX6_begins 27 = .ok (.imul, 1) := by decide +kernel
theorem dX6_begins_28 : decode cX6_begins 28 = .ok (.if_icmp .le 7, 3) := by decide +kernel
theorem dX6_begins_31 : decode cX6_begins 31 = .ok (.iconst 1, 1) := by decide +kernel
theorem dX6_begins_32 : decode cX6_begins 32 = .ok (.goto 4, 3) := by decide +kernel
theorem dX6_begins_35 : decode cX6_begins 35 = .ok (.iconst 0, 1) := by decide +kernel
theorem dX6_begins_36 : decode cX6_begins 36 = .ok (.istore 6, 2) := by decide +kernel
theorem dX6_begins_38 : decode cX6_begins 38 = .ok (.iload 6, 2) := by decide +kernel
theorem dX6_begins_40 : decode cX6_begins 40 = .ok (.ifCond .eq 7, 3) := by decide +kernel
theorem dX6_begins_43 : decode cX6_begins 43 = .ok (.iconst (-1), 1) := by decide +kernel
theorem dX6_begins_44 : decode cX6_begins 44 = .ok (.goto 8, 3) := by decide +kernel
theorem dX6_begins_47 : decode cX6_begins 47 = .ok (.aload_n 1, 1) := by decide +kernel
theorem dX6_begins_48 : decode cX6_begins 48 = .ok (.iload_n 2, 1) := by decide +kernel
theorem dX6_begins_49 : decode cX6_begins 49 = .ok (.invokestatic 77, 3) := by decide +kernel
theorem dX6_begins_52 : decode cX6_begins 52 = .ok (.istore 7, 2) := by decide +kernel
theorem dX6_begins_54 : decode cX6_begins 54 = .ok (.aload_n 0, 1) := by decide +kernel
theorem dX6_begins_55 : decode cX6_begins 55 = .ok (.getfield 22, 3) := by decide +kernel
theorem dX6_begins_58 : decode cX6_begins 58 = .ok (.aload_n 0, 1) := by decide +kernel
theorem dX6_begins_59 : decode cX6_begins 59 = .ok (.getfield 39, 3) := by decide +kernel
theorem dX6_begins_62 : decode cX6_begins 62 = .ok (.if_icmp .ne 15, 3) := by decide +kernel
theorem dX6_begins_65 : decode cX6_begins 65 = .ok (.aload_n 0, 1) := by decide +kernel
theorem dX6_begins_66 : decode cX6_begins 66 = .ok (.iload 7, 2) := by decide +kernel
theorem dX6_begins_68 : decode cX6_begins 68 = .ok (.iload_n 2, 1) := by decide +kernel
theorem dX6_begins_69 : decode cX6_begins 69 = .ok (.iload_n 3, 1) := by decide +kernel
theorem dX6_begins_70 : decode cX6_begins 70 = .ok (.iload 4, 2) := by decide +kernel
theorem dX6_begins_72 : decode cX6_begins 72 = .ok (.iload 5, 2) := by decide +kernel
theorem dX6_begins_74 : decode cX6_begins 74 = .ok (.invokevirtual 80, 3) := by decide +kernel
theorem dX6_begins_77 : decode cX6_begins 77 = .ok (.aload_n 0, 1) := by decide +kernel
theorem dX6_begins_78 : decode cX6_begins 78 = .ok (.getfield 22, 3) := by decide +kernel
theorem dX6_begins_81 : decode cX6_begins 81 = .ok (.bipush 60, 2) := by decide +kernel
theorem dX6_begins_83 : decode cX6_begins 83 = .ok (.if_icmp .ge 14, 3) := by decide +kernel
theorem dX6_begins_86 : decode cX6_begins 86 = .ok (.aload_n 0, 1) := by decide +kernel
theorem dX6_begins_87 : decode cX6_begins 87 = .ok (.getfield 18, 3) := by decide +kernel
theorem dX6_begins_90 : decode cX6_begins 90 = .ok (.aload_n 0, 1) := by decide +kernel
theorem dX6_begins_91 : decode cX6_begins 91 = .ok (.getfield 22, 3) := by decide +kernel
theorem dX6_begins_94 : decode cX6_begins 94 = .ok (.iload 7, 2) := by decide +kernel
theorem dX6_begins_96 : decode cX6_begins 96 = .ok (.iastore, 1) := by decide +kernel
theorem dX6_begins_97 : decode cX6_begins 97 = .ok (.aload_n 0, 1) := by decide +kernel
theorem dX6_begins_98 : decode cX6_begins 98 = .ok (.dup, 1) := by decide +kernel
theorem dX6_begins_99 : decode cX6_begins 99 = .ok (.getfield 22, 3) := by decide +kernel
theorem dX6_begins_102 : decode cX6_begins 102 = .ok (.iconst 1, 1) := by decide +kernel
theorem dX6_begins_103 : decode cX6_begins 103 = .ok (.iadd, 1) := by decide +kernel
theorem dX6_begins_104 : decode cX6_begins 104 = .ok (.putfield 22, 3) := by decide +kernel
theorem dX6_begins_107 : decode cX6_begins 107 = .ok (.aload_n 0, 1) := by decide +kernel
theorem dX6_begins_108 : decode cX6_begins 108 = .ok (.aload_n 0, 1) := by decide +kernel
theorem dX6_begins_109 : decode cX6_begins 109 = .ok (.getfield 29, 3) := by decide +kernel
theorem dX6_begins_112 : decode cX6_begins 112 = .ok (.iload 5, 2) := by decide +kernel
theorem dX6_begins_114 : decode cX6_begins 114 = .ok (.invokestatic 84, 3) := by decide +kernel
theorem dX6_begins_117 : decode cX6_begins 117 = .ok (.putfield 29, 3) := by decide +kernel
theorem dX6_begins_120 : decode cX6_begins 120 = .ok (.iload 6, 2) := by decide +kernel
theorem dX6_begins_122 : decode cX6_begins 122 = .ok (.ifCond .eq 14, 3) := by decide +kernel
theorem dX6_begins_125 : decode cX6_begins 125 = .ok (.aload_n 0, 1) := by decide +kernel
theorem dX6_begins_126 : decode cX6_begins 126 = .ok (.dup, 1) := by decide +kernel
theorem dX6_begins_127 : decode cX6_begins 127 = .ok (.getfield 26, 3) := by decide +kernel
theorem dX6_begins_130 : decode cX6_begins 130 = .ok (.iconst 1, 1) := by decide +kernel
theorem dX6_begins_131 : decode cX6_begins 131 = .ok (.iadd, 1) := by decide +kernel
theorem dX6_begins_132 : decode cX6_begins 132 = .ok (.putfield 26, 3) := by decide +kernel
theorem dX6_begins_135 : decode cX6_begins 135 = .ok (.return_, 1) := by decide +kernel
theorem dX6_begins_136 : decode cX6_begins 136 = .ok (.iload 7, 2) := by decide +kernel
theorem dX6_begins_138 : decode cX6_begins 138 = .ok (.ifCond .ge 14, 3) := by decide +kernel
theorem dX6_begins_141 : decode cX6_begins 141 = .ok (.aload_n 0, 1) := by decide +kernel
theorem dX6_begins_142 : decode cX6_begins 142 = .ok (.iconst 1, 1) := by decide +kernel
theorem dX6_begins_143 : decode cX6_begins 143 = .ok (.putfield 35, 3) := by decide +kernel
theorem dX6_begins_146 : decode cX6_begins 146 = .ok (.aload_n 0, 1) := by decide +kernel
theorem dX6_begins_147 : decode cX6_begins 147 = .ok (.iload_n 3, 1) := by decide +kernel
theorem dX6_begins_148 : decode cX6_begins 148 = .ok (.putfield 32, 3) := by decide +kernel
theorem dX6_begins_151 : decode cX6_begins 151 = .ok (.return_, 1) := by decide +kernel
theorem dX6_begins_152 : decode cX6_begins 152 = .ok (.aload_n 1, 1) := by decide +kernel
theorem dX6_begins_153 : decode cX6_begins 153 = .ok (.iload 7, 2) := by decide +kernel
theorem dX6_begins_155 : decode cX6_begins 155 = .ok (.iaload, 1) := by decide +kernel
theorem dX6_begins_156 : decode cX6_begins 156 = .ok (.iload_n 2, 1) := by decide +kernel
theorem dX6_begins_157 : decode cX6_begins 157 = .ok (.iand, 1) := by decide +kernel
theorem dX6_begins_158 : decode cX6_begins 158 = .ok (.istore 8, 2) := by decide +kernel
theorem dX6_begins_160 : decode cX6_begins 160 = .ok (.iload_n 2, 1) := by decide +kernel
theorem dX6_begins_161 : decode cX6_begins 161 = .ok (.iconst 1, 1) := by decide +kernel
theorem dX6_begins_162 : decode cX6_begins 162 = .ok (.iload 7, 2) := by decide +kernel
theorem dX6_begins_164 : decode cX6_begins 164 = .ok (.ishl, 1) := by decide +kernel
theorem dX6_begins_165 : decode cX6_begins 165 = .ok (.iconst (-1), 1) := by decide +kernel
theorem dX6_begins_166 : decode cX6_begins 166 = .ok (.ixor, 1) := by decide +kernel
theorem dX6_begins_167 : decode cX6_begins 167 = .ok (.iand, 1) := by decide +kernel
theorem dX6_begins_168 : decode cX6_begins 168 = .ok (.istore 9, 2) := by decide +kernel
theorem dX6_begins_170 : decode cX6_begins 170 = .ok (.iload 4, 2) := by decide +kernel
theorem dX6_begins_172 : decode cX6_begins 172 = .ok (.iload 8, 2) := by decide +kernel
theorem dX6_begins_174 : decode cX6_begins 174 = .ok (.invokestatic 90, 3) := by decide +kernel
theorem dX6_begins_177 : decode cX6_begins 177 = .ok (.isub, 1) := by decide +kernel
theorem dX6_begins_178 : decode cX6_begins 178 = .ok (.istore 10, 2) := by decide +kernel
theorem dX6_begins_180 : decode cX6_begins 180 = .ok (.iload 5, 2) := by decide +kernel
theorem dX6_begins_182 : decode cX6_begins 182 = .ok (.iconst 2, 1) := by decide +kernel
theorem dX6_begins_183 : decode cX6_begins 183 = .ok (.irem, 1) := by decide +kernel
theorem dX6_begins_184 : decode cX6_begins 184 = .ok (.ifCond .ne 7, 3) := by decide +kernel
theorem dX6_begins_187 : decode cX6_begins 187 = .ok (.iconst 1, 1) := by decide +kernel
theorem dX6_begins_188 : decode cX6_begins 188 = .ok (.goto 4, 3) := by decide +kernel
theorem dX6_begins_191 : decode cX6_begins 191 = .ok (.iconst 0, 1) := by decide +kernel
theorem dX6_begins_192 : decode cX6_begins 192 = .ok (.istore 11, 2) := by decide +kernel
theorem dX6_begins_194 : decode cX6_begins 194 = .ok (.iload 11, 2) := by decide +kernel
theorem dX6_begins_196 : decode cX6_begins 196 = .ok (.ifCond .eq 24, 3) := by decide +kernel
theorem dX6_begins_199 : decode cX6_begins 199 = .ok (.aload_n 0, 1) := by decide +kernel
theorem dX6_begins_200 : decode cX6_begins 200 = .ok (.aload_n 1, 1) := by decide +kernel
theorem dX6_begins_201 : decode cX6_begins 201 = .ok (.iload 9, 2) := by decide +kernel
theorem dX6_begins_203 : decode cX6_begins 203 = .ok (.iload_n 3, 1) := by decide +kernel
theorem dX6_begins_204 : decode cX6_begins 204 = .ok (.iconst 1, 1) := by decide +kernel
theorem dX6_begins_205 : decode cX6_begins 205 = .ok (.iload 7, 2) := by decide +kernel
theorem dX6_begins_207 : decode cX6_begins 207 = .ok (.ishl, 1) := by decide +kernel
theorem dX6_begins_208 : decode cX6_begins 208 = .ok (.ior, 1) := by decide +kernel
theorem dX6_begins_209 : decode cX6_begins 209 = .ok (.iload 4, 2) := by decide +kernel
theorem dX6_begins_211 : decode cX6_begins 211 = .ok (.iconst 1, 1) := by decide +kernel
theorem dX6_begins_212 : decode cX6_begins 212 = .ok (.isub, 1) := by decide +kernel
theorem dX6_begins_213 : decode cX6_begins 213 = .ok (.iload 5, 2) := by decide +kernel
theorem dX6_begins_215 : decode cX6_begins 215 = .ok (.iconst 1, 1) := by decide +kernel
theorem dX6_begins_216 : decode cX6_begins 216 = .ok (.iadd, 1) := by decide +kernel
theorem dX6_begins_217 : decode cX6_begins 217 = .ok (.invokevirtual 69, 3) := by decide +kernel
theorem dX6_begins_220 : decode cX6_begins 220 = .ok (.aload_n 0, 1) := by decide +kernel
theorem dX6_begins_221 : decode cX6_begins 221 = .ok (.aload_n 1, 1) := by decide +kernel
theorem dX6_begins_222 : decode cX6_begins 222 = .ok (.iload 9, 2) := by decide +kernel
theorem dX6_begins_224 : decode cX6_begins 224 = .ok (.iload 8, 2) := by decide +kernel
theorem dX6_begins_226 : decode cX6_begins 226 = .ok (.iconst (-1), 1) := by decide +kernel
theorem dX6_begins_227 : decode cX6_begins 227 = .ok (.ixor, 1) := by decide +kernel
theorem dX6_begins_228 : decode cX6_begins 228 = .ok (.iand, 1) := by decide +kernel
theorem dX6_begins_229 : decode cX6_begins 229 = .ok (.iload_n 3, 1) := by decide +kernel
theorem dX6_begins_230 : decode cX6_begins 230 = .ok (.iload 8, 2) := by decide +kernel
theorem dX6_begins_232 : decode cX6_begins 232 = .ok (.ior, 1) := by decide +kernel
theorem dX6_begins_233 : decode cX6_begins 233 = .ok (.iload 10, 2) := by decide +kernel
theorem dX6_begins_235 : decode cX6_begins 235 = .ok (.iload 5, 2) := by decide +kernel
theorem dX6_begins_237 : decode cX6_begins 237 = .ok (.iconst 1, 1) := by decide +kernel
theorem dX6_begins_238 : decode cX6_begins 238 = .ok (.iadd, 1) := by decide +kernel
theorem dX6_begins_239 : decode cX6_begins 239 = .ok (.invokevirtual 69, 3) := by decide +kernel
theorem dX6_begins_242 : decode cX6_begins 242 = .ok (.iload 11, 2) := by decide +kernel
theorem dX6_begins_244 : decode cX6_begins 244 = .ok (.ifCond .ne 24, 3) := by decide +kernel
theorem dX6_begins_247 : decode cX6_begins 247 = .ok (.aload_n 0, 1) := by decide +kernel
theorem dX6_begins_248 : decode cX6_begins 248 = .ok (.aload_n 1, 1) := by decide +kernel
theorem dX6_begins_249 : decode cX6_begins 249 = .ok (.iload 9, 2) := by decide +kernel
theorem dX6_begins_251 : decode cX6_begins 251 = .ok (.iload_n 3, 1) := by decide +kernel
theorem dX6_begins_252 : decode cX6_begins 252 = .ok (.iconst 1, 1) := by decide +kernel
theorem dX6_begins_253 : decode cX6_begins 253 = .ok (.iload 7, 2) := by decide +kernel
theorem dX6_begins_255 : decode cX6_begins 255 = .ok (.ishl, 1) := by decide +kernel
theorem dX6_begins_256 : decode cX6_begins 256 = .ok (.ior, 1) := by decide +kernel
theorem dX6_begins_257 : decode cX6_begins 257 = .ok (.iload 4, 2) := by decide +kernel
theorem dX6_begins_259 : decode cX6_begins 259 = .ok (.iconst 1, 1) := by decide +kernel
theorem dX6_begins_260 : decode cX6_begins 260 = .ok (.isub, 1) := by decide +kernel
theorem dX6_begins_261 : decode cX6_begins 261 = .ok (.iload 5, 2) := by decide +kernel
theorem dX6_begins_263 : decode cX6_begins 263 = .ok (.iconst 1, 1) := by decide +kernel
theorem dX6_begins_264 : decode cX6_begins 264 = .ok (.iadd, 1) := by decide +kernel
theorem dX6_begins_265 : decode cX6_begins 265 = .ok (.invokevirtual 69, 3) := by decide +kernel
theorem dX6_begins_268 : decode cX6_begins 268 = .ok (.return_, 1) := by decide +kernel
theorem dX6_keep_0 : decode cX6_keep 0 = .ok (.aload_n 0, 1) := by decide +kernel
theorem dX6_keep_1 : decode cX6_keep 1 = .ok (.iload_n 1, 1) := by decide +kernel
theorem dX6_keep_2 : decode cX6_keep 2 = .ok (.putfield 42, 3) := by decide +kernel
theorem dX6_keep_5 : decode cX6_keep 5 = .ok (.aload_n 0, 1) := by decide +kernel
theorem dX6_keep_6 : decode cX6_keep 6 = .ok (.iload_n 2, 1) := by decide +kernel
theorem dX6_keep_7 : decode cX6_keep 7 = .ok (.putfield 45, 3) := by decide +kernel
theorem dX6_keep_10 : decode cX6_keep 10 = .ok (.aload_n 0, 1) := by decide +kernel
theorem dX6_keep_11 : decode cX6_keep 11 = .ok (.iload_n 3, 1) := by decide +kernel
theorem dX6_keep_12 : decode cX6_keep 12 = .ok (.putfield 48, 3) := by decide +kernel
theorem dX6_keep_15 : decode cX6_keep 15 = .ok (.aload_n 0, 1) := by decide +kernel
theorem dX6_keep_16 : decode cX6_keep 16 = .ok (.iload 4, 2) := by decide +kernel
theorem dX6_keep_18 : decode cX6_keep 18 = .ok (.putfield 51, 3) := by decide +kernel
theorem dX6_keep_21 : decode cX6_keep 21 = .ok (.aload_n 0, 1) := by decide +kernel
theorem dX6_keep_22 : decode cX6_keep 22 = .ok (.iload 5, 2) := by decide +kernel
theorem dX6_keep_24 : decode cX6_keep 24 = .ok (.putfield 54, 3) := by decide +kernel
theorem dX6_keep_27 : decode cX6_keep 27 = .ok (.return_, 1) := by decide +kernel
theorem dX6_firstWrong_0 : decode cX6_firstWrong 0 = .ok (.aload_n 0, 1) := by decide +kernel
theorem dX6_firstWrong_1 : decode cX6_firstWrong 1 = .ok (.iconst 0, 1) := by decide +kernel
theorem dX6_firstWrong_2 : decode cX6_firstWrong 2 = .ok (.putfield 57, 3) := by decide +kernel
theorem dX6_firstWrong_5 : decode cX6_firstWrong 5 = .ok (.aload_n 0, 1) := by decide +kernel
theorem dX6_firstWrong_6 : decode cX6_firstWrong 6 = .ok (.aload_n 1, 1) := by decide +kernel
theorem dX6_firstWrong_7 : decode cX6_firstWrong 7 = .ok (.getfield 60, 3) := by decide +kernel
theorem dX6_firstWrong_10 : decode cX6_firstWrong 10 = .ok (.aload_n 3, 1) := by decide +kernel
theorem dX6_firstWrong_11 : decode cX6_firstWrong 11 = .ok (.iload 4, 2) := by decide +kernel
theorem dX6_firstWrong_13 : decode cX6_firstWrong 13 = .ok (.aload_n 1, 1) := by decide +kernel
theorem dX6_firstWrong_14 : decode cX6_firstWrong 14 = .ok (.invokevirtual 65, 3) := by decide +kernel
theorem dX6_firstWrong_17 : decode cX6_firstWrong 17 = .ok (.iload_n 2, 1) := by decide +kernel
theorem dX6_firstWrong_18 : decode cX6_firstWrong 18 = .ok (.iconst 0, 1) := by decide +kernel
theorem dX6_firstWrong_19 : decode cX6_firstWrong 19 = .ok (.invokevirtual 96, 3) := by decide +kernel
theorem dX6_firstWrong_22 : decode cX6_firstWrong 22 = .ok (.istore 5, 2) := by decide +kernel
theorem dX6_firstWrong_24 : decode cX6_firstWrong 24 = .ok (.iload 5, 2) := by decide +kernel
theorem dX6_firstWrong_26 : decode cX6_firstWrong 26 = .ok (.ifCond .eq 16, 3) := by decide +kernel
theorem dX6_firstWrong_29 : decode cX6_firstWrong 29 = .ok (.aload_n 0, 1) := by decide +kernel
theorem dX6_firstWrong_30 : decode cX6_firstWrong 30 = .ok (.getfield 57, 3) := by decide +kernel
theorem dX6_firstWrong_33 : decode cX6_firstWrong 33 = .ok (.iload 4, 2) := by decide +kernel
theorem dX6_firstWrong_35 : decode cX6_firstWrong 35 = .ok (.if_icmp .ne 7, 3) := by decide +kernel
theorem dX6_firstWrong_38 : decode cX6_firstWrong 38 = .ok (.iconst (-1), 1) := by decide +kernel
theorem dX6_firstWrong_39 : decode cX6_firstWrong 39 = .ok (.goto 7, 3) := by decide +kernel
theorem dX6_firstWrong_42 : decode cX6_firstWrong 42 = .ok (.aload_n 0, 1) := by decide +kernel
theorem dX6_firstWrong_43 : decode cX6_firstWrong 43 = .ok (.getfield 57, 3) := by decide +kernel
theorem dX6_firstWrong_46 : decode cX6_firstWrong 46 = .ok (.ireturn, 1) := by decide +kernel
theorem dX6_readsRight_0 : decode cX6_readsRight 0 = .ok (.aload_n 0, 1) := by decide +kernel
theorem dX6_readsRight_1 : decode cX6_readsRight 1 = .ok (.getfield 57, 3) := by decide +kernel
theorem dX6_readsRight_4 : decode cX6_readsRight 4 = .ok (.iload_n 3, 1) := by decide +kernel
theorem dX6_readsRight_5 : decode cX6_readsRight 5 = .ok (.if_icmp .ge 10, 3) := by decide +kernel
theorem dX6_readsRight_8 : decode cX6_readsRight 8 = .ok (.iload 6, 2) := by decide +kernel
theorem dX6_readsRight_10 : decode cX6_readsRight 10 = .ok (.bipush 12, 2) := by decide +kernel
theorem dX6_readsRight_12 : decode cX6_readsRight 12 = .ok (.if_icmp .le 5, 3) := by decide +kernel
theorem dX6_readsRight_15 : decode cX6_readsRight 15 = .ok (.iconst 0, 1) := by decide +kernel
theorem dX6_readsRight_16 : decode cX6_readsRight 16 = .ok (.ireturn, 1) := by decide +kernel
theorem dX6_readsRight_17 : decode cX6_readsRight 17 = .ok (.aload_n 2, 1) := by decide +kernel
theorem dX6_readsRight_18 : decode cX6_readsRight 18 = .ok (.aload_n 0, 1) := by decide +kernel
theorem dX6_readsRight_19 : decode cX6_readsRight 19 = .ok (.getfield 57, 3) := by decide +kernel
theorem dX6_readsRight_22 : decode cX6_readsRight 22 = .ok (.iaload, 1) := by decide +kernel
theorem dX6_readsRight_23 : decode cX6_readsRight 23 = .ok (.istore 7, 2) := by decide +kernel
theorem dX6_readsRight_25 : decode cX6_readsRight 25 = .ok (.iload 7, 2) := by decide +kernel
theorem dX6_readsRight_27 : decode cX6_readsRight 27 = .ok (.iconst (-1), 1) := by decide +kernel
theorem dX6_readsRight_28 : decode cX6_readsRight 28 = .ok (.if_icmp .ne 34, 3) := by decide +kernel
theorem dX6_readsRight_31 : decode cX6_readsRight 31 = .ok (.aload_n 0, 1) := by decide +kernel
theorem dX6_readsRight_32 : decode cX6_readsRight 32 = .ok (.getfield 12, 3) := by decide +kernel
theorem dX6_readsRight_35 : decode cX6_readsRight 35 = .ok (.aload_n 1, 1) := by decide +kernel
theorem dX6_readsRight_36 : decode cX6_readsRight 36 = .ok (.iload 4, 2) := by decide +kernel
theorem dX6_readsRight_38 : decode cX6_readsRight 38 = .ok (.invokevirtual 73, 3) := by decide +kernel
theorem dX6_readsRight_41 : decode cX6_readsRight 41 = .ok (.iconst 2, 1) := by decide +kernel
theorem dX6_readsRight_42 : decode cX6_readsRight 42 = .ok (.iload 5, 2) := by decide +kernel
theorem dX6_readsRight_44 : decode cX6_readsRight 44 = .ok (.imul, 1) := by decide +kernel
theorem dX6_readsRight_45 : decode cX6_readsRight 45 = .ok (.if_icmp .gt 5, 3) := by decide +kernel
theorem dX6_readsRight_48 : decode cX6_readsRight 48 = .ok (.iconst 0, 1) := by decide +kernel
theorem dX6_readsRight_49 : decode cX6_readsRight 49 = .ok (.ireturn, 1) := by decide +kernel
theorem dX6_readsRight_50 : decode cX6_readsRight 50 = .ok (.aload_n 0, 1) := by decide +kernel
theorem dX6_readsRight_51 : decode cX6_readsRight 51 = .ok (.dup, 1) := by decide +kernel
theorem dX6_readsRight_52 : decode cX6_readsRight 52 = .ok (.getfield 57, 3) := by decide +kernel
theorem dX6_readsRight_55 : decode cX6_readsRight 55 = .ok (.iconst 1, 1) := by decide +kernel
theorem dX6_readsRight_56 : decode cX6_readsRight 56 = .ok (.iadd, 1) := by decide +kernel
theorem dX6_readsRight_57 : decode cX6_readsRight 57 = .ok (.putfield 57, 3) := by decide +kernel
theorem dX6_readsRight_60 : decode cX6_readsRight 60 = .ok (.iconst 1, 1) := by decide +kernel
theorem dX6_readsRight_61 : decode cX6_readsRight 61 = .ok (.ireturn, 1) := by decide +kernel
theorem dX6_readsRight_62 : decode cX6_readsRight 62 = .ok (.iload 7, 2) := by decide +kernel
theorem dX6_readsRight_64 : decode cX6_readsRight 64 = .ok (.iconst 0, 1) := by decide +kernel
theorem dX6_readsRight_65 : decode cX6_readsRight 65 = .ok (.bipush 11, 2) := by decide +kernel
theorem dX6_readsRight_67 : decode cX6_readsRight 67 = .ok (.invokestatic 100, 3) := by decide +kernel
theorem dX6_readsRight_70 : decode cX6_readsRight 70 = .ok (.ifCond .eq 13, 3) := by decide +kernel
theorem dX6_readsRight_73 : decode cX6_readsRight 73 = .ok (.iload 4, 2) := by decide +kernel
theorem dX6_readsRight_75 : decode cX6_readsRight 75 = .ok (.iload 7, 2) := by decide +kernel
theorem dX6_readsRight_77 : decode cX6_readsRight 77 = .ok (.ishr, 1) := by decide +kernel
theorem dX6_readsRight_78 : decode cX6_readsRight 78 = .ok (.iconst 1, 1) := by decide +kernel
theorem dX6_readsRight_79 : decode cX6_readsRight 79 = .ok (.iand, 1) := by decide +kernel
theorem dX6_readsRight_80 : decode cX6_readsRight 80 = .ok (.ifCond .ne 5, 3) := by decide +kernel
theorem dX6_readsRight_83 : decode cX6_readsRight 83 = .ok (.iconst 0, 1) := by decide +kernel
theorem dX6_readsRight_84 : decode cX6_readsRight 84 = .ok (.ireturn, 1) := by decide +kernel
theorem dX6_readsRight_85 : decode cX6_readsRight 85 = .ok (.aload_n 1, 1) := by decide +kernel
theorem dX6_readsRight_86 : decode cX6_readsRight 86 = .ok (.iload 7, 2) := by decide +kernel
theorem dX6_readsRight_88 : decode cX6_readsRight 88 = .ok (.iaload, 1) := by decide +kernel
theorem dX6_readsRight_89 : decode cX6_readsRight 89 = .ok (.iload 4, 2) := by decide +kernel
theorem dX6_readsRight_91 : decode cX6_readsRight 91 = .ok (.iand, 1) := by decide +kernel
theorem dX6_readsRight_92 : decode cX6_readsRight 92 = .ok (.istore 8, 2) := by decide +kernel
theorem dX6_readsRight_94 : decode cX6_readsRight 94 = .ok (.iload 8, 2) := by decide +kernel
theorem dX6_readsRight_96 : decode cX6_readsRight 96 = .ok (.ifCond .ne 5, 3) := by decide +kernel
theorem dX6_readsRight_99 : decode cX6_readsRight 99 = .ok (.iconst 0, 1) := by decide +kernel
theorem dX6_readsRight_100 : decode cX6_readsRight 100 = .ok (.ireturn, 1) := by decide +kernel
theorem dX6_readsRight_101 : decode cX6_readsRight 101 = .ok (.aload_n 0, 1) := by decide +kernel
theorem dX6_readsRight_102 : decode cX6_readsRight 102 = .ok (.dup, 1) := by decide +kernel
theorem dX6_readsRight_103 : decode cX6_readsRight 103 = .ok (.getfield 57, 3) := by decide +kernel
theorem dX6_readsRight_106 : decode cX6_readsRight 106 = .ok (.iconst 1, 1) := by decide +kernel
theorem dX6_readsRight_107 : decode cX6_readsRight 107 = .ok (.iadd, 1) := by decide +kernel
theorem dX6_readsRight_108 : decode cX6_readsRight 108 = .ok (.putfield 57, 3) := by decide +kernel
theorem dX6_readsRight_111 : decode cX6_readsRight 111 = .ok (.iload 4, 2) := by decide +kernel
theorem dX6_readsRight_113 : decode cX6_readsRight 113 = .ok (.iconst 1, 1) := by decide +kernel
theorem dX6_readsRight_114 : decode cX6_readsRight 114 = .ok (.iload 7, 2) := by decide +kernel
theorem dX6_readsRight_116 : decode cX6_readsRight 116 = .ok (.ishl, 1) := by decide +kernel
theorem dX6_readsRight_117 : decode cX6_readsRight 117 = .ok (.iconst (-1), 1) := by decide +kernel
theorem dX6_readsRight_118 : decode cX6_readsRight 118 = .ok (.ixor, 1) := by decide +kernel
theorem dX6_readsRight_119 : decode cX6_readsRight 119 = .ok (.iand, 1) := by decide +kernel
theorem dX6_readsRight_120 : decode cX6_readsRight 120 = .ok (.istore 9, 2) := by decide +kernel
theorem dX6_readsRight_122 : decode cX6_readsRight 122 = .ok (.iload 5, 2) := by decide +kernel
theorem dX6_readsRight_124 : decode cX6_readsRight 124 = .ok (.iload 8, 2) := by decide +kernel
theorem dX6_readsRight_126 : decode cX6_readsRight 126 = .ok (.invokestatic 90, 3) := by decide +kernel
theorem dX6_readsRight_129 : decode cX6_readsRight 129 = .ok (.isub, 1) := by decide +kernel
theorem dX6_readsRight_130 : decode cX6_readsRight 130 = .ok (.istore 10, 2) := by decide +kernel
theorem dX6_readsRight_132 : decode cX6_readsRight 132 = .ok (.iload 6, 2) := by decide +kernel
theorem dX6_readsRight_134 : decode cX6_readsRight 134 = .ok (.iconst 2, 1) := by decide +kernel
theorem dX6_readsRight_135 : decode cX6_readsRight 135 = .ok (.irem, 1) := by decide +kernel
theorem dX6_readsRight_136 : decode cX6_readsRight 136 = .ok (.ifCond .ne 52, 3) := by decide +kernel
theorem dX6_readsRight_139 : decode cX6_readsRight 139 = .ok (.aload_n 0, 1) := by decide +kernel
theorem dX6_readsRight_140 : decode cX6_readsRight 140 = .ok (.aload_n 1, 1) := by decide +kernel
theorem dX6_readsRight_141 : decode cX6_readsRight 141 = .ok (.aload_n 2, 1) := by decide +kernel
theorem dX6_readsRight_142 : decode cX6_readsRight 142 = .ok (.iload_n 3, 1) := by decide +kernel
theorem dX6_readsRight_143 : decode cX6_readsRight 143 = .ok (.iload 9, 2) := by decide +kernel
theorem dX6_readsRight_145 : decode cX6_readsRight 145 = .ok (.iload 5, 2) := by decide +kernel
theorem dX6_readsRight_147 : decode cX6_readsRight 147 = .ok (.iconst 1, 1) := by decide +kernel
theorem dX6_readsRight_148 : decode cX6_readsRight 148 = .ok (.isub, 1) := by decide +kernel
theorem dX6_readsRight_149 : decode cX6_readsRight 149 = .ok (.iload 6, 2) := by decide +kernel
theorem dX6_readsRight_151 : decode cX6_readsRight 151 = .ok (.iconst 1, 1) := by decide +kernel
theorem dX6_readsRight_152 : decode cX6_readsRight 152 = .ok (.iadd, 1) := by decide +kernel
theorem dX6_readsRight_153 : decode cX6_readsRight 153 = .ok (.invokevirtual 96, 3) := by decide +kernel
theorem dX6_readsRight_156 : decode cX6_readsRight 156 = .ok (.ifCond .eq 30, 3) := by decide +kernel
theorem dX6_readsRight_159 : decode cX6_readsRight 159 = .ok (.aload_n 0, 1) := by decide +kernel
theorem dX6_readsRight_160 : decode cX6_readsRight 160 = .ok (.aload_n 1, 1) := by decide +kernel
theorem dX6_readsRight_161 : decode cX6_readsRight 161 = .ok (.aload_n 2, 1) := by decide +kernel
theorem dX6_readsRight_162 : decode cX6_readsRight 162 = .ok (.iload_n 3, 1) := by decide +kernel
theorem dX6_readsRight_163 : decode cX6_readsRight 163 = .ok (.iload 9, 2) := by decide +kernel
theorem dX6_readsRight_165 : decode cX6_readsRight 165 = .ok (.iload 8, 2) := by decide +kernel
theorem dX6_readsRight_167 : decode cX6_readsRight 167 = .ok (.iconst (-1), 1) := by decide +kernel
theorem dX6_readsRight_168 : decode cX6_readsRight 168 = .ok (.ixor, 1) := by decide +kernel
theorem dX6_readsRight_169 : decode cX6_readsRight 169 = .ok (.iand, 1) := by decide +kernel
theorem dX6_readsRight_170 : decode cX6_readsRight 170 = .ok (.iload 10, 2) := by decide +kernel
theorem dX6_readsRight_172 : decode cX6_readsRight 172 = .ok (.iload 6, 2) := by decide +kernel
theorem dX6_readsRight_174 : decode cX6_readsRight 174 = .ok (.iconst 1, 1) := by decide +kernel
theorem dX6_readsRight_175 : decode cX6_readsRight 175 = .ok (.iadd, 1) := by decide +kernel
theorem dX6_readsRight_176 : decode cX6_readsRight 176 = .ok (.invokevirtual 96, 3) := by decide +kernel
theorem dX6_readsRight_179 : decode cX6_readsRight 179 = .ok (.ifCond .eq 7, 3) := by decide +kernel
theorem dX6_readsRight_182 : decode cX6_readsRight 182 = .ok (.iconst 1, 1) := by decide +kernel
theorem dX6_readsRight_183 : decode cX6_readsRight 183 = .ok (.goto 4, 3) := by decide +kernel
theorem dX6_readsRight_186 : decode cX6_readsRight 186 = .ok (.iconst 0, 1) := by decide +kernel
theorem dX6_readsRight_187 : decode cX6_readsRight 187 = .ok (.ireturn, 1) := by decide +kernel
theorem dX6_readsRight_188 : decode cX6_readsRight 188 = .ok (.aload_n 0, 1) := by decide +kernel
theorem dX6_readsRight_189 : decode cX6_readsRight 189 = .ok (.aload_n 1, 1) := by decide +kernel
theorem dX6_readsRight_190 : decode cX6_readsRight 190 = .ok (.aload_n 2, 1) := by decide +kernel
theorem dX6_readsRight_191 : decode cX6_readsRight 191 = .ok (.iload_n 3, 1) := by decide +kernel
theorem dX6_readsRight_192 : decode cX6_readsRight 192 = .ok (.iload 9, 2) := by decide +kernel
theorem dX6_readsRight_194 : decode cX6_readsRight 194 = .ok (.iload 8, 2) := by decide +kernel
theorem dX6_readsRight_196 : decode cX6_readsRight 196 = .ok (.iconst (-1), 1) := by decide +kernel
theorem dX6_readsRight_197 : decode cX6_readsRight 197 = .ok (.ixor, 1) := by decide +kernel
theorem dX6_readsRight_198 : decode cX6_readsRight 198 = .ok (.iand, 1) := by decide +kernel
theorem dX6_readsRight_199 : decode cX6_readsRight 199 = .ok (.iload 10, 2) := by decide +kernel
theorem dX6_readsRight_201 : decode cX6_readsRight 201 = .ok (.iload 6, 2) := by decide +kernel
theorem dX6_readsRight_203 : decode cX6_readsRight 203 = .ok (.iconst 1, 1) := by decide +kernel
theorem dX6_readsRight_204 : decode cX6_readsRight 204 = .ok (.iadd, 1) := by decide +kernel
theorem dX6_readsRight_205 : decode cX6_readsRight 205 = .ok (.invokevirtual 96, 3) := by decide +kernel
theorem dX6_readsRight_208 : decode cX6_readsRight 208 = .ok (.ifCond .eq 27, 3) := by decide +kernel
theorem dX6_readsRight_211 : decode cX6_readsRight 211 = .ok (.aload_n 0, 1) := by decide +kernel
theorem dX6_readsRight_212 : decode cX6_readsRight 212 = .ok (.aload_n 1, 1) := by decide +kernel
theorem dX6_readsRight_213 : decode cX6_readsRight 213 = .ok (.aload_n 2, 1) := by decide +kernel
theorem dX6_readsRight_214 : decode cX6_readsRight 214 = .ok (.iload_n 3, 1) := by decide +kernel
theorem dX6_readsRight_215 : decode cX6_readsRight 215 = .ok (.iload 9, 2) := by decide +kernel
theorem dX6_readsRight_217 : decode cX6_readsRight 217 = .ok (.iload 5, 2) := by decide +kernel
theorem dX6_readsRight_219 : decode cX6_readsRight 219 = .ok (.iconst 1, 1) := by decide +kernel
theorem dX6_readsRight_220 : decode cX6_readsRight 220 = .ok (.isub, 1) := by decide +kernel
theorem dX6_readsRight_221 : decode cX6_readsRight 221 = .ok (.iload 6, 2) := by decide +kernel
theorem dX6_readsRight_223 : decode cX6_readsRight 223 = .ok (.iconst 1, 1) := by decide +kernel
theorem dX6_readsRight_224 : decode cX6_readsRight 224 = .ok (.iadd, 1) := by decide +kernel
theorem dX6_readsRight_225 : decode cX6_readsRight 225 = .ok (.invokevirtual 96, 3) := by decide +kernel
theorem dX6_readsRight_228 : decode cX6_readsRight 228 = .ok (.ifCond .eq 7, 3) := by decide +kernel
theorem dX6_readsRight_231 : decode cX6_readsRight 231 = .ok (.iconst 1, 1) := by decide +kernel
theorem dX6_readsRight_232 : decode cX6_readsRight 232 = .ok (.goto 4, 3) := by decide +kernel
theorem dX6_readsRight_235 : decode cX6_readsRight 235 = .ok (.iconst 0, 1) := by decide +kernel
theorem dX6_readsRight_236 : decode cX6_readsRight 236 = .ok (.ireturn, 1) := by decide +kernel
theorem dX7_init_0 : decode cX7_init 0 = .ok (.aload_n 0, 1) := by decide +kernel
theorem dX7_init_1 : decode cX7_init 1 = .ok (.invokespecial 3, 3) := by decide +kernel
theorem dX7_init_4 : decode cX7_init 4 = .ok (.aload_n 0, 1) := by decide +kernel
theorem dX7_init_5 : decode cX7_init 5 = .ok (.iconst 4, 1) := by decide +kernel
theorem dX7_init_6 : decode cX7_init 6 = .ok (.bipush 60, 2) := by decide +kernel
theorem dX7_init_8 : decode cX7_init 8 = .ok (.multianewarray 9 2, 4) := by decide +kernel
theorem dX7_init_12 : decode cX7_init 12 = .ok (.putfield 11, 3) := by decide +kernel
theorem dX7_init_15 : decode cX7_init 15 = .ok (.aload_n 0, 1) := by decide +kernel
theorem dX7_init_16 : decode cX7_init 16 = .ok (.iconst 4, 1) := by decide +kernel
theorem dX7_init_17 : decode cX7_init 17 = .ok (.newarray .int, 2) := by decide +kernel
theorem dX7_init_19 : decode cX7_init 19 = .ok (.dup, 1) := by decide +kernel
theorem dX7_init_20 : decode cX7_init 20 = .ok (.iconst 0, 1) := by decide +kernel
theorem dX7_init_21 : decode cX7_init 21 = .ok (.iconst (-1), 1) := by decide +kernel
theorem dX7_init_22 : decode cX7_init 22 = .ok (.iastore, 1) := by decide +kernel
theorem dX7_init_23 : decode cX7_init 23 = .ok (.dup, 1) := by decide +kernel
theorem dX7_init_24 : decode cX7_init 24 = .ok (.iconst 1, 1) := by decide +kernel
theorem dX7_init_25 : decode cX7_init 25 = .ok (.iconst (-1), 1) := by decide +kernel
theorem dX7_init_26 : decode cX7_init 26 = .ok (.iastore, 1) := by decide +kernel
theorem dX7_init_27 : decode cX7_init 27 = .ok (.dup, 1) := by decide +kernel
theorem dX7_init_28 : decode cX7_init 28 = .ok (.iconst 2, 1) := by decide +kernel
theorem dX7_init_29 : decode cX7_init 29 = .ok (.iconst (-1), 1) := by decide +kernel
theorem dX7_init_30 : decode cX7_init 30 = .ok (.iastore, 1) := by decide +kernel
theorem dX7_init_31 : decode cX7_init 31 = .ok (.dup, 1) := by decide +kernel
theorem dX7_init_32 : decode cX7_init 32 = .ok (.iconst 3, 1) := by decide +kernel
theorem dX7_init_33 : decode cX7_init 33 = .ok (.iconst (-1), 1) := by decide +kernel
theorem dX7_init_34 : decode cX7_init 34 = .ok (.iastore, 1) := by decide +kernel
theorem dX7_init_35 : decode cX7_init 35 = .ok (.putfield 16, 3) := by decide +kernel
theorem dX7_init_38 : decode cX7_init 38 = .ok (.aload_n 0, 1) := by decide +kernel
theorem dX7_init_39 : decode cX7_init 39 = .ok (.iconst 4, 1) := by decide +kernel
theorem dX7_init_40 : decode cX7_init 40 = .ok (.newarray .int, 2) := by decide +kernel
theorem dX7_init_42 : decode cX7_init 42 = .ok (.putfield 20, 3) := by decide +kernel
theorem dX7_init_45 : decode cX7_init 45 = .ok (.return_, 1) := by decide +kernel
theorem dX7_has_0 : decode cX7_has 0 = .ok (.iload_n 1, 1) := by decide +kernel
theorem dX7_has_1 : decode cX7_has 1 = .ok (.ifCond .lt 12, 3) := by decide +kernel
theorem dX7_has_4 : decode cX7_has 4 = .ok (.iload_n 1, 1) := by decide +kernel
theorem dX7_has_5 : decode cX7_has 5 = .ok (.iconst 4, 1) := by decide +kernel
theorem dX7_has_6 : decode cX7_has 6 = .ok (.if_icmp .ge 7, 3) := by decide +kernel
theorem dX7_has_9 : decode cX7_has 9 = .ok (.iconst 1, 1) := by decide +kernel
theorem dX7_has_10 : decode cX7_has 10 = .ok (.goto 4, 3) := by decide +kernel
theorem dX7_has_13 : decode cX7_has 13 = .ok (.iconst 0, 1) := by decide +kernel
theorem dX7_has_14 : decode cX7_has 14 = .ok (.ireturn, 1) := by decide +kernel
theorem dX7_isMissing_0 : decode cX7_isMissing 0 = .ok (.aload_n 0, 1) := by decide +kernel
theorem dX7_isMissing_1 : decode cX7_isMissing 1 = .ok (.getfield 16, 3) := by decide +kernel
theorem dX7_isMissing_4 : decode cX7_isMissing 4 = .ok (.iload_n 1, 1) := by decide +kernel
theorem dX7_isMissing_5 : decode cX7_isMissing 5 = .ok (.iaload, 1) := by decide +kernel
theorem dX7_isMissing_6 : decode cX7_isMissing 6 = .ok (.iconst (-1), 1) := by decide +kernel
theorem dX7_isMissing_7 : decode cX7_isMissing 7 = .ok (.if_icmp .ne 7, 3) := by decide +kernel
theorem dX7_isMissing_10 : decode cX7_isMissing 10 = .ok (.iconst 1, 1) := by decide +kernel
theorem dX7_isMissing_11 : decode cX7_isMissing 11 = .ok (.goto 4, 3) := by decide +kernel
theorem dX7_isMissing_14 : decode cX7_isMissing 14 = .ok (.iconst 0, 1) := by decide +kernel
theorem dX7_isMissing_15 : decode cX7_isMissing 15 = .ok (.ireturn, 1) := by decide +kernel
theorem dX7_begin_0 : decode cX7_begin 0 = .ok (.aload_n 0, 1) := by decide +kernel
theorem dX7_begin_1 : decode cX7_begin 1 = .ok (.getfield 16, 3) := by decide +kernel
theorem dX7_begin_4 : decode cX7_begin 4 = .ok (.iload_n 1, 1) := by decide +kernel
theorem dX7_begin_5 : decode cX7_begin 5 = .ok (.iload_n 2, 1) := by decide +kernel
theorem dX7_begin_6 : decode cX7_begin 6 = .ok (.iastore, 1) := by decide +kernel
theorem dX7_begin_7 : decode cX7_begin 7 = .ok (.aload_n 0, 1) := by decide +kernel
theorem dX7_begin_8 : decode cX7_begin 8 = .ok (.getfield 20, 3) := by decide +kernel
theorem dX7_begin_11 : decode cX7_begin 11 = .ok (.iload_n 1, 1) := by decide +kernel
theorem dX7_begin_12 : decode cX7_begin 12 = .ok (.iload_n 3, 1) := by decide +kernel
theorem dX7_begin_13 : decode cX7_begin 13 = .ok (.iastore, 1) := by decide +kernel
theorem dX7_begin_14 : decode cX7_begin 14 = .ok (.aload_n 0, 1) := by decide +kernel
theorem dX7_begin_15 : decode cX7_begin 15 = .ok (.getfield 11, 3) := by decide +kernel
theorem dX7_begin_18 : decode cX7_begin 18 = .ok (.iload_n 1, 1) := by decide +kernel
theorem dX7_begin_19 : decode cX7_begin 19 = .ok (.aaload, 1) := by decide +kernel
theorem dX7_begin_20 : decode cX7_begin 20 = .ok (.iconst 0, 1) := by decide +kernel
theorem dX7_begin_21 : decode cX7_begin 21 = .ok (.invokestatic 23, 3) := by decide +kernel
theorem dX7_begin_24 : decode cX7_begin 24 = .ok (.return_, 1) := by decide +kernel
theorem dX7_refusal_0 : decode cX7_refusal 0 = .ok (.aload_n 0, 1) := by decide +kernel
theorem dX7_refusal_1 : decode cX7_refusal 1 = .ok (.iload_n 1, 1) := by decide +kernel
theorem dX7_refusal_2 : decode cX7_refusal 2 = .ok (.invokevirtual 29, 3) := by decide +kernel
theorem dX7_refusal_5 : decode cX7_refusal 5 = .ok (.ifCond .ne 6, 3) := by decide +kernel
theorem dX7_refusal_8 : decode cX7_refusal 8 = .ok (.bipush (-2), 2) := by decide +kernel
theorem dX7_refusal_10 : decode cX7_refusal 10 = .ok (.ireturn, 1) := by decide +kernel
theorem dX7_refusal_11 : decode cX7_refusal 11 = .ok (.aload_n 0, 1) := by decide +kernel
theorem dX7_refusal_12 : decode cX7_refusal 12 = .ok (.iload_n 1, 1) := by decide +kernel
theorem dX7_refusal_13 : decode cX7_refusal 13 = .ok (.invokevirtual 33, 3) := by decide +kernel
theorem dX7_refusal_16 : decode cX7_refusal 16 = .ok (.ifCond .eq 6, 3) := by decide +kernel
theorem dX7_refusal_19 : decode cX7_refusal 19 = .ok (.bipush (-11), 2) := by decide +kernel
theorem dX7_refusal_21 : decode cX7_refusal 21 = .ok (.ireturn, 1) := by decide +kernel
theorem dX7_refusal_22 : decode cX7_refusal 22 = .ok (.iload_n 2, 1) := by decide +kernel
theorem dX7_refusal_23 : decode cX7_refusal 23 = .ok (.ifCond .lt 17, 3) := by decide +kernel
theorem dX7_refusal_26 : decode cX7_refusal 26 = .ok (.iload_n 2, 1) := by decide +kernel
theorem dX7_refusal_27 : decode cX7_refusal 27 = .ok (.aload_n 0, 1) := by decide +kernel
theorem dX7_refusal_28 : decode cX7_refusal 28 = .ok (.getfield 20, 3) := by decide +kernel
theorem dX7_refusal_31 : decode cX7_refusal 31 = .ok (.iload_n 1, 1) := by decide +kernel
theorem dX7_refusal_32 : decode cX7_refusal 32 = .ok (.iaload, 1) := by decide +kernel
theorem dX7_refusal_33 : decode cX7_refusal 33 = .ok (.if_icmp .ge 7, 3) := by decide +kernel
theorem dX7_refusal_36 : decode cX7_refusal 36 = .ok (.iconst 0, 1) := by decide +kernel
theorem dX7_refusal_37 : decode cX7_refusal 37 = .ok (.goto 5, 3) := by decide +kernel
theorem dX7_refusal_40 : decode cX7_refusal 40 = .ok (.bipush (-12), 2) := by decide +kernel
theorem dX7_refusal_42 : decode cX7_refusal 42 = .ok (.ireturn, 1) := by decide +kernel
theorem dX7_hasRange_0 : decode cX7_hasRange 0 = .ok (.iload_n 3, 1) := by decide +kernel
theorem dX7_hasRange_1 : decode cX7_hasRange 1 = .ok (.ifCond .lt 33, 3) := by decide +kernel
theorem dX7_hasRange_4 : decode cX7_hasRange 4 = .ok (.iload_n 2, 1) := by decide +kernel
theorem dX7_hasRange_5 : decode cX7_hasRange 5 = .ok (.ifCond .lt 29, 3) := by decide +kernel
theorem dX7_hasRange_8 : decode cX7_hasRange 8 = .ok (.iload_n 2, 1) := by decide +kernel
theorem dX7_hasRange_9 : decode cX7_hasRange 9 = .ok (.aload_n 0, 1) := by decide +kernel
theorem dX7_hasRange_10 : decode cX7_hasRange 10 = .ok (.getfield 20, 3) := by decide +kernel
theorem dX7_hasRange_13 : decode cX7_hasRange 13 = .ok (.iload_n 1, 1) := by decide +kernel
theorem dX7_hasRange_14 : decode cX7_hasRange 14 = .ok (.iaload, 1) := by decide +kernel
theorem dX7_hasRange_15 : decode cX7_hasRange 15 = .ok (.if_icmp .gt 19, 3) := by decide +kernel
theorem dX7_hasRange_18 : decode cX7_hasRange 18 = .ok (.iload_n 3, 1) := by decide +kernel
theorem dX7_hasRange_19 : decode cX7_hasRange 19 = .ok (.aload_n 0, 1) := by decide +kernel
theorem dX7_hasRange_20 : decode cX7_hasRange 20 = .ok (.getfield 20, 3) := by decide +kernel
theorem dX7_hasRange_23 : decode cX7_hasRange 23 = .ok (.iload_n 1, 1) := by decide +kernel
theorem dX7_hasRange_24 : decode cX7_hasRange 24 = .ok (.iaload, 1) := by decide +kernel
theorem dX7_hasRange_25 : decode cX7_hasRange 25 = .ok (.iload_n 2, 1) := by decide +kernel
theorem dX7_hasRange_26 : decode cX7_hasRange 26 = .ok (.isub, 1) := by decide +kernel
theorem dX7_hasRange_27 : decode cX7_hasRange 27 = .ok (.if_icmp .gt 7, 3) := by decide +kernel
theorem dX7_hasRange_30 : decode cX7_hasRange 30 = .ok (.iconst 1, 1) := by decide +kernel
theorem dX7_hasRange_31 : decode cX7_hasRange 31 = .ok (.goto 4, 3) := by decide +kernel
theorem dX7_hasRange_34 : decode cX7_hasRange 34 = .ok (.iconst 0, 1) := by decide +kernel
theorem dX7_hasRange_35 : decode cX7_hasRange 35 = .ok (.ireturn, 1) := by decide +kernel
theorem dX7_put_0 : decode cX7_put 0 = .ok (.iload_n 3, 1) := by decide +kernel
theorem dX7_put_1 : decode cX7_put 1 = .ok (.istore 4, 2) := by decide +kernel
theorem dX7_put_3 : decode cX7_put 3 = .ok (.aload_n 0, 1) := by decide +kernel
theorem dX7_put_4 : decode cX7_put 4 = .ok (.getfield 16, 3) := by decide +kernel
theorem dX7_put_7 : decode cX7_put 7 = .ok (.iload_n 1, 1) := by decide +kernel
theorem dX7_put_8 : decode cX7_put 8 = .ok (.iaload, 1) := by decide +kernel
theorem dX7_put_9 : decode cX7_put 9 = .ok (.ifCond .ne 7, 3) := by decide +kernel
theorem dX7_put_12 : decode cX7_put 12 = .ok (.iload_n 3, 1) := by decide +kernel
theorem dX7_put_13 : decode cX7_put 13 = .ok (.i2b, 1) := by decide +kernel
theorem dX7_put_14 : decode cX7_put 14 = .ok (.istore 4, 2) := by decide +kernel
theorem dX7_put_16 : decode cX7_put 16 = .ok (.aload_n 0, 1) := by decide +kernel
theorem dX7_put_17 : decode cX7_put 17 = .ok (.getfield 16, 3) := by decide +kernel
theorem dX7_put_20 : decode cX7_put 20 = .ok (.iload_n 1, 1) := by decide +kernel
theorem dX7_put_21 : decode cX7_put 21 = .ok (.iaload, 1) := by decide +kernel
theorem dX7_put_22 : decode cX7_put 22 = .ok (.iconst 1, 1) := by decide +kernel
theorem dX7_put_23 : decode cX7_put 23 = .ok (.if_icmp .ne 7, 3) := by decide +kernel
theorem dX7_put_26 : decode cX7_put 26 = .ok (.iload_n 3, 1) := by decide +kernel
theorem dX7_put_27 : decode cX7_put 27 = .ok (.i2s, 1) := by decide +kernel
theorem dX7_put_28 : decode cX7_put 28 = .ok (.istore 4, 2) := by decide +kernel
theorem dX7_put_30 : decode cX7_put 30 = .ok (.aload_n 0, 1) := by decide +kernel
theorem dX7_put_31 : decode cX7_put 31 = .ok (.getfield 11, 3) := by decide +kernel
theorem dX7_put_34 : decode cX7_put 34 = .ok (.iload_n 1, 1) := by decide +kernel
theorem dX7_put_35 : decode cX7_put 35 = .ok (.aaload, 1) := by decide +kernel
theorem dX7_put_36 : decode cX7_put 36 = .ok (.iload_n 2, 1) := by decide +kernel
theorem dX7_put_37 : decode cX7_put 37 = .ok (.iload 4, 2) := by decide +kernel
theorem dX7_put_39 : decode cX7_put 39 = .ok (.iastore, 1) := by decide +kernel
theorem dX7_put_40 : decode cX7_put 40 = .ok (.return_, 1) := by decide +kernel
theorem dX8_init_0 : decode cX8_init 0 = .ok (.aload_n 0, 1) := by decide +kernel
theorem dX8_init_1 : decode cX8_init 1 = .ok (.invokespecial 3, 3) := by decide +kernel
theorem dX8_init_4 : decode cX8_init 4 = .ok (.aload_n 0, 1) := by decide +kernel
theorem dX8_init_5 : decode cX8_init 5 = .ok (.iconst 4, 1) := by decide +kernel
theorem dX8_init_6 : decode cX8_init 6 = .ok (.newarray .int, 2) := by decide +kernel
theorem dX8_init_8 : decode cX8_init 8 = .ok (.putfield 9, 3) := by decide +kernel
theorem dX8_init_11 : decode cX8_init 11 = .ok (.aload_n 0, 1) := by decide +kernel
theorem dX8_init_12 : decode cX8_init 12 = .ok (.iconst 4, 1) := by decide +kernel
theorem dX8_init_13 : decode cX8_init 13 = .ok (.newarray .int, 2) := by decide +kernel
theorem dX8_init_15 : decode cX8_init 15 = .ok (.putfield 15, 3) := by decide +kernel
theorem dX8_init_18 : decode cX8_init 18 = .ok (.aload_n 0, 1) := by decide +kernel
theorem dX8_init_19 : decode cX8_init 19 = .ok (.iconst 4, 1) := by decide +kernel
theorem dX8_init_20 : decode cX8_init 20 = .ok (.newarray .int, 2) := by decide +kernel
theorem dX8_init_22 : decode cX8_init 22 = .ok (.putfield 18, 3) := by decide +kernel
theorem dX8_init_25 : decode cX8_init 25 = .ok (.return_, 1) := by decide +kernel
theorem dX8_has_0 : decode cX8_has 0 = .ok (.iload_n 1, 1) := by decide +kernel
theorem dX8_has_1 : decode cX8_has 1 = .ok (.ifCond .lt 12, 3) := by decide +kernel
theorem dX8_has_4 : decode cX8_has 4 = .ok (.iload_n 1, 1) := by decide +kernel
theorem dX8_has_5 : decode cX8_has 5 = .ok (.iconst 4, 1) := by decide +kernel
theorem dX8_has_6 : decode cX8_has 6 = .ok (.if_icmp .ge 7, 3) := by decide +kernel
theorem dX8_has_9 : decode cX8_has 9 = .ok (.iconst 1, 1) := by decide +kernel
theorem dX8_has_10 : decode cX8_has 10 = .ok (.goto 4, 3) := by decide +kernel
theorem dX8_has_13 : decode cX8_has 13 = .ok (.iconst 0, 1) := by decide +kernel
theorem dX8_has_14 : decode cX8_has 14 = .ok (.ireturn, 1) := by decide +kernel
theorem dX8_holdPoint_0 : decode cX8_holdPoint 0 = .ok (.aload_n 0, 1) := by decide +kernel
theorem dX8_holdPoint_1 : decode cX8_holdPoint 1 = .ok (.getfield 9, 3) := by decide +kernel
theorem dX8_holdPoint_4 : decode cX8_holdPoint 4 = .ok (.iload_n 1, 1) := by decide +kernel
theorem dX8_holdPoint_5 : decode cX8_holdPoint 5 = .ok (.iconst 1, 1) := by decide +kernel
theorem dX8_holdPoint_6 : decode cX8_holdPoint 6 = .ok (.iastore, 1) := by decide +kernel
theorem dX8_holdPoint_7 : decode cX8_holdPoint 7 = .ok (.aload_n 0, 1) := by decide +kernel
theorem dX8_holdPoint_8 : decode cX8_holdPoint 8 = .ok (.getfield 18, 3) := by decide +kernel
theorem dX8_holdPoint_11 : decode cX8_holdPoint 11 = .ok (.iload_n 1, 1) := by decide +kernel
theorem dX8_holdPoint_12 : decode cX8_holdPoint 12 = .ok (.iload_n 2, 1) := by decide +kernel
theorem dX8_holdPoint_13 : decode cX8_holdPoint 13 = .ok (.iastore, 1) := by decide +kernel
theorem dX8_holdPoint_14 : decode cX8_holdPoint 14 = .ok (.return_, 1) := by decide +kernel
theorem dX8_holdRow_0 : decode cX8_holdRow 0 = .ok (.aload_n 0, 1) := by decide +kernel
theorem dX8_holdRow_1 : decode cX8_holdRow 1 = .ok (.getfield 9, 3) := by decide +kernel
theorem dX8_holdRow_4 : decode cX8_holdRow 4 = .ok (.iload_n 1, 1) := by decide +kernel
theorem dX8_holdRow_5 : decode cX8_holdRow 5 = .ok (.iload_n 2, 1) := by decide +kernel
theorem dX8_holdRow_6 : decode cX8_holdRow 6 = .ok (.iconst (-1), 1) := by decide +kernel
theorem dX8_holdRow_7 : decode cX8_holdRow 7 = .ok (.if_icmp .ne 7, 3) := by decide +kernel
theorem dX8_holdRow_10 : decode cX8_holdRow 10 = .ok (.iconst 0, 1) := by decide +kernel
theorem dX8_holdRow_11 : decode cX8_holdRow 11 = .ok (.goto 4, 3) := by decide +kernel
theorem dX8_holdRow_14 : decode cX8_holdRow 14 = .ok (.iconst 2, 1) := by decide +kernel
theorem dX8_holdRow_15 : decode cX8_holdRow 15 = .ok (.iastore, 1) := by decide +kernel
theorem dX8_holdRow_16 : decode cX8_holdRow 16 = .ok (.aload_n 0, 1) := by decide +kernel
theorem dX8_holdRow_17 : decode cX8_holdRow 17 = .ok (.getfield 15, 3) := by decide +kernel
theorem dX8_holdRow_20 : decode cX8_holdRow 20 = .ok (.iload_n 1, 1) := by decide +kernel
theorem dX8_holdRow_21 : decode cX8_holdRow 21 = .ok (.iload_n 2, 1) := by decide +kernel
theorem dX8_holdRow_22 : decode cX8_holdRow 22 = .ok (.iastore, 1) := by decide +kernel
theorem dX8_holdRow_23 : decode cX8_holdRow 23 = .ok (.aload_n 0, 1) := by decide +kernel
theorem dX8_holdRow_24 : decode cX8_holdRow 24 = .ok (.getfield 18, 3) := by decide +kernel
theorem dX8_holdRow_27 : decode cX8_holdRow 27 = .ok (.iload_n 1, 1) := by decide +kernel
theorem dX8_holdRow_28 : decode cX8_holdRow 28 = .ok (.iload_n 3, 1) := by decide +kernel
theorem dX8_holdRow_29 : decode cX8_holdRow 29 = .ok (.iastore, 1) := by decide +kernel
theorem dX8_holdRow_30 : decode cX8_holdRow 30 = .ok (.return_, 1) := by decide +kernel
theorem dX8_holdNothing_0 : decode cX8_holdNothing 0 = .ok (.aload_n 0, 1) := by decide +kernel
theorem dX8_holdNothing_1 : decode cX8_holdNothing 1 = .ok (.getfield 9, 3) := by decide +kernel
theorem dX8_holdNothing_4 : decode cX8_holdNothing 4 = .ok (.iload_n 1, 1) := by decide +kernel
theorem dX8_holdNothing_5 : decode cX8_holdNothing 5 = .ok (.iconst 0, 1) := by decide +kernel
theorem dX8_holdNothing_6 : decode cX8_holdNothing 6 = .ok (.iastore, 1) := by decide +kernel
theorem dX8_holdNothing_7 : decode cX8_holdNothing 7 = .ok (.return_, 1) := by decide +kernel
theorem dX9_init_0 : decode cX9_init 0 = .ok (.aload_n 0, 1) := by decide +kernel
theorem dX9_init_1 : decode cX9_init 1 = .ok (.invokespecial 3, 3) := by decide +kernel
theorem dX9_init_4 : decode cX9_init 4 = .ok (.aload_n 0, 1) := by decide +kernel
theorem dX9_init_5 : decode cX9_init 5 = .ok (.sipush 200, 3) := by decide +kernel
theorem dX9_init_8 : decode cX9_init 8 = .ok (.newarray .int, 2) := by decide +kernel
theorem dX9_init_10 : decode cX9_init 10 = .ok (.putfield 9, 3) := by decide +kernel
theorem dX9_init_13 : decode cX9_init 13 = .ok (.aload_n 0, 1) := by decide +kernel
theorem dX9_init_14 : decode cX9_init 14 = .ok (.bipush 20, 2) := by decide +kernel
theorem dX9_init_16 : decode cX9_init 16 = .ok (.newarray .int, 2) := by decide +kernel
theorem dX9_init_18 : decode cX9_init 18 = .ok (.putfield 15, 3) := by decide +kernel
theorem dX9_init_21 : decode cX9_init 21 = .ok (.aload_n 0, 1) := by decide +kernel
theorem dX9_init_22 : decode cX9_init 22 = .ok (.iconst 0, 1) := by decide +kernel
theorem dX9_init_23 : decode cX9_init 23 = .ok (.putfield 18, 3) := by decide +kernel
theorem dX9_init_26 : decode cX9_init 26 = .ok (.aload_n 0, 1) := by decide +kernel
theorem dX9_init_27 : decode cX9_init 27 = .ok (.iconst 0, 1) := by decide +kernel
theorem dX9_init_28 : decode cX9_init 28 = .ok (.putfield 22, 3) := by decide +kernel
theorem dX9_init_31 : decode cX9_init 31 = .ok (.return_, 1) := by decide +kernel
theorem dX9_put_0 : decode cX9_put 0 = .ok (.aload_n 0, 1) := by decide +kernel
theorem dX9_put_1 : decode cX9_put 1 = .ok (.getfield 22, 3) := by decide +kernel
theorem dX9_put_4 : decode cX9_put 4 = .ok (.sipush 200, 3) := by decide +kernel
theorem dX9_put_7 : decode cX9_put 7 = .ok (.if_icmp .lt 4, 3) := by decide +kernel
theorem dX9_put_10 : decode cX9_put 10 = .ok (.return_, 1) := by decide +kernel
theorem dX9_put_11 : decode cX9_put 11 = .ok (.aload_n 0, 1) := by decide +kernel
theorem dX9_put_12 : decode cX9_put 12 = .ok (.getfield 9, 3) := by decide +kernel
theorem dX9_put_15 : decode cX9_put 15 = .ok (.aload_n 0, 1) := by decide +kernel
theorem dX9_put_16 : decode cX9_put 16 = .ok (.getfield 22, 3) := by decide +kernel
theorem dX9_put_19 : decode cX9_put 19 = .ok (.iload_n 1, 1) := by decide +kernel
theorem dX9_put_20 : decode cX9_put 20 = .ok (.iastore, 1) := by decide +kernel
theorem dX9_put_21 : decode cX9_put 21 = .ok (.aload_n 0, 1) := by decide +kernel
theorem dX9_put_22 : decode cX9_put 22 = .ok (.dup, 1) := by decide +kernel
theorem dX9_put_23 : decode cX9_put 23 = .ok (.getfield 22, 3) := by decide +kernel
theorem dX9_put_26 : decode cX9_put 26 = .ok (.iconst 1, 1) := by decide +kernel
theorem dX9_put_27 : decode cX9_put 27 = .ok (.iadd, 1) := by decide +kernel
theorem dX9_put_28 : decode cX9_put 28 = .ok (.putfield 22, 3) := by decide +kernel
theorem dX9_put_31 : decode cX9_put 31 = .ok (.return_, 1) := by decide +kernel
theorem dX9_fault_0 : decode cX9_fault 0 = .ok (.iconst 0, 1) := by decide +kernel
theorem dX9_fault_1 : decode cX9_fault 1 = .ok (.istore_n 2, 1) := by decide +kernel
theorem dX9_fault_2 : decode cX9_fault 2 = .ok (.iconst 0, 1) := by decide +kernel
theorem dX9_fault_3 : decode cX9_fault 3 = .ok (.istore_n 3, 1) := by decide +kernel
theorem dX9_fault_4 : decode cX9_fault 4 = .ok (.aload_n 1, 1) := by decide +kernel
theorem dX9_fault_5 : decode cX9_fault 5 = .ok (.iconst 0, 1) := by decide +kernel
theorem dX9_fault_6 : decode cX9_fault 6 = .ok (.putfield 25, 3) := by decide +kernel
theorem dX9_fault_9 : decode cX9_fault 9 = .ok (.aload_n 0, 1) := by decide +kernel
theorem dX9_fault_10 : decode cX9_fault 10 = .ok (.iconst 0, 1) := by decide +kernel
theorem dX9_fault_11 : decode cX9_fault 11 = .ok (.putfield 18, 3) := by decide +kernel
theorem dX9_fault_14 : decode cX9_fault 14 = .ok (.iconst 0, 1) := by decide +kernel
theorem dX9_fault_15 : decode cX9_fault 15 = .ok (.istore 4, 2) := by decide +kernel
theorem dX9_fault_17 : decode cX9_fault 17 = .ok (.iload 4, 2) := by decide +kernel
theorem dX9_fault_19 : decode cX9_fault 19 = .ok (.sipush 200, 3) := by decide +kernel
theorem dX9_fault_22 : decode cX9_fault 22 = .ok (.if_icmp .ge 55, 3) := by decide +kernel
theorem dX9_fault_25 : decode cX9_fault 25 = .ok (.iload_n 3, 1) := by decide +kernel
theorem dX9_fault_26 : decode cX9_fault 26 = .ok (.aload_n 0, 1) := by decide +kernel
theorem dX9_fault_27 : decode cX9_fault 27 = .ok (.getfield 22, 3) := by decide +kernel
theorem dX9_fault_30 : decode cX9_fault 30 = .ok (.if_icmp .ge 47, 3) := by decide +kernel
theorem dX9_fault_33 : decode cX9_fault 33 = .ok (.aload_n 0, 1) := by decide +kernel
theorem dX9_fault_34 : decode cX9_fault 34 = .ok (.iload_n 3, 1) := by decide +kernel
theorem dX9_fault_35 : decode cX9_fault 35 = .ok (.invokevirtual 28, 3) := by decide +kernel
theorem dX9_fault_38 : decode cX9_fault 38 = .ok (.istore 5, 2) := by decide +kernel
theorem dX9_fault_40 : decode cX9_fault 40 = .ok (.aload_n 0, 1) := by decide +kernel
theorem dX9_fault_41 : decode cX9_fault 41 = .ok (.getfield 9, 3) := by decide +kernel
theorem dX9_fault_44 : decode cX9_fault 44 = .ok (.iload_n 3, 1) := by decide +kernel
theorem dX9_fault_45 : decode cX9_fault 45 = .ok (.iaload, 1) := by decide +kernel
theorem dX9_fault_46 : decode cX9_fault 46 = .ok (.bipush 32, 2) := by decide +kernel
theorem dX9_fault_48 : decode cX9_fault 48 = .ok (.if_icmp .eq 13, 3) := by decide +kernel
theorem dX9_fault_51 : decode cX9_fault 51 = .ok (.aload_n 0, 1) := by decide +kernel
theorem dX9_fault_52 : decode cX9_fault 52 = .ok (.iload_n 2, 1) := by decide +kernel
theorem dX9_fault_53 : decode cX9_fault 53 = .ok (.iload_n 3, 1) := by decide +kernel
theorem dX9_fault_54 : decode cX9_fault 54 = .ok (.iload 5, 2) := by decide +kernel
theorem dX9_fault_56 : decode cX9_fault 56 = .ok (.aload_n 1, 1) := by decide +kernel
theorem dX9_fault_57 : decode cX9_fault 57 = .ok (.invokevirtual 32, 3) := by decide +kernel
theorem dX9_fault_60 : decode cX9_fault 60 = .ok (.istore_n 2, 1) := by decide +kernel
theorem dX9_fault_61 : decode cX9_fault 61 = .ok (.iload_n 2, 1) := by decide +kernel
theorem dX9_fault_62 : decode cX9_fault 62 = .ok (.iconst 5, 1) := by decide +kernel
theorem dX9_fault_63 : decode cX9_fault 63 = .ok (.if_icmp .ne 5, 3) := by decide +kernel
theorem dX9_fault_66 : decode cX9_fault 66 = .ok (.iload_n 3, 1) := by decide +kernel
theorem dX9_fault_67 : decode cX9_fault 67 = .ok (.ireturn, 1) := by decide +kernel
theorem dX9_fault_68 : decode cX9_fault 68 = .ok (.iload 5, 2) := by decide +kernel
theorem dX9_fault_70 : decode cX9_fault 70 = .ok (.istore_n 3, 1) := by decide +kernel
theorem dX9_fault_71 : decode cX9_fault 71 = .ok (.iinc 4 1, 3) := by decide +kernel
theorem dX9_fault_74 : decode cX9_fault 74 = .ok (.goto (-57), 3) := by decide +kernel
theorem dX9_fault_77 : decode cX9_fault 77 = .ok (.iload_n 2, 1) := by decide +kernel
theorem dX9_fault_78 : decode cX9_fault 78 = .ok (.iconst 4, 1) := by decide +kernel
theorem dX9_fault_79 : decode cX9_fault 79 = .ok (.if_icmp .ne 7, 3) := by decide +kernel
theorem dX9_fault_82 : decode cX9_fault 82 = .ok (.iconst (-1), 1) := by decide +kernel
theorem dX9_fault_83 : decode cX9_fault 83 = .ok (.goto 7, 3) := by decide +kernel
theorem dX9_fault_86 : decode cX9_fault 86 = .ok (.aload_n 0, 1) := by decide +kernel
theorem dX9_fault_87 : decode cX9_fault 87 = .ok (.getfield 22, 3) := by decide +kernel
theorem dX9_fault_90 : decode cX9_fault 90 = .ok (.ireturn, 1) := by decide +kernel
theorem dX9_isLetter_0 : decode cX9_isLetter 0 = .ok (.iload_n 0, 1) := by decide +kernel
theorem dX9_isLetter_1 : decode cX9_isLetter 1 = .ok (.bipush 97, 2) := by decide +kernel
theorem dX9_isLetter_3 : decode cX9_isLetter 3 = .ok (.if_icmp .lt 13, 3) := by decide +kernel
theorem dX9_isLetter_6 : decode cX9_isLetter 6 = .ok (.iload_n 0, 1) := by decide +kernel
theorem dX9_isLetter_7 : decode cX9_isLetter 7 = .ok (.bipush 122, 2) := by decide +kernel
theorem dX9_isLetter_9 : decode cX9_isLetter 9 = .ok (.if_icmp .gt 7, 3) := by decide +kernel
theorem dX9_isLetter_12 : decode cX9_isLetter 12 = .ok (.iconst 1, 1) := by decide +kernel
theorem dX9_isLetter_13 : decode cX9_isLetter 13 = .ok (.goto 4, 3) := by decide +kernel
theorem dX9_isLetter_16 : decode cX9_isLetter 16 = .ok (.iconst 0, 1) := by decide +kernel
theorem dX9_isLetter_17 : decode cX9_isLetter 17 = .ok (.ireturn, 1) := by decide +kernel
theorem dX9_isDigit_0 : decode cX9_isDigit 0 = .ok (.iload_n 0, 1) := by decide +kernel
theorem dX9_isDigit_1 : decode cX9_isDigit 1 = .ok (.bipush 48, 2) := by decide +kernel
theorem dX9_isDigit_3 : decode cX9_isDigit 3 = .ok (.if_icmp .lt 13, 3) := by decide +kernel
theorem dX9_isDigit_6 : decode cX9_isDigit 6 = .ok (.iload_n 0, 1) := by decide +kernel
theorem dX9_isDigit_7 : decode cX9_isDigit 7 = .ok (.bipush 57, 2) := by decide +kernel
theorem dX9_isDigit_9 : decode cX9_isDigit 9 = .ok (.if_icmp .gt 7, 3) := by decide +kernel
theorem dX9_isDigit_12 : decode cX9_isDigit 12 = .ok (.iconst 1, 1) := by decide +kernel
theorem dX9_isDigit_13 : decode cX9_isDigit 13 = .ok (.goto 4, 3) := by decide +kernel
theorem dX9_isDigit_16 : decode cX9_isDigit 16 = .ok (.iconst 0, 1) := by decide +kernel
theorem dX9_isDigit_17 : decode cX9_isDigit 17 = .ok (.ireturn, 1) := by decide +kernel
theorem dX9_endOfToken_0 : decode cX9_endOfToken 0 = .ok (.iload_n 1, 1) := by decide +kernel
theorem dX9_endOfToken_1 : decode cX9_endOfToken 1 = .ok (.iconst 1, 1) := by decide +kernel
theorem dX9_endOfToken_2 : decode cX9_endOfToken 2 = .ok (.iadd, 1) := by decide +kernel
theorem dX9_endOfToken_3 : decode cX9_endOfToken 3 = .ok (.istore_n 2, 1) := by decide +kernel
theorem dX9_endOfToken_4 : decode cX9_endOfToken 4 = .ok (.aload_n 0, 1) := by decide +kernel
theorem dX9_endOfToken_5 : decode cX9_endOfToken 5 = .ok (.getfield 9, 3) := by decide +kernel
theorem dX9_endOfToken_8 : decode cX9_endOfToken 8 = .ok (.iload_n 1, 1) := by decide +kernel
theorem dX9_endOfToken_9 : decode cX9_endOfToken 9 = .ok (.iaload, 1) := by decide +kernel
theorem dX9_endOfToken_10 : decode cX9_endOfToken 10 = .ok (.invokestatic 36, 3) := by decide +kernel
theorem dX9_endOfToken_13 : decode cX9_endOfToken 13 = .ok (.ifCond .eq 29, 3) := by decide +kernel
theorem dX9_endOfToken_16 : decode cX9_endOfToken 16 = .ok (.iload_n 2, 1) := by decide +kernel
theorem dX9_endOfToken_17 : decode cX9_endOfToken 17 = .ok (.aload_n 0, 1) := by decide +kernel
theorem dX9_endOfToken_18 : decode cX9_endOfToken 18 = .ok (.getfield 22, 3) := by decide +kernel
theorem dX9_endOfToken_21 : decode cX9_endOfToken 21 = .ok (.if_icmp .ge 59, 3) := by decide +kernel
theorem dX9_endOfToken_24 : decode cX9_endOfToken 24 = .ok (.aload_n 0, 1) := by decide +kernel
theorem dX9_endOfToken_25 : decode cX9_endOfToken 25 = .ok (.getfield 9, 3) := by decide +kernel
theorem dX9_endOfToken_28 : decode cX9_endOfToken 28 = .ok (.iload_n 2, 1) := by decide +kernel
theorem dX9_endOfToken_29 : decode cX9_endOfToken 29 = .ok (.iaload, 1) := by decide +kernel
theorem dX9_endOfToken_30 : decode cX9_endOfToken 30 = .ok (.invokestatic 36, 3) := by decide +kernel
theorem dX9_endOfToken_33 : decode cX9_endOfToken 33 = .ok (.ifCond .eq 47, 3) := by decide +kernel
theorem dX9_endOfToken_36 : decode cX9_endOfToken 36 = .ok (.iinc 2 1, 3) := by decide +kernel
theorem dX9_endOfToken_39 : decode cX9_endOfToken 39 = .ok (.goto (-23), 3) := by decide +kernel
theorem dX9_endOfToken_42 : decode cX9_endOfToken 42 = .ok (.aload_n 0, 1) := by decide +kernel
theorem dX9_endOfToken_43 : decode cX9_endOfToken 43 = .ok (.getfield 9, 3) := by decide +kernel
theorem dX9_endOfToken_46 : decode cX9_endOfToken 46 = .ok (.iload_n 1, 1) := by decide +kernel
theorem dX9_endOfToken_47 : decode cX9_endOfToken 47 = .ok (.iaload, 1) := by decide +kernel
theorem dX9_endOfToken_48 : decode cX9_endOfToken 48 = .ok (.invokestatic 40, 3) := by decide +kernel
theorem dX9_endOfToken_51 : decode cX9_endOfToken 51 = .ok (.ifCond .eq 29, 3) := by decide +kernel
theorem dX9_endOfToken_54 : decode cX9_endOfToken 54 = .ok (.iload_n 2, 1) := by decide +kernel
theorem dX9_endOfToken_55 : decode cX9_endOfToken 55 = .ok (.aload_n 0, 1) := by decide +kernel
theorem dX9_endOfToken_56 : decode cX9_endOfToken 56 = .ok (.getfield 22, 3) := by decide +kernel
theorem dX9_endOfToken_59 : decode cX9_endOfToken 59 = .ok (.if_icmp .ge 21, 3) := by decide +kernel
theorem dX9_endOfToken_62 : decode cX9_endOfToken 62 = .ok (.aload_n 0, 1) := by decide +kernel
theorem dX9_endOfToken_63 : decode cX9_endOfToken 63 = .ok (.getfield 9, 3) := by decide +kernel
theorem dX9_endOfToken_66 : decode cX9_endOfToken 66 = .ok (.iload_n 2, 1) := by decide +kernel
theorem dX9_endOfToken_67 : decode cX9_endOfToken 67 = .ok (.iaload, 1) := by decide +kernel
theorem dX9_endOfToken_68 : decode cX9_endOfToken 68 = .ok (.invokestatic 40, 3) := by decide +kernel
theorem dX9_endOfToken_71 : decode cX9_endOfToken 71 = .ok (.ifCond .eq 9, 3) := by decide +kernel
theorem dX9_endOfToken_74 : decode cX9_endOfToken 74 = .ok (.iinc 2 1, 3) := by decide +kernel
theorem dX9_endOfToken_77 : decode cX9_endOfToken 77 = .ok (.goto (-23), 3) := by decide +kernel
theorem dX9_endOfToken_80 : decode cX9_endOfToken 80 = .ok (.iload_n 2, 1) := by decide +kernel
theorem dX9_endOfToken_81 : decode cX9_endOfToken 81 = .ok (.ireturn, 1) := by decide +kernel
theorem dX9_behindToken_0 : decode cX9_behindToken 0 = .ok (.aload_n 0, 1) := by decide +kernel
theorem dX9_behindToken_1 : decode cX9_behindToken 1 = .ok (.getfield 9, 3) := by decide +kernel
theorem dX9_behindToken_4 : decode cX9_behindToken 4 = .ok (.iload_n 2, 1) := by decide +kernel
theorem dX9_behindToken_5 : decode cX9_behindToken 5 = .ok (.iaload, 1) := by decide +kernel
theorem dX9_behindToken_6 : decode cX9_behindToken 6 = .ok (.istore 5, 2) := by decide +kernel
theorem dX9_behindToken_8 : decode cX9_behindToken 8 = .ok (.iload 5, 2) := by decide +kernel
theorem dX9_behindToken_10 : decode cX9_behindToken 10 = .ok (.bipush 40, 2) := by decide +kernel
theorem dX9_behindToken_12 : decode cX9_behindToken 12 = .ok (.if_icmp .ne 11, 3) := by decide +kernel
theorem dX9_behindToken_15 : decode cX9_behindToken 15 = .ok (.aload_n 0, 1) := by decide +kernel
theorem dX9_behindToken_16 : decode cX9_behindToken 16 = .ok (.iload_n 1, 1) := by decide +kernel
theorem dX9_behindToken_17 : decode cX9_behindToken 17 = .ok (.aload 4, 2) := by decide +kernel
theorem dX9_behindToken_19 : decode cX9_behindToken 19 = .ok (.invokevirtual 43, 3) := by decide +kernel
theorem dX9_behindToken_22 : decode cX9_behindToken 22 = .ok (.ireturn, 1) := by decide +kernel
theorem dX9_behindToken_23 : decode cX9_behindToken 23 = .ok (.iload 5, 2) := by decide +kernel
theorem dX9_behindToken_25 : decode cX9_behindToken 25 = .ok (.bipush 41, 2) := by decide +kernel
theorem dX9_behindToken_27 : decode cX9_behindToken 27 = .ok (.if_icmp .ne 9, 3) := by decide +kernel
theorem dX9_behindToken_30 : decode cX9_behindToken 30 = .ok (.aload_n 0, 1) := by decide +kernel
theorem dX9_behindToken_31 : decode cX9_behindToken 31 = .ok (.iload_n 1, 1) := by decide +kernel
theorem dX9_behindToken_32 : decode cX9_behindToken 32 = .ok (.invokevirtual 47, 3) := by decide +kernel
theorem dX9_behindToken_35 : decode cX9_behindToken 35 = .ok (.ireturn, 1) := by decide +kernel
theorem dX9_behindToken_36 : decode cX9_behindToken 36 = .ok (.iload 5, 2) := by decide +kernel
theorem dX9_behindToken_38 : decode cX9_behindToken 38 = .ok (.invokestatic 36, 3) := by decide +kernel
theorem dX9_behindToken_41 : decode cX9_behindToken 41 = .ok (.ifCond .eq 32, 3) := by decide +kernel
theorem dX9_behindToken_44 : decode cX9_behindToken 44 = .ok (.iload_n 1, 1) := by decide +kernel
theorem dX9_behindToken_45 : decode cX9_behindToken 45 = .ok (.iconst 1, 1) := by decide +kernel
theorem dX9_behindToken_46 : decode cX9_behindToken 46 = .ok (.if_icmp .ne 27, 3) := by decide +kernel
theorem dX9_behindToken_49 : decode cX9_behindToken 49 = .ok (.aload_n 0, 1) := by decide +kernel
theorem dX9_behindToken_50 : decode cX9_behindToken 50 = .ok (.iload_n 2, 1) := by decide +kernel
theorem dX9_behindToken_51 : decode cX9_behindToken 51 = .ok (.iload_n 3, 1) := by decide +kernel
theorem dX9_behindToken_52 : decode cX9_behindToken 52 = .ok (.invokevirtual 50, 3) := by decide +kernel
theorem dX9_behindToken_55 : decode cX9_behindToken 55 = .ok (.istore 6, 2) := by decide +kernel
theorem dX9_behindToken_57 : decode cX9_behindToken 57 = .ok (.iload 6, 2) := by decide +kernel
theorem dX9_behindToken_59 : decode cX9_behindToken 59 = .ok (.ifCond .ge 5, 3) := by decide +kernel
theorem dX9_behindToken_62 : decode cX9_behindToken 62 = .ok (.iconst 5, 1) := by decide +kernel
theorem dX9_behindToken_63 : decode cX9_behindToken 63 = .ok (.ireturn, 1) := by decide +kernel
theorem dX9_behindToken_64 : decode cX9_behindToken 64 = .ok (.aload 4, 2) := by decide +kernel
theorem dX9_behindToken_66 : decode cX9_behindToken 66 = .ok (.iload 6, 2) := by decide +kernel
theorem dX9_behindToken_68 : decode cX9_behindToken 68 = .ok (.invokevirtual 54, 3) := by decide +kernel
theorem dX9_behindToken_71 : decode cX9_behindToken 71 = .ok (.iconst 2, 1) := by decide +kernel
theorem dX9_behindToken_72 : decode cX9_behindToken 72 = .ok (.ireturn, 1) := by decide +kernel
theorem dX9_behindToken_73 : decode cX9_behindToken 73 = .ok (.iload 5, 2) := by decide +kernel
theorem dX9_behindToken_75 : decode cX9_behindToken 75 = .ok (.invokestatic 40, 3) := by decide +kernel
theorem dX9_behindToken_78 : decode cX9_behindToken 78 = .ok (.ifCond .eq 41, 3) := by decide +kernel
theorem dX9_behindToken_81 : decode cX9_behindToken 81 = .ok (.iload_n 1, 1) := by decide +kernel
theorem dX9_behindToken_82 : decode cX9_behindToken 82 = .ok (.iconst 1, 1) := by decide +kernel
theorem dX9_behindToken_83 : decode cX9_behindToken 83 = .ok (.if_icmp .eq 8, 3) := by decide +kernel
theorem dX9_behindToken_86 : decode cX9_behindToken 86 = .ok (.iload_n 1, 1) := by decide +kernel
theorem dX9_behindToken_87 : decode cX9_behindToken 87 = .ok (.iconst 2, 1) := by decide +kernel
theorem dX9_behindToken_88 : decode cX9_behindToken 88 = .ok (.if_icmp .ne 31, 3) := by decide +kernel
theorem dX9_behindToken_91 : decode cX9_behindToken 91 = .ok (.iload_n 3, 1) := by decide +kernel
theorem dX9_behindToken_92 : decode cX9_behindToken 92 = .ok (.iload_n 2, 1) := by decide +kernel
theorem dX9_behindToken_93 : decode cX9_behindToken 93 = .ok (.isub, 1) := by decide +kernel
theorem dX9_behindToken_94 : decode cX9_behindToken 94 = .ok (.iconst 1, 1) := by decide +kernel
theorem dX9_behindToken_95 : decode cX9_behindToken 95 = .ok (.if_icmp .ne 10, 3) := by decide +kernel
theorem dX9_behindToken_98 : decode cX9_behindToken 98 = .ok (.iload 5, 2) := by decide +kernel
theorem dX9_behindToken_100 : decode cX9_behindToken 100 = .ok (.bipush 48, 2) := by decide +kernel
theorem dX9_behindToken_102 : decode cX9_behindToken 102 = .ok (.if_icmp .ne 5, 3) := by decide +kernel
theorem dX9_behindToken_105 : decode cX9_behindToken 105 = .ok (.iconst 5, 1) := by decide +kernel
theorem dX9_behindToken_106 : decode cX9_behindToken 106 = .ok (.ireturn, 1) := by decide +kernel
theorem dX9_behindToken_107 : decode cX9_behindToken 107 = .ok (.aload 4, 2) := by decide +kernel
theorem dX9_behindToken_109 : decode cX9_behindToken 109 = .ok (.iload 5, 2) := by decide +kernel
theorem dX9_behindToken_111 : decode cX9_behindToken 111 = .ok (.bipush 48, 2) := by decide +kernel
theorem dX9_behindToken_113 : decode cX9_behindToken 113 = .ok (.isub, 1) := by decide +kernel
theorem dX9_behindToken_114 : decode cX9_behindToken 114 = .ok (.invokevirtual 58, 3) := by decide +kernel
theorem dX9_behindToken_117 : decode cX9_behindToken 117 = .ok (.iconst 3, 1) := by decide +kernel
theorem dX9_behindToken_118 : decode cX9_behindToken 118 = .ok (.ireturn, 1) := by decide +kernel
theorem dX9_behindToken_119 : decode cX9_behindToken 119 = .ok (.iconst 5, 1) := by decide +kernel
theorem dX9_behindToken_120 : decode cX9_behindToken 120 = .ok (.ireturn, 1) := by decide +kernel
theorem dX9_behindOpening_0 : decode cX9_behindOpening 0 = .ok (.iload_n 1, 1) := by decide +kernel
theorem dX9_behindOpening_1 : decode cX9_behindOpening 1 = .ok (.iconst 4, 1) := by decide +kernel
theorem dX9_behindOpening_2 : decode cX9_behindOpening 2 = .ok (.if_icmp .eq 12, 3) := by decide +kernel
theorem dX9_behindOpening_5 : decode cX9_behindOpening 5 = .ok (.aload_n 0, 1) := by decide +kernel
theorem dX9_behindOpening_6 : decode cX9_behindOpening 6 = .ok (.getfield 18, 3) := by decide +kernel
theorem dX9_behindOpening_9 : decode cX9_behindOpening 9 = .ok (.bipush 20, 2) := by decide +kernel
theorem dX9_behindOpening_11 : decode cX9_behindOpening 11 = .ok (.if_icmp .lt 5, 3) := by decide +kernel
theorem dX9_behindOpening_14 : decode cX9_behindOpening 14 = .ok (.iconst 5, 1) := by decide +kernel
theorem dX9_behindOpening_15 : decode cX9_behindOpening 15 = .ok (.ireturn, 1) := by decide +kernel
theorem dX9_behindOpening_16 : decode cX9_behindOpening 16 = .ok (.aload_n 0, 1) := by decide +kernel
theorem dX9_behindOpening_17 : decode cX9_behindOpening 17 = .ok (.getfield 18, 3) := by decide +kernel
theorem dX9_behindOpening_20 : decode cX9_behindOpening 20 = .ok (.ifCond .ne 7, 3) := by decide +kernel
theorem dX9_behindOpening_23 : decode cX9_behindOpening 23 = .ok (.iconst (-1), 1) := by decide +kernel
theorem dX9_behindOpening_24 : decode cX9_behindOpening 24 = .ok (.goto 14, 3) := by decide +kernel
theorem dX9_behindOpening_27 : decode cX9_behindOpening 27 = .ok (.aload_n 0, 1) := by decide +kernel
theorem dX9_behindOpening_28 : decode cX9_behindOpening 28 = .ok (.getfield 15, 3) := by decide +kernel
theorem dX9_behindOpening_31 : decode cX9_behindOpening 31 = .ok (.aload_n 0, 1) := by decide +kernel
theorem dX9_behindOpening_32 : decode cX9_behindOpening 32 = .ok (.getfield 18, 3) := by decide +kernel
theorem dX9_behindOpening_35 : decode cX9_behindOpening 35 = .ok (.iconst 1, 1) := by decide +kernel
theorem dX9_behindOpening_36 : decode cX9_behindOpening 36 = .ok (.isub, 1) := by decide +kernel
theorem dX9_behindOpening_37 : decode cX9_behindOpening 37 = .ok (.iaload, 1) := by decide +kernel
theorem dX9_behindOpening_38 : decode cX9_behindOpening 38 = .ok (.istore_n 3, 1) := by decide +kernel
theorem dX9_behindOpening_39 : decode cX9_behindOpening 39 = .ok (.aload_n 2, 1) := by decide +kernel
theorem dX9_behindOpening_40 : decode cX9_behindOpening 40 = .ok (.iload_n 3, 1) := by decide +kernel
theorem dX9_behindOpening_41 : decode cX9_behindOpening 41 = .ok (.invokevirtual 61, 3) := by decide +kernel
theorem dX9_behindOpening_44 : decode cX9_behindOpening 44 = .ok (.ifCond .ne 5, 3) := by decide +kernel
theorem dX9_behindOpening_47 : decode cX9_behindOpening 47 = .ok (.iconst 5, 1) := by decide +kernel
theorem dX9_behindOpening_48 : decode cX9_behindOpening 48 = .ok (.ireturn, 1) := by decide +kernel
theorem dX9_behindOpening_49 : decode cX9_behindOpening 49 = .ok (.aload_n 0, 1) := by decide +kernel
theorem dX9_behindOpening_50 : decode cX9_behindOpening 50 = .ok (.getfield 15, 3) := by decide +kernel
theorem dX9_behindOpening_53 : decode cX9_behindOpening 53 = .ok (.aload_n 0, 1) := by decide +kernel
theorem dX9_behindOpening_54 : decode cX9_behindOpening 54 = .ok (.getfield 18, 3) := by decide +kernel
theorem dX9_behindOpening_57 : decode cX9_behindOpening 57 = .ok (.aload_n 2, 1) := by decide +kernel
theorem dX9_behindOpening_58 : decode cX9_behindOpening 58 = .ok (.getfield 25, 3) := by decide +kernel
theorem dX9_behindOpening_61 : decode cX9_behindOpening 61 = .ok (.iconst 1, 1) := by decide +kernel
theorem dX9_behindOpening_62 : decode cX9_behindOpening 62 = .ok (.isub, 1) := by decide +kernel
theorem dX9_behindOpening_63 : decode cX9_behindOpening 63 = .ok (.iastore, 1) := by decide +kernel
theorem dX9_behindOpening_64 : decode cX9_behindOpening 64 = .ok (.aload_n 0, 1) := by decide +kernel
theorem dX9_behindOpening_65 : decode cX9_behindOpening 65 = .ok (.dup, 1) := by decide +kernel
theorem dX9_behindOpening_66 : decode cX9_behindOpening 66 = .ok (.getfield 18, 3) := by decide +kernel
theorem dX9_behindOpening_69 : decode cX9_behindOpening 69 = .ok (.iconst 1, 1) := by decide +kernel
theorem dX9_behindOpening_70 : decode cX9_behindOpening 70 = .ok (.iadd, 1) := by decide +kernel
theorem dX9_behindOpening_71 : decode cX9_behindOpening 71 = .ok (.putfield 18, 3) := by decide +kernel
theorem dX9_behindOpening_74 : decode cX9_behindOpening 74 = .ok (.iconst 1, 1) := by decide +kernel
theorem dX9_behindOpening_75 : decode cX9_behindOpening 75 = .ok (.ireturn, 1) := by decide +kernel
theorem dX9_behindClosing_0 : decode cX9_behindClosing 0 = .ok (.iload_n 1, 1) := by decide +kernel
theorem dX9_behindClosing_1 : decode cX9_behindClosing 1 = .ok (.ifCond .eq 15, 3) := by decide +kernel
theorem dX9_behindClosing_4 : decode cX9_behindClosing 4 = .ok (.iload_n 1, 1) := by decide +kernel
theorem dX9_behindClosing_5 : decode cX9_behindClosing 5 = .ok (.iconst 4, 1) := by decide +kernel
theorem dX9_behindClosing_6 : decode cX9_behindClosing 6 = .ok (.if_icmp .eq 10, 3) := by decide +kernel
theorem dX9_behindClosing_9 : decode cX9_behindClosing 9 = .ok (.aload_n 0, 1) := by decide +kernel
theorem dX9_behindClosing_10 : decode cX9_behindClosing 10 = .ok (.getfield 18, 3) := by decide +kernel
theorem dX9_behindClosing_13 : decode cX9_behindClosing 13 = .ok (.ifCond .ne 5, 3) := by decide +kernel
theorem dX9_behindClosing_16 : decode cX9_behindClosing 16 = .ok (.iconst 5, 1) := by decide +kernel
theorem dX9_behindClosing_17 : decode cX9_behindClosing 17 = .ok (.ireturn, 1) := by decide +kernel
theorem dX9_behindClosing_18 : decode cX9_behindClosing 18 = .ok (.aload_n 0, 1) := by decide +kernel
theorem dX9_behindClosing_19 : decode cX9_behindClosing 19 = .ok (.dup, 1) := by decide +kernel
theorem dX9_behindClosing_20 : decode cX9_behindClosing 20 = .ok (.getfield 18, 3) := by decide +kernel
theorem dX9_behindClosing_23 : decode cX9_behindClosing 23 = .ok (.iconst 1, 1) := by decide +kernel
theorem dX9_behindClosing_24 : decode cX9_behindClosing 24 = .ok (.isub, 1) := by decide +kernel
theorem dX9_behindClosing_25 : decode cX9_behindClosing 25 = .ok (.putfield 18, 3) := by decide +kernel
theorem dX9_behindClosing_28 : decode cX9_behindClosing 28 = .ok (.aload_n 0, 1) := by decide +kernel
theorem dX9_behindClosing_29 : decode cX9_behindClosing 29 = .ok (.getfield 18, 3) := by decide +kernel
theorem dX9_behindClosing_32 : decode cX9_behindClosing 32 = .ok (.ifCond .ne 7, 3) := by decide +kernel
theorem dX9_behindClosing_35 : decode cX9_behindClosing 35 = .ok (.iconst 4, 1) := by decide +kernel
theorem dX9_behindClosing_36 : decode cX9_behindClosing 36 = .ok (.goto 4, 3) := by decide +kernel
theorem dX9_behindClosing_39 : decode cX9_behindClosing 39 = .ok (.iconst 3, 1) := by decide +kernel
theorem dX9_behindClosing_40 : decode cX9_behindClosing 40 = .ok (.ireturn, 1) := by decide +kernel
theorem dX9_kindOf_0 : decode cX9_kindOf 0 = .ok (.iconst 0, 1) := by decide +kernel
theorem dX9_kindOf_1 : decode cX9_kindOf 1 = .ok (.istore_n 3, 1) := by decide +kernel
theorem dX9_kindOf_2 : decode cX9_kindOf 2 = .ok (.iload_n 3, 1) := by decide +kernel
theorem dX9_kindOf_3 : decode cX9_kindOf 3 = .ok (.bipush 6, 2) := by decide +kernel
theorem dX9_kindOf_5 : decode cX9_kindOf 5 = .ok (.if_icmp .ge 24, 3) := by decide +kernel
theorem dX9_kindOf_8 : decode cX9_kindOf 8 = .ok (.aload_n 0, 1) := by decide +kernel
theorem dX9_kindOf_9 : decode cX9_kindOf 9 = .ok (.iload_n 3, 1) := by decide +kernel
theorem dX9_kindOf_10 : decode cX9_kindOf 10 = .ok (.invokestatic 64, 3) := by decide +kernel
theorem dX9_kindOf_13 : decode cX9_kindOf 13 = .ok (.iload_n 1, 1) := by decide +kernel
theorem dX9_kindOf_14 : decode cX9_kindOf 14 = .ok (.iload_n 2, 1) := by decide +kernel
theorem dX9_kindOf_15 : decode cX9_kindOf 15 = .ok (.invokevirtual 68, 3) := by decide +kernel
theorem dX9_kindOf_18 : decode cX9_kindOf 18 = .ok (.ifCond .eq 5, 3) := by decide +kernel
theorem dX9_kindOf_21 : decode cX9_kindOf 21 = .ok (.iload_n 3, 1) := by decide +kernel
theorem dX9_kindOf_22 : decode cX9_kindOf 22 = .ok (.ireturn, 1) := by decide +kernel
theorem dX9_kindOf_23 : decode cX9_kindOf 23 = .ok (.iinc 3 1, 3) := by decide +kernel
theorem dX9_kindOf_26 : decode cX9_kindOf 26 = .ok (.goto (-24), 3) := by decide +kernel
theorem dX9_kindOf_29 : decode cX9_kindOf 29 = .ok (.iconst (-1), 1) := by decide +kernel
theorem dX9_kindOf_30 : decode cX9_kindOf 30 = .ok (.ireturn, 1) := by decide +kernel
theorem dX9_says_0 : decode cX9_says 0 = .ok (.aload_n 1, 1) := by decide +kernel
theorem dX9_says_1 : decode cX9_says 1 = .ok (.invokevirtual 72, 3) := by decide +kernel
theorem dX9_says_4 : decode cX9_says 4 = .ok (.iload_n 3, 1) := by decide +kernel
theorem dX9_says_5 : decode cX9_says 5 = .ok (.iload_n 2, 1) := by decide +kernel
theorem dX9_says_6 : decode cX9_says 6 = .ok (.isub, 1) := by decide +kernel
theorem dX9_says_7 : decode cX9_says 7 = .ok (.if_icmp .eq 5, 3) := by decide +kernel
theorem dX9_says_10 : decode cX9_says 10 = .ok (.iconst 0, 1) := by decide +kernel
theorem dX9_says_11 : decode cX9_says 11 = .ok (.ireturn, 1) := by decide +kernel
theorem dX9_says_12 : decode cX9_says 12 = .ok (.iconst 0, 1) := by decide +kernel
theorem dX9_says_13 : decode cX9_says 13 = .ok (.istore 4, 2) := by decide +kernel
theorem dX9_says_15 : decode cX9_says 15 = .ok (.iload 4, 2) := by decide +kernel
theorem dX9_says_17 : decode cX9_says 17 = .ok (.aload_n 1, 1) := by decide +kernel
theorem dX9_says_18 : decode cX9_says 18 = .ok (.invokevirtual 72, 3) := by decide +kernel
theorem dX9_says_21 : decode cX9_says 21 = .ok (.if_icmp .ge 29, 3) := by decide +kernel
theorem dX9_says_24 : decode cX9_says 24 = .ok (.aload_n 0, 1) := by decide +kernel
theorem dX9_says_25 : decode cX9_says 25 = .ok (.getfield 9, 3) := by decide +kernel
theorem dX9_says_28 : decode cX9_says 28 = .ok (.iload_n 2, 1) := by decide +kernel
theorem dX9_says_29 : decode cX9_says 29 = .ok (.iload 4, 2) := by decide +kernel
theorem dX9_says_31 : decode cX9_says 31 = .ok (.iadd, 1) := by decide +kernel
theorem dX9_says_32 : decode cX9_says 32 = .ok (.iaload, 1) := by decide +kernel
theorem dX9_says_33 : decode cX9_says 33 = .ok (.aload_n 1, 1) := by decide +kernel
theorem dX9_says_34 : decode cX9_says 34 = .ok (.iload 4, 2) := by decide +kernel
theorem dX9_says_36 : decode cX9_says 36 = .ok (.invokevirtual 78, 3) := by decide +kernel
theorem dX9_says_39 : decode cX9_says 39 = .ok (.if_icmp .eq 5, 3) := by decide +kernel
theorem dX9_says_42 : decode cX9_says 42 = .ok (.iconst 0, 1) := by decide +kernel
theorem dX9_says_43 : decode cX9_says 43 = .ok (.ireturn, 1) := by decide +kernel
theorem dX9_says_44 : decode cX9_says 44 = .ok (.iinc 4 1, 3) := by decide +kernel
theorem dX9_says_47 : decode cX9_says 47 = .ok (.goto (-32), 3) := by decide +kernel
theorem dX9_says_50 : decode cX9_says 50 = .ok (.iconst 1, 1) := by decide +kernel
theorem dX9_says_51 : decode cX9_says 51 = .ok (.ireturn, 1) := by decide +kernel
theorem dX9_wordOf_0 : decode cX9_wordOf 0 = .ok (.iload_n 0, 1) := by decide +kernel
theorem dX9_wordOf_1 : decode cX9_wordOf 1 = .ok (.tableswitch 50 1 5 #[35, 38, 41, 44, 47], 35) := by decide +kernel
theorem dX9_wordOf_36 : decode cX9_wordOf 36 = .ok (.ldc 82, 2) := by decide +kernel
theorem dX9_wordOf_38 : decode cX9_wordOf 38 = .ok (.areturn, 1) := by decide +kernel
theorem dX9_wordOf_39 : decode cX9_wordOf 39 = .ok (.ldc 84, 2) := by decide +kernel
theorem dX9_wordOf_41 : decode cX9_wordOf 41 = .ok (.areturn, 1) := by decide +kernel
theorem dX9_wordOf_42 : decode cX9_wordOf 42 = .ok (.ldc 86, 2) := by decide +kernel
theorem dX9_wordOf_44 : decode cX9_wordOf 44 = .ok (.areturn, 1) := by decide +kernel
theorem dX9_wordOf_45 : decode cX9_wordOf 45 = .ok (.ldc 88, 2) := by decide +kernel
theorem dX9_wordOf_47 : decode cX9_wordOf 47 = .ok (.areturn, 1) := by decide +kernel
theorem dX9_wordOf_48 : decode cX9_wordOf 48 = .ok (.ldc 90, 2) := by decide +kernel
theorem dX9_wordOf_50 : decode cX9_wordOf 50 = .ok (.areturn, 1) := by decide +kernel
theorem dX9_wordOf_51 : decode cX9_wordOf 51 = .ok (.ldc 92, 2) := by decide +kernel
theorem dX9_wordOf_53 : decode cX9_wordOf 53 = .ok (.areturn, 1) := by decide +kernel
theorem dX10_init_0 : decode cX10_init 0 = .ok (.aload_n 0, 1) := by decide +kernel
theorem dX10_init_1 : decode cX10_init 1 = .ok (.invokespecial 3, 3) := by decide +kernel
theorem dX10_init_4 : decode cX10_init 4 = .ok (.aload_n 0, 1) := by decide +kernel
theorem dX10_init_5 : decode cX10_init 5 = .ok (.bipush 60, 2) := by decide +kernel
theorem dX10_init_7 : decode cX10_init 7 = .ok (.newarray .int, 2) := by decide +kernel
theorem dX10_init_9 : decode cX10_init 9 = .ok (.putfield 9, 3) := by decide +kernel
theorem dX10_init_12 : decode cX10_init 12 = .ok (.aload_n 0, 1) := by decide +kernel
theorem dX10_init_13 : decode cX10_init 13 = .ok (.bipush 60, 2) := by decide +kernel
theorem dX10_init_15 : decode cX10_init 15 = .ok (.newarray .int, 2) := by decide +kernel
theorem dX10_init_17 : decode cX10_init 17 = .ok (.putfield 15, 3) := by decide +kernel
theorem dX10_init_20 : decode cX10_init 20 = .ok (.aload_n 0, 1) := by decide +kernel
theorem dX10_init_21 : decode cX10_init 21 = .ok (.bipush 60, 2) := by decide +kernel
theorem dX10_init_23 : decode cX10_init 23 = .ok (.newarray .int, 2) := by decide +kernel
theorem dX10_init_25 : decode cX10_init 25 = .ok (.putfield 18, 3) := by decide +kernel
theorem dX10_init_28 : decode cX10_init 28 = .ok (.aload_n 0, 1) := by decide +kernel
theorem dX10_init_29 : decode cX10_init 29 = .ok (.bipush 60, 2) := by decide +kernel
theorem dX10_init_31 : decode cX10_init 31 = .ok (.newarray .int, 2) := by decide +kernel
theorem dX10_init_33 : decode cX10_init 33 = .ok (.putfield 21, 3) := by decide +kernel
theorem dX10_init_36 : decode cX10_init 36 = .ok (.aload_n 0, 1) := by decide +kernel
theorem dX10_init_37 : decode cX10_init 37 = .ok (.bipush 60, 2) := by decide +kernel
theorem dX10_init_39 : decode cX10_init 39 = .ok (.newarray .int, 2) := by decide +kernel
theorem dX10_init_41 : decode cX10_init 41 = .ok (.putfield 24, 3) := by decide +kernel
theorem dX10_init_44 : decode cX10_init 44 = .ok (.aload_n 0, 1) := by decide +kernel
theorem dX10_init_45 : decode cX10_init 45 = .ok (.bipush 60, 2) := by decide +kernel
theorem dX10_init_47 : decode cX10_init 47 = .ok (.newarray .long, 2) := by decide +kernel
theorem dX10_init_49 : decode cX10_init 49 = .ok (.putfield 27, 3) := by decide +kernel
theorem dX10_init_52 : decode cX10_init 52 = .ok (.aload_n 0, 1) := by decide +kernel
theorem dX10_init_53 : decode cX10_init 53 = .ok (.bipush 60, 2) := by decide +kernel
theorem dX10_init_55 : decode cX10_init 55 = .ok (.newarray .long, 2) := by decide +kernel
theorem dX10_init_57 : decode cX10_init 57 = .ok (.putfield 31, 3) := by decide +kernel
theorem dX10_init_60 : decode cX10_init 60 = .ok (.aload_n 0, 1) := by decide +kernel
theorem dX10_init_61 : decode cX10_init 61 = .ok (.bipush 60, 2) := by decide +kernel
theorem dX10_init_63 : decode cX10_init 63 = .ok (.newarray .long, 2) := by decide +kernel
theorem dX10_init_65 : decode cX10_init 65 = .ok (.putfield 34, 3) := by decide +kernel
theorem dX10_init_68 : decode cX10_init 68 = .ok (.aload_n 0, 1) := by decide +kernel
theorem dX10_init_69 : decode cX10_init 69 = .ok (.iconst 0, 1) := by decide +kernel
theorem dX10_init_70 : decode cX10_init 70 = .ok (.putfield 37, 3) := by decide +kernel
theorem dX10_init_73 : decode cX10_init 73 = .ok (.return_, 1) := by decide +kernel
theorem dX10_has_0 : decode cX10_has 0 = .ok (.iload_n 1, 1) := by decide +kernel
theorem dX10_has_1 : decode cX10_has 1 = .ok (.ifCond .lt 15, 3) := by decide +kernel
theorem dX10_has_4 : decode cX10_has 4 = .ok (.iload_n 1, 1) := by decide +kernel
theorem dX10_has_5 : decode cX10_has 5 = .ok (.aload_n 0, 1) := by decide +kernel
theorem dX10_has_6 : decode cX10_has 6 = .ok (.getfield 37, 3) := by decide +kernel
theorem dX10_has_9 : decode cX10_has 9 = .ok (.if_icmp .ge 7, 3) := by decide +kernel
theorem dX10_has_12 : decode cX10_has 12 = .ok (.iconst 1, 1) := by decide +kernel
theorem dX10_has_13 : decode cX10_has 13 = .ok (.goto 4, 3) := by decide +kernel
theorem dX10_has_16 : decode cX10_has 16 = .ok (.iconst 0, 1) := by decide +kernel
theorem dX10_has_17 : decode cX10_has 17 = .ok (.ireturn, 1) := by decide +kernel
theorem dX10_add_0 : decode cX10_add 0 = .ok (.aload_n 0, 1) := by decide +kernel
theorem dX10_add_1 : decode cX10_add 1 = .ok (.getfield 37, 3) := by decide +kernel
theorem dX10_add_4 : decode cX10_add 4 = .ok (.bipush 60, 2) := by decide +kernel
theorem dX10_add_6 : decode cX10_add 6 = .ok (.if_icmp .lt 5, 3) := by decide +kernel
theorem dX10_add_9 : decode cX10_add 9 = .ok (.iconst 0, 1) := by decide +kernel
theorem dX10_add_10 : decode cX10_add 10 = .ok (.ireturn, 1) := by decide +kernel
theorem dX10_add_11 : decode cX10_add 11 = .ok (.aload_n 0, 1) := by decide +kernel
theorem dX10_add_12 : decode cX10_add 12 = .ok (.getfield 9, 3) := by decide +kernel
theorem dX10_add_15 : decode cX10_add 15 = .ok (.aload_n 0, 1) := by decide +kernel
theorem dX10_add_16 : decode cX10_add 16 = .ok (.getfield 37, 3) := by decide +kernel
theorem dX10_add_19 : decode cX10_add 19 = .ok (.iconst 0, 1) := by decide +kernel
theorem dX10_add_20 : decode cX10_add 20 = .ok (.iastore, 1) := by decide +kernel
theorem dX10_add_21 : decode cX10_add 21 = .ok (.aload_n 0, 1) := by decide +kernel
theorem dX10_add_22 : decode cX10_add 22 = .ok (.getfield 15, 3) := by decide +kernel
theorem dX10_add_25 : decode cX10_add 25 = .ok (.aload_n 0, 1) := by decide +kernel
theorem dX10_add_26 : decode cX10_add 26 = .ok (.getfield 37, 3) := by decide +kernel
theorem dX10_add_29 : decode cX10_add 29 = .ok (.iconst 1, 1) := by decide +kernel
theorem dX10_add_30 : decode cX10_add 30 = .ok (.iastore, 1) := by decide +kernel
theorem dX10_add_31 : decode cX10_add 31 = .ok (.aload_n 0, 1) := by decide +kernel
theorem dX10_add_32 : decode cX10_add 32 = .ok (.getfield 18, 3) := by decide +kernel
theorem dX10_add_35 : decode cX10_add 35 = .ok (.aload_n 0, 1) := by decide +kernel
theorem dX10_add_36 : decode cX10_add 36 = .ok (.getfield 37, 3) := by decide +kernel
theorem dX10_add_39 : decode cX10_add 39 = .ok (.iload_n 1, 1) := by decide +kernel
theorem dX10_add_40 : decode cX10_add 40 = .ok (.iastore, 1) := by decide +kernel
theorem dX10_add_41 : decode cX10_add 41 = .ok (.aload_n 0, 1) := by decide +kernel
theorem dX10_add_42 : decode cX10_add 42 = .ok (.dup, 1) := by decide +kernel
theorem dX10_add_43 : decode cX10_add 43 = .ok (.getfield 37, 3) := by decide +kernel
theorem dX10_add_46 : decode cX10_add 46 = .ok (.iconst 1, 1) := by decide +kernel
theorem dX10_add_47 : decode cX10_add 47 = .ok (.iadd, 1) := by decide +kernel
theorem dX10_add_48 : decode cX10_add 48 = .ok (.putfield 37, 3) := by decide +kernel
theorem dX10_add_51 : decode cX10_add 51 = .ok (.iconst 1, 1) := by decide +kernel
theorem dX10_add_52 : decode cX10_add 52 = .ok (.ireturn, 1) := by decide +kernel
theorem dX10_lastIsOf_0 : decode cX10_lastIsOf 0 = .ok (.aload_n 0, 1) := by decide +kernel
theorem dX10_lastIsOf_1 : decode cX10_lastIsOf 1 = .ok (.getfield 37, 3) := by decide +kernel
theorem dX10_lastIsOf_4 : decode cX10_lastIsOf 4 = .ok (.ifCond .le 15, 3) := by decide +kernel
theorem dX10_lastIsOf_7 : decode cX10_lastIsOf 7 = .ok (.aload_n 0, 1) := by decide +kernel
theorem dX10_lastIsOf_8 : decode cX10_lastIsOf 8 = .ok (.getfield 9, 3) := by decide +kernel
theorem dX10_lastIsOf_11 : decode cX10_lastIsOf 11 = .ok (.aload_n 0, 1) := by decide +kernel
theorem dX10_lastIsOf_12 : decode cX10_lastIsOf 12 = .ok (.getfield 37, 3) := by decide +kernel
theorem dX10_lastIsOf_15 : decode cX10_lastIsOf 15 = .ok (.iconst 1, 1) := by decide +kernel
theorem dX10_lastIsOf_16 : decode cX10_lastIsOf 16 = .ok (.isub, 1) := by decide +kernel
theorem dX10_lastIsOf_17 : decode cX10_lastIsOf 17 = .ok (.iload_n 1, 1) := by decide +kernel
theorem dX10_lastIsOf_18 : decode cX10_lastIsOf 18 = .ok (.iastore, 1) := by decide +kernel
theorem dX10_lastIsOf_19 : decode cX10_lastIsOf 19 = .ok (.return_, 1) := by decide +kernel
theorem dX10_lastWeighs_0 : decode cX10_lastWeighs 0 = .ok (.aload_n 0, 1) := by decide +kernel
theorem dX10_lastWeighs_1 : decode cX10_lastWeighs 1 = .ok (.getfield 37, 3) := by decide +kernel
theorem dX10_lastWeighs_4 : decode cX10_lastWeighs 4 = .ok (.ifCond .le 15, 3) := by decide +kernel
theorem dX10_lastWeighs_7 : decode cX10_lastWeighs 7 = .ok (.aload_n 0, 1) := by decide +kernel
theorem dX10_lastWeighs_8 : decode cX10_lastWeighs 8 = .ok (.getfield 15, 3) := by decide +kernel
theorem dX10_lastWeighs_11 : decode cX10_lastWeighs 11 = .ok (.aload_n 0, 1) := by decide +kernel
theorem dX10_lastWeighs_12 : decode cX10_lastWeighs 12 = .ok (.getfield 37, 3) := by decide +kernel
theorem dX10_lastWeighs_15 : decode cX10_lastWeighs 15 = .ok (.iconst 1, 1) := by decide +kernel
theorem dX10_lastWeighs_16 : decode cX10_lastWeighs 16 = .ok (.isub, 1) := by decide +kernel
theorem dX10_lastWeighs_17 : decode cX10_lastWeighs 17 = .ok (.iload_n 1, 1) := by decide +kernel
theorem dX10_lastWeighs_18 : decode cX10_lastWeighs 18 = .ok (.iastore, 1) := by decide +kernel
theorem dX10_lastWeighs_19 : decode cX10_lastWeighs 19 = .ok (.return_, 1) := by decide +kernel
theorem dX10_price_0 : decode cX10_price 0 = .ok (.iload_n 1, 1) := by decide +kernel
theorem dX10_price_1 : decode cX10_price 1 = .ok (.ifCond .ne 7, 3) := by decide +kernel
theorem dX10_price_4 : decode cX10_price 4 = .ok (.iconst 0, 1) := by decide +kernel
theorem dX10_price_5 : decode cX10_price 5 = .ok (.goto 4, 3) := by decide +kernel
theorem dX10_price_8 : decode cX10_price 8 = .ok (.iconst 1, 1) := by decide +kernel
theorem dX10_price_9 : decode cX10_price 9 = .ok (.istore_n 2, 1) := by decide +kernel
theorem dX10_price_10 : decode cX10_price 10 = .ok (.iload_n 1, 1) := by decide +kernel
theorem dX10_price_11 : decode cX10_price 11 = .ok (.iconst 1, 1) := by decide +kernel
theorem dX10_price_12 : decode cX10_price 12 = .ok (.iadd, 1) := by decide +kernel
theorem dX10_price_13 : decode cX10_price 13 = .ok (.istore_n 3, 1) := by decide +kernel
theorem dX10_price_14 : decode cX10_price 14 = .ok (.iload_n 3, 1) := by decide +kernel
theorem dX10_price_15 : decode cX10_price 15 = .ok (.aload_n 0, 1) := by decide +kernel
theorem dX10_price_16 : decode cX10_price 16 = .ok (.getfield 37, 3) := by decide +kernel
theorem dX10_price_19 : decode cX10_price 19 = .ok (.if_icmp .ge 22, 3) := by decide +kernel
theorem dX10_price_22 : decode cX10_price 22 = .ok (.aload_n 0, 1) := by decide +kernel
theorem dX10_price_23 : decode cX10_price 23 = .ok (.getfield 18, 3) := by decide +kernel
theorem dX10_price_26 : decode cX10_price 26 = .ok (.iload_n 3, 1) := by decide +kernel
theorem dX10_price_27 : decode cX10_price 27 = .ok (.iaload, 1) := by decide +kernel
theorem dX10_price_28 : decode cX10_price 28 = .ok (.iload_n 1, 1) := by decide +kernel
theorem dX10_price_29 : decode cX10_price 29 = .ok (.if_icmp .ne 6, 3) := by decide +kernel
theorem dX10_price_32 : decode cX10_price 32 = .ok (.iinc 2 1, 3) := by decide +kernel
theorem dX10_price_35 : decode cX10_price 35 = .ok (.iinc 3 1, 3) := by decide +kernel
theorem dX10_price_38 : decode cX10_price 38 = .ok (.goto (-24), 3) := by decide +kernel
theorem dX10_price_41 : decode cX10_price 41 = .ok (.aload_n 0, 1) := by decide +kernel
theorem dX10_price_42 : decode cX10_price 42 = .ok (.getfield 9, 3) := by decide +kernel
theorem dX10_price_45 : decode cX10_price 45 = .ok (.iload_n 1, 1) := by decide +kernel
theorem dX10_price_46 : decode cX10_price 46 = .ok (.iaload, 1) := by decide +kernel
theorem dX10_price_47 : decode cX10_price 47 = .ok (.aload_n 0, 1) := by decide +kernel
theorem dX10_price_48 : decode cX10_price 48 = .ok (.getfield 15, 3) := by decide +kernel
theorem dX10_price_51 : decode cX10_price 51 = .ok (.iload_n 1, 1) := by decide +kernel
theorem dX10_price_52 : decode cX10_price 52 = .ok (.iaload, 1) := by decide +kernel
theorem dX10_price_53 : decode cX10_price 53 = .ok (.iload_n 2, 1) := by decide +kernel
theorem dX10_price_54 : decode cX10_price 54 = .ok (.iload_n 1, 1) := by decide +kernel
theorem dX10_price_55 : decode cX10_price 55 = .ok (.invokestatic 41, 3) := by decide +kernel
theorem dX10_price_58 : decode cX10_price 58 = .ok (.ireturn, 1) := by decide +kernel
theorem dX10_under_0 : decode cX10_under 0 = .ok (.lconst 1, 1) := by decide +kernel
theorem dX10_under_1 : decode cX10_under 1 = .ok (.iload_n 1, 1) := by decide +kernel
theorem dX10_under_2 : decode cX10_under 2 = .ok (.lshl, 1) := by decide +kernel
theorem dX10_under_3 : decode cX10_under 3 = .ok (.lstore_n 2, 1) := by decide +kernel
theorem dX10_under_4 : decode cX10_under 4 = .ok (.iload_n 1, 1) := by decide +kernel
theorem dX10_under_5 : decode cX10_under 5 = .ok (.iconst 1, 1) := by decide +kernel
theorem dX10_under_6 : decode cX10_under 6 = .ok (.iadd, 1) := by decide +kernel
theorem dX10_under_7 : decode cX10_under 7 = .ok (.istore 4, 2) := by decide +kernel
theorem dX10_under_9 : decode cX10_under 9 = .ok (.iload 4, 2) := by decide +kernel
theorem dX10_under_11 : decode cX10_under 11 = .ok (.aload_n 0, 1) := by decide +kernel
theorem dX10_under_12 : decode cX10_under 12 = .ok (.getfield 37, 3) := by decide +kernel
theorem dX10_under_15 : decode cX10_under 15 = .ok (.if_icmp .ge 32, 3) := by decide +kernel
theorem dX10_under_18 : decode cX10_under 18 = .ok (.lload_n 2, 1) := by decide +kernel
theorem dX10_under_19 : decode cX10_under 19 = .ok (.aload_n 0, 1) := by decide +kernel
theorem dX10_under_20 : decode cX10_under 20 = .ok (.getfield 18, 3) := by decide +kernel
theorem dX10_under_23 : decode cX10_under 23 = .ok (.iload 4, 2) := by decide +kernel
theorem dX10_under_25 : decode cX10_under 25 = .ok (.iaload, 1) := by decide +kernel
theorem dX10_under_26 : decode cX10_under 26 = .ok (.lushr, 1) := by decide +kernel
theorem dX10_under_27 : decode cX10_under 27 = .ok (.lconst 1, 1) := by decide +kernel
theorem dX10_under_28 : decode cX10_under 28 = .ok (.land, 1) := by decide +kernel
theorem dX10_under_29 : decode cX10_under 29 = .ok (.lconst 0, 1) := by decide +kernel
theorem dX10_under_30 : decode cX10_under 30 = .ok (.lcmp, 1) := by decide +kernel
theorem dX10_under_31 : decode cX10_under 31 = .ok (.ifCond .eq 10, 3) := by decide +kernel
theorem dX10_under_34 : decode cX10_under 34 = .ok (.lload_n 2, 1) := by decide +kernel
theorem dX10_under_35 : decode cX10_under 35 = .ok (.lconst 1, 1) := by decide +kernel
theorem dX10_under_36 : decode cX10_under 36 = .ok (.iload 4, 2) := by decide +kernel
theorem dX10_under_38 : decode cX10_under 38 = .ok (.lshl, 1) := by decide +kernel
theorem dX10_under_39 : decode cX10_under 39 = .ok (.lor, 1) := by decide +kernel
theorem dX10_under_40 : decode cX10_under 40 = .ok (.lstore_n 2, 1) := by decide +kernel
theorem dX10_under_41 : decode cX10_under 41 = .ok (.iinc 4 1, 3) := by decide +kernel
theorem dX10_under_44 : decode cX10_under 44 = .ok (.goto (-35), 3) := by decide +kernel
theorem dX10_under_47 : decode cX10_under 47 = .ok (.lload_n 2, 1) := by decide +kernel
theorem dX10_under_48 : decode cX10_under 48 = .ok (.invokestatic 45, 3) := by decide +kernel
theorem dX10_under_51 : decode cX10_under 51 = .ok (.iconst 1, 1) := by decide +kernel
theorem dX10_under_52 : decode cX10_under 52 = .ok (.isub, 1) := by decide +kernel
theorem dX10_under_53 : decode cX10_under 53 = .ok (.ireturn, 1) := by decide +kernel
theorem dX10_marks_0 : decode cX10_marks 0 = .ok (.lconst 0, 1) := by decide +kernel
theorem dX10_marks_1 : decode cX10_marks 1 = .ok (.lstore_n 1, 1) := by decide +kernel
theorem dX10_marks_2 : decode cX10_marks 2 = .ok (.aload_n 0, 1) := by decide +kernel
theorem dX10_marks_3 : decode cX10_marks 3 = .ok (.getfield 37, 3) := by decide +kernel
theorem dX10_marks_6 : decode cX10_marks 6 = .ok (.iconst 1, 1) := by decide +kernel
theorem dX10_marks_7 : decode cX10_marks 7 = .ok (.isub, 1) := by decide +kernel
theorem dX10_marks_8 : decode cX10_marks 8 = .ok (.istore_n 3, 1) := by decide +kernel
theorem dX10_marks_9 : decode cX10_marks 9 = .ok (.iload_n 3, 1) := by decide +kernel
theorem dX10_marks_10 : decode cX10_marks 10 = .ok (.ifCond .le 39, 3) := by decide +kernel
theorem dX10_marks_13 : decode cX10_marks 13 = .ok (.lload_n 1, 1) := by decide +kernel
theorem dX10_marks_14 : decode cX10_marks 14 = .ok (.iload_n 3, 1) := by decide +kernel
theorem dX10_marks_15 : decode cX10_marks 15 = .ok (.lushr, 1) := by decide +kernel
theorem dX10_marks_16 : decode cX10_marks 16 = .ok (.lload_n 1, 1) := by decide +kernel
theorem dX10_marks_17 : decode cX10_marks 17 = .ok (.aload_n 0, 1) := by decide +kernel
theorem dX10_marks_18 : decode cX10_marks 18 = .ok (.getfield 18, 3) := by decide +kernel
theorem dX10_marks_21 : decode cX10_marks 21 = .ok (.iload_n 3, 1) := by decide +kernel
theorem dX10_marks_22 : decode cX10_marks 22 = .ok (.iaload, 1) := by decide +kernel
theorem dX10_marks_23 : decode cX10_marks 23 = .ok (.lushr, 1) := by decide +kernel
theorem dX10_marks_24 : decode cX10_marks 24 = .ok (.lor, 1) := by decide +kernel
theorem dX10_marks_25 : decode cX10_marks 25 = .ok (.lconst 1, 1) := by decide +kernel
theorem dX10_marks_26 : decode cX10_marks 26 = .ok (.land, 1) := by decide +kernel
theorem dX10_marks_27 : decode cX10_marks 27 = .ok (.lconst 0, 1) := by decide +kernel
theorem dX10_marks_28 : decode cX10_marks 28 = .ok (.lcmp, 1) := by decide +kernel
theorem dX10_marks_29 : decode cX10_marks 29 = .ok (.ifCond .ne 14, 3) := by decide +kernel
theorem dX10_marks_32 : decode cX10_marks 32 = .ok (.lload_n 1, 1) := by decide +kernel
theorem dX10_marks_33 : decode cX10_marks 33 = .ok (.lconst 1, 1) := by decide +kernel
theorem dX10_marks_34 : decode cX10_marks 34 = .ok (.aload_n 0, 1) := by decide +kernel
theorem dX10_marks_35 : decode cX10_marks 35 = .ok (.getfield 18, 3) := by decide +kernel
theorem dX10_marks_38 : decode cX10_marks 38 = .ok (.iload_n 3, 1) := by decide +kernel
theorem dX10_marks_39 : decode cX10_marks 39 = .ok (.iaload, 1) := by decide +kernel
theorem dX10_marks_40 : decode cX10_marks 40 = .ok (.lshl, 1) := by decide +kernel
theorem dX10_marks_41 : decode cX10_marks 41 = .ok (.lor, 1) := by decide +kernel
theorem dX10_marks_42 : decode cX10_marks 42 = .ok (.lstore_n 1, 1) := by decide +kernel
theorem dX10_marks_43 : decode cX10_marks 43 = .ok (.iinc 3 (-1), 3) := by decide +kernel
theorem dX10_marks_46 : decode cX10_marks 46 = .ok (.goto (-37), 3) := by decide +kernel
theorem dX10_marks_49 : decode cX10_marks 49 = .ok (.lload_n 1, 1) := by decide +kernel
theorem dX10_marks_50 : decode cX10_marks 50 = .ok (.lreturn, 1) := by decide +kernel
theorem dX10_leastSum_0 : decode cX10_leastSum 0 = .ok (.aload_n 0, 1) := by decide +kernel
theorem dX10_leastSum_1 : decode cX10_leastSum 1 = .ok (.iload_n 1, 1) := by decide +kernel
theorem dX10_leastSum_2 : decode cX10_leastSum 2 = .ok (.invokevirtual 51, 3) := by decide +kernel
theorem dX10_leastSum_5 : decode cX10_leastSum 5 = .ok (.aload_n 0, 1) := by decide +kernel
theorem dX10_leastSum_6 : decode cX10_leastSum 6 = .ok (.getfield 21, 3) := by decide +kernel
theorem dX10_leastSum_9 : decode cX10_leastSum 9 = .ok (.iconst 0, 1) := by decide +kernel
theorem dX10_leastSum_10 : decode cX10_leastSum 10 = .ok (.iaload, 1) := by decide +kernel
theorem dX10_leastSum_11 : decode cX10_leastSum 11 = .ok (.aload_n 0, 1) := by decide +kernel
theorem dX10_leastSum_12 : decode cX10_leastSum 12 = .ok (.getfield 24, 3) := by decide +kernel
theorem dX10_leastSum_15 : decode cX10_leastSum 15 = .ok (.iconst 0, 1) := by decide +kernel
theorem dX10_leastSum_16 : decode cX10_leastSum 16 = .ok (.iaload, 1) := by decide +kernel
theorem dX10_leastSum_17 : decode cX10_leastSum 17 = .ok (.invokestatic 55, 3) := by decide +kernel
theorem dX10_leastSum_20 : decode cX10_leastSum 20 = .ok (.ireturn, 1) := by decide +kernel
theorem dX10_howManyLeast_0 : decode cX10_howManyLeast 0 = .ok (.aload_n 0, 1) := by decide +kernel
theorem dX10_howManyLeast_1 : decode cX10_howManyLeast 1 = .ok (.iload_n 1, 1) := by decide +kernel
theorem dX10_howManyLeast_2 : decode cX10_howManyLeast 2 = .ok (.invokevirtual 51, 3) := by decide +kernel
theorem dX10_howManyLeast_5 : decode cX10_howManyLeast 5 = .ok (.aload_n 0, 1) := by decide +kernel
theorem dX10_howManyLeast_6 : decode cX10_howManyLeast 6 = .ok (.iconst 0, 1) := by decide +kernel
theorem dX10_howManyLeast_7 : decode cX10_howManyLeast 7 = .ok (.aload_n 0, 1) := by decide +kernel
theorem dX10_howManyLeast_8 : decode cX10_howManyLeast 8 = .ok (.getfield 21, 3) := by decide +kernel
theorem dX10_howManyLeast_11 : decode cX10_howManyLeast 11 = .ok (.iconst 0, 1) := by decide +kernel
theorem dX10_howManyLeast_12 : decode cX10_howManyLeast 12 = .ok (.iaload, 1) := by decide +kernel
theorem dX10_howManyLeast_13 : decode cX10_howManyLeast 13 = .ok (.aload_n 0, 1) := by decide +kernel
theorem dX10_howManyLeast_14 : decode cX10_howManyLeast 14 = .ok (.getfield 24, 3) := by decide +kernel
theorem dX10_howManyLeast_17 : decode cX10_howManyLeast 17 = .ok (.iconst 0, 1) := by decide +kernel
theorem dX10_howManyLeast_18 : decode cX10_howManyLeast 18 = .ok (.iaload, 1) := by decide +kernel
theorem dX10_howManyLeast_19 : decode cX10_howManyLeast 19 = .ok (.invokestatic 55, 3) := by decide +kernel
theorem dX10_howManyLeast_22 : decode cX10_howManyLeast 22 = .ok (.invokevirtual 61, 3) := by decide +kernel
theorem dX10_howManyLeast_25 : decode cX10_howManyLeast 25 = .ok (.lreturn, 1) := by decide +kernel
theorem dX10_manyOf_0 : decode cX10_manyOf 0 = .ok (.aload_n 0, 1) := by decide +kernel
theorem dX10_manyOf_1 : decode cX10_manyOf 1 = .ok (.getfield 21, 3) := by decide +kernel
theorem dX10_manyOf_4 : decode cX10_manyOf 4 = .ok (.iload_n 1, 1) := by decide +kernel
theorem dX10_manyOf_5 : decode cX10_manyOf 5 = .ok (.iaload, 1) := by decide +kernel
theorem dX10_manyOf_6 : decode cX10_manyOf 6 = .ok (.iload_n 2, 1) := by decide +kernel
theorem dX10_manyOf_7 : decode cX10_manyOf 7 = .ok (.if_icmp .ne 12, 3) := by decide +kernel
theorem dX10_manyOf_10 : decode cX10_manyOf 10 = .ok (.aload_n 0, 1) := by decide +kernel
theorem dX10_manyOf_11 : decode cX10_manyOf 11 = .ok (.getfield 27, 3) := by decide +kernel
theorem dX10_manyOf_14 : decode cX10_manyOf 14 = .ok (.iload_n 1, 1) := by decide +kernel
theorem dX10_manyOf_15 : decode cX10_manyOf 15 = .ok (.laload, 1) := by decide +kernel
theorem dX10_manyOf_16 : decode cX10_manyOf 16 = .ok (.goto 4, 3) := by decide +kernel
theorem dX10_manyOf_19 : decode cX10_manyOf 19 = .ok (.lconst 0, 1) := by decide +kernel
theorem dX10_manyOf_20 : decode cX10_manyOf 20 = .ok (.aload_n 0, 1) := by decide +kernel
theorem dX10_manyOf_21 : decode cX10_manyOf 21 = .ok (.getfield 24, 3) := by decide +kernel
theorem dX10_manyOf_24 : decode cX10_manyOf 24 = .ok (.iload_n 1, 1) := by decide +kernel
theorem dX10_manyOf_25 : decode cX10_manyOf 25 = .ok (.iaload, 1) := by decide +kernel
theorem dX10_manyOf_26 : decode cX10_manyOf 26 = .ok (.iload_n 2, 1) := by decide +kernel
theorem dX10_manyOf_27 : decode cX10_manyOf 27 = .ok (.if_icmp .ne 12, 3) := by decide +kernel
theorem dX10_manyOf_30 : decode cX10_manyOf 30 = .ok (.aload_n 0, 1) := by decide +kernel
theorem dX10_manyOf_31 : decode cX10_manyOf 31 = .ok (.getfield 31, 3) := by decide +kernel
theorem dX10_manyOf_34 : decode cX10_manyOf 34 = .ok (.iload_n 1, 1) := by decide +kernel
theorem dX10_manyOf_35 : decode cX10_manyOf 35 = .ok (.laload, 1) := by decide +kernel
theorem dX10_manyOf_36 : decode cX10_manyOf 36 = .ok (.goto 4, 3) := by decide +kernel
theorem dX10_manyOf_39 : decode cX10_manyOf 39 = .ok (.lconst 0, 1) := by decide +kernel
theorem dX10_manyOf_40 : decode cX10_manyOf 40 = .ok (.ladd, 1) := by decide +kernel
theorem dX10_manyOf_41 : decode cX10_manyOf 41 = .ok (.lreturn, 1) := by decide +kernel
theorem dX10_sumUp_0 : decode cX10_sumUp 0 = .ok (.iconst 0, 1) := by decide +kernel
theorem dX10_sumUp_1 : decode cX10_sumUp 1 = .ok (.istore_n 2, 1) := by decide +kernel
theorem dX10_sumUp_2 : decode cX10_sumUp 2 = .ok (.iload_n 2, 1) := by decide +kernel
theorem dX10_sumUp_3 : decode cX10_sumUp 3 = .ok (.aload_n 0, 1) := by decide +kernel
theorem dX10_sumUp_4 : decode cX10_sumUp 4 = .ok (.getfield 37, 3) := by decide +kernel
theorem dX10_sumUp_7 : decode cX10_sumUp 7 = .ok (.if_icmp .ge 50, 3) := by decide +kernel
theorem dX10_sumUp_10 : decode cX10_sumUp 10 = .ok (.aload_n 0, 1) := by decide +kernel
theorem dX10_sumUp_11 : decode cX10_sumUp 11 = .ok (.getfield 21, 3) := by decide +kernel
theorem dX10_sumUp_14 : decode cX10_sumUp 14 = .ok (.iload_n 2, 1) := by decide +kernel
theorem dX10_sumUp_15 : decode cX10_sumUp 15 = .ok (.iload_n 1, 1) := by decide +kernel
theorem dX10_sumUp_16 : decode cX10_sumUp 16 = .ok (.iconst 2, 1) := by decide +kernel
theorem dX10_sumUp_17 : decode cX10_sumUp 17 = .ok (.if_icmp .ne 11, 3) := by decide +kernel
theorem dX10_sumUp_20 : decode cX10_sumUp 20 = .ok (.aload_n 0, 1) := by decide +kernel
theorem dX10_sumUp_21 : decode cX10_sumUp 21 = .ok (.iload_n 2, 1) := by decide +kernel
theorem dX10_sumUp_22 : decode cX10_sumUp 22 = .ok (.invokevirtual 65, 3) := by decide +kernel
theorem dX10_sumUp_25 : decode cX10_sumUp 25 = .ok (.goto 4, 3) := by decide +kernel
theorem dX10_sumUp_28 : decode cX10_sumUp 28 = .ok (.iload_n 1, 1) := by decide +kernel
theorem dX10_sumUp_29 : decode cX10_sumUp 29 = .ok (.iastore, 1) := by decide +kernel
theorem dX10_sumUp_30 : decode cX10_sumUp 30 = .ok (.aload_n 0, 1) := by decide +kernel
theorem dX10_sumUp_31 : decode cX10_sumUp 31 = .ok (.getfield 24, 3) := by decide +kernel
theorem dX10_sumUp_34 : decode cX10_sumUp 34 = .ok (.iload_n 2, 1) := by decide +kernel
theorem dX10_sumUp_35 : decode cX10_sumUp 35 = .ok (.iconst 0, 1) := by decide +kernel
theorem dX10_sumUp_36 : decode cX10_sumUp 36 = .ok (.iastore, 1) := by decide +kernel
theorem dX10_sumUp_37 : decode cX10_sumUp 37 = .ok (.aload_n 0, 1) := by decide +kernel
theorem dX10_sumUp_38 : decode cX10_sumUp 38 = .ok (.getfield 27, 3) := by decide +kernel
theorem dX10_sumUp_41 : decode cX10_sumUp 41 = .ok (.iload_n 2, 1) := by decide +kernel
theorem dX10_sumUp_42 : decode cX10_sumUp 42 = .ok (.lconst 1, 1) := by decide +kernel
theorem dX10_sumUp_43 : decode cX10_sumUp 43 = .ok (.lastore, 1) := by decide +kernel
theorem dX10_sumUp_44 : decode cX10_sumUp 44 = .ok (.aload_n 0, 1) := by decide +kernel
theorem dX10_sumUp_45 : decode cX10_sumUp 45 = .ok (.getfield 31, 3) := by decide +kernel
theorem dX10_sumUp_48 : decode cX10_sumUp 48 = .ok (.iload_n 2, 1) := by decide +kernel
theorem dX10_sumUp_49 : decode cX10_sumUp 49 = .ok (.lconst 1, 1) := by decide +kernel
theorem dX10_sumUp_50 : decode cX10_sumUp 50 = .ok (.lastore, 1) := by decide +kernel
theorem dX10_sumUp_51 : decode cX10_sumUp 51 = .ok (.iinc 2 1, 3) := by decide +kernel
theorem dX10_sumUp_54 : decode cX10_sumUp 54 = .ok (.goto (-52), 3) := by decide +kernel
theorem dX10_sumUp_57 : decode cX10_sumUp 57 = .ok (.aload_n 0, 1) := by decide +kernel
theorem dX10_sumUp_58 : decode cX10_sumUp 58 = .ok (.getfield 37, 3) := by decide +kernel
theorem dX10_sumUp_61 : decode cX10_sumUp 61 = .ok (.iconst 1, 1) := by decide +kernel
theorem dX10_sumUp_62 : decode cX10_sumUp 62 = .ok (.isub, 1) := by decide +kernel
theorem dX10_sumUp_63 : decode cX10_sumUp 63 = .ok (.istore_n 2, 1) := by decide +kernel
theorem dX10_sumUp_64 : decode cX10_sumUp 64 = .ok (.iload_n 2, 1) := by decide +kernel
theorem dX10_sumUp_65 : decode cX10_sumUp 65 = .ok (.ifCond .le 90, 3) := by decide +kernel
theorem dX10_sumUp_68 : decode cX10_sumUp 68 = .ok (.aload_n 0, 1) := by decide +kernel
theorem dX10_sumUp_69 : decode cX10_sumUp 69 = .ok (.getfield 18, 3) := by decide +kernel
theorem dX10_sumUp_72 : decode cX10_sumUp 72 = .ok (.iload_n 2, 1) := by decide +kernel
theorem dX10_sumUp_73 : decode cX10_sumUp 73 = .ok (.iaload, 1) := by decide +kernel
theorem dX10_sumUp_74 : decode cX10_sumUp 74 = .ok (.istore_n 3, 1) := by decide +kernel
theorem dX10_sumUp_75 : decode cX10_sumUp 75 = .ok (.aload_n 0, 1) := by decide +kernel
theorem dX10_sumUp_76 : decode cX10_sumUp 76 = .ok (.getfield 21, 3) := by decide +kernel
theorem dX10_sumUp_79 : decode cX10_sumUp 79 = .ok (.iload_n 2, 1) := by decide +kernel
theorem dX10_sumUp_80 : decode cX10_sumUp 80 = .ok (.iaload, 1) := by decide +kernel
theorem dX10_sumUp_81 : decode cX10_sumUp 81 = .ok (.aload_n 0, 1) := by decide +kernel
theorem dX10_sumUp_82 : decode cX10_sumUp 82 = .ok (.getfield 24, 3) := by decide +kernel
theorem dX10_sumUp_85 : decode cX10_sumUp 85 = .ok (.iload_n 2, 1) := by decide +kernel
theorem dX10_sumUp_86 : decode cX10_sumUp 86 = .ok (.iaload, 1) := by decide +kernel
theorem dX10_sumUp_87 : decode cX10_sumUp 87 = .ok (.invokestatic 55, 3) := by decide +kernel
theorem dX10_sumUp_90 : decode cX10_sumUp 90 = .ok (.istore 4, 2) := by decide +kernel
theorem dX10_sumUp_92 : decode cX10_sumUp 92 = .ok (.aload_n 0, 1) := by decide +kernel
theorem dX10_sumUp_93 : decode cX10_sumUp 93 = .ok (.getfield 21, 3) := by decide +kernel
theorem dX10_sumUp_96 : decode cX10_sumUp 96 = .ok (.iload_n 3, 1) := by decide +kernel
theorem dX10_sumUp_97 : decode cX10_sumUp 97 = .ok (.dup2, 1) := by decide +kernel
theorem dX10_sumUp_98 : decode cX10_sumUp 98 = .ok (.iaload, 1) := by decide +kernel
theorem dX10_sumUp_99 : decode cX10_sumUp 99 = .ok (.iload 4, 2) := by decide +kernel
theorem dX10_sumUp_101 : decode cX10_sumUp 101 = .ok (.iadd, 1) := by decide +kernel
theorem dX10_sumUp_102 : decode cX10_sumUp 102 = .ok (.iastore, 1) := by decide +kernel
theorem dX10_sumUp_103 : decode cX10_sumUp 103 = .ok (.aload_n 0, 1) := by decide +kernel
theorem dX10_sumUp_104 : decode cX10_sumUp 104 = .ok (.getfield 27, 3) := by decide +kernel
theorem dX10_sumUp_107 : decode cX10_sumUp 107 = .ok (.iload_n 3, 1) := by decide +kernel
theorem dX10_sumUp_108 : decode cX10_sumUp 108 = .ok (.dup2, 1) := by decide +kernel
theorem dX10_sumUp_109 : decode cX10_sumUp 109 = .ok (.laload, 1) := by decide +kernel
theorem dX10_sumUp_110 : decode cX10_sumUp 110 = .ok (.aload_n 0, 1) := by decide +kernel
theorem dX10_sumUp_111 : decode cX10_sumUp 111 = .ok (.iload_n 2, 1) := by decide +kernel
theorem dX10_sumUp_112 : decode cX10_sumUp 112 = .ok (.iload 4, 2) := by decide +kernel
theorem dX10_sumUp_114 : decode cX10_sumUp 114 = .ok (.invokevirtual 61, 3) := by decide +kernel
theorem dX10_sumUp_117 : decode cX10_sumUp 117 = .ok (.lmul, 1) := by decide +kernel
theorem dX10_sumUp_118 : decode cX10_sumUp 118 = .ok (.lastore, 1) := by decide +kernel
theorem dX10_sumUp_119 : decode cX10_sumUp 119 = .ok (.aload_n 0, 1) := by decide +kernel
theorem dX10_sumUp_120 : decode cX10_sumUp 120 = .ok (.getfield 24, 3) := by decide +kernel
theorem dX10_sumUp_123 : decode cX10_sumUp 123 = .ok (.iload_n 3, 1) := by decide +kernel
theorem dX10_sumUp_124 : decode cX10_sumUp 124 = .ok (.dup2, 1) := by decide +kernel
theorem dX10_sumUp_125 : decode cX10_sumUp 125 = .ok (.iaload, 1) := by decide +kernel
theorem dX10_sumUp_126 : decode cX10_sumUp 126 = .ok (.aload_n 0, 1) := by decide +kernel
theorem dX10_sumUp_127 : decode cX10_sumUp 127 = .ok (.getfield 21, 3) := by decide +kernel
theorem dX10_sumUp_130 : decode cX10_sumUp 130 = .ok (.iload_n 2, 1) := by decide +kernel
theorem dX10_sumUp_131 : decode cX10_sumUp 131 = .ok (.iaload, 1) := by decide +kernel
theorem dX10_sumUp_132 : decode cX10_sumUp 132 = .ok (.iadd, 1) := by decide +kernel
theorem dX10_sumUp_133 : decode cX10_sumUp 133 = .ok (.iastore, 1) := by decide +kernel
theorem dX10_sumUp_134 : decode cX10_sumUp 134 = .ok (.aload_n 0, 1) := by decide +kernel
theorem dX10_sumUp_135 : decode cX10_sumUp 135 = .ok (.getfield 31, 3) := by decide +kernel
theorem dX10_sumUp_138 : decode cX10_sumUp 138 = .ok (.iload_n 3, 1) := by decide +kernel
theorem dX10_sumUp_139 : decode cX10_sumUp 139 = .ok (.dup2, 1) := by decide +kernel
theorem dX10_sumUp_140 : decode cX10_sumUp 140 = .ok (.laload, 1) := by decide +kernel
theorem dX10_sumUp_141 : decode cX10_sumUp 141 = .ok (.aload_n 0, 1) := by decide +kernel
theorem dX10_sumUp_142 : decode cX10_sumUp 142 = .ok (.getfield 27, 3) := by decide +kernel
theorem dX10_sumUp_145 : decode cX10_sumUp 145 = .ok (.iload_n 2, 1) := by decide +kernel
theorem dX10_sumUp_146 : decode cX10_sumUp 146 = .ok (.laload, 1) := by decide +kernel
theorem dX10_sumUp_147 : decode cX10_sumUp 147 = .ok (.lmul, 1) := by decide +kernel
theorem dX10_sumUp_148 : decode cX10_sumUp 148 = .ok (.lastore, 1) := by decide +kernel
theorem dX10_sumUp_149 : decode cX10_sumUp 149 = .ok (.iinc 2 (-1), 3) := by decide +kernel
theorem dX10_sumUp_152 : decode cX10_sumUp 152 = .ok (.goto (-88), 3) := by decide +kernel
theorem dX10_sumUp_155 : decode cX10_sumUp 155 = .ok (.return_, 1) := by decide +kernel
theorem dX10_howManyBare_0 : decode cX10_howManyBare 0 = .ok (.aload_n 0, 1) := by decide +kernel
theorem dX10_howManyBare_1 : decode cX10_howManyBare 1 = .ok (.getfield 27, 3) := by decide +kernel
theorem dX10_howManyBare_4 : decode cX10_howManyBare 4 = .ok (.lconst 1, 1) := by decide +kernel
theorem dX10_howManyBare_5 : decode cX10_howManyBare 5 = .ok (.invokestatic 69, 3) := by decide +kernel
theorem dX10_howManyBare_8 : decode cX10_howManyBare 8 = .ok (.aload_n 0, 1) := by decide +kernel
theorem dX10_howManyBare_9 : decode cX10_howManyBare 9 = .ok (.getfield 31, 3) := by decide +kernel
theorem dX10_howManyBare_12 : decode cX10_howManyBare 12 = .ok (.lconst 1, 1) := by decide +kernel
theorem dX10_howManyBare_13 : decode cX10_howManyBare 13 = .ok (.invokestatic 69, 3) := by decide +kernel
theorem dX10_howManyBare_16 : decode cX10_howManyBare 16 = .ok (.aload_n 0, 1) := by decide +kernel
theorem dX10_howManyBare_17 : decode cX10_howManyBare 17 = .ok (.getfield 34, 3) := by decide +kernel
theorem dX10_howManyBare_20 : decode cX10_howManyBare 20 = .ok (.lconst 1, 1) := by decide +kernel
theorem dX10_howManyBare_21 : decode cX10_howManyBare 21 = .ok (.invokestatic 69, 3) := by decide +kernel
theorem dX10_howManyBare_24 : decode cX10_howManyBare 24 = .ok (.aload_n 0, 1) := by decide +kernel
theorem dX10_howManyBare_25 : decode cX10_howManyBare 25 = .ok (.getfield 37, 3) := by decide +kernel
theorem dX10_howManyBare_28 : decode cX10_howManyBare 28 = .ok (.iconst 1, 1) := by decide +kernel
theorem dX10_howManyBare_29 : decode cX10_howManyBare 29 = .ok (.isub, 1) := by decide +kernel
theorem dX10_howManyBare_30 : decode cX10_howManyBare 30 = .ok (.istore_n 1, 1) := by decide +kernel
theorem dX10_howManyBare_31 : decode cX10_howManyBare 31 = .ok (.iload_n 1, 1) := by decide +kernel
theorem dX10_howManyBare_32 : decode cX10_howManyBare 32 = .ok (.ifCond .le 72, 3) := by decide +kernel
theorem dX10_howManyBare_35 : decode cX10_howManyBare 35 = .ok (.aload_n 0, 1) := by decide +kernel
theorem dX10_howManyBare_36 : decode cX10_howManyBare 36 = .ok (.getfield 18, 3) := by decide +kernel
theorem dX10_howManyBare_39 : decode cX10_howManyBare 39 = .ok (.iload_n 1, 1) := by decide +kernel
theorem dX10_howManyBare_40 : decode cX10_howManyBare 40 = .ok (.iaload, 1) := by decide +kernel
theorem dX10_howManyBare_41 : decode cX10_howManyBare 41 = .ok (.istore_n 2, 1) := by decide +kernel
theorem dX10_howManyBare_42 : decode cX10_howManyBare 42 = .ok (.aload_n 0, 1) := by decide +kernel
theorem dX10_howManyBare_43 : decode cX10_howManyBare 43 = .ok (.getfield 27, 3) := by decide +kernel
theorem dX10_howManyBare_46 : decode cX10_howManyBare 46 = .ok (.iload_n 1, 1) := by decide +kernel
theorem dX10_howManyBare_47 : decode cX10_howManyBare 47 = .ok (.laload, 1) := by decide +kernel
theorem dX10_howManyBare_48 : decode cX10_howManyBare 48 = .ok (.aload_n 0, 1) := by decide +kernel
theorem dX10_howManyBare_49 : decode cX10_howManyBare 49 = .ok (.getfield 34, 3) := by decide +kernel
theorem dX10_howManyBare_52 : decode cX10_howManyBare 52 = .ok (.iload_n 1, 1) := by decide +kernel
theorem dX10_howManyBare_53 : decode cX10_howManyBare 53 = .ok (.laload, 1) := by decide +kernel
theorem dX10_howManyBare_54 : decode cX10_howManyBare 54 = .ok (.lsub, 1) := by decide +kernel
theorem dX10_howManyBare_55 : decode cX10_howManyBare 55 = .ok (.lstore_n 3, 1) := by decide +kernel
theorem dX10_howManyBare_56 : decode cX10_howManyBare 56 = .ok (.aload_n 0, 1) := by decide +kernel
theorem dX10_howManyBare_57 : decode cX10_howManyBare 57 = .ok (.getfield 27, 3) := by decide +kernel
theorem dX10_howManyBare_60 : decode cX10_howManyBare 60 = .ok (.iload_n 2, 1) := by decide +kernel
theorem dX10_howManyBare_61 : decode cX10_howManyBare 61 = .ok (.dup2, 1) := by decide +kernel
theorem dX10_howManyBare_62 : decode cX10_howManyBare 62 = .ok (.laload, 1) := by decide +kernel
theorem dX10_howManyBare_63 : decode cX10_howManyBare 63 = .ok (.aload_n 0, 1) := by decide +kernel
theorem dX10_howManyBare_64 : decode cX10_howManyBare 64 = .ok (.getfield 31, 3) := by decide +kernel
theorem dX10_howManyBare_67 : decode cX10_howManyBare 67 = .ok (.iload_n 1, 1) := by decide +kernel
theorem dX10_howManyBare_68 : decode cX10_howManyBare 68 = .ok (.laload, 1) := by decide +kernel
theorem dX10_howManyBare_69 : decode cX10_howManyBare 69 = .ok (.lload_n 3, 1) := by decide +kernel
theorem dX10_howManyBare_70 : decode cX10_howManyBare 70 = .ok (.ladd, 1) := by decide +kernel
theorem dX10_howManyBare_71 : decode cX10_howManyBare 71 = .ok (.lmul, 1) := by decide +kernel
theorem dX10_howManyBare_72 : decode cX10_howManyBare 72 = .ok (.lastore, 1) := by decide +kernel
theorem dX10_howManyBare_73 : decode cX10_howManyBare 73 = .ok (.aload_n 0, 1) := by decide +kernel
theorem dX10_howManyBare_74 : decode cX10_howManyBare 74 = .ok (.getfield 34, 3) := by decide +kernel
theorem dX10_howManyBare_77 : decode cX10_howManyBare 77 = .ok (.iload_n 2, 1) := by decide +kernel
theorem dX10_howManyBare_78 : decode cX10_howManyBare 78 = .ok (.dup2, 1) := by decide +kernel
theorem dX10_howManyBare_79 : decode cX10_howManyBare 79 = .ok (.laload, 1) := by decide +kernel
theorem dX10_howManyBare_80 : decode cX10_howManyBare 80 = .ok (.lload_n 3, 1) := by decide +kernel
theorem dX10_howManyBare_81 : decode cX10_howManyBare 81 = .ok (.lmul, 1) := by decide +kernel
theorem dX10_howManyBare_82 : decode cX10_howManyBare 82 = .ok (.lastore, 1) := by decide +kernel
theorem dX10_howManyBare_83 : decode cX10_howManyBare 83 = .ok (.aload_n 0, 1) := by decide +kernel
theorem dX10_howManyBare_84 : decode cX10_howManyBare 84 = .ok (.getfield 31, 3) := by decide +kernel
theorem dX10_howManyBare_87 : decode cX10_howManyBare 87 = .ok (.iload_n 2, 1) := by decide +kernel
theorem dX10_howManyBare_88 : decode cX10_howManyBare 88 = .ok (.dup2, 1) := by decide +kernel
theorem dX10_howManyBare_89 : decode cX10_howManyBare 89 = .ok (.laload, 1) := by decide +kernel
theorem dX10_howManyBare_90 : decode cX10_howManyBare 90 = .ok (.aload_n 0, 1) := by decide +kernel
theorem dX10_howManyBare_91 : decode cX10_howManyBare 91 = .ok (.getfield 27, 3) := by decide +kernel
theorem dX10_howManyBare_94 : decode cX10_howManyBare 94 = .ok (.iload_n 1, 1) := by decide +kernel
theorem dX10_howManyBare_95 : decode cX10_howManyBare 95 = .ok (.laload, 1) := by decide +kernel
theorem dX10_howManyBare_96 : decode cX10_howManyBare 96 = .ok (.lmul, 1) := by decide +kernel
theorem dX10_howManyBare_97 : decode cX10_howManyBare 97 = .ok (.lastore, 1) := by decide +kernel
theorem dX10_howManyBare_98 : decode cX10_howManyBare 98 = .ok (.iinc 1 (-1), 3) := by decide +kernel
theorem dX10_howManyBare_101 : decode cX10_howManyBare 101 = .ok (.goto (-70), 3) := by decide +kernel
theorem dX10_howManyBare_104 : decode cX10_howManyBare 104 = .ok (.aload_n 0, 1) := by decide +kernel
theorem dX10_howManyBare_105 : decode cX10_howManyBare 105 = .ok (.getfield 31, 3) := by decide +kernel
theorem dX10_howManyBare_108 : decode cX10_howManyBare 108 = .ok (.iconst 0, 1) := by decide +kernel
theorem dX10_howManyBare_109 : decode cX10_howManyBare 109 = .ok (.laload, 1) := by decide +kernel
theorem dX10_howManyBare_110 : decode cX10_howManyBare 110 = .ok (.aload_n 0, 1) := by decide +kernel
theorem dX10_howManyBare_111 : decode cX10_howManyBare 111 = .ok (.getfield 27, 3) := by decide +kernel
theorem dX10_howManyBare_114 : decode cX10_howManyBare 114 = .ok (.iconst 0, 1) := by decide +kernel
theorem dX10_howManyBare_115 : decode cX10_howManyBare 115 = .ok (.laload, 1) := by decide +kernel
theorem dX10_howManyBare_116 : decode cX10_howManyBare 116 = .ok (.ladd, 1) := by decide +kernel
theorem dX10_howManyBare_117 : decode cX10_howManyBare 117 = .ok (.aload_n 0, 1) := by decide +kernel
theorem dX10_howManyBare_118 : decode cX10_howManyBare 118 = .ok (.getfield 34, 3) := by decide +kernel
theorem dX10_howManyBare_121 : decode cX10_howManyBare 121 = .ok (.iconst 0, 1) := by decide +kernel
theorem dX10_howManyBare_122 : decode cX10_howManyBare 122 = .ok (.laload, 1) := by decide +kernel
theorem dX10_howManyBare_123 : decode cX10_howManyBare 123 = .ok (.lsub, 1) := by decide +kernel
theorem dX10_howManyBare_124 : decode cX10_howManyBare 124 = .ok (.lreturn, 1) := by decide +kernel
