theorem dJ13_compare_74951_0 : decode cJ13_compare_74951 0 = .ok (.lload_n 0, 1) := by decide +kernel
theorem dJ13_compare_74951_1 : decode cJ13_compare_74951 1 = .ok (.lload_n 2, 1) := by decide +kernel
theorem dJ13_compare_74951_2 : decode cJ13_compare_74951 2 = .ok (.lcmp, 1) := by decide +kernel
theorem dJ13_compare_74951_3 : decode cJ13_compare_74951 3 = .ok (.ifCond .ge 7, 3) := by decide +kernel
theorem dJ13_compare_74951_6 : decode cJ13_compare_74951 6 = .ok (.iconst (-1), 1) := by decide +kernel
theorem dJ13_compare_74951_7 : decode cJ13_compare_74951 7 = .ok (.goto 14, 3) := by decide +kernel
theorem dJ13_compare_74951_10 : decode cJ13_compare_74951 10 = .ok (.lload_n 0, 1) := by decide +kernel
theorem dJ13_compare_74951_11 : decode cJ13_compare_74951 11 = .ok (.lload_n 2, 1) := by decide +kernel
theorem dJ13_compare_74951_12 : decode cJ13_compare_74951 12 = .ok (.lcmp, 1) := by decide +kernel
theorem dJ13_compare_74951_13 : decode cJ13_compare_74951 13 = .ok (.ifCond .ne 7, 3) := by decide +kernel
theorem dJ13_compare_74951_16 : decode cJ13_compare_74951 16 = .ok (.iconst 0, 1) := by decide +kernel
theorem dJ13_compare_74951_17 : decode cJ13_compare_74951 17 = .ok (.goto 4, 3) := by decide +kernel
theorem dJ13_compare_74951_20 : decode cJ13_compare_74951 20 = .ok (.iconst 1, 1) := by decide +kernel
theorem dJ13_compare_74951_21 : decode cJ13_compare_74951 21 = .ok (.ireturn, 1) := by decide +kernel
theorem dJ13_compareUnsigned_74951_0 : decode cJ13_compareUnsigned_74951 0 = .ok (.lload_n 0, 1) := by decide +kernel
theorem dJ13_compareUnsigned_74951_1 : decode cJ13_compareUnsigned_74951 1 = .ok (.ldc2_w 168, 3) := by decide +kernel
theorem dJ13_compareUnsigned_74951_4 : decode cJ13_compareUnsigned_74951 4 = .ok (.ladd, 1) := by decide +kernel
theorem dJ13_compareUnsigned_74951_5 : decode cJ13_compareUnsigned_74951 5 = .ok (.lload_n 2, 1) := by decide +kernel
theorem dJ13_compareUnsigned_74951_6 : decode cJ13_compareUnsigned_74951 6 = .ok (.ldc2_w 168, 3) := by decide +kernel
theorem dJ13_compareUnsigned_74951_9 : decode cJ13_compareUnsigned_74951 9 = .ok (.ladd, 1) := by decide +kernel
theorem dJ13_compareUnsigned_74951_10 : decode cJ13_compareUnsigned_74951 10 = .ok (.invokestatic 302, 3) := by decide +kernel
theorem dJ13_compareUnsigned_74951_13 : decode cJ13_compareUnsigned_74951 13 = .ok (.ireturn, 1) := by decide +kernel
theorem dJ13_numberOfLeadingZeros_95d88_0 : decode cJ13_numberOfLeadingZeros_95d88 0 = .ok (.lload_n 0, 1) := by decide +kernel
theorem dJ13_numberOfLeadingZeros_95d88_1 : decode cJ13_numberOfLeadingZeros_95d88 1 = .ok (.bipush 32, 2) := by decide +kernel
theorem dJ13_numberOfLeadingZeros_95d88_3 : decode cJ13_numberOfLeadingZeros_95d88 3 = .ok (.lushr, 1) := by decide +kernel
theorem dJ13_numberOfLeadingZeros_95d88_4 : decode cJ13_numberOfLeadingZeros_95d88 4 = .ok (.l2i, 1) := by decide +kernel
theorem dJ13_numberOfLeadingZeros_95d88_5 : decode cJ13_numberOfLeadingZeros_95d88 5 = .ok (.istore_n 2, 1) := by decide +kernel
theorem dJ13_numberOfLeadingZeros_95d88_6 : decode cJ13_numberOfLeadingZeros_95d88 6 = .ok (.iload_n 2, 1) := by decide +kernel
theorem dJ13_numberOfLeadingZeros_95d88_7 : decode cJ13_numberOfLeadingZeros_95d88 7 = .ok (.ifCond .ne 14, 3) := by decide +kernel
theorem dJ13_numberOfLeadingZeros_95d88_10 : decode cJ13_numberOfLeadingZeros_95d88 10 = .ok (.bipush 32, 2) := by decide +kernel
theorem dJ13_numberOfLeadingZeros_95d88_12 : decode cJ13_numberOfLeadingZeros_95d88 12 = .ok (.lload_n 0, 1) := by decide +kernel
theorem dJ13_numberOfLeadingZeros_95d88_13 : decode cJ13_numberOfLeadingZeros_95d88 13 = .ok (.l2i, 1) := by decide +kernel
theorem dJ13_numberOfLeadingZeros_95d88_14 : decode cJ13_numberOfLeadingZeros_95d88 14 = .ok (.invokestatic 308, 3) := by decide +kernel
theorem dJ13_numberOfLeadingZeros_95d88_17 : decode cJ13_numberOfLeadingZeros_95d88 17 = .ok (.iadd, 1) := by decide +kernel
theorem dJ13_numberOfLeadingZeros_95d88_18 : decode cJ13_numberOfLeadingZeros_95d88 18 = .ok (.goto 7, 3) := by decide +kernel
theorem dJ13_numberOfLeadingZeros_95d88_21 : decode cJ13_numberOfLeadingZeros_95d88 21 = .ok (.iload_n 2, 1) := by decide +kernel
theorem dJ13_numberOfLeadingZeros_95d88_22 : decode cJ13_numberOfLeadingZeros_95d88 22 = .ok (.invokestatic 308, 3) := by decide +kernel
theorem dJ13_numberOfLeadingZeros_95d88_25 : decode cJ13_numberOfLeadingZeros_95d88 25 = .ok (.ireturn, 1) := by decide +kernel
theorem dJ6_numberOfLeadingZeros_0f7a4_0 : decode cJ6_numberOfLeadingZeros_0f7a4 0 = .ok (.iload_n 0, 1) := by decide +kernel
theorem dJ6_numberOfLeadingZeros_0f7a4_1 : decode cJ6_numberOfLeadingZeros_0f7a4 1 = .ok (.ifCond .gt 14, 3) := by decide +kernel
theorem dJ6_numberOfLeadingZeros_0f7a4_4 : decode cJ6_numberOfLeadingZeros_0f7a4 4 = .ok (.iload_n 0, 1) := by decide +kernel
theorem dJ6_numberOfLeadingZeros_0f7a4_5 : decode cJ6_numberOfLeadingZeros_0f7a4 5 = .ok (.ifCond .ne 8, 3) := by decide +kernel
theorem dJ6_numberOfLeadingZeros_0f7a4_8 : decode cJ6_numberOfLeadingZeros_0f7a4 8 = .ok (.bipush 32, 2) := by decide +kernel
theorem dJ6_numberOfLeadingZeros_0f7a4_10 : decode cJ6_numberOfLeadingZeros_0f7a4 10 = .ok (.goto 4, 3) := by decide +kernel
theorem dJ6_numberOfLeadingZeros_0f7a4_13 : decode cJ6_numberOfLeadingZeros_0f7a4 13 = .ok (.iconst 0, 1) := by decide +kernel
theorem dJ6_numberOfLeadingZeros_0f7a4_14 : decode cJ6_numberOfLeadingZeros_0f7a4 14 = .ok (.ireturn, 1) := by decide +kernel
theorem dJ6_numberOfLeadingZeros_0f7a4_15 : decode cJ6_numberOfLeadingZeros_0f7a4 15 = .ok (.bipush 31, 2) := by decide +kernel
theorem dJ6_numberOfLeadingZeros_0f7a4_17 : decode cJ6_numberOfLeadingZeros_0f7a4 17 = .ok (.istore_n 1, 1) := by decide +kernel
theorem dJ6_numberOfLeadingZeros_0f7a4_18 : decode cJ6_numberOfLeadingZeros_0f7a4 18 = .ok (.iload_n 0, 1) := by decide +kernel
theorem dJ6_numberOfLeadingZeros_0f7a4_19 : decode cJ6_numberOfLeadingZeros_0f7a4 19 = .ok (.ldc_w 264, 3) := by decide +kernel
theorem dJ6_numberOfLeadingZeros_0f7a4_22 : decode cJ6_numberOfLeadingZeros_0f7a4 22 = .ok (.if_icmp .lt 11, 3) := by decide +kernel
theorem dJ6_numberOfLeadingZeros_0f7a4_25 : decode cJ6_numberOfLeadingZeros_0f7a4 25 = .ok (.iinc 1 (-16), 3) := by decide +kernel
theorem dJ6_numberOfLeadingZeros_0f7a4_28 : decode cJ6_numberOfLeadingZeros_0f7a4 28 = .ok (.iload_n 0, 1) := by decide +kernel
theorem dJ6_numberOfLeadingZeros_0f7a4_29 : decode cJ6_numberOfLeadingZeros_0f7a4 29 = .ok (.bipush 16, 2) := by decide +kernel
theorem dJ6_numberOfLeadingZeros_0f7a4_31 : decode cJ6_numberOfLeadingZeros_0f7a4 31 = .ok (.iushr, 1) := by decide +kernel
theorem dJ6_numberOfLeadingZeros_0f7a4_32 : decode cJ6_numberOfLeadingZeros_0f7a4 32 = .ok (.istore_n 0, 1) := by decide +kernel
theorem dJ6_numberOfLeadingZeros_0f7a4_33 : decode cJ6_numberOfLeadingZeros_0f7a4 33 = .ok (.iload_n 0, 1) := by decide +kernel
theorem dJ6_numberOfLeadingZeros_0f7a4_34 : decode cJ6_numberOfLeadingZeros_0f7a4 34 = .ok (.sipush 256, 3) := by decide +kernel
theorem dJ6_numberOfLeadingZeros_0f7a4_37 : decode cJ6_numberOfLeadingZeros_0f7a4 37 = .ok (.if_icmp .lt 11, 3) := by decide +kernel
theorem dJ6_numberOfLeadingZeros_0f7a4_40 : decode cJ6_numberOfLeadingZeros_0f7a4 40 = .ok (.iinc 1 (-8), 3) := by decide +kernel
theorem dJ6_numberOfLeadingZeros_0f7a4_43 : decode cJ6_numberOfLeadingZeros_0f7a4 43 = .ok (.iload_n 0, 1) := by decide +kernel
theorem dJ6_numberOfLeadingZeros_0f7a4_44 : decode cJ6_numberOfLeadingZeros_0f7a4 44 = .ok (.bipush 8, 2) := by decide +kernel
theorem dJ6_numberOfLeadingZeros_0f7a4_46 : decode cJ6_numberOfLeadingZeros_0f7a4 46 = .ok (.iushr, 1) := by decide +kernel
theorem dJ6_numberOfLeadingZeros_0f7a4_47 : decode cJ6_numberOfLeadingZeros_0f7a4 47 = .ok (.istore_n 0, 1) := by decide +kernel
theorem dJ6_numberOfLeadingZeros_0f7a4_48 : decode cJ6_numberOfLeadingZeros_0f7a4 48 = .ok (.iload_n 0, 1) := by decide +kernel
theorem dJ6_numberOfLeadingZeros_0f7a4_49 : decode cJ6_numberOfLeadingZeros_0f7a4 49 = .ok (.bipush 16, 2) := by decide +kernel
theorem dJ6_numberOfLeadingZeros_0f7a4_51 : decode cJ6_numberOfLeadingZeros_0f7a4 51 = .ok (.if_icmp .lt 10, 3) := by decide +kernel
theorem dJ6_numberOfLeadingZeros_0f7a4_54 : decode cJ6_numberOfLeadingZeros_0f7a4 54 = .ok (.iinc 1 (-4), 3) := by decide +kernel
theorem dJ6_numberOfLeadingZeros_0f7a4_57 : decode cJ6_numberOfLeadingZeros_0f7a4 57 = .ok (.iload_n 0, 1) := by decide +kernel
theorem dJ6_numberOfLeadingZeros_0f7a4_58 : decode cJ6_numberOfLeadingZeros_0f7a4 58 = .ok (.iconst 4, 1) := by decide +kernel
theorem dJ6_numberOfLeadingZeros_0f7a4_59 : decode cJ6_numberOfLeadingZeros_0f7a4 59 = .ok (.iushr, 1) := by decide +kernel
theorem dJ6_numberOfLeadingZeros_0f7a4_60 : decode cJ6_numberOfLeadingZeros_0f7a4 60 = .ok (.istore_n 0, 1) := by decide +kernel
theorem dJ6_numberOfLeadingZeros_0f7a4_61 : decode cJ6_numberOfLeadingZeros_0f7a4 61 = .ok (.iload_n 0, 1) := by decide +kernel
theorem dJ6_numberOfLeadingZeros_0f7a4_62 : decode cJ6_numberOfLeadingZeros_0f7a4 62 = .ok (.iconst 4, 1) := by decide +kernel
theorem dJ6_numberOfLeadingZeros_0f7a4_63 : decode cJ6_numberOfLeadingZeros_0f7a4 63 = .ok (.if_icmp .lt 10, 3) := by decide +kernel
theorem dJ6_numberOfLeadingZeros_0f7a4_66 : decode cJ6_numberOfLeadingZeros_0f7a4 66 = .ok (.iinc 1 (-2), 3) := by decide +kernel
theorem dJ6_numberOfLeadingZeros_0f7a4_69 : decode cJ6_numberOfLeadingZeros_0f7a4 69 = .ok (.iload_n 0, 1) := by decide +kernel
theorem dJ6_numberOfLeadingZeros_0f7a4_70 : decode cJ6_numberOfLeadingZeros_0f7a4 70 = .ok (.iconst 2, 1) := by decide +kernel
theorem dJ6_numberOfLeadingZeros_0f7a4_71 : decode cJ6_numberOfLeadingZeros_0f7a4 71 = .ok (.iushr, 1) := by decide +kernel
theorem dJ6_numberOfLeadingZeros_0f7a4_72 : decode cJ6_numberOfLeadingZeros_0f7a4 72 = .ok (.istore_n 0, 1) := by decide +kernel
theorem dJ6_numberOfLeadingZeros_0f7a4_73 : decode cJ6_numberOfLeadingZeros_0f7a4 73 = .ok (.iload_n 1, 1) := by decide +kernel
theorem dJ6_numberOfLeadingZeros_0f7a4_74 : decode cJ6_numberOfLeadingZeros_0f7a4 74 = .ok (.iload_n 0, 1) := by decide +kernel
theorem dJ6_numberOfLeadingZeros_0f7a4_75 : decode cJ6_numberOfLeadingZeros_0f7a4 75 = .ok (.iconst 1, 1) := by decide +kernel
theorem dJ6_numberOfLeadingZeros_0f7a4_76 : decode cJ6_numberOfLeadingZeros_0f7a4 76 = .ok (.iushr, 1) := by decide +kernel
theorem dJ6_numberOfLeadingZeros_0f7a4_77 : decode cJ6_numberOfLeadingZeros_0f7a4 77 = .ok (.isub, 1) := by decide +kernel
theorem dJ6_numberOfLeadingZeros_0f7a4_78 : decode cJ6_numberOfLeadingZeros_0f7a4 78 = .ok (.ireturn, 1) := by decide +kernel
theorem dJ6_bitCount_0f7a4_0 : decode cJ6_bitCount_0f7a4 0 = .ok (.iload_n 0, 1) := by decide +kernel
theorem dJ6_bitCount_0f7a4_1 : decode cJ6_bitCount_0f7a4 1 = .ok (.iload_n 0, 1) := by decide +kernel
theorem dJ6_bitCount_0f7a4_2 : decode cJ6_bitCount_0f7a4 2 = .ok (.iconst 1, 1) := by decide +kernel
theorem dJ6_bitCount_0f7a4_3 : decode cJ6_bitCount_0f7a4 3 = .ok (.iushr, 1) := by decide +kernel
theorem dJ6_bitCount_0f7a4_4 : decode cJ6_bitCount_0f7a4 4 = .ok (.ldc_w 265, 3) := by decide +kernel
theorem dJ6_bitCount_0f7a4_7 : decode cJ6_bitCount_0f7a4 7 = .ok (.iand, 1) := by decide +kernel
theorem dJ6_bitCount_0f7a4_8 : decode cJ6_bitCount_0f7a4 8 = .ok (.isub, 1) := by decide +kernel
theorem dJ6_bitCount_0f7a4_9 : decode cJ6_bitCount_0f7a4 9 = .ok (.istore_n 0, 1) := by decide +kernel
theorem dJ6_bitCount_0f7a4_10 : decode cJ6_bitCount_0f7a4 10 = .ok (.iload_n 0, 1) := by decide +kernel
theorem dJ6_bitCount_0f7a4_11 : decode cJ6_bitCount_0f7a4 11 = .ok (.ldc_w 266, 3) := by decide +kernel
theorem dJ6_bitCount_0f7a4_14 : decode cJ6_bitCount_0f7a4 14 = .ok (.iand, 1) := by decide +kernel
theorem dJ6_bitCount_0f7a4_15 : decode cJ6_bitCount_0f7a4 15 = .ok (.iload_n 0, 1) := by decide +kernel
theorem dJ6_bitCount_0f7a4_16 : decode cJ6_bitCount_0f7a4 16 = .ok (.iconst 2, 1) := by decide +kernel
theorem dJ6_bitCount_0f7a4_17 : decode cJ6_bitCount_0f7a4 17 = .ok (.iushr, 1) := by decide +kernel
theorem dJ6_bitCount_0f7a4_18 : decode cJ6_bitCount_0f7a4 18 = .ok (.ldc_w 266, 3) := by decide +kernel
theorem dJ6_bitCount_0f7a4_21 : decode cJ6_bitCount_0f7a4 21 = .ok (.iand, 1) := by decide +kernel
theorem dJ6_bitCount_0f7a4_22 : decode cJ6_bitCount_0f7a4 22 = .ok (.iadd, 1) := by decide +kernel
theorem dJ6_bitCount_0f7a4_23 : decode cJ6_bitCount_0f7a4 23 = .ok (.istore_n 0, 1) := by decide +kernel
theorem dJ6_bitCount_0f7a4_24 : decode cJ6_bitCount_0f7a4 24 = .ok (.iload_n 0, 1) := by decide +kernel
theorem dJ6_bitCount_0f7a4_25 : decode cJ6_bitCount_0f7a4 25 = .ok (.iload_n 0, 1) := by decide +kernel
theorem dJ6_bitCount_0f7a4_26 : decode cJ6_bitCount_0f7a4 26 = .ok (.iconst 4, 1) := by decide +kernel
theorem dJ6_bitCount_0f7a4_27 : decode cJ6_bitCount_0f7a4 27 = .ok (.iushr, 1) := by decide +kernel
theorem dJ6_bitCount_0f7a4_28 : decode cJ6_bitCount_0f7a4 28 = .ok (.iadd, 1) := by decide +kernel
theorem dJ6_bitCount_0f7a4_29 : decode cJ6_bitCount_0f7a4 29 = .ok (.ldc_w 267, 3) := by decide +kernel
theorem dJ6_bitCount_0f7a4_32 : decode cJ6_bitCount_0f7a4 32 = .ok (.iand, 1) := by decide +kernel
theorem dJ6_bitCount_0f7a4_33 : decode cJ6_bitCount_0f7a4 33 = .ok (.istore_n 0, 1) := by decide +kernel
theorem dJ6_bitCount_0f7a4_34 : decode cJ6_bitCount_0f7a4 34 = .ok (.iload_n 0, 1) := by decide +kernel
theorem dJ6_bitCount_0f7a4_35 : decode cJ6_bitCount_0f7a4 35 = .ok (.iload_n 0, 1) := by decide +kernel
theorem dJ6_bitCount_0f7a4_36 : decode cJ6_bitCount_0f7a4 36 = .ok (.bipush 8, 2) := by decide +kernel
theorem dJ6_bitCount_0f7a4_38 : decode cJ6_bitCount_0f7a4 38 = .ok (.iushr, 1) := by decide +kernel
theorem dJ6_bitCount_0f7a4_39 : decode cJ6_bitCount_0f7a4 39 = .ok (.iadd, 1) := by decide +kernel
theorem dJ6_bitCount_0f7a4_40 : decode cJ6_bitCount_0f7a4 40 = .ok (.istore_n 0, 1) := by decide +kernel
theorem dJ6_bitCount_0f7a4_41 : decode cJ6_bitCount_0f7a4 41 = .ok (.iload_n 0, 1) := by decide +kernel
theorem dJ6_bitCount_0f7a4_42 : decode cJ6_bitCount_0f7a4 42 = .ok (.iload_n 0, 1) := by decide +kernel
theorem dJ6_bitCount_0f7a4_43 : decode cJ6_bitCount_0f7a4 43 = .ok (.bipush 16, 2) := by decide +kernel
theorem dJ6_bitCount_0f7a4_45 : decode cJ6_bitCount_0f7a4 45 = .ok (.iushr, 1) := by decide +kernel
theorem dJ6_bitCount_0f7a4_46 : decode cJ6_bitCount_0f7a4 46 = .ok (.iadd, 1) := by decide +kernel
theorem dJ6_bitCount_0f7a4_47 : decode cJ6_bitCount_0f7a4 47 = .ok (.istore_n 0, 1) := by decide +kernel
theorem dJ6_bitCount_0f7a4_48 : decode cJ6_bitCount_0f7a4 48 = .ok (.iload_n 0, 1) := by decide +kernel
theorem dJ6_bitCount_0f7a4_49 : decode cJ6_bitCount_0f7a4 49 = .ok (.bipush 63, 2) := by decide +kernel
theorem dJ6_bitCount_0f7a4_51 : decode cJ6_bitCount_0f7a4 51 = .ok (.iand, 1) := by decide +kernel
theorem dJ6_bitCount_0f7a4_52 : decode cJ6_bitCount_0f7a4 52 = .ok (.ireturn, 1) := by decide +kernel
theorem dJ9_max_7cf53_0 : decode cJ9_max_7cf53 0 = .ok (.iload_n 0, 1) := by decide +kernel
theorem dJ9_max_7cf53_1 : decode cJ9_max_7cf53 1 = .ok (.iload_n 1, 1) := by decide +kernel
theorem dJ9_max_7cf53_2 : decode cJ9_max_7cf53 2 = .ok (.if_icmp .lt 7, 3) := by decide +kernel
theorem dJ9_max_7cf53_5 : decode cJ9_max_7cf53 5 = .ok (.iload_n 0, 1) := by decide +kernel
theorem dJ9_max_7cf53_6 : decode cJ9_max_7cf53 6 = .ok (.goto 4, 3) := by decide +kernel
theorem dJ9_max_7cf53_9 : decode cJ9_max_7cf53 9 = .ok (.iload_n 1, 1) := by decide +kernel
theorem dJ9_max_7cf53_10 : decode cJ9_max_7cf53 10 = .ok (.ireturn, 1) := by decide +kernel
theorem dJ9_min_7cf53_0 : decode cJ9_min_7cf53 0 = .ok (.iload_n 0, 1) := by decide +kernel
theorem dJ9_min_7cf53_1 : decode cJ9_min_7cf53 1 = .ok (.iload_n 1, 1) := by decide +kernel
theorem dJ9_min_7cf53_2 : decode cJ9_min_7cf53 2 = .ok (.if_icmp .gt 7, 3) := by decide +kernel
theorem dJ9_min_7cf53_5 : decode cJ9_min_7cf53 5 = .ok (.iload_n 0, 1) := by decide +kernel
theorem dJ9_min_7cf53_6 : decode cJ9_min_7cf53 6 = .ok (.goto 4, 3) := by decide +kernel
theorem dJ9_min_7cf53_9 : decode cJ9_min_7cf53 9 = .ok (.iload_n 1, 1) := by decide +kernel
theorem dJ9_min_7cf53_10 : decode cJ9_min_7cf53 10 = .ok (.ireturn, 1) := by decide +kernel
theorem dX0_init_0 : decode cX0_init 0 = .ok (.aload_n 0, 1) := by decide +kernel
theorem dX0_init_1 : decode cX0_init 1 = .ok (.invokespecial 3, 3) := by decide +kernel
theorem dX0_init_4 : decode cX0_init 4 = .ok (.aload_n 0, 1) := by decide +kernel
theorem dX0_init_5 : decode cX0_init 5 = .ok (.bipush 8, 2) := by decide +kernel
theorem dX0_init_7 : decode cX0_init 7 = .ok (.newarray .int, 2) := by decide +kernel
theorem dX0_init_9 : decode cX0_init 9 = .ok (.putfield 9, 3) := by decide +kernel
theorem dX0_init_12 : decode cX0_init 12 = .ok (.return_, 1) := by decide +kernel
theorem dX0_countOfSize_0 : decode cX0_countOfSize 0 = .ok (.iconst 0, 1) := by decide +kernel
theorem dX0_countOfSize_1 : decode cX0_countOfSize 1 = .ok (.istore_n 3, 1) := by decide +kernel
theorem dX0_countOfSize_2 : decode cX0_countOfSize 2 = .ok (.iconst 0, 1) := by decide +kernel
theorem dX0_countOfSize_3 : decode cX0_countOfSize 3 = .ok (.istore 4, 2) := by decide +kernel
theorem dX0_countOfSize_5 : decode cX0_countOfSize 5 = .ok (.iload 4, 2) := by decide +kernel
theorem dX0_countOfSize_7 : decode cX0_countOfSize 7 = .ok (.iconst 1, 1) := by decide +kernel
theorem dX0_countOfSize_8 : decode cX0_countOfSize 8 = .ok (.iadd, 1) := by decide +kernel
theorem dX0_countOfSize_9 : decode cX0_countOfSize 9 = .ok (.aload_n 1, 1) := by decide +kernel
theorem dX0_countOfSize_10 : decode cX0_countOfSize 10 = .ok (.invokevirtual 15, 3) := by decide +kernel
theorem dX0_countOfSize_13 : decode cX0_countOfSize 13 = .ok (.if_icmp .ge 49, 3) := by decide +kernel
theorem dX0_countOfSize_16 : decode cX0_countOfSize 16 = .ok (.aload_n 1, 1) := by decide +kernel
theorem dX0_countOfSize_17 : decode cX0_countOfSize 17 = .ok (.iload 4, 2) := by decide +kernel
theorem dX0_countOfSize_19 : decode cX0_countOfSize 19 = .ok (.invokevirtual 21, 3) := by decide +kernel
theorem dX0_countOfSize_22 : decode cX0_countOfSize 22 = .ok (.istore 5, 2) := by decide +kernel
theorem dX0_countOfSize_24 : decode cX0_countOfSize 24 = .ok (.iload_n 3, 1) := by decide +kernel
theorem dX0_countOfSize_25 : decode cX0_countOfSize 25 = .ok (.aload_n 0, 1) := by decide +kernel
theorem dX0_countOfSize_26 : decode cX0_countOfSize 26 = .ok (.iload 5, 2) := by decide +kernel
theorem dX0_countOfSize_28 : decode cX0_countOfSize 28 = .ok (.iload_n 2, 1) := by decide +kernel
theorem dX0_countOfSize_29 : decode cX0_countOfSize 29 = .ok (.invokevirtual 25, 3) := by decide +kernel
theorem dX0_countOfSize_32 : decode cX0_countOfSize 32 = .ok (.iadd, 1) := by decide +kernel
theorem dX0_countOfSize_33 : decode cX0_countOfSize 33 = .ok (.istore_n 3, 1) := by decide +kernel
theorem dX0_countOfSize_34 : decode cX0_countOfSize 34 = .ok (.aload_n 0, 1) := by decide +kernel
theorem dX0_countOfSize_35 : decode cX0_countOfSize 35 = .ok (.iload 5, 2) := by decide +kernel
theorem dX0_countOfSize_37 : decode cX0_countOfSize 37 = .ok (.aload_n 1, 1) := by decide +kernel
theorem dX0_countOfSize_38 : decode cX0_countOfSize 38 = .ok (.iload 4, 2) := by decide +kernel
theorem dX0_countOfSize_40 : decode cX0_countOfSize 40 = .ok (.invokevirtual 29, 3) := by decide +kernel
theorem dX0_countOfSize_43 : decode cX0_countOfSize 43 = .ok (.iload 5, 2) := by decide +kernel
theorem dX0_countOfSize_45 : decode cX0_countOfSize 45 = .ok (.if_icmp .ne 7, 3) := by decide +kernel
theorem dX0_countOfSize_48 : decode cX0_countOfSize 48 = .ok (.iconst 1, 1) := by decide +kernel
theorem dX0_countOfSize_49 : decode cX0_countOfSize 49 = .ok (.goto 4, 3) := by decide +kernel
theorem dX0_countOfSize_52 : decode cX0_countOfSize 52 = .ok (.iconst 0, 1) := by decide +kernel
theorem dX0_countOfSize_53 : decode cX0_countOfSize 53 = .ok (.invokevirtual 32, 3) := by decide +kernel
theorem dX0_countOfSize_56 : decode cX0_countOfSize 56 = .ok (.iinc 4 1, 3) := by decide +kernel
theorem dX0_countOfSize_59 : decode cX0_countOfSize 59 = .ok (.goto (-54), 3) := by decide +kernel
theorem dX0_countOfSize_62 : decode cX0_countOfSize 62 = .ok (.iload_n 3, 1) := by decide +kernel
theorem dX0_countOfSize_63 : decode cX0_countOfSize 63 = .ok (.aload_n 0, 1) := by decide +kernel
theorem dX0_countOfSize_64 : decode cX0_countOfSize 64 = .ok (.iconst (-1), 1) := by decide +kernel
theorem dX0_countOfSize_65 : decode cX0_countOfSize 65 = .ok (.iload_n 2, 1) := by decide +kernel
theorem dX0_countOfSize_66 : decode cX0_countOfSize 66 = .ok (.invokevirtual 25, 3) := by decide +kernel
theorem dX0_countOfSize_69 : decode cX0_countOfSize 69 = .ok (.iadd, 1) := by decide +kernel
theorem dX0_countOfSize_70 : decode cX0_countOfSize 70 = .ok (.ireturn, 1) := by decide +kernel
theorem dX0_addBranch_0 : decode cX0_addBranch 0 = .ok (.iload_n 1, 1) := by decide +kernel
theorem dX0_addBranch_1 : decode cX0_addBranch 1 = .ok (.ifCond .lt 12, 3) := by decide +kernel
theorem dX0_addBranch_4 : decode cX0_addBranch 4 = .ok (.iload_n 1, 1) := by decide +kernel
theorem dX0_addBranch_5 : decode cX0_addBranch 5 = .ok (.aload_n 0, 1) := by decide +kernel
theorem dX0_addBranch_6 : decode cX0_addBranch 6 = .ok (.getfield 9, 3) := by decide +kernel
theorem dX0_addBranch_9 : decode cX0_addBranch 9 = .ok (.arraylength, 1) := by decide +kernel
theorem dX0_addBranch_10 : decode cX0_addBranch 10 = .ok (.if_icmp .lt 4, 3) := by decide +kernel
theorem dX0_addBranch_13 : decode cX0_addBranch 13 = .ok (.return_, 1) := by decide +kernel
theorem dX0_addBranch_14 : decode cX0_addBranch 14 = .ok (.aload_n 0, 1) := by decide +kernel
theorem dX0_addBranch_15 : decode cX0_addBranch 15 = .ok (.getfield 9, 3) := by decide +kernel
theorem dX0_addBranch_18 : decode cX0_addBranch 18 = .ok (.iload_n 1, 1) := by decide +kernel
theorem dX0_addBranch_19 : decode cX0_addBranch 19 = .ok (.iaload, 1) := by decide +kernel
theorem dX0_addBranch_20 : decode cX0_addBranch 20 = .ok (.ifCond .ne 11, 3) := by decide +kernel
theorem dX0_addBranch_23 : decode cX0_addBranch 23 = .ok (.iload_n 2, 1) := by decide +kernel
theorem dX0_addBranch_24 : decode cX0_addBranch 24 = .ok (.ifCond .ne 7, 3) := by decide +kernel
theorem dX0_addBranch_27 : decode cX0_addBranch 27 = .ok (.iconst 1, 1) := by decide +kernel
theorem dX0_addBranch_28 : decode cX0_addBranch 28 = .ok (.goto 4, 3) := by decide +kernel
theorem dX0_addBranch_31 : decode cX0_addBranch 31 = .ok (.iconst 0, 1) := by decide +kernel
theorem dX0_addBranch_32 : decode cX0_addBranch 32 = .ok (.istore_n 3, 1) := by decide +kernel
theorem dX0_addBranch_33 : decode cX0_addBranch 33 = .ok (.aload_n 0, 1) := by decide +kernel
theorem dX0_addBranch_34 : decode cX0_addBranch 34 = .ok (.getfield 9, 3) := by decide +kernel
theorem dX0_addBranch_37 : decode cX0_addBranch 37 = .ok (.iload_n 1, 1) := by decide +kernel
theorem dX0_addBranch_38 : decode cX0_addBranch 38 = .ok (.dup2, 1) := by decide +kernel
theorem dX0_addBranch_39 : decode cX0_addBranch 39 = .ok (.iaload, 1) := by decide +kernel
theorem dX0_addBranch_40 : decode cX0_addBranch 40 = .ok (.iload_n 3, 1) := by decide +kernel
theorem dX0_addBranch_41 : decode cX0_addBranch 41 = .ok (.ifCond .eq 7, 3) := by decide +kernel
theorem dX0_addBranch_44 : decode cX0_addBranch 44 = .ok (.iconst 2, 1) := by decide +kernel
theorem dX0_addBranch_45 : decode cX0_addBranch 45 = .ok (.goto 4, 3) := by decide +kernel
theorem dX0_addBranch_48 : decode cX0_addBranch 48 = .ok (.iconst 1, 1) := by decide +kernel
theorem dX0_addBranch_49 : decode cX0_addBranch 49 = .ok (.iadd, 1) := by decide +kernel
theorem dX0_addBranch_50 : decode cX0_addBranch 50 = .ok (.iastore, 1) := by decide +kernel
theorem dX0_addBranch_51 : decode cX0_addBranch 51 = .ok (.return_, 1) := by decide +kernel
theorem dX0_endLongerThan_0 : decode cX0_endLongerThan 0 = .ok (.iconst 0, 1) := by decide +kernel
theorem dX0_endLongerThan_1 : decode cX0_endLongerThan 1 = .ok (.istore_n 3, 1) := by decide +kernel
theorem dX0_endLongerThan_2 : decode cX0_endLongerThan 2 = .ok (.iload_n 1, 1) := by decide +kernel
theorem dX0_endLongerThan_3 : decode cX0_endLongerThan 3 = .ok (.iconst 1, 1) := by decide +kernel
theorem dX0_endLongerThan_4 : decode cX0_endLongerThan 4 = .ok (.iadd, 1) := by decide +kernel
theorem dX0_endLongerThan_5 : decode cX0_endLongerThan 5 = .ok (.iconst 0, 1) := by decide +kernel
theorem dX0_endLongerThan_6 : decode cX0_endLongerThan 6 = .ok (.invokestatic 36, 3) := by decide +kernel
theorem dX0_endLongerThan_9 : decode cX0_endLongerThan 9 = .ok (.istore 4, 2) := by decide +kernel
theorem dX0_endLongerThan_11 : decode cX0_endLongerThan 11 = .ok (.iload 4, 2) := by decide +kernel
theorem dX0_endLongerThan_13 : decode cX0_endLongerThan 13 = .ok (.aload_n 0, 1) := by decide +kernel
theorem dX0_endLongerThan_14 : decode cX0_endLongerThan 14 = .ok (.getfield 9, 3) := by decide +kernel
theorem dX0_endLongerThan_17 : decode cX0_endLongerThan 17 = .ok (.arraylength, 1) := by decide +kernel
theorem dX0_endLongerThan_18 : decode cX0_endLongerThan 18 = .ok (.if_icmp .ge 44, 3) := by decide +kernel
theorem dX0_endLongerThan_21 : decode cX0_endLongerThan 21 = .ok (.aload_n 0, 1) := by decide +kernel
theorem dX0_endLongerThan_22 : decode cX0_endLongerThan 22 = .ok (.getfield 9, 3) := by decide +kernel
theorem dX0_endLongerThan_25 : decode cX0_endLongerThan 25 = .ok (.iload 4, 2) := by decide +kernel
theorem dX0_endLongerThan_27 : decode cX0_endLongerThan 27 = .ok (.iaload, 1) := by decide +kernel
theorem dX0_endLongerThan_28 : decode cX0_endLongerThan 28 = .ok (.ifCond .le 20, 3) := by decide +kernel
theorem dX0_endLongerThan_31 : decode cX0_endLongerThan 31 = .ok (.aload_n 0, 1) := by decide +kernel
theorem dX0_endLongerThan_32 : decode cX0_endLongerThan 32 = .ok (.getfield 9, 3) := by decide +kernel
theorem dX0_endLongerThan_35 : decode cX0_endLongerThan 35 = .ok (.iload 4, 2) := by decide +kernel
theorem dX0_endLongerThan_37 : decode cX0_endLongerThan 37 = .ok (.iaload, 1) := by decide +kernel
theorem dX0_endLongerThan_38 : decode cX0_endLongerThan 38 = .ok (.invokestatic 41, 3) := by decide +kernel
theorem dX0_endLongerThan_41 : decode cX0_endLongerThan 41 = .ok (.iload_n 2, 1) := by decide +kernel
theorem dX0_endLongerThan_42 : decode cX0_endLongerThan 42 = .ok (.if_icmp .ne 6, 3) := by decide +kernel
theorem dX0_endLongerThan_45 : decode cX0_endLongerThan 45 = .ok (.iinc 3 1, 3) := by decide +kernel
theorem dX0_endLongerThan_48 : decode cX0_endLongerThan 48 = .ok (.aload_n 0, 1) := by decide +kernel
theorem dX0_endLongerThan_49 : decode cX0_endLongerThan 49 = .ok (.getfield 9, 3) := by decide +kernel
theorem dX0_endLongerThan_52 : decode cX0_endLongerThan 52 = .ok (.iload 4, 2) := by decide +kernel
theorem dX0_endLongerThan_54 : decode cX0_endLongerThan 54 = .ok (.iconst 0, 1) := by decide +kernel
theorem dX0_endLongerThan_55 : decode cX0_endLongerThan 55 = .ok (.iastore, 1) := by decide +kernel
theorem dX0_endLongerThan_56 : decode cX0_endLongerThan 56 = .ok (.iinc 4 1, 3) := by decide +kernel
theorem dX0_endLongerThan_59 : decode cX0_endLongerThan 59 = .ok (.goto (-48), 3) := by decide +kernel
theorem dX0_endLongerThan_62 : decode cX0_endLongerThan 62 = .ok (.iload_n 3, 1) := by decide +kernel
theorem dX0_endLongerThan_63 : decode cX0_endLongerThan 63 = .ok (.ireturn, 1) := by decide +kernel
theorem dX0_sizeOf_0 : decode cX0_sizeOf 0 = .ok (.iload_n 0, 1) := by decide +kernel
theorem dX0_sizeOf_1 : decode cX0_sizeOf 1 = .ok (.iconst 4, 1) := by decide +kernel
theorem dX0_sizeOf_2 : decode cX0_sizeOf 2 = .ok (.if_icmp .gt 5, 3) := by decide +kernel
theorem dX0_sizeOf_5 : decode cX0_sizeOf 5 = .ok (.iconst 0, 1) := by decide +kernel
theorem dX0_sizeOf_6 : decode cX0_sizeOf 6 = .ok (.ireturn, 1) := by decide +kernel
theorem dX0_sizeOf_7 : decode cX0_sizeOf 7 = .ok (.iload_n 0, 1) := by decide +kernel
theorem dX0_sizeOf_8 : decode cX0_sizeOf 8 = .ok (.bipush 16, 2) := by decide +kernel
theorem dX0_sizeOf_10 : decode cX0_sizeOf 10 = .ok (.if_icmp .gt 5, 3) := by decide +kernel
theorem dX0_sizeOf_13 : decode cX0_sizeOf 13 = .ok (.iconst 1, 1) := by decide +kernel
theorem dX0_sizeOf_14 : decode cX0_sizeOf 14 = .ok (.ireturn, 1) := by decide +kernel
theorem dX0_sizeOf_15 : decode cX0_sizeOf 15 = .ok (.iload_n 0, 1) := by decide +kernel
theorem dX0_sizeOf_16 : decode cX0_sizeOf 16 = .ok (.bipush 48, 2) := by decide +kernel
theorem dX0_sizeOf_18 : decode cX0_sizeOf 18 = .ok (.if_icmp .gt 7, 3) := by decide +kernel
theorem dX0_sizeOf_21 : decode cX0_sizeOf 21 = .ok (.iconst 2, 1) := by decide +kernel
theorem dX0_sizeOf_22 : decode cX0_sizeOf 22 = .ok (.goto 4, 3) := by decide +kernel
theorem dX0_sizeOf_25 : decode cX0_sizeOf 25 = .ok (.iconst 3, 1) := by decide +kernel
theorem dX0_sizeOf_26 : decode cX0_sizeOf 26 = .ok (.ireturn, 1) := by decide +kernel
theorem dX1_init_0 : decode cX1_init 0 = .ok (.aload_n 0, 1) := by decide +kernel
theorem dX1_init_1 : decode cX1_init 1 = .ok (.invokespecial 3, 3) := by decide +kernel
theorem dX1_init_4 : decode cX1_init 4 = .ok (.aload_n 0, 1) := by decide +kernel
theorem dX1_init_5 : decode cX1_init 5 = .ok (.bipush 120, 2) := by decide +kernel
theorem dX1_init_7 : decode cX1_init 7 = .ok (.newarray .long, 2) := by decide +kernel
theorem dX1_init_9 : decode cX1_init 9 = .ok (.putfield 9, 3) := by decide +kernel
theorem dX1_init_12 : decode cX1_init 12 = .ok (.aload_n 0, 1) := by decide +kernel
theorem dX1_init_13 : decode cX1_init 13 = .ok (.bipush 120, 2) := by decide +kernel
theorem dX1_init_15 : decode cX1_init 15 = .ok (.newarray .int, 2) := by decide +kernel
theorem dX1_init_17 : decode cX1_init 17 = .ok (.putfield 15, 3) := by decide +kernel
theorem dX1_init_20 : decode cX1_init 20 = .ok (.aload_n 0, 1) := by decide +kernel
theorem dX1_init_21 : decode cX1_init 21 = .ok (.bipush 120, 2) := by decide +kernel
theorem dX1_init_23 : decode cX1_init 23 = .ok (.newarray .int, 2) := by decide +kernel
theorem dX1_init_25 : decode cX1_init 25 = .ok (.putfield 19, 3) := by decide +kernel
theorem dX1_init_28 : decode cX1_init 28 = .ok (.aload_n 0, 1) := by decide +kernel
theorem dX1_init_29 : decode cX1_init 29 = .ok (.iconst 0, 1) := by decide +kernel
theorem dX1_init_30 : decode cX1_init 30 = .ok (.putfield 22, 3) := by decide +kernel
theorem dX1_init_33 : decode cX1_init 33 = .ok (.return_, 1) := by decide +kernel
theorem dX1_count_0 : decode cX1_count 0 = .ok (.aload_n 0, 1) := by decide +kernel
theorem dX1_count_1 : decode cX1_count 1 = .ok (.getfield 22, 3) := by decide +kernel
theorem dX1_count_4 : decode cX1_count 4 = .ok (.ireturn, 1) := by decide +kernel
theorem dX1_isFull_0 : decode cX1_isFull 0 = .ok (.aload_n 0, 1) := by decide +kernel
theorem dX1_isFull_1 : decode cX1_isFull 1 = .ok (.getfield 22, 3) := by decide +kernel
theorem dX1_isFull_4 : decode cX1_isFull 4 = .ok (.bipush 120, 2) := by decide +kernel
theorem dX1_isFull_6 : decode cX1_isFull 6 = .ok (.if_icmp .lt 7, 3) := by decide +kernel
theorem dX1_isFull_9 : decode cX1_isFull 9 = .ok (.iconst 1, 1) := by decide +kernel
theorem dX1_isFull_10 : decode cX1_isFull 10 = .ok (.goto 4, 3) := by decide +kernel
theorem dX1_isFull_13 : decode cX1_isFull 13 = .ok (.iconst 0, 1) := by decide +kernel
theorem dX1_isFull_14 : decode cX1_isFull 14 = .ok (.ireturn, 1) := by decide +kernel
theorem dX1_isPlace_0 : decode cX1_isPlace 0 = .ok (.iload_n 1, 1) := by decide +kernel
theorem dX1_isPlace_1 : decode cX1_isPlace 1 = .ok (.ifCond .lt 15, 3) := by decide +kernel
theorem dX1_isPlace_4 : decode cX1_isPlace 4 = .ok (.iload_n 1, 1) := by decide +kernel
theorem dX1_isPlace_5 : decode cX1_isPlace 5 = .ok (.aload_n 0, 1) := by decide +kernel
theorem dX1_isPlace_6 : decode cX1_isPlace 6 = .ok (.getfield 22, 3) := by decide +kernel
theorem dX1_isPlace_9 : decode cX1_isPlace 9 = .ok (.if_icmp .ge 7, 3) := by decide +kernel
theorem dX1_isPlace_12 : decode cX1_isPlace 12 = .ok (.iconst 1, 1) := by decide +kernel
theorem dX1_isPlace_13 : decode cX1_isPlace 13 = .ok (.goto 4, 3) := by decide +kernel
theorem dX1_isPlace_16 : decode cX1_isPlace 16 = .ok (.iconst 0, 1) := by decide +kernel
theorem dX1_isPlace_17 : decode cX1_isPlace 17 = .ok (.ireturn, 1) := by decide +kernel
theorem dX1_standsAt_0 : decode cX1_standsAt 0 = .ok (.aload_n 0, 1) := by decide +kernel
theorem dX1_standsAt_1 : decode cX1_standsAt 1 = .ok (.iload_n 1, 1) := by decide +kernel
theorem dX1_standsAt_2 : decode cX1_standsAt 2 = .ok (.invokevirtual 26, 3) := by decide +kernel
theorem dX1_standsAt_5 : decode cX1_standsAt 5 = .ok (.ifCond .eq 29, 3) := by decide +kernel
theorem dX1_standsAt_8 : decode cX1_standsAt 8 = .ok (.aload_n 0, 1) := by decide +kernel
theorem dX1_standsAt_9 : decode cX1_standsAt 9 = .ok (.getfield 9, 3) := by decide +kernel
theorem dX1_standsAt_12 : decode cX1_standsAt 12 = .ok (.iload_n 1, 1) := by decide +kernel
theorem dX1_standsAt_13 : decode cX1_standsAt 13 = .ok (.laload, 1) := by decide +kernel
theorem dX1_standsAt_14 : decode cX1_standsAt 14 = .ok (.lload_n 2, 1) := by decide +kernel
theorem dX1_standsAt_15 : decode cX1_standsAt 15 = .ok (.lcmp, 1) := by decide +kernel
theorem dX1_standsAt_16 : decode cX1_standsAt 16 = .ok (.ifCond .ne 18, 3) := by decide +kernel
theorem dX1_standsAt_19 : decode cX1_standsAt 19 = .ok (.aload_n 0, 1) := by decide +kernel
theorem dX1_standsAt_20 : decode cX1_standsAt 20 = .ok (.getfield 15, 3) := by decide +kernel
theorem dX1_standsAt_23 : decode cX1_standsAt 23 = .ok (.iload_n 1, 1) := by decide +kernel
theorem dX1_standsAt_24 : decode cX1_standsAt 24 = .ok (.iaload, 1) := by decide +kernel
theorem dX1_standsAt_25 : decode cX1_standsAt 25 = .ok (.iload 4, 2) := by decide +kernel
theorem dX1_standsAt_27 : decode cX1_standsAt 27 = .ok (.if_icmp .ne 7, 3) := by decide +kernel
theorem dX1_standsAt_30 : decode cX1_standsAt 30 = .ok (.iconst 1, 1) := by decide +kernel
theorem dX1_standsAt_31 : decode cX1_standsAt 31 = .ok (.goto 4, 3) := by decide +kernel
theorem dX1_standsAt_34 : decode cX1_standsAt 34 = .ok (.iconst 0, 1) := by decide +kernel
theorem dX1_standsAt_35 : decode cX1_standsAt 35 = .ok (.ireturn, 1) := by decide +kernel
theorem dX1_wordAt_0 : decode cX1_wordAt 0 = .ok (.aload_n 0, 1) := by decide +kernel
theorem dX1_wordAt_1 : decode cX1_wordAt 1 = .ok (.iload_n 1, 1) := by decide +kernel
theorem dX1_wordAt_2 : decode cX1_wordAt 2 = .ok (.invokevirtual 26, 3) := by decide +kernel
theorem dX1_wordAt_5 : decode cX1_wordAt 5 = .ok (.ifCond .eq 12, 3) := by decide +kernel
theorem dX1_wordAt_8 : decode cX1_wordAt 8 = .ok (.aload_n 0, 1) := by decide +kernel
theorem dX1_wordAt_9 : decode cX1_wordAt 9 = .ok (.getfield 9, 3) := by decide +kernel
theorem dX1_wordAt_12 : decode cX1_wordAt 12 = .ok (.iload_n 1, 1) := by decide +kernel
theorem dX1_wordAt_13 : decode cX1_wordAt 13 = .ok (.laload, 1) := by decide +kernel
theorem dX1_wordAt_14 : decode cX1_wordAt 14 = .ok (.goto 4, 3) := by decide +kernel
theorem dX1_wordAt_17 : decode cX1_wordAt 17 = .ok (.lconst 0, 1) := by decide +kernel
theorem dX1_wordAt_18 : decode cX1_wordAt 18 = .ok (.lreturn, 1) := by decide +kernel
theorem dX1_sizeAt_0 : decode cX1_sizeAt 0 = .ok (.aload_n 0, 1) := by decide +kernel
theorem dX1_sizeAt_1 : decode cX1_sizeAt 1 = .ok (.iload_n 1, 1) := by decide +kernel
theorem dX1_sizeAt_2 : decode cX1_sizeAt 2 = .ok (.invokevirtual 26, 3) := by decide +kernel
theorem dX1_sizeAt_5 : decode cX1_sizeAt 5 = .ok (.ifCond .eq 12, 3) := by decide +kernel
theorem dX1_sizeAt_8 : decode cX1_sizeAt 8 = .ok (.aload_n 0, 1) := by decide +kernel
theorem dX1_sizeAt_9 : decode cX1_sizeAt 9 = .ok (.getfield 15, 3) := by decide +kernel
theorem dX1_sizeAt_12 : decode cX1_sizeAt 12 = .ok (.iload_n 1, 1) := by decide +kernel
theorem dX1_sizeAt_13 : decode cX1_sizeAt 13 = .ok (.iaload, 1) := by decide +kernel
theorem dX1_sizeAt_14 : decode cX1_sizeAt 14 = .ok (.goto 4, 3) := by decide +kernel
theorem dX1_sizeAt_17 : decode cX1_sizeAt 17 = .ok (.iconst (-1), 1) := by decide +kernel
theorem dX1_sizeAt_18 : decode cX1_sizeAt 18 = .ok (.ireturn, 1) := by decide +kernel
theorem dX1_numberAt_0 : decode cX1_numberAt 0 = .ok (.aload_n 0, 1) := by decide +kernel
theorem dX1_numberAt_1 : decode cX1_numberAt 1 = .ok (.iload_n 1, 1) := by decide +kernel
theorem dX1_numberAt_2 : decode cX1_numberAt 2 = .ok (.invokevirtual 26, 3) := by decide +kernel
theorem dX1_numberAt_5 : decode cX1_numberAt 5 = .ok (.ifCond .eq 12, 3) := by decide +kernel
theorem dX1_numberAt_8 : decode cX1_numberAt 8 = .ok (.aload_n 0, 1) := by decide +kernel
theorem dX1_numberAt_9 : decode cX1_numberAt 9 = .ok (.getfield 19, 3) := by decide +kernel
theorem dX1_numberAt_12 : decode cX1_numberAt 12 = .ok (.iload_n 1, 1) := by decide +kernel
theorem dX1_numberAt_13 : decode cX1_numberAt 13 = .ok (.iaload, 1) := by decide +kernel
theorem dX1_numberAt_14 : decode cX1_numberAt 14 = .ok (.goto 4, 3) := by decide +kernel
theorem dX1_numberAt_17 : decode cX1_numberAt 17 = .ok (.iconst 0, 1) := by decide +kernel
theorem dX1_numberAt_18 : decode cX1_numberAt 18 = .ok (.ireturn, 1) := by decide +kernel
theorem dX1_setNumber_0 : decode cX1_setNumber 0 = .ok (.aload_n 0, 1) := by decide +kernel
theorem dX1_setNumber_1 : decode cX1_setNumber 1 = .ok (.iload_n 1, 1) := by decide +kernel
theorem dX1_setNumber_2 : decode cX1_setNumber 2 = .ok (.invokevirtual 26, 3) := by decide +kernel
theorem dX1_setNumber_5 : decode cX1_setNumber 5 = .ok (.ifCond .eq 10, 3) := by decide +kernel
theorem dX1_setNumber_8 : decode cX1_setNumber 8 = .ok (.aload_n 0, 1) := by decide +kernel
theorem dX1_setNumber_9 : decode cX1_setNumber 9 = .ok (.getfield 19, 3) := by decide +kernel
theorem dX1_setNumber_12 : decode cX1_setNumber 12 = .ok (.iload_n 1, 1) := by decide +kernel
theorem dX1_setNumber_13 : decode cX1_setNumber 13 = .ok (.iload_n 2, 1) := by decide +kernel
theorem dX1_setNumber_14 : decode cX1_setNumber 14 = .ok (.iastore, 1) := by decide +kernel
theorem dX1_setNumber_15 : decode cX1_setNumber 15 = .ok (.return_, 1) := by decide +kernel
theorem dX1_countBefore_0 : decode cX1_countBefore 0 = .ok (.iconst 0, 1) := by decide +kernel
theorem dX1_countBefore_1 : decode cX1_countBefore 1 = .ok (.istore 4, 2) := by decide +kernel
theorem dX1_countBefore_3 : decode cX1_countBefore 3 = .ok (.iload 4, 2) := by decide +kernel
theorem dX1_countBefore_5 : decode cX1_countBefore 5 = .ok (.aload_n 0, 1) := by decide +kernel
theorem dX1_countBefore_6 : decode cX1_countBefore 6 = .ok (.getfield 22, 3) := by decide +kernel
theorem dX1_countBefore_9 : decode cX1_countBefore 9 = .ok (.if_icmp .ge 46, 3) := by decide +kernel
theorem dX1_countBefore_12 : decode cX1_countBefore 12 = .ok (.aload_n 0, 1) := by decide +kernel
theorem dX1_countBefore_13 : decode cX1_countBefore 13 = .ok (.getfield 9, 3) := by decide +kernel
theorem dX1_countBefore_16 : decode cX1_countBefore 16 = .ok (.iload 4, 2) := by decide +kernel
theorem dX1_countBefore_18 : decode cX1_countBefore 18 = .ok (.laload, 1) := by decide +kernel
theorem dX1_countBefore_19 : decode cX1_countBefore 19 = .ok (.lload_n 1, 1) := by decide +kernel
theorem dX1_countBefore_20 : decode cX1_countBefore 20 = .ok (.invokestatic 30, 3) := by decide +kernel
theorem dX1_countBefore_23 : decode cX1_countBefore 23 = .ok (.istore 5, 2) := by decide +kernel
theorem dX1_countBefore_25 : decode cX1_countBefore 25 = .ok (.iload 5, 2) := by decide +kernel
theorem dX1_countBefore_27 : decode cX1_countBefore 27 = .ok (.ifCond .gt 19, 3) := by decide +kernel
theorem dX1_countBefore_30 : decode cX1_countBefore 30 = .ok (.iload 5, 2) := by decide +kernel
theorem dX1_countBefore_32 : decode cX1_countBefore 32 = .ok (.ifCond .ne 17, 3) := by decide +kernel
theorem dX1_countBefore_35 : decode cX1_countBefore 35 = .ok (.aload_n 0, 1) := by decide +kernel
theorem dX1_countBefore_36 : decode cX1_countBefore 36 = .ok (.getfield 15, 3) := by decide +kernel
theorem dX1_countBefore_39 : decode cX1_countBefore 39 = .ok (.iload 4, 2) := by decide +kernel
theorem dX1_countBefore_41 : decode cX1_countBefore 41 = .ok (.iaload, 1) := by decide +kernel
theorem dX1_countBefore_42 : decode cX1_countBefore 42 = .ok (.iload_n 3, 1) := by decide +kernel
theorem dX1_countBefore_43 : decode cX1_countBefore 43 = .ok (.if_icmp .lt 6, 3) := by decide +kernel
theorem dX1_countBefore_46 : decode cX1_countBefore 46 = .ok (.iload 4, 2) := by decide +kernel
theorem dX1_countBefore_48 : decode cX1_countBefore 48 = .ok (.ireturn, 1) := by decide +kernel
theorem dX1_countBefore_49 : decode cX1_countBefore 49 = .ok (.iinc 4 1, 3) := by decide +kernel
theorem dX1_countBefore_52 : decode cX1_countBefore 52 = .ok (.goto (-49), 3) := by decide +kernel
theorem dX1_countBefore_55 : decode cX1_countBefore 55 = .ok (.aload_n 0, 1) := by decide +kernel
theorem dX1_countBefore_56 : decode cX1_countBefore 56 = .ok (.getfield 22, 3) := by decide +kernel
theorem dX1_countBefore_59 : decode cX1_countBefore 59 = .ok (.ireturn, 1) := by decide +kernel
theorem dX1_countBeginningWith_0 : decode cX1_countBeginningWith 0 = .ok (.iconst 0, 1) := by decide +kernel
theorem dX1_countBeginningWith_1 : decode cX1_countBeginningWith 1 = .ok (.istore 4, 2) := by decide +kernel
theorem dX1_countBeginningWith_3 : decode cX1_countBeginningWith 3 = .ok (.iconst 0, 1) := by decide +kernel
theorem dX1_countBeginningWith_4 : decode cX1_countBeginningWith 4 = .ok (.istore 5, 2) := by decide +kernel
theorem dX1_countBeginningWith_6 : decode cX1_countBeginningWith 6 = .ok (.iload 5, 2) := by decide +kernel
theorem dX1_countBeginningWith_8 : decode cX1_countBeginningWith 8 = .ok (.aload_n 0, 1) := by decide +kernel
theorem dX1_countBeginningWith_9 : decode cX1_countBeginningWith 9 = .ok (.getfield 22, 3) := by decide +kernel
theorem dX1_countBeginningWith_12 : decode cX1_countBeginningWith 12 = .ok (.if_icmp .ge 35, 3) := by decide +kernel
theorem dX1_countBeginningWith_15 : decode cX1_countBeginningWith 15 = .ok (.aload_n 0, 1) := by decide +kernel
theorem dX1_countBeginningWith_16 : decode cX1_countBeginningWith 16 = .ok (.getfield 9, 3) := by decide +kernel
theorem dX1_countBeginningWith_19 : decode cX1_countBeginningWith 19 = .ok (.iload 5, 2) := by decide +kernel
theorem dX1_countBeginningWith_21 : decode cX1_countBeginningWith 21 = .ok (.laload, 1) := by decide +kernel
theorem dX1_countBeginningWith_22 : decode cX1_countBeginningWith 22 = .ok (.aload_n 0, 1) := by decide +kernel
theorem dX1_countBeginningWith_23 : decode cX1_countBeginningWith 23 = .ok (.getfield 15, 3) := by decide +kernel
theorem dX1_countBeginningWith_26 : decode cX1_countBeginningWith 26 = .ok (.iload 5, 2) := by decide +kernel
theorem dX1_countBeginningWith_28 : decode cX1_countBeginningWith 28 = .ok (.iaload, 1) := by decide +kernel
theorem dX1_countBeginningWith_29 : decode cX1_countBeginningWith 29 = .ok (.lload_n 1, 1) := by decide +kernel
theorem dX1_countBeginningWith_30 : decode cX1_countBeginningWith 30 = .ok (.iload_n 3, 1) := by decide +kernel
theorem dX1_countBeginningWith_31 : decode cX1_countBeginningWith 31 = .ok (.invokestatic 36, 3) := by decide +kernel
theorem dX1_countBeginningWith_34 : decode cX1_countBeginningWith 34 = .ok (.iload_n 3, 1) := by decide +kernel
theorem dX1_countBeginningWith_35 : decode cX1_countBeginningWith 35 = .ok (.if_icmp .ne 6, 3) := by decide +kernel
theorem dX1_countBeginningWith_38 : decode cX1_countBeginningWith 38 = .ok (.iinc 4 1, 3) := by decide +kernel
theorem dX1_countBeginningWith_41 : decode cX1_countBeginningWith 41 = .ok (.iinc 5 1, 3) := by decide +kernel
theorem dX1_countBeginningWith_44 : decode cX1_countBeginningWith 44 = .ok (.goto (-38), 3) := by decide +kernel
theorem dX1_countBeginningWith_47 : decode cX1_countBeginningWith 47 = .ok (.iload 4, 2) := by decide +kernel
theorem dX1_countBeginningWith_49 : decode cX1_countBeginningWith 49 = .ok (.ireturn, 1) := by decide +kernel
theorem dX1_forkBehind_0 : decode cX1_forkBehind 0 = .ok (.aload_n 0, 1) := by decide +kernel
theorem dX1_forkBehind_1 : decode cX1_forkBehind 1 = .ok (.iload_n 1, 1) := by decide +kernel
theorem dX1_forkBehind_2 : decode cX1_forkBehind 2 = .ok (.invokevirtual 26, 3) := by decide +kernel
theorem dX1_forkBehind_5 : decode cX1_forkBehind 5 = .ok (.ifCond .eq 13, 3) := by decide +kernel
theorem dX1_forkBehind_8 : decode cX1_forkBehind 8 = .ok (.aload_n 0, 1) := by decide +kernel
theorem dX1_forkBehind_9 : decode cX1_forkBehind 9 = .ok (.iload_n 1, 1) := by decide +kernel
theorem dX1_forkBehind_10 : decode cX1_forkBehind 10 = .ok (.iconst 1, 1) := by decide +kernel
theorem dX1_forkBehind_11 : decode cX1_forkBehind 11 = .ok (.iadd, 1) := by decide +kernel
theorem dX1_forkBehind_12 : decode cX1_forkBehind 12 = .ok (.invokevirtual 26, 3) := by decide +kernel
theorem dX1_forkBehind_15 : decode cX1_forkBehind 15 = .ok (.ifCond .ne 5, 3) := by decide +kernel
theorem dX1_forkBehind_18 : decode cX1_forkBehind 18 = .ok (.iconst (-1), 1) := by decide +kernel
theorem dX1_forkBehind_19 : decode cX1_forkBehind 19 = .ok (.ireturn, 1) := by decide +kernel
theorem dX1_forkBehind_20 : decode cX1_forkBehind 20 = .ok (.aload_n 0, 1) := by decide +kernel
theorem dX1_forkBehind_21 : decode cX1_forkBehind 21 = .ok (.getfield 9, 3) := by decide +kernel
theorem dX1_forkBehind_24 : decode cX1_forkBehind 24 = .ok (.iload_n 1, 1) := by decide +kernel
theorem dX1_forkBehind_25 : decode cX1_forkBehind 25 = .ok (.laload, 1) := by decide +kernel
theorem dX1_forkBehind_26 : decode cX1_forkBehind 26 = .ok (.aload_n 0, 1) := by decide +kernel
theorem dX1_forkBehind_27 : decode cX1_forkBehind 27 = .ok (.getfield 15, 3) := by decide +kernel
theorem dX1_forkBehind_30 : decode cX1_forkBehind 30 = .ok (.iload_n 1, 1) := by decide +kernel
theorem dX1_forkBehind_31 : decode cX1_forkBehind 31 = .ok (.iaload, 1) := by decide +kernel
theorem dX1_forkBehind_32 : decode cX1_forkBehind 32 = .ok (.aload_n 0, 1) := by decide +kernel
theorem dX1_forkBehind_33 : decode cX1_forkBehind 33 = .ok (.getfield 9, 3) := by decide +kernel
theorem dX1_forkBehind_36 : decode cX1_forkBehind 36 = .ok (.iload_n 1, 1) := by decide +kernel
theorem dX1_forkBehind_37 : decode cX1_forkBehind 37 = .ok (.iconst 1, 1) := by decide +kernel
theorem dX1_forkBehind_38 : decode cX1_forkBehind 38 = .ok (.iadd, 1) := by decide +kernel
theorem dX1_forkBehind_39 : decode cX1_forkBehind 39 = .ok (.laload, 1) := by decide +kernel
theorem dX1_forkBehind_40 : decode cX1_forkBehind 40 = .ok (.aload_n 0, 1) := by decide +kernel
theorem dX1_forkBehind_41 : decode cX1_forkBehind 41 = .ok (.getfield 15, 3) := by decide +kernel
theorem dX1_forkBehind_44 : decode cX1_forkBehind 44 = .ok (.iload_n 1, 1) := by decide +kernel
theorem dX1_forkBehind_45 : decode cX1_forkBehind 45 = .ok (.iconst 1, 1) := by decide +kernel
theorem dX1_forkBehind_46 : decode cX1_forkBehind 46 = .ok (.iadd, 1) := by decide +kernel
theorem dX1_forkBehind_47 : decode cX1_forkBehind 47 = .ok (.iaload, 1) := by decide +kernel
theorem dX1_forkBehind_48 : decode cX1_forkBehind 48 = .ok (.invokestatic 36, 3) := by decide +kernel
theorem dX1_forkBehind_51 : decode cX1_forkBehind 51 = .ok (.ireturn, 1) := by decide +kernel
theorem dX1_countForksOnTheWayTo_0 : decode cX1_countForksOnTheWayTo 0 = .ok (.iconst 0, 1) := by decide +kernel
theorem dX1_countForksOnTheWayTo_1 : decode cX1_countForksOnTheWayTo 1 = .ok (.istore 4, 2) := by decide +kernel
theorem dX1_countForksOnTheWayTo_3 : decode cX1_countForksOnTheWayTo 3 = .ok (.iconst 0, 1) := by decide +kernel
theorem dX1_countForksOnTheWayTo_4 : decode cX1_countForksOnTheWayTo 4 = .ok (.istore 5, 2) := by decide +kernel
theorem dX1_countForksOnTheWayTo_6 : decode cX1_countForksOnTheWayTo 6 = .ok (.iload 5, 2) := by decide +kernel
theorem dX1_countForksOnTheWayTo_8 : decode cX1_countForksOnTheWayTo 8 = .ok (.iconst 1, 1) := by decide +kernel
theorem dX1_countForksOnTheWayTo_9 : decode cX1_countForksOnTheWayTo 9 = .ok (.iadd, 1) := by decide +kernel
theorem dX1_countForksOnTheWayTo_10 : decode cX1_countForksOnTheWayTo 10 = .ok (.aload_n 0, 1) := by decide +kernel
theorem dX1_countForksOnTheWayTo_11 : decode cX1_countForksOnTheWayTo 11 = .ok (.getfield 22, 3) := by decide +kernel
theorem dX1_countForksOnTheWayTo_14 : decode cX1_countForksOnTheWayTo 14 = .ok (.if_icmp .ge 55, 3) := by decide +kernel
theorem dX1_countForksOnTheWayTo_17 : decode cX1_countForksOnTheWayTo 17 = .ok (.aload_n 0, 1) := by decide +kernel
theorem dX1_countForksOnTheWayTo_18 : decode cX1_countForksOnTheWayTo 18 = .ok (.iload 5, 2) := by decide +kernel
theorem dX1_countForksOnTheWayTo_20 : decode cX1_countForksOnTheWayTo 20 = .ok (.invokevirtual 40, 3) := by decide +kernel
theorem dX1_countForksOnTheWayTo_23 : decode cX1_countForksOnTheWayTo 23 = .ok (.istore 6, 2) := by decide +kernel
theorem dX1_countForksOnTheWayTo_25 : decode cX1_countForksOnTheWayTo 25 = .ok (.iload 6, 2) := by decide +kernel
theorem dX1_countForksOnTheWayTo_27 : decode cX1_countForksOnTheWayTo 27 = .ok (.ifCond .lt 36, 3) := by decide +kernel
theorem dX1_countForksOnTheWayTo_30 : decode cX1_countForksOnTheWayTo 30 = .ok (.iload 6, 2) := by decide +kernel
theorem dX1_countForksOnTheWayTo_32 : decode cX1_countForksOnTheWayTo 32 = .ok (.aload_n 0, 1) := by decide +kernel
theorem dX1_countForksOnTheWayTo_33 : decode cX1_countForksOnTheWayTo 33 = .ok (.getfield 9, 3) := by decide +kernel
theorem dX1_countForksOnTheWayTo_36 : decode cX1_countForksOnTheWayTo 36 = .ok (.iload 5, 2) := by decide +kernel
theorem dX1_countForksOnTheWayTo_38 : decode cX1_countForksOnTheWayTo 38 = .ok (.laload, 1) := by decide +kernel
theorem dX1_countForksOnTheWayTo_39 : decode cX1_countForksOnTheWayTo 39 = .ok (.aload_n 0, 1) := by decide +kernel
theorem dX1_countForksOnTheWayTo_40 : decode cX1_countForksOnTheWayTo 40 = .ok (.getfield 15, 3) := by decide +kernel
theorem dX1_countForksOnTheWayTo_43 : decode cX1_countForksOnTheWayTo 43 = .ok (.iload 5, 2) := by decide +kernel
theorem dX1_countForksOnTheWayTo_45 : decode cX1_countForksOnTheWayTo 45 = .ok (.iaload, 1) := by decide +kernel
theorem dX1_countForksOnTheWayTo_46 : decode cX1_countForksOnTheWayTo 46 = .ok (.lload_n 1, 1) := by decide +kernel
theorem dX1_countForksOnTheWayTo_47 : decode cX1_countForksOnTheWayTo 47 = .ok (.iload_n 3, 1) := by decide +kernel
theorem dX1_countForksOnTheWayTo_48 : decode cX1_countForksOnTheWayTo 48 = .ok (.invokestatic 36, 3) := by decide +kernel
theorem dX1_countForksOnTheWayTo_51 : decode cX1_countForksOnTheWayTo 51 = .ok (.if_icmp .gt 12, 3) := by decide +kernel
theorem dX1_countForksOnTheWayTo_54 : decode cX1_countForksOnTheWayTo 54 = .ok (.iload 4, 2) := by decide +kernel
theorem dX1_countForksOnTheWayTo_56 : decode cX1_countForksOnTheWayTo 56 = .ok (.iconst 1, 1) := by decide +kernel
theorem dX1_countForksOnTheWayTo_57 : decode cX1_countForksOnTheWayTo 57 = .ok (.iload 6, 2) := by decide +kernel
theorem dX1_countForksOnTheWayTo_59 : decode cX1_countForksOnTheWayTo 59 = .ok (.ishl, 1) := by decide +kernel
theorem dX1_countForksOnTheWayTo_60 : decode cX1_countForksOnTheWayTo 60 = .ok (.ior, 1) := by decide +kernel
theorem dX1_countForksOnTheWayTo_61 : decode cX1_countForksOnTheWayTo 61 = .ok (.istore 4, 2) := by decide +kernel
theorem dX1_countForksOnTheWayTo_63 : decode cX1_countForksOnTheWayTo 63 = .ok (.iinc 5 1, 3) := by decide +kernel
theorem dX1_countForksOnTheWayTo_66 : decode cX1_countForksOnTheWayTo 66 = .ok (.goto (-60), 3) := by decide +kernel
theorem dX1_countForksOnTheWayTo_69 : decode cX1_countForksOnTheWayTo 69 = .ok (.iload 4, 2) := by decide +kernel
theorem dX1_countForksOnTheWayTo_71 : decode cX1_countForksOnTheWayTo 71 = .ok (.invokestatic 44, 3) := by decide +kernel
theorem dX1_countForksOnTheWayTo_74 : decode cX1_countForksOnTheWayTo 74 = .ok (.ireturn, 1) := by decide +kernel
theorem dX1_insert_0 : decode cX1_insert 0 = .ok (.aload_n 0, 1) := by decide +kernel
theorem dX1_insert_1 : decode cX1_insert 1 = .ok (.invokevirtual 49, 3) := by decide +kernel
theorem dX1_insert_4 : decode cX1_insert 4 = .ok (.ifCond .ne 15, 3) := by decide +kernel
theorem dX1_insert_7 : decode cX1_insert 7 = .ok (.iload_n 1, 1) := by decide +kernel
theorem dX1_insert_8 : decode cX1_insert 8 = .ok (.ifCond .lt 11, 3) := by decide +kernel
theorem dX1_insert_11 : decode cX1_insert 11 = .ok (.iload_n 1, 1) := by decide +kernel
theorem dX1_insert_12 : decode cX1_insert 12 = .ok (.aload_n 0, 1) := by decide +kernel
theorem dX1_insert_13 : decode cX1_insert 13 = .ok (.getfield 22, 3) := by decide +kernel
theorem dX1_insert_16 : decode cX1_insert 16 = .ok (.if_icmp .le 4, 3) := by decide +kernel
theorem dX1_insert_19 : decode cX1_insert 19 = .ok (.return_, 1) := by decide +kernel
theorem dX1_insert_20 : decode cX1_insert 20 = .ok (.aload_n 0, 1) := by decide +kernel
theorem dX1_insert_21 : decode cX1_insert 21 = .ok (.getfield 22, 3) := by decide +kernel
theorem dX1_insert_24 : decode cX1_insert 24 = .ok (.istore 6, 2) := by decide +kernel
theorem dX1_insert_26 : decode cX1_insert 26 = .ok (.iload 6, 2) := by decide +kernel
theorem dX1_insert_28 : decode cX1_insert 28 = .ok (.iload_n 1, 1) := by decide +kernel
theorem dX1_insert_29 : decode cX1_insert 29 = .ok (.if_icmp .le 57, 3) := by decide +kernel
theorem dX1_insert_32 : decode cX1_insert 32 = .ok (.aload_n 0, 1) := by decide +kernel
theorem dX1_insert_33 : decode cX1_insert 33 = .ok (.getfield 9, 3) := by decide +kernel
theorem dX1_insert_36 : decode cX1_insert 36 = .ok (.iload 6, 2) := by decide +kernel
theorem dX1_insert_38 : decode cX1_insert 38 = .ok (.aload_n 0, 1) := by decide +kernel
theorem dX1_insert_39 : decode cX1_insert 39 = .ok (.getfield 9, 3) := by decide +kernel
theorem dX1_insert_42 : decode cX1_insert 42 = .ok (.iload 6, 2) := by decide +kernel
theorem dX1_insert_44 : decode cX1_insert 44 = .ok (.iconst 1, 1) := by decide +kernel
theorem dX1_insert_45 : decode cX1_insert 45 = .ok (.isub, 1) := by decide +kernel
theorem dX1_insert_46 : decode cX1_insert 46 = .ok (.laload, 1) := by decide +kernel
theorem dX1_insert_47 : decode cX1_insert 47 = .ok (.lastore, 1) := by decide +kernel
theorem dX1_insert_48 : decode cX1_insert 48 = .ok (.aload_n 0, 1) := by decide +kernel
theorem dX1_insert_49 : decode cX1_insert 49 = .ok (.getfield 15, 3) := by decide +kernel
theorem dX1_insert_52 : decode cX1_insert 52 = .ok (.iload 6, 2) := by decide +kernel
theorem dX1_insert_54 : decode cX1_insert 54 = .ok (.aload_n 0, 1) := by decide +kernel
theorem dX1_insert_55 : decode cX1_insert 55 = .ok (.getfield 15, 3) := by decide +kernel
theorem dX1_insert_58 : decode cX1_insert 58 = .ok (.iload 6, 2) := by decide +kernel
theorem dX1_insert_60 : decode cX1_insert 60 = .ok (.iconst 1, 1) := by decide +kernel
theorem dX1_insert_61 : decode cX1_insert 61 = .ok (.isub, 1) := by decide +kernel
theorem dX1_insert_62 : decode cX1_insert 62 = .ok (.iaload, 1) := by decide +kernel
theorem dX1_insert_63 : decode cX1_insert 63 = .ok (.iastore, 1) := by decide +kernel
theorem dX1_insert_64 : decode cX1_insert 64 = .ok (.aload_n 0, 1) := by decide +kernel
theorem dX1_insert_65 : decode cX1_insert 65 = .ok (.getfield 19, 3) := by decide +kernel
theorem dX1_insert_68 : decode cX1_insert 68 = .ok (.iload 6, 2) := by decide +kernel
theorem dX1_insert_70 : decode cX1_insert 70 = .ok (.aload_n 0, 1) := by decide +kernel
theorem dX1_insert_71 : decode cX1_insert 71 = .ok (.getfield 19, 3) := by decide +kernel
theorem dX1_insert_74 : decode cX1_insert 74 = .ok (.iload 6, 2) := by decide +kernel
theorem dX1_insert_76 : decode cX1_insert 76 = .ok (.iconst 1, 1) := by decide +kernel
theorem dX1_insert_77 : decode cX1_insert 77 = .ok (.isub, 1) := by decide +kernel
theorem dX1_insert_78 : decode cX1_insert 78 = .ok (.iaload, 1) := by decide +kernel
theorem dX1_insert_79 : decode cX1_insert 79 = .ok (.iastore, 1) := by decide +kernel
theorem dX1_insert_80 : decode cX1_insert 80 = .ok (.iinc 6 (-1), 3) := by decide +kernel
theorem dX1_insert_83 : decode cX1_insert 83 = .ok (.goto (-57), 3) := by decide +kernel
theorem dX1_insert_86 : decode cX1_insert 86 = .ok (.aload_n 0, 1) := by decide +kernel
theorem dX1_insert_87 : decode cX1_insert 87 = .ok (.getfield 9, 3) := by decide +kernel
theorem dX1_insert_90 : decode cX1_insert 90 = .ok (.iload_n 1, 1) := by decide +kernel
theorem dX1_insert_91 : decode cX1_insert 91 = .ok (.lload_n 2, 1) := by decide +kernel
theorem dX1_insert_92 : decode cX1_insert 92 = .ok (.lastore, 1) := by decide +kernel
theorem dX1_insert_93 : decode cX1_insert 93 = .ok (.aload_n 0, 1) := by decide +kernel
theorem dX1_insert_94 : decode cX1_insert 94 = .ok (.getfield 15, 3) := by decide +kernel
theorem dX1_insert_97 : decode cX1_insert 97 = .ok (.iload_n 1, 1) := by decide +kernel
theorem dX1_insert_98 : decode cX1_insert 98 = .ok (.iload 4, 2) := by decide +kernel
theorem dX1_insert_100 : decode cX1_insert 100 = .ok (.iastore, 1) := by decide +kernel
theorem dX1_insert_101 : decode cX1_insert 101 = .ok (.aload_n 0, 1) := by decide +kernel
theorem dX1_insert_102 : decode cX1_insert 102 = .ok (.getfield 19, 3) := by decide +kernel
theorem dX1_insert_105 : decode cX1_insert 105 = .ok (.iload_n 1, 1) := by decide +kernel
theorem dX1_insert_106 : decode cX1_insert 106 = .ok (.iload 5, 2) := by decide +kernel
theorem dX1_insert_108 : decode cX1_insert 108 = .ok (.iastore, 1) := by decide +kernel
theorem dX1_insert_109 : decode cX1_insert 109 = .ok (.aload_n 0, 1) := by decide +kernel
theorem dX1_insert_110 : decode cX1_insert 110 = .ok (.dup, 1) := by decide +kernel
theorem dX1_insert_111 : decode cX1_insert 111 = .ok (.getfield 22, 3) := by decide +kernel
theorem dX1_insert_114 : decode cX1_insert 114 = .ok (.iconst 1, 1) := by decide +kernel
theorem dX1_insert_115 : decode cX1_insert 115 = .ok (.iadd, 1) := by decide +kernel
theorem dX1_insert_116 : decode cX1_insert 116 = .ok (.putfield 22, 3) := by decide +kernel
theorem dX1_insert_119 : decode cX1_insert 119 = .ok (.return_, 1) := by decide +kernel
theorem dX1_takeOut_0 : decode cX1_takeOut 0 = .ok (.aload_n 0, 1) := by decide +kernel
theorem dX1_takeOut_1 : decode cX1_takeOut 1 = .ok (.iload_n 1, 1) := by decide +kernel
theorem dX1_takeOut_2 : decode cX1_takeOut 2 = .ok (.invokevirtual 26, 3) := by decide +kernel
theorem dX1_takeOut_5 : decode cX1_takeOut 5 = .ok (.ifCond .ne 4, 3) := by decide +kernel
theorem dX1_takeOut_8 : decode cX1_takeOut 8 = .ok (.return_, 1) := by decide +kernel
theorem dX1_takeOut_9 : decode cX1_takeOut 9 = .ok (.iload_n 1, 1) := by decide +kernel
theorem dX1_takeOut_10 : decode cX1_takeOut 10 = .ok (.istore_n 2, 1) := by decide +kernel
theorem dX1_takeOut_11 : decode cX1_takeOut 11 = .ok (.iload_n 2, 1) := by decide +kernel
theorem dX1_takeOut_12 : decode cX1_takeOut 12 = .ok (.iconst 1, 1) := by decide +kernel
theorem dX1_takeOut_13 : decode cX1_takeOut 13 = .ok (.iadd, 1) := by decide +kernel
theorem dX1_takeOut_14 : decode cX1_takeOut 14 = .ok (.aload_n 0, 1) := by decide +kernel
theorem dX1_takeOut_15 : decode cX1_takeOut 15 = .ok (.getfield 22, 3) := by decide +kernel
theorem dX1_takeOut_18 : decode cX1_takeOut 18 = .ok (.if_icmp .ge 51, 3) := by decide +kernel
theorem dX1_takeOut_21 : decode cX1_takeOut 21 = .ok (.aload_n 0, 1) := by decide +kernel
theorem dX1_takeOut_22 : decode cX1_takeOut 22 = .ok (.getfield 9, 3) := by decide +kernel
theorem dX1_takeOut_25 : decode cX1_takeOut 25 = .ok (.iload_n 2, 1) := by decide +kernel
theorem dX1_takeOut_26 : decode cX1_takeOut 26 = .ok (.aload_n 0, 1) := by decide +kernel
theorem dX1_takeOut_27 : decode cX1_takeOut 27 = .ok (.getfield 9, 3) := by decide +kernel
theorem dX1_takeOut_30 : decode cX1_takeOut 30 = .ok (.iload_n 2, 1) := by decide +kernel
theorem dX1_takeOut_31 : decode cX1_takeOut 31 = .ok (.iconst 1, 1) := by decide +kernel
theorem dX1_takeOut_32 : decode cX1_takeOut 32 = .ok (.iadd, 1) := by decide +kernel
theorem dX1_takeOut_33 : decode cX1_takeOut 33 = .ok (.laload, 1) := by decide +kernel
theorem dX1_takeOut_34 : decode cX1_takeOut 34 = .ok (.lastore, 1) := by decide +kernel
theorem dX1_takeOut_35 : decode cX1_takeOut 35 = .ok (.aload_n 0, 1) := by decide +kernel
theorem dX1_takeOut_36 : decode cX1_takeOut 36 = .ok (.getfield 15, 3) := by decide +kernel
theorem dX1_takeOut_39 : decode cX1_takeOut 39 = .ok (.iload_n 2, 1) := by decide +kernel
theorem dX1_takeOut_40 : decode cX1_takeOut 40 = .ok (.aload_n 0, 1) := by decide +kernel
theorem dX1_takeOut_41 : decode cX1_takeOut 41 = .ok (.getfield 15, 3) := by decide +kernel
theorem dX1_takeOut_44 : decode cX1_takeOut 44 = .ok (.iload_n 2, 1) := by decide +kernel
theorem dX1_takeOut_45 : decode cX1_takeOut 45 = .ok (.iconst 1, 1) := by decide +kernel
theorem dX1_takeOut_46 : decode cX1_takeOut 46 = .ok (.iadd, 1) := by decide +kernel
theorem dX1_takeOut_47 : decode cX1_takeOut 47 = .ok (.iaload, 1) := by decide +kernel
theorem dX1_takeOut_48 : decode cX1_takeOut 48 = .ok (.iastore, 1) := by decide +kernel
theorem dX1_takeOut_49 : decode cX1_takeOut 49 = .ok (.aload_n 0, 1) := by decide +kernel
theorem dX1_takeOut_50 : decode cX1_takeOut 50 = .ok (.getfield 19, 3) := by decide +kernel
theorem dX1_takeOut_53 : decode cX1_takeOut 53 = .ok (.iload_n 2, 1) := by decide +kernel
theorem dX1_takeOut_54 : decode cX1_takeOut 54 = .ok (.aload_n 0, 1) := by decide +kernel
theorem dX1_takeOut_55 : decode cX1_takeOut 55 = .ok (.getfield 19, 3) := by decide +kernel
theorem dX1_takeOut_58 : decode cX1_takeOut 58 = .ok (.iload_n 2, 1) := by decide +kernel
theorem dX1_takeOut_59 : decode cX1_takeOut 59 = .ok (.iconst 1, 1) := by decide +kernel
theorem dX1_takeOut_60 : decode cX1_takeOut 60 = .ok (.iadd, 1) := by decide +kernel
theorem dX1_takeOut_61 : decode cX1_takeOut 61 = .ok (.iaload, 1) := by decide +kernel
theorem dX1_takeOut_62 : decode cX1_takeOut 62 = .ok (.iastore, 1) := by decide +kernel
theorem dX1_takeOut_63 : decode cX1_takeOut 63 = .ok (.iinc 2 1, 3) := by decide +kernel
theorem dX1_takeOut_66 : decode cX1_takeOut 66 = .ok (.goto (-55), 3) := by decide +kernel
theorem dX1_takeOut_69 : decode cX1_takeOut 69 = .ok (.aload_n 0, 1) := by decide +kernel
theorem dX1_takeOut_70 : decode cX1_takeOut 70 = .ok (.dup, 1) := by decide +kernel
theorem dX1_takeOut_71 : decode cX1_takeOut 71 = .ok (.getfield 22, 3) := by decide +kernel
theorem dX1_takeOut_74 : decode cX1_takeOut 74 = .ok (.iconst 1, 1) := by decide +kernel
theorem dX1_takeOut_75 : decode cX1_takeOut 75 = .ok (.isub, 1) := by decide +kernel
theorem dX1_takeOut_76 : decode cX1_takeOut 76 = .ok (.putfield 22, 3) := by decide +kernel
theorem dX1_takeOut_79 : decode cX1_takeOut 79 = .ok (.return_, 1) := by decide +kernel
theorem dX1_copyFrom_0 : decode cX1_copyFrom 0 = .ok (.iconst 0, 1) := by decide +kernel
theorem dX1_copyFrom_1 : decode cX1_copyFrom 1 = .ok (.istore_n 2, 1) := by decide +kernel
theorem dX1_copyFrom_2 : decode cX1_copyFrom 2 = .ok (.iload_n 2, 1) := by decide +kernel
theorem dX1_copyFrom_3 : decode cX1_copyFrom 3 = .ok (.aload_n 1, 1) := by decide +kernel
theorem dX1_copyFrom_4 : decode cX1_copyFrom 4 = .ok (.getfield 22, 3) := by decide +kernel
theorem dX1_copyFrom_7 : decode cX1_copyFrom 7 = .ok (.if_icmp .ge 45, 3) := by decide +kernel
theorem dX1_copyFrom_10 : decode cX1_copyFrom 10 = .ok (.aload_n 0, 1) := by decide +kernel
theorem dX1_copyFrom_11 : decode cX1_copyFrom 11 = .ok (.getfield 9, 3) := by decide +kernel
theorem dX1_copyFrom_14 : decode cX1_copyFrom 14 = .ok (.iload_n 2, 1) := by decide +kernel
theorem dX1_copyFrom_15 : decode cX1_copyFrom 15 = .ok (.aload_n 1, 1) := by decide +kernel
theorem dX1_copyFrom_16 : decode cX1_copyFrom 16 = .ok (.getfield 9, 3) := by decide +kernel
theorem dX1_copyFrom_19 : decode cX1_copyFrom 19 = .ok (.iload_n 2, 1) := by decide +kernel
theorem dX1_copyFrom_20 : decode cX1_copyFrom 20 = .ok (.laload, 1) := by decide +kernel
theorem dX1_copyFrom_21 : decode cX1_copyFrom 21 = .ok (.lastore, 1) := by decide +kernel
theorem dX1_copyFrom_22 : decode cX1_copyFrom 22 = .ok (.aload_n 0, 1) := by decide +kernel
theorem dX1_copyFrom_23 : decode cX1_copyFrom 23 = .ok (.getfield 15, 3) := by decide +kernel
theorem dX1_copyFrom_26 : decode cX1_copyFrom 26 = .ok (.iload_n 2, 1) := by decide +kernel
theorem dX1_copyFrom_27 : decode cX1_copyFrom 27 = .ok (.aload_n 1, 1) := by decide +kernel
theorem dX1_copyFrom_28 : decode cX1_copyFrom 28 = .ok (.getfield 15, 3) := by decide +kernel
theorem dX1_copyFrom_31 : decode cX1_copyFrom 31 = .ok (.iload_n 2, 1) := by decide +kernel
theorem dX1_copyFrom_32 : decode cX1_copyFrom 32 = .ok (.iaload, 1) := by decide +kernel
theorem dX1_copyFrom_33 : decode cX1_copyFrom 33 = .ok (.iastore, 1) := by decide +kernel
theorem dX1_copyFrom_34 : decode cX1_copyFrom 34 = .ok (.aload_n 0, 1) := by decide +kernel
theorem dX1_copyFrom_35 : decode cX1_copyFrom 35 = .ok (.getfield 19, 3) := by decide +kernel
theorem dX1_copyFrom_38 : decode cX1_copyFrom 38 = .ok (.iload_n 2, 1) := by decide +kernel
theorem dX1_copyFrom_39 : decode cX1_copyFrom 39 = .ok (.aload_n 1, 1) := by decide +kernel
theorem dX1_copyFrom_40 : decode cX1_copyFrom 40 = .ok (.getfield 19, 3) := by decide +kernel
theorem dX1_copyFrom_43 : decode cX1_copyFrom 43 = .ok (.iload_n 2, 1) := by decide +kernel
theorem dX1_copyFrom_44 : decode cX1_copyFrom 44 = .ok (.iaload, 1) := by decide +kernel
theorem dX1_copyFrom_45 : decode cX1_copyFrom 45 = .ok (.iastore, 1) := by decide +kernel
theorem dX1_copyFrom_46 : decode cX1_copyFrom 46 = .ok (.iinc 2 1, 3) := by decide +kernel
theorem dX1_copyFrom_49 : decode cX1_copyFrom 49 = .ok (.goto (-47), 3) := by decide +kernel
theorem dX1_copyFrom_52 : decode cX1_copyFrom 52 = .ok (.aload_n 0, 1) := by decide +kernel
theorem dX1_copyFrom_53 : decode cX1_copyFrom 53 = .ok (.aload_n 1, 1) := by decide +kernel
theorem dX1_copyFrom_54 : decode cX1_copyFrom 54 = .ok (.getfield 22, 3) := by decide +kernel
theorem dX1_copyFrom_57 : decode cX1_copyFrom 57 = .ok (.putfield 22, 3) := by decide +kernel
theorem dX1_copyFrom_60 : decode cX1_copyFrom 60 = .ok (.return_, 1) := by decide +kernel
theorem dX2_init_0 : decode cX2_init 0 = .ok (.aload_n 0, 1) := by decide +kernel
theorem dX2_init_1 : decode cX2_init 1 = .ok (.invokespecial 3, 3) := by decide +kernel
theorem dX2_init_4 : decode cX2_init 4 = .ok (.aload_n 0, 1) := by decide +kernel
theorem dX2_init_5 : decode cX2_init 5 = .ok (.new 9, 3) := by decide +kernel
theorem dX2_init_8 : decode cX2_init 8 = .ok (.dup, 1) := by decide +kernel
theorem dX2_init_9 : decode cX2_init 9 = .ok (.invokespecial 11, 3) := by decide +kernel
theorem dX2_init_12 : decode cX2_init 12 = .ok (.putfield 12, 3) := by decide +kernel
theorem dX2_init_15 : decode cX2_init 15 = .ok (.aload_n 0, 1) := by decide +kernel
theorem dX2_init_16 : decode cX2_init 16 = .ok (.iconst 0, 1) := by decide +kernel
theorem dX2_init_17 : decode cX2_init 17 = .ok (.putfield 18, 3) := by decide +kernel
theorem dX2_init_20 : decode cX2_init 20 = .ok (.aload_n 0, 1) := by decide +kernel
theorem dX2_init_21 : decode cX2_init 21 = .ok (.iconst (-1), 1) := by decide +kernel
theorem dX2_init_22 : decode cX2_init 22 = .ok (.putfield 22, 3) := by decide +kernel
theorem dX2_init_25 : decode cX2_init 25 = .ok (.return_, 1) := by decide +kernel
theorem dX2_isOpen_0 : decode cX2_isOpen 0 = .ok (.aload_n 0, 1) := by decide +kernel
theorem dX2_isOpen_1 : decode cX2_isOpen 1 = .ok (.getfield 18, 3) := by decide +kernel
theorem dX2_isOpen_4 : decode cX2_isOpen 4 = .ok (.ireturn, 1) := by decide +kernel
theorem dX2_begin_0 : decode cX2_begin 0 = .ok (.aload_n 0, 1) := by decide +kernel
theorem dX2_begin_1 : decode cX2_begin 1 = .ok (.getfield 12, 3) := by decide +kernel
theorem dX2_begin_4 : decode cX2_begin 4 = .ok (.aload_n 1, 1) := by decide +kernel
theorem dX2_begin_5 : decode cX2_begin 5 = .ok (.invokevirtual 26, 3) := by decide +kernel
theorem dX2_begin_8 : decode cX2_begin 8 = .ok (.aload_n 0, 1) := by decide +kernel
theorem dX2_begin_9 : decode cX2_begin 9 = .ok (.iconst (-1), 1) := by decide +kernel
theorem dX2_begin_10 : decode cX2_begin 10 = .ok (.putfield 22, 3) := by decide +kernel
theorem dX2_begin_13 : decode cX2_begin 13 = .ok (.aload_n 0, 1) := by decide +kernel
theorem dX2_begin_14 : decode cX2_begin 14 = .ok (.iconst 1, 1) := by decide +kernel
theorem dX2_begin_15 : decode cX2_begin 15 = .ok (.putfield 18, 3) := by decide +kernel
theorem dX2_begin_18 : decode cX2_begin 18 = .ok (.return_, 1) := by decide +kernel
theorem dX2_end_0 : decode cX2_end 0 = .ok (.aload_n 0, 1) := by decide +kernel
theorem dX2_end_1 : decode cX2_end 1 = .ok (.iconst 0, 1) := by decide +kernel
theorem dX2_end_2 : decode cX2_end 2 = .ok (.putfield 18, 3) := by decide +kernel
theorem dX2_end_5 : decode cX2_end 5 = .ok (.return_, 1) := by decide +kernel
theorem dX2_goToOrBehind_0 : decode cX2_goToOrBehind 0 = .ok (.aload_n 0, 1) := by decide +kernel
theorem dX2_goToOrBehind_1 : decode cX2_goToOrBehind 1 = .ok (.aload_n 0, 1) := by decide +kernel
theorem dX2_goToOrBehind_2 : decode cX2_goToOrBehind 2 = .ok (.getfield 12, 3) := by decide +kernel
theorem dX2_goToOrBehind_5 : decode cX2_goToOrBehind 5 = .ok (.lload_n 1, 1) := by decide +kernel
theorem dX2_goToOrBehind_6 : decode cX2_goToOrBehind 6 = .ok (.iload_n 3, 1) := by decide +kernel
theorem dX2_goToOrBehind_7 : decode cX2_goToOrBehind 7 = .ok (.invokevirtual 30, 3) := by decide +kernel
theorem dX2_goToOrBehind_10 : decode cX2_goToOrBehind 10 = .ok (.putfield 22, 3) := by decide +kernel
theorem dX2_goToOrBehind_13 : decode cX2_goToOrBehind 13 = .ok (.aload_n 0, 1) := by decide +kernel
theorem dX2_goToOrBehind_14 : decode cX2_goToOrBehind 14 = .ok (.getfield 12, 3) := by decide +kernel
theorem dX2_goToOrBehind_17 : decode cX2_goToOrBehind 17 = .ok (.aload_n 0, 1) := by decide +kernel
theorem dX2_goToOrBehind_18 : decode cX2_goToOrBehind 18 = .ok (.getfield 22, 3) := by decide +kernel
theorem dX2_goToOrBehind_21 : decode cX2_goToOrBehind 21 = .ok (.invokevirtual 34, 3) := by decide +kernel
theorem dX2_goToOrBehind_24 : decode cX2_goToOrBehind 24 = .ok (.ireturn, 1) := by decide +kernel
theorem dX2_goOn_0 : decode cX2_goOn 0 = .ok (.aload_n 0, 1) := by decide +kernel
theorem dX2_goOn_1 : decode cX2_goOn 1 = .ok (.aload_n 0, 1) := by decide +kernel
theorem dX2_goOn_2 : decode cX2_goOn 2 = .ok (.getfield 22, 3) := by decide +kernel
theorem dX2_goOn_5 : decode cX2_goOn 5 = .ok (.iconst 1, 1) := by decide +kernel
theorem dX2_goOn_6 : decode cX2_goOn 6 = .ok (.iadd, 1) := by decide +kernel
theorem dX2_goOn_7 : decode cX2_goOn 7 = .ok (.aload_n 0, 1) := by decide +kernel
theorem dX2_goOn_8 : decode cX2_goOn 8 = .ok (.getfield 12, 3) := by decide +kernel
theorem dX2_goOn_11 : decode cX2_goOn 11 = .ok (.invokevirtual 38, 3) := by decide +kernel
theorem dX2_goOn_14 : decode cX2_goOn 14 = .ok (.invokestatic 42, 3) := by decide +kernel
theorem dX2_goOn_17 : decode cX2_goOn 17 = .ok (.putfield 22, 3) := by decide +kernel
theorem dX2_goOn_20 : decode cX2_goOn 20 = .ok (.aload_n 0, 1) := by decide +kernel
theorem dX2_goOn_21 : decode cX2_goOn 21 = .ok (.getfield 12, 3) := by decide +kernel
theorem dX2_goOn_24 : decode cX2_goOn 24 = .ok (.aload_n 0, 1) := by decide +kernel
theorem dX2_goOn_25 : decode cX2_goOn 25 = .ok (.getfield 22, 3) := by decide +kernel
theorem dX2_goOn_28 : decode cX2_goOn 28 = .ok (.invokevirtual 34, 3) := by decide +kernel
theorem dX2_goOn_31 : decode cX2_goOn 31 = .ok (.ireturn, 1) := by decide +kernel
theorem dX2_bytesHere_0 : decode cX2_bytesHere 0 = .ok (.aload_n 0, 1) := by decide +kernel
theorem dX2_bytesHere_1 : decode cX2_bytesHere 1 = .ok (.getfield 12, 3) := by decide +kernel
theorem dX2_bytesHere_4 : decode cX2_bytesHere 4 = .ok (.aload_n 0, 1) := by decide +kernel
theorem dX2_bytesHere_5 : decode cX2_bytesHere 5 = .ok (.getfield 22, 3) := by decide +kernel
theorem dX2_bytesHere_8 : decode cX2_bytesHere 8 = .ok (.invokevirtual 48, 3) := by decide +kernel
theorem dX2_bytesHere_11 : decode cX2_bytesHere 11 = .ok (.lreturn, 1) := by decide +kernel
theorem dX2_sizeHere_0 : decode cX2_sizeHere 0 = .ok (.aload_n 0, 1) := by decide +kernel
theorem dX2_sizeHere_1 : decode cX2_sizeHere 1 = .ok (.getfield 12, 3) := by decide +kernel
theorem dX2_sizeHere_4 : decode cX2_sizeHere 4 = .ok (.aload_n 0, 1) := by decide +kernel
theorem dX2_sizeHere_5 : decode cX2_sizeHere 5 = .ok (.getfield 22, 3) := by decide +kernel
theorem dX2_sizeHere_8 : decode cX2_sizeHere 8 = .ok (.invokevirtual 52, 3) := by decide +kernel
theorem dX2_sizeHere_11 : decode cX2_sizeHere 11 = .ok (.ireturn, 1) := by decide +kernel
theorem dX2_numberHere_0 : decode cX2_numberHere 0 = .ok (.aload_n 0, 1) := by decide +kernel
theorem dX2_numberHere_1 : decode cX2_numberHere 1 = .ok (.getfield 12, 3) := by decide +kernel
theorem dX2_numberHere_4 : decode cX2_numberHere 4 = .ok (.aload_n 0, 1) := by decide +kernel
theorem dX2_numberHere_5 : decode cX2_numberHere 5 = .ok (.getfield 22, 3) := by decide +kernel
theorem dX2_numberHere_8 : decode cX2_numberHere 8 = .ok (.invokevirtual 56, 3) := by decide +kernel
theorem dX2_numberHere_11 : decode cX2_numberHere 11 = .ok (.ireturn, 1) := by decide +kernel
theorem dX3_init_0 : decode cX3_init 0 = .ok (.aload_n 0, 1) := by decide +kernel
theorem dX3_init_1 : decode cX3_init 1 = .ok (.invokespecial 1, 3) := by decide +kernel
theorem dX3_init_4 : decode cX3_init 4 = .ok (.aload_n 0, 1) := by decide +kernel
theorem dX3_init_5 : decode cX3_init 5 = .ok (.new 7, 3) := by decide +kernel
theorem dX3_init_8 : decode cX3_init 8 = .ok (.dup, 1) := by decide +kernel
theorem dX3_init_9 : decode cX3_init 9 = .ok (.invokespecial 9, 3) := by decide +kernel
theorem dX3_init_12 : decode cX3_init 12 = .ok (.putfield 10, 3) := by decide +kernel
theorem dX3_init_15 : decode cX3_init 15 = .ok (.aload_n 0, 1) := by decide +kernel
theorem dX3_init_16 : decode cX3_init 16 = .ok (.new 16, 3) := by decide +kernel
theorem dX3_init_19 : decode cX3_init 19 = .ok (.dup, 1) := by decide +kernel
theorem dX3_init_20 : decode cX3_init 20 = .ok (.invokespecial 18, 3) := by decide +kernel
theorem dX3_init_23 : decode cX3_init 23 = .ok (.putfield 19, 3) := by decide +kernel
theorem dX3_init_26 : decode cX3_init 26 = .ok (.aload_n 0, 1) := by decide +kernel
theorem dX3_init_27 : decode cX3_init 27 = .ok (.iconst 3, 1) := by decide +kernel
theorem dX3_init_28 : decode cX3_init 28 = .ok (.anewarray 23, 3) := by decide +kernel
theorem dX3_init_31 : decode cX3_init 31 = .ok (.putfield 25, 3) := by decide +kernel
theorem dX3_init_34 : decode cX3_init 34 = .ok (.iconst 0, 1) := by decide +kernel
theorem dX3_init_35 : decode cX3_init 35 = .ok (.istore_n 1, 1) := by decide +kernel
theorem dX3_init_36 : decode cX3_init 36 = .ok (.iload_n 1, 1) := by decide +kernel
theorem dX3_init_37 : decode cX3_init 37 = .ok (.iconst 3, 1) := by decide +kernel
theorem dX3_init_38 : decode cX3_init 38 = .ok (.if_icmp .ge 22, 3) := by decide +kernel
theorem dX3_init_41 : decode cX3_init 41 = .ok (.aload_n 0, 1) := by decide +kernel
theorem dX3_init_42 : decode cX3_init 42 = .ok (.getfield 25, 3) := by decide +kernel
theorem dX3_init_45 : decode cX3_init 45 = .ok (.iload_n 1, 1) := by decide +kernel
theorem dX3_init_46 : decode cX3_init 46 = .ok (.new 23, 3) := by decide +kernel
theorem dX3_init_49 : decode cX3_init 49 = .ok (.dup, 1) := by decide +kernel
theorem dX3_init_50 : decode cX3_init 50 = .ok (.invokespecial 29, 3) := by decide +kernel
theorem dX3_init_53 : decode cX3_init 53 = .ok (.aastore, 1) := by decide +kernel
theorem dX3_init_54 : decode cX3_init 54 = .ok (.iinc 1 1, 3) := by decide +kernel
theorem dX3_init_57 : decode cX3_init 57 = .ok (.goto (-21), 3) := by decide +kernel
theorem dX3_init_60 : decode cX3_init 60 = .ok (.return_, 1) := by decide +kernel
theorem dX3_put_0 : decode cX3_put 0 = .ok (.iload_n 3, 1) := by decide +kernel
theorem dX3_put_1 : decode cX3_put 1 = .ok (.invokestatic 30, 3) := by decide +kernel
theorem dX3_put_4 : decode cX3_put 4 = .ok (.ifCond .ne 13, 3) := by decide +kernel
theorem dX3_put_7 : decode cX3_put 7 = .ok (.new 34, 3) := by decide +kernel
theorem dX3_put_10 : decode cX3_put 10 = .ok (.dup, 1) := by decide +kernel
theorem dX3_put_11 : decode cX3_put 11 = .ok (.ldc 36, 2) := by decide +kernel
theorem dX3_put_13 : decode cX3_put 13 = .ok (.invokespecial 38, 3) := by decide +kernel
theorem dX3_put_16 : decode cX3_put 16 = .ok (.athrow, 1) := by decide +kernel
theorem dX3_put_17 : decode cX3_put 17 = .ok (.lload_n 1, 1) := by decide +kernel
theorem dX3_put_18 : decode cX3_put 18 = .ok (.iload_n 3, 1) := by decide +kernel
theorem dX3_put_19 : decode cX3_put 19 = .ok (.invokestatic 41, 3) := by decide +kernel
theorem dX3_put_22 : decode cX3_put 22 = .ok (.lstore 5, 2) := by decide +kernel
theorem dX3_put_24 : decode cX3_put 24 = .ok (.aload_n 0, 1) := by decide +kernel
theorem dX3_put_25 : decode cX3_put 25 = .ok (.getfield 10, 3) := by decide +kernel
theorem dX3_put_28 : decode cX3_put 28 = .ok (.lload 5, 2) := by decide +kernel
theorem dX3_put_30 : decode cX3_put 30 = .ok (.iload_n 3, 1) := by decide +kernel
theorem dX3_put_31 : decode cX3_put 31 = .ok (.invokevirtual 45, 3) := by decide +kernel
theorem dX3_put_34 : decode cX3_put 34 = .ok (.istore 7, 2) := by decide +kernel
theorem dX3_put_36 : decode cX3_put 36 = .ok (.aload_n 0, 1) := by decide +kernel
theorem dX3_put_37 : decode cX3_put 37 = .ok (.getfield 10, 3) := by decide +kernel
theorem dX3_put_40 : decode cX3_put 40 = .ok (.iload 7, 2) := by decide +kernel
theorem dX3_put_42 : decode cX3_put 42 = .ok (.lload 5, 2) := by decide +kernel
theorem dX3_put_44 : decode cX3_put 44 = .ok (.iload_n 3, 1) := by decide +kernel
theorem dX3_put_45 : decode cX3_put 45 = .ok (.invokevirtual 49, 3) := by decide +kernel
theorem dX3_put_48 : decode cX3_put 48 = .ok (.ifCond .eq 16, 3) := by decide +kernel
theorem dX3_put_51 : decode cX3_put 51 = .ok (.aload_n 0, 1) := by decide +kernel
theorem dX3_put_52 : decode cX3_put 52 = .ok (.getfield 10, 3) := by decide +kernel
theorem dX3_put_55 : decode cX3_put 55 = .ok (.iload 7, 2) := by decide +kernel
theorem dX3_put_57 : decode cX3_put 57 = .ok (.iload 4, 2) := by decide +kernel
theorem dX3_put_59 : decode cX3_put 59 = .ok (.invokevirtual 53, 3) := by decide +kernel
theorem dX3_put_62 : decode cX3_put 62 = .ok (.iconst 0, 1) := by decide +kernel
theorem dX3_put_63 : decode cX3_put 63 = .ok (.ireturn, 1) := by decide +kernel
theorem dX3_put_64 : decode cX3_put 64 = .ok (.aload_n 0, 1) := by decide +kernel
theorem dX3_put_65 : decode cX3_put 65 = .ok (.getfield 10, 3) := by decide +kernel
theorem dX3_put_68 : decode cX3_put 68 = .ok (.invokevirtual 57, 3) := by decide +kernel
theorem dX3_put_71 : decode cX3_put 71 = .ok (.ifCond .eq 13, 3) := by decide +kernel
theorem dX3_put_74 : decode cX3_put 74 = .ok (.new 61, 3) := by decide +kernel
theorem dX3_put_77 : decode cX3_put 77 = .ok (.dup, 1) := by decide +kernel
theorem dX3_put_78 : decode cX3_put 78 = .ok (.ldc 63, 2) := by decide +kernel
theorem dX3_put_80 : decode cX3_put 80 = .ok (.invokespecial 65, 3) := by decide +kernel
theorem dX3_put_83 : decode cX3_put 83 = .ok (.athrow, 1) := by decide +kernel
theorem dX3_put_84 : decode cX3_put 84 = .ok (.aload_n 0, 1) := by decide +kernel
theorem dX3_put_85 : decode cX3_put 85 = .ok (.getfield 10, 3) := by decide +kernel
theorem dX3_put_88 : decode cX3_put 88 = .ok (.iload 7, 2) := by decide +kernel
theorem dX3_put_90 : decode cX3_put 90 = .ok (.lload 5, 2) := by decide +kernel
theorem dX3_put_92 : decode cX3_put 92 = .ok (.iload_n 3, 1) := by decide +kernel
theorem dX3_put_93 : decode cX3_put 93 = .ok (.iload 4, 2) := by decide +kernel
theorem dX3_put_95 : decode cX3_put 95 = .ok (.invokevirtual 66, 3) := by decide +kernel
theorem dX3_put_98 : decode cX3_put 98 = .ok (.iconst 1, 1) := by decide +kernel
theorem dX3_put_99 : decode cX3_put 99 = .ok (.ireturn, 1) := by decide +kernel
theorem dX3_get_0 : decode cX3_get 0 = .ok (.iload_n 3, 1) := by decide +kernel
theorem dX3_get_1 : decode cX3_get 1 = .ok (.invokestatic 30, 3) := by decide +kernel
theorem dX3_get_4 : decode cX3_get 4 = .ok (.ifCond .ne 13, 3) := by decide +kernel
theorem dX3_get_7 : decode cX3_get 7 = .ok (.new 34, 3) := by decide +kernel
theorem dX3_get_10 : decode cX3_get 10 = .ok (.dup, 1) := by decide +kernel
theorem dX3_get_11 : decode cX3_get 11 = .ok (.ldc 36, 2) := by decide +kernel
theorem dX3_get_13 : decode cX3_get 13 = .ok (.invokespecial 38, 3) := by decide +kernel
theorem dX3_get_16 : decode cX3_get 16 = .ok (.athrow, 1) := by decide +kernel
theorem dX3_get_17 : decode cX3_get 17 = .ok (.lload_n 1, 1) := by decide +kernel
theorem dX3_get_18 : decode cX3_get 18 = .ok (.iload_n 3, 1) := by decide +kernel
theorem dX3_get_19 : decode cX3_get 19 = .ok (.invokestatic 41, 3) := by decide +kernel
theorem dX3_get_22 : decode cX3_get 22 = .ok (.lstore 4, 2) := by decide +kernel
theorem dX3_get_24 : decode cX3_get 24 = .ok (.aload_n 0, 1) := by decide +kernel
theorem dX3_get_25 : decode cX3_get 25 = .ok (.getfield 10, 3) := by decide +kernel
theorem dX3_get_28 : decode cX3_get 28 = .ok (.lload 4, 2) := by decide +kernel
theorem dX3_get_30 : decode cX3_get 30 = .ok (.iload_n 3, 1) := by decide +kernel
theorem dX3_get_31 : decode cX3_get 31 = .ok (.invokevirtual 45, 3) := by decide +kernel
theorem dX3_get_34 : decode cX3_get 34 = .ok (.istore 6, 2) := by decide +kernel
theorem dX3_get_36 : decode cX3_get 36 = .ok (.aload_n 0, 1) := by decide +kernel
theorem dX3_get_37 : decode cX3_get 37 = .ok (.getfield 10, 3) := by decide +kernel
theorem dX3_get_40 : decode cX3_get 40 = .ok (.iload 6, 2) := by decide +kernel
theorem dX3_get_42 : decode cX3_get 42 = .ok (.lload 4, 2) := by decide +kernel
theorem dX3_get_44 : decode cX3_get 44 = .ok (.iload_n 3, 1) := by decide +kernel
theorem dX3_get_45 : decode cX3_get 45 = .ok (.invokevirtual 49, 3) := by decide +kernel
theorem dX3_get_48 : decode cX3_get 48 = .ok (.ifCond .ne 13, 3) := by decide +kernel
theorem dX3_get_51 : decode cX3_get 51 = .ok (.new 70, 3) := by decide +kernel
theorem dX3_get_54 : decode cX3_get 54 = .ok (.dup, 1) := by decide +kernel
theorem dX3_get_55 : decode cX3_get 55 = .ok (.ldc 72, 2) := by decide +kernel
theorem dX3_get_57 : decode cX3_get 57 = .ok (.invokespecial 74, 3) := by decide +kernel
theorem dX3_get_60 : decode cX3_get 60 = .ok (.athrow, 1) := by decide +kernel
theorem dX3_get_61 : decode cX3_get 61 = .ok (.aload_n 0, 1) := by decide +kernel
theorem dX3_get_62 : decode cX3_get 62 = .ok (.getfield 10, 3) := by decide +kernel
theorem dX3_get_65 : decode cX3_get 65 = .ok (.iload 6, 2) := by decide +kernel
theorem dX3_get_67 : decode cX3_get 67 = .ok (.invokevirtual 75, 3) := by decide +kernel
theorem dX3_get_70 : decode cX3_get 70 = .ok (.ireturn, 1) := by decide +kernel
theorem dX3_remove_0 : decode cX3_remove 0 = .ok (.iload_n 3, 1) := by decide +kernel
theorem dX3_remove_1 : decode cX3_remove 1 = .ok (.invokestatic 30, 3) := by decide +kernel
theorem dX3_remove_4 : decode cX3_remove 4 = .ok (.ifCond .ne 5, 3) := by decide +kernel
theorem dX3_remove_7 : decode cX3_remove 7 = .ok (.iconst 0, 1) := by decide +kernel
theorem dX3_remove_8 : decode cX3_remove 8 = .ok (.ireturn, 1) := by decide +kernel
theorem dX3_remove_9 : decode cX3_remove 9 = .ok (.lload_n 1, 1) := by decide +kernel
theorem dX3_remove_10 : decode cX3_remove 10 = .ok (.iload_n 3, 1) := by decide +kernel
theorem dX3_remove_11 : decode cX3_remove 11 = .ok (.invokestatic 41, 3) := by decide +kernel
theorem dX3_remove_14 : decode cX3_remove 14 = .ok (.lstore 4, 2) := by decide +kernel
theorem dX3_remove_16 : decode cX3_remove 16 = .ok (.aload_n 0, 1) := by decide +kernel
theorem dX3_remove_17 : decode cX3_remove 17 = .ok (.getfield 10, 3) := by decide +kernel
theorem dX3_remove_20 : decode cX3_remove 20 = .ok (.lload 4, 2) := by decide +kernel
theorem dX3_remove_22 : decode cX3_remove 22 = .ok (.iload_n 3, 1) := by decide +kernel
theorem dX3_remove_23 : decode cX3_remove 23 = .ok (.invokevirtual 45, 3) := by decide +kernel
theorem dX3_remove_26 : decode cX3_remove 26 = .ok (.istore 6, 2) := by decide +kernel
theorem dX3_remove_28 : decode cX3_remove 28 = .ok (.aload_n 0, 1) := by decide +kernel
theorem dX3_remove_29 : decode cX3_remove 29 = .ok (.getfield 10, 3) := by decide +kernel
theorem dX3_remove_32 : decode cX3_remove 32 = .ok (.iload 6, 2) := by decide +kernel
theorem dX3_remove_34 : decode cX3_remove 34 = .ok (.lload 4, 2) := by decide +kernel
theorem dX3_remove_36 : decode cX3_remove 36 = .ok (.iload_n 3, 1) := by decide +kernel
theorem dX3_remove_37 : decode cX3_remove 37 = .ok (.invokevirtual 49, 3) := by decide +kernel
theorem dX3_remove_40 : decode cX3_remove 40 = .ok (.ifCond .ne 5, 3) := by decide +kernel
theorem dX3_remove_43 : decode cX3_remove 43 = .ok (.iconst 0, 1) := by decide +kernel
theorem dX3_remove_44 : decode cX3_remove 44 = .ok (.ireturn, 1) := by decide +kernel
theorem dX3_remove_45 : decode cX3_remove 45 = .ok (.aload_n 0, 1) := by decide +kernel
theorem dX3_remove_46 : decode cX3_remove 46 = .ok (.getfield 10, 3) := by decide +kernel
theorem dX3_remove_49 : decode cX3_remove 49 = .ok (.iload 6, 2) := by decide +kernel
theorem dX3_remove_51 : decode cX3_remove 51 = .ok (.invokevirtual 79, 3) := by decide +kernel
theorem dX3_remove_54 : decode cX3_remove 54 = .ok (.iconst 1, 1) := by decide +kernel
theorem dX3_remove_55 : decode cX3_remove 55 = .ok (.ireturn, 1) := by decide +kernel
theorem dX3_size_0 : decode cX3_size 0 = .ok (.aload_n 0, 1) := by decide +kernel
theorem dX3_size_1 : decode cX3_size 1 = .ok (.getfield 10, 3) := by decide +kernel
theorem dX3_size_4 : decode cX3_size 4 = .ok (.invokevirtual 83, 3) := by decide +kernel
theorem dX3_size_7 : decode cX3_size 7 = .ok (.ireturn, 1) := by decide +kernel
theorem dX3_within_0 : decode cX3_within 0 = .ok (.iload_n 3, 1) := by decide +kernel
theorem dX3_within_1 : decode cX3_within 1 = .ok (.invokestatic 30, 3) := by decide +kernel
theorem dX3_within_4 : decode cX3_within 4 = .ok (.ifCond .eq 19, 3) := by decide +kernel
theorem dX3_within_7 : decode cX3_within 7 = .ok (.aload_n 0, 1) := by decide +kernel
theorem dX3_within_8 : decode cX3_within 8 = .ok (.getfield 10, 3) := by decide +kernel
theorem dX3_within_11 : decode cX3_within 11 = .ok (.lload_n 1, 1) := by decide +kernel
theorem dX3_within_12 : decode cX3_within 12 = .ok (.iload_n 3, 1) := by decide +kernel
theorem dX3_within_13 : decode cX3_within 13 = .ok (.invokestatic 41, 3) := by decide +kernel
theorem dX3_within_16 : decode cX3_within 16 = .ok (.iload_n 3, 1) := by decide +kernel
theorem dX3_within_17 : decode cX3_within 17 = .ok (.invokevirtual 87, 3) := by decide +kernel
theorem dX3_within_20 : decode cX3_within 20 = .ok (.goto 4, 3) := by decide +kernel
theorem dX3_within_23 : decode cX3_within 23 = .ok (.iconst 0, 1) := by decide +kernel
theorem dX3_within_24 : decode cX3_within 24 = .ok (.ireturn, 1) := by decide +kernel
theorem dX3_rank_0 : decode cX3_rank 0 = .ok (.iload_n 3, 1) := by decide +kernel
theorem dX3_rank_1 : decode cX3_rank 1 = .ok (.invokestatic 30, 3) := by decide +kernel
theorem dX3_rank_4 : decode cX3_rank 4 = .ok (.ifCond .eq 19, 3) := by decide +kernel
theorem dX3_rank_7 : decode cX3_rank 7 = .ok (.aload_n 0, 1) := by decide +kernel
theorem dX3_rank_8 : decode cX3_rank 8 = .ok (.getfield 10, 3) := by decide +kernel
theorem dX3_rank_11 : decode cX3_rank 11 = .ok (.lload_n 1, 1) := by decide +kernel
theorem dX3_rank_12 : decode cX3_rank 12 = .ok (.iload_n 3, 1) := by decide +kernel
theorem dX3_rank_13 : decode cX3_rank 13 = .ok (.invokestatic 41, 3) := by decide +kernel
theorem dX3_rank_16 : decode cX3_rank 16 = .ok (.iload_n 3, 1) := by decide +kernel
theorem dX3_rank_17 : decode cX3_rank 17 = .ok (.invokevirtual 45, 3) := by decide +kernel
theorem dX3_rank_20 : decode cX3_rank 20 = .ok (.goto 4, 3) := by decide +kernel
theorem dX3_rank_23 : decode cX3_rank 23 = .ok (.iconst (-1), 1) := by decide +kernel
theorem dX3_rank_24 : decode cX3_rank 24 = .ok (.ireturn, 1) := by decide +kernel
theorem dX3_forks_0 : decode cX3_forks 0 = .ok (.iload_n 1, 1) := by decide +kernel
theorem dX3_forks_1 : decode cX3_forks 1 = .ok (.ifCond .lt 8, 3) := by decide +kernel
theorem dX3_forks_4 : decode cX3_forks 4 = .ok (.iload_n 1, 1) := by decide +kernel
theorem dX3_forks_5 : decode cX3_forks 5 = .ok (.iconst 3, 1) := by decide +kernel
theorem dX3_forks_6 : decode cX3_forks 6 = .ok (.if_icmp .le 5, 3) := by decide +kernel
theorem dX3_forks_9 : decode cX3_forks 9 = .ok (.iconst (-1), 1) := by decide +kernel
theorem dX3_forks_10 : decode cX3_forks 10 = .ok (.ireturn, 1) := by decide +kernel
theorem dX3_forks_11 : decode cX3_forks 11 = .ok (.aload_n 0, 1) := by decide +kernel
theorem dX3_forks_12 : decode cX3_forks 12 = .ok (.getfield 19, 3) := by decide +kernel
theorem dX3_forks_15 : decode cX3_forks 15 = .ok (.aload_n 0, 1) := by decide +kernel
theorem dX3_forks_16 : decode cX3_forks 16 = .ok (.getfield 10, 3) := by decide +kernel
theorem dX3_forks_19 : decode cX3_forks 19 = .ok (.iload_n 1, 1) := by decide +kernel
theorem dX3_forks_20 : decode cX3_forks 20 = .ok (.invokevirtual 90, 3) := by decide +kernel
theorem dX3_forks_23 : decode cX3_forks 23 = .ok (.ireturn, 1) := by decide +kernel
theorem dX3_depth_0 : decode cX3_depth 0 = .ok (.iload_n 3, 1) := by decide +kernel
theorem dX3_depth_1 : decode cX3_depth 1 = .ok (.invokestatic 30, 3) := by decide +kernel
theorem dX3_depth_4 : decode cX3_depth 4 = .ok (.ifCond .eq 19, 3) := by decide +kernel
theorem dX3_depth_7 : decode cX3_depth 7 = .ok (.aload_n 0, 1) := by decide +kernel
theorem dX3_depth_8 : decode cX3_depth 8 = .ok (.getfield 10, 3) := by decide +kernel
theorem dX3_depth_11 : decode cX3_depth 11 = .ok (.lload_n 1, 1) := by decide +kernel
theorem dX3_depth_12 : decode cX3_depth 12 = .ok (.iload_n 3, 1) := by decide +kernel
theorem dX3_depth_13 : decode cX3_depth 13 = .ok (.invokestatic 41, 3) := by decide +kernel
theorem dX3_depth_16 : decode cX3_depth 16 = .ok (.iload_n 3, 1) := by decide +kernel
theorem dX3_depth_17 : decode cX3_depth 17 = .ok (.invokevirtual 94, 3) := by decide +kernel
theorem dX3_depth_20 : decode cX3_depth 20 = .ok (.goto 4, 3) := by decide +kernel
theorem dX3_depth_23 : decode cX3_depth 23 = .ok (.iconst (-1), 1) := by decide +kernel
theorem dX3_depth_24 : decode cX3_depth 24 = .ok (.ireturn, 1) := by decide +kernel
theorem dX3_open_0 : decode cX3_open 0 = .ok (.aload_n 0, 1) := by decide +kernel
theorem dX3_open_1 : decode cX3_open 1 = .ok (.iload_n 1, 1) := by decide +kernel
theorem dX3_open_2 : decode cX3_open 2 = .ok (.invokevirtual 97, 3) := by decide +kernel
theorem dX3_open_5 : decode cX3_open 5 = .ok (.astore_n 2, 1) := by decide +kernel
theorem dX3_open_6 : decode cX3_open 6 = .ok (.aload_n 2, 1) := by decide +kernel
theorem dX3_open_7 : decode cX3_open 7 = .ok (.ifnull 10, 3) := by decide +kernel
theorem dX3_open_10 : decode cX3_open 10 = .ok (.aload_n 2, 1) := by decide +kernel
theorem dX3_open_11 : decode cX3_open 11 = .ok (.invokevirtual 101, 3) := by decide +kernel
theorem dX3_open_14 : decode cX3_open 14 = .ok (.ifCond .eq 5, 3) := by decide +kernel
theorem dX3_open_17 : decode cX3_open 17 = .ok (.iconst 0, 1) := by decide +kernel
theorem dX3_open_18 : decode cX3_open 18 = .ok (.ireturn, 1) := by decide +kernel
theorem dX3_open_19 : decode cX3_open 19 = .ok (.aload_n 2, 1) := by decide +kernel
theorem dX3_open_20 : decode cX3_open 20 = .ok (.aload_n 0, 1) := by decide +kernel
theorem dX3_open_21 : decode cX3_open 21 = .ok (.getfield 10, 3) := by decide +kernel
theorem dX3_open_24 : decode cX3_open 24 = .ok (.invokevirtual 104, 3) := by decide +kernel
theorem dX3_open_27 : decode cX3_open 27 = .ok (.iconst 1, 1) := by decide +kernel
theorem dX3_open_28 : decode cX3_open 28 = .ok (.ireturn, 1) := by decide +kernel
theorem dX3_close_0 : decode cX3_close 0 = .ok (.aload_n 0, 1) := by decide +kernel
theorem dX3_close_1 : decode cX3_close 1 = .ok (.iload_n 1, 1) := by decide +kernel
theorem dX3_close_2 : decode cX3_close 2 = .ok (.invokevirtual 108, 3) := by decide +kernel
theorem dX3_close_5 : decode cX3_close 5 = .ok (.astore_n 2, 1) := by decide +kernel
theorem dX3_close_6 : decode cX3_close 6 = .ok (.aload_n 2, 1) := by decide +kernel
theorem dX3_close_7 : decode cX3_close 7 = .ok (.ifnonnull 5, 3) := by decide +kernel
theorem dX3_close_10 : decode cX3_close 10 = .ok (.iconst 0, 1) := by decide +kernel
theorem dX3_close_11 : decode cX3_close 11 = .ok (.ireturn, 1) := by decide +kernel
theorem dX3_close_12 : decode cX3_close 12 = .ok (.aload_n 2, 1) := by decide +kernel
theorem dX3_close_13 : decode cX3_close 13 = .ok (.invokevirtual 111, 3) := by decide +kernel
theorem dX3_close_16 : decode cX3_close 16 = .ok (.iconst 1, 1) := by decide +kernel
theorem dX3_close_17 : decode cX3_close 17 = .ok (.ireturn, 1) := by decide +kernel
theorem dX3_seek_0 : decode cX3_seek 0 = .ok (.iload 4, 2) := by decide +kernel
theorem dX3_seek_2 : decode cX3_seek 2 = .ok (.invokestatic 30, 3) := by decide +kernel
theorem dX3_seek_5 : decode cX3_seek 5 = .ok (.ifCond .ne 13, 3) := by decide +kernel
theorem dX3_seek_8 : decode cX3_seek 8 = .ok (.new 34, 3) := by decide +kernel
theorem dX3_seek_11 : decode cX3_seek 11 = .ok (.dup, 1) := by decide +kernel
theorem dX3_seek_12 : decode cX3_seek 12 = .ok (.ldc 36, 2) := by decide +kernel
theorem dX3_seek_14 : decode cX3_seek 14 = .ok (.invokespecial 38, 3) := by decide +kernel
theorem dX3_seek_17 : decode cX3_seek 17 = .ok (.athrow, 1) := by decide +kernel
theorem dX3_seek_18 : decode cX3_seek 18 = .ok (.aload_n 0, 1) := by decide +kernel
theorem dX3_seek_19 : decode cX3_seek 19 = .ok (.iload_n 1, 1) := by decide +kernel
theorem dX3_seek_20 : decode cX3_seek 20 = .ok (.invokevirtual 108, 3) := by decide +kernel
theorem dX3_seek_23 : decode cX3_seek 23 = .ok (.astore 5, 2) := by decide +kernel
theorem dX3_seek_25 : decode cX3_seek 25 = .ok (.aload 5, 2) := by decide +kernel
theorem dX3_seek_27 : decode cX3_seek 27 = .ok (.ifnonnull 13, 3) := by decide +kernel
theorem dX3_seek_30 : decode cX3_seek 30 = .ok (.new 61, 3) := by decide +kernel
theorem dX3_seek_33 : decode cX3_seek 33 = .ok (.dup, 1) := by decide +kernel
theorem dX3_seek_34 : decode cX3_seek 34 = .ok (.ldc 114, 2) := by decide +kernel
theorem dX3_seek_36 : decode cX3_seek 36 = .ok (.invokespecial 65, 3) := by decide +kernel
theorem dX3_seek_39 : decode cX3_seek 39 = .ok (.athrow, 1) := by decide +kernel
theorem dX3_seek_40 : decode cX3_seek 40 = .ok (.aload 5, 2) := by decide +kernel
theorem dX3_seek_42 : decode cX3_seek 42 = .ok (.lload_n 2, 1) := by decide +kernel
theorem dX3_seek_43 : decode cX3_seek 43 = .ok (.iload 4, 2) := by decide +kernel
theorem dX3_seek_45 : decode cX3_seek 45 = .ok (.invokestatic 41, 3) := by decide +kernel
theorem dX3_seek_48 : decode cX3_seek 48 = .ok (.iload 4, 2) := by decide +kernel
theorem dX3_seek_50 : decode cX3_seek 50 = .ok (.invokevirtual 116, 3) := by decide +kernel
theorem dX3_seek_53 : decode cX3_seek 53 = .ok (.ireturn, 1) := by decide +kernel
theorem dX3_next_0 : decode cX3_next 0 = .ok (.aload_n 0, 1) := by decide +kernel
theorem dX3_next_1 : decode cX3_next 1 = .ok (.iload_n 1, 1) := by decide +kernel
theorem dX3_next_2 : decode cX3_next 2 = .ok (.invokevirtual 108, 3) := by decide +kernel
theorem dX3_next_5 : decode cX3_next 5 = .ok (.astore_n 2, 1) := by decide +kernel
theorem dX3_next_6 : decode cX3_next 6 = .ok (.aload_n 2, 1) := by decide +kernel
theorem dX3_next_7 : decode cX3_next 7 = .ok (.ifnonnull 13, 3) := by decide +kernel
theorem dX3_next_10 : decode cX3_next 10 = .ok (.new 61, 3) := by decide +kernel
theorem dX3_next_13 : decode cX3_next 13 = .ok (.dup, 1) := by decide +kernel
theorem dX3_next_14 : decode cX3_next 14 = .ok (.ldc 114, 2) := by decide +kernel
theorem dX3_next_16 : decode cX3_next 16 = .ok (.invokespecial 65, 3) := by decide +kernel
theorem dX3_next_19 : decode cX3_next 19 = .ok (.athrow, 1) := by decide +kernel
theorem dX3_next_20 : decode cX3_next 20 = .ok (.aload_n 2, 1) := by decide +kernel
theorem dX3_next_21 : decode cX3_next 21 = .ok (.invokevirtual 120, 3) := by decide +kernel
theorem dX3_next_24 : decode cX3_next 24 = .ok (.ireturn, 1) := by decide +kernel
theorem dX3_key_0 : decode cX3_key 0 = .ok (.aload_n 0, 1) := by decide +kernel
theorem dX3_key_1 : decode cX3_key 1 = .ok (.iload_n 1, 1) := by decide +kernel
theorem dX3_key_2 : decode cX3_key 2 = .ok (.invokevirtual 108, 3) := by decide +kernel
theorem dX3_key_5 : decode cX3_key 5 = .ok (.astore_n 2, 1) := by decide +kernel
theorem dX3_key_6 : decode cX3_key 6 = .ok (.aload_n 2, 1) := by decide +kernel
theorem dX3_key_7 : decode cX3_key 7 = .ok (.ifnonnull 7, 3) := by decide +kernel
theorem dX3_key_10 : decode cX3_key 10 = .ok (.lconst 0, 1) := by decide +kernel
theorem dX3_key_11 : decode cX3_key 11 = .ok (.goto 7, 3) := by decide +kernel
theorem dX3_key_14 : decode cX3_key 14 = .ok (.aload_n 2, 1) := by decide +kernel
theorem dX3_key_15 : decode cX3_key 15 = .ok (.invokevirtual 123, 3) := by decide +kernel
theorem dX3_key_18 : decode cX3_key 18 = .ok (.lreturn, 1) := by decide +kernel
theorem dX3_length_0 : decode cX3_length 0 = .ok (.aload_n 0, 1) := by decide +kernel
theorem dX3_length_1 : decode cX3_length 1 = .ok (.iload_n 1, 1) := by decide +kernel
theorem dX3_length_2 : decode cX3_length 2 = .ok (.invokevirtual 108, 3) := by decide +kernel
theorem dX3_length_5 : decode cX3_length 5 = .ok (.astore_n 2, 1) := by decide +kernel
theorem dX3_length_6 : decode cX3_length 6 = .ok (.aload_n 2, 1) := by decide +kernel
theorem dX3_length_7 : decode cX3_length 7 = .ok (.ifnonnull 7, 3) := by decide +kernel
theorem dX3_length_10 : decode cX3_length 10 = .ok (.iconst (-1), 1) := by decide +kernel
theorem dX3_length_11 : decode cX3_length 11 = .ok (.goto 7, 3) := by decide +kernel
theorem dX3_length_14 : decode cX3_length 14 = .ok (.aload_n 2, 1) := by decide +kernel
theorem dX3_length_15 : decode cX3_length 15 = .ok (.invokevirtual 127, 3) := by decide +kernel
theorem dX3_length_18 : decode cX3_length 18 = .ok (.ireturn, 1) := by decide +kernel
theorem dX3_value_0 : decode cX3_value 0 = .ok (.aload_n 0, 1) := by decide +kernel
theorem dX3_value_1 : decode cX3_value 1 = .ok (.iload_n 1, 1) := by decide +kernel
theorem dX3_value_2 : decode cX3_value 2 = .ok (.invokevirtual 108, 3) := by decide +kernel
theorem dX3_value_5 : decode cX3_value 5 = .ok (.astore_n 2, 1) := by decide +kernel
theorem dX3_value_6 : decode cX3_value 6 = .ok (.aload_n 2, 1) := by decide +kernel
theorem dX3_value_7 : decode cX3_value 7 = .ok (.ifnonnull 7, 3) := by decide +kernel
theorem dX3_value_10 : decode cX3_value 10 = .ok (.iconst 0, 1) := by decide +kernel
theorem dX3_value_11 : decode cX3_value 11 = .ok (.goto 7, 3) := by decide +kernel
theorem dX3_value_14 : decode cX3_value 14 = .ok (.aload_n 2, 1) := by decide +kernel
theorem dX3_value_15 : decode cX3_value 15 = .ok (.invokevirtual 130, 3) := by decide +kernel
theorem dX3_value_18 : decode cX3_value 18 = .ok (.ireturn, 1) := by decide +kernel
theorem dX3_readerOrNull_0 : decode cX3_readerOrNull 0 = .ok (.iload_n 1, 1) := by decide +kernel
theorem dX3_readerOrNull_1 : decode cX3_readerOrNull 1 = .ok (.ifCond .lt 21, 3) := by decide +kernel
theorem dX3_readerOrNull_4 : decode cX3_readerOrNull 4 = .ok (.iload_n 1, 1) := by decide +kernel
theorem dX3_readerOrNull_5 : decode cX3_readerOrNull 5 = .ok (.aload_n 0, 1) := by decide +kernel
theorem dX3_readerOrNull_6 : decode cX3_readerOrNull 6 = .ok (.getfield 25, 3) := by decide +kernel
theorem dX3_readerOrNull_9 : decode cX3_readerOrNull 9 = .ok (.arraylength, 1) := by decide +kernel
theorem dX3_readerOrNull_10 : decode cX3_readerOrNull 10 = .ok (.if_icmp .ge 12, 3) := by decide +kernel
theorem dX3_readerOrNull_13 : decode cX3_readerOrNull 13 = .ok (.aload_n 0, 1) := by decide +kernel
theorem dX3_readerOrNull_14 : decode cX3_readerOrNull 14 = .ok (.getfield 25, 3) := by decide +kernel
theorem dX3_readerOrNull_17 : decode cX3_readerOrNull 17 = .ok (.iload_n 1, 1) := by decide +kernel
theorem dX3_readerOrNull_18 : decode cX3_readerOrNull 18 = .ok (.aaload, 1) := by decide +kernel
theorem dX3_readerOrNull_19 : decode cX3_readerOrNull 19 = .ok (.goto 4, 3) := by decide +kernel
theorem dX3_readerOrNull_22 : decode cX3_readerOrNull 22 = .ok (.aconst_null, 1) := by decide +kernel
theorem dX3_readerOrNull_23 : decode cX3_readerOrNull 23 = .ok (.areturn, 1) := by decide +kernel
theorem dX3_openReaderOrNull_0 : decode cX3_openReaderOrNull 0 = .ok (.aload_n 0, 1) := by decide +kernel
theorem dX3_openReaderOrNull_1 : decode cX3_openReaderOrNull 1 = .ok (.iload_n 1, 1) := by decide +kernel
theorem dX3_openReaderOrNull_2 : decode cX3_openReaderOrNull 2 = .ok (.invokevirtual 97, 3) := by decide +kernel
theorem dX3_openReaderOrNull_5 : decode cX3_openReaderOrNull 5 = .ok (.astore_n 2, 1) := by decide +kernel
theorem dX3_openReaderOrNull_6 : decode cX3_openReaderOrNull 6 = .ok (.aload_n 2, 1) := by decide +kernel
theorem dX3_openReaderOrNull_7 : decode cX3_openReaderOrNull 7 = .ok (.ifnull 14, 3) := by decide +kernel
theorem dX3_openReaderOrNull_10 : decode cX3_openReaderOrNull 10 = .ok (.aload_n 2, 1) := by decide +kernel
theorem dX3_openReaderOrNull_11 : decode cX3_openReaderOrNull 11 = .ok (.invokevirtual 101, 3) := by decide +kernel
theorem dX3_openReaderOrNull_14 : decode cX3_openReaderOrNull 14 = .ok (.ifCond .eq 7, 3) := by decide +kernel
theorem dX3_openReaderOrNull_17 : decode cX3_openReaderOrNull 17 = .ok (.aload_n 2, 1) := by decide +kernel
theorem dX3_openReaderOrNull_18 : decode cX3_openReaderOrNull 18 = .ok (.goto 4, 3) := by decide +kernel
theorem dX3_openReaderOrNull_21 : decode cX3_openReaderOrNull 21 = .ok (.aconst_null, 1) := by decide +kernel
theorem dX3_openReaderOrNull_22 : decode cX3_openReaderOrNull 22 = .ok (.areturn, 1) := by decide +kernel
theorem dX3_isKeySize_0 : decode cX3_isKeySize 0 = .ok (.iload_n 0, 1) := by decide +kernel
theorem dX3_isKeySize_1 : decode cX3_isKeySize 1 = .ok (.ifCond .lt 13, 3) := by decide +kernel
theorem dX3_isKeySize_4 : decode cX3_isKeySize 4 = .ok (.iload_n 0, 1) := by decide +kernel
theorem dX3_isKeySize_5 : decode cX3_isKeySize 5 = .ok (.bipush 8, 2) := by decide +kernel
theorem dX3_isKeySize_7 : decode cX3_isKeySize 7 = .ok (.if_icmp .gt 7, 3) := by decide +kernel
theorem dX3_isKeySize_10 : decode cX3_isKeySize 10 = .ok (.iconst 1, 1) := by decide +kernel
theorem dX3_isKeySize_11 : decode cX3_isKeySize 11 = .ok (.goto 4, 3) := by decide +kernel
theorem dX3_isKeySize_14 : decode cX3_isKeySize 14 = .ok (.iconst 0, 1) := by decide +kernel
theorem dX3_isKeySize_15 : decode cX3_isKeySize 15 = .ok (.ireturn, 1) := by decide +kernel
theorem dX3_highestBytes_0 : decode cX3_highestBytes 0 = .ok (.iload_n 2, 1) := by decide +kernel
theorem dX3_highestBytes_1 : decode cX3_highestBytes 1 = .ok (.ifCond .ne 7, 3) := by decide +kernel
theorem dX3_highestBytes_4 : decode cX3_highestBytes 4 = .ok (.lconst 0, 1) := by decide +kernel
theorem dX3_highestBytes_5 : decode cX3_highestBytes 5 = .ok (.goto 16, 3) := by decide +kernel
theorem dX3_highestBytes_8 : decode cX3_highestBytes 8 = .ok (.lload_n 0, 1) := by decide +kernel
theorem dX3_highestBytes_9 : decode cX3_highestBytes 9 = .ok (.ldc2_w 133, 3) := by decide +kernel
theorem dX3_highestBytes_12 : decode cX3_highestBytes 12 = .ok (.bipush 8, 2) := by decide +kernel
theorem dX3_highestBytes_14 : decode cX3_highestBytes 14 = .ok (.bipush 8, 2) := by decide +kernel
theorem dX3_highestBytes_16 : decode cX3_highestBytes 16 = .ok (.iload_n 2, 1) := by decide +kernel
theorem dX3_highestBytes_17 : decode cX3_highestBytes 17 = .ok (.isub, 1) := by decide +kernel
theorem dX3_highestBytes_18 : decode cX3_highestBytes 18 = .ok (.imul, 1) := by decide +kernel
theorem dX3_highestBytes_19 : decode cX3_highestBytes 19 = .ok (.lshl, 1) := by decide +kernel
theorem dX3_highestBytes_20 : decode cX3_highestBytes 20 = .ok (.land, 1) := by decide +kernel
theorem dX3_highestBytes_21 : decode cX3_highestBytes 21 = .ok (.lreturn, 1) := by decide +kernel
theorem dX3_bytesInCommon_0 : decode cX3_bytesInCommon 0 = .ok (.lload_n 0, 1) := by decide +kernel
theorem dX3_bytesInCommon_1 : decode cX3_bytesInCommon 1 = .ok (.lload_n 3, 1) := by decide +kernel
theorem dX3_bytesInCommon_2 : decode cX3_bytesInCommon 2 = .ok (.lxor, 1) := by decide +kernel
theorem dX3_bytesInCommon_3 : decode cX3_bytesInCommon 3 = .ok (.invokestatic 135, 3) := by decide +kernel
theorem dX3_bytesInCommon_6 : decode cX3_bytesInCommon 6 = .ok (.bipush 8, 2) := by decide +kernel
theorem dX3_bytesInCommon_8 : decode cX3_bytesInCommon 8 = .ok (.idiv, 1) := by decide +kernel
theorem dX3_bytesInCommon_9 : decode cX3_bytesInCommon 9 = .ok (.istore 6, 2) := by decide +kernel
theorem dX3_bytesInCommon_11 : decode cX3_bytesInCommon 11 = .ok (.iload 6, 2) := by decide +kernel
theorem dX3_bytesInCommon_13 : decode cX3_bytesInCommon 13 = .ok (.iload_n 2, 1) := by decide +kernel
theorem dX3_bytesInCommon_14 : decode cX3_bytesInCommon 14 = .ok (.iload 5, 2) := by decide +kernel
theorem dX3_bytesInCommon_16 : decode cX3_bytesInCommon 16 = .ok (.invokestatic 141, 3) := by decide +kernel
theorem dX3_bytesInCommon_19 : decode cX3_bytesInCommon 19 = .ok (.invokestatic 141, 3) := by decide +kernel
theorem dX3_bytesInCommon_22 : decode cX3_bytesInCommon 22 = .ok (.ireturn, 1) := by decide +kernel
