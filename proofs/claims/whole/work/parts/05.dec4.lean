theorem dX4_init_0 : decode cX4_init 0 = .ok (.aload_n 0, 1) := by decide +kernel
theorem dX4_init_1 : decode cX4_init 1 = .ok (.invokespecial 1, 3) := by decide +kernel
theorem dX4_init_4 : decode cX4_init 4 = .ok (.aload_n 0, 1) := by decide +kernel
theorem dX4_init_5 : decode cX4_init 5 = .ok (.iconst 4, 1) := by decide +kernel
theorem dX4_init_6 : decode cX4_init 6 = .ok (.newarray .int, 2) := by decide +kernel
theorem dX4_init_8 : decode cX4_init 8 = .ok (.putfield 7, 3) := by decide +kernel
theorem dX4_init_11 : decode cX4_init 11 = .ok (.aload_n 0, 1) := by decide +kernel
theorem dX4_init_12 : decode cX4_init 12 = .ok (.sipush 480, 3) := by decide +kernel
theorem dX4_init_15 : decode cX4_init 15 = .ok (.newarray .long, 2) := by decide +kernel
theorem dX4_init_17 : decode cX4_init 17 = .ok (.putfield 13, 3) := by decide +kernel
theorem dX4_init_20 : decode cX4_init 20 = .ok (.aload_n 0, 1) := by decide +kernel
theorem dX4_init_21 : decode cX4_init 21 = .ok (.sipush 480, 3) := by decide +kernel
theorem dX4_init_24 : decode cX4_init 24 = .ok (.newarray .int, 2) := by decide +kernel
theorem dX4_init_26 : decode cX4_init 26 = .ok (.putfield 17, 3) := by decide +kernel
theorem dX4_init_29 : decode cX4_init 29 = .ok (.aload_n 0, 1) := by decide +kernel
theorem dX4_init_30 : decode cX4_init 30 = .ok (.sipush 480, 3) := by decide +kernel
theorem dX4_init_33 : decode cX4_init 33 = .ok (.newarray .int, 2) := by decide +kernel
theorem dX4_init_35 : decode cX4_init 35 = .ok (.putfield 20, 3) := by decide +kernel
theorem dX4_init_38 : decode cX4_init 38 = .ok (.aload_n 0, 1) := by decide +kernel
theorem dX4_init_39 : decode cX4_init 39 = .ok (.iconst 3, 1) := by decide +kernel
theorem dX4_init_40 : decode cX4_init 40 = .ok (.newarray .boolean, 2) := by decide +kernel
theorem dX4_init_42 : decode cX4_init 42 = .ok (.putfield 23, 3) := by decide +kernel
theorem dX4_init_45 : decode cX4_init 45 = .ok (.aload_n 0, 1) := by decide +kernel
theorem dX4_init_46 : decode cX4_init 46 = .ok (.iconst 3, 1) := by decide +kernel
theorem dX4_init_47 : decode cX4_init 47 = .ok (.newarray .int, 2) := by decide +kernel
theorem dX4_init_49 : decode cX4_init 49 = .ok (.putfield 27, 3) := by decide +kernel
theorem dX4_init_52 : decode cX4_init 52 = .ok (.return_, 1) := by decide +kernel
theorem dX4_thrown_0 : decode cX4_thrown 0 = .ok (.aload_n 0, 1) := by decide +kernel
theorem dX4_thrown_1 : decode cX4_thrown 1 = .ok (.getfield 30, 3) := by decide +kernel
theorem dX4_thrown_4 : decode cX4_thrown 4 = .ok (.ireturn, 1) := by decide +kernel
theorem dX4_cut_0 : decode cX4_cut 0 = .ok (.iload_n 2, 1) := by decide +kernel
theorem dX4_cut_1 : decode cX4_cut 1 = .ok (.ifCond .ne 7, 3) := by decide +kernel
theorem dX4_cut_4 : decode cX4_cut 4 = .ok (.lconst 0, 1) := by decide +kernel
theorem dX4_cut_5 : decode cX4_cut 5 = .ok (.goto 20, 3) := by decide +kernel
theorem dX4_cut_8 : decode cX4_cut 8 = .ok (.lload_n 0, 1) := by decide +kernel
theorem dX4_cut_9 : decode cX4_cut 9 = .ok (.bipush 64, 2) := by decide +kernel
theorem dX4_cut_11 : decode cX4_cut 11 = .ok (.bipush 8, 2) := by decide +kernel
theorem dX4_cut_13 : decode cX4_cut 13 = .ok (.iload_n 2, 1) := by decide +kernel
theorem dX4_cut_14 : decode cX4_cut 14 = .ok (.imul, 1) := by decide +kernel
theorem dX4_cut_15 : decode cX4_cut 15 = .ok (.isub, 1) := by decide +kernel
theorem dX4_cut_16 : decode cX4_cut 16 = .ok (.lshr, 1) := by decide +kernel
theorem dX4_cut_17 : decode cX4_cut 17 = .ok (.bipush 64, 2) := by decide +kernel
theorem dX4_cut_19 : decode cX4_cut 19 = .ok (.bipush 8, 2) := by decide +kernel
theorem dX4_cut_21 : decode cX4_cut 21 = .ok (.iload_n 2, 1) := by decide +kernel
theorem dX4_cut_22 : decode cX4_cut 22 = .ok (.imul, 1) := by decide +kernel
theorem dX4_cut_23 : decode cX4_cut 23 = .ok (.isub, 1) := by decide +kernel
theorem dX4_cut_24 : decode cX4_cut 24 = .ok (.lshl, 1) := by decide +kernel
theorem dX4_cut_25 : decode cX4_cut 25 = .ok (.lreturn, 1) := by decide +kernel
theorem dX4_part_0 : decode cX4_part 0 = .ok (.lload_n 0, 1) := by decide +kernel
theorem dX4_part_1 : decode cX4_part 1 = .ok (.bipush 56, 2) := by decide +kernel
theorem dX4_part_3 : decode cX4_part 3 = .ok (.bipush 8, 2) := by decide +kernel
theorem dX4_part_5 : decode cX4_part 5 = .ok (.iload_n 2, 1) := by decide +kernel
theorem dX4_part_6 : decode cX4_part 6 = .ok (.imul, 1) := by decide +kernel
theorem dX4_part_7 : decode cX4_part 7 = .ok (.isub, 1) := by decide +kernel
theorem dX4_part_8 : decode cX4_part 8 = .ok (.lushr, 1) := by decide +kernel
theorem dX4_part_9 : decode cX4_part 9 = .ok (.l2i, 1) := by decide +kernel
theorem dX4_part_10 : decode cX4_part 10 = .ok (.sipush 255, 3) := by decide +kernel
theorem dX4_part_13 : decode cX4_part 13 = .ok (.iand, 1) := by decide +kernel
theorem dX4_part_14 : decode cX4_part 14 = .ok (.ireturn, 1) := by decide +kernel
theorem dX4_order_0 : decode cX4_order 0 = .ok (.aload_n 0, 1) := by decide +kernel
theorem dX4_order_1 : decode cX4_order 1 = .ok (.getfield 13, 3) := by decide +kernel
theorem dX4_order_4 : decode cX4_order 4 = .ok (.iload_n 1, 1) := by decide +kernel
theorem dX4_order_5 : decode cX4_order 5 = .ok (.laload, 1) := by decide +kernel
theorem dX4_order_6 : decode cX4_order 6 = .ok (.lstore 5, 2) := by decide +kernel
theorem dX4_order_8 : decode cX4_order 8 = .ok (.lload 5, 2) := by decide +kernel
theorem dX4_order_10 : decode cX4_order 10 = .ok (.lload_n 2, 1) := by decide +kernel
theorem dX4_order_11 : decode cX4_order 11 = .ok (.lcmp, 1) := by decide +kernel
theorem dX4_order_12 : decode cX4_order 12 = .ok (.ifCond .ne 13, 3) := by decide +kernel
theorem dX4_order_15 : decode cX4_order 15 = .ok (.aload_n 0, 1) := by decide +kernel
theorem dX4_order_16 : decode cX4_order 16 = .ok (.getfield 17, 3) := by decide +kernel
theorem dX4_order_19 : decode cX4_order 19 = .ok (.iload_n 1, 1) := by decide +kernel
theorem dX4_order_20 : decode cX4_order 20 = .ok (.iaload, 1) := by decide +kernel
theorem dX4_order_21 : decode cX4_order 21 = .ok (.iload 4, 2) := by decide +kernel
theorem dX4_order_23 : decode cX4_order 23 = .ok (.isub, 1) := by decide +kernel
theorem dX4_order_24 : decode cX4_order 24 = .ok (.ireturn, 1) := by decide +kernel
theorem dX4_order_25 : decode cX4_order 25 = .ok (.lload 5, 2) := by decide +kernel
theorem dX4_order_27 : decode cX4_order 27 = .ok (.ldc2_w 34, 3) := by decide +kernel
theorem dX4_order_30 : decode cX4_order 30 = .ok (.lxor, 1) := by decide +kernel
theorem dX4_order_31 : decode cX4_order 31 = .ok (.lload_n 2, 1) := by decide +kernel
theorem dX4_order_32 : decode cX4_order 32 = .ok (.ldc2_w 34, 3) := by decide +kernel
theorem dX4_order_35 : decode cX4_order 35 = .ok (.lxor, 1) := by decide +kernel
theorem dX4_order_36 : decode cX4_order 36 = .ok (.lcmp, 1) := by decide +kernel
theorem dX4_order_37 : decode cX4_order 37 = .ok (.ifCond .ge 7, 3) := by decide +kernel
theorem dX4_order_40 : decode cX4_order 40 = .ok (.iconst (-1), 1) := by decide +kernel
theorem dX4_order_41 : decode cX4_order 41 = .ok (.goto 4, 3) := by decide +kernel
theorem dX4_order_44 : decode cX4_order 44 = .ok (.iconst 1, 1) := by decide +kernel
theorem dX4_order_45 : decode cX4_order 45 = .ok (.ireturn, 1) := by decide +kernel
theorem dX4_place_0 : decode cX4_place 0 = .ok (.bipush 120, 2) := by decide +kernel
theorem dX4_place_2 : decode cX4_place 2 = .ok (.iload_n 1, 1) := by decide +kernel
theorem dX4_place_3 : decode cX4_place 3 = .ok (.imul, 1) := by decide +kernel
theorem dX4_place_4 : decode cX4_place 4 = .ok (.istore 5, 2) := by decide +kernel
theorem dX4_place_6 : decode cX4_place 6 = .ok (.iload 5, 2) := by decide +kernel
theorem dX4_place_8 : decode cX4_place 8 = .ok (.bipush 120, 2) := by decide +kernel
theorem dX4_place_10 : decode cX4_place 10 = .ok (.iload_n 1, 1) := by decide +kernel
theorem dX4_place_11 : decode cX4_place 11 = .ok (.imul, 1) := by decide +kernel
theorem dX4_place_12 : decode cX4_place 12 = .ok (.aload_n 0, 1) := by decide +kernel
theorem dX4_place_13 : decode cX4_place 13 = .ok (.getfield 7, 3) := by decide +kernel
theorem dX4_place_16 : decode cX4_place 16 = .ok (.iload_n 1, 1) := by decide +kernel
theorem dX4_place_17 : decode cX4_place 17 = .ok (.iaload, 1) := by decide +kernel
theorem dX4_place_18 : decode cX4_place 18 = .ok (.iadd, 1) := by decide +kernel
theorem dX4_place_19 : decode cX4_place 19 = .ok (.if_icmp .ge 21, 3) := by decide +kernel
theorem dX4_place_22 : decode cX4_place 22 = .ok (.aload_n 0, 1) := by decide +kernel
theorem dX4_place_23 : decode cX4_place 23 = .ok (.iload 5, 2) := by decide +kernel
theorem dX4_place_25 : decode cX4_place 25 = .ok (.lload_n 2, 1) := by decide +kernel
theorem dX4_place_26 : decode cX4_place 26 = .ok (.iload 4, 2) := by decide +kernel
theorem dX4_place_28 : decode cX4_place 28 = .ok (.invokevirtual 36, 3) := by decide +kernel
theorem dX4_place_31 : decode cX4_place 31 = .ok (.ifCond .ge 9, 3) := by decide +kernel
theorem dX4_place_34 : decode cX4_place 34 = .ok (.iinc 5 1, 3) := by decide +kernel
theorem dX4_place_37 : decode cX4_place 37 = .ok (.goto (-31), 3) := by decide +kernel
theorem dX4_place_40 : decode cX4_place 40 = .ok (.iload 5, 2) := by decide +kernel
theorem dX4_place_42 : decode cX4_place 42 = .ok (.ireturn, 1) := by decide +kernel
theorem dX4_has_0 : decode cX4_has 0 = .ok (.iload_n 2, 1) := by decide +kernel
theorem dX4_has_1 : decode cX4_has 1 = .ok (.bipush 120, 2) := by decide +kernel
theorem dX4_has_3 : decode cX4_has 3 = .ok (.iload_n 1, 1) := by decide +kernel
theorem dX4_has_4 : decode cX4_has 4 = .ok (.imul, 1) := by decide +kernel
theorem dX4_has_5 : decode cX4_has 5 = .ok (.aload_n 0, 1) := by decide +kernel
theorem dX4_has_6 : decode cX4_has 6 = .ok (.getfield 7, 3) := by decide +kernel
theorem dX4_has_9 : decode cX4_has 9 = .ok (.iload_n 1, 1) := by decide +kernel
theorem dX4_has_10 : decode cX4_has 10 = .ok (.iaload, 1) := by decide +kernel
theorem dX4_has_11 : decode cX4_has 11 = .ok (.iadd, 1) := by decide +kernel
theorem dX4_has_12 : decode cX4_has 12 = .ok (.if_icmp .ge 18, 3) := by decide +kernel
theorem dX4_has_15 : decode cX4_has 15 = .ok (.aload_n 0, 1) := by decide +kernel
theorem dX4_has_16 : decode cX4_has 16 = .ok (.iload_n 2, 1) := by decide +kernel
theorem dX4_has_17 : decode cX4_has 17 = .ok (.lload_n 3, 1) := by decide +kernel
theorem dX4_has_18 : decode cX4_has 18 = .ok (.iload 5, 2) := by decide +kernel
theorem dX4_has_20 : decode cX4_has 20 = .ok (.invokevirtual 36, 3) := by decide +kernel
theorem dX4_has_23 : decode cX4_has 23 = .ok (.ifCond .ne 7, 3) := by decide +kernel
theorem dX4_has_26 : decode cX4_has 26 = .ok (.iconst 1, 1) := by decide +kernel
theorem dX4_has_27 : decode cX4_has 27 = .ok (.goto 4, 3) := by decide +kernel
theorem dX4_has_30 : decode cX4_has 30 = .ok (.iconst 0, 1) := by decide +kernel
theorem dX4_has_31 : decode cX4_has 31 = .ok (.ireturn, 1) := by decide +kernel
theorem dX4_begins_0 : decode cX4_begins 0 = .ok (.aload_n 0, 1) := by decide +kernel
theorem dX4_begins_1 : decode cX4_begins 1 = .ok (.getfield 17, 3) := by decide +kernel
theorem dX4_begins_4 : decode cX4_begins 4 = .ok (.iload_n 1, 1) := by decide +kernel
theorem dX4_begins_5 : decode cX4_begins 5 = .ok (.iaload, 1) := by decide +kernel
theorem dX4_begins_6 : decode cX4_begins 6 = .ok (.iload 4, 2) := by decide +kernel
theorem dX4_begins_8 : decode cX4_begins 8 = .ok (.if_icmp .lt 23, 3) := by decide +kernel
theorem dX4_begins_11 : decode cX4_begins 11 = .ok (.aload_n 0, 1) := by decide +kernel
theorem dX4_begins_12 : decode cX4_begins 12 = .ok (.getfield 13, 3) := by decide +kernel
theorem dX4_begins_15 : decode cX4_begins 15 = .ok (.iload_n 1, 1) := by decide +kernel
theorem dX4_begins_16 : decode cX4_begins 16 = .ok (.laload, 1) := by decide +kernel
theorem dX4_begins_17 : decode cX4_begins 17 = .ok (.iload 4, 2) := by decide +kernel
theorem dX4_begins_19 : decode cX4_begins 19 = .ok (.invokestatic 40, 3) := by decide +kernel
theorem dX4_begins_22 : decode cX4_begins 22 = .ok (.lload_n 2, 1) := by decide +kernel
theorem dX4_begins_23 : decode cX4_begins 23 = .ok (.lcmp, 1) := by decide +kernel
theorem dX4_begins_24 : decode cX4_begins 24 = .ok (.ifCond .ne 7, 3) := by decide +kernel
theorem dX4_begins_27 : decode cX4_begins 27 = .ok (.iconst 1, 1) := by decide +kernel
theorem dX4_begins_28 : decode cX4_begins 28 = .ok (.goto 4, 3) := by decide +kernel
theorem dX4_begins_31 : decode cX4_begins 31 = .ok (.iconst 0, 1) := by decide +kernel
theorem dX4_begins_32 : decode cX4_begins 32 = .ok (.ireturn, 1) := by decide +kernel
theorem dX4_copy_0 : decode cX4_copy 0 = .ok (.aload_n 0, 1) := by decide +kernel
theorem dX4_copy_1 : decode cX4_copy 1 = .ok (.getfield 13, 3) := by decide +kernel
theorem dX4_copy_4 : decode cX4_copy 4 = .ok (.iload_n 2, 1) := by decide +kernel
theorem dX4_copy_5 : decode cX4_copy 5 = .ok (.aload_n 0, 1) := by decide +kernel
theorem dX4_copy_6 : decode cX4_copy 6 = .ok (.getfield 13, 3) := by decide +kernel
theorem dX4_copy_9 : decode cX4_copy 9 = .ok (.iload_n 1, 1) := by decide +kernel
theorem dX4_copy_10 : decode cX4_copy 10 = .ok (.laload, 1) := by decide +kernel
theorem dX4_copy_11 : decode cX4_copy 11 = .ok (.lastore, 1) := by decide +kernel
theorem dX4_copy_12 : decode cX4_copy 12 = .ok (.aload_n 0, 1) := by decide +kernel
theorem dX4_copy_13 : decode cX4_copy 13 = .ok (.getfield 17, 3) := by decide +kernel
theorem dX4_copy_16 : decode cX4_copy 16 = .ok (.iload_n 2, 1) := by decide +kernel
theorem dX4_copy_17 : decode cX4_copy 17 = .ok (.aload_n 0, 1) := by decide +kernel
theorem dX4_copy_18 : decode cX4_copy 18 = .ok (.getfield 17, 3) := by decide +kernel
theorem dX4_copy_21 : decode cX4_copy 21 = .ok (.iload_n 1, 1) := by decide +kernel
theorem dX4_copy_22 : decode cX4_copy 22 = .ok (.iaload, 1) := by decide +kernel
theorem dX4_copy_23 : decode cX4_copy 23 = .ok (.iastore, 1) := by decide +kernel
theorem dX4_copy_24 : decode cX4_copy 24 = .ok (.aload_n 0, 1) := by decide +kernel
theorem dX4_copy_25 : decode cX4_copy 25 = .ok (.getfield 20, 3) := by decide +kernel
theorem dX4_copy_28 : decode cX4_copy 28 = .ok (.iload_n 2, 1) := by decide +kernel
theorem dX4_copy_29 : decode cX4_copy 29 = .ok (.aload_n 0, 1) := by decide +kernel
theorem dX4_copy_30 : decode cX4_copy 30 = .ok (.getfield 20, 3) := by decide +kernel
theorem dX4_copy_33 : decode cX4_copy 33 = .ok (.iload_n 1, 1) := by decide +kernel
theorem dX4_copy_34 : decode cX4_copy 34 = .ok (.iaload, 1) := by decide +kernel
theorem dX4_copy_35 : decode cX4_copy 35 = .ok (.iastore, 1) := by decide +kernel
theorem dX4_copy_36 : decode cX4_copy 36 = .ok (.return_, 1) := by decide +kernel
theorem dX4_put_0 : decode cX4_put 0 = .ok (.iload_n 3, 1) := by decide +kernel
theorem dX4_put_1 : decode cX4_put 1 = .ok (.ifCond .lt 13, 3) := by decide +kernel
theorem dX4_put_4 : decode cX4_put 4 = .ok (.iload_n 3, 1) := by decide +kernel
theorem dX4_put_5 : decode cX4_put 5 = .ok (.bipush 8, 2) := by decide +kernel
theorem dX4_put_7 : decode cX4_put 7 = .ok (.if_icmp .gt 7, 3) := by decide +kernel
theorem dX4_put_10 : decode cX4_put 10 = .ok (.iconst 1, 1) := by decide +kernel
theorem dX4_put_11 : decode cX4_put 11 = .ok (.goto 4, 3) := by decide +kernel
theorem dX4_put_14 : decode cX4_put 14 = .ok (.iconst 0, 1) := by decide +kernel
theorem dX4_put_15 : decode cX4_put 15 = .ok (.istore 5, 2) := by decide +kernel
theorem dX4_put_17 : decode cX4_put 17 = .ok (.iload 5, 2) := by decide +kernel
theorem dX4_put_19 : decode cX4_put 19 = .ok (.ifCond .eq 11, 3) := by decide +kernel
theorem dX4_put_22 : decode cX4_put 22 = .ok (.lload_n 1, 1) := by decide +kernel
theorem dX4_put_23 : decode cX4_put 23 = .ok (.iload_n 3, 1) := by decide +kernel
theorem dX4_put_24 : decode cX4_put 24 = .ok (.invokestatic 40, 3) := by decide +kernel
theorem dX4_put_27 : decode cX4_put 27 = .ok (.goto 4, 3) := by decide +kernel
theorem dX4_put_30 : decode cX4_put 30 = .ok (.lconst 0, 1) := by decide +kernel
theorem dX4_put_31 : decode cX4_put 31 = .ok (.lstore 6, 2) := by decide +kernel
theorem dX4_put_33 : decode cX4_put 33 = .ok (.iload 5, 2) := by decide +kernel
theorem dX4_put_35 : decode cX4_put 35 = .ok (.ifCond .eq 14, 3) := by decide +kernel
theorem dX4_put_38 : decode cX4_put 38 = .ok (.aload_n 0, 1) := by decide +kernel
theorem dX4_put_39 : decode cX4_put 39 = .ok (.iconst 0, 1) := by decide +kernel
theorem dX4_put_40 : decode cX4_put 40 = .ok (.lload 6, 2) := by decide +kernel
theorem dX4_put_42 : decode cX4_put 42 = .ok (.iload_n 3, 1) := by decide +kernel
theorem dX4_put_43 : decode cX4_put 43 = .ok (.invokevirtual 44, 3) := by decide +kernel
theorem dX4_put_46 : decode cX4_put 46 = .ok (.goto 4, 3) := by decide +kernel
theorem dX4_put_49 : decode cX4_put 49 = .ok (.iconst 0, 1) := by decide +kernel
theorem dX4_put_50 : decode cX4_put 50 = .ok (.istore 8, 2) := by decide +kernel
theorem dX4_put_52 : decode cX4_put 52 = .ok (.iload 5, 2) := by decide +kernel
theorem dX4_put_54 : decode cX4_put 54 = .ok (.ifCond .eq 20, 3) := by decide +kernel
theorem dX4_put_57 : decode cX4_put 57 = .ok (.aload_n 0, 1) := by decide +kernel
theorem dX4_put_58 : decode cX4_put 58 = .ok (.iconst 0, 1) := by decide +kernel
theorem dX4_put_59 : decode cX4_put 59 = .ok (.iload 8, 2) := by decide +kernel
theorem dX4_put_61 : decode cX4_put 61 = .ok (.lload 6, 2) := by decide +kernel
theorem dX4_put_63 : decode cX4_put 63 = .ok (.iload_n 3, 1) := by decide +kernel
theorem dX4_put_64 : decode cX4_put 64 = .ok (.invokevirtual 47, 3) := by decide +kernel
theorem dX4_put_67 : decode cX4_put 67 = .ok (.ifCond .eq 7, 3) := by decide +kernel
theorem dX4_put_70 : decode cX4_put 70 = .ok (.iconst 1, 1) := by decide +kernel
theorem dX4_put_71 : decode cX4_put 71 = .ok (.goto 4, 3) := by decide +kernel
theorem dX4_put_74 : decode cX4_put 74 = .ok (.iconst 0, 1) := by decide +kernel
theorem dX4_put_75 : decode cX4_put 75 = .ok (.istore 9, 2) := by decide +kernel
theorem dX4_put_77 : decode cX4_put 77 = .ok (.aload_n 0, 1) := by decide +kernel
theorem dX4_put_78 : decode cX4_put 78 = .ok (.iload 5, 2) := by decide +kernel
theorem dX4_put_80 : decode cX4_put 80 = .ok (.ifCond .ne 7, 3) := by decide +kernel
theorem dX4_put_83 : decode cX4_put 83 = .ok (.iconst 1, 1) := by decide +kernel
theorem dX4_put_84 : decode cX4_put 84 = .ok (.goto 24, 3) := by decide +kernel
theorem dX4_put_87 : decode cX4_put 87 = .ok (.iload 9, 2) := by decide +kernel
theorem dX4_put_89 : decode cX4_put 89 = .ok (.ifCond .ne 18, 3) := by decide +kernel
theorem dX4_put_92 : decode cX4_put 92 = .ok (.aload_n 0, 1) := by decide +kernel
theorem dX4_put_93 : decode cX4_put 93 = .ok (.getfield 7, 3) := by decide +kernel
theorem dX4_put_96 : decode cX4_put 96 = .ok (.iconst 0, 1) := by decide +kernel
theorem dX4_put_97 : decode cX4_put 97 = .ok (.iaload, 1) := by decide +kernel
theorem dX4_put_98 : decode cX4_put 98 = .ok (.bipush 120, 2) := by decide +kernel
theorem dX4_put_100 : decode cX4_put 100 = .ok (.if_icmp .ne 7, 3) := by decide +kernel
theorem dX4_put_103 : decode cX4_put 103 = .ok (.iconst 2, 1) := by decide +kernel
theorem dX4_put_104 : decode cX4_put 104 = .ok (.goto 4, 3) := by decide +kernel
theorem dX4_put_107 : decode cX4_put 107 = .ok (.iconst 0, 1) := by decide +kernel
theorem dX4_put_108 : decode cX4_put 108 = .ok (.putfield 30, 3) := by decide +kernel
theorem dX4_put_111 : decode cX4_put 111 = .ok (.aload_n 0, 1) := by decide +kernel
theorem dX4_put_112 : decode cX4_put 112 = .ok (.getfield 30, 3) := by decide +kernel
theorem dX4_put_115 : decode cX4_put 115 = .ok (.ifCond .le 5, 3) := by decide +kernel
theorem dX4_put_118 : decode cX4_put 118 = .ok (.iconst 0, 1) := by decide +kernel
theorem dX4_put_119 : decode cX4_put 119 = .ok (.ireturn, 1) := by decide +kernel
theorem dX4_put_120 : decode cX4_put 120 = .ok (.iload 9, 2) := by decide +kernel
theorem dX4_put_122 : decode cX4_put 122 = .ok (.ifCond .ne 61, 3) := by decide +kernel
theorem dX4_put_125 : decode cX4_put 125 = .ok (.aload_n 0, 1) := by decide +kernel
theorem dX4_put_126 : decode cX4_put 126 = .ok (.getfield 7, 3) := by decide +kernel
theorem dX4_put_129 : decode cX4_put 129 = .ok (.iconst 0, 1) := by decide +kernel
theorem dX4_put_130 : decode cX4_put 130 = .ok (.iaload, 1) := by decide +kernel
theorem dX4_put_131 : decode cX4_put 131 = .ok (.istore 10, 2) := by decide +kernel
theorem dX4_put_133 : decode cX4_put 133 = .ok (.iload 10, 2) := by decide +kernel
theorem dX4_put_135 : decode cX4_put 135 = .ok (.iload 8, 2) := by decide +kernel
theorem dX4_put_137 : decode cX4_put 137 = .ok (.if_icmp .le 19, 3) := by decide +kernel
theorem dX4_put_140 : decode cX4_put 140 = .ok (.aload_n 0, 1) := by decide +kernel
theorem dX4_put_141 : decode cX4_put 141 = .ok (.iload 10, 2) := by decide +kernel
theorem dX4_put_143 : decode cX4_put 143 = .ok (.iconst 1, 1) := by decide +kernel
theorem dX4_put_144 : decode cX4_put 144 = .ok (.isub, 1) := by decide +kernel
theorem dX4_put_145 : decode cX4_put 145 = .ok (.iload 10, 2) := by decide +kernel
theorem dX4_put_147 : decode cX4_put 147 = .ok (.invokevirtual 51, 3) := by decide +kernel
theorem dX4_put_150 : decode cX4_put 150 = .ok (.iinc 10 (-1), 3) := by decide +kernel
theorem dX4_put_153 : decode cX4_put 153 = .ok (.goto (-20), 3) := by decide +kernel
theorem dX4_put_156 : decode cX4_put 156 = .ok (.aload_n 0, 1) := by decide +kernel
theorem dX4_put_157 : decode cX4_put 157 = .ok (.getfield 7, 3) := by decide +kernel
theorem dX4_put_160 : decode cX4_put 160 = .ok (.iconst 0, 1) := by decide +kernel
theorem dX4_put_161 : decode cX4_put 161 = .ok (.dup2, 1) := by decide +kernel
theorem dX4_put_162 : decode cX4_put 162 = .ok (.iaload, 1) := by decide +kernel
theorem dX4_put_163 : decode cX4_put 163 = .ok (.iconst 1, 1) := by decide +kernel
theorem dX4_put_164 : decode cX4_put 164 = .ok (.iadd, 1) := by decide +kernel
theorem dX4_put_165 : decode cX4_put 165 = .ok (.iastore, 1) := by decide +kernel
theorem dX4_put_166 : decode cX4_put 166 = .ok (.aload_n 0, 1) := by decide +kernel
theorem dX4_put_167 : decode cX4_put 167 = .ok (.getfield 13, 3) := by decide +kernel
theorem dX4_put_170 : decode cX4_put 170 = .ok (.iload 8, 2) := by decide +kernel
theorem dX4_put_172 : decode cX4_put 172 = .ok (.lload 6, 2) := by decide +kernel
theorem dX4_put_174 : decode cX4_put 174 = .ok (.lastore, 1) := by decide +kernel
theorem dX4_put_175 : decode cX4_put 175 = .ok (.aload_n 0, 1) := by decide +kernel
theorem dX4_put_176 : decode cX4_put 176 = .ok (.getfield 17, 3) := by decide +kernel
theorem dX4_put_179 : decode cX4_put 179 = .ok (.iload 8, 2) := by decide +kernel
theorem dX4_put_181 : decode cX4_put 181 = .ok (.iload_n 3, 1) := by decide +kernel
theorem dX4_put_182 : decode cX4_put 182 = .ok (.iastore, 1) := by decide +kernel
theorem dX4_put_183 : decode cX4_put 183 = .ok (.aload_n 0, 1) := by decide +kernel
theorem dX4_put_184 : decode cX4_put 184 = .ok (.getfield 20, 3) := by decide +kernel
theorem dX4_put_187 : decode cX4_put 187 = .ok (.iload 8, 2) := by decide +kernel
theorem dX4_put_189 : decode cX4_put 189 = .ok (.iload 4, 2) := by decide +kernel
theorem dX4_put_191 : decode cX4_put 191 = .ok (.iastore, 1) := by decide +kernel
theorem dX4_put_192 : decode cX4_put 192 = .ok (.iload 9, 2) := by decide +kernel
theorem dX4_put_194 : decode cX4_put 194 = .ok (.ifCond .ne 7, 3) := by decide +kernel
theorem dX4_put_197 : decode cX4_put 197 = .ok (.iconst 1, 1) := by decide +kernel
theorem dX4_put_198 : decode cX4_put 198 = .ok (.goto 4, 3) := by decide +kernel
theorem dX4_put_201 : decode cX4_put 201 = .ok (.iconst 0, 1) := by decide +kernel
theorem dX4_put_202 : decode cX4_put 202 = .ok (.ireturn, 1) := by decide +kernel
theorem dX4_get_0 : decode cX4_get 0 = .ok (.iload_n 3, 1) := by decide +kernel
theorem dX4_get_1 : decode cX4_get 1 = .ok (.ifCond .lt 13, 3) := by decide +kernel
theorem dX4_get_4 : decode cX4_get 4 = .ok (.iload_n 3, 1) := by decide +kernel
theorem dX4_get_5 : decode cX4_get 5 = .ok (.bipush 8, 2) := by decide +kernel
theorem dX4_get_7 : decode cX4_get 7 = .ok (.if_icmp .gt 7, 3) := by decide +kernel
theorem dX4_get_10 : decode cX4_get 10 = .ok (.iconst 1, 1) := by decide +kernel
theorem dX4_get_11 : decode cX4_get 11 = .ok (.goto 4, 3) := by decide +kernel
theorem dX4_get_14 : decode cX4_get 14 = .ok (.iconst 0, 1) := by decide +kernel
theorem dX4_get_15 : decode cX4_get 15 = .ok (.istore 4, 2) := by decide +kernel
theorem dX4_get_17 : decode cX4_get 17 = .ok (.iload 4, 2) := by decide +kernel
theorem dX4_get_19 : decode cX4_get 19 = .ok (.ifCond .eq 11, 3) := by decide +kernel
theorem dX4_get_22 : decode cX4_get 22 = .ok (.lload_n 1, 1) := by decide +kernel
theorem dX4_get_23 : decode cX4_get 23 = .ok (.iload_n 3, 1) := by decide +kernel
theorem dX4_get_24 : decode cX4_get 24 = .ok (.invokestatic 40, 3) := by decide +kernel
theorem dX4_get_27 : decode cX4_get 27 = .ok (.goto 4, 3) := by decide +kernel
theorem dX4_get_30 : decode cX4_get 30 = .ok (.lconst 0, 1) := by decide +kernel
theorem dX4_get_31 : decode cX4_get 31 = .ok (.lstore 5, 2) := by decide +kernel
theorem dX4_get_33 : decode cX4_get 33 = .ok (.iload 4, 2) := by decide +kernel
theorem dX4_get_35 : decode cX4_get 35 = .ok (.ifCond .eq 14, 3) := by decide +kernel
theorem dX4_get_38 : decode cX4_get 38 = .ok (.aload_n 0, 1) := by decide +kernel
theorem dX4_get_39 : decode cX4_get 39 = .ok (.iconst 0, 1) := by decide +kernel
theorem dX4_get_40 : decode cX4_get 40 = .ok (.lload 5, 2) := by decide +kernel
theorem dX4_get_42 : decode cX4_get 42 = .ok (.iload_n 3, 1) := by decide +kernel
theorem dX4_get_43 : decode cX4_get 43 = .ok (.invokevirtual 44, 3) := by decide +kernel
theorem dX4_get_46 : decode cX4_get 46 = .ok (.goto 4, 3) := by decide +kernel
theorem dX4_get_49 : decode cX4_get 49 = .ok (.iconst 0, 1) := by decide +kernel
theorem dX4_get_50 : decode cX4_get 50 = .ok (.istore 7, 2) := by decide +kernel
theorem dX4_get_52 : decode cX4_get 52 = .ok (.aload_n 0, 1) := by decide +kernel
theorem dX4_get_53 : decode cX4_get 53 = .ok (.iload 4, 2) := by decide +kernel
theorem dX4_get_55 : decode cX4_get 55 = .ok (.ifCond .ne 7, 3) := by decide +kernel
theorem dX4_get_58 : decode cX4_get 58 = .ok (.iconst 1, 1) := by decide +kernel
theorem dX4_get_59 : decode cX4_get 59 = .ok (.goto 21, 3) := by decide +kernel
theorem dX4_get_62 : decode cX4_get 62 = .ok (.aload_n 0, 1) := by decide +kernel
theorem dX4_get_63 : decode cX4_get 63 = .ok (.iconst 0, 1) := by decide +kernel
theorem dX4_get_64 : decode cX4_get 64 = .ok (.iload 7, 2) := by decide +kernel
theorem dX4_get_66 : decode cX4_get 66 = .ok (.lload 5, 2) := by decide +kernel
theorem dX4_get_68 : decode cX4_get 68 = .ok (.iload_n 3, 1) := by decide +kernel
theorem dX4_get_69 : decode cX4_get 69 = .ok (.invokevirtual 47, 3) := by decide +kernel
theorem dX4_get_72 : decode cX4_get 72 = .ok (.ifCond .eq 7, 3) := by decide +kernel
theorem dX4_get_75 : decode cX4_get 75 = .ok (.iconst 0, 1) := by decide +kernel
theorem dX4_get_76 : decode cX4_get 76 = .ok (.goto 4, 3) := by decide +kernel
theorem dX4_get_79 : decode cX4_get 79 = .ok (.iconst 2, 1) := by decide +kernel
theorem dX4_get_80 : decode cX4_get 80 = .ok (.putfield 30, 3) := by decide +kernel
theorem dX4_get_83 : decode cX4_get 83 = .ok (.aload_n 0, 1) := by decide +kernel
theorem dX4_get_84 : decode cX4_get 84 = .ok (.getfield 30, 3) := by decide +kernel
theorem dX4_get_87 : decode cX4_get 87 = .ok (.ifCond .le 7, 3) := by decide +kernel
theorem dX4_get_90 : decode cX4_get 90 = .ok (.iconst 0, 1) := by decide +kernel
theorem dX4_get_91 : decode cX4_get 91 = .ok (.goto 10, 3) := by decide +kernel
theorem dX4_get_94 : decode cX4_get 94 = .ok (.aload_n 0, 1) := by decide +kernel
theorem dX4_get_95 : decode cX4_get 95 = .ok (.getfield 20, 3) := by decide +kernel
theorem dX4_get_98 : decode cX4_get 98 = .ok (.iload 7, 2) := by decide +kernel
theorem dX4_get_100 : decode cX4_get 100 = .ok (.iaload, 1) := by decide +kernel
theorem dX4_get_101 : decode cX4_get 101 = .ok (.ireturn, 1) := by decide +kernel
theorem dX4_remove_0 : decode cX4_remove 0 = .ok (.aload_n 0, 1) := by decide +kernel
theorem dX4_remove_1 : decode cX4_remove 1 = .ok (.iconst 0, 1) := by decide +kernel
theorem dX4_remove_2 : decode cX4_remove 2 = .ok (.putfield 30, 3) := by decide +kernel
theorem dX4_remove_5 : decode cX4_remove 5 = .ok (.iload_n 3, 1) := by decide +kernel
theorem dX4_remove_6 : decode cX4_remove 6 = .ok (.ifCond .lt 9, 3) := by decide +kernel
theorem dX4_remove_9 : decode cX4_remove 9 = .ok (.iload_n 3, 1) := by decide +kernel
theorem dX4_remove_10 : decode cX4_remove 10 = .ok (.bipush 8, 2) := by decide +kernel
theorem dX4_remove_12 : decode cX4_remove 12 = .ok (.if_icmp .le 5, 3) := by decide +kernel
theorem dX4_remove_15 : decode cX4_remove 15 = .ok (.iconst 0, 1) := by decide +kernel
theorem dX4_remove_16 : decode cX4_remove 16 = .ok (.ireturn, 1) := by decide +kernel
theorem dX4_remove_17 : decode cX4_remove 17 = .ok (.aload_n 0, 1) := by decide +kernel
theorem dX4_remove_18 : decode cX4_remove 18 = .ok (.iconst 0, 1) := by decide +kernel
theorem dX4_remove_19 : decode cX4_remove 19 = .ok (.lload_n 1, 1) := by decide +kernel
theorem dX4_remove_20 : decode cX4_remove 20 = .ok (.iload_n 3, 1) := by decide +kernel
theorem dX4_remove_21 : decode cX4_remove 21 = .ok (.invokestatic 40, 3) := by decide +kernel
theorem dX4_remove_24 : decode cX4_remove 24 = .ok (.iload_n 3, 1) := by decide +kernel
theorem dX4_remove_25 : decode cX4_remove 25 = .ok (.invokevirtual 44, 3) := by decide +kernel
theorem dX4_remove_28 : decode cX4_remove 28 = .ok (.istore 4, 2) := by decide +kernel
theorem dX4_remove_30 : decode cX4_remove 30 = .ok (.aload_n 0, 1) := by decide +kernel
theorem dX4_remove_31 : decode cX4_remove 31 = .ok (.iconst 0, 1) := by decide +kernel
theorem dX4_remove_32 : decode cX4_remove 32 = .ok (.iload 4, 2) := by decide +kernel
theorem dX4_remove_34 : decode cX4_remove 34 = .ok (.lload_n 1, 1) := by decide +kernel
theorem dX4_remove_35 : decode cX4_remove 35 = .ok (.iload_n 3, 1) := by decide +kernel
theorem dX4_remove_36 : decode cX4_remove 36 = .ok (.invokestatic 40, 3) := by decide +kernel
theorem dX4_remove_39 : decode cX4_remove 39 = .ok (.iload_n 3, 1) := by decide +kernel
theorem dX4_remove_40 : decode cX4_remove 40 = .ok (.invokevirtual 47, 3) := by decide +kernel
theorem dX4_remove_43 : decode cX4_remove 43 = .ok (.ifCond .ne 5, 3) := by decide +kernel
theorem dX4_remove_46 : decode cX4_remove 46 = .ok (.iconst 0, 1) := by decide +kernel
theorem dX4_remove_47 : decode cX4_remove 47 = .ok (.ireturn, 1) := by decide +kernel
theorem dX4_remove_48 : decode cX4_remove 48 = .ok (.aload_n 0, 1) := by decide +kernel
theorem dX4_remove_49 : decode cX4_remove 49 = .ok (.getfield 7, 3) := by decide +kernel
theorem dX4_remove_52 : decode cX4_remove 52 = .ok (.iconst 0, 1) := by decide +kernel
theorem dX4_remove_53 : decode cX4_remove 53 = .ok (.dup2, 1) := by decide +kernel
theorem dX4_remove_54 : decode cX4_remove 54 = .ok (.iaload, 1) := by decide +kernel
theorem dX4_remove_55 : decode cX4_remove 55 = .ok (.iconst 1, 1) := by decide +kernel
theorem dX4_remove_56 : decode cX4_remove 56 = .ok (.isub, 1) := by decide +kernel
theorem dX4_remove_57 : decode cX4_remove 57 = .ok (.iastore, 1) := by decide +kernel
theorem dX4_remove_58 : decode cX4_remove 58 = .ok (.iload 4, 2) := by decide +kernel
theorem dX4_remove_60 : decode cX4_remove 60 = .ok (.istore 5, 2) := by decide +kernel
theorem dX4_remove_62 : decode cX4_remove 62 = .ok (.iload 5, 2) := by decide +kernel
theorem dX4_remove_64 : decode cX4_remove 64 = .ok (.aload_n 0, 1) := by decide +kernel
theorem dX4_remove_65 : decode cX4_remove 65 = .ok (.getfield 7, 3) := by decide +kernel
theorem dX4_remove_68 : decode cX4_remove 68 = .ok (.iconst 0, 1) := by decide +kernel
theorem dX4_remove_69 : decode cX4_remove 69 = .ok (.iaload, 1) := by decide +kernel
theorem dX4_remove_70 : decode cX4_remove 70 = .ok (.if_icmp .ge 19, 3) := by decide +kernel
theorem dX4_remove_73 : decode cX4_remove 73 = .ok (.aload_n 0, 1) := by decide +kernel
theorem dX4_remove_74 : decode cX4_remove 74 = .ok (.iload 5, 2) := by decide +kernel
theorem dX4_remove_76 : decode cX4_remove 76 = .ok (.iconst 1, 1) := by decide +kernel
theorem dX4_remove_77 : decode cX4_remove 77 = .ok (.iadd, 1) := by decide +kernel
theorem dX4_remove_78 : decode cX4_remove 78 = .ok (.iload 5, 2) := by decide +kernel
theorem dX4_remove_80 : decode cX4_remove 80 = .ok (.invokevirtual 51, 3) := by decide +kernel
theorem dX4_remove_83 : decode cX4_remove 83 = .ok (.iinc 5 1, 3) := by decide +kernel
theorem dX4_remove_86 : decode cX4_remove 86 = .ok (.goto (-24), 3) := by decide +kernel
theorem dX4_remove_89 : decode cX4_remove 89 = .ok (.iconst 1, 1) := by decide +kernel
theorem dX4_remove_90 : decode cX4_remove 90 = .ok (.ireturn, 1) := by decide +kernel
theorem dX4_size_0 : decode cX4_size 0 = .ok (.aload_n 0, 1) := by decide +kernel
theorem dX4_size_1 : decode cX4_size 1 = .ok (.iconst 0, 1) := by decide +kernel
theorem dX4_size_2 : decode cX4_size 2 = .ok (.putfield 30, 3) := by decide +kernel
theorem dX4_size_5 : decode cX4_size 5 = .ok (.aload_n 0, 1) := by decide +kernel
theorem dX4_size_6 : decode cX4_size 6 = .ok (.getfield 7, 3) := by decide +kernel
theorem dX4_size_9 : decode cX4_size 9 = .ok (.iconst 0, 1) := by decide +kernel
theorem dX4_size_10 : decode cX4_size 10 = .ok (.iaload, 1) := by decide +kernel
theorem dX4_size_11 : decode cX4_size 11 = .ok (.ireturn, 1) := by decide +kernel
theorem dX4_within_0 : decode cX4_within 0 = .ok (.aload_n 0, 1) := by decide +kernel
theorem dX4_within_1 : decode cX4_within 1 = .ok (.iconst 0, 1) := by decide +kernel
theorem dX4_within_2 : decode cX4_within 2 = .ok (.putfield 30, 3) := by decide +kernel
theorem dX4_within_5 : decode cX4_within 5 = .ok (.iconst 0, 1) := by decide +kernel
theorem dX4_within_6 : decode cX4_within 6 = .ok (.istore 4, 2) := by decide +kernel
theorem dX4_within_8 : decode cX4_within 8 = .ok (.iconst 0, 1) := by decide +kernel
theorem dX4_within_9 : decode cX4_within 9 = .ok (.istore 5, 2) := by decide +kernel
theorem dX4_within_11 : decode cX4_within 11 = .ok (.iload 5, 2) := by decide +kernel
theorem dX4_within_13 : decode cX4_within 13 = .ok (.aload_n 0, 1) := by decide +kernel
theorem dX4_within_14 : decode cX4_within 14 = .ok (.getfield 7, 3) := by decide +kernel
theorem dX4_within_17 : decode cX4_within 17 = .ok (.iconst 0, 1) := by decide +kernel
theorem dX4_within_18 : decode cX4_within 18 = .ok (.iaload, 1) := by decide +kernel
theorem dX4_within_19 : decode cX4_within 19 = .ok (.if_icmp .ge 45, 3) := by decide +kernel
theorem dX4_within_22 : decode cX4_within 22 = .ok (.iload_n 3, 1) := by decide +kernel
theorem dX4_within_23 : decode cX4_within 23 = .ok (.ifCond .lt 41, 3) := by decide +kernel
theorem dX4_within_26 : decode cX4_within 26 = .ok (.iload_n 3, 1) := by decide +kernel
theorem dX4_within_27 : decode cX4_within 27 = .ok (.bipush 8, 2) := by decide +kernel
theorem dX4_within_29 : decode cX4_within 29 = .ok (.if_icmp .gt 35, 3) := by decide +kernel
theorem dX4_within_32 : decode cX4_within 32 = .ok (.aload_n 0, 1) := by decide +kernel
theorem dX4_within_33 : decode cX4_within 33 = .ok (.iload 5, 2) := by decide +kernel
theorem dX4_within_35 : decode cX4_within 35 = .ok (.lload_n 1, 1) := by decide +kernel
theorem dX4_within_36 : decode cX4_within 36 = .ok (.iload_n 3, 1) := by decide +kernel
theorem dX4_within_37 : decode cX4_within 37 = .ok (.invokestatic 40, 3) := by decide +kernel
theorem dX4_within_40 : decode cX4_within 40 = .ok (.iload_n 3, 1) := by decide +kernel
theorem dX4_within_41 : decode cX4_within 41 = .ok (.invokevirtual 55, 3) := by decide +kernel
theorem dX4_within_44 : decode cX4_within 44 = .ok (.ifCond .eq 10, 3) := by decide +kernel
theorem dX4_within_47 : decode cX4_within 47 = .ok (.iload 4, 2) := by decide +kernel
theorem dX4_within_49 : decode cX4_within 49 = .ok (.iconst 1, 1) := by decide +kernel
theorem dX4_within_50 : decode cX4_within 50 = .ok (.iadd, 1) := by decide +kernel
theorem dX4_within_51 : decode cX4_within 51 = .ok (.goto 5, 3) := by decide +kernel
theorem dX4_within_54 : decode cX4_within 54 = .ok (.iload 4, 2) := by decide +kernel
theorem dX4_within_56 : decode cX4_within 56 = .ok (.istore 4, 2) := by decide +kernel
theorem dX4_within_58 : decode cX4_within 58 = .ok (.iinc 5 1, 3) := by decide +kernel
theorem dX4_within_61 : decode cX4_within 61 = .ok (.goto (-50), 3) := by decide +kernel
theorem dX4_within_64 : decode cX4_within 64 = .ok (.iload 4, 2) := by decide +kernel
theorem dX4_within_66 : decode cX4_within 66 = .ok (.ireturn, 1) := by decide +kernel
theorem dX4_rank_0 : decode cX4_rank 0 = .ok (.aload_n 0, 1) := by decide +kernel
theorem dX4_rank_1 : decode cX4_rank 1 = .ok (.iconst 0, 1) := by decide +kernel
theorem dX4_rank_2 : decode cX4_rank 2 = .ok (.putfield 30, 3) := by decide +kernel
theorem dX4_rank_5 : decode cX4_rank 5 = .ok (.iload_n 3, 1) := by decide +kernel
theorem dX4_rank_6 : decode cX4_rank 6 = .ok (.ifCond .lt 9, 3) := by decide +kernel
theorem dX4_rank_9 : decode cX4_rank 9 = .ok (.iload_n 3, 1) := by decide +kernel
theorem dX4_rank_10 : decode cX4_rank 10 = .ok (.bipush 8, 2) := by decide +kernel
theorem dX4_rank_12 : decode cX4_rank 12 = .ok (.if_icmp .le 7, 3) := by decide +kernel
theorem dX4_rank_15 : decode cX4_rank 15 = .ok (.iconst (-1), 1) := by decide +kernel
theorem dX4_rank_16 : decode cX4_rank 16 = .ok (.goto 14, 3) := by decide +kernel
theorem dX4_rank_19 : decode cX4_rank 19 = .ok (.aload_n 0, 1) := by decide +kernel
theorem dX4_rank_20 : decode cX4_rank 20 = .ok (.iconst 0, 1) := by decide +kernel
theorem dX4_rank_21 : decode cX4_rank 21 = .ok (.lload_n 1, 1) := by decide +kernel
theorem dX4_rank_22 : decode cX4_rank 22 = .ok (.iload_n 3, 1) := by decide +kernel
theorem dX4_rank_23 : decode cX4_rank 23 = .ok (.invokestatic 40, 3) := by decide +kernel
theorem dX4_rank_26 : decode cX4_rank 26 = .ok (.iload_n 3, 1) := by decide +kernel
theorem dX4_rank_27 : decode cX4_rank 27 = .ok (.invokevirtual 44, 3) := by decide +kernel
theorem dX4_rank_30 : decode cX4_rank 30 = .ok (.ireturn, 1) := by decide +kernel
theorem dX4_branches_0 : decode cX4_branches 0 = .ok (.iconst 0, 1) := by decide +kernel
theorem dX4_branches_1 : decode cX4_branches 1 = .ok (.istore 4, 2) := by decide +kernel
theorem dX4_branches_3 : decode cX4_branches 3 = .ok (.iconst 0, 1) := by decide +kernel
theorem dX4_branches_4 : decode cX4_branches 4 = .ok (.istore 5, 2) := by decide +kernel
theorem dX4_branches_6 : decode cX4_branches 6 = .ok (.iconst 0, 1) := by decide +kernel
theorem dX4_branches_7 : decode cX4_branches 7 = .ok (.istore 6, 2) := by decide +kernel
theorem dX4_branches_9 : decode cX4_branches 9 = .ok (.iconst (-1), 1) := by decide +kernel
theorem dX4_branches_10 : decode cX4_branches 10 = .ok (.istore 7, 2) := by decide +kernel
theorem dX4_branches_12 : decode cX4_branches 12 = .ok (.iconst 0, 1) := by decide +kernel
theorem dX4_branches_13 : decode cX4_branches 13 = .ok (.istore 8, 2) := by decide +kernel
theorem dX4_branches_15 : decode cX4_branches 15 = .ok (.iload 8, 2) := by decide +kernel
theorem dX4_branches_17 : decode cX4_branches 17 = .ok (.aload_n 0, 1) := by decide +kernel
theorem dX4_branches_18 : decode cX4_branches 18 = .ok (.getfield 7, 3) := by decide +kernel
theorem dX4_branches_21 : decode cX4_branches 21 = .ok (.iconst 0, 1) := by decide +kernel
theorem dX4_branches_22 : decode cX4_branches 22 = .ok (.iaload, 1) := by decide +kernel
theorem dX4_branches_23 : decode cX4_branches 23 = .ok (.if_icmp .ge 117, 3) := by decide +kernel
theorem dX4_branches_26 : decode cX4_branches 26 = .ok (.aload_n 0, 1) := by decide +kernel
theorem dX4_branches_27 : decode cX4_branches 27 = .ok (.iload 8, 2) := by decide +kernel
theorem dX4_branches_29 : decode cX4_branches 29 = .ok (.lload_n 1, 1) := by decide +kernel
theorem dX4_branches_30 : decode cX4_branches 30 = .ok (.iload_n 3, 1) := by decide +kernel
theorem dX4_branches_31 : decode cX4_branches 31 = .ok (.invokevirtual 55, 3) := by decide +kernel
theorem dX4_branches_34 : decode cX4_branches 34 = .ok (.ifCond .eq 100, 3) := by decide +kernel
theorem dX4_branches_37 : decode cX4_branches 37 = .ok (.iinc 4 1, 3) := by decide +kernel
theorem dX4_branches_40 : decode cX4_branches 40 = .ok (.aload_n 0, 1) := by decide +kernel
theorem dX4_branches_41 : decode cX4_branches 41 = .ok (.getfield 17, 3) := by decide +kernel
theorem dX4_branches_44 : decode cX4_branches 44 = .ok (.iload 8, 2) := by decide +kernel
theorem dX4_branches_46 : decode cX4_branches 46 = .ok (.iaload, 1) := by decide +kernel
theorem dX4_branches_47 : decode cX4_branches 47 = .ok (.iload_n 3, 1) := by decide +kernel
theorem dX4_branches_48 : decode cX4_branches 48 = .ok (.if_icmp .ne 7, 3) := by decide +kernel
theorem dX4_branches_51 : decode cX4_branches 51 = .ok (.iconst 1, 1) := by decide +kernel
theorem dX4_branches_52 : decode cX4_branches 52 = .ok (.goto 4, 3) := by decide +kernel
theorem dX4_branches_55 : decode cX4_branches 55 = .ok (.iconst 0, 1) := by decide +kernel
theorem dX4_branches_56 : decode cX4_branches 56 = .ok (.istore 9, 2) := by decide +kernel
theorem dX4_branches_58 : decode cX4_branches 58 = .ok (.iload 6, 2) := by decide +kernel
theorem dX4_branches_60 : decode cX4_branches 60 = .ok (.ifCond .ne 8, 3) := by decide +kernel
theorem dX4_branches_63 : decode cX4_branches 63 = .ok (.iload 9, 2) := by decide +kernel
theorem dX4_branches_65 : decode cX4_branches 65 = .ok (.ifCond .eq 7, 3) := by decide +kernel
theorem dX4_branches_68 : decode cX4_branches 68 = .ok (.iconst 1, 1) := by decide +kernel
theorem dX4_branches_69 : decode cX4_branches 69 = .ok (.goto 4, 3) := by decide +kernel
theorem dX4_branches_72 : decode cX4_branches 72 = .ok (.iconst 0, 1) := by decide +kernel
theorem dX4_branches_73 : decode cX4_branches 73 = .ok (.istore 6, 2) := by decide +kernel
theorem dX4_branches_75 : decode cX4_branches 75 = .ok (.iload 9, 2) := by decide +kernel
theorem dX4_branches_77 : decode cX4_branches 77 = .ok (.ifCond .eq 7, 3) := by decide +kernel
theorem dX4_branches_80 : decode cX4_branches 80 = .ok (.iconst (-1), 1) := by decide +kernel
theorem dX4_branches_81 : decode cX4_branches 81 = .ok (.goto 14, 3) := by decide +kernel
theorem dX4_branches_84 : decode cX4_branches 84 = .ok (.aload_n 0, 1) := by decide +kernel
theorem dX4_branches_85 : decode cX4_branches 85 = .ok (.getfield 13, 3) := by decide +kernel
theorem dX4_branches_88 : decode cX4_branches 88 = .ok (.iload 8, 2) := by decide +kernel
theorem dX4_branches_90 : decode cX4_branches 90 = .ok (.laload, 1) := by decide +kernel
theorem dX4_branches_91 : decode cX4_branches 91 = .ok (.iload_n 3, 1) := by decide +kernel
theorem dX4_branches_92 : decode cX4_branches 92 = .ok (.invokestatic 59, 3) := by decide +kernel
theorem dX4_branches_95 : decode cX4_branches 95 = .ok (.istore 10, 2) := by decide +kernel
theorem dX4_branches_97 : decode cX4_branches 97 = .ok (.iload 9, 2) := by decide +kernel
theorem dX4_branches_99 : decode cX4_branches 99 = .ok (.ifCond .ne 17, 3) := by decide +kernel
theorem dX4_branches_102 : decode cX4_branches 102 = .ok (.iload 10, 2) := by decide +kernel
theorem dX4_branches_104 : decode cX4_branches 104 = .ok (.iload 7, 2) := by decide +kernel
theorem dX4_branches_106 : decode cX4_branches 106 = .ok (.if_icmp .eq 10, 3) := by decide +kernel
theorem dX4_branches_109 : decode cX4_branches 109 = .ok (.iload 5, 2) := by decide +kernel
theorem dX4_branches_111 : decode cX4_branches 111 = .ok (.iconst 1, 1) := by decide +kernel
theorem dX4_branches_112 : decode cX4_branches 112 = .ok (.iadd, 1) := by decide +kernel
theorem dX4_branches_113 : decode cX4_branches 113 = .ok (.goto 5, 3) := by decide +kernel
theorem dX4_branches_116 : decode cX4_branches 116 = .ok (.iload 5, 2) := by decide +kernel
theorem dX4_branches_118 : decode cX4_branches 118 = .ok (.istore 5, 2) := by decide +kernel
theorem dX4_branches_120 : decode cX4_branches 120 = .ok (.iload 9, 2) := by decide +kernel
theorem dX4_branches_122 : decode cX4_branches 122 = .ok (.ifCond .eq 8, 3) := by decide +kernel
theorem dX4_branches_125 : decode cX4_branches 125 = .ok (.iload 7, 2) := by decide +kernel
theorem dX4_branches_127 : decode cX4_branches 127 = .ok (.goto 5, 3) := by decide +kernel
theorem dX4_branches_130 : decode cX4_branches 130 = .ok (.iload 10, 2) := by decide +kernel
theorem dX4_branches_132 : decode cX4_branches 132 = .ok (.istore 7, 2) := by decide +kernel
theorem dX4_branches_134 : decode cX4_branches 134 = .ok (.iinc 8 1, 3) := by decide +kernel
theorem dX4_branches_137 : decode cX4_branches 137 = .ok (.goto (-122), 3) := by decide +kernel
theorem dX4_branches_140 : decode cX4_branches 140 = .ok (.iload 5, 2) := by decide +kernel
theorem dX4_branches_142 : decode cX4_branches 142 = .ok (.iconst 1, 1) := by decide +kernel
theorem dX4_branches_143 : decode cX4_branches 143 = .ok (.if_icmp .gt 14, 3) := by decide +kernel
theorem dX4_branches_146 : decode cX4_branches 146 = .ok (.iload 6, 2) := by decide +kernel
theorem dX4_branches_148 : decode cX4_branches 148 = .ok (.ifCond .eq 14, 3) := by decide +kernel
theorem dX4_branches_151 : decode cX4_branches 151 = .ok (.iload 4, 2) := by decide +kernel
theorem dX4_branches_153 : decode cX4_branches 153 = .ok (.iconst 1, 1) := by decide +kernel
theorem dX4_branches_154 : decode cX4_branches 154 = .ok (.if_icmp .le 8, 3) := by decide +kernel
theorem dX4_branches_157 : decode cX4_branches 157 = .ok (.iload 5, 2) := by decide +kernel
theorem dX4_branches_159 : decode cX4_branches 159 = .ok (.goto 4, 3) := by decide +kernel
theorem dX4_branches_162 : decode cX4_branches 162 = .ok (.iconst 0, 1) := by decide +kernel
theorem dX4_branches_163 : decode cX4_branches 163 = .ok (.ireturn, 1) := by decide +kernel
theorem dX4_sizeOf_0 : decode cX4_sizeOf 0 = .ok (.iload_n 0, 1) := by decide +kernel
theorem dX4_sizeOf_1 : decode cX4_sizeOf 1 = .ok (.iconst 5, 1) := by decide +kernel
theorem dX4_sizeOf_2 : decode cX4_sizeOf 2 = .ok (.if_icmp .ge 7, 3) := by decide +kernel
theorem dX4_sizeOf_5 : decode cX4_sizeOf 5 = .ok (.iconst 0, 1) := by decide +kernel
theorem dX4_sizeOf_6 : decode cX4_sizeOf 6 = .ok (.goto 24, 3) := by decide +kernel
theorem dX4_sizeOf_9 : decode cX4_sizeOf 9 = .ok (.iload_n 0, 1) := by decide +kernel
theorem dX4_sizeOf_10 : decode cX4_sizeOf 10 = .ok (.bipush 17, 2) := by decide +kernel
theorem dX4_sizeOf_12 : decode cX4_sizeOf 12 = .ok (.if_icmp .ge 7, 3) := by decide +kernel
theorem dX4_sizeOf_15 : decode cX4_sizeOf 15 = .ok (.iconst 1, 1) := by decide +kernel
theorem dX4_sizeOf_16 : decode cX4_sizeOf 16 = .ok (.goto 14, 3) := by decide +kernel
theorem dX4_sizeOf_19 : decode cX4_sizeOf 19 = .ok (.iload_n 0, 1) := by decide +kernel
theorem dX4_sizeOf_20 : decode cX4_sizeOf 20 = .ok (.bipush 49, 2) := by decide +kernel
theorem dX4_sizeOf_22 : decode cX4_sizeOf 22 = .ok (.if_icmp .ge 7, 3) := by decide +kernel
theorem dX4_sizeOf_25 : decode cX4_sizeOf 25 = .ok (.iconst 2, 1) := by decide +kernel
theorem dX4_sizeOf_26 : decode cX4_sizeOf 26 = .ok (.goto 4, 3) := by decide +kernel
theorem dX4_sizeOf_29 : decode cX4_sizeOf 29 = .ok (.iconst 3, 1) := by decide +kernel
theorem dX4_sizeOf_30 : decode cX4_sizeOf 30 = .ok (.ireturn, 1) := by decide +kernel
theorem dX4_forks_0 : decode cX4_forks 0 = .ok (.aload_n 0, 1) := by decide +kernel
theorem dX4_forks_1 : decode cX4_forks 1 = .ok (.iconst 0, 1) := by decide +kernel
theorem dX4_forks_2 : decode cX4_forks 2 = .ok (.putfield 30, 3) := by decide +kernel
theorem dX4_forks_5 : decode cX4_forks 5 = .ok (.iload_n 1, 1) := by decide +kernel
theorem dX4_forks_6 : decode cX4_forks 6 = .ok (.ifCond .lt 8, 3) := by decide +kernel
theorem dX4_forks_9 : decode cX4_forks 9 = .ok (.iload_n 1, 1) := by decide +kernel
theorem dX4_forks_10 : decode cX4_forks 10 = .ok (.iconst 3, 1) := by decide +kernel
theorem dX4_forks_11 : decode cX4_forks 11 = .ok (.if_icmp .le 5, 3) := by decide +kernel
theorem dX4_forks_14 : decode cX4_forks 14 = .ok (.iconst (-1), 1) := by decide +kernel
theorem dX4_forks_15 : decode cX4_forks 15 = .ok (.ireturn, 1) := by decide +kernel
theorem dX4_forks_16 : decode cX4_forks 16 = .ok (.iconst 0, 1) := by decide +kernel
theorem dX4_forks_17 : decode cX4_forks 17 = .ok (.istore_n 2, 1) := by decide +kernel
theorem dX4_forks_18 : decode cX4_forks 18 = .ok (.iconst 0, 1) := by decide +kernel
theorem dX4_forks_19 : decode cX4_forks 19 = .ok (.istore_n 3, 1) := by decide +kernel
theorem dX4_forks_20 : decode cX4_forks 20 = .ok (.iload_n 3, 1) := by decide +kernel
theorem dX4_forks_21 : decode cX4_forks 21 = .ok (.aload_n 0, 1) := by decide +kernel
theorem dX4_forks_22 : decode cX4_forks 22 = .ok (.getfield 7, 3) := by decide +kernel
theorem dX4_forks_25 : decode cX4_forks 25 = .ok (.iconst 0, 1) := by decide +kernel
theorem dX4_forks_26 : decode cX4_forks 26 = .ok (.iaload, 1) := by decide +kernel
theorem dX4_forks_27 : decode cX4_forks 27 = .ok (.if_icmp .ge 108, 3) := by decide +kernel
theorem dX4_forks_30 : decode cX4_forks 30 = .ok (.iconst 0, 1) := by decide +kernel
theorem dX4_forks_31 : decode cX4_forks 31 = .ok (.istore 4, 2) := by decide +kernel
theorem dX4_forks_33 : decode cX4_forks 33 = .ok (.iload 4, 2) := by decide +kernel
theorem dX4_forks_35 : decode cX4_forks 35 = .ok (.aload_n 0, 1) := by decide +kernel
theorem dX4_forks_36 : decode cX4_forks 36 = .ok (.getfield 17, 3) := by decide +kernel
theorem dX4_forks_39 : decode cX4_forks 39 = .ok (.iload_n 3, 1) := by decide +kernel
theorem dX4_forks_40 : decode cX4_forks 40 = .ok (.iaload, 1) := by decide +kernel
theorem dX4_forks_41 : decode cX4_forks 41 = .ok (.if_icmp .gt 88, 3) := by decide +kernel
theorem dX4_forks_44 : decode cX4_forks 44 = .ok (.aload_n 0, 1) := by decide +kernel
theorem dX4_forks_45 : decode cX4_forks 45 = .ok (.getfield 13, 3) := by decide +kernel
theorem dX4_forks_48 : decode cX4_forks 48 = .ok (.iload_n 3, 1) := by decide +kernel
theorem dX4_forks_49 : decode cX4_forks 49 = .ok (.laload, 1) := by decide +kernel
theorem dX4_forks_50 : decode cX4_forks 50 = .ok (.iload 4, 2) := by decide +kernel
theorem dX4_forks_52 : decode cX4_forks 52 = .ok (.invokestatic 40, 3) := by decide +kernel
theorem dX4_forks_55 : decode cX4_forks 55 = .ok (.lstore 5, 2) := by decide +kernel
theorem dX4_forks_57 : decode cX4_forks 57 = .ok (.iload_n 3, 1) := by decide +kernel
theorem dX4_forks_58 : decode cX4_forks 58 = .ok (.ifCond .eq 17, 3) := by decide +kernel
theorem dX4_forks_61 : decode cX4_forks 61 = .ok (.aload_n 0, 1) := by decide +kernel
theorem dX4_forks_62 : decode cX4_forks 62 = .ok (.iload_n 3, 1) := by decide +kernel
theorem dX4_forks_63 : decode cX4_forks 63 = .ok (.iconst 1, 1) := by decide +kernel
theorem dX4_forks_64 : decode cX4_forks 64 = .ok (.isub, 1) := by decide +kernel
theorem dX4_forks_65 : decode cX4_forks 65 = .ok (.lload 5, 2) := by decide +kernel
theorem dX4_forks_67 : decode cX4_forks 67 = .ok (.iload 4, 2) := by decide +kernel
theorem dX4_forks_69 : decode cX4_forks 69 = .ok (.invokevirtual 55, 3) := by decide +kernel
theorem dX4_forks_72 : decode cX4_forks 72 = .ok (.ifCond .ne 7, 3) := by decide +kernel
theorem dX4_forks_75 : decode cX4_forks 75 = .ok (.iconst 1, 1) := by decide +kernel
theorem dX4_forks_76 : decode cX4_forks 76 = .ok (.goto 4, 3) := by decide +kernel
theorem dX4_forks_79 : decode cX4_forks 79 = .ok (.iconst 0, 1) := by decide +kernel
theorem dX4_forks_80 : decode cX4_forks 80 = .ok (.istore 7, 2) := by decide +kernel
theorem dX4_forks_82 : decode cX4_forks 82 = .ok (.iload 7, 2) := by decide +kernel
theorem dX4_forks_84 : decode cX4_forks 84 = .ok (.ifCond .eq 14, 3) := by decide +kernel
theorem dX4_forks_87 : decode cX4_forks 87 = .ok (.aload_n 0, 1) := by decide +kernel
theorem dX4_forks_88 : decode cX4_forks 88 = .ok (.lload 5, 2) := by decide +kernel
theorem dX4_forks_90 : decode cX4_forks 90 = .ok (.iload 4, 2) := by decide +kernel
theorem dX4_forks_92 : decode cX4_forks 92 = .ok (.invokevirtual 63, 3) := by decide +kernel
theorem dX4_forks_95 : decode cX4_forks 95 = .ok (.goto 4, 3) := by decide +kernel
theorem dX4_forks_98 : decode cX4_forks 98 = .ok (.iconst 0, 1) := by decide +kernel
theorem dX4_forks_99 : decode cX4_forks 99 = .ok (.istore 8, 2) := by decide +kernel
theorem dX4_forks_101 : decode cX4_forks 101 = .ok (.iload 8, 2) := by decide +kernel
theorem dX4_forks_103 : decode cX4_forks 103 = .ok (.ifCond .le 18, 3) := by decide +kernel
theorem dX4_forks_106 : decode cX4_forks 106 = .ok (.iload 8, 2) := by decide +kernel
theorem dX4_forks_108 : decode cX4_forks 108 = .ok (.invokestatic 66, 3) := by decide +kernel
theorem dX4_forks_111 : decode cX4_forks 111 = .ok (.iload_n 1, 1) := by decide +kernel
theorem dX4_forks_112 : decode cX4_forks 112 = .ok (.if_icmp .ne 9, 3) := by decide +kernel
theorem dX4_forks_115 : decode cX4_forks 115 = .ok (.iload_n 2, 1) := by decide +kernel
theorem dX4_forks_116 : decode cX4_forks 116 = .ok (.iconst 1, 1) := by decide +kernel
theorem dX4_forks_117 : decode cX4_forks 117 = .ok (.iadd, 1) := by decide +kernel
theorem dX4_forks_118 : decode cX4_forks 118 = .ok (.goto 4, 3) := by decide +kernel
theorem dX4_forks_121 : decode cX4_forks 121 = .ok (.iload_n 2, 1) := by decide +kernel
theorem dX4_forks_122 : decode cX4_forks 122 = .ok (.istore_n 2, 1) := by decide +kernel
theorem dX4_forks_123 : decode cX4_forks 123 = .ok (.iinc 4 1, 3) := by decide +kernel
theorem dX4_forks_126 : decode cX4_forks 126 = .ok (.goto (-93), 3) := by decide +kernel
theorem dX4_forks_129 : decode cX4_forks 129 = .ok (.iinc 3 1, 3) := by decide +kernel
theorem dX4_forks_132 : decode cX4_forks 132 = .ok (.goto (-112), 3) := by decide +kernel
theorem dX4_forks_135 : decode cX4_forks 135 = .ok (.iload_n 2, 1) := by decide +kernel
theorem dX4_forks_136 : decode cX4_forks 136 = .ok (.ireturn, 1) := by decide +kernel
theorem dX4_depth_0 : decode cX4_depth 0 = .ok (.aload_n 0, 1) := by decide +kernel
theorem dX4_depth_1 : decode cX4_depth 1 = .ok (.iconst 0, 1) := by decide +kernel
theorem dX4_depth_2 : decode cX4_depth 2 = .ok (.putfield 30, 3) := by decide +kernel
theorem dX4_depth_5 : decode cX4_depth 5 = .ok (.iload_n 3, 1) := by decide +kernel
theorem dX4_depth_6 : decode cX4_depth 6 = .ok (.ifCond .lt 9, 3) := by decide +kernel
theorem dX4_depth_9 : decode cX4_depth 9 = .ok (.iload_n 3, 1) := by decide +kernel
theorem dX4_depth_10 : decode cX4_depth 10 = .ok (.bipush 8, 2) := by decide +kernel
theorem dX4_depth_12 : decode cX4_depth 12 = .ok (.if_icmp .le 5, 3) := by decide +kernel
theorem dX4_depth_15 : decode cX4_depth 15 = .ok (.iconst (-1), 1) := by decide +kernel
theorem dX4_depth_16 : decode cX4_depth 16 = .ok (.ireturn, 1) := by decide +kernel
theorem dX4_depth_17 : decode cX4_depth 17 = .ok (.iconst 0, 1) := by decide +kernel
theorem dX4_depth_18 : decode cX4_depth 18 = .ok (.istore 4, 2) := by decide +kernel
theorem dX4_depth_20 : decode cX4_depth 20 = .ok (.iconst 0, 1) := by decide +kernel
theorem dX4_depth_21 : decode cX4_depth 21 = .ok (.istore 5, 2) := by decide +kernel
theorem dX4_depth_23 : decode cX4_depth 23 = .ok (.iload 5, 2) := by decide +kernel
theorem dX4_depth_25 : decode cX4_depth 25 = .ok (.iload_n 3, 1) := by decide +kernel
theorem dX4_depth_26 : decode cX4_depth 26 = .ok (.if_icmp .gt 35, 3) := by decide +kernel
theorem dX4_depth_29 : decode cX4_depth 29 = .ok (.aload_n 0, 1) := by decide +kernel
theorem dX4_depth_30 : decode cX4_depth 30 = .ok (.lload_n 1, 1) := by decide +kernel
theorem dX4_depth_31 : decode cX4_depth 31 = .ok (.iload 5, 2) := by decide +kernel
theorem dX4_depth_33 : decode cX4_depth 33 = .ok (.invokestatic 40, 3) := by decide +kernel
theorem dX4_depth_36 : decode cX4_depth 36 = .ok (.iload 5, 2) := by decide +kernel
theorem dX4_depth_38 : decode cX4_depth 38 = .ok (.invokevirtual 63, 3) := by decide +kernel
theorem dX4_depth_41 : decode cX4_depth 41 = .ok (.ifCond .le 10, 3) := by decide +kernel
theorem dX4_depth_44 : decode cX4_depth 44 = .ok (.iload 4, 2) := by decide +kernel
theorem dX4_depth_46 : decode cX4_depth 46 = .ok (.iconst 1, 1) := by decide +kernel
theorem dX4_depth_47 : decode cX4_depth 47 = .ok (.iadd, 1) := by decide +kernel
theorem dX4_depth_48 : decode cX4_depth 48 = .ok (.goto 5, 3) := by decide +kernel
theorem dX4_depth_51 : decode cX4_depth 51 = .ok (.iload 4, 2) := by decide +kernel
theorem dX4_depth_53 : decode cX4_depth 53 = .ok (.istore 4, 2) := by decide +kernel
theorem dX4_depth_55 : decode cX4_depth 55 = .ok (.iinc 5 1, 3) := by decide +kernel
theorem dX4_depth_58 : decode cX4_depth 58 = .ok (.goto (-35), 3) := by decide +kernel
theorem dX4_depth_61 : decode cX4_depth 61 = .ok (.iload 4, 2) := by decide +kernel
theorem dX4_depth_63 : decode cX4_depth 63 = .ok (.ireturn, 1) := by decide +kernel
theorem dX4_isOpen_0 : decode cX4_isOpen 0 = .ok (.iload_n 1, 1) := by decide +kernel
theorem dX4_isOpen_1 : decode cX4_isOpen 1 = .ok (.ifCond .lt 21, 3) := by decide +kernel
theorem dX4_isOpen_4 : decode cX4_isOpen 4 = .ok (.iload_n 1, 1) := by decide +kernel
theorem dX4_isOpen_5 : decode cX4_isOpen 5 = .ok (.iconst 3, 1) := by decide +kernel
theorem dX4_isOpen_6 : decode cX4_isOpen 6 = .ok (.if_icmp .ge 16, 3) := by decide +kernel
theorem dX4_isOpen_9 : decode cX4_isOpen 9 = .ok (.aload_n 0, 1) := by decide +kernel
theorem dX4_isOpen_10 : decode cX4_isOpen 10 = .ok (.getfield 23, 3) := by decide +kernel
theorem dX4_isOpen_13 : decode cX4_isOpen 13 = .ok (.iload_n 1, 1) := by decide +kernel
theorem dX4_isOpen_14 : decode cX4_isOpen 14 = .ok (.baload, 1) := by decide +kernel
theorem dX4_isOpen_15 : decode cX4_isOpen 15 = .ok (.ifCond .eq 7, 3) := by decide +kernel
theorem dX4_isOpen_18 : decode cX4_isOpen 18 = .ok (.iconst 1, 1) := by decide +kernel
theorem dX4_isOpen_19 : decode cX4_isOpen 19 = .ok (.goto 4, 3) := by decide +kernel
theorem dX4_isOpen_22 : decode cX4_isOpen 22 = .ok (.iconst 0, 1) := by decide +kernel
theorem dX4_isOpen_23 : decode cX4_isOpen 23 = .ok (.ireturn, 1) := by decide +kernel
theorem dX4_open_0 : decode cX4_open 0 = .ok (.aload_n 0, 1) := by decide +kernel
theorem dX4_open_1 : decode cX4_open 1 = .ok (.iconst 0, 1) := by decide +kernel
theorem dX4_open_2 : decode cX4_open 2 = .ok (.putfield 30, 3) := by decide +kernel
theorem dX4_open_5 : decode cX4_open 5 = .ok (.iload_n 1, 1) := by decide +kernel
theorem dX4_open_6 : decode cX4_open 6 = .ok (.ifCond .lt 17, 3) := by decide +kernel
theorem dX4_open_9 : decode cX4_open 9 = .ok (.iload_n 1, 1) := by decide +kernel
theorem dX4_open_10 : decode cX4_open 10 = .ok (.iconst 2, 1) := by decide +kernel
theorem dX4_open_11 : decode cX4_open 11 = .ok (.if_icmp .gt 12, 3) := by decide +kernel
theorem dX4_open_14 : decode cX4_open 14 = .ok (.aload_n 0, 1) := by decide +kernel
theorem dX4_open_15 : decode cX4_open 15 = .ok (.getfield 23, 3) := by decide +kernel
theorem dX4_open_18 : decode cX4_open 18 = .ok (.iload_n 1, 1) := by decide +kernel
theorem dX4_open_19 : decode cX4_open 19 = .ok (.baload, 1) := by decide +kernel
theorem dX4_open_20 : decode cX4_open 20 = .ok (.ifCond .eq 5, 3) := by decide +kernel
theorem dX4_open_23 : decode cX4_open 23 = .ok (.iconst 0, 1) := by decide +kernel
theorem dX4_open_24 : decode cX4_open 24 = .ok (.ireturn, 1) := by decide +kernel
theorem dX4_open_25 : decode cX4_open 25 = .ok (.aload_n 0, 1) := by decide +kernel
theorem dX4_open_26 : decode cX4_open 26 = .ok (.getfield 23, 3) := by decide +kernel
theorem dX4_open_29 : decode cX4_open 29 = .ok (.iload_n 1, 1) := by decide +kernel
theorem dX4_open_30 : decode cX4_open 30 = .ok (.iconst 1, 1) := by decide +kernel
theorem dX4_open_31 : decode cX4_open 31 = .ok (.bastore, 1) := by decide +kernel
theorem dX4_open_32 : decode cX4_open 32 = .ok (.aload_n 0, 1) := by decide +kernel
theorem dX4_open_33 : decode cX4_open 33 = .ok (.getfield 27, 3) := by decide +kernel
theorem dX4_open_36 : decode cX4_open 36 = .ok (.iload_n 1, 1) := by decide +kernel
theorem dX4_open_37 : decode cX4_open 37 = .ok (.iconst (-1), 1) := by decide +kernel
theorem dX4_open_38 : decode cX4_open 38 = .ok (.iastore, 1) := by decide +kernel
theorem dX4_open_39 : decode cX4_open 39 = .ok (.aload_n 0, 1) := by decide +kernel
theorem dX4_open_40 : decode cX4_open 40 = .ok (.getfield 7, 3) := by decide +kernel
theorem dX4_open_43 : decode cX4_open 43 = .ok (.iload_n 1, 1) := by decide +kernel
theorem dX4_open_44 : decode cX4_open 44 = .ok (.iconst 1, 1) := by decide +kernel
theorem dX4_open_45 : decode cX4_open 45 = .ok (.iadd, 1) := by decide +kernel
theorem dX4_open_46 : decode cX4_open 46 = .ok (.aload_n 0, 1) := by decide +kernel
theorem dX4_open_47 : decode cX4_open 47 = .ok (.getfield 7, 3) := by decide +kernel
theorem dX4_open_50 : decode cX4_open 50 = .ok (.iconst 0, 1) := by decide +kernel
theorem dX4_open_51 : decode cX4_open 51 = .ok (.iaload, 1) := by decide +kernel
theorem dX4_open_52 : decode cX4_open 52 = .ok (.iastore, 1) := by decide +kernel
theorem dX4_open_53 : decode cX4_open 53 = .ok (.iconst 0, 1) := by decide +kernel
theorem dX4_open_54 : decode cX4_open 54 = .ok (.istore_n 2, 1) := by decide +kernel
theorem dX4_open_55 : decode cX4_open 55 = .ok (.iload_n 2, 1) := by decide +kernel
theorem dX4_open_56 : decode cX4_open 56 = .ok (.aload_n 0, 1) := by decide +kernel
theorem dX4_open_57 : decode cX4_open 57 = .ok (.getfield 7, 3) := by decide +kernel
theorem dX4_open_60 : decode cX4_open 60 = .ok (.iconst 0, 1) := by decide +kernel
theorem dX4_open_61 : decode cX4_open 61 = .ok (.iaload, 1) := by decide +kernel
theorem dX4_open_62 : decode cX4_open 62 = .ok (.if_icmp .ge 22, 3) := by decide +kernel
theorem dX4_open_65 : decode cX4_open 65 = .ok (.aload_n 0, 1) := by decide +kernel
theorem dX4_open_66 : decode cX4_open 66 = .ok (.iload_n 2, 1) := by decide +kernel
theorem dX4_open_67 : decode cX4_open 67 = .ok (.bipush 120, 2) := by decide +kernel
theorem dX4_open_69 : decode cX4_open 69 = .ok (.iload_n 1, 1) := by decide +kernel
theorem dX4_open_70 : decode cX4_open 70 = .ok (.iconst 1, 1) := by decide +kernel
theorem dX4_open_71 : decode cX4_open 71 = .ok (.iadd, 1) := by decide +kernel
theorem dX4_open_72 : decode cX4_open 72 = .ok (.imul, 1) := by decide +kernel
theorem dX4_open_73 : decode cX4_open 73 = .ok (.iload_n 2, 1) := by decide +kernel
theorem dX4_open_74 : decode cX4_open 74 = .ok (.iadd, 1) := by decide +kernel
theorem dX4_open_75 : decode cX4_open 75 = .ok (.invokevirtual 51, 3) := by decide +kernel
theorem dX4_open_78 : decode cX4_open 78 = .ok (.iinc 2 1, 3) := by decide +kernel
theorem dX4_open_81 : decode cX4_open 81 = .ok (.goto (-26), 3) := by decide +kernel
theorem dX4_open_84 : decode cX4_open 84 = .ok (.iconst 1, 1) := by decide +kernel
theorem dX4_open_85 : decode cX4_open 85 = .ok (.ireturn, 1) := by decide +kernel
theorem dX4_close_0 : decode cX4_close 0 = .ok (.aload_n 0, 1) := by decide +kernel
theorem dX4_close_1 : decode cX4_close 1 = .ok (.iconst 0, 1) := by decide +kernel
theorem dX4_close_2 : decode cX4_close 2 = .ok (.putfield 30, 3) := by decide +kernel
theorem dX4_close_5 : decode cX4_close 5 = .ok (.aload_n 0, 1) := by decide +kernel
theorem dX4_close_6 : decode cX4_close 6 = .ok (.iload_n 1, 1) := by decide +kernel
theorem dX4_close_7 : decode cX4_close 7 = .ok (.invokevirtual 70, 3) := by decide +kernel
theorem dX4_close_10 : decode cX4_close 10 = .ok (.istore_n 2, 1) := by decide +kernel
theorem dX4_close_11 : decode cX4_close 11 = .ok (.iload_n 2, 1) := by decide +kernel
theorem dX4_close_12 : decode cX4_close 12 = .ok (.ifCond .eq 10, 3) := by decide +kernel
theorem dX4_close_15 : decode cX4_close 15 = .ok (.aload_n 0, 1) := by decide +kernel
theorem dX4_close_16 : decode cX4_close 16 = .ok (.getfield 23, 3) := by decide +kernel
theorem dX4_close_19 : decode cX4_close 19 = .ok (.iload_n 1, 1) := by decide +kernel
theorem dX4_close_20 : decode cX4_close 20 = .ok (.iconst 0, 1) := by decide +kernel
theorem dX4_close_21 : decode cX4_close 21 = .ok (.bastore, 1) := by decide +kernel
theorem dX4_close_22 : decode cX4_close 22 = .ok (.iload_n 2, 1) := by decide +kernel
theorem dX4_close_23 : decode cX4_close 23 = .ok (.ireturn, 1) := by decide +kernel
theorem dX4_seek_0 : decode cX4_seek 0 = .ok (.aload_n 0, 1) := by decide +kernel
theorem dX4_seek_1 : decode cX4_seek 1 = .ok (.iload 4, 2) := by decide +kernel
theorem dX4_seek_3 : decode cX4_seek 3 = .ok (.ifCond .lt 10, 3) := by decide +kernel
theorem dX4_seek_6 : decode cX4_seek 6 = .ok (.iload 4, 2) := by decide +kernel
theorem dX4_seek_8 : decode cX4_seek 8 = .ok (.bipush 8, 2) := by decide +kernel
theorem dX4_seek_10 : decode cX4_seek 10 = .ok (.if_icmp .le 7, 3) := by decide +kernel
theorem dX4_seek_13 : decode cX4_seek 13 = .ok (.iconst 1, 1) := by decide +kernel
theorem dX4_seek_14 : decode cX4_seek 14 = .ok (.goto 16, 3) := by decide +kernel
theorem dX4_seek_17 : decode cX4_seek 17 = .ok (.aload_n 0, 1) := by decide +kernel
theorem dX4_seek_18 : decode cX4_seek 18 = .ok (.iload_n 1, 1) := by decide +kernel
theorem dX4_seek_19 : decode cX4_seek 19 = .ok (.invokevirtual 70, 3) := by decide +kernel
theorem dX4_seek_22 : decode cX4_seek 22 = .ok (.ifCond .eq 7, 3) := by decide +kernel
theorem dX4_seek_25 : decode cX4_seek 25 = .ok (.iconst 0, 1) := by decide +kernel
theorem dX4_seek_26 : decode cX4_seek 26 = .ok (.goto 4, 3) := by decide +kernel
theorem dX4_seek_29 : decode cX4_seek 29 = .ok (.iconst 2, 1) := by decide +kernel
theorem dX4_seek_30 : decode cX4_seek 30 = .ok (.putfield 30, 3) := by decide +kernel
theorem dX4_seek_33 : decode cX4_seek 33 = .ok (.aload_n 0, 1) := by decide +kernel
theorem dX4_seek_34 : decode cX4_seek 34 = .ok (.getfield 30, 3) := by decide +kernel
theorem dX4_seek_37 : decode cX4_seek 37 = .ok (.ifCond .le 5, 3) := by decide +kernel
theorem dX4_seek_40 : decode cX4_seek 40 = .ok (.iconst 0, 1) := by decide +kernel
theorem dX4_seek_41 : decode cX4_seek 41 = .ok (.ireturn, 1) := by decide +kernel
theorem dX4_seek_42 : decode cX4_seek 42 = .ok (.aload_n 0, 1) := by decide +kernel
theorem dX4_seek_43 : decode cX4_seek 43 = .ok (.getfield 27, 3) := by decide +kernel
theorem dX4_seek_46 : decode cX4_seek 46 = .ok (.iload_n 1, 1) := by decide +kernel
theorem dX4_seek_47 : decode cX4_seek 47 = .ok (.aload_n 0, 1) := by decide +kernel
theorem dX4_seek_48 : decode cX4_seek 48 = .ok (.iload_n 1, 1) := by decide +kernel
theorem dX4_seek_49 : decode cX4_seek 49 = .ok (.iconst 1, 1) := by decide +kernel
theorem dX4_seek_50 : decode cX4_seek 50 = .ok (.iadd, 1) := by decide +kernel
theorem dX4_seek_51 : decode cX4_seek 51 = .ok (.lload_n 2, 1) := by decide +kernel
theorem dX4_seek_52 : decode cX4_seek 52 = .ok (.iload 4, 2) := by decide +kernel
theorem dX4_seek_54 : decode cX4_seek 54 = .ok (.invokestatic 40, 3) := by decide +kernel
theorem dX4_seek_57 : decode cX4_seek 57 = .ok (.iload 4, 2) := by decide +kernel
theorem dX4_seek_59 : decode cX4_seek 59 = .ok (.invokevirtual 44, 3) := by decide +kernel
theorem dX4_seek_62 : decode cX4_seek 62 = .ok (.bipush 120, 2) := by decide +kernel
theorem dX4_seek_64 : decode cX4_seek 64 = .ok (.iload_n 1, 1) := by decide +kernel
theorem dX4_seek_65 : decode cX4_seek 65 = .ok (.iconst 1, 1) := by decide +kernel
theorem dX4_seek_66 : decode cX4_seek 66 = .ok (.iadd, 1) := by decide +kernel
theorem dX4_seek_67 : decode cX4_seek 67 = .ok (.imul, 1) := by decide +kernel
theorem dX4_seek_68 : decode cX4_seek 68 = .ok (.isub, 1) := by decide +kernel
theorem dX4_seek_69 : decode cX4_seek 69 = .ok (.iastore, 1) := by decide +kernel
theorem dX4_seek_70 : decode cX4_seek 70 = .ok (.aload_n 0, 1) := by decide +kernel
theorem dX4_seek_71 : decode cX4_seek 71 = .ok (.getfield 27, 3) := by decide +kernel
theorem dX4_seek_74 : decode cX4_seek 74 = .ok (.iload_n 1, 1) := by decide +kernel
theorem dX4_seek_75 : decode cX4_seek 75 = .ok (.iaload, 1) := by decide +kernel
theorem dX4_seek_76 : decode cX4_seek 76 = .ok (.aload_n 0, 1) := by decide +kernel
theorem dX4_seek_77 : decode cX4_seek 77 = .ok (.getfield 7, 3) := by decide +kernel
theorem dX4_seek_80 : decode cX4_seek 80 = .ok (.iload_n 1, 1) := by decide +kernel
theorem dX4_seek_81 : decode cX4_seek 81 = .ok (.iconst 1, 1) := by decide +kernel
theorem dX4_seek_82 : decode cX4_seek 82 = .ok (.iadd, 1) := by decide +kernel
theorem dX4_seek_83 : decode cX4_seek 83 = .ok (.iaload, 1) := by decide +kernel
theorem dX4_seek_84 : decode cX4_seek 84 = .ok (.if_icmp .ge 7, 3) := by decide +kernel
theorem dX4_seek_87 : decode cX4_seek 87 = .ok (.iconst 1, 1) := by decide +kernel
theorem dX4_seek_88 : decode cX4_seek 88 = .ok (.goto 4, 3) := by decide +kernel
theorem dX4_seek_91 : decode cX4_seek 91 = .ok (.iconst 0, 1) := by decide +kernel
theorem dX4_seek_92 : decode cX4_seek 92 = .ok (.ireturn, 1) := by decide +kernel
theorem dX4_next_0 : decode cX4_next 0 = .ok (.aload_n 0, 1) := by decide +kernel
theorem dX4_next_1 : decode cX4_next 1 = .ok (.aload_n 0, 1) := by decide +kernel
theorem dX4_next_2 : decode cX4_next 2 = .ok (.iload_n 1, 1) := by decide +kernel
theorem dX4_next_3 : decode cX4_next 3 = .ok (.invokevirtual 70, 3) := by decide +kernel
theorem dX4_next_6 : decode cX4_next 6 = .ok (.ifCond .eq 7, 3) := by decide +kernel
theorem dX4_next_9 : decode cX4_next 9 = .ok (.iconst 0, 1) := by decide +kernel
theorem dX4_next_10 : decode cX4_next 10 = .ok (.goto 4, 3) := by decide +kernel
theorem dX4_next_13 : decode cX4_next 13 = .ok (.iconst 1, 1) := by decide +kernel
theorem dX4_next_14 : decode cX4_next 14 = .ok (.putfield 30, 3) := by decide +kernel
theorem dX4_next_17 : decode cX4_next 17 = .ok (.aload_n 0, 1) := by decide +kernel
theorem dX4_next_18 : decode cX4_next 18 = .ok (.getfield 30, 3) := by decide +kernel
theorem dX4_next_21 : decode cX4_next 21 = .ok (.ifCond .le 5, 3) := by decide +kernel
theorem dX4_next_24 : decode cX4_next 24 = .ok (.iconst 0, 1) := by decide +kernel
theorem dX4_next_25 : decode cX4_next 25 = .ok (.ireturn, 1) := by decide +kernel
theorem dX4_next_26 : decode cX4_next 26 = .ok (.aload_n 0, 1) := by decide +kernel
theorem dX4_next_27 : decode cX4_next 27 = .ok (.getfield 27, 3) := by decide +kernel
theorem dX4_next_30 : decode cX4_next 30 = .ok (.iload_n 1, 1) := by decide +kernel
theorem dX4_next_31 : decode cX4_next 31 = .ok (.aload_n 0, 1) := by decide +kernel
theorem dX4_next_32 : decode cX4_next 32 = .ok (.getfield 27, 3) := by decide +kernel
theorem dX4_next_35 : decode cX4_next 35 = .ok (.iload_n 1, 1) := by decide +kernel
theorem dX4_next_36 : decode cX4_next 36 = .ok (.iaload, 1) := by decide +kernel
theorem dX4_next_37 : decode cX4_next 37 = .ok (.aload_n 0, 1) := by decide +kernel
theorem dX4_next_38 : decode cX4_next 38 = .ok (.getfield 7, 3) := by decide +kernel
theorem dX4_next_41 : decode cX4_next 41 = .ok (.iload_n 1, 1) := by decide +kernel
theorem dX4_next_42 : decode cX4_next 42 = .ok (.iconst 1, 1) := by decide +kernel
theorem dX4_next_43 : decode cX4_next 43 = .ok (.iadd, 1) := by decide +kernel
theorem dX4_next_44 : decode cX4_next 44 = .ok (.iaload, 1) := by decide +kernel
theorem dX4_next_45 : decode cX4_next 45 = .ok (.if_icmp .ge 14, 3) := by decide +kernel
theorem dX4_next_48 : decode cX4_next 48 = .ok (.aload_n 0, 1) := by decide +kernel
theorem dX4_next_49 : decode cX4_next 49 = .ok (.getfield 27, 3) := by decide +kernel
theorem dX4_next_52 : decode cX4_next 52 = .ok (.iload_n 1, 1) := by decide +kernel
theorem dX4_next_53 : decode cX4_next 53 = .ok (.iaload, 1) := by decide +kernel
theorem dX4_next_54 : decode cX4_next 54 = .ok (.iconst 1, 1) := by decide +kernel
theorem dX4_next_55 : decode cX4_next 55 = .ok (.iadd, 1) := by decide +kernel
theorem dX4_next_56 : decode cX4_next 56 = .ok (.goto 9, 3) := by decide +kernel
theorem dX4_next_59 : decode cX4_next 59 = .ok (.aload_n 0, 1) := by decide +kernel
theorem dX4_next_60 : decode cX4_next 60 = .ok (.getfield 27, 3) := by decide +kernel
theorem dX4_next_63 : decode cX4_next 63 = .ok (.iload_n 1, 1) := by decide +kernel
theorem dX4_next_64 : decode cX4_next 64 = .ok (.iaload, 1) := by decide +kernel
theorem dX4_next_65 : decode cX4_next 65 = .ok (.iastore, 1) := by decide +kernel
theorem dX4_next_66 : decode cX4_next 66 = .ok (.aload_n 0, 1) := by decide +kernel
theorem dX4_next_67 : decode cX4_next 67 = .ok (.getfield 27, 3) := by decide +kernel
theorem dX4_next_70 : decode cX4_next 70 = .ok (.iload_n 1, 1) := by decide +kernel
theorem dX4_next_71 : decode cX4_next 71 = .ok (.iaload, 1) := by decide +kernel
theorem dX4_next_72 : decode cX4_next 72 = .ok (.aload_n 0, 1) := by decide +kernel
theorem dX4_next_73 : decode cX4_next 73 = .ok (.getfield 7, 3) := by decide +kernel
theorem dX4_next_76 : decode cX4_next 76 = .ok (.iload_n 1, 1) := by decide +kernel
theorem dX4_next_77 : decode cX4_next 77 = .ok (.iconst 1, 1) := by decide +kernel
theorem dX4_next_78 : decode cX4_next 78 = .ok (.iadd, 1) := by decide +kernel
theorem dX4_next_79 : decode cX4_next 79 = .ok (.iaload, 1) := by decide +kernel
theorem dX4_next_80 : decode cX4_next 80 = .ok (.if_icmp .ge 7, 3) := by decide +kernel
theorem dX4_next_83 : decode cX4_next 83 = .ok (.iconst 1, 1) := by decide +kernel
theorem dX4_next_84 : decode cX4_next 84 = .ok (.goto 4, 3) := by decide +kernel
theorem dX4_next_87 : decode cX4_next 87 = .ok (.iconst 0, 1) := by decide +kernel
theorem dX4_next_88 : decode cX4_next 88 = .ok (.ireturn, 1) := by decide +kernel
theorem dX4_on_0 : decode cX4_on 0 = .ok (.aload_n 0, 1) := by decide +kernel
theorem dX4_on_1 : decode cX4_on 1 = .ok (.iload_n 1, 1) := by decide +kernel
theorem dX4_on_2 : decode cX4_on 2 = .ok (.invokevirtual 70, 3) := by decide +kernel
theorem dX4_on_5 : decode cX4_on 5 = .ok (.ifCond .eq 29, 3) := by decide +kernel
theorem dX4_on_8 : decode cX4_on 8 = .ok (.aload_n 0, 1) := by decide +kernel
theorem dX4_on_9 : decode cX4_on 9 = .ok (.getfield 27, 3) := by decide +kernel
theorem dX4_on_12 : decode cX4_on 12 = .ok (.iload_n 1, 1) := by decide +kernel
theorem dX4_on_13 : decode cX4_on 13 = .ok (.iaload, 1) := by decide +kernel
theorem dX4_on_14 : decode cX4_on 14 = .ok (.ifCond .lt 20, 3) := by decide +kernel
theorem dX4_on_17 : decode cX4_on 17 = .ok (.aload_n 0, 1) := by decide +kernel
theorem dX4_on_18 : decode cX4_on 18 = .ok (.getfield 27, 3) := by decide +kernel
theorem dX4_on_21 : decode cX4_on 21 = .ok (.iload_n 1, 1) := by decide +kernel
theorem dX4_on_22 : decode cX4_on 22 = .ok (.iaload, 1) := by decide +kernel
theorem dX4_on_23 : decode cX4_on 23 = .ok (.aload_n 0, 1) := by decide +kernel
theorem dX4_on_24 : decode cX4_on 24 = .ok (.getfield 7, 3) := by decide +kernel
theorem dX4_on_27 : decode cX4_on 27 = .ok (.iload_n 1, 1) := by decide +kernel
theorem dX4_on_28 : decode cX4_on 28 = .ok (.iconst 1, 1) := by decide +kernel
theorem dX4_on_29 : decode cX4_on 29 = .ok (.iadd, 1) := by decide +kernel
theorem dX4_on_30 : decode cX4_on 30 = .ok (.iaload, 1) := by decide +kernel
theorem dX4_on_31 : decode cX4_on 31 = .ok (.if_icmp .lt 5, 3) := by decide +kernel
theorem dX4_on_34 : decode cX4_on 34 = .ok (.iconst (-1), 1) := by decide +kernel
theorem dX4_on_35 : decode cX4_on 35 = .ok (.ireturn, 1) := by decide +kernel
theorem dX4_on_36 : decode cX4_on 36 = .ok (.bipush 120, 2) := by decide +kernel
theorem dX4_on_38 : decode cX4_on 38 = .ok (.iload_n 1, 1) := by decide +kernel
theorem dX4_on_39 : decode cX4_on 39 = .ok (.iconst 1, 1) := by decide +kernel
theorem dX4_on_40 : decode cX4_on 40 = .ok (.iadd, 1) := by decide +kernel
theorem dX4_on_41 : decode cX4_on 41 = .ok (.imul, 1) := by decide +kernel
theorem dX4_on_42 : decode cX4_on 42 = .ok (.aload_n 0, 1) := by decide +kernel
theorem dX4_on_43 : decode cX4_on 43 = .ok (.getfield 27, 3) := by decide +kernel
theorem dX4_on_46 : decode cX4_on 46 = .ok (.iload_n 1, 1) := by decide +kernel
theorem dX4_on_47 : decode cX4_on 47 = .ok (.iaload, 1) := by decide +kernel
theorem dX4_on_48 : decode cX4_on 48 = .ok (.iadd, 1) := by decide +kernel
theorem dX4_on_49 : decode cX4_on 49 = .ok (.ireturn, 1) := by decide +kernel
theorem dX4_key_0 : decode cX4_key 0 = .ok (.aload_n 0, 1) := by decide +kernel
theorem dX4_key_1 : decode cX4_key 1 = .ok (.iconst 0, 1) := by decide +kernel
theorem dX4_key_2 : decode cX4_key 2 = .ok (.putfield 30, 3) := by decide +kernel
theorem dX4_key_5 : decode cX4_key 5 = .ok (.aload_n 0, 1) := by decide +kernel
theorem dX4_key_6 : decode cX4_key 6 = .ok (.iload_n 1, 1) := by decide +kernel
theorem dX4_key_7 : decode cX4_key 7 = .ok (.invokevirtual 74, 3) := by decide +kernel
theorem dX4_key_10 : decode cX4_key 10 = .ok (.istore_n 2, 1) := by decide +kernel
theorem dX4_key_11 : decode cX4_key 11 = .ok (.iload_n 2, 1) := by decide +kernel
theorem dX4_key_12 : decode cX4_key 12 = .ok (.ifCond .ge 7, 3) := by decide +kernel
theorem dX4_key_15 : decode cX4_key 15 = .ok (.lconst 0, 1) := by decide +kernel
theorem dX4_key_16 : decode cX4_key 16 = .ok (.goto 9, 3) := by decide +kernel
theorem dX4_key_19 : decode cX4_key 19 = .ok (.aload_n 0, 1) := by decide +kernel
theorem dX4_key_20 : decode cX4_key 20 = .ok (.getfield 13, 3) := by decide +kernel
theorem dX4_key_23 : decode cX4_key 23 = .ok (.iload_n 2, 1) := by decide +kernel
theorem dX4_key_24 : decode cX4_key 24 = .ok (.laload, 1) := by decide +kernel
theorem dX4_key_25 : decode cX4_key 25 = .ok (.lreturn, 1) := by decide +kernel
theorem dX4_length_0 : decode cX4_length 0 = .ok (.aload_n 0, 1) := by decide +kernel
theorem dX4_length_1 : decode cX4_length 1 = .ok (.iconst 0, 1) := by decide +kernel
theorem dX4_length_2 : decode cX4_length 2 = .ok (.putfield 30, 3) := by decide +kernel
theorem dX4_length_5 : decode cX4_length 5 = .ok (.aload_n 0, 1) := by decide +kernel
theorem dX4_length_6 : decode cX4_length 6 = .ok (.iload_n 1, 1) := by decide +kernel
theorem dX4_length_7 : decode cX4_length 7 = .ok (.invokevirtual 74, 3) := by decide +kernel
theorem dX4_length_10 : decode cX4_length 10 = .ok (.istore_n 2, 1) := by decide +kernel
theorem dX4_length_11 : decode cX4_length 11 = .ok (.iload_n 2, 1) := by decide +kernel
theorem dX4_length_12 : decode cX4_length 12 = .ok (.ifCond .ge 7, 3) := by decide +kernel
theorem dX4_length_15 : decode cX4_length 15 = .ok (.iconst (-1), 1) := by decide +kernel
theorem dX4_length_16 : decode cX4_length 16 = .ok (.goto 9, 3) := by decide +kernel
theorem dX4_length_19 : decode cX4_length 19 = .ok (.aload_n 0, 1) := by decide +kernel
theorem dX4_length_20 : decode cX4_length 20 = .ok (.getfield 17, 3) := by decide +kernel
theorem dX4_length_23 : decode cX4_length 23 = .ok (.iload_n 2, 1) := by decide +kernel
theorem dX4_length_24 : decode cX4_length 24 = .ok (.iaload, 1) := by decide +kernel
theorem dX4_length_25 : decode cX4_length 25 = .ok (.ireturn, 1) := by decide +kernel
theorem dX4_value_0 : decode cX4_value 0 = .ok (.aload_n 0, 1) := by decide +kernel
theorem dX4_value_1 : decode cX4_value 1 = .ok (.iconst 0, 1) := by decide +kernel
theorem dX4_value_2 : decode cX4_value 2 = .ok (.putfield 30, 3) := by decide +kernel
theorem dX4_value_5 : decode cX4_value 5 = .ok (.aload_n 0, 1) := by decide +kernel
theorem dX4_value_6 : decode cX4_value 6 = .ok (.iload_n 1, 1) := by decide +kernel
theorem dX4_value_7 : decode cX4_value 7 = .ok (.invokevirtual 74, 3) := by decide +kernel
theorem dX4_value_10 : decode cX4_value 10 = .ok (.istore_n 2, 1) := by decide +kernel
theorem dX4_value_11 : decode cX4_value 11 = .ok (.iload_n 2, 1) := by decide +kernel
theorem dX4_value_12 : decode cX4_value 12 = .ok (.ifCond .ge 7, 3) := by decide +kernel
theorem dX4_value_15 : decode cX4_value 15 = .ok (.iconst 0, 1) := by decide +kernel
theorem dX4_value_16 : decode cX4_value 16 = .ok (.goto 9, 3) := by decide +kernel
theorem dX4_value_19 : decode cX4_value 19 = .ok (.aload_n 0, 1) := by decide +kernel
theorem dX4_value_20 : decode cX4_value 20 = .ok (.getfield 20, 3) := by decide +kernel
theorem dX4_value_23 : decode cX4_value 23 = .ok (.iload_n 2, 1) := by decide +kernel
theorem dX4_value_24 : decode cX4_value 24 = .ok (.iaload, 1) := by decide +kernel
theorem dX4_value_25 : decode cX4_value 25 = .ok (.ireturn, 1) := by decide +kernel
