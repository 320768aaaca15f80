theorem dJ13_bitCount_95d88_0 : decode cJ13_bitCount_95d88 0 = .ok (.lload_n 0, 1) := by decide +kernel
theorem dJ13_bitCount_95d88_1 : decode cJ13_bitCount_95d88 1 = .ok (.lload_n 0, 1) := by decide +kernel
theorem dJ13_bitCount_95d88_2 : decode cJ13_bitCount_95d88 2 = .ok (.iconst 1, 1) := by decide +kernel
theorem dJ13_bitCount_95d88_3 : decode cJ13_bitCount_95d88 3 = .ok (.lushr, 1) := by decide +kernel
theorem dJ13_bitCount_95d88_4 : decode cJ13_bitCount_95d88 4 = .ok (.ldc2_w 314, 3) := by decide +kernel
theorem dJ13_bitCount_95d88_7 : decode cJ13_bitCount_95d88 7 = .ok (.land, 1) := by decide +kernel
theorem dJ13_bitCount_95d88_8 : decode cJ13_bitCount_95d88 8 = .ok (.lsub, 1) := by decide +kernel
theorem dJ13_bitCount_95d88_9 : decode cJ13_bitCount_95d88 9 = .ok (.lstore_n 0, 1) := by decide +kernel
theorem dJ13_bitCount_95d88_10 : decode cJ13_bitCount_95d88 10 = .ok (.lload_n 0, 1) := by decide +kernel
theorem dJ13_bitCount_95d88_11 : decode cJ13_bitCount_95d88 11 = .ok (.ldc2_w 316, 3) := by decide +kernel
theorem dJ13_bitCount_95d88_14 : decode cJ13_bitCount_95d88 14 = .ok (.land, 1) := by decide +kernel
theorem dJ13_bitCount_95d88_15 : decode cJ13_bitCount_95d88 15 = .ok (.lload_n 0, 1) := by decide +kernel
theorem dJ13_bitCount_95d88_16 : decode cJ13_bitCount_95d88 16 = .ok (.iconst 2, 1) := by decide +kernel
theorem dJ13_bitCount_95d88_17 : decode cJ13_bitCount_95d88 17 = .ok (.lushr, 1) := by decide +kernel
theorem dJ13_bitCount_95d88_18 : decode cJ13_bitCount_95d88 18 = .ok (.ldc2_w 316, 3) := by decide +kernel
theorem dJ13_bitCount_95d88_21 : decode cJ13_bitCount_95d88 21 = .ok (.land, 1) := by decide +kernel
theorem dJ13_bitCount_95d88_22 : decode cJ13_bitCount_95d88 22 = .ok (.ladd, 1) := by decide +kernel
theorem dJ13_bitCount_95d88_23 : decode cJ13_bitCount_95d88 23 = .ok (.lstore_n 0, 1) := by decide +kernel
theorem dJ13_bitCount_95d88_24 : decode cJ13_bitCount_95d88 24 = .ok (.lload_n 0, 1) := by decide +kernel
theorem dJ13_bitCount_95d88_25 : decode cJ13_bitCount_95d88 25 = .ok (.lload_n 0, 1) := by decide +kernel
theorem dJ13_bitCount_95d88_26 : decode cJ13_bitCount_95d88 26 = .ok (.iconst 4, 1) := by decide +kernel
theorem dJ13_bitCount_95d88_27 : decode cJ13_bitCount_95d88 27 = .ok (.lushr, 1) := by decide +kernel
theorem dJ13_bitCount_95d88_28 : decode cJ13_bitCount_95d88 28 = .ok (.ladd, 1) := by decide +kernel
theorem dJ13_bitCount_95d88_29 : decode cJ13_bitCount_95d88 29 = .ok (.ldc2_w 318, 3) := by decide +kernel
theorem dJ13_bitCount_95d88_32 : decode cJ13_bitCount_95d88 32 = .ok (.land, 1) := by decide +kernel
theorem dJ13_bitCount_95d88_33 : decode cJ13_bitCount_95d88 33 = .ok (.lstore_n 0, 1) := by decide +kernel
theorem dJ13_bitCount_95d88_34 : decode cJ13_bitCount_95d88 34 = .ok (.lload_n 0, 1) := by decide +kernel
theorem dJ13_bitCount_95d88_35 : decode cJ13_bitCount_95d88 35 = .ok (.lload_n 0, 1) := by decide +kernel
theorem dJ13_bitCount_95d88_36 : decode cJ13_bitCount_95d88 36 = .ok (.bipush 8, 2) := by decide +kernel
theorem dJ13_bitCount_95d88_38 : decode cJ13_bitCount_95d88 38 = .ok (.lushr, 1) := by decide +kernel
theorem dJ13_bitCount_95d88_39 : decode cJ13_bitCount_95d88 39 = .ok (.ladd, 1) := by decide +kernel
theorem dJ13_bitCount_95d88_40 : decode cJ13_bitCount_95d88 40 = .ok (.lstore_n 0, 1) := by decide +kernel
theorem dJ13_bitCount_95d88_41 : decode cJ13_bitCount_95d88 41 = .ok (.lload_n 0, 1) := by decide +kernel
theorem dJ13_bitCount_95d88_42 : decode cJ13_bitCount_95d88 42 = .ok (.lload_n 0, 1) := by decide +kernel
theorem dJ13_bitCount_95d88_43 : decode cJ13_bitCount_95d88 43 = .ok (.bipush 16, 2) := by decide +kernel
theorem dJ13_bitCount_95d88_45 : decode cJ13_bitCount_95d88 45 = .ok (.lushr, 1) := by decide +kernel
theorem dJ13_bitCount_95d88_46 : decode cJ13_bitCount_95d88 46 = .ok (.ladd, 1) := by decide +kernel
theorem dJ13_bitCount_95d88_47 : decode cJ13_bitCount_95d88 47 = .ok (.lstore_n 0, 1) := by decide +kernel
theorem dJ13_bitCount_95d88_48 : decode cJ13_bitCount_95d88 48 = .ok (.lload_n 0, 1) := by decide +kernel
theorem dJ13_bitCount_95d88_49 : decode cJ13_bitCount_95d88 49 = .ok (.lload_n 0, 1) := by decide +kernel
theorem dJ13_bitCount_95d88_50 : decode cJ13_bitCount_95d88 50 = .ok (.bipush 32, 2) := by decide +kernel
theorem dJ13_bitCount_95d88_52 : decode cJ13_bitCount_95d88 52 = .ok (.lushr, 1) := by decide +kernel
theorem dJ13_bitCount_95d88_53 : decode cJ13_bitCount_95d88 53 = .ok (.ladd, 1) := by decide +kernel
theorem dJ13_bitCount_95d88_54 : decode cJ13_bitCount_95d88 54 = .ok (.lstore_n 0, 1) := by decide +kernel
theorem dJ13_bitCount_95d88_55 : decode cJ13_bitCount_95d88 55 = .ok (.lload_n 0, 1) := by decide +kernel
theorem dJ13_bitCount_95d88_56 : decode cJ13_bitCount_95d88 56 = .ok (.l2i, 1) := by decide +kernel
theorem dJ13_bitCount_95d88_57 : decode cJ13_bitCount_95d88 57 = .ok (.bipush 127, 2) := by decide +kernel
theorem dJ13_bitCount_95d88_59 : decode cJ13_bitCount_95d88 59 = .ok (.iand, 1) := by decide +kernel
theorem dJ13_bitCount_95d88_60 : decode cJ13_bitCount_95d88 60 = .ok (.ireturn, 1) := by decide +kernel
theorem dJ7_fill_d0a16_0 : decode cJ7_fill_d0a16 0 = .ok (.iconst 0, 1) := by decide +kernel
theorem dJ7_fill_d0a16_1 : decode cJ7_fill_d0a16 1 = .ok (.istore_n 3, 1) := by decide +kernel
theorem dJ7_fill_d0a16_2 : decode cJ7_fill_d0a16 2 = .ok (.aload_n 0, 1) := by decide +kernel
theorem dJ7_fill_d0a16_3 : decode cJ7_fill_d0a16 3 = .ok (.arraylength, 1) := by decide +kernel
theorem dJ7_fill_d0a16_4 : decode cJ7_fill_d0a16 4 = .ok (.istore 4, 2) := by decide +kernel
theorem dJ7_fill_d0a16_6 : decode cJ7_fill_d0a16 6 = .ok (.iload_n 3, 1) := by decide +kernel
theorem dJ7_fill_d0a16_7 : decode cJ7_fill_d0a16 7 = .ok (.iload 4, 2) := by decide +kernel
theorem dJ7_fill_d0a16_9 : decode cJ7_fill_d0a16 9 = .ok (.if_icmp .ge 13, 3) := by decide +kernel
theorem dJ7_fill_d0a16_12 : decode cJ7_fill_d0a16 12 = .ok (.aload_n 0, 1) := by decide +kernel
theorem dJ7_fill_d0a16_13 : decode cJ7_fill_d0a16 13 = .ok (.iload_n 3, 1) := by decide +kernel
theorem dJ7_fill_d0a16_14 : decode cJ7_fill_d0a16 14 = .ok (.lload_n 1, 1) := by decide +kernel
theorem dJ7_fill_d0a16_15 : decode cJ7_fill_d0a16 15 = .ok (.lastore, 1) := by decide +kernel
theorem dJ7_fill_d0a16_16 : decode cJ7_fill_d0a16 16 = .ok (.iinc 3 1, 3) := by decide +kernel
theorem dJ7_fill_d0a16_19 : decode cJ7_fill_d0a16 19 = .ok (.goto (-13), 3) := by decide +kernel
theorem dJ7_fill_d0a16_22 : decode cJ7_fill_d0a16 22 = .ok (.return_, 1) := by decide +kernel
theorem dJ7_fill_53178_0 : decode cJ7_fill_53178 0 = .ok (.iconst 0, 1) := by decide +kernel
theorem dJ7_fill_53178_1 : decode cJ7_fill_53178 1 = .ok (.istore_n 2, 1) := by decide +kernel
theorem dJ7_fill_53178_2 : decode cJ7_fill_53178 2 = .ok (.aload_n 0, 1) := by decide +kernel
theorem dJ7_fill_53178_3 : decode cJ7_fill_53178 3 = .ok (.arraylength, 1) := by decide +kernel
theorem dJ7_fill_53178_4 : decode cJ7_fill_53178 4 = .ok (.istore_n 3, 1) := by decide +kernel
theorem dJ7_fill_53178_5 : decode cJ7_fill_53178 5 = .ok (.iload_n 2, 1) := by decide +kernel
theorem dJ7_fill_53178_6 : decode cJ7_fill_53178 6 = .ok (.iload_n 3, 1) := by decide +kernel
theorem dJ7_fill_53178_7 : decode cJ7_fill_53178 7 = .ok (.if_icmp .ge 13, 3) := by decide +kernel
theorem dJ7_fill_53178_10 : decode cJ7_fill_53178 10 = .ok (.aload_n 0, 1) := by decide +kernel
theorem dJ7_fill_53178_11 : decode cJ7_fill_53178 11 = .ok (.iload_n 2, 1) := by decide +kernel
theorem dJ7_fill_53178_12 : decode cJ7_fill_53178 12 = .ok (.iload_n 1, 1) := by decide +kernel
theorem dJ7_fill_53178_13 : decode cJ7_fill_53178 13 = .ok (.iastore, 1) := by decide +kernel
theorem dJ7_fill_53178_14 : decode cJ7_fill_53178 14 = .ok (.iinc 2 1, 3) := by decide +kernel
theorem dJ7_fill_53178_17 : decode cJ7_fill_53178 17 = .ok (.goto (-12), 3) := by decide +kernel
theorem dJ7_fill_53178_20 : decode cJ7_fill_53178 20 = .ok (.return_, 1) := by decide +kernel
theorem dX0_init_0 : decode cX0_init 0 = .ok (.aload_n 0, 1) := by decide +kernel
theorem dX0_init_1 : decode cX0_init 1 = .ok (.invokespecial 3, 3) := by decide +kernel
theorem dX0_init_4 : decode cX0_init 4 = .ok (.aload_n 0, 1) := by decide +kernel
theorem dX0_init_5 : decode cX0_init 5 = .ok (.bipush 8, 2) := by decide +kernel
theorem dX0_init_7 : decode cX0_init 7 = .ok (.newarray .long, 2) := by decide +kernel
theorem dX0_init_9 : decode cX0_init 9 = .ok (.putfield 11, 3) := by decide +kernel
theorem dX0_init_12 : decode cX0_init 12 = .ok (.return_, 1) := by decide +kernel
theorem dX0_empty_0 : decode cX0_empty 0 = .ok (.aload_n 0, 1) := by decide +kernel
theorem dX0_empty_1 : decode cX0_empty 1 = .ok (.getfield 11, 3) := by decide +kernel
theorem dX0_empty_4 : decode cX0_empty 4 = .ok (.lconst 0, 1) := by decide +kernel
theorem dX0_empty_5 : decode cX0_empty 5 = .ok (.invokestatic 15, 3) := by decide +kernel
theorem dX0_empty_8 : decode cX0_empty 8 = .ok (.return_, 1) := by decide +kernel
theorem dX0_isEmpty_0 : decode cX0_isEmpty 0 = .ok (.lconst 0, 1) := by decide +kernel
theorem dX0_isEmpty_1 : decode cX0_isEmpty 1 = .ok (.lstore_n 1, 1) := by decide +kernel
theorem dX0_isEmpty_2 : decode cX0_isEmpty 2 = .ok (.iconst 0, 1) := by decide +kernel
theorem dX0_isEmpty_3 : decode cX0_isEmpty 3 = .ok (.istore_n 3, 1) := by decide +kernel
theorem dX0_isEmpty_4 : decode cX0_isEmpty 4 = .ok (.iload_n 3, 1) := by decide +kernel
theorem dX0_isEmpty_5 : decode cX0_isEmpty 5 = .ok (.bipush 8, 2) := by decide +kernel
theorem dX0_isEmpty_7 : decode cX0_isEmpty 7 = .ok (.if_icmp .ge 18, 3) := by decide +kernel
theorem dX0_isEmpty_10 : decode cX0_isEmpty 10 = .ok (.lload_n 1, 1) := by decide +kernel
theorem dX0_isEmpty_11 : decode cX0_isEmpty 11 = .ok (.aload_n 0, 1) := by decide +kernel
theorem dX0_isEmpty_12 : decode cX0_isEmpty 12 = .ok (.getfield 11, 3) := by decide +kernel
theorem dX0_isEmpty_15 : decode cX0_isEmpty 15 = .ok (.iload_n 3, 1) := by decide +kernel
theorem dX0_isEmpty_16 : decode cX0_isEmpty 16 = .ok (.laload, 1) := by decide +kernel
theorem dX0_isEmpty_17 : decode cX0_isEmpty 17 = .ok (.lor, 1) := by decide +kernel
theorem dX0_isEmpty_18 : decode cX0_isEmpty 18 = .ok (.lstore_n 1, 1) := by decide +kernel
theorem dX0_isEmpty_19 : decode cX0_isEmpty 19 = .ok (.iinc 3 1, 3) := by decide +kernel
theorem dX0_isEmpty_22 : decode cX0_isEmpty 22 = .ok (.goto (-18), 3) := by decide +kernel
theorem dX0_isEmpty_25 : decode cX0_isEmpty 25 = .ok (.lload_n 1, 1) := by decide +kernel
theorem dX0_isEmpty_26 : decode cX0_isEmpty 26 = .ok (.lconst 0, 1) := by decide +kernel
theorem dX0_isEmpty_27 : decode cX0_isEmpty 27 = .ok (.lcmp, 1) := by decide +kernel
theorem dX0_isEmpty_28 : decode cX0_isEmpty 28 = .ok (.ifCond .ne 7, 3) := by decide +kernel
theorem dX0_isEmpty_31 : decode cX0_isEmpty 31 = .ok (.iconst 1, 1) := by decide +kernel
theorem dX0_isEmpty_32 : decode cX0_isEmpty 32 = .ok (.goto 4, 3) := by decide +kernel
theorem dX0_isEmpty_35 : decode cX0_isEmpty 35 = .ok (.iconst 0, 1) := by decide +kernel
theorem dX0_isEmpty_36 : decode cX0_isEmpty 36 = .ok (.ireturn, 1) := by decide +kernel
theorem dX0_size_0 : decode cX0_size 0 = .ok (.iconst 0, 1) := by decide +kernel
theorem dX0_size_1 : decode cX0_size 1 = .ok (.istore_n 1, 1) := by decide +kernel
theorem dX0_size_2 : decode cX0_size 2 = .ok (.iconst 0, 1) := by decide +kernel
theorem dX0_size_3 : decode cX0_size 3 = .ok (.istore_n 2, 1) := by decide +kernel
theorem dX0_size_4 : decode cX0_size 4 = .ok (.iload_n 2, 1) := by decide +kernel
theorem dX0_size_5 : decode cX0_size 5 = .ok (.bipush 8, 2) := by decide +kernel
theorem dX0_size_7 : decode cX0_size 7 = .ok (.if_icmp .ge 21, 3) := by decide +kernel
theorem dX0_size_10 : decode cX0_size 10 = .ok (.iload_n 1, 1) := by decide +kernel
theorem dX0_size_11 : decode cX0_size 11 = .ok (.aload_n 0, 1) := by decide +kernel
theorem dX0_size_12 : decode cX0_size 12 = .ok (.getfield 11, 3) := by decide +kernel
theorem dX0_size_15 : decode cX0_size 15 = .ok (.iload_n 2, 1) := by decide +kernel
theorem dX0_size_16 : decode cX0_size 16 = .ok (.laload, 1) := by decide +kernel
theorem dX0_size_17 : decode cX0_size 17 = .ok (.invokestatic 21, 3) := by decide +kernel
theorem dX0_size_20 : decode cX0_size 20 = .ok (.iadd, 1) := by decide +kernel
theorem dX0_size_21 : decode cX0_size 21 = .ok (.istore_n 1, 1) := by decide +kernel
theorem dX0_size_22 : decode cX0_size 22 = .ok (.iinc 2 1, 3) := by decide +kernel
theorem dX0_size_25 : decode cX0_size 25 = .ok (.goto (-21), 3) := by decide +kernel
theorem dX0_size_28 : decode cX0_size 28 = .ok (.iload_n 1, 1) := by decide +kernel
theorem dX0_size_29 : decode cX0_size 29 = .ok (.ireturn, 1) := by decide +kernel
theorem dX0_holds_0 : decode cX0_holds 0 = .ok (.aload_n 0, 1) := by decide +kernel
theorem dX0_holds_1 : decode cX0_holds 1 = .ok (.getfield 11, 3) := by decide +kernel
theorem dX0_holds_4 : decode cX0_holds 4 = .ok (.iload_n 1, 1) := by decide +kernel
theorem dX0_holds_5 : decode cX0_holds 5 = .ok (.bipush 6, 2) := by decide +kernel
theorem dX0_holds_7 : decode cX0_holds 7 = .ok (.ishr, 1) := by decide +kernel
theorem dX0_holds_8 : decode cX0_holds 8 = .ok (.laload, 1) := by decide +kernel
theorem dX0_holds_9 : decode cX0_holds 9 = .ok (.iload_n 1, 1) := by decide +kernel
theorem dX0_holds_10 : decode cX0_holds 10 = .ok (.bipush 63, 2) := by decide +kernel
theorem dX0_holds_12 : decode cX0_holds 12 = .ok (.iand, 1) := by decide +kernel
theorem dX0_holds_13 : decode cX0_holds 13 = .ok (.lushr, 1) := by decide +kernel
theorem dX0_holds_14 : decode cX0_holds 14 = .ok (.lconst 1, 1) := by decide +kernel
theorem dX0_holds_15 : decode cX0_holds 15 = .ok (.land, 1) := by decide +kernel
theorem dX0_holds_16 : decode cX0_holds 16 = .ok (.lconst 0, 1) := by decide +kernel
theorem dX0_holds_17 : decode cX0_holds 17 = .ok (.lcmp, 1) := by decide +kernel
theorem dX0_holds_18 : decode cX0_holds 18 = .ok (.ifCond .eq 7, 3) := by decide +kernel
theorem dX0_holds_21 : decode cX0_holds 21 = .ok (.iconst 1, 1) := by decide +kernel
theorem dX0_holds_22 : decode cX0_holds 22 = .ok (.goto 4, 3) := by decide +kernel
theorem dX0_holds_25 : decode cX0_holds 25 = .ok (.iconst 0, 1) := by decide +kernel
theorem dX0_holds_26 : decode cX0_holds 26 = .ok (.ireturn, 1) := by decide +kernel
theorem dX0_add_0 : decode cX0_add 0 = .ok (.aload_n 0, 1) := by decide +kernel
theorem dX0_add_1 : decode cX0_add 1 = .ok (.getfield 11, 3) := by decide +kernel
theorem dX0_add_4 : decode cX0_add 4 = .ok (.iload_n 1, 1) := by decide +kernel
theorem dX0_add_5 : decode cX0_add 5 = .ok (.bipush 6, 2) := by decide +kernel
theorem dX0_add_7 : decode cX0_add 7 = .ok (.ishr, 1) := by decide +kernel
theorem dX0_add_8 : decode cX0_add 8 = .ok (.dup2, 1) := by decide +kernel
theorem dX0_add_9 : decode cX0_add 9 = .ok (.laload, 1) := by decide +kernel
theorem dX0_add_10 : decode cX0_add 10 = .ok (.lconst 1, 1) := by decide +kernel
theorem dX0_add_11 : decode cX0_add 11 = .ok (.iload_n 1, 1) := by decide +kernel
theorem dX0_add_12 : decode cX0_add 12 = .ok (.bipush 63, 2) := by decide +kernel
theorem dX0_add_14 : decode cX0_add 14 = .ok (.iand, 1) := by decide +kernel
theorem dX0_add_15 : decode cX0_add 15 = .ok (.lshl, 1) := by decide +kernel
theorem dX0_add_16 : decode cX0_add 16 = .ok (.lor, 1) := by decide +kernel
theorem dX0_add_17 : decode cX0_add 17 = .ok (.lastore, 1) := by decide +kernel
theorem dX0_add_18 : decode cX0_add 18 = .ok (.return_, 1) := by decide +kernel
theorem dX0_at_0 : decode cX0_at 0 = .ok (.iconst 0, 1) := by decide +kernel
theorem dX0_at_1 : decode cX0_at 1 = .ok (.istore_n 2, 1) := by decide +kernel
theorem dX0_at_2 : decode cX0_at 2 = .ok (.iconst 0, 1) := by decide +kernel
theorem dX0_at_3 : decode cX0_at 3 = .ok (.istore_n 3, 1) := by decide +kernel
theorem dX0_at_4 : decode cX0_at 4 = .ok (.iload_n 3, 1) := by decide +kernel
theorem dX0_at_5 : decode cX0_at 5 = .ok (.sipush 512, 3) := by decide +kernel
theorem dX0_at_8 : decode cX0_at 8 = .ok (.if_icmp .ge 27, 3) := by decide +kernel
theorem dX0_at_11 : decode cX0_at 11 = .ok (.aload_n 0, 1) := by decide +kernel
theorem dX0_at_12 : decode cX0_at 12 = .ok (.iload_n 3, 1) := by decide +kernel
theorem dX0_at_13 : decode cX0_at 13 = .ok (.invokevirtual 27, 3) := by decide +kernel
theorem dX0_at_16 : decode cX0_at 16 = .ok (.ifCond .eq 13, 3) := by decide +kernel
theorem dX0_at_19 : decode cX0_at 19 = .ok (.iload_n 2, 1) := by decide +kernel
theorem dX0_at_20 : decode cX0_at 20 = .ok (.iload_n 1, 1) := by decide +kernel
theorem dX0_at_21 : decode cX0_at 21 = .ok (.if_icmp .ne 5, 3) := by decide +kernel
theorem dX0_at_24 : decode cX0_at 24 = .ok (.iload_n 3, 1) := by decide +kernel
theorem dX0_at_25 : decode cX0_at 25 = .ok (.ireturn, 1) := by decide +kernel
theorem dX0_at_26 : decode cX0_at 26 = .ok (.iinc 2 1, 3) := by decide +kernel
theorem dX0_at_29 : decode cX0_at 29 = .ok (.iinc 3 1, 3) := by decide +kernel
theorem dX0_at_32 : decode cX0_at 32 = .ok (.goto (-28), 3) := by decide +kernel
theorem dX0_at_35 : decode cX0_at 35 = .ok (.iconst (-1), 1) := by decide +kernel
theorem dX0_at_36 : decode cX0_at 36 = .ok (.ireturn, 1) := by decide +kernel
theorem dX0_become_0 : decode cX0_become 0 = .ok (.aload_n 1, 1) := by decide +kernel
theorem dX0_become_1 : decode cX0_become 1 = .ok (.getfield 11, 3) := by decide +kernel
theorem dX0_become_4 : decode cX0_become 4 = .ok (.iconst 0, 1) := by decide +kernel
theorem dX0_become_5 : decode cX0_become 5 = .ok (.aload_n 0, 1) := by decide +kernel
theorem dX0_become_6 : decode cX0_become 6 = .ok (.getfield 11, 3) := by decide +kernel
theorem dX0_become_9 : decode cX0_become 9 = .ok (.iconst 0, 1) := by decide +kernel
theorem dX0_become_10 : decode cX0_become 10 = .ok (.bipush 8, 2) := by decide +kernel
theorem dX0_become_12 : decode cX0_become 12 = .ok (.invokestatic 31, 3) := by decide +kernel
theorem dX0_become_15 : decode cX0_become 15 = .ok (.return_, 1) := by decide +kernel
theorem dX0_addAll_0 : decode cX0_addAll 0 = .ok (.iconst 0, 1) := by decide +kernel
theorem dX0_addAll_1 : decode cX0_addAll 1 = .ok (.istore_n 2, 1) := by decide +kernel
theorem dX0_addAll_2 : decode cX0_addAll 2 = .ok (.iload_n 2, 1) := by decide +kernel
theorem dX0_addAll_3 : decode cX0_addAll 3 = .ok (.bipush 8, 2) := by decide +kernel
theorem dX0_addAll_5 : decode cX0_addAll 5 = .ok (.if_icmp .ge 24, 3) := by decide +kernel
theorem dX0_addAll_8 : decode cX0_addAll 8 = .ok (.aload_n 0, 1) := by decide +kernel
theorem dX0_addAll_9 : decode cX0_addAll 9 = .ok (.getfield 11, 3) := by decide +kernel
theorem dX0_addAll_12 : decode cX0_addAll 12 = .ok (.iload_n 2, 1) := by decide +kernel
theorem dX0_addAll_13 : decode cX0_addAll 13 = .ok (.dup2, 1) := by decide +kernel
theorem dX0_addAll_14 : decode cX0_addAll 14 = .ok (.laload, 1) := by decide +kernel
theorem dX0_addAll_15 : decode cX0_addAll 15 = .ok (.aload_n 1, 1) := by decide +kernel
theorem dX0_addAll_16 : decode cX0_addAll 16 = .ok (.getfield 11, 3) := by decide +kernel
theorem dX0_addAll_19 : decode cX0_addAll 19 = .ok (.iload_n 2, 1) := by decide +kernel
theorem dX0_addAll_20 : decode cX0_addAll 20 = .ok (.laload, 1) := by decide +kernel
theorem dX0_addAll_21 : decode cX0_addAll 21 = .ok (.lor, 1) := by decide +kernel
theorem dX0_addAll_22 : decode cX0_addAll 22 = .ok (.lastore, 1) := by decide +kernel
theorem dX0_addAll_23 : decode cX0_addAll 23 = .ok (.iinc 2 1, 3) := by decide +kernel
theorem dX0_addAll_26 : decode cX0_addAll 26 = .ok (.goto (-24), 3) := by decide +kernel
theorem dX0_addAll_29 : decode cX0_addAll 29 = .ok (.return_, 1) := by decide +kernel
theorem dX0_removeAll_0 : decode cX0_removeAll 0 = .ok (.iconst 0, 1) := by decide +kernel
theorem dX0_removeAll_1 : decode cX0_removeAll 1 = .ok (.istore_n 2, 1) := by decide +kernel
theorem dX0_removeAll_2 : decode cX0_removeAll 2 = .ok (.iload_n 2, 1) := by decide +kernel
theorem dX0_removeAll_3 : decode cX0_removeAll 3 = .ok (.bipush 8, 2) := by decide +kernel
theorem dX0_removeAll_5 : decode cX0_removeAll 5 = .ok (.if_icmp .ge 28, 3) := by decide +kernel
theorem dX0_removeAll_8 : decode cX0_removeAll 8 = .ok (.aload_n 0, 1) := by decide +kernel
theorem dX0_removeAll_9 : decode cX0_removeAll 9 = .ok (.getfield 11, 3) := by decide +kernel
theorem dX0_removeAll_12 : decode cX0_removeAll 12 = .ok (.iload_n 2, 1) := by decide +kernel
theorem dX0_removeAll_13 : decode cX0_removeAll 13 = .ok (.dup2, 1) := by decide +kernel
theorem dX0_removeAll_14 : decode cX0_removeAll 14 = .ok (.laload, 1) := by decide +kernel
theorem dX0_removeAll_15 : decode cX0_removeAll 15 = .ok (.aload_n 1, 1) := by decide +kernel
theorem dX0_removeAll_16 : decode cX0_removeAll 16 = .ok (.getfield 11, 3) := by decide +kernel
theorem dX0_removeAll_19 : decode cX0_removeAll 19 = .ok (.iload_n 2, 1) := by decide +kernel
theorem dX0_removeAll_20 : decode cX0_removeAll 20 = .ok (.laload, 1) := by decide +kernel
theorem dX0_removeAll_21 : decode cX0_removeAll 21 = .ok (.ldc2_w 37, 3) := by decide +kernel
theorem dX0_removeAll_24 : decode cX0_removeAll 24 = .ok (.lxor, 1) := by decide +kernel
theorem dX0_removeAll_25 : decode cX0_removeAll 25 = .ok (.land, 1) := by decide +kernel
theorem dX0_removeAll_26 : decode cX0_removeAll 26 = .ok (.lastore, 1) := by decide +kernel
theorem dX0_removeAll_27 : decode cX0_removeAll 27 = .ok (.iinc 2 1, 3) := by decide +kernel
theorem dX0_removeAll_30 : decode cX0_removeAll 30 = .ok (.goto (-28), 3) := by decide +kernel
theorem dX0_removeAll_33 : decode cX0_removeAll 33 = .ok (.return_, 1) := by decide +kernel
theorem dX0_addSums_0 : decode cX0_addSums 0 = .ok (.iconst 0, 1) := by decide +kernel
theorem dX0_addSums_1 : decode cX0_addSums 1 = .ok (.istore_n 3, 1) := by decide +kernel
theorem dX0_addSums_2 : decode cX0_addSums 2 = .ok (.iload_n 3, 1) := by decide +kernel
theorem dX0_addSums_3 : decode cX0_addSums 3 = .ok (.bipush 8, 2) := by decide +kernel
theorem dX0_addSums_5 : decode cX0_addSums 5 = .ok (.if_icmp .ge 60, 3) := by decide +kernel
theorem dX0_addSums_8 : decode cX0_addSums 8 = .ok (.aload_n 1, 1) := by decide +kernel
theorem dX0_addSums_9 : decode cX0_addSums 9 = .ok (.getfield 11, 3) := by decide +kernel
theorem dX0_addSums_12 : decode cX0_addSums 12 = .ok (.iload_n 3, 1) := by decide +kernel
theorem dX0_addSums_13 : decode cX0_addSums 13 = .ok (.laload, 1) := by decide +kernel
theorem dX0_addSums_14 : decode cX0_addSums 14 = .ok (.lstore 4, 2) := by decide +kernel
theorem dX0_addSums_16 : decode cX0_addSums 16 = .ok (.iconst 0, 1) := by decide +kernel
theorem dX0_addSums_17 : decode cX0_addSums 17 = .ok (.istore 6, 2) := by decide +kernel
theorem dX0_addSums_19 : decode cX0_addSums 19 = .ok (.iload 6, 2) := by decide +kernel
theorem dX0_addSums_21 : decode cX0_addSums 21 = .ok (.bipush 64, 2) := by decide +kernel
theorem dX0_addSums_23 : decode cX0_addSums 23 = .ok (.if_icmp .ge 36, 3) := by decide +kernel
theorem dX0_addSums_26 : decode cX0_addSums 26 = .ok (.lload 4, 2) := by decide +kernel
theorem dX0_addSums_28 : decode cX0_addSums 28 = .ok (.lconst 0, 1) := by decide +kernel
theorem dX0_addSums_29 : decode cX0_addSums 29 = .ok (.lcmp, 1) := by decide +kernel
theorem dX0_addSums_30 : decode cX0_addSums 30 = .ok (.ifCond .eq 29, 3) := by decide +kernel
theorem dX0_addSums_33 : decode cX0_addSums 33 = .ok (.lload 4, 2) := by decide +kernel
theorem dX0_addSums_35 : decode cX0_addSums 35 = .ok (.iload 6, 2) := by decide +kernel
theorem dX0_addSums_37 : decode cX0_addSums 37 = .ok (.lushr, 1) := by decide +kernel
theorem dX0_addSums_38 : decode cX0_addSums 38 = .ok (.lconst 1, 1) := by decide +kernel
theorem dX0_addSums_39 : decode cX0_addSums 39 = .ok (.land, 1) := by decide +kernel
theorem dX0_addSums_40 : decode cX0_addSums 40 = .ok (.lconst 0, 1) := by decide +kernel
theorem dX0_addSums_41 : decode cX0_addSums 41 = .ok (.lcmp, 1) := by decide +kernel
theorem dX0_addSums_42 : decode cX0_addSums 42 = .ok (.ifCond .eq 11, 3) := by decide +kernel
theorem dX0_addSums_45 : decode cX0_addSums 45 = .ok (.aload_n 0, 1) := by decide +kernel
theorem dX0_addSums_46 : decode cX0_addSums 46 = .ok (.aload_n 2, 1) := by decide +kernel
theorem dX0_addSums_47 : decode cX0_addSums 47 = .ok (.iload_n 3, 1) := by decide +kernel
theorem dX0_addSums_48 : decode cX0_addSums 48 = .ok (.iload 6, 2) := by decide +kernel
theorem dX0_addSums_50 : decode cX0_addSums 50 = .ok (.invokevirtual 39, 3) := by decide +kernel
theorem dX0_addSums_53 : decode cX0_addSums 53 = .ok (.iinc 6 1, 3) := by decide +kernel
theorem dX0_addSums_56 : decode cX0_addSums 56 = .ok (.goto (-37), 3) := by decide +kernel
theorem dX0_addSums_59 : decode cX0_addSums 59 = .ok (.iinc 3 1, 3) := by decide +kernel
theorem dX0_addSums_62 : decode cX0_addSums 62 = .ok (.goto (-60), 3) := by decide +kernel
theorem dX0_addSums_65 : decode cX0_addSums 65 = .ok (.return_, 1) := by decide +kernel
theorem dX0_addMoved_0 : decode cX0_addMoved 0 = .ok (.ldc2_w 43, 3) := by decide +kernel
theorem dX0_addMoved_3 : decode cX0_addMoved 3 = .ok (.sipush 255, 3) := by decide +kernel
theorem dX0_addMoved_6 : decode cX0_addMoved 6 = .ok (.iload_n 3, 1) := by decide +kernel
theorem dX0_addMoved_7 : decode cX0_addMoved 7 = .ok (.bipush 7, 2) := by decide +kernel
theorem dX0_addMoved_9 : decode cX0_addMoved 9 = .ok (.iand, 1) := by decide +kernel
theorem dX0_addMoved_10 : decode cX0_addMoved 10 = .ok (.iushr, 1) := by decide +kernel
theorem dX0_addMoved_11 : decode cX0_addMoved 11 = .ok (.i2l, 1) := by decide +kernel
theorem dX0_addMoved_12 : decode cX0_addMoved 12 = .ok (.lmul, 1) := by decide +kernel
theorem dX0_addMoved_13 : decode cX0_addMoved 13 = .ok (.lstore 4, 2) := by decide +kernel
theorem dX0_addMoved_15 : decode cX0_addMoved 15 = .ok (.iconst 0, 1) := by decide +kernel
theorem dX0_addMoved_16 : decode cX0_addMoved 16 = .ok (.istore 6, 2) := by decide +kernel
theorem dX0_addMoved_18 : decode cX0_addMoved 18 = .ok (.iload 6, 2) := by decide +kernel
theorem dX0_addMoved_20 : decode cX0_addMoved 20 = .ok (.iload_n 2, 1) := by decide +kernel
theorem dX0_addMoved_21 : decode cX0_addMoved 21 = .ok (.iadd, 1) := by decide +kernel
theorem dX0_addMoved_22 : decode cX0_addMoved 22 = .ok (.bipush 8, 2) := by decide +kernel
theorem dX0_addMoved_24 : decode cX0_addMoved 24 = .ok (.if_icmp .ge 33, 3) := by decide +kernel
theorem dX0_addMoved_27 : decode cX0_addMoved 27 = .ok (.aload_n 0, 1) := by decide +kernel
theorem dX0_addMoved_28 : decode cX0_addMoved 28 = .ok (.getfield 11, 3) := by decide +kernel
theorem dX0_addMoved_31 : decode cX0_addMoved 31 = .ok (.iload 6, 2) := by decide +kernel
theorem dX0_addMoved_33 : decode cX0_addMoved 33 = .ok (.iload_n 2, 1) := by decide +kernel
theorem dX0_addMoved_34 : decode cX0_addMoved 34 = .ok (.iadd, 1) := by decide +kernel
theorem dX0_addMoved_35 : decode cX0_addMoved 35 = .ok (.dup2, 1) := by decide +kernel
theorem dX0_addMoved_36 : decode cX0_addMoved 36 = .ok (.laload, 1) := by decide +kernel
theorem dX0_addMoved_37 : decode cX0_addMoved 37 = .ok (.aload_n 1, 1) := by decide +kernel
theorem dX0_addMoved_38 : decode cX0_addMoved 38 = .ok (.getfield 11, 3) := by decide +kernel
theorem dX0_addMoved_41 : decode cX0_addMoved 41 = .ok (.iload 6, 2) := by decide +kernel
theorem dX0_addMoved_43 : decode cX0_addMoved 43 = .ok (.laload, 1) := by decide +kernel
theorem dX0_addMoved_44 : decode cX0_addMoved 44 = .ok (.lload 4, 2) := by decide +kernel
theorem dX0_addMoved_46 : decode cX0_addMoved 46 = .ok (.land, 1) := by decide +kernel
theorem dX0_addMoved_47 : decode cX0_addMoved 47 = .ok (.iload_n 3, 1) := by decide +kernel
theorem dX0_addMoved_48 : decode cX0_addMoved 48 = .ok (.lshl, 1) := by decide +kernel
theorem dX0_addMoved_49 : decode cX0_addMoved 49 = .ok (.lor, 1) := by decide +kernel
theorem dX0_addMoved_50 : decode cX0_addMoved 50 = .ok (.lastore, 1) := by decide +kernel
theorem dX0_addMoved_51 : decode cX0_addMoved 51 = .ok (.iinc 6 1, 3) := by decide +kernel
theorem dX0_addMoved_54 : decode cX0_addMoved 54 = .ok (.goto (-36), 3) := by decide +kernel
theorem dX0_addMoved_57 : decode cX0_addMoved 57 = .ok (.return_, 1) := by decide +kernel
theorem dX1_init_0 : decode cX1_init 0 = .ok (.aload_n 0, 1) := by decide +kernel
theorem dX1_init_1 : decode cX1_init 1 = .ok (.invokespecial 3, 3) := by decide +kernel
theorem dX1_init_4 : decode cX1_init 4 = .ok (.aload_n 0, 1) := by decide +kernel
theorem dX1_init_5 : decode cX1_init 5 = .ok (.new 9, 3) := by decide +kernel
theorem dX1_init_8 : decode cX1_init 8 = .ok (.dup, 1) := by decide +kernel
theorem dX1_init_9 : decode cX1_init 9 = .ok (.invokespecial 11, 3) := by decide +kernel
theorem dX1_init_12 : decode cX1_init 12 = .ok (.putfield 12, 3) := by decide +kernel
theorem dX1_init_15 : decode cX1_init 15 = .ok (.aload_n 0, 1) := by decide +kernel
theorem dX1_init_16 : decode cX1_init 16 = .ok (.new 9, 3) := by decide +kernel
theorem dX1_init_19 : decode cX1_init 19 = .ok (.dup, 1) := by decide +kernel
theorem dX1_init_20 : decode cX1_init 20 = .ok (.invokespecial 11, 3) := by decide +kernel
theorem dX1_init_23 : decode cX1_init 23 = .ok (.putfield 18, 3) := by decide +kernel
theorem dX1_init_26 : decode cX1_init 26 = .ok (.aload_n 0, 1) := by decide +kernel
theorem dX1_init_27 : decode cX1_init 27 = .ok (.sipush 512, 3) := by decide +kernel
theorem dX1_init_30 : decode cX1_init 30 = .ok (.newarray .int, 2) := by decide +kernel
theorem dX1_init_32 : decode cX1_init 32 = .ok (.putfield 21, 3) := by decide +kernel
theorem dX1_init_35 : decode cX1_init 35 = .ok (.return_, 1) := by decide +kernel
theorem dX1_forget_0 : decode cX1_forget 0 = .ok (.aload_n 0, 1) := by decide +kernel
theorem dX1_forget_1 : decode cX1_forget 1 = .ok (.getfield 12, 3) := by decide +kernel
theorem dX1_forget_4 : decode cX1_forget 4 = .ok (.invokevirtual 25, 3) := by decide +kernel
theorem dX1_forget_7 : decode cX1_forget 7 = .ok (.aload_n 0, 1) := by decide +kernel
theorem dX1_forget_8 : decode cX1_forget 8 = .ok (.getfield 18, 3) := by decide +kernel
theorem dX1_forget_11 : decode cX1_forget 11 = .ok (.invokevirtual 25, 3) := by decide +kernel
theorem dX1_forget_14 : decode cX1_forget 14 = .ok (.aload_n 0, 1) := by decide +kernel
theorem dX1_forget_15 : decode cX1_forget 15 = .ok (.getfield 21, 3) := by decide +kernel
theorem dX1_forget_18 : decode cX1_forget 18 = .ok (.ldc 28, 2) := by decide +kernel
theorem dX1_forget_20 : decode cX1_forget 20 = .ok (.invokestatic 29, 3) := by decide +kernel
theorem dX1_forget_23 : decode cX1_forget 23 = .ok (.return_, 1) := by decide +kernel
theorem dX1_growLetters_0 : decode cX1_growLetters 0 = .ok (.aload_n 0, 1) := by decide +kernel
theorem dX1_growLetters_1 : decode cX1_growLetters 1 = .ok (.getfield 18, 3) := by decide +kernel
theorem dX1_growLetters_4 : decode cX1_growLetters 4 = .ok (.invokevirtual 25, 3) := by decide +kernel
theorem dX1_growLetters_7 : decode cX1_growLetters 7 = .ok (.aload_n 0, 1) := by decide +kernel
theorem dX1_growLetters_8 : decode cX1_growLetters 8 = .ok (.getfield 18, 3) := by decide +kernel
theorem dX1_growLetters_11 : decode cX1_growLetters 11 = .ok (.iload_n 1, 1) := by decide +kernel
theorem dX1_growLetters_12 : decode cX1_growLetters 12 = .ok (.invokevirtual 35, 3) := by decide +kernel
theorem dX1_growLetters_15 : decode cX1_growLetters 15 = .ok (.aload_n 0, 1) := by decide +kernel
theorem dX1_growLetters_16 : decode cX1_growLetters 16 = .ok (.iload_n 2, 1) := by decide +kernel
theorem dX1_growLetters_17 : decode cX1_growLetters 17 = .ok (.invokevirtual 39, 3) := by decide +kernel
theorem dX1_growLetters_20 : decode cX1_growLetters 20 = .ok (.return_, 1) := by decide +kernel
theorem dX1_grow_0 : decode cX1_grow 0 = .ok (.aload_n 0, 1) := by decide +kernel
theorem dX1_grow_1 : decode cX1_grow 1 = .ok (.getfield 18, 3) := by decide +kernel
theorem dX1_grow_4 : decode cX1_grow 4 = .ok (.invokevirtual 25, 3) := by decide +kernel
theorem dX1_grow_7 : decode cX1_grow 7 = .ok (.aload_n 0, 1) := by decide +kernel
theorem dX1_grow_8 : decode cX1_grow 8 = .ok (.getfield 18, 3) := by decide +kernel
theorem dX1_grow_11 : decode cX1_grow 11 = .ok (.aload_n 1, 1) := by decide +kernel
theorem dX1_grow_12 : decode cX1_grow 12 = .ok (.getfield 42, 3) := by decide +kernel
theorem dX1_grow_15 : decode cX1_grow 15 = .ok (.aload_n 2, 1) := by decide +kernel
theorem dX1_grow_16 : decode cX1_grow 16 = .ok (.getfield 12, 3) := by decide +kernel
theorem dX1_grow_19 : decode cX1_grow 19 = .ok (.invokevirtual 45, 3) := by decide +kernel
theorem dX1_grow_22 : decode cX1_grow 22 = .ok (.aload_n 0, 1) := by decide +kernel
theorem dX1_grow_23 : decode cX1_grow 23 = .ok (.getfield 18, 3) := by decide +kernel
theorem dX1_grow_26 : decode cX1_grow 26 = .ok (.aload_n 2, 1) := by decide +kernel
theorem dX1_grow_27 : decode cX1_grow 27 = .ok (.getfield 18, 3) := by decide +kernel
theorem dX1_grow_30 : decode cX1_grow 30 = .ok (.aload_n 1, 1) := by decide +kernel
theorem dX1_grow_31 : decode cX1_grow 31 = .ok (.getfield 49, 3) := by decide +kernel
theorem dX1_grow_34 : decode cX1_grow 34 = .ok (.invokevirtual 45, 3) := by decide +kernel
theorem dX1_grow_37 : decode cX1_grow 37 = .ok (.aload_n 0, 1) := by decide +kernel
theorem dX1_grow_38 : decode cX1_grow 38 = .ok (.iload_n 3, 1) := by decide +kernel
theorem dX1_grow_39 : decode cX1_grow 39 = .ok (.invokevirtual 39, 3) := by decide +kernel
theorem dX1_grow_42 : decode cX1_grow 42 = .ok (.return_, 1) := by decide +kernel
theorem dX1_takeNewest_0 : decode cX1_takeNewest 0 = .ok (.aload_n 0, 1) := by decide +kernel
theorem dX1_takeNewest_1 : decode cX1_takeNewest 1 = .ok (.getfield 18, 3) := by decide +kernel
theorem dX1_takeNewest_4 : decode cX1_takeNewest 4 = .ok (.aload_n 0, 1) := by decide +kernel
theorem dX1_takeNewest_5 : decode cX1_takeNewest 5 = .ok (.getfield 12, 3) := by decide +kernel
theorem dX1_takeNewest_8 : decode cX1_takeNewest 8 = .ok (.invokevirtual 52, 3) := by decide +kernel
theorem dX1_takeNewest_11 : decode cX1_takeNewest 11 = .ok (.aload_n 0, 1) := by decide +kernel
theorem dX1_takeNewest_12 : decode cX1_takeNewest 12 = .ok (.getfield 18, 3) := by decide +kernel
theorem dX1_takeNewest_15 : decode cX1_takeNewest 15 = .ok (.invokevirtual 56, 3) := by decide +kernel
theorem dX1_takeNewest_18 : decode cX1_takeNewest 18 = .ok (.ifCond .eq 4, 3) := by decide +kernel
theorem dX1_takeNewest_21 : decode cX1_takeNewest 21 = .ok (.return_, 1) := by decide +kernel
theorem dX1_takeNewest_22 : decode cX1_takeNewest 22 = .ok (.aload_n 0, 1) := by decide +kernel
theorem dX1_takeNewest_23 : decode cX1_takeNewest 23 = .ok (.getfield 12, 3) := by decide +kernel
theorem dX1_takeNewest_26 : decode cX1_takeNewest 26 = .ok (.aload_n 0, 1) := by decide +kernel
theorem dX1_takeNewest_27 : decode cX1_takeNewest 27 = .ok (.getfield 18, 3) := by decide +kernel
theorem dX1_takeNewest_30 : decode cX1_takeNewest 30 = .ok (.invokevirtual 60, 3) := by decide +kernel
theorem dX1_takeNewest_33 : decode cX1_takeNewest 33 = .ok (.iconst 0, 1) := by decide +kernel
theorem dX1_takeNewest_34 : decode cX1_takeNewest 34 = .ok (.istore_n 2, 1) := by decide +kernel
theorem dX1_takeNewest_35 : decode cX1_takeNewest 35 = .ok (.iload_n 2, 1) := by decide +kernel
theorem dX1_takeNewest_36 : decode cX1_takeNewest 36 = .ok (.sipush 512, 3) := by decide +kernel
theorem dX1_takeNewest_39 : decode cX1_takeNewest 39 = .ok (.if_icmp .ge 27, 3) := by decide +kernel
theorem dX1_takeNewest_42 : decode cX1_takeNewest 42 = .ok (.aload_n 0, 1) := by decide +kernel
theorem dX1_takeNewest_43 : decode cX1_takeNewest 43 = .ok (.getfield 18, 3) := by decide +kernel
theorem dX1_takeNewest_46 : decode cX1_takeNewest 46 = .ok (.iload_n 2, 1) := by decide +kernel
theorem dX1_takeNewest_47 : decode cX1_takeNewest 47 = .ok (.invokevirtual 63, 3) := by decide +kernel
theorem dX1_takeNewest_50 : decode cX1_takeNewest 50 = .ok (.ifCond .eq 10, 3) := by decide +kernel
theorem dX1_takeNewest_53 : decode cX1_takeNewest 53 = .ok (.aload_n 0, 1) := by decide +kernel
theorem dX1_takeNewest_54 : decode cX1_takeNewest 54 = .ok (.getfield 21, 3) := by decide +kernel
theorem dX1_takeNewest_57 : decode cX1_takeNewest 57 = .ok (.iload_n 2, 1) := by decide +kernel
theorem dX1_takeNewest_58 : decode cX1_takeNewest 58 = .ok (.iload_n 1, 1) := by decide +kernel
theorem dX1_takeNewest_59 : decode cX1_takeNewest 59 = .ok (.iastore, 1) := by decide +kernel
theorem dX1_takeNewest_60 : decode cX1_takeNewest 60 = .ok (.iinc 2 1, 3) := by decide +kernel
theorem dX1_takeNewest_63 : decode cX1_takeNewest 63 = .ok (.goto (-28), 3) := by decide +kernel
theorem dX1_takeNewest_66 : decode cX1_takeNewest 66 = .ok (.return_, 1) := by decide +kernel
theorem dX2_init_0 : decode cX2_init 0 = .ok (.aload_n 0, 1) := by decide +kernel
theorem dX2_init_1 : decode cX2_init 1 = .ok (.invokespecial 3, 3) := by decide +kernel
theorem dX2_init_4 : decode cX2_init 4 = .ok (.aload_n 0, 1) := by decide +kernel
theorem dX2_init_5 : decode cX2_init 5 = .ok (.new 9, 3) := by decide +kernel
theorem dX2_init_8 : decode cX2_init 8 = .ok (.dup, 1) := by decide +kernel
theorem dX2_init_9 : decode cX2_init 9 = .ok (.invokespecial 11, 3) := by decide +kernel
theorem dX2_init_12 : decode cX2_init 12 = .ok (.putfield 12, 3) := by decide +kernel
theorem dX2_init_15 : decode cX2_init 15 = .ok (.aload_n 0, 1) := by decide +kernel
theorem dX2_init_16 : decode cX2_init 16 = .ok (.new 9, 3) := by decide +kernel
theorem dX2_init_19 : decode cX2_init 19 = .ok (.dup, 1) := by decide +kernel
theorem dX2_init_20 : decode cX2_init 20 = .ok (.invokespecial 11, 3) := by decide +kernel
theorem dX2_init_23 : decode cX2_init 23 = .ok (.putfield 18, 3) := by decide +kernel
theorem dX2_init_26 : decode cX2_init 26 = .ok (.aload_n 0, 1) := by decide +kernel
theorem dX2_init_27 : decode cX2_init 27 = .ok (.new 9, 3) := by decide +kernel
theorem dX2_init_30 : decode cX2_init 30 = .ok (.dup, 1) := by decide +kernel
theorem dX2_init_31 : decode cX2_init 31 = .ok (.invokespecial 11, 3) := by decide +kernel
theorem dX2_init_34 : decode cX2_init 34 = .ok (.putfield 21, 3) := by decide +kernel
theorem dX2_init_37 : decode cX2_init 37 = .ok (.aload_n 0, 1) := by decide +kernel
theorem dX2_init_38 : decode cX2_init 38 = .ok (.sipush 512, 3) := by decide +kernel
theorem dX2_init_41 : decode cX2_init 41 = .ok (.newarray .int, 2) := by decide +kernel
theorem dX2_init_43 : decode cX2_init 43 = .ok (.putfield 24, 3) := by decide +kernel
theorem dX2_init_46 : decode cX2_init 46 = .ok (.aload_n 0, 1) := by decide +kernel
theorem dX2_init_47 : decode cX2_init 47 = .ok (.sipush 512, 3) := by decide +kernel
theorem dX2_init_50 : decode cX2_init 50 = .ok (.newarray .int, 2) := by decide +kernel
theorem dX2_init_52 : decode cX2_init 52 = .ok (.putfield 28, 3) := by decide +kernel
theorem dX2_init_55 : decode cX2_init 55 = .ok (.return_, 1) := by decide +kernel
theorem dX2_forget_0 : decode cX2_forget 0 = .ok (.aload_n 0, 1) := by decide +kernel
theorem dX2_forget_1 : decode cX2_forget 1 = .ok (.getfield 12, 3) := by decide +kernel
theorem dX2_forget_4 : decode cX2_forget 4 = .ok (.invokevirtual 31, 3) := by decide +kernel
theorem dX2_forget_7 : decode cX2_forget 7 = .ok (.aload_n 0, 1) := by decide +kernel
theorem dX2_forget_8 : decode cX2_forget 8 = .ok (.getfield 18, 3) := by decide +kernel
theorem dX2_forget_11 : decode cX2_forget 11 = .ok (.invokevirtual 31, 3) := by decide +kernel
theorem dX2_forget_14 : decode cX2_forget 14 = .ok (.aload_n 0, 1) := by decide +kernel
theorem dX2_forget_15 : decode cX2_forget 15 = .ok (.getfield 21, 3) := by decide +kernel
theorem dX2_forget_18 : decode cX2_forget 18 = .ok (.invokevirtual 31, 3) := by decide +kernel
theorem dX2_forget_21 : decode cX2_forget 21 = .ok (.aload_n 0, 1) := by decide +kernel
theorem dX2_forget_22 : decode cX2_forget 22 = .ok (.getfield 24, 3) := by decide +kernel
theorem dX2_forget_25 : decode cX2_forget 25 = .ok (.ldc 34, 2) := by decide +kernel
theorem dX2_forget_27 : decode cX2_forget 27 = .ok (.invokestatic 35, 3) := by decide +kernel
theorem dX2_forget_30 : decode cX2_forget 30 = .ok (.return_, 1) := by decide +kernel
theorem dX2_find_0 : decode cX2_find 0 = .ok (.aload_n 1, 1) := by decide +kernel
theorem dX2_find_1 : decode cX2_find 1 = .ok (.invokevirtual 41, 3) := by decide +kernel
theorem dX2_find_4 : decode cX2_find 4 = .ok (.ifCond .eq 4, 3) := by decide +kernel
theorem dX2_find_7 : decode cX2_find 7 = .ok (.return_, 1) := by decide +kernel
theorem dX2_find_8 : decode cX2_find 8 = .ok (.iconst 0, 1) := by decide +kernel
theorem dX2_find_9 : decode cX2_find 9 = .ok (.istore 4, 2) := by decide +kernel
theorem dX2_find_11 : decode cX2_find 11 = .ok (.iload 4, 2) := by decide +kernel
theorem dX2_find_13 : decode cX2_find 13 = .ok (.sipush 512, 3) := by decide +kernel
theorem dX2_find_16 : decode cX2_find 16 = .ok (.if_icmp .ge 55, 3) := by decide +kernel
theorem dX2_find_19 : decode cX2_find 19 = .ok (.aload_n 1, 1) := by decide +kernel
theorem dX2_find_20 : decode cX2_find 20 = .ok (.iload 4, 2) := by decide +kernel
theorem dX2_find_22 : decode cX2_find 22 = .ok (.invokevirtual 45, 3) := by decide +kernel
theorem dX2_find_25 : decode cX2_find 25 = .ok (.ifCond .eq 40, 3) := by decide +kernel
theorem dX2_find_28 : decode cX2_find 28 = .ok (.aload_n 0, 1) := by decide +kernel
theorem dX2_find_29 : decode cX2_find 29 = .ok (.getfield 24, 3) := by decide +kernel
theorem dX2_find_32 : decode cX2_find 32 = .ok (.iload 4, 2) := by decide +kernel
theorem dX2_find_34 : decode cX2_find 34 = .ok (.iaload, 1) := by decide +kernel
theorem dX2_find_35 : decode cX2_find 35 = .ok (.ldc 34, 2) := by decide +kernel
theorem dX2_find_37 : decode cX2_find 37 = .ok (.if_icmp .ne 28, 3) := by decide +kernel
theorem dX2_find_40 : decode cX2_find 40 = .ok (.aload_n 0, 1) := by decide +kernel
theorem dX2_find_41 : decode cX2_find 41 = .ok (.getfield 24, 3) := by decide +kernel
theorem dX2_find_44 : decode cX2_find 44 = .ok (.iload 4, 2) := by decide +kernel
theorem dX2_find_46 : decode cX2_find 46 = .ok (.iload_n 3, 1) := by decide +kernel
theorem dX2_find_47 : decode cX2_find 47 = .ok (.iastore, 1) := by decide +kernel
theorem dX2_find_48 : decode cX2_find 48 = .ok (.aload_n 0, 1) := by decide +kernel
theorem dX2_find_49 : decode cX2_find 49 = .ok (.getfield 28, 3) := by decide +kernel
theorem dX2_find_52 : decode cX2_find 52 = .ok (.iload 4, 2) := by decide +kernel
theorem dX2_find_54 : decode cX2_find 54 = .ok (.iload_n 2, 1) := by decide +kernel
theorem dX2_find_55 : decode cX2_find 55 = .ok (.iastore, 1) := by decide +kernel
theorem dX2_find_56 : decode cX2_find 56 = .ok (.aload_n 0, 1) := by decide +kernel
theorem dX2_find_57 : decode cX2_find 57 = .ok (.getfield 21, 3) := by decide +kernel
theorem dX2_find_60 : decode cX2_find 60 = .ok (.iload 4, 2) := by decide +kernel
theorem dX2_find_62 : decode cX2_find 62 = .ok (.invokevirtual 49, 3) := by decide +kernel
theorem dX2_find_65 : decode cX2_find 65 = .ok (.iinc 4 1, 3) := by decide +kernel
theorem dX2_find_68 : decode cX2_find 68 = .ok (.goto (-57), 3) := by decide +kernel
theorem dX2_find_71 : decode cX2_find 71 = .ok (.return_, 1) := by decide +kernel
theorem dX2_endRound_0 : decode cX2_endRound 0 = .ok (.aload_n 0, 1) := by decide +kernel
theorem dX2_endRound_1 : decode cX2_endRound 1 = .ok (.getfield 18, 3) := by decide +kernel
theorem dX2_endRound_4 : decode cX2_endRound 4 = .ok (.aload_n 0, 1) := by decide +kernel
theorem dX2_endRound_5 : decode cX2_endRound 5 = .ok (.getfield 21, 3) := by decide +kernel
theorem dX2_endRound_8 : decode cX2_endRound 8 = .ok (.invokevirtual 53, 3) := by decide +kernel
theorem dX2_endRound_11 : decode cX2_endRound 11 = .ok (.aload_n 0, 1) := by decide +kernel
theorem dX2_endRound_12 : decode cX2_endRound 12 = .ok (.getfield 12, 3) := by decide +kernel
theorem dX2_endRound_15 : decode cX2_endRound 15 = .ok (.aload_n 0, 1) := by decide +kernel
theorem dX2_endRound_16 : decode cX2_endRound 16 = .ok (.getfield 21, 3) := by decide +kernel
theorem dX2_endRound_19 : decode cX2_endRound 19 = .ok (.invokevirtual 57, 3) := by decide +kernel
theorem dX2_endRound_22 : decode cX2_endRound 22 = .ok (.aload_n 0, 1) := by decide +kernel
theorem dX2_endRound_23 : decode cX2_endRound 23 = .ok (.getfield 21, 3) := by decide +kernel
theorem dX2_endRound_26 : decode cX2_endRound 26 = .ok (.invokevirtual 31, 3) := by decide +kernel
theorem dX2_endRound_29 : decode cX2_endRound 29 = .ok (.return_, 1) := by decide +kernel
