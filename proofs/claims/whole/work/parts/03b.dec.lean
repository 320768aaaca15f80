theorem dX3_init_0 : decode cX3_init 0 = .ok (.aload_n 0, 1) := by decide +kernel
theorem dX3_init_1 : decode cX3_init 1 = .ok (.invokespecial 3, 3) := by decide +kernel
theorem dX3_init_4 : decode cX3_init 4 = .ok (.aload_n 0, 1) := by decide +kernel
theorem dX3_init_5 : decode cX3_init 5 = .ok (.iconst 0, 1) := by decide +kernel
theorem dX3_init_6 : decode cX3_init 6 = .ok (.putfield 9, 3) := by decide +kernel
theorem dX3_init_9 : decode cX3_init 9 = .ok (.aload_n 0, 1) := by decide +kernel
theorem dX3_init_10 : decode cX3_init 10 = .ok (.iconst 0, 1) := by decide +kernel
theorem dX3_init_11 : decode cX3_init 11 = .ok (.putfield 15, 3) := by decide +kernel
theorem dX3_init_14 : decode cX3_init 14 = .ok (.aload_n 0, 1) := by decide +kernel
theorem dX3_init_15 : decode cX3_init 15 = .ok (.iconst 0, 1) := by decide +kernel
theorem dX3_init_16 : decode cX3_init 16 = .ok (.putfield 18, 3) := by decide +kernel
theorem dX3_init_19 : decode cX3_init 19 = .ok (.aload_n 0, 1) := by decide +kernel
theorem dX3_init_20 : decode cX3_init 20 = .ok (.iconst 0, 1) := by decide +kernel
theorem dX3_init_21 : decode cX3_init 21 = .ok (.putfield 21, 3) := by decide +kernel
theorem dX3_init_24 : decode cX3_init 24 = .ok (.aload_n 0, 1) := by decide +kernel
theorem dX3_init_25 : decode cX3_init 25 = .ok (.iconst 4, 1) := by decide +kernel
theorem dX3_init_26 : decode cX3_init 26 = .ok (.newarray .int, 2) := by decide +kernel
theorem dX3_init_28 : decode cX3_init 28 = .ok (.putfield 24, 3) := by decide +kernel
theorem dX3_init_31 : decode cX3_init 31 = .ok (.aload_n 0, 1) := by decide +kernel
theorem dX3_init_32 : decode cX3_init 32 = .ok (.iconst 5, 1) := by decide +kernel
theorem dX3_init_33 : decode cX3_init 33 = .ok (.anewarray 28, 3) := by decide +kernel
theorem dX3_init_36 : decode cX3_init 36 = .ok (.putfield 30, 3) := by decide +kernel
theorem dX3_init_39 : decode cX3_init 39 = .ok (.iconst 0, 1) := by decide +kernel
theorem dX3_init_40 : decode cX3_init 40 = .ok (.istore_n 1, 1) := by decide +kernel
theorem dX3_init_41 : decode cX3_init 41 = .ok (.iload_n 1, 1) := by decide +kernel
theorem dX3_init_42 : decode cX3_init 42 = .ok (.iconst 4, 1) := by decide +kernel
theorem dX3_init_43 : decode cX3_init 43 = .ok (.if_icmp .gt 22, 3) := by decide +kernel
theorem dX3_init_46 : decode cX3_init 46 = .ok (.aload_n 0, 1) := by decide +kernel
theorem dX3_init_47 : decode cX3_init 47 = .ok (.getfield 30, 3) := by decide +kernel
theorem dX3_init_50 : decode cX3_init 50 = .ok (.iload_n 1, 1) := by decide +kernel
theorem dX3_init_51 : decode cX3_init 51 = .ok (.new 28, 3) := by decide +kernel
theorem dX3_init_54 : decode cX3_init 54 = .ok (.dup, 1) := by decide +kernel
theorem dX3_init_55 : decode cX3_init 55 = .ok (.invokespecial 34, 3) := by decide +kernel
theorem dX3_init_58 : decode cX3_init 58 = .ok (.aastore, 1) := by decide +kernel
theorem dX3_init_59 : decode cX3_init 59 = .ok (.iinc 1 1, 3) := by decide +kernel
theorem dX3_init_62 : decode cX3_init 62 = .ok (.goto (-21), 3) := by decide +kernel
theorem dX3_init_65 : decode cX3_init 65 = .ok (.return_, 1) := by decide +kernel
theorem dX3_begin_0 : decode cX3_begin 0 = .ok (.aload_n 0, 1) := by decide +kernel
theorem dX3_begin_1 : decode cX3_begin 1 = .ok (.iload_n 1, 1) := by decide +kernel
theorem dX3_begin_2 : decode cX3_begin 2 = .ok (.putfield 9, 3) := by decide +kernel
theorem dX3_begin_5 : decode cX3_begin 5 = .ok (.aload_n 0, 1) := by decide +kernel
theorem dX3_begin_6 : decode cX3_begin 6 = .ok (.iconst 0, 1) := by decide +kernel
theorem dX3_begin_7 : decode cX3_begin 7 = .ok (.putfield 15, 3) := by decide +kernel
theorem dX3_begin_10 : decode cX3_begin 10 = .ok (.aload_n 0, 1) := by decide +kernel
theorem dX3_begin_11 : decode cX3_begin 11 = .ok (.iconst 0, 1) := by decide +kernel
theorem dX3_begin_12 : decode cX3_begin 12 = .ok (.putfield 18, 3) := by decide +kernel
theorem dX3_begin_15 : decode cX3_begin 15 = .ok (.aload_n 0, 1) := by decide +kernel
theorem dX3_begin_16 : decode cX3_begin 16 = .ok (.iconst 0, 1) := by decide +kernel
theorem dX3_begin_17 : decode cX3_begin 17 = .ok (.putfield 21, 3) := by decide +kernel
theorem dX3_begin_20 : decode cX3_begin 20 = .ok (.return_, 1) := by decide +kernel
theorem dX3_append_0 : decode cX3_append 0 = .ok (.iload_n 1, 1) := by decide +kernel
theorem dX3_append_1 : decode cX3_append 1 = .ok (.iconst 5, 1) := by decide +kernel
theorem dX3_append_2 : decode cX3_append 2 = .ok (.if_icmp .lt 22, 3) := by decide +kernel
theorem dX3_append_5 : decode cX3_append 5 = .ok (.aload_n 0, 1) := by decide +kernel
theorem dX3_append_6 : decode cX3_append 6 = .ok (.dup, 1) := by decide +kernel
theorem dX3_append_7 : decode cX3_append 7 = .ok (.getfield 18, 3) := by decide +kernel
theorem dX3_append_10 : decode cX3_append 10 = .ok (.iconst 1, 1) := by decide +kernel
theorem dX3_append_11 : decode cX3_append 11 = .ok (.iconst 3, 1) := by decide +kernel
theorem dX3_append_12 : decode cX3_append 12 = .ok (.iload_n 1, 1) := by decide +kernel
theorem dX3_append_13 : decode cX3_append 13 = .ok (.iconst 5, 1) := by decide +kernel
theorem dX3_append_14 : decode cX3_append 14 = .ok (.isub, 1) := by decide +kernel
theorem dX3_append_15 : decode cX3_append 15 = .ok (.imul, 1) := by decide +kernel
theorem dX3_append_16 : decode cX3_append 16 = .ok (.ishl, 1) := by decide +kernel
theorem dX3_append_17 : decode cX3_append 17 = .ok (.iadd, 1) := by decide +kernel
theorem dX3_append_18 : decode cX3_append 18 = .ok (.putfield 18, 3) := by decide +kernel
theorem dX3_append_21 : decode cX3_append 21 = .ok (.goto 36, 3) := by decide +kernel
theorem dX3_append_24 : decode cX3_append 24 = .ok (.iload_n 1, 1) := by decide +kernel
theorem dX3_append_25 : decode cX3_append 25 = .ok (.iconst (-1), 1) := by decide +kernel
theorem dX3_append_26 : decode cX3_append 26 = .ok (.if_icmp .eq 31, 3) := by decide +kernel
theorem dX3_append_29 : decode cX3_append 29 = .ok (.aload_n 0, 1) := by decide +kernel
theorem dX3_append_30 : decode cX3_append 30 = .ok (.getfield 21, 3) := by decide +kernel
theorem dX3_append_33 : decode cX3_append 33 = .ok (.iconst 4, 1) := by decide +kernel
theorem dX3_append_34 : decode cX3_append 34 = .ok (.if_icmp .ge 23, 3) := by decide +kernel
theorem dX3_append_37 : decode cX3_append 37 = .ok (.aload_n 0, 1) := by decide +kernel
theorem dX3_append_38 : decode cX3_append 38 = .ok (.getfield 24, 3) := by decide +kernel
theorem dX3_append_41 : decode cX3_append 41 = .ok (.aload_n 0, 1) := by decide +kernel
theorem dX3_append_42 : decode cX3_append 42 = .ok (.getfield 21, 3) := by decide +kernel
theorem dX3_append_45 : decode cX3_append 45 = .ok (.iload_n 1, 1) := by decide +kernel
theorem dX3_append_46 : decode cX3_append 46 = .ok (.iastore, 1) := by decide +kernel
theorem dX3_append_47 : decode cX3_append 47 = .ok (.aload_n 0, 1) := by decide +kernel
theorem dX3_append_48 : decode cX3_append 48 = .ok (.dup, 1) := by decide +kernel
theorem dX3_append_49 : decode cX3_append 49 = .ok (.getfield 21, 3) := by decide +kernel
theorem dX3_append_52 : decode cX3_append 52 = .ok (.iconst 1, 1) := by decide +kernel
theorem dX3_append_53 : decode cX3_append 53 = .ok (.iadd, 1) := by decide +kernel
theorem dX3_append_54 : decode cX3_append 54 = .ok (.putfield 21, 3) := by decide +kernel
theorem dX3_append_57 : decode cX3_append 57 = .ok (.return_, 1) := by decide +kernel
theorem dX3_lettersOf_0 : decode cX3_lettersOf 0 = .ok (.aload_n 0, 1) := by decide +kernel
theorem dX3_lettersOf_1 : decode cX3_lettersOf 1 = .ok (.getfield 18, 3) := by decide +kernel
theorem dX3_lettersOf_4 : decode cX3_lettersOf 4 = .ok (.iconst 3, 1) := by decide +kernel
theorem dX3_lettersOf_5 : decode cX3_lettersOf 5 = .ok (.iload_n 1, 1) := by decide +kernel
theorem dX3_lettersOf_6 : decode cX3_lettersOf 6 = .ok (.imul, 1) := by decide +kernel
theorem dX3_lettersOf_7 : decode cX3_lettersOf 7 = .ok (.ishr, 1) := by decide +kernel
theorem dX3_lettersOf_8 : decode cX3_lettersOf 8 = .ok (.bipush 7, 2) := by decide +kernel
theorem dX3_lettersOf_10 : decode cX3_lettersOf 10 = .ok (.iand, 1) := by decide +kernel
theorem dX3_lettersOf_11 : decode cX3_lettersOf 11 = .ok (.ireturn, 1) := by decide +kernel
theorem dX3_timesOf_0 : decode cX3_timesOf 0 = .ok (.iconst 0, 1) := by decide +kernel
theorem dX3_timesOf_1 : decode cX3_timesOf 1 = .ok (.istore_n 2, 1) := by decide +kernel
theorem dX3_timesOf_2 : decode cX3_timesOf 2 = .ok (.iconst 0, 1) := by decide +kernel
theorem dX3_timesOf_3 : decode cX3_timesOf 3 = .ok (.istore_n 3, 1) := by decide +kernel
theorem dX3_timesOf_4 : decode cX3_timesOf 4 = .ok (.iload_n 3, 1) := by decide +kernel
theorem dX3_timesOf_5 : decode cX3_timesOf 5 = .ok (.aload_n 0, 1) := by decide +kernel
theorem dX3_timesOf_6 : decode cX3_timesOf 6 = .ok (.getfield 21, 3) := by decide +kernel
theorem dX3_timesOf_9 : decode cX3_timesOf 9 = .ok (.if_icmp .ge 22, 3) := by decide +kernel
theorem dX3_timesOf_12 : decode cX3_timesOf 12 = .ok (.aload_n 0, 1) := by decide +kernel
theorem dX3_timesOf_13 : decode cX3_timesOf 13 = .ok (.getfield 24, 3) := by decide +kernel
theorem dX3_timesOf_16 : decode cX3_timesOf 16 = .ok (.iload_n 3, 1) := by decide +kernel
theorem dX3_timesOf_17 : decode cX3_timesOf 17 = .ok (.iaload, 1) := by decide +kernel
theorem dX3_timesOf_18 : decode cX3_timesOf 18 = .ok (.iload_n 1, 1) := by decide +kernel
theorem dX3_timesOf_19 : decode cX3_timesOf 19 = .ok (.if_icmp .ne 6, 3) := by decide +kernel
theorem dX3_timesOf_22 : decode cX3_timesOf 22 = .ok (.iinc 2 1, 3) := by decide +kernel
theorem dX3_timesOf_25 : decode cX3_timesOf 25 = .ok (.iinc 3 1, 3) := by decide +kernel
theorem dX3_timesOf_28 : decode cX3_timesOf 28 = .ok (.goto (-24), 3) := by decide +kernel
theorem dX3_timesOf_31 : decode cX3_timesOf 31 = .ok (.iload_n 2, 1) := by decide +kernel
theorem dX3_timesOf_32 : decode cX3_timesOf 32 = .ok (.ireturn, 1) := by decide +kernel
theorem dX3_nonterminalBits_0 : decode cX3_nonterminalBits 0 = .ok (.iconst 0, 1) := by decide +kernel
theorem dX3_nonterminalBits_1 : decode cX3_nonterminalBits 1 = .ok (.istore_n 1, 1) := by decide +kernel
theorem dX3_nonterminalBits_2 : decode cX3_nonterminalBits 2 = .ok (.iconst 0, 1) := by decide +kernel
theorem dX3_nonterminalBits_3 : decode cX3_nonterminalBits 3 = .ok (.istore_n 2, 1) := by decide +kernel
theorem dX3_nonterminalBits_4 : decode cX3_nonterminalBits 4 = .ok (.iload_n 2, 1) := by decide +kernel
theorem dX3_nonterminalBits_5 : decode cX3_nonterminalBits 5 = .ok (.aload_n 0, 1) := by decide +kernel
theorem dX3_nonterminalBits_6 : decode cX3_nonterminalBits 6 = .ok (.getfield 21, 3) := by decide +kernel
theorem dX3_nonterminalBits_9 : decode cX3_nonterminalBits 9 = .ok (.if_icmp .ge 20, 3) := by decide +kernel
theorem dX3_nonterminalBits_12 : decode cX3_nonterminalBits 12 = .ok (.iload_n 1, 1) := by decide +kernel
theorem dX3_nonterminalBits_13 : decode cX3_nonterminalBits 13 = .ok (.iconst 1, 1) := by decide +kernel
theorem dX3_nonterminalBits_14 : decode cX3_nonterminalBits 14 = .ok (.aload_n 0, 1) := by decide +kernel
theorem dX3_nonterminalBits_15 : decode cX3_nonterminalBits 15 = .ok (.getfield 24, 3) := by decide +kernel
theorem dX3_nonterminalBits_18 : decode cX3_nonterminalBits 18 = .ok (.iload_n 2, 1) := by decide +kernel
theorem dX3_nonterminalBits_19 : decode cX3_nonterminalBits 19 = .ok (.iaload, 1) := by decide +kernel
theorem dX3_nonterminalBits_20 : decode cX3_nonterminalBits 20 = .ok (.ishl, 1) := by decide +kernel
theorem dX3_nonterminalBits_21 : decode cX3_nonterminalBits 21 = .ok (.ior, 1) := by decide +kernel
theorem dX3_nonterminalBits_22 : decode cX3_nonterminalBits 22 = .ok (.istore_n 1, 1) := by decide +kernel
theorem dX3_nonterminalBits_23 : decode cX3_nonterminalBits 23 = .ok (.iinc 2 1, 3) := by decide +kernel
theorem dX3_nonterminalBits_26 : decode cX3_nonterminalBits 26 = .ok (.goto (-22), 3) := by decide +kernel
theorem dX3_nonterminalBits_29 : decode cX3_nonterminalBits 29 = .ok (.iload_n 1, 1) := by decide +kernel
theorem dX3_nonterminalBits_30 : decode cX3_nonterminalBits 30 = .ok (.ireturn, 1) := by decide +kernel
theorem dX3_forget_0 : decode cX3_forget 0 = .ok (.iconst 0, 1) := by decide +kernel
theorem dX3_forget_1 : decode cX3_forget 1 = .ok (.istore_n 1, 1) := by decide +kernel
theorem dX3_forget_2 : decode cX3_forget 2 = .ok (.iload_n 1, 1) := by decide +kernel
theorem dX3_forget_3 : decode cX3_forget 3 = .ok (.aload_n 0, 1) := by decide +kernel
theorem dX3_forget_4 : decode cX3_forget 4 = .ok (.getfield 21, 3) := by decide +kernel
theorem dX3_forget_7 : decode cX3_forget 7 = .ok (.if_icmp .gt 18, 3) := by decide +kernel
theorem dX3_forget_10 : decode cX3_forget 10 = .ok (.aload_n 0, 1) := by decide +kernel
theorem dX3_forget_11 : decode cX3_forget 11 = .ok (.getfield 30, 3) := by decide +kernel
theorem dX3_forget_14 : decode cX3_forget 14 = .ok (.iload_n 1, 1) := by decide +kernel
theorem dX3_forget_15 : decode cX3_forget 15 = .ok (.aaload, 1) := by decide +kernel
theorem dX3_forget_16 : decode cX3_forget 16 = .ok (.invokevirtual 35, 3) := by decide +kernel
theorem dX3_forget_19 : decode cX3_forget 19 = .ok (.iinc 1 1, 3) := by decide +kernel
theorem dX3_forget_22 : decode cX3_forget 22 = .ok (.goto (-20), 3) := by decide +kernel
theorem dX3_forget_25 : decode cX3_forget 25 = .ok (.return_, 1) := by decide +kernel
theorem dX3_grow_0 : decode cX3_grow 0 = .ok (.aload_n 0, 1) := by decide +kernel
theorem dX3_grow_1 : decode cX3_grow 1 = .ok (.getfield 30, 3) := by decide +kernel
theorem dX3_grow_4 : decode cX3_grow 4 = .ok (.aload_n 0, 1) := by decide +kernel
theorem dX3_grow_5 : decode cX3_grow 5 = .ok (.getfield 21, 3) := by decide +kernel
theorem dX3_grow_8 : decode cX3_grow 8 = .ok (.aaload, 1) := by decide +kernel
theorem dX3_grow_9 : decode cX3_grow 9 = .ok (.aload_n 0, 1) := by decide +kernel
theorem dX3_grow_10 : decode cX3_grow 10 = .ok (.getfield 18, 3) := by decide +kernel
theorem dX3_grow_13 : decode cX3_grow 13 = .ok (.iload_n 2, 1) := by decide +kernel
theorem dX3_grow_14 : decode cX3_grow 14 = .ok (.invokevirtual 38, 3) := by decide +kernel
theorem dX3_grow_17 : decode cX3_grow 17 = .ok (.aload_n 0, 1) := by decide +kernel
theorem dX3_grow_18 : decode cX3_grow 18 = .ok (.getfield 21, 3) := by decide +kernel
theorem dX3_grow_21 : decode cX3_grow 21 = .ok (.iconst 1, 1) := by decide +kernel
theorem dX3_grow_22 : decode cX3_grow 22 = .ok (.isub, 1) := by decide +kernel
theorem dX3_grow_23 : decode cX3_grow 23 = .ok (.istore_n 3, 1) := by decide +kernel
theorem dX3_grow_24 : decode cX3_grow 24 = .ok (.iload_n 3, 1) := by decide +kernel
theorem dX3_grow_25 : decode cX3_grow 25 = .ok (.ifCond .lt 35, 3) := by decide +kernel
theorem dX3_grow_28 : decode cX3_grow 28 = .ok (.aload_n 0, 1) := by decide +kernel
theorem dX3_grow_29 : decode cX3_grow 29 = .ok (.getfield 30, 3) := by decide +kernel
theorem dX3_grow_32 : decode cX3_grow 32 = .ok (.iload_n 3, 1) := by decide +kernel
theorem dX3_grow_33 : decode cX3_grow 33 = .ok (.aaload, 1) := by decide +kernel
theorem dX3_grow_34 : decode cX3_grow 34 = .ok (.aload_n 1, 1) := by decide +kernel
theorem dX3_grow_35 : decode cX3_grow 35 = .ok (.aload_n 0, 1) := by decide +kernel
theorem dX3_grow_36 : decode cX3_grow 36 = .ok (.getfield 24, 3) := by decide +kernel
theorem dX3_grow_39 : decode cX3_grow 39 = .ok (.iload_n 3, 1) := by decide +kernel
theorem dX3_grow_40 : decode cX3_grow 40 = .ok (.iaload, 1) := by decide +kernel
theorem dX3_grow_41 : decode cX3_grow 41 = .ok (.aaload, 1) := by decide +kernel
theorem dX3_grow_42 : decode cX3_grow 42 = .ok (.aload_n 0, 1) := by decide +kernel
theorem dX3_grow_43 : decode cX3_grow 43 = .ok (.getfield 30, 3) := by decide +kernel
theorem dX3_grow_46 : decode cX3_grow 46 = .ok (.iload_n 3, 1) := by decide +kernel
theorem dX3_grow_47 : decode cX3_grow 47 = .ok (.iconst 1, 1) := by decide +kernel
theorem dX3_grow_48 : decode cX3_grow 48 = .ok (.iadd, 1) := by decide +kernel
theorem dX3_grow_49 : decode cX3_grow 49 = .ok (.aaload, 1) := by decide +kernel
theorem dX3_grow_50 : decode cX3_grow 50 = .ok (.iload_n 2, 1) := by decide +kernel
theorem dX3_grow_51 : decode cX3_grow 51 = .ok (.invokevirtual 42, 3) := by decide +kernel
theorem dX3_grow_54 : decode cX3_grow 54 = .ok (.iinc 3 (-1), 3) := by decide +kernel
theorem dX3_grow_57 : decode cX3_grow 57 = .ok (.goto (-33), 3) := by decide +kernel
theorem dX3_grow_60 : decode cX3_grow 60 = .ok (.return_, 1) := by decide +kernel
theorem dX3_newestCounts_0 : decode cX3_newestCounts 0 = .ok (.aload_n 0, 1) := by decide +kernel
theorem dX3_newestCounts_1 : decode cX3_newestCounts 1 = .ok (.getfield 30, 3) := by decide +kernel
theorem dX3_newestCounts_4 : decode cX3_newestCounts 4 = .ok (.iconst 0, 1) := by decide +kernel
theorem dX3_newestCounts_5 : decode cX3_newestCounts 5 = .ok (.aaload, 1) := by decide +kernel
theorem dX3_newestCounts_6 : decode cX3_newestCounts 6 = .ok (.getfield 46, 3) := by decide +kernel
theorem dX3_newestCounts_9 : decode cX3_newestCounts 9 = .ok (.areturn, 1) := by decide +kernel
theorem dX3_split_0 : decode cX3_split 0 = .ok (.iload_n 2, 1) := by decide +kernel
theorem dX3_split_1 : decode cX3_split 1 = .ok (.istore 5, 2) := by decide +kernel
theorem dX3_split_3 : decode cX3_split 3 = .ok (.iconst 0, 1) := by decide +kernel
theorem dX3_split_4 : decode cX3_split 4 = .ok (.istore 6, 2) := by decide +kernel
theorem dX3_split_6 : decode cX3_split 6 = .ok (.iload 6, 2) := by decide +kernel
theorem dX3_split_8 : decode cX3_split 8 = .ok (.aload_n 0, 1) := by decide +kernel
theorem dX3_split_9 : decode cX3_split 9 = .ok (.getfield 21, 3) := by decide +kernel
theorem dX3_split_12 : decode cX3_split 12 = .ok (.if_icmp .ge 72, 3) := by decide +kernel
theorem dX3_split_15 : decode cX3_split 15 = .ok (.aload_n 1, 1) := by decide +kernel
theorem dX3_split_16 : decode cX3_split 16 = .ok (.aload_n 0, 1) := by decide +kernel
theorem dX3_split_17 : decode cX3_split 17 = .ok (.getfield 24, 3) := by decide +kernel
theorem dX3_split_20 : decode cX3_split 20 = .ok (.iload 6, 2) := by decide +kernel
theorem dX3_split_22 : decode cX3_split 22 = .ok (.iaload, 1) := by decide +kernel
theorem dX3_split_23 : decode cX3_split 23 = .ok (.aaload, 1) := by decide +kernel
theorem dX3_split_24 : decode cX3_split 24 = .ok (.astore 7, 2) := by decide +kernel
theorem dX3_split_26 : decode cX3_split 26 = .ok (.iconst 0, 1) := by decide +kernel
theorem dX3_split_27 : decode cX3_split 27 = .ok (.istore 8, 2) := by decide +kernel
theorem dX3_split_29 : decode cX3_split 29 = .ok (.iload 8, 2) := by decide +kernel
theorem dX3_split_31 : decode cX3_split 31 = .ok (.iload 5, 2) := by decide +kernel
theorem dX3_split_33 : decode cX3_split 33 = .ok (.if_icmp .ge 31, 3) := by decide +kernel
theorem dX3_split_36 : decode cX3_split 36 = .ok (.iload 8, 2) := by decide +kernel
theorem dX3_split_38 : decode cX3_split 38 = .ok (.iload 5, 2) := by decide +kernel
theorem dX3_split_40 : decode cX3_split 40 = .ok (.aload 7, 2) := by decide +kernel
theorem dX3_split_42 : decode cX3_split 42 = .ok (.aload_n 0, 1) := by decide +kernel
theorem dX3_split_43 : decode cX3_split 43 = .ok (.getfield 30, 3) := by decide +kernel
theorem dX3_split_46 : decode cX3_split 46 = .ok (.iload 6, 2) := by decide +kernel
theorem dX3_split_48 : decode cX3_split 48 = .ok (.iconst 1, 1) := by decide +kernel
theorem dX3_split_49 : decode cX3_split 49 = .ok (.iadd, 1) := by decide +kernel
theorem dX3_split_50 : decode cX3_split 50 = .ok (.aaload, 1) := by decide +kernel
theorem dX3_split_51 : decode cX3_split 51 = .ok (.iload_n 3, 1) := by decide +kernel
theorem dX3_split_52 : decode cX3_split 52 = .ok (.invokestatic 50, 3) := by decide +kernel
theorem dX3_split_55 : decode cX3_split 55 = .ok (.ifCond .ne 9, 3) := by decide +kernel
theorem dX3_split_58 : decode cX3_split 58 = .ok (.iinc 8 1, 3) := by decide +kernel
theorem dX3_split_61 : decode cX3_split 61 = .ok (.goto (-32), 3) := by decide +kernel
theorem dX3_split_64 : decode cX3_split 64 = .ok (.aload 4, 2) := by decide +kernel
theorem dX3_split_66 : decode cX3_split 66 = .ok (.iload 6, 2) := by decide +kernel
theorem dX3_split_68 : decode cX3_split 68 = .ok (.iload 8, 2) := by decide +kernel
theorem dX3_split_70 : decode cX3_split 70 = .ok (.iastore, 1) := by decide +kernel
theorem dX3_split_71 : decode cX3_split 71 = .ok (.iload 5, 2) := by decide +kernel
theorem dX3_split_73 : decode cX3_split 73 = .ok (.iload 8, 2) := by decide +kernel
theorem dX3_split_75 : decode cX3_split 75 = .ok (.isub, 1) := by decide +kernel
theorem dX3_split_76 : decode cX3_split 76 = .ok (.istore 5, 2) := by decide +kernel
theorem dX3_split_78 : decode cX3_split 78 = .ok (.iinc 6 1, 3) := by decide +kernel
theorem dX3_split_81 : decode cX3_split 81 = .ok (.goto (-75), 3) := by decide +kernel
theorem dX3_split_84 : decode cX3_split 84 = .ok (.return_, 1) := by decide +kernel
theorem dX3_canBegin_0 : decode cX3_canBegin 0 = .ok (.aload_n 2, 1) := by decide +kernel
theorem dX3_canBegin_1 : decode cX3_canBegin 1 = .ok (.getfield 54, 3) := by decide +kernel
theorem dX3_canBegin_4 : decode cX3_canBegin 4 = .ok (.iload_n 0, 1) := by decide +kernel
theorem dX3_canBegin_5 : decode cX3_canBegin 5 = .ok (.iaload, 1) := by decide +kernel
theorem dX3_canBegin_6 : decode cX3_canBegin 6 = .ok (.iload 4, 2) := by decide +kernel
theorem dX3_canBegin_8 : decode cX3_canBegin 8 = .ok (.if_icmp .ge 55, 3) := by decide +kernel
theorem dX3_canBegin_11 : decode cX3_canBegin 11 = .ok (.iload_n 0, 1) := by decide +kernel
theorem dX3_canBegin_12 : decode cX3_canBegin 12 = .ok (.bipush 7, 2) := by decide +kernel
theorem dX3_canBegin_14 : decode cX3_canBegin 14 = .ok (.iand, 1) := by decide +kernel
theorem dX3_canBegin_15 : decode cX3_canBegin 15 = .ok (.iload_n 1, 1) := by decide +kernel
theorem dX3_canBegin_16 : decode cX3_canBegin 16 = .ok (.bipush 7, 2) := by decide +kernel
theorem dX3_canBegin_18 : decode cX3_canBegin 18 = .ok (.iand, 1) := by decide +kernel
theorem dX3_canBegin_19 : decode cX3_canBegin 19 = .ok (.if_icmp .gt 44, 3) := by decide +kernel
theorem dX3_canBegin_22 : decode cX3_canBegin 22 = .ok (.iload_n 0, 1) := by decide +kernel
theorem dX3_canBegin_23 : decode cX3_canBegin 23 = .ok (.bipush 56, 2) := by decide +kernel
theorem dX3_canBegin_25 : decode cX3_canBegin 25 = .ok (.iand, 1) := by decide +kernel
theorem dX3_canBegin_26 : decode cX3_canBegin 26 = .ok (.iload_n 1, 1) := by decide +kernel
theorem dX3_canBegin_27 : decode cX3_canBegin 27 = .ok (.bipush 56, 2) := by decide +kernel
theorem dX3_canBegin_29 : decode cX3_canBegin 29 = .ok (.iand, 1) := by decide +kernel
theorem dX3_canBegin_30 : decode cX3_canBegin 30 = .ok (.if_icmp .gt 33, 3) := by decide +kernel
theorem dX3_canBegin_33 : decode cX3_canBegin 33 = .ok (.iload_n 0, 1) := by decide +kernel
theorem dX3_canBegin_34 : decode cX3_canBegin 34 = .ok (.sipush 448, 3) := by decide +kernel
theorem dX3_canBegin_37 : decode cX3_canBegin 37 = .ok (.iand, 1) := by decide +kernel
theorem dX3_canBegin_38 : decode cX3_canBegin 38 = .ok (.iload_n 1, 1) := by decide +kernel
theorem dX3_canBegin_39 : decode cX3_canBegin 39 = .ok (.sipush 448, 3) := by decide +kernel
theorem dX3_canBegin_42 : decode cX3_canBegin 42 = .ok (.iand, 1) := by decide +kernel
theorem dX3_canBegin_43 : decode cX3_canBegin 43 = .ok (.if_icmp .gt 20, 3) := by decide +kernel
theorem dX3_canBegin_46 : decode cX3_canBegin 46 = .ok (.aload_n 3, 1) := by decide +kernel
theorem dX3_canBegin_47 : decode cX3_canBegin 47 = .ok (.getfield 59, 3) := by decide +kernel
theorem dX3_canBegin_50 : decode cX3_canBegin 50 = .ok (.iload_n 1, 1) := by decide +kernel
theorem dX3_canBegin_51 : decode cX3_canBegin 51 = .ok (.iload_n 0, 1) := by decide +kernel
theorem dX3_canBegin_52 : decode cX3_canBegin 52 = .ok (.isub, 1) := by decide +kernel
theorem dX3_canBegin_53 : decode cX3_canBegin 53 = .ok (.iaload, 1) := by decide +kernel
theorem dX3_canBegin_54 : decode cX3_canBegin 54 = .ok (.iload 4, 2) := by decide +kernel
theorem dX3_canBegin_56 : decode cX3_canBegin 56 = .ok (.if_icmp .gt 7, 3) := by decide +kernel
theorem dX3_canBegin_59 : decode cX3_canBegin 59 = .ok (.iconst 1, 1) := by decide +kernel
theorem dX3_canBegin_60 : decode cX3_canBegin 60 = .ok (.goto 4, 3) := by decide +kernel
theorem dX3_canBegin_63 : decode cX3_canBegin 63 = .ok (.iconst 0, 1) := by decide +kernel
theorem dX3_canBegin_64 : decode cX3_canBegin 64 = .ok (.ireturn, 1) := by decide +kernel
theorem dX4_init_0 : decode cX4_init 0 = .ok (.aload_n 0, 1) := by decide +kernel
theorem dX4_init_1 : decode cX4_init 1 = .ok (.invokespecial 3, 3) := by decide +kernel
theorem dX4_init_4 : decode cX4_init 4 = .ok (.aload_n 0, 1) := by decide +kernel
theorem dX4_init_5 : decode cX4_init 5 = .ok (.sipush 500, 3) := by decide +kernel
theorem dX4_init_8 : decode cX4_init 8 = .ok (.newarray .int, 2) := by decide +kernel
theorem dX4_init_10 : decode cX4_init 10 = .ok (.putfield 9, 3) := by decide +kernel
theorem dX4_init_13 : decode cX4_init 13 = .ok (.aload_n 0, 1) := by decide +kernel
theorem dX4_init_14 : decode cX4_init 14 = .ok (.bipush 10, 2) := by decide +kernel
theorem dX4_init_16 : decode cX4_init 16 = .ok (.newarray .int, 2) := by decide +kernel
theorem dX4_init_18 : decode cX4_init 18 = .ok (.putfield 15, 3) := by decide +kernel
theorem dX4_init_21 : decode cX4_init 21 = .ok (.aload_n 0, 1) := by decide +kernel
theorem dX4_init_22 : decode cX4_init 22 = .ok (.iconst 0, 1) := by decide +kernel
theorem dX4_init_23 : decode cX4_init 23 = .ok (.putfield 18, 3) := by decide +kernel
theorem dX4_init_26 : decode cX4_init 26 = .ok (.aload_n 0, 1) := by decide +kernel
theorem dX4_init_27 : decode cX4_init 27 = .ok (.sipush 500, 3) := by decide +kernel
theorem dX4_init_30 : decode cX4_init 30 = .ok (.newarray .int, 2) := by decide +kernel
theorem dX4_init_32 : decode cX4_init 32 = .ok (.putfield 22, 3) := by decide +kernel
theorem dX4_init_35 : decode cX4_init 35 = .ok (.aload_n 0, 1) := by decide +kernel
theorem dX4_init_36 : decode cX4_init 36 = .ok (.sipush 500, 3) := by decide +kernel
theorem dX4_init_39 : decode cX4_init 39 = .ok (.newarray .int, 2) := by decide +kernel
theorem dX4_init_41 : decode cX4_init 41 = .ok (.putfield 25, 3) := by decide +kernel
theorem dX4_init_44 : decode cX4_init 44 = .ok (.aload_n 0, 1) := by decide +kernel
theorem dX4_init_45 : decode cX4_init 45 = .ok (.iconst 0, 1) := by decide +kernel
theorem dX4_init_46 : decode cX4_init 46 = .ok (.putfield 28, 3) := by decide +kernel
theorem dX4_init_49 : decode cX4_init 49 = .ok (.aload_n 0, 1) := by decide +kernel
theorem dX4_init_50 : decode cX4_init 50 = .ok (.iconst 4, 1) := by decide +kernel
theorem dX4_init_51 : decode cX4_init 51 = .ok (.newarray .int, 2) := by decide +kernel
theorem dX4_init_53 : decode cX4_init 53 = .ok (.putfield 31, 3) := by decide +kernel
theorem dX4_init_56 : decode cX4_init 56 = .ok (.return_, 1) := by decide +kernel
theorem dX4_through_0 : decode cX4_through 0 = .ok (.aload_n 0, 1) := by decide +kernel
theorem dX4_through_1 : decode cX4_through 1 = .ok (.iconst 0, 1) := by decide +kernel
theorem dX4_through_2 : decode cX4_through 2 = .ok (.putfield 18, 3) := by decide +kernel
theorem dX4_through_5 : decode cX4_through 5 = .ok (.aload_n 0, 1) := by decide +kernel
theorem dX4_through_6 : decode cX4_through 6 = .ok (.iconst 0, 1) := by decide +kernel
theorem dX4_through_7 : decode cX4_through 7 = .ok (.putfield 28, 3) := by decide +kernel
theorem dX4_through_10 : decode cX4_through 10 = .ok (.aload_n 0, 1) := by decide +kernel
theorem dX4_through_11 : decode cX4_through 11 = .ok (.getfield 15, 3) := by decide +kernel
theorem dX4_through_14 : decode cX4_through 14 = .ok (.iconst 0, 1) := by decide +kernel
theorem dX4_through_15 : decode cX4_through 15 = .ok (.invokestatic 34, 3) := by decide +kernel
theorem dX4_through_18 : decode cX4_through 18 = .ok (.aload_n 0, 1) := by decide +kernel
theorem dX4_through_19 : decode cX4_through 19 = .ok (.iload_n 3, 1) := by decide +kernel
theorem dX4_through_20 : decode cX4_through 20 = .ok (.iload 4, 2) := by decide +kernel
theorem dX4_through_22 : decode cX4_through 22 = .ok (.invokevirtual 40, 3) := by decide +kernel
theorem dX4_through_25 : decode cX4_through 25 = .ok (.aload_n 0, 1) := by decide +kernel
theorem dX4_through_26 : decode cX4_through 26 = .ok (.getfield 28, 3) := by decide +kernel
theorem dX4_through_29 : decode cX4_through 29 = .ok (.ifCond .le 159, 3) := by decide +kernel
theorem dX4_through_32 : decode cX4_through 32 = .ok (.aload_n 0, 1) := by decide +kernel
theorem dX4_through_33 : decode cX4_through 33 = .ok (.getfield 18, 3) := by decide +kernel
theorem dX4_through_36 : decode cX4_through 36 = .ok (.sipush 500, 3) := by decide +kernel
theorem dX4_through_39 : decode cX4_through 39 = .ok (.if_icmp .ge 149, 3) := by decide +kernel
theorem dX4_through_42 : decode cX4_through 42 = .ok (.aload_n 0, 1) := by decide +kernel
theorem dX4_through_43 : decode cX4_through 43 = .ok (.dup, 1) := by decide +kernel
theorem dX4_through_44 : decode cX4_through 44 = .ok (.getfield 28, 3) := by decide +kernel
theorem dX4_through_47 : decode cX4_through 47 = .ok (.iconst 1, 1) := by decide +kernel
theorem dX4_through_48 : decode cX4_through 48 = .ok (.isub, 1) := by decide +kernel
theorem dX4_through_49 : decode cX4_through 49 = .ok (.putfield 28, 3) := by decide +kernel
theorem dX4_through_52 : decode cX4_through 52 = .ok (.aload_n 1, 1) := by decide +kernel
theorem dX4_through_53 : decode cX4_through 53 = .ok (.aload_n 0, 1) := by decide +kernel
theorem dX4_through_54 : decode cX4_through 54 = .ok (.getfield 22, 3) := by decide +kernel
theorem dX4_through_57 : decode cX4_through 57 = .ok (.aload_n 0, 1) := by decide +kernel
theorem dX4_through_58 : decode cX4_through 58 = .ok (.getfield 28, 3) := by decide +kernel
theorem dX4_through_61 : decode cX4_through 61 = .ok (.iaload, 1) := by decide +kernel
theorem dX4_through_62 : decode cX4_through 62 = .ok (.aaload, 1) := by decide +kernel
theorem dX4_through_63 : decode cX4_through 63 = .ok (.astore 5, 2) := by decide +kernel
theorem dX4_through_65 : decode cX4_through 65 = .ok (.aload_n 0, 1) := by decide +kernel
theorem dX4_through_66 : decode cX4_through 66 = .ok (.getfield 25, 3) := by decide +kernel
theorem dX4_through_69 : decode cX4_through 69 = .ok (.aload_n 0, 1) := by decide +kernel
theorem dX4_through_70 : decode cX4_through 70 = .ok (.getfield 28, 3) := by decide +kernel
theorem dX4_through_73 : decode cX4_through 73 = .ok (.iaload, 1) := by decide +kernel
theorem dX4_through_74 : decode cX4_through 74 = .ok (.istore 6, 2) := by decide +kernel
theorem dX4_through_76 : decode cX4_through 76 = .ok (.aload 5, 2) := by decide +kernel
theorem dX4_through_78 : decode cX4_through 78 = .ok (.getfield 44, 3) := by decide +kernel
theorem dX4_through_81 : decode cX4_through 81 = .ok (.iload 6, 2) := by decide +kernel
theorem dX4_through_83 : decode cX4_through 83 = .ok (.iaload, 1) := by decide +kernel
theorem dX4_through_84 : decode cX4_through 84 = .ok (.istore 7, 2) := by decide +kernel
theorem dX4_through_86 : decode cX4_through 86 = .ok (.aload_n 0, 1) := by decide +kernel
theorem dX4_through_87 : decode cX4_through 87 = .ok (.getfield 9, 3) := by decide +kernel
theorem dX4_through_90 : decode cX4_through 90 = .ok (.aload_n 0, 1) := by decide +kernel
theorem dX4_through_91 : decode cX4_through 91 = .ok (.getfield 18, 3) := by decide +kernel
theorem dX4_through_94 : decode cX4_through 94 = .ok (.iload 7, 2) := by decide +kernel
theorem dX4_through_96 : decode cX4_through 96 = .ok (.iastore, 1) := by decide +kernel
theorem dX4_through_97 : decode cX4_through 97 = .ok (.aload_n 0, 1) := by decide +kernel
theorem dX4_through_98 : decode cX4_through 98 = .ok (.dup, 1) := by decide +kernel
theorem dX4_through_99 : decode cX4_through 99 = .ok (.getfield 18, 3) := by decide +kernel
theorem dX4_through_102 : decode cX4_through 102 = .ok (.iconst 1, 1) := by decide +kernel
theorem dX4_through_103 : decode cX4_through 103 = .ok (.iadd, 1) := by decide +kernel
theorem dX4_through_104 : decode cX4_through 104 = .ok (.putfield 18, 3) := by decide +kernel
theorem dX4_through_107 : decode cX4_through 107 = .ok (.aload_n 0, 1) := by decide +kernel
theorem dX4_through_108 : decode cX4_through 108 = .ok (.getfield 15, 3) := by decide +kernel
theorem dX4_through_111 : decode cX4_through 111 = .ok (.iload 7, 2) := by decide +kernel
theorem dX4_through_113 : decode cX4_through 113 = .ok (.dup2, 1) := by decide +kernel
theorem dX4_through_114 : decode cX4_through 114 = .ok (.iaload, 1) := by decide +kernel
theorem dX4_through_115 : decode cX4_through 115 = .ok (.iconst 1, 1) := by decide +kernel
theorem dX4_through_116 : decode cX4_through 116 = .ok (.iadd, 1) := by decide +kernel
theorem dX4_through_117 : decode cX4_through 117 = .ok (.iastore, 1) := by decide +kernel
theorem dX4_through_118 : decode cX4_through 118 = .ok (.aload_n 2, 1) := by decide +kernel
theorem dX4_through_119 : decode cX4_through 119 = .ok (.iload 7, 2) := by decide +kernel
theorem dX4_through_121 : decode cX4_through 121 = .ok (.aaload, 1) := by decide +kernel
theorem dX4_through_122 : decode cX4_through 122 = .ok (.astore 8, 2) := by decide +kernel
theorem dX4_through_124 : decode cX4_through 124 = .ok (.aload_n 0, 1) := by decide +kernel
theorem dX4_through_125 : decode cX4_through 125 = .ok (.getfield 15, 3) := by decide +kernel
theorem dX4_through_128 : decode cX4_through 128 = .ok (.iload 7, 2) := by decide +kernel
theorem dX4_through_130 : decode cX4_through 130 = .ok (.iaload, 1) := by decide +kernel
theorem dX4_through_131 : decode cX4_through 131 = .ok (.bipush 50, 2) := by decide +kernel
theorem dX4_through_133 : decode cX4_through 133 = .ok (.if_icmp .gt 24, 3) := by decide +kernel
theorem dX4_through_136 : decode cX4_through 136 = .ok (.aload_n 0, 1) := by decide +kernel
theorem dX4_through_137 : decode cX4_through 137 = .ok (.getfield 18, 3) := by decide +kernel
theorem dX4_through_140 : decode cX4_through 140 = .ok (.aload_n 0, 1) := by decide +kernel
theorem dX4_through_141 : decode cX4_through 141 = .ok (.getfield 28, 3) := by decide +kernel
theorem dX4_through_144 : decode cX4_through 144 = .ok (.iadd, 1) := by decide +kernel
theorem dX4_through_145 : decode cX4_through 145 = .ok (.aload 8, 2) := by decide +kernel
theorem dX4_through_147 : decode cX4_through 147 = .ok (.getfield 49, 3) := by decide +kernel
theorem dX4_through_150 : decode cX4_through 150 = .ok (.iadd, 1) := by decide +kernel
theorem dX4_through_151 : decode cX4_through 151 = .ok (.sipush 500, 3) := by decide +kernel
theorem dX4_through_154 : decode cX4_through 154 = .ok (.if_icmp .le 5, 3) := by decide +kernel
theorem dX4_through_157 : decode cX4_through 157 = .ok (.iconst 0, 1) := by decide +kernel
theorem dX4_through_158 : decode cX4_through 158 = .ok (.ireturn, 1) := by decide +kernel
theorem dX4_through_159 : decode cX4_through 159 = .ok (.aload 8, 2) := by decide +kernel
theorem dX4_through_161 : decode cX4_through 161 = .ok (.aload_n 1, 1) := by decide +kernel
theorem dX4_through_162 : decode cX4_through 162 = .ok (.iload 6, 2) := by decide +kernel
theorem dX4_through_164 : decode cX4_through 164 = .ok (.aload 5, 2) := by decide +kernel
theorem dX4_through_166 : decode cX4_through 166 = .ok (.getfield 52, 3) := by decide +kernel
theorem dX4_through_169 : decode cX4_through 169 = .ok (.iload 6, 2) := by decide +kernel
theorem dX4_through_171 : decode cX4_through 171 = .ok (.iaload, 1) := by decide +kernel
theorem dX4_through_172 : decode cX4_through 172 = .ok (.aload_n 0, 1) := by decide +kernel
theorem dX4_through_173 : decode cX4_through 173 = .ok (.getfield 31, 3) := by decide +kernel
theorem dX4_through_176 : decode cX4_through 176 = .ok (.invokevirtual 55, 3) := by decide +kernel
theorem dX4_through_179 : decode cX4_through 179 = .ok (.aload_n 0, 1) := by decide +kernel
theorem dX4_through_180 : decode cX4_through 180 = .ok (.aload 8, 2) := by decide +kernel
theorem dX4_through_182 : decode cX4_through 182 = .ok (.invokevirtual 59, 3) := by decide +kernel
theorem dX4_through_185 : decode cX4_through 185 = .ok (.goto (-160), 3) := by decide +kernel
theorem dX4_through_188 : decode cX4_through 188 = .ok (.aload_n 0, 1) := by decide +kernel
theorem dX4_through_189 : decode cX4_through 189 = .ok (.getfield 28, 3) := by decide +kernel
theorem dX4_through_192 : decode cX4_through 192 = .ok (.ifCond .ne 7, 3) := by decide +kernel
theorem dX4_through_195 : decode cX4_through 195 = .ok (.iconst 1, 1) := by decide +kernel
theorem dX4_through_196 : decode cX4_through 196 = .ok (.goto 4, 3) := by decide +kernel
theorem dX4_through_199 : decode cX4_through 199 = .ok (.iconst 0, 1) := by decide +kernel
theorem dX4_through_200 : decode cX4_through 200 = .ok (.ireturn, 1) := by decide +kernel
theorem dX4_openBelow_0 : decode cX4_openBelow 0 = .ok (.aload_n 1, 1) := by decide +kernel
theorem dX4_openBelow_1 : decode cX4_openBelow 1 = .ok (.getfield 49, 3) := by decide +kernel
theorem dX4_openBelow_4 : decode cX4_openBelow 4 = .ok (.iconst 1, 1) := by decide +kernel
theorem dX4_openBelow_5 : decode cX4_openBelow 5 = .ok (.isub, 1) := by decide +kernel
theorem dX4_openBelow_6 : decode cX4_openBelow 6 = .ok (.istore_n 2, 1) := by decide +kernel
theorem dX4_openBelow_7 : decode cX4_openBelow 7 = .ok (.iload_n 2, 1) := by decide +kernel
theorem dX4_openBelow_8 : decode cX4_openBelow 8 = .ok (.ifCond .lt 25, 3) := by decide +kernel
theorem dX4_openBelow_11 : decode cX4_openBelow 11 = .ok (.aload_n 0, 1) := by decide +kernel
theorem dX4_openBelow_12 : decode cX4_openBelow 12 = .ok (.aload_n 1, 1) := by decide +kernel
theorem dX4_openBelow_13 : decode cX4_openBelow 13 = .ok (.getfield 63, 3) := by decide +kernel
theorem dX4_openBelow_16 : decode cX4_openBelow 16 = .ok (.iload_n 2, 1) := by decide +kernel
theorem dX4_openBelow_17 : decode cX4_openBelow 17 = .ok (.iaload, 1) := by decide +kernel
theorem dX4_openBelow_18 : decode cX4_openBelow 18 = .ok (.aload_n 0, 1) := by decide +kernel
theorem dX4_openBelow_19 : decode cX4_openBelow 19 = .ok (.getfield 31, 3) := by decide +kernel
theorem dX4_openBelow_22 : decode cX4_openBelow 22 = .ok (.iload_n 2, 1) := by decide +kernel
theorem dX4_openBelow_23 : decode cX4_openBelow 23 = .ok (.iaload, 1) := by decide +kernel
theorem dX4_openBelow_24 : decode cX4_openBelow 24 = .ok (.invokevirtual 40, 3) := by decide +kernel
theorem dX4_openBelow_27 : decode cX4_openBelow 27 = .ok (.iinc 2 (-1), 3) := by decide +kernel
theorem dX4_openBelow_30 : decode cX4_openBelow 30 = .ok (.goto (-23), 3) := by decide +kernel
theorem dX4_openBelow_33 : decode cX4_openBelow 33 = .ok (.return_, 1) := by decide +kernel
theorem dX4_openTree_0 : decode cX4_openTree 0 = .ok (.aload_n 0, 1) := by decide +kernel
theorem dX4_openTree_1 : decode cX4_openTree 1 = .ok (.getfield 22, 3) := by decide +kernel
theorem dX4_openTree_4 : decode cX4_openTree 4 = .ok (.aload_n 0, 1) := by decide +kernel
theorem dX4_openTree_5 : decode cX4_openTree 5 = .ok (.getfield 28, 3) := by decide +kernel
theorem dX4_openTree_8 : decode cX4_openTree 8 = .ok (.iload_n 1, 1) := by decide +kernel
theorem dX4_openTree_9 : decode cX4_openTree 9 = .ok (.iastore, 1) := by decide +kernel
theorem dX4_openTree_10 : decode cX4_openTree 10 = .ok (.aload_n 0, 1) := by decide +kernel
theorem dX4_openTree_11 : decode cX4_openTree 11 = .ok (.getfield 25, 3) := by decide +kernel
theorem dX4_openTree_14 : decode cX4_openTree 14 = .ok (.aload_n 0, 1) := by decide +kernel
theorem dX4_openTree_15 : decode cX4_openTree 15 = .ok (.getfield 28, 3) := by decide +kernel
theorem dX4_openTree_18 : decode cX4_openTree 18 = .ok (.iload_n 2, 1) := by decide +kernel
theorem dX4_openTree_19 : decode cX4_openTree 19 = .ok (.iastore, 1) := by decide +kernel
theorem dX4_openTree_20 : decode cX4_openTree 20 = .ok (.aload_n 0, 1) := by decide +kernel
theorem dX4_openTree_21 : decode cX4_openTree 21 = .ok (.dup, 1) := by decide +kernel
theorem dX4_openTree_22 : decode cX4_openTree 22 = .ok (.getfield 28, 3) := by decide +kernel
theorem dX4_openTree_25 : decode cX4_openTree 25 = .ok (.iconst 1, 1) := by decide +kernel
theorem dX4_openTree_26 : decode cX4_openTree 26 = .ok (.iadd, 1) := by decide +kernel
theorem dX4_openTree_27 : decode cX4_openTree 27 = .ok (.putfield 28, 3) := by decide +kernel
theorem dX4_openTree_30 : decode cX4_openTree 30 = .ok (.return_, 1) := by decide +kernel
theorem dX5_init_0 : decode cX5_init 0 = .ok (.aload_n 0, 1) := by decide +kernel
theorem dX5_init_1 : decode cX5_init 1 = .ok (.invokespecial 3, 3) := by decide +kernel
theorem dX5_init_4 : decode cX5_init 4 = .ok (.aload_n 0, 1) := by decide +kernel
theorem dX5_init_5 : decode cX5_init 5 = .ok (.iconst 5, 1) := by decide +kernel
theorem dX5_init_6 : decode cX5_init 6 = .ok (.anewarray 9, 3) := by decide +kernel
theorem dX5_init_9 : decode cX5_init 9 = .ok (.putfield 11, 3) := by decide +kernel
theorem dX5_init_12 : decode cX5_init 12 = .ok (.aload_n 0, 1) := by decide +kernel
theorem dX5_init_13 : decode cX5_init 13 = .ok (.bipush 10, 2) := by decide +kernel
theorem dX5_init_15 : decode cX5_init 15 = .ok (.anewarray 15, 3) := by decide +kernel
theorem dX5_init_18 : decode cX5_init 18 = .ok (.putfield 17, 3) := by decide +kernel
theorem dX5_init_21 : decode cX5_init 21 = .ok (.aload_n 0, 1) := by decide +kernel
theorem dX5_init_22 : decode cX5_init 22 = .ok (.iconst 0, 1) := by decide +kernel
theorem dX5_init_23 : decode cX5_init 23 = .ok (.putfield 21, 3) := by decide +kernel
theorem dX5_init_26 : decode cX5_init 26 = .ok (.aload_n 0, 1) := by decide +kernel
theorem dX5_init_27 : decode cX5_init 27 = .ok (.iconst 1, 1) := by decide +kernel
theorem dX5_init_28 : decode cX5_init 28 = .ok (.putfield 25, 3) := by decide +kernel
theorem dX5_init_31 : decode cX5_init 31 = .ok (.aload_n 0, 1) := by decide +kernel
theorem dX5_init_32 : decode cX5_init 32 = .ok (.sipush 500, 3) := by decide +kernel
theorem dX5_init_35 : decode cX5_init 35 = .ok (.newarray .int, 2) := by decide +kernel
theorem dX5_init_37 : decode cX5_init 37 = .ok (.putfield 29, 3) := by decide +kernel
theorem dX5_init_40 : decode cX5_init 40 = .ok (.aload_n 0, 1) := by decide +kernel
theorem dX5_init_41 : decode cX5_init 41 = .ok (.iconst 0, 1) := by decide +kernel
theorem dX5_init_42 : decode cX5_init 42 = .ok (.putfield 33, 3) := by decide +kernel
theorem dX5_init_45 : decode cX5_init 45 = .ok (.aload_n 0, 1) := by decide +kernel
theorem dX5_init_46 : decode cX5_init 46 = .ok (.new 36, 3) := by decide +kernel
theorem dX5_init_49 : decode cX5_init 49 = .ok (.dup, 1) := by decide +kernel
theorem dX5_init_50 : decode cX5_init 50 = .ok (.invokespecial 38, 3) := by decide +kernel
theorem dX5_init_53 : decode cX5_init 53 = .ok (.putfield 39, 3) := by decide +kernel
theorem dX5_init_56 : decode cX5_init 56 = .ok (.iconst 0, 1) := by decide +kernel
theorem dX5_init_57 : decode cX5_init 57 = .ok (.istore_n 1, 1) := by decide +kernel
theorem dX5_init_58 : decode cX5_init 58 = .ok (.iload_n 1, 1) := by decide +kernel
theorem dX5_init_59 : decode cX5_init 59 = .ok (.iconst 5, 1) := by decide +kernel
theorem dX5_init_60 : decode cX5_init 60 = .ok (.if_icmp .ge 22, 3) := by decide +kernel
theorem dX5_init_63 : decode cX5_init 63 = .ok (.aload_n 0, 1) := by decide +kernel
theorem dX5_init_64 : decode cX5_init 64 = .ok (.getfield 11, 3) := by decide +kernel
theorem dX5_init_67 : decode cX5_init 67 = .ok (.iload_n 1, 1) := by decide +kernel
theorem dX5_init_68 : decode cX5_init 68 = .ok (.new 9, 3) := by decide +kernel
theorem dX5_init_71 : decode cX5_init 71 = .ok (.dup, 1) := by decide +kernel
theorem dX5_init_72 : decode cX5_init 72 = .ok (.invokespecial 43, 3) := by decide +kernel
theorem dX5_init_75 : decode cX5_init 75 = .ok (.aastore, 1) := by decide +kernel
theorem dX5_init_76 : decode cX5_init 76 = .ok (.iinc 1 1, 3) := by decide +kernel
theorem dX5_init_79 : decode cX5_init 79 = .ok (.goto (-21), 3) := by decide +kernel
theorem dX5_init_82 : decode cX5_init 82 = .ok (.return_, 1) := by decide +kernel
theorem dX5_rule_0 : decode cX5_rule 0 = .ok (.iload_n 1, 1) := by decide +kernel
theorem dX5_rule_1 : decode cX5_rule 1 = .ok (.invokestatic 44, 3) := by decide +kernel
theorem dX5_rule_4 : decode cX5_rule 4 = .ok (.iload_n 2, 1) := by decide +kernel
theorem dX5_rule_5 : decode cX5_rule 5 = .ok (.invokestatic 48, 3) := by decide +kernel
theorem dX5_rule_8 : decode cX5_rule 8 = .ok (.iload_n 3, 1) := by decide +kernel
theorem dX5_rule_9 : decode cX5_rule 9 = .ok (.invokestatic 48, 3) := by decide +kernel
theorem dX5_rule_12 : decode cX5_rule 12 = .ok (.iload 4, 2) := by decide +kernel
theorem dX5_rule_14 : decode cX5_rule 14 = .ok (.invokestatic 48, 3) := by decide +kernel
theorem dX5_rule_17 : decode cX5_rule 17 = .ok (.iload 5, 2) := by decide +kernel
theorem dX5_rule_19 : decode cX5_rule 19 = .ok (.invokestatic 48, 3) := by decide +kernel
theorem dX5_rule_22 : decode cX5_rule 22 = .ok (.aload_n 0, 1) := by decide +kernel
theorem dX5_rule_23 : decode cX5_rule 23 = .ok (.getfield 21, 3) := by decide +kernel
theorem dX5_rule_26 : decode cX5_rule 26 = .ok (.bipush 10, 2) := by decide +kernel
theorem dX5_rule_28 : decode cX5_rule 28 = .ok (.if_icmp .lt 13, 3) := by decide +kernel
theorem dX5_rule_31 : decode cX5_rule 31 = .ok (.new 51, 3) := by decide +kernel
theorem dX5_rule_34 : decode cX5_rule 34 = .ok (.dup, 1) := by decide +kernel
theorem dX5_rule_35 : decode cX5_rule 35 = .ok (.ldc 53, 2) := by decide +kernel
theorem dX5_rule_37 : decode cX5_rule 37 = .ok (.invokespecial 55, 3) := by decide +kernel
theorem dX5_rule_40 : decode cX5_rule 40 = .ok (.athrow, 1) := by decide +kernel
theorem dX5_rule_41 : decode cX5_rule 41 = .ok (.aload_n 0, 1) := by decide +kernel
theorem dX5_rule_42 : decode cX5_rule 42 = .ok (.getfield 17, 3) := by decide +kernel
theorem dX5_rule_45 : decode cX5_rule 45 = .ok (.aload_n 0, 1) := by decide +kernel
theorem dX5_rule_46 : decode cX5_rule 46 = .ok (.getfield 21, 3) := by decide +kernel
theorem dX5_rule_49 : decode cX5_rule 49 = .ok (.aaload, 1) := by decide +kernel
theorem dX5_rule_50 : decode cX5_rule 50 = .ok (.ifnonnull 19, 3) := by decide +kernel
theorem dX5_rule_53 : decode cX5_rule 53 = .ok (.aload_n 0, 1) := by decide +kernel
theorem dX5_rule_54 : decode cX5_rule 54 = .ok (.getfield 17, 3) := by decide +kernel
theorem dX5_rule_57 : decode cX5_rule 57 = .ok (.aload_n 0, 1) := by decide +kernel
theorem dX5_rule_58 : decode cX5_rule 58 = .ok (.getfield 21, 3) := by decide +kernel
theorem dX5_rule_61 : decode cX5_rule 61 = .ok (.new 15, 3) := by decide +kernel
theorem dX5_rule_64 : decode cX5_rule 64 = .ok (.dup, 1) := by decide +kernel
theorem dX5_rule_65 : decode cX5_rule 65 = .ok (.invokespecial 58, 3) := by decide +kernel
theorem dX5_rule_68 : decode cX5_rule 68 = .ok (.aastore, 1) := by decide +kernel
theorem dX5_rule_69 : decode cX5_rule 69 = .ok (.aload_n 0, 1) := by decide +kernel
theorem dX5_rule_70 : decode cX5_rule 70 = .ok (.getfield 17, 3) := by decide +kernel
theorem dX5_rule_73 : decode cX5_rule 73 = .ok (.aload_n 0, 1) := by decide +kernel
theorem dX5_rule_74 : decode cX5_rule 74 = .ok (.getfield 21, 3) := by decide +kernel
theorem dX5_rule_77 : decode cX5_rule 77 = .ok (.aaload, 1) := by decide +kernel
theorem dX5_rule_78 : decode cX5_rule 78 = .ok (.astore 6, 2) := by decide +kernel
theorem dX5_rule_80 : decode cX5_rule 80 = .ok (.aload 6, 2) := by decide +kernel
theorem dX5_rule_82 : decode cX5_rule 82 = .ok (.iload_n 1, 1) := by decide +kernel
theorem dX5_rule_83 : decode cX5_rule 83 = .ok (.invokevirtual 59, 3) := by decide +kernel
theorem dX5_rule_86 : decode cX5_rule 86 = .ok (.aload 6, 2) := by decide +kernel
theorem dX5_rule_88 : decode cX5_rule 88 = .ok (.iload_n 2, 1) := by decide +kernel
theorem dX5_rule_89 : decode cX5_rule 89 = .ok (.invokevirtual 62, 3) := by decide +kernel
theorem dX5_rule_92 : decode cX5_rule 92 = .ok (.aload 6, 2) := by decide +kernel
theorem dX5_rule_94 : decode cX5_rule 94 = .ok (.iload_n 3, 1) := by decide +kernel
theorem dX5_rule_95 : decode cX5_rule 95 = .ok (.invokevirtual 62, 3) := by decide +kernel
theorem dX5_rule_98 : decode cX5_rule 98 = .ok (.aload 6, 2) := by decide +kernel
theorem dX5_rule_100 : decode cX5_rule 100 = .ok (.iload 4, 2) := by decide +kernel
theorem dX5_rule_102 : decode cX5_rule 102 = .ok (.invokevirtual 62, 3) := by decide +kernel
theorem dX5_rule_105 : decode cX5_rule 105 = .ok (.aload 6, 2) := by decide +kernel
theorem dX5_rule_107 : decode cX5_rule 107 = .ok (.iload 5, 2) := by decide +kernel
theorem dX5_rule_109 : decode cX5_rule 109 = .ok (.invokevirtual 62, 3) := by decide +kernel
theorem dX5_rule_112 : decode cX5_rule 112 = .ok (.aload_n 0, 1) := by decide +kernel
theorem dX5_rule_113 : decode cX5_rule 113 = .ok (.dup, 1) := by decide +kernel
theorem dX5_rule_114 : decode cX5_rule 114 = .ok (.getfield 21, 3) := by decide +kernel
theorem dX5_rule_117 : decode cX5_rule 117 = .ok (.iconst 1, 1) := by decide +kernel
theorem dX5_rule_118 : decode cX5_rule 118 = .ok (.iadd, 1) := by decide +kernel
theorem dX5_rule_119 : decode cX5_rule 119 = .ok (.putfield 21, 3) := by decide +kernel
theorem dX5_rule_122 : decode cX5_rule 122 = .ok (.aload_n 0, 1) := by decide +kernel
theorem dX5_rule_123 : decode cX5_rule 123 = .ok (.invokevirtual 65, 3) := by decide +kernel
theorem dX5_rule_126 : decode cX5_rule 126 = .ok (.aload_n 0, 1) := by decide +kernel
theorem dX5_rule_127 : decode cX5_rule 127 = .ok (.getfield 21, 3) := by decide +kernel
theorem dX5_rule_130 : decode cX5_rule 130 = .ok (.iconst 1, 1) := by decide +kernel
theorem dX5_rule_131 : decode cX5_rule 131 = .ok (.isub, 1) := by decide +kernel
theorem dX5_rule_132 : decode cX5_rule 132 = .ok (.ireturn, 1) := by decide +kernel
theorem dX5_clear_0 : decode cX5_clear 0 = .ok (.aload_n 0, 1) := by decide +kernel
theorem dX5_clear_1 : decode cX5_clear 1 = .ok (.iconst 0, 1) := by decide +kernel
theorem dX5_clear_2 : decode cX5_clear 2 = .ok (.putfield 21, 3) := by decide +kernel
theorem dX5_clear_5 : decode cX5_clear 5 = .ok (.aload_n 0, 1) := by decide +kernel
theorem dX5_clear_6 : decode cX5_clear 6 = .ok (.invokevirtual 65, 3) := by decide +kernel
theorem dX5_clear_9 : decode cX5_clear 9 = .ok (.return_, 1) := by decide +kernel
theorem dX5_height_0 : decode cX5_height 0 = .ok (.iload_n 1, 1) := by decide +kernel
theorem dX5_height_1 : decode cX5_height 1 = .ok (.invokestatic 44, 3) := by decide +kernel
theorem dX5_height_4 : decode cX5_height 4 = .ok (.iload_n 2, 1) := by decide +kernel
theorem dX5_height_5 : decode cX5_height 5 = .ok (.iload_n 3, 1) := by decide +kernel
theorem dX5_height_6 : decode cX5_height 6 = .ok (.iload 4, 2) := by decide +kernel
theorem dX5_height_8 : decode cX5_height 8 = .ok (.invokestatic 68, 3) := by decide +kernel
theorem dX5_height_11 : decode cX5_height 11 = .ok (.istore 5, 2) := by decide +kernel
theorem dX5_height_13 : decode cX5_height 13 = .ok (.aload_n 0, 1) := by decide +kernel
theorem dX5_height_14 : decode cX5_height 14 = .ok (.invokevirtual 72, 3) := by decide +kernel
theorem dX5_height_17 : decode cX5_height 17 = .ok (.aload_n 0, 1) := by decide +kernel
theorem dX5_height_18 : decode cX5_height 18 = .ok (.getfield 11, 3) := by decide +kernel
theorem dX5_height_21 : decode cX5_height 21 = .ok (.iload_n 1, 1) := by decide +kernel
theorem dX5_height_22 : decode cX5_height 22 = .ok (.aaload, 1) := by decide +kernel
theorem dX5_height_23 : decode cX5_height 23 = .ok (.getfield 75, 3) := by decide +kernel
theorem dX5_height_26 : decode cX5_height 26 = .ok (.iload 5, 2) := by decide +kernel
theorem dX5_height_28 : decode cX5_height 28 = .ok (.iaload, 1) := by decide +kernel
theorem dX5_height_29 : decode cX5_height 29 = .ok (.istore 6, 2) := by decide +kernel
theorem dX5_height_31 : decode cX5_height 31 = .ok (.iload 6, 2) := by decide +kernel
theorem dX5_height_33 : decode cX5_height 33 = .ok (.ldc 78, 2) := by decide +kernel
theorem dX5_height_35 : decode cX5_height 35 = .ok (.if_icmp .ne 7, 3) := by decide +kernel
theorem dX5_height_38 : decode cX5_height 38 = .ok (.iconst (-1), 1) := by decide +kernel
theorem dX5_height_39 : decode cX5_height 39 = .ok (.goto 5, 3) := by decide +kernel
theorem dX5_height_42 : decode cX5_height 42 = .ok (.iload 6, 2) := by decide +kernel
theorem dX5_height_44 : decode cX5_height 44 = .ok (.ireturn, 1) := by decide +kernel
theorem dX5_many_0 : decode cX5_many 0 = .ok (.iload_n 1, 1) := by decide +kernel
theorem dX5_many_1 : decode cX5_many 1 = .ok (.invokestatic 44, 3) := by decide +kernel
theorem dX5_many_4 : decode cX5_many 4 = .ok (.aload_n 0, 1) := by decide +kernel
theorem dX5_many_5 : decode cX5_many 5 = .ok (.invokevirtual 72, 3) := by decide +kernel
theorem dX5_many_8 : decode cX5_many 8 = .ok (.aload_n 0, 1) := by decide +kernel
theorem dX5_many_9 : decode cX5_many 9 = .ok (.getfield 11, 3) := by decide +kernel
theorem dX5_many_12 : decode cX5_many 12 = .ok (.iload_n 1, 1) := by decide +kernel
theorem dX5_many_13 : decode cX5_many 13 = .ok (.aaload, 1) := by decide +kernel
theorem dX5_many_14 : decode cX5_many 14 = .ok (.getfield 79, 3) := by decide +kernel
theorem dX5_many_17 : decode cX5_many 17 = .ok (.invokevirtual 83, 3) := by decide +kernel
theorem dX5_many_20 : decode cX5_many 20 = .ok (.ireturn, 1) := by decide +kernel
theorem dX5_count_0 : decode cX5_count 0 = .ok (.iload_n 1, 1) := by decide +kernel
theorem dX5_count_1 : decode cX5_count 1 = .ok (.invokestatic 44, 3) := by decide +kernel
theorem dX5_count_4 : decode cX5_count 4 = .ok (.aload_n 0, 1) := by decide +kernel
theorem dX5_count_5 : decode cX5_count 5 = .ok (.invokevirtual 72, 3) := by decide +kernel
theorem dX5_count_8 : decode cX5_count 8 = .ok (.aload_n 0, 1) := by decide +kernel
theorem dX5_count_9 : decode cX5_count 9 = .ok (.getfield 11, 3) := by decide +kernel
theorem dX5_count_12 : decode cX5_count 12 = .ok (.iload_n 1, 1) := by decide +kernel
theorem dX5_count_13 : decode cX5_count 13 = .ok (.aaload, 1) := by decide +kernel
theorem dX5_count_14 : decode cX5_count 14 = .ok (.getfield 79, 3) := by decide +kernel
theorem dX5_count_17 : decode cX5_count 17 = .ok (.astore_n 3, 1) := by decide +kernel
theorem dX5_count_18 : decode cX5_count 18 = .ok (.iload_n 2, 1) := by decide +kernel
theorem dX5_count_19 : decode cX5_count 19 = .ok (.ifCond .lt 11, 3) := by decide +kernel
theorem dX5_count_22 : decode cX5_count 22 = .ok (.iload_n 2, 1) := by decide +kernel
theorem dX5_count_23 : decode cX5_count 23 = .ok (.aload_n 3, 1) := by decide +kernel
theorem dX5_count_24 : decode cX5_count 24 = .ok (.invokevirtual 83, 3) := by decide +kernel
theorem dX5_count_27 : decode cX5_count 27 = .ok (.if_icmp .lt 13, 3) := by decide +kernel
theorem dX5_count_30 : decode cX5_count 30 = .ok (.new 89, 3) := by decide +kernel
theorem dX5_count_33 : decode cX5_count 33 = .ok (.dup, 1) := by decide +kernel
theorem dX5_count_34 : decode cX5_count 34 = .ok (.ldc 91, 2) := by decide +kernel
theorem dX5_count_36 : decode cX5_count 36 = .ok (.invokespecial 93, 3) := by decide +kernel
theorem dX5_count_39 : decode cX5_count 39 = .ok (.athrow, 1) := by decide +kernel
theorem dX5_count_40 : decode cX5_count 40 = .ok (.aload_n 3, 1) := by decide +kernel
theorem dX5_count_41 : decode cX5_count 41 = .ok (.iload_n 2, 1) := by decide +kernel
theorem dX5_count_42 : decode cX5_count 42 = .ok (.invokevirtual 94, 3) := by decide +kernel
theorem dX5_count_45 : decode cX5_count 45 = .ok (.ireturn, 1) := by decide +kernel
theorem dX5_derive_0 : decode cX5_derive 0 = .ok (.iload_n 1, 1) := by decide +kernel
theorem dX5_derive_1 : decode cX5_derive 1 = .ok (.invokestatic 44, 3) := by decide +kernel
theorem dX5_derive_4 : decode cX5_derive 4 = .ok (.iload_n 2, 1) := by decide +kernel
theorem dX5_derive_5 : decode cX5_derive 5 = .ok (.iload_n 3, 1) := by decide +kernel
theorem dX5_derive_6 : decode cX5_derive 6 = .ok (.iload 4, 2) := by decide +kernel
theorem dX5_derive_8 : decode cX5_derive 8 = .ok (.invokestatic 68, 3) := by decide +kernel
theorem dX5_derive_11 : decode cX5_derive 11 = .ok (.istore 5, 2) := by decide +kernel
theorem dX5_derive_13 : decode cX5_derive 13 = .ok (.aload_n 0, 1) := by decide +kernel
theorem dX5_derive_14 : decode cX5_derive 14 = .ok (.invokevirtual 72, 3) := by decide +kernel
theorem dX5_derive_17 : decode cX5_derive 17 = .ok (.aload_n 0, 1) := by decide +kernel
theorem dX5_derive_18 : decode cX5_derive 18 = .ok (.getfield 11, 3) := by decide +kernel
theorem dX5_derive_21 : decode cX5_derive 21 = .ok (.iload_n 1, 1) := by decide +kernel
theorem dX5_derive_22 : decode cX5_derive 22 = .ok (.aaload, 1) := by decide +kernel
theorem dX5_derive_23 : decode cX5_derive 23 = .ok (.getfield 79, 3) := by decide +kernel
theorem dX5_derive_26 : decode cX5_derive 26 = .ok (.iload 5, 2) := by decide +kernel
theorem dX5_derive_28 : decode cX5_derive 28 = .ok (.invokevirtual 98, 3) := by decide +kernel
theorem dX5_derive_31 : decode cX5_derive 31 = .ok (.ifCond .ne 13, 3) := by decide +kernel
theorem dX5_derive_34 : decode cX5_derive 34 = .ok (.new 102, 3) := by decide +kernel
theorem dX5_derive_37 : decode cX5_derive 37 = .ok (.dup, 1) := by decide +kernel
theorem dX5_derive_38 : decode cX5_derive 38 = .ok (.ldc 104, 2) := by decide +kernel
theorem dX5_derive_40 : decode cX5_derive 40 = .ok (.invokespecial 106, 3) := by decide +kernel
theorem dX5_derive_43 : decode cX5_derive 43 = .ok (.athrow, 1) := by decide +kernel
theorem dX5_derive_44 : decode cX5_derive 44 = .ok (.aload_n 0, 1) := by decide +kernel
theorem dX5_derive_45 : decode cX5_derive 45 = .ok (.getfield 39, 3) := by decide +kernel
theorem dX5_derive_48 : decode cX5_derive 48 = .ok (.aload_n 0, 1) := by decide +kernel
theorem dX5_derive_49 : decode cX5_derive 49 = .ok (.getfield 11, 3) := by decide +kernel
theorem dX5_derive_52 : decode cX5_derive 52 = .ok (.aload_n 0, 1) := by decide +kernel
theorem dX5_derive_53 : decode cX5_derive 53 = .ok (.getfield 17, 3) := by decide +kernel
theorem dX5_derive_56 : decode cX5_derive 56 = .ok (.iload_n 1, 1) := by decide +kernel
theorem dX5_derive_57 : decode cX5_derive 57 = .ok (.iload 5, 2) := by decide +kernel
theorem dX5_derive_59 : decode cX5_derive 59 = .ok (.invokevirtual 107, 3) := by decide +kernel
theorem dX5_derive_62 : decode cX5_derive 62 = .ok (.ifCond .ne 13, 3) := by decide +kernel
theorem dX5_derive_65 : decode cX5_derive 65 = .ok (.new 111, 3) := by decide +kernel
theorem dX5_derive_68 : decode cX5_derive 68 = .ok (.dup, 1) := by decide +kernel
theorem dX5_derive_69 : decode cX5_derive 69 = .ok (.ldc 113, 2) := by decide +kernel
theorem dX5_derive_71 : decode cX5_derive 71 = .ok (.invokespecial 115, 3) := by decide +kernel
theorem dX5_derive_74 : decode cX5_derive 74 = .ok (.athrow, 1) := by decide +kernel
theorem dX5_derive_75 : decode cX5_derive 75 = .ok (.aload_n 0, 1) := by decide +kernel
theorem dX5_derive_76 : decode cX5_derive 76 = .ok (.aload_n 0, 1) := by decide +kernel
theorem dX5_derive_77 : decode cX5_derive 77 = .ok (.getfield 39, 3) := by decide +kernel
theorem dX5_derive_80 : decode cX5_derive 80 = .ok (.getfield 116, 3) := by decide +kernel
theorem dX5_derive_83 : decode cX5_derive 83 = .ok (.putfield 33, 3) := by decide +kernel
theorem dX5_derive_86 : decode cX5_derive 86 = .ok (.aload_n 0, 1) := by decide +kernel
theorem dX5_derive_87 : decode cX5_derive 87 = .ok (.getfield 39, 3) := by decide +kernel
theorem dX5_derive_90 : decode cX5_derive 90 = .ok (.getfield 118, 3) := by decide +kernel
theorem dX5_derive_93 : decode cX5_derive 93 = .ok (.iconst 0, 1) := by decide +kernel
theorem dX5_derive_94 : decode cX5_derive 94 = .ok (.aload_n 0, 1) := by decide +kernel
theorem dX5_derive_95 : decode cX5_derive 95 = .ok (.getfield 29, 3) := by decide +kernel
theorem dX5_derive_98 : decode cX5_derive 98 = .ok (.iconst 0, 1) := by decide +kernel
theorem dX5_derive_99 : decode cX5_derive 99 = .ok (.aload_n 0, 1) := by decide +kernel
theorem dX5_derive_100 : decode cX5_derive 100 = .ok (.getfield 33, 3) := by decide +kernel
theorem dX5_derive_103 : decode cX5_derive 103 = .ok (.invokestatic 119, 3) := by decide +kernel
theorem dX5_derive_106 : decode cX5_derive 106 = .ok (.iconst 0, 1) := by decide +kernel
theorem dX5_derive_107 : decode cX5_derive 107 = .ok (.istore 6, 2) := by decide +kernel
theorem dX5_derive_109 : decode cX5_derive 109 = .ok (.iload 6, 2) := by decide +kernel
theorem dX5_derive_111 : decode cX5_derive 111 = .ok (.aload_n 0, 1) := by decide +kernel
theorem dX5_derive_112 : decode cX5_derive 112 = .ok (.getfield 21, 3) := by decide +kernel
theorem dX5_derive_115 : decode cX5_derive 115 = .ok (.if_icmp .ge 29, 3) := by decide +kernel
theorem dX5_derive_118 : decode cX5_derive 118 = .ok (.aload_n 0, 1) := by decide +kernel
theorem dX5_derive_119 : decode cX5_derive 119 = .ok (.getfield 17, 3) := by decide +kernel
theorem dX5_derive_122 : decode cX5_derive 122 = .ok (.iload 6, 2) := by decide +kernel
theorem dX5_derive_124 : decode cX5_derive 124 = .ok (.aaload, 1) := by decide +kernel
theorem dX5_derive_125 : decode cX5_derive 125 = .ok (.aload_n 0, 1) := by decide +kernel
theorem dX5_derive_126 : decode cX5_derive 126 = .ok (.getfield 39, 3) := by decide +kernel
theorem dX5_derive_129 : decode cX5_derive 129 = .ok (.getfield 125, 3) := by decide +kernel
theorem dX5_derive_132 : decode cX5_derive 132 = .ok (.iload 6, 2) := by decide +kernel
theorem dX5_derive_134 : decode cX5_derive 134 = .ok (.iaload, 1) := by decide +kernel
theorem dX5_derive_135 : decode cX5_derive 135 = .ok (.putfield 128, 3) := by decide +kernel
theorem dX5_derive_138 : decode cX5_derive 138 = .ok (.iinc 6 1, 3) := by decide +kernel
theorem dX5_derive_141 : decode cX5_derive 141 = .ok (.goto (-32), 3) := by decide +kernel
theorem dX5_derive_144 : decode cX5_derive 144 = .ok (.aload_n 0, 1) := by decide +kernel
theorem dX5_derive_145 : decode cX5_derive 145 = .ok (.getfield 33, 3) := by decide +kernel
theorem dX5_derive_148 : decode cX5_derive 148 = .ok (.ireturn, 1) := by decide +kernel
theorem dX5_step_0 : decode cX5_step 0 = .ok (.iload_n 1, 1) := by decide +kernel
theorem dX5_step_1 : decode cX5_step 1 = .ok (.ifCond .lt 11, 3) := by decide +kernel
theorem dX5_step_4 : decode cX5_step 4 = .ok (.iload_n 1, 1) := by decide +kernel
theorem dX5_step_5 : decode cX5_step 5 = .ok (.aload_n 0, 1) := by decide +kernel
theorem dX5_step_6 : decode cX5_step 6 = .ok (.getfield 33, 3) := by decide +kernel
theorem dX5_step_9 : decode cX5_step 9 = .ok (.if_icmp .lt 13, 3) := by decide +kernel
theorem dX5_step_12 : decode cX5_step 12 = .ok (.new 89, 3) := by decide +kernel
theorem dX5_step_15 : decode cX5_step 15 = .ok (.dup, 1) := by decide +kernel
theorem dX5_step_16 : decode cX5_step 16 = .ok (.ldc 130, 2) := by decide +kernel
theorem dX5_step_18 : decode cX5_step 18 = .ok (.invokespecial 93, 3) := by decide +kernel
theorem dX5_step_21 : decode cX5_step 21 = .ok (.athrow, 1) := by decide +kernel
theorem dX5_step_22 : decode cX5_step 22 = .ok (.aload_n 0, 1) := by decide +kernel
theorem dX5_step_23 : decode cX5_step 23 = .ok (.getfield 29, 3) := by decide +kernel
theorem dX5_step_26 : decode cX5_step 26 = .ok (.iload_n 1, 1) := by decide +kernel
theorem dX5_step_27 : decode cX5_step 27 = .ok (.iaload, 1) := by decide +kernel
theorem dX5_step_28 : decode cX5_step 28 = .ok (.ireturn, 1) := by decide +kernel
theorem dX5_use_0 : decode cX5_use 0 = .ok (.iload_n 1, 1) := by decide +kernel
theorem dX5_use_1 : decode cX5_use 1 = .ok (.ifCond .lt 11, 3) := by decide +kernel
theorem dX5_use_4 : decode cX5_use 4 = .ok (.iload_n 1, 1) := by decide +kernel
theorem dX5_use_5 : decode cX5_use 5 = .ok (.aload_n 0, 1) := by decide +kernel
theorem dX5_use_6 : decode cX5_use 6 = .ok (.getfield 21, 3) := by decide +kernel
theorem dX5_use_9 : decode cX5_use 9 = .ok (.if_icmp .lt 13, 3) := by decide +kernel
theorem dX5_use_12 : decode cX5_use 12 = .ok (.new 132, 3) := by decide +kernel
theorem dX5_use_15 : decode cX5_use 15 = .ok (.dup, 1) := by decide +kernel
theorem dX5_use_16 : decode cX5_use 16 = .ok (.ldc 134, 2) := by decide +kernel
theorem dX5_use_18 : decode cX5_use 18 = .ok (.invokespecial 136, 3) := by decide +kernel
theorem dX5_use_21 : decode cX5_use 21 = .ok (.athrow, 1) := by decide +kernel
theorem dX5_use_22 : decode cX5_use 22 = .ok (.iload_n 2, 1) := by decide +kernel
theorem dX5_use_23 : decode cX5_use 23 = .ok (.ifCond .lt 9, 3) := by decide +kernel
theorem dX5_use_26 : decode cX5_use 26 = .ok (.iload_n 2, 1) := by decide +kernel
theorem dX5_use_27 : decode cX5_use 27 = .ok (.bipush 50, 2) := by decide +kernel
theorem dX5_use_29 : decode cX5_use 29 = .ok (.if_icmp .le 13, 3) := by decide +kernel
theorem dX5_use_32 : decode cX5_use 32 = .ok (.new 132, 3) := by decide +kernel
theorem dX5_use_35 : decode cX5_use 35 = .ok (.dup, 1) := by decide +kernel
theorem dX5_use_36 : decode cX5_use 36 = .ok (.ldc 137, 2) := by decide +kernel
theorem dX5_use_38 : decode cX5_use 38 = .ok (.invokespecial 136, 3) := by decide +kernel
theorem dX5_use_41 : decode cX5_use 41 = .ok (.athrow, 1) := by decide +kernel
theorem dX5_use_42 : decode cX5_use 42 = .ok (.aload_n 0, 1) := by decide +kernel
theorem dX5_use_43 : decode cX5_use 43 = .ok (.getfield 17, 3) := by decide +kernel
theorem dX5_use_46 : decode cX5_use 46 = .ok (.iload_n 1, 1) := by decide +kernel
theorem dX5_use_47 : decode cX5_use 47 = .ok (.aaload, 1) := by decide +kernel
theorem dX5_use_48 : decode cX5_use 48 = .ok (.getfield 128, 3) := by decide +kernel
theorem dX5_use_51 : decode cX5_use 51 = .ok (.istore_n 3, 1) := by decide +kernel
theorem dX5_use_52 : decode cX5_use 52 = .ok (.aload_n 0, 1) := by decide +kernel
theorem dX5_use_53 : decode cX5_use 53 = .ok (.getfield 17, 3) := by decide +kernel
theorem dX5_use_56 : decode cX5_use 56 = .ok (.iload_n 1, 1) := by decide +kernel
theorem dX5_use_57 : decode cX5_use 57 = .ok (.aaload, 1) := by decide +kernel
theorem dX5_use_58 : decode cX5_use 58 = .ok (.iload_n 2, 1) := by decide +kernel
theorem dX5_use_59 : decode cX5_use 59 = .ok (.putfield 128, 3) := by decide +kernel
theorem dX5_use_62 : decode cX5_use 62 = .ok (.iload_n 3, 1) := by decide +kernel
theorem dX5_use_63 : decode cX5_use 63 = .ok (.ireturn, 1) := by decide +kernel
theorem dX5_fit_0 : decode cX5_fit 0 = .ok (.iload_n 1, 1) := by decide +kernel
theorem dX5_fit_1 : decode cX5_fit 1 = .ok (.invokestatic 44, 3) := by decide +kernel
theorem dX5_fit_4 : decode cX5_fit 4 = .ok (.iconst 0, 1) := by decide +kernel
theorem dX5_fit_5 : decode cX5_fit 5 = .ok (.istore_n 2, 1) := by decide +kernel
theorem dX5_fit_6 : decode cX5_fit 6 = .ok (.iload_n 2, 1) := by decide +kernel
theorem dX5_fit_7 : decode cX5_fit 7 = .ok (.iconst 5, 1) := by decide +kernel
theorem dX5_fit_8 : decode cX5_fit 8 = .ok (.if_icmp .ge 39, 3) := by decide +kernel
theorem dX5_fit_11 : decode cX5_fit 11 = .ok (.aload_n 0, 1) := by decide +kernel
theorem dX5_fit_12 : decode cX5_fit 12 = .ok (.iload_n 2, 1) := by decide +kernel
theorem dX5_fit_13 : decode cX5_fit 13 = .ok (.invokevirtual 139, 3) := by decide +kernel
theorem dX5_fit_16 : decode cX5_fit 16 = .ok (.iload_n 2, 1) := by decide +kernel
theorem dX5_fit_17 : decode cX5_fit 17 = .ok (.iload_n 1, 1) := by decide +kernel
theorem dX5_fit_18 : decode cX5_fit 18 = .ok (.if_icmp .ne 7, 3) := by decide +kernel
theorem dX5_fit_21 : decode cX5_fit 21 = .ok (.iconst 1, 1) := by decide +kernel
theorem dX5_fit_22 : decode cX5_fit 22 = .ok (.goto 4, 3) := by decide +kernel
theorem dX5_fit_25 : decode cX5_fit 25 = .ok (.iconst 0, 1) := by decide +kernel
theorem dX5_fit_26 : decode cX5_fit 26 = .ok (.iadd, 1) := by decide +kernel
theorem dX5_fit_27 : decode cX5_fit 27 = .ok (.istore_n 3, 1) := by decide +kernel
theorem dX5_fit_28 : decode cX5_fit 28 = .ok (.aload_n 0, 1) := by decide +kernel
theorem dX5_fit_29 : decode cX5_fit 29 = .ok (.iload_n 2, 1) := by decide +kernel
theorem dX5_fit_30 : decode cX5_fit 30 = .ok (.invokevirtual 142, 3) := by decide +kernel
theorem dX5_fit_33 : decode cX5_fit 33 = .ok (.iload_n 3, 1) := by decide +kernel
theorem dX5_fit_34 : decode cX5_fit 34 = .ok (.if_icmp .eq 7, 3) := by decide +kernel
theorem dX5_fit_37 : decode cX5_fit 37 = .ok (.iconst 1, 1) := by decide +kernel
theorem dX5_fit_38 : decode cX5_fit 38 = .ok (.iload_n 2, 1) := by decide +kernel
theorem dX5_fit_39 : decode cX5_fit 39 = .ok (.iadd, 1) := by decide +kernel
theorem dX5_fit_40 : decode cX5_fit 40 = .ok (.ireturn, 1) := by decide +kernel
theorem dX5_fit_41 : decode cX5_fit 41 = .ok (.iinc 2 1, 3) := by decide +kernel
theorem dX5_fit_44 : decode cX5_fit 44 = .ok (.goto (-38), 3) := by decide +kernel
theorem dX5_fit_47 : decode cX5_fit 47 = .ok (.aload_n 0, 1) := by decide +kernel
theorem dX5_fit_48 : decode cX5_fit 48 = .ok (.iload_n 1, 1) := by decide +kernel
theorem dX5_fit_49 : decode cX5_fit 49 = .ok (.invokevirtual 145, 3) := by decide +kernel
theorem dX5_fit_52 : decode cX5_fit 52 = .ok (.istore_n 2, 1) := by decide +kernel
theorem dX5_fit_53 : decode cX5_fit 53 = .ok (.iconst 0, 1) := by decide +kernel
theorem dX5_fit_54 : decode cX5_fit 54 = .ok (.istore_n 3, 1) := by decide +kernel
theorem dX5_fit_55 : decode cX5_fit 55 = .ok (.iload_n 3, 1) := by decide +kernel
theorem dX5_fit_56 : decode cX5_fit 56 = .ok (.iconst 5, 1) := by decide +kernel
theorem dX5_fit_57 : decode cX5_fit 57 = .ok (.if_icmp .ge 30, 3) := by decide +kernel
theorem dX5_fit_60 : decode cX5_fit 60 = .ok (.aload_n 0, 1) := by decide +kernel
theorem dX5_fit_61 : decode cX5_fit 61 = .ok (.iload_n 3, 1) := by decide +kernel
theorem dX5_fit_62 : decode cX5_fit 62 = .ok (.invokevirtual 142, 3) := by decide +kernel
theorem dX5_fit_65 : decode cX5_fit 65 = .ok (.ifCond .le 16, 3) := by decide +kernel
theorem dX5_fit_68 : decode cX5_fit 68 = .ok (.iload_n 2, 1) := by decide +kernel
theorem dX5_fit_69 : decode cX5_fit 69 = .ok (.iload_n 3, 1) := by decide +kernel
theorem dX5_fit_70 : decode cX5_fit 70 = .ok (.ishr, 1) := by decide +kernel
theorem dX5_fit_71 : decode cX5_fit 71 = .ok (.iconst 1, 1) := by decide +kernel
theorem dX5_fit_72 : decode cX5_fit 72 = .ok (.iand, 1) := by decide +kernel
theorem dX5_fit_73 : decode cX5_fit 73 = .ok (.ifCond .ne 8, 3) := by decide +kernel
theorem dX5_fit_76 : decode cX5_fit 76 = .ok (.bipush 11, 2) := by decide +kernel
theorem dX5_fit_78 : decode cX5_fit 78 = .ok (.iload_n 3, 1) := by decide +kernel
theorem dX5_fit_79 : decode cX5_fit 79 = .ok (.iadd, 1) := by decide +kernel
theorem dX5_fit_80 : decode cX5_fit 80 = .ok (.ireturn, 1) := by decide +kernel
theorem dX5_fit_81 : decode cX5_fit 81 = .ok (.iinc 3 1, 3) := by decide +kernel
theorem dX5_fit_84 : decode cX5_fit 84 = .ok (.goto (-29), 3) := by decide +kernel
theorem dX5_fit_87 : decode cX5_fit 87 = .ok (.iconst 0, 1) := by decide +kernel
theorem dX5_fit_88 : decode cX5_fit 88 = .ok (.ireturn, 1) := by decide +kernel
theorem dX5_letters_0 : decode cX5_letters 0 = .ok (.iload_n 1, 1) := by decide +kernel
theorem dX5_letters_1 : decode cX5_letters 1 = .ok (.ifCond .lt 8, 3) := by decide +kernel
theorem dX5_letters_4 : decode cX5_letters 4 = .ok (.iload_n 1, 1) := by decide +kernel
theorem dX5_letters_5 : decode cX5_letters 5 = .ok (.iconst 3, 1) := by decide +kernel
theorem dX5_letters_6 : decode cX5_letters 6 = .ok (.if_icmp .lt 13, 3) := by decide +kernel
theorem dX5_letters_9 : decode cX5_letters 9 = .ok (.new 132, 3) := by decide +kernel
theorem dX5_letters_12 : decode cX5_letters 12 = .ok (.dup, 1) := by decide +kernel
theorem dX5_letters_13 : decode cX5_letters 13 = .ok (.ldc 148, 2) := by decide +kernel
theorem dX5_letters_15 : decode cX5_letters 15 = .ok (.invokespecial 136, 3) := by decide +kernel
theorem dX5_letters_18 : decode cX5_letters 18 = .ok (.athrow, 1) := by decide +kernel
theorem dX5_letters_19 : decode cX5_letters 19 = .ok (.iconst 0, 1) := by decide +kernel
theorem dX5_letters_20 : decode cX5_letters 20 = .ok (.istore_n 2, 1) := by decide +kernel
theorem dX5_letters_21 : decode cX5_letters 21 = .ok (.iconst 0, 1) := by decide +kernel
theorem dX5_letters_22 : decode cX5_letters 22 = .ok (.istore_n 3, 1) := by decide +kernel
theorem dX5_letters_23 : decode cX5_letters 23 = .ok (.iload_n 3, 1) := by decide +kernel
theorem dX5_letters_24 : decode cX5_letters 24 = .ok (.aload_n 0, 1) := by decide +kernel
theorem dX5_letters_25 : decode cX5_letters 25 = .ok (.getfield 21, 3) := by decide +kernel
theorem dX5_letters_28 : decode cX5_letters 28 = .ok (.if_icmp .ge 32, 3) := by decide +kernel
theorem dX5_letters_31 : decode cX5_letters 31 = .ok (.iload_n 2, 1) := by decide +kernel
theorem dX5_letters_32 : decode cX5_letters 32 = .ok (.aload_n 0, 1) := by decide +kernel
theorem dX5_letters_33 : decode cX5_letters 33 = .ok (.getfield 17, 3) := by decide +kernel
theorem dX5_letters_36 : decode cX5_letters 36 = .ok (.iload_n 3, 1) := by decide +kernel
theorem dX5_letters_37 : decode cX5_letters 37 = .ok (.aaload, 1) := by decide +kernel
theorem dX5_letters_38 : decode cX5_letters 38 = .ok (.getfield 128, 3) := by decide +kernel
theorem dX5_letters_41 : decode cX5_letters 41 = .ok (.aload_n 0, 1) := by decide +kernel
theorem dX5_letters_42 : decode cX5_letters 42 = .ok (.getfield 17, 3) := by decide +kernel
theorem dX5_letters_45 : decode cX5_letters 45 = .ok (.iload_n 3, 1) := by decide +kernel
theorem dX5_letters_46 : decode cX5_letters 46 = .ok (.aaload, 1) := by decide +kernel
theorem dX5_letters_47 : decode cX5_letters 47 = .ok (.iload_n 1, 1) := by decide +kernel
theorem dX5_letters_48 : decode cX5_letters 48 = .ok (.invokevirtual 150, 3) := by decide +kernel
theorem dX5_letters_51 : decode cX5_letters 51 = .ok (.imul, 1) := by decide +kernel
theorem dX5_letters_52 : decode cX5_letters 52 = .ok (.iadd, 1) := by decide +kernel
theorem dX5_letters_53 : decode cX5_letters 53 = .ok (.istore_n 2, 1) := by decide +kernel
theorem dX5_letters_54 : decode cX5_letters 54 = .ok (.iinc 3 1, 3) := by decide +kernel
theorem dX5_letters_57 : decode cX5_letters 57 = .ok (.goto (-34), 3) := by decide +kernel
theorem dX5_letters_60 : decode cX5_letters 60 = .ok (.iload_n 2, 1) := by decide +kernel
theorem dX5_letters_61 : decode cX5_letters 61 = .ok (.ireturn, 1) := by decide +kernel
theorem dX5_requireNonterminal_0 : decode cX5_requireNonterminal 0 = .ok (.iload_n 0, 1) := by decide +kernel
theorem dX5_requireNonterminal_1 : decode cX5_requireNonterminal 1 = .ok (.ifCond .lt 8, 3) := by decide +kernel
theorem dX5_requireNonterminal_4 : decode cX5_requireNonterminal 4 = .ok (.iload_n 0, 1) := by decide +kernel
theorem dX5_requireNonterminal_5 : decode cX5_requireNonterminal 5 = .ok (.iconst 5, 1) := by decide +kernel
theorem dX5_requireNonterminal_6 : decode cX5_requireNonterminal 6 = .ok (.if_icmp .lt 13, 3) := by decide +kernel
theorem dX5_requireNonterminal_9 : decode cX5_requireNonterminal 9 = .ok (.new 132, 3) := by decide +kernel
theorem dX5_requireNonterminal_12 : decode cX5_requireNonterminal 12 = .ok (.dup, 1) := by decide +kernel
theorem dX5_requireNonterminal_13 : decode cX5_requireNonterminal 13 = .ok (.ldc 153, 2) := by decide +kernel
theorem dX5_requireNonterminal_15 : decode cX5_requireNonterminal 15 = .ok (.invokespecial 136, 3) := by decide +kernel
theorem dX5_requireNonterminal_18 : decode cX5_requireNonterminal 18 = .ok (.athrow, 1) := by decide +kernel
theorem dX5_requireNonterminal_19 : decode cX5_requireNonterminal 19 = .ok (.return_, 1) := by decide +kernel
theorem dX5_requireSymbol_0 : decode cX5_requireSymbol 0 = .ok (.iload_n 0, 1) := by decide +kernel
theorem dX5_requireSymbol_1 : decode cX5_requireSymbol 1 = .ok (.iconst (-1), 1) := by decide +kernel
theorem dX5_requireSymbol_2 : decode cX5_requireSymbol 2 = .ok (.if_icmp .lt 9, 3) := by decide +kernel
theorem dX5_requireSymbol_5 : decode cX5_requireSymbol 5 = .ok (.iload_n 0, 1) := by decide +kernel
theorem dX5_requireSymbol_6 : decode cX5_requireSymbol 6 = .ok (.bipush 7, 2) := by decide +kernel
theorem dX5_requireSymbol_8 : decode cX5_requireSymbol 8 = .ok (.if_icmp .le 13, 3) := by decide +kernel
theorem dX5_requireSymbol_11 : decode cX5_requireSymbol 11 = .ok (.new 132, 3) := by decide +kernel
theorem dX5_requireSymbol_14 : decode cX5_requireSymbol 14 = .ok (.dup, 1) := by decide +kernel
theorem dX5_requireSymbol_15 : decode cX5_requireSymbol 15 = .ok (.ldc 155, 2) := by decide +kernel
theorem dX5_requireSymbol_17 : decode cX5_requireSymbol 17 = .ok (.invokespecial 136, 3) := by decide +kernel
theorem dX5_requireSymbol_20 : decode cX5_requireSymbol 20 = .ok (.athrow, 1) := by decide +kernel
theorem dX5_requireSymbol_21 : decode cX5_requireSymbol 21 = .ok (.return_, 1) := by decide +kernel
theorem dX5_requireNumber_0 : decode cX5_requireNumber 0 = .ok (.iload_n 0, 1) := by decide +kernel
theorem dX5_requireNumber_1 : decode cX5_requireNumber 1 = .ok (.ifCond .lt 9, 3) := by decide +kernel
theorem dX5_requireNumber_4 : decode cX5_requireNumber 4 = .ok (.iload_n 0, 1) := by decide +kernel
theorem dX5_requireNumber_5 : decode cX5_requireNumber 5 = .ok (.bipush 7, 2) := by decide +kernel
theorem dX5_requireNumber_7 : decode cX5_requireNumber 7 = .ok (.if_icmp .le 13, 3) := by decide +kernel
theorem dX5_requireNumber_10 : decode cX5_requireNumber 10 = .ok (.new 132, 3) := by decide +kernel
theorem dX5_requireNumber_13 : decode cX5_requireNumber 13 = .ok (.dup, 1) := by decide +kernel
theorem dX5_requireNumber_14 : decode cX5_requireNumber 14 = .ok (.ldc 157, 2) := by decide +kernel
theorem dX5_requireNumber_16 : decode cX5_requireNumber 16 = .ok (.invokespecial 136, 3) := by decide +kernel
theorem dX5_requireNumber_19 : decode cX5_requireNumber 19 = .ok (.athrow, 1) := by decide +kernel
theorem dX5_requireNumber_20 : decode cX5_requireNumber 20 = .ok (.return_, 1) := by decide +kernel
theorem dX5_countOf_0 : decode cX5_countOf 0 = .ok (.iload_n 0, 1) := by decide +kernel
theorem dX5_countOf_1 : decode cX5_countOf 1 = .ok (.invokestatic 159, 3) := by decide +kernel
theorem dX5_countOf_4 : decode cX5_countOf 4 = .ok (.iload_n 1, 1) := by decide +kernel
theorem dX5_countOf_5 : decode cX5_countOf 5 = .ok (.invokestatic 159, 3) := by decide +kernel
theorem dX5_countOf_8 : decode cX5_countOf 8 = .ok (.iload_n 2, 1) := by decide +kernel
theorem dX5_countOf_9 : decode cX5_countOf 9 = .ok (.invokestatic 159, 3) := by decide +kernel
theorem dX5_countOf_12 : decode cX5_countOf 12 = .ok (.iload_n 0, 1) := by decide +kernel
theorem dX5_countOf_13 : decode cX5_countOf 13 = .ok (.bipush 8, 2) := by decide +kernel
theorem dX5_countOf_15 : decode cX5_countOf 15 = .ok (.iload_n 1, 1) := by decide +kernel
theorem dX5_countOf_16 : decode cX5_countOf 16 = .ok (.imul, 1) := by decide +kernel
theorem dX5_countOf_17 : decode cX5_countOf 17 = .ok (.iadd, 1) := by decide +kernel
theorem dX5_countOf_18 : decode cX5_countOf 18 = .ok (.bipush 64, 2) := by decide +kernel
theorem dX5_countOf_20 : decode cX5_countOf 20 = .ok (.iload_n 2, 1) := by decide +kernel
theorem dX5_countOf_21 : decode cX5_countOf 21 = .ok (.imul, 1) := by decide +kernel
theorem dX5_countOf_22 : decode cX5_countOf 22 = .ok (.iadd, 1) := by decide +kernel
theorem dX5_countOf_23 : decode cX5_countOf 23 = .ok (.ireturn, 1) := by decide +kernel
theorem dX5_rulesChanged_0 : decode cX5_rulesChanged 0 = .ok (.aload_n 0, 1) := by decide +kernel
theorem dX5_rulesChanged_1 : decode cX5_rulesChanged 1 = .ok (.iconst 1, 1) := by decide +kernel
theorem dX5_rulesChanged_2 : decode cX5_rulesChanged 2 = .ok (.putfield 25, 3) := by decide +kernel
theorem dX5_rulesChanged_5 : decode cX5_rulesChanged 5 = .ok (.aload_n 0, 1) := by decide +kernel
theorem dX5_rulesChanged_6 : decode cX5_rulesChanged 6 = .ok (.iconst 0, 1) := by decide +kernel
theorem dX5_rulesChanged_7 : decode cX5_rulesChanged 7 = .ok (.putfield 33, 3) := by decide +kernel
theorem dX5_rulesChanged_10 : decode cX5_rulesChanged 10 = .ok (.return_, 1) := by decide +kernel
theorem dX5_workOut_0 : decode cX5_workOut 0 = .ok (.aload_n 0, 1) := by decide +kernel
theorem dX5_workOut_1 : decode cX5_workOut 1 = .ok (.getfield 25, 3) := by decide +kernel
theorem dX5_workOut_4 : decode cX5_workOut 4 = .ok (.ifCond .ne 4, 3) := by decide +kernel
theorem dX5_workOut_7 : decode cX5_workOut 7 = .ok (.return_, 1) := by decide +kernel
theorem dX5_workOut_8 : decode cX5_workOut 8 = .ok (.iconst 0, 1) := by decide +kernel
theorem dX5_workOut_9 : decode cX5_workOut 9 = .ok (.istore_n 1, 1) := by decide +kernel
theorem dX5_workOut_10 : decode cX5_workOut 10 = .ok (.iload_n 1, 1) := by decide +kernel
theorem dX5_workOut_11 : decode cX5_workOut 11 = .ok (.iconst 5, 1) := by decide +kernel
theorem dX5_workOut_12 : decode cX5_workOut 12 = .ok (.if_icmp .ge 18, 3) := by decide +kernel
theorem dX5_workOut_15 : decode cX5_workOut 15 = .ok (.aload_n 0, 1) := by decide +kernel
theorem dX5_workOut_16 : decode cX5_workOut 16 = .ok (.getfield 11, 3) := by decide +kernel
theorem dX5_workOut_19 : decode cX5_workOut 19 = .ok (.iload_n 1, 1) := by decide +kernel
theorem dX5_workOut_20 : decode cX5_workOut 20 = .ok (.aaload, 1) := by decide +kernel
theorem dX5_workOut_21 : decode cX5_workOut 21 = .ok (.invokevirtual 162, 3) := by decide +kernel
theorem dX5_workOut_24 : decode cX5_workOut 24 = .ok (.iinc 1 1, 3) := by decide +kernel
theorem dX5_workOut_27 : decode cX5_workOut 27 = .ok (.goto (-17), 3) := by decide +kernel
theorem dX5_workOut_30 : decode cX5_workOut 30 = .ok (.iconst 0, 1) := by decide +kernel
theorem dX5_workOut_31 : decode cX5_workOut 31 = .ok (.istore_n 1, 1) := by decide +kernel
theorem dX5_workOut_32 : decode cX5_workOut 32 = .ok (.iload_n 1, 1) := by decide +kernel
theorem dX5_workOut_33 : decode cX5_workOut 33 = .ok (.aload_n 0, 1) := by decide +kernel
theorem dX5_workOut_34 : decode cX5_workOut 34 = .ok (.getfield 21, 3) := by decide +kernel
theorem dX5_workOut_37 : decode cX5_workOut 37 = .ok (.if_icmp .ge 18, 3) := by decide +kernel
theorem dX5_workOut_40 : decode cX5_workOut 40 = .ok (.aload_n 0, 1) := by decide +kernel
theorem dX5_workOut_41 : decode cX5_workOut 41 = .ok (.getfield 17, 3) := by decide +kernel
theorem dX5_workOut_44 : decode cX5_workOut 44 = .ok (.iload_n 1, 1) := by decide +kernel
theorem dX5_workOut_45 : decode cX5_workOut 45 = .ok (.aaload, 1) := by decide +kernel
theorem dX5_workOut_46 : decode cX5_workOut 46 = .ok (.invokevirtual 165, 3) := by decide +kernel
theorem dX5_workOut_49 : decode cX5_workOut 49 = .ok (.iinc 1 1, 3) := by decide +kernel
theorem dX5_workOut_52 : decode cX5_workOut 52 = .ok (.goto (-20), 3) := by decide +kernel
theorem dX5_workOut_55 : decode cX5_workOut 55 = .ok (.iconst 1, 1) := by decide +kernel
theorem dX5_workOut_56 : decode cX5_workOut 56 = .ok (.istore_n 1, 1) := by decide +kernel
theorem dX5_workOut_57 : decode cX5_workOut 57 = .ok (.iconst 1, 1) := by decide +kernel
theorem dX5_workOut_58 : decode cX5_workOut 58 = .ok (.istore_n 2, 1) := by decide +kernel
theorem dX5_workOut_59 : decode cX5_workOut 59 = .ok (.iload_n 2, 1) := by decide +kernel
theorem dX5_workOut_60 : decode cX5_workOut 60 = .ok (.sipush 2561, 3) := by decide +kernel
theorem dX5_workOut_63 : decode cX5_workOut 63 = .ok (.if_icmp .gt 19, 3) := by decide +kernel
theorem dX5_workOut_66 : decode cX5_workOut 66 = .ok (.iload_n 1, 1) := by decide +kernel
theorem dX5_workOut_67 : decode cX5_workOut 67 = .ok (.ifCond .eq 15, 3) := by decide +kernel
theorem dX5_workOut_70 : decode cX5_workOut 70 = .ok (.aload_n 0, 1) := by decide +kernel
theorem dX5_workOut_71 : decode cX5_workOut 71 = .ok (.iload_n 2, 1) := by decide +kernel
theorem dX5_workOut_72 : decode cX5_workOut 72 = .ok (.invokevirtual 166, 3) := by decide +kernel
theorem dX5_workOut_75 : decode cX5_workOut 75 = .ok (.istore_n 1, 1) := by decide +kernel
theorem dX5_workOut_76 : decode cX5_workOut 76 = .ok (.iinc 2 1, 3) := by decide +kernel
theorem dX5_workOut_79 : decode cX5_workOut 79 = .ok (.goto (-20), 3) := by decide +kernel
theorem dX5_workOut_82 : decode cX5_workOut 82 = .ok (.aload_n 0, 1) := by decide +kernel
theorem dX5_workOut_83 : decode cX5_workOut 83 = .ok (.iconst 0, 1) := by decide +kernel
theorem dX5_workOut_84 : decode cX5_workOut 84 = .ok (.putfield 25, 3) := by decide +kernel
theorem dX5_workOut_87 : decode cX5_workOut 87 = .ok (.return_, 1) := by decide +kernel
theorem dX5_runRound_0 : decode cX5_runRound 0 = .ok (.iconst 0, 1) := by decide +kernel
theorem dX5_runRound_1 : decode cX5_runRound 1 = .ok (.istore_n 2, 1) := by decide +kernel
theorem dX5_runRound_2 : decode cX5_runRound 2 = .ok (.iload_n 2, 1) := by decide +kernel
theorem dX5_runRound_3 : decode cX5_runRound 3 = .ok (.aload_n 0, 1) := by decide +kernel
theorem dX5_runRound_4 : decode cX5_runRound 4 = .ok (.getfield 21, 3) := by decide +kernel
theorem dX5_runRound_7 : decode cX5_runRound 7 = .ok (.if_icmp .ge 43, 3) := by decide +kernel
theorem dX5_runRound_10 : decode cX5_runRound 10 = .ok (.aload_n 0, 1) := by decide +kernel
theorem dX5_runRound_11 : decode cX5_runRound 11 = .ok (.getfield 17, 3) := by decide +kernel
theorem dX5_runRound_14 : decode cX5_runRound 14 = .ok (.iload_n 2, 1) := by decide +kernel
theorem dX5_runRound_15 : decode cX5_runRound 15 = .ok (.aaload, 1) := by decide +kernel
theorem dX5_runRound_16 : decode cX5_runRound 16 = .ok (.astore_n 3, 1) := by decide +kernel
theorem dX5_runRound_17 : decode cX5_runRound 17 = .ok (.aload_n 3, 1) := by decide +kernel
theorem dX5_runRound_18 : decode cX5_runRound 18 = .ok (.aload_n 0, 1) := by decide +kernel
theorem dX5_runRound_19 : decode cX5_runRound 19 = .ok (.getfield 11, 3) := by decide +kernel
theorem dX5_runRound_22 : decode cX5_runRound 22 = .ok (.iload_n 1, 1) := by decide +kernel
theorem dX5_runRound_23 : decode cX5_runRound 23 = .ok (.invokevirtual 169, 3) := by decide +kernel
theorem dX5_runRound_26 : decode cX5_runRound 26 = .ok (.aload_n 0, 1) := by decide +kernel
theorem dX5_runRound_27 : decode cX5_runRound 27 = .ok (.getfield 11, 3) := by decide +kernel
theorem dX5_runRound_30 : decode cX5_runRound 30 = .ok (.aload_n 3, 1) := by decide +kernel
theorem dX5_runRound_31 : decode cX5_runRound 31 = .ok (.getfield 173, 3) := by decide +kernel
theorem dX5_runRound_34 : decode cX5_runRound 34 = .ok (.aaload, 1) := by decide +kernel
theorem dX5_runRound_35 : decode cX5_runRound 35 = .ok (.aload_n 3, 1) := by decide +kernel
theorem dX5_runRound_36 : decode cX5_runRound 36 = .ok (.invokevirtual 176, 3) := by decide +kernel
theorem dX5_runRound_39 : decode cX5_runRound 39 = .ok (.iload_n 2, 1) := by decide +kernel
theorem dX5_runRound_40 : decode cX5_runRound 40 = .ok (.iload_n 1, 1) := by decide +kernel
theorem dX5_runRound_41 : decode cX5_runRound 41 = .ok (.invokevirtual 180, 3) := by decide +kernel
theorem dX5_runRound_44 : decode cX5_runRound 44 = .ok (.iinc 2 1, 3) := by decide +kernel
theorem dX5_runRound_47 : decode cX5_runRound 47 = .ok (.goto (-45), 3) := by decide +kernel
theorem dX5_runRound_50 : decode cX5_runRound 50 = .ok (.iconst 0, 1) := by decide +kernel
theorem dX5_runRound_51 : decode cX5_runRound 51 = .ok (.istore_n 2, 1) := by decide +kernel
theorem dX5_runRound_52 : decode cX5_runRound 52 = .ok (.iconst 0, 1) := by decide +kernel
theorem dX5_runRound_53 : decode cX5_runRound 53 = .ok (.istore_n 3, 1) := by decide +kernel
theorem dX5_runRound_54 : decode cX5_runRound 54 = .ok (.iload_n 3, 1) := by decide +kernel
theorem dX5_runRound_55 : decode cX5_runRound 55 = .ok (.iconst 5, 1) := by decide +kernel
theorem dX5_runRound_56 : decode cX5_runRound 56 = .ok (.if_icmp .ge 43, 3) := by decide +kernel
theorem dX5_runRound_59 : decode cX5_runRound 59 = .ok (.aload_n 0, 1) := by decide +kernel
theorem dX5_runRound_60 : decode cX5_runRound 60 = .ok (.getfield 11, 3) := by decide +kernel
theorem dX5_runRound_63 : decode cX5_runRound 63 = .ok (.iload_n 3, 1) := by decide +kernel
theorem dX5_runRound_64 : decode cX5_runRound 64 = .ok (.aaload, 1) := by decide +kernel
theorem dX5_runRound_65 : decode cX5_runRound 65 = .ok (.invokevirtual 184, 3) := by decide +kernel
theorem dX5_runRound_68 : decode cX5_runRound 68 = .ok (.iload_n 2, 1) := by decide +kernel
theorem dX5_runRound_69 : decode cX5_runRound 69 = .ok (.ifCond .ne 18, 3) := by decide +kernel
theorem dX5_runRound_72 : decode cX5_runRound 72 = .ok (.aload_n 0, 1) := by decide +kernel
theorem dX5_runRound_73 : decode cX5_runRound 73 = .ok (.getfield 11, 3) := by decide +kernel
theorem dX5_runRound_76 : decode cX5_runRound 76 = .ok (.iload_n 3, 1) := by decide +kernel
theorem dX5_runRound_77 : decode cX5_runRound 77 = .ok (.aaload, 1) := by decide +kernel
theorem dX5_runRound_78 : decode cX5_runRound 78 = .ok (.getfield 187, 3) := by decide +kernel
theorem dX5_runRound_81 : decode cX5_runRound 81 = .ok (.invokevirtual 190, 3) := by decide +kernel
theorem dX5_runRound_84 : decode cX5_runRound 84 = .ok (.ifCond .ne 7, 3) := by decide +kernel
theorem dX5_runRound_87 : decode cX5_runRound 87 = .ok (.iconst 1, 1) := by decide +kernel
theorem dX5_runRound_88 : decode cX5_runRound 88 = .ok (.goto 4, 3) := by decide +kernel
theorem dX5_runRound_91 : decode cX5_runRound 91 = .ok (.iconst 0, 1) := by decide +kernel
theorem dX5_runRound_92 : decode cX5_runRound 92 = .ok (.istore_n 2, 1) := by decide +kernel
theorem dX5_runRound_93 : decode cX5_runRound 93 = .ok (.iinc 3 1, 3) := by decide +kernel
theorem dX5_runRound_96 : decode cX5_runRound 96 = .ok (.goto (-42), 3) := by decide +kernel
theorem dX5_runRound_99 : decode cX5_runRound 99 = .ok (.iload_n 2, 1) := by decide +kernel
theorem dX5_runRound_100 : decode cX5_runRound 100 = .ok (.ireturn, 1) := by decide +kernel
theorem dX5_timesOnTheLeft_0 : decode cX5_timesOnTheLeft 0 = .ok (.iconst 0, 1) := by decide +kernel
theorem dX5_timesOnTheLeft_1 : decode cX5_timesOnTheLeft 1 = .ok (.istore_n 2, 1) := by decide +kernel
theorem dX5_timesOnTheLeft_2 : decode cX5_timesOnTheLeft 2 = .ok (.iconst 0, 1) := by decide +kernel
theorem dX5_timesOnTheLeft_3 : decode cX5_timesOnTheLeft 3 = .ok (.istore_n 3, 1) := by decide +kernel
theorem dX5_timesOnTheLeft_4 : decode cX5_timesOnTheLeft 4 = .ok (.iload_n 3, 1) := by decide +kernel
theorem dX5_timesOnTheLeft_5 : decode cX5_timesOnTheLeft 5 = .ok (.aload_n 0, 1) := by decide +kernel
theorem dX5_timesOnTheLeft_6 : decode cX5_timesOnTheLeft 6 = .ok (.getfield 21, 3) := by decide +kernel
theorem dX5_timesOnTheLeft_9 : decode cX5_timesOnTheLeft 9 = .ok (.if_icmp .ge 34, 3) := by decide +kernel
theorem dX5_timesOnTheLeft_12 : decode cX5_timesOnTheLeft 12 = .ok (.aload_n 0, 1) := by decide +kernel
theorem dX5_timesOnTheLeft_13 : decode cX5_timesOnTheLeft 13 = .ok (.getfield 17, 3) := by decide +kernel
theorem dX5_timesOnTheLeft_16 : decode cX5_timesOnTheLeft 16 = .ok (.iload_n 3, 1) := by decide +kernel
theorem dX5_timesOnTheLeft_17 : decode cX5_timesOnTheLeft 17 = .ok (.aaload, 1) := by decide +kernel
theorem dX5_timesOnTheLeft_18 : decode cX5_timesOnTheLeft 18 = .ok (.getfield 173, 3) := by decide +kernel
theorem dX5_timesOnTheLeft_21 : decode cX5_timesOnTheLeft 21 = .ok (.iload_n 1, 1) := by decide +kernel
theorem dX5_timesOnTheLeft_22 : decode cX5_timesOnTheLeft 22 = .ok (.if_icmp .ne 15, 3) := by decide +kernel
theorem dX5_timesOnTheLeft_25 : decode cX5_timesOnTheLeft 25 = .ok (.iload_n 2, 1) := by decide +kernel
theorem dX5_timesOnTheLeft_26 : decode cX5_timesOnTheLeft 26 = .ok (.aload_n 0, 1) := by decide +kernel
theorem dX5_timesOnTheLeft_27 : decode cX5_timesOnTheLeft 27 = .ok (.getfield 17, 3) := by decide +kernel
theorem dX5_timesOnTheLeft_30 : decode cX5_timesOnTheLeft 30 = .ok (.iload_n 3, 1) := by decide +kernel
theorem dX5_timesOnTheLeft_31 : decode cX5_timesOnTheLeft 31 = .ok (.aaload, 1) := by decide +kernel
theorem dX5_timesOnTheLeft_32 : decode cX5_timesOnTheLeft 32 = .ok (.getfield 128, 3) := by decide +kernel
theorem dX5_timesOnTheLeft_35 : decode cX5_timesOnTheLeft 35 = .ok (.iadd, 1) := by decide +kernel
theorem dX5_timesOnTheLeft_36 : decode cX5_timesOnTheLeft 36 = .ok (.istore_n 2, 1) := by decide +kernel
theorem dX5_timesOnTheLeft_37 : decode cX5_timesOnTheLeft 37 = .ok (.iinc 3 1, 3) := by decide +kernel
theorem dX5_timesOnTheLeft_40 : decode cX5_timesOnTheLeft 40 = .ok (.goto (-36), 3) := by decide +kernel
theorem dX5_timesOnTheLeft_43 : decode cX5_timesOnTheLeft 43 = .ok (.iload_n 2, 1) := by decide +kernel
theorem dX5_timesOnTheLeft_44 : decode cX5_timesOnTheLeft 44 = .ok (.ireturn, 1) := by decide +kernel
theorem dX5_timesOnTheRight_0 : decode cX5_timesOnTheRight 0 = .ok (.iconst 0, 1) := by decide +kernel
theorem dX5_timesOnTheRight_1 : decode cX5_timesOnTheRight 1 = .ok (.istore_n 2, 1) := by decide +kernel
theorem dX5_timesOnTheRight_2 : decode cX5_timesOnTheRight 2 = .ok (.iconst 0, 1) := by decide +kernel
theorem dX5_timesOnTheRight_3 : decode cX5_timesOnTheRight 3 = .ok (.istore_n 3, 1) := by decide +kernel
theorem dX5_timesOnTheRight_4 : decode cX5_timesOnTheRight 4 = .ok (.iload_n 3, 1) := by decide +kernel
theorem dX5_timesOnTheRight_5 : decode cX5_timesOnTheRight 5 = .ok (.aload_n 0, 1) := by decide +kernel
theorem dX5_timesOnTheRight_6 : decode cX5_timesOnTheRight 6 = .ok (.getfield 21, 3) := by decide +kernel
theorem dX5_timesOnTheRight_9 : decode cX5_timesOnTheRight 9 = .ok (.if_icmp .ge 32, 3) := by decide +kernel
theorem dX5_timesOnTheRight_12 : decode cX5_timesOnTheRight 12 = .ok (.iload_n 2, 1) := by decide +kernel
theorem dX5_timesOnTheRight_13 : decode cX5_timesOnTheRight 13 = .ok (.aload_n 0, 1) := by decide +kernel
theorem dX5_timesOnTheRight_14 : decode cX5_timesOnTheRight 14 = .ok (.getfield 17, 3) := by decide +kernel
theorem dX5_timesOnTheRight_17 : decode cX5_timesOnTheRight 17 = .ok (.iload_n 3, 1) := by decide +kernel
theorem dX5_timesOnTheRight_18 : decode cX5_timesOnTheRight 18 = .ok (.aaload, 1) := by decide +kernel
theorem dX5_timesOnTheRight_19 : decode cX5_timesOnTheRight 19 = .ok (.getfield 128, 3) := by decide +kernel
theorem dX5_timesOnTheRight_22 : decode cX5_timesOnTheRight 22 = .ok (.aload_n 0, 1) := by decide +kernel
theorem dX5_timesOnTheRight_23 : decode cX5_timesOnTheRight 23 = .ok (.getfield 17, 3) := by decide +kernel
theorem dX5_timesOnTheRight_26 : decode cX5_timesOnTheRight 26 = .ok (.iload_n 3, 1) := by decide +kernel
theorem dX5_timesOnTheRight_27 : decode cX5_timesOnTheRight 27 = .ok (.aaload, 1) := by decide +kernel
theorem dX5_timesOnTheRight_28 : decode cX5_timesOnTheRight 28 = .ok (.iload_n 1, 1) := by decide +kernel
theorem dX5_timesOnTheRight_29 : decode cX5_timesOnTheRight 29 = .ok (.invokevirtual 194, 3) := by decide +kernel
theorem dX5_timesOnTheRight_32 : decode cX5_timesOnTheRight 32 = .ok (.imul, 1) := by decide +kernel
theorem dX5_timesOnTheRight_33 : decode cX5_timesOnTheRight 33 = .ok (.iadd, 1) := by decide +kernel
theorem dX5_timesOnTheRight_34 : decode cX5_timesOnTheRight 34 = .ok (.istore_n 2, 1) := by decide +kernel
theorem dX5_timesOnTheRight_35 : decode cX5_timesOnTheRight 35 = .ok (.iinc 3 1, 3) := by decide +kernel
theorem dX5_timesOnTheRight_38 : decode cX5_timesOnTheRight 38 = .ok (.goto (-34), 3) := by decide +kernel
theorem dX5_timesOnTheRight_41 : decode cX5_timesOnTheRight 41 = .ok (.iload_n 2, 1) := by decide +kernel
theorem dX5_timesOnTheRight_42 : decode cX5_timesOnTheRight 42 = .ok (.ireturn, 1) := by decide +kernel
theorem dX5_reachedFrom_0 : decode cX5_reachedFrom 0 = .ok (.iconst 1, 1) := by decide +kernel
theorem dX5_reachedFrom_1 : decode cX5_reachedFrom 1 = .ok (.iload_n 1, 1) := by decide +kernel
theorem dX5_reachedFrom_2 : decode cX5_reachedFrom 2 = .ok (.ishl, 1) := by decide +kernel
theorem dX5_reachedFrom_3 : decode cX5_reachedFrom 3 = .ok (.istore_n 2, 1) := by decide +kernel
theorem dX5_reachedFrom_4 : decode cX5_reachedFrom 4 = .ok (.iconst 1, 1) := by decide +kernel
theorem dX5_reachedFrom_5 : decode cX5_reachedFrom 5 = .ok (.istore_n 3, 1) := by decide +kernel
theorem dX5_reachedFrom_6 : decode cX5_reachedFrom 6 = .ok (.iload_n 3, 1) := by decide +kernel
theorem dX5_reachedFrom_7 : decode cX5_reachedFrom 7 = .ok (.iconst 5, 1) := by decide +kernel
theorem dX5_reachedFrom_8 : decode cX5_reachedFrom 8 = .ok (.if_icmp .ge 70, 3) := by decide +kernel
theorem dX5_reachedFrom_11 : decode cX5_reachedFrom 11 = .ok (.iconst 0, 1) := by decide +kernel
theorem dX5_reachedFrom_12 : decode cX5_reachedFrom 12 = .ok (.istore 4, 2) := by decide +kernel
theorem dX5_reachedFrom_14 : decode cX5_reachedFrom 14 = .ok (.iload 4, 2) := by decide +kernel
theorem dX5_reachedFrom_16 : decode cX5_reachedFrom 16 = .ok (.aload_n 0, 1) := by decide +kernel
theorem dX5_reachedFrom_17 : decode cX5_reachedFrom 17 = .ok (.getfield 21, 3) := by decide +kernel
theorem dX5_reachedFrom_20 : decode cX5_reachedFrom 20 = .ok (.if_icmp .ge 52, 3) := by decide +kernel
theorem dX5_reachedFrom_23 : decode cX5_reachedFrom 23 = .ok (.aload_n 0, 1) := by decide +kernel
theorem dX5_reachedFrom_24 : decode cX5_reachedFrom 24 = .ok (.getfield 17, 3) := by decide +kernel
theorem dX5_reachedFrom_27 : decode cX5_reachedFrom 27 = .ok (.iload 4, 2) := by decide +kernel
theorem dX5_reachedFrom_29 : decode cX5_reachedFrom 29 = .ok (.aaload, 1) := by decide +kernel
theorem dX5_reachedFrom_30 : decode cX5_reachedFrom 30 = .ok (.getfield 128, 3) := by decide +kernel
theorem dX5_reachedFrom_33 : decode cX5_reachedFrom 33 = .ok (.ifCond .le 33, 3) := by decide +kernel
theorem dX5_reachedFrom_36 : decode cX5_reachedFrom 36 = .ok (.iload_n 2, 1) := by decide +kernel
theorem dX5_reachedFrom_37 : decode cX5_reachedFrom 37 = .ok (.aload_n 0, 1) := by decide +kernel
theorem dX5_reachedFrom_38 : decode cX5_reachedFrom 38 = .ok (.getfield 17, 3) := by decide +kernel
theorem dX5_reachedFrom_41 : decode cX5_reachedFrom 41 = .ok (.iload 4, 2) := by decide +kernel
theorem dX5_reachedFrom_43 : decode cX5_reachedFrom 43 = .ok (.aaload, 1) := by decide +kernel
theorem dX5_reachedFrom_44 : decode cX5_reachedFrom 44 = .ok (.getfield 173, 3) := by decide +kernel
theorem dX5_reachedFrom_47 : decode cX5_reachedFrom 47 = .ok (.ishr, 1) := by decide +kernel
theorem dX5_reachedFrom_48 : decode cX5_reachedFrom 48 = .ok (.iconst 1, 1) := by decide +kernel
theorem dX5_reachedFrom_49 : decode cX5_reachedFrom 49 = .ok (.iand, 1) := by decide +kernel
theorem dX5_reachedFrom_50 : decode cX5_reachedFrom 50 = .ok (.ifCond .eq 16, 3) := by decide +kernel
theorem dX5_reachedFrom_53 : decode cX5_reachedFrom 53 = .ok (.iload_n 2, 1) := by decide +kernel
theorem dX5_reachedFrom_54 : decode cX5_reachedFrom 54 = .ok (.aload_n 0, 1) := by decide +kernel
theorem dX5_reachedFrom_55 : decode cX5_reachedFrom 55 = .ok (.getfield 17, 3) := by decide +kernel
theorem dX5_reachedFrom_58 : decode cX5_reachedFrom 58 = .ok (.iload 4, 2) := by decide +kernel
theorem dX5_reachedFrom_60 : decode cX5_reachedFrom 60 = .ok (.aaload, 1) := by decide +kernel
theorem dX5_reachedFrom_61 : decode cX5_reachedFrom 61 = .ok (.invokevirtual 197, 3) := by decide +kernel
theorem dX5_reachedFrom_64 : decode cX5_reachedFrom 64 = .ok (.ior, 1) := by decide +kernel
theorem dX5_reachedFrom_65 : decode cX5_reachedFrom 65 = .ok (.istore_n 2, 1) := by decide +kernel
theorem dX5_reachedFrom_66 : decode cX5_reachedFrom 66 = .ok (.iinc 4 1, 3) := by decide +kernel
theorem dX5_reachedFrom_69 : decode cX5_reachedFrom 69 = .ok (.goto (-55), 3) := by decide +kernel
theorem dX5_reachedFrom_72 : decode cX5_reachedFrom 72 = .ok (.iinc 3 1, 3) := by decide +kernel
theorem dX5_reachedFrom_75 : decode cX5_reachedFrom 75 = .ok (.goto (-69), 3) := by decide +kernel
theorem dX5_reachedFrom_78 : decode cX5_reachedFrom 78 = .ok (.iload_n 2, 1) := by decide +kernel
theorem dX5_reachedFrom_79 : decode cX5_reachedFrom 79 = .ok (.ireturn, 1) := by decide +kernel
