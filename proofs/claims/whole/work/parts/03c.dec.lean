theorem dX6_init_0 : decode cX6_init 0 = .ok (.aload_n 0, 1) := by decide +kernel
theorem dX6_init_1 : decode cX6_init 1 = .ok (.invokespecial 1, 3) := by decide +kernel
theorem dX6_init_4 : decode cX6_init 4 = .ok (.aload_n 0, 1) := by decide +kernel
theorem dX6_init_5 : decode cX6_init 5 = .ok (.bipush 10, 2) := by decide +kernel
theorem dX6_init_7 : decode cX6_init 7 = .ok (.newarray .int, 2) := by decide +kernel
theorem dX6_init_9 : decode cX6_init 9 = .ok (.putfield 7, 3) := by decide +kernel
theorem dX6_init_12 : decode cX6_init 12 = .ok (.aload_n 0, 1) := by decide +kernel
theorem dX6_init_13 : decode cX6_init 13 = .ok (.bipush 40, 2) := by decide +kernel
theorem dX6_init_15 : decode cX6_init 15 = .ok (.newarray .int, 2) := by decide +kernel
theorem dX6_init_17 : decode cX6_init 17 = .ok (.putfield 13, 3) := by decide +kernel
theorem dX6_init_20 : decode cX6_init 20 = .ok (.aload_n 0, 1) := by decide +kernel
theorem dX6_init_21 : decode cX6_init 21 = .ok (.bipush 10, 2) := by decide +kernel
theorem dX6_init_23 : decode cX6_init 23 = .ok (.newarray .int, 2) := by decide +kernel
theorem dX6_init_25 : decode cX6_init 25 = .ok (.putfield 16, 3) := by decide +kernel
theorem dX6_init_28 : decode cX6_init 28 = .ok (.aload_n 0, 1) := by decide +kernel
theorem dX6_init_29 : decode cX6_init 29 = .ok (.sipush 2560, 3) := by decide +kernel
theorem dX6_init_32 : decode cX6_init 32 = .ok (.newarray .int, 2) := by decide +kernel
theorem dX6_init_34 : decode cX6_init 34 = .ok (.putfield 19, 3) := by decide +kernel
theorem dX6_init_37 : decode cX6_init 37 = .ok (.aload_n 0, 1) := by decide +kernel
theorem dX6_init_38 : decode cX6_init 38 = .ok (.sipush 2560, 3) := by decide +kernel
theorem dX6_init_41 : decode cX6_init 41 = .ok (.newarray .boolean, 2) := by decide +kernel
theorem dX6_init_43 : decode cX6_init 43 = .ok (.putfield 22, 3) := by decide +kernel
theorem dX6_init_46 : decode cX6_init 46 = .ok (.aload_n 0, 1) := by decide +kernel
theorem dX6_init_47 : decode cX6_init 47 = .ok (.iconst (-1), 1) := by decide +kernel
theorem dX6_init_48 : decode cX6_init 48 = .ok (.putfield 26, 3) := by decide +kernel
theorem dX6_init_51 : decode cX6_init 51 = .ok (.aload_n 0, 1) := by decide +kernel
theorem dX6_init_52 : decode cX6_init 52 = .ok (.sipush 501, 3) := by decide +kernel
theorem dX6_init_55 : decode cX6_init 55 = .ok (.newarray .int, 2) := by decide +kernel
theorem dX6_init_57 : decode cX6_init 57 = .ok (.putfield 30, 3) := by decide +kernel
theorem dX6_init_60 : decode cX6_init 60 = .ok (.aload_n 0, 1) := by decide +kernel
theorem dX6_init_61 : decode cX6_init 61 = .ok (.sipush 501, 3) := by decide +kernel
theorem dX6_init_64 : decode cX6_init 64 = .ok (.newarray .int, 2) := by decide +kernel
theorem dX6_init_66 : decode cX6_init 66 = .ok (.putfield 33, 3) := by decide +kernel
theorem dX6_init_69 : decode cX6_init 69 = .ok (.aload_n 0, 1) := by decide +kernel
theorem dX6_init_70 : decode cX6_init 70 = .ok (.bipush 10, 2) := by decide +kernel
theorem dX6_init_72 : decode cX6_init 72 = .ok (.newarray .int, 2) := by decide +kernel
theorem dX6_init_74 : decode cX6_init 74 = .ok (.putfield 36, 3) := by decide +kernel
theorem dX6_init_77 : decode cX6_init 77 = .ok (.aload_n 0, 1) := by decide +kernel
theorem dX6_init_78 : decode cX6_init 78 = .ok (.sipush 2600, 3) := by decide +kernel
theorem dX6_init_81 : decode cX6_init 81 = .ok (.newarray .int, 2) := by decide +kernel
theorem dX6_init_83 : decode cX6_init 83 = .ok (.putfield 39, 3) := by decide +kernel
theorem dX6_init_86 : decode cX6_init 86 = .ok (.return_, 1) := by decide +kernel
theorem dX6_thrown_0 : decode cX6_thrown 0 = .ok (.aload_n 0, 1) := by decide +kernel
theorem dX6_thrown_1 : decode cX6_thrown 1 = .ok (.getfield 42, 3) := by decide +kernel
theorem dX6_thrown_4 : decode cX6_thrown 4 = .ok (.ireturn, 1) := by decide +kernel
theorem dX6_refuse_0 : decode cX6_refuse 0 = .ok (.aload_n 0, 1) := by decide +kernel
theorem dX6_refuse_1 : decode cX6_refuse 1 = .ok (.iload_n 1, 1) := by decide +kernel
theorem dX6_refuse_2 : decode cX6_refuse 2 = .ok (.ifCond .eq 7, 3) := by decide +kernel
theorem dX6_refuse_5 : decode cX6_refuse 5 = .ok (.iconst 1, 1) := by decide +kernel
theorem dX6_refuse_6 : decode cX6_refuse 6 = .ok (.goto 20, 3) := by decide +kernel
theorem dX6_refuse_9 : decode cX6_refuse 9 = .ok (.iload_n 2, 1) := by decide +kernel
theorem dX6_refuse_10 : decode cX6_refuse 10 = .ok (.ifCond .eq 7, 3) := by decide +kernel
theorem dX6_refuse_13 : decode cX6_refuse 13 = .ok (.iconst 2, 1) := by decide +kernel
theorem dX6_refuse_14 : decode cX6_refuse 14 = .ok (.goto 12, 3) := by decide +kernel
theorem dX6_refuse_17 : decode cX6_refuse 17 = .ok (.iload_n 3, 1) := by decide +kernel
theorem dX6_refuse_18 : decode cX6_refuse 18 = .ok (.ifCond .eq 7, 3) := by decide +kernel
theorem dX6_refuse_21 : decode cX6_refuse 21 = .ok (.iconst 3, 1) := by decide +kernel
theorem dX6_refuse_22 : decode cX6_refuse 22 = .ok (.goto 4, 3) := by decide +kernel
theorem dX6_refuse_25 : decode cX6_refuse 25 = .ok (.iconst 0, 1) := by decide +kernel
theorem dX6_refuse_26 : decode cX6_refuse 26 = .ok (.putfield 42, 3) := by decide +kernel
theorem dX6_refuse_29 : decode cX6_refuse 29 = .ok (.aload_n 0, 1) := by decide +kernel
theorem dX6_refuse_30 : decode cX6_refuse 30 = .ok (.getfield 42, 3) := by decide +kernel
theorem dX6_refuse_33 : decode cX6_refuse 33 = .ok (.ifCond .le 7, 3) := by decide +kernel
theorem dX6_refuse_36 : decode cX6_refuse 36 = .ok (.iconst 1, 1) := by decide +kernel
theorem dX6_refuse_37 : decode cX6_refuse 37 = .ok (.goto 4, 3) := by decide +kernel
theorem dX6_refuse_40 : decode cX6_refuse 40 = .ok (.iconst 0, 1) := by decide +kernel
theorem dX6_refuse_41 : decode cX6_refuse 41 = .ok (.ireturn, 1) := by decide +kernel
theorem dX6_in_0 : decode cX6_in 0 = .ok (.iload_n 0, 1) := by decide +kernel
theorem dX6_in_1 : decode cX6_in 1 = .ok (.iload_n 1, 1) := by decide +kernel
theorem dX6_in_2 : decode cX6_in 2 = .ok (.if_icmp .lt 12, 3) := by decide +kernel
theorem dX6_in_5 : decode cX6_in 5 = .ok (.iload_n 0, 1) := by decide +kernel
theorem dX6_in_6 : decode cX6_in 6 = .ok (.iload_n 2, 1) := by decide +kernel
theorem dX6_in_7 : decode cX6_in 7 = .ok (.if_icmp .gt 7, 3) := by decide +kernel
theorem dX6_in_10 : decode cX6_in 10 = .ok (.iconst 1, 1) := by decide +kernel
theorem dX6_in_11 : decode cX6_in 11 = .ok (.goto 4, 3) := by decide +kernel
theorem dX6_in_14 : decode cX6_in 14 = .ok (.iconst 0, 1) := by decide +kernel
theorem dX6_in_15 : decode cX6_in 15 = .ok (.ireturn, 1) := by decide +kernel
theorem dX6_isNonterminal_0 : decode cX6_isNonterminal 0 = .ok (.iload_n 0, 1) := by decide +kernel
theorem dX6_isNonterminal_1 : decode cX6_isNonterminal 1 = .ok (.iconst 0, 1) := by decide +kernel
theorem dX6_isNonterminal_2 : decode cX6_isNonterminal 2 = .ok (.iconst 4, 1) := by decide +kernel
theorem dX6_isNonterminal_3 : decode cX6_isNonterminal 3 = .ok (.invokestatic 45, 3) := by decide +kernel
theorem dX6_isNonterminal_6 : decode cX6_isNonterminal 6 = .ok (.ireturn, 1) := by decide +kernel
theorem dX6_rule_0 : decode cX6_rule 0 = .ok (.iload_n 1, 1) := by decide +kernel
theorem dX6_rule_1 : decode cX6_rule 1 = .ok (.invokestatic 49, 3) := by decide +kernel
theorem dX6_rule_4 : decode cX6_rule 4 = .ok (.ifCond .eq 49, 3) := by decide +kernel
theorem dX6_rule_7 : decode cX6_rule 7 = .ok (.iload_n 2, 1) := by decide +kernel
theorem dX6_rule_8 : decode cX6_rule 8 = .ok (.iconst (-1), 1) := by decide +kernel
theorem dX6_rule_9 : decode cX6_rule 9 = .ok (.bipush 7, 2) := by decide +kernel
theorem dX6_rule_11 : decode cX6_rule 11 = .ok (.invokestatic 45, 3) := by decide +kernel
theorem dX6_rule_14 : decode cX6_rule 14 = .ok (.ifCond .eq 39, 3) := by decide +kernel
theorem dX6_rule_17 : decode cX6_rule 17 = .ok (.iload_n 3, 1) := by decide +kernel
theorem dX6_rule_18 : decode cX6_rule 18 = .ok (.iconst (-1), 1) := by decide +kernel
theorem dX6_rule_19 : decode cX6_rule 19 = .ok (.bipush 7, 2) := by decide +kernel
theorem dX6_rule_21 : decode cX6_rule 21 = .ok (.invokestatic 45, 3) := by decide +kernel
theorem dX6_rule_24 : decode cX6_rule 24 = .ok (.ifCond .eq 29, 3) := by decide +kernel
theorem dX6_rule_27 : decode cX6_rule 27 = .ok (.iload 4, 2) := by decide +kernel
theorem dX6_rule_29 : decode cX6_rule 29 = .ok (.iconst (-1), 1) := by decide +kernel
theorem dX6_rule_30 : decode cX6_rule 30 = .ok (.bipush 7, 2) := by decide +kernel
theorem dX6_rule_32 : decode cX6_rule 32 = .ok (.invokestatic 45, 3) := by decide +kernel
theorem dX6_rule_35 : decode cX6_rule 35 = .ok (.ifCond .eq 18, 3) := by decide +kernel
theorem dX6_rule_38 : decode cX6_rule 38 = .ok (.iload 5, 2) := by decide +kernel
theorem dX6_rule_40 : decode cX6_rule 40 = .ok (.iconst (-1), 1) := by decide +kernel
theorem dX6_rule_41 : decode cX6_rule 41 = .ok (.bipush 7, 2) := by decide +kernel
theorem dX6_rule_43 : decode cX6_rule 43 = .ok (.invokestatic 45, 3) := by decide +kernel
theorem dX6_rule_46 : decode cX6_rule 46 = .ok (.ifCond .eq 7, 3) := by decide +kernel
theorem dX6_rule_49 : decode cX6_rule 49 = .ok (.iconst 1, 1) := by decide +kernel
theorem dX6_rule_50 : decode cX6_rule 50 = .ok (.goto 4, 3) := by decide +kernel
theorem dX6_rule_53 : decode cX6_rule 53 = .ok (.iconst 0, 1) := by decide +kernel
theorem dX6_rule_54 : decode cX6_rule 54 = .ok (.istore 6, 2) := by decide +kernel
theorem dX6_rule_56 : decode cX6_rule 56 = .ok (.aload_n 0, 1) := by decide +kernel
theorem dX6_rule_57 : decode cX6_rule 57 = .ok (.iload 6, 2) := by decide +kernel
theorem dX6_rule_59 : decode cX6_rule 59 = .ok (.ifCond .ne 7, 3) := by decide +kernel
theorem dX6_rule_62 : decode cX6_rule 62 = .ok (.iconst 1, 1) := by decide +kernel
theorem dX6_rule_63 : decode cX6_rule 63 = .ok (.goto 4, 3) := by decide +kernel
theorem dX6_rule_66 : decode cX6_rule 66 = .ok (.iconst 0, 1) := by decide +kernel
theorem dX6_rule_67 : decode cX6_rule 67 = .ok (.aload_n 0, 1) := by decide +kernel
theorem dX6_rule_68 : decode cX6_rule 68 = .ok (.getfield 53, 3) := by decide +kernel
theorem dX6_rule_71 : decode cX6_rule 71 = .ok (.bipush 10, 2) := by decide +kernel
theorem dX6_rule_73 : decode cX6_rule 73 = .ok (.if_icmp .ne 7, 3) := by decide +kernel
theorem dX6_rule_76 : decode cX6_rule 76 = .ok (.iconst 1, 1) := by decide +kernel
theorem dX6_rule_77 : decode cX6_rule 77 = .ok (.goto 4, 3) := by decide +kernel
theorem dX6_rule_80 : decode cX6_rule 80 = .ok (.iconst 0, 1) := by decide +kernel
theorem dX6_rule_81 : decode cX6_rule 81 = .ok (.iconst 0, 1) := by decide +kernel
theorem dX6_rule_82 : decode cX6_rule 82 = .ok (.invokevirtual 56, 3) := by decide +kernel
theorem dX6_rule_85 : decode cX6_rule 85 = .ok (.ifCond .eq 5, 3) := by decide +kernel
theorem dX6_rule_88 : decode cX6_rule 88 = .ok (.iconst 0, 1) := by decide +kernel
theorem dX6_rule_89 : decode cX6_rule 89 = .ok (.ireturn, 1) := by decide +kernel
theorem dX6_rule_90 : decode cX6_rule 90 = .ok (.aload_n 0, 1) := by decide +kernel
theorem dX6_rule_91 : decode cX6_rule 91 = .ok (.getfield 7, 3) := by decide +kernel
theorem dX6_rule_94 : decode cX6_rule 94 = .ok (.aload_n 0, 1) := by decide +kernel
theorem dX6_rule_95 : decode cX6_rule 95 = .ok (.getfield 53, 3) := by decide +kernel
theorem dX6_rule_98 : decode cX6_rule 98 = .ok (.iload_n 1, 1) := by decide +kernel
theorem dX6_rule_99 : decode cX6_rule 99 = .ok (.iastore, 1) := by decide +kernel
theorem dX6_rule_100 : decode cX6_rule 100 = .ok (.aload_n 0, 1) := by decide +kernel
theorem dX6_rule_101 : decode cX6_rule 101 = .ok (.getfield 13, 3) := by decide +kernel
theorem dX6_rule_104 : decode cX6_rule 104 = .ok (.iconst 4, 1) := by decide +kernel
theorem dX6_rule_105 : decode cX6_rule 105 = .ok (.aload_n 0, 1) := by decide +kernel
theorem dX6_rule_106 : decode cX6_rule 106 = .ok (.getfield 53, 3) := by decide +kernel
theorem dX6_rule_109 : decode cX6_rule 109 = .ok (.imul, 1) := by decide +kernel
theorem dX6_rule_110 : decode cX6_rule 110 = .ok (.iload_n 2, 1) := by decide +kernel
theorem dX6_rule_111 : decode cX6_rule 111 = .ok (.iastore, 1) := by decide +kernel
theorem dX6_rule_112 : decode cX6_rule 112 = .ok (.aload_n 0, 1) := by decide +kernel
theorem dX6_rule_113 : decode cX6_rule 113 = .ok (.getfield 13, 3) := by decide +kernel
theorem dX6_rule_116 : decode cX6_rule 116 = .ok (.iconst 4, 1) := by decide +kernel
theorem dX6_rule_117 : decode cX6_rule 117 = .ok (.aload_n 0, 1) := by decide +kernel
theorem dX6_rule_118 : decode cX6_rule 118 = .ok (.getfield 53, 3) := by decide +kernel
theorem dX6_rule_121 : decode cX6_rule 121 = .ok (.imul, 1) := by decide +kernel
theorem dX6_rule_122 : decode cX6_rule 122 = .ok (.iconst 1, 1) := by decide +kernel
theorem dX6_rule_123 : decode cX6_rule 123 = .ok (.iadd, 1) := by decide +kernel
theorem dX6_rule_124 : decode cX6_rule 124 = .ok (.iload_n 3, 1) := by decide +kernel
theorem dX6_rule_125 : decode cX6_rule 125 = .ok (.iastore, 1) := by decide +kernel
theorem dX6_rule_126 : decode cX6_rule 126 = .ok (.aload_n 0, 1) := by decide +kernel
theorem dX6_rule_127 : decode cX6_rule 127 = .ok (.getfield 13, 3) := by decide +kernel
theorem dX6_rule_130 : decode cX6_rule 130 = .ok (.iconst 4, 1) := by decide +kernel
theorem dX6_rule_131 : decode cX6_rule 131 = .ok (.aload_n 0, 1) := by decide +kernel
theorem dX6_rule_132 : decode cX6_rule 132 = .ok (.getfield 53, 3) := by decide +kernel
theorem dX6_rule_135 : decode cX6_rule 135 = .ok (.imul, 1) := by decide +kernel
theorem dX6_rule_136 : decode cX6_rule 136 = .ok (.iconst 2, 1) := by decide +kernel
theorem dX6_rule_137 : decode cX6_rule 137 = .ok (.iadd, 1) := by decide +kernel
theorem dX6_rule_138 : decode cX6_rule 138 = .ok (.iload 4, 2) := by decide +kernel
theorem dX6_rule_140 : decode cX6_rule 140 = .ok (.iastore, 1) := by decide +kernel
theorem dX6_rule_141 : decode cX6_rule 141 = .ok (.aload_n 0, 1) := by decide +kernel
theorem dX6_rule_142 : decode cX6_rule 142 = .ok (.getfield 13, 3) := by decide +kernel
theorem dX6_rule_145 : decode cX6_rule 145 = .ok (.iconst 4, 1) := by decide +kernel
theorem dX6_rule_146 : decode cX6_rule 146 = .ok (.aload_n 0, 1) := by decide +kernel
theorem dX6_rule_147 : decode cX6_rule 147 = .ok (.getfield 53, 3) := by decide +kernel
theorem dX6_rule_150 : decode cX6_rule 150 = .ok (.imul, 1) := by decide +kernel
theorem dX6_rule_151 : decode cX6_rule 151 = .ok (.iconst 3, 1) := by decide +kernel
theorem dX6_rule_152 : decode cX6_rule 152 = .ok (.iadd, 1) := by decide +kernel
theorem dX6_rule_153 : decode cX6_rule 153 = .ok (.iload 5, 2) := by decide +kernel
theorem dX6_rule_155 : decode cX6_rule 155 = .ok (.iastore, 1) := by decide +kernel
theorem dX6_rule_156 : decode cX6_rule 156 = .ok (.aload_n 0, 1) := by decide +kernel
theorem dX6_rule_157 : decode cX6_rule 157 = .ok (.getfield 16, 3) := by decide +kernel
theorem dX6_rule_160 : decode cX6_rule 160 = .ok (.aload_n 0, 1) := by decide +kernel
theorem dX6_rule_161 : decode cX6_rule 161 = .ok (.getfield 53, 3) := by decide +kernel
theorem dX6_rule_164 : decode cX6_rule 164 = .ok (.iconst 0, 1) := by decide +kernel
theorem dX6_rule_165 : decode cX6_rule 165 = .ok (.iastore, 1) := by decide +kernel
theorem dX6_rule_166 : decode cX6_rule 166 = .ok (.aload_n 0, 1) := by decide +kernel
theorem dX6_rule_167 : decode cX6_rule 167 = .ok (.dup, 1) := by decide +kernel
theorem dX6_rule_168 : decode cX6_rule 168 = .ok (.getfield 53, 3) := by decide +kernel
theorem dX6_rule_171 : decode cX6_rule 171 = .ok (.iconst 1, 1) := by decide +kernel
theorem dX6_rule_172 : decode cX6_rule 172 = .ok (.iadd, 1) := by decide +kernel
theorem dX6_rule_173 : decode cX6_rule 173 = .ok (.putfield 53, 3) := by decide +kernel
theorem dX6_rule_176 : decode cX6_rule 176 = .ok (.aload_n 0, 1) := by decide +kernel
theorem dX6_rule_177 : decode cX6_rule 177 = .ok (.iconst 0, 1) := by decide +kernel
theorem dX6_rule_178 : decode cX6_rule 178 = .ok (.putfield 60, 3) := by decide +kernel
theorem dX6_rule_181 : decode cX6_rule 181 = .ok (.aload_n 0, 1) := by decide +kernel
theorem dX6_rule_182 : decode cX6_rule 182 = .ok (.iconst (-1), 1) := by decide +kernel
theorem dX6_rule_183 : decode cX6_rule 183 = .ok (.putfield 26, 3) := by decide +kernel
theorem dX6_rule_186 : decode cX6_rule 186 = .ok (.aload_n 0, 1) := by decide +kernel
theorem dX6_rule_187 : decode cX6_rule 187 = .ok (.getfield 53, 3) := by decide +kernel
theorem dX6_rule_190 : decode cX6_rule 190 = .ok (.iconst 1, 1) := by decide +kernel
theorem dX6_rule_191 : decode cX6_rule 191 = .ok (.isub, 1) := by decide +kernel
theorem dX6_rule_192 : decode cX6_rule 192 = .ok (.ireturn, 1) := by decide +kernel
theorem dX6_clear_0 : decode cX6_clear 0 = .ok (.aload_n 0, 1) := by decide +kernel
theorem dX6_clear_1 : decode cX6_clear 1 = .ok (.iconst 0, 1) := by decide +kernel
theorem dX6_clear_2 : decode cX6_clear 2 = .ok (.putfield 42, 3) := by decide +kernel
theorem dX6_clear_5 : decode cX6_clear 5 = .ok (.aload_n 0, 1) := by decide +kernel
theorem dX6_clear_6 : decode cX6_clear 6 = .ok (.iconst 0, 1) := by decide +kernel
theorem dX6_clear_7 : decode cX6_clear 7 = .ok (.putfield 53, 3) := by decide +kernel
theorem dX6_clear_10 : decode cX6_clear 10 = .ok (.aload_n 0, 1) := by decide +kernel
theorem dX6_clear_11 : decode cX6_clear 11 = .ok (.iconst 0, 1) := by decide +kernel
theorem dX6_clear_12 : decode cX6_clear 12 = .ok (.putfield 60, 3) := by decide +kernel
theorem dX6_clear_15 : decode cX6_clear 15 = .ok (.aload_n 0, 1) := by decide +kernel
theorem dX6_clear_16 : decode cX6_clear 16 = .ok (.iconst (-1), 1) := by decide +kernel
theorem dX6_clear_17 : decode cX6_clear 17 = .ok (.putfield 26, 3) := by decide +kernel
theorem dX6_clear_20 : decode cX6_clear 20 = .ok (.return_, 1) := by decide +kernel
theorem dX6_times_0 : decode cX6_times 0 = .ok (.iconst 0, 1) := by decide +kernel
theorem dX6_times_1 : decode cX6_times 1 = .ok (.istore_n 3, 1) := by decide +kernel
theorem dX6_times_2 : decode cX6_times 2 = .ok (.iconst 4, 1) := by decide +kernel
theorem dX6_times_3 : decode cX6_times 3 = .ok (.iload_n 1, 1) := by decide +kernel
theorem dX6_times_4 : decode cX6_times 4 = .ok (.imul, 1) := by decide +kernel
theorem dX6_times_5 : decode cX6_times 5 = .ok (.istore 4, 2) := by decide +kernel
theorem dX6_times_7 : decode cX6_times 7 = .ok (.iload 4, 2) := by decide +kernel
theorem dX6_times_9 : decode cX6_times 9 = .ok (.iconst 4, 1) := by decide +kernel
theorem dX6_times_10 : decode cX6_times 10 = .ok (.iload_n 1, 1) := by decide +kernel
theorem dX6_times_11 : decode cX6_times 11 = .ok (.imul, 1) := by decide +kernel
theorem dX6_times_12 : decode cX6_times 12 = .ok (.iconst 4, 1) := by decide +kernel
theorem dX6_times_13 : decode cX6_times 13 = .ok (.iadd, 1) := by decide +kernel
theorem dX6_times_14 : decode cX6_times 14 = .ok (.if_icmp .ge 28, 3) := by decide +kernel
theorem dX6_times_17 : decode cX6_times 17 = .ok (.aload_n 0, 1) := by decide +kernel
theorem dX6_times_18 : decode cX6_times 18 = .ok (.getfield 13, 3) := by decide +kernel
theorem dX6_times_21 : decode cX6_times 21 = .ok (.iload 4, 2) := by decide +kernel
theorem dX6_times_23 : decode cX6_times 23 = .ok (.iaload, 1) := by decide +kernel
theorem dX6_times_24 : decode cX6_times 24 = .ok (.iload_n 2, 1) := by decide +kernel
theorem dX6_times_25 : decode cX6_times 25 = .ok (.if_icmp .ne 9, 3) := by decide +kernel
theorem dX6_times_28 : decode cX6_times 28 = .ok (.iload_n 3, 1) := by decide +kernel
theorem dX6_times_29 : decode cX6_times 29 = .ok (.iconst 1, 1) := by decide +kernel
theorem dX6_times_30 : decode cX6_times 30 = .ok (.iadd, 1) := by decide +kernel
theorem dX6_times_31 : decode cX6_times 31 = .ok (.goto 4, 3) := by decide +kernel
theorem dX6_times_34 : decode cX6_times 34 = .ok (.iload_n 3, 1) := by decide +kernel
theorem dX6_times_35 : decode cX6_times 35 = .ok (.istore_n 3, 1) := by decide +kernel
theorem dX6_times_36 : decode cX6_times 36 = .ok (.iinc 4 1, 3) := by decide +kernel
theorem dX6_times_39 : decode cX6_times 39 = .ok (.goto (-32), 3) := by decide +kernel
theorem dX6_times_42 : decode cX6_times 42 = .ok (.iload_n 3, 1) := by decide +kernel
theorem dX6_times_43 : decode cX6_times 43 = .ok (.ireturn, 1) := by decide +kernel
theorem dX6_own_0 : decode cX6_own 0 = .ok (.aload_n 0, 1) := by decide +kernel
theorem dX6_own_1 : decode cX6_own 1 = .ok (.iload_n 1, 1) := by decide +kernel
theorem dX6_own_2 : decode cX6_own 2 = .ok (.iconst 5, 1) := by decide +kernel
theorem dX6_own_3 : decode cX6_own 3 = .ok (.invokevirtual 64, 3) := by decide +kernel
theorem dX6_own_6 : decode cX6_own 6 = .ok (.bipush 8, 2) := by decide +kernel
theorem dX6_own_8 : decode cX6_own 8 = .ok (.aload_n 0, 1) := by decide +kernel
theorem dX6_own_9 : decode cX6_own 9 = .ok (.iload_n 1, 1) := by decide +kernel
theorem dX6_own_10 : decode cX6_own 10 = .ok (.bipush 6, 2) := by decide +kernel
theorem dX6_own_12 : decode cX6_own 12 = .ok (.invokevirtual 64, 3) := by decide +kernel
theorem dX6_own_15 : decode cX6_own 15 = .ok (.imul, 1) := by decide +kernel
theorem dX6_own_16 : decode cX6_own 16 = .ok (.iadd, 1) := by decide +kernel
theorem dX6_own_17 : decode cX6_own 17 = .ok (.bipush 64, 2) := by decide +kernel
theorem dX6_own_19 : decode cX6_own 19 = .ok (.aload_n 0, 1) := by decide +kernel
theorem dX6_own_20 : decode cX6_own 20 = .ok (.iload_n 1, 1) := by decide +kernel
theorem dX6_own_21 : decode cX6_own 21 = .ok (.bipush 7, 2) := by decide +kernel
theorem dX6_own_23 : decode cX6_own 23 = .ok (.invokevirtual 64, 3) := by decide +kernel
theorem dX6_own_26 : decode cX6_own 26 = .ok (.imul, 1) := by decide +kernel
theorem dX6_own_27 : decode cX6_own 27 = .ok (.iadd, 1) := by decide +kernel
theorem dX6_own_28 : decode cX6_own 28 = .ok (.ireturn, 1) := by decide +kernel
theorem dX6_sum_0 : decode cX6_sum 0 = .ok (.iload_n 0, 1) := by decide +kernel
theorem dX6_sum_1 : decode cX6_sum 1 = .ok (.bipush 8, 2) := by decide +kernel
theorem dX6_sum_3 : decode cX6_sum 3 = .ok (.irem, 1) := by decide +kernel
theorem dX6_sum_4 : decode cX6_sum 4 = .ok (.iload_n 1, 1) := by decide +kernel
theorem dX6_sum_5 : decode cX6_sum 5 = .ok (.bipush 8, 2) := by decide +kernel
theorem dX6_sum_7 : decode cX6_sum 7 = .ok (.irem, 1) := by decide +kernel
theorem dX6_sum_8 : decode cX6_sum 8 = .ok (.iadd, 1) := by decide +kernel
theorem dX6_sum_9 : decode cX6_sum 9 = .ok (.istore_n 2, 1) := by decide +kernel
theorem dX6_sum_10 : decode cX6_sum 10 = .ok (.iload_n 0, 1) := by decide +kernel
theorem dX6_sum_11 : decode cX6_sum 11 = .ok (.bipush 8, 2) := by decide +kernel
theorem dX6_sum_13 : decode cX6_sum 13 = .ok (.idiv, 1) := by decide +kernel
theorem dX6_sum_14 : decode cX6_sum 14 = .ok (.bipush 8, 2) := by decide +kernel
theorem dX6_sum_16 : decode cX6_sum 16 = .ok (.irem, 1) := by decide +kernel
theorem dX6_sum_17 : decode cX6_sum 17 = .ok (.iload_n 1, 1) := by decide +kernel
theorem dX6_sum_18 : decode cX6_sum 18 = .ok (.bipush 8, 2) := by decide +kernel
theorem dX6_sum_20 : decode cX6_sum 20 = .ok (.idiv, 1) := by decide +kernel
theorem dX6_sum_21 : decode cX6_sum 21 = .ok (.bipush 8, 2) := by decide +kernel
theorem dX6_sum_23 : decode cX6_sum 23 = .ok (.irem, 1) := by decide +kernel
theorem dX6_sum_24 : decode cX6_sum 24 = .ok (.iadd, 1) := by decide +kernel
theorem dX6_sum_25 : decode cX6_sum 25 = .ok (.istore_n 3, 1) := by decide +kernel
theorem dX6_sum_26 : decode cX6_sum 26 = .ok (.iload_n 0, 1) := by decide +kernel
theorem dX6_sum_27 : decode cX6_sum 27 = .ok (.bipush 64, 2) := by decide +kernel
theorem dX6_sum_29 : decode cX6_sum 29 = .ok (.idiv, 1) := by decide +kernel
theorem dX6_sum_30 : decode cX6_sum 30 = .ok (.iload_n 1, 1) := by decide +kernel
theorem dX6_sum_31 : decode cX6_sum 31 = .ok (.bipush 64, 2) := by decide +kernel
theorem dX6_sum_33 : decode cX6_sum 33 = .ok (.idiv, 1) := by decide +kernel
theorem dX6_sum_34 : decode cX6_sum 34 = .ok (.iadd, 1) := by decide +kernel
theorem dX6_sum_35 : decode cX6_sum 35 = .ok (.istore 4, 2) := by decide +kernel
theorem dX6_sum_37 : decode cX6_sum 37 = .ok (.iload_n 2, 1) := by decide +kernel
theorem dX6_sum_38 : decode cX6_sum 38 = .ok (.bipush 7, 2) := by decide +kernel
theorem dX6_sum_40 : decode cX6_sum 40 = .ok (.if_icmp .gt 16, 3) := by decide +kernel
theorem dX6_sum_43 : decode cX6_sum 43 = .ok (.iload_n 3, 1) := by decide +kernel
theorem dX6_sum_44 : decode cX6_sum 44 = .ok (.bipush 7, 2) := by decide +kernel
theorem dX6_sum_46 : decode cX6_sum 46 = .ok (.if_icmp .gt 10, 3) := by decide +kernel
theorem dX6_sum_49 : decode cX6_sum 49 = .ok (.iload 4, 2) := by decide +kernel
theorem dX6_sum_51 : decode cX6_sum 51 = .ok (.bipush 7, 2) := by decide +kernel
theorem dX6_sum_53 : decode cX6_sum 53 = .ok (.if_icmp .le 7, 3) := by decide +kernel
theorem dX6_sum_56 : decode cX6_sum 56 = .ok (.iconst (-1), 1) := by decide +kernel
theorem dX6_sum_57 : decode cX6_sum 57 = .ok (.goto 15, 3) := by decide +kernel
theorem dX6_sum_60 : decode cX6_sum 60 = .ok (.iload_n 2, 1) := by decide +kernel
theorem dX6_sum_61 : decode cX6_sum 61 = .ok (.bipush 8, 2) := by decide +kernel
theorem dX6_sum_63 : decode cX6_sum 63 = .ok (.iload_n 3, 1) := by decide +kernel
theorem dX6_sum_64 : decode cX6_sum 64 = .ok (.imul, 1) := by decide +kernel
theorem dX6_sum_65 : decode cX6_sum 65 = .ok (.iadd, 1) := by decide +kernel
theorem dX6_sum_66 : decode cX6_sum 66 = .ok (.bipush 64, 2) := by decide +kernel
theorem dX6_sum_68 : decode cX6_sum 68 = .ok (.iload 4, 2) := by decide +kernel
theorem dX6_sum_70 : decode cX6_sum 70 = .ok (.imul, 1) := by decide +kernel
theorem dX6_sum_71 : decode cX6_sum 71 = .ok (.iadd, 1) := by decide +kernel
theorem dX6_sum_72 : decode cX6_sum 72 = .ok (.ireturn, 1) := by decide +kernel
theorem dX6_less_0 : decode cX6_less 0 = .ok (.iload_n 0, 1) := by decide +kernel
theorem dX6_less_1 : decode cX6_less 1 = .ok (.bipush 8, 2) := by decide +kernel
theorem dX6_less_3 : decode cX6_less 3 = .ok (.irem, 1) := by decide +kernel
theorem dX6_less_4 : decode cX6_less 4 = .ok (.iload_n 1, 1) := by decide +kernel
theorem dX6_less_5 : decode cX6_less 5 = .ok (.bipush 8, 2) := by decide +kernel
theorem dX6_less_7 : decode cX6_less 7 = .ok (.irem, 1) := by decide +kernel
theorem dX6_less_8 : decode cX6_less 8 = .ok (.isub, 1) := by decide +kernel
theorem dX6_less_9 : decode cX6_less 9 = .ok (.istore_n 2, 1) := by decide +kernel
theorem dX6_less_10 : decode cX6_less 10 = .ok (.iload_n 0, 1) := by decide +kernel
theorem dX6_less_11 : decode cX6_less 11 = .ok (.bipush 8, 2) := by decide +kernel
theorem dX6_less_13 : decode cX6_less 13 = .ok (.idiv, 1) := by decide +kernel
theorem dX6_less_14 : decode cX6_less 14 = .ok (.bipush 8, 2) := by decide +kernel
theorem dX6_less_16 : decode cX6_less 16 = .ok (.irem, 1) := by decide +kernel
theorem dX6_less_17 : decode cX6_less 17 = .ok (.iload_n 1, 1) := by decide +kernel
theorem dX6_less_18 : decode cX6_less 18 = .ok (.bipush 8, 2) := by decide +kernel
theorem dX6_less_20 : decode cX6_less 20 = .ok (.idiv, 1) := by decide +kernel
theorem dX6_less_21 : decode cX6_less 21 = .ok (.bipush 8, 2) := by decide +kernel
theorem dX6_less_23 : decode cX6_less 23 = .ok (.irem, 1) := by decide +kernel
theorem dX6_less_24 : decode cX6_less 24 = .ok (.isub, 1) := by decide +kernel
theorem dX6_less_25 : decode cX6_less 25 = .ok (.istore_n 3, 1) := by decide +kernel
theorem dX6_less_26 : decode cX6_less 26 = .ok (.iload_n 0, 1) := by decide +kernel
theorem dX6_less_27 : decode cX6_less 27 = .ok (.bipush 64, 2) := by decide +kernel
theorem dX6_less_29 : decode cX6_less 29 = .ok (.idiv, 1) := by decide +kernel
theorem dX6_less_30 : decode cX6_less 30 = .ok (.iload_n 1, 1) := by decide +kernel
theorem dX6_less_31 : decode cX6_less 31 = .ok (.bipush 64, 2) := by decide +kernel
theorem dX6_less_33 : decode cX6_less 33 = .ok (.idiv, 1) := by decide +kernel
theorem dX6_less_34 : decode cX6_less 34 = .ok (.isub, 1) := by decide +kernel
theorem dX6_less_35 : decode cX6_less 35 = .ok (.istore 4, 2) := by decide +kernel
theorem dX6_less_37 : decode cX6_less 37 = .ok (.iload_n 2, 1) := by decide +kernel
theorem dX6_less_38 : decode cX6_less 38 = .ok (.ifCond .lt 12, 3) := by decide +kernel
theorem dX6_less_41 : decode cX6_less 41 = .ok (.iload_n 3, 1) := by decide +kernel
theorem dX6_less_42 : decode cX6_less 42 = .ok (.ifCond .lt 8, 3) := by decide +kernel
theorem dX6_less_45 : decode cX6_less 45 = .ok (.iload 4, 2) := by decide +kernel
theorem dX6_less_47 : decode cX6_less 47 = .ok (.ifCond .ge 7, 3) := by decide +kernel
theorem dX6_less_50 : decode cX6_less 50 = .ok (.iconst (-1), 1) := by decide +kernel
theorem dX6_less_51 : decode cX6_less 51 = .ok (.goto 15, 3) := by decide +kernel
theorem dX6_less_54 : decode cX6_less 54 = .ok (.iload_n 2, 1) := by decide +kernel
theorem dX6_less_55 : decode cX6_less 55 = .ok (.bipush 8, 2) := by decide +kernel
theorem dX6_less_57 : decode cX6_less 57 = .ok (.iload_n 3, 1) := by decide +kernel
theorem dX6_less_58 : decode cX6_less 58 = .ok (.imul, 1) := by decide +kernel
theorem dX6_less_59 : decode cX6_less 59 = .ok (.iadd, 1) := by decide +kernel
theorem dX6_less_60 : decode cX6_less 60 = .ok (.bipush 64, 2) := by decide +kernel
theorem dX6_less_62 : decode cX6_less 62 = .ok (.iload 4, 2) := by decide +kernel
theorem dX6_less_64 : decode cX6_less 64 = .ok (.imul, 1) := by decide +kernel
theorem dX6_less_65 : decode cX6_less 65 = .ok (.iadd, 1) := by decide +kernel
theorem dX6_less_66 : decode cX6_less 66 = .ok (.ireturn, 1) := by decide +kernel
theorem dX6_has_0 : decode cX6_has 0 = .ok (.aload_n 0, 1) := by decide +kernel
theorem dX6_has_1 : decode cX6_has 1 = .ok (.getfield 19, 3) := by decide +kernel
theorem dX6_has_4 : decode cX6_has 4 = .ok (.sipush 512, 3) := by decide +kernel
theorem dX6_has_7 : decode cX6_has 7 = .ok (.iload_n 1, 1) := by decide +kernel
theorem dX6_has_8 : decode cX6_has 8 = .ok (.imul, 1) := by decide +kernel
theorem dX6_has_9 : decode cX6_has 9 = .ok (.iload_n 2, 1) := by decide +kernel
theorem dX6_has_10 : decode cX6_has 10 = .ok (.iadd, 1) := by decide +kernel
theorem dX6_has_11 : decode cX6_has 11 = .ok (.iaload, 1) := by decide +kernel
theorem dX6_has_12 : decode cX6_has 12 = .ok (.istore 4, 2) := by decide +kernel
theorem dX6_has_14 : decode cX6_has 14 = .ok (.iload 4, 2) := by decide +kernel
theorem dX6_has_16 : decode cX6_has 16 = .ok (.ifCond .le 13, 3) := by decide +kernel
theorem dX6_has_19 : decode cX6_has 19 = .ok (.iload 4, 2) := by decide +kernel
theorem dX6_has_21 : decode cX6_has 21 = .ok (.iload_n 3, 1) := by decide +kernel
theorem dX6_has_22 : decode cX6_has 22 = .ok (.if_icmp .ge 7, 3) := by decide +kernel
theorem dX6_has_25 : decode cX6_has 25 = .ok (.iconst 1, 1) := by decide +kernel
theorem dX6_has_26 : decode cX6_has 26 = .ok (.goto 4, 3) := by decide +kernel
theorem dX6_has_29 : decode cX6_has 29 = .ok (.iconst 0, 1) := by decide +kernel
theorem dX6_has_30 : decode cX6_has 30 = .ok (.ireturn, 1) := by decide +kernel
theorem dX6_reckonSums_0 : decode cX6_reckonSums 0 = .ok (.iconst 0, 1) := by decide +kernel
theorem dX6_reckonSums_1 : decode cX6_reckonSums 1 = .ok (.istore_n 3, 1) := by decide +kernel
theorem dX6_reckonSums_2 : decode cX6_reckonSums 2 = .ok (.iload_n 3, 1) := by decide +kernel
theorem dX6_reckonSums_3 : decode cX6_reckonSums 3 = .ok (.sipush 512, 3) := by decide +kernel
theorem dX6_reckonSums_6 : decode cX6_reckonSums 6 = .ok (.if_icmp .ge 28, 3) := by decide +kernel
theorem dX6_reckonSums_9 : decode cX6_reckonSums 9 = .ok (.aload_n 0, 1) := by decide +kernel
theorem dX6_reckonSums_10 : decode cX6_reckonSums 10 = .ok (.getfield 22, 3) := by decide +kernel
theorem dX6_reckonSums_13 : decode cX6_reckonSums 13 = .ok (.sipush 2048, 3) := by decide +kernel
theorem dX6_reckonSums_16 : decode cX6_reckonSums 16 = .ok (.iload_n 3, 1) := by decide +kernel
theorem dX6_reckonSums_17 : decode cX6_reckonSums 17 = .ok (.iadd, 1) := by decide +kernel
theorem dX6_reckonSums_18 : decode cX6_reckonSums 18 = .ok (.iload_n 3, 1) := by decide +kernel
theorem dX6_reckonSums_19 : decode cX6_reckonSums 19 = .ok (.ifCond .ne 7, 3) := by decide +kernel
theorem dX6_reckonSums_22 : decode cX6_reckonSums 22 = .ok (.iconst 1, 1) := by decide +kernel
theorem dX6_reckonSums_23 : decode cX6_reckonSums 23 = .ok (.goto 4, 3) := by decide +kernel
theorem dX6_reckonSums_26 : decode cX6_reckonSums 26 = .ok (.iconst 0, 1) := by decide +kernel
theorem dX6_reckonSums_27 : decode cX6_reckonSums 27 = .ok (.bastore, 1) := by decide +kernel
theorem dX6_reckonSums_28 : decode cX6_reckonSums 28 = .ok (.iinc 3 1, 3) := by decide +kernel
theorem dX6_reckonSums_31 : decode cX6_reckonSums 31 = .ok (.goto (-29), 3) := by decide +kernel
theorem dX6_reckonSums_34 : decode cX6_reckonSums 34 = .ok (.iconst 3, 1) := by decide +kernel
theorem dX6_reckonSums_35 : decode cX6_reckonSums 35 = .ok (.istore_n 3, 1) := by decide +kernel
theorem dX6_reckonSums_36 : decode cX6_reckonSums 36 = .ok (.iload_n 3, 1) := by decide +kernel
theorem dX6_reckonSums_37 : decode cX6_reckonSums 37 = .ok (.ifCond .lt 127, 3) := by decide +kernel
theorem dX6_reckonSums_40 : decode cX6_reckonSums 40 = .ok (.aload_n 0, 1) := by decide +kernel
theorem dX6_reckonSums_41 : decode cX6_reckonSums 41 = .ok (.getfield 13, 3) := by decide +kernel
theorem dX6_reckonSums_44 : decode cX6_reckonSums 44 = .ok (.iconst 4, 1) := by decide +kernel
theorem dX6_reckonSums_45 : decode cX6_reckonSums 45 = .ok (.iload_n 1, 1) := by decide +kernel
theorem dX6_reckonSums_46 : decode cX6_reckonSums 46 = .ok (.imul, 1) := by decide +kernel
theorem dX6_reckonSums_47 : decode cX6_reckonSums 47 = .ok (.iload_n 3, 1) := by decide +kernel
theorem dX6_reckonSums_48 : decode cX6_reckonSums 48 = .ok (.iadd, 1) := by decide +kernel
theorem dX6_reckonSums_49 : decode cX6_reckonSums 49 = .ok (.iaload, 1) := by decide +kernel
theorem dX6_reckonSums_50 : decode cX6_reckonSums 50 = .ok (.istore 4, 2) := by decide +kernel
theorem dX6_reckonSums_52 : decode cX6_reckonSums 52 = .ok (.iload 4, 2) := by decide +kernel
theorem dX6_reckonSums_54 : decode cX6_reckonSums 54 = .ok (.invokestatic 49, 3) := by decide +kernel
theorem dX6_reckonSums_57 : decode cX6_reckonSums 57 = .ok (.istore 5, 2) := by decide +kernel
theorem dX6_reckonSums_59 : decode cX6_reckonSums 59 = .ok (.iconst 0, 1) := by decide +kernel
theorem dX6_reckonSums_60 : decode cX6_reckonSums 60 = .ok (.istore 6, 2) := by decide +kernel
theorem dX6_reckonSums_62 : decode cX6_reckonSums 62 = .ok (.iload 6, 2) := by decide +kernel
theorem dX6_reckonSums_64 : decode cX6_reckonSums 64 = .ok (.sipush 512, 3) := by decide +kernel
theorem dX6_reckonSums_67 : decode cX6_reckonSums 67 = .ok (.if_icmp .ge 50, 3) := by decide +kernel
theorem dX6_reckonSums_70 : decode cX6_reckonSums 70 = .ok (.aload_n 0, 1) := by decide +kernel
theorem dX6_reckonSums_71 : decode cX6_reckonSums 71 = .ok (.getfield 22, 3) := by decide +kernel
theorem dX6_reckonSums_74 : decode cX6_reckonSums 74 = .ok (.sipush 512, 3) := by decide +kernel
theorem dX6_reckonSums_77 : decode cX6_reckonSums 77 = .ok (.iload_n 3, 1) := by decide +kernel
theorem dX6_reckonSums_78 : decode cX6_reckonSums 78 = .ok (.imul, 1) := by decide +kernel
theorem dX6_reckonSums_79 : decode cX6_reckonSums 79 = .ok (.iload 6, 2) := by decide +kernel
theorem dX6_reckonSums_81 : decode cX6_reckonSums 81 = .ok (.iadd, 1) := by decide +kernel
theorem dX6_reckonSums_82 : decode cX6_reckonSums 82 = .ok (.iload 5, 2) := by decide +kernel
theorem dX6_reckonSums_84 : decode cX6_reckonSums 84 = .ok (.ifCond .ne 25, 3) := by decide +kernel
theorem dX6_reckonSums_87 : decode cX6_reckonSums 87 = .ok (.aload_n 0, 1) := by decide +kernel
theorem dX6_reckonSums_88 : decode cX6_reckonSums 88 = .ok (.getfield 22, 3) := by decide +kernel
theorem dX6_reckonSums_91 : decode cX6_reckonSums 91 = .ok (.sipush 512, 3) := by decide +kernel
theorem dX6_reckonSums_94 : decode cX6_reckonSums 94 = .ok (.iload_n 3, 1) := by decide +kernel
theorem dX6_reckonSums_95 : decode cX6_reckonSums 95 = .ok (.iconst 1, 1) := by decide +kernel
theorem dX6_reckonSums_96 : decode cX6_reckonSums 96 = .ok (.iadd, 1) := by decide +kernel
theorem dX6_reckonSums_97 : decode cX6_reckonSums 97 = .ok (.imul, 1) := by decide +kernel
theorem dX6_reckonSums_98 : decode cX6_reckonSums 98 = .ok (.iload 6, 2) := by decide +kernel
theorem dX6_reckonSums_100 : decode cX6_reckonSums 100 = .ok (.iadd, 1) := by decide +kernel
theorem dX6_reckonSums_101 : decode cX6_reckonSums 101 = .ok (.baload, 1) := by decide +kernel
theorem dX6_reckonSums_102 : decode cX6_reckonSums 102 = .ok (.ifCond .eq 7, 3) := by decide +kernel
theorem dX6_reckonSums_105 : decode cX6_reckonSums 105 = .ok (.iconst 1, 1) := by decide +kernel
theorem dX6_reckonSums_106 : decode cX6_reckonSums 106 = .ok (.goto 4, 3) := by decide +kernel
theorem dX6_reckonSums_109 : decode cX6_reckonSums 109 = .ok (.iconst 0, 1) := by decide +kernel
theorem dX6_reckonSums_110 : decode cX6_reckonSums 110 = .ok (.bastore, 1) := by decide +kernel
theorem dX6_reckonSums_111 : decode cX6_reckonSums 111 = .ok (.iinc 6 1, 3) := by decide +kernel
theorem dX6_reckonSums_114 : decode cX6_reckonSums 114 = .ok (.goto (-52), 3) := by decide +kernel
theorem dX6_reckonSums_117 : decode cX6_reckonSums 117 = .ok (.iconst 0, 1) := by decide +kernel
theorem dX6_reckonSums_118 : decode cX6_reckonSums 118 = .ok (.istore 6, 2) := by decide +kernel
theorem dX6_reckonSums_120 : decode cX6_reckonSums 120 = .ok (.iload 6, 2) := by decide +kernel
theorem dX6_reckonSums_122 : decode cX6_reckonSums 122 = .ok (.sipush 512, 3) := by decide +kernel
theorem dX6_reckonSums_125 : decode cX6_reckonSums 125 = .ok (.if_icmp .ge 33, 3) := by decide +kernel
theorem dX6_reckonSums_128 : decode cX6_reckonSums 128 = .ok (.iload 5, 2) := by decide +kernel
theorem dX6_reckonSums_130 : decode cX6_reckonSums 130 = .ok (.ifCond .eq 28, 3) := by decide +kernel
theorem dX6_reckonSums_133 : decode cX6_reckonSums 133 = .ok (.aload_n 0, 1) := by decide +kernel
theorem dX6_reckonSums_134 : decode cX6_reckonSums 134 = .ok (.iload 4, 2) := by decide +kernel
theorem dX6_reckonSums_136 : decode cX6_reckonSums 136 = .ok (.iload 6, 2) := by decide +kernel
theorem dX6_reckonSums_138 : decode cX6_reckonSums 138 = .ok (.iload_n 2, 1) := by decide +kernel
theorem dX6_reckonSums_139 : decode cX6_reckonSums 139 = .ok (.invokevirtual 68, 3) := by decide +kernel
theorem dX6_reckonSums_142 : decode cX6_reckonSums 142 = .ok (.ifCond .eq 10, 3) := by decide +kernel
theorem dX6_reckonSums_145 : decode cX6_reckonSums 145 = .ok (.aload_n 0, 1) := by decide +kernel
theorem dX6_reckonSums_146 : decode cX6_reckonSums 146 = .ok (.iload_n 3, 1) := by decide +kernel
theorem dX6_reckonSums_147 : decode cX6_reckonSums 147 = .ok (.iload 6, 2) := by decide +kernel
theorem dX6_reckonSums_149 : decode cX6_reckonSums 149 = .ok (.invokevirtual 71, 3) := by decide +kernel
theorem dX6_reckonSums_152 : decode cX6_reckonSums 152 = .ok (.iinc 6 1, 3) := by decide +kernel
theorem dX6_reckonSums_155 : decode cX6_reckonSums 155 = .ok (.goto (-35), 3) := by decide +kernel
theorem dX6_reckonSums_158 : decode cX6_reckonSums 158 = .ok (.iinc 3 (-1), 3) := by decide +kernel
theorem dX6_reckonSums_161 : decode cX6_reckonSums 161 = .ok (.goto (-125), 3) := by decide +kernel
theorem dX6_reckonSums_164 : decode cX6_reckonSums 164 = .ok (.return_, 1) := by decide +kernel
theorem dX6_shift_0 : decode cX6_shift 0 = .ok (.iconst 0, 1) := by decide +kernel
theorem dX6_shift_1 : decode cX6_shift 1 = .ok (.istore_n 3, 1) := by decide +kernel
theorem dX6_shift_2 : decode cX6_shift 2 = .ok (.iload_n 3, 1) := by decide +kernel
theorem dX6_shift_3 : decode cX6_shift 3 = .ok (.sipush 512, 3) := by decide +kernel
theorem dX6_shift_6 : decode cX6_shift 6 = .ok (.if_icmp .ge 56, 3) := by decide +kernel
theorem dX6_shift_9 : decode cX6_shift 9 = .ok (.aload_n 0, 1) := by decide +kernel
theorem dX6_shift_10 : decode cX6_shift 10 = .ok (.getfield 22, 3) := by decide +kernel
theorem dX6_shift_13 : decode cX6_shift 13 = .ok (.sipush 512, 3) := by decide +kernel
theorem dX6_shift_16 : decode cX6_shift 16 = .ok (.iload_n 1, 1) := by decide +kernel
theorem dX6_shift_17 : decode cX6_shift 17 = .ok (.iconst 1, 1) := by decide +kernel
theorem dX6_shift_18 : decode cX6_shift 18 = .ok (.iadd, 1) := by decide +kernel
theorem dX6_shift_19 : decode cX6_shift 19 = .ok (.imul, 1) := by decide +kernel
theorem dX6_shift_20 : decode cX6_shift 20 = .ok (.iload_n 3, 1) := by decide +kernel
theorem dX6_shift_21 : decode cX6_shift 21 = .ok (.iadd, 1) := by decide +kernel
theorem dX6_shift_22 : decode cX6_shift 22 = .ok (.baload, 1) := by decide +kernel
theorem dX6_shift_23 : decode cX6_shift 23 = .ok (.ifCond .eq 11, 3) := by decide +kernel
theorem dX6_shift_26 : decode cX6_shift 26 = .ok (.iload_n 3, 1) := by decide +kernel
theorem dX6_shift_27 : decode cX6_shift 27 = .ok (.iload_n 2, 1) := by decide +kernel
theorem dX6_shift_28 : decode cX6_shift 28 = .ok (.invokestatic 75, 3) := by decide +kernel
theorem dX6_shift_31 : decode cX6_shift 31 = .ok (.goto 4, 3) := by decide +kernel
theorem dX6_shift_34 : decode cX6_shift 34 = .ok (.iconst (-1), 1) := by decide +kernel
theorem dX6_shift_35 : decode cX6_shift 35 = .ok (.istore 4, 2) := by decide +kernel
theorem dX6_shift_37 : decode cX6_shift 37 = .ok (.iload 4, 2) := by decide +kernel
theorem dX6_shift_39 : decode cX6_shift 39 = .ok (.ifCond .lt 17, 3) := by decide +kernel
theorem dX6_shift_42 : decode cX6_shift 42 = .ok (.aload_n 0, 1) := by decide +kernel
theorem dX6_shift_43 : decode cX6_shift 43 = .ok (.getfield 22, 3) := by decide +kernel
theorem dX6_shift_46 : decode cX6_shift 46 = .ok (.sipush 512, 3) := by decide +kernel
theorem dX6_shift_49 : decode cX6_shift 49 = .ok (.iload_n 1, 1) := by decide +kernel
theorem dX6_shift_50 : decode cX6_shift 50 = .ok (.imul, 1) := by decide +kernel
theorem dX6_shift_51 : decode cX6_shift 51 = .ok (.iload 4, 2) := by decide +kernel
theorem dX6_shift_53 : decode cX6_shift 53 = .ok (.iadd, 1) := by decide +kernel
theorem dX6_shift_54 : decode cX6_shift 54 = .ok (.iconst 1, 1) := by decide +kernel
theorem dX6_shift_55 : decode cX6_shift 55 = .ok (.bastore, 1) := by decide +kernel
theorem dX6_shift_56 : decode cX6_shift 56 = .ok (.iinc 3 1, 3) := by decide +kernel
theorem dX6_shift_59 : decode cX6_shift 59 = .ok (.goto (-57), 3) := by decide +kernel
theorem dX6_shift_62 : decode cX6_shift 62 = .ok (.return_, 1) := by decide +kernel
theorem dX6_isPlain_0 : decode cX6_isPlain 0 = .ok (.iconst 1, 1) := by decide +kernel
theorem dX6_isPlain_1 : decode cX6_isPlain 1 = .ok (.istore_n 2, 1) := by decide +kernel
theorem dX6_isPlain_2 : decode cX6_isPlain 2 = .ok (.iconst 0, 1) := by decide +kernel
theorem dX6_isPlain_3 : decode cX6_isPlain 3 = .ok (.istore_n 3, 1) := by decide +kernel
theorem dX6_isPlain_4 : decode cX6_isPlain 4 = .ok (.iload_n 3, 1) := by decide +kernel
theorem dX6_isPlain_5 : decode cX6_isPlain 5 = .ok (.iconst 4, 1) := by decide +kernel
theorem dX6_isPlain_6 : decode cX6_isPlain 6 = .ok (.if_icmp .ge 35, 3) := by decide +kernel
theorem dX6_isPlain_9 : decode cX6_isPlain 9 = .ok (.iload_n 2, 1) := by decide +kernel
theorem dX6_isPlain_10 : decode cX6_isPlain 10 = .ok (.ifCond .eq 23, 3) := by decide +kernel
theorem dX6_isPlain_13 : decode cX6_isPlain 13 = .ok (.aload_n 0, 1) := by decide +kernel
theorem dX6_isPlain_14 : decode cX6_isPlain 14 = .ok (.getfield 13, 3) := by decide +kernel
theorem dX6_isPlain_17 : decode cX6_isPlain 17 = .ok (.iconst 4, 1) := by decide +kernel
theorem dX6_isPlain_18 : decode cX6_isPlain 18 = .ok (.iload_n 1, 1) := by decide +kernel
theorem dX6_isPlain_19 : decode cX6_isPlain 19 = .ok (.imul, 1) := by decide +kernel
theorem dX6_isPlain_20 : decode cX6_isPlain 20 = .ok (.iload_n 3, 1) := by decide +kernel
theorem dX6_isPlain_21 : decode cX6_isPlain 21 = .ok (.iadd, 1) := by decide +kernel
theorem dX6_isPlain_22 : decode cX6_isPlain 22 = .ok (.iaload, 1) := by decide +kernel
theorem dX6_isPlain_23 : decode cX6_isPlain 23 = .ok (.invokestatic 49, 3) := by decide +kernel
theorem dX6_isPlain_26 : decode cX6_isPlain 26 = .ok (.ifCond .ne 7, 3) := by decide +kernel
theorem dX6_isPlain_29 : decode cX6_isPlain 29 = .ok (.iconst 1, 1) := by decide +kernel
theorem dX6_isPlain_30 : decode cX6_isPlain 30 = .ok (.goto 4, 3) := by decide +kernel
theorem dX6_isPlain_33 : decode cX6_isPlain 33 = .ok (.iconst 0, 1) := by decide +kernel
theorem dX6_isPlain_34 : decode cX6_isPlain 34 = .ok (.istore_n 2, 1) := by decide +kernel
theorem dX6_isPlain_35 : decode cX6_isPlain 35 = .ok (.iinc 3 1, 3) := by decide +kernel
theorem dX6_isPlain_38 : decode cX6_isPlain 38 = .ok (.goto (-34), 3) := by decide +kernel
theorem dX6_isPlain_41 : decode cX6_isPlain 41 = .ok (.iload_n 2, 1) := by decide +kernel
theorem dX6_isPlain_42 : decode cX6_isPlain 42 = .ok (.ireturn, 1) := by decide +kernel
theorem dX6_climb_0 : decode cX6_climb 0 = .ok (.iconst 0, 1) := by decide +kernel
theorem dX6_climb_1 : decode cX6_climb 1 = .ok (.istore_n 2, 1) := by decide +kernel
theorem dX6_climb_2 : decode cX6_climb 2 = .ok (.iconst 0, 1) := by decide +kernel
theorem dX6_climb_3 : decode cX6_climb 3 = .ok (.istore_n 3, 1) := by decide +kernel
theorem dX6_climb_4 : decode cX6_climb 4 = .ok (.iload_n 3, 1) := by decide +kernel
theorem dX6_climb_5 : decode cX6_climb 5 = .ok (.aload_n 0, 1) := by decide +kernel
theorem dX6_climb_6 : decode cX6_climb 6 = .ok (.getfield 53, 3) := by decide +kernel
theorem dX6_climb_9 : decode cX6_climb 9 = .ok (.if_icmp .ge 126, 3) := by decide +kernel
theorem dX6_climb_12 : decode cX6_climb 12 = .ok (.aload_n 0, 1) := by decide +kernel
theorem dX6_climb_13 : decode cX6_climb 13 = .ok (.iload_n 3, 1) := by decide +kernel
theorem dX6_climb_14 : decode cX6_climb 14 = .ok (.invokevirtual 78, 3) := by decide +kernel
theorem dX6_climb_17 : decode cX6_climb 17 = .ok (.iload_n 1, 1) := by decide +kernel
theorem dX6_climb_18 : decode cX6_climb 18 = .ok (.iconst 1, 1) := by decide +kernel
theorem dX6_climb_19 : decode cX6_climb 19 = .ok (.if_icmp .ne 7, 3) := by decide +kernel
theorem dX6_climb_22 : decode cX6_climb 22 = .ok (.iconst 1, 1) := by decide +kernel
theorem dX6_climb_23 : decode cX6_climb 23 = .ok (.goto 4, 3) := by decide +kernel
theorem dX6_climb_26 : decode cX6_climb 26 = .ok (.iconst 0, 1) := by decide +kernel
theorem dX6_climb_27 : decode cX6_climb 27 = .ok (.if_icmp .eq 6, 3) := by decide +kernel
theorem dX6_climb_30 : decode cX6_climb 30 = .ok (.goto 99, 3) := by decide +kernel
theorem dX6_climb_33 : decode cX6_climb 33 = .ok (.aload_n 0, 1) := by decide +kernel
theorem dX6_climb_34 : decode cX6_climb 34 = .ok (.iload_n 3, 1) := by decide +kernel
theorem dX6_climb_35 : decode cX6_climb 35 = .ok (.iload_n 1, 1) := by decide +kernel
theorem dX6_climb_36 : decode cX6_climb 36 = .ok (.invokevirtual 81, 3) := by decide +kernel
theorem dX6_climb_39 : decode cX6_climb 39 = .ok (.iconst 0, 1) := by decide +kernel
theorem dX6_climb_40 : decode cX6_climb 40 = .ok (.istore 4, 2) := by decide +kernel
theorem dX6_climb_42 : decode cX6_climb 42 = .ok (.iload 4, 2) := by decide +kernel
theorem dX6_climb_44 : decode cX6_climb 44 = .ok (.sipush 512, 3) := by decide +kernel
theorem dX6_climb_47 : decode cX6_climb 47 = .ok (.if_icmp .ge 82, 3) := by decide +kernel
theorem dX6_climb_50 : decode cX6_climb 50 = .ok (.aload_n 0, 1) := by decide +kernel
theorem dX6_climb_51 : decode cX6_climb 51 = .ok (.getfield 22, 3) := by decide +kernel
theorem dX6_climb_54 : decode cX6_climb 54 = .ok (.iload 4, 2) := by decide +kernel
theorem dX6_climb_56 : decode cX6_climb 56 = .ok (.baload, 1) := by decide +kernel
theorem dX6_climb_57 : decode cX6_climb 57 = .ok (.ifCond .eq 16, 3) := by decide +kernel
theorem dX6_climb_60 : decode cX6_climb 60 = .ok (.iload 4, 2) := by decide +kernel
theorem dX6_climb_62 : decode cX6_climb 62 = .ok (.aload_n 0, 1) := by decide +kernel
theorem dX6_climb_63 : decode cX6_climb 63 = .ok (.iload_n 3, 1) := by decide +kernel
theorem dX6_climb_64 : decode cX6_climb 64 = .ok (.invokevirtual 84, 3) := by decide +kernel
theorem dX6_climb_67 : decode cX6_climb 67 = .ok (.invokestatic 75, 3) := by decide +kernel
theorem dX6_climb_70 : decode cX6_climb 70 = .ok (.goto 4, 3) := by decide +kernel
theorem dX6_climb_73 : decode cX6_climb 73 = .ok (.iconst (-1), 1) := by decide +kernel
theorem dX6_climb_74 : decode cX6_climb 74 = .ok (.istore 5, 2) := by decide +kernel
theorem dX6_climb_76 : decode cX6_climb 76 = .ok (.iload 5, 2) := by decide +kernel
theorem dX6_climb_78 : decode cX6_climb 78 = .ok (.ifCond .lt 45, 3) := by decide +kernel
theorem dX6_climb_81 : decode cX6_climb 81 = .ok (.aload_n 0, 1) := by decide +kernel
theorem dX6_climb_82 : decode cX6_climb 82 = .ok (.getfield 19, 3) := by decide +kernel
theorem dX6_climb_85 : decode cX6_climb 85 = .ok (.sipush 512, 3) := by decide +kernel
theorem dX6_climb_88 : decode cX6_climb 88 = .ok (.aload_n 0, 1) := by decide +kernel
theorem dX6_climb_89 : decode cX6_climb 89 = .ok (.getfield 7, 3) := by decide +kernel
theorem dX6_climb_92 : decode cX6_climb 92 = .ok (.iload_n 3, 1) := by decide +kernel
theorem dX6_climb_93 : decode cX6_climb 93 = .ok (.iaload, 1) := by decide +kernel
theorem dX6_climb_94 : decode cX6_climb 94 = .ok (.imul, 1) := by decide +kernel
theorem dX6_climb_95 : decode cX6_climb 95 = .ok (.iload 5, 2) := by decide +kernel
theorem dX6_climb_97 : decode cX6_climb 97 = .ok (.iadd, 1) := by decide +kernel
theorem dX6_climb_98 : decode cX6_climb 98 = .ok (.iaload, 1) := by decide +kernel
theorem dX6_climb_99 : decode cX6_climb 99 = .ok (.ifCond .ne 24, 3) := by decide +kernel
theorem dX6_climb_102 : decode cX6_climb 102 = .ok (.aload_n 0, 1) := by decide +kernel
theorem dX6_climb_103 : decode cX6_climb 103 = .ok (.getfield 19, 3) := by decide +kernel
theorem dX6_climb_106 : decode cX6_climb 106 = .ok (.sipush 512, 3) := by decide +kernel
theorem dX6_climb_109 : decode cX6_climb 109 = .ok (.aload_n 0, 1) := by decide +kernel
theorem dX6_climb_110 : decode cX6_climb 110 = .ok (.getfield 7, 3) := by decide +kernel
theorem dX6_climb_113 : decode cX6_climb 113 = .ok (.iload_n 3, 1) := by decide +kernel
theorem dX6_climb_114 : decode cX6_climb 114 = .ok (.iaload, 1) := by decide +kernel
theorem dX6_climb_115 : decode cX6_climb 115 = .ok (.imul, 1) := by decide +kernel
theorem dX6_climb_116 : decode cX6_climb 116 = .ok (.iload 5, 2) := by decide +kernel
theorem dX6_climb_118 : decode cX6_climb 118 = .ok (.iadd, 1) := by decide +kernel
theorem dX6_climb_119 : decode cX6_climb 119 = .ok (.iload_n 1, 1) := by decide +kernel
theorem dX6_climb_120 : decode cX6_climb 120 = .ok (.iastore, 1) := by decide +kernel
theorem dX6_climb_121 : decode cX6_climb 121 = .ok (.iconst 1, 1) := by decide +kernel
theorem dX6_climb_122 : decode cX6_climb 122 = .ok (.istore_n 2, 1) := by decide +kernel
theorem dX6_climb_123 : decode cX6_climb 123 = .ok (.iinc 4 1, 3) := by decide +kernel
theorem dX6_climb_126 : decode cX6_climb 126 = .ok (.goto (-84), 3) := by decide +kernel
theorem dX6_climb_129 : decode cX6_climb 129 = .ok (.iinc 3 1, 3) := by decide +kernel
theorem dX6_climb_132 : decode cX6_climb 132 = .ok (.goto (-128), 3) := by decide +kernel
theorem dX6_climb_135 : decode cX6_climb 135 = .ok (.iload_n 2, 1) := by decide +kernel
theorem dX6_climb_136 : decode cX6_climb 136 = .ok (.ireturn, 1) := by decide +kernel
theorem dX6_reckon_0 : decode cX6_reckon 0 = .ok (.aload_n 0, 1) := by decide +kernel
theorem dX6_reckon_1 : decode cX6_reckon 1 = .ok (.getfield 60, 3) := by decide +kernel
theorem dX6_reckon_4 : decode cX6_reckon 4 = .ok (.ifCond .eq 4, 3) := by decide +kernel
theorem dX6_reckon_7 : decode cX6_reckon 7 = .ok (.return_, 1) := by decide +kernel
theorem dX6_reckon_8 : decode cX6_reckon 8 = .ok (.iconst 0, 1) := by decide +kernel
theorem dX6_reckon_9 : decode cX6_reckon 9 = .ok (.istore_n 1, 1) := by decide +kernel
theorem dX6_reckon_10 : decode cX6_reckon 10 = .ok (.iload_n 1, 1) := by decide +kernel
theorem dX6_reckon_11 : decode cX6_reckon 11 = .ok (.sipush 2560, 3) := by decide +kernel
theorem dX6_reckon_14 : decode cX6_reckon 14 = .ok (.if_icmp .ge 16, 3) := by decide +kernel
theorem dX6_reckon_17 : decode cX6_reckon 17 = .ok (.aload_n 0, 1) := by decide +kernel
theorem dX6_reckon_18 : decode cX6_reckon 18 = .ok (.getfield 19, 3) := by decide +kernel
theorem dX6_reckon_21 : decode cX6_reckon 21 = .ok (.iload_n 1, 1) := by decide +kernel
theorem dX6_reckon_22 : decode cX6_reckon 22 = .ok (.iconst 0, 1) := by decide +kernel
theorem dX6_reckon_23 : decode cX6_reckon 23 = .ok (.iastore, 1) := by decide +kernel
theorem dX6_reckon_24 : decode cX6_reckon 24 = .ok (.iinc 1 1, 3) := by decide +kernel
theorem dX6_reckon_27 : decode cX6_reckon 27 = .ok (.goto (-17), 3) := by decide +kernel
theorem dX6_reckon_30 : decode cX6_reckon 30 = .ok (.iconst 1, 1) := by decide +kernel
theorem dX6_reckon_31 : decode cX6_reckon 31 = .ok (.istore_n 1, 1) := by decide +kernel
theorem dX6_reckon_32 : decode cX6_reckon 32 = .ok (.aload_n 0, 1) := by decide +kernel
theorem dX6_reckon_33 : decode cX6_reckon 33 = .ok (.iload_n 1, 1) := by decide +kernel
theorem dX6_reckon_34 : decode cX6_reckon 34 = .ok (.invokevirtual 88, 3) := by decide +kernel
theorem dX6_reckon_37 : decode cX6_reckon 37 = .ok (.ifCond .eq 9, 3) := by decide +kernel
theorem dX6_reckon_40 : decode cX6_reckon 40 = .ok (.iinc 1 1, 3) := by decide +kernel
theorem dX6_reckon_43 : decode cX6_reckon 43 = .ok (.goto (-11), 3) := by decide +kernel
theorem dX6_reckon_46 : decode cX6_reckon 46 = .ok (.aload_n 0, 1) := by decide +kernel
theorem dX6_reckon_47 : decode cX6_reckon 47 = .ok (.iconst 1, 1) := by decide +kernel
theorem dX6_reckon_48 : decode cX6_reckon 48 = .ok (.putfield 60, 3) := by decide +kernel
theorem dX6_reckon_51 : decode cX6_reckon 51 = .ok (.return_, 1) := by decide +kernel
theorem dX6_isCount_0 : decode cX6_isCount 0 = .ok (.iload_n 0, 1) := by decide +kernel
theorem dX6_isCount_1 : decode cX6_isCount 1 = .ok (.invokestatic 49, 3) := by decide +kernel
theorem dX6_isCount_4 : decode cX6_isCount 4 = .ok (.ifCond .eq 37, 3) := by decide +kernel
theorem dX6_isCount_7 : decode cX6_isCount 7 = .ok (.iload_n 1, 1) := by decide +kernel
theorem dX6_isCount_8 : decode cX6_isCount 8 = .ok (.iconst 0, 1) := by decide +kernel
theorem dX6_isCount_9 : decode cX6_isCount 9 = .ok (.bipush 7, 2) := by decide +kernel
theorem dX6_isCount_11 : decode cX6_isCount 11 = .ok (.invokestatic 45, 3) := by decide +kernel
theorem dX6_isCount_14 : decode cX6_isCount 14 = .ok (.ifCond .eq 27, 3) := by decide +kernel
theorem dX6_isCount_17 : decode cX6_isCount 17 = .ok (.iload_n 2, 1) := by decide +kernel
theorem dX6_isCount_18 : decode cX6_isCount 18 = .ok (.iconst 0, 1) := by decide +kernel
theorem dX6_isCount_19 : decode cX6_isCount 19 = .ok (.bipush 7, 2) := by decide +kernel
theorem dX6_isCount_21 : decode cX6_isCount 21 = .ok (.invokestatic 45, 3) := by decide +kernel
theorem dX6_isCount_24 : decode cX6_isCount 24 = .ok (.ifCond .eq 17, 3) := by decide +kernel
theorem dX6_isCount_27 : decode cX6_isCount 27 = .ok (.iload_n 3, 1) := by decide +kernel
theorem dX6_isCount_28 : decode cX6_isCount 28 = .ok (.iconst 0, 1) := by decide +kernel
theorem dX6_isCount_29 : decode cX6_isCount 29 = .ok (.bipush 7, 2) := by decide +kernel
theorem dX6_isCount_31 : decode cX6_isCount 31 = .ok (.invokestatic 45, 3) := by decide +kernel
theorem dX6_isCount_34 : decode cX6_isCount 34 = .ok (.ifCond .eq 7, 3) := by decide +kernel
theorem dX6_isCount_37 : decode cX6_isCount 37 = .ok (.iconst 1, 1) := by decide +kernel
theorem dX6_isCount_38 : decode cX6_isCount 38 = .ok (.goto 4, 3) := by decide +kernel
theorem dX6_isCount_41 : decode cX6_isCount 41 = .ok (.iconst 0, 1) := by decide +kernel
theorem dX6_isCount_42 : decode cX6_isCount 42 = .ok (.ireturn, 1) := by decide +kernel
theorem dX6_height_0 : decode cX6_height 0 = .ok (.aload_n 0, 1) := by decide +kernel
theorem dX6_height_1 : decode cX6_height 1 = .ok (.iload_n 1, 1) := by decide +kernel
theorem dX6_height_2 : decode cX6_height 2 = .ok (.iload_n 2, 1) := by decide +kernel
theorem dX6_height_3 : decode cX6_height 3 = .ok (.iload_n 3, 1) := by decide +kernel
theorem dX6_height_4 : decode cX6_height 4 = .ok (.iload 4, 2) := by decide +kernel
theorem dX6_height_6 : decode cX6_height 6 = .ok (.invokestatic 91, 3) := by decide +kernel
theorem dX6_height_9 : decode cX6_height 9 = .ok (.ifCond .ne 7, 3) := by decide +kernel
theorem dX6_height_12 : decode cX6_height 12 = .ok (.iconst 1, 1) := by decide +kernel
theorem dX6_height_13 : decode cX6_height 13 = .ok (.goto 4, 3) := by decide +kernel
theorem dX6_height_16 : decode cX6_height 16 = .ok (.iconst 0, 1) := by decide +kernel
theorem dX6_height_17 : decode cX6_height 17 = .ok (.iconst 0, 1) := by decide +kernel
theorem dX6_height_18 : decode cX6_height 18 = .ok (.iconst 0, 1) := by decide +kernel
theorem dX6_height_19 : decode cX6_height 19 = .ok (.invokevirtual 56, 3) := by decide +kernel
theorem dX6_height_22 : decode cX6_height 22 = .ok (.ifCond .eq 5, 3) := by decide +kernel
theorem dX6_height_25 : decode cX6_height 25 = .ok (.iconst 0, 1) := by decide +kernel
theorem dX6_height_26 : decode cX6_height 26 = .ok (.ireturn, 1) := by decide +kernel
theorem dX6_height_27 : decode cX6_height 27 = .ok (.aload_n 0, 1) := by decide +kernel
theorem dX6_height_28 : decode cX6_height 28 = .ok (.invokevirtual 95, 3) := by decide +kernel
theorem dX6_height_31 : decode cX6_height 31 = .ok (.aload_n 0, 1) := by decide +kernel
theorem dX6_height_32 : decode cX6_height 32 = .ok (.getfield 19, 3) := by decide +kernel
theorem dX6_height_35 : decode cX6_height 35 = .ok (.sipush 512, 3) := by decide +kernel
theorem dX6_height_38 : decode cX6_height 38 = .ok (.iload_n 1, 1) := by decide +kernel
theorem dX6_height_39 : decode cX6_height 39 = .ok (.imul, 1) := by decide +kernel
theorem dX6_height_40 : decode cX6_height 40 = .ok (.iload_n 2, 1) := by decide +kernel
theorem dX6_height_41 : decode cX6_height 41 = .ok (.iadd, 1) := by decide +kernel
theorem dX6_height_42 : decode cX6_height 42 = .ok (.bipush 8, 2) := by decide +kernel
theorem dX6_height_44 : decode cX6_height 44 = .ok (.iload_n 3, 1) := by decide +kernel
theorem dX6_height_45 : decode cX6_height 45 = .ok (.imul, 1) := by decide +kernel
theorem dX6_height_46 : decode cX6_height 46 = .ok (.iadd, 1) := by decide +kernel
theorem dX6_height_47 : decode cX6_height 47 = .ok (.bipush 64, 2) := by decide +kernel
theorem dX6_height_49 : decode cX6_height 49 = .ok (.iload 4, 2) := by decide +kernel
theorem dX6_height_51 : decode cX6_height 51 = .ok (.imul, 1) := by decide +kernel
theorem dX6_height_52 : decode cX6_height 52 = .ok (.iadd, 1) := by decide +kernel
theorem dX6_height_53 : decode cX6_height 53 = .ok (.iaload, 1) := by decide +kernel
theorem dX6_height_54 : decode cX6_height 54 = .ok (.istore 5, 2) := by decide +kernel
theorem dX6_height_56 : decode cX6_height 56 = .ok (.iload 5, 2) := by decide +kernel
theorem dX6_height_58 : decode cX6_height 58 = .ok (.ifCond .ne 7, 3) := by decide +kernel
theorem dX6_height_61 : decode cX6_height 61 = .ok (.iconst (-1), 1) := by decide +kernel
theorem dX6_height_62 : decode cX6_height 62 = .ok (.goto 5, 3) := by decide +kernel
theorem dX6_height_65 : decode cX6_height 65 = .ok (.iload 5, 2) := by decide +kernel
theorem dX6_height_67 : decode cX6_height 67 = .ok (.ireturn, 1) := by decide +kernel
theorem dX6_manyOf_0 : decode cX6_manyOf 0 = .ok (.iconst 0, 1) := by decide +kernel
theorem dX6_manyOf_1 : decode cX6_manyOf 1 = .ok (.istore_n 2, 1) := by decide +kernel
theorem dX6_manyOf_2 : decode cX6_manyOf 2 = .ok (.iconst 0, 1) := by decide +kernel
theorem dX6_manyOf_3 : decode cX6_manyOf 3 = .ok (.istore_n 3, 1) := by decide +kernel
theorem dX6_manyOf_4 : decode cX6_manyOf 4 = .ok (.iload_n 3, 1) := by decide +kernel
theorem dX6_manyOf_5 : decode cX6_manyOf 5 = .ok (.sipush 512, 3) := by decide +kernel
theorem dX6_manyOf_8 : decode cX6_manyOf 8 = .ok (.if_icmp .ge 32, 3) := by decide +kernel
theorem dX6_manyOf_11 : decode cX6_manyOf 11 = .ok (.aload_n 0, 1) := by decide +kernel
theorem dX6_manyOf_12 : decode cX6_manyOf 12 = .ok (.getfield 19, 3) := by decide +kernel
theorem dX6_manyOf_15 : decode cX6_manyOf 15 = .ok (.sipush 512, 3) := by decide +kernel
theorem dX6_manyOf_18 : decode cX6_manyOf 18 = .ok (.iload_n 1, 1) := by decide +kernel
theorem dX6_manyOf_19 : decode cX6_manyOf 19 = .ok (.imul, 1) := by decide +kernel
theorem dX6_manyOf_20 : decode cX6_manyOf 20 = .ok (.iload_n 3, 1) := by decide +kernel
theorem dX6_manyOf_21 : decode cX6_manyOf 21 = .ok (.iadd, 1) := by decide +kernel
theorem dX6_manyOf_22 : decode cX6_manyOf 22 = .ok (.iaload, 1) := by decide +kernel
theorem dX6_manyOf_23 : decode cX6_manyOf 23 = .ok (.ifCond .le 9, 3) := by decide +kernel
theorem dX6_manyOf_26 : decode cX6_manyOf 26 = .ok (.iload_n 2, 1) := by decide +kernel
theorem dX6_manyOf_27 : decode cX6_manyOf 27 = .ok (.iconst 1, 1) := by decide +kernel
theorem dX6_manyOf_28 : decode cX6_manyOf 28 = .ok (.iadd, 1) := by decide +kernel
theorem dX6_manyOf_29 : decode cX6_manyOf 29 = .ok (.goto 4, 3) := by decide +kernel
theorem dX6_manyOf_32 : decode cX6_manyOf 32 = .ok (.iload_n 2, 1) := by decide +kernel
theorem dX6_manyOf_33 : decode cX6_manyOf 33 = .ok (.istore_n 2, 1) := by decide +kernel
theorem dX6_manyOf_34 : decode cX6_manyOf 34 = .ok (.iinc 3 1, 3) := by decide +kernel
theorem dX6_manyOf_37 : decode cX6_manyOf 37 = .ok (.goto (-33), 3) := by decide +kernel
theorem dX6_manyOf_40 : decode cX6_manyOf 40 = .ok (.iload_n 2, 1) := by decide +kernel
theorem dX6_manyOf_41 : decode cX6_manyOf 41 = .ok (.ireturn, 1) := by decide +kernel
theorem dX6_many_0 : decode cX6_many 0 = .ok (.aload_n 0, 1) := by decide +kernel
theorem dX6_many_1 : decode cX6_many 1 = .ok (.iload_n 1, 1) := by decide +kernel
theorem dX6_many_2 : decode cX6_many 2 = .ok (.invokestatic 49, 3) := by decide +kernel
theorem dX6_many_5 : decode cX6_many 5 = .ok (.ifCond .ne 7, 3) := by decide +kernel
theorem dX6_many_8 : decode cX6_many 8 = .ok (.iconst 1, 1) := by decide +kernel
theorem dX6_many_9 : decode cX6_many 9 = .ok (.goto 4, 3) := by decide +kernel
theorem dX6_many_12 : decode cX6_many 12 = .ok (.iconst 0, 1) := by decide +kernel
theorem dX6_many_13 : decode cX6_many 13 = .ok (.iconst 0, 1) := by decide +kernel
theorem dX6_many_14 : decode cX6_many 14 = .ok (.iconst 0, 1) := by decide +kernel
theorem dX6_many_15 : decode cX6_many 15 = .ok (.invokevirtual 56, 3) := by decide +kernel
theorem dX6_many_18 : decode cX6_many 18 = .ok (.ifCond .eq 5, 3) := by decide +kernel
theorem dX6_many_21 : decode cX6_many 21 = .ok (.iconst 0, 1) := by decide +kernel
theorem dX6_many_22 : decode cX6_many 22 = .ok (.ireturn, 1) := by decide +kernel
theorem dX6_many_23 : decode cX6_many 23 = .ok (.aload_n 0, 1) := by decide +kernel
theorem dX6_many_24 : decode cX6_many 24 = .ok (.invokevirtual 95, 3) := by decide +kernel
theorem dX6_many_27 : decode cX6_many 27 = .ok (.aload_n 0, 1) := by decide +kernel
theorem dX6_many_28 : decode cX6_many 28 = .ok (.iload_n 1, 1) := by decide +kernel
theorem dX6_many_29 : decode cX6_many 29 = .ok (.invokevirtual 98, 3) := by decide +kernel
theorem dX6_many_32 : decode cX6_many 32 = .ok (.ireturn, 1) := by decide +kernel
theorem dX6_count_0 : decode cX6_count 0 = .ok (.iload_n 1, 1) := by decide +kernel
theorem dX6_count_1 : decode cX6_count 1 = .ok (.invokestatic 49, 3) := by decide +kernel
theorem dX6_count_4 : decode cX6_count 4 = .ok (.istore_n 3, 1) := by decide +kernel
theorem dX6_count_5 : decode cX6_count 5 = .ok (.iload_n 3, 1) := by decide +kernel
theorem dX6_count_6 : decode cX6_count 6 = .ok (.ifCond .eq 7, 3) := by decide +kernel
theorem dX6_count_9 : decode cX6_count 9 = .ok (.aload_n 0, 1) := by decide +kernel
theorem dX6_count_10 : decode cX6_count 10 = .ok (.invokevirtual 95, 3) := by decide +kernel
theorem dX6_count_13 : decode cX6_count 13 = .ok (.aload_n 0, 1) := by decide +kernel
theorem dX6_count_14 : decode cX6_count 14 = .ok (.iload_n 3, 1) := by decide +kernel
theorem dX6_count_15 : decode cX6_count 15 = .ok (.ifCond .ne 7, 3) := by decide +kernel
theorem dX6_count_18 : decode cX6_count 18 = .ok (.iconst 1, 1) := by decide +kernel
theorem dX6_count_19 : decode cX6_count 19 = .ok (.goto 4, 3) := by decide +kernel
theorem dX6_count_22 : decode cX6_count 22 = .ok (.iconst 0, 1) := by decide +kernel
theorem dX6_count_23 : decode cX6_count 23 = .ok (.iload_n 3, 1) := by decide +kernel
theorem dX6_count_24 : decode cX6_count 24 = .ok (.ifCond .eq 30, 3) := by decide +kernel
theorem dX6_count_27 : decode cX6_count 27 = .ok (.iload_n 2, 1) := by decide +kernel
theorem dX6_count_28 : decode cX6_count 28 = .ok (.iconst 0, 1) := by decide +kernel
theorem dX6_count_29 : decode cX6_count 29 = .ok (.aload_n 0, 1) := by decide +kernel
theorem dX6_count_30 : decode cX6_count 30 = .ok (.iload_n 3, 1) := by decide +kernel
theorem dX6_count_31 : decode cX6_count 31 = .ok (.ifCond .eq 7, 3) := by decide +kernel
theorem dX6_count_34 : decode cX6_count 34 = .ok (.iload_n 1, 1) := by decide +kernel
theorem dX6_count_35 : decode cX6_count 35 = .ok (.goto 4, 3) := by decide +kernel
theorem dX6_count_38 : decode cX6_count 38 = .ok (.iconst 0, 1) := by decide +kernel
theorem dX6_count_39 : decode cX6_count 39 = .ok (.invokevirtual 98, 3) := by decide +kernel
theorem dX6_count_42 : decode cX6_count 42 = .ok (.iconst 1, 1) := by decide +kernel
theorem dX6_count_43 : decode cX6_count 43 = .ok (.isub, 1) := by decide +kernel
theorem dX6_count_44 : decode cX6_count 44 = .ok (.invokestatic 45, 3) := by decide +kernel
theorem dX6_count_47 : decode cX6_count 47 = .ok (.ifCond .ne 7, 3) := by decide +kernel
theorem dX6_count_50 : decode cX6_count 50 = .ok (.iconst 1, 1) := by decide +kernel
theorem dX6_count_51 : decode cX6_count 51 = .ok (.goto 4, 3) := by decide +kernel
theorem dX6_count_54 : decode cX6_count 54 = .ok (.iconst 0, 1) := by decide +kernel
theorem dX6_count_55 : decode cX6_count 55 = .ok (.iconst 0, 1) := by decide +kernel
theorem dX6_count_56 : decode cX6_count 56 = .ok (.invokevirtual 56, 3) := by decide +kernel
theorem dX6_count_59 : decode cX6_count 59 = .ok (.ifCond .eq 5, 3) := by decide +kernel
theorem dX6_count_62 : decode cX6_count 62 = .ok (.iconst 0, 1) := by decide +kernel
theorem dX6_count_63 : decode cX6_count 63 = .ok (.ireturn, 1) := by decide +kernel
theorem dX6_count_64 : decode cX6_count 64 = .ok (.iconst 0, 1) := by decide +kernel
theorem dX6_count_65 : decode cX6_count 65 = .ok (.istore 4, 2) := by decide +kernel
theorem dX6_count_67 : decode cX6_count 67 = .ok (.iload_n 2, 1) := by decide +kernel
theorem dX6_count_68 : decode cX6_count 68 = .ok (.istore 5, 2) := by decide +kernel
theorem dX6_count_70 : decode cX6_count 70 = .ok (.iload 5, 2) := by decide +kernel
theorem dX6_count_72 : decode cX6_count 72 = .ok (.ifCond .gt 19, 3) := by decide +kernel
theorem dX6_count_75 : decode cX6_count 75 = .ok (.aload_n 0, 1) := by decide +kernel
theorem dX6_count_76 : decode cX6_count 76 = .ok (.getfield 19, 3) := by decide +kernel
theorem dX6_count_79 : decode cX6_count 79 = .ok (.sipush 512, 3) := by decide +kernel
theorem dX6_count_82 : decode cX6_count 82 = .ok (.iload_n 1, 1) := by decide +kernel
theorem dX6_count_83 : decode cX6_count 83 = .ok (.imul, 1) := by decide +kernel
theorem dX6_count_84 : decode cX6_count 84 = .ok (.iload 4, 2) := by decide +kernel
theorem dX6_count_86 : decode cX6_count 86 = .ok (.iadd, 1) := by decide +kernel
theorem dX6_count_87 : decode cX6_count 87 = .ok (.iaload, 1) := by decide +kernel
theorem dX6_count_88 : decode cX6_count 88 = .ok (.ifCond .ne 36, 3) := by decide +kernel
theorem dX6_count_91 : decode cX6_count 91 = .ok (.aload_n 0, 1) := by decide +kernel
theorem dX6_count_92 : decode cX6_count 92 = .ok (.getfield 19, 3) := by decide +kernel
theorem dX6_count_95 : decode cX6_count 95 = .ok (.sipush 512, 3) := by decide +kernel
theorem dX6_count_98 : decode cX6_count 98 = .ok (.iload_n 1, 1) := by decide +kernel
theorem dX6_count_99 : decode cX6_count 99 = .ok (.imul, 1) := by decide +kernel
theorem dX6_count_100 : decode cX6_count 100 = .ok (.iload 4, 2) := by decide +kernel
theorem dX6_count_102 : decode cX6_count 102 = .ok (.iadd, 1) := by decide +kernel
theorem dX6_count_103 : decode cX6_count 103 = .ok (.iaload, 1) := by decide +kernel
theorem dX6_count_104 : decode cX6_count 104 = .ok (.ifCond .le 10, 3) := by decide +kernel
theorem dX6_count_107 : decode cX6_count 107 = .ok (.iload 5, 2) := by decide +kernel
theorem dX6_count_109 : decode cX6_count 109 = .ok (.iconst 1, 1) := by decide +kernel
theorem dX6_count_110 : decode cX6_count 110 = .ok (.isub, 1) := by decide +kernel
theorem dX6_count_111 : decode cX6_count 111 = .ok (.goto 5, 3) := by decide +kernel
theorem dX6_count_114 : decode cX6_count 114 = .ok (.iload 5, 2) := by decide +kernel
theorem dX6_count_116 : decode cX6_count 116 = .ok (.istore 5, 2) := by decide +kernel
theorem dX6_count_118 : decode cX6_count 118 = .ok (.iinc 4 1, 3) := by decide +kernel
theorem dX6_count_121 : decode cX6_count 121 = .ok (.goto (-51), 3) := by decide +kernel
theorem dX6_count_124 : decode cX6_count 124 = .ok (.iload 4, 2) := by decide +kernel
theorem dX6_count_126 : decode cX6_count 126 = .ok (.ireturn, 1) := by decide +kernel
theorem dX6_rootOf_0 : decode cX6_rootOf 0 = .ok (.aload_n 0, 1) := by decide +kernel
theorem dX6_rootOf_1 : decode cX6_rootOf 1 = .ok (.getfield 19, 3) := by decide +kernel
theorem dX6_rootOf_4 : decode cX6_rootOf 4 = .ok (.sipush 512, 3) := by decide +kernel
theorem dX6_rootOf_7 : decode cX6_rootOf 7 = .ok (.iload_n 1, 1) := by decide +kernel
theorem dX6_rootOf_8 : decode cX6_rootOf 8 = .ok (.imul, 1) := by decide +kernel
theorem dX6_rootOf_9 : decode cX6_rootOf 9 = .ok (.iload_n 2, 1) := by decide +kernel
theorem dX6_rootOf_10 : decode cX6_rootOf 10 = .ok (.iadd, 1) := by decide +kernel
theorem dX6_rootOf_11 : decode cX6_rootOf 11 = .ok (.iaload, 1) := by decide +kernel
theorem dX6_rootOf_12 : decode cX6_rootOf 12 = .ok (.istore_n 3, 1) := by decide +kernel
theorem dX6_rootOf_13 : decode cX6_rootOf 13 = .ok (.iconst 0, 1) := by decide +kernel
theorem dX6_rootOf_14 : decode cX6_rootOf 14 = .ok (.istore 4, 2) := by decide +kernel
theorem dX6_rootOf_16 : decode cX6_rootOf 16 = .ok (.iload 4, 2) := by decide +kernel
theorem dX6_rootOf_18 : decode cX6_rootOf 18 = .ok (.aload_n 0, 1) := by decide +kernel
theorem dX6_rootOf_19 : decode cX6_rootOf 19 = .ok (.getfield 53, 3) := by decide +kernel
theorem dX6_rootOf_22 : decode cX6_rootOf 22 = .ok (.if_icmp .ge 60, 3) := by decide +kernel
theorem dX6_rootOf_25 : decode cX6_rootOf 25 = .ok (.iload_n 2, 1) := by decide +kernel
theorem dX6_rootOf_26 : decode cX6_rootOf 26 = .ok (.aload_n 0, 1) := by decide +kernel
theorem dX6_rootOf_27 : decode cX6_rootOf 27 = .ok (.iload 4, 2) := by decide +kernel
theorem dX6_rootOf_29 : decode cX6_rootOf 29 = .ok (.invokevirtual 84, 3) := by decide +kernel
theorem dX6_rootOf_32 : decode cX6_rootOf 32 = .ok (.invokestatic 101, 3) := by decide +kernel
theorem dX6_rootOf_35 : decode cX6_rootOf 35 = .ok (.istore 5, 2) := by decide +kernel
theorem dX6_rootOf_37 : decode cX6_rootOf 37 = .ok (.aload_n 0, 1) := by decide +kernel
theorem dX6_rootOf_38 : decode cX6_rootOf 38 = .ok (.getfield 7, 3) := by decide +kernel
theorem dX6_rootOf_41 : decode cX6_rootOf 41 = .ok (.iload 4, 2) := by decide +kernel
theorem dX6_rootOf_43 : decode cX6_rootOf 43 = .ok (.iaload, 1) := by decide +kernel
theorem dX6_rootOf_44 : decode cX6_rootOf 44 = .ok (.iload_n 1, 1) := by decide +kernel
theorem dX6_rootOf_45 : decode cX6_rootOf 45 = .ok (.if_icmp .ne 31, 3) := by decide +kernel
theorem dX6_rootOf_48 : decode cX6_rootOf 48 = .ok (.iload 5, 2) := by decide +kernel
theorem dX6_rootOf_50 : decode cX6_rootOf 50 = .ok (.ifCond .ge 6, 3) := by decide +kernel
theorem dX6_rootOf_53 : decode cX6_rootOf 53 = .ok (.goto 23, 3) := by decide +kernel
theorem dX6_rootOf_56 : decode cX6_rootOf 56 = .ok (.aload_n 0, 1) := by decide +kernel
theorem dX6_rootOf_57 : decode cX6_rootOf 57 = .ok (.iload 4, 2) := by decide +kernel
theorem dX6_rootOf_59 : decode cX6_rootOf 59 = .ok (.iload_n 3, 1) := by decide +kernel
theorem dX6_rootOf_60 : decode cX6_rootOf 60 = .ok (.invokevirtual 81, 3) := by decide +kernel
theorem dX6_rootOf_63 : decode cX6_rootOf 63 = .ok (.aload_n 0, 1) := by decide +kernel
theorem dX6_rootOf_64 : decode cX6_rootOf 64 = .ok (.getfield 22, 3) := by decide +kernel
theorem dX6_rootOf_67 : decode cX6_rootOf 67 = .ok (.iload 5, 2) := by decide +kernel
theorem dX6_rootOf_69 : decode cX6_rootOf 69 = .ok (.baload, 1) := by decide +kernel
theorem dX6_rootOf_70 : decode cX6_rootOf 70 = .ok (.ifCond .eq 6, 3) := by decide +kernel
theorem dX6_rootOf_73 : decode cX6_rootOf 73 = .ok (.iload 4, 2) := by decide +kernel
theorem dX6_rootOf_75 : decode cX6_rootOf 75 = .ok (.ireturn, 1) := by decide +kernel
theorem dX6_rootOf_76 : decode cX6_rootOf 76 = .ok (.iinc 4 1, 3) := by decide +kernel
theorem dX6_rootOf_79 : decode cX6_rootOf 79 = .ok (.goto (-63), 3) := by decide +kernel
theorem dX6_rootOf_82 : decode cX6_rootOf 82 = .ok (.iconst (-1), 1) := by decide +kernel
theorem dX6_rootOf_83 : decode cX6_rootOf 83 = .ok (.ireturn, 1) := by decide +kernel
theorem dX6_spread_0 : decode cX6_spread 0 = .ok (.aload_n 0, 1) := by decide +kernel
theorem dX6_spread_1 : decode cX6_spread 1 = .ok (.getfield 19, 3) := by decide +kernel
theorem dX6_spread_4 : decode cX6_spread 4 = .ok (.sipush 512, 3) := by decide +kernel
theorem dX6_spread_7 : decode cX6_spread 7 = .ok (.aload_n 0, 1) := by decide +kernel
theorem dX6_spread_8 : decode cX6_spread 8 = .ok (.getfield 7, 3) := by decide +kernel
theorem dX6_spread_11 : decode cX6_spread 11 = .ok (.iload_n 1, 1) := by decide +kernel
theorem dX6_spread_12 : decode cX6_spread 12 = .ok (.iaload, 1) := by decide +kernel
theorem dX6_spread_13 : decode cX6_spread 13 = .ok (.imul, 1) := by decide +kernel
theorem dX6_spread_14 : decode cX6_spread 14 = .ok (.iload_n 2, 1) := by decide +kernel
theorem dX6_spread_15 : decode cX6_spread 15 = .ok (.iadd, 1) := by decide +kernel
theorem dX6_spread_16 : decode cX6_spread 16 = .ok (.iaload, 1) := by decide +kernel
theorem dX6_spread_17 : decode cX6_spread 17 = .ok (.istore_n 3, 1) := by decide +kernel
theorem dX6_spread_18 : decode cX6_spread 18 = .ok (.iload_n 2, 1) := by decide +kernel
theorem dX6_spread_19 : decode cX6_spread 19 = .ok (.aload_n 0, 1) := by decide +kernel
theorem dX6_spread_20 : decode cX6_spread 20 = .ok (.iload_n 1, 1) := by decide +kernel
theorem dX6_spread_21 : decode cX6_spread 21 = .ok (.invokevirtual 84, 3) := by decide +kernel
theorem dX6_spread_24 : decode cX6_spread 24 = .ok (.invokestatic 101, 3) := by decide +kernel
theorem dX6_spread_27 : decode cX6_spread 27 = .ok (.istore 4, 2) := by decide +kernel
theorem dX6_spread_29 : decode cX6_spread 29 = .ok (.aload_n 0, 1) := by decide +kernel
theorem dX6_spread_30 : decode cX6_spread 30 = .ok (.getfield 104, 3) := by decide +kernel
theorem dX6_spread_33 : decode cX6_spread 33 = .ok (.istore 5, 2) := by decide +kernel
theorem dX6_spread_35 : decode cX6_spread 35 = .ok (.iconst 0, 1) := by decide +kernel
theorem dX6_spread_36 : decode cX6_spread 36 = .ok (.istore 6, 2) := by decide +kernel
theorem dX6_spread_38 : decode cX6_spread 38 = .ok (.iload 6, 2) := by decide +kernel
theorem dX6_spread_40 : decode cX6_spread 40 = .ok (.iconst 4, 1) := by decide +kernel
theorem dX6_spread_41 : decode cX6_spread 41 = .ok (.if_icmp .ge 125, 3) := by decide +kernel
theorem dX6_spread_44 : decode cX6_spread 44 = .ok (.aload_n 0, 1) := by decide +kernel
theorem dX6_spread_45 : decode cX6_spread 45 = .ok (.getfield 13, 3) := by decide +kernel
theorem dX6_spread_48 : decode cX6_spread 48 = .ok (.iconst 4, 1) := by decide +kernel
theorem dX6_spread_49 : decode cX6_spread 49 = .ok (.iload_n 1, 1) := by decide +kernel
theorem dX6_spread_50 : decode cX6_spread 50 = .ok (.imul, 1) := by decide +kernel
theorem dX6_spread_51 : decode cX6_spread 51 = .ok (.iload 6, 2) := by decide +kernel
theorem dX6_spread_53 : decode cX6_spread 53 = .ok (.iadd, 1) := by decide +kernel
theorem dX6_spread_54 : decode cX6_spread 54 = .ok (.iaload, 1) := by decide +kernel
theorem dX6_spread_55 : decode cX6_spread 55 = .ok (.istore 7, 2) := by decide +kernel
theorem dX6_spread_57 : decode cX6_spread 57 = .ok (.iload 7, 2) := by decide +kernel
theorem dX6_spread_59 : decode cX6_spread 59 = .ok (.invokestatic 49, 3) := by decide +kernel
theorem dX6_spread_62 : decode cX6_spread 62 = .ok (.ifCond .ne 6, 3) := by decide +kernel
theorem dX6_spread_65 : decode cX6_spread 65 = .ok (.goto 95, 3) := by decide +kernel
theorem dX6_spread_68 : decode cX6_spread 68 = .ok (.iconst 0, 1) := by decide +kernel
theorem dX6_spread_69 : decode cX6_spread 69 = .ok (.istore 8, 2) := by decide +kernel
theorem dX6_spread_71 : decode cX6_spread 71 = .ok (.aload_n 0, 1) := by decide +kernel
theorem dX6_spread_72 : decode cX6_spread 72 = .ok (.iload 7, 2) := by decide +kernel
theorem dX6_spread_74 : decode cX6_spread 74 = .ok (.iload 8, 2) := by decide +kernel
theorem dX6_spread_76 : decode cX6_spread 76 = .ok (.iload_n 3, 1) := by decide +kernel
theorem dX6_spread_77 : decode cX6_spread 77 = .ok (.invokevirtual 68, 3) := by decide +kernel
theorem dX6_spread_80 : decode cX6_spread 80 = .ok (.ifCond .eq 37, 3) := by decide +kernel
theorem dX6_spread_83 : decode cX6_spread 83 = .ok (.iload 4, 2) := by decide +kernel
theorem dX6_spread_85 : decode cX6_spread 85 = .ok (.iload 8, 2) := by decide +kernel
theorem dX6_spread_87 : decode cX6_spread 87 = .ok (.invokestatic 101, 3) := by decide +kernel
theorem dX6_spread_90 : decode cX6_spread 90 = .ok (.ifCond .lt 27, 3) := by decide +kernel
theorem dX6_spread_93 : decode cX6_spread 93 = .ok (.aload_n 0, 1) := by decide +kernel
theorem dX6_spread_94 : decode cX6_spread 94 = .ok (.getfield 22, 3) := by decide +kernel
theorem dX6_spread_97 : decode cX6_spread 97 = .ok (.sipush 512, 3) := by decide +kernel
theorem dX6_spread_100 : decode cX6_spread 100 = .ok (.iload 6, 2) := by decide +kernel
theorem dX6_spread_102 : decode cX6_spread 102 = .ok (.iconst 1, 1) := by decide +kernel
theorem dX6_spread_103 : decode cX6_spread 103 = .ok (.iadd, 1) := by decide +kernel
theorem dX6_spread_104 : decode cX6_spread 104 = .ok (.imul, 1) := by decide +kernel
theorem dX6_spread_105 : decode cX6_spread 105 = .ok (.iload 4, 2) := by decide +kernel
theorem dX6_spread_107 : decode cX6_spread 107 = .ok (.iload 8, 2) := by decide +kernel
theorem dX6_spread_109 : decode cX6_spread 109 = .ok (.invokestatic 101, 3) := by decide +kernel
theorem dX6_spread_112 : decode cX6_spread 112 = .ok (.iadd, 1) := by decide +kernel
theorem dX6_spread_113 : decode cX6_spread 113 = .ok (.baload, 1) := by decide +kernel
theorem dX6_spread_114 : decode cX6_spread 114 = .ok (.ifCond .ne 9, 3) := by decide +kernel
theorem dX6_spread_117 : decode cX6_spread 117 = .ok (.iinc 8 1, 3) := by decide +kernel
theorem dX6_spread_120 : decode cX6_spread 120 = .ok (.goto (-49), 3) := by decide +kernel
theorem dX6_spread_123 : decode cX6_spread 123 = .ok (.iload 4, 2) := by decide +kernel
theorem dX6_spread_125 : decode cX6_spread 125 = .ok (.iload 8, 2) := by decide +kernel
theorem dX6_spread_127 : decode cX6_spread 127 = .ok (.invokestatic 101, 3) := by decide +kernel
theorem dX6_spread_130 : decode cX6_spread 130 = .ok (.istore 4, 2) := by decide +kernel
theorem dX6_spread_132 : decode cX6_spread 132 = .ok (.aload_n 0, 1) := by decide +kernel
theorem dX6_spread_133 : decode cX6_spread 133 = .ok (.getfield 39, 3) := by decide +kernel
theorem dX6_spread_136 : decode cX6_spread 136 = .ok (.aload_n 0, 1) := by decide +kernel
theorem dX6_spread_137 : decode cX6_spread 137 = .ok (.getfield 104, 3) := by decide +kernel
theorem dX6_spread_140 : decode cX6_spread 140 = .ok (.sipush 512, 3) := by decide +kernel
theorem dX6_spread_143 : decode cX6_spread 143 = .ok (.iload 7, 2) := by decide +kernel
theorem dX6_spread_145 : decode cX6_spread 145 = .ok (.imul, 1) := by decide +kernel
theorem dX6_spread_146 : decode cX6_spread 146 = .ok (.iload 8, 2) := by decide +kernel
theorem dX6_spread_148 : decode cX6_spread 148 = .ok (.iadd, 1) := by decide +kernel
theorem dX6_spread_149 : decode cX6_spread 149 = .ok (.iastore, 1) := by decide +kernel
theorem dX6_spread_150 : decode cX6_spread 150 = .ok (.aload_n 0, 1) := by decide +kernel
theorem dX6_spread_151 : decode cX6_spread 151 = .ok (.dup, 1) := by decide +kernel
theorem dX6_spread_152 : decode cX6_spread 152 = .ok (.getfield 104, 3) := by decide +kernel
theorem dX6_spread_155 : decode cX6_spread 155 = .ok (.iconst 1, 1) := by decide +kernel
theorem dX6_spread_156 : decode cX6_spread 156 = .ok (.iadd, 1) := by decide +kernel
theorem dX6_spread_157 : decode cX6_spread 157 = .ok (.putfield 104, 3) := by decide +kernel
theorem dX6_spread_160 : decode cX6_spread 160 = .ok (.iinc 6 1, 3) := by decide +kernel
theorem dX6_spread_163 : decode cX6_spread 163 = .ok (.goto (-125), 3) := by decide +kernel
theorem dX6_spread_166 : decode cX6_spread 166 = .ok (.iconst 0, 1) := by decide +kernel
theorem dX6_spread_167 : decode cX6_spread 167 = .ok (.istore 6, 2) := by decide +kernel
theorem dX6_spread_169 : decode cX6_spread 169 = .ok (.iload 5, 2) := by decide +kernel
theorem dX6_spread_171 : decode cX6_spread 171 = .ok (.iload 6, 2) := by decide +kernel
theorem dX6_spread_173 : decode cX6_spread 173 = .ok (.iadd, 1) := by decide +kernel
theorem dX6_spread_174 : decode cX6_spread 174 = .ok (.aload_n 0, 1) := by decide +kernel
theorem dX6_spread_175 : decode cX6_spread 175 = .ok (.getfield 104, 3) := by decide +kernel
theorem dX6_spread_178 : decode cX6_spread 178 = .ok (.iconst 1, 1) := by decide +kernel
theorem dX6_spread_179 : decode cX6_spread 179 = .ok (.isub, 1) := by decide +kernel
theorem dX6_spread_180 : decode cX6_spread 180 = .ok (.iload 6, 2) := by decide +kernel
theorem dX6_spread_182 : decode cX6_spread 182 = .ok (.isub, 1) := by decide +kernel
theorem dX6_spread_183 : decode cX6_spread 183 = .ok (.if_icmp .ge 61, 3) := by decide +kernel
theorem dX6_spread_186 : decode cX6_spread 186 = .ok (.aload_n 0, 1) := by decide +kernel
theorem dX6_spread_187 : decode cX6_spread 187 = .ok (.getfield 39, 3) := by decide +kernel
theorem dX6_spread_190 : decode cX6_spread 190 = .ok (.iload 5, 2) := by decide +kernel
theorem dX6_spread_192 : decode cX6_spread 192 = .ok (.iload 6, 2) := by decide +kernel
theorem dX6_spread_194 : decode cX6_spread 194 = .ok (.iadd, 1) := by decide +kernel
theorem dX6_spread_195 : decode cX6_spread 195 = .ok (.iaload, 1) := by decide +kernel
theorem dX6_spread_196 : decode cX6_spread 196 = .ok (.istore 7, 2) := by decide +kernel
theorem dX6_spread_198 : decode cX6_spread 198 = .ok (.aload_n 0, 1) := by decide +kernel
theorem dX6_spread_199 : decode cX6_spread 199 = .ok (.getfield 39, 3) := by decide +kernel
theorem dX6_spread_202 : decode cX6_spread 202 = .ok (.iload 5, 2) := by decide +kernel
theorem dX6_spread_204 : decode cX6_spread 204 = .ok (.iload 6, 2) := by decide +kernel
theorem dX6_spread_206 : decode cX6_spread 206 = .ok (.iadd, 1) := by decide +kernel
theorem dX6_spread_207 : decode cX6_spread 207 = .ok (.aload_n 0, 1) := by decide +kernel
theorem dX6_spread_208 : decode cX6_spread 208 = .ok (.getfield 39, 3) := by decide +kernel
theorem dX6_spread_211 : decode cX6_spread 211 = .ok (.aload_n 0, 1) := by decide +kernel
theorem dX6_spread_212 : decode cX6_spread 212 = .ok (.getfield 104, 3) := by decide +kernel
theorem dX6_spread_215 : decode cX6_spread 215 = .ok (.iconst 1, 1) := by decide +kernel
theorem dX6_spread_216 : decode cX6_spread 216 = .ok (.isub, 1) := by decide +kernel
theorem dX6_spread_217 : decode cX6_spread 217 = .ok (.iload 6, 2) := by decide +kernel
theorem dX6_spread_219 : decode cX6_spread 219 = .ok (.isub, 1) := by decide +kernel
theorem dX6_spread_220 : decode cX6_spread 220 = .ok (.iaload, 1) := by decide +kernel
theorem dX6_spread_221 : decode cX6_spread 221 = .ok (.iastore, 1) := by decide +kernel
theorem dX6_spread_222 : decode cX6_spread 222 = .ok (.aload_n 0, 1) := by decide +kernel
theorem dX6_spread_223 : decode cX6_spread 223 = .ok (.getfield 39, 3) := by decide +kernel
theorem dX6_spread_226 : decode cX6_spread 226 = .ok (.aload_n 0, 1) := by decide +kernel
theorem dX6_spread_227 : decode cX6_spread 227 = .ok (.getfield 104, 3) := by decide +kernel
theorem dX6_spread_230 : decode cX6_spread 230 = .ok (.iconst 1, 1) := by decide +kernel
theorem dX6_spread_231 : decode cX6_spread 231 = .ok (.isub, 1) := by decide +kernel
theorem dX6_spread_232 : decode cX6_spread 232 = .ok (.iload 6, 2) := by decide +kernel
theorem dX6_spread_234 : decode cX6_spread 234 = .ok (.isub, 1) := by decide +kernel
theorem dX6_spread_235 : decode cX6_spread 235 = .ok (.iload 7, 2) := by decide +kernel
theorem dX6_spread_237 : decode cX6_spread 237 = .ok (.iastore, 1) := by decide +kernel
theorem dX6_spread_238 : decode cX6_spread 238 = .ok (.iinc 6 1, 3) := by decide +kernel
theorem dX6_spread_241 : decode cX6_spread 241 = .ok (.goto (-72), 3) := by decide +kernel
theorem dX6_spread_244 : decode cX6_spread 244 = .ok (.return_, 1) := by decide +kernel
theorem dX6_write_0 : decode cX6_write 0 = .ok (.aload_n 0, 1) := by decide +kernel
theorem dX6_write_1 : decode cX6_write 1 = .ok (.iconst 0, 1) := by decide +kernel
theorem dX6_write_2 : decode cX6_write 2 = .ok (.putfield 107, 3) := by decide +kernel
theorem dX6_write_5 : decode cX6_write 5 = .ok (.iconst 0, 1) := by decide +kernel
theorem dX6_write_6 : decode cX6_write 6 = .ok (.istore_n 3, 1) := by decide +kernel
theorem dX6_write_7 : decode cX6_write 7 = .ok (.iload_n 3, 1) := by decide +kernel
theorem dX6_write_8 : decode cX6_write 8 = .ok (.bipush 10, 2) := by decide +kernel
theorem dX6_write_10 : decode cX6_write 10 = .ok (.if_icmp .ge 16, 3) := by decide +kernel
theorem dX6_write_13 : decode cX6_write 13 = .ok (.aload_n 0, 1) := by decide +kernel
theorem dX6_write_14 : decode cX6_write 14 = .ok (.getfield 36, 3) := by decide +kernel
theorem dX6_write_17 : decode cX6_write 17 = .ok (.iload_n 3, 1) := by decide +kernel
theorem dX6_write_18 : decode cX6_write 18 = .ok (.iconst 0, 1) := by decide +kernel
theorem dX6_write_19 : decode cX6_write 19 = .ok (.iastore, 1) := by decide +kernel
theorem dX6_write_20 : decode cX6_write 20 = .ok (.iinc 3 1, 3) := by decide +kernel
theorem dX6_write_23 : decode cX6_write 23 = .ok (.goto (-16), 3) := by decide +kernel
theorem dX6_write_26 : decode cX6_write 26 = .ok (.aload_n 0, 1) := by decide +kernel
theorem dX6_write_27 : decode cX6_write 27 = .ok (.iconst 1, 1) := by decide +kernel
theorem dX6_write_28 : decode cX6_write 28 = .ok (.putfield 104, 3) := by decide +kernel
theorem dX6_write_31 : decode cX6_write 31 = .ok (.aload_n 0, 1) := by decide +kernel
theorem dX6_write_32 : decode cX6_write 32 = .ok (.getfield 39, 3) := by decide +kernel
theorem dX6_write_35 : decode cX6_write 35 = .ok (.iconst 0, 1) := by decide +kernel
theorem dX6_write_36 : decode cX6_write 36 = .ok (.sipush 512, 3) := by decide +kernel
theorem dX6_write_39 : decode cX6_write 39 = .ok (.iload_n 1, 1) := by decide +kernel
theorem dX6_write_40 : decode cX6_write 40 = .ok (.imul, 1) := by decide +kernel
theorem dX6_write_41 : decode cX6_write 41 = .ok (.iload_n 2, 1) := by decide +kernel
theorem dX6_write_42 : decode cX6_write 42 = .ok (.iadd, 1) := by decide +kernel
theorem dX6_write_43 : decode cX6_write 43 = .ok (.iastore, 1) := by decide +kernel
theorem dX6_write_44 : decode cX6_write 44 = .ok (.aload_n 0, 1) := by decide +kernel
theorem dX6_write_45 : decode cX6_write 45 = .ok (.getfield 104, 3) := by decide +kernel
theorem dX6_write_48 : decode cX6_write 48 = .ok (.ifCond .le 109, 3) := by decide +kernel
theorem dX6_write_51 : decode cX6_write 51 = .ok (.aload_n 0, 1) := by decide +kernel
theorem dX6_write_52 : decode cX6_write 52 = .ok (.dup, 1) := by decide +kernel
theorem dX6_write_53 : decode cX6_write 53 = .ok (.getfield 104, 3) := by decide +kernel
theorem dX6_write_56 : decode cX6_write 56 = .ok (.iconst 1, 1) := by decide +kernel
theorem dX6_write_57 : decode cX6_write 57 = .ok (.isub, 1) := by decide +kernel
theorem dX6_write_58 : decode cX6_write 58 = .ok (.putfield 104, 3) := by decide +kernel
theorem dX6_write_61 : decode cX6_write 61 = .ok (.aload_n 0, 1) := by decide +kernel
theorem dX6_write_62 : decode cX6_write 62 = .ok (.getfield 39, 3) := by decide +kernel
theorem dX6_write_65 : decode cX6_write 65 = .ok (.aload_n 0, 1) := by decide +kernel
theorem dX6_write_66 : decode cX6_write 66 = .ok (.getfield 104, 3) := by decide +kernel
theorem dX6_write_69 : decode cX6_write 69 = .ok (.iaload, 1) := by decide +kernel
theorem dX6_write_70 : decode cX6_write 70 = .ok (.istore_n 3, 1) := by decide +kernel
theorem dX6_write_71 : decode cX6_write 71 = .ok (.aload_n 0, 1) := by decide +kernel
theorem dX6_write_72 : decode cX6_write 72 = .ok (.iload_n 3, 1) := by decide +kernel
theorem dX6_write_73 : decode cX6_write 73 = .ok (.sipush 512, 3) := by decide +kernel
theorem dX6_write_76 : decode cX6_write 76 = .ok (.idiv, 1) := by decide +kernel
theorem dX6_write_77 : decode cX6_write 77 = .ok (.iload_n 3, 1) := by decide +kernel
theorem dX6_write_78 : decode cX6_write 78 = .ok (.sipush 512, 3) := by decide +kernel
theorem dX6_write_81 : decode cX6_write 81 = .ok (.irem, 1) := by decide +kernel
theorem dX6_write_82 : decode cX6_write 82 = .ok (.invokevirtual 110, 3) := by decide +kernel
theorem dX6_write_85 : decode cX6_write 85 = .ok (.istore 4, 2) := by decide +kernel
theorem dX6_write_87 : decode cX6_write 87 = .ok (.aload_n 0, 1) := by decide +kernel
theorem dX6_write_88 : decode cX6_write 88 = .ok (.getfield 107, 3) := by decide +kernel
theorem dX6_write_91 : decode cX6_write 91 = .ok (.sipush 500, 3) := by decide +kernel
theorem dX6_write_94 : decode cX6_write 94 = .ok (.if_icmp .eq 15, 3) := by decide +kernel
theorem dX6_write_97 : decode cX6_write 97 = .ok (.aload_n 0, 1) := by decide +kernel
theorem dX6_write_98 : decode cX6_write 98 = .ok (.getfield 36, 3) := by decide +kernel
theorem dX6_write_101 : decode cX6_write 101 = .ok (.iload 4, 2) := by decide +kernel
theorem dX6_write_103 : decode cX6_write 103 = .ok (.iaload, 1) := by decide +kernel
theorem dX6_write_104 : decode cX6_write 104 = .ok (.bipush 50, 2) := by decide +kernel
theorem dX6_write_106 : decode cX6_write 106 = .ok (.if_icmp .ne 5, 3) := by decide +kernel
theorem dX6_write_109 : decode cX6_write 109 = .ok (.iconst 0, 1) := by decide +kernel
theorem dX6_write_110 : decode cX6_write 110 = .ok (.ireturn, 1) := by decide +kernel
theorem dX6_write_111 : decode cX6_write 111 = .ok (.aload_n 0, 1) := by decide +kernel
theorem dX6_write_112 : decode cX6_write 112 = .ok (.getfield 33, 3) := by decide +kernel
theorem dX6_write_115 : decode cX6_write 115 = .ok (.aload_n 0, 1) := by decide +kernel
theorem dX6_write_116 : decode cX6_write 116 = .ok (.getfield 107, 3) := by decide +kernel
theorem dX6_write_119 : decode cX6_write 119 = .ok (.iload 4, 2) := by decide +kernel
theorem dX6_write_121 : decode cX6_write 121 = .ok (.iastore, 1) := by decide +kernel
theorem dX6_write_122 : decode cX6_write 122 = .ok (.aload_n 0, 1) := by decide +kernel
theorem dX6_write_123 : decode cX6_write 123 = .ok (.dup, 1) := by decide +kernel
theorem dX6_write_124 : decode cX6_write 124 = .ok (.getfield 107, 3) := by decide +kernel
theorem dX6_write_127 : decode cX6_write 127 = .ok (.iconst 1, 1) := by decide +kernel
theorem dX6_write_128 : decode cX6_write 128 = .ok (.iadd, 1) := by decide +kernel
theorem dX6_write_129 : decode cX6_write 129 = .ok (.putfield 107, 3) := by decide +kernel
theorem dX6_write_132 : decode cX6_write 132 = .ok (.aload_n 0, 1) := by decide +kernel
theorem dX6_write_133 : decode cX6_write 133 = .ok (.getfield 36, 3) := by decide +kernel
theorem dX6_write_136 : decode cX6_write 136 = .ok (.iload 4, 2) := by decide +kernel
theorem dX6_write_138 : decode cX6_write 138 = .ok (.dup2, 1) := by decide +kernel
theorem dX6_write_139 : decode cX6_write 139 = .ok (.iaload, 1) := by decide +kernel
theorem dX6_write_140 : decode cX6_write 140 = .ok (.iconst 1, 1) := by decide +kernel
theorem dX6_write_141 : decode cX6_write 141 = .ok (.iadd, 1) := by decide +kernel
theorem dX6_write_142 : decode cX6_write 142 = .ok (.iastore, 1) := by decide +kernel
theorem dX6_write_143 : decode cX6_write 143 = .ok (.aload_n 0, 1) := by decide +kernel
theorem dX6_write_144 : decode cX6_write 144 = .ok (.iload 4, 2) := by decide +kernel
theorem dX6_write_146 : decode cX6_write 146 = .ok (.iload_n 3, 1) := by decide +kernel
theorem dX6_write_147 : decode cX6_write 147 = .ok (.sipush 512, 3) := by decide +kernel
theorem dX6_write_150 : decode cX6_write 150 = .ok (.irem, 1) := by decide +kernel
theorem dX6_write_151 : decode cX6_write 151 = .ok (.invokevirtual 113, 3) := by decide +kernel
theorem dX6_write_154 : decode cX6_write 154 = .ok (.goto (-110), 3) := by decide +kernel
theorem dX6_write_157 : decode cX6_write 157 = .ok (.iconst 1, 1) := by decide +kernel
theorem dX6_write_158 : decode cX6_write 158 = .ok (.ireturn, 1) := by decide +kernel
theorem dX6_derive_0 : decode cX6_derive 0 = .ok (.iload_n 1, 1) := by decide +kernel
theorem dX6_derive_1 : decode cX6_derive 1 = .ok (.iload_n 2, 1) := by decide +kernel
theorem dX6_derive_2 : decode cX6_derive 2 = .ok (.iload_n 3, 1) := by decide +kernel
theorem dX6_derive_3 : decode cX6_derive 3 = .ok (.iload 4, 2) := by decide +kernel
theorem dX6_derive_5 : decode cX6_derive 5 = .ok (.invokestatic 91, 3) := by decide +kernel
theorem dX6_derive_8 : decode cX6_derive 8 = .ok (.istore 5, 2) := by decide +kernel
theorem dX6_derive_10 : decode cX6_derive 10 = .ok (.iload 5, 2) := by decide +kernel
theorem dX6_derive_12 : decode cX6_derive 12 = .ok (.ifCond .eq 7, 3) := by decide +kernel
theorem dX6_derive_15 : decode cX6_derive 15 = .ok (.aload_n 0, 1) := by decide +kernel
theorem dX6_derive_16 : decode cX6_derive 16 = .ok (.invokevirtual 95, 3) := by decide +kernel
theorem dX6_derive_19 : decode cX6_derive 19 = .ok (.iload_n 2, 1) := by decide +kernel
theorem dX6_derive_20 : decode cX6_derive 20 = .ok (.bipush 8, 2) := by decide +kernel
theorem dX6_derive_22 : decode cX6_derive 22 = .ok (.iload_n 3, 1) := by decide +kernel
theorem dX6_derive_23 : decode cX6_derive 23 = .ok (.imul, 1) := by decide +kernel
theorem dX6_derive_24 : decode cX6_derive 24 = .ok (.iadd, 1) := by decide +kernel
theorem dX6_derive_25 : decode cX6_derive 25 = .ok (.bipush 64, 2) := by decide +kernel
theorem dX6_derive_27 : decode cX6_derive 27 = .ok (.iload 4, 2) := by decide +kernel
theorem dX6_derive_29 : decode cX6_derive 29 = .ok (.imul, 1) := by decide +kernel
theorem dX6_derive_30 : decode cX6_derive 30 = .ok (.iadd, 1) := by decide +kernel
theorem dX6_derive_31 : decode cX6_derive 31 = .ok (.istore 6, 2) := by decide +kernel
theorem dX6_derive_33 : decode cX6_derive 33 = .ok (.iload 5, 2) := by decide +kernel
theorem dX6_derive_35 : decode cX6_derive 35 = .ok (.ifCond .eq 23, 3) := by decide +kernel
theorem dX6_derive_38 : decode cX6_derive 38 = .ok (.aload_n 0, 1) := by decide +kernel
theorem dX6_derive_39 : decode cX6_derive 39 = .ok (.getfield 19, 3) := by decide +kernel
theorem dX6_derive_42 : decode cX6_derive 42 = .ok (.sipush 512, 3) := by decide +kernel
theorem dX6_derive_45 : decode cX6_derive 45 = .ok (.iload_n 1, 1) := by decide +kernel
theorem dX6_derive_46 : decode cX6_derive 46 = .ok (.imul, 1) := by decide +kernel
theorem dX6_derive_47 : decode cX6_derive 47 = .ok (.iload 6, 2) := by decide +kernel
theorem dX6_derive_49 : decode cX6_derive 49 = .ok (.iadd, 1) := by decide +kernel
theorem dX6_derive_50 : decode cX6_derive 50 = .ok (.iaload, 1) := by decide +kernel
theorem dX6_derive_51 : decode cX6_derive 51 = .ok (.ifCond .le 7, 3) := by decide +kernel
theorem dX6_derive_54 : decode cX6_derive 54 = .ok (.iconst 1, 1) := by decide +kernel
theorem dX6_derive_55 : decode cX6_derive 55 = .ok (.goto 4, 3) := by decide +kernel
theorem dX6_derive_58 : decode cX6_derive 58 = .ok (.iconst 0, 1) := by decide +kernel
theorem dX6_derive_59 : decode cX6_derive 59 = .ok (.istore 7, 2) := by decide +kernel
theorem dX6_derive_61 : decode cX6_derive 61 = .ok (.aload_n 0, 1) := by decide +kernel
theorem dX6_derive_62 : decode cX6_derive 62 = .ok (.iload 5, 2) := by decide +kernel
theorem dX6_derive_64 : decode cX6_derive 64 = .ok (.ifCond .ne 7, 3) := by decide +kernel
theorem dX6_derive_67 : decode cX6_derive 67 = .ok (.iconst 1, 1) := by decide +kernel
theorem dX6_derive_68 : decode cX6_derive 68 = .ok (.goto 4, 3) := by decide +kernel
theorem dX6_derive_71 : decode cX6_derive 71 = .ok (.iconst 0, 1) := by decide +kernel
theorem dX6_derive_72 : decode cX6_derive 72 = .ok (.iload 7, 2) := by decide +kernel
theorem dX6_derive_74 : decode cX6_derive 74 = .ok (.ifCond .ne 7, 3) := by decide +kernel
theorem dX6_derive_77 : decode cX6_derive 77 = .ok (.iconst 1, 1) := by decide +kernel
theorem dX6_derive_78 : decode cX6_derive 78 = .ok (.goto 4, 3) := by decide +kernel
theorem dX6_derive_81 : decode cX6_derive 81 = .ok (.iconst 0, 1) := by decide +kernel
theorem dX6_derive_82 : decode cX6_derive 82 = .ok (.iload 7, 2) := by decide +kernel
theorem dX6_derive_84 : decode cX6_derive 84 = .ok (.ifCond .eq 17, 3) := by decide +kernel
theorem dX6_derive_87 : decode cX6_derive 87 = .ok (.aload_n 0, 1) := by decide +kernel
theorem dX6_derive_88 : decode cX6_derive 88 = .ok (.iload_n 1, 1) := by decide +kernel
theorem dX6_derive_89 : decode cX6_derive 89 = .ok (.iload 6, 2) := by decide +kernel
theorem dX6_derive_91 : decode cX6_derive 91 = .ok (.invokevirtual 116, 3) := by decide +kernel
theorem dX6_derive_94 : decode cX6_derive 94 = .ok (.ifCond .ne 7, 3) := by decide +kernel
theorem dX6_derive_97 : decode cX6_derive 97 = .ok (.iconst 1, 1) := by decide +kernel
theorem dX6_derive_98 : decode cX6_derive 98 = .ok (.goto 4, 3) := by decide +kernel
theorem dX6_derive_101 : decode cX6_derive 101 = .ok (.iconst 0, 1) := by decide +kernel
theorem dX6_derive_102 : decode cX6_derive 102 = .ok (.invokevirtual 56, 3) := by decide +kernel
theorem dX6_derive_105 : decode cX6_derive 105 = .ok (.ifCond .eq 5, 3) := by decide +kernel
theorem dX6_derive_108 : decode cX6_derive 108 = .ok (.iconst 0, 1) := by decide +kernel
theorem dX6_derive_109 : decode cX6_derive 109 = .ok (.ireturn, 1) := by decide +kernel
theorem dX6_derive_110 : decode cX6_derive 110 = .ok (.aload_n 0, 1) := by decide +kernel
theorem dX6_derive_111 : decode cX6_derive 111 = .ok (.aload_n 0, 1) := by decide +kernel
theorem dX6_derive_112 : decode cX6_derive 112 = .ok (.getfield 107, 3) := by decide +kernel
theorem dX6_derive_115 : decode cX6_derive 115 = .ok (.putfield 26, 3) := by decide +kernel
theorem dX6_derive_118 : decode cX6_derive 118 = .ok (.iconst 0, 1) := by decide +kernel
theorem dX6_derive_119 : decode cX6_derive 119 = .ok (.istore 8, 2) := by decide +kernel
theorem dX6_derive_121 : decode cX6_derive 121 = .ok (.iload 8, 2) := by decide +kernel
theorem dX6_derive_123 : decode cX6_derive 123 = .ok (.aload_n 0, 1) := by decide +kernel
theorem dX6_derive_124 : decode cX6_derive 124 = .ok (.getfield 26, 3) := by decide +kernel
theorem dX6_derive_127 : decode cX6_derive 127 = .ok (.if_icmp .ge 23, 3) := by decide +kernel
theorem dX6_derive_130 : decode cX6_derive 130 = .ok (.aload_n 0, 1) := by decide +kernel
theorem dX6_derive_131 : decode cX6_derive 131 = .ok (.getfield 30, 3) := by decide +kernel
theorem dX6_derive_134 : decode cX6_derive 134 = .ok (.iload 8, 2) := by decide +kernel
theorem dX6_derive_136 : decode cX6_derive 136 = .ok (.aload_n 0, 1) := by decide +kernel
theorem dX6_derive_137 : decode cX6_derive 137 = .ok (.getfield 33, 3) := by decide +kernel
theorem dX6_derive_140 : decode cX6_derive 140 = .ok (.iload 8, 2) := by decide +kernel
theorem dX6_derive_142 : decode cX6_derive 142 = .ok (.iaload, 1) := by decide +kernel
theorem dX6_derive_143 : decode cX6_derive 143 = .ok (.iastore, 1) := by decide +kernel
theorem dX6_derive_144 : decode cX6_derive 144 = .ok (.iinc 8 1, 3) := by decide +kernel
theorem dX6_derive_147 : decode cX6_derive 147 = .ok (.goto (-26), 3) := by decide +kernel
theorem dX6_derive_150 : decode cX6_derive 150 = .ok (.iconst 0, 1) := by decide +kernel
theorem dX6_derive_151 : decode cX6_derive 151 = .ok (.istore 8, 2) := by decide +kernel
theorem dX6_derive_153 : decode cX6_derive 153 = .ok (.iload 8, 2) := by decide +kernel
theorem dX6_derive_155 : decode cX6_derive 155 = .ok (.bipush 10, 2) := by decide +kernel
theorem dX6_derive_157 : decode cX6_derive 157 = .ok (.if_icmp .ge 23, 3) := by decide +kernel
theorem dX6_derive_160 : decode cX6_derive 160 = .ok (.aload_n 0, 1) := by decide +kernel
theorem dX6_derive_161 : decode cX6_derive 161 = .ok (.getfield 16, 3) := by decide +kernel
theorem dX6_derive_164 : decode cX6_derive 164 = .ok (.iload 8, 2) := by decide +kernel
theorem dX6_derive_166 : decode cX6_derive 166 = .ok (.aload_n 0, 1) := by decide +kernel
theorem dX6_derive_167 : decode cX6_derive 167 = .ok (.getfield 36, 3) := by decide +kernel
theorem dX6_derive_170 : decode cX6_derive 170 = .ok (.iload 8, 2) := by decide +kernel
theorem dX6_derive_172 : decode cX6_derive 172 = .ok (.iaload, 1) := by decide +kernel
theorem dX6_derive_173 : decode cX6_derive 173 = .ok (.iastore, 1) := by decide +kernel
theorem dX6_derive_174 : decode cX6_derive 174 = .ok (.iinc 8 1, 3) := by decide +kernel
theorem dX6_derive_177 : decode cX6_derive 177 = .ok (.goto (-24), 3) := by decide +kernel
theorem dX6_derive_180 : decode cX6_derive 180 = .ok (.aload_n 0, 1) := by decide +kernel
theorem dX6_derive_181 : decode cX6_derive 181 = .ok (.getfield 26, 3) := by decide +kernel
theorem dX6_derive_184 : decode cX6_derive 184 = .ok (.ireturn, 1) := by decide +kernel
theorem dX6_step_0 : decode cX6_step 0 = .ok (.aload_n 0, 1) := by decide +kernel
theorem dX6_step_1 : decode cX6_step 1 = .ok (.iload_n 1, 1) := by decide +kernel
theorem dX6_step_2 : decode cX6_step 2 = .ok (.iconst 0, 1) := by decide +kernel
theorem dX6_step_3 : decode cX6_step 3 = .ok (.aload_n 0, 1) := by decide +kernel
theorem dX6_step_4 : decode cX6_step 4 = .ok (.getfield 26, 3) := by decide +kernel
theorem dX6_step_7 : decode cX6_step 7 = .ok (.iconst 1, 1) := by decide +kernel
theorem dX6_step_8 : decode cX6_step 8 = .ok (.isub, 1) := by decide +kernel
theorem dX6_step_9 : decode cX6_step 9 = .ok (.invokestatic 45, 3) := by decide +kernel
theorem dX6_step_12 : decode cX6_step 12 = .ok (.ifCond .ne 7, 3) := by decide +kernel
theorem dX6_step_15 : decode cX6_step 15 = .ok (.iconst 1, 1) := by decide +kernel
theorem dX6_step_16 : decode cX6_step 16 = .ok (.goto 4, 3) := by decide +kernel
theorem dX6_step_19 : decode cX6_step 19 = .ok (.iconst 0, 1) := by decide +kernel
theorem dX6_step_20 : decode cX6_step 20 = .ok (.iconst 0, 1) := by decide +kernel
theorem dX6_step_21 : decode cX6_step 21 = .ok (.iconst 0, 1) := by decide +kernel
theorem dX6_step_22 : decode cX6_step 22 = .ok (.invokevirtual 56, 3) := by decide +kernel
theorem dX6_step_25 : decode cX6_step 25 = .ok (.ifCond .eq 7, 3) := by decide +kernel
theorem dX6_step_28 : decode cX6_step 28 = .ok (.iconst 0, 1) := by decide +kernel
theorem dX6_step_29 : decode cX6_step 29 = .ok (.goto 9, 3) := by decide +kernel
theorem dX6_step_32 : decode cX6_step 32 = .ok (.aload_n 0, 1) := by decide +kernel
theorem dX6_step_33 : decode cX6_step 33 = .ok (.getfield 30, 3) := by decide +kernel
theorem dX6_step_36 : decode cX6_step 36 = .ok (.iload_n 1, 1) := by decide +kernel
theorem dX6_step_37 : decode cX6_step 37 = .ok (.iaload, 1) := by decide +kernel
theorem dX6_step_38 : decode cX6_step 38 = .ok (.ireturn, 1) := by decide +kernel
theorem dX6_use_0 : decode cX6_use 0 = .ok (.aload_n 0, 1) := by decide +kernel
theorem dX6_use_1 : decode cX6_use 1 = .ok (.iload_n 1, 1) := by decide +kernel
theorem dX6_use_2 : decode cX6_use 2 = .ok (.iconst 0, 1) := by decide +kernel
theorem dX6_use_3 : decode cX6_use 3 = .ok (.aload_n 0, 1) := by decide +kernel
theorem dX6_use_4 : decode cX6_use 4 = .ok (.getfield 53, 3) := by decide +kernel
theorem dX6_use_7 : decode cX6_use 7 = .ok (.iconst 1, 1) := by decide +kernel
theorem dX6_use_8 : decode cX6_use 8 = .ok (.isub, 1) := by decide +kernel
theorem dX6_use_9 : decode cX6_use 9 = .ok (.invokestatic 45, 3) := by decide +kernel
theorem dX6_use_12 : decode cX6_use 12 = .ok (.ifCond .eq 13, 3) := by decide +kernel
theorem dX6_use_15 : decode cX6_use 15 = .ok (.iload_n 2, 1) := by decide +kernel
theorem dX6_use_16 : decode cX6_use 16 = .ok (.iconst 0, 1) := by decide +kernel
theorem dX6_use_17 : decode cX6_use 17 = .ok (.bipush 50, 2) := by decide +kernel
theorem dX6_use_19 : decode cX6_use 19 = .ok (.invokestatic 45, 3) := by decide +kernel
theorem dX6_use_22 : decode cX6_use 22 = .ok (.ifCond .ne 7, 3) := by decide +kernel
theorem dX6_use_25 : decode cX6_use 25 = .ok (.iconst 1, 1) := by decide +kernel
theorem dX6_use_26 : decode cX6_use 26 = .ok (.goto 4, 3) := by decide +kernel
theorem dX6_use_29 : decode cX6_use 29 = .ok (.iconst 0, 1) := by decide +kernel
theorem dX6_use_30 : decode cX6_use 30 = .ok (.iconst 0, 1) := by decide +kernel
theorem dX6_use_31 : decode cX6_use 31 = .ok (.iconst 0, 1) := by decide +kernel
theorem dX6_use_32 : decode cX6_use 32 = .ok (.invokevirtual 56, 3) := by decide +kernel
theorem dX6_use_35 : decode cX6_use 35 = .ok (.ifCond .eq 5, 3) := by decide +kernel
theorem dX6_use_38 : decode cX6_use 38 = .ok (.iconst 0, 1) := by decide +kernel
theorem dX6_use_39 : decode cX6_use 39 = .ok (.ireturn, 1) := by decide +kernel
theorem dX6_use_40 : decode cX6_use 40 = .ok (.aload_n 0, 1) := by decide +kernel
theorem dX6_use_41 : decode cX6_use 41 = .ok (.getfield 16, 3) := by decide +kernel
theorem dX6_use_44 : decode cX6_use 44 = .ok (.iload_n 1, 1) := by decide +kernel
theorem dX6_use_45 : decode cX6_use 45 = .ok (.iaload, 1) := by decide +kernel
theorem dX6_use_46 : decode cX6_use 46 = .ok (.istore_n 3, 1) := by decide +kernel
theorem dX6_use_47 : decode cX6_use 47 = .ok (.aload_n 0, 1) := by decide +kernel
theorem dX6_use_48 : decode cX6_use 48 = .ok (.getfield 16, 3) := by decide +kernel
theorem dX6_use_51 : decode cX6_use 51 = .ok (.iload_n 1, 1) := by decide +kernel
theorem dX6_use_52 : decode cX6_use 52 = .ok (.iload_n 2, 1) := by decide +kernel
theorem dX6_use_53 : decode cX6_use 53 = .ok (.iastore, 1) := by decide +kernel
theorem dX6_use_54 : decode cX6_use 54 = .ok (.iload_n 3, 1) := by decide +kernel
theorem dX6_use_55 : decode cX6_use 55 = .ok (.ireturn, 1) := by decide +kernel
theorem dX6_stands_0 : decode cX6_stands 0 = .ok (.iconst 0, 1) := by decide +kernel
theorem dX6_stands_1 : decode cX6_stands 1 = .ok (.istore_n 2, 1) := by decide +kernel
theorem dX6_stands_2 : decode cX6_stands 2 = .ok (.iconst 0, 1) := by decide +kernel
theorem dX6_stands_3 : decode cX6_stands 3 = .ok (.istore_n 3, 1) := by decide +kernel
theorem dX6_stands_4 : decode cX6_stands 4 = .ok (.iload_n 3, 1) := by decide +kernel
theorem dX6_stands_5 : decode cX6_stands 5 = .ok (.aload_n 0, 1) := by decide +kernel
theorem dX6_stands_6 : decode cX6_stands 6 = .ok (.getfield 53, 3) := by decide +kernel
theorem dX6_stands_9 : decode cX6_stands 9 = .ok (.if_icmp .ge 25, 3) := by decide +kernel
theorem dX6_stands_12 : decode cX6_stands 12 = .ok (.iload_n 2, 1) := by decide +kernel
theorem dX6_stands_13 : decode cX6_stands 13 = .ok (.aload_n 0, 1) := by decide +kernel
theorem dX6_stands_14 : decode cX6_stands 14 = .ok (.getfield 16, 3) := by decide +kernel
theorem dX6_stands_17 : decode cX6_stands 17 = .ok (.iload_n 3, 1) := by decide +kernel
theorem dX6_stands_18 : decode cX6_stands 18 = .ok (.iaload, 1) := by decide +kernel
theorem dX6_stands_19 : decode cX6_stands 19 = .ok (.aload_n 0, 1) := by decide +kernel
theorem dX6_stands_20 : decode cX6_stands 20 = .ok (.iload_n 3, 1) := by decide +kernel
theorem dX6_stands_21 : decode cX6_stands 21 = .ok (.iload_n 1, 1) := by decide +kernel
theorem dX6_stands_22 : decode cX6_stands 22 = .ok (.invokevirtual 64, 3) := by decide +kernel
theorem dX6_stands_25 : decode cX6_stands 25 = .ok (.imul, 1) := by decide +kernel
theorem dX6_stands_26 : decode cX6_stands 26 = .ok (.iadd, 1) := by decide +kernel
theorem dX6_stands_27 : decode cX6_stands 27 = .ok (.istore_n 2, 1) := by decide +kernel
theorem dX6_stands_28 : decode cX6_stands 28 = .ok (.iinc 3 1, 3) := by decide +kernel
theorem dX6_stands_31 : decode cX6_stands 31 = .ok (.goto (-27), 3) := by decide +kernel
theorem dX6_stands_34 : decode cX6_stands 34 = .ok (.iload_n 2, 1) := by decide +kernel
theorem dX6_stands_35 : decode cX6_stands 35 = .ok (.ireturn, 1) := by decide +kernel
theorem dX6_asLeft_0 : decode cX6_asLeft 0 = .ok (.iconst 0, 1) := by decide +kernel
theorem dX6_asLeft_1 : decode cX6_asLeft 1 = .ok (.istore_n 2, 1) := by decide +kernel
theorem dX6_asLeft_2 : decode cX6_asLeft 2 = .ok (.iconst 0, 1) := by decide +kernel
theorem dX6_asLeft_3 : decode cX6_asLeft 3 = .ok (.istore_n 3, 1) := by decide +kernel
theorem dX6_asLeft_4 : decode cX6_asLeft 4 = .ok (.iload_n 3, 1) := by decide +kernel
theorem dX6_asLeft_5 : decode cX6_asLeft 5 = .ok (.aload_n 0, 1) := by decide +kernel
theorem dX6_asLeft_6 : decode cX6_asLeft 6 = .ok (.getfield 53, 3) := by decide +kernel
theorem dX6_asLeft_9 : decode cX6_asLeft 9 = .ok (.if_icmp .ge 32, 3) := by decide +kernel
theorem dX6_asLeft_12 : decode cX6_asLeft 12 = .ok (.aload_n 0, 1) := by decide +kernel
theorem dX6_asLeft_13 : decode cX6_asLeft 13 = .ok (.getfield 7, 3) := by decide +kernel
theorem dX6_asLeft_16 : decode cX6_asLeft 16 = .ok (.iload_n 3, 1) := by decide +kernel
theorem dX6_asLeft_17 : decode cX6_asLeft 17 = .ok (.iaload, 1) := by decide +kernel
theorem dX6_asLeft_18 : decode cX6_asLeft 18 = .ok (.iload_n 1, 1) := by decide +kernel
theorem dX6_asLeft_19 : decode cX6_asLeft 19 = .ok (.if_icmp .ne 14, 3) := by decide +kernel
theorem dX6_asLeft_22 : decode cX6_asLeft 22 = .ok (.iload_n 2, 1) := by decide +kernel
theorem dX6_asLeft_23 : decode cX6_asLeft 23 = .ok (.aload_n 0, 1) := by decide +kernel
theorem dX6_asLeft_24 : decode cX6_asLeft 24 = .ok (.getfield 16, 3) := by decide +kernel
theorem dX6_asLeft_27 : decode cX6_asLeft 27 = .ok (.iload_n 3, 1) := by decide +kernel
theorem dX6_asLeft_28 : decode cX6_asLeft 28 = .ok (.iaload, 1) := by decide +kernel
theorem dX6_asLeft_29 : decode cX6_asLeft 29 = .ok (.iadd, 1) := by decide +kernel
theorem dX6_asLeft_30 : decode cX6_asLeft 30 = .ok (.goto 4, 3) := by decide +kernel
theorem dX6_asLeft_33 : decode cX6_asLeft 33 = .ok (.iload_n 2, 1) := by decide +kernel
theorem dX6_asLeft_34 : decode cX6_asLeft 34 = .ok (.istore_n 2, 1) := by decide +kernel
theorem dX6_asLeft_35 : decode cX6_asLeft 35 = .ok (.iinc 3 1, 3) := by decide +kernel
theorem dX6_asLeft_38 : decode cX6_asLeft 38 = .ok (.goto (-34), 3) := by decide +kernel
theorem dX6_asLeft_41 : decode cX6_asLeft 41 = .ok (.iload_n 2, 1) := by decide +kernel
theorem dX6_asLeft_42 : decode cX6_asLeft 42 = .ok (.ireturn, 1) := by decide +kernel
theorem dX6_reached_0 : decode cX6_reached 0 = .ok (.iconst 1, 1) := by decide +kernel
theorem dX6_reached_1 : decode cX6_reached 1 = .ok (.iload_n 1, 1) := by decide +kernel
theorem dX6_reached_2 : decode cX6_reached 2 = .ok (.ishl, 1) := by decide +kernel
theorem dX6_reached_3 : decode cX6_reached 3 = .ok (.istore_n 2, 1) := by decide +kernel
theorem dX6_reached_4 : decode cX6_reached 4 = .ok (.iconst 0, 1) := by decide +kernel
theorem dX6_reached_5 : decode cX6_reached 5 = .ok (.istore_n 3, 1) := by decide +kernel
theorem dX6_reached_6 : decode cX6_reached 6 = .ok (.iload_n 3, 1) := by decide +kernel
theorem dX6_reached_7 : decode cX6_reached 7 = .ok (.iconst 5, 1) := by decide +kernel
theorem dX6_reached_8 : decode cX6_reached 8 = .ok (.if_icmp .ge 101, 3) := by decide +kernel
theorem dX6_reached_11 : decode cX6_reached 11 = .ok (.iconst 0, 1) := by decide +kernel
theorem dX6_reached_12 : decode cX6_reached 12 = .ok (.istore 4, 2) := by decide +kernel
theorem dX6_reached_14 : decode cX6_reached 14 = .ok (.iload 4, 2) := by decide +kernel
theorem dX6_reached_16 : decode cX6_reached 16 = .ok (.aload_n 0, 1) := by decide +kernel
theorem dX6_reached_17 : decode cX6_reached 17 = .ok (.getfield 53, 3) := by decide +kernel
theorem dX6_reached_20 : decode cX6_reached 20 = .ok (.if_icmp .ge 83, 3) := by decide +kernel
theorem dX6_reached_23 : decode cX6_reached 23 = .ok (.aload_n 0, 1) := by decide +kernel
theorem dX6_reached_24 : decode cX6_reached 24 = .ok (.getfield 16, 3) := by decide +kernel
theorem dX6_reached_27 : decode cX6_reached 27 = .ok (.iload 4, 2) := by decide +kernel
theorem dX6_reached_29 : decode cX6_reached 29 = .ok (.iaload, 1) := by decide +kernel
theorem dX6_reached_30 : decode cX6_reached 30 = .ok (.ifCond .le 22, 3) := by decide +kernel
theorem dX6_reached_33 : decode cX6_reached 33 = .ok (.iload_n 2, 1) := by decide +kernel
theorem dX6_reached_34 : decode cX6_reached 34 = .ok (.aload_n 0, 1) := by decide +kernel
theorem dX6_reached_35 : decode cX6_reached 35 = .ok (.getfield 7, 3) := by decide +kernel
theorem dX6_reached_38 : decode cX6_reached 38 = .ok (.iload 4, 2) := by decide +kernel
theorem dX6_reached_40 : decode cX6_reached 40 = .ok (.iaload, 1) := by decide +kernel
theorem dX6_reached_41 : decode cX6_reached 41 = .ok (.ishr, 1) := by decide +kernel
theorem dX6_reached_42 : decode cX6_reached 42 = .ok (.iconst 1, 1) := by decide +kernel
theorem dX6_reached_43 : decode cX6_reached 43 = .ok (.iand, 1) := by decide +kernel
theorem dX6_reached_44 : decode cX6_reached 44 = .ok (.iconst 1, 1) := by decide +kernel
theorem dX6_reached_45 : decode cX6_reached 45 = .ok (.if_icmp .ne 7, 3) := by decide +kernel
theorem dX6_reached_48 : decode cX6_reached 48 = .ok (.iconst 1, 1) := by decide +kernel
theorem dX6_reached_49 : decode cX6_reached 49 = .ok (.goto 4, 3) := by decide +kernel
theorem dX6_reached_52 : decode cX6_reached 52 = .ok (.iconst 0, 1) := by decide +kernel
theorem dX6_reached_53 : decode cX6_reached 53 = .ok (.istore 5, 2) := by decide +kernel
theorem dX6_reached_55 : decode cX6_reached 55 = .ok (.iconst 0, 1) := by decide +kernel
theorem dX6_reached_56 : decode cX6_reached 56 = .ok (.istore 6, 2) := by decide +kernel
theorem dX6_reached_58 : decode cX6_reached 58 = .ok (.iload 6, 2) := by decide +kernel
theorem dX6_reached_60 : decode cX6_reached 60 = .ok (.iconst 5, 1) := by decide +kernel
theorem dX6_reached_61 : decode cX6_reached 61 = .ok (.if_icmp .ge 36, 3) := by decide +kernel
theorem dX6_reached_64 : decode cX6_reached 64 = .ok (.iload 5, 2) := by decide +kernel
theorem dX6_reached_66 : decode cX6_reached 66 = .ok (.ifCond .eq 31, 3) := by decide +kernel
theorem dX6_reached_69 : decode cX6_reached 69 = .ok (.aload_n 0, 1) := by decide +kernel
theorem dX6_reached_70 : decode cX6_reached 70 = .ok (.iload 4, 2) := by decide +kernel
theorem dX6_reached_72 : decode cX6_reached 72 = .ok (.iload 6, 2) := by decide +kernel
theorem dX6_reached_74 : decode cX6_reached 74 = .ok (.invokevirtual 64, 3) := by decide +kernel
theorem dX6_reached_77 : decode cX6_reached 77 = .ok (.ifCond .le 12, 3) := by decide +kernel
theorem dX6_reached_80 : decode cX6_reached 80 = .ok (.iload_n 2, 1) := by decide +kernel
theorem dX6_reached_81 : decode cX6_reached 81 = .ok (.iconst 1, 1) := by decide +kernel
theorem dX6_reached_82 : decode cX6_reached 82 = .ok (.iload 6, 2) := by decide +kernel
theorem dX6_reached_84 : decode cX6_reached 84 = .ok (.ishl, 1) := by decide +kernel
theorem dX6_reached_85 : decode cX6_reached 85 = .ok (.ior, 1) := by decide +kernel
theorem dX6_reached_86 : decode cX6_reached 86 = .ok (.goto 4, 3) := by decide +kernel
theorem dX6_reached_89 : decode cX6_reached 89 = .ok (.iload_n 2, 1) := by decide +kernel
theorem dX6_reached_90 : decode cX6_reached 90 = .ok (.istore_n 2, 1) := by decide +kernel
theorem dX6_reached_91 : decode cX6_reached 91 = .ok (.iinc 6 1, 3) := by decide +kernel
theorem dX6_reached_94 : decode cX6_reached 94 = .ok (.goto (-36), 3) := by decide +kernel
theorem dX6_reached_97 : decode cX6_reached 97 = .ok (.iinc 4 1, 3) := by decide +kernel
theorem dX6_reached_100 : decode cX6_reached 100 = .ok (.goto (-86), 3) := by decide +kernel
theorem dX6_reached_103 : decode cX6_reached 103 = .ok (.iinc 3 1, 3) := by decide +kernel
theorem dX6_reached_106 : decode cX6_reached 106 = .ok (.goto (-100), 3) := by decide +kernel
theorem dX6_reached_109 : decode cX6_reached 109 = .ok (.iload_n 2, 1) := by decide +kernel
theorem dX6_reached_110 : decode cX6_reached 110 = .ok (.ireturn, 1) := by decide +kernel
theorem dX6_fit_0 : decode cX6_fit 0 = .ok (.aload_n 0, 1) := by decide +kernel
theorem dX6_fit_1 : decode cX6_fit 1 = .ok (.iload_n 1, 1) := by decide +kernel
theorem dX6_fit_2 : decode cX6_fit 2 = .ok (.invokestatic 49, 3) := by decide +kernel
theorem dX6_fit_5 : decode cX6_fit 5 = .ok (.ifCond .ne 7, 3) := by decide +kernel
theorem dX6_fit_8 : decode cX6_fit 8 = .ok (.iconst 1, 1) := by decide +kernel
theorem dX6_fit_9 : decode cX6_fit 9 = .ok (.goto 4, 3) := by decide +kernel
theorem dX6_fit_12 : decode cX6_fit 12 = .ok (.iconst 0, 1) := by decide +kernel
theorem dX6_fit_13 : decode cX6_fit 13 = .ok (.iconst 0, 1) := by decide +kernel
theorem dX6_fit_14 : decode cX6_fit 14 = .ok (.iconst 0, 1) := by decide +kernel
theorem dX6_fit_15 : decode cX6_fit 15 = .ok (.invokevirtual 56, 3) := by decide +kernel
theorem dX6_fit_18 : decode cX6_fit 18 = .ok (.ifCond .eq 5, 3) := by decide +kernel
theorem dX6_fit_21 : decode cX6_fit 21 = .ok (.iconst 0, 1) := by decide +kernel
theorem dX6_fit_22 : decode cX6_fit 22 = .ok (.ireturn, 1) := by decide +kernel
theorem dX6_fit_23 : decode cX6_fit 23 = .ok (.iconst 0, 1) := by decide +kernel
theorem dX6_fit_24 : decode cX6_fit 24 = .ok (.istore_n 2, 1) := by decide +kernel
theorem dX6_fit_25 : decode cX6_fit 25 = .ok (.iload_n 2, 1) := by decide +kernel
theorem dX6_fit_26 : decode cX6_fit 26 = .ok (.iconst 5, 1) := by decide +kernel
theorem dX6_fit_27 : decode cX6_fit 27 = .ok (.if_icmp .ge 37, 3) := by decide +kernel
theorem dX6_fit_30 : decode cX6_fit 30 = .ok (.aload_n 0, 1) := by decide +kernel
theorem dX6_fit_31 : decode cX6_fit 31 = .ok (.iload_n 2, 1) := by decide +kernel
theorem dX6_fit_32 : decode cX6_fit 32 = .ok (.invokevirtual 120, 3) := by decide +kernel
theorem dX6_fit_35 : decode cX6_fit 35 = .ok (.aload_n 0, 1) := by decide +kernel
theorem dX6_fit_36 : decode cX6_fit 36 = .ok (.iload_n 2, 1) := by decide +kernel
theorem dX6_fit_37 : decode cX6_fit 37 = .ok (.invokevirtual 123, 3) := by decide +kernel
theorem dX6_fit_40 : decode cX6_fit 40 = .ok (.iload_n 2, 1) := by decide +kernel
theorem dX6_fit_41 : decode cX6_fit 41 = .ok (.iload_n 1, 1) := by decide +kernel
theorem dX6_fit_42 : decode cX6_fit 42 = .ok (.if_icmp .ne 7, 3) := by decide +kernel
theorem dX6_fit_45 : decode cX6_fit 45 = .ok (.iconst 1, 1) := by decide +kernel
theorem dX6_fit_46 : decode cX6_fit 46 = .ok (.goto 4, 3) := by decide +kernel
theorem dX6_fit_49 : decode cX6_fit 49 = .ok (.iconst 0, 1) := by decide +kernel
theorem dX6_fit_50 : decode cX6_fit 50 = .ok (.iadd, 1) := by decide +kernel
theorem dX6_fit_51 : decode cX6_fit 51 = .ok (.if_icmp .eq 7, 3) := by decide +kernel
theorem dX6_fit_54 : decode cX6_fit 54 = .ok (.iconst 1, 1) := by decide +kernel
theorem dX6_fit_55 : decode cX6_fit 55 = .ok (.iload_n 2, 1) := by decide +kernel
theorem dX6_fit_56 : decode cX6_fit 56 = .ok (.iadd, 1) := by decide +kernel
theorem dX6_fit_57 : decode cX6_fit 57 = .ok (.ireturn, 1) := by decide +kernel
theorem dX6_fit_58 : decode cX6_fit 58 = .ok (.iinc 2 1, 3) := by decide +kernel
theorem dX6_fit_61 : decode cX6_fit 61 = .ok (.goto (-36), 3) := by decide +kernel
theorem dX6_fit_64 : decode cX6_fit 64 = .ok (.aload_n 0, 1) := by decide +kernel
theorem dX6_fit_65 : decode cX6_fit 65 = .ok (.iload_n 1, 1) := by decide +kernel
theorem dX6_fit_66 : decode cX6_fit 66 = .ok (.invokevirtual 126, 3) := by decide +kernel
theorem dX6_fit_69 : decode cX6_fit 69 = .ok (.istore_n 2, 1) := by decide +kernel
theorem dX6_fit_70 : decode cX6_fit 70 = .ok (.iconst 0, 1) := by decide +kernel
theorem dX6_fit_71 : decode cX6_fit 71 = .ok (.istore_n 3, 1) := by decide +kernel
theorem dX6_fit_72 : decode cX6_fit 72 = .ok (.iload_n 3, 1) := by decide +kernel
theorem dX6_fit_73 : decode cX6_fit 73 = .ok (.iconst 5, 1) := by decide +kernel
theorem dX6_fit_74 : decode cX6_fit 74 = .ok (.if_icmp .ge 30, 3) := by decide +kernel
theorem dX6_fit_77 : decode cX6_fit 77 = .ok (.aload_n 0, 1) := by decide +kernel
theorem dX6_fit_78 : decode cX6_fit 78 = .ok (.iload_n 3, 1) := by decide +kernel
theorem dX6_fit_79 : decode cX6_fit 79 = .ok (.invokevirtual 120, 3) := by decide +kernel
theorem dX6_fit_82 : decode cX6_fit 82 = .ok (.ifCond .le 16, 3) := by decide +kernel
theorem dX6_fit_85 : decode cX6_fit 85 = .ok (.iload_n 2, 1) := by decide +kernel
theorem dX6_fit_86 : decode cX6_fit 86 = .ok (.iload_n 3, 1) := by decide +kernel
theorem dX6_fit_87 : decode cX6_fit 87 = .ok (.ishr, 1) := by decide +kernel
theorem dX6_fit_88 : decode cX6_fit 88 = .ok (.iconst 1, 1) := by decide +kernel
theorem dX6_fit_89 : decode cX6_fit 89 = .ok (.iand, 1) := by decide +kernel
theorem dX6_fit_90 : decode cX6_fit 90 = .ok (.ifCond .ne 8, 3) := by decide +kernel
theorem dX6_fit_93 : decode cX6_fit 93 = .ok (.bipush 11, 2) := by decide +kernel
theorem dX6_fit_95 : decode cX6_fit 95 = .ok (.iload_n 3, 1) := by decide +kernel
theorem dX6_fit_96 : decode cX6_fit 96 = .ok (.iadd, 1) := by decide +kernel
theorem dX6_fit_97 : decode cX6_fit 97 = .ok (.ireturn, 1) := by decide +kernel
theorem dX6_fit_98 : decode cX6_fit 98 = .ok (.iinc 3 1, 3) := by decide +kernel
theorem dX6_fit_101 : decode cX6_fit 101 = .ok (.goto (-29), 3) := by decide +kernel
theorem dX6_fit_104 : decode cX6_fit 104 = .ok (.iconst 0, 1) := by decide +kernel
theorem dX6_fit_105 : decode cX6_fit 105 = .ok (.ireturn, 1) := by decide +kernel
theorem dX6_letters_0 : decode cX6_letters 0 = .ok (.aload_n 0, 1) := by decide +kernel
theorem dX6_letters_1 : decode cX6_letters 1 = .ok (.iload_n 1, 1) := by decide +kernel
theorem dX6_letters_2 : decode cX6_letters 2 = .ok (.iconst 0, 1) := by decide +kernel
theorem dX6_letters_3 : decode cX6_letters 3 = .ok (.iconst 2, 1) := by decide +kernel
theorem dX6_letters_4 : decode cX6_letters 4 = .ok (.invokestatic 45, 3) := by decide +kernel
theorem dX6_letters_7 : decode cX6_letters 7 = .ok (.ifCond .ne 7, 3) := by decide +kernel
theorem dX6_letters_10 : decode cX6_letters 10 = .ok (.iconst 1, 1) := by decide +kernel
theorem dX6_letters_11 : decode cX6_letters 11 = .ok (.goto 4, 3) := by decide +kernel
theorem dX6_letters_14 : decode cX6_letters 14 = .ok (.iconst 0, 1) := by decide +kernel
theorem dX6_letters_15 : decode cX6_letters 15 = .ok (.iconst 0, 1) := by decide +kernel
theorem dX6_letters_16 : decode cX6_letters 16 = .ok (.iconst 0, 1) := by decide +kernel
theorem dX6_letters_17 : decode cX6_letters 17 = .ok (.invokevirtual 56, 3) := by decide +kernel
theorem dX6_letters_20 : decode cX6_letters 20 = .ok (.ifCond .eq 7, 3) := by decide +kernel
theorem dX6_letters_23 : decode cX6_letters 23 = .ok (.iconst 0, 1) := by decide +kernel
theorem dX6_letters_24 : decode cX6_letters 24 = .ok (.goto 10, 3) := by decide +kernel
theorem dX6_letters_27 : decode cX6_letters 27 = .ok (.aload_n 0, 1) := by decide +kernel
theorem dX6_letters_28 : decode cX6_letters 28 = .ok (.iconst 5, 1) := by decide +kernel
theorem dX6_letters_29 : decode cX6_letters 29 = .ok (.iload_n 1, 1) := by decide +kernel
theorem dX6_letters_30 : decode cX6_letters 30 = .ok (.iadd, 1) := by decide +kernel
theorem dX6_letters_31 : decode cX6_letters 31 = .ok (.invokevirtual 123, 3) := by decide +kernel
theorem dX6_letters_34 : decode cX6_letters 34 = .ok (.ireturn, 1) := by decide +kernel
