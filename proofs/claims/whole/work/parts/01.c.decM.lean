theorem dM_init_0 : decode bM_init 0 = .ok (.aload_n 0, 1) := by decide +kernel
theorem dM_init_1 : decode bM_init 1 = .ok (.invokespecial 1, 3) := by decide +kernel
theorem dM_init_4 : decode bM_init 4 = .ok (.aload_n 0, 1) := by decide +kernel
theorem dM_init_5 : decode bM_init 5 = .ok (.bipush 6, 2) := by decide +kernel
theorem dM_init_7 : decode bM_init 7 = .ok (.newarray .long, 2) := by decide +kernel
theorem dM_init_9 : decode bM_init 9 = .ok (.putfield 7, 3) := by decide +kernel
theorem dM_init_12 : decode bM_init 12 = .ok (.aload_n 0, 1) := by decide +kernel
theorem dM_init_13 : decode bM_init 13 = .ok (.bipush 6, 2) := by decide +kernel
theorem dM_init_15 : decode bM_init 15 = .ok (.newarray .int, 2) := by decide +kernel
theorem dM_init_17 : decode bM_init 17 = .ok (.putfield 13, 3) := by decide +kernel
theorem dM_init_20 : decode bM_init 20 = .ok (.aload_n 0, 1) := by decide +kernel
theorem dM_init_21 : decode bM_init 21 = .ok (.bipush 6, 2) := by decide +kernel
theorem dM_init_23 : decode bM_init 23 = .ok (.newarray .int, 2) := by decide +kernel
theorem dM_init_25 : decode bM_init 25 = .ok (.putfield 17, 3) := by decide +kernel
theorem dM_init_28 : decode bM_init 28 = .ok (.aload_n 0, 1) := by decide +kernel
theorem dM_init_29 : decode bM_init 29 = .ok (.bipush 60, 2) := by decide +kernel
theorem dM_init_31 : decode bM_init 31 = .ok (.newarray .int, 2) := by decide +kernel
theorem dM_init_33 : decode bM_init 33 = .ok (.putfield 20, 3) := by decide +kernel
theorem dM_init_36 : decode bM_init 36 = .ok (.aload_n 0, 1) := by decide +kernel
theorem dM_init_37 : decode bM_init 37 = .ok (.bipush 60, 2) := by decide +kernel
theorem dM_init_39 : decode bM_init 39 = .ok (.newarray .int, 2) := by decide +kernel
theorem dM_init_41 : decode bM_init 41 = .ok (.putfield 23, 3) := by decide +kernel
theorem dM_init_44 : decode bM_init 44 = .ok (.aload_n 0, 1) := by decide +kernel
theorem dM_init_45 : decode bM_init 45 = .ok (.bipush 60, 2) := by decide +kernel
theorem dM_init_47 : decode bM_init 47 = .ok (.newarray .int, 2) := by decide +kernel
theorem dM_init_49 : decode bM_init 49 = .ok (.putfield 26, 3) := by decide +kernel
theorem dM_init_52 : decode bM_init 52 = .ok (.aload_n 0, 1) := by decide +kernel
theorem dM_init_53 : decode bM_init 53 = .ok (.bipush 60, 2) := by decide +kernel
theorem dM_init_55 : decode bM_init 55 = .ok (.newarray .int, 2) := by decide +kernel
theorem dM_init_57 : decode bM_init 57 = .ok (.putfield 29, 3) := by decide +kernel
theorem dM_init_60 : decode bM_init 60 = .ok (.aload_n 0, 1) := by decide +kernel
theorem dM_init_61 : decode bM_init 61 = .ok (.bipush 60, 2) := by decide +kernel
theorem dM_init_63 : decode bM_init 63 = .ok (.newarray .int, 2) := by decide +kernel
theorem dM_init_65 : decode bM_init 65 = .ok (.putfield 32, 3) := by decide +kernel
theorem dM_init_68 : decode bM_init 68 = .ok (.aload_n 0, 1) := by decide +kernel
theorem dM_init_69 : decode bM_init 69 = .ok (.bipush 60, 2) := by decide +kernel
theorem dM_init_71 : decode bM_init 71 = .ok (.newarray .int, 2) := by decide +kernel
theorem dM_init_73 : decode bM_init 73 = .ok (.putfield 35, 3) := by decide +kernel
theorem dM_init_76 : decode bM_init 76 = .ok (.aload_n 0, 1) := by decide +kernel
theorem dM_init_77 : decode bM_init 77 = .ok (.bipush 60, 2) := by decide +kernel
theorem dM_init_79 : decode bM_init 79 = .ok (.newarray .int, 2) := by decide +kernel
theorem dM_init_81 : decode bM_init 81 = .ok (.putfield 38, 3) := by decide +kernel
theorem dM_init_84 : decode bM_init 84 = .ok (.aload_n 0, 1) := by decide +kernel
theorem dM_init_85 : decode bM_init 85 = .ok (.bipush 60, 2) := by decide +kernel
theorem dM_init_87 : decode bM_init 87 = .ok (.newarray .int, 2) := by decide +kernel
theorem dM_init_89 : decode bM_init 89 = .ok (.putfield 41, 3) := by decide +kernel
theorem dM_init_92 : decode bM_init 92 = .ok (.aload_n 0, 1) := by decide +kernel
theorem dM_init_93 : decode bM_init 93 = .ok (.bipush 60, 2) := by decide +kernel
theorem dM_init_95 : decode bM_init 95 = .ok (.newarray .long, 2) := by decide +kernel
theorem dM_init_97 : decode bM_init 97 = .ok (.putfield 44, 3) := by decide +kernel
theorem dM_init_100 : decode bM_init 100 = .ok (.aload_n 0, 1) := by decide +kernel
theorem dM_init_101 : decode bM_init 101 = .ok (.bipush 100, 2) := by decide +kernel
theorem dM_init_103 : decode bM_init 103 = .ok (.newarray .int, 2) := by decide +kernel
theorem dM_init_105 : decode bM_init 105 = .ok (.putfield 47, 3) := by decide +kernel
theorem dM_init_108 : decode bM_init 108 = .ok (.aload_n 0, 1) := by decide +kernel
theorem dM_init_109 : decode bM_init 109 = .ok (.bipush 100, 2) := by decide +kernel
theorem dM_init_111 : decode bM_init 111 = .ok (.newarray .int, 2) := by decide +kernel
theorem dM_init_113 : decode bM_init 113 = .ok (.putfield 50, 3) := by decide +kernel
theorem dM_init_116 : decode bM_init 116 = .ok (.aload_n 0, 1) := by decide +kernel
theorem dM_init_117 : decode bM_init 117 = .ok (.bipush 100, 2) := by decide +kernel
theorem dM_init_119 : decode bM_init 119 = .ok (.newarray .int, 2) := by decide +kernel
theorem dM_init_121 : decode bM_init 121 = .ok (.putfield 53, 3) := by decide +kernel
theorem dM_init_124 : decode bM_init 124 = .ok (.aload_n 0, 1) := by decide +kernel
theorem dM_init_125 : decode bM_init 125 = .ok (.bipush 100, 2) := by decide +kernel
theorem dM_init_127 : decode bM_init 127 = .ok (.newarray .int, 2) := by decide +kernel
theorem dM_init_129 : decode bM_init 129 = .ok (.putfield 56, 3) := by decide +kernel
theorem dM_init_132 : decode bM_init 132 = .ok (.aload_n 0, 1) := by decide +kernel
theorem dM_init_133 : decode bM_init 133 = .ok (.bipush 100, 2) := by decide +kernel
theorem dM_init_135 : decode bM_init 135 = .ok (.newarray .int, 2) := by decide +kernel
theorem dM_init_137 : decode bM_init 137 = .ok (.putfield 59, 3) := by decide +kernel
theorem dM_init_140 : decode bM_init 140 = .ok (.aload_n 0, 1) := by decide +kernel
theorem dM_init_141 : decode bM_init 141 = .ok (.bipush 100, 2) := by decide +kernel
theorem dM_init_143 : decode bM_init 143 = .ok (.newarray .int, 2) := by decide +kernel
theorem dM_init_145 : decode bM_init 145 = .ok (.putfield 62, 3) := by decide +kernel
theorem dM_init_148 : decode bM_init 148 = .ok (.aload_n 0, 1) := by decide +kernel
theorem dM_init_149 : decode bM_init 149 = .ok (.bipush 100, 2) := by decide +kernel
theorem dM_init_151 : decode bM_init 151 = .ok (.newarray .boolean, 2) := by decide +kernel
theorem dM_init_153 : decode bM_init 153 = .ok (.putfield 65, 3) := by decide +kernel
theorem dM_init_156 : decode bM_init 156 = .ok (.aload_n 0, 1) := by decide +kernel
theorem dM_init_157 : decode bM_init 157 = .ok (.bipush 100, 2) := by decide +kernel
theorem dM_init_159 : decode bM_init 159 = .ok (.newarray .boolean, 2) := by decide +kernel
theorem dM_init_161 : decode bM_init 161 = .ok (.putfield 69, 3) := by decide +kernel
theorem dM_init_164 : decode bM_init 164 = .ok (.aload_n 0, 1) := by decide +kernel
theorem dM_init_165 : decode bM_init 165 = .ok (.bipush 100, 2) := by decide +kernel
theorem dM_init_167 : decode bM_init 167 = .ok (.newarray .long, 2) := by decide +kernel
theorem dM_init_169 : decode bM_init 169 = .ok (.putfield 72, 3) := by decide +kernel
theorem dM_init_172 : decode bM_init 172 = .ok (.aload_n 0, 1) := by decide +kernel
theorem dM_init_173 : decode bM_init 173 = .ok (.bipush 100, 2) := by decide +kernel
theorem dM_init_175 : decode bM_init 175 = .ok (.newarray .long, 2) := by decide +kernel
theorem dM_init_177 : decode bM_init 177 = .ok (.putfield 75, 3) := by decide +kernel
theorem dM_init_180 : decode bM_init 180 = .ok (.aload_n 0, 1) := by decide +kernel
theorem dM_init_181 : decode bM_init 181 = .ok (.iload_n 1, 1) := by decide +kernel
theorem dM_init_182 : decode bM_init 182 = .ok (.iconst 1, 1) := by decide +kernel
theorem dM_init_183 : decode bM_init 183 = .ok (.iconst 4, 1) := by decide +kernel
theorem dM_init_184 : decode bM_init 184 = .ok (.invokestatic 78, 3) := by decide +kernel
theorem dM_init_187 : decode bM_init 187 = .ok (.putfield 82, 3) := by decide +kernel
theorem dM_init_190 : decode bM_init 190 = .ok (.aload_n 0, 1) := by decide +kernel
theorem dM_init_191 : decode bM_init 191 = .ok (.iload_n 2, 1) := by decide +kernel
theorem dM_init_192 : decode bM_init 192 = .ok (.iconst 0, 1) := by decide +kernel
theorem dM_init_193 : decode bM_init 193 = .ok (.ldc 86, 2) := by decide +kernel
theorem dM_init_195 : decode bM_init 195 = .ok (.invokestatic 78, 3) := by decide +kernel
theorem dM_init_198 : decode bM_init 198 = .ok (.putfield 87, 3) := by decide +kernel
theorem dM_init_201 : decode bM_init 201 = .ok (.aload_n 0, 1) := by decide +kernel
theorem dM_init_202 : decode bM_init 202 = .ok (.iload_n 3, 1) := by decide +kernel
theorem dM_init_203 : decode bM_init 203 = .ok (.iconst 1, 1) := by decide +kernel
theorem dM_init_204 : decode bM_init 204 = .ok (.sipush 1000, 3) := by decide +kernel
theorem dM_init_207 : decode bM_init 207 = .ok (.invokestatic 78, 3) := by decide +kernel
theorem dM_init_210 : decode bM_init 210 = .ok (.putfield 90, 3) := by decide +kernel
theorem dM_init_213 : decode bM_init 213 = .ok (.return_, 1) := by decide +kernel
theorem dM_between_0 : decode bM_between 0 = .ok (.iload_n 0, 1) := by decide +kernel
theorem dM_between_1 : decode bM_between 1 = .ok (.iload_n 1, 1) := by decide +kernel
theorem dM_between_2 : decode bM_between 2 = .ok (.if_icmp .ge 7, 3) := by decide +kernel
theorem dM_between_5 : decode bM_between 5 = .ok (.iload_n 1, 1) := by decide +kernel
theorem dM_between_6 : decode bM_between 6 = .ok (.goto 13, 3) := by decide +kernel
theorem dM_between_9 : decode bM_between 9 = .ok (.iload_n 0, 1) := by decide +kernel
theorem dM_between_10 : decode bM_between 10 = .ok (.iload_n 2, 1) := by decide +kernel
theorem dM_between_11 : decode bM_between 11 = .ok (.if_icmp .le 7, 3) := by decide +kernel
theorem dM_between_14 : decode bM_between 14 = .ok (.iload_n 2, 1) := by decide +kernel
theorem dM_between_15 : decode bM_between 15 = .ok (.goto 4, 3) := by decide +kernel
theorem dM_between_18 : decode bM_between 18 = .ok (.iload_n 0, 1) := by decide +kernel
theorem dM_between_19 : decode bM_between 19 = .ok (.ireturn, 1) := by decide +kernel
theorem dM_in_0 : decode bM_in 0 = .ok (.iload_n 0, 1) := by decide +kernel
theorem dM_in_1 : decode bM_in 1 = .ok (.ifCond .lt 12, 3) := by decide +kernel
theorem dM_in_4 : decode bM_in 4 = .ok (.iload_n 0, 1) := by decide +kernel
theorem dM_in_5 : decode bM_in 5 = .ok (.iload_n 1, 1) := by decide +kernel
theorem dM_in_6 : decode bM_in 6 = .ok (.if_icmp .ge 7, 3) := by decide +kernel
theorem dM_in_9 : decode bM_in 9 = .ok (.iconst 1, 1) := by decide +kernel
theorem dM_in_10 : decode bM_in 10 = .ok (.goto 4, 3) := by decide +kernel
theorem dM_in_13 : decode bM_in 13 = .ok (.iconst 0, 1) := by decide +kernel
theorem dM_in_14 : decode bM_in 14 = .ok (.ireturn, 1) := by decide +kernel
theorem dM_tool_0 : decode bM_tool 0 = .ok (.aload_n 0, 1) := by decide +kernel
theorem dM_tool_1 : decode bM_tool 1 = .ok (.getfield 93, 3) := by decide +kernel
theorem dM_tool_4 : decode bM_tool 4 = .ok (.bipush 6, 2) := by decide +kernel
theorem dM_tool_6 : decode bM_tool 6 = .ok (.if_icmp .ne 5, 3) := by decide +kernel
theorem dM_tool_9 : decode bM_tool 9 = .ok (.iconst (-1), 1) := by decide +kernel
theorem dM_tool_10 : decode bM_tool 10 = .ok (.ireturn, 1) := by decide +kernel
theorem dM_tool_11 : decode bM_tool 11 = .ok (.aload_n 0, 1) := by decide +kernel
theorem dM_tool_12 : decode bM_tool 12 = .ok (.getfield 7, 3) := by decide +kernel
theorem dM_tool_15 : decode bM_tool 15 = .ok (.aload_n 0, 1) := by decide +kernel
theorem dM_tool_16 : decode bM_tool 16 = .ok (.getfield 93, 3) := by decide +kernel
theorem dM_tool_19 : decode bM_tool 19 = .ok (.lload_n 1, 1) := by decide +kernel
theorem dM_tool_20 : decode bM_tool 20 = .ok (.lastore, 1) := by decide +kernel
theorem dM_tool_21 : decode bM_tool 21 = .ok (.aload_n 0, 1) := by decide +kernel
theorem dM_tool_22 : decode bM_tool 22 = .ok (.getfield 13, 3) := by decide +kernel
theorem dM_tool_25 : decode bM_tool 25 = .ok (.aload_n 0, 1) := by decide +kernel
theorem dM_tool_26 : decode bM_tool 26 = .ok (.getfield 93, 3) := by decide +kernel
theorem dM_tool_29 : decode bM_tool 29 = .ok (.iload_n 3, 1) := by decide +kernel
theorem dM_tool_30 : decode bM_tool 30 = .ok (.iastore, 1) := by decide +kernel
theorem dM_tool_31 : decode bM_tool 31 = .ok (.aload_n 0, 1) := by decide +kernel
theorem dM_tool_32 : decode bM_tool 32 = .ok (.getfield 17, 3) := by decide +kernel
theorem dM_tool_35 : decode bM_tool 35 = .ok (.aload_n 0, 1) := by decide +kernel
theorem dM_tool_36 : decode bM_tool 36 = .ok (.getfield 93, 3) := by decide +kernel
theorem dM_tool_39 : decode bM_tool 39 = .ok (.iconst 0, 1) := by decide +kernel
theorem dM_tool_40 : decode bM_tool 40 = .ok (.iastore, 1) := by decide +kernel
theorem dM_tool_41 : decode bM_tool 41 = .ok (.aload_n 0, 1) := by decide +kernel
theorem dM_tool_42 : decode bM_tool 42 = .ok (.dup, 1) := by decide +kernel
theorem dM_tool_43 : decode bM_tool 43 = .ok (.getfield 93, 3) := by decide +kernel
theorem dM_tool_46 : decode bM_tool 46 = .ok (.iconst 1, 1) := by decide +kernel
theorem dM_tool_47 : decode bM_tool 47 = .ok (.iadd, 1) := by decide +kernel
theorem dM_tool_48 : decode bM_tool 48 = .ok (.putfield 93, 3) := by decide +kernel
theorem dM_tool_51 : decode bM_tool 51 = .ok (.aload_n 0, 1) := by decide +kernel
theorem dM_tool_52 : decode bM_tool 52 = .ok (.getfield 93, 3) := by decide +kernel
theorem dM_tool_55 : decode bM_tool 55 = .ok (.iconst 1, 1) := by decide +kernel
theorem dM_tool_56 : decode bM_tool 56 = .ok (.isub, 1) := by decide +kernel
theorem dM_tool_57 : decode bM_tool 57 = .ok (.ireturn, 1) := by decide +kernel
theorem dM_quirk_0 : decode bM_quirk 0 = .ok (.iload_n 1, 1) := by decide +kernel
theorem dM_quirk_1 : decode bM_quirk 1 = .ok (.aload_n 0, 1) := by decide +kernel
theorem dM_quirk_2 : decode bM_quirk 2 = .ok (.getfield 93, 3) := by decide +kernel
theorem dM_quirk_5 : decode bM_quirk 5 = .ok (.invokestatic 96, 3) := by decide +kernel
theorem dM_quirk_8 : decode bM_quirk 8 = .ok (.ifCond .ne 5, 3) := by decide +kernel
theorem dM_quirk_11 : decode bM_quirk 11 = .ok (.iconst 0, 1) := by decide +kernel
theorem dM_quirk_12 : decode bM_quirk 12 = .ok (.ireturn, 1) := by decide +kernel
theorem dM_quirk_13 : decode bM_quirk 13 = .ok (.aload_n 0, 1) := by decide +kernel
theorem dM_quirk_14 : decode bM_quirk 14 = .ok (.getfield 13, 3) := by decide +kernel
theorem dM_quirk_17 : decode bM_quirk 17 = .ok (.iload_n 1, 1) := by decide +kernel
theorem dM_quirk_18 : decode bM_quirk 18 = .ok (.iload_n 2, 1) := by decide +kernel
theorem dM_quirk_19 : decode bM_quirk 19 = .ok (.iastore, 1) := by decide +kernel
theorem dM_quirk_20 : decode bM_quirk 20 = .ok (.iconst 1, 1) := by decide +kernel
theorem dM_quirk_21 : decode bM_quirk 21 = .ok (.ireturn, 1) := by decide +kernel
theorem dM_request_0 : decode bM_request 0 = .ok (.aload_n 0, 1) := by decide +kernel
theorem dM_request_1 : decode bM_request 1 = .ok (.getfield 100, 3) := by decide +kernel
theorem dM_request_4 : decode bM_request 4 = .ok (.bipush 100, 2) := by decide +kernel
theorem dM_request_6 : decode bM_request 6 = .ok (.if_icmp .eq 27, 3) := by decide +kernel
theorem dM_request_9 : decode bM_request 9 = .ok (.iload_n 1, 1) := by decide +kernel
theorem dM_request_10 : decode bM_request 10 = .ok (.aload_n 0, 1) := by decide +kernel
theorem dM_request_11 : decode bM_request 11 = .ok (.getfield 93, 3) := by decide +kernel
theorem dM_request_14 : decode bM_request 14 = .ok (.invokestatic 96, 3) := by decide +kernel
theorem dM_request_17 : decode bM_request 17 = .ok (.ifCond .eq 16, 3) := by decide +kernel
theorem dM_request_20 : decode bM_request 20 = .ok (.iload 4, 2) := by decide +kernel
theorem dM_request_22 : decode bM_request 22 = .ok (.ifCond .lt 11, 3) := by decide +kernel
theorem dM_request_25 : decode bM_request 25 = .ok (.iload 4, 2) := by decide +kernel
theorem dM_request_27 : decode bM_request 27 = .ok (.sipush 1000, 3) := by decide +kernel
theorem dM_request_30 : decode bM_request 30 = .ok (.if_icmp .le 5, 3) := by decide +kernel
theorem dM_request_33 : decode bM_request 33 = .ok (.iconst (-1), 1) := by decide +kernel
theorem dM_request_34 : decode bM_request 34 = .ok (.ireturn, 1) := by decide +kernel
theorem dM_request_35 : decode bM_request 35 = .ok (.aload_n 0, 1) := by decide +kernel
theorem dM_request_36 : decode bM_request 36 = .ok (.getfield 100, 3) := by decide +kernel
theorem dM_request_39 : decode bM_request 39 = .ok (.istore 5, 2) := by decide +kernel
theorem dM_request_41 : decode bM_request 41 = .ok (.aload_n 0, 1) := by decide +kernel
theorem dM_request_42 : decode bM_request 42 = .ok (.getfield 47, 3) := by decide +kernel
theorem dM_request_45 : decode bM_request 45 = .ok (.iload 5, 2) := by decide +kernel
theorem dM_request_47 : decode bM_request 47 = .ok (.iload_n 1, 1) := by decide +kernel
theorem dM_request_48 : decode bM_request 48 = .ok (.iastore, 1) := by decide +kernel
theorem dM_request_49 : decode bM_request 49 = .ok (.aload_n 0, 1) := by decide +kernel
theorem dM_request_50 : decode bM_request 50 = .ok (.getfield 72, 3) := by decide +kernel
theorem dM_request_53 : decode bM_request 53 = .ok (.iload 5, 2) := by decide +kernel
theorem dM_request_55 : decode bM_request 55 = .ok (.lload_n 2, 1) := by decide +kernel
theorem dM_request_56 : decode bM_request 56 = .ok (.lastore, 1) := by decide +kernel
theorem dM_request_57 : decode bM_request 57 = .ok (.aload_n 0, 1) := by decide +kernel
theorem dM_request_58 : decode bM_request 58 = .ok (.getfield 50, 3) := by decide +kernel
theorem dM_request_61 : decode bM_request 61 = .ok (.iload 5, 2) := by decide +kernel
theorem dM_request_63 : decode bM_request 63 = .ok (.iload 4, 2) := by decide +kernel
theorem dM_request_65 : decode bM_request 65 = .ok (.iastore, 1) := by decide +kernel
theorem dM_request_66 : decode bM_request 66 = .ok (.aload_n 0, 1) := by decide +kernel
theorem dM_request_67 : decode bM_request 67 = .ok (.getfield 53, 3) := by decide +kernel
theorem dM_request_70 : decode bM_request 70 = .ok (.iload 5, 2) := by decide +kernel
theorem dM_request_72 : decode bM_request 72 = .ok (.iconst 0, 1) := by decide +kernel
theorem dM_request_73 : decode bM_request 73 = .ok (.iastore, 1) := by decide +kernel
theorem dM_request_74 : decode bM_request 74 = .ok (.aload_n 0, 1) := by decide +kernel
theorem dM_request_75 : decode bM_request 75 = .ok (.getfield 56, 3) := by decide +kernel
theorem dM_request_78 : decode bM_request 78 = .ok (.iload 5, 2) := by decide +kernel
theorem dM_request_80 : decode bM_request 80 = .ok (.iconst (-1), 1) := by decide +kernel
theorem dM_request_81 : decode bM_request 81 = .ok (.iastore, 1) := by decide +kernel
theorem dM_request_82 : decode bM_request 82 = .ok (.aload_n 0, 1) := by decide +kernel
theorem dM_request_83 : decode bM_request 83 = .ok (.dup, 1) := by decide +kernel
theorem dM_request_84 : decode bM_request 84 = .ok (.getfield 100, 3) := by decide +kernel
theorem dM_request_87 : decode bM_request 87 = .ok (.iconst 1, 1) := by decide +kernel
theorem dM_request_88 : decode bM_request 88 = .ok (.iadd, 1) := by decide +kernel
theorem dM_request_89 : decode bM_request 89 = .ok (.putfield 100, 3) := by decide +kernel
theorem dM_request_92 : decode bM_request 92 = .ok (.iload 5, 2) := by decide +kernel
theorem dM_request_94 : decode bM_request 94 = .ok (.ireturn, 1) := by decide +kernel
theorem dM_cancel_0 : decode bM_cancel 0 = .ok (.iload_n 1, 1) := by decide +kernel
theorem dM_cancel_1 : decode bM_cancel 1 = .ok (.aload_n 0, 1) := by decide +kernel
theorem dM_cancel_2 : decode bM_cancel 2 = .ok (.getfield 100, 3) := by decide +kernel
theorem dM_cancel_5 : decode bM_cancel 5 = .ok (.invokestatic 96, 3) := by decide +kernel
theorem dM_cancel_8 : decode bM_cancel 8 = .ok (.ifCond .ne 5, 3) := by decide +kernel
theorem dM_cancel_11 : decode bM_cancel 11 = .ok (.iconst (-1), 1) := by decide +kernel
theorem dM_cancel_12 : decode bM_cancel 12 = .ok (.ireturn, 1) := by decide +kernel
theorem dM_cancel_13 : decode bM_cancel 13 = .ok (.aload_n 0, 1) := by decide +kernel
theorem dM_cancel_14 : decode bM_cancel 14 = .ok (.getfield 53, 3) := by decide +kernel
theorem dM_cancel_17 : decode bM_cancel 17 = .ok (.iload_n 1, 1) := by decide +kernel
theorem dM_cancel_18 : decode bM_cancel 18 = .ok (.iaload, 1) := by decide +kernel
theorem dM_cancel_19 : decode bM_cancel 19 = .ok (.ifCond .ne 12, 3) := by decide +kernel
theorem dM_cancel_22 : decode bM_cancel 22 = .ok (.aload_n 0, 1) := by decide +kernel
theorem dM_cancel_23 : decode bM_cancel 23 = .ok (.getfield 53, 3) := by decide +kernel
theorem dM_cancel_26 : decode bM_cancel 26 = .ok (.iload_n 1, 1) := by decide +kernel
theorem dM_cancel_27 : decode bM_cancel 27 = .ok (.iconst 3, 1) := by decide +kernel
theorem dM_cancel_28 : decode bM_cancel 28 = .ok (.iastore, 1) := by decide +kernel
theorem dM_cancel_29 : decode bM_cancel 29 = .ok (.iconst 1, 1) := by decide +kernel
theorem dM_cancel_30 : decode bM_cancel 30 = .ok (.ireturn, 1) := by decide +kernel
theorem dM_cancel_31 : decode bM_cancel 31 = .ok (.aload_n 0, 1) := by decide +kernel
theorem dM_cancel_32 : decode bM_cancel 32 = .ok (.getfield 53, 3) := by decide +kernel
theorem dM_cancel_35 : decode bM_cancel 35 = .ok (.iload_n 1, 1) := by decide +kernel
theorem dM_cancel_36 : decode bM_cancel 36 = .ok (.iaload, 1) := by decide +kernel
theorem dM_cancel_37 : decode bM_cancel 37 = .ok (.iconst 1, 1) := by decide +kernel
theorem dM_cancel_38 : decode bM_cancel 38 = .ok (.if_icmp .eq 5, 3) := by decide +kernel
theorem dM_cancel_41 : decode bM_cancel 41 = .ok (.iconst 0, 1) := by decide +kernel
theorem dM_cancel_42 : decode bM_cancel 42 = .ok (.ireturn, 1) := by decide +kernel
theorem dM_cancel_43 : decode bM_cancel 43 = .ok (.aload_n 0, 1) := by decide +kernel
theorem dM_cancel_44 : decode bM_cancel 44 = .ok (.getfield 65, 3) := by decide +kernel
theorem dM_cancel_47 : decode bM_cancel 47 = .ok (.iload_n 1, 1) := by decide +kernel
theorem dM_cancel_48 : decode bM_cancel 48 = .ok (.iconst 1, 1) := by decide +kernel
theorem dM_cancel_49 : decode bM_cancel 49 = .ok (.bastore, 1) := by decide +kernel
theorem dM_cancel_50 : decode bM_cancel 50 = .ok (.iconst 2, 1) := by decide +kernel
theorem dM_cancel_51 : decode bM_cancel 51 = .ok (.ireturn, 1) := by decide +kernel
theorem dM_answers_0 : decode bM_answers 0 = .ok (.aload_n 0, 1) := by decide +kernel
theorem dM_answers_1 : decode bM_answers 1 = .ok (.getfield 53, 3) := by decide +kernel
theorem dM_answers_4 : decode bM_answers 4 = .ok (.iload_n 1, 1) := by decide +kernel
theorem dM_answers_5 : decode bM_answers 5 = .ok (.iconst 2, 1) := by decide +kernel
theorem dM_answers_6 : decode bM_answers 6 = .ok (.iastore, 1) := by decide +kernel
theorem dM_answers_7 : decode bM_answers 7 = .ok (.aload_n 0, 1) := by decide +kernel
theorem dM_answers_8 : decode bM_answers 8 = .ok (.getfield 75, 3) := by decide +kernel
theorem dM_answers_11 : decode bM_answers 11 = .ok (.iload_n 1, 1) := by decide +kernel
theorem dM_answers_12 : decode bM_answers 12 = .ok (.lload_n 2, 1) := by decide +kernel
theorem dM_answers_13 : decode bM_answers 13 = .ok (.lastore, 1) := by decide +kernel
theorem dM_answers_14 : decode bM_answers 14 = .ok (.return_, 1) := by decide +kernel
theorem dM_lets_0 : decode bM_lets 0 = .ok (.aload_n 0, 1) := by decide +kernel
theorem dM_lets_1 : decode bM_lets 1 = .ok (.getfield 56, 3) := by decide +kernel
theorem dM_lets_4 : decode bM_lets 4 = .ok (.iload_n 1, 1) := by decide +kernel
theorem dM_lets_5 : decode bM_lets 5 = .ok (.iconst (-1), 1) := by decide +kernel
theorem dM_lets_6 : decode bM_lets 6 = .ok (.iastore, 1) := by decide +kernel
theorem dM_lets_7 : decode bM_lets 7 = .ok (.aload_n 0, 1) := by decide +kernel
theorem dM_lets_8 : decode bM_lets 8 = .ok (.getfield 65, 3) := by decide +kernel
theorem dM_lets_11 : decode bM_lets 11 = .ok (.iload_n 1, 1) := by decide +kernel
theorem dM_lets_12 : decode bM_lets 12 = .ok (.baload, 1) := by decide +kernel
theorem dM_lets_13 : decode bM_lets 13 = .ok (.ifCond .ne 5, 3) := by decide +kernel
theorem dM_lets_16 : decode bM_lets 16 = .ok (.iconst 0, 1) := by decide +kernel
theorem dM_lets_17 : decode bM_lets 17 = .ok (.ireturn, 1) := by decide +kernel
theorem dM_lets_18 : decode bM_lets 18 = .ok (.aload_n 0, 1) := by decide +kernel
theorem dM_lets_19 : decode bM_lets 19 = .ok (.getfield 65, 3) := by decide +kernel
theorem dM_lets_22 : decode bM_lets 22 = .ok (.iload_n 1, 1) := by decide +kernel
theorem dM_lets_23 : decode bM_lets 23 = .ok (.iconst 0, 1) := by decide +kernel
theorem dM_lets_24 : decode bM_lets 24 = .ok (.bastore, 1) := by decide +kernel
theorem dM_lets_25 : decode bM_lets 25 = .ok (.aload_n 0, 1) := by decide +kernel
theorem dM_lets_26 : decode bM_lets 26 = .ok (.getfield 53, 3) := by decide +kernel
theorem dM_lets_29 : decode bM_lets 29 = .ok (.iload_n 1, 1) := by decide +kernel
theorem dM_lets_30 : decode bM_lets 30 = .ok (.iconst 3, 1) := by decide +kernel
theorem dM_lets_31 : decode bM_lets 31 = .ok (.iastore, 1) := by decide +kernel
theorem dM_lets_32 : decode bM_lets 32 = .ok (.iconst 1, 1) := by decide +kernel
theorem dM_lets_33 : decode bM_lets 33 = .ok (.ireturn, 1) := by decide +kernel
theorem dM_waitsAgain_0 : decode bM_waitsAgain 0 = .ok (.aload_n 0, 1) := by decide +kernel
theorem dM_waitsAgain_1 : decode bM_waitsAgain 1 = .ok (.iload_n 1, 1) := by decide +kernel
theorem dM_waitsAgain_2 : decode bM_waitsAgain 2 = .ok (.invokevirtual 103, 3) := by decide +kernel
theorem dM_waitsAgain_5 : decode bM_waitsAgain 5 = .ok (.ifCond .ne 10, 3) := by decide +kernel
theorem dM_waitsAgain_8 : decode bM_waitsAgain 8 = .ok (.aload_n 0, 1) := by decide +kernel
theorem dM_waitsAgain_9 : decode bM_waitsAgain 9 = .ok (.getfield 53, 3) := by decide +kernel
theorem dM_waitsAgain_12 : decode bM_waitsAgain 12 = .ok (.iload_n 1, 1) := by decide +kernel
theorem dM_waitsAgain_13 : decode bM_waitsAgain 13 = .ok (.iconst 0, 1) := by decide +kernel
theorem dM_waitsAgain_14 : decode bM_waitsAgain 14 = .ok (.iastore, 1) := by decide +kernel
theorem dM_waitsAgain_15 : decode bM_waitsAgain 15 = .ok (.return_, 1) := by decide +kernel
theorem dM_ends_0 : decode bM_ends 0 = .ok (.aload_n 0, 1) := by decide +kernel
theorem dM_ends_1 : decode bM_ends 1 = .ok (.getfield 32, 3) := by decide +kernel
theorem dM_ends_4 : decode bM_ends 4 = .ok (.iload_n 1, 1) := by decide +kernel
theorem dM_ends_5 : decode bM_ends 5 = .ok (.iaload, 1) := by decide +kernel
theorem dM_ends_6 : decode bM_ends 6 = .ok (.istore_n 3, 1) := by decide +kernel
theorem dM_ends_7 : decode bM_ends 7 = .ok (.aload_n 0, 1) := by decide +kernel
theorem dM_ends_8 : decode bM_ends 8 = .ok (.getfield 23, 3) := by decide +kernel
theorem dM_ends_11 : decode bM_ends 11 = .ok (.iload_n 1, 1) := by decide +kernel
theorem dM_ends_12 : decode bM_ends 12 = .ok (.iconst 2, 1) := by decide +kernel
theorem dM_ends_13 : decode bM_ends 13 = .ok (.iastore, 1) := by decide +kernel
theorem dM_ends_14 : decode bM_ends 14 = .ok (.aload_n 0, 1) := by decide +kernel
theorem dM_ends_15 : decode bM_ends 15 = .ok (.getfield 35, 3) := by decide +kernel
theorem dM_ends_18 : decode bM_ends 18 = .ok (.iload_n 1, 1) := by decide +kernel
theorem dM_ends_19 : decode bM_ends 19 = .ok (.iload_n 2, 1) := by decide +kernel
theorem dM_ends_20 : decode bM_ends 20 = .ok (.iastore, 1) := by decide +kernel
theorem dM_ends_21 : decode bM_ends 21 = .ok (.aload_n 0, 1) := by decide +kernel
theorem dM_ends_22 : decode bM_ends 22 = .ok (.getfield 32, 3) := by decide +kernel
theorem dM_ends_25 : decode bM_ends 25 = .ok (.iload_n 1, 1) := by decide +kernel
theorem dM_ends_26 : decode bM_ends 26 = .ok (.iconst (-1), 1) := by decide +kernel
theorem dM_ends_27 : decode bM_ends 27 = .ok (.iastore, 1) := by decide +kernel
theorem dM_ends_28 : decode bM_ends 28 = .ok (.iload_n 3, 1) := by decide +kernel
theorem dM_ends_29 : decode bM_ends 29 = .ok (.ireturn, 1) := by decide +kernel
theorem dM_freeOne_0 : decode bM_freeOne 0 = .ok (.iconst (-1), 1) := by decide +kernel
theorem dM_freeOne_1 : decode bM_freeOne 1 = .ok (.istore_n 2, 1) := by decide +kernel
theorem dM_freeOne_2 : decode bM_freeOne 2 = .ok (.aload_n 0, 1) := by decide +kernel
theorem dM_freeOne_3 : decode bM_freeOne 3 = .ok (.getfield 107, 3) := by decide +kernel
theorem dM_freeOne_6 : decode bM_freeOne 6 = .ok (.iconst 1, 1) := by decide +kernel
theorem dM_freeOne_7 : decode bM_freeOne 7 = .ok (.isub, 1) := by decide +kernel
theorem dM_freeOne_8 : decode bM_freeOne 8 = .ok (.istore_n 3, 1) := by decide +kernel
theorem dM_freeOne_9 : decode bM_freeOne 9 = .ok (.iload_n 3, 1) := by decide +kernel
theorem dM_freeOne_10 : decode bM_freeOne 10 = .ok (.ifCond .lt 30, 3) := by decide +kernel
theorem dM_freeOne_13 : decode bM_freeOne 13 = .ok (.aload_n 0, 1) := by decide +kernel
theorem dM_freeOne_14 : decode bM_freeOne 14 = .ok (.getfield 20, 3) := by decide +kernel
theorem dM_freeOne_17 : decode bM_freeOne 17 = .ok (.iload_n 3, 1) := by decide +kernel
theorem dM_freeOne_18 : decode bM_freeOne 18 = .ok (.iaload, 1) := by decide +kernel
theorem dM_freeOne_19 : decode bM_freeOne 19 = .ok (.iload_n 1, 1) := by decide +kernel
theorem dM_freeOne_20 : decode bM_freeOne 20 = .ok (.if_icmp .ne 14, 3) := by decide +kernel
theorem dM_freeOne_23 : decode bM_freeOne 23 = .ok (.aload_n 0, 1) := by decide +kernel
theorem dM_freeOne_24 : decode bM_freeOne 24 = .ok (.getfield 23, 3) := by decide +kernel
theorem dM_freeOne_27 : decode bM_freeOne 27 = .ok (.iload_n 3, 1) := by decide +kernel
theorem dM_freeOne_28 : decode bM_freeOne 28 = .ok (.iaload, 1) := by decide +kernel
theorem dM_freeOne_29 : decode bM_freeOne 29 = .ok (.ifCond .ne 5, 3) := by decide +kernel
theorem dM_freeOne_32 : decode bM_freeOne 32 = .ok (.iload_n 3, 1) := by decide +kernel
theorem dM_freeOne_33 : decode bM_freeOne 33 = .ok (.istore_n 2, 1) := by decide +kernel
theorem dM_freeOne_34 : decode bM_freeOne 34 = .ok (.iinc 3 (-1), 3) := by decide +kernel
theorem dM_freeOne_37 : decode bM_freeOne 37 = .ok (.goto (-28), 3) := by decide +kernel
theorem dM_freeOne_40 : decode bM_freeOne 40 = .ok (.iload_n 2, 1) := by decide +kernel
theorem dM_freeOne_41 : decode bM_freeOne 41 = .ok (.ireturn, 1) := by decide +kernel
theorem dM_alive_0 : decode bM_alive 0 = .ok (.iconst 0, 1) := by decide +kernel
theorem dM_alive_1 : decode bM_alive 1 = .ok (.istore_n 2, 1) := by decide +kernel
theorem dM_alive_2 : decode bM_alive 2 = .ok (.iconst 0, 1) := by decide +kernel
theorem dM_alive_3 : decode bM_alive 3 = .ok (.istore_n 3, 1) := by decide +kernel
theorem dM_alive_4 : decode bM_alive 4 = .ok (.iload_n 3, 1) := by decide +kernel
theorem dM_alive_5 : decode bM_alive 5 = .ok (.aload_n 0, 1) := by decide +kernel
theorem dM_alive_6 : decode bM_alive 6 = .ok (.getfield 107, 3) := by decide +kernel
theorem dM_alive_9 : decode bM_alive 9 = .ok (.if_icmp .ge 32, 3) := by decide +kernel
theorem dM_alive_12 : decode bM_alive 12 = .ok (.aload_n 0, 1) := by decide +kernel
theorem dM_alive_13 : decode bM_alive 13 = .ok (.getfield 20, 3) := by decide +kernel
theorem dM_alive_16 : decode bM_alive 16 = .ok (.iload_n 3, 1) := by decide +kernel
theorem dM_alive_17 : decode bM_alive 17 = .ok (.iaload, 1) := by decide +kernel
theorem dM_alive_18 : decode bM_alive 18 = .ok (.iload_n 1, 1) := by decide +kernel
theorem dM_alive_19 : decode bM_alive 19 = .ok (.if_icmp .ne 16, 3) := by decide +kernel
theorem dM_alive_22 : decode bM_alive 22 = .ok (.aload_n 0, 1) := by decide +kernel
theorem dM_alive_23 : decode bM_alive 23 = .ok (.getfield 23, 3) := by decide +kernel
theorem dM_alive_26 : decode bM_alive 26 = .ok (.iload_n 3, 1) := by decide +kernel
theorem dM_alive_27 : decode bM_alive 27 = .ok (.iaload, 1) := by decide +kernel
theorem dM_alive_28 : decode bM_alive 28 = .ok (.iconst 2, 1) := by decide +kernel
theorem dM_alive_29 : decode bM_alive 29 = .ok (.if_icmp .eq 6, 3) := by decide +kernel
theorem dM_alive_32 : decode bM_alive 32 = .ok (.iinc 2 1, 3) := by decide +kernel
theorem dM_alive_35 : decode bM_alive 35 = .ok (.iinc 3 1, 3) := by decide +kernel
theorem dM_alive_38 : decode bM_alive 38 = .ok (.goto (-34), 3) := by decide +kernel
theorem dM_alive_41 : decode bM_alive 41 = .ok (.iload_n 2, 1) := by decide +kernel
theorem dM_alive_42 : decode bM_alive 42 = .ok (.ireturn, 1) := by decide +kernel
theorem dM_newOne_0 : decode bM_newOne 0 = .ok (.aload_n 0, 1) := by decide +kernel
theorem dM_newOne_1 : decode bM_newOne 1 = .ok (.getfield 107, 3) := by decide +kernel
theorem dM_newOne_4 : decode bM_newOne 4 = .ok (.istore_n 2, 1) := by decide +kernel
theorem dM_newOne_5 : decode bM_newOne 5 = .ok (.aload_n 0, 1) := by decide +kernel
theorem dM_newOne_6 : decode bM_newOne 6 = .ok (.getfield 20, 3) := by decide +kernel
theorem dM_newOne_9 : decode bM_newOne 9 = .ok (.iload_n 2, 1) := by decide +kernel
theorem dM_newOne_10 : decode bM_newOne 10 = .ok (.iload_n 1, 1) := by decide +kernel
theorem dM_newOne_11 : decode bM_newOne 11 = .ok (.iastore, 1) := by decide +kernel
theorem dM_newOne_12 : decode bM_newOne 12 = .ok (.aload_n 0, 1) := by decide +kernel
theorem dM_newOne_13 : decode bM_newOne 13 = .ok (.getfield 44, 3) := by decide +kernel
theorem dM_newOne_16 : decode bM_newOne 16 = .ok (.iload_n 2, 1) := by decide +kernel
theorem dM_newOne_17 : decode bM_newOne 17 = .ok (.aload_n 0, 1) := by decide +kernel
theorem dM_newOne_18 : decode bM_newOne 18 = .ok (.getfield 7, 3) := by decide +kernel
theorem dM_newOne_21 : decode bM_newOne 21 = .ok (.iload_n 1, 1) := by decide +kernel
theorem dM_newOne_22 : decode bM_newOne 22 = .ok (.laload, 1) := by decide +kernel
theorem dM_newOne_23 : decode bM_newOne 23 = .ok (.lastore, 1) := by decide +kernel
theorem dM_newOne_24 : decode bM_newOne 24 = .ok (.aload_n 0, 1) := by decide +kernel
theorem dM_newOne_25 : decode bM_newOne 25 = .ok (.dup, 1) := by decide +kernel
theorem dM_newOne_26 : decode bM_newOne 26 = .ok (.getfield 107, 3) := by decide +kernel
theorem dM_newOne_29 : decode bM_newOne 29 = .ok (.iconst 1, 1) := by decide +kernel
theorem dM_newOne_30 : decode bM_newOne 30 = .ok (.iadd, 1) := by decide +kernel
theorem dM_newOne_31 : decode bM_newOne 31 = .ok (.putfield 107, 3) := by decide +kernel
theorem dM_newOne_34 : decode bM_newOne 34 = .ok (.iload_n 2, 1) := by decide +kernel
theorem dM_newOne_35 : decode bM_newOne 35 = .ok (.ireturn, 1) := by decide +kernel
theorem dM_goes_0 : decode bM_goes 0 = .ok (.aload_n 0, 1) := by decide +kernel
theorem dM_goes_1 : decode bM_goes 1 = .ok (.getfield 47, 3) := by decide +kernel
theorem dM_goes_4 : decode bM_goes 4 = .ok (.iload_n 1, 1) := by decide +kernel
theorem dM_goes_5 : decode bM_goes 5 = .ok (.iaload, 1) := by decide +kernel
theorem dM_goes_6 : decode bM_goes 6 = .ok (.istore_n 2, 1) := by decide +kernel
theorem dM_goes_7 : decode bM_goes 7 = .ok (.aload_n 0, 1) := by decide +kernel
theorem dM_goes_8 : decode bM_goes 8 = .ok (.getfield 17, 3) := by decide +kernel
theorem dM_goes_11 : decode bM_goes 11 = .ok (.iload_n 2, 1) := by decide +kernel
theorem dM_goes_12 : decode bM_goes 12 = .ok (.iaload, 1) := by decide +kernel
theorem dM_goes_13 : decode bM_goes 13 = .ok (.iconst 3, 1) := by decide +kernel
theorem dM_goes_14 : decode bM_goes 14 = .ok (.if_icmp .lt 26, 3) := by decide +kernel
theorem dM_goes_17 : decode bM_goes 17 = .ok (.aload_n 0, 1) := by decide +kernel
theorem dM_goes_18 : decode bM_goes 18 = .ok (.iload_n 1, 1) := by decide +kernel
theorem dM_goes_19 : decode bM_goes 19 = .ok (.aload_n 0, 1) := by decide +kernel
theorem dM_goes_20 : decode bM_goes 20 = .ok (.aload_n 0, 1) := by decide +kernel
theorem dM_goes_21 : decode bM_goes 21 = .ok (.getfield 7, 3) := by decide +kernel
theorem dM_goes_24 : decode bM_goes 24 = .ok (.iload_n 2, 1) := by decide +kernel
theorem dM_goes_25 : decode bM_goes 25 = .ok (.laload, 1) := by decide +kernel
theorem dM_goes_26 : decode bM_goes 26 = .ok (.aload_n 0, 1) := by decide +kernel
theorem dM_goes_27 : decode bM_goes 27 = .ok (.getfield 72, 3) := by decide +kernel
theorem dM_goes_30 : decode bM_goes 30 = .ok (.iload_n 1, 1) := by decide +kernel
theorem dM_goes_31 : decode bM_goes 31 = .ok (.laload, 1) := by decide +kernel
theorem dM_goes_32 : decode bM_goes 32 = .ok (.invokevirtual 110, 3) := by decide +kernel
theorem dM_goes_35 : decode bM_goes 35 = .ok (.invokevirtual 114, 3) := by decide +kernel
theorem dM_goes_38 : decode bM_goes 38 = .ok (.iconst 1, 1) := by decide +kernel
theorem dM_goes_39 : decode bM_goes 39 = .ok (.ireturn, 1) := by decide +kernel
theorem dM_goes_40 : decode bM_goes 40 = .ok (.aload_n 0, 1) := by decide +kernel
theorem dM_goes_41 : decode bM_goes 41 = .ok (.iload_n 2, 1) := by decide +kernel
theorem dM_goes_42 : decode bM_goes 42 = .ok (.invokevirtual 118, 3) := by decide +kernel
theorem dM_goes_45 : decode bM_goes 45 = .ok (.istore_n 3, 1) := by decide +kernel
theorem dM_goes_46 : decode bM_goes 46 = .ok (.iload_n 3, 1) := by decide +kernel
theorem dM_goes_47 : decode bM_goes 47 = .ok (.ifCond .ge 30, 3) := by decide +kernel
theorem dM_goes_50 : decode bM_goes 50 = .ok (.aload_n 0, 1) := by decide +kernel
theorem dM_goes_51 : decode bM_goes 51 = .ok (.iload_n 2, 1) := by decide +kernel
theorem dM_goes_52 : decode bM_goes 52 = .ok (.invokevirtual 122, 3) := by decide +kernel
theorem dM_goes_55 : decode bM_goes 55 = .ok (.aload_n 0, 1) := by decide +kernel
theorem dM_goes_56 : decode bM_goes 56 = .ok (.getfield 82, 3) := by decide +kernel
theorem dM_goes_59 : decode bM_goes 59 = .ok (.if_icmp .ge 18, 3) := by decide +kernel
theorem dM_goes_62 : decode bM_goes 62 = .ok (.aload_n 0, 1) := by decide +kernel
theorem dM_goes_63 : decode bM_goes 63 = .ok (.getfield 107, 3) := by decide +kernel
theorem dM_goes_66 : decode bM_goes 66 = .ok (.bipush 60, 2) := by decide +kernel
theorem dM_goes_68 : decode bM_goes 68 = .ok (.if_icmp .ge 9, 3) := by decide +kernel
theorem dM_goes_71 : decode bM_goes 71 = .ok (.aload_n 0, 1) := by decide +kernel
theorem dM_goes_72 : decode bM_goes 72 = .ok (.iload_n 2, 1) := by decide +kernel
theorem dM_goes_73 : decode bM_goes 73 = .ok (.invokevirtual 125, 3) := by decide +kernel
theorem dM_goes_76 : decode bM_goes 76 = .ok (.istore_n 3, 1) := by decide +kernel
theorem dM_goes_77 : decode bM_goes 77 = .ok (.iload_n 3, 1) := by decide +kernel
theorem dM_goes_78 : decode bM_goes 78 = .ok (.ifCond .ge 5, 3) := by decide +kernel
theorem dM_goes_81 : decode bM_goes 81 = .ok (.iconst 0, 1) := by decide +kernel
theorem dM_goes_82 : decode bM_goes 82 = .ok (.ireturn, 1) := by decide +kernel
theorem dM_goes_83 : decode bM_goes 83 = .ok (.aload_n 0, 1) := by decide +kernel
theorem dM_goes_84 : decode bM_goes 84 = .ok (.getfield 23, 3) := by decide +kernel
theorem dM_goes_87 : decode bM_goes 87 = .ok (.iload_n 3, 1) := by decide +kernel
theorem dM_goes_88 : decode bM_goes 88 = .ok (.iconst 1, 1) := by decide +kernel
theorem dM_goes_89 : decode bM_goes 89 = .ok (.iastore, 1) := by decide +kernel
theorem dM_goes_90 : decode bM_goes 90 = .ok (.aload_n 0, 1) := by decide +kernel
theorem dM_goes_91 : decode bM_goes 91 = .ok (.getfield 32, 3) := by decide +kernel
theorem dM_goes_94 : decode bM_goes 94 = .ok (.iload_n 3, 1) := by decide +kernel
theorem dM_goes_95 : decode bM_goes 95 = .ok (.iload_n 1, 1) := by decide +kernel
theorem dM_goes_96 : decode bM_goes 96 = .ok (.iastore, 1) := by decide +kernel
theorem dM_goes_97 : decode bM_goes 97 = .ok (.aload_n 0, 1) := by decide +kernel
theorem dM_goes_98 : decode bM_goes 98 = .ok (.getfield 53, 3) := by decide +kernel
theorem dM_goes_101 : decode bM_goes 101 = .ok (.iload_n 1, 1) := by decide +kernel
theorem dM_goes_102 : decode bM_goes 102 = .ok (.iconst 1, 1) := by decide +kernel
theorem dM_goes_103 : decode bM_goes 103 = .ok (.iastore, 1) := by decide +kernel
theorem dM_goes_104 : decode bM_goes 104 = .ok (.aload_n 0, 1) := by decide +kernel
theorem dM_goes_105 : decode bM_goes 105 = .ok (.getfield 56, 3) := by decide +kernel
theorem dM_goes_108 : decode bM_goes 108 = .ok (.iload_n 1, 1) := by decide +kernel
theorem dM_goes_109 : decode bM_goes 109 = .ok (.iload_n 3, 1) := by decide +kernel
theorem dM_goes_110 : decode bM_goes 110 = .ok (.iastore, 1) := by decide +kernel
theorem dM_goes_111 : decode bM_goes 111 = .ok (.aload_n 0, 1) := by decide +kernel
theorem dM_goes_112 : decode bM_goes 112 = .ok (.getfield 62, 3) := by decide +kernel
theorem dM_goes_115 : decode bM_goes 115 = .ok (.iload_n 1, 1) := by decide +kernel
theorem dM_goes_116 : decode bM_goes 116 = .ok (.dup2, 1) := by decide +kernel
theorem dM_goes_117 : decode bM_goes 117 = .ok (.iaload, 1) := by decide +kernel
theorem dM_goes_118 : decode bM_goes 118 = .ok (.iconst 1, 1) := by decide +kernel
theorem dM_goes_119 : decode bM_goes 119 = .ok (.iadd, 1) := by decide +kernel
theorem dM_goes_120 : decode bM_goes 120 = .ok (.iastore, 1) := by decide +kernel
theorem dM_goes_121 : decode bM_goes 121 = .ok (.iconst 1, 1) := by decide +kernel
theorem dM_goes_122 : decode bM_goes 122 = .ok (.ireturn, 1) := by decide +kernel
theorem dM_step_0 : decode bM_step 0 = .ok (.iconst 0, 1) := by decide +kernel
theorem dM_step_1 : decode bM_step 1 = .ok (.istore_n 1, 1) := by decide +kernel
theorem dM_step_2 : decode bM_step 2 = .ok (.iconst 0, 1) := by decide +kernel
theorem dM_step_3 : decode bM_step 3 = .ok (.istore_n 2, 1) := by decide +kernel
theorem dM_step_4 : decode bM_step 4 = .ok (.iload_n 2, 1) := by decide +kernel
theorem dM_step_5 : decode bM_step 5 = .ok (.aload_n 0, 1) := by decide +kernel
theorem dM_step_6 : decode bM_step 6 = .ok (.getfield 100, 3) := by decide +kernel
theorem dM_step_9 : decode bM_step 9 = .ok (.if_icmp .ge 29, 3) := by decide +kernel
theorem dM_step_12 : decode bM_step 12 = .ok (.aload_n 0, 1) := by decide +kernel
theorem dM_step_13 : decode bM_step 13 = .ok (.getfield 53, 3) := by decide +kernel
theorem dM_step_16 : decode bM_step 16 = .ok (.iload_n 2, 1) := by decide +kernel
theorem dM_step_17 : decode bM_step 17 = .ok (.iaload, 1) := by decide +kernel
theorem dM_step_18 : decode bM_step 18 = .ok (.ifCond .ne 14, 3) := by decide +kernel
theorem dM_step_21 : decode bM_step 21 = .ok (.aload_n 0, 1) := by decide +kernel
theorem dM_step_22 : decode bM_step 22 = .ok (.iload_n 2, 1) := by decide +kernel
theorem dM_step_23 : decode bM_step 23 = .ok (.invokevirtual 128, 3) := by decide +kernel
theorem dM_step_26 : decode bM_step 26 = .ok (.ifCond .eq 6, 3) := by decide +kernel
theorem dM_step_29 : decode bM_step 29 = .ok (.iinc 1 1, 3) := by decide +kernel
theorem dM_step_32 : decode bM_step 32 = .ok (.iinc 2 1, 3) := by decide +kernel
theorem dM_step_35 : decode bM_step 35 = .ok (.goto (-31), 3) := by decide +kernel
theorem dM_step_38 : decode bM_step 38 = .ok (.iload_n 1, 1) := by decide +kernel
theorem dM_step_39 : decode bM_step 39 = .ok (.ireturn, 1) := by decide +kernel
theorem dM_isBusy_0 : decode bM_isBusy 0 = .ok (.iload_n 1, 1) := by decide +kernel
theorem dM_isBusy_1 : decode bM_isBusy 1 = .ok (.aload_n 0, 1) := by decide +kernel
theorem dM_isBusy_2 : decode bM_isBusy 2 = .ok (.getfield 107, 3) := by decide +kernel
theorem dM_isBusy_5 : decode bM_isBusy 5 = .ok (.invokestatic 96, 3) := by decide +kernel
theorem dM_isBusy_8 : decode bM_isBusy 8 = .ok (.ifCond .eq 17, 3) := by decide +kernel
theorem dM_isBusy_11 : decode bM_isBusy 11 = .ok (.aload_n 0, 1) := by decide +kernel
theorem dM_isBusy_12 : decode bM_isBusy 12 = .ok (.getfield 23, 3) := by decide +kernel
theorem dM_isBusy_15 : decode bM_isBusy 15 = .ok (.iload_n 1, 1) := by decide +kernel
theorem dM_isBusy_16 : decode bM_isBusy 16 = .ok (.iaload, 1) := by decide +kernel
theorem dM_isBusy_17 : decode bM_isBusy 17 = .ok (.iconst 1, 1) := by decide +kernel
theorem dM_isBusy_18 : decode bM_isBusy 18 = .ok (.if_icmp .ne 7, 3) := by decide +kernel
theorem dM_isBusy_21 : decode bM_isBusy 21 = .ok (.iconst 1, 1) := by decide +kernel
theorem dM_isBusy_22 : decode bM_isBusy 22 = .ok (.goto 4, 3) := by decide +kernel
theorem dM_isBusy_25 : decode bM_isBusy 25 = .ok (.iconst 0, 1) := by decide +kernel
theorem dM_isBusy_26 : decode bM_isBusy 26 = .ok (.ireturn, 1) := by decide +kernel
theorem dM_finish_0 : decode bM_finish 0 = .ok (.aload_n 0, 1) := by decide +kernel
theorem dM_finish_1 : decode bM_finish 1 = .ok (.iload_n 1, 1) := by decide +kernel
theorem dM_finish_2 : decode bM_finish 2 = .ok (.invokevirtual 131, 3) := by decide +kernel
theorem dM_finish_5 : decode bM_finish 5 = .ok (.ifCond .ne 5, 3) := by decide +kernel
theorem dM_finish_8 : decode bM_finish 8 = .ok (.iconst (-1), 1) := by decide +kernel
theorem dM_finish_9 : decode bM_finish 9 = .ok (.ireturn, 1) := by decide +kernel
theorem dM_finish_10 : decode bM_finish 10 = .ok (.aload_n 0, 1) := by decide +kernel
theorem dM_finish_11 : decode bM_finish 11 = .ok (.getfield 32, 3) := by decide +kernel
theorem dM_finish_14 : decode bM_finish 14 = .ok (.iload_n 1, 1) := by decide +kernel
theorem dM_finish_15 : decode bM_finish 15 = .ok (.iaload, 1) := by decide +kernel
theorem dM_finish_16 : decode bM_finish 16 = .ok (.istore_n 2, 1) := by decide +kernel
theorem dM_finish_17 : decode bM_finish 17 = .ok (.aload_n 0, 1) := by decide +kernel
theorem dM_finish_18 : decode bM_finish 18 = .ok (.getfield 65, 3) := by decide +kernel
theorem dM_finish_21 : decode bM_finish 21 = .ok (.iload_n 2, 1) := by decide +kernel
theorem dM_finish_22 : decode bM_finish 22 = .ok (.baload, 1) := by decide +kernel
theorem dM_finish_23 : decode bM_finish 23 = .ok (.ifCond .eq 12, 3) := by decide +kernel
theorem dM_finish_26 : decode bM_finish 26 = .ok (.aload_n 0, 1) := by decide +kernel
theorem dM_finish_27 : decode bM_finish 27 = .ok (.iload_n 2, 1) := by decide +kernel
theorem dM_finish_28 : decode bM_finish 28 = .ok (.invokevirtual 103, 3) := by decide +kernel
theorem dM_finish_31 : decode bM_finish 31 = .ok (.istore_n 3, 1) := by decide +kernel
theorem dM_finish_32 : decode bM_finish 32 = .ok (.goto 59, 3) := by decide +kernel
theorem dM_finish_35 : decode bM_finish 35 = .ok (.aload_n 0, 1) := by decide +kernel
theorem dM_finish_36 : decode bM_finish 36 = .ok (.iload_n 2, 1) := by decide +kernel
theorem dM_finish_37 : decode bM_finish 37 = .ok (.aload_n 0, 1) := by decide +kernel
theorem dM_finish_38 : decode bM_finish 38 = .ok (.aload_n 0, 1) := by decide +kernel
theorem dM_finish_39 : decode bM_finish 39 = .ok (.getfield 44, 3) := by decide +kernel
theorem dM_finish_42 : decode bM_finish 42 = .ok (.iload_n 1, 1) := by decide +kernel
theorem dM_finish_43 : decode bM_finish 43 = .ok (.laload, 1) := by decide +kernel
theorem dM_finish_44 : decode bM_finish 44 = .ok (.aload_n 0, 1) := by decide +kernel
theorem dM_finish_45 : decode bM_finish 45 = .ok (.getfield 72, 3) := by decide +kernel
theorem dM_finish_48 : decode bM_finish 48 = .ok (.iload_n 2, 1) := by decide +kernel
theorem dM_finish_49 : decode bM_finish 49 = .ok (.laload, 1) := by decide +kernel
theorem dM_finish_50 : decode bM_finish 50 = .ok (.invokevirtual 110, 3) := by decide +kernel
theorem dM_finish_53 : decode bM_finish 53 = .ok (.aload_n 0, 1) := by decide +kernel
theorem dM_finish_54 : decode bM_finish 54 = .ok (.getfield 13, 3) := by decide +kernel
theorem dM_finish_57 : decode bM_finish 57 = .ok (.aload_n 0, 1) := by decide +kernel
theorem dM_finish_58 : decode bM_finish 58 = .ok (.getfield 20, 3) := by decide +kernel
theorem dM_finish_61 : decode bM_finish 61 = .ok (.iload_n 1, 1) := by decide +kernel
theorem dM_finish_62 : decode bM_finish 62 = .ok (.iaload, 1) := by decide +kernel
theorem dM_finish_63 : decode bM_finish 63 = .ok (.iaload, 1) := by decide +kernel
theorem dM_finish_64 : decode bM_finish 64 = .ok (.i2l, 1) := by decide +kernel
theorem dM_finish_65 : decode bM_finish 65 = .ok (.aload_n 0, 1) := by decide +kernel
theorem dM_finish_66 : decode bM_finish 66 = .ok (.getfield 26, 3) := by decide +kernel
theorem dM_finish_69 : decode bM_finish 69 = .ok (.iload_n 1, 1) := by decide +kernel
theorem dM_finish_70 : decode bM_finish 70 = .ok (.iaload, 1) := by decide +kernel
theorem dM_finish_71 : decode bM_finish 71 = .ok (.i2l, 1) := by decide +kernel
theorem dM_finish_72 : decode bM_finish 72 = .ok (.lmul, 1) := by decide +kernel
theorem dM_finish_73 : decode bM_finish 73 = .ok (.ladd, 1) := by decide +kernel
theorem dM_finish_74 : decode bM_finish 74 = .ok (.invokevirtual 114, 3) := by decide +kernel
theorem dM_finish_77 : decode bM_finish 77 = .ok (.aload_n 0, 1) := by decide +kernel
theorem dM_finish_78 : decode bM_finish 78 = .ok (.getfield 59, 3) := by decide +kernel
theorem dM_finish_81 : decode bM_finish 81 = .ok (.iload_n 2, 1) := by decide +kernel
theorem dM_finish_82 : decode bM_finish 82 = .ok (.aload_n 0, 1) := by decide +kernel
theorem dM_finish_83 : decode bM_finish 83 = .ok (.getfield 26, 3) := by decide +kernel
theorem dM_finish_86 : decode bM_finish 86 = .ok (.iload_n 1, 1) := by decide +kernel
theorem dM_finish_87 : decode bM_finish 87 = .ok (.iaload, 1) := by decide +kernel
theorem dM_finish_88 : decode bM_finish 88 = .ok (.iconst 1, 1) := by decide +kernel
theorem dM_finish_89 : decode bM_finish 89 = .ok (.iadd, 1) := by decide +kernel
theorem dM_finish_90 : decode bM_finish 90 = .ok (.iastore, 1) := by decide +kernel
theorem dM_finish_91 : decode bM_finish 91 = .ok (.aload_n 0, 1) := by decide +kernel
theorem dM_finish_92 : decode bM_finish 92 = .ok (.getfield 26, 3) := by decide +kernel
theorem dM_finish_95 : decode bM_finish 95 = .ok (.iload_n 1, 1) := by decide +kernel
theorem dM_finish_96 : decode bM_finish 96 = .ok (.dup2, 1) := by decide +kernel
theorem dM_finish_97 : decode bM_finish 97 = .ok (.iaload, 1) := by decide +kernel
theorem dM_finish_98 : decode bM_finish 98 = .ok (.iconst 1, 1) := by decide +kernel
theorem dM_finish_99 : decode bM_finish 99 = .ok (.iadd, 1) := by decide +kernel
theorem dM_finish_100 : decode bM_finish 100 = .ok (.iastore, 1) := by decide +kernel
theorem dM_finish_101 : decode bM_finish 101 = .ok (.aload_n 0, 1) := by decide +kernel
theorem dM_finish_102 : decode bM_finish 102 = .ok (.getfield 29, 3) := by decide +kernel
theorem dM_finish_105 : decode bM_finish 105 = .ok (.iload_n 1, 1) := by decide +kernel
theorem dM_finish_106 : decode bM_finish 106 = .ok (.dup2, 1) := by decide +kernel
theorem dM_finish_107 : decode bM_finish 107 = .ok (.iaload, 1) := by decide +kernel
theorem dM_finish_108 : decode bM_finish 108 = .ok (.aload_n 0, 1) := by decide +kernel
theorem dM_finish_109 : decode bM_finish 109 = .ok (.getfield 50, 3) := by decide +kernel
theorem dM_finish_112 : decode bM_finish 112 = .ok (.iload_n 2, 1) := by decide +kernel
theorem dM_finish_113 : decode bM_finish 113 = .ok (.iaload, 1) := by decide +kernel
theorem dM_finish_114 : decode bM_finish 114 = .ok (.iadd, 1) := by decide +kernel
theorem dM_finish_115 : decode bM_finish 115 = .ok (.iastore, 1) := by decide +kernel
theorem dM_finish_116 : decode bM_finish 116 = .ok (.aload_n 0, 1) := by decide +kernel
theorem dM_finish_117 : decode bM_finish 117 = .ok (.getfield 32, 3) := by decide +kernel
theorem dM_finish_120 : decode bM_finish 120 = .ok (.iload_n 1, 1) := by decide +kernel
theorem dM_finish_121 : decode bM_finish 121 = .ok (.iconst (-1), 1) := by decide +kernel
theorem dM_finish_122 : decode bM_finish 122 = .ok (.iastore, 1) := by decide +kernel
theorem dM_finish_123 : decode bM_finish 123 = .ok (.aload_n 0, 1) := by decide +kernel
theorem dM_finish_124 : decode bM_finish 124 = .ok (.getfield 23, 3) := by decide +kernel
theorem dM_finish_127 : decode bM_finish 127 = .ok (.iload_n 1, 1) := by decide +kernel
theorem dM_finish_128 : decode bM_finish 128 = .ok (.iconst 0, 1) := by decide +kernel
theorem dM_finish_129 : decode bM_finish 129 = .ok (.iastore, 1) := by decide +kernel
theorem dM_finish_130 : decode bM_finish 130 = .ok (.aload_n 0, 1) := by decide +kernel
theorem dM_finish_131 : decode bM_finish 131 = .ok (.getfield 41, 3) := by decide +kernel
theorem dM_finish_134 : decode bM_finish 134 = .ok (.iload_n 1, 1) := by decide +kernel
theorem dM_finish_135 : decode bM_finish 135 = .ok (.aload_n 0, 1) := by decide +kernel
theorem dM_finish_136 : decode bM_finish 136 = .ok (.getfield 134, 3) := by decide +kernel
theorem dM_finish_139 : decode bM_finish 139 = .ok (.iastore, 1) := by decide +kernel
theorem dM_finish_140 : decode bM_finish 140 = .ok (.aload_n 0, 1) := by decide +kernel
theorem dM_finish_141 : decode bM_finish 141 = .ok (.getfield 29, 3) := by decide +kernel
theorem dM_finish_144 : decode bM_finish 144 = .ok (.iload_n 1, 1) := by decide +kernel
theorem dM_finish_145 : decode bM_finish 145 = .ok (.iaload, 1) := by decide +kernel
theorem dM_finish_146 : decode bM_finish 146 = .ok (.aload_n 0, 1) := by decide +kernel
theorem dM_finish_147 : decode bM_finish 147 = .ok (.getfield 87, 3) := by decide +kernel
theorem dM_finish_150 : decode bM_finish 150 = .ok (.if_icmp .le 10, 3) := by decide +kernel
theorem dM_finish_153 : decode bM_finish 153 = .ok (.aload_n 0, 1) := by decide +kernel
theorem dM_finish_154 : decode bM_finish 154 = .ok (.iload_n 1, 1) := by decide +kernel
theorem dM_finish_155 : decode bM_finish 155 = .ok (.iconst 2, 1) := by decide +kernel
theorem dM_finish_156 : decode bM_finish 156 = .ok (.invokevirtual 137, 3) := by decide +kernel
theorem dM_finish_159 : decode bM_finish 159 = .ok (.istore_n 3, 1) := by decide +kernel
theorem dM_finish_160 : decode bM_finish 160 = .ok (.iload_n 2, 1) := by decide +kernel
theorem dM_finish_161 : decode bM_finish 161 = .ok (.ireturn, 1) := by decide +kernel
theorem dM_crash_0 : decode bM_crash 0 = .ok (.iload_n 1, 1) := by decide +kernel
theorem dM_crash_1 : decode bM_crash 1 = .ok (.aload_n 0, 1) := by decide +kernel
theorem dM_crash_2 : decode bM_crash 2 = .ok (.getfield 107, 3) := by decide +kernel
theorem dM_crash_5 : decode bM_crash 5 = .ok (.invokestatic 96, 3) := by decide +kernel
theorem dM_crash_8 : decode bM_crash 8 = .ok (.ifCond .eq 13, 3) := by decide +kernel
theorem dM_crash_11 : decode bM_crash 11 = .ok (.aload_n 0, 1) := by decide +kernel
theorem dM_crash_12 : decode bM_crash 12 = .ok (.getfield 23, 3) := by decide +kernel
theorem dM_crash_15 : decode bM_crash 15 = .ok (.iload_n 1, 1) := by decide +kernel
theorem dM_crash_16 : decode bM_crash 16 = .ok (.iaload, 1) := by decide +kernel
theorem dM_crash_17 : decode bM_crash 17 = .ok (.iconst 2, 1) := by decide +kernel
theorem dM_crash_18 : decode bM_crash 18 = .ok (.if_icmp .ne 5, 3) := by decide +kernel
theorem dM_crash_21 : decode bM_crash 21 = .ok (.iconst (-1), 1) := by decide +kernel
theorem dM_crash_22 : decode bM_crash 22 = .ok (.ireturn, 1) := by decide +kernel
theorem dM_crash_23 : decode bM_crash 23 = .ok (.aload_n 0, 1) := by decide +kernel
theorem dM_crash_24 : decode bM_crash 24 = .ok (.getfield 23, 3) := by decide +kernel
theorem dM_crash_27 : decode bM_crash 27 = .ok (.iload_n 1, 1) := by decide +kernel
theorem dM_crash_28 : decode bM_crash 28 = .ok (.iaload, 1) := by decide +kernel
theorem dM_crash_29 : decode bM_crash 29 = .ok (.iconst 1, 1) := by decide +kernel
theorem dM_crash_30 : decode bM_crash 30 = .ok (.if_icmp .ne 7, 3) := by decide +kernel
theorem dM_crash_33 : decode bM_crash 33 = .ok (.iconst 1, 1) := by decide +kernel
theorem dM_crash_34 : decode bM_crash 34 = .ok (.goto 4, 3) := by decide +kernel
theorem dM_crash_37 : decode bM_crash 37 = .ok (.iconst 0, 1) := by decide +kernel
theorem dM_crash_38 : decode bM_crash 38 = .ok (.istore_n 2, 1) := by decide +kernel
theorem dM_crash_39 : decode bM_crash 39 = .ok (.aload_n 0, 1) := by decide +kernel
theorem dM_crash_40 : decode bM_crash 40 = .ok (.iload_n 1, 1) := by decide +kernel
theorem dM_crash_41 : decode bM_crash 41 = .ok (.iconst 3, 1) := by decide +kernel
theorem dM_crash_42 : decode bM_crash 42 = .ok (.invokevirtual 137, 3) := by decide +kernel
theorem dM_crash_45 : decode bM_crash 45 = .ok (.istore_n 3, 1) := by decide +kernel
theorem dM_crash_46 : decode bM_crash 46 = .ok (.iload_n 2, 1) := by decide +kernel
theorem dM_crash_47 : decode bM_crash 47 = .ok (.ifCond .eq 32, 3) := by decide +kernel
theorem dM_crash_50 : decode bM_crash 50 = .ok (.aload_n 0, 1) := by decide +kernel
theorem dM_crash_51 : decode bM_crash 51 = .ok (.iload_n 3, 1) := by decide +kernel
theorem dM_crash_52 : decode bM_crash 52 = .ok (.invokevirtual 103, 3) := by decide +kernel
theorem dM_crash_55 : decode bM_crash 55 = .ok (.ifCond .ne 24, 3) := by decide +kernel
theorem dM_crash_58 : decode bM_crash 58 = .ok (.aload_n 0, 1) := by decide +kernel
theorem dM_crash_59 : decode bM_crash 59 = .ok (.iload_n 3, 1) := by decide +kernel
theorem dM_crash_60 : decode bM_crash 60 = .ok (.aload_n 0, 1) := by decide +kernel
theorem dM_crash_61 : decode bM_crash 61 = .ok (.aload_n 0, 1) := by decide +kernel
theorem dM_crash_62 : decode bM_crash 62 = .ok (.getfield 44, 3) := by decide +kernel
theorem dM_crash_65 : decode bM_crash 65 = .ok (.iload_n 1, 1) := by decide +kernel
theorem dM_crash_66 : decode bM_crash 66 = .ok (.laload, 1) := by decide +kernel
theorem dM_crash_67 : decode bM_crash 67 = .ok (.aload_n 0, 1) := by decide +kernel
theorem dM_crash_68 : decode bM_crash 68 = .ok (.getfield 72, 3) := by decide +kernel
theorem dM_crash_71 : decode bM_crash 71 = .ok (.iload_n 3, 1) := by decide +kernel
theorem dM_crash_72 : decode bM_crash 72 = .ok (.laload, 1) := by decide +kernel
theorem dM_crash_73 : decode bM_crash 73 = .ok (.invokevirtual 110, 3) := by decide +kernel
theorem dM_crash_76 : decode bM_crash 76 = .ok (.invokevirtual 114, 3) := by decide +kernel
theorem dM_crash_79 : decode bM_crash 79 = .ok (.iconst 1, 1) := by decide +kernel
theorem dM_crash_80 : decode bM_crash 80 = .ok (.ireturn, 1) := by decide +kernel
theorem dM_edition_0 : decode bM_edition 0 = .ok (.iload_n 1, 1) := by decide +kernel
theorem dM_edition_1 : decode bM_edition 1 = .ok (.aload_n 0, 1) := by decide +kernel
theorem dM_edition_2 : decode bM_edition 2 = .ok (.getfield 93, 3) := by decide +kernel
theorem dM_edition_5 : decode bM_edition 5 = .ok (.invokestatic 96, 3) := by decide +kernel
theorem dM_edition_8 : decode bM_edition 8 = .ok (.ifCond .ne 5, 3) := by decide +kernel
theorem dM_edition_11 : decode bM_edition 11 = .ok (.iconst (-1), 1) := by decide +kernel
theorem dM_edition_12 : decode bM_edition 12 = .ok (.ireturn, 1) := by decide +kernel
theorem dM_edition_13 : decode bM_edition 13 = .ok (.aload_n 0, 1) := by decide +kernel
theorem dM_edition_14 : decode bM_edition 14 = .ok (.getfield 7, 3) := by decide +kernel
theorem dM_edition_17 : decode bM_edition 17 = .ok (.iload_n 1, 1) := by decide +kernel
theorem dM_edition_18 : decode bM_edition 18 = .ok (.lload_n 2, 1) := by decide +kernel
theorem dM_edition_19 : decode bM_edition 19 = .ok (.lastore, 1) := by decide +kernel
theorem dM_edition_20 : decode bM_edition 20 = .ok (.iconst 0, 1) := by decide +kernel
theorem dM_edition_21 : decode bM_edition 21 = .ok (.istore 4, 2) := by decide +kernel
theorem dM_edition_23 : decode bM_edition 23 = .ok (.iconst 0, 1) := by decide +kernel
theorem dM_edition_24 : decode bM_edition 24 = .ok (.istore 5, 2) := by decide +kernel
theorem dM_edition_26 : decode bM_edition 26 = .ok (.iload 5, 2) := by decide +kernel
theorem dM_edition_28 : decode bM_edition 28 = .ok (.aload_n 0, 1) := by decide +kernel
theorem dM_edition_29 : decode bM_edition 29 = .ok (.getfield 107, 3) := by decide +kernel
theorem dM_edition_32 : decode bM_edition 32 = .ok (.if_icmp .ge 72, 3) := by decide +kernel
theorem dM_edition_35 : decode bM_edition 35 = .ok (.aload_n 0, 1) := by decide +kernel
theorem dM_edition_36 : decode bM_edition 36 = .ok (.getfield 20, 3) := by decide +kernel
theorem dM_edition_39 : decode bM_edition 39 = .ok (.iload 5, 2) := by decide +kernel
theorem dM_edition_41 : decode bM_edition 41 = .ok (.iaload, 1) := by decide +kernel
theorem dM_edition_42 : decode bM_edition 42 = .ok (.iload_n 1, 1) := by decide +kernel
theorem dM_edition_43 : decode bM_edition 43 = .ok (.if_icmp .ne 55, 3) := by decide +kernel
theorem dM_edition_46 : decode bM_edition 46 = .ok (.aload_n 0, 1) := by decide +kernel
theorem dM_edition_47 : decode bM_edition 47 = .ok (.getfield 23, 3) := by decide +kernel
theorem dM_edition_50 : decode bM_edition 50 = .ok (.iload 5, 2) := by decide +kernel
theorem dM_edition_52 : decode bM_edition 52 = .ok (.iaload, 1) := by decide +kernel
theorem dM_edition_53 : decode bM_edition 53 = .ok (.iconst 2, 1) := by decide +kernel
theorem dM_edition_54 : decode bM_edition 54 = .ok (.if_icmp .eq 44, 3) := by decide +kernel
theorem dM_edition_57 : decode bM_edition 57 = .ok (.aload_n 0, 1) := by decide +kernel
theorem dM_edition_58 : decode bM_edition 58 = .ok (.getfield 23, 3) := by decide +kernel
theorem dM_edition_61 : decode bM_edition 61 = .ok (.iload 5, 2) := by decide +kernel
theorem dM_edition_63 : decode bM_edition 63 = .ok (.iaload, 1) := by decide +kernel
theorem dM_edition_64 : decode bM_edition 64 = .ok (.iconst 1, 1) := by decide +kernel
theorem dM_edition_65 : decode bM_edition 65 = .ok (.if_icmp .ne 7, 3) := by decide +kernel
theorem dM_edition_68 : decode bM_edition 68 = .ok (.iconst 1, 1) := by decide +kernel
theorem dM_edition_69 : decode bM_edition 69 = .ok (.goto 4, 3) := by decide +kernel
theorem dM_edition_72 : decode bM_edition 72 = .ok (.iconst 0, 1) := by decide +kernel
theorem dM_edition_73 : decode bM_edition 73 = .ok (.istore 6, 2) := by decide +kernel
theorem dM_edition_75 : decode bM_edition 75 = .ok (.aload_n 0, 1) := by decide +kernel
theorem dM_edition_76 : decode bM_edition 76 = .ok (.iload 5, 2) := by decide +kernel
theorem dM_edition_78 : decode bM_edition 78 = .ok (.iconst 1, 1) := by decide +kernel
theorem dM_edition_79 : decode bM_edition 79 = .ok (.invokevirtual 137, 3) := by decide +kernel
theorem dM_edition_82 : decode bM_edition 82 = .ok (.istore 7, 2) := by decide +kernel
theorem dM_edition_84 : decode bM_edition 84 = .ok (.iload 6, 2) := by decide +kernel
theorem dM_edition_86 : decode bM_edition 86 = .ok (.ifCond .eq 9, 3) := by decide +kernel
theorem dM_edition_89 : decode bM_edition 89 = .ok (.aload_n 0, 1) := by decide +kernel
theorem dM_edition_90 : decode bM_edition 90 = .ok (.iload 7, 2) := by decide +kernel
theorem dM_edition_92 : decode bM_edition 92 = .ok (.invokevirtual 141, 3) := by decide +kernel
theorem dM_edition_95 : decode bM_edition 95 = .ok (.iinc 4 1, 3) := by decide +kernel
theorem dM_edition_98 : decode bM_edition 98 = .ok (.iinc 5 1, 3) := by decide +kernel
theorem dM_edition_101 : decode bM_edition 101 = .ok (.goto (-75), 3) := by decide +kernel
theorem dM_edition_104 : decode bM_edition 104 = .ok (.iload 4, 2) := by decide +kernel
theorem dM_edition_106 : decode bM_edition 106 = .ok (.ireturn, 1) := by decide +kernel
theorem dM_tick_0 : decode bM_tick 0 = .ok (.iload_n 1, 1) := by decide +kernel
theorem dM_tick_1 : decode bM_tick 1 = .ok (.ifCond .lt 21, 3) := by decide +kernel
theorem dM_tick_4 : decode bM_tick 4 = .ok (.iload_n 1, 1) := by decide +kernel
theorem dM_tick_5 : decode bM_tick 5 = .ok (.sipush 10000, 3) := by decide +kernel
theorem dM_tick_8 : decode bM_tick 8 = .ok (.if_icmp .gt 14, 3) := by decide +kernel
theorem dM_tick_11 : decode bM_tick 11 = .ok (.aload_n 0, 1) := by decide +kernel
theorem dM_tick_12 : decode bM_tick 12 = .ok (.getfield 134, 3) := by decide +kernel
theorem dM_tick_15 : decode bM_tick 15 = .ok (.iload_n 1, 1) := by decide +kernel
theorem dM_tick_16 : decode bM_tick 16 = .ok (.iadd, 1) := by decide +kernel
theorem dM_tick_17 : decode bM_tick 17 = .ok (.ldc 145, 2) := by decide +kernel
theorem dM_tick_19 : decode bM_tick 19 = .ok (.if_icmp .le 5, 3) := by decide +kernel
theorem dM_tick_22 : decode bM_tick 22 = .ok (.iconst (-1), 1) := by decide +kernel
theorem dM_tick_23 : decode bM_tick 23 = .ok (.ireturn, 1) := by decide +kernel
theorem dM_tick_24 : decode bM_tick 24 = .ok (.aload_n 0, 1) := by decide +kernel
theorem dM_tick_25 : decode bM_tick 25 = .ok (.dup, 1) := by decide +kernel
theorem dM_tick_26 : decode bM_tick 26 = .ok (.getfield 134, 3) := by decide +kernel
theorem dM_tick_29 : decode bM_tick 29 = .ok (.iload_n 1, 1) := by decide +kernel
theorem dM_tick_30 : decode bM_tick 30 = .ok (.iadd, 1) := by decide +kernel
theorem dM_tick_31 : decode bM_tick 31 = .ok (.putfield 134, 3) := by decide +kernel
theorem dM_tick_34 : decode bM_tick 34 = .ok (.iconst 0, 1) := by decide +kernel
theorem dM_tick_35 : decode bM_tick 35 = .ok (.istore_n 2, 1) := by decide +kernel
theorem dM_tick_36 : decode bM_tick 36 = .ok (.iconst 0, 1) := by decide +kernel
theorem dM_tick_37 : decode bM_tick 37 = .ok (.istore_n 3, 1) := by decide +kernel
theorem dM_tick_38 : decode bM_tick 38 = .ok (.iload_n 3, 1) := by decide +kernel
theorem dM_tick_39 : decode bM_tick 39 = .ok (.aload_n 0, 1) := by decide +kernel
theorem dM_tick_40 : decode bM_tick 40 = .ok (.getfield 107, 3) := by decide +kernel
theorem dM_tick_43 : decode bM_tick 43 = .ok (.if_icmp .ge 47, 3) := by decide +kernel
theorem dM_tick_46 : decode bM_tick 46 = .ok (.aload_n 0, 1) := by decide +kernel
theorem dM_tick_47 : decode bM_tick 47 = .ok (.getfield 23, 3) := by decide +kernel
theorem dM_tick_50 : decode bM_tick 50 = .ok (.iload_n 3, 1) := by decide +kernel
theorem dM_tick_51 : decode bM_tick 51 = .ok (.iaload, 1) := by decide +kernel
theorem dM_tick_52 : decode bM_tick 52 = .ok (.ifCond .ne 32, 3) := by decide +kernel
theorem dM_tick_55 : decode bM_tick 55 = .ok (.aload_n 0, 1) := by decide +kernel
theorem dM_tick_56 : decode bM_tick 56 = .ok (.getfield 134, 3) := by decide +kernel
theorem dM_tick_59 : decode bM_tick 59 = .ok (.aload_n 0, 1) := by decide +kernel
theorem dM_tick_60 : decode bM_tick 60 = .ok (.getfield 41, 3) := by decide +kernel
theorem dM_tick_63 : decode bM_tick 63 = .ok (.iload_n 3, 1) := by decide +kernel
theorem dM_tick_64 : decode bM_tick 64 = .ok (.iaload, 1) := by decide +kernel
theorem dM_tick_65 : decode bM_tick 65 = .ok (.isub, 1) := by decide +kernel
theorem dM_tick_66 : decode bM_tick 66 = .ok (.aload_n 0, 1) := by decide +kernel
theorem dM_tick_67 : decode bM_tick 67 = .ok (.getfield 90, 3) := by decide +kernel
theorem dM_tick_70 : decode bM_tick 70 = .ok (.if_icmp .lt 14, 3) := by decide +kernel
theorem dM_tick_73 : decode bM_tick 73 = .ok (.aload_n 0, 1) := by decide +kernel
theorem dM_tick_74 : decode bM_tick 74 = .ok (.iload_n 3, 1) := by decide +kernel
theorem dM_tick_75 : decode bM_tick 75 = .ok (.iconst 4, 1) := by decide +kernel
theorem dM_tick_76 : decode bM_tick 76 = .ok (.invokevirtual 137, 3) := by decide +kernel
theorem dM_tick_79 : decode bM_tick 79 = .ok (.istore 4, 2) := by decide +kernel
theorem dM_tick_81 : decode bM_tick 81 = .ok (.iinc 2 1, 3) := by decide +kernel
theorem dM_tick_84 : decode bM_tick 84 = .ok (.iinc 3 1, 3) := by decide +kernel
theorem dM_tick_87 : decode bM_tick 87 = .ok (.goto (-49), 3) := by decide +kernel
theorem dM_tick_90 : decode bM_tick 90 = .ok (.iload_n 2, 1) := by decide +kernel
theorem dM_tick_91 : decode bM_tick 91 = .ok (.ireturn, 1) := by decide +kernel
theorem dM_isDoneBy_0 : decode bM_isDoneBy 0 = .ok (.aload_n 0, 1) := by decide +kernel
theorem dM_isDoneBy_1 : decode bM_isDoneBy 1 = .ok (.getfield 53, 3) := by decide +kernel
theorem dM_isDoneBy_4 : decode bM_isDoneBy 4 = .ok (.iload_n 1, 1) := by decide +kernel
theorem dM_isDoneBy_5 : decode bM_isDoneBy 5 = .ok (.iaload, 1) := by decide +kernel
theorem dM_isDoneBy_6 : decode bM_isDoneBy 6 = .ok (.iconst 2, 1) := by decide +kernel
theorem dM_isDoneBy_7 : decode bM_isDoneBy 7 = .ok (.if_icmp .ne 17, 3) := by decide +kernel
theorem dM_isDoneBy_10 : decode bM_isDoneBy 10 = .ok (.aload_n 0, 1) := by decide +kernel
theorem dM_isDoneBy_11 : decode bM_isDoneBy 11 = .ok (.getfield 56, 3) := by decide +kernel
theorem dM_isDoneBy_14 : decode bM_isDoneBy 14 = .ok (.iload_n 1, 1) := by decide +kernel
theorem dM_isDoneBy_15 : decode bM_isDoneBy 15 = .ok (.iaload, 1) := by decide +kernel
theorem dM_isDoneBy_16 : decode bM_isDoneBy 16 = .ok (.iload_n 2, 1) := by decide +kernel
theorem dM_isDoneBy_17 : decode bM_isDoneBy 17 = .ok (.if_icmp .ne 7, 3) := by decide +kernel
theorem dM_isDoneBy_20 : decode bM_isDoneBy 20 = .ok (.iconst 1, 1) := by decide +kernel
theorem dM_isDoneBy_21 : decode bM_isDoneBy 21 = .ok (.goto 4, 3) := by decide +kernel
theorem dM_isDoneBy_24 : decode bM_isDoneBy 24 = .ok (.iconst 0, 1) := by decide +kernel
theorem dM_isDoneBy_25 : decode bM_isDoneBy 25 = .ok (.ireturn, 1) := by decide +kernel
theorem dM_sample_0 : decode bM_sample 0 = .ok (.iload_n 1, 1) := by decide +kernel
theorem dM_sample_1 : decode bM_sample 1 = .ok (.aload_n 0, 1) := by decide +kernel
theorem dM_sample_2 : decode bM_sample 2 = .ok (.getfield 100, 3) := by decide +kernel
theorem dM_sample_5 : decode bM_sample 5 = .ok (.invokestatic 96, 3) := by decide +kernel
theorem dM_sample_8 : decode bM_sample 8 = .ok (.ifCond .eq 23, 3) := by decide +kernel
theorem dM_sample_11 : decode bM_sample 11 = .ok (.aload_n 0, 1) := by decide +kernel
theorem dM_sample_12 : decode bM_sample 12 = .ok (.getfield 53, 3) := by decide +kernel
theorem dM_sample_15 : decode bM_sample 15 = .ok (.iload_n 1, 1) := by decide +kernel
theorem dM_sample_16 : decode bM_sample 16 = .ok (.iaload, 1) := by decide +kernel
theorem dM_sample_17 : decode bM_sample 17 = .ok (.iconst 2, 1) := by decide +kernel
theorem dM_sample_18 : decode bM_sample 18 = .ok (.if_icmp .ne 13, 3) := by decide +kernel
theorem dM_sample_21 : decode bM_sample 21 = .ok (.aload_n 0, 1) := by decide +kernel
theorem dM_sample_22 : decode bM_sample 22 = .ok (.getfield 56, 3) := by decide +kernel
theorem dM_sample_25 : decode bM_sample 25 = .ok (.iload_n 1, 1) := by decide +kernel
theorem dM_sample_26 : decode bM_sample 26 = .ok (.iaload, 1) := by decide +kernel
theorem dM_sample_27 : decode bM_sample 27 = .ok (.iconst (-1), 1) := by decide +kernel
theorem dM_sample_28 : decode bM_sample 28 = .ok (.if_icmp .ne 5, 3) := by decide +kernel
theorem dM_sample_31 : decode bM_sample 31 = .ok (.iconst (-1), 1) := by decide +kernel
theorem dM_sample_32 : decode bM_sample 32 = .ok (.ireturn, 1) := by decide +kernel
theorem dM_sample_33 : decode bM_sample 33 = .ok (.aload_n 0, 1) := by decide +kernel
theorem dM_sample_34 : decode bM_sample 34 = .ok (.getfield 56, 3) := by decide +kernel
theorem dM_sample_37 : decode bM_sample 37 = .ok (.iload_n 1, 1) := by decide +kernel
theorem dM_sample_38 : decode bM_sample 38 = .ok (.iaload, 1) := by decide +kernel
theorem dM_sample_39 : decode bM_sample 39 = .ok (.istore_n 2, 1) := by decide +kernel
theorem dM_sample_40 : decode bM_sample 40 = .ok (.aload_n 0, 1) := by decide +kernel
theorem dM_sample_41 : decode bM_sample 41 = .ok (.getfield 75, 3) := by decide +kernel
theorem dM_sample_44 : decode bM_sample 44 = .ok (.iload_n 1, 1) := by decide +kernel
theorem dM_sample_45 : decode bM_sample 45 = .ok (.laload, 1) := by decide +kernel
theorem dM_sample_46 : decode bM_sample 46 = .ok (.aload_n 0, 1) := by decide +kernel
theorem dM_sample_47 : decode bM_sample 47 = .ok (.aload_n 0, 1) := by decide +kernel
theorem dM_sample_48 : decode bM_sample 48 = .ok (.getfield 44, 3) := by decide +kernel
theorem dM_sample_51 : decode bM_sample 51 = .ok (.iload_n 2, 1) := by decide +kernel
theorem dM_sample_52 : decode bM_sample 52 = .ok (.laload, 1) := by decide +kernel
theorem dM_sample_53 : decode bM_sample 53 = .ok (.aload_n 0, 1) := by decide +kernel
theorem dM_sample_54 : decode bM_sample 54 = .ok (.getfield 72, 3) := by decide +kernel
theorem dM_sample_57 : decode bM_sample 57 = .ok (.iload_n 1, 1) := by decide +kernel
theorem dM_sample_58 : decode bM_sample 58 = .ok (.laload, 1) := by decide +kernel
theorem dM_sample_59 : decode bM_sample 59 = .ok (.invokevirtual 110, 3) := by decide +kernel
theorem dM_sample_62 : decode bM_sample 62 = .ok (.lcmp, 1) := by decide +kernel
theorem dM_sample_63 : decode bM_sample 63 = .ok (.ifCond .ne 41, 3) := by decide +kernel
theorem dM_sample_66 : decode bM_sample 66 = .ok (.aload_n 0, 1) := by decide +kernel
theorem dM_sample_67 : decode bM_sample 67 = .ok (.getfield 38, 3) := by decide +kernel
theorem dM_sample_70 : decode bM_sample 70 = .ok (.iload_n 2, 1) := by decide +kernel
theorem dM_sample_71 : decode bM_sample 71 = .ok (.aload_n 0, 1) := by decide +kernel
theorem dM_sample_72 : decode bM_sample 72 = .ok (.getfield 59, 3) := by decide +kernel
theorem dM_sample_75 : decode bM_sample 75 = .ok (.iload_n 1, 1) := by decide +kernel
theorem dM_sample_76 : decode bM_sample 76 = .ok (.iaload, 1) := by decide +kernel
theorem dM_sample_77 : decode bM_sample 77 = .ok (.aload_n 0, 1) := by decide +kernel
theorem dM_sample_78 : decode bM_sample 78 = .ok (.getfield 38, 3) := by decide +kernel
theorem dM_sample_81 : decode bM_sample 81 = .ok (.iload_n 2, 1) := by decide +kernel
theorem dM_sample_82 : decode bM_sample 82 = .ok (.iaload, 1) := by decide +kernel
theorem dM_sample_83 : decode bM_sample 83 = .ok (.if_icmp .le 12, 3) := by decide +kernel
theorem dM_sample_86 : decode bM_sample 86 = .ok (.aload_n 0, 1) := by decide +kernel
theorem dM_sample_87 : decode bM_sample 87 = .ok (.getfield 59, 3) := by decide +kernel
theorem dM_sample_90 : decode bM_sample 90 = .ok (.iload_n 1, 1) := by decide +kernel
theorem dM_sample_91 : decode bM_sample 91 = .ok (.iaload, 1) := by decide +kernel
theorem dM_sample_92 : decode bM_sample 92 = .ok (.goto 9, 3) := by decide +kernel
theorem dM_sample_95 : decode bM_sample 95 = .ok (.aload_n 0, 1) := by decide +kernel
theorem dM_sample_96 : decode bM_sample 96 = .ok (.getfield 38, 3) := by decide +kernel
theorem dM_sample_99 : decode bM_sample 99 = .ok (.iload_n 2, 1) := by decide +kernel
theorem dM_sample_100 : decode bM_sample 100 = .ok (.iaload, 1) := by decide +kernel
theorem dM_sample_101 : decode bM_sample 101 = .ok (.iastore, 1) := by decide +kernel
theorem dM_sample_102 : decode bM_sample 102 = .ok (.iconst 0, 1) := by decide +kernel
theorem dM_sample_103 : decode bM_sample 103 = .ok (.ireturn, 1) := by decide +kernel
theorem dM_sample_104 : decode bM_sample 104 = .ok (.iconst 0, 1) := by decide +kernel
theorem dM_sample_105 : decode bM_sample 105 = .ok (.istore_n 3, 1) := by decide +kernel
theorem dM_sample_106 : decode bM_sample 106 = .ok (.iconst 0, 1) := by decide +kernel
theorem dM_sample_107 : decode bM_sample 107 = .ok (.istore 4, 2) := by decide +kernel
theorem dM_sample_109 : decode bM_sample 109 = .ok (.iload 4, 2) := by decide +kernel
theorem dM_sample_111 : decode bM_sample 111 = .ok (.aload_n 0, 1) := by decide +kernel
theorem dM_sample_112 : decode bM_sample 112 = .ok (.getfield 100, 3) := by decide +kernel
theorem dM_sample_115 : decode bM_sample 115 = .ok (.if_icmp .ge 84, 3) := by decide +kernel
theorem dM_sample_118 : decode bM_sample 118 = .ok (.aload_n 0, 1) := by decide +kernel
theorem dM_sample_119 : decode bM_sample 119 = .ok (.iload 4, 2) := by decide +kernel
theorem dM_sample_121 : decode bM_sample 121 = .ok (.iload_n 2, 1) := by decide +kernel
theorem dM_sample_122 : decode bM_sample 122 = .ok (.invokevirtual 146, 3) := by decide +kernel
theorem dM_sample_125 : decode bM_sample 125 = .ok (.ifCond .eq 68, 3) := by decide +kernel
theorem dM_sample_128 : decode bM_sample 128 = .ok (.iload 4, 2) := by decide +kernel
theorem dM_sample_130 : decode bM_sample 130 = .ok (.iload_n 1, 1) := by decide +kernel
theorem dM_sample_131 : decode bM_sample 131 = .ok (.if_icmp .eq 19, 3) := by decide +kernel
theorem dM_sample_134 : decode bM_sample 134 = .ok (.aload_n 0, 1) := by decide +kernel
theorem dM_sample_135 : decode bM_sample 135 = .ok (.getfield 59, 3) := by decide +kernel
theorem dM_sample_138 : decode bM_sample 138 = .ok (.iload 4, 2) := by decide +kernel
theorem dM_sample_140 : decode bM_sample 140 = .ok (.iaload, 1) := by decide +kernel
theorem dM_sample_141 : decode bM_sample 141 = .ok (.aload_n 0, 1) := by decide +kernel
theorem dM_sample_142 : decode bM_sample 142 = .ok (.getfield 38, 3) := by decide +kernel
theorem dM_sample_145 : decode bM_sample 145 = .ok (.iload_n 2, 1) := by decide +kernel
theorem dM_sample_146 : decode bM_sample 146 = .ok (.iaload, 1) := by decide +kernel
theorem dM_sample_147 : decode bM_sample 147 = .ok (.if_icmp .le 46, 3) := by decide +kernel
theorem dM_sample_150 : decode bM_sample 150 = .ok (.aload_n 0, 1) := by decide +kernel
theorem dM_sample_151 : decode bM_sample 151 = .ok (.getfield 75, 3) := by decide +kernel
theorem dM_sample_154 : decode bM_sample 154 = .ok (.iload 4, 2) := by decide +kernel
theorem dM_sample_156 : decode bM_sample 156 = .ok (.aload_n 0, 1) := by decide +kernel
theorem dM_sample_157 : decode bM_sample 157 = .ok (.aload_n 0, 1) := by decide +kernel
theorem dM_sample_158 : decode bM_sample 158 = .ok (.getfield 44, 3) := by decide +kernel
theorem dM_sample_161 : decode bM_sample 161 = .ok (.iload_n 2, 1) := by decide +kernel
theorem dM_sample_162 : decode bM_sample 162 = .ok (.laload, 1) := by decide +kernel
theorem dM_sample_163 : decode bM_sample 163 = .ok (.aload_n 0, 1) := by decide +kernel
theorem dM_sample_164 : decode bM_sample 164 = .ok (.getfield 72, 3) := by decide +kernel
theorem dM_sample_167 : decode bM_sample 167 = .ok (.iload 4, 2) := by decide +kernel
theorem dM_sample_169 : decode bM_sample 169 = .ok (.laload, 1) := by decide +kernel
theorem dM_sample_170 : decode bM_sample 170 = .ok (.invokevirtual 110, 3) := by decide +kernel
theorem dM_sample_173 : decode bM_sample 173 = .ok (.lastore, 1) := by decide +kernel
theorem dM_sample_174 : decode bM_sample 174 = .ok (.aload_n 0, 1) := by decide +kernel
theorem dM_sample_175 : decode bM_sample 175 = .ok (.getfield 56, 3) := by decide +kernel
theorem dM_sample_178 : decode bM_sample 178 = .ok (.iload 4, 2) := by decide +kernel
theorem dM_sample_180 : decode bM_sample 180 = .ok (.iconst (-1), 1) := by decide +kernel
theorem dM_sample_181 : decode bM_sample 181 = .ok (.iastore, 1) := by decide +kernel
theorem dM_sample_182 : decode bM_sample 182 = .ok (.aload_n 0, 1) := by decide +kernel
theorem dM_sample_183 : decode bM_sample 183 = .ok (.getfield 69, 3) := by decide +kernel
theorem dM_sample_186 : decode bM_sample 186 = .ok (.iload 4, 2) := by decide +kernel
theorem dM_sample_188 : decode bM_sample 188 = .ok (.iconst 1, 1) := by decide +kernel
theorem dM_sample_189 : decode bM_sample 189 = .ok (.bastore, 1) := by decide +kernel
theorem dM_sample_190 : decode bM_sample 190 = .ok (.iinc 3 1, 3) := by decide +kernel
theorem dM_sample_193 : decode bM_sample 193 = .ok (.iinc 4 1, 3) := by decide +kernel
theorem dM_sample_196 : decode bM_sample 196 = .ok (.goto (-87), 3) := by decide +kernel
theorem dM_sample_199 : decode bM_sample 199 = .ok (.aload_n 0, 1) := by decide +kernel
theorem dM_sample_200 : decode bM_sample 200 = .ok (.getfield 23, 3) := by decide +kernel
theorem dM_sample_203 : decode bM_sample 203 = .ok (.iload_n 2, 1) := by decide +kernel
theorem dM_sample_204 : decode bM_sample 204 = .ok (.iaload, 1) := by decide +kernel
theorem dM_sample_205 : decode bM_sample 205 = .ok (.iconst 2, 1) := by decide +kernel
theorem dM_sample_206 : decode bM_sample 206 = .ok (.if_icmp .eq 39, 3) := by decide +kernel
theorem dM_sample_209 : decode bM_sample 209 = .ok (.aload_n 0, 1) := by decide +kernel
theorem dM_sample_210 : decode bM_sample 210 = .ok (.getfield 23, 3) := by decide +kernel
theorem dM_sample_213 : decode bM_sample 213 = .ok (.iload_n 2, 1) := by decide +kernel
theorem dM_sample_214 : decode bM_sample 214 = .ok (.iaload, 1) := by decide +kernel
theorem dM_sample_215 : decode bM_sample 215 = .ok (.iconst 1, 1) := by decide +kernel
theorem dM_sample_216 : decode bM_sample 216 = .ok (.if_icmp .ne 7, 3) := by decide +kernel
theorem dM_sample_219 : decode bM_sample 219 = .ok (.iconst 1, 1) := by decide +kernel
theorem dM_sample_220 : decode bM_sample 220 = .ok (.goto 4, 3) := by decide +kernel
theorem dM_sample_223 : decode bM_sample 223 = .ok (.iconst 0, 1) := by decide +kernel
theorem dM_sample_224 : decode bM_sample 224 = .ok (.istore 4, 2) := by decide +kernel
theorem dM_sample_226 : decode bM_sample 226 = .ok (.aload_n 0, 1) := by decide +kernel
theorem dM_sample_227 : decode bM_sample 227 = .ok (.iload_n 2, 1) := by decide +kernel
theorem dM_sample_228 : decode bM_sample 228 = .ok (.iconst 5, 1) := by decide +kernel
theorem dM_sample_229 : decode bM_sample 229 = .ok (.invokevirtual 137, 3) := by decide +kernel
theorem dM_sample_232 : decode bM_sample 232 = .ok (.istore 5, 2) := by decide +kernel
theorem dM_sample_234 : decode bM_sample 234 = .ok (.iload 4, 2) := by decide +kernel
theorem dM_sample_236 : decode bM_sample 236 = .ok (.ifCond .eq 9, 3) := by decide +kernel
theorem dM_sample_239 : decode bM_sample 239 = .ok (.aload_n 0, 1) := by decide +kernel
theorem dM_sample_240 : decode bM_sample 240 = .ok (.iload 5, 2) := by decide +kernel
theorem dM_sample_242 : decode bM_sample 242 = .ok (.invokevirtual 141, 3) := by decide +kernel
theorem dM_sample_245 : decode bM_sample 245 = .ok (.aload_n 0, 1) := by decide +kernel
theorem dM_sample_246 : decode bM_sample 246 = .ok (.getfield 17, 3) := by decide +kernel
theorem dM_sample_249 : decode bM_sample 249 = .ok (.aload_n 0, 1) := by decide +kernel
theorem dM_sample_250 : decode bM_sample 250 = .ok (.getfield 20, 3) := by decide +kernel
theorem dM_sample_253 : decode bM_sample 253 = .ok (.iload_n 2, 1) := by decide +kernel
theorem dM_sample_254 : decode bM_sample 254 = .ok (.iaload, 1) := by decide +kernel
theorem dM_sample_255 : decode bM_sample 255 = .ok (.dup2, 1) := by decide +kernel
theorem dM_sample_256 : decode bM_sample 256 = .ok (.iaload, 1) := by decide +kernel
theorem dM_sample_257 : decode bM_sample 257 = .ok (.iconst 1, 1) := by decide +kernel
theorem dM_sample_258 : decode bM_sample 258 = .ok (.iadd, 1) := by decide +kernel
theorem dM_sample_259 : decode bM_sample 259 = .ok (.iastore, 1) := by decide +kernel
theorem dM_sample_260 : decode bM_sample 260 = .ok (.iload_n 3, 1) := by decide +kernel
theorem dM_sample_261 : decode bM_sample 261 = .ok (.ireturn, 1) := by decide +kernel
theorem dM_about_0 : decode bM_about 0 = .ok (.iload_n 1, 1) := by decide +kernel
theorem dM_about_1 : decode bM_about 1 = .ok (.aload_n 0, 1) := by decide +kernel
theorem dM_about_2 : decode bM_about 2 = .ok (.getfield 100, 3) := by decide +kernel
theorem dM_about_5 : decode bM_about 5 = .ok (.invokestatic 96, 3) := by decide +kernel
theorem dM_about_8 : decode bM_about 8 = .ok (.ifCond .ne 5, 3) := by decide +kernel
theorem dM_about_11 : decode bM_about 11 = .ok (.iconst (-1), 1) := by decide +kernel
theorem dM_about_12 : decode bM_about 12 = .ok (.ireturn, 1) := by decide +kernel
theorem dM_about_13 : decode bM_about 13 = .ok (.iload_n 2, 1) := by decide +kernel
theorem dM_about_14 : decode bM_about 14 = .ok (.tableswitch 85 0 4 #[34, 41, 48, 55, 70], 34) := by decide +kernel
theorem dM_about_48 : decode bM_about 48 = .ok (.aload_n 0, 1) := by decide +kernel
theorem dM_about_49 : decode bM_about 49 = .ok (.getfield 53, 3) := by decide +kernel
theorem dM_about_52 : decode bM_about 52 = .ok (.iload_n 1, 1) := by decide +kernel
theorem dM_about_53 : decode bM_about 53 = .ok (.iaload, 1) := by decide +kernel
theorem dM_about_54 : decode bM_about 54 = .ok (.ireturn, 1) := by decide +kernel
theorem dM_about_55 : decode bM_about 55 = .ok (.aload_n 0, 1) := by decide +kernel
theorem dM_about_56 : decode bM_about 56 = .ok (.getfield 56, 3) := by decide +kernel
theorem dM_about_59 : decode bM_about 59 = .ok (.iload_n 1, 1) := by decide +kernel
theorem dM_about_60 : decode bM_about 60 = .ok (.iaload, 1) := by decide +kernel
theorem dM_about_61 : decode bM_about 61 = .ok (.ireturn, 1) := by decide +kernel
theorem dM_about_62 : decode bM_about 62 = .ok (.aload_n 0, 1) := by decide +kernel
theorem dM_about_63 : decode bM_about 63 = .ok (.getfield 62, 3) := by decide +kernel
theorem dM_about_66 : decode bM_about 66 = .ok (.iload_n 1, 1) := by decide +kernel
theorem dM_about_67 : decode bM_about 67 = .ok (.iaload, 1) := by decide +kernel
theorem dM_about_68 : decode bM_about 68 = .ok (.ireturn, 1) := by decide +kernel
theorem dM_about_69 : decode bM_about 69 = .ok (.aload_n 0, 1) := by decide +kernel
theorem dM_about_70 : decode bM_about 70 = .ok (.getfield 65, 3) := by decide +kernel
theorem dM_about_73 : decode bM_about 73 = .ok (.iload_n 1, 1) := by decide +kernel
theorem dM_about_74 : decode bM_about 74 = .ok (.baload, 1) := by decide +kernel
theorem dM_about_75 : decode bM_about 75 = .ok (.ifCond .eq 7, 3) := by decide +kernel
theorem dM_about_78 : decode bM_about 78 = .ok (.iconst 1, 1) := by decide +kernel
theorem dM_about_79 : decode bM_about 79 = .ok (.goto 4, 3) := by decide +kernel
theorem dM_about_82 : decode bM_about 82 = .ok (.iconst 0, 1) := by decide +kernel
theorem dM_about_83 : decode bM_about 83 = .ok (.ireturn, 1) := by decide +kernel
theorem dM_about_84 : decode bM_about 84 = .ok (.aload_n 0, 1) := by decide +kernel
theorem dM_about_85 : decode bM_about 85 = .ok (.getfield 69, 3) := by decide +kernel
theorem dM_about_88 : decode bM_about 88 = .ok (.iload_n 1, 1) := by decide +kernel
theorem dM_about_89 : decode bM_about 89 = .ok (.baload, 1) := by decide +kernel
theorem dM_about_90 : decode bM_about 90 = .ok (.ifCond .eq 7, 3) := by decide +kernel
theorem dM_about_93 : decode bM_about 93 = .ok (.iconst 1, 1) := by decide +kernel
theorem dM_about_94 : decode bM_about 94 = .ok (.goto 4, 3) := by decide +kernel
theorem dM_about_97 : decode bM_about 97 = .ok (.iconst 0, 1) := by decide +kernel
theorem dM_about_98 : decode bM_about 98 = .ok (.ireturn, 1) := by decide +kernel
theorem dM_about_99 : decode bM_about 99 = .ok (.iconst (-1), 1) := by decide +kernel
theorem dM_about_100 : decode bM_about 100 = .ok (.ireturn, 1) := by decide +kernel
theorem dM_result_0 : decode bM_result 0 = .ok (.iload_n 1, 1) := by decide +kernel
theorem dM_result_1 : decode bM_result 1 = .ok (.aload_n 0, 1) := by decide +kernel
theorem dM_result_2 : decode bM_result 2 = .ok (.getfield 100, 3) := by decide +kernel
theorem dM_result_5 : decode bM_result 5 = .ok (.invokestatic 96, 3) := by decide +kernel
theorem dM_result_8 : decode bM_result 8 = .ok (.ifCond .eq 22, 3) := by decide +kernel
theorem dM_result_11 : decode bM_result 11 = .ok (.aload_n 0, 1) := by decide +kernel
theorem dM_result_12 : decode bM_result 12 = .ok (.getfield 53, 3) := by decide +kernel
theorem dM_result_15 : decode bM_result 15 = .ok (.iload_n 1, 1) := by decide +kernel
theorem dM_result_16 : decode bM_result 16 = .ok (.iaload, 1) := by decide +kernel
theorem dM_result_17 : decode bM_result 17 = .ok (.iconst 2, 1) := by decide +kernel
theorem dM_result_18 : decode bM_result 18 = .ok (.if_icmp .ne 12, 3) := by decide +kernel
theorem dM_result_21 : decode bM_result 21 = .ok (.aload_n 0, 1) := by decide +kernel
theorem dM_result_22 : decode bM_result 22 = .ok (.getfield 75, 3) := by decide +kernel
theorem dM_result_25 : decode bM_result 25 = .ok (.iload_n 1, 1) := by decide +kernel
theorem dM_result_26 : decode bM_result 26 = .ok (.laload, 1) := by decide +kernel
theorem dM_result_27 : decode bM_result 27 = .ok (.goto 4, 3) := by decide +kernel
theorem dM_result_30 : decode bM_result 30 = .ok (.lconst 0, 1) := by decide +kernel
theorem dM_result_31 : decode bM_result 31 = .ok (.lreturn, 1) := by decide +kernel
theorem dM_worker_0 : decode bM_worker 0 = .ok (.iload_n 1, 1) := by decide +kernel
theorem dM_worker_1 : decode bM_worker 1 = .ok (.aload_n 0, 1) := by decide +kernel
theorem dM_worker_2 : decode bM_worker 2 = .ok (.getfield 107, 3) := by decide +kernel
theorem dM_worker_5 : decode bM_worker 5 = .ok (.invokestatic 96, 3) := by decide +kernel
theorem dM_worker_8 : decode bM_worker 8 = .ok (.ifCond .ne 5, 3) := by decide +kernel
theorem dM_worker_11 : decode bM_worker 11 = .ok (.iconst (-1), 1) := by decide +kernel
theorem dM_worker_12 : decode bM_worker 12 = .ok (.ireturn, 1) := by decide +kernel
theorem dM_worker_13 : decode bM_worker 13 = .ok (.iload_n 2, 1) := by decide +kernel
theorem dM_worker_14 : decode bM_worker 14 = .ok (.tableswitch 105 0 6 #[42, 49, 56, 63, 70, 91, 98], 42) := by decide +kernel
theorem dM_worker_56 : decode bM_worker 56 = .ok (.aload_n 0, 1) := by decide +kernel
theorem dM_worker_57 : decode bM_worker 57 = .ok (.getfield 20, 3) := by decide +kernel
theorem dM_worker_60 : decode bM_worker 60 = .ok (.iload_n 1, 1) := by decide +kernel
theorem dM_worker_61 : decode bM_worker 61 = .ok (.iaload, 1) := by decide +kernel
theorem dM_worker_62 : decode bM_worker 62 = .ok (.ireturn, 1) := by decide +kernel
theorem dM_worker_63 : decode bM_worker 63 = .ok (.aload_n 0, 1) := by decide +kernel
theorem dM_worker_64 : decode bM_worker 64 = .ok (.getfield 23, 3) := by decide +kernel
theorem dM_worker_67 : decode bM_worker 67 = .ok (.iload_n 1, 1) := by decide +kernel
theorem dM_worker_68 : decode bM_worker 68 = .ok (.iaload, 1) := by decide +kernel
theorem dM_worker_69 : decode bM_worker 69 = .ok (.ireturn, 1) := by decide +kernel
theorem dM_worker_70 : decode bM_worker 70 = .ok (.aload_n 0, 1) := by decide +kernel
theorem dM_worker_71 : decode bM_worker 71 = .ok (.getfield 26, 3) := by decide +kernel
theorem dM_worker_74 : decode bM_worker 74 = .ok (.iload_n 1, 1) := by decide +kernel
theorem dM_worker_75 : decode bM_worker 75 = .ok (.iaload, 1) := by decide +kernel
theorem dM_worker_76 : decode bM_worker 76 = .ok (.ireturn, 1) := by decide +kernel
theorem dM_worker_77 : decode bM_worker 77 = .ok (.aload_n 0, 1) := by decide +kernel
theorem dM_worker_78 : decode bM_worker 78 = .ok (.getfield 29, 3) := by decide +kernel
theorem dM_worker_81 : decode bM_worker 81 = .ok (.iload_n 1, 1) := by decide +kernel
theorem dM_worker_82 : decode bM_worker 82 = .ok (.iaload, 1) := by decide +kernel
theorem dM_worker_83 : decode bM_worker 83 = .ok (.ireturn, 1) := by decide +kernel
theorem dM_worker_84 : decode bM_worker 84 = .ok (.aload_n 0, 1) := by decide +kernel
theorem dM_worker_85 : decode bM_worker 85 = .ok (.getfield 23, 3) := by decide +kernel
theorem dM_worker_88 : decode bM_worker 88 = .ok (.iload_n 1, 1) := by decide +kernel
theorem dM_worker_89 : decode bM_worker 89 = .ok (.iaload, 1) := by decide +kernel
theorem dM_worker_90 : decode bM_worker 90 = .ok (.iconst 1, 1) := by decide +kernel
theorem dM_worker_91 : decode bM_worker 91 = .ok (.if_icmp .ne 12, 3) := by decide +kernel
theorem dM_worker_94 : decode bM_worker 94 = .ok (.aload_n 0, 1) := by decide +kernel
theorem dM_worker_95 : decode bM_worker 95 = .ok (.getfield 32, 3) := by decide +kernel
theorem dM_worker_98 : decode bM_worker 98 = .ok (.iload_n 1, 1) := by decide +kernel
theorem dM_worker_99 : decode bM_worker 99 = .ok (.iaload, 1) := by decide +kernel
theorem dM_worker_100 : decode bM_worker 100 = .ok (.goto 4, 3) := by decide +kernel
theorem dM_worker_103 : decode bM_worker 103 = .ok (.iconst (-1), 1) := by decide +kernel
theorem dM_worker_104 : decode bM_worker 104 = .ok (.ireturn, 1) := by decide +kernel
theorem dM_worker_105 : decode bM_worker 105 = .ok (.aload_n 0, 1) := by decide +kernel
theorem dM_worker_106 : decode bM_worker 106 = .ok (.getfield 35, 3) := by decide +kernel
theorem dM_worker_109 : decode bM_worker 109 = .ok (.iload_n 1, 1) := by decide +kernel
theorem dM_worker_110 : decode bM_worker 110 = .ok (.iaload, 1) := by decide +kernel
theorem dM_worker_111 : decode bM_worker 111 = .ok (.ireturn, 1) := by decide +kernel
theorem dM_worker_112 : decode bM_worker 112 = .ok (.aload_n 0, 1) := by decide +kernel
theorem dM_worker_113 : decode bM_worker 113 = .ok (.getfield 38, 3) := by decide +kernel
theorem dM_worker_116 : decode bM_worker 116 = .ok (.iload_n 1, 1) := by decide +kernel
theorem dM_worker_117 : decode bM_worker 117 = .ok (.iaload, 1) := by decide +kernel
theorem dM_worker_118 : decode bM_worker 118 = .ok (.ireturn, 1) := by decide +kernel
theorem dM_worker_119 : decode bM_worker 119 = .ok (.iconst (-1), 1) := by decide +kernel
theorem dM_worker_120 : decode bM_worker 120 = .ok (.ireturn, 1) := by decide +kernel
theorem dM_bars_0 : decode bM_bars 0 = .ok (.iload_n 1, 1) := by decide +kernel
theorem dM_bars_1 : decode bM_bars 1 = .ok (.aload_n 0, 1) := by decide +kernel
theorem dM_bars_2 : decode bM_bars 2 = .ok (.getfield 93, 3) := by decide +kernel
theorem dM_bars_5 : decode bM_bars 5 = .ok (.invokestatic 96, 3) := by decide +kernel
theorem dM_bars_8 : decode bM_bars 8 = .ok (.ifCond .eq 12, 3) := by decide +kernel
theorem dM_bars_11 : decode bM_bars 11 = .ok (.aload_n 0, 1) := by decide +kernel
theorem dM_bars_12 : decode bM_bars 12 = .ok (.getfield 17, 3) := by decide +kernel
theorem dM_bars_15 : decode bM_bars 15 = .ok (.iload_n 1, 1) := by decide +kernel
theorem dM_bars_16 : decode bM_bars 16 = .ok (.iaload, 1) := by decide +kernel
theorem dM_bars_17 : decode bM_bars 17 = .ok (.goto 4, 3) := by decide +kernel
theorem dM_bars_20 : decode bM_bars 20 = .ok (.iconst (-1), 1) := by decide +kernel
theorem dM_bars_21 : decode bM_bars 21 = .ok (.ireturn, 1) := by decide +kernel
theorem dM_oneShot_0 : decode bM_oneShot 0 = .ok (.lload_n 1, 1) := by decide +kernel
theorem dM_oneShot_1 : decode bM_oneShot 1 = .ok (.lload_n 3, 1) := by decide +kernel
theorem dM_oneShot_2 : decode bM_oneShot 2 = .ok (.lxor, 1) := by decide +kernel
theorem dM_oneShot_3 : decode bM_oneShot 3 = .ok (.lstore 5, 2) := by decide +kernel
theorem dM_oneShot_5 : decode bM_oneShot 5 = .ok (.iconst 0, 1) := by decide +kernel
theorem dM_oneShot_6 : decode bM_oneShot 6 = .ok (.istore 7, 2) := by decide +kernel
theorem dM_oneShot_8 : decode bM_oneShot 8 = .ok (.iload 7, 2) := by decide +kernel
theorem dM_oneShot_10 : decode bM_oneShot 10 = .ok (.iconst 2, 1) := by decide +kernel
theorem dM_oneShot_11 : decode bM_oneShot 11 = .ok (.if_icmp .ge 23, 3) := by decide +kernel
theorem dM_oneShot_14 : decode bM_oneShot 14 = .ok (.lload 5, 2) := by decide +kernel
theorem dM_oneShot_16 : decode bM_oneShot 16 = .ok (.lload 5, 2) := by decide +kernel
theorem dM_oneShot_18 : decode bM_oneShot 18 = .ok (.bipush 31, 2) := by decide +kernel
theorem dM_oneShot_20 : decode bM_oneShot 20 = .ok (.lushr, 1) := by decide +kernel
theorem dM_oneShot_21 : decode bM_oneShot 21 = .ok (.lxor, 1) := by decide +kernel
theorem dM_oneShot_22 : decode bM_oneShot 22 = .ok (.ldc2_w 149, 3) := by decide +kernel
theorem dM_oneShot_25 : decode bM_oneShot 25 = .ok (.lmul, 1) := by decide +kernel
theorem dM_oneShot_26 : decode bM_oneShot 26 = .ok (.lstore 5, 2) := by decide +kernel
theorem dM_oneShot_28 : decode bM_oneShot 28 = .ok (.iinc 7 1, 3) := by decide +kernel
theorem dM_oneShot_31 : decode bM_oneShot 31 = .ok (.goto (-23), 3) := by decide +kernel
theorem dM_oneShot_34 : decode bM_oneShot 34 = .ok (.lload 5, 2) := by decide +kernel
theorem dM_oneShot_36 : decode bM_oneShot 36 = .ok (.lload_n 3, 1) := by decide +kernel
theorem dM_oneShot_37 : decode bM_oneShot 37 = .ok (.ladd, 1) := by decide +kernel
theorem dM_oneShot_38 : decode bM_oneShot 38 = .ok (.lreturn, 1) := by decide +kernel
