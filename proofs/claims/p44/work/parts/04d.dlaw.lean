theorem dL_areChains_89 : decode cL_areChains 89 = .ok (.ifCond .eq 7, 3) := by decide +kernel
theorem dL_areChains_92 : decode cL_areChains 92 = .ok (.iconst 1, 1) := by decide +kernel
theorem dL_areChains_93 : decode cL_areChains 93 = .ok (.goto 4, 3) := by decide +kernel
theorem dL_areChains_96 : decode cL_areChains 96 = .ok (.iconst 0, 1) := by decide +kernel
theorem dL_areChains_97 : decode cL_areChains 97 = .ok (.iadd, 1) := by decide +kernel
theorem dL_areChains_98 : decode cL_areChains 98 = .ok (.istore_n 3, 1) := by decide +kernel
theorem dL_areChains_99 : decode cL_areChains 99 = .ok (.iload 4, 2) := by decide +kernel
theorem dL_areChains_101 : decode cL_areChains 101 = .ok (.iload 8, 2) := by decide +kernel
theorem dL_areChains_103 : decode cL_areChains 103 = .ok (.ifCond .eq 21, 3) := by decide +kernel
theorem dL_areChains_106 : decode cL_areChains 106 = .ok (.iload 9, 2) := by decide +kernel
theorem dL_areChains_108 : decode cL_areChains 108 = .ok (.ifCond .ne 16, 3) := by decide +kernel
theorem dL_areChains_111 : decode cL_areChains 111 = .ok (.iload 7, 2) := by decide +kernel
theorem dL_areChains_113 : decode cL_areChains 113 = .ok (.invokestatic 121, 3) := by decide +kernel
theorem dL_areChains_116 : decode cL_areChains 116 = .ok (.iconst 2, 1) := by decide +kernel
theorem dL_areChains_117 : decode cL_areChains 117 = .ok (.if_icmp .le 7, 3) := by decide +kernel
theorem dL_areChains_120 : decode cL_areChains 120 = .ok (.iconst 1, 1) := by decide +kernel
theorem dL_areChains_121 : decode cL_areChains 121 = .ok (.goto 4, 3) := by decide +kernel
theorem dL_areChains_124 : decode cL_areChains 124 = .ok (.iconst 0, 1) := by decide +kernel
theorem dL_areChains_125 : decode cL_areChains 125 = .ok (.iadd, 1) := by decide +kernel
theorem dL_areChains_126 : decode cL_areChains 126 = .ok (.istore 4, 2) := by decide +kernel
theorem dL_areChains_128 : decode cL_areChains 128 = .ok (.iload 5, 2) := by decide +kernel
theorem dL_areChains_130 : decode cL_areChains 130 = .ok (.ifCond .eq 31, 3) := by decide +kernel
theorem dL_areChains_133 : decode cL_areChains 133 = .ok (.aload_n 0, 1) := by decide +kernel
theorem dL_areChains_134 : decode cL_areChains 134 = .ok (.iload 6, 2) := by decide +kernel
theorem dL_areChains_136 : decode cL_areChains 136 = .ok (.invokestatic 105, 3) := by decide +kernel
theorem dL_areChains_139 : decode cL_areChains 139 = .ok (.iload 7, 2) := by decide +kernel
theorem dL_areChains_141 : decode cL_areChains 141 = .ok (.ifCond .ne 8, 3) := by decide +kernel
theorem dL_areChains_144 : decode cL_areChains 144 = .ok (.bipush (-102), 2) := by decide +kernel
theorem dL_areChains_146 : decode cL_areChains 146 = .ok (.goto 8, 3) := by decide +kernel
theorem dL_areChains_149 : decode cL_areChains 149 = .ok (.iload 7, 2) := by decide +kernel
theorem dL_areChains_151 : decode cL_areChains 151 = .ok (.invokestatic 121, 3) := by decide +kernel
theorem dL_areChains_154 : decode cL_areChains 154 = .ok (.if_icmp .ne 7, 3) := by decide +kernel
theorem dL_areChains_157 : decode cL_areChains 157 = .ok (.iconst 1, 1) := by decide +kernel
theorem dL_areChains_158 : decode cL_areChains 158 = .ok (.goto 4, 3) := by decide +kernel
theorem dL_areChains_161 : decode cL_areChains 161 = .ok (.iconst 0, 1) := by decide +kernel
theorem dL_areChains_162 : decode cL_areChains 162 = .ok (.istore 5, 2) := by decide +kernel
theorem dL_areChains_164 : decode cL_areChains 164 = .ok (.iinc 6 1, 3) := by decide +kernel
theorem dL_areChains_167 : decode cL_areChains 167 = .ok (.goto (-154), 3) := by decide +kernel
theorem dL_areChains_170 : decode cL_areChains 170 = .ok (.iload 5, 2) := by decide +kernel
theorem dL_areChains_172 : decode cL_areChains 172 = .ok (.ifCond .eq 43, 3) := by decide +kernel
theorem dL_areChains_175 : decode cL_areChains 175 = .ok (.aload_n 0, 1) := by decide +kernel
theorem dL_areChains_176 : decode cL_areChains 176 = .ok (.invokevirtual 170, 3) := by decide +kernel
theorem dL_areChains_179 : decode cL_areChains 179 = .ok (.iload_n 2, 1) := by decide +kernel
theorem dL_areChains_180 : decode cL_areChains 180 = .ok (.if_icmp .ne 35, 3) := by decide +kernel
theorem dL_areChains_183 : decode cL_areChains 183 = .ok (.aload_n 0, 1) := by decide +kernel
theorem dL_areChains_184 : decode cL_areChains 184 = .ok (.invokevirtual 173, 3) := by decide +kernel
theorem dL_areChains_187 : decode cL_areChains 187 = .ok (.iload_n 3, 1) := by decide +kernel
theorem dL_areChains_188 : decode cL_areChains 188 = .ok (.if_icmp .ne 27, 3) := by decide +kernel
theorem dL_areChains_191 : decode cL_areChains 191 = .ok (.aload_n 0, 1) := by decide +kernel
theorem dL_areChains_192 : decode cL_areChains 192 = .ok (.invokevirtual 176, 3) := by decide +kernel
theorem dL_areChains_195 : decode cL_areChains 195 = .ok (.iload 4, 2) := by decide +kernel
theorem dL_areChains_197 : decode cL_areChains 197 = .ok (.if_icmp .ne 18, 3) := by decide +kernel
theorem dL_areChains_200 : decode cL_areChains 200 = .ok (.aload_n 0, 1) := by decide +kernel
theorem dL_areChains_201 : decode cL_areChains 201 = .ok (.invokevirtual 179, 3) := by decide +kernel
theorem dL_areChains_204 : decode cL_areChains 204 = .ok (.iload 4, 2) := by decide +kernel
theorem dL_areChains_206 : decode cL_areChains 206 = .ok (.iconst 2, 1) := by decide +kernel
theorem dL_areChains_207 : decode cL_areChains 207 = .ok (.irem, 1) := by decide +kernel
theorem dL_areChains_208 : decode cL_areChains 208 = .ok (.if_icmp .ne 7, 3) := by decide +kernel
theorem dL_areChains_211 : decode cL_areChains 211 = .ok (.iconst 1, 1) := by decide +kernel
theorem dL_areChains_212 : decode cL_areChains 212 = .ok (.goto 4, 3) := by decide +kernel
theorem dL_areChains_215 : decode cL_areChains 215 = .ok (.iconst 0, 1) := by decide +kernel
theorem dL_areChains_216 : decode cL_areChains 216 = .ok (.ireturn, 1) := by decide +kernel
theorem dL_value_0 : decode cL_value 0 = .ok (.aload_n 0, 1) := by decide +kernel
theorem dL_value_1 : decode cL_value 1 = .ok (.iload_n 1, 1) := by decide +kernel
theorem dL_value_2 : decode cL_value 2 = .ok (.iconst 4, 1) := by decide +kernel
theorem dL_value_3 : decode cL_value 3 = .ok (.idiv, 1) := by decide +kernel
theorem dL_value_4 : decode cL_value 4 = .ok (.laload, 1) := by decide +kernel
theorem dL_value_5 : decode cL_value 5 = .ok (.bipush 16, 2) := by decide +kernel
theorem dL_value_7 : decode cL_value 7 = .ok (.iload_n 1, 1) := by decide +kernel
theorem dL_value_8 : decode cL_value 8 = .ok (.iconst 4, 1) := by decide +kernel
theorem dL_value_9 : decode cL_value 9 = .ok (.irem, 1) := by decide +kernel
theorem dL_value_10 : decode cL_value 10 = .ok (.imul, 1) := by decide +kernel
theorem dL_value_11 : decode cL_value 11 = .ok (.lshr, 1) := by decide +kernel
theorem dL_value_12 : decode cL_value 12 = .ok (.ldc2_w 182, 3) := by decide +kernel
theorem dL_value_15 : decode cL_value 15 = .ok (.land, 1) := by decide +kernel
theorem dL_value_16 : decode cL_value 16 = .ok (.l2i, 1) := by decide +kernel
theorem dL_value_17 : decode cL_value 17 = .ok (.bipush 100, 2) := by decide +kernel
theorem dL_value_19 : decode cL_value 19 = .ok (.isub, 1) := by decide +kernel
theorem dL_value_20 : decode cL_value 20 = .ok (.ireturn, 1) := by decide +kernel
set_option maxRecDepth 20000 in
theorem ggL_isEnd_L_count : GoodIn wsL_isEnd wsL_count := goodIn_r _ [6] (by decide +kernel) (by decide +kernel)
set_option maxRecDepth 20000 in
theorem gL_isEnd_L_count : GoodIn wsL_isEnd (va_wsS RL 121 yL_count wsL_count) := goodIn_app (goodIn_of _ (by decide +kernel)) ggL_isEnd_L_count
set_option maxRecDepth 20000 in
theorem ggL_isEnd_L_endDifferenceOf : GoodIn wsL_isEnd wsL_endDifferenceOf := goodIn_ca (goodIn_r _ [9, 10, 11, 12, 13, 14, 15, 16, 17, 18, 19, 20, 21, 22, 23, 24, 25, 26, 27, 28, 29, 30, 31, 32, 33, 34, 35, 36, 37, 38, 39, 40, 41, 42, 43, 44, 45, 46, 47, 48, 49, 50, 51, 52, 53, 54, 55, 56, 57, 58, 59, 60, 61, 62, 63, 64, 65, 66, 67, 68, 69, 70, 71, 72, 73, 74, 75, 76, 77, 78, 79, 80, 138, 139, 140, 141, 142, 143, 144, 145, 146, 147, 148, 149, 150, 151, 152, 153, 154] (by decide +kernel) (by decide +kernel)) (goodIn_sub (fun _ h => List.mem_cons_of_mem _ (List.mem_append_right _ h)) (by decide +kernel))
set_option maxRecDepth 20000 in
theorem gL_isEnd_L_endDifferenceOf : GoodIn wsL_isEnd (va_wsS RL 184 yL_endDifferenceOf wsL_endDifferenceOf) := goodIn_app (goodIn_of _ (by decide +kernel)) ggL_isEnd_L_endDifferenceOf
set_option maxRecDepth 20000 in
theorem ggL_isEnd_L_endByTryingOf : GoodIn wsL_isEnd wsL_endByTryingOf := goodIn_ca (goodIn_r _ [83, 10, 84, 85, 86, 14, 87, 16, 17, 18, 20, 21, 22, 23, 24, 25, 26, 27, 28, 29, 30, 88, 89, 90, 91, 92, 40, 93, 94, 95, 96, 71, 72, 73, 97, 98, 99, 100, 54, 101, 102, 48, 103, 46, 47, 49, 38, 39, 41, 59, 60, 61, 62, 63, 64, 65, 66, 67, 68, 69, 70, 74, 75, 76, 138, 139, 140, 141, 142, 143, 144, 145, 146, 147, 148, 149, 150, 151] (by decide +kernel) (by decide +kernel)) (goodIn_sub (fun _ h => List.mem_cons_of_mem _ (List.mem_append_right _ h)) (by decide +kernel))
set_option maxRecDepth 20000 in
theorem gL_isEnd_L_endByTryingOf : GoodIn wsL_isEnd (va_wsS RL 187 yL_endByTryingOf wsL_endByTryingOf) := goodIn_app (goodIn_of _ (by decide +kernel)) ggL_isEnd_L_endByTryingOf
set_option maxRecDepth 20000 in
theorem ggL_isEnd_L_bestFenceOf : GoodIn wsL_isEnd wsL_bestFenceOf := goodIn_ca (goodIn_r _ [106, 10, 107, 108, 109, 14, 110, 16, 17, 18, 19, 20, 21, 22, 23, 24, 25, 26, 27, 28, 29, 30, 111, 112, 113, 114, 115, 116, 117, 31, 32, 33, 34, 35, 36, 37, 38, 39, 40, 41, 42, 43, 44, 45, 46, 47, 48, 49, 50, 51, 52, 53, 54, 55, 56, 57, 58, 59, 60, 61, 62, 63, 64, 65, 66, 67, 68, 69, 70, 71, 72, 73, 74, 75, 76, 118, 119, 120, 121, 138, 139, 140, 141, 142, 143, 144, 145, 146, 147, 148, 149, 150, 151, 152, 153, 154] (by decide +kernel) (by decide +kernel)) (goodIn_sub (fun _ h => List.mem_cons_of_mem _ (List.mem_append_right _ h)) (by decide +kernel))
set_option maxRecDepth 20000 in
theorem gL_isEnd_L_bestFenceOf : GoodIn wsL_isEnd (va_wsS RL 190 yL_bestFenceOf wsL_bestFenceOf) := goodIn_app (goodIn_of _ (by decide +kernel)) ggL_isEnd_L_bestFenceOf
set_option maxRecDepth 20000 in
theorem ggL_isEnd_L_value : GoodIn wsL_isEnd wsL_value := goodIn_r _ [124, 125] (by decide +kernel) (by decide +kernel)
set_option maxRecDepth 20000 in
theorem gL_isEnd_L_value : GoodIn wsL_isEnd (va_wsS RL 193 yL_value wsL_value) := goodIn_app (goodIn_of _ (by decide +kernel)) ggL_isEnd_L_value
set_option maxRecDepth 20000 in
theorem ggL_isEnd_L_close : GoodIn wsL_isEnd wsL_close := goodIn_r _ [128, 129, 130, 5, 131, 132, 133, 134, 135, 136, 137] (by decide +kernel) (by decide +kernel)
set_option maxRecDepth 20000 in
theorem gL_isEnd_L_close : GoodIn wsL_isEnd (va_wsS RL 111 yL_close wsL_close) := goodIn_app (goodIn_of _ (by decide +kernel)) ggL_isEnd_L_close
theorem dL_isEnd_0 : decode cL_isEnd 0 = .ok (.iload_n 1, 1) := by decide +kernel
theorem dL_isEnd_1 : decode cL_isEnd 1 = .ok (.invokestatic 121, 3) := by decide +kernel
theorem dL_isEnd_4 : decode cL_isEnd 4 = .ok (.bipush 23, 2) := by decide +kernel
theorem dL_isEnd_6 : decode cL_isEnd 6 = .ok (.if_icmp .ge 36, 3) := by decide +kernel
theorem dL_isEnd_9 : decode cL_isEnd 9 = .ok (.aload_n 0, 1) := by decide +kernel
theorem dL_isEnd_10 : decode cL_isEnd 10 = .ok (.invokestatic 184, 3) := by decide +kernel
theorem dL_isEnd_13 : decode cL_isEnd 13 = .ok (.bipush (-101), 2) := by decide +kernel
theorem dL_isEnd_15 : decode cL_isEnd 15 = .ok (.if_icmp .ne 25, 3) := by decide +kernel
theorem dL_isEnd_18 : decode cL_isEnd 18 = .ok (.aload_n 0, 1) := by decide +kernel
theorem dL_isEnd_19 : decode cL_isEnd 19 = .ok (.invokestatic 187, 3) := by decide +kernel
theorem dL_isEnd_22 : decode cL_isEnd 22 = .ok (.bipush (-101), 2) := by decide +kernel
theorem dL_isEnd_24 : decode cL_isEnd 24 = .ok (.if_icmp .ne 16, 3) := by decide +kernel
theorem dL_isEnd_27 : decode cL_isEnd 27 = .ok (.aload_n 0, 1) := by decide +kernel
theorem dL_isEnd_28 : decode cL_isEnd 28 = .ok (.invokestatic 190, 3) := by decide +kernel
theorem dL_isEnd_31 : decode cL_isEnd 31 = .ok (.bipush (-101), 2) := by decide +kernel
theorem dL_isEnd_33 : decode cL_isEnd 33 = .ok (.if_icmp .ne 7, 3) := by decide +kernel
theorem dL_isEnd_36 : decode cL_isEnd 36 = .ok (.iconst 1, 1) := by decide +kernel
theorem dL_isEnd_37 : decode cL_isEnd 37 = .ok (.goto 4, 3) := by decide +kernel
theorem dL_isEnd_40 : decode cL_isEnd 40 = .ok (.iconst 0, 1) := by decide +kernel
theorem dL_isEnd_41 : decode cL_isEnd 41 = .ok (.ireturn, 1) := by decide +kernel
theorem dL_isEnd_42 : decode cL_isEnd 42 = .ok (.bipush 8, 2) := by decide +kernel
theorem dL_isEnd_44 : decode cL_isEnd 44 = .ok (.newarray .int, 2) := by decide +kernel
theorem dL_isEnd_46 : decode cL_isEnd 46 = .ok (.astore_n 2, 1) := by decide +kernel
theorem dL_isEnd_47 : decode cL_isEnd 47 = .ok (.bipush 64, 2) := by decide +kernel
theorem dL_isEnd_49 : decode cL_isEnd 49 = .ok (.newarray .long, 2) := by decide +kernel
theorem dL_isEnd_51 : decode cL_isEnd 51 = .ok (.astore_n 3, 1) := by decide +kernel
theorem dL_isEnd_52 : decode cL_isEnd 52 = .ok (.iconst 0, 1) := by decide +kernel
theorem dL_isEnd_53 : decode cL_isEnd 53 = .ok (.istore 4, 2) := by decide +kernel
theorem dL_isEnd_55 : decode cL_isEnd 55 = .ok (.iconst 0, 1) := by decide +kernel
theorem dL_isEnd_56 : decode cL_isEnd 56 = .ok (.istore 5, 2) := by decide +kernel
theorem dL_isEnd_58 : decode cL_isEnd 58 = .ok (.iload 5, 2) := by decide +kernel
theorem dL_isEnd_60 : decode cL_isEnd 60 = .ok (.bipush 31, 2) := by decide +kernel
theorem dL_isEnd_62 : decode cL_isEnd 62 = .ok (.if_icmp .ge 27, 3) := by decide +kernel
theorem dL_isEnd_65 : decode cL_isEnd 65 = .ok (.iload_n 1, 1) := by decide +kernel
theorem dL_isEnd_66 : decode cL_isEnd 66 = .ok (.iload 5, 2) := by decide +kernel
theorem dL_isEnd_68 : decode cL_isEnd 68 = .ok (.ishr, 1) := by decide +kernel
theorem dL_isEnd_69 : decode cL_isEnd 69 = .ok (.iconst 1, 1) := by decide +kernel
theorem dL_isEnd_70 : decode cL_isEnd 70 = .ok (.iand, 1) := by decide +kernel
theorem dL_isEnd_71 : decode cL_isEnd 71 = .ok (.ifCond .ne 12, 3) := by decide +kernel
theorem dL_isEnd_74 : decode cL_isEnd 74 = .ok (.aload_n 2, 1) := by decide +kernel
theorem dL_isEnd_75 : decode cL_isEnd 75 = .ok (.iload 4, 2) := by decide +kernel
theorem dL_isEnd_77 : decode cL_isEnd 77 = .ok (.iload 5, 2) := by decide +kernel
theorem dL_isEnd_79 : decode cL_isEnd 79 = .ok (.iastore, 1) := by decide +kernel
theorem dL_isEnd_80 : decode cL_isEnd 80 = .ok (.iinc 4 1, 3) := by decide +kernel
theorem dL_isEnd_83 : decode cL_isEnd 83 = .ok (.iinc 5 1, 3) := by decide +kernel
theorem dL_isEnd_86 : decode cL_isEnd 86 = .ok (.goto (-28), 3) := by decide +kernel
theorem dL_isEnd_89 : decode cL_isEnd 89 = .ok (.bipush (-101), 2) := by decide +kernel
theorem dL_isEnd_91 : decode cL_isEnd 91 = .ok (.istore 5, 2) := by decide +kernel
theorem dL_isEnd_93 : decode cL_isEnd 93 = .ok (.iconst 1, 1) := by decide +kernel
theorem dL_isEnd_94 : decode cL_isEnd 94 = .ok (.iload 4, 2) := by decide +kernel
theorem dL_isEnd_96 : decode cL_isEnd 96 = .ok (.ishl, 1) := by decide +kernel
theorem dL_isEnd_97 : decode cL_isEnd 97 = .ok (.iconst 1, 1) := by decide +kernel
theorem dL_isEnd_98 : decode cL_isEnd 98 = .ok (.isub, 1) := by decide +kernel
theorem dL_isEnd_99 : decode cL_isEnd 99 = .ok (.istore 6, 2) := by decide +kernel
theorem dL_isEnd_101 : decode cL_isEnd 101 = .ok (.iload 6, 2) := by decide +kernel
theorem dL_isEnd_103 : decode cL_isEnd 103 = .ok (.ifCond .lt 195, 3) := by decide +kernel
theorem dL_isEnd_106 : decode cL_isEnd 106 = .ok (.iload_n 1, 1) := by decide +kernel
theorem dL_isEnd_107 : decode cL_isEnd 107 = .ok (.istore 7, 2) := by decide +kernel
theorem dL_isEnd_109 : decode cL_isEnd 109 = .ok (.iload 6, 2) := by decide +kernel
theorem dL_isEnd_111 : decode cL_isEnd 111 = .ok (.iconst 1, 1) := by decide +kernel
theorem dL_isEnd_112 : decode cL_isEnd 112 = .ok (.iload 4, 2) := by decide +kernel
theorem dL_isEnd_114 : decode cL_isEnd 114 = .ok (.ishl, 1) := by decide +kernel
theorem dL_isEnd_115 : decode cL_isEnd 115 = .ok (.iconst 1, 1) := by decide +kernel
theorem dL_isEnd_116 : decode cL_isEnd 116 = .ok (.isub, 1) := by decide +kernel
theorem dL_isEnd_117 : decode cL_isEnd 117 = .ok (.if_icmp .ne 7, 3) := by decide +kernel
theorem dL_isEnd_120 : decode cL_isEnd 120 = .ok (.iconst 0, 1) := by decide +kernel
theorem dL_isEnd_121 : decode cL_isEnd 121 = .ok (.goto 5, 3) := by decide +kernel
theorem dL_isEnd_124 : decode cL_isEnd 124 = .ok (.bipush (-99), 2) := by decide +kernel
theorem dL_isEnd_126 : decode cL_isEnd 126 = .ok (.istore 8, 2) := by decide +kernel
theorem dL_isEnd_128 : decode cL_isEnd 128 = .ok (.iconst 0, 1) := by decide +kernel
theorem dL_isEnd_129 : decode cL_isEnd 129 = .ok (.istore 9, 2) := by decide +kernel
theorem dL_isEnd_131 : decode cL_isEnd 131 = .ok (.iload 9, 2) := by decide +kernel
theorem dL_isEnd_133 : decode cL_isEnd 133 = .ok (.iload 4, 2) := by decide +kernel
theorem dL_isEnd_135 : decode cL_isEnd 135 = .ok (.if_icmp .ge 26, 3) := by decide +kernel
theorem dL_isEnd_138 : decode cL_isEnd 138 = .ok (.iload 7, 2) := by decide +kernel
theorem dL_isEnd_140 : decode cL_isEnd 140 = .ok (.iload 6, 2) := by decide +kernel
theorem dL_isEnd_142 : decode cL_isEnd 142 = .ok (.iload 9, 2) := by decide +kernel
theorem dL_isEnd_144 : decode cL_isEnd 144 = .ok (.ishr, 1) := by decide +kernel
theorem dL_isEnd_145 : decode cL_isEnd 145 = .ok (.iconst 1, 1) := by decide +kernel
theorem dL_isEnd_146 : decode cL_isEnd 146 = .ok (.iand, 1) := by decide +kernel
theorem dL_isEnd_147 : decode cL_isEnd 147 = .ok (.aload_n 2, 1) := by decide +kernel
theorem dL_isEnd_148 : decode cL_isEnd 148 = .ok (.iload 9, 2) := by decide +kernel
theorem dL_isEnd_150 : decode cL_isEnd 150 = .ok (.iaload, 1) := by decide +kernel
theorem dL_isEnd_151 : decode cL_isEnd 151 = .ok (.ishl, 1) := by decide +kernel
theorem dL_isEnd_152 : decode cL_isEnd 152 = .ok (.ior, 1) := by decide +kernel
theorem dL_isEnd_153 : decode cL_isEnd 153 = .ok (.istore 7, 2) := by decide +kernel
theorem dL_isEnd_155 : decode cL_isEnd 155 = .ok (.iinc 9 1, 3) := by decide +kernel
theorem dL_isEnd_158 : decode cL_isEnd 158 = .ok (.goto (-27), 3) := by decide +kernel
theorem dL_isEnd_161 : decode cL_isEnd 161 = .ok (.iload 4, 2) := by decide +kernel
theorem dL_isEnd_163 : decode cL_isEnd 163 = .ok (.iconst 1, 1) := by decide +kernel
theorem dL_isEnd_164 : decode cL_isEnd 164 = .ok (.isub, 1) := by decide +kernel
theorem dL_isEnd_165 : decode cL_isEnd 165 = .ok (.istore 9, 2) := by decide +kernel
theorem dL_isEnd_167 : decode cL_isEnd 167 = .ok (.iload 9, 2) := by decide +kernel
theorem dL_isEnd_169 : decode cL_isEnd 169 = .ok (.ifCond .lt 100, 3) := by decide +kernel
theorem dL_isEnd_172 : decode cL_isEnd 172 = .ok (.iload 6, 2) := by decide +kernel
theorem dL_isEnd_174 : decode cL_isEnd 174 = .ok (.iload 9, 2) := by decide +kernel
theorem dL_isEnd_176 : decode cL_isEnd 176 = .ok (.ishr, 1) := by decide +kernel
theorem dL_isEnd_177 : decode cL_isEnd 177 = .ok (.iconst 1, 1) := by decide +kernel
theorem dL_isEnd_178 : decode cL_isEnd 178 = .ok (.iand, 1) := by decide +kernel
theorem dL_isEnd_179 : decode cL_isEnd 179 = .ok (.ifCond .ne 84, 3) := by decide +kernel
theorem dL_isEnd_182 : decode cL_isEnd 182 = .ok (.aload_n 3, 1) := by decide +kernel
theorem dL_isEnd_183 : decode cL_isEnd 183 = .ok (.iload 6, 2) := by decide +kernel
theorem dL_isEnd_185 : decode cL_isEnd 185 = .ok (.iconst 1, 1) := by decide +kernel
theorem dL_isEnd_186 : decode cL_isEnd 186 = .ok (.iload 9, 2) := by decide +kernel
theorem dL_isEnd_188 : decode cL_isEnd 188 = .ok (.ishl, 1) := by decide +kernel
theorem dL_isEnd_189 : decode cL_isEnd 189 = .ok (.ior, 1) := by decide +kernel
theorem dL_isEnd_190 : decode cL_isEnd 190 = .ok (.invokestatic 193, 3) := by decide +kernel
theorem dL_isEnd_193 : decode cL_isEnd 193 = .ok (.istore 10, 2) := by decide +kernel
theorem dL_isEnd_195 : decode cL_isEnd 195 = .ok (.iload 7, 2) := by decide +kernel
theorem dL_isEnd_197 : decode cL_isEnd 197 = .ok (.aload_n 2, 1) := by decide +kernel
theorem dL_isEnd_198 : decode cL_isEnd 198 = .ok (.iload 9, 2) := by decide +kernel
theorem dL_isEnd_200 : decode cL_isEnd 200 = .ok (.iaload, 1) := by decide +kernel
theorem dL_isEnd_201 : decode cL_isEnd 201 = .ok (.invokestatic 111, 3) := by decide +kernel
theorem dL_isEnd_204 : decode cL_isEnd 204 = .ok (.istore 11, 2) := by decide +kernel
theorem dL_isEnd_206 : decode cL_isEnd 206 = .ok (.iload 11, 2) := by decide +kernel
theorem dL_isEnd_208 : decode cL_isEnd 208 = .ok (.ifCond .le 11, 3) := by decide +kernel
theorem dL_isEnd_211 : decode cL_isEnd 211 = .ok (.iload 11, 2) := by decide +kernel
theorem dL_isEnd_213 : decode cL_isEnd 213 = .ok (.iload 10, 2) := by decide +kernel
theorem dL_isEnd_215 : decode cL_isEnd 215 = .ok (.iadd, 1) := by decide +kernel
theorem dL_isEnd_216 : decode cL_isEnd 216 = .ok (.goto 6, 3) := by decide +kernel
theorem dL_isEnd_219 : decode cL_isEnd 219 = .ok (.iload 10, 2) := by decide +kernel
theorem dL_isEnd_221 : decode cL_isEnd 221 = .ok (.ineg, 1) := by decide +kernel
theorem dL_isEnd_222 : decode cL_isEnd 222 = .ok (.istore 12, 2) := by decide +kernel
theorem dL_isEnd_224 : decode cL_isEnd 224 = .ok (.iload 6, 2) := by decide +kernel
theorem dL_isEnd_226 : decode cL_isEnd 226 = .ok (.ifCond .ne 17, 3) := by decide +kernel
theorem dL_isEnd_229 : decode cL_isEnd 229 = .ok (.iload 12, 2) := by decide +kernel
theorem dL_isEnd_231 : decode cL_isEnd 231 = .ok (.iload 8, 2) := by decide +kernel
theorem dL_isEnd_233 : decode cL_isEnd 233 = .ok (.if_icmp .lt 10, 3) := by decide +kernel
theorem dL_isEnd_236 : decode cL_isEnd 236 = .ok (.aload_n 2, 1) := by decide +kernel
theorem dL_isEnd_237 : decode cL_isEnd 237 = .ok (.iload 9, 2) := by decide +kernel
theorem dL_isEnd_239 : decode cL_isEnd 239 = .ok (.iaload, 1) := by decide +kernel
theorem dL_isEnd_240 : decode cL_isEnd 240 = .ok (.goto 5, 3) := by decide +kernel
theorem dL_isEnd_243 : decode cL_isEnd 243 = .ok (.iload 5, 2) := by decide +kernel
theorem dL_isEnd_245 : decode cL_isEnd 245 = .ok (.istore 5, 2) := by decide +kernel
theorem dL_isEnd_247 : decode cL_isEnd 247 = .ok (.iload 12, 2) := by decide +kernel
theorem dL_isEnd_249 : decode cL_isEnd 249 = .ok (.iload 8, 2) := by decide +kernel
theorem dL_isEnd_251 : decode cL_isEnd 251 = .ok (.if_icmp .le 8, 3) := by decide +kernel
theorem dL_isEnd_254 : decode cL_isEnd 254 = .ok (.iload 12, 2) := by decide +kernel
theorem dL_isEnd_256 : decode cL_isEnd 256 = .ok (.goto 5, 3) := by decide +kernel
theorem dL_isEnd_259 : decode cL_isEnd 259 = .ok (.iload 8, 2) := by decide +kernel
theorem dL_isEnd_261 : decode cL_isEnd 261 = .ok (.istore 8, 2) := by decide +kernel
theorem dL_isEnd_263 : decode cL_isEnd 263 = .ok (.iinc 9 (-1), 3) := by decide +kernel
theorem dL_isEnd_266 : decode cL_isEnd 266 = .ok (.goto (-99), 3) := by decide +kernel
theorem dL_isEnd_269 : decode cL_isEnd 269 = .ok (.aload_n 3, 1) := by decide +kernel
theorem dL_isEnd_270 : decode cL_isEnd 270 = .ok (.iload 6, 2) := by decide +kernel
theorem dL_isEnd_272 : decode cL_isEnd 272 = .ok (.iconst 4, 1) := by decide +kernel
theorem dL_isEnd_273 : decode cL_isEnd 273 = .ok (.idiv, 1) := by decide +kernel
theorem dL_isEnd_274 : decode cL_isEnd 274 = .ok (.dup2, 1) := by decide +kernel
theorem dL_isEnd_275 : decode cL_isEnd 275 = .ok (.laload, 1) := by decide +kernel
theorem dL_isEnd_276 : decode cL_isEnd 276 = .ok (.iload 8, 2) := by decide +kernel
theorem dL_isEnd_278 : decode cL_isEnd 278 = .ok (.bipush 100, 2) := by decide +kernel
theorem dL_isEnd_280 : decode cL_isEnd 280 = .ok (.iadd, 1) := by decide +kernel
theorem dL_isEnd_281 : decode cL_isEnd 281 = .ok (.i2l, 1) := by decide +kernel
theorem dL_isEnd_282 : decode cL_isEnd 282 = .ok (.bipush 16, 2) := by decide +kernel
theorem dL_isEnd_284 : decode cL_isEnd 284 = .ok (.iload 6, 2) := by decide +kernel
theorem dL_isEnd_286 : decode cL_isEnd 286 = .ok (.iconst 4, 1) := by decide +kernel
theorem dL_isEnd_287 : decode cL_isEnd 287 = .ok (.irem, 1) := by decide +kernel
theorem dL_isEnd_288 : decode cL_isEnd 288 = .ok (.imul, 1) := by decide +kernel
theorem dL_isEnd_289 : decode cL_isEnd 289 = .ok (.lshl, 1) := by decide +kernel
theorem dL_isEnd_290 : decode cL_isEnd 290 = .ok (.ladd, 1) := by decide +kernel
theorem dL_isEnd_291 : decode cL_isEnd 291 = .ok (.lastore, 1) := by decide +kernel
theorem dL_isEnd_292 : decode cL_isEnd 292 = .ok (.iinc 6 (-1), 3) := by decide +kernel
theorem dL_isEnd_295 : decode cL_isEnd 295 = .ok (.goto (-194), 3) := by decide +kernel
theorem dL_isEnd_298 : decode cL_isEnd 298 = .ok (.aload_n 0, 1) := by decide +kernel
theorem dL_isEnd_299 : decode cL_isEnd 299 = .ok (.invokestatic 184, 3) := by decide +kernel
theorem dL_isEnd_302 : decode cL_isEnd 302 = .ok (.aload_n 3, 1) := by decide +kernel
theorem dL_isEnd_303 : decode cL_isEnd 303 = .ok (.iconst 0, 1) := by decide +kernel
theorem dL_isEnd_304 : decode cL_isEnd 304 = .ok (.invokestatic 193, 3) := by decide +kernel
theorem dL_isEnd_307 : decode cL_isEnd 307 = .ok (.if_icmp .ne 28, 3) := by decide +kernel
theorem dL_isEnd_310 : decode cL_isEnd 310 = .ok (.aload_n 0, 1) := by decide +kernel
theorem dL_isEnd_311 : decode cL_isEnd 311 = .ok (.invokestatic 187, 3) := by decide +kernel
theorem dL_isEnd_314 : decode cL_isEnd 314 = .ok (.aload_n 3, 1) := by decide +kernel
theorem dL_isEnd_315 : decode cL_isEnd 315 = .ok (.iconst 0, 1) := by decide +kernel
theorem dL_isEnd_316 : decode cL_isEnd 316 = .ok (.invokestatic 193, 3) := by decide +kernel
theorem dL_isEnd_319 : decode cL_isEnd 319 = .ok (.if_icmp .ne 16, 3) := by decide +kernel
theorem dL_isEnd_322 : decode cL_isEnd 322 = .ok (.aload_n 0, 1) := by decide +kernel
theorem dL_isEnd_323 : decode cL_isEnd 323 = .ok (.invokestatic 190, 3) := by decide +kernel
theorem dL_isEnd_326 : decode cL_isEnd 326 = .ok (.iload 5, 2) := by decide +kernel
theorem dL_isEnd_328 : decode cL_isEnd 328 = .ok (.if_icmp .ne 7, 3) := by decide +kernel
theorem dL_isEnd_331 : decode cL_isEnd 331 = .ok (.iconst 1, 1) := by decide +kernel
theorem dL_isEnd_332 : decode cL_isEnd 332 = .ok (.goto 4, 3) := by decide +kernel
theorem dL_isEnd_335 : decode cL_isEnd 335 = .ok (.iconst 0, 1) := by decide +kernel
theorem dL_isEnd_336 : decode cL_isEnd 336 = .ok (.ireturn, 1) := by decide +kernel
set_option maxRecDepth 20000 in
theorem ggL_law_X7_init : GoodIn wsL_law wsX7_init := goodIn_r _ [7, 8, 9, 10, 11, 12, 13, 14, 15, 16, 17, 18, 19, 20, 21, 22, 23, 24, 25, 26, 27, 28, 29, 30, 31, 32, 33, 34, 35, 36, 37, 38, 39, 40, 41, 42, 43, 44, 45, 46, 47, 3, 48, 49, 492, 493, 494, 495, 496, 497, 498, 499, 486, 487, 488, 489, 490, 491, 500, 501, 502, 503, 504, 505, 506, 507, 508, 509, 510, 511] (by decide +kernel) (by decide +kernel)
set_option maxRecDepth 20000 in
theorem gL_law_X7_init : GoodIn wsL_law (wsX7_init) := ggL_law_X7_init
set_option maxRecDepth 20000 in
theorem ggL_law_L_cell : GoodIn wsL_law wsL_cell := goodIn_r _ [53, 54] (by decide +kernel) (by decide +kernel)
set_option maxRecDepth 20000 in
theorem gL_law_L_cell : GoodIn wsL_law (va_wsS RL 198 yL_cell wsL_cell) := goodIn_app (goodIn_of _ (by decide +kernel)) ggL_law_L_cell
set_option maxRecDepth 20000 in
theorem ggL_law_L_count : GoodIn wsL_law wsL_count := goodIn_r _ [57] (by decide +kernel) (by decide +kernel)
set_option maxRecDepth 20000 in
theorem gL_law_L_count : GoodIn wsL_law (va_wsS RL 121 yL_count wsL_count) := goodIn_app (goodIn_of _ (by decide +kernel)) ggL_law_L_count
set_option maxRecDepth 20000 in
theorem ggL_law_X7_newGame : GoodIn wsL_law wsX7_newGame := goodIn_r _ [61, 14, 19, 62, 63, 64, 13, 65, 66, 67, 68, 69, 70, 71, 72, 73, 74, 75, 76, 18, 77, 78, 37, 79, 80, 81, 82, 83, 84, 85, 86, 87, 88, 89, 90, 91, 92, 93, 94, 95, 96, 97, 486, 487, 488, 489, 490, 491, 492, 493, 494, 495, 496, 497, 498, 499, 500, 501] (by decide +kernel) (by decide +kernel)
set_option maxRecDepth 20000 in
theorem gL_law_X7_newGame : GoodIn wsL_law (wsV RL 202 RX7 yX7_newGame wsX7_newGame) := goodIn_app (goodIn_of _ (by decide +kernel)) ggL_law_X7_newGame
set_option maxRecDepth 20000 in
theorem ggL_law_L_drawOf : GoodIn wsL_law wsL_drawOf := goodIn_ca (goodIn_ca (goodIn_r _ [100, 101, 102, 103, 104, 105, 2, 106, 107, 108, 109, 110, 14, 19, 111, 112, 113, 114, 115, 116, 13, 117, 66, 118, 119, 120, 121, 122, 123, 124, 125, 126, 74, 75, 76, 18, 77, 78, 37, 79, 80, 81, 82, 83, 84, 85, 86, 87, 88, 89, 90, 91, 92, 93, 127, 128, 129, 130, 131, 132, 133, 134, 135, 136, 137, 138, 139, 140, 141, 142, 143, 144, 145, 146, 147, 148, 67, 68, 69, 70, 71, 72, 73, 149, 150, 151, 152, 486, 487, 488, 489, 490, 491, 492, 493, 494, 495, 496, 497, 498, 499, 500, 501] (by decide +kernel) (by decide +kernel)) (goodIn_sub (fun _ h => List.mem_append_left _ (List.mem_append_left _ (List.mem_append_right _ h))) (by decide +kernel))) (goodIn_sub (fun _ h => List.mem_append_left _ (List.mem_append_right _ h)) (by decide +kernel))
set_option maxRecDepth 20000 in
theorem gL_law_L_drawOf : GoodIn wsL_law (va_wsS RL 205 yL_drawOf wsL_drawOf) := goodIn_app (goodIn_of _ (by decide +kernel)) ggL_law_L_drawOf
set_option maxRecDepth 20000 in
theorem ggL_law_L_close : GoodIn wsL_law wsL_close := goodIn_r _ [155, 156, 157, 52, 158, 159, 160, 161, 162, 163, 164] (by decide +kernel) (by decide +kernel)
set_option maxRecDepth 20000 in
theorem gL_law_L_close : GoodIn wsL_law (va_wsS RL 111 yL_close wsL_close) := goodIn_app (goodIn_of _ (by decide +kernel)) ggL_law_L_close
set_option maxRecDepth 20000 in
theorem ggL_law_L_beside : GoodIn wsL_law wsL_beside := goodIn_r _ [158] (by decide +kernel) (by decide +kernel)
set_option maxRecDepth 20000 in
theorem gL_law_L_beside : GoodIn wsL_law (va_wsS RL 74 yL_beside wsL_beside) := goodIn_app (goodIn_of _ (by decide +kernel)) ggL_law_L_beside
set_option maxRecDepth 20000 in
theorem ggL_law_L_has : GoodIn wsL_law wsL_has := goodIn_r _ [161, 162, 163, 52, 164] (by decide +kernel) (by decide +kernel)
set_option maxRecDepth 20000 in
theorem gL_law_L_has : GoodIn wsL_law (va_wsS RL 77 yL_has wsL_has) := goodIn_app (goodIn_of _ (by decide +kernel)) ggL_law_L_has
set_option maxRecDepth 20000 in
theorem ggL_law_L_areFences : GoodIn wsL_law wsL_areFences := goodIn_ca (goodIn_ca (goodIn_ca (goodIn_app (a := [.code yL_areFences cL_areFences 16 (some .boolean)]) (goodIn_r _ [167] rfl (by decide +kernel)) (goodIn_r _ [3, 168, 169, 170, 52, 171, 101, 172, 173, 174, 2, 175, 107, 108, 14, 111, 112, 113, 176, 124, 125, 126, 177, 178, 179, 180, 181, 182, 183, 184, 185, 186, 187, 188, 189, 143, 144, 145, 190, 68, 69, 70, 71, 72, 73, 191, 192, 193, 194, 195, 196, 197, 198, 199, 200, 201, 202, 203, 13, 204, 87, 88, 205, 206, 207, 208, 209, 210, 211, 212, 213, 214, 215, 216, 217, 218, 219, 220, 221, 222, 223, 224, 225, 226, 227, 228, 229, 230, 231, 232, 233, 114, 115, 116, 117, 66, 118, 119, 120, 121, 122, 123, 234, 235, 236, 237, 238, 239, 240, 241, 242, 243, 244, 245, 246, 247, 248, 249, 134, 135, 136, 137, 138, 139, 250, 251, 252, 102, 253, 254, 255, 256, 109, 110, 257, 258, 259, 260, 261, 262, 263, 264, 265, 266, 267, 268, 269, 270, 271, 272, 132, 133, 140, 141, 142, 146, 147, 148, 273, 274, 275, 276, 277, 278, 279, 280, 281, 282, 283, 284, 285, 286, 287, 288, 289, 290, 291, 292, 293, 294, 295, 296, 297, 298, 159, 160, 161, 162, 163, 164, 153, 154, 155, 156, 157, 158, 299, 300, 301, 302, 303, 304, 55, 56, 57, 305, 306, 307, 308, 62, 63, 64, 65, 67, 309, 310, 311, 312, 313, 314, 315, 316, 317, 318, 319, 320, 321, 322, 323, 324, 325, 326, 327, 328, 329, 330, 331, 332, 333, 334, 335, 336, 337, 338, 339, 340, 341, 342, 343, 344, 345, 346, 347, 348, 349, 350, 351, 352, 353, 354, 355, 356, 357, 358, 359, 360, 361, 362, 363, 364, 365, 366, 367, 368, 369, 370, 371, 372, 373, 374, 486, 487, 488, 489, 490, 491, 492, 493, 494, 495, 496, 497, 498, 499] (by decide +kernel) (by decide +kernel))) (goodIn_sub (fun _ h => List.mem_append_left _ (List.mem_append_left _ (List.mem_append_right _ h))) (by decide +kernel))) (goodIn_sub (fun _ h => List.mem_append_right _ h) (by decide +kernel))) (goodIn_sub (fun _ h => List.mem_append_left _ (List.mem_append_right _ h)) (by decide +kernel))
set_option maxRecDepth 20000 in
theorem gL_law_L_areFences : GoodIn wsL_law (va_wsS RL 208 yL_areFences wsL_areFences) := goodIn_app (goodIn_of _ (by decide +kernel)) ggL_law_L_areFences
set_option maxRecDepth 20000 in
theorem ggL_law_L_areChains : GoodIn wsL_law wsL_areChains := goodIn_ca (goodIn_ca (goodIn_app (a := [.code yL_areChains cL_areChains 10 (some .boolean)]) (goodIn_r _ [377] rfl (by decide +kernel)) (goodIn_r _ [378, 379, 52, 380, 159, 160, 161, 162, 163, 164, 156, 157, 158, 381, 382, 383, 55, 56, 57, 274, 275, 276, 101, 194, 277, 278, 279, 2, 280, 107, 108, 199, 200, 14, 184, 185, 186, 187, 188, 125, 189, 143, 144, 145, 190, 68, 69, 70, 71, 72, 73, 281, 282, 283, 284, 285, 224, 225, 226, 286, 287, 288, 289, 248, 249, 134, 135, 136, 137, 138, 139, 290, 124, 126, 291, 147, 148, 215, 384, 385, 386, 387, 388, 389, 390, 391, 392, 393, 394, 395, 396, 397, 398, 399, 400, 401, 402, 403, 404, 405, 406, 407, 408, 409, 410, 486, 487, 488, 489, 490, 491, 492, 493, 494, 495, 496, 497, 498, 499] (by decide +kernel) (by decide +kernel))) (goodIn_sub (fun _ h => List.mem_append_left _ (List.mem_append_left _ (List.mem_append_right _ h))) (by decide +kernel))) (goodIn_sub (fun _ h => List.mem_append_right _ h) (by decide +kernel))
set_option maxRecDepth 20000 in
theorem gL_law_L_areChains : GoodIn wsL_law (va_wsS RL 212 yL_areChains wsL_areChains) := goodIn_app (goodIn_of _ (by decide +kernel)) ggL_law_L_areChains
set_option maxRecDepth 20000 in
theorem ggL_law_L_isEnd : GoodIn wsL_law wsL_isEnd := goodIn_ca (goodIn_app (a := [.code yL_isEnd cL_isEnd 13 (some .boolean)]) (goodIn_r _ [413] rfl (by decide +kernel)) (goodIn_r _ [3, 414, 55, 56, 52, 57, 415, 416, 417, 194, 418, 419, 420, 2, 421, 199, 200, 14, 27, 422, 423, 26, 424, 425, 68, 69, 70, 71, 72, 73, 426, 427, 428, 429, 430, 48, 49, 431, 124, 125, 126, 432, 433, 434, 435, 436, 437, 438, 439, 440, 441, 442, 443, 444, 445, 446, 447, 448, 449, 132, 133, 134, 135, 136, 137, 138, 139, 140, 141, 142, 143, 144, 145, 146, 147, 148, 450, 451, 452, 453, 454, 455, 456, 457, 458, 459, 460, 461, 462, 463, 464, 224, 225, 226, 188, 189, 190, 465, 466, 467, 468, 469, 470, 471, 472, 473, 474, 475, 476, 477, 313, 119, 120, 13, 121, 66, 122, 478, 479, 480, 481, 482, 483, 484, 485, 153, 154, 155, 156, 157, 158, 159, 160, 161, 162, 163, 164, 486, 487, 488, 489, 490, 491, 492, 493, 494, 495, 496, 497, 498, 499, 509, 510, 511] (by decide +kernel) (by decide +kernel))) (goodIn_sub (fun _ h => List.mem_append_right _ h) (by decide +kernel))
set_option maxRecDepth 20000 in
theorem gL_law_L_isEnd : GoodIn wsL_law (va_wsS RL 216 yL_isEnd wsL_isEnd) := goodIn_app (goodIn_of _ (by decide +kernel)) ggL_law_L_isEnd
theorem dL_law_0 : decode cL_law 0 = .ok (.new 10, 3) := by decide +kernel
theorem dL_law_3 : decode cL_law 3 = .ok (.dup, 1) := by decide +kernel
theorem dL_law_4 : decode cL_law 4 = .ok (.invokespecial 197, 3) := by decide +kernel
theorem dL_law_7 : decode cL_law 7 = .ok (.astore_n 1, 1) := by decide +kernel
theorem dL_law_8 : decode cL_law 8 = .ok (.bipush 12, 2) := by decide +kernel
theorem dL_law_10 : decode cL_law 10 = .ok (.newarray .int, 2) := by decide +kernel
theorem dL_law_12 : decode cL_law 12 = .ok (.astore_n 2, 1) := by decide +kernel
theorem dL_law_13 : decode cL_law 13 = .ok (.iconst 5, 1) := by decide +kernel
theorem dL_law_14 : decode cL_law 14 = .ok (.newarray .int, 2) := by decide +kernel
theorem dL_law_16 : decode cL_law 16 = .ok (.astore_n 3, 1) := by decide +kernel
theorem dL_law_17 : decode cL_law 17 = .ok (.iconst 0, 1) := by decide +kernel
theorem dL_law_18 : decode cL_law 18 = .ok (.istore 4, 2) := by decide +kernel
theorem dL_law_20 : decode cL_law 20 = .ok (.iconst 0, 1) := by decide +kernel
theorem dL_law_21 : decode cL_law 21 = .ok (.istore 5, 2) := by decide +kernel
theorem dL_law_23 : decode cL_law 23 = .ok (.iload 5, 2) := by decide +kernel
theorem dL_law_25 : decode cL_law 25 = .ok (.bipush 12, 2) := by decide +kernel
theorem dL_law_27 : decode cL_law 27 = .ok (.if_icmp .ge 14, 3) := by decide +kernel
theorem dL_law_30 : decode cL_law 30 = .ok (.aload_n 2, 1) := by decide +kernel
theorem dL_law_31 : decode cL_law 31 = .ok (.iload 5, 2) := by decide +kernel
theorem dL_law_33 : decode cL_law 33 = .ok (.iconst (-1), 1) := by decide +kernel
theorem dL_law_34 : decode cL_law 34 = .ok (.iastore, 1) := by decide +kernel
theorem dL_law_35 : decode cL_law 35 = .ok (.iinc 5 1, 3) := by decide +kernel
theorem dL_law_38 : decode cL_law 38 = .ok (.goto (-15), 3) := by decide +kernel
theorem dL_law_41 : decode cL_law 41 = .ok (.iconst 0, 1) := by decide +kernel
theorem dL_law_42 : decode cL_law 42 = .ok (.istore 5, 2) := by decide +kernel
theorem dL_law_44 : decode cL_law 44 = .ok (.iload 5, 2) := by decide +kernel
theorem dL_law_46 : decode cL_law 46 = .ok (.bipush 64, 2) := by decide +kernel
theorem dL_law_48 : decode cL_law 48 = .ok (.if_icmp .ge 444, 3) := by decide +kernel
theorem dL_law_51 : decode cL_law 51 = .ok (.aload_n 0, 1) := by decide +kernel
theorem dL_law_52 : decode cL_law 52 = .ok (.iload 5, 2) := by decide +kernel
theorem dL_law_54 : decode cL_law 54 = .ok (.invokestatic 198, 3) := by decide +kernel
theorem dL_law_57 : decode cL_law 57 = .ok (.ldc 8, 2) := by decide +kernel
theorem dL_law_59 : decode cL_law 59 = .ok (.iand, 1) := by decide +kernel
theorem dL_law_60 : decode cL_law 60 = .ok (.istore 6, 2) := by decide +kernel
theorem dL_law_62 : decode cL_law 62 = .ok (.iload 6, 2) := by decide +kernel
theorem dL_law_64 : decode cL_law 64 = .ok (.bipush 31, 2) := by decide +kernel
theorem dL_law_66 : decode cL_law 66 = .ok (.irem, 1) := by decide +kernel
theorem dL_law_67 : decode cL_law 67 = .ok (.istore 7, 2) := by decide +kernel
theorem dL_law_69 : decode cL_law 69 = .ok (.iconst 0, 1) := by decide +kernel
theorem dL_law_70 : decode cL_law 70 = .ok (.istore 8, 2) := by decide +kernel
theorem dL_law_72 : decode cL_law 72 = .ok (.iload 8, 2) := by decide +kernel
theorem dL_law_74 : decode cL_law 74 = .ok (.bipush 31, 2) := by decide +kernel
theorem dL_law_76 : decode cL_law 76 = .ok (.if_icmp .ge 47, 3) := by decide +kernel
theorem dL_law_79 : decode cL_law 79 = .ok (.iload 6, 2) := by decide +kernel
theorem dL_law_81 : decode cL_law 81 = .ok (.iconst 5, 1) := by decide +kernel
theorem dL_law_82 : decode cL_law 82 = .ok (.irem, 1) := by decide +kernel
theorem dL_law_83 : decode cL_law 83 = .ok (.ifCond .le 40, 3) := by decide +kernel
theorem dL_law_86 : decode cL_law 86 = .ok (.iload 4, 2) := by decide +kernel
theorem dL_law_88 : decode cL_law 88 = .ok (.invokestatic 121, 3) := by decide +kernel
theorem dL_law_91 : decode cL_law 91 = .ok (.bipush 31, 2) := by decide +kernel
theorem dL_law_93 : decode cL_law 93 = .ok (.if_icmp .ge 30, 3) := by decide +kernel
theorem dL_law_96 : decode cL_law 96 = .ok (.iload 4, 2) := by decide +kernel
theorem dL_law_98 : decode cL_law 98 = .ok (.iload 7, 2) := by decide +kernel
theorem dL_law_100 : decode cL_law 100 = .ok (.ishr, 1) := by decide +kernel
theorem dL_law_101 : decode cL_law 101 = .ok (.iconst 1, 1) := by decide +kernel
theorem dL_law_102 : decode cL_law 102 = .ok (.iand, 1) := by decide +kernel
theorem dL_law_103 : decode cL_law 103 = .ok (.iconst 1, 1) := by decide +kernel
theorem dL_law_104 : decode cL_law 104 = .ok (.if_icmp .ne 19, 3) := by decide +kernel
theorem dL_law_107 : decode cL_law 107 = .ok (.iload 7, 2) := by decide +kernel
theorem dL_law_109 : decode cL_law 109 = .ok (.bipush 7, 2) := by decide +kernel
theorem dL_law_111 : decode cL_law 111 = .ok (.iadd, 1) := by decide +kernel
theorem dL_law_112 : decode cL_law 112 = .ok (.bipush 31, 2) := by decide +kernel
theorem dL_law_114 : decode cL_law 114 = .ok (.irem, 1) := by decide +kernel
theorem dL_law_115 : decode cL_law 115 = .ok (.istore 7, 2) := by decide +kernel
theorem dL_law_117 : decode cL_law 117 = .ok (.iinc 8 1, 3) := by decide +kernel
theorem dL_law_120 : decode cL_law 120 = .ok (.goto (-48), 3) := by decide +kernel
theorem dL_law_123 : decode cL_law 123 = .ok (.iload 4, 2) := by decide +kernel
theorem dL_law_125 : decode cL_law 125 = .ok (.invokestatic 121, 3) := by decide +kernel
theorem dL_law_128 : decode cL_law 128 = .ok (.bipush 31, 2) := by decide +kernel
theorem dL_law_130 : decode cL_law 130 = .ok (.if_icmp .ne 10, 3) := by decide +kernel
theorem dL_law_133 : decode cL_law 133 = .ok (.iload 6, 2) := by decide +kernel
theorem dL_law_135 : decode cL_law 135 = .ok (.iconst 3, 1) := by decide +kernel
theorem dL_law_136 : decode cL_law 136 = .ok (.irem, 1) := by decide +kernel
theorem dL_law_137 : decode cL_law 137 = .ok (.ifCond .gt 12, 3) := by decide +kernel
theorem dL_law_140 : decode cL_law 140 = .ok (.iload 6, 2) := by decide +kernel
theorem dL_law_142 : decode cL_law 142 = .ok (.bipush 97, 2) := by decide +kernel
theorem dL_law_144 : decode cL_law 144 = .ok (.irem, 1) := by decide +kernel
theorem dL_law_145 : decode cL_law 145 = .ok (.iconst 5, 1) := by decide +kernel
theorem dL_law_146 : decode cL_law 146 = .ok (.if_icmp .ne 48, 3) := by decide +kernel
theorem dL_law_149 : decode cL_law 149 = .ok (.aload_n 1, 1) := by decide +kernel
theorem dL_law_150 : decode cL_law 150 = .ok (.invokevirtual 202, 3) := by decide +kernel
theorem dL_law_153 : decode cL_law 153 = .ok (.iload 4, 2) := by decide +kernel
theorem dL_law_155 : decode cL_law 155 = .ok (.invokestatic 121, 3) := by decide +kernel
theorem dL_law_158 : decode cL_law 158 = .ok (.if_icmp .eq 5, 3) := by decide +kernel
theorem dL_law_161 : decode cL_law 161 = .ok (.iconst 0, 1) := by decide +kernel
theorem dL_law_162 : decode cL_law 162 = .ok (.ireturn, 1) := by decide +kernel
theorem dL_law_163 : decode cL_law 163 = .ok (.iconst 0, 1) := by decide +kernel
theorem dL_law_164 : decode cL_law 164 = .ok (.istore 4, 2) := by decide +kernel
theorem dL_law_166 : decode cL_law 166 = .ok (.aload_n 3, 1) := by decide +kernel
theorem dL_law_167 : decode cL_law 167 = .ok (.iconst 0, 1) := by decide +kernel
