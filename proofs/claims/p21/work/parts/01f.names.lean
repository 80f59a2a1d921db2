theorem dL_sweep_107 : decode cL_sweep 107 = .ok (.iload 5, 2) := by decide +kernel
theorem dL_sweep_109 : decode cL_sweep 109 = .ok (.iconst 4, 1) := by decide +kernel
theorem dL_sweep_110 : decode cL_sweep 110 = .ok (.iadd, 1) := by decide +kernel
theorem dL_sweep_111 : decode cL_sweep 111 = .ok (.iload 7, 2) := by decide +kernel
theorem dL_sweep_113 : decode cL_sweep 113 = .ok (.ifCond .eq 7, 3) := by decide +kernel
theorem dL_sweep_116 : decode cL_sweep 116 = .ok (.iconst 1, 1) := by decide +kernel
theorem dL_sweep_117 : decode cL_sweep 117 = .ok (.goto 9, 3) := by decide +kernel
theorem dL_sweep_120 : decode cL_sweep 120 = .ok (.aload_n 0, 1) := by decide +kernel
theorem dL_sweep_121 : decode cL_sweep 121 = .ok (.iload 5, 2) := by decide +kernel
theorem dL_sweep_123 : decode cL_sweep 123 = .ok (.iconst 4, 1) := by decide +kernel
theorem dL_sweep_124 : decode cL_sweep 124 = .ok (.iadd, 1) := by decide +kernel
theorem dL_sweep_125 : decode cL_sweep 125 = .ok (.iaload, 1) := by decide +kernel
theorem dL_sweep_126 : decode cL_sweep 126 = .ok (.iastore, 1) := by decide +kernel
theorem dL_sweep_127 : decode cL_sweep 127 = .ok (.iload_n 3, 1) := by decide +kernel
theorem dL_sweep_128 : decode cL_sweep 128 = .ok (.iload 7, 2) := by decide +kernel
theorem dL_sweep_130 : decode cL_sweep 130 = .ok (.ifCond .eq 7, 3) := by decide +kernel
theorem dL_sweep_133 : decode cL_sweep 133 = .ok (.iconst 1, 1) := by decide +kernel
theorem dL_sweep_134 : decode cL_sweep 134 = .ok (.goto 4, 3) := by decide +kernel
theorem dL_sweep_137 : decode cL_sweep 137 = .ok (.iconst 0, 1) := by decide +kernel
theorem dL_sweep_138 : decode cL_sweep 138 = .ok (.iadd, 1) := by decide +kernel
theorem dL_sweep_139 : decode cL_sweep 139 = .ok (.istore_n 3, 1) := by decide +kernel
theorem dL_sweep_140 : decode cL_sweep 140 = .ok (.iinc 4 1, 3) := by decide +kernel
theorem dL_sweep_143 : decode cL_sweep 143 = .ok (.goto (-138), 3) := by decide +kernel
theorem dL_sweep_146 : decode cL_sweep 146 = .ok (.iload_n 3, 1) := by decide +kernel
theorem dL_sweep_147 : decode cL_sweep 147 = .ok (.ireturn, 1) := by decide +kernel
set_option maxRecDepth 20000 in
theorem ggL_isSo_X4_now : GoodIn wsL_isSo wsX4_now := goodIn_r _ [5, 6, 129, 130, 131, 132, 133, 134, 135] (by decide +kernel) (by decide +kernel)
set_option maxRecDepth 20000 in
theorem gL_isSo_X4_now : GoodIn wsL_isSo (wsV RL 41 RX4 yX4_now wsX4_now) := goodIn_app (goodIn_of _ (by decide +kernel)) ggL_isSo_X4_now
set_option maxRecDepth 20000 in
theorem ggL_isSo_X4_isTaken : GoodIn wsL_isSo wsX4_isTaken := goodIn_ca (goodIn_r _ [10, 11, 12, 13, 6, 14, 15, 16, 17, 18, 19, 20, 21, 22, 23, 24, 129, 130, 131, 132, 133, 134, 135, 136, 137] (by decide +kernel) (by decide +kernel)) (goodIn_sub (fun _ h => List.mem_cons_of_mem _ (List.mem_append_left _ (List.mem_append_right _ h))) (by decide +kernel))
set_option maxRecDepth 20000 in
theorem gL_isSo_X4_isTaken : GoodIn wsL_isSo (wsV RL 45 RX4 yX4_isTaken wsX4_isTaken) := goodIn_app (goodIn_of _ (by decide +kernel)) ggL_isSo_X4_isTaken
set_option maxRecDepth 20000 in
theorem ggL_isSo_L_isKey : GoodIn wsL_isSo wsL_isKey := goodIn_r _ [28] (by decide +kernel) (by decide +kernel)
set_option maxRecDepth 20000 in
theorem gL_isSo_L_isKey : GoodIn wsL_isSo (va_wsS RL 37 yL_isKey wsL_isKey) := goodIn_app (goodIn_of _ (by decide +kernel)) ggL_isSo_L_isKey
set_option maxRecDepth 20000 in
theorem ggL_isSo_X4_goesOn : GoodIn wsL_isSo wsX4_goesOn := goodIn_ca (goodIn_r _ [32, 33, 34, 35, 36, 37, 38, 39, 40, 41, 42, 43, 44, 45, 46, 129, 130, 131, 132, 133, 134, 135, 138, 139, 140, 141, 142, 143] (by decide +kernel) (by decide +kernel)) (goodIn_sub (fun _ h => List.mem_cons_of_mem _ (List.mem_append_right _ h)) (by decide +kernel))
set_option maxRecDepth 20000 in
theorem gL_isSo_X4_goesOn : GoodIn wsL_isSo (wsV RL 49 RX4 yX4_goesOn wsX4_goesOn) := goodIn_app (goodIn_of _ (by decide +kernel)) ggL_isSo_X4_goesOn
set_option maxRecDepth 20000 in
theorem ggL_isSo_X4_isIn : GoodIn wsL_isSo wsX4_isIn := goodIn_ca (goodIn_r _ [50, 11, 12, 51, 52, 53, 4, 54, 55, 56, 57, 58, 59, 60, 61, 62, 63, 64, 65, 66, 67, 68, 69, 70, 71, 72, 129, 130, 131, 132, 133, 134, 135, 144, 145, 146, 147] (by decide +kernel) (by decide +kernel)) (goodIn_sub (fun _ h => List.mem_cons_of_mem _ (List.mem_append_left _ (List.mem_append_right _ h))) (by decide +kernel))
set_option maxRecDepth 20000 in
theorem gL_isSo_X4_isIn : GoodIn wsL_isSo (wsV RL 52 RX4 yX4_isIn wsX4_isIn) := goodIn_app (goodIn_of _ (by decide +kernel)) ggL_isSo_X4_isIn
set_option maxRecDepth 20000 in
theorem ggL_isSo_L_isIn : GoodIn wsL_isSo wsL_isIn := goodIn_r _ [75] (by decide +kernel) (by decide +kernel)
set_option maxRecDepth 20000 in
theorem gL_isSo_L_isIn : GoodIn wsL_isSo (va_wsS RL 31 yL_isIn wsL_isIn) := goodIn_app (goodIn_of _ (by decide +kernel)) ggL_isSo_L_isIn
set_option maxRecDepth 20000 in
theorem ggL_isSo_X4_allows : GoodIn wsL_isSo wsX4_allows := goodIn_ca (goodIn_r _ [79, 11, 12, 52, 53, 4, 54, 80, 81, 82, 83, 51, 84, 85, 86, 87, 88, 89, 90, 91, 58, 92, 60, 93, 61, 62, 63, 64, 65, 66, 67, 68, 69, 70, 71, 72, 94, 95, 96, 97, 98, 99, 100, 101, 102, 6, 103, 129, 130, 131, 132, 133, 134, 135, 144, 145, 146, 147] (by decide +kernel) (by decide +kernel)) (goodIn_sub (fun _ h => List.mem_cons_of_mem _ (List.mem_append_left _ (List.mem_append_right _ h))) (by decide +kernel))
set_option maxRecDepth 20000 in
theorem gL_isSo_X4_allows : GoodIn wsL_isSo (wsV RL 55 RX4 yX4_allows wsX4_allows) := goodIn_app (goodIn_of _ (by decide +kernel)) ggL_isSo_X4_allows
set_option maxRecDepth 20000 in
theorem ggL_isSo_L_allows : GoodIn wsL_isSo wsL_allows := goodIn_r _ [106, 73, 74, 27, 75] (by decide +kernel) (by decide +kernel)
set_option maxRecDepth 20000 in
theorem gL_isSo_L_allows : GoodIn wsL_isSo (va_wsS RL 58 yL_allows wsL_allows) := goodIn_app (goodIn_of _ (by decide +kernel)) ggL_isSo_L_allows
set_option maxRecDepth 20000 in
theorem ggL_isSo_X4_stale : GoodIn wsL_isSo wsX4_stale := goodIn_ca (goodIn_r _ [110, 11, 12, 52, 53, 4, 54, 111, 112, 113, 114, 115, 116, 117, 118, 119, 120, 121, 122, 123, 124, 125, 126, 127, 128, 80, 81, 82, 83, 51, 84, 85, 86, 87, 88, 89, 90, 91, 58, 92, 60, 93, 61, 62, 63, 64, 65, 66, 67, 68, 69, 70, 71, 72, 94, 95, 96, 97, 98, 99, 100, 101, 102, 6, 103, 129, 130, 131, 132, 133, 134, 135, 148, 149, 150, 144, 145, 146, 147] (by decide +kernel) (by decide +kernel)) (goodIn_sub (fun _ h => List.mem_cons_of_mem _ (List.mem_append_left _ (List.mem_append_right _ h))) (by decide +kernel))
set_option maxRecDepth 20000 in
theorem gL_isSo_X4_stale : GoodIn wsL_isSo (wsV RL 61 RX4 yX4_stale wsX4_stale) := goodIn_app (goodIn_of _ (by decide +kernel)) ggL_isSo_X4_stale
theorem dL_isSo_0 : decode cL_isSo 0 = .ok (.aload_n 0, 1) := by decide +kernel
theorem dL_isSo_1 : decode cL_isSo 1 = .ok (.invokevirtual 41, 3) := by decide +kernel
theorem dL_isSo_4 : decode cL_isSo 4 = .ok (.aload 8, 2) := by decide +kernel
theorem dL_isSo_6 : decode cL_isSo 6 = .ok (.iconst 0, 1) := by decide +kernel
theorem dL_isSo_7 : decode cL_isSo 7 = .ok (.iaload, 1) := by decide +kernel
theorem dL_isSo_8 : decode cL_isSo 8 = .ok (.if_icmp .ne 18, 3) := by decide +kernel
theorem dL_isSo_11 : decode cL_isSo 11 = .ok (.aload_n 0, 1) := by decide +kernel
theorem dL_isSo_12 : decode cL_isSo 12 = .ok (.aload 8, 2) := by decide +kernel
theorem dL_isSo_14 : decode cL_isSo 14 = .ok (.iconst 2, 1) := by decide +kernel
theorem dL_isSo_15 : decode cL_isSo 15 = .ok (.iaload, 1) := by decide +kernel
theorem dL_isSo_16 : decode cL_isSo 16 = .ok (.invokevirtual 45, 3) := by decide +kernel
theorem dL_isSo_19 : decode cL_isSo 19 = .ok (.ifCond .eq 7, 3) := by decide +kernel
theorem dL_isSo_22 : decode cL_isSo 22 = .ok (.iconst 1, 1) := by decide +kernel
theorem dL_isSo_23 : decode cL_isSo 23 = .ok (.goto 4, 3) := by decide +kernel
theorem dL_isSo_26 : decode cL_isSo 26 = .ok (.iconst 0, 1) := by decide +kernel
theorem dL_isSo_27 : decode cL_isSo 27 = .ok (.istore 9, 2) := by decide +kernel
theorem dL_isSo_29 : decode cL_isSo 29 = .ok (.aload 8, 2) := by decide +kernel
theorem dL_isSo_31 : decode cL_isSo 31 = .ok (.iconst 2, 1) := by decide +kernel
theorem dL_isSo_32 : decode cL_isSo 32 = .ok (.iaload, 1) := by decide +kernel
theorem dL_isSo_33 : decode cL_isSo 33 = .ok (.iconst 2, 1) := by decide +kernel
theorem dL_isSo_34 : decode cL_isSo 34 = .ok (.if_icmp .le 12, 3) := by decide +kernel
theorem dL_isSo_37 : decode cL_isSo 37 = .ok (.aload 8, 2) := by decide +kernel
theorem dL_isSo_39 : decode cL_isSo 39 = .ok (.iconst 2, 1) := by decide +kernel
theorem dL_isSo_40 : decode cL_isSo 40 = .ok (.iaload, 1) := by decide +kernel
theorem dL_isSo_41 : decode cL_isSo 41 = .ok (.iconst 2, 1) := by decide +kernel
theorem dL_isSo_42 : decode cL_isSo 42 = .ok (.isub, 1) := by decide +kernel
theorem dL_isSo_43 : decode cL_isSo 43 = .ok (.goto 4, 3) := by decide +kernel
theorem dL_isSo_46 : decode cL_isSo 46 = .ok (.iconst 0, 1) := by decide +kernel
theorem dL_isSo_47 : decode cL_isSo 47 = .ok (.istore 10, 2) := by decide +kernel
theorem dL_isSo_49 : decode cL_isSo 49 = .ok (.iload 10, 2) := by decide +kernel
theorem dL_isSo_51 : decode cL_isSo 51 = .ok (.aload 8, 2) := by decide +kernel
theorem dL_isSo_53 : decode cL_isSo 53 = .ok (.iconst 2, 1) := by decide +kernel
theorem dL_isSo_54 : decode cL_isSo 54 = .ok (.iaload, 1) := by decide +kernel
theorem dL_isSo_55 : decode cL_isSo 55 = .ok (.if_icmp .ge 37, 3) := by decide +kernel
theorem dL_isSo_58 : decode cL_isSo 58 = .ok (.iload 9, 2) := by decide +kernel
theorem dL_isSo_60 : decode cL_isSo 60 = .ok (.ifCond .eq 32, 3) := by decide +kernel
theorem dL_isSo_63 : decode cL_isSo 63 = .ok (.aload_n 0, 1) := by decide +kernel
theorem dL_isSo_64 : decode cL_isSo 64 = .ok (.iload 10, 2) := by decide +kernel
theorem dL_isSo_66 : decode cL_isSo 66 = .ok (.invokevirtual 45, 3) := by decide +kernel
theorem dL_isSo_69 : decode cL_isSo 69 = .ok (.iload 10, 2) := by decide +kernel
theorem dL_isSo_71 : decode cL_isSo 71 = .ok (.aload 8, 2) := by decide +kernel
theorem dL_isSo_73 : decode cL_isSo 73 = .ok (.invokestatic 37, 3) := by decide +kernel
theorem dL_isSo_76 : decode cL_isSo 76 = .ok (.if_icmp .ne 7, 3) := by decide +kernel
theorem dL_isSo_79 : decode cL_isSo 79 = .ok (.iconst 1, 1) := by decide +kernel
theorem dL_isSo_80 : decode cL_isSo 80 = .ok (.goto 4, 3) := by decide +kernel
theorem dL_isSo_83 : decode cL_isSo 83 = .ok (.iconst 0, 1) := by decide +kernel
theorem dL_isSo_84 : decode cL_isSo 84 = .ok (.istore 9, 2) := by decide +kernel
theorem dL_isSo_86 : decode cL_isSo 86 = .ok (.iinc 10 1, 3) := by decide +kernel
theorem dL_isSo_89 : decode cL_isSo 89 = .ok (.goto (-40), 3) := by decide +kernel
theorem dL_isSo_92 : decode cL_isSo 92 = .ok (.iconst 0, 1) := by decide +kernel
theorem dL_isSo_93 : decode cL_isSo 93 = .ok (.istore 10, 2) := by decide +kernel
theorem dL_isSo_95 : decode cL_isSo 95 = .ok (.iload 10, 2) := by decide +kernel
theorem dL_isSo_97 : decode cL_isSo 97 = .ok (.aload 8, 2) := by decide +kernel
theorem dL_isSo_99 : decode cL_isSo 99 = .ok (.iconst 1, 1) := by decide +kernel
theorem dL_isSo_100 : decode cL_isSo 100 = .ok (.iaload, 1) := by decide +kernel
theorem dL_isSo_101 : decode cL_isSo 101 = .ok (.if_icmp .ge 47, 3) := by decide +kernel
theorem dL_isSo_104 : decode cL_isSo 104 = .ok (.iload 9, 2) := by decide +kernel
theorem dL_isSo_106 : decode cL_isSo 106 = .ok (.ifCond .eq 42, 3) := by decide +kernel
theorem dL_isSo_109 : decode cL_isSo 109 = .ok (.aload_n 0, 1) := by decide +kernel
theorem dL_isSo_110 : decode cL_isSo 110 = .ok (.iload 10, 2) := by decide +kernel
theorem dL_isSo_112 : decode cL_isSo 112 = .ok (.invokevirtual 49, 3) := by decide +kernel
theorem dL_isSo_115 : decode cL_isSo 115 = .ok (.aload 5, 2) := by decide +kernel
theorem dL_isSo_117 : decode cL_isSo 117 = .ok (.iconst 5, 1) := by decide +kernel
theorem dL_isSo_118 : decode cL_isSo 118 = .ok (.iload 10, 2) := by decide +kernel
theorem dL_isSo_120 : decode cL_isSo 120 = .ok (.imul, 1) := by decide +kernel
theorem dL_isSo_121 : decode cL_isSo 121 = .ok (.iconst 4, 1) := by decide +kernel
theorem dL_isSo_122 : decode cL_isSo 122 = .ok (.iadd, 1) := by decide +kernel
theorem dL_isSo_123 : decode cL_isSo 123 = .ok (.iaload, 1) := by decide +kernel
theorem dL_isSo_124 : decode cL_isSo 124 = .ok (.ifCond .ne 7, 3) := by decide +kernel
theorem dL_isSo_127 : decode cL_isSo 127 = .ok (.iconst 1, 1) := by decide +kernel
theorem dL_isSo_128 : decode cL_isSo 128 = .ok (.goto 4, 3) := by decide +kernel
theorem dL_isSo_131 : decode cL_isSo 131 = .ok (.iconst 0, 1) := by decide +kernel
theorem dL_isSo_132 : decode cL_isSo 132 = .ok (.if_icmp .ne 7, 3) := by decide +kernel
theorem dL_isSo_135 : decode cL_isSo 135 = .ok (.iconst 1, 1) := by decide +kernel
theorem dL_isSo_136 : decode cL_isSo 136 = .ok (.goto 4, 3) := by decide +kernel
theorem dL_isSo_139 : decode cL_isSo 139 = .ok (.iconst 0, 1) := by decide +kernel
theorem dL_isSo_140 : decode cL_isSo 140 = .ok (.istore 9, 2) := by decide +kernel
theorem dL_isSo_142 : decode cL_isSo 142 = .ok (.iinc 10 1, 3) := by decide +kernel
theorem dL_isSo_145 : decode cL_isSo 145 = .ok (.goto (-50), 3) := by decide +kernel
theorem dL_isSo_148 : decode cL_isSo 148 = .ok (.iconst 0, 1) := by decide +kernel
theorem dL_isSo_149 : decode cL_isSo 149 = .ok (.istore 10, 2) := by decide +kernel
theorem dL_isSo_151 : decode cL_isSo 151 = .ok (.iload 10, 2) := by decide +kernel
theorem dL_isSo_153 : decode cL_isSo 153 = .ok (.iconst 5, 1) := by decide +kernel
theorem dL_isSo_154 : decode cL_isSo 154 = .ok (.if_icmp .ge 112, 3) := by decide +kernel
theorem dL_isSo_157 : decode cL_isSo 157 = .ok (.iload 9, 2) := by decide +kernel
theorem dL_isSo_159 : decode cL_isSo 159 = .ok (.ifCond .eq 107, 3) := by decide +kernel
theorem dL_isSo_162 : decode cL_isSo 162 = .ok (.iconst 0, 1) := by decide +kernel
theorem dL_isSo_163 : decode cL_isSo 163 = .ok (.istore 11, 2) := by decide +kernel
theorem dL_isSo_165 : decode cL_isSo 165 = .ok (.iload 11, 2) := by decide +kernel
theorem dL_isSo_167 : decode cL_isSo 167 = .ok (.iconst 4, 1) := by decide +kernel
theorem dL_isSo_168 : decode cL_isSo 168 = .ok (.if_icmp .ge 40, 3) := by decide +kernel
theorem dL_isSo_171 : decode cL_isSo 171 = .ok (.iload 9, 2) := by decide +kernel
theorem dL_isSo_173 : decode cL_isSo 173 = .ok (.ifCond .eq 35, 3) := by decide +kernel
theorem dL_isSo_176 : decode cL_isSo 176 = .ok (.aload_n 0, 1) := by decide +kernel
theorem dL_isSo_177 : decode cL_isSo 177 = .ok (.iload 11, 2) := by decide +kernel
theorem dL_isSo_179 : decode cL_isSo 179 = .ok (.iload 10, 2) := by decide +kernel
theorem dL_isSo_181 : decode cL_isSo 181 = .ok (.invokevirtual 52, 3) := by decide +kernel
theorem dL_isSo_184 : decode cL_isSo 184 = .ok (.iload 11, 2) := by decide +kernel
theorem dL_isSo_186 : decode cL_isSo 186 = .ok (.iload 10, 2) := by decide +kernel
theorem dL_isSo_188 : decode cL_isSo 188 = .ok (.aload_n 1, 1) := by decide +kernel
theorem dL_isSo_189 : decode cL_isSo 189 = .ok (.invokestatic 31, 3) := by decide +kernel
theorem dL_isSo_192 : decode cL_isSo 192 = .ok (.if_icmp .ne 7, 3) := by decide +kernel
theorem dL_isSo_195 : decode cL_isSo 195 = .ok (.iconst 1, 1) := by decide +kernel
theorem dL_isSo_196 : decode cL_isSo 196 = .ok (.goto 4, 3) := by decide +kernel
theorem dL_isSo_199 : decode cL_isSo 199 = .ok (.iconst 0, 1) := by decide +kernel
theorem dL_isSo_200 : decode cL_isSo 200 = .ok (.istore 9, 2) := by decide +kernel
theorem dL_isSo_202 : decode cL_isSo 202 = .ok (.iinc 11 1, 3) := by decide +kernel
theorem dL_isSo_205 : decode cL_isSo 205 = .ok (.goto (-40), 3) := by decide +kernel
theorem dL_isSo_208 : decode cL_isSo 208 = .ok (.iconst 0, 1) := by decide +kernel
theorem dL_isSo_209 : decode cL_isSo 209 = .ok (.istore 11, 2) := by decide +kernel
theorem dL_isSo_211 : decode cL_isSo 211 = .ok (.iload 11, 2) := by decide +kernel
theorem dL_isSo_213 : decode cL_isSo 213 = .ok (.iconst 3, 1) := by decide +kernel
theorem dL_isSo_214 : decode cL_isSo 214 = .ok (.if_icmp .ge 46, 3) := by decide +kernel
theorem dL_isSo_217 : decode cL_isSo 217 = .ok (.iload 9, 2) := by decide +kernel
theorem dL_isSo_219 : decode cL_isSo 219 = .ok (.ifCond .eq 41, 3) := by decide +kernel
theorem dL_isSo_222 : decode cL_isSo 222 = .ok (.aload_n 0, 1) := by decide +kernel
theorem dL_isSo_223 : decode cL_isSo 223 = .ok (.iload 10, 2) := by decide +kernel
theorem dL_isSo_225 : decode cL_isSo 225 = .ok (.iload 11, 2) := by decide +kernel
theorem dL_isSo_227 : decode cL_isSo 227 = .ok (.invokevirtual 55, 3) := by decide +kernel
theorem dL_isSo_230 : decode cL_isSo 230 = .ok (.iload 10, 2) := by decide +kernel
theorem dL_isSo_232 : decode cL_isSo 232 = .ok (.iload 11, 2) := by decide +kernel
theorem dL_isSo_234 : decode cL_isSo 234 = .ok (.aload_n 1, 1) := by decide +kernel
theorem dL_isSo_235 : decode cL_isSo 235 = .ok (.aload_n 2, 1) := by decide +kernel
theorem dL_isSo_236 : decode cL_isSo 236 = .ok (.aload_n 3, 1) := by decide +kernel
theorem dL_isSo_237 : decode cL_isSo 237 = .ok (.aload 4, 2) := by decide +kernel
theorem dL_isSo_239 : decode cL_isSo 239 = .ok (.aload 8, 2) := by decide +kernel
theorem dL_isSo_241 : decode cL_isSo 241 = .ok (.invokestatic 58, 3) := by decide +kernel
theorem dL_isSo_244 : decode cL_isSo 244 = .ok (.if_icmp .ne 7, 3) := by decide +kernel
theorem dL_isSo_247 : decode cL_isSo 247 = .ok (.iconst 1, 1) := by decide +kernel
theorem dL_isSo_248 : decode cL_isSo 248 = .ok (.goto 4, 3) := by decide +kernel
theorem dL_isSo_251 : decode cL_isSo 251 = .ok (.iconst 0, 1) := by decide +kernel
theorem dL_isSo_252 : decode cL_isSo 252 = .ok (.istore 9, 2) := by decide +kernel
theorem dL_isSo_254 : decode cL_isSo 254 = .ok (.iinc 11 1, 3) := by decide +kernel
theorem dL_isSo_257 : decode cL_isSo 257 = .ok (.goto (-46), 3) := by decide +kernel
theorem dL_isSo_260 : decode cL_isSo 260 = .ok (.iinc 10 1, 3) := by decide +kernel
theorem dL_isSo_263 : decode cL_isSo 263 = .ok (.goto (-112), 3) := by decide +kernel
theorem dL_isSo_266 : decode cL_isSo 266 = .ok (.iconst 0, 1) := by decide +kernel
theorem dL_isSo_267 : decode cL_isSo 267 = .ok (.istore 10, 2) := by decide +kernel
theorem dL_isSo_269 : decode cL_isSo 269 = .ok (.iload 10, 2) := by decide +kernel
theorem dL_isSo_271 : decode cL_isSo 271 = .ok (.iconst 2, 1) := by decide +kernel
theorem dL_isSo_272 : decode cL_isSo 272 = .ok (.if_icmp .ge 132, 3) := by decide +kernel
theorem dL_isSo_275 : decode cL_isSo 275 = .ok (.iload 9, 2) := by decide +kernel
theorem dL_isSo_277 : decode cL_isSo 277 = .ok (.ifCond .eq 127, 3) := by decide +kernel
theorem dL_isSo_280 : decode cL_isSo 280 = .ok (.iconst 0, 1) := by decide +kernel
theorem dL_isSo_281 : decode cL_isSo 281 = .ok (.istore 11, 2) := by decide +kernel
theorem dL_isSo_283 : decode cL_isSo 283 = .ok (.iconst 0, 1) := by decide +kernel
theorem dL_isSo_284 : decode cL_isSo 284 = .ok (.istore 12, 2) := by decide +kernel
theorem dL_isSo_286 : decode cL_isSo 286 = .ok (.iload 12, 2) := by decide +kernel
theorem dL_isSo_288 : decode cL_isSo 288 = .ok (.bipush 15, 2) := by decide +kernel
theorem dL_isSo_290 : decode cL_isSo 290 = .ok (.if_icmp .ge 90, 3) := by decide +kernel
theorem dL_isSo_293 : decode cL_isSo 293 = .ok (.aload 6, 2) := by decide +kernel
theorem dL_isSo_295 : decode cL_isSo 295 = .ok (.bipush 15, 2) := by decide +kernel
theorem dL_isSo_297 : decode cL_isSo 297 = .ok (.iload 10, 2) := by decide +kernel
theorem dL_isSo_299 : decode cL_isSo 299 = .ok (.imul, 1) := by decide +kernel
theorem dL_isSo_300 : decode cL_isSo 300 = .ok (.iload 12, 2) := by decide +kernel
theorem dL_isSo_302 : decode cL_isSo 302 = .ok (.iadd, 1) := by decide +kernel
theorem dL_isSo_303 : decode cL_isSo 303 = .ok (.iaload, 1) := by decide +kernel
theorem dL_isSo_304 : decode cL_isSo 304 = .ok (.aload 8, 2) := by decide +kernel
theorem dL_isSo_306 : decode cL_isSo 306 = .ok (.iconst 0, 1) := by decide +kernel
theorem dL_isSo_307 : decode cL_isSo 307 = .ok (.iaload, 1) := by decide +kernel
theorem dL_isSo_308 : decode cL_isSo 308 = .ok (.if_icmp .le 7, 3) := by decide +kernel
theorem dL_isSo_311 : decode cL_isSo 311 = .ok (.iconst 1, 1) := by decide +kernel
theorem dL_isSo_312 : decode cL_isSo 312 = .ok (.goto 4, 3) := by decide +kernel
theorem dL_isSo_315 : decode cL_isSo 315 = .ok (.iconst 0, 1) := by decide +kernel
theorem dL_isSo_316 : decode cL_isSo 316 = .ok (.istore 13, 2) := by decide +kernel
theorem dL_isSo_318 : decode cL_isSo 318 = .ok (.iload 11, 2) := by decide +kernel
theorem dL_isSo_320 : decode cL_isSo 320 = .ok (.iload 13, 2) := by decide +kernel
theorem dL_isSo_322 : decode cL_isSo 322 = .ok (.ifCond .eq 48, 3) := by decide +kernel
theorem dL_isSo_325 : decode cL_isSo 325 = .ok (.aload 7, 2) := by decide +kernel
theorem dL_isSo_327 : decode cL_isSo 327 = .ok (.bipush 15, 2) := by decide +kernel
theorem dL_isSo_329 : decode cL_isSo 329 = .ok (.iload 10, 2) := by decide +kernel
theorem dL_isSo_331 : decode cL_isSo 331 = .ok (.imul, 1) := by decide +kernel
theorem dL_isSo_332 : decode cL_isSo 332 = .ok (.iload 12, 2) := by decide +kernel
theorem dL_isSo_334 : decode cL_isSo 334 = .ok (.iadd, 1) := by decide +kernel
theorem dL_isSo_335 : decode cL_isSo 335 = .ok (.iaload, 1) := by decide +kernel
theorem dL_isSo_336 : decode cL_isSo 336 = .ok (.iconst 1, 1) := by decide +kernel
theorem dL_isSo_337 : decode cL_isSo 337 = .ok (.if_icmp .ne 7, 3) := by decide +kernel
theorem dL_isSo_340 : decode cL_isSo 340 = .ok (.iconst 1, 1) := by decide +kernel
theorem dL_isSo_341 : decode cL_isSo 341 = .ok (.goto 4, 3) := by decide +kernel
theorem dL_isSo_344 : decode cL_isSo 344 = .ok (.iconst 0, 1) := by decide +kernel
theorem dL_isSo_345 : decode cL_isSo 345 = .ok (.iload 12, 2) := by decide +kernel
theorem dL_isSo_347 : decode cL_isSo 347 = .ok (.iconst 3, 1) := by decide +kernel
theorem dL_isSo_348 : decode cL_isSo 348 = .ok (.idiv, 1) := by decide +kernel
theorem dL_isSo_349 : decode cL_isSo 349 = .ok (.iload 12, 2) := by decide +kernel
theorem dL_isSo_351 : decode cL_isSo 351 = .ok (.iconst 3, 1) := by decide +kernel
theorem dL_isSo_352 : decode cL_isSo 352 = .ok (.irem, 1) := by decide +kernel
theorem dL_isSo_353 : decode cL_isSo 353 = .ok (.aload_n 1, 1) := by decide +kernel
theorem dL_isSo_354 : decode cL_isSo 354 = .ok (.aload_n 2, 1) := by decide +kernel
theorem dL_isSo_355 : decode cL_isSo 355 = .ok (.aload_n 3, 1) := by decide +kernel
theorem dL_isSo_356 : decode cL_isSo 356 = .ok (.aload 4, 2) := by decide +kernel
theorem dL_isSo_358 : decode cL_isSo 358 = .ok (.aload 8, 2) := by decide +kernel
theorem dL_isSo_360 : decode cL_isSo 360 = .ok (.invokestatic 58, 3) := by decide +kernel
theorem dL_isSo_363 : decode cL_isSo 363 = .ok (.if_icmp .eq 7, 3) := by decide +kernel
theorem dL_isSo_366 : decode cL_isSo 366 = .ok (.iconst 1, 1) := by decide +kernel
theorem dL_isSo_367 : decode cL_isSo 367 = .ok (.goto 4, 3) := by decide +kernel
theorem dL_isSo_370 : decode cL_isSo 370 = .ok (.iconst 0, 1) := by decide +kernel
theorem dL_isSo_371 : decode cL_isSo 371 = .ok (.iadd, 1) := by decide +kernel
theorem dL_isSo_372 : decode cL_isSo 372 = .ok (.istore 11, 2) := by decide +kernel
theorem dL_isSo_374 : decode cL_isSo 374 = .ok (.iinc 12 1, 3) := by decide +kernel
theorem dL_isSo_377 : decode cL_isSo 377 = .ok (.goto (-91), 3) := by decide +kernel
theorem dL_isSo_380 : decode cL_isSo 380 = .ok (.aload_n 0, 1) := by decide +kernel
theorem dL_isSo_381 : decode cL_isSo 381 = .ok (.iload 10, 2) := by decide +kernel
theorem dL_isSo_383 : decode cL_isSo 383 = .ok (.invokevirtual 61, 3) := by decide +kernel
theorem dL_isSo_386 : decode cL_isSo 386 = .ok (.iload 11, 2) := by decide +kernel
theorem dL_isSo_388 : decode cL_isSo 388 = .ok (.if_icmp .ne 7, 3) := by decide +kernel
theorem dL_isSo_391 : decode cL_isSo 391 = .ok (.iconst 1, 1) := by decide +kernel
theorem dL_isSo_392 : decode cL_isSo 392 = .ok (.goto 4, 3) := by decide +kernel
theorem dL_isSo_395 : decode cL_isSo 395 = .ok (.iconst 0, 1) := by decide +kernel
theorem dL_isSo_396 : decode cL_isSo 396 = .ok (.istore 9, 2) := by decide +kernel
theorem dL_isSo_398 : decode cL_isSo 398 = .ok (.iinc 10 1, 3) := by decide +kernel
theorem dL_isSo_401 : decode cL_isSo 401 = .ok (.goto (-132), 3) := by decide +kernel
theorem dL_isSo_404 : decode cL_isSo 404 = .ok (.iload 9, 2) := by decide +kernel
theorem dL_isSo_406 : decode cL_isSo 406 = .ok (.ireturn, 1) := by decide +kernel
set_option maxRecDepth 20000 in
theorem ggL_sets_L_low : GoodIn wsL_sets wsL_low := goodIn_r _ [4, 5] (by decide +kernel) (by decide +kernel)
set_option maxRecDepth 20000 in
theorem gL_sets_L_low : GoodIn wsL_sets (va_wsS RL 64 yL_low wsL_low) := goodIn_app (goodIn_of _ (by decide +kernel)) ggL_sets_L_low
set_option maxRecDepth 20000 in
theorem ggL_sets_X4_setPerson : GoodIn wsL_sets wsX4_setPerson := goodIn_ca (goodIn_r _ [10, 11, 12, 13, 14, 15, 9, 16, 17, 18, 19, 20, 21, 22, 23, 24, 25, 26, 27, 28, 148, 149, 150, 151, 152, 153, 154, 155, 156, 157, 158] (by decide +kernel) (by decide +kernel)) (goodIn_sub (fun _ h => List.mem_cons_of_mem _ (List.mem_append_left _ (List.mem_append_left _ (List.mem_append_right _ h)))) (by decide +kernel))
set_option maxRecDepth 20000 in
theorem gL_sets_X4_setPerson : GoodIn wsL_sets (wsV RL 68 RX4 yX4_setPerson wsX4_setPerson) := goodIn_app (goodIn_of _ (by decide +kernel)) ggL_sets_X4_setPerson
set_option maxRecDepth 20000 in
theorem ggL_sets_L_calls : GoodIn wsL_sets wsL_calls := goodIn_ca (goodIn_ca (goodIn_ca (goodIn_r _ [31, 32, 33, 34, 35, 36, 9, 37, 11, 12, 38, 39, 13, 14, 15, 16, 40, 41, 42, 20, 43, 44, 45, 46, 47, 48, 49, 50, 51, 52, 23, 24, 25, 53, 54, 55, 56, 26, 27, 28, 57, 58, 59, 60, 61, 62, 63, 64, 65, 66, 67, 68, 69, 70, 71, 72, 73, 74, 75, 76, 77, 78, 79, 80, 81, 82, 83, 84, 85, 86, 87, 88, 89, 90, 91, 92, 93, 94, 95, 96, 97, 98, 99, 100, 101, 102, 103, 104, 105, 106, 107, 108, 109, 110, 111, 112, 113, 114, 115, 116, 117, 118, 119, 120, 121, 122, 123, 124, 22, 125, 148, 149, 150, 151, 152, 153, 154, 155, 156, 157, 158, 159, 160, 161, 162, 163, 164, 165, 166] (by decide +kernel) (by decide +kernel)) (goodIn_sub (fun _ h => List.mem_cons_of_mem _ (List.mem_append_left _ (List.mem_append_left _ (List.mem_append_right _ h)))) (by decide +kernel))) (goodIn_sub (fun _ h => List.mem_cons_of_mem _ (List.mem_append_left _ (List.mem_append_right _ h))) (by decide +kernel))) (goodIn_sub (fun _ h => List.mem_cons_of_mem _ (List.mem_append_right _ h)) (by decide +kernel))
set_option maxRecDepth 20000 in
theorem gL_sets_L_calls : GoodIn wsL_sets (va_wsS RL 71 yL_calls wsL_calls) := goodIn_app (goodIn_of _ (by decide +kernel)) ggL_sets_L_calls
set_option maxRecDepth 20000 in
theorem ggL_sets_X4_setRole : GoodIn wsL_sets wsX4_setRole := goodIn_ca (goodIn_r _ [129, 11, 12, 13, 14, 15, 9, 16, 130, 131, 132, 20, 133, 125, 134, 135, 136, 137, 138, 23, 24, 25, 26, 27, 28, 148, 149, 150, 151, 152, 153, 154, 155, 156, 157, 158] (by decide +kernel) (by decide +kernel)) (goodIn_sub (fun _ h => List.mem_cons_of_mem _ (List.mem_append_left _ (List.mem_append_left _ (List.mem_append_right _ h)))) (by decide +kernel))
set_option maxRecDepth 20000 in
theorem gL_sets_X4_setRole : GoodIn wsL_sets (wsV RL 75 RX4 yX4_setRole wsX4_setRole) := goodIn_app (goodIn_of _ (by decide +kernel)) ggL_sets_X4_setRole
set_option maxRecDepth 20000 in
theorem ggL_sets_X4_setRisk : GoodIn wsL_sets wsX4_setRisk := goodIn_ca (goodIn_r _ [142, 11, 12, 68, 61, 14, 15, 9, 16, 143, 144, 145, 72, 146, 74, 103, 85, 147, 105, 106, 107, 148, 149, 150, 151, 152, 153, 154, 159, 160, 161, 162, 163, 164] (by decide +kernel) (by decide +kernel)) (goodIn_sub (fun _ h => List.mem_cons_of_mem _ (List.mem_append_left _ (List.mem_append_left _ (List.mem_append_right _ h)))) (by decide +kernel))
set_option maxRecDepth 20000 in
theorem gL_sets_X4_setRisk : GoodIn wsL_sets (wsV RL 79 RX4 yX4_setRisk wsX4_setRisk) := goodIn_app (goodIn_of _ (by decide +kernel)) ggL_sets_X4_setRisk
theorem dL_sets_0 : decode cL_sets 0 = .ok (.iload_n 2, 1) := by decide +kernel
theorem dL_sets_1 : decode cL_sets 1 = .ok (.iconst 4, 1) := by decide +kernel
theorem dL_sets_2 : decode cL_sets 2 = .ok (.invokestatic 64, 3) := by decide +kernel
theorem dL_sets_5 : decode cL_sets 5 = .ok (.istore 8, 2) := by decide +kernel
theorem dL_sets_7 : decode cL_sets 7 = .ok (.iload_n 1, 1) := by decide +kernel
theorem dL_sets_8 : decode cL_sets 8 = .ok (.iconst 2, 1) := by decide +kernel
theorem dL_sets_9 : decode cL_sets 9 = .ok (.if_icmp .ge 108, 3) := by decide +kernel
theorem dL_sets_12 : decode cL_sets 12 = .ok (.iload_n 2, 1) := by decide +kernel
theorem dL_sets_13 : decode cL_sets 13 = .ok (.iconst 3, 1) := by decide +kernel
theorem dL_sets_14 : decode cL_sets 14 = .ok (.ishr, 1) := by decide +kernel
theorem dL_sets_15 : decode cL_sets 15 = .ok (.iconst 5, 1) := by decide +kernel
theorem dL_sets_16 : decode cL_sets 16 = .ok (.invokestatic 64, 3) := by decide +kernel
theorem dL_sets_19 : decode cL_sets 19 = .ok (.istore 9, 2) := by decide +kernel
theorem dL_sets_21 : decode cL_sets 21 = .ok (.iload_n 2, 1) := by decide +kernel
theorem dL_sets_22 : decode cL_sets 22 = .ok (.bipush 6, 2) := by decide +kernel
theorem dL_sets_24 : decode cL_sets 24 = .ok (.ishr, 1) := by decide +kernel
theorem dL_sets_25 : decode cL_sets 25 = .ok (.iconst 4, 1) := by decide +kernel
theorem dL_sets_26 : decode cL_sets 26 = .ok (.invokestatic 64, 3) := by decide +kernel
theorem dL_sets_29 : decode cL_sets 29 = .ok (.ifCond .le 7, 3) := by decide +kernel
theorem dL_sets_32 : decode cL_sets 32 = .ok (.iconst 1, 1) := by decide +kernel
theorem dL_sets_33 : decode cL_sets 33 = .ok (.goto 4, 3) := by decide +kernel
theorem dL_sets_36 : decode cL_sets 36 = .ok (.iconst 0, 1) := by decide +kernel
theorem dL_sets_37 : decode cL_sets 37 = .ok (.istore 10, 2) := by decide +kernel
theorem dL_sets_39 : decode cL_sets 39 = .ok (.aload_n 3, 1) := by decide +kernel
theorem dL_sets_40 : decode cL_sets 40 = .ok (.iload 8, 2) := by decide +kernel
theorem dL_sets_42 : decode cL_sets 42 = .ok (.iaload, 1) := by decide +kernel
theorem dL_sets_43 : decode cL_sets 43 = .ok (.iload 9, 2) := by decide +kernel
theorem dL_sets_45 : decode cL_sets 45 = .ok (.ishr, 1) := by decide +kernel
theorem dL_sets_46 : decode cL_sets 46 = .ok (.iconst 1, 1) := by decide +kernel
theorem dL_sets_47 : decode cL_sets 47 = .ok (.iand, 1) := by decide +kernel
theorem dL_sets_48 : decode cL_sets 48 = .ok (.iconst 1, 1) := by decide +kernel
theorem dL_sets_49 : decode cL_sets 49 = .ok (.if_icmp .ne 7, 3) := by decide +kernel
theorem dL_sets_52 : decode cL_sets 52 = .ok (.iconst 1, 1) := by decide +kernel
theorem dL_sets_53 : decode cL_sets 53 = .ok (.goto 4, 3) := by decide +kernel
theorem dL_sets_56 : decode cL_sets 56 = .ok (.iconst 0, 1) := by decide +kernel
theorem dL_sets_57 : decode cL_sets 57 = .ok (.istore 11, 2) := by decide +kernel
theorem dL_sets_59 : decode cL_sets 59 = .ok (.aload_n 3, 1) := by decide +kernel
theorem dL_sets_60 : decode cL_sets 60 = .ok (.iload 8, 2) := by decide +kernel
theorem dL_sets_62 : decode cL_sets 62 = .ok (.aload_n 3, 1) := by decide +kernel
theorem dL_sets_63 : decode cL_sets 63 = .ok (.iload 8, 2) := by decide +kernel
theorem dL_sets_65 : decode cL_sets 65 = .ok (.iaload, 1) := by decide +kernel
theorem dL_sets_66 : decode cL_sets 66 = .ok (.iload 11, 2) := by decide +kernel
theorem dL_sets_68 : decode cL_sets 68 = .ok (.ifCond .eq 10, 3) := by decide +kernel
theorem dL_sets_71 : decode cL_sets 71 = .ok (.iconst 1, 1) := by decide +kernel
theorem dL_sets_72 : decode cL_sets 72 = .ok (.iload 9, 2) := by decide +kernel
theorem dL_sets_74 : decode cL_sets 74 = .ok (.ishl, 1) := by decide +kernel
theorem dL_sets_75 : decode cL_sets 75 = .ok (.goto 4, 3) := by decide +kernel
theorem dL_sets_78 : decode cL_sets 78 = .ok (.iconst 0, 1) := by decide +kernel
theorem dL_sets_79 : decode cL_sets 79 = .ok (.isub, 1) := by decide +kernel
theorem dL_sets_80 : decode cL_sets 80 = .ok (.iload 10, 2) := by decide +kernel
theorem dL_sets_82 : decode cL_sets 82 = .ok (.iload 9, 2) := by decide +kernel
theorem dL_sets_84 : decode cL_sets 84 = .ok (.ishl, 1) := by decide +kernel
theorem dL_sets_85 : decode cL_sets 85 = .ok (.iadd, 1) := by decide +kernel
theorem dL_sets_86 : decode cL_sets 86 = .ok (.iastore, 1) := by decide +kernel
theorem dL_sets_87 : decode cL_sets 87 = .ok (.aload_n 0, 1) := by decide +kernel
theorem dL_sets_88 : decode cL_sets 88 = .ok (.iload 8, 2) := by decide +kernel
theorem dL_sets_90 : decode cL_sets 90 = .ok (.iload 9, 2) := by decide +kernel
theorem dL_sets_92 : decode cL_sets 92 = .ok (.iload 10, 2) := by decide +kernel
theorem dL_sets_94 : decode cL_sets 94 = .ok (.iconst 1, 1) := by decide +kernel
theorem dL_sets_95 : decode cL_sets 95 = .ok (.if_icmp .ne 7, 3) := by decide +kernel
theorem dL_sets_98 : decode cL_sets 98 = .ok (.iconst 1, 1) := by decide +kernel
theorem dL_sets_99 : decode cL_sets 99 = .ok (.goto 4, 3) := by decide +kernel
theorem dL_sets_102 : decode cL_sets 102 = .ok (.iconst 0, 1) := by decide +kernel
theorem dL_sets_103 : decode cL_sets 103 = .ok (.invokevirtual 68, 3) := by decide +kernel
theorem dL_sets_106 : decode cL_sets 106 = .ok (.iload 11, 2) := by decide +kernel
theorem dL_sets_108 : decode cL_sets 108 = .ok (.if_icmp .ne 7, 3) := by decide +kernel
theorem dL_sets_111 : decode cL_sets 111 = .ok (.iconst 1, 1) := by decide +kernel
theorem dL_sets_112 : decode cL_sets 112 = .ok (.goto 4, 3) := by decide +kernel
theorem dL_sets_115 : decode cL_sets 115 = .ok (.iconst 0, 1) := by decide +kernel
theorem dL_sets_116 : decode cL_sets 116 = .ok (.ireturn, 1) := by decide +kernel
theorem dL_sets_117 : decode cL_sets 117 = .ok (.iload_n 1, 1) := by decide +kernel
theorem dL_sets_118 : decode cL_sets 118 = .ok (.iconst 4, 1) := by decide +kernel
theorem dL_sets_119 : decode cL_sets 119 = .ok (.if_icmp .ge 256, 3) := by decide +kernel
theorem dL_sets_122 : decode cL_sets 122 = .ok (.iload_n 2, 1) := by decide +kernel
theorem dL_sets_123 : decode cL_sets 123 = .ok (.iconst 3, 1) := by decide +kernel
theorem dL_sets_124 : decode cL_sets 124 = .ok (.ishr, 1) := by decide +kernel
theorem dL_sets_125 : decode cL_sets 125 = .ok (.iconst 4, 1) := by decide +kernel
theorem dL_sets_126 : decode cL_sets 126 = .ok (.invokestatic 64, 3) := by decide +kernel
theorem dL_sets_129 : decode cL_sets 129 = .ok (.istore 9, 2) := by decide +kernel
theorem dL_sets_131 : decode cL_sets 131 = .ok (.iload_n 2, 1) := by decide +kernel
theorem dL_sets_132 : decode cL_sets 132 = .ok (.bipush 6, 2) := by decide +kernel
theorem dL_sets_134 : decode cL_sets 134 = .ok (.ishr, 1) := by decide +kernel
theorem dL_sets_135 : decode cL_sets 135 = .ok (.iconst 3, 1) := by decide +kernel
theorem dL_sets_136 : decode cL_sets 136 = .ok (.invokestatic 64, 3) := by decide +kernel
theorem dL_sets_139 : decode cL_sets 139 = .ok (.ifCond .le 7, 3) := by decide +kernel
theorem dL_sets_142 : decode cL_sets 142 = .ok (.iconst 1, 1) := by decide +kernel
theorem dL_sets_143 : decode cL_sets 143 = .ok (.goto 4, 3) := by decide +kernel
theorem dL_sets_146 : decode cL_sets 146 = .ok (.iconst 0, 1) := by decide +kernel
theorem dL_sets_147 : decode cL_sets 147 = .ok (.istore 10, 2) := by decide +kernel
theorem dL_sets_149 : decode cL_sets 149 = .ok (.aload_n 3, 1) := by decide +kernel
theorem dL_sets_150 : decode cL_sets 150 = .ok (.iconst 4, 1) := by decide +kernel
theorem dL_sets_151 : decode cL_sets 151 = .ok (.iload 8, 2) := by decide +kernel
theorem dL_sets_153 : decode cL_sets 153 = .ok (.iadd, 1) := by decide +kernel
theorem dL_sets_154 : decode cL_sets 154 = .ok (.iaload, 1) := by decide +kernel
theorem dL_sets_155 : decode cL_sets 155 = .ok (.iload 9, 2) := by decide +kernel
theorem dL_sets_157 : decode cL_sets 157 = .ok (.ishr, 1) := by decide +kernel
theorem dL_sets_158 : decode cL_sets 158 = .ok (.iconst 1, 1) := by decide +kernel
theorem dL_sets_159 : decode cL_sets 159 = .ok (.iand, 1) := by decide +kernel
theorem dL_sets_160 : decode cL_sets 160 = .ok (.iconst 1, 1) := by decide +kernel
theorem dL_sets_161 : decode cL_sets 161 = .ok (.if_icmp .ne 7, 3) := by decide +kernel
theorem dL_sets_164 : decode cL_sets 164 = .ok (.iconst 1, 1) := by decide +kernel
theorem dL_sets_165 : decode cL_sets 165 = .ok (.goto 4, 3) := by decide +kernel
theorem dL_sets_168 : decode cL_sets 168 = .ok (.iconst 0, 1) := by decide +kernel
theorem dL_sets_169 : decode cL_sets 169 = .ok (.istore 11, 2) := by decide +kernel
theorem dL_sets_171 : decode cL_sets 171 = .ok (.aload_n 3, 1) := by decide +kernel
theorem dL_sets_172 : decode cL_sets 172 = .ok (.iload 8, 2) := by decide +kernel
theorem dL_sets_174 : decode cL_sets 174 = .ok (.iaload, 1) := by decide +kernel
theorem dL_sets_175 : decode cL_sets 175 = .ok (.istore 12, 2) := by decide +kernel
theorem dL_sets_177 : decode cL_sets 177 = .ok (.iconst 0, 1) := by decide +kernel
theorem dL_sets_178 : decode cL_sets 178 = .ok (.istore 13, 2) := by decide +kernel
theorem dL_sets_180 : decode cL_sets 180 = .ok (.iload 10, 2) := by decide +kernel
theorem dL_sets_182 : decode cL_sets 182 = .ok (.iconst 1, 1) := by decide +kernel
theorem dL_sets_183 : decode cL_sets 183 = .ok (.if_icmp .ne 80, 3) := by decide +kernel
theorem dL_sets_186 : decode cL_sets 186 = .ok (.iload 8, 2) := by decide +kernel
theorem dL_sets_188 : decode cL_sets 188 = .ok (.iload 9, 2) := by decide +kernel
theorem dL_sets_190 : decode cL_sets 190 = .ok (.if_icmp .eq 73, 3) := by decide +kernel
theorem dL_sets_193 : decode cL_sets 193 = .ok (.iconst 1, 1) := by decide +kernel
theorem dL_sets_194 : decode cL_sets 194 = .ok (.iload 9, 2) := by decide +kernel
theorem dL_sets_196 : decode cL_sets 196 = .ok (.ishl, 1) := by decide +kernel
theorem dL_sets_197 : decode cL_sets 197 = .ok (.istore 14, 2) := by decide +kernel
theorem dL_sets_199 : decode cL_sets 199 = .ok (.iconst 0, 1) := by decide +kernel
theorem dL_sets_200 : decode cL_sets 200 = .ok (.istore 15, 2) := by decide +kernel
theorem dL_sets_202 : decode cL_sets 202 = .ok (.iload 15, 2) := by decide +kernel
theorem dL_sets_204 : decode cL_sets 204 = .ok (.bipush 16, 2) := by decide +kernel
theorem dL_sets_206 : decode cL_sets 206 = .ok (.if_icmp .ge 39, 3) := by decide +kernel
theorem dL_sets_209 : decode cL_sets 209 = .ok (.iload 14, 2) := by decide +kernel
theorem dL_sets_211 : decode cL_sets 211 = .ok (.iload 14, 2) := by decide +kernel
theorem dL_sets_213 : decode cL_sets 213 = .ok (.iload 15, 2) := by decide +kernel
theorem dL_sets_215 : decode cL_sets 215 = .ok (.iconst 4, 1) := by decide +kernel
theorem dL_sets_216 : decode cL_sets 216 = .ok (.irem, 1) := by decide +kernel
theorem dL_sets_217 : decode cL_sets 217 = .ok (.ishr, 1) := by decide +kernel
theorem dL_sets_218 : decode cL_sets 218 = .ok (.iconst 1, 1) := by decide +kernel
theorem dL_sets_219 : decode cL_sets 219 = .ok (.iand, 1) := by decide +kernel
theorem dL_sets_220 : decode cL_sets 220 = .ok (.iconst 1, 1) := by decide +kernel
theorem dL_sets_221 : decode cL_sets 221 = .ok (.if_icmp .ne 14, 3) := by decide +kernel
theorem dL_sets_224 : decode cL_sets 224 = .ok (.aload_n 3, 1) := by decide +kernel
theorem dL_sets_225 : decode cL_sets 225 = .ok (.iconst 4, 1) := by decide +kernel
theorem dL_sets_226 : decode cL_sets 226 = .ok (.iload 15, 2) := by decide +kernel
theorem dL_sets_228 : decode cL_sets 228 = .ok (.iconst 4, 1) := by decide +kernel
theorem dL_sets_229 : decode cL_sets 229 = .ok (.irem, 1) := by decide +kernel
theorem dL_sets_230 : decode cL_sets 230 = .ok (.iadd, 1) := by decide +kernel
theorem dL_sets_231 : decode cL_sets 231 = .ok (.iaload, 1) := by decide +kernel
theorem dL_sets_232 : decode cL_sets 232 = .ok (.goto 4, 3) := by decide +kernel
theorem dL_sets_235 : decode cL_sets 235 = .ok (.iconst 0, 1) := by decide +kernel
theorem dL_sets_236 : decode cL_sets 236 = .ok (.ior, 1) := by decide +kernel
theorem dL_sets_237 : decode cL_sets 237 = .ok (.istore 14, 2) := by decide +kernel
theorem dL_sets_239 : decode cL_sets 239 = .ok (.iinc 15 1, 3) := by decide +kernel
theorem dL_sets_242 : decode cL_sets 242 = .ok (.goto (-40), 3) := by decide +kernel
theorem dL_sets_245 : decode cL_sets 245 = .ok (.iload 14, 2) := by decide +kernel
theorem dL_sets_247 : decode cL_sets 247 = .ok (.iload 8, 2) := by decide +kernel
theorem dL_sets_249 : decode cL_sets 249 = .ok (.ishr, 1) := by decide +kernel
theorem dL_sets_250 : decode cL_sets 250 = .ok (.iconst 1, 1) := by decide +kernel
theorem dL_sets_251 : decode cL_sets 251 = .ok (.iand, 1) := by decide +kernel
theorem dL_sets_252 : decode cL_sets 252 = .ok (.iconst 1, 1) := by decide +kernel
theorem dL_sets_253 : decode cL_sets 253 = .ok (.if_icmp .ne 7, 3) := by decide +kernel
theorem dL_sets_256 : decode cL_sets 256 = .ok (.iconst 1, 1) := by decide +kernel
theorem dL_sets_257 : decode cL_sets 257 = .ok (.goto 4, 3) := by decide +kernel
theorem dL_sets_260 : decode cL_sets 260 = .ok (.iconst 0, 1) := by decide +kernel
theorem dL_sets_261 : decode cL_sets 261 = .ok (.istore 13, 2) := by decide +kernel
theorem dL_sets_263 : decode cL_sets 263 = .ok (.iload 8, 2) := by decide +kernel
theorem dL_sets_265 : decode cL_sets 265 = .ok (.iload 9, 2) := by decide +kernel
theorem dL_sets_267 : decode cL_sets 267 = .ok (.if_icmp .ne 8, 3) := by decide +kernel
theorem dL_sets_270 : decode cL_sets 270 = .ok (.bipush (-2), 2) := by decide +kernel
theorem dL_sets_272 : decode cL_sets 272 = .ok (.goto 23, 3) := by decide +kernel
theorem dL_sets_275 : decode cL_sets 275 = .ok (.iload 13, 2) := by decide +kernel
theorem dL_sets_277 : decode cL_sets 277 = .ok (.ifCond .eq 8, 3) := by decide +kernel
theorem dL_sets_280 : decode cL_sets 280 = .ok (.bipush (-3), 2) := by decide +kernel
theorem dL_sets_282 : decode cL_sets 282 = .ok (.goto 13, 3) := by decide +kernel
theorem dL_sets_285 : decode cL_sets 285 = .ok (.iload 11, 2) := by decide +kernel
theorem dL_sets_287 : decode cL_sets 287 = .ok (.ifCond .eq 7, 3) := by decide +kernel
theorem dL_sets_290 : decode cL_sets 290 = .ok (.iconst 1, 1) := by decide +kernel
theorem dL_sets_291 : decode cL_sets 291 = .ok (.goto 4, 3) := by decide +kernel
theorem dL_sets_294 : decode cL_sets 294 = .ok (.iconst 0, 1) := by decide +kernel
theorem dL_sets_295 : decode cL_sets 295 = .ok (.istore 14, 2) := by decide +kernel
theorem dL_sets_297 : decode cL_sets 297 = .ok (.aload_n 3, 1) := by decide +kernel
theorem dL_sets_298 : decode cL_sets 298 = .ok (.iconst 4, 1) := by decide +kernel
theorem dL_sets_299 : decode cL_sets 299 = .ok (.iload 8, 2) := by decide +kernel
theorem dL_sets_301 : decode cL_sets 301 = .ok (.iadd, 1) := by decide +kernel
theorem dL_sets_302 : decode cL_sets 302 = .ok (.iload 14, 2) := by decide +kernel
theorem dL_sets_304 : decode cL_sets 304 = .ok (.ifCond .ge 12, 3) := by decide +kernel
theorem dL_sets_307 : decode cL_sets 307 = .ok (.aload_n 3, 1) := by decide +kernel
theorem dL_sets_308 : decode cL_sets 308 = .ok (.iconst 4, 1) := by decide +kernel
theorem dL_sets_309 : decode cL_sets 309 = .ok (.iload 8, 2) := by decide +kernel
theorem dL_sets_311 : decode cL_sets 311 = .ok (.iadd, 1) := by decide +kernel
theorem dL_sets_312 : decode cL_sets 312 = .ok (.iaload, 1) := by decide +kernel
theorem dL_sets_313 : decode cL_sets 313 = .ok (.goto 29, 3) := by decide +kernel
theorem dL_sets_316 : decode cL_sets 316 = .ok (.aload_n 3, 1) := by decide +kernel
theorem dL_sets_317 : decode cL_sets 317 = .ok (.iconst 4, 1) := by decide +kernel
theorem dL_sets_318 : decode cL_sets 318 = .ok (.iload 8, 2) := by decide +kernel
theorem dL_sets_320 : decode cL_sets 320 = .ok (.iadd, 1) := by decide +kernel
theorem dL_sets_321 : decode cL_sets 321 = .ok (.iaload, 1) := by decide +kernel
theorem dL_sets_322 : decode cL_sets 322 = .ok (.iload 11, 2) := by decide +kernel
theorem dL_sets_324 : decode cL_sets 324 = .ok (.ifCond .eq 10, 3) := by decide +kernel
theorem dL_sets_327 : decode cL_sets 327 = .ok (.iconst 1, 1) := by decide +kernel
theorem dL_sets_328 : decode cL_sets 328 = .ok (.iload 9, 2) := by decide +kernel
theorem dL_sets_330 : decode cL_sets 330 = .ok (.ishl, 1) := by decide +kernel
theorem dL_sets_331 : decode cL_sets 331 = .ok (.goto 4, 3) := by decide +kernel
theorem dL_sets_334 : decode cL_sets 334 = .ok (.iconst 0, 1) := by decide +kernel
theorem dL_sets_335 : decode cL_sets 335 = .ok (.isub, 1) := by decide +kernel
theorem dL_sets_336 : decode cL_sets 336 = .ok (.iload 10, 2) := by decide +kernel
theorem dL_sets_338 : decode cL_sets 338 = .ok (.iload 9, 2) := by decide +kernel
theorem dL_sets_340 : decode cL_sets 340 = .ok (.ishl, 1) := by decide +kernel
theorem dL_sets_341 : decode cL_sets 341 = .ok (.iadd, 1) := by decide +kernel
theorem dL_sets_342 : decode cL_sets 342 = .ok (.iastore, 1) := by decide +kernel
theorem dL_sets_343 : decode cL_sets 343 = .ok (.aload_n 3, 1) := by decide +kernel
theorem dL_sets_344 : decode cL_sets 344 = .ok (.iload 8, 2) := by decide +kernel
theorem dL_sets_346 : decode cL_sets 346 = .ok (.iaload, 1) := by decide +kernel
theorem dL_sets_347 : decode cL_sets 347 = .ok (.iload 12, 2) := by decide +kernel
theorem dL_sets_349 : decode cL_sets 349 = .ok (.if_icmp .ne 24, 3) := by decide +kernel
theorem dL_sets_352 : decode cL_sets 352 = .ok (.aload_n 0, 1) := by decide +kernel
theorem dL_sets_353 : decode cL_sets 353 = .ok (.iconst 0, 1) := by decide +kernel
theorem dL_sets_354 : decode cL_sets 354 = .ok (.iload 8, 2) := by decide +kernel
theorem dL_sets_356 : decode cL_sets 356 = .ok (.iload 9, 2) := by decide +kernel
theorem dL_sets_358 : decode cL_sets 358 = .ok (.iload 10, 2) := by decide +kernel
theorem dL_sets_360 : decode cL_sets 360 = .ok (.iconst 0, 1) := by decide +kernel
theorem dL_sets_361 : decode cL_sets 361 = .ok (.invokestatic 71, 3) := by decide +kernel
theorem dL_sets_364 : decode cL_sets 364 = .ok (.iload 14, 2) := by decide +kernel
theorem dL_sets_366 : decode cL_sets 366 = .ok (.if_icmp .ne 7, 3) := by decide +kernel
theorem dL_sets_369 : decode cL_sets 369 = .ok (.iconst 1, 1) := by decide +kernel
theorem dL_sets_370 : decode cL_sets 370 = .ok (.goto 4, 3) := by decide +kernel
theorem dL_sets_373 : decode cL_sets 373 = .ok (.iconst 0, 1) := by decide +kernel
theorem dL_sets_374 : decode cL_sets 374 = .ok (.ireturn, 1) := by decide +kernel
theorem dL_sets_375 : decode cL_sets 375 = .ok (.iload_n 1, 1) := by decide +kernel
theorem dL_sets_376 : decode cL_sets 376 = .ok (.bipush 7, 2) := by decide +kernel
theorem dL_sets_378 : decode cL_sets 378 = .ok (.if_icmp .ge 84, 3) := by decide +kernel
theorem dL_sets_381 : decode cL_sets 381 = .ok (.iload_n 2, 1) := by decide +kernel
theorem dL_sets_382 : decode cL_sets 382 = .ok (.iconst 3, 1) := by decide +kernel
theorem dL_sets_383 : decode cL_sets 383 = .ok (.ishr, 1) := by decide +kernel
theorem dL_sets_384 : decode cL_sets 384 = .ok (.iconst 3, 1) := by decide +kernel
theorem dL_sets_385 : decode cL_sets 385 = .ok (.invokestatic 64, 3) := by decide +kernel
theorem dL_sets_388 : decode cL_sets 388 = .ok (.istore 9, 2) := by decide +kernel
theorem dL_sets_390 : decode cL_sets 390 = .ok (.aload 4, 2) := by decide +kernel
theorem dL_sets_392 : decode cL_sets 392 = .ok (.iconst 3, 1) := by decide +kernel
theorem dL_sets_393 : decode cL_sets 393 = .ok (.iload 8, 2) := by decide +kernel
theorem dL_sets_395 : decode cL_sets 395 = .ok (.imul, 1) := by decide +kernel
theorem dL_sets_396 : decode cL_sets 396 = .ok (.iload 9, 2) := by decide +kernel
theorem dL_sets_398 : decode cL_sets 398 = .ok (.iadd, 1) := by decide +kernel
theorem dL_sets_399 : decode cL_sets 399 = .ok (.iaload, 1) := by decide +kernel
theorem dL_sets_400 : decode cL_sets 400 = .ok (.istore 10, 2) := by decide +kernel
theorem dL_sets_402 : decode cL_sets 402 = .ok (.aload 4, 2) := by decide +kernel
theorem dL_sets_404 : decode cL_sets 404 = .ok (.iconst 3, 1) := by decide +kernel
theorem dL_sets_405 : decode cL_sets 405 = .ok (.iload 8, 2) := by decide +kernel
theorem dL_sets_407 : decode cL_sets 407 = .ok (.imul, 1) := by decide +kernel
theorem dL_sets_408 : decode cL_sets 408 = .ok (.iload 9, 2) := by decide +kernel
theorem dL_sets_410 : decode cL_sets 410 = .ok (.iadd, 1) := by decide +kernel
theorem dL_sets_411 : decode cL_sets 411 = .ok (.iload_n 2, 1) := by decide +kernel
theorem dL_sets_412 : decode cL_sets 412 = .ok (.iconst 5, 1) := by decide +kernel
theorem dL_sets_413 : decode cL_sets 413 = .ok (.ishr, 1) := by decide +kernel
theorem dL_sets_414 : decode cL_sets 414 = .ok (.iconst 4, 1) := by decide +kernel
theorem dL_sets_415 : decode cL_sets 415 = .ok (.invokestatic 64, 3) := by decide +kernel
theorem dL_sets_418 : decode cL_sets 418 = .ok (.ifCond .ne 7, 3) := by decide +kernel
theorem dL_sets_421 : decode cL_sets 421 = .ok (.iconst 2, 1) := by decide +kernel
theorem dL_sets_422 : decode cL_sets 422 = .ok (.goto 10, 3) := by decide +kernel
theorem dL_sets_425 : decode cL_sets 425 = .ok (.iload_n 2, 1) := by decide +kernel
theorem dL_sets_426 : decode cL_sets 426 = .ok (.iconst 5, 1) := by decide +kernel
theorem dL_sets_427 : decode cL_sets 427 = .ok (.ishr, 1) := by decide +kernel
theorem dL_sets_428 : decode cL_sets 428 = .ok (.iconst 2, 1) := by decide +kernel
theorem dL_sets_429 : decode cL_sets 429 = .ok (.invokestatic 64, 3) := by decide +kernel
theorem dL_sets_432 : decode cL_sets 432 = .ok (.iastore, 1) := by decide +kernel
theorem dL_sets_433 : decode cL_sets 433 = .ok (.aload_n 0, 1) := by decide +kernel
theorem dL_sets_434 : decode cL_sets 434 = .ok (.iload 8, 2) := by decide +kernel
theorem dL_sets_436 : decode cL_sets 436 = .ok (.iload 9, 2) := by decide +kernel
theorem dL_sets_438 : decode cL_sets 438 = .ok (.aload 4, 2) := by decide +kernel
theorem dL_sets_440 : decode cL_sets 440 = .ok (.iconst 3, 1) := by decide +kernel
theorem dL_sets_441 : decode cL_sets 441 = .ok (.iload 8, 2) := by decide +kernel
theorem dL_sets_443 : decode cL_sets 443 = .ok (.imul, 1) := by decide +kernel
theorem dL_sets_444 : decode cL_sets 444 = .ok (.iload 9, 2) := by decide +kernel
theorem dL_sets_446 : decode cL_sets 446 = .ok (.iadd, 1) := by decide +kernel
theorem dL_sets_447 : decode cL_sets 447 = .ok (.iaload, 1) := by decide +kernel
theorem dL_sets_448 : decode cL_sets 448 = .ok (.invokevirtual 75, 3) := by decide +kernel
theorem dL_sets_451 : decode cL_sets 451 = .ok (.iload 10, 2) := by decide +kernel
theorem dL_sets_453 : decode cL_sets 453 = .ok (.if_icmp .ne 7, 3) := by decide +kernel
theorem dL_sets_456 : decode cL_sets 456 = .ok (.iconst 1, 1) := by decide +kernel
theorem dL_sets_457 : decode cL_sets 457 = .ok (.goto 4, 3) := by decide +kernel
theorem dL_sets_460 : decode cL_sets 460 = .ok (.iconst 0, 1) := by decide +kernel
theorem dL_sets_461 : decode cL_sets 461 = .ok (.ireturn, 1) := by decide +kernel
theorem dL_sets_462 : decode cL_sets 462 = .ok (.iload_n 2, 1) := by decide +kernel
theorem dL_sets_463 : decode cL_sets 463 = .ok (.iconst 5, 1) := by decide +kernel
theorem dL_sets_464 : decode cL_sets 464 = .ok (.invokestatic 64, 3) := by decide +kernel
theorem dL_sets_467 : decode cL_sets 467 = .ok (.istore 9, 2) := by decide +kernel
theorem dL_sets_469 : decode cL_sets 469 = .ok (.iload_n 2, 1) := by decide +kernel
theorem dL_sets_470 : decode cL_sets 470 = .ok (.iconst 4, 1) := by decide +kernel
theorem dL_sets_471 : decode cL_sets 471 = .ok (.ishr, 1) := by decide +kernel
theorem dL_sets_472 : decode cL_sets 472 = .ok (.iconst 3, 1) := by decide +kernel
theorem dL_sets_473 : decode cL_sets 473 = .ok (.invokestatic 64, 3) := by decide +kernel
theorem dL_sets_476 : decode cL_sets 476 = .ok (.ifCond .ne 14, 3) := by decide +kernel
theorem dL_sets_479 : decode cL_sets 479 = .ok (.iload_n 2, 1) := by decide +kernel
theorem dL_sets_480 : decode cL_sets 480 = .ok (.bipush 6, 2) := by decide +kernel
theorem dL_sets_482 : decode cL_sets 482 = .ok (.ishr, 1) := by decide +kernel
theorem dL_sets_483 : decode cL_sets 483 = .ok (.iconst 4, 1) := by decide +kernel
theorem dL_sets_484 : decode cL_sets 484 = .ok (.invokestatic 64, 3) := by decide +kernel
theorem dL_sets_487 : decode cL_sets 487 = .ok (.goto 11, 3) := by decide +kernel
theorem dL_sets_490 : decode cL_sets 490 = .ok (.iload_n 2, 1) := by decide +kernel
theorem dL_sets_491 : decode cL_sets 491 = .ok (.bipush 6, 2) := by decide +kernel
theorem dL_sets_493 : decode cL_sets 493 = .ok (.ishr, 1) := by decide +kernel
theorem dL_sets_494 : decode cL_sets 494 = .ok (.iconst 2, 1) := by decide +kernel
theorem dL_sets_495 : decode cL_sets 495 = .ok (.invokestatic 64, 3) := by decide +kernel
theorem dL_sets_498 : decode cL_sets 498 = .ok (.istore 10, 2) := by decide +kernel
theorem dL_sets_500 : decode cL_sets 500 = .ok (.iconst 0, 1) := by decide +kernel
theorem dL_sets_501 : decode cL_sets 501 = .ok (.istore 11, 2) := by decide +kernel
theorem dL_sets_503 : decode cL_sets 503 = .ok (.iconst 0, 1) := by decide +kernel
theorem dL_sets_504 : decode cL_sets 504 = .ok (.istore 12, 2) := by decide +kernel
theorem dL_sets_506 : decode cL_sets 506 = .ok (.iload 12, 2) := by decide +kernel
theorem dL_sets_508 : decode cL_sets 508 = .ok (.aload 7, 2) := by decide +kernel
theorem dL_sets_510 : decode cL_sets 510 = .ok (.iconst 1, 1) := by decide +kernel
theorem dL_sets_511 : decode cL_sets 511 = .ok (.iaload, 1) := by decide +kernel
theorem dL_sets_512 : decode cL_sets 512 = .ok (.if_icmp .ge 92, 3) := by decide +kernel
theorem dL_sets_515 : decode cL_sets 515 = .ok (.iload 10, 2) := by decide +kernel
theorem dL_sets_517 : decode cL_sets 517 = .ok (.aload 5, 2) := by decide +kernel
theorem dL_sets_519 : decode cL_sets 519 = .ok (.iload 9, 2) := by decide +kernel
theorem dL_sets_521 : decode cL_sets 521 = .ok (.iaload, 1) := by decide +kernel
theorem dL_sets_522 : decode cL_sets 522 = .ok (.if_icmp .le 31, 3) := by decide +kernel
theorem dL_sets_525 : decode cL_sets 525 = .ok (.aload 6, 2) := by decide +kernel
theorem dL_sets_527 : decode cL_sets 527 = .ok (.iconst 5, 1) := by decide +kernel
theorem dL_sets_528 : decode cL_sets 528 = .ok (.iload 12, 2) := by decide +kernel
theorem dL_sets_530 : decode cL_sets 530 = .ok (.imul, 1) := by decide +kernel
theorem dL_sets_531 : decode cL_sets 531 = .ok (.iaload, 1) := by decide +kernel
theorem dL_sets_532 : decode cL_sets 532 = .ok (.iload 9, 2) := by decide +kernel
theorem dL_sets_534 : decode cL_sets 534 = .ok (.if_icmp .ne 19, 3) := by decide +kernel
theorem dL_sets_537 : decode cL_sets 537 = .ok (.aload 6, 2) := by decide +kernel
theorem dL_sets_539 : decode cL_sets 539 = .ok (.iconst 5, 1) := by decide +kernel
theorem dL_sets_540 : decode cL_sets 540 = .ok (.iload 12, 2) := by decide +kernel
theorem dL_sets_542 : decode cL_sets 542 = .ok (.imul, 1) := by decide +kernel
theorem dL_sets_543 : decode cL_sets 543 = .ok (.iconst 4, 1) := by decide +kernel
theorem dL_sets_544 : decode cL_sets 544 = .ok (.iadd, 1) := by decide +kernel
theorem dL_sets_545 : decode cL_sets 545 = .ok (.iaload, 1) := by decide +kernel
theorem dL_sets_546 : decode cL_sets 546 = .ok (.ifCond .ne 7, 3) := by decide +kernel
theorem dL_sets_549 : decode cL_sets 549 = .ok (.iconst 1, 1) := by decide +kernel
theorem dL_sets_550 : decode cL_sets 550 = .ok (.goto 4, 3) := by decide +kernel
theorem dL_sets_553 : decode cL_sets 553 = .ok (.iconst 0, 1) := by decide +kernel
theorem dL_sets_554 : decode cL_sets 554 = .ok (.istore 13, 2) := by decide +kernel
theorem dL_sets_556 : decode cL_sets 556 = .ok (.aload 6, 2) := by decide +kernel
theorem dL_sets_558 : decode cL_sets 558 = .ok (.iconst 5, 1) := by decide +kernel
theorem dL_sets_559 : decode cL_sets 559 = .ok (.iload 12, 2) := by decide +kernel
theorem dL_sets_561 : decode cL_sets 561 = .ok (.imul, 1) := by decide +kernel
theorem dL_sets_562 : decode cL_sets 562 = .ok (.iconst 4, 1) := by decide +kernel
theorem dL_sets_563 : decode cL_sets 563 = .ok (.iadd, 1) := by decide +kernel
theorem dL_sets_564 : decode cL_sets 564 = .ok (.iload 13, 2) := by decide +kernel
theorem dL_sets_566 : decode cL_sets 566 = .ok (.ifCond .eq 7, 3) := by decide +kernel
theorem dL_sets_569 : decode cL_sets 569 = .ok (.iconst 1, 1) := by decide +kernel
theorem dL_sets_570 : decode cL_sets 570 = .ok (.goto 12, 3) := by decide +kernel
theorem dL_sets_573 : decode cL_sets 573 = .ok (.aload 6, 2) := by decide +kernel
theorem dL_sets_575 : decode cL_sets 575 = .ok (.iconst 5, 1) := by decide +kernel
theorem dL_sets_576 : decode cL_sets 576 = .ok (.iload 12, 2) := by decide +kernel
theorem dL_sets_578 : decode cL_sets 578 = .ok (.imul, 1) := by decide +kernel
theorem dL_sets_579 : decode cL_sets 579 = .ok (.iconst 4, 1) := by decide +kernel
theorem dL_sets_580 : decode cL_sets 580 = .ok (.iadd, 1) := by decide +kernel
theorem dL_sets_581 : decode cL_sets 581 = .ok (.iaload, 1) := by decide +kernel
theorem dL_sets_582 : decode cL_sets 582 = .ok (.iastore, 1) := by decide +kernel
theorem dL_sets_583 : decode cL_sets 583 = .ok (.iload 11, 2) := by decide +kernel
theorem dL_sets_585 : decode cL_sets 585 = .ok (.iload 13, 2) := by decide +kernel
theorem dL_sets_587 : decode cL_sets 587 = .ok (.ifCond .eq 7, 3) := by decide +kernel
theorem dL_sets_590 : decode cL_sets 590 = .ok (.iconst 1, 1) := by decide +kernel
theorem dL_sets_591 : decode cL_sets 591 = .ok (.goto 4, 3) := by decide +kernel
theorem dL_sets_594 : decode cL_sets 594 = .ok (.iconst 0, 1) := by decide +kernel
theorem dL_sets_595 : decode cL_sets 595 = .ok (.iadd, 1) := by decide +kernel
theorem dL_sets_596 : decode cL_sets 596 = .ok (.istore 11, 2) := by decide +kernel
theorem dL_sets_598 : decode cL_sets 598 = .ok (.iinc 12 1, 3) := by decide +kernel
theorem dL_sets_601 : decode cL_sets 601 = .ok (.goto (-95), 3) := by decide +kernel
theorem dL_sets_604 : decode cL_sets 604 = .ok (.aload 5, 2) := by decide +kernel
theorem dL_sets_606 : decode cL_sets 606 = .ok (.iload 9, 2) := by decide +kernel
theorem dL_sets_608 : decode cL_sets 608 = .ok (.iload 10, 2) := by decide +kernel
theorem dL_sets_610 : decode cL_sets 610 = .ok (.iastore, 1) := by decide +kernel
theorem dL_sets_611 : decode cL_sets 611 = .ok (.aload_n 0, 1) := by decide +kernel
theorem dL_sets_612 : decode cL_sets 612 = .ok (.iload 9, 2) := by decide +kernel
theorem dL_sets_614 : decode cL_sets 614 = .ok (.iload 10, 2) := by decide +kernel
theorem dL_sets_616 : decode cL_sets 616 = .ok (.invokevirtual 79, 3) := by decide +kernel
theorem dL_sets_619 : decode cL_sets 619 = .ok (.iload 11, 2) := by decide +kernel
theorem dL_sets_621 : decode cL_sets 621 = .ok (.if_icmp .ne 7, 3) := by decide +kernel
theorem dL_sets_624 : decode cL_sets 624 = .ok (.iconst 1, 1) := by decide +kernel
theorem dL_sets_625 : decode cL_sets 625 = .ok (.goto 4, 3) := by decide +kernel
theorem dL_sets_628 : decode cL_sets 628 = .ok (.iconst 0, 1) := by decide +kernel
theorem dL_sets_629 : decode cL_sets 629 = .ok (.ireturn, 1) := by decide +kernel
set_option maxRecDepth 20000 in
theorem ggL_decides_L_low : GoodIn wsL_decides wsL_low := goodIn_r _ [4, 5] (by decide +kernel) (by decide +kernel)
set_option maxRecDepth 20000 in
theorem gL_decides_L_low : GoodIn wsL_decides (va_wsS RL 64 yL_low wsL_low) := goodIn_app (goodIn_of _ (by decide +kernel)) ggL_decides_L_low
set_option maxRecDepth 20000 in
theorem ggL_decides_X4_decide : GoodIn wsL_decides wsX4_decide := goodIn_ca (goodIn_ca (goodIn_r _ [10, 11, 12, 13, 14, 15, 16, 17, 18, 9, 19, 20, 21, 22, 23, 24, 25, 26, 27, 28, 29, 30, 31, 32, 33, 34, 35, 36, 37, 38, 39, 40, 41, 42, 43, 44, 45, 46, 47, 48, 49, 50, 51, 52, 53, 54, 55, 56, 57, 58, 59, 60, 61, 62, 63, 64, 65, 66, 67, 68, 69, 70, 71, 72, 73, 74, 75, 76, 77, 78, 79, 80, 81, 82, 83, 84, 85, 86, 87, 88, 89, 90, 91, 92, 93, 94, 95, 96, 97, 98, 99, 100, 101, 102, 103, 110, 111, 112, 113, 114, 115, 116, 117, 118, 119, 120, 121, 122, 123, 124, 125, 126, 127, 128, 129] (by decide +kernel) (by decide +kernel)) (goodIn_sub (fun _ h => List.mem_cons_of_mem _ (List.mem_append_left _ (List.mem_append_right _ h))) (by decide +kernel))) (goodIn_sub (fun _ h => List.mem_cons_of_mem _ (List.mem_append_right _ h)) (by decide +kernel))
set_option maxRecDepth 20000 in
theorem gL_decides_X4_decide : GoodIn wsL_decides (wsV RL 82 RX4 yX4_decide wsX4_decide) := goodIn_app (goodIn_of _ (by decide +kernel)) ggL_decides_X4_decide
set_option maxRecDepth 20000 in
theorem ggL_decides_L_allows : GoodIn wsL_decides wsL_allows := goodIn_r _ [106, 107, 108, 3, 109] (by decide +kernel) (by decide +kernel)
set_option maxRecDepth 20000 in
theorem gL_decides_L_allows : GoodIn wsL_decides (va_wsS RL 58 yL_allows wsL_allows) := goodIn_app (goodIn_of _ (by decide +kernel)) ggL_decides_L_allows
theorem dL_decides_0 : decode cL_decides 0 = .ok (.iload_n 1, 1) := by decide +kernel
theorem dL_decides_1 : decode cL_decides 1 = .ok (.iconst 2, 1) := by decide +kernel
theorem dL_decides_2 : decode cL_decides 2 = .ok (.invokestatic 64, 3) := by decide +kernel
theorem dL_decides_5 : decode cL_decides 5 = .ok (.istore 10, 2) := by decide +kernel
theorem dL_decides_7 : decode cL_decides 7 = .ok (.iload_n 1, 1) := by decide +kernel
theorem dL_decides_8 : decode cL_decides 8 = .ok (.iconst 2, 1) := by decide +kernel
theorem dL_decides_9 : decode cL_decides 9 = .ok (.ishr, 1) := by decide +kernel
theorem dL_decides_10 : decode cL_decides 10 = .ok (.aload 9, 2) := by decide +kernel
theorem dL_decides_12 : decode cL_decides 12 = .ok (.iconst 1, 1) := by decide +kernel
theorem dL_decides_13 : decode cL_decides 13 = .ok (.iaload, 1) := by decide +kernel
theorem dL_decides_14 : decode cL_decides 14 = .ok (.invokestatic 64, 3) := by decide +kernel
theorem dL_decides_17 : decode cL_decides 17 = .ok (.istore 11, 2) := by decide +kernel
theorem dL_decides_19 : decode cL_decides 19 = .ok (.iload_n 1, 1) := by decide +kernel
theorem dL_decides_20 : decode cL_decides 20 = .ok (.bipush 7, 2) := by decide +kernel
theorem dL_decides_22 : decode cL_decides 22 = .ok (.ishr, 1) := by decide +kernel
theorem dL_decides_23 : decode cL_decides 23 = .ok (.iconst 3, 1) := by decide +kernel
theorem dL_decides_24 : decode cL_decides 24 = .ok (.invokestatic 64, 3) := by decide +kernel
theorem dL_decides_27 : decode cL_decides 27 = .ok (.istore 12, 2) := by decide +kernel
theorem dL_decides_29 : decode cL_decides 29 = .ok (.bipush 15, 2) := by decide +kernel
theorem dL_decides_31 : decode cL_decides 31 = .ok (.iload 10, 2) := by decide +kernel
theorem dL_decides_33 : decode cL_decides 33 = .ok (.imul, 1) := by decide +kernel
