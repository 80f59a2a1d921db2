theorem dL_decides_34 : decode cL_decides 34 = .ok (.iconst 3, 1) := by decide +kernel
theorem dL_decides_35 : decode cL_decides 35 = .ok (.aload 6, 2) := by decide +kernel
theorem dL_decides_37 : decode cL_decides 37 = .ok (.iconst 5, 1) := by decide +kernel
theorem dL_decides_38 : decode cL_decides 38 = .ok (.iload 11, 2) := by decide +kernel
theorem dL_decides_40 : decode cL_decides 40 = .ok (.imul, 1) := by decide +kernel
theorem dL_decides_41 : decode cL_decides 41 = .ok (.iaload, 1) := by decide +kernel
theorem dL_decides_42 : decode cL_decides 42 = .ok (.imul, 1) := by decide +kernel
theorem dL_decides_43 : decode cL_decides 43 = .ok (.iadd, 1) := by decide +kernel
theorem dL_decides_44 : decode cL_decides 44 = .ok (.iload 12, 2) := by decide +kernel
theorem dL_decides_46 : decode cL_decides 46 = .ok (.iadd, 1) := by decide +kernel
theorem dL_decides_47 : decode cL_decides 47 = .ok (.istore 13, 2) := by decide +kernel
theorem dL_decides_49 : decode cL_decides 49 = .ok (.aload 6, 2) := by decide +kernel
theorem dL_decides_51 : decode cL_decides 51 = .ok (.iconst 5, 1) := by decide +kernel
theorem dL_decides_52 : decode cL_decides 52 = .ok (.iload 11, 2) := by decide +kernel
theorem dL_decides_54 : decode cL_decides 54 = .ok (.imul, 1) := by decide +kernel
theorem dL_decides_55 : decode cL_decides 55 = .ok (.iconst 4, 1) := by decide +kernel
theorem dL_decides_56 : decode cL_decides 56 = .ok (.iadd, 1) := by decide +kernel
theorem dL_decides_57 : decode cL_decides 57 = .ok (.iaload, 1) := by decide +kernel
theorem dL_decides_58 : decode cL_decides 58 = .ok (.iconst 1, 1) := by decide +kernel
theorem dL_decides_59 : decode cL_decides 59 = .ok (.if_icmp .ne 23, 3) := by decide +kernel
theorem dL_decides_62 : decode cL_decides 62 = .ok (.aload_n 0, 1) := by decide +kernel
theorem dL_decides_63 : decode cL_decides 63 = .ok (.iload 10, 2) := by decide +kernel
theorem dL_decides_65 : decode cL_decides 65 = .ok (.iload 11, 2) := by decide +kernel
theorem dL_decides_67 : decode cL_decides 67 = .ok (.iload 12, 2) := by decide +kernel
theorem dL_decides_69 : decode cL_decides 69 = .ok (.invokevirtual 82, 3) := by decide +kernel
theorem dL_decides_72 : decode cL_decides 72 = .ok (.iconst 2, 1) := by decide +kernel
theorem dL_decides_73 : decode cL_decides 73 = .ok (.if_icmp .ne 7, 3) := by decide +kernel
theorem dL_decides_76 : decode cL_decides 76 = .ok (.iconst 1, 1) := by decide +kernel
theorem dL_decides_77 : decode cL_decides 77 = .ok (.goto 4, 3) := by decide +kernel
theorem dL_decides_80 : decode cL_decides 80 = .ok (.iconst 0, 1) := by decide +kernel
theorem dL_decides_81 : decode cL_decides 81 = .ok (.ireturn, 1) := by decide +kernel
theorem dL_decides_82 : decode cL_decides 82 = .ok (.aload 6, 2) := by decide +kernel
theorem dL_decides_84 : decode cL_decides 84 = .ok (.iconst 5, 1) := by decide +kernel
theorem dL_decides_85 : decode cL_decides 85 = .ok (.iload 11, 2) := by decide +kernel
theorem dL_decides_87 : decode cL_decides 87 = .ok (.imul, 1) := by decide +kernel
theorem dL_decides_88 : decode cL_decides 88 = .ok (.iconst 3, 1) := by decide +kernel
theorem dL_decides_89 : decode cL_decides 89 = .ok (.iadd, 1) := by decide +kernel
theorem dL_decides_90 : decode cL_decides 90 = .ok (.aload 9, 2) := by decide +kernel
theorem dL_decides_92 : decode cL_decides 92 = .ok (.iconst 0, 1) := by decide +kernel
theorem dL_decides_93 : decode cL_decides 93 = .ok (.iaload, 1) := by decide +kernel
theorem dL_decides_94 : decode cL_decides 94 = .ok (.iastore, 1) := by decide +kernel
theorem dL_decides_95 : decode cL_decides 95 = .ok (.aload 7, 2) := by decide +kernel
theorem dL_decides_97 : decode cL_decides 97 = .ok (.iload 13, 2) := by decide +kernel
theorem dL_decides_99 : decode cL_decides 99 = .ok (.iaload, 1) := by decide +kernel
theorem dL_decides_100 : decode cL_decides 100 = .ok (.aload 9, 2) := by decide +kernel
theorem dL_decides_102 : decode cL_decides 102 = .ok (.iconst 0, 1) := by decide +kernel
theorem dL_decides_103 : decode cL_decides 103 = .ok (.iaload, 1) := by decide +kernel
theorem dL_decides_104 : decode cL_decides 104 = .ok (.if_icmp .gt 53, 3) := by decide +kernel
theorem dL_decides_107 : decode cL_decides 107 = .ok (.aload 8, 2) := by decide +kernel
theorem dL_decides_109 : decode cL_decides 109 = .ok (.iload 13, 2) := by decide +kernel
theorem dL_decides_111 : decode cL_decides 111 = .ok (.aload 6, 2) := by decide +kernel
theorem dL_decides_113 : decode cL_decides 113 = .ok (.iconst 5, 1) := by decide +kernel
theorem dL_decides_114 : decode cL_decides 114 = .ok (.iload 11, 2) := by decide +kernel
theorem dL_decides_116 : decode cL_decides 116 = .ok (.imul, 1) := by decide +kernel
theorem dL_decides_117 : decode cL_decides 117 = .ok (.iaload, 1) := by decide +kernel
theorem dL_decides_118 : decode cL_decides 118 = .ok (.iload 12, 2) := by decide +kernel
theorem dL_decides_120 : decode cL_decides 120 = .ok (.aload_n 2, 1) := by decide +kernel
theorem dL_decides_121 : decode cL_decides 121 = .ok (.aload_n 3, 1) := by decide +kernel
theorem dL_decides_122 : decode cL_decides 122 = .ok (.aload 4, 2) := by decide +kernel
theorem dL_decides_124 : decode cL_decides 124 = .ok (.aload 5, 2) := by decide +kernel
theorem dL_decides_126 : decode cL_decides 126 = .ok (.aload 9, 2) := by decide +kernel
theorem dL_decides_128 : decode cL_decides 128 = .ok (.invokestatic 58, 3) := by decide +kernel
theorem dL_decides_131 : decode cL_decides 131 = .ok (.ifCond .eq 7, 3) := by decide +kernel
theorem dL_decides_134 : decode cL_decides 134 = .ok (.iconst 1, 1) := by decide +kernel
theorem dL_decides_135 : decode cL_decides 135 = .ok (.goto 4, 3) := by decide +kernel
theorem dL_decides_138 : decode cL_decides 138 = .ok (.iconst 0, 1) := by decide +kernel
theorem dL_decides_139 : decode cL_decides 139 = .ok (.iastore, 1) := by decide +kernel
theorem dL_decides_140 : decode cL_decides 140 = .ok (.aload 7, 2) := by decide +kernel
theorem dL_decides_142 : decode cL_decides 142 = .ok (.iload 13, 2) := by decide +kernel
theorem dL_decides_144 : decode cL_decides 144 = .ok (.aload 9, 2) := by decide +kernel
theorem dL_decides_146 : decode cL_decides 146 = .ok (.iconst 0, 1) := by decide +kernel
theorem dL_decides_147 : decode cL_decides 147 = .ok (.iaload, 1) := by decide +kernel
theorem dL_decides_148 : decode cL_decides 148 = .ok (.aload 9, 2) := by decide +kernel
theorem dL_decides_150 : decode cL_decides 150 = .ok (.iconst 4, 1) := by decide +kernel
theorem dL_decides_151 : decode cL_decides 151 = .ok (.iload 10, 2) := by decide +kernel
theorem dL_decides_153 : decode cL_decides 153 = .ok (.iadd, 1) := by decide +kernel
theorem dL_decides_154 : decode cL_decides 154 = .ok (.iaload, 1) := by decide +kernel
theorem dL_decides_155 : decode cL_decides 155 = .ok (.iadd, 1) := by decide +kernel
theorem dL_decides_156 : decode cL_decides 156 = .ok (.iastore, 1) := by decide +kernel
theorem dL_decides_157 : decode cL_decides 157 = .ok (.aload_n 0, 1) := by decide +kernel
theorem dL_decides_158 : decode cL_decides 158 = .ok (.iload 10, 2) := by decide +kernel
theorem dL_decides_160 : decode cL_decides 160 = .ok (.iload 11, 2) := by decide +kernel
theorem dL_decides_162 : decode cL_decides 162 = .ok (.iload 12, 2) := by decide +kernel
theorem dL_decides_164 : decode cL_decides 164 = .ok (.invokevirtual 82, 3) := by decide +kernel
theorem dL_decides_167 : decode cL_decides 167 = .ok (.iconst 1, 1) := by decide +kernel
theorem dL_decides_168 : decode cL_decides 168 = .ok (.aload 8, 2) := by decide +kernel
theorem dL_decides_170 : decode cL_decides 170 = .ok (.iload 13, 2) := by decide +kernel
theorem dL_decides_172 : decode cL_decides 172 = .ok (.iaload, 1) := by decide +kernel
theorem dL_decides_173 : decode cL_decides 173 = .ok (.isub, 1) := by decide +kernel
theorem dL_decides_174 : decode cL_decides 174 = .ok (.if_icmp .ne 7, 3) := by decide +kernel
theorem dL_decides_177 : decode cL_decides 177 = .ok (.iconst 1, 1) := by decide +kernel
theorem dL_decides_178 : decode cL_decides 178 = .ok (.goto 4, 3) := by decide +kernel
theorem dL_decides_181 : decode cL_decides 181 = .ok (.iconst 0, 1) := by decide +kernel
theorem dL_decides_182 : decode cL_decides 182 = .ok (.ireturn, 1) := by decide +kernel
set_option maxRecDepth 20000 in
theorem ggL_caches_L_low : GoodIn wsL_caches wsL_low := goodIn_r _ [4, 5] (by decide +kernel) (by decide +kernel)
set_option maxRecDepth 20000 in
theorem gL_caches_L_low : GoodIn wsL_caches (va_wsS RL 64 yL_low wsL_low) := goodIn_app (goodIn_of _ (by decide +kernel)) ggL_caches_L_low
set_option maxRecDepth 20000 in
theorem ggL_caches_X4_setCache : GoodIn wsL_caches wsX4_setCache := goodIn_ca (goodIn_r _ [10, 11, 12, 13, 14, 15, 16, 9, 17, 18, 19, 20, 21, 22, 23, 24, 25, 26, 27, 28, 29, 30, 31, 32, 33, 34, 35, 36, 49, 50, 51, 52, 53, 54, 55, 56, 57, 58] (by decide +kernel) (by decide +kernel)) (goodIn_sub (fun _ h => List.mem_cons_of_mem _ (List.mem_append_right _ h)) (by decide +kernel))
set_option maxRecDepth 20000 in
theorem gL_caches_X4_setCache : GoodIn wsL_caches (wsV RL 85 RX4 yX4_setCache wsX4_setCache) := goodIn_app (goodIn_of _ (by decide +kernel)) ggL_caches_X4_setCache
set_option maxRecDepth 20000 in
theorem ggL_caches_X4_forget : GoodIn wsL_caches wsX4_forget := goodIn_ca (goodIn_r _ [40, 11, 12, 13, 15, 16, 9, 17, 41, 42, 43, 21, 44, 33, 45, 46, 47, 48, 34, 35, 36, 49, 50, 51, 52, 53, 54, 55, 56, 57, 58] (by decide +kernel) (by decide +kernel)) (goodIn_sub (fun _ h => List.mem_cons_of_mem _ (List.mem_append_right _ h)) (by decide +kernel))
set_option maxRecDepth 20000 in
theorem gL_caches_X4_forget : GoodIn wsL_caches (wsV RL 88 RX4 yX4_forget wsX4_forget) := goodIn_app (goodIn_of _ (by decide +kernel)) ggL_caches_X4_forget
theorem dL_caches_0 : decode cL_caches 0 = .ok (.iload_n 2, 1) := by decide +kernel
theorem dL_caches_1 : decode cL_caches 1 = .ok (.iconst 2, 1) := by decide +kernel
theorem dL_caches_2 : decode cL_caches 2 = .ok (.invokestatic 64, 3) := by decide +kernel
theorem dL_caches_5 : decode cL_caches 5 = .ok (.istore 5, 2) := by decide +kernel
theorem dL_caches_7 : decode cL_caches 7 = .ok (.iload_n 1, 1) := by decide +kernel
theorem dL_caches_8 : decode cL_caches 8 = .ok (.ifCond .ne 127, 3) := by decide +kernel
theorem dL_caches_11 : decode cL_caches 11 = .ok (.aload 4, 2) := by decide +kernel
theorem dL_caches_13 : decode cL_caches 13 = .ok (.iconst 4, 1) := by decide +kernel
theorem dL_caches_14 : decode cL_caches 14 = .ok (.iload 5, 2) := by decide +kernel
theorem dL_caches_16 : decode cL_caches 16 = .ok (.iadd, 1) := by decide +kernel
theorem dL_caches_17 : decode cL_caches 17 = .ok (.iaload, 1) := by decide +kernel
theorem dL_caches_18 : decode cL_caches 18 = .ok (.istore 6, 2) := by decide +kernel
theorem dL_caches_20 : decode cL_caches 20 = .ok (.aload 4, 2) := by decide +kernel
theorem dL_caches_22 : decode cL_caches 22 = .ok (.iconst 4, 1) := by decide +kernel
theorem dL_caches_23 : decode cL_caches 23 = .ok (.iload 5, 2) := by decide +kernel
theorem dL_caches_25 : decode cL_caches 25 = .ok (.iadd, 1) := by decide +kernel
theorem dL_caches_26 : decode cL_caches 26 = .ok (.iload_n 2, 1) := by decide +kernel
theorem dL_caches_27 : decode cL_caches 27 = .ok (.iconst 2, 1) := by decide +kernel
theorem dL_caches_28 : decode cL_caches 28 = .ok (.ishr, 1) := by decide +kernel
theorem dL_caches_29 : decode cL_caches 29 = .ok (.iload_n 2, 1) := by decide +kernel
theorem dL_caches_30 : decode cL_caches 30 = .ok (.bipush 13, 2) := by decide +kernel
theorem dL_caches_32 : decode cL_caches 32 = .ok (.ishr, 1) := by decide +kernel
theorem dL_caches_33 : decode cL_caches 33 = .ok (.iconst 2, 1) := by decide +kernel
theorem dL_caches_34 : decode cL_caches 34 = .ok (.invokestatic 64, 3) := by decide +kernel
theorem dL_caches_37 : decode cL_caches 37 = .ok (.ifCond .ne 8, 3) := by decide +kernel
theorem dL_caches_40 : decode cL_caches 40 = .ok (.bipush 61, 2) := by decide +kernel
theorem dL_caches_42 : decode cL_caches 42 = .ok (.goto 5, 3) := by decide +kernel
theorem dL_caches_45 : decode cL_caches 45 = .ok (.bipush 13, 2) := by decide +kernel
theorem dL_caches_47 : decode cL_caches 47 = .ok (.invokestatic 64, 3) := by decide +kernel
theorem dL_caches_50 : decode cL_caches 50 = .ok (.iastore, 1) := by decide +kernel
theorem dL_caches_51 : decode cL_caches 51 = .ok (.bipush 15, 2) := by decide +kernel
theorem dL_caches_53 : decode cL_caches 53 = .ok (.iload 5, 2) := by decide +kernel
theorem dL_caches_55 : decode cL_caches 55 = .ok (.imul, 1) := by decide +kernel
theorem dL_caches_56 : decode cL_caches 56 = .ok (.istore 7, 2) := by decide +kernel
theorem dL_caches_58 : decode cL_caches 58 = .ok (.iload 7, 2) := by decide +kernel
theorem dL_caches_60 : decode cL_caches 60 = .ok (.bipush 15, 2) := by decide +kernel
theorem dL_caches_62 : decode cL_caches 62 = .ok (.iload 5, 2) := by decide +kernel
theorem dL_caches_64 : decode cL_caches 64 = .ok (.imul, 1) := by decide +kernel
theorem dL_caches_65 : decode cL_caches 65 = .ok (.bipush 15, 2) := by decide +kernel
theorem dL_caches_67 : decode cL_caches 67 = .ok (.iadd, 1) := by decide +kernel
theorem dL_caches_68 : decode cL_caches 68 = .ok (.if_icmp .ge 43, 3) := by decide +kernel
theorem dL_caches_71 : decode cL_caches 71 = .ok (.aload_n 3, 1) := by decide +kernel
theorem dL_caches_72 : decode cL_caches 72 = .ok (.iload 7, 2) := by decide +kernel
theorem dL_caches_74 : decode cL_caches 74 = .ok (.aload_n 3, 1) := by decide +kernel
theorem dL_caches_75 : decode cL_caches 75 = .ok (.iload 7, 2) := by decide +kernel
theorem dL_caches_77 : decode cL_caches 77 = .ok (.iaload, 1) := by decide +kernel
theorem dL_caches_78 : decode cL_caches 78 = .ok (.aload 4, 2) := by decide +kernel
theorem dL_caches_80 : decode cL_caches 80 = .ok (.iconst 0, 1) := by decide +kernel
theorem dL_caches_81 : decode cL_caches 81 = .ok (.iaload, 1) := by decide +kernel
theorem dL_caches_82 : decode cL_caches 82 = .ok (.if_icmp .le 21, 3) := by decide +kernel
theorem dL_caches_85 : decode cL_caches 85 = .ok (.aload_n 3, 1) := by decide +kernel
theorem dL_caches_86 : decode cL_caches 86 = .ok (.iload 7, 2) := by decide +kernel
theorem dL_caches_88 : decode cL_caches 88 = .ok (.iaload, 1) := by decide +kernel
theorem dL_caches_89 : decode cL_caches 89 = .ok (.iload 6, 2) := by decide +kernel
theorem dL_caches_91 : decode cL_caches 91 = .ok (.isub, 1) := by decide +kernel
theorem dL_caches_92 : decode cL_caches 92 = .ok (.aload 4, 2) := by decide +kernel
theorem dL_caches_94 : decode cL_caches 94 = .ok (.iconst 4, 1) := by decide +kernel
theorem dL_caches_95 : decode cL_caches 95 = .ok (.iload 5, 2) := by decide +kernel
theorem dL_caches_97 : decode cL_caches 97 = .ok (.iadd, 1) := by decide +kernel
theorem dL_caches_98 : decode cL_caches 98 = .ok (.iaload, 1) := by decide +kernel
theorem dL_caches_99 : decode cL_caches 99 = .ok (.iadd, 1) := by decide +kernel
theorem dL_caches_100 : decode cL_caches 100 = .ok (.goto 4, 3) := by decide +kernel
theorem dL_caches_103 : decode cL_caches 103 = .ok (.iconst 0, 1) := by decide +kernel
theorem dL_caches_104 : decode cL_caches 104 = .ok (.iastore, 1) := by decide +kernel
theorem dL_caches_105 : decode cL_caches 105 = .ok (.iinc 7 1, 3) := by decide +kernel
theorem dL_caches_108 : decode cL_caches 108 = .ok (.goto (-50), 3) := by decide +kernel
theorem dL_caches_111 : decode cL_caches 111 = .ok (.aload_n 0, 1) := by decide +kernel
theorem dL_caches_112 : decode cL_caches 112 = .ok (.iload 5, 2) := by decide +kernel
theorem dL_caches_114 : decode cL_caches 114 = .ok (.aload 4, 2) := by decide +kernel
theorem dL_caches_116 : decode cL_caches 116 = .ok (.iconst 4, 1) := by decide +kernel
theorem dL_caches_117 : decode cL_caches 117 = .ok (.iload 5, 2) := by decide +kernel
theorem dL_caches_119 : decode cL_caches 119 = .ok (.iadd, 1) := by decide +kernel
theorem dL_caches_120 : decode cL_caches 120 = .ok (.iaload, 1) := by decide +kernel
theorem dL_caches_121 : decode cL_caches 121 = .ok (.invokevirtual 85, 3) := by decide +kernel
theorem dL_caches_124 : decode cL_caches 124 = .ok (.iload 6, 2) := by decide +kernel
theorem dL_caches_126 : decode cL_caches 126 = .ok (.if_icmp .ne 7, 3) := by decide +kernel
theorem dL_caches_129 : decode cL_caches 129 = .ok (.iconst 1, 1) := by decide +kernel
theorem dL_caches_130 : decode cL_caches 130 = .ok (.goto 4, 3) := by decide +kernel
theorem dL_caches_133 : decode cL_caches 133 = .ok (.iconst 0, 1) := by decide +kernel
theorem dL_caches_134 : decode cL_caches 134 = .ok (.ireturn, 1) := by decide +kernel
theorem dL_caches_135 : decode cL_caches 135 = .ok (.iload_n 2, 1) := by decide +kernel
theorem dL_caches_136 : decode cL_caches 136 = .ok (.iconst 2, 1) := by decide +kernel
theorem dL_caches_137 : decode cL_caches 137 = .ok (.ishr, 1) := by decide +kernel
theorem dL_caches_138 : decode cL_caches 138 = .ok (.iconst 5, 1) := by decide +kernel
theorem dL_caches_139 : decode cL_caches 139 = .ok (.invokestatic 64, 3) := by decide +kernel
theorem dL_caches_142 : decode cL_caches 142 = .ok (.istore 6, 2) := by decide +kernel
theorem dL_caches_144 : decode cL_caches 144 = .ok (.iconst 0, 1) := by decide +kernel
theorem dL_caches_145 : decode cL_caches 145 = .ok (.istore 7, 2) := by decide +kernel
theorem dL_caches_147 : decode cL_caches 147 = .ok (.bipush 15, 2) := by decide +kernel
theorem dL_caches_149 : decode cL_caches 149 = .ok (.iload 5, 2) := by decide +kernel
theorem dL_caches_151 : decode cL_caches 151 = .ok (.imul, 1) := by decide +kernel
theorem dL_caches_152 : decode cL_caches 152 = .ok (.iconst 3, 1) := by decide +kernel
theorem dL_caches_153 : decode cL_caches 153 = .ok (.iload 6, 2) := by decide +kernel
theorem dL_caches_155 : decode cL_caches 155 = .ok (.imul, 1) := by decide +kernel
theorem dL_caches_156 : decode cL_caches 156 = .ok (.iadd, 1) := by decide +kernel
theorem dL_caches_157 : decode cL_caches 157 = .ok (.istore 8, 2) := by decide +kernel
theorem dL_caches_159 : decode cL_caches 159 = .ok (.iload 8, 2) := by decide +kernel
theorem dL_caches_161 : decode cL_caches 161 = .ok (.bipush 15, 2) := by decide +kernel
theorem dL_caches_163 : decode cL_caches 163 = .ok (.iload 5, 2) := by decide +kernel
theorem dL_caches_165 : decode cL_caches 165 = .ok (.imul, 1) := by decide +kernel
theorem dL_caches_166 : decode cL_caches 166 = .ok (.iconst 3, 1) := by decide +kernel
theorem dL_caches_167 : decode cL_caches 167 = .ok (.iload 6, 2) := by decide +kernel
theorem dL_caches_169 : decode cL_caches 169 = .ok (.imul, 1) := by decide +kernel
theorem dL_caches_170 : decode cL_caches 170 = .ok (.iadd, 1) := by decide +kernel
theorem dL_caches_171 : decode cL_caches 171 = .ok (.iconst 3, 1) := by decide +kernel
theorem dL_caches_172 : decode cL_caches 172 = .ok (.iadd, 1) := by decide +kernel
theorem dL_caches_173 : decode cL_caches 173 = .ok (.if_icmp .ge 35, 3) := by decide +kernel
theorem dL_caches_176 : decode cL_caches 176 = .ok (.iload 7, 2) := by decide +kernel
theorem dL_caches_178 : decode cL_caches 178 = .ok (.aload_n 3, 1) := by decide +kernel
theorem dL_caches_179 : decode cL_caches 179 = .ok (.iload 8, 2) := by decide +kernel
theorem dL_caches_181 : decode cL_caches 181 = .ok (.iaload, 1) := by decide +kernel
theorem dL_caches_182 : decode cL_caches 182 = .ok (.aload 4, 2) := by decide +kernel
theorem dL_caches_184 : decode cL_caches 184 = .ok (.iconst 0, 1) := by decide +kernel
theorem dL_caches_185 : decode cL_caches 185 = .ok (.iaload, 1) := by decide +kernel
theorem dL_caches_186 : decode cL_caches 186 = .ok (.if_icmp .le 7, 3) := by decide +kernel
theorem dL_caches_189 : decode cL_caches 189 = .ok (.iconst 1, 1) := by decide +kernel
theorem dL_caches_190 : decode cL_caches 190 = .ok (.goto 4, 3) := by decide +kernel
theorem dL_caches_193 : decode cL_caches 193 = .ok (.iconst 0, 1) := by decide +kernel
theorem dL_caches_194 : decode cL_caches 194 = .ok (.iadd, 1) := by decide +kernel
theorem dL_caches_195 : decode cL_caches 195 = .ok (.istore 7, 2) := by decide +kernel
theorem dL_caches_197 : decode cL_caches 197 = .ok (.aload_n 3, 1) := by decide +kernel
theorem dL_caches_198 : decode cL_caches 198 = .ok (.iload 8, 2) := by decide +kernel
theorem dL_caches_200 : decode cL_caches 200 = .ok (.iconst 0, 1) := by decide +kernel
theorem dL_caches_201 : decode cL_caches 201 = .ok (.iastore, 1) := by decide +kernel
theorem dL_caches_202 : decode cL_caches 202 = .ok (.iinc 8 1, 3) := by decide +kernel
theorem dL_caches_205 : decode cL_caches 205 = .ok (.goto (-46), 3) := by decide +kernel
theorem dL_caches_208 : decode cL_caches 208 = .ok (.aload_n 0, 1) := by decide +kernel
theorem dL_caches_209 : decode cL_caches 209 = .ok (.iload 5, 2) := by decide +kernel
theorem dL_caches_211 : decode cL_caches 211 = .ok (.iload 6, 2) := by decide +kernel
theorem dL_caches_213 : decode cL_caches 213 = .ok (.invokevirtual 88, 3) := by decide +kernel
theorem dL_caches_216 : decode cL_caches 216 = .ok (.iload 7, 2) := by decide +kernel
theorem dL_caches_218 : decode cL_caches 218 = .ok (.if_icmp .ne 7, 3) := by decide +kernel
theorem dL_caches_221 : decode cL_caches 221 = .ok (.iconst 1, 1) := by decide +kernel
theorem dL_caches_222 : decode cL_caches 222 = .ok (.goto 4, 3) := by decide +kernel
theorem dL_caches_225 : decode cL_caches 225 = .ok (.iconst 0, 1) := by decide +kernel
theorem dL_caches_226 : decode cL_caches 226 = .ok (.ireturn, 1) := by decide +kernel
set_option maxRecDepth 20000 in
theorem ggL_law_X4_init : GoodIn wsL_law wsX4_init := goodIn_r _ [6, 7, 8, 9, 10, 11, 12, 13, 14, 15, 16, 17, 18, 19, 20, 21, 22, 23, 24, 25, 3, 26, 27, 28, 29, 30, 31, 32, 33, 34, 35, 36, 37, 38, 39, 40, 41, 42, 43, 44, 45, 46, 47, 48, 49, 50, 51, 52, 53, 54, 55, 56, 57, 58, 59, 60, 61, 62, 63, 64, 361, 362, 363, 364, 354, 355, 356, 357, 358, 359, 360, 365, 366, 367, 368, 369, 370, 371, 372, 373, 374, 375] (by decide +kernel) (by decide +kernel)
set_option maxRecDepth 20000 in
theorem gL_law_X4_init : GoodIn wsL_law (wsX4_init) := ggL_law_X4_init
set_option maxRecDepth 20000 in
theorem ggL_law_L_cell : GoodIn wsL_law wsL_cell := goodIn_r _ [68, 69, 70] (by decide +kernel) (by decide +kernel)
set_option maxRecDepth 20000 in
theorem gL_law_L_cell : GoodIn wsL_law (va_wsS RL 92 yL_cell wsL_cell) := goodIn_app (goodIn_of _ (by decide +kernel)) ggL_law_L_cell
set_option maxRecDepth 20000 in
theorem ggL_law_L_low : GoodIn wsL_law wsL_low := goodIn_r _ [73, 74] (by decide +kernel) (by decide +kernel)
set_option maxRecDepth 20000 in
theorem gL_law_L_low : GoodIn wsL_law (va_wsS RL 64 yL_low wsL_low) := goodIn_app (goodIn_of _ (by decide +kernel)) ggL_law_L_low
