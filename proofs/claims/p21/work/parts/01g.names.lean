theorem dL_decides_34 : decode cL_decides 34 = .ok (.iconst 3, 1) := by decide +kernel
theorem dL_decides_35 : decode cL_decides 35 = .ok (.aload 6, 2) := by decide +kernel
theorem dL_decides_37 : decode cL_decides 37 = .ok (.iconst 5, 1) := by decide +kernel
theorem dL_decides_38 : decode cL_decides 38 = .ok (.iload 11, 2) := by decide +kernel
theorem dL_decides_40 : decode cL_decides 40 = .ok (.imul, 1) := by decide +kernel
theorem dL_decides_41 : decode cL_decides 41 = .ok (.iaload, 1) := by decide +kernel
theorem dL_decides_42 : decode cL_decides 42 = .ok (.imul, 1) := by decide +kernel
theorem dL_decides_43 : decode cL_decides 43 = .ok (.iadd, 1) := by decide +kernel
theorem dL_decides_44 : decode cL_decides 44 = .ok (.iload 12, 2) := by decide +kernel
theorem dL_decides_46 : decode cL_decides 46 = .ok (.iadd, 1) := by decide +kernel
theorem dL_decides_47 : decode cL_decides 47 = .ok (.istore 13, 2) := by decide +kernel
theorem dL_decides_49 : decode cL_decides 49 = .ok (.aload 6, 2) := by decide +kernel
theorem dL_decides_51 : decode cL_decides 51 = .ok (.iconst 5, 1) := by decide +kernel
theorem dL_decides_52 : decode cL_decides 52 = .ok (.iload 11, 2) := by decide +kernel
theorem dL_decides_54 : decode cL_decides 54 = .ok (.imul, 1) := by decide +kernel
theorem dL_decides_55 : decode cL_decides 55 = .ok (.iconst 4, 1) := by decide +kernel
theorem dL_decides_56 : decode cL_decides 56 = .ok (.iadd, 1) := by decide +kernel
theorem dL_decides_57 : decode cL_decides 57 = .ok (.iaload, 1) := by decide +kernel
theorem dL_decides_58 : decode cL_decides 58 = .ok (.iconst 1, 1) := by decide +kernel
theorem dL_decides_59 : decode cL_decides 59 = .ok (.if_icmp .ne 23, 3) := by decide +kernel
theorem dL_decides_62 : decode cL_decides 62 = .ok (.aload_n 0, 1) := by decide +kernel
theorem dL_decides_63 : decode cL_decides 63 = .ok (.iload 10, 2) := by decide +kernel
theorem dL_decides_65 : decode cL_decides 65 = .ok (.iload 11, 2) := by decide +kernel
theorem dL_decides_67 : decode cL_decides 67 = .ok (.iload 12, 2) := by decide +kernel
theorem dL_decides_69 : decode cL_decides 69 = .ok (.invokevirtual 82, 3) := by decide +kernel
theorem dL_decides_72 : decode cL_decides 72 = .ok (.iconst 2, 1) := by decide +kernel
theorem dL_decides_73 : decode cL_decides 73 = .ok (.if_icmp .ne 7, 3) := by decide +kernel
theorem dL_decides_76 : decode cL_decides 76 = .ok (.iconst 1, 1) := by decide +kernel
theorem dL_decides_77 : decode cL_decides 77 = .ok (.goto 4, 3) := by decide +kernel
theorem dL_decides_80 : decode cL_decides 80 = .ok (.iconst 0, 1) := by decide +kernel
theorem dL_decides_81 : decode cL_decides 81 = .ok (.ireturn, 1) := by decide +kernel
theorem dL_decides_82 : decode cL_decides 82 = .ok (.aload 6, 2) := by decide +kernel
theorem dL_decides_84 : decode cL_decides 84 = .ok (.iconst 5, 1) := by decide +kernel
theorem dL_decides_85 : decode cL_decides 85 = .ok (.iload 11, 2) := by decide +kernel
theorem dL_decides_87 : decode cL_decides 87 = .ok (.imul, 1) := by decide +kernel
theorem dL_decides_88 : decode cL_decides 88 = .ok (.iconst 3, 1) := by decide +kernel
theorem dL_decides_89 : decode cL_decides 89 = .ok (.iadd, 1) := by decide +kernel
theorem dL_decides_90 : decode cL_decides 90 = .ok (.aload 9, 2) := by decide +kernel
theorem dL_decides_92 : decode cL_decides 92 = .ok (.iconst 0, 1) := by decide +kernel
theorem dL_decides_93 : decode cL_decides 93 = .ok (.iaload, 1) := by decide +kernel
theorem dL_decides_94 : decode cL_decides 94 = .ok (.iastore, 1) := by decide +kernel
theorem dL_decides_95 : decode cL_decides 95 = .ok (.aload 7, 2) := by decide +kernel
theorem dL_decides_97 : decode cL_decides 97 = .ok (.iload 13, 2) := by decide +kernel
theorem dL_decides_99 : decode cL_decides 99 = .ok (.iaload, 1) := by decide +kernel
theorem dL_decides_100 : decode cL_decides 100 = .ok (.aload 9, 2) := by decide +kernel
theorem dL_decides_102 : decode cL_decides 102 = .ok (.iconst 0, 1) := by decide +kernel
theorem dL_decides_103 : decode cL_decides 103 = .ok (.iaload, 1) := by decide +kernel
theorem dL_decides_104 : decode cL_decides 104 = .ok (.if_icmp .gt 53, 3) := by decide +kernel
theorem dL_decides_107 : decode cL_decides 107 = .ok (.aload 8, 2) := by decide +kernel
theorem dL_decides_109 : decode cL_decides 109 = .ok (.iload 13, 2) := by decide +kernel
theorem dL_decides_111 : decode cL_decides 111 = .ok (.aload 6, 2) := by decide +kernel
theorem dL_decides_113 : decode cL_decides 113 = .ok (.iconst 5, 1) := by decide +kernel
theorem dL_decides_114 : decode cL_decides 114 = .ok (.iload 11, 2) := by decide +kernel
theorem dL_decides_116 : decode cL_decides 116 = .ok (.imul, 1) := by decide +kernel
theorem dL_decides_117 : decode cL_decides 117 = .ok (.iaload, 1) := by decide +kernel
theorem dL_decides_118 : decode cL_decides 118 = .ok (.iload 12, 2) := by decide +kernel
theorem dL_decides_120 : decode cL_decides 120 = .ok (.aload_n 2, 1) := by decide +kernel
theorem dL_decides_121 : decode cL_decides 121 = .ok (.aload_n 3, 1) := by decide +kernel
theorem dL_decides_122 : decode cL_decides 122 = .ok (.aload 4, 2) := by decide +kernel
theorem dL_decides_124 : decode cL_decides 124 = .ok (.aload 5, 2) := by decide +kernel
theorem dL_decides_126 : decode cL_decides 126 = .ok (.aload 9, 2) := by decide +kernel
theorem dL_decides_128 : decode cL_decides 128 = .ok (.invokestatic 58, 3) := by decide +kernel
theorem dL_decides_131 : decode cL_decides 131 = .ok (.ifCond .eq 7, 3) := by decide +kernel
theorem dL_decides_134 : decode cL_decides 134 = .ok (.iconst 1, 1) := by decide +kernel
theorem dL_decides_135 : decode cL_decides 135 = .ok (.goto 4, 3) := by decide +kernel
theorem dL_decides_138 : decode cL_decides 138 = .ok (.iconst 0, 1) := by decide +kernel
theorem dL_decides_139 : decode cL_decides 139 = .ok (.iastore, 1) := by decide +kernel
theorem dL_decides_140 : decode cL_decides 140 = .ok (.aload 7, 2) := by decide +kernel
theorem dL_decides_142 : decode cL_decides 142 = .ok (.iload 13, 2) := by decide +kernel
theorem dL_decides_144 : decode cL_decides 144 = .ok (.aload 9, 2) := by decide +kernel
theorem dL_decides_146 : decode cL_decides 146 = .ok (.iconst 0, 1) := by decide +kernel
theorem dL_decides_147 : decode cL_decides 147 = .ok (.iaload, 1) := by decide +kernel
theorem dL_decides_148 : decode cL_decides 148 = .ok (.aload 9, 2) := by decide +kernel
theorem dL_decides_150 : decode cL_decides 150 = .ok (.iconst 4, 1) := by decide +kernel
theorem dL_decides_151 : decode cL_decides 151 = .ok (.iload 10, 2) := by decide +kernel
theorem dL_decides_153 : decode cL_decides 153 = .ok (.iadd, 1) := by decide +kernel
theorem dL_decides_154 : decode cL_decides 154 = .ok (.iaload, 1) := by decide +kernel
theorem dL_decides_155 : decode cL_decides 155 = .ok (.iadd, 1) := by decide +kernel
theorem dL_decides_156 : decode cL_decides 156 = .ok (.iastore, 1) := by decide +kernel
theorem dL_decides_157 : decode cL_decides 157 = .ok (.aload_n 0, 1) := by decide +kernel
theorem dL_decides_158 : decode cL_decides 158 = .ok (.iload 10, 2) := by decide +kernel
theorem dL_decides_160 : decode cL_decides 160 = .ok (.iload 11, 2) := by decide +kernel
theorem dL_decides_162 : decode cL_decides 162 = .ok (.iload 12, 2) := by decide +kernel
theorem dL_decides_164 : decode cL_decides 164 = .ok (.invokevirtual 82, 3) := by decide +kernel
theorem dL_decides_167 : decode cL_decides 167 = .ok (.iconst 1, 1) := by decide +kernel
theorem dL_decides_168 : decode cL_decides 168 = .ok (.aload 8, 2) := by decide +kernel
theorem dL_decides_170 : decode cL_decides 170 = .ok (.iload 13, 2) := by decide +kernel
theorem dL_decides_172 : decode cL_decides 172 = .ok (.iaload, 1) := by decide +kernel
theorem dL_decides_173 : decode cL_decides 173 = .ok (.isub, 1) := by decide +kernel
theorem dL_decides_174 : decode cL_decides 174 = .ok (.if_icmp .ne 7, 3) := by decide +kernel
theorem dL_decides_177 : decode cL_decides 177 = .ok (.iconst 1, 1) := by decide +kernel
theorem dL_decides_178 : decode cL_decides 178 = .ok (.goto 4, 3) := by decide +kernel
theorem dL_decides_181 : decode cL_decides 181 = .ok (.iconst 0, 1) := by decide +kernel
theorem dL_decides_182 : decode cL_decides 182 = .ok (.ireturn, 1) := by decide +kernel
set_option maxRecDepth 20000 in
theorem ggL_caches_L_low : GoodIn wsL_caches wsL_low := goodIn_r _ [4, 5] (by decide +kernel) (by decide +kernel)
set_option maxRecDepth 20000 in
theorem gL_caches_L_low : GoodIn wsL_caches (va_wsS RL 64 yL_low wsL_low) := goodIn_app (goodIn_of _ (by decide +kernel)) ggL_caches_L_low
set_option maxRecDepth 20000 in
theorem ggL_caches_X4_setCache : GoodIn wsL_caches wsX4_setCache := goodIn_ca (goodIn_r _ [10, 11, 12, 13, 14, 15, 16, 9, 17, 18, 19, 20, 21, 22, 23, 24, 25, 26, 27, 28, 29, 30, 31, 32, 33, 34, 35, 36, 49, 50, 51, 52, 53, 54, 55, 56, 57, 58] (by decide +kernel) (by decide +kernel)) (goodIn_sub (fun _ h => List.mem_cons_of_mem _ (List.mem_append_right _ h)) (by decide +kernel))
set_option maxRecDepth 20000 in
theorem gL_caches_X4_setCache : GoodIn wsL_caches (wsV RL 85 RX4 yX4_setCache wsX4_setCache) := goodIn_app (goodIn_of _ (by decide +kernel)) ggL_caches_X4_setCache
set_option maxRecDepth 20000 in
theorem ggL_caches_X4_forget : GoodIn wsL_caches wsX4_forget := goodIn_ca (goodIn_r _ [40, 11, 12, 13, 15, 16, 9, 17, 41, 42, 43, 21, 44, 33, 45, 46, 47, 48, 34, 35, 36, 49, 50, 51, 52, 53, 54, 55, 56, 57, 58] (by decide +kernel) (by decide +kernel)) (goodIn_sub (fun _ h => List.mem_cons_of_mem _ (List.mem_append_right _ h)) (by decide +kernel))
set_option maxRecDepth 20000 in
theorem gL_caches_X4_forget : GoodIn wsL_caches (wsV RL 88 RX4 yX4_forget wsX4_forget) := goodIn_app (goodIn_of _ (by decide +kernel)) ggL_caches_X4_forget
theorem dL_caches_0 : decode cL_caches 0 = .ok (.iload_n 2, 1) := by decide +kernel
theorem dL_caches_1 : decode cL_caches 1 = .ok (.iconst 2, 1) := by decide +kernel
theorem dL_caches_2 : decode cL_caches 2 = .ok (.invokestatic 64, 3) := by decide +kernel
theorem dL_caches_5 : decode cL_caches 5 = .ok (.istore 5, 2) := by decide +kernel
theorem dL_caches_7 : decode cL_caches 7 = .ok (.iload_n 1, 1) := by decide +kernel
theorem dL_caches_8 : decode cL_caches 8 = .ok (.ifCond .ne 127, 3) := by decide +kernel
theorem dL_caches_11 : decode cL_caches 11 = .ok (.aload 4, 2) := by decide +kernel
theorem dL_caches_13 : decode cL_caches 13 = .ok (.iconst 4, 1) := by decide +kernel
theorem dL_caches_14 : decode cL_caches 14 = .ok (.iload 5, 2) := by decide +kernel
theorem dL_caches_16 : decode cL_caches 16 = .ok (.iadd, 1) := by decide +kernel
theorem dL_caches_17 : decode cL_caches 17 = .ok (.iaload, 1) := by decide +kernel
theorem dL_caches_18 : decode cL_caches 18 = .ok (.istore 6, 2) := by decide +kernel
theorem dL_caches_20 : decode cL_caches 20 = .ok (.aload 4, 2) := by decide +kernel
theorem dL_caches_22 : decode cL_caches 22 = .ok (.iconst 4, 1) := by decide +kernel
theorem dL_caches_23 : decode cL_caches 23 = .ok (.iload 5, 2) := by decide +kernel
theorem dL_caches_25 : decode cL_caches 25 = .ok (.iadd, 1) := by decide +kernel
theorem dL_caches_26 : decode cL_caches 26 = .ok (.iload_n 2, 1) := by decide +kernel
theorem dL_caches_27 : decode cL_caches 27 = .ok (.iconst 2, 1) := by decide +kernel
theorem dL_caches_28 : decode cL_caches 28 = .ok (.ishr, 1) := by decide +kernel
theorem dL_caches_29 : decode cL_caches 29 = .ok (.iload_n 2, 1) := by decide +kernel
theorem dL_caches_30 : decode cL_caches 30 = .ok (.bipush 13, 2) := by decide +kernel
theorem dL_caches_32 : decode cL_caches 32 = .ok (.ishr, 1) := by decide +kernel
theorem dL_caches_33 : decode cL_caches 33 = .ok (.iconst 2, 1) := by decide +kernel
theorem dL_caches_34 : decode cL_caches 34 = .ok (.invokestatic 64, 3) := by decide +kernel
theorem dL_caches_37 : decode cL_caches 37 = .ok (.ifCond .ne 8, 3) := by decide +kernel
theorem dL_caches_40 : decode cL_caches 40 = .ok (.bipush 61, 2) := by decide +kernel
theorem dL_caches_42 : decode cL_caches 42 = .ok (.goto 5, 3) := by decide +kernel
theorem dL_caches_45 : decode cL_caches 45 = .ok (.bipush 13, 2) := by decide +kernel
theorem dL_caches_47 : decode cL_caches 47 = .ok (.invokestatic 64, 3) := by decide +kernel
theorem dL_caches_50 : decode cL_caches 50 = .ok (.iastore, 1) := by decide +kernel
theorem dL_caches_51 : decode cL_caches 51 = .ok (.bipush 15, 2) := by decide +kernel
theorem dL_caches_53 : decode cL_caches 53 = .ok (.iload 5, 2) := by decide +kernel
theorem dL_caches_55 : decode cL_caches 55 = .ok (.imul, 1) := by decide +kernel
theorem dL_caches_56 : decode cL_caches 56 = .ok (.istore 7, 2) := by decide +kernel
theorem dL_caches_58 : decode cL_caches 58 = .ok (.iload 7, 2) := by decide +kernel
theorem dL_caches_60 : decode cL_caches 60 = .ok (.bipush 15, 2) := by decide +kernel
theorem dL_caches_62 : decode cL_caches 62 = .ok (.iload 5, 2) := by decide +kernel
theorem dL_caches_64 : decode cL_caches 64 = .ok (.imul, 1) := by decide +kernel
theorem dL_caches_65 : decode cL_caches 65 = .ok (.bipush 15, 2) := by decide +kernel
theorem dL_caches_67 : decode cL_caches 67 = .ok (.iadd, 1) := by decide +kernel
theorem dL_caches_68 : decode cL_caches 68 = .ok (.if_icmp .ge 43, 3) := by decide +kernel
theorem dL_caches_71 : decode cL_caches 71 = .ok (.aload_n 3, 1) := by decide +kernel
theorem dL_caches_72 : decode cL_caches 72 = .ok (.iload 7, 2) := by decide +kernel
theorem dL_caches_74 : decode cL_caches 74 = .ok (.aload_n 3, 1) := by decide +kernel
theorem dL_caches_75 : decode cL_caches 75 = .ok (.iload 7, 2) := by decide +kernel
theorem dL_caches_77 : decode cL_caches 77 = .ok (.iaload, 1) := by decide +kernel
theorem dL_caches_78 : decode cL_caches 78 = .ok (.aload 4, 2) := by decide +kernel
theorem dL_caches_80 : decode cL_caches 80 = .ok (.iconst 0, 1) := by decide +kernel
theorem dL_caches_81 : decode cL_caches 81 = .ok (.iaload, 1) := by decide +kernel
theorem dL_caches_82 : decode cL_caches 82 = .ok (.if_icmp .le 21, 3) := by decide +kernel
theorem dL_caches_85 : decode cL_caches 85 = .ok (.aload_n 3, 1) := by decide +kernel
theorem dL_caches_86 : decode cL_caches 86 = .ok (.iload 7, 2) := by decide +kernel
theorem dL_caches_88 : decode cL_caches 88 = .ok (.iaload, 1) := by decide +kernel
theorem dL_caches_89 : decode cL_caches 89 = .ok (.iload 6, 2) := by decide +kernel
theorem dL_caches_91 : decode cL_caches 91 = .ok (.isub, 1) := by decide +kernel
theorem dL_caches_92 : decode cL_caches 92 = .ok (.aload 4, 2) := by decide +kernel
theorem dL_caches_94 : decode cL_caches 94 = .ok (.iconst 4, 1) := by decide +kernel
theorem dL_caches_95 : decode cL_caches 95 = .ok (.iload 5, 2) := by decide +kernel
theorem dL_caches_97 : decode cL_caches 97 = .ok (.iadd, 1) := by decide +kernel
theorem dL_caches_98 : decode cL_caches 98 = .ok (.iaload, 1) := by decide +kernel
theorem dL_caches_99 : decode cL_caches 99 = .ok (.iadd, 1) := by decide +kernel
theorem dL_caches_100 : decode cL_caches 100 = .ok (.goto 4, 3) := by decide +kernel
theorem dL_caches_103 : decode cL_caches 103 = .ok (.iconst 0, 1) := by decide +kernel
theorem dL_caches_104 : decode cL_caches 104 = .ok (.iastore, 1) := by decide +kernel
theorem dL_caches_105 : decode cL_caches 105 = .ok (.iinc 7 1, 3) := by decide +kernel
theorem dL_caches_108 : decode cL_caches 108 = .ok (.goto (-50), 3) := by decide +kernel
theorem dL_caches_111 : decode cL_caches 111 = .ok (.aload_n 0, 1) := by decide +kernel
theorem dL_caches_112 : decode cL_caches 112 = .ok (.iload 5, 2) := by decide +kernel
theorem dL_caches_114 : decode cL_caches 114 = .ok (.aload 4, 2) := by decide +kernel
theorem dL_caches_116 : decode cL_caches 116 = .ok (.iconst 4, 1) := by decide +kernel
theorem dL_caches_117 : decode cL_caches 117 = .ok (.iload 5, 2) := by decide +kernel
theorem dL_caches_119 : decode cL_caches 119 = .ok (.iadd, 1) := by decide +kernel
theorem dL_caches_120 : decode cL_caches 120 = .ok (.iaload, 1) := by decide +kernel
theorem dL_caches_121 : decode cL_caches 121 = .ok (.invokevirtual 85, 3) := by decide +kernel
theorem dL_caches_124 : decode cL_caches 124 = .ok (.iload 6, 2) := by decide +kernel
theorem dL_caches_126 : decode cL_caches 126 = .ok (.if_icmp .ne 7, 3) := by decide +kernel
theorem dL_caches_129 : decode cL_caches 129 = .ok (.iconst 1, 1) := by decide +kernel
theorem dL_caches_130 : decode cL_caches 130 = .ok (.goto 4, 3) := by decide +kernel
theorem dL_caches_133 : decode cL_caches 133 = .ok (.iconst 0, 1) := by decide +kernel
theorem dL_caches_134 : decode cL_caches 134 = .ok (.ireturn, 1) := by decide +kernel
theorem dL_caches_135 : decode cL_caches 135 = .ok (.iload_n 2, 1) := by decide +kernel
theorem dL_caches_136 : decode cL_caches 136 = .ok (.iconst 2, 1) := by decide +kernel
theorem dL_caches_137 : decode cL_caches 137 = .ok (.ishr, 1) := by decide +kernel
theorem dL_caches_138 : decode cL_caches 138 = .ok (.iconst 5, 1) := by decide +kernel
theorem dL_caches_139 : decode cL_caches 139 = .ok (.invokestatic 64, 3) := by decide +kernel
theorem dL_caches_142 : decode cL_caches 142 = .ok (.istore 6, 2) := by decide +kernel
theorem dL_caches_144 : decode cL_caches 144 = .ok (.iconst 0, 1) := by decide +kernel
theorem dL_caches_145 : decode cL_caches 145 = .ok (.istore 7, 2) := by decide +kernel
theorem dL_caches_147 : decode cL_caches 147 = .ok (.bipush 15, 2) := by decide +kernel
theorem dL_caches_149 : decode cL_caches 149 = .ok (.iload 5, 2) := by decide +kernel
theorem dL_caches_151 : decode cL_caches 151 = .ok (.imul, 1) := by decide +kernel
theorem dL_caches_152 : decode cL_caches 152 = .ok (.iconst 3, 1) := by decide +kernel
theorem dL_caches_153 : decode cL_caches 153 = .ok (.iload 6, 2) := by decide +kernel
theorem dL_caches_155 : decode cL_caches 155 = .ok (.imul, 1) := by decide +kernel
theorem dL_caches_156 : decode cL_caches 156 = .ok (.iadd, 1) := by decide +kernel
theorem dL_caches_157 : decode cL_caches 157 = .ok (.istore 8, 2) := by decide +kernel
theorem dL_caches_159 : decode cL_caches 159 = .ok (.iload 8, 2) := by decide +kernel
theorem dL_caches_161 : decode cL_caches 161 = .ok (.bipush 15, 2) := by decide +kernel
theorem dL_caches_163 : decode cL_caches 163 = .ok (.iload 5, 2) := by decide +kernel
theorem dL_caches_165 : decode cL_caches 165 = .ok (.imul, 1) := by decide +kernel
theorem dL_caches_166 : decode cL_caches 166 = .ok (.iconst 3, 1) := by decide +kernel
theorem dL_caches_167 : decode cL_caches 167 = .ok (.iload 6, 2) := by decide +kernel
theorem dL_caches_169 : decode cL_caches 169 = .ok (.imul, 1) := by decide +kernel
theorem dL_caches_170 : decode cL_caches 170 = .ok (.iadd, 1) := by decide +kernel
theorem dL_caches_171 : decode cL_caches 171 = .ok (.iconst 3, 1) := by decide +kernel
theorem dL_caches_172 : decode cL_caches 172 = .ok (.iadd, 1) := by decide +kernel
theorem dL_caches_173 : decode cL_caches 173 = .ok (.if_icmp .ge 35, 3) := by decide +kernel
theorem dL_caches_176 : decode cL_caches 176 = .ok (.iload 7, 2) := by decide +kernel
theorem dL_caches_178 : decode cL_caches 178 = .ok (.aload_n 3, 1) := by decide +kernel
theorem dL_caches_179 : decode cL_caches 179 = .ok (.iload 8, 2) := by decide +kernel
theorem dL_caches_181 : decode cL_caches 181 = .ok (.iaload, 1) := by decide +kernel
theorem dL_caches_182 : decode cL_caches 182 = .ok (.aload 4, 2) := by decide +kernel
theorem dL_caches_184 : decode cL_caches 184 = .ok (.iconst 0, 1) := by decide +kernel
theorem dL_caches_185 : decode cL_caches 185 = .ok (.iaload, 1) := by decide +kernel
theorem dL_caches_186 : decode cL_caches 186 = .ok (.if_icmp .le 7, 3) := by decide +kernel
theorem dL_caches_189 : decode cL_caches 189 = .ok (.iconst 1, 1) := by decide +kernel
theorem dL_caches_190 : decode cL_caches 190 = .ok (.goto 4, 3) := by decide +kernel
theorem dL_caches_193 : decode cL_caches 193 = .ok (.iconst 0, 1) := by decide +kernel
theorem dL_caches_194 : decode cL_caches 194 = .ok (.iadd, 1) := by decide +kernel
theorem dL_caches_195 : decode cL_caches 195 = .ok (.istore 7, 2) := by decide +kernel
theorem dL_caches_197 : decode cL_caches 197 = .ok (.aload_n 3, 1) := by decide +kernel
theorem dL_caches_198 : decode cL_caches 198 = .ok (.iload 8, 2) := by decide +kernel
theorem dL_caches_200 : decode cL_caches 200 = .ok (.iconst 0, 1) := by decide +kernel
theorem dL_caches_201 : decode cL_caches 201 = .ok (.iastore, 1) := by decide +kernel
theorem dL_caches_202 : decode cL_caches 202 = .ok (.iinc 8 1, 3) := by decide +kernel
theorem dL_caches_205 : decode cL_caches 205 = .ok (.goto (-46), 3) := by decide +kernel
theorem dL_caches_208 : decode cL_caches 208 = .ok (.aload_n 0, 1) := by decide +kernel
theorem dL_caches_209 : decode cL_caches 209 = .ok (.iload 5, 2) := by decide +kernel
theorem dL_caches_211 : decode cL_caches 211 = .ok (.iload 6, 2) := by decide +kernel
theorem dL_caches_213 : decode cL_caches 213 = .ok (.invokevirtual 88, 3) := by decide +kernel
theorem dL_caches_216 : decode cL_caches 216 = .ok (.iload 7, 2) := by decide +kernel
theorem dL_caches_218 : decode cL_caches 218 = .ok (.if_icmp .ne 7, 3) := by decide +kernel
theorem dL_caches_221 : decode cL_caches 221 = .ok (.iconst 1, 1) := by decide +kernel
theorem dL_caches_222 : decode cL_caches 222 = .ok (.goto 4, 3) := by decide +kernel
theorem dL_caches_225 : decode cL_caches 225 = .ok (.iconst 0, 1) := by decide +kernel
theorem dL_caches_226 : decode cL_caches 226 = .ok (.ireturn, 1) := by decide +kernel
set_option maxRecDepth 20000 in
theorem ggL_law_X4_init : GoodIn wsL_law wsX4_init := goodIn_r _ [6, 7, 8, 9, 10, 11, 12, 13, 14, 15, 16, 17, 18, 19, 20, 21, 22, 23, 24, 25, 3, 26, 27, 28, 29, 30, 31, 32, 33, 34, 35, 36, 37, 38, 39, 40, 41, 42, 43, 44, 45, 46, 47, 48, 49, 50, 51, 52, 53, 54, 55, 56, 57, 58, 59, 60, 61, 62, 63, 64, 361, 362, 363, 364, 354, 355, 356, 357, 358, 359, 360, 365, 366, 367, 368, 369, 370, 371, 372, 373, 374, 375] (by decide +kernel) (by decide +kernel)
set_option maxRecDepth 20000 in
theorem gL_law_X4_init : GoodIn wsL_law (wsX4_init) := ggL_law_X4_init
set_option maxRecDepth 20000 in
theorem ggL_law_L_cell : GoodIn wsL_law wsL_cell := goodIn_r _ [68, 69, 70] (by decide +kernel) (by decide +kernel)
set_option maxRecDepth 20000 in
theorem gL_law_L_cell : GoodIn wsL_law (va_wsS RL 92 yL_cell wsL_cell) := goodIn_app (goodIn_of _ (by decide +kernel)) ggL_law_L_cell
set_option maxRecDepth 20000 in
theorem ggL_law_L_low : GoodIn wsL_law wsL_low := goodIn_r _ [73, 74] (by decide +kernel) (by decide +kernel)
set_option maxRecDepth 20000 in
theorem gL_law_L_low : GoodIn wsL_law (va_wsS RL 64 yL_low wsL_low) := goodIn_app (goodIn_of _ (by decide +kernel)) ggL_law_L_low
set_option maxRecDepth 20000 in
theorem ggL_law_L_sets : GoodIn wsL_law wsL_sets := goodIn_ca (goodIn_ca (goodIn_ca (goodIn_r _ [77, 71, 72, 67, 73, 74, 78, 79, 80, 2, 81, 82, 83, 13, 84, 85, 86, 87, 88, 89, 12, 90, 33, 91, 92, 93, 94, 95, 96, 97, 98, 99, 100, 101, 102, 103, 104, 105, 106, 107, 108, 109, 110, 111, 34, 112, 113, 114, 115, 116, 117, 118, 119, 120, 121, 122, 123, 124, 125, 126, 127, 17, 21, 28, 128, 129, 130, 131, 26, 132, 133, 134, 16, 135, 47, 136, 137, 138, 20, 139, 52, 140, 141, 142, 143, 41, 42, 43, 44, 144, 145, 146, 147, 148, 149, 150, 151, 152, 153, 154, 155, 156, 157, 46, 158, 159, 160, 161, 162, 163, 164, 165, 166, 167, 168, 169, 27, 170, 171, 172, 173, 174, 175, 176, 177, 35, 178, 179, 180, 181, 182, 183, 184, 185, 36, 186, 187, 188, 189, 190, 191, 192, 193, 194, 195, 196, 197, 198, 354, 355, 356, 357, 358, 359, 360, 361, 362, 363, 364, 365, 366, 367, 368, 369, 370, 371, 372] (by decide +kernel) (by decide +kernel)) (goodIn_sub (fun _ h => List.mem_append_left _ (List.mem_append_left _ (List.mem_append_right _ h))) (by decide +kernel))) (goodIn_sub (fun _ h => List.mem_append_left _ (List.mem_append_right _ h)) (by decide +kernel))) (goodIn_sub (fun _ h => List.mem_append_right _ h) (by decide +kernel))
set_option maxRecDepth 20000 in
theorem gL_law_L_sets : GoodIn wsL_law (va_wsS RL 96 yL_sets wsL_sets) := goodIn_app (goodIn_of _ (by decide +kernel)) ggL_law_L_sets
set_option maxRecDepth 20000 in
theorem ggL_law_L_calls : GoodIn wsL_law wsL_calls := goodIn_ca (goodIn_ca (goodIn_ca (goodIn_r _ [99, 100, 101, 102, 103, 104, 2, 105, 82, 83, 106, 107, 13, 84, 85, 86, 108, 109, 110, 12, 111, 34, 112, 113, 114, 115, 116, 117, 118, 119, 91, 92, 93, 120, 121, 122, 123, 94, 95, 96, 124, 125, 126, 127, 17, 21, 28, 128, 129, 130, 131, 26, 132, 133, 134, 16, 135, 47, 136, 137, 138, 20, 139, 52, 140, 141, 142, 143, 41, 42, 43, 44, 144, 145, 146, 147, 148, 149, 150, 151, 152, 153, 154, 155, 156, 157, 46, 158, 159, 160, 161, 162, 163, 164, 165, 166, 167, 168, 169, 27, 170, 171, 172, 173, 174, 175, 176, 177, 33, 35, 354, 355, 356, 357, 358, 359, 360, 361, 362, 363, 364, 365, 366, 367, 368, 369, 370, 371, 372] (by decide +kernel) (by decide +kernel)) (goodIn_sub (fun _ h => List.mem_append_left _ (List.mem_append_left _ (List.mem_append_right _ h))) (by decide +kernel))) (goodIn_sub (fun _ h => List.mem_append_left _ (List.mem_append_right _ h)) (by decide +kernel))) (goodIn_sub (fun _ h => List.mem_append_right _ h) (by decide +kernel))
set_option maxRecDepth 20000 in
theorem gL_law_L_calls : GoodIn wsL_law (va_wsS RL 71 yL_calls wsL_calls) := goodIn_app (goodIn_of _ (by decide +kernel)) ggL_law_L_calls
set_option maxRecDepth 20000 in
theorem ggL_law_L_decides : GoodIn wsL_law wsL_decides := goodIn_ca (goodIn_ca (goodIn_r _ [201, 71, 72, 67, 73, 74, 202, 203, 204, 2, 205, 82, 83, 148, 149, 17, 28, 84, 85, 86, 150, 151, 152, 16, 153, 47, 154, 155, 156, 157, 46, 206, 207, 208, 209, 44, 210, 211, 212, 213, 41, 214, 215, 216, 217, 25, 218, 219, 220, 24, 221, 59, 222, 223, 224, 225, 226, 227, 228, 229, 230, 231, 232, 13, 128, 129, 130, 131, 26, 174, 175, 176, 12, 177, 33, 35, 112, 113, 114, 115, 116, 117, 118, 119, 34, 91, 92, 93, 233, 234, 235, 236, 36, 237, 238, 239, 240, 27, 241, 242, 243, 244, 58, 60, 245, 246, 247, 248, 249, 250, 354, 355, 356, 357, 358, 359, 360, 365, 366, 367, 368, 369, 370, 373, 374, 375, 361, 362, 363, 364] (by decide +kernel) (by decide +kernel)) (goodIn_sub (fun _ h => List.mem_append_left _ (List.mem_append_left _ (List.mem_append_right _ h))) (by decide +kernel))) (goodIn_sub (fun _ h => List.mem_append_right _ h) (by decide +kernel))
set_option maxRecDepth 20000 in
theorem gL_law_L_decides : GoodIn wsL_law (va_wsS RL 100 yL_decides wsL_decides) := goodIn_app (goodIn_of _ (by decide +kernel)) ggL_law_L_decides
set_option maxRecDepth 20000 in
theorem ggL_law_L_serves : GoodIn wsL_law wsL_serves := goodIn_r _ [253, 248, 249, 67, 250] (by decide +kernel) (by decide +kernel)
set_option maxRecDepth 20000 in
theorem gL_law_L_serves : GoodIn wsL_law (va_wsS RL 104 yL_serves wsL_serves) := goodIn_app (goodIn_of _ (by decide +kernel)) ggL_law_L_serves
set_option maxRecDepth 20000 in
theorem ggL_law_L_caches : GoodIn wsL_law wsL_caches := goodIn_ca (goodIn_r _ [256, 71, 72, 67, 73, 74, 257, 258, 259, 2, 260, 82, 83, 25, 28, 84, 85, 86, 261, 262, 263, 24, 264, 58, 265, 266, 267, 268, 269, 270, 271, 272, 60, 59, 222, 223, 224, 273, 274, 275, 276, 277, 278, 279, 280, 281, 219, 220, 221, 354, 355, 356, 357, 358, 359, 360, 373, 374, 375] (by decide +kernel) (by decide +kernel)) (goodIn_sub (fun _ h => List.mem_append_left _ (List.mem_append_left _ (List.mem_append_right _ h))) (by decide +kernel))
set_option maxRecDepth 20000 in
theorem gL_law_L_caches : GoodIn wsL_law (va_wsS RL 108 yL_caches wsL_caches) := goodIn_app (goodIn_of _ (by decide +kernel)) ggL_law_L_caches
set_option maxRecDepth 20000 in
theorem ggL_law_L_sweep : GoodIn wsL_law wsL_sweep := goodIn_r _ [284, 285, 286, 67, 287] (by decide +kernel) (by decide +kernel)
set_option maxRecDepth 20000 in
theorem gL_law_L_sweep : GoodIn wsL_law (va_wsS RL 112 yL_sweep wsL_sweep) := goodIn_app (goodIn_of _ (by decide +kernel)) ggL_law_L_sweep
set_option maxRecDepth 20000 in
theorem ggL_law_X4_changeKeys : GoodIn wsL_law wsX4_changeKeys := goodIn_ca (goodIn_r _ [291, 82, 83, 21, 28, 17, 26, 292, 293, 294, 20, 295, 52, 53, 296, 297, 298, 16, 299, 47, 46, 41, 300, 301, 302, 303, 44, 42, 304, 163, 164, 165, 43, 305, 306, 307, 308, 198, 159, 160, 161, 136, 137, 138, 139, 354, 355, 356, 357, 358, 359, 360, 371, 372, 365, 366, 367, 368, 369, 370] (by decide +kernel) (by decide +kernel)) (goodIn_sub (fun _ h => List.mem_append_left _ (List.mem_append_left _ (List.mem_append_right _ h))) (by decide +kernel))
set_option maxRecDepth 20000 in
theorem gL_law_X4_changeKeys : GoodIn wsL_law (wsV RL 116 RX4 yX4_changeKeys wsX4_changeKeys) := goodIn_app (goodIn_of _ (by decide +kernel)) ggL_law_X4_changeKeys
set_option maxRecDepth 20000 in
theorem ggL_law_X4_pass : GoodIn wsL_law wsX4_pass := goodIn_ca (goodIn_r _ [312, 82, 83, 28, 25, 17, 26, 21, 313, 314, 315, 24, 316, 317, 270, 271, 272, 60, 58, 59, 222, 223, 224, 296, 297, 298, 16, 299, 47, 46, 41, 300, 301, 302, 303, 44, 42, 304, 163, 164, 165, 43, 305, 306, 307, 20, 308, 52, 53, 198, 159, 160, 161, 354, 355, 356, 357, 358, 359, 360, 373, 374, 375, 365, 366, 367, 368, 369, 370, 371, 372] (by decide +kernel) (by decide +kernel)) (goodIn_sub (fun _ h => List.mem_append_left _ (List.mem_append_left _ (List.mem_append_right _ h))) (by decide +kernel))
set_option maxRecDepth 20000 in
theorem gL_law_X4_pass : GoodIn wsL_law (wsV RL 119 RX4 yX4_pass wsX4_pass) := goodIn_app (goodIn_of _ (by decide +kernel)) ggL_law_X4_pass
set_option maxRecDepth 20000 in
theorem ggL_law_L_isSo : GoodIn wsL_law wsL_isSo := goodIn_ca (goodIn_ca (goodIn_r _ [320, 321, 322, 323, 2, 324, 28, 325, 326, 327, 328, 82, 83, 21, 136, 137, 138, 20, 139, 52, 329, 306, 307, 308, 53, 285, 286, 67, 287, 330, 331, 332, 333, 148, 149, 17, 150, 151, 152, 16, 153, 47, 154, 155, 156, 157, 46, 334, 335, 336, 337, 13, 84, 85, 86, 338, 339, 340, 12, 341, 33, 112, 113, 114, 115, 116, 117, 118, 119, 34, 91, 92, 93, 248, 249, 250, 342, 343, 344, 345, 229, 230, 231, 232, 128, 129, 130, 131, 26, 174, 175, 176, 177, 35, 233, 234, 235, 236, 36, 237, 238, 239, 240, 27, 245, 246, 247, 346, 347, 348, 349, 350, 351, 352, 353, 25, 218, 219, 220, 24, 221, 59, 222, 223, 224, 225, 226, 227, 228, 354, 355, 356, 357, 358, 359, 360, 371, 372, 365, 366, 367, 368, 369, 370, 361, 362, 363, 364, 373, 374, 375] (by decide +kernel) (by decide +kernel)) (goodIn_sub (fun _ h => List.mem_append_left _ (List.mem_append_left _ (List.mem_append_right _ h))) (by decide +kernel))) (goodIn_sub (fun _ h => List.mem_append_right _ h) (by decide +kernel))
set_option maxRecDepth 20000 in
theorem gL_law_L_isSo : GoodIn wsL_law (va_wsS RL 122 yL_isSo wsL_isSo) := goodIn_app (goodIn_of _ (by decide +kernel)) ggL_law_L_isSo
theorem dL_law_0 : decode cL_law 0 = .ok (.new 11, 3) := by decide +kernel
theorem dL_law_3 : decode cL_law 3 = .ok (.dup, 1) := by decide +kernel
theorem dL_law_4 : decode cL_law 4 = .ok (.invokespecial 91, 3) := by decide +kernel
theorem dL_law_7 : decode cL_law 7 = .ok (.astore_n 1, 1) := by decide +kernel
theorem dL_law_8 : decode cL_law 8 = .ok (.bipush 6, 2) := by decide +kernel
theorem dL_law_10 : decode cL_law 10 = .ok (.newarray .int, 2) := by decide +kernel
theorem dL_law_12 : decode cL_law 12 = .ok (.astore_n 2, 1) := by decide +kernel
theorem dL_law_13 : decode cL_law 13 = .ok (.bipush 8, 2) := by decide +kernel
theorem dL_law_15 : decode cL_law 15 = .ok (.newarray .int, 2) := by decide +kernel
theorem dL_law_17 : decode cL_law 17 = .ok (.astore_n 3, 1) := by decide +kernel
theorem dL_law_18 : decode cL_law 18 = .ok (.bipush 12, 2) := by decide +kernel
theorem dL_law_20 : decode cL_law 20 = .ok (.newarray .int, 2) := by decide +kernel
theorem dL_law_22 : decode cL_law 22 = .ok (.astore 4, 2) := by decide +kernel
theorem dL_law_24 : decode cL_law 24 = .ok (.iconst 5, 1) := by decide +kernel
theorem dL_law_25 : decode cL_law 25 = .ok (.newarray .int, 2) := by decide +kernel
theorem dL_law_27 : decode cL_law 27 = .ok (.astore 5, 2) := by decide +kernel
theorem dL_law_29 : decode cL_law 29 = .ok (.bipush 15, 2) := by decide +kernel
theorem dL_law_31 : decode cL_law 31 = .ok (.newarray .int, 2) := by decide +kernel
theorem dL_law_33 : decode cL_law 33 = .ok (.astore 6, 2) := by decide +kernel
theorem dL_law_35 : decode cL_law 35 = .ok (.bipush 60, 2) := by decide +kernel
theorem dL_law_37 : decode cL_law 37 = .ok (.newarray .int, 2) := by decide +kernel
theorem dL_law_39 : decode cL_law 39 = .ok (.astore 7, 2) := by decide +kernel
theorem dL_law_41 : decode cL_law 41 = .ok (.bipush 30, 2) := by decide +kernel
theorem dL_law_43 : decode cL_law 43 = .ok (.newarray .int, 2) := by decide +kernel
theorem dL_law_45 : decode cL_law 45 = .ok (.astore 8, 2) := by decide +kernel
theorem dL_law_47 : decode cL_law 47 = .ok (.bipush 30, 2) := by decide +kernel
theorem dL_law_49 : decode cL_law 49 = .ok (.newarray .int, 2) := by decide +kernel
theorem dL_law_51 : decode cL_law 51 = .ok (.astore 9, 2) := by decide +kernel
theorem dL_law_53 : decode cL_law 53 = .ok (.aload_n 2, 1) := by decide +kernel
theorem dL_law_54 : decode cL_law 54 = .ok (.iconst 4, 1) := by decide +kernel
theorem dL_law_55 : decode cL_law 55 = .ok (.bipush 10, 2) := by decide +kernel
theorem dL_law_57 : decode cL_law 57 = .ok (.iastore, 1) := by decide +kernel
theorem dL_law_58 : decode cL_law 58 = .ok (.aload_n 2, 1) := by decide +kernel
theorem dL_law_59 : decode cL_law 59 = .ok (.iconst 5, 1) := by decide +kernel
theorem dL_law_60 : decode cL_law 60 = .ok (.bipush 10, 2) := by decide +kernel
theorem dL_law_62 : decode cL_law 62 = .ok (.iastore, 1) := by decide +kernel
theorem dL_law_63 : decode cL_law 63 = .ok (.iconst 0, 1) := by decide +kernel
theorem dL_law_64 : decode cL_law 64 = .ok (.istore 10, 2) := by decide +kernel
theorem dL_law_66 : decode cL_law 66 = .ok (.iload 10, 2) := by decide +kernel
theorem dL_law_68 : decode cL_law 68 = .ok (.bipush 110, 2) := by decide +kernel
theorem dL_law_70 : decode cL_law 70 = .ok (.if_icmp .ge 756, 3) := by decide +kernel
theorem dL_law_73 : decode cL_law 73 = .ok (.aload_n 0, 1) := by decide +kernel
theorem dL_law_74 : decode cL_law 74 = .ok (.iload 10, 2) := by decide +kernel
theorem dL_law_76 : decode cL_law 76 = .ok (.invokestatic 92, 3) := by decide +kernel
theorem dL_law_79 : decode cL_law 79 = .ok (.istore 11, 2) := by decide +kernel
theorem dL_law_81 : decode cL_law 81 = .ok (.iload 11, 2) := by decide +kernel
theorem dL_law_83 : decode cL_law 83 = .ok (.bipush 22, 2) := by decide +kernel
theorem dL_law_85 : decode cL_law 85 = .ok (.invokestatic 64, 3) := by decide +kernel
theorem dL_law_88 : decode cL_law 88 = .ok (.istore 12, 2) := by decide +kernel
theorem dL_law_90 : decode cL_law 90 = .ok (.iconst 1, 1) := by decide +kernel
theorem dL_law_91 : decode cL_law 91 = .ok (.istore 13, 2) := by decide +kernel
theorem dL_law_93 : decode cL_law 93 = .ok (.iload 12, 2) := by decide +kernel
theorem dL_law_95 : decode cL_law 95 = .ok (.bipush 8, 2) := by decide +kernel
theorem dL_law_97 : decode cL_law 97 = .ok (.if_icmp .ge 26, 3) := by decide +kernel
theorem dL_law_100 : decode cL_law 100 = .ok (.aload_n 1, 1) := by decide +kernel
theorem dL_law_101 : decode cL_law 101 = .ok (.iload 12, 2) := by decide +kernel
theorem dL_law_103 : decode cL_law 103 = .ok (.iload 11, 2) := by decide +kernel
theorem dL_law_105 : decode cL_law 105 = .ok (.iconst 5, 1) := by decide +kernel
theorem dL_law_106 : decode cL_law 106 = .ok (.ishr, 1) := by decide +kernel
theorem dL_law_107 : decode cL_law 107 = .ok (.aload_n 3, 1) := by decide +kernel
theorem dL_law_108 : decode cL_law 108 = .ok (.aload 4, 2) := by decide +kernel
theorem dL_law_110 : decode cL_law 110 = .ok (.aload 5, 2) := by decide +kernel
theorem dL_law_112 : decode cL_law 112 = .ok (.aload 7, 2) := by decide +kernel
theorem dL_law_114 : decode cL_law 114 = .ok (.aload_n 2, 1) := by decide +kernel
theorem dL_law_115 : decode cL_law 115 = .ok (.invokestatic 96, 3) := by decide +kernel
theorem dL_law_118 : decode cL_law 118 = .ok (.istore 13, 2) := by decide +kernel
theorem dL_law_120 : decode cL_law 120 = .ok (.goto 672, 3) := by decide +kernel
theorem dL_law_123 : decode cL_law 123 = .ok (.iload 12, 2) := by decide +kernel
theorem dL_law_125 : decode cL_law 125 = .ok (.bipush 10, 2) := by decide +kernel
theorem dL_law_127 : decode cL_law 127 = .ok (.if_icmp .ge 122, 3) := by decide +kernel
theorem dL_law_130 : decode cL_law 130 = .ok (.aload_n 2, 1) := by decide +kernel
theorem dL_law_131 : decode cL_law 131 = .ok (.iconst 1, 1) := by decide +kernel
theorem dL_law_132 : decode cL_law 132 = .ok (.iaload, 1) := by decide +kernel
theorem dL_law_133 : decode cL_law 133 = .ok (.bipush 12, 2) := by decide +kernel
theorem dL_law_135 : decode cL_law 135 = .ok (.if_icmp .ge 114, 3) := by decide +kernel
theorem dL_law_138 : decode cL_law 138 = .ok (.iload 11, 2) := by decide +kernel
theorem dL_law_140 : decode cL_law 140 = .ok (.iconst 5, 1) := by decide +kernel
theorem dL_law_141 : decode cL_law 141 = .ok (.ishr, 1) := by decide +kernel
theorem dL_law_142 : decode cL_law 142 = .ok (.iconst 5, 1) := by decide +kernel
theorem dL_law_143 : decode cL_law 143 = .ok (.invokestatic 64, 3) := by decide +kernel
theorem dL_law_146 : decode cL_law 146 = .ok (.istore 14, 2) := by decide +kernel
theorem dL_law_148 : decode cL_law 148 = .ok (.aload 5, 2) := by decide +kernel
theorem dL_law_150 : decode cL_law 150 = .ok (.iload 14, 2) := by decide +kernel
theorem dL_law_152 : decode cL_law 152 = .ok (.iaload, 1) := by decide +kernel
theorem dL_law_153 : decode cL_law 153 = .ok (.iconst 3, 1) := by decide +kernel
theorem dL_law_154 : decode cL_law 154 = .ok (.if_icmp .ne 8, 3) := by decide +kernel
theorem dL_law_157 : decode cL_law 157 = .ok (.bipush (-3), 2) := by decide +kernel
theorem dL_law_159 : decode cL_law 159 = .ok (.goto 6, 3) := by decide +kernel
theorem dL_law_162 : decode cL_law 162 = .ok (.aload_n 2, 1) := by decide +kernel
theorem dL_law_163 : decode cL_law 163 = .ok (.iconst 1, 1) := by decide +kernel
theorem dL_law_164 : decode cL_law 164 = .ok (.iaload, 1) := by decide +kernel
theorem dL_law_165 : decode cL_law 165 = .ok (.istore 15, 2) := by decide +kernel
theorem dL_law_167 : decode cL_law 167 = .ok (.iload 15, 2) := by decide +kernel
theorem dL_law_169 : decode cL_law 169 = .ok (.ifCond .lt 55, 3) := by decide +kernel
theorem dL_law_172 : decode cL_law 172 = .ok (.aload 7, 2) := by decide +kernel
theorem dL_law_174 : decode cL_law 174 = .ok (.iconst 5, 1) := by decide +kernel
theorem dL_law_175 : decode cL_law 175 = .ok (.iload 15, 2) := by decide +kernel
theorem dL_law_177 : decode cL_law 177 = .ok (.imul, 1) := by decide +kernel
theorem dL_law_178 : decode cL_law 178 = .ok (.iload 14, 2) := by decide +kernel
theorem dL_law_180 : decode cL_law 180 = .ok (.iastore, 1) := by decide +kernel
theorem dL_law_181 : decode cL_law 181 = .ok (.aload 7, 2) := by decide +kernel
theorem dL_law_183 : decode cL_law 183 = .ok (.iconst 5, 1) := by decide +kernel
theorem dL_law_184 : decode cL_law 184 = .ok (.iload 15, 2) := by decide +kernel
theorem dL_law_186 : decode cL_law 186 = .ok (.imul, 1) := by decide +kernel
theorem dL_law_187 : decode cL_law 187 = .ok (.iconst 1, 1) := by decide +kernel
theorem dL_law_188 : decode cL_law 188 = .ok (.iadd, 1) := by decide +kernel
theorem dL_law_189 : decode cL_law 189 = .ok (.aload_n 2, 1) := by decide +kernel
theorem dL_law_190 : decode cL_law 190 = .ok (.iconst 2, 1) := by decide +kernel
theorem dL_law_191 : decode cL_law 191 = .ok (.iaload, 1) := by decide +kernel
theorem dL_law_192 : decode cL_law 192 = .ok (.iastore, 1) := by decide +kernel
theorem dL_law_193 : decode cL_law 193 = .ok (.aload 7, 2) := by decide +kernel
theorem dL_law_195 : decode cL_law 195 = .ok (.iconst 5, 1) := by decide +kernel
theorem dL_law_196 : decode cL_law 196 = .ok (.iload 15, 2) := by decide +kernel
theorem dL_law_198 : decode cL_law 198 = .ok (.imul, 1) := by decide +kernel
theorem dL_law_199 : decode cL_law 199 = .ok (.iconst 2, 1) := by decide +kernel
theorem dL_law_200 : decode cL_law 200 = .ok (.iadd, 1) := by decide +kernel
theorem dL_law_201 : decode cL_law 201 = .ok (.aload_n 2, 1) := by decide +kernel
theorem dL_law_202 : decode cL_law 202 = .ok (.iconst 0, 1) := by decide +kernel
theorem dL_law_203 : decode cL_law 203 = .ok (.iaload, 1) := by decide +kernel
theorem dL_law_204 : decode cL_law 204 = .ok (.iastore, 1) := by decide +kernel
theorem dL_law_205 : decode cL_law 205 = .ok (.aload 7, 2) := by decide +kernel
theorem dL_law_207 : decode cL_law 207 = .ok (.iconst 5, 1) := by decide +kernel
theorem dL_law_208 : decode cL_law 208 = .ok (.iload 15, 2) := by decide +kernel
theorem dL_law_210 : decode cL_law 210 = .ok (.imul, 1) := by decide +kernel
theorem dL_law_211 : decode cL_law 211 = .ok (.iconst 3, 1) := by decide +kernel
theorem dL_law_212 : decode cL_law 212 = .ok (.iadd, 1) := by decide +kernel
theorem dL_law_213 : decode cL_law 213 = .ok (.aload_n 2, 1) := by decide +kernel
theorem dL_law_214 : decode cL_law 214 = .ok (.iconst 0, 1) := by decide +kernel
theorem dL_law_215 : decode cL_law 215 = .ok (.iaload, 1) := by decide +kernel
theorem dL_law_216 : decode cL_law 216 = .ok (.iastore, 1) := by decide +kernel
theorem dL_law_217 : decode cL_law 217 = .ok (.aload_n 2, 1) := by decide +kernel
theorem dL_law_218 : decode cL_law 218 = .ok (.iconst 1, 1) := by decide +kernel
theorem dL_law_219 : decode cL_law 219 = .ok (.dup2, 1) := by decide +kernel
theorem dL_law_220 : decode cL_law 220 = .ok (.iaload, 1) := by decide +kernel
theorem dL_law_221 : decode cL_law 221 = .ok (.iconst 1, 1) := by decide +kernel
theorem dL_law_222 : decode cL_law 222 = .ok (.iadd, 1) := by decide +kernel
theorem dL_law_223 : decode cL_law 223 = .ok (.iastore, 1) := by decide +kernel
theorem dL_law_224 : decode cL_law 224 = .ok (.aload_n 1, 1) := by decide +kernel
theorem dL_law_225 : decode cL_law 225 = .ok (.iconst 1, 1) := by decide +kernel
theorem dL_law_226 : decode cL_law 226 = .ok (.iload 14, 2) := by decide +kernel
theorem dL_law_228 : decode cL_law 228 = .ok (.iconst 0, 1) := by decide +kernel
theorem dL_law_229 : decode cL_law 229 = .ok (.iconst 0, 1) := by decide +kernel
theorem dL_law_230 : decode cL_law 230 = .ok (.iconst 0, 1) := by decide +kernel
theorem dL_law_231 : decode cL_law 231 = .ok (.invokestatic 71, 3) := by decide +kernel
theorem dL_law_234 : decode cL_law 234 = .ok (.iload 15, 2) := by decide +kernel
theorem dL_law_236 : decode cL_law 236 = .ok (.if_icmp .ne 7, 3) := by decide +kernel
theorem dL_law_239 : decode cL_law 239 = .ok (.iconst 1, 1) := by decide +kernel
theorem dL_law_240 : decode cL_law 240 = .ok (.goto 4, 3) := by decide +kernel
theorem dL_law_243 : decode cL_law 243 = .ok (.iconst 0, 1) := by decide +kernel
theorem dL_law_244 : decode cL_law 244 = .ok (.istore 13, 2) := by decide +kernel
theorem dL_law_246 : decode cL_law 246 = .ok (.goto 546, 3) := by decide +kernel
theorem dL_law_249 : decode cL_law 249 = .ok (.iload 12, 2) := by decide +kernel
theorem dL_law_251 : decode cL_law 251 = .ok (.bipush 14, 2) := by decide +kernel
theorem dL_law_253 : decode cL_law 253 = .ok (.if_icmp .ge 36, 3) := by decide +kernel
theorem dL_law_256 : decode cL_law 256 = .ok (.aload_n 2, 1) := by decide +kernel
theorem dL_law_257 : decode cL_law 257 = .ok (.iconst 1, 1) := by decide +kernel
theorem dL_law_258 : decode cL_law 258 = .ok (.iaload, 1) := by decide +kernel
theorem dL_law_259 : decode cL_law 259 = .ok (.ifCond .le 30, 3) := by decide +kernel
theorem dL_law_262 : decode cL_law 262 = .ok (.aload_n 1, 1) := by decide +kernel
theorem dL_law_263 : decode cL_law 263 = .ok (.iload 11, 2) := by decide +kernel
theorem dL_law_265 : decode cL_law 265 = .ok (.iconst 5, 1) := by decide +kernel
theorem dL_law_266 : decode cL_law 266 = .ok (.ishr, 1) := by decide +kernel
theorem dL_law_267 : decode cL_law 267 = .ok (.aload_n 3, 1) := by decide +kernel
theorem dL_law_268 : decode cL_law 268 = .ok (.aload 4, 2) := by decide +kernel
theorem dL_law_270 : decode cL_law 270 = .ok (.aload 5, 2) := by decide +kernel
theorem dL_law_272 : decode cL_law 272 = .ok (.aload 6, 2) := by decide +kernel
theorem dL_law_274 : decode cL_law 274 = .ok (.aload 7, 2) := by decide +kernel
theorem dL_law_276 : decode cL_law 276 = .ok (.aload 8, 2) := by decide +kernel
theorem dL_law_278 : decode cL_law 278 = .ok (.aload 9, 2) := by decide +kernel
theorem dL_law_280 : decode cL_law 280 = .ok (.aload_n 2, 1) := by decide +kernel
theorem dL_law_281 : decode cL_law 281 = .ok (.invokestatic 100, 3) := by decide +kernel
theorem dL_law_284 : decode cL_law 284 = .ok (.istore 13, 2) := by decide +kernel
theorem dL_law_286 : decode cL_law 286 = .ok (.goto 506, 3) := by decide +kernel
theorem dL_law_289 : decode cL_law 289 = .ok (.iload 12, 2) := by decide +kernel
theorem dL_law_291 : decode cL_law 291 = .ok (.bipush 14, 2) := by decide +kernel
theorem dL_law_293 : decode cL_law 293 = .ok (.if_icmp .ne 89, 3) := by decide +kernel
theorem dL_law_296 : decode cL_law 296 = .ok (.aload_n 2, 1) := by decide +kernel
theorem dL_law_297 : decode cL_law 297 = .ok (.iconst 1, 1) := by decide +kernel
theorem dL_law_298 : decode cL_law 298 = .ok (.iaload, 1) := by decide +kernel
theorem dL_law_299 : decode cL_law 299 = .ok (.ifCond .le 83, 3) := by decide +kernel
theorem dL_law_302 : decode cL_law 302 = .ok (.iload 11, 2) := by decide +kernel
theorem dL_law_304 : decode cL_law 304 = .ok (.iconst 5, 1) := by decide +kernel
theorem dL_law_305 : decode cL_law 305 = .ok (.ishr, 1) := by decide +kernel
theorem dL_law_306 : decode cL_law 306 = .ok (.aload_n 2, 1) := by decide +kernel
theorem dL_law_307 : decode cL_law 307 = .ok (.iconst 1, 1) := by decide +kernel
theorem dL_law_308 : decode cL_law 308 = .ok (.iaload, 1) := by decide +kernel
theorem dL_law_309 : decode cL_law 309 = .ok (.invokestatic 64, 3) := by decide +kernel
theorem dL_law_312 : decode cL_law 312 = .ok (.istore 14, 2) := by decide +kernel
theorem dL_law_314 : decode cL_law 314 = .ok (.aload 7, 2) := by decide +kernel
theorem dL_law_316 : decode cL_law 316 = .ok (.iconst 5, 1) := by decide +kernel
theorem dL_law_317 : decode cL_law 317 = .ok (.iload 14, 2) := by decide +kernel
theorem dL_law_319 : decode cL_law 319 = .ok (.imul, 1) := by decide +kernel
theorem dL_law_320 : decode cL_law 320 = .ok (.iconst 4, 1) := by decide +kernel
theorem dL_law_321 : decode cL_law 321 = .ok (.iadd, 1) := by decide +kernel
theorem dL_law_322 : decode cL_law 322 = .ok (.iaload, 1) := by decide +kernel
theorem dL_law_323 : decode cL_law 323 = .ok (.iconst 1, 1) := by decide +kernel
theorem dL_law_324 : decode cL_law 324 = .ok (.if_icmp .ne 8, 3) := by decide +kernel
theorem dL_law_327 : decode cL_law 327 = .ok (.bipush (-3), 2) := by decide +kernel
theorem dL_law_329 : decode cL_law 329 = .ok (.goto 16, 3) := by decide +kernel
theorem dL_law_332 : decode cL_law 332 = .ok (.aload_n 2, 1) := by decide +kernel
theorem dL_law_333 : decode cL_law 333 = .ok (.iconst 0, 1) := by decide +kernel
theorem dL_law_334 : decode cL_law 334 = .ok (.iaload, 1) := by decide +kernel
theorem dL_law_335 : decode cL_law 335 = .ok (.aload 7, 2) := by decide +kernel
theorem dL_law_337 : decode cL_law 337 = .ok (.iconst 5, 1) := by decide +kernel
theorem dL_law_338 : decode cL_law 338 = .ok (.iload 14, 2) := by decide +kernel
theorem dL_law_340 : decode cL_law 340 = .ok (.imul, 1) := by decide +kernel
theorem dL_law_341 : decode cL_law 341 = .ok (.iconst 2, 1) := by decide +kernel
theorem dL_law_342 : decode cL_law 342 = .ok (.iadd, 1) := by decide +kernel
theorem dL_law_343 : decode cL_law 343 = .ok (.iaload, 1) := by decide +kernel
theorem dL_law_344 : decode cL_law 344 = .ok (.isub, 1) := by decide +kernel
theorem dL_law_345 : decode cL_law 345 = .ok (.istore 15, 2) := by decide +kernel
theorem dL_law_347 : decode cL_law 347 = .ok (.aload 7, 2) := by decide +kernel
theorem dL_law_349 : decode cL_law 349 = .ok (.iconst 5, 1) := by decide +kernel
theorem dL_law_350 : decode cL_law 350 = .ok (.iload 14, 2) := by decide +kernel
theorem dL_law_352 : decode cL_law 352 = .ok (.imul, 1) := by decide +kernel
theorem dL_law_353 : decode cL_law 353 = .ok (.iconst 4, 1) := by decide +kernel
theorem dL_law_354 : decode cL_law 354 = .ok (.iadd, 1) := by decide +kernel
theorem dL_law_355 : decode cL_law 355 = .ok (.iconst 1, 1) := by decide +kernel
theorem dL_law_356 : decode cL_law 356 = .ok (.iastore, 1) := by decide +kernel
theorem dL_law_357 : decode cL_law 357 = .ok (.aload_n 1, 1) := by decide +kernel
theorem dL_law_358 : decode cL_law 358 = .ok (.iconst 2, 1) := by decide +kernel
theorem dL_law_359 : decode cL_law 359 = .ok (.iload 14, 2) := by decide +kernel
theorem dL_law_361 : decode cL_law 361 = .ok (.iconst 0, 1) := by decide +kernel
theorem dL_law_362 : decode cL_law 362 = .ok (.iconst 0, 1) := by decide +kernel
theorem dL_law_363 : decode cL_law 363 = .ok (.iconst 0, 1) := by decide +kernel
theorem dL_law_364 : decode cL_law 364 = .ok (.invokestatic 71, 3) := by decide +kernel
theorem dL_law_367 : decode cL_law 367 = .ok (.iload 15, 2) := by decide +kernel
theorem dL_law_369 : decode cL_law 369 = .ok (.if_icmp .ne 7, 3) := by decide +kernel
theorem dL_law_372 : decode cL_law 372 = .ok (.iconst 1, 1) := by decide +kernel
theorem dL_law_373 : decode cL_law 373 = .ok (.goto 4, 3) := by decide +kernel
theorem dL_law_376 : decode cL_law 376 = .ok (.iconst 0, 1) := by decide +kernel
theorem dL_law_377 : decode cL_law 377 = .ok (.istore 13, 2) := by decide +kernel
theorem dL_law_379 : decode cL_law 379 = .ok (.goto 413, 3) := by decide +kernel
theorem dL_law_382 : decode cL_law 382 = .ok (.iload 12, 2) := by decide +kernel
theorem dL_law_384 : decode cL_law 384 = .ok (.bipush 15, 2) := by decide +kernel
theorem dL_law_386 : decode cL_law 386 = .ok (.if_icmp .ne 202, 3) := by decide +kernel
theorem dL_law_389 : decode cL_law 389 = .ok (.iload 11, 2) := by decide +kernel
theorem dL_law_391 : decode cL_law 391 = .ok (.iconst 5, 1) := by decide +kernel
theorem dL_law_392 : decode cL_law 392 = .ok (.ishr, 1) := by decide +kernel
theorem dL_law_393 : decode cL_law 393 = .ok (.iconst 5, 1) := by decide +kernel
theorem dL_law_394 : decode cL_law 394 = .ok (.invokestatic 64, 3) := by decide +kernel
theorem dL_law_397 : decode cL_law 397 = .ok (.istore 14, 2) := by decide +kernel
theorem dL_law_399 : decode cL_law 399 = .ok (.iload 11, 2) := by decide +kernel
theorem dL_law_401 : decode cL_law 401 = .ok (.bipush 8, 2) := by decide +kernel
theorem dL_law_403 : decode cL_law 403 = .ok (.ishr, 1) := by decide +kernel
theorem dL_law_404 : decode cL_law 404 = .ok (.iconst 3, 1) := by decide +kernel
theorem dL_law_405 : decode cL_law 405 = .ok (.invokestatic 64, 3) := by decide +kernel
theorem dL_law_408 : decode cL_law 408 = .ok (.istore 15, 2) := by decide +kernel
theorem dL_law_410 : decode cL_law 410 = .ok (.iload 11, 2) := by decide +kernel
theorem dL_law_412 : decode cL_law 412 = .ok (.bipush 10, 2) := by decide +kernel
theorem dL_law_414 : decode cL_law 414 = .ok (.ishr, 1) := by decide +kernel
theorem dL_law_415 : decode cL_law 415 = .ok (.iconst 5, 1) := by decide +kernel
theorem dL_law_416 : decode cL_law 416 = .ok (.invokestatic 64, 3) := by decide +kernel
theorem dL_law_419 : decode cL_law 419 = .ok (.istore 16, 2) := by decide +kernel
theorem dL_law_421 : decode cL_law 421 = .ok (.iload 11, 2) := by decide +kernel
theorem dL_law_423 : decode cL_law 423 = .ok (.bipush 13, 2) := by decide +kernel
theorem dL_law_425 : decode cL_law 425 = .ok (.ishr, 1) := by decide +kernel
theorem dL_law_426 : decode cL_law 426 = .ok (.iconst 5, 1) := by decide +kernel
theorem dL_law_427 : decode cL_law 427 = .ok (.invokestatic 64, 3) := by decide +kernel
theorem dL_law_430 : decode cL_law 430 = .ok (.istore 17, 2) := by decide +kernel
theorem dL_law_432 : decode cL_law 432 = .ok (.iload 14, 2) := by decide +kernel
theorem dL_law_434 : decode cL_law 434 = .ok (.iload 16, 2) := by decide +kernel
theorem dL_law_436 : decode cL_law 436 = .ok (.if_icmp .eq 21, 3) := by decide +kernel
theorem dL_law_439 : decode cL_law 439 = .ok (.iload 14, 2) := by decide +kernel
theorem dL_law_441 : decode cL_law 441 = .ok (.iload 17, 2) := by decide +kernel
theorem dL_law_443 : decode cL_law 443 = .ok (.if_icmp .eq 14, 3) := by decide +kernel
theorem dL_law_446 : decode cL_law 446 = .ok (.iload 16, 2) := by decide +kernel
theorem dL_law_448 : decode cL_law 448 = .ok (.iload 17, 2) := by decide +kernel
theorem dL_law_450 : decode cL_law 450 = .ok (.if_icmp .eq 7, 3) := by decide +kernel
theorem dL_law_453 : decode cL_law 453 = .ok (.iconst 1, 1) := by decide +kernel
theorem dL_law_454 : decode cL_law 454 = .ok (.goto 4, 3) := by decide +kernel
theorem dL_law_457 : decode cL_law 457 = .ok (.iconst 0, 1) := by decide +kernel
theorem dL_law_458 : decode cL_law 458 = .ok (.istore 18, 2) := by decide +kernel
theorem dL_law_460 : decode cL_law 460 = .ok (.iload 18, 2) := by decide +kernel
theorem dL_law_462 : decode cL_law 462 = .ok (.ifCond .eq 37, 3) := by decide +kernel
theorem dL_law_465 : decode cL_law 465 = .ok (.iload 16, 2) := by decide +kernel
theorem dL_law_467 : decode cL_law 467 = .ok (.iload 15, 2) := by decide +kernel
theorem dL_law_469 : decode cL_law 469 = .ok (.aload_n 3, 1) := by decide +kernel
theorem dL_law_470 : decode cL_law 470 = .ok (.aload 4, 2) := by decide +kernel
theorem dL_law_472 : decode cL_law 472 = .ok (.aload 5, 2) := by decide +kernel
theorem dL_law_474 : decode cL_law 474 = .ok (.invokestatic 104, 3) := by decide +kernel
theorem dL_law_477 : decode cL_law 477 = .ok (.ifCond .eq 22, 3) := by decide +kernel
theorem dL_law_480 : decode cL_law 480 = .ok (.iload 17, 2) := by decide +kernel
theorem dL_law_482 : decode cL_law 482 = .ok (.iload 15, 2) := by decide +kernel
theorem dL_law_484 : decode cL_law 484 = .ok (.aload_n 3, 1) := by decide +kernel
theorem dL_law_485 : decode cL_law 485 = .ok (.aload 4, 2) := by decide +kernel
theorem dL_law_487 : decode cL_law 487 = .ok (.aload 5, 2) := by decide +kernel
theorem dL_law_489 : decode cL_law 489 = .ok (.invokestatic 104, 3) := by decide +kernel
theorem dL_law_492 : decode cL_law 492 = .ok (.ifCond .eq 7, 3) := by decide +kernel
theorem dL_law_495 : decode cL_law 495 = .ok (.iconst 1, 1) := by decide +kernel
theorem dL_law_496 : decode cL_law 496 = .ok (.goto 4, 3) := by decide +kernel
theorem dL_law_499 : decode cL_law 499 = .ok (.iconst 0, 1) := by decide +kernel
theorem dL_law_500 : decode cL_law 500 = .ok (.istore 19, 2) := by decide +kernel
theorem dL_law_502 : decode cL_law 502 = .ok (.aload 6, 2) := by decide +kernel
theorem dL_law_504 : decode cL_law 504 = .ok (.iconst 3, 1) := by decide +kernel
theorem dL_law_505 : decode cL_law 505 = .ok (.iload 14, 2) := by decide +kernel
theorem dL_law_507 : decode cL_law 507 = .ok (.imul, 1) := by decide +kernel
theorem dL_law_508 : decode cL_law 508 = .ok (.iload 15, 2) := by decide +kernel
theorem dL_law_510 : decode cL_law 510 = .ok (.iadd, 1) := by decide +kernel
theorem dL_law_511 : decode cL_law 511 = .ok (.iload 19, 2) := by decide +kernel
theorem dL_law_513 : decode cL_law 513 = .ok (.ifCond .eq 12, 3) := by decide +kernel
theorem dL_law_516 : decode cL_law 516 = .ok (.aload_n 2, 1) := by decide +kernel
theorem dL_law_517 : decode cL_law 517 = .ok (.iconst 0, 1) := by decide +kernel
theorem dL_law_518 : decode cL_law 518 = .ok (.iaload, 1) := by decide +kernel
theorem dL_law_519 : decode cL_law 519 = .ok (.bipush 60, 2) := by decide +kernel
theorem dL_law_521 : decode cL_law 521 = .ok (.iadd, 1) := by decide +kernel
theorem dL_law_522 : decode cL_law 522 = .ok (.goto 13, 3) := by decide +kernel
theorem dL_law_525 : decode cL_law 525 = .ok (.aload 6, 2) := by decide +kernel
theorem dL_law_527 : decode cL_law 527 = .ok (.iconst 3, 1) := by decide +kernel
theorem dL_law_528 : decode cL_law 528 = .ok (.iload 14, 2) := by decide +kernel
theorem dL_law_530 : decode cL_law 530 = .ok (.imul, 1) := by decide +kernel
theorem dL_law_531 : decode cL_law 531 = .ok (.iload 15, 2) := by decide +kernel
theorem dL_law_533 : decode cL_law 533 = .ok (.iadd, 1) := by decide +kernel
theorem dL_law_534 : decode cL_law 534 = .ok (.iaload, 1) := by decide +kernel
theorem dL_law_535 : decode cL_law 535 = .ok (.iastore, 1) := by decide +kernel
theorem dL_law_536 : decode cL_law 536 = .ok (.aload_n 1, 1) := by decide +kernel
theorem dL_law_537 : decode cL_law 537 = .ok (.iconst 3, 1) := by decide +kernel
theorem dL_law_538 : decode cL_law 538 = .ok (.iload 14, 2) := by decide +kernel
theorem dL_law_540 : decode cL_law 540 = .ok (.iload 15, 2) := by decide +kernel
theorem dL_law_542 : decode cL_law 542 = .ok (.iload 16, 2) := by decide +kernel
theorem dL_law_544 : decode cL_law 544 = .ok (.iload 17, 2) := by decide +kernel
theorem dL_law_546 : decode cL_law 546 = .ok (.invokestatic 71, 3) := by decide +kernel
theorem dL_law_549 : decode cL_law 549 = .ok (.iload 19, 2) := by decide +kernel
theorem dL_law_551 : decode cL_law 551 = .ok (.ifCond .eq 12, 3) := by decide +kernel
theorem dL_law_554 : decode cL_law 554 = .ok (.aload_n 2, 1) := by decide +kernel
theorem dL_law_555 : decode cL_law 555 = .ok (.iconst 0, 1) := by decide +kernel
theorem dL_law_556 : decode cL_law 556 = .ok (.iaload, 1) := by decide +kernel
theorem dL_law_557 : decode cL_law 557 = .ok (.bipush 60, 2) := by decide +kernel
theorem dL_law_559 : decode cL_law 559 = .ok (.iadd, 1) := by decide +kernel
theorem dL_law_560 : decode cL_law 560 = .ok (.goto 15, 3) := by decide +kernel
theorem dL_law_563 : decode cL_law 563 = .ok (.iload 18, 2) := by decide +kernel
theorem dL_law_565 : decode cL_law 565 = .ok (.ifCond .eq 8, 3) := by decide +kernel
theorem dL_law_568 : decode cL_law 568 = .ok (.bipush (-3), 2) := by decide +kernel
theorem dL_law_570 : decode cL_law 570 = .ok (.goto 5, 3) := by decide +kernel
theorem dL_law_573 : decode cL_law 573 = .ok (.bipush (-2), 2) := by decide +kernel
theorem dL_law_575 : decode cL_law 575 = .ok (.if_icmp .ne 7, 3) := by decide +kernel
theorem dL_law_578 : decode cL_law 578 = .ok (.iconst 1, 1) := by decide +kernel
theorem dL_law_579 : decode cL_law 579 = .ok (.goto 4, 3) := by decide +kernel
theorem dL_law_582 : decode cL_law 582 = .ok (.iconst 0, 1) := by decide +kernel
theorem dL_law_583 : decode cL_law 583 = .ok (.istore 13, 2) := by decide +kernel
theorem dL_law_585 : decode cL_law 585 = .ok (.goto 207, 3) := by decide +kernel
theorem dL_law_588 : decode cL_law 588 = .ok (.iload 12, 2) := by decide +kernel
theorem dL_law_590 : decode cL_law 590 = .ok (.bipush 18, 2) := by decide +kernel
theorem dL_law_592 : decode cL_law 592 = .ok (.if_icmp .ge 36, 3) := by decide +kernel
theorem dL_law_595 : decode cL_law 595 = .ok (.aload_n 1, 1) := by decide +kernel
theorem dL_law_596 : decode cL_law 596 = .ok (.iload 12, 2) := by decide +kernel
theorem dL_law_598 : decode cL_law 598 = .ok (.bipush 16, 2) := by decide +kernel
theorem dL_law_600 : decode cL_law 600 = .ok (.isub, 1) := by decide +kernel
theorem dL_law_601 : decode cL_law 601 = .ok (.ifCond .ge 7, 3) := by decide +kernel
theorem dL_law_604 : decode cL_law 604 = .ok (.iconst 0, 1) := by decide +kernel
theorem dL_law_605 : decode cL_law 605 = .ok (.goto 8, 3) := by decide +kernel
theorem dL_law_608 : decode cL_law 608 = .ok (.iload 12, 2) := by decide +kernel
theorem dL_law_610 : decode cL_law 610 = .ok (.bipush 16, 2) := by decide +kernel
theorem dL_law_612 : decode cL_law 612 = .ok (.isub, 1) := by decide +kernel
theorem dL_law_613 : decode cL_law 613 = .ok (.iload 11, 2) := by decide +kernel
theorem dL_law_615 : decode cL_law 615 = .ok (.iconst 5, 1) := by decide +kernel
theorem dL_law_616 : decode cL_law 616 = .ok (.ishr, 1) := by decide +kernel
theorem dL_law_617 : decode cL_law 617 = .ok (.aload 8, 2) := by decide +kernel
theorem dL_law_619 : decode cL_law 619 = .ok (.aload_n 2, 1) := by decide +kernel
theorem dL_law_620 : decode cL_law 620 = .ok (.invokestatic 108, 3) := by decide +kernel
theorem dL_law_623 : decode cL_law 623 = .ok (.istore 13, 2) := by decide +kernel
theorem dL_law_625 : decode cL_law 625 = .ok (.goto 167, 3) := by decide +kernel
theorem dL_law_628 : decode cL_law 628 = .ok (.iload 12, 2) := by decide +kernel
theorem dL_law_630 : decode cL_law 630 = .ok (.bipush 18, 2) := by decide +kernel
theorem dL_law_632 : decode cL_law 632 = .ok (.if_icmp .ne 97, 3) := by decide +kernel
theorem dL_law_635 : decode cL_law 635 = .ok (.iload 11, 2) := by decide +kernel
theorem dL_law_637 : decode cL_law 637 = .ok (.bipush 9, 2) := by decide +kernel
theorem dL_law_639 : decode cL_law 639 = .ok (.ishr, 1) := by decide +kernel
theorem dL_law_640 : decode cL_law 640 = .ok (.iconst 3, 1) := by decide +kernel
theorem dL_law_641 : decode cL_law 641 = .ok (.invokestatic 64, 3) := by decide +kernel
theorem dL_law_644 : decode cL_law 644 = .ok (.ifCond .ne 85, 3) := by decide +kernel
theorem dL_law_647 : decode cL_law 647 = .ok (.iload 11, 2) := by decide +kernel
theorem dL_law_649 : decode cL_law 649 = .ok (.iconst 5, 1) := by decide +kernel
theorem dL_law_650 : decode cL_law 650 = .ok (.ishr, 1) := by decide +kernel
theorem dL_law_651 : decode cL_law 651 = .ok (.iload 11, 2) := by decide +kernel
theorem dL_law_653 : decode cL_law 653 = .ok (.bipush 13, 2) := by decide +kernel
theorem dL_law_655 : decode cL_law 655 = .ok (.ishr, 1) := by decide +kernel
theorem dL_law_656 : decode cL_law 656 = .ok (.iconst 2, 1) := by decide +kernel
theorem dL_law_657 : decode cL_law 657 = .ok (.invokestatic 64, 3) := by decide +kernel
theorem dL_law_660 : decode cL_law 660 = .ok (.ifCond .ne 8, 3) := by decide +kernel
theorem dL_law_663 : decode cL_law 663 = .ok (.bipush 40, 2) := by decide +kernel
theorem dL_law_665 : decode cL_law 665 = .ok (.goto 6, 3) := by decide +kernel
theorem dL_law_668 : decode cL_law 668 = .ok (.sipush 301, 3) := by decide +kernel
theorem dL_law_671 : decode cL_law 671 = .ok (.invokestatic 64, 3) := by decide +kernel
theorem dL_law_674 : decode cL_law 674 = .ok (.istore 14, 2) := by decide +kernel
theorem dL_law_676 : decode cL_law 676 = .ok (.aload_n 2, 1) := by decide +kernel
theorem dL_law_677 : decode cL_law 677 = .ok (.iconst 2, 1) := by decide +kernel
theorem dL_law_678 : decode cL_law 678 = .ok (.dup2, 1) := by decide +kernel
theorem dL_law_679 : decode cL_law 679 = .ok (.iaload, 1) := by decide +kernel
theorem dL_law_680 : decode cL_law 680 = .ok (.iconst 1, 1) := by decide +kernel
theorem dL_law_681 : decode cL_law 681 = .ok (.iadd, 1) := by decide +kernel
theorem dL_law_682 : decode cL_law 682 = .ok (.iastore, 1) := by decide +kernel
theorem dL_law_683 : decode cL_law 683 = .ok (.aload_n 2, 1) := by decide +kernel
theorem dL_law_684 : decode cL_law 684 = .ok (.iconst 3, 1) := by decide +kernel
theorem dL_law_685 : decode cL_law 685 = .ok (.aload_n 2, 1) := by decide +kernel
theorem dL_law_686 : decode cL_law 686 = .ok (.iconst 0, 1) := by decide +kernel
theorem dL_law_687 : decode cL_law 687 = .ok (.iaload, 1) := by decide +kernel
theorem dL_law_688 : decode cL_law 688 = .ok (.iload 14, 2) := by decide +kernel
theorem dL_law_690 : decode cL_law 690 = .ok (.iadd, 1) := by decide +kernel
theorem dL_law_691 : decode cL_law 691 = .ok (.iastore, 1) := by decide +kernel
theorem dL_law_692 : decode cL_law 692 = .ok (.aload 7, 2) := by decide +kernel
theorem dL_law_694 : decode cL_law 694 = .ok (.aload 5, 2) := by decide +kernel
theorem dL_law_696 : decode cL_law 696 = .ok (.aload_n 2, 1) := by decide +kernel
theorem dL_law_697 : decode cL_law 697 = .ok (.invokestatic 112, 3) := by decide +kernel
theorem dL_law_700 : decode cL_law 700 = .ok (.istore 15, 2) := by decide +kernel
theorem dL_law_702 : decode cL_law 702 = .ok (.iload 15, 2) := by decide +kernel
theorem dL_law_704 : decode cL_law 704 = .ok (.ifCond .lt 19, 3) := by decide +kernel
theorem dL_law_707 : decode cL_law 707 = .ok (.aload_n 1, 1) := by decide +kernel
theorem dL_law_708 : decode cL_law 708 = .ok (.iload 14, 2) := by decide +kernel
theorem dL_law_710 : decode cL_law 710 = .ok (.invokevirtual 116, 3) := by decide +kernel
