theorem dX8_in_0 : decode cX8_in 0 = .ok (.lload_n 0, 1) := by decide +kernel
theorem dX8_in_1 : decode cX8_in 1 = .ok (.lload_n 2, 1) := by decide +kernel
theorem dX8_in_2 : decode cX8_in 2 = .ok (.lcmp, 1) := by decide +kernel
theorem dX8_in_3 : decode cX8_in 3 = .ok (.ifCond .lt 14, 3) := by decide +kernel
theorem dX8_in_6 : decode cX8_in 6 = .ok (.lload_n 0, 1) := by decide +kernel
theorem dX8_in_7 : decode cX8_in 7 = .ok (.lload 4, 2) := by decide +kernel
theorem dX8_in_9 : decode cX8_in 9 = .ok (.lcmp, 1) := by decide +kernel
theorem dX8_in_10 : decode cX8_in 10 = .ok (.ifCond .gt 7, 3) := by decide +kernel
theorem dX8_in_13 : decode cX8_in 13 = .ok (.iconst 1, 1) := by decide +kernel
theorem dX8_in_14 : decode cX8_in 14 = .ok (.goto 4, 3) := by decide +kernel
theorem dX8_in_17 : decode cX8_in 17 = .ok (.iconst 0, 1) := by decide +kernel
theorem dX8_in_18 : decode cX8_in 18 = .ok (.ireturn, 1) := by decide +kernel
theorem dX8_has_0 : decode cX8_has 0 = .ok (.iload_n 0, 1) := by decide +kernel
theorem dX8_has_1 : decode cX8_has 1 = .ok (.iload_n 1, 1) := by decide +kernel
theorem dX8_has_2 : decode cX8_has 2 = .ok (.ishr, 1) := by decide +kernel
theorem dX8_has_3 : decode cX8_has 3 = .ok (.iconst 1, 1) := by decide +kernel
theorem dX8_has_4 : decode cX8_has 4 = .ok (.iand, 1) := by decide +kernel
theorem dX8_has_5 : decode cX8_has 5 = .ok (.iconst 1, 1) := by decide +kernel
theorem dX8_has_6 : decode cX8_has 6 = .ok (.if_icmp .ne 7, 3) := by decide +kernel
theorem dX8_has_9 : decode cX8_has 9 = .ok (.iconst 1, 1) := by decide +kernel
theorem dX8_has_10 : decode cX8_has 10 = .ok (.goto 4, 3) := by decide +kernel
theorem dX8_has_13 : decode cX8_has 13 = .ok (.iconst 0, 1) := by decide +kernel
theorem dX8_has_14 : decode cX8_has 14 = .ok (.ireturn, 1) := by decide +kernel
theorem dX8_isGrid_0 : decode cX8_isGrid 0 = .ok (.iload_n 0, 1) := by decide +kernel
theorem dX8_isGrid_1 : decode cX8_isGrid 1 = .ok (.i2l, 1) := by decide +kernel
theorem dX8_isGrid_2 : decode cX8_isGrid 2 = .ok (.ldc2_w 9, 3) := by decide +kernel
theorem dX8_isGrid_5 : decode cX8_isGrid 5 = .ok (.ldc2_w 11, 3) := by decide +kernel
theorem dX8_isGrid_8 : decode cX8_isGrid 8 = .ok (.invokestatic 13, 3) := by decide +kernel
theorem dX8_isGrid_11 : decode cX8_isGrid 11 = .ok (.ifCond .eq 21, 3) := by decide +kernel
theorem dX8_isGrid_14 : decode cX8_isGrid 14 = .ok (.iload_n 1, 1) := by decide +kernel
theorem dX8_isGrid_15 : decode cX8_isGrid 15 = .ok (.i2l, 1) := by decide +kernel
theorem dX8_isGrid_16 : decode cX8_isGrid 16 = .ok (.ldc2_w 9, 3) := by decide +kernel
theorem dX8_isGrid_19 : decode cX8_isGrid 19 = .ok (.ldc2_w 11, 3) := by decide +kernel
theorem dX8_isGrid_22 : decode cX8_isGrid 22 = .ok (.invokestatic 13, 3) := by decide +kernel
theorem dX8_isGrid_25 : decode cX8_isGrid 25 = .ok (.ifCond .eq 7, 3) := by decide +kernel
theorem dX8_isGrid_28 : decode cX8_isGrid 28 = .ok (.iconst 1, 1) := by decide +kernel
theorem dX8_isGrid_29 : decode cX8_isGrid 29 = .ok (.goto 4, 3) := by decide +kernel
theorem dX8_isGrid_32 : decode cX8_isGrid 32 = .ok (.iconst 0, 1) := by decide +kernel
theorem dX8_isGrid_33 : decode cX8_isGrid 33 = .ok (.ireturn, 1) := by decide +kernel
theorem dX8_init_0 : decode cX8_init 0 = .ok (.aload_n 0, 1) := by decide +kernel
theorem dX8_init_1 : decode cX8_init 1 = .ok (.invokespecial 17, 3) := by decide +kernel
theorem dX8_init_4 : decode cX8_init 4 = .ok (.aload_n 0, 1) := by decide +kernel
theorem dX8_init_5 : decode cX8_init 5 = .ok (.bipush 80, 2) := by decide +kernel
theorem dX8_init_7 : decode cX8_init 7 = .ok (.newarray .int, 2) := by decide +kernel
theorem dX8_init_9 : decode cX8_init 9 = .ok (.putfield 23, 3) := by decide +kernel
theorem dX8_init_12 : decode cX8_init 12 = .ok (.aload_n 0, 1) := by decide +kernel
theorem dX8_init_13 : decode cX8_init 13 = .ok (.bipush 12, 2) := by decide +kernel
theorem dX8_init_15 : decode cX8_init 15 = .ok (.newarray .int, 2) := by decide +kernel
theorem dX8_init_17 : decode cX8_init 17 = .ok (.dup, 1) := by decide +kernel
theorem dX8_init_18 : decode cX8_init 18 = .ok (.iconst 0, 1) := by decide +kernel
theorem dX8_init_19 : decode cX8_init 19 = .ok (.iconst 2, 1) := by decide +kernel
theorem dX8_init_20 : decode cX8_init 20 = .ok (.iastore, 1) := by decide +kernel
theorem dX8_init_21 : decode cX8_init 21 = .ok (.dup, 1) := by decide +kernel
theorem dX8_init_22 : decode cX8_init 22 = .ok (.iconst 1, 1) := by decide +kernel
theorem dX8_init_23 : decode cX8_init 23 = .ok (.iconst 1, 1) := by decide +kernel
theorem dX8_init_24 : decode cX8_init 24 = .ok (.iastore, 1) := by decide +kernel
theorem dX8_init_25 : decode cX8_init 25 = .ok (.dup, 1) := by decide +kernel
theorem dX8_init_26 : decode cX8_init 26 = .ok (.iconst 2, 1) := by decide +kernel
theorem dX8_init_27 : decode cX8_init 27 = .ok (.iconst 0, 1) := by decide +kernel
theorem dX8_init_28 : decode cX8_init 28 = .ok (.iastore, 1) := by decide +kernel
theorem dX8_init_29 : decode cX8_init 29 = .ok (.dup, 1) := by decide +kernel
theorem dX8_init_30 : decode cX8_init 30 = .ok (.iconst 3, 1) := by decide +kernel
theorem dX8_init_31 : decode cX8_init 31 = .ok (.iconst 1, 1) := by decide +kernel
theorem dX8_init_32 : decode cX8_init 32 = .ok (.iastore, 1) := by decide +kernel
theorem dX8_init_33 : decode cX8_init 33 = .ok (.dup, 1) := by decide +kernel
theorem dX8_init_34 : decode cX8_init 34 = .ok (.iconst 4, 1) := by decide +kernel
theorem dX8_init_35 : decode cX8_init 35 = .ok (.iconst 2, 1) := by decide +kernel
theorem dX8_init_36 : decode cX8_init 36 = .ok (.iastore, 1) := by decide +kernel
theorem dX8_init_37 : decode cX8_init 37 = .ok (.dup, 1) := by decide +kernel
theorem dX8_init_38 : decode cX8_init 38 = .ok (.iconst 5, 1) := by decide +kernel
theorem dX8_init_39 : decode cX8_init 39 = .ok (.iconst 0, 1) := by decide +kernel
theorem dX8_init_40 : decode cX8_init 40 = .ok (.iastore, 1) := by decide +kernel
theorem dX8_init_41 : decode cX8_init 41 = .ok (.dup, 1) := by decide +kernel
theorem dX8_init_42 : decode cX8_init 42 = .ok (.bipush 6, 2) := by decide +kernel
theorem dX8_init_44 : decode cX8_init 44 = .ok (.iconst 1, 1) := by decide +kernel
theorem dX8_init_45 : decode cX8_init 45 = .ok (.iastore, 1) := by decide +kernel
theorem dX8_init_46 : decode cX8_init 46 = .ok (.dup, 1) := by decide +kernel
theorem dX8_init_47 : decode cX8_init 47 = .ok (.bipush 7, 2) := by decide +kernel
theorem dX8_init_49 : decode cX8_init 49 = .ok (.iconst 2, 1) := by decide +kernel
theorem dX8_init_50 : decode cX8_init 50 = .ok (.iastore, 1) := by decide +kernel
theorem dX8_init_51 : decode cX8_init 51 = .ok (.dup, 1) := by decide +kernel
theorem dX8_init_52 : decode cX8_init 52 = .ok (.bipush 8, 2) := by decide +kernel
theorem dX8_init_54 : decode cX8_init 54 = .ok (.iconst 0, 1) := by decide +kernel
theorem dX8_init_55 : decode cX8_init 55 = .ok (.iastore, 1) := by decide +kernel
theorem dX8_init_56 : decode cX8_init 56 = .ok (.dup, 1) := by decide +kernel
theorem dX8_init_57 : decode cX8_init 57 = .ok (.bipush 9, 2) := by decide +kernel
theorem dX8_init_59 : decode cX8_init 59 = .ok (.iconst 1, 1) := by decide +kernel
theorem dX8_init_60 : decode cX8_init 60 = .ok (.iastore, 1) := by decide +kernel
theorem dX8_init_61 : decode cX8_init 61 = .ok (.dup, 1) := by decide +kernel
theorem dX8_init_62 : decode cX8_init 62 = .ok (.bipush 10, 2) := by decide +kernel
theorem dX8_init_64 : decode cX8_init 64 = .ok (.iconst 1, 1) := by decide +kernel
theorem dX8_init_65 : decode cX8_init 65 = .ok (.iastore, 1) := by decide +kernel
theorem dX8_init_66 : decode cX8_init 66 = .ok (.dup, 1) := by decide +kernel
theorem dX8_init_67 : decode cX8_init 67 = .ok (.bipush 11, 2) := by decide +kernel
theorem dX8_init_69 : decode cX8_init 69 = .ok (.iconst 0, 1) := by decide +kernel
theorem dX8_init_70 : decode cX8_init 70 = .ok (.iastore, 1) := by decide +kernel
theorem dX8_init_71 : decode cX8_init 71 = .ok (.putfield 27, 3) := by decide +kernel
theorem dX8_init_74 : decode cX8_init 74 = .ok (.aload_n 0, 1) := by decide +kernel
theorem dX8_init_75 : decode cX8_init 75 = .ok (.bipush 12, 2) := by decide +kernel
theorem dX8_init_77 : decode cX8_init 77 = .ok (.newarray .int, 2) := by decide +kernel
theorem dX8_init_79 : decode cX8_init 79 = .ok (.dup, 1) := by decide +kernel
theorem dX8_init_80 : decode cX8_init 80 = .ok (.iconst 0, 1) := by decide +kernel
theorem dX8_init_81 : decode cX8_init 81 = .ok (.iconst 2, 1) := by decide +kernel
theorem dX8_init_82 : decode cX8_init 82 = .ok (.iastore, 1) := by decide +kernel
theorem dX8_init_83 : decode cX8_init 83 = .ok (.dup, 1) := by decide +kernel
theorem dX8_init_84 : decode cX8_init 84 = .ok (.iconst 1, 1) := by decide +kernel
theorem dX8_init_85 : decode cX8_init 85 = .ok (.iconst 2, 1) := by decide +kernel
theorem dX8_init_86 : decode cX8_init 86 = .ok (.iastore, 1) := by decide +kernel
theorem dX8_init_87 : decode cX8_init 87 = .ok (.dup, 1) := by decide +kernel
theorem dX8_init_88 : decode cX8_init 88 = .ok (.iconst 2, 1) := by decide +kernel
theorem dX8_init_89 : decode cX8_init 89 = .ok (.iconst 1, 1) := by decide +kernel
theorem dX8_init_90 : decode cX8_init 90 = .ok (.iastore, 1) := by decide +kernel
theorem dX8_init_91 : decode cX8_init 91 = .ok (.dup, 1) := by decide +kernel
theorem dX8_init_92 : decode cX8_init 92 = .ok (.iconst 3, 1) := by decide +kernel
theorem dX8_init_93 : decode cX8_init 93 = .ok (.iconst 1, 1) := by decide +kernel
theorem dX8_init_94 : decode cX8_init 94 = .ok (.iastore, 1) := by decide +kernel
theorem dX8_init_95 : decode cX8_init 95 = .ok (.dup, 1) := by decide +kernel
theorem dX8_init_96 : decode cX8_init 96 = .ok (.iconst 4, 1) := by decide +kernel
theorem dX8_init_97 : decode cX8_init 97 = .ok (.iconst 1, 1) := by decide +kernel
theorem dX8_init_98 : decode cX8_init 98 = .ok (.iastore, 1) := by decide +kernel
theorem dX8_init_99 : decode cX8_init 99 = .ok (.dup, 1) := by decide +kernel
theorem dX8_init_100 : decode cX8_init 100 = .ok (.iconst 5, 1) := by decide +kernel
theorem dX8_init_101 : decode cX8_init 101 = .ok (.iconst 1, 1) := by decide +kernel
theorem dX8_init_102 : decode cX8_init 102 = .ok (.iastore, 1) := by decide +kernel
theorem dX8_init_103 : decode cX8_init 103 = .ok (.dup, 1) := by decide +kernel
theorem dX8_init_104 : decode cX8_init 104 = .ok (.bipush 6, 2) := by decide +kernel
theorem dX8_init_106 : decode cX8_init 106 = .ok (.iconst 1, 1) := by decide +kernel
theorem dX8_init_107 : decode cX8_init 107 = .ok (.iastore, 1) := by decide +kernel
theorem dX8_init_108 : decode cX8_init 108 = .ok (.dup, 1) := by decide +kernel
theorem dX8_init_109 : decode cX8_init 109 = .ok (.bipush 7, 2) := by decide +kernel
theorem dX8_init_111 : decode cX8_init 111 = .ok (.iconst 1, 1) := by decide +kernel
theorem dX8_init_112 : decode cX8_init 112 = .ok (.iastore, 1) := by decide +kernel
theorem dX8_init_113 : decode cX8_init 113 = .ok (.dup, 1) := by decide +kernel
theorem dX8_init_114 : decode cX8_init 114 = .ok (.bipush 8, 2) := by decide +kernel
theorem dX8_init_116 : decode cX8_init 116 = .ok (.iconst 1, 1) := by decide +kernel
theorem dX8_init_117 : decode cX8_init 117 = .ok (.iastore, 1) := by decide +kernel
theorem dX8_init_118 : decode cX8_init 118 = .ok (.dup, 1) := by decide +kernel
theorem dX8_init_119 : decode cX8_init 119 = .ok (.bipush 9, 2) := by decide +kernel
theorem dX8_init_121 : decode cX8_init 121 = .ok (.iconst 1, 1) := by decide +kernel
theorem dX8_init_122 : decode cX8_init 122 = .ok (.iastore, 1) := by decide +kernel
theorem dX8_init_123 : decode cX8_init 123 = .ok (.dup, 1) := by decide +kernel
theorem dX8_init_124 : decode cX8_init 124 = .ok (.bipush 10, 2) := by decide +kernel
theorem dX8_init_126 : decode cX8_init 126 = .ok (.iconst 2, 1) := by decide +kernel
theorem dX8_init_127 : decode cX8_init 127 = .ok (.iastore, 1) := by decide +kernel
theorem dX8_init_128 : decode cX8_init 128 = .ok (.dup, 1) := by decide +kernel
theorem dX8_init_129 : decode cX8_init 129 = .ok (.bipush 11, 2) := by decide +kernel
theorem dX8_init_131 : decode cX8_init 131 = .ok (.iconst 2, 1) := by decide +kernel
theorem dX8_init_132 : decode cX8_init 132 = .ok (.iastore, 1) := by decide +kernel
theorem dX8_init_133 : decode cX8_init 133 = .ok (.putfield 30, 3) := by decide +kernel
theorem dX8_init_136 : decode cX8_init 136 = .ok (.aload_n 0, 1) := by decide +kernel
theorem dX8_init_137 : decode cX8_init 137 = .ok (.bipush 12, 2) := by decide +kernel
theorem dX8_init_139 : decode cX8_init 139 = .ok (.newarray .int, 2) := by decide +kernel
theorem dX8_init_141 : decode cX8_init 141 = .ok (.dup, 1) := by decide +kernel
theorem dX8_init_142 : decode cX8_init 142 = .ok (.iconst 0, 1) := by decide +kernel
theorem dX8_init_143 : decode cX8_init 143 = .ok (.iconst 1, 1) := by decide +kernel
theorem dX8_init_144 : decode cX8_init 144 = .ok (.iastore, 1) := by decide +kernel
theorem dX8_init_145 : decode cX8_init 145 = .ok (.dup, 1) := by decide +kernel
theorem dX8_init_146 : decode cX8_init 146 = .ok (.iconst 1, 1) := by decide +kernel
theorem dX8_init_147 : decode cX8_init 147 = .ok (.iconst 1, 1) := by decide +kernel
theorem dX8_init_148 : decode cX8_init 148 = .ok (.iastore, 1) := by decide +kernel
theorem dX8_init_149 : decode cX8_init 149 = .ok (.dup, 1) := by decide +kernel
theorem dX8_init_150 : decode cX8_init 150 = .ok (.iconst 2, 1) := by decide +kernel
theorem dX8_init_151 : decode cX8_init 151 = .ok (.iconst 2, 1) := by decide +kernel
theorem dX8_init_152 : decode cX8_init 152 = .ok (.iastore, 1) := by decide +kernel
theorem dX8_init_153 : decode cX8_init 153 = .ok (.dup, 1) := by decide +kernel
theorem dX8_init_154 : decode cX8_init 154 = .ok (.iconst 3, 1) := by decide +kernel
theorem dX8_init_155 : decode cX8_init 155 = .ok (.iconst 2, 1) := by decide +kernel
theorem dX8_init_156 : decode cX8_init 156 = .ok (.iastore, 1) := by decide +kernel
theorem dX8_init_157 : decode cX8_init 157 = .ok (.dup, 1) := by decide +kernel
theorem dX8_init_158 : decode cX8_init 158 = .ok (.iconst 4, 1) := by decide +kernel
theorem dX8_init_159 : decode cX8_init 159 = .ok (.iconst 1, 1) := by decide +kernel
theorem dX8_init_160 : decode cX8_init 160 = .ok (.iastore, 1) := by decide +kernel
theorem dX8_init_161 : decode cX8_init 161 = .ok (.dup, 1) := by decide +kernel
theorem dX8_init_162 : decode cX8_init 162 = .ok (.iconst 5, 1) := by decide +kernel
theorem dX8_init_163 : decode cX8_init 163 = .ok (.iconst 1, 1) := by decide +kernel
theorem dX8_init_164 : decode cX8_init 164 = .ok (.iastore, 1) := by decide +kernel
theorem dX8_init_165 : decode cX8_init 165 = .ok (.dup, 1) := by decide +kernel
theorem dX8_init_166 : decode cX8_init 166 = .ok (.bipush 6, 2) := by decide +kernel
theorem dX8_init_168 : decode cX8_init 168 = .ok (.iconst 1, 1) := by decide +kernel
theorem dX8_init_169 : decode cX8_init 169 = .ok (.iastore, 1) := by decide +kernel
theorem dX8_init_170 : decode cX8_init 170 = .ok (.dup, 1) := by decide +kernel
theorem dX8_init_171 : decode cX8_init 171 = .ok (.bipush 7, 2) := by decide +kernel
theorem dX8_init_173 : decode cX8_init 173 = .ok (.iconst 1, 1) := by decide +kernel
theorem dX8_init_174 : decode cX8_init 174 = .ok (.iastore, 1) := by decide +kernel
theorem dX8_init_175 : decode cX8_init 175 = .ok (.dup, 1) := by decide +kernel
theorem dX8_init_176 : decode cX8_init 176 = .ok (.bipush 8, 2) := by decide +kernel
theorem dX8_init_178 : decode cX8_init 178 = .ok (.iconst 1, 1) := by decide +kernel
theorem dX8_init_179 : decode cX8_init 179 = .ok (.iastore, 1) := by decide +kernel
theorem dX8_init_180 : decode cX8_init 180 = .ok (.dup, 1) := by decide +kernel
theorem dX8_init_181 : decode cX8_init 181 = .ok (.bipush 9, 2) := by decide +kernel
theorem dX8_init_183 : decode cX8_init 183 = .ok (.iconst 1, 1) := by decide +kernel
theorem dX8_init_184 : decode cX8_init 184 = .ok (.iastore, 1) := by decide +kernel
theorem dX8_init_185 : decode cX8_init 185 = .ok (.dup, 1) := by decide +kernel
theorem dX8_init_186 : decode cX8_init 186 = .ok (.bipush 10, 2) := by decide +kernel
theorem dX8_init_188 : decode cX8_init 188 = .ok (.iconst 1, 1) := by decide +kernel
theorem dX8_init_189 : decode cX8_init 189 = .ok (.iastore, 1) := by decide +kernel
theorem dX8_init_190 : decode cX8_init 190 = .ok (.dup, 1) := by decide +kernel
theorem dX8_init_191 : decode cX8_init 191 = .ok (.bipush 11, 2) := by decide +kernel
theorem dX8_init_193 : decode cX8_init 193 = .ok (.iconst 1, 1) := by decide +kernel
theorem dX8_init_194 : decode cX8_init 194 = .ok (.iastore, 1) := by decide +kernel
theorem dX8_init_195 : decode cX8_init 195 = .ok (.putfield 33, 3) := by decide +kernel
theorem dX8_init_198 : decode cX8_init 198 = .ok (.aload_n 0, 1) := by decide +kernel
theorem dX8_init_199 : decode cX8_init 199 = .ok (.bipush 12, 2) := by decide +kernel
theorem dX8_init_201 : decode cX8_init 201 = .ok (.newarray .int, 2) := by decide +kernel
theorem dX8_init_203 : decode cX8_init 203 = .ok (.dup, 1) := by decide +kernel
theorem dX8_init_204 : decode cX8_init 204 = .ok (.iconst 0, 1) := by decide +kernel
theorem dX8_init_205 : decode cX8_init 205 = .ok (.iconst 1, 1) := by decide +kernel
theorem dX8_init_206 : decode cX8_init 206 = .ok (.iastore, 1) := by decide +kernel
theorem dX8_init_207 : decode cX8_init 207 = .ok (.dup, 1) := by decide +kernel
theorem dX8_init_208 : decode cX8_init 208 = .ok (.iconst 1, 1) := by decide +kernel
theorem dX8_init_209 : decode cX8_init 209 = .ok (.iconst 1, 1) := by decide +kernel
theorem dX8_init_210 : decode cX8_init 210 = .ok (.iastore, 1) := by decide +kernel
theorem dX8_init_211 : decode cX8_init 211 = .ok (.dup, 1) := by decide +kernel
theorem dX8_init_212 : decode cX8_init 212 = .ok (.iconst 2, 1) := by decide +kernel
theorem dX8_init_213 : decode cX8_init 213 = .ok (.iconst 1, 1) := by decide +kernel
theorem dX8_init_214 : decode cX8_init 214 = .ok (.iastore, 1) := by decide +kernel
theorem dX8_init_215 : decode cX8_init 215 = .ok (.dup, 1) := by decide +kernel
theorem dX8_init_216 : decode cX8_init 216 = .ok (.iconst 3, 1) := by decide +kernel
theorem dX8_init_217 : decode cX8_init 217 = .ok (.iconst 1, 1) := by decide +kernel
theorem dX8_init_218 : decode cX8_init 218 = .ok (.iastore, 1) := by decide +kernel
theorem dX8_init_219 : decode cX8_init 219 = .ok (.dup, 1) := by decide +kernel
theorem dX8_init_220 : decode cX8_init 220 = .ok (.iconst 4, 1) := by decide +kernel
theorem dX8_init_221 : decode cX8_init 221 = .ok (.iconst 1, 1) := by decide +kernel
theorem dX8_init_222 : decode cX8_init 222 = .ok (.iastore, 1) := by decide +kernel
theorem dX8_init_223 : decode cX8_init 223 = .ok (.dup, 1) := by decide +kernel
theorem dX8_init_224 : decode cX8_init 224 = .ok (.iconst 5, 1) := by decide +kernel
theorem dX8_init_225 : decode cX8_init 225 = .ok (.iconst 1, 1) := by decide +kernel
theorem dX8_init_226 : decode cX8_init 226 = .ok (.iastore, 1) := by decide +kernel
theorem dX8_init_227 : decode cX8_init 227 = .ok (.dup, 1) := by decide +kernel
theorem dX8_init_228 : decode cX8_init 228 = .ok (.bipush 6, 2) := by decide +kernel
theorem dX8_init_230 : decode cX8_init 230 = .ok (.iconst 1, 1) := by decide +kernel
theorem dX8_init_231 : decode cX8_init 231 = .ok (.iastore, 1) := by decide +kernel
theorem dX8_init_232 : decode cX8_init 232 = .ok (.dup, 1) := by decide +kernel
theorem dX8_init_233 : decode cX8_init 233 = .ok (.bipush 7, 2) := by decide +kernel
theorem dX8_init_235 : decode cX8_init 235 = .ok (.iconst 2, 1) := by decide +kernel
theorem dX8_init_236 : decode cX8_init 236 = .ok (.iastore, 1) := by decide +kernel
theorem dX8_init_237 : decode cX8_init 237 = .ok (.dup, 1) := by decide +kernel
theorem dX8_init_238 : decode cX8_init 238 = .ok (.bipush 8, 2) := by decide +kernel
theorem dX8_init_240 : decode cX8_init 240 = .ok (.iconst 0, 1) := by decide +kernel
theorem dX8_init_241 : decode cX8_init 241 = .ok (.iastore, 1) := by decide +kernel
theorem dX8_init_242 : decode cX8_init 242 = .ok (.dup, 1) := by decide +kernel
theorem dX8_init_243 : decode cX8_init 243 = .ok (.bipush 9, 2) := by decide +kernel
theorem dX8_init_245 : decode cX8_init 245 = .ok (.iconst 2, 1) := by decide +kernel
theorem dX8_init_246 : decode cX8_init 246 = .ok (.iastore, 1) := by decide +kernel
theorem dX8_init_247 : decode cX8_init 247 = .ok (.dup, 1) := by decide +kernel
theorem dX8_init_248 : decode cX8_init 248 = .ok (.bipush 10, 2) := by decide +kernel
theorem dX8_init_250 : decode cX8_init 250 = .ok (.iconst 0, 1) := by decide +kernel
theorem dX8_init_251 : decode cX8_init 251 = .ok (.iastore, 1) := by decide +kernel
theorem dX8_init_252 : decode cX8_init 252 = .ok (.dup, 1) := by decide +kernel
theorem dX8_init_253 : decode cX8_init 253 = .ok (.bipush 11, 2) := by decide +kernel
theorem dX8_init_255 : decode cX8_init 255 = .ok (.iconst 0, 1) := by decide +kernel
theorem dX8_init_256 : decode cX8_init 256 = .ok (.iastore, 1) := by decide +kernel
theorem dX8_init_257 : decode cX8_init 257 = .ok (.putfield 36, 3) := by decide +kernel
theorem dX8_init_260 : decode cX8_init 260 = .ok (.aload_n 0, 1) := by decide +kernel
theorem dX8_init_261 : decode cX8_init 261 = .ok (.bipush 12, 2) := by decide +kernel
theorem dX8_init_263 : decode cX8_init 263 = .ok (.newarray .int, 2) := by decide +kernel
theorem dX8_init_265 : decode cX8_init 265 = .ok (.dup, 1) := by decide +kernel
theorem dX8_init_266 : decode cX8_init 266 = .ok (.iconst 0, 1) := by decide +kernel
theorem dX8_init_267 : decode cX8_init 267 = .ok (.bipush 94, 2) := by decide +kernel
theorem dX8_init_269 : decode cX8_init 269 = .ok (.iastore, 1) := by decide +kernel
theorem dX8_init_270 : decode cX8_init 270 = .ok (.dup, 1) := by decide +kernel
theorem dX8_init_271 : decode cX8_init 271 = .ok (.iconst 1, 1) := by decide +kernel
theorem dX8_init_272 : decode cX8_init 272 = .ok (.bipush 94, 2) := by decide +kernel
theorem dX8_init_274 : decode cX8_init 274 = .ok (.iastore, 1) := by decide +kernel
theorem dX8_init_275 : decode cX8_init 275 = .ok (.dup, 1) := by decide +kernel
theorem dX8_init_276 : decode cX8_init 276 = .ok (.iconst 2, 1) := by decide +kernel
theorem dX8_init_277 : decode cX8_init 277 = .ok (.iconst 1, 1) := by decide +kernel
theorem dX8_init_278 : decode cX8_init 278 = .ok (.iastore, 1) := by decide +kernel
theorem dX8_init_279 : decode cX8_init 279 = .ok (.dup, 1) := by decide +kernel
theorem dX8_init_280 : decode cX8_init 280 = .ok (.iconst 3, 1) := by decide +kernel
theorem dX8_init_281 : decode cX8_init 281 = .ok (.iconst 0, 1) := by decide +kernel
theorem dX8_init_282 : decode cX8_init 282 = .ok (.iastore, 1) := by decide +kernel
theorem dX8_init_283 : decode cX8_init 283 = .ok (.dup, 1) := by decide +kernel
theorem dX8_init_284 : decode cX8_init 284 = .ok (.iconst 4, 1) := by decide +kernel
theorem dX8_init_285 : decode cX8_init 285 = .ok (.bipush 14, 2) := by decide +kernel
theorem dX8_init_287 : decode cX8_init 287 = .ok (.iastore, 1) := by decide +kernel
theorem dX8_init_288 : decode cX8_init 288 = .ok (.dup, 1) := by decide +kernel
theorem dX8_init_289 : decode cX8_init 289 = .ok (.iconst 5, 1) := by decide +kernel
theorem dX8_init_290 : decode cX8_init 290 = .ok (.bipush 14, 2) := by decide +kernel
theorem dX8_init_292 : decode cX8_init 292 = .ok (.iastore, 1) := by decide +kernel
theorem dX8_init_293 : decode cX8_init 293 = .ok (.dup, 1) := by decide +kernel
theorem dX8_init_294 : decode cX8_init 294 = .ok (.bipush 6, 2) := by decide +kernel
theorem dX8_init_296 : decode cX8_init 296 = .ok (.bipush 13, 2) := by decide +kernel
theorem dX8_init_298 : decode cX8_init 298 = .ok (.iastore, 1) := by decide +kernel
theorem dX8_init_299 : decode cX8_init 299 = .ok (.dup, 1) := by decide +kernel
theorem dX8_init_300 : decode cX8_init 300 = .ok (.bipush 7, 2) := by decide +kernel
theorem dX8_init_302 : decode cX8_init 302 = .ok (.bipush 49, 2) := by decide +kernel
theorem dX8_init_304 : decode cX8_init 304 = .ok (.iastore, 1) := by decide +kernel
theorem dX8_init_305 : decode cX8_init 305 = .ok (.dup, 1) := by decide +kernel
theorem dX8_init_306 : decode cX8_init 306 = .ok (.bipush 8, 2) := by decide +kernel
theorem dX8_init_308 : decode cX8_init 308 = .ok (.bipush 49, 2) := by decide +kernel
theorem dX8_init_310 : decode cX8_init 310 = .ok (.iastore, 1) := by decide +kernel
theorem dX8_init_311 : decode cX8_init 311 = .ok (.dup, 1) := by decide +kernel
theorem dX8_init_312 : decode cX8_init 312 = .ok (.bipush 9, 2) := by decide +kernel
theorem dX8_init_314 : decode cX8_init 314 = .ok (.bipush 50, 2) := by decide +kernel
theorem dX8_init_316 : decode cX8_init 316 = .ok (.iastore, 1) := by decide +kernel
theorem dX8_init_317 : decode cX8_init 317 = .ok (.dup, 1) := by decide +kernel
theorem dX8_init_318 : decode cX8_init 318 = .ok (.bipush 10, 2) := by decide +kernel
theorem dX8_init_320 : decode cX8_init 320 = .ok (.bipush 112, 2) := by decide +kernel
theorem dX8_init_322 : decode cX8_init 322 = .ok (.iastore, 1) := by decide +kernel
theorem dX8_init_323 : decode cX8_init 323 = .ok (.dup, 1) := by decide +kernel
theorem dX8_init_324 : decode cX8_init 324 = .ok (.bipush 11, 2) := by decide +kernel
theorem dX8_init_326 : decode cX8_init 326 = .ok (.bipush 120, 2) := by decide +kernel
theorem dX8_init_328 : decode cX8_init 328 = .ok (.iastore, 1) := by decide +kernel
theorem dX8_init_329 : decode cX8_init 329 = .ok (.putfield 39, 3) := by decide +kernel
theorem dX8_init_332 : decode cX8_init 332 = .ok (.aload_n 0, 1) := by decide +kernel
theorem dX8_init_333 : decode cX8_init 333 = .ok (.bipush 12, 2) := by decide +kernel
theorem dX8_init_335 : decode cX8_init 335 = .ok (.newarray .int, 2) := by decide +kernel
theorem dX8_init_337 : decode cX8_init 337 = .ok (.dup, 1) := by decide +kernel
theorem dX8_init_338 : decode cX8_init 338 = .ok (.iconst 0, 1) := by decide +kernel
theorem dX8_init_339 : decode cX8_init 339 = .ok (.bipush 112, 2) := by decide +kernel
theorem dX8_init_341 : decode cX8_init 341 = .ok (.iastore, 1) := by decide +kernel
theorem dX8_init_342 : decode cX8_init 342 = .ok (.dup, 1) := by decide +kernel
theorem dX8_init_343 : decode cX8_init 343 = .ok (.iconst 1, 1) := by decide +kernel
theorem dX8_init_344 : decode cX8_init 344 = .ok (.bipush 110, 2) := by decide +kernel
theorem dX8_init_346 : decode cX8_init 346 = .ok (.iastore, 1) := by decide +kernel
theorem dX8_init_347 : decode cX8_init 347 = .ok (.dup, 1) := by decide +kernel
theorem dX8_init_348 : decode cX8_init 348 = .ok (.iconst 2, 1) := by decide +kernel
theorem dX8_init_349 : decode cX8_init 349 = .ok (.bipush 101, 2) := by decide +kernel
theorem dX8_init_351 : decode cX8_init 351 = .ok (.iastore, 1) := by decide +kernel
theorem dX8_init_352 : decode cX8_init 352 = .ok (.dup, 1) := by decide +kernel
theorem dX8_init_353 : decode cX8_init 353 = .ok (.iconst 3, 1) := by decide +kernel
theorem dX8_init_354 : decode cX8_init 354 = .ok (.bipush 118, 2) := by decide +kernel
theorem dX8_init_356 : decode cX8_init 356 = .ok (.iastore, 1) := by decide +kernel
theorem dX8_init_357 : decode cX8_init 357 = .ok (.dup, 1) := by decide +kernel
theorem dX8_init_358 : decode cX8_init 358 = .ok (.iconst 4, 1) := by decide +kernel
theorem dX8_init_359 : decode cX8_init 359 = .ok (.bipush 97, 2) := by decide +kernel
theorem dX8_init_361 : decode cX8_init 361 = .ok (.iastore, 1) := by decide +kernel
theorem dX8_init_362 : decode cX8_init 362 = .ok (.dup, 1) := by decide +kernel
theorem dX8_init_363 : decode cX8_init 363 = .ok (.iconst 5, 1) := by decide +kernel
theorem dX8_init_364 : decode cX8_init 364 = .ok (.bipush 98, 2) := by decide +kernel
theorem dX8_init_366 : decode cX8_init 366 = .ok (.iastore, 1) := by decide +kernel
theorem dX8_init_367 : decode cX8_init 367 = .ok (.dup, 1) := by decide +kernel
theorem dX8_init_368 : decode cX8_init 368 = .ok (.bipush 6, 2) := by decide +kernel
theorem dX8_init_370 : decode cX8_init 370 = .ok (.bipush 99, 2) := by decide +kernel
theorem dX8_init_372 : decode cX8_init 372 = .ok (.iastore, 1) := by decide +kernel
theorem dX8_init_373 : decode cX8_init 373 = .ok (.dup, 1) := by decide +kernel
theorem dX8_init_374 : decode cX8_init 374 = .ok (.bipush 7, 2) := by decide +kernel
theorem dX8_init_376 : decode cX8_init 376 = .ok (.bipush 107, 2) := by decide +kernel
theorem dX8_init_378 : decode cX8_init 378 = .ok (.iastore, 1) := by decide +kernel
theorem dX8_init_379 : decode cX8_init 379 = .ok (.dup, 1) := by decide +kernel
theorem dX8_init_380 : decode cX8_init 380 = .ok (.bipush 8, 2) := by decide +kernel
theorem dX8_init_382 : decode cX8_init 382 = .ok (.bipush 109, 2) := by decide +kernel
theorem dX8_init_384 : decode cX8_init 384 = .ok (.iastore, 1) := by decide +kernel
theorem dX8_init_385 : decode cX8_init 385 = .ok (.dup, 1) := by decide +kernel
theorem dX8_init_386 : decode cX8_init 386 = .ok (.bipush 9, 2) := by decide +kernel
theorem dX8_init_388 : decode cX8_init 388 = .ok (.bipush 111, 2) := by decide +kernel
theorem dX8_init_390 : decode cX8_init 390 = .ok (.iastore, 1) := by decide +kernel
theorem dX8_init_391 : decode cX8_init 391 = .ok (.dup, 1) := by decide +kernel
theorem dX8_init_392 : decode cX8_init 392 = .ok (.bipush 10, 2) := by decide +kernel
theorem dX8_init_394 : decode cX8_init 394 = .ok (.bipush 108, 2) := by decide +kernel
theorem dX8_init_396 : decode cX8_init 396 = .ok (.iastore, 1) := by decide +kernel
theorem dX8_init_397 : decode cX8_init 397 = .ok (.dup, 1) := by decide +kernel
theorem dX8_init_398 : decode cX8_init 398 = .ok (.bipush 11, 2) := by decide +kernel
theorem dX8_init_400 : decode cX8_init 400 = .ok (.bipush 115, 2) := by decide +kernel
theorem dX8_init_402 : decode cX8_init 402 = .ok (.iastore, 1) := by decide +kernel
theorem dX8_init_403 : decode cX8_init 403 = .ok (.putfield 42, 3) := by decide +kernel
theorem dX8_init_406 : decode cX8_init 406 = .ok (.aload_n 0, 1) := by decide +kernel
theorem dX8_init_407 : decode cX8_init 407 = .ok (.sipush 640, 3) := by decide +kernel
theorem dX8_init_410 : decode cX8_init 410 = .ok (.newarray .int, 2) := by decide +kernel
theorem dX8_init_412 : decode cX8_init 412 = .ok (.putfield 45, 3) := by decide +kernel
theorem dX8_init_415 : decode cX8_init 415 = .ok (.aload_n 0, 1) := by decide +kernel
theorem dX8_init_416 : decode cX8_init 416 = .ok (.iconst 4, 1) := by decide +kernel
theorem dX8_init_417 : decode cX8_init 417 = .ok (.newarray .int, 2) := by decide +kernel
theorem dX8_init_419 : decode cX8_init 419 = .ok (.putfield 48, 3) := by decide +kernel
theorem dX8_init_422 : decode cX8_init 422 = .ok (.aload_n 0, 1) := by decide +kernel
theorem dX8_init_423 : decode cX8_init 423 = .ok (.bipush 8, 2) := by decide +kernel
theorem dX8_init_425 : decode cX8_init 425 = .ok (.newarray .int, 2) := by decide +kernel
theorem dX8_init_427 : decode cX8_init 427 = .ok (.putfield 51, 3) := by decide +kernel
theorem dX8_init_430 : decode cX8_init 430 = .ok (.aload_n 0, 1) := by decide +kernel
theorem dX8_init_431 : decode cX8_init 431 = .ok (.iconst 5, 1) := by decide +kernel
theorem dX8_init_432 : decode cX8_init 432 = .ok (.newarray .int, 2) := by decide +kernel
theorem dX8_init_434 : decode cX8_init 434 = .ok (.putfield 54, 3) := by decide +kernel
theorem dX8_init_437 : decode cX8_init 437 = .ok (.aload_n 0, 1) := by decide +kernel
theorem dX8_init_438 : decode cX8_init 438 = .ok (.iconst 5, 1) := by decide +kernel
theorem dX8_init_439 : decode cX8_init 439 = .ok (.newarray .int, 2) := by decide +kernel
theorem dX8_init_441 : decode cX8_init 441 = .ok (.putfield 57, 3) := by decide +kernel
theorem dX8_init_444 : decode cX8_init 444 = .ok (.aload_n 0, 1) := by decide +kernel
theorem dX8_init_445 : decode cX8_init 445 = .ok (.iconst 5, 1) := by decide +kernel
theorem dX8_init_446 : decode cX8_init 446 = .ok (.newarray .int, 2) := by decide +kernel
theorem dX8_init_448 : decode cX8_init 448 = .ok (.putfield 60, 3) := by decide +kernel
theorem dX8_init_451 : decode cX8_init 451 = .ok (.aload_n 0, 1) := by decide +kernel
theorem dX8_init_452 : decode cX8_init 452 = .ok (.bipush 120, 2) := by decide +kernel
theorem dX8_init_454 : decode cX8_init 454 = .ok (.newarray .int, 2) := by decide +kernel
theorem dX8_init_456 : decode cX8_init 456 = .ok (.putfield 63, 3) := by decide +kernel
theorem dX8_init_459 : decode cX8_init 459 = .ok (.aload_n 0, 1) := by decide +kernel
theorem dX8_init_460 : decode cX8_init 460 = .ok (.bipush 6, 2) := by decide +kernel
theorem dX8_init_462 : decode cX8_init 462 = .ok (.newarray .int, 2) := by decide +kernel
theorem dX8_init_464 : decode cX8_init 464 = .ok (.putfield 66, 3) := by decide +kernel
theorem dX8_init_467 : decode cX8_init 467 = .ok (.aload_n 0, 1) := by decide +kernel
theorem dX8_init_468 : decode cX8_init 468 = .ok (.bipush 80, 2) := by decide +kernel
theorem dX8_init_470 : decode cX8_init 470 = .ok (.newarray .int, 2) := by decide +kernel
theorem dX8_init_472 : decode cX8_init 472 = .ok (.putfield 69, 3) := by decide +kernel
theorem dX8_init_475 : decode cX8_init 475 = .ok (.aload_n 0, 1) := by decide +kernel
theorem dX8_init_476 : decode cX8_init 476 = .ok (.bipush 6, 2) := by decide +kernel
theorem dX8_init_478 : decode cX8_init 478 = .ok (.newarray .int, 2) := by decide +kernel
theorem dX8_init_480 : decode cX8_init 480 = .ok (.putfield 72, 3) := by decide +kernel
theorem dX8_init_483 : decode cX8_init 483 = .ok (.aload_n 0, 1) := by decide +kernel
theorem dX8_init_484 : decode cX8_init 484 = .ok (.iconst 3, 1) := by decide +kernel
theorem dX8_init_485 : decode cX8_init 485 = .ok (.newarray .int, 2) := by decide +kernel
theorem dX8_init_487 : decode cX8_init 487 = .ok (.putfield 75, 3) := by decide +kernel
theorem dX8_init_490 : decode cX8_init 490 = .ok (.aload_n 0, 1) := by decide +kernel
theorem dX8_init_491 : decode cX8_init 491 = .ok (.bipush 72, 2) := by decide +kernel
theorem dX8_init_493 : decode cX8_init 493 = .ok (.newarray .long, 2) := by decide +kernel
theorem dX8_init_495 : decode cX8_init 495 = .ok (.putfield 78, 3) := by decide +kernel
theorem dX8_init_498 : decode cX8_init 498 = .ok (.aload_n 0, 1) := by decide +kernel
theorem dX8_init_499 : decode cX8_init 499 = .ok (.bipush 16, 2) := by decide +kernel
theorem dX8_init_501 : decode cX8_init 501 = .ok (.newarray .long, 2) := by decide +kernel
theorem dX8_init_503 : decode cX8_init 503 = .ok (.putfield 82, 3) := by decide +kernel
theorem dX8_init_506 : decode cX8_init 506 = .ok (.aload_n 0, 1) := by decide +kernel
theorem dX8_init_507 : decode cX8_init 507 = .ok (.bipush 80, 2) := by decide +kernel
theorem dX8_init_509 : decode cX8_init 509 = .ok (.newarray .int, 2) := by decide +kernel
theorem dX8_init_511 : decode cX8_init 511 = .ok (.putfield 85, 3) := by decide +kernel
theorem dX8_init_514 : decode cX8_init 514 = .ok (.aload_n 0, 1) := by decide +kernel
theorem dX8_init_515 : decode cX8_init 515 = .ok (.getfield 23, 3) := by decide +kernel
theorem dX8_init_518 : decode cX8_init 518 = .ok (.iconst 0, 1) := by decide +kernel
theorem dX8_init_519 : decode cX8_init 519 = .ok (.iconst 3, 1) := by decide +kernel
theorem dX8_init_520 : decode cX8_init 520 = .ok (.iastore, 1) := by decide +kernel
theorem dX8_init_521 : decode cX8_init 521 = .ok (.iconst 0, 1) := by decide +kernel
theorem dX8_init_522 : decode cX8_init 522 = .ok (.istore_n 1, 1) := by decide +kernel
theorem dX8_init_523 : decode cX8_init 523 = .ok (.iload_n 1, 1) := by decide +kernel
theorem dX8_init_524 : decode cX8_init 524 = .ok (.iconst 3, 1) := by decide +kernel
theorem dX8_init_525 : decode cX8_init 525 = .ok (.if_icmp .ge 16, 3) := by decide +kernel
theorem dX8_init_528 : decode cX8_init 528 = .ok (.aload_n 0, 1) := by decide +kernel
theorem dX8_init_529 : decode cX8_init 529 = .ok (.getfield 75, 3) := by decide +kernel
theorem dX8_init_532 : decode cX8_init 532 = .ok (.iload_n 1, 1) := by decide +kernel
theorem dX8_init_533 : decode cX8_init 533 = .ok (.iconst (-1), 1) := by decide +kernel
theorem dX8_init_534 : decode cX8_init 534 = .ok (.iastore, 1) := by decide +kernel
theorem dX8_init_535 : decode cX8_init 535 = .ok (.iinc 1 1, 3) := by decide +kernel
theorem dX8_init_538 : decode cX8_init 538 = .ok (.goto (-15), 3) := by decide +kernel
theorem dX8_init_541 : decode cX8_init 541 = .ok (.return_, 1) := by decide +kernel
theorem dX8_isTrack_0 : decode cX8_isTrack 0 = .ok (.iload_n 1, 1) := by decide +kernel
theorem dX8_isTrack_1 : decode cX8_isTrack 1 = .ok (.i2l, 1) := by decide +kernel
theorem dX8_isTrack_2 : decode cX8_isTrack 2 = .ok (.lconst 0, 1) := by decide +kernel
theorem dX8_isTrack_3 : decode cX8_isTrack 3 = .ok (.aload_n 0, 1) := by decide +kernel
theorem dX8_isTrack_4 : decode cX8_isTrack 4 = .ok (.getfield 23, 3) := by decide +kernel
theorem dX8_isTrack_7 : decode cX8_isTrack 7 = .ok (.iconst 1, 1) := by decide +kernel
theorem dX8_isTrack_8 : decode cX8_isTrack 8 = .ok (.iaload, 1) := by decide +kernel
theorem dX8_isTrack_9 : decode cX8_isTrack 9 = .ok (.iconst 1, 1) := by decide +kernel
theorem dX8_isTrack_10 : decode cX8_isTrack 10 = .ok (.isub, 1) := by decide +kernel
theorem dX8_isTrack_11 : decode cX8_isTrack 11 = .ok (.i2l, 1) := by decide +kernel
theorem dX8_isTrack_12 : decode cX8_isTrack 12 = .ok (.invokestatic 13, 3) := by decide +kernel
theorem dX8_isTrack_15 : decode cX8_isTrack 15 = .ok (.ireturn, 1) := by decide +kernel
theorem dX8_isVertex_0 : decode cX8_isVertex 0 = .ok (.iload_n 1, 1) := by decide +kernel
theorem dX8_isVertex_1 : decode cX8_isVertex 1 = .ok (.i2l, 1) := by decide +kernel
theorem dX8_isVertex_2 : decode cX8_isVertex 2 = .ok (.lconst 0, 1) := by decide +kernel
theorem dX8_isVertex_3 : decode cX8_isVertex 3 = .ok (.aload_n 0, 1) := by decide +kernel
theorem dX8_isVertex_4 : decode cX8_isVertex 4 = .ok (.getfield 23, 3) := by decide +kernel
theorem dX8_isVertex_7 : decode cX8_isVertex 7 = .ok (.iconst 2, 1) := by decide +kernel
theorem dX8_isVertex_8 : decode cX8_isVertex 8 = .ok (.iaload, 1) := by decide +kernel
theorem dX8_isVertex_9 : decode cX8_isVertex 9 = .ok (.iconst 1, 1) := by decide +kernel
theorem dX8_isVertex_10 : decode cX8_isVertex 10 = .ok (.isub, 1) := by decide +kernel
theorem dX8_isVertex_11 : decode cX8_isVertex 11 = .ok (.i2l, 1) := by decide +kernel
theorem dX8_isVertex_12 : decode cX8_isVertex 12 = .ok (.invokestatic 13, 3) := by decide +kernel
theorem dX8_isVertex_15 : decode cX8_isVertex 15 = .ok (.ireturn, 1) := by decide +kernel
theorem dX8_at_0 : decode cX8_at 0 = .ok (.aload_n 0, 1) := by decide +kernel
theorem dX8_at_1 : decode cX8_at 1 = .ok (.getfield 23, 3) := by decide +kernel
theorem dX8_at_4 : decode cX8_at 4 = .ok (.iconst 3, 1) := by decide +kernel
theorem dX8_at_5 : decode cX8_at 5 = .ok (.bipush 6, 2) := by decide +kernel
theorem dX8_at_7 : decode cX8_at 7 = .ok (.iload_n 1, 1) := by decide +kernel
theorem dX8_at_8 : decode cX8_at 8 = .ok (.imul, 1) := by decide +kernel
theorem dX8_at_9 : decode cX8_at 9 = .ok (.iadd, 1) := by decide +kernel
theorem dX8_at_10 : decode cX8_at 10 = .ok (.iload_n 2, 1) := by decide +kernel
theorem dX8_at_11 : decode cX8_at 11 = .ok (.iadd, 1) := by decide +kernel
theorem dX8_at_12 : decode cX8_at 12 = .ok (.iaload, 1) := by decide +kernel
theorem dX8_at_13 : decode cX8_at 13 = .ok (.ireturn, 1) := by decide +kernel
theorem dX8_kindOf_0 : decode cX8_kindOf 0 = .ok (.aload_n 0, 1) := by decide +kernel
theorem dX8_kindOf_1 : decode cX8_kindOf 1 = .ok (.getfield 23, 3) := by decide +kernel
theorem dX8_kindOf_4 : decode cX8_kindOf 4 = .ok (.bipush 51, 2) := by decide +kernel
theorem dX8_kindOf_6 : decode cX8_kindOf 6 = .ok (.iload_n 1, 1) := by decide +kernel
theorem dX8_kindOf_7 : decode cX8_kindOf 7 = .ok (.iadd, 1) := by decide +kernel
theorem dX8_kindOf_8 : decode cX8_kindOf 8 = .ok (.iaload, 1) := by decide +kernel
theorem dX8_kindOf_9 : decode cX8_kindOf 9 = .ok (.ireturn, 1) := by decide +kernel
theorem dX8_vertexAt_0 : decode cX8_vertexAt 0 = .ok (.aload_n 0, 1) := by decide +kernel
theorem dX8_vertexAt_1 : decode cX8_vertexAt 1 = .ok (.getfield 23, 3) := by decide +kernel
theorem dX8_vertexAt_4 : decode cX8_vertexAt 4 = .ok (.bipush 59, 2) := by decide +kernel
theorem dX8_vertexAt_6 : decode cX8_vertexAt 6 = .ok (.iconst 4, 1) := by decide +kernel
theorem dX8_vertexAt_7 : decode cX8_vertexAt 7 = .ok (.iload_n 1, 1) := by decide +kernel
theorem dX8_vertexAt_8 : decode cX8_vertexAt 8 = .ok (.imul, 1) := by decide +kernel
theorem dX8_vertexAt_9 : decode cX8_vertexAt 9 = .ok (.iadd, 1) := by decide +kernel
theorem dX8_vertexAt_10 : decode cX8_vertexAt 10 = .ok (.iload_n 2, 1) := by decide +kernel
theorem dX8_vertexAt_11 : decode cX8_vertexAt 11 = .ok (.iadd, 1) := by decide +kernel
theorem dX8_vertexAt_12 : decode cX8_vertexAt 12 = .ok (.iaload, 1) := by decide +kernel
theorem dX8_vertexAt_13 : decode cX8_vertexAt 13 = .ok (.ireturn, 1) := by decide +kernel
theorem dX8_isKind_0 : decode cX8_isKind 0 = .ok (.iload_n 0, 1) := by decide +kernel
theorem dX8_isKind_1 : decode cX8_isKind 1 = .ok (.i2l, 1) := by decide +kernel
theorem dX8_isKind_2 : decode cX8_isKind 2 = .ok (.lconst 0, 1) := by decide +kernel
theorem dX8_isKind_3 : decode cX8_isKind 3 = .ok (.ldc2_w 88, 3) := by decide +kernel
theorem dX8_isKind_6 : decode cX8_isKind 6 = .ok (.invokestatic 13, 3) := by decide +kernel
theorem dX8_isKind_9 : decode cX8_isKind 9 = .ok (.ireturn, 1) := by decide +kernel
theorem dX8_isNeutral_0 : decode cX8_isNeutral 0 = .ok (.iload_n 1, 1) := by decide +kernel
theorem dX8_isNeutral_1 : decode cX8_isNeutral 1 = .ok (.invokestatic 90, 3) := by decide +kernel
theorem dX8_isNeutral_4 : decode cX8_isNeutral 4 = .ok (.ifCond .eq 17, 3) := by decide +kernel
theorem dX8_isNeutral_7 : decode cX8_isNeutral 7 = .ok (.aload_n 0, 1) := by decide +kernel
theorem dX8_isNeutral_8 : decode cX8_isNeutral 8 = .ok (.getfield 27, 3) := by decide +kernel
theorem dX8_isNeutral_11 : decode cX8_isNeutral 11 = .ok (.iload_n 1, 1) := by decide +kernel
theorem dX8_isNeutral_12 : decode cX8_isNeutral 12 = .ok (.iaload, 1) := by decide +kernel
theorem dX8_isNeutral_13 : decode cX8_isNeutral 13 = .ok (.iconst 1, 1) := by decide +kernel
theorem dX8_isNeutral_14 : decode cX8_isNeutral 14 = .ok (.if_icmp .ne 7, 3) := by decide +kernel
theorem dX8_isNeutral_17 : decode cX8_isNeutral 17 = .ok (.iconst 1, 1) := by decide +kernel
theorem dX8_isNeutral_18 : decode cX8_isNeutral 18 = .ok (.goto 4, 3) := by decide +kernel
theorem dX8_isNeutral_21 : decode cX8_isNeutral 21 = .ok (.iconst 0, 1) := by decide +kernel
theorem dX8_isNeutral_22 : decode cX8_isNeutral 22 = .ok (.ireturn, 1) := by decide +kernel
theorem dX8_numbers_0 : decode cX8_numbers 0 = .ok (.iload_n 1, 1) := by decide +kernel
theorem dX8_numbers_1 : decode cX8_numbers 1 = .ok (.invokestatic 90, 3) := by decide +kernel
theorem dX8_numbers_4 : decode cX8_numbers 4 = .ok (.ifCond .ne 5, 3) := by decide +kernel
theorem dX8_numbers_7 : decode cX8_numbers 7 = .ok (.iconst (-1), 1) := by decide +kernel
theorem dX8_numbers_8 : decode cX8_numbers 8 = .ok (.ireturn, 1) := by decide +kernel
theorem dX8_numbers_9 : decode cX8_numbers 9 = .ok (.iload_n 2, 1) := by decide +kernel
theorem dX8_numbers_10 : decode cX8_numbers 10 = .ok (.tableswitch 69 0 4 #[34, 41, 48, 55, 62], 34) := by decide +kernel
theorem dX8_numbers_44 : decode cX8_numbers 44 = .ok (.aload_n 0, 1) := by decide +kernel
theorem dX8_numbers_45 : decode cX8_numbers 45 = .ok (.getfield 27, 3) := by decide +kernel
theorem dX8_numbers_48 : decode cX8_numbers 48 = .ok (.iload_n 1, 1) := by decide +kernel
theorem dX8_numbers_49 : decode cX8_numbers 49 = .ok (.iaload, 1) := by decide +kernel
theorem dX8_numbers_50 : decode cX8_numbers 50 = .ok (.ireturn, 1) := by decide +kernel
theorem dX8_numbers_51 : decode cX8_numbers 51 = .ok (.aload_n 0, 1) := by decide +kernel
theorem dX8_numbers_52 : decode cX8_numbers 52 = .ok (.getfield 30, 3) := by decide +kernel
theorem dX8_numbers_55 : decode cX8_numbers 55 = .ok (.iload_n 1, 1) := by decide +kernel
theorem dX8_numbers_56 : decode cX8_numbers 56 = .ok (.iaload, 1) := by decide +kernel
theorem dX8_numbers_57 : decode cX8_numbers 57 = .ok (.ireturn, 1) := by decide +kernel
theorem dX8_numbers_58 : decode cX8_numbers 58 = .ok (.aload_n 0, 1) := by decide +kernel
theorem dX8_numbers_59 : decode cX8_numbers 59 = .ok (.getfield 33, 3) := by decide +kernel
theorem dX8_numbers_62 : decode cX8_numbers 62 = .ok (.iload_n 1, 1) := by decide +kernel
theorem dX8_numbers_63 : decode cX8_numbers 63 = .ok (.iaload, 1) := by decide +kernel
theorem dX8_numbers_64 : decode cX8_numbers 64 = .ok (.ireturn, 1) := by decide +kernel
theorem dX8_numbers_65 : decode cX8_numbers 65 = .ok (.aload_n 0, 1) := by decide +kernel
theorem dX8_numbers_66 : decode cX8_numbers 66 = .ok (.getfield 36, 3) := by decide +kernel
theorem dX8_numbers_69 : decode cX8_numbers 69 = .ok (.iload_n 1, 1) := by decide +kernel
theorem dX8_numbers_70 : decode cX8_numbers 70 = .ok (.iaload, 1) := by decide +kernel
theorem dX8_numbers_71 : decode cX8_numbers 71 = .ok (.ireturn, 1) := by decide +kernel
theorem dX8_numbers_72 : decode cX8_numbers 72 = .ok (.aload_n 0, 1) := by decide +kernel
theorem dX8_numbers_73 : decode cX8_numbers 73 = .ok (.getfield 39, 3) := by decide +kernel
theorem dX8_numbers_76 : decode cX8_numbers 76 = .ok (.iload_n 1, 1) := by decide +kernel
theorem dX8_numbers_77 : decode cX8_numbers 77 = .ok (.iaload, 1) := by decide +kernel
theorem dX8_numbers_78 : decode cX8_numbers 78 = .ok (.ireturn, 1) := by decide +kernel
theorem dX8_numbers_79 : decode cX8_numbers 79 = .ok (.iconst (-1), 1) := by decide +kernel
theorem dX8_numbers_80 : decode cX8_numbers 80 = .ok (.ireturn, 1) := by decide +kernel
theorem dX8_copies_0 : decode cX8_copies 0 = .ok (.iconst 0, 1) := by decide +kernel
theorem dX8_copies_1 : decode cX8_copies 1 = .ok (.istore 4, 2) := by decide +kernel
theorem dX8_copies_3 : decode cX8_copies 3 = .ok (.iload 4, 2) := by decide +kernel
theorem dX8_copies_5 : decode cX8_copies 5 = .ok (.bipush 80, 2) := by decide +kernel
theorem dX8_copies_7 : decode cX8_copies 7 = .ok (.if_icmp .ge 21, 3) := by decide +kernel
theorem dX8_copies_10 : decode cX8_copies 10 = .ok (.aload_n 2, 1) := by decide +kernel
theorem dX8_copies_11 : decode cX8_copies 11 = .ok (.iload_n 3, 1) := by decide +kernel
theorem dX8_copies_12 : decode cX8_copies 12 = .ok (.iload 4, 2) := by decide +kernel
theorem dX8_copies_14 : decode cX8_copies 14 = .ok (.iadd, 1) := by decide +kernel
theorem dX8_copies_15 : decode cX8_copies 15 = .ok (.aload_n 0, 1) := by decide +kernel
theorem dX8_copies_16 : decode cX8_copies 16 = .ok (.iload_n 1, 1) := by decide +kernel
theorem dX8_copies_17 : decode cX8_copies 17 = .ok (.iload 4, 2) := by decide +kernel
theorem dX8_copies_19 : decode cX8_copies 19 = .ok (.iadd, 1) := by decide +kernel
theorem dX8_copies_20 : decode cX8_copies 20 = .ok (.iaload, 1) := by decide +kernel
theorem dX8_copies_21 : decode cX8_copies 21 = .ok (.iastore, 1) := by decide +kernel
theorem dX8_copies_22 : decode cX8_copies 22 = .ok (.iinc 4 1, 3) := by decide +kernel
theorem dX8_copies_25 : decode cX8_copies 25 = .ok (.goto (-22), 3) := by decide +kernel
theorem dX8_copies_28 : decode cX8_copies 28 = .ok (.return_, 1) := by decide +kernel
theorem dX8_keeps_0 : decode cX8_keeps 0 = .ok (.aload_n 0, 1) := by decide +kernel
theorem dX8_keeps_1 : decode cX8_keeps 1 = .ok (.getfield 94, 3) := by decide +kernel
theorem dX8_keeps_4 : decode cX8_keeps 4 = .ok (.bipush 8, 2) := by decide +kernel
theorem dX8_keeps_6 : decode cX8_keeps 6 = .ok (.if_icmp .ne 48, 3) := by decide +kernel
theorem dX8_keeps_9 : decode cX8_keeps 9 = .ok (.iconst 1, 1) := by decide +kernel
theorem dX8_keeps_10 : decode cX8_keeps 10 = .ok (.istore_n 1, 1) := by decide +kernel
theorem dX8_keeps_11 : decode cX8_keeps 11 = .ok (.iload_n 1, 1) := by decide +kernel
theorem dX8_keeps_12 : decode cX8_keeps 12 = .ok (.bipush 8, 2) := by decide +kernel
theorem dX8_keeps_14 : decode cX8_keeps 14 = .ok (.if_icmp .ge 30, 3) := by decide +kernel
theorem dX8_keeps_17 : decode cX8_keeps 17 = .ok (.aload_n 0, 1) := by decide +kernel
theorem dX8_keeps_18 : decode cX8_keeps 18 = .ok (.getfield 45, 3) := by decide +kernel
theorem dX8_keeps_21 : decode cX8_keeps 21 = .ok (.bipush 80, 2) := by decide +kernel
theorem dX8_keeps_23 : decode cX8_keeps 23 = .ok (.iload_n 1, 1) := by decide +kernel
theorem dX8_keeps_24 : decode cX8_keeps 24 = .ok (.imul, 1) := by decide +kernel
theorem dX8_keeps_25 : decode cX8_keeps 25 = .ok (.aload_n 0, 1) := by decide +kernel
theorem dX8_keeps_26 : decode cX8_keeps 26 = .ok (.getfield 45, 3) := by decide +kernel
theorem dX8_keeps_29 : decode cX8_keeps 29 = .ok (.bipush 80, 2) := by decide +kernel
theorem dX8_keeps_31 : decode cX8_keeps 31 = .ok (.iload_n 1, 1) := by decide +kernel
theorem dX8_keeps_32 : decode cX8_keeps 32 = .ok (.iconst 1, 1) := by decide +kernel
theorem dX8_keeps_33 : decode cX8_keeps 33 = .ok (.isub, 1) := by decide +kernel
theorem dX8_keeps_34 : decode cX8_keeps 34 = .ok (.imul, 1) := by decide +kernel
theorem dX8_keeps_35 : decode cX8_keeps 35 = .ok (.invokestatic 97, 3) := by decide +kernel
theorem dX8_keeps_38 : decode cX8_keeps 38 = .ok (.iinc 1 1, 3) := by decide +kernel
theorem dX8_keeps_41 : decode cX8_keeps 41 = .ok (.goto (-30), 3) := by decide +kernel
theorem dX8_keeps_44 : decode cX8_keeps 44 = .ok (.aload_n 0, 1) := by decide +kernel
theorem dX8_keeps_45 : decode cX8_keeps 45 = .ok (.dup, 1) := by decide +kernel
theorem dX8_keeps_46 : decode cX8_keeps 46 = .ok (.getfield 94, 3) := by decide +kernel
theorem dX8_keeps_49 : decode cX8_keeps 49 = .ok (.iconst 1, 1) := by decide +kernel
theorem dX8_keeps_50 : decode cX8_keeps 50 = .ok (.isub, 1) := by decide +kernel
theorem dX8_keeps_51 : decode cX8_keeps 51 = .ok (.putfield 94, 3) := by decide +kernel
theorem dX8_keeps_54 : decode cX8_keeps 54 = .ok (.aload_n 0, 1) := by decide +kernel
theorem dX8_keeps_55 : decode cX8_keeps 55 = .ok (.getfield 23, 3) := by decide +kernel
theorem dX8_keeps_58 : decode cX8_keeps 58 = .ok (.iconst 0, 1) := by decide +kernel
theorem dX8_keeps_59 : decode cX8_keeps 59 = .ok (.aload_n 0, 1) := by decide +kernel
theorem dX8_keeps_60 : decode cX8_keeps 60 = .ok (.getfield 45, 3) := by decide +kernel
theorem dX8_keeps_63 : decode cX8_keeps 63 = .ok (.bipush 80, 2) := by decide +kernel
theorem dX8_keeps_65 : decode cX8_keeps 65 = .ok (.aload_n 0, 1) := by decide +kernel
theorem dX8_keeps_66 : decode cX8_keeps 66 = .ok (.getfield 94, 3) := by decide +kernel
theorem dX8_keeps_69 : decode cX8_keeps 69 = .ok (.imul, 1) := by decide +kernel
theorem dX8_keeps_70 : decode cX8_keeps 70 = .ok (.invokestatic 97, 3) := by decide +kernel
theorem dX8_keeps_73 : decode cX8_keeps 73 = .ok (.aload_n 0, 1) := by decide +kernel
theorem dX8_keeps_74 : decode cX8_keeps 74 = .ok (.dup, 1) := by decide +kernel
theorem dX8_keeps_75 : decode cX8_keeps 75 = .ok (.getfield 94, 3) := by decide +kernel
theorem dX8_keeps_78 : decode cX8_keeps 78 = .ok (.iconst 1, 1) := by decide +kernel
theorem dX8_keeps_79 : decode cX8_keeps 79 = .ok (.iadd, 1) := by decide +kernel
theorem dX8_keeps_80 : decode cX8_keeps 80 = .ok (.putfield 94, 3) := by decide +kernel
theorem dX8_keeps_83 : decode cX8_keeps 83 = .ok (.return_, 1) := by decide +kernel
theorem dX8_undo_0 : decode cX8_undo 0 = .ok (.aload_n 0, 1) := by decide +kernel
theorem dX8_undo_1 : decode cX8_undo 1 = .ok (.getfield 94, 3) := by decide +kernel
theorem dX8_undo_4 : decode cX8_undo 4 = .ok (.ifCond .ne 6, 3) := by decide +kernel
theorem dX8_undo_7 : decode cX8_undo 7 = .ok (.bipush (-2), 2) := by decide +kernel
theorem dX8_undo_9 : decode cX8_undo 9 = .ok (.ireturn, 1) := by decide +kernel
theorem dX8_undo_10 : decode cX8_undo 10 = .ok (.aload_n 0, 1) := by decide +kernel
theorem dX8_undo_11 : decode cX8_undo 11 = .ok (.dup, 1) := by decide +kernel
theorem dX8_undo_12 : decode cX8_undo 12 = .ok (.getfield 94, 3) := by decide +kernel
theorem dX8_undo_15 : decode cX8_undo 15 = .ok (.iconst 1, 1) := by decide +kernel
theorem dX8_undo_16 : decode cX8_undo 16 = .ok (.isub, 1) := by decide +kernel
theorem dX8_undo_17 : decode cX8_undo 17 = .ok (.putfield 94, 3) := by decide +kernel
theorem dX8_undo_20 : decode cX8_undo 20 = .ok (.aload_n 0, 1) := by decide +kernel
theorem dX8_undo_21 : decode cX8_undo 21 = .ok (.getfield 45, 3) := by decide +kernel
theorem dX8_undo_24 : decode cX8_undo 24 = .ok (.bipush 80, 2) := by decide +kernel
theorem dX8_undo_26 : decode cX8_undo 26 = .ok (.aload_n 0, 1) := by decide +kernel
theorem dX8_undo_27 : decode cX8_undo 27 = .ok (.getfield 94, 3) := by decide +kernel
theorem dX8_undo_30 : decode cX8_undo 30 = .ok (.imul, 1) := by decide +kernel
theorem dX8_undo_31 : decode cX8_undo 31 = .ok (.aload_n 0, 1) := by decide +kernel
theorem dX8_undo_32 : decode cX8_undo 32 = .ok (.getfield 23, 3) := by decide +kernel
theorem dX8_undo_35 : decode cX8_undo 35 = .ok (.iconst 0, 1) := by decide +kernel
theorem dX8_undo_36 : decode cX8_undo 36 = .ok (.invokestatic 97, 3) := by decide +kernel
theorem dX8_undo_39 : decode cX8_undo 39 = .ok (.aload_n 0, 1) := by decide +kernel
theorem dX8_undo_40 : decode cX8_undo 40 = .ok (.getfield 94, 3) := by decide +kernel
theorem dX8_undo_43 : decode cX8_undo 43 = .ok (.ireturn, 1) := by decide +kernel
theorem dX8_bendOf_0 : decode cX8_bendOf 0 = .ok (.aload_n 0, 1) := by decide +kernel
theorem dX8_bendOf_1 : decode cX8_bendOf 1 = .ok (.iload_n 1, 1) := by decide +kernel
theorem dX8_bendOf_2 : decode cX8_bendOf 2 = .ok (.iconst 2, 1) := by decide +kernel
theorem dX8_bendOf_3 : decode cX8_bendOf 3 = .ok (.invokevirtual 101, 3) := by decide +kernel
theorem dX8_bendOf_6 : decode cX8_bendOf 6 = .ok (.aload_n 0, 1) := by decide +kernel
theorem dX8_bendOf_7 : decode cX8_bendOf 7 = .ok (.iload_n 1, 1) := by decide +kernel
theorem dX8_bendOf_8 : decode cX8_bendOf 8 = .ok (.iconst 0, 1) := by decide +kernel
theorem dX8_bendOf_9 : decode cX8_bendOf 9 = .ok (.invokevirtual 101, 3) := by decide +kernel
theorem dX8_bendOf_12 : decode cX8_bendOf 12 = .ok (.isub, 1) := by decide +kernel
theorem dX8_bendOf_13 : decode cX8_bendOf 13 = .ok (.i2l, 1) := by decide +kernel
theorem dX8_bendOf_14 : decode cX8_bendOf 14 = .ok (.lstore_n 2, 1) := by decide +kernel
theorem dX8_bendOf_15 : decode cX8_bendOf 15 = .ok (.aload_n 0, 1) := by decide +kernel
theorem dX8_bendOf_16 : decode cX8_bendOf 16 = .ok (.iload_n 1, 1) := by decide +kernel
theorem dX8_bendOf_17 : decode cX8_bendOf 17 = .ok (.iconst 3, 1) := by decide +kernel
theorem dX8_bendOf_18 : decode cX8_bendOf 18 = .ok (.invokevirtual 101, 3) := by decide +kernel
theorem dX8_bendOf_21 : decode cX8_bendOf 21 = .ok (.aload_n 0, 1) := by decide +kernel
theorem dX8_bendOf_22 : decode cX8_bendOf 22 = .ok (.iload_n 1, 1) := by decide +kernel
theorem dX8_bendOf_23 : decode cX8_bendOf 23 = .ok (.iconst 1, 1) := by decide +kernel
theorem dX8_bendOf_24 : decode cX8_bendOf 24 = .ok (.invokevirtual 101, 3) := by decide +kernel
theorem dX8_bendOf_27 : decode cX8_bendOf 27 = .ok (.isub, 1) := by decide +kernel
theorem dX8_bendOf_28 : decode cX8_bendOf 28 = .ok (.i2l, 1) := by decide +kernel
theorem dX8_bendOf_29 : decode cX8_bendOf 29 = .ok (.lstore 4, 2) := by decide +kernel
theorem dX8_bendOf_31 : decode cX8_bendOf 31 = .ok (.aload_n 0, 1) := by decide +kernel
theorem dX8_bendOf_32 : decode cX8_bendOf 32 = .ok (.iload_n 1, 1) := by decide +kernel
theorem dX8_bendOf_33 : decode cX8_bendOf 33 = .ok (.iconst 4, 1) := by decide +kernel
theorem dX8_bendOf_34 : decode cX8_bendOf 34 = .ok (.invokevirtual 101, 3) := by decide +kernel
theorem dX8_bendOf_37 : decode cX8_bendOf 37 = .ok (.aload_n 0, 1) := by decide +kernel
theorem dX8_bendOf_38 : decode cX8_bendOf 38 = .ok (.iload_n 1, 1) := by decide +kernel
theorem dX8_bendOf_39 : decode cX8_bendOf 39 = .ok (.iconst 0, 1) := by decide +kernel
theorem dX8_bendOf_40 : decode cX8_bendOf 40 = .ok (.invokevirtual 101, 3) := by decide +kernel
theorem dX8_bendOf_43 : decode cX8_bendOf 43 = .ok (.isub, 1) := by decide +kernel
theorem dX8_bendOf_44 : decode cX8_bendOf 44 = .ok (.i2l, 1) := by decide +kernel
theorem dX8_bendOf_45 : decode cX8_bendOf 45 = .ok (.lstore 6, 2) := by decide +kernel
theorem dX8_bendOf_47 : decode cX8_bendOf 47 = .ok (.aload_n 0, 1) := by decide +kernel
theorem dX8_bendOf_48 : decode cX8_bendOf 48 = .ok (.iload_n 1, 1) := by decide +kernel
theorem dX8_bendOf_49 : decode cX8_bendOf 49 = .ok (.iconst 5, 1) := by decide +kernel
theorem dX8_bendOf_50 : decode cX8_bendOf 50 = .ok (.invokevirtual 101, 3) := by decide +kernel
theorem dX8_bendOf_53 : decode cX8_bendOf 53 = .ok (.aload_n 0, 1) := by decide +kernel
theorem dX8_bendOf_54 : decode cX8_bendOf 54 = .ok (.iload_n 1, 1) := by decide +kernel
theorem dX8_bendOf_55 : decode cX8_bendOf 55 = .ok (.iconst 1, 1) := by decide +kernel
theorem dX8_bendOf_56 : decode cX8_bendOf 56 = .ok (.invokevirtual 101, 3) := by decide +kernel
theorem dX8_bendOf_59 : decode cX8_bendOf 59 = .ok (.isub, 1) := by decide +kernel
theorem dX8_bendOf_60 : decode cX8_bendOf 60 = .ok (.i2l, 1) := by decide +kernel
theorem dX8_bendOf_61 : decode cX8_bendOf 61 = .ok (.lstore 8, 2) := by decide +kernel
theorem dX8_bendOf_63 : decode cX8_bendOf 63 = .ok (.lload_n 2, 1) := by decide +kernel
theorem dX8_bendOf_64 : decode cX8_bendOf 64 = .ok (.lload 8, 2) := by decide +kernel
theorem dX8_bendOf_66 : decode cX8_bendOf 66 = .ok (.lmul, 1) := by decide +kernel
theorem dX8_bendOf_67 : decode cX8_bendOf 67 = .ok (.lload 4, 2) := by decide +kernel
theorem dX8_bendOf_69 : decode cX8_bendOf 69 = .ok (.lload 6, 2) := by decide +kernel
theorem dX8_bendOf_71 : decode cX8_bendOf 71 = .ok (.lmul, 1) := by decide +kernel
theorem dX8_bendOf_72 : decode cX8_bendOf 72 = .ok (.lsub, 1) := by decide +kernel
theorem dX8_bendOf_73 : decode cX8_bendOf 73 = .ok (.lreturn, 1) := by decide +kernel
theorem dX8_turnOf_0 : decode cX8_turnOf 0 = .ok (.aload_n 0, 1) := by decide +kernel
theorem dX8_turnOf_1 : decode cX8_turnOf 1 = .ok (.iload_n 1, 1) := by decide +kernel
theorem dX8_turnOf_2 : decode cX8_turnOf 2 = .ok (.invokevirtual 105, 3) := by decide +kernel
theorem dX8_turnOf_5 : decode cX8_turnOf 5 = .ok (.lstore_n 2, 1) := by decide +kernel
theorem dX8_turnOf_6 : decode cX8_turnOf 6 = .ok (.lload_n 2, 1) := by decide +kernel
theorem dX8_turnOf_7 : decode cX8_turnOf 7 = .ok (.lconst 0, 1) := by decide +kernel
theorem dX8_turnOf_8 : decode cX8_turnOf 8 = .ok (.lcmp, 1) := by decide +kernel
theorem dX8_turnOf_9 : decode cX8_turnOf 9 = .ok (.ifCond .le 7, 3) := by decide +kernel
theorem dX8_turnOf_12 : decode cX8_turnOf 12 = .ok (.iconst 1, 1) := by decide +kernel
theorem dX8_turnOf_13 : decode cX8_turnOf 13 = .ok (.goto 14, 3) := by decide +kernel
theorem dX8_turnOf_16 : decode cX8_turnOf 16 = .ok (.lload_n 2, 1) := by decide +kernel
theorem dX8_turnOf_17 : decode cX8_turnOf 17 = .ok (.lconst 0, 1) := by decide +kernel
theorem dX8_turnOf_18 : decode cX8_turnOf 18 = .ok (.lcmp, 1) := by decide +kernel
theorem dX8_turnOf_19 : decode cX8_turnOf 19 = .ok (.ifCond .ge 7, 3) := by decide +kernel
theorem dX8_turnOf_22 : decode cX8_turnOf 22 = .ok (.iconst (-1), 1) := by decide +kernel
theorem dX8_turnOf_23 : decode cX8_turnOf 23 = .ok (.goto 4, 3) := by decide +kernel
theorem dX8_turnOf_26 : decode cX8_turnOf 26 = .ok (.iconst 0, 1) := by decide +kernel
theorem dX8_turnOf_27 : decode cX8_turnOf 27 = .ok (.ireturn, 1) := by decide +kernel
theorem dX8_tellsMiddle_0 : decode cX8_tellsMiddle 0 = .ok (.aload_n 0, 1) := by decide +kernel
theorem dX8_tellsMiddle_1 : decode cX8_tellsMiddle 1 = .ok (.iload_n 1, 1) := by decide +kernel
theorem dX8_tellsMiddle_2 : decode cX8_tellsMiddle 2 = .ok (.iconst 2, 1) := by decide +kernel
theorem dX8_tellsMiddle_3 : decode cX8_tellsMiddle 3 = .ok (.invokevirtual 101, 3) := by decide +kernel
theorem dX8_tellsMiddle_6 : decode cX8_tellsMiddle 6 = .ok (.aload_n 0, 1) := by decide +kernel
theorem dX8_tellsMiddle_7 : decode cX8_tellsMiddle 7 = .ok (.iload_n 1, 1) := by decide +kernel
theorem dX8_tellsMiddle_8 : decode cX8_tellsMiddle 8 = .ok (.iconst 0, 1) := by decide +kernel
theorem dX8_tellsMiddle_9 : decode cX8_tellsMiddle 9 = .ok (.invokevirtual 101, 3) := by decide +kernel
theorem dX8_tellsMiddle_12 : decode cX8_tellsMiddle 12 = .ok (.isub, 1) := by decide +kernel
theorem dX8_tellsMiddle_13 : decode cX8_tellsMiddle 13 = .ok (.i2l, 1) := by decide +kernel
theorem dX8_tellsMiddle_14 : decode cX8_tellsMiddle 14 = .ok (.lstore_n 2, 1) := by decide +kernel
theorem dX8_tellsMiddle_15 : decode cX8_tellsMiddle 15 = .ok (.aload_n 0, 1) := by decide +kernel
theorem dX8_tellsMiddle_16 : decode cX8_tellsMiddle 16 = .ok (.iload_n 1, 1) := by decide +kernel
theorem dX8_tellsMiddle_17 : decode cX8_tellsMiddle 17 = .ok (.iconst 3, 1) := by decide +kernel
theorem dX8_tellsMiddle_18 : decode cX8_tellsMiddle 18 = .ok (.invokevirtual 101, 3) := by decide +kernel
theorem dX8_tellsMiddle_21 : decode cX8_tellsMiddle 21 = .ok (.aload_n 0, 1) := by decide +kernel
theorem dX8_tellsMiddle_22 : decode cX8_tellsMiddle 22 = .ok (.iload_n 1, 1) := by decide +kernel
theorem dX8_tellsMiddle_23 : decode cX8_tellsMiddle 23 = .ok (.iconst 1, 1) := by decide +kernel
theorem dX8_tellsMiddle_24 : decode cX8_tellsMiddle 24 = .ok (.invokevirtual 101, 3) := by decide +kernel
theorem dX8_tellsMiddle_27 : decode cX8_tellsMiddle 27 = .ok (.isub, 1) := by decide +kernel
theorem dX8_tellsMiddle_28 : decode cX8_tellsMiddle 28 = .ok (.i2l, 1) := by decide +kernel
theorem dX8_tellsMiddle_29 : decode cX8_tellsMiddle 29 = .ok (.lstore 4, 2) := by decide +kernel
theorem dX8_tellsMiddle_31 : decode cX8_tellsMiddle 31 = .ok (.aload_n 0, 1) := by decide +kernel
theorem dX8_tellsMiddle_32 : decode cX8_tellsMiddle 32 = .ok (.iload_n 1, 1) := by decide +kernel
theorem dX8_tellsMiddle_33 : decode cX8_tellsMiddle 33 = .ok (.iconst 4, 1) := by decide +kernel
theorem dX8_tellsMiddle_34 : decode cX8_tellsMiddle 34 = .ok (.invokevirtual 101, 3) := by decide +kernel
theorem dX8_tellsMiddle_37 : decode cX8_tellsMiddle 37 = .ok (.aload_n 0, 1) := by decide +kernel
theorem dX8_tellsMiddle_38 : decode cX8_tellsMiddle 38 = .ok (.iload_n 1, 1) := by decide +kernel
theorem dX8_tellsMiddle_39 : decode cX8_tellsMiddle 39 = .ok (.iconst 0, 1) := by decide +kernel
theorem dX8_tellsMiddle_40 : decode cX8_tellsMiddle 40 = .ok (.invokevirtual 101, 3) := by decide +kernel
theorem dX8_tellsMiddle_43 : decode cX8_tellsMiddle 43 = .ok (.isub, 1) := by decide +kernel
theorem dX8_tellsMiddle_44 : decode cX8_tellsMiddle 44 = .ok (.i2l, 1) := by decide +kernel
theorem dX8_tellsMiddle_45 : decode cX8_tellsMiddle 45 = .ok (.lstore 6, 2) := by decide +kernel
theorem dX8_tellsMiddle_47 : decode cX8_tellsMiddle 47 = .ok (.aload_n 0, 1) := by decide +kernel
theorem dX8_tellsMiddle_48 : decode cX8_tellsMiddle 48 = .ok (.iload_n 1, 1) := by decide +kernel
theorem dX8_tellsMiddle_49 : decode cX8_tellsMiddle 49 = .ok (.iconst 5, 1) := by decide +kernel
theorem dX8_tellsMiddle_50 : decode cX8_tellsMiddle 50 = .ok (.invokevirtual 101, 3) := by decide +kernel
theorem dX8_tellsMiddle_53 : decode cX8_tellsMiddle 53 = .ok (.aload_n 0, 1) := by decide +kernel
theorem dX8_tellsMiddle_54 : decode cX8_tellsMiddle 54 = .ok (.iload_n 1, 1) := by decide +kernel
theorem dX8_tellsMiddle_55 : decode cX8_tellsMiddle 55 = .ok (.iconst 1, 1) := by decide +kernel
theorem dX8_tellsMiddle_56 : decode cX8_tellsMiddle 56 = .ok (.invokevirtual 101, 3) := by decide +kernel
theorem dX8_tellsMiddle_59 : decode cX8_tellsMiddle 59 = .ok (.isub, 1) := by decide +kernel
theorem dX8_tellsMiddle_60 : decode cX8_tellsMiddle 60 = .ok (.i2l, 1) := by decide +kernel
theorem dX8_tellsMiddle_61 : decode cX8_tellsMiddle 61 = .ok (.lstore 8, 2) := by decide +kernel
theorem dX8_tellsMiddle_63 : decode cX8_tellsMiddle 63 = .ok (.lload_n 2, 1) := by decide +kernel
theorem dX8_tellsMiddle_64 : decode cX8_tellsMiddle 64 = .ok (.lload_n 2, 1) := by decide +kernel
theorem dX8_tellsMiddle_65 : decode cX8_tellsMiddle 65 = .ok (.lmul, 1) := by decide +kernel
theorem dX8_tellsMiddle_66 : decode cX8_tellsMiddle 66 = .ok (.lload 4, 2) := by decide +kernel
theorem dX8_tellsMiddle_68 : decode cX8_tellsMiddle 68 = .ok (.lload 4, 2) := by decide +kernel
theorem dX8_tellsMiddle_70 : decode cX8_tellsMiddle 70 = .ok (.lmul, 1) := by decide +kernel
theorem dX8_tellsMiddle_71 : decode cX8_tellsMiddle 71 = .ok (.ladd, 1) := by decide +kernel
theorem dX8_tellsMiddle_72 : decode cX8_tellsMiddle 72 = .ok (.lstore 10, 2) := by decide +kernel
theorem dX8_tellsMiddle_74 : decode cX8_tellsMiddle 74 = .ok (.lload 6, 2) := by decide +kernel
theorem dX8_tellsMiddle_76 : decode cX8_tellsMiddle 76 = .ok (.lload 6, 2) := by decide +kernel
theorem dX8_tellsMiddle_78 : decode cX8_tellsMiddle 78 = .ok (.lmul, 1) := by decide +kernel
theorem dX8_tellsMiddle_79 : decode cX8_tellsMiddle 79 = .ok (.lload 8, 2) := by decide +kernel
theorem dX8_tellsMiddle_81 : decode cX8_tellsMiddle 81 = .ok (.lload 8, 2) := by decide +kernel
theorem dX8_tellsMiddle_83 : decode cX8_tellsMiddle 83 = .ok (.lmul, 1) := by decide +kernel
theorem dX8_tellsMiddle_84 : decode cX8_tellsMiddle 84 = .ok (.ladd, 1) := by decide +kernel
theorem dX8_tellsMiddle_85 : decode cX8_tellsMiddle 85 = .ok (.lstore 12, 2) := by decide +kernel
theorem dX8_tellsMiddle_87 : decode cX8_tellsMiddle 87 = .ok (.aload_n 0, 1) := by decide +kernel
theorem dX8_tellsMiddle_88 : decode cX8_tellsMiddle 88 = .ok (.iload_n 1, 1) := by decide +kernel
theorem dX8_tellsMiddle_89 : decode cX8_tellsMiddle 89 = .ok (.invokevirtual 109, 3) := by decide +kernel
theorem dX8_tellsMiddle_92 : decode cX8_tellsMiddle 92 = .ok (.i2l, 1) := by decide +kernel
theorem dX8_tellsMiddle_93 : decode cX8_tellsMiddle 93 = .ok (.lstore 14, 2) := by decide +kernel
theorem dX8_tellsMiddle_95 : decode cX8_tellsMiddle 95 = .ok (.aload_n 0, 1) := by decide +kernel
theorem dX8_tellsMiddle_96 : decode cX8_tellsMiddle 96 = .ok (.lload 14, 2) := by decide +kernel
theorem dX8_tellsMiddle_98 : decode cX8_tellsMiddle 98 = .ok (.ldc2_w 113, 3) := by decide +kernel
theorem dX8_tellsMiddle_101 : decode cX8_tellsMiddle 101 = .ok (.lmul, 1) := by decide +kernel
theorem dX8_tellsMiddle_102 : decode cX8_tellsMiddle 102 = .ok (.aload_n 0, 1) := by decide +kernel
theorem dX8_tellsMiddle_103 : decode cX8_tellsMiddle 103 = .ok (.iload_n 1, 1) := by decide +kernel
theorem dX8_tellsMiddle_104 : decode cX8_tellsMiddle 104 = .ok (.invokevirtual 105, 3) := by decide +kernel
theorem dX8_tellsMiddle_107 : decode cX8_tellsMiddle 107 = .ok (.lmul, 1) := by decide +kernel
theorem dX8_tellsMiddle_108 : decode cX8_tellsMiddle 108 = .ok (.putfield 115, 3) := by decide +kernel
theorem dX8_tellsMiddle_111 : decode cX8_tellsMiddle 111 = .ok (.aload_n 0, 1) := by decide +kernel
theorem dX8_tellsMiddle_112 : decode cX8_tellsMiddle 112 = .ok (.lload 14, 2) := by decide +kernel
theorem dX8_tellsMiddle_114 : decode cX8_tellsMiddle 114 = .ok (.lload 8, 2) := by decide +kernel
theorem dX8_tellsMiddle_116 : decode cX8_tellsMiddle 116 = .ok (.lload 10, 2) := by decide +kernel
theorem dX8_tellsMiddle_118 : decode cX8_tellsMiddle 118 = .ok (.lmul, 1) := by decide +kernel
theorem dX8_tellsMiddle_119 : decode cX8_tellsMiddle 119 = .ok (.lload 4, 2) := by decide +kernel
theorem dX8_tellsMiddle_121 : decode cX8_tellsMiddle 121 = .ok (.lload 12, 2) := by decide +kernel
theorem dX8_tellsMiddle_123 : decode cX8_tellsMiddle 123 = .ok (.lmul, 1) := by decide +kernel
theorem dX8_tellsMiddle_124 : decode cX8_tellsMiddle 124 = .ok (.lsub, 1) := by decide +kernel
theorem dX8_tellsMiddle_125 : decode cX8_tellsMiddle 125 = .ok (.lmul, 1) := by decide +kernel
theorem dX8_tellsMiddle_126 : decode cX8_tellsMiddle 126 = .ok (.putfield 119, 3) := by decide +kernel
theorem dX8_tellsMiddle_129 : decode cX8_tellsMiddle 129 = .ok (.aload_n 0, 1) := by decide +kernel
theorem dX8_tellsMiddle_130 : decode cX8_tellsMiddle 130 = .ok (.lload 14, 2) := by decide +kernel
theorem dX8_tellsMiddle_132 : decode cX8_tellsMiddle 132 = .ok (.lload_n 2, 1) := by decide +kernel
theorem dX8_tellsMiddle_133 : decode cX8_tellsMiddle 133 = .ok (.lload 12, 2) := by decide +kernel
theorem dX8_tellsMiddle_135 : decode cX8_tellsMiddle 135 = .ok (.lmul, 1) := by decide +kernel
theorem dX8_tellsMiddle_136 : decode cX8_tellsMiddle 136 = .ok (.lload 6, 2) := by decide +kernel
theorem dX8_tellsMiddle_138 : decode cX8_tellsMiddle 138 = .ok (.lload 10, 2) := by decide +kernel
theorem dX8_tellsMiddle_140 : decode cX8_tellsMiddle 140 = .ok (.lmul, 1) := by decide +kernel
theorem dX8_tellsMiddle_141 : decode cX8_tellsMiddle 141 = .ok (.lsub, 1) := by decide +kernel
theorem dX8_tellsMiddle_142 : decode cX8_tellsMiddle 142 = .ok (.lmul, 1) := by decide +kernel
theorem dX8_tellsMiddle_143 : decode cX8_tellsMiddle 143 = .ok (.putfield 122, 3) := by decide +kernel
theorem dX8_tellsMiddle_146 : decode cX8_tellsMiddle 146 = .ok (.return_, 1) := by decide +kernel
theorem dX8_isOn_0 : decode cX8_isOn 0 = .ok (.iload_n 2, 1) := by decide +kernel
theorem dX8_isOn_1 : decode cX8_isOn 1 = .ok (.aload_n 0, 1) := by decide +kernel
theorem dX8_isOn_2 : decode cX8_isOn 2 = .ok (.iload_n 1, 1) := by decide +kernel
theorem dX8_isOn_3 : decode cX8_isOn 3 = .ok (.iconst 0, 1) := by decide +kernel
theorem dX8_isOn_4 : decode cX8_isOn 4 = .ok (.invokevirtual 101, 3) := by decide +kernel
theorem dX8_isOn_7 : decode cX8_isOn 7 = .ok (.isub, 1) := by decide +kernel
theorem dX8_isOn_8 : decode cX8_isOn 8 = .ok (.i2l, 1) := by decide +kernel
theorem dX8_isOn_9 : decode cX8_isOn 9 = .ok (.lstore 4, 2) := by decide +kernel
theorem dX8_isOn_11 : decode cX8_isOn 11 = .ok (.iload_n 3, 1) := by decide +kernel
theorem dX8_isOn_12 : decode cX8_isOn 12 = .ok (.aload_n 0, 1) := by decide +kernel
theorem dX8_isOn_13 : decode cX8_isOn 13 = .ok (.iload_n 1, 1) := by decide +kernel
theorem dX8_isOn_14 : decode cX8_isOn 14 = .ok (.iconst 1, 1) := by decide +kernel
theorem dX8_isOn_15 : decode cX8_isOn 15 = .ok (.invokevirtual 101, 3) := by decide +kernel
theorem dX8_isOn_18 : decode cX8_isOn 18 = .ok (.isub, 1) := by decide +kernel
theorem dX8_isOn_19 : decode cX8_isOn 19 = .ok (.i2l, 1) := by decide +kernel
theorem dX8_isOn_20 : decode cX8_isOn 20 = .ok (.lstore 6, 2) := by decide +kernel
theorem dX8_isOn_22 : decode cX8_isOn 22 = .ok (.aload_n 0, 1) := by decide +kernel
theorem dX8_isOn_23 : decode cX8_isOn 23 = .ok (.iload_n 1, 1) := by decide +kernel
theorem dX8_isOn_24 : decode cX8_isOn 24 = .ok (.invokevirtual 109, 3) := by decide +kernel
theorem dX8_isOn_27 : decode cX8_isOn 27 = .ok (.ifCond .ne 47, 3) := by decide +kernel
theorem dX8_isOn_30 : decode cX8_isOn 30 = .ok (.aload_n 0, 1) := by decide +kernel
theorem dX8_isOn_31 : decode cX8_isOn 31 = .ok (.iload_n 1, 1) := by decide +kernel
theorem dX8_isOn_32 : decode cX8_isOn 32 = .ok (.iconst 2, 1) := by decide +kernel
theorem dX8_isOn_33 : decode cX8_isOn 33 = .ok (.invokevirtual 101, 3) := by decide +kernel
theorem dX8_isOn_36 : decode cX8_isOn 36 = .ok (.aload_n 0, 1) := by decide +kernel
theorem dX8_isOn_37 : decode cX8_isOn 37 = .ok (.iload_n 1, 1) := by decide +kernel
theorem dX8_isOn_38 : decode cX8_isOn 38 = .ok (.iconst 0, 1) := by decide +kernel
theorem dX8_isOn_39 : decode cX8_isOn 39 = .ok (.invokevirtual 101, 3) := by decide +kernel
theorem dX8_isOn_42 : decode cX8_isOn 42 = .ok (.isub, 1) := by decide +kernel
theorem dX8_isOn_43 : decode cX8_isOn 43 = .ok (.i2l, 1) := by decide +kernel
theorem dX8_isOn_44 : decode cX8_isOn 44 = .ok (.lload 6, 2) := by decide +kernel
theorem dX8_isOn_46 : decode cX8_isOn 46 = .ok (.lmul, 1) := by decide +kernel
theorem dX8_isOn_47 : decode cX8_isOn 47 = .ok (.aload_n 0, 1) := by decide +kernel
theorem dX8_isOn_48 : decode cX8_isOn 48 = .ok (.iload_n 1, 1) := by decide +kernel
theorem dX8_isOn_49 : decode cX8_isOn 49 = .ok (.iconst 3, 1) := by decide +kernel
theorem dX8_isOn_50 : decode cX8_isOn 50 = .ok (.invokevirtual 101, 3) := by decide +kernel
theorem dX8_isOn_53 : decode cX8_isOn 53 = .ok (.aload_n 0, 1) := by decide +kernel
theorem dX8_isOn_54 : decode cX8_isOn 54 = .ok (.iload_n 1, 1) := by decide +kernel
theorem dX8_isOn_55 : decode cX8_isOn 55 = .ok (.iconst 1, 1) := by decide +kernel
theorem dX8_isOn_56 : decode cX8_isOn 56 = .ok (.invokevirtual 101, 3) := by decide +kernel
theorem dX8_isOn_59 : decode cX8_isOn 59 = .ok (.isub, 1) := by decide +kernel
theorem dX8_isOn_60 : decode cX8_isOn 60 = .ok (.i2l, 1) := by decide +kernel
theorem dX8_isOn_61 : decode cX8_isOn 61 = .ok (.lload 4, 2) := by decide +kernel
theorem dX8_isOn_63 : decode cX8_isOn 63 = .ok (.lmul, 1) := by decide +kernel
theorem dX8_isOn_64 : decode cX8_isOn 64 = .ok (.lcmp, 1) := by decide +kernel
theorem dX8_isOn_65 : decode cX8_isOn 65 = .ok (.ifCond .ne 7, 3) := by decide +kernel
theorem dX8_isOn_68 : decode cX8_isOn 68 = .ok (.iconst 1, 1) := by decide +kernel
theorem dX8_isOn_69 : decode cX8_isOn 69 = .ok (.goto 4, 3) := by decide +kernel
theorem dX8_isOn_72 : decode cX8_isOn 72 = .ok (.iconst 0, 1) := by decide +kernel
theorem dX8_isOn_73 : decode cX8_isOn 73 = .ok (.ireturn, 1) := by decide +kernel
theorem dX8_isOn_74 : decode cX8_isOn 74 = .ok (.aload_n 0, 1) := by decide +kernel
theorem dX8_isOn_75 : decode cX8_isOn 75 = .ok (.iload_n 1, 1) := by decide +kernel
theorem dX8_isOn_76 : decode cX8_isOn 76 = .ok (.invokevirtual 125, 3) := by decide +kernel
theorem dX8_isOn_79 : decode cX8_isOn 79 = .ok (.aload_n 0, 1) := by decide +kernel
theorem dX8_isOn_80 : decode cX8_isOn 80 = .ok (.getfield 115, 3) := by decide +kernel
theorem dX8_isOn_83 : decode cX8_isOn 83 = .ok (.lload 4, 2) := by decide +kernel
theorem dX8_isOn_85 : decode cX8_isOn 85 = .ok (.lload 4, 2) := by decide +kernel
theorem dX8_isOn_87 : decode cX8_isOn 87 = .ok (.lmul, 1) := by decide +kernel
theorem dX8_isOn_88 : decode cX8_isOn 88 = .ok (.lload 6, 2) := by decide +kernel
theorem dX8_isOn_90 : decode cX8_isOn 90 = .ok (.lload 6, 2) := by decide +kernel
theorem dX8_isOn_92 : decode cX8_isOn 92 = .ok (.lmul, 1) := by decide +kernel
theorem dX8_isOn_93 : decode cX8_isOn 93 = .ok (.ladd, 1) := by decide +kernel
theorem dX8_isOn_94 : decode cX8_isOn 94 = .ok (.lmul, 1) := by decide +kernel
theorem dX8_isOn_95 : decode cX8_isOn 95 = .ok (.ldc2_w 113, 3) := by decide +kernel
theorem dX8_isOn_98 : decode cX8_isOn 98 = .ok (.lload 4, 2) := by decide +kernel
theorem dX8_isOn_100 : decode cX8_isOn 100 = .ok (.aload_n 0, 1) := by decide +kernel
theorem dX8_isOn_101 : decode cX8_isOn 101 = .ok (.getfield 119, 3) := by decide +kernel
theorem dX8_isOn_104 : decode cX8_isOn 104 = .ok (.lmul, 1) := by decide +kernel
theorem dX8_isOn_105 : decode cX8_isOn 105 = .ok (.lload 6, 2) := by decide +kernel
theorem dX8_isOn_107 : decode cX8_isOn 107 = .ok (.aload_n 0, 1) := by decide +kernel
theorem dX8_isOn_108 : decode cX8_isOn 108 = .ok (.getfield 122, 3) := by decide +kernel
theorem dX8_isOn_111 : decode cX8_isOn 111 = .ok (.lmul, 1) := by decide +kernel
theorem dX8_isOn_112 : decode cX8_isOn 112 = .ok (.ladd, 1) := by decide +kernel
theorem dX8_isOn_113 : decode cX8_isOn 113 = .ok (.lmul, 1) := by decide +kernel
theorem dX8_isOn_114 : decode cX8_isOn 114 = .ok (.lcmp, 1) := by decide +kernel
theorem dX8_isOn_115 : decode cX8_isOn 115 = .ok (.ifCond .ne 7, 3) := by decide +kernel
theorem dX8_isOn_118 : decode cX8_isOn 118 = .ok (.iconst 1, 1) := by decide +kernel
theorem dX8_isOn_119 : decode cX8_isOn 119 = .ok (.goto 4, 3) := by decide +kernel
theorem dX8_isOn_122 : decode cX8_isOn 122 = .ok (.iconst 0, 1) := by decide +kernel
theorem dX8_isOn_123 : decode cX8_isOn 123 = .ok (.ireturn, 1) := by decide +kernel
theorem dX8_tellsPush_0 : decode cX8_tellsPush 0 = .ok (.aload_n 0, 1) := by decide +kernel
theorem dX8_tellsPush_1 : decode cX8_tellsPush 1 = .ok (.iload_n 1, 1) := by decide +kernel
theorem dX8_tellsPush_2 : decode cX8_tellsPush 2 = .ok (.invokevirtual 125, 3) := by decide +kernel
theorem dX8_tellsPush_5 : decode cX8_tellsPush 5 = .ok (.aload_n 0, 1) := by decide +kernel
theorem dX8_tellsPush_6 : decode cX8_tellsPush 6 = .ok (.getfield 23, 3) := by decide +kernel
theorem dX8_tellsPush_9 : decode cX8_tellsPush 9 = .ok (.iconst 0, 1) := by decide +kernel
theorem dX8_tellsPush_10 : decode cX8_tellsPush 10 = .ok (.iaload, 1) := by decide +kernel
theorem dX8_tellsPush_11 : decode cX8_tellsPush 11 = .ok (.i2l, 1) := by decide +kernel
theorem dX8_tellsPush_12 : decode cX8_tellsPush 12 = .ok (.aload_n 0, 1) := by decide +kernel
theorem dX8_tellsPush_13 : decode cX8_tellsPush 13 = .ok (.iload_n 1, 1) := by decide +kernel
theorem dX8_tellsPush_14 : decode cX8_tellsPush 14 = .ok (.invokevirtual 109, 3) := by decide +kernel
theorem dX8_tellsPush_17 : decode cX8_tellsPush 17 = .ok (.i2l, 1) := by decide +kernel
theorem dX8_tellsPush_18 : decode cX8_tellsPush 18 = .ok (.lmul, 1) := by decide +kernel
theorem dX8_tellsPush_19 : decode cX8_tellsPush 19 = .ok (.lstore 4, 2) := by decide +kernel
theorem dX8_tellsPush_21 : decode cX8_tellsPush 21 = .ok (.aload_n 0, 1) := by decide +kernel
theorem dX8_tellsPush_22 : decode cX8_tellsPush 22 = .ok (.lload 4, 2) := by decide +kernel
theorem dX8_tellsPush_24 : decode cX8_tellsPush 24 = .ok (.aload_n 0, 1) := by decide +kernel
theorem dX8_tellsPush_25 : decode cX8_tellsPush 25 = .ok (.getfield 122, 3) := by decide +kernel
theorem dX8_tellsPush_28 : decode cX8_tellsPush 28 = .ok (.iload_n 3, 1) := by decide +kernel
theorem dX8_tellsPush_29 : decode cX8_tellsPush 29 = .ok (.aload_n 0, 1) := by decide +kernel
theorem dX8_tellsPush_30 : decode cX8_tellsPush 30 = .ok (.iload_n 1, 1) := by decide +kernel
theorem dX8_tellsPush_31 : decode cX8_tellsPush 31 = .ok (.iconst 1, 1) := by decide +kernel
theorem dX8_tellsPush_32 : decode cX8_tellsPush 32 = .ok (.invokevirtual 101, 3) := by decide +kernel
theorem dX8_tellsPush_35 : decode cX8_tellsPush 35 = .ok (.isub, 1) := by decide +kernel
theorem dX8_tellsPush_36 : decode cX8_tellsPush 36 = .ok (.i2l, 1) := by decide +kernel
theorem dX8_tellsPush_37 : decode cX8_tellsPush 37 = .ok (.aload_n 0, 1) := by decide +kernel
theorem dX8_tellsPush_38 : decode cX8_tellsPush 38 = .ok (.getfield 115, 3) := by decide +kernel
theorem dX8_tellsPush_41 : decode cX8_tellsPush 41 = .ok (.lmul, 1) := by decide +kernel
theorem dX8_tellsPush_42 : decode cX8_tellsPush 42 = .ok (.lsub, 1) := by decide +kernel
theorem dX8_tellsPush_43 : decode cX8_tellsPush 43 = .ok (.lmul, 1) := by decide +kernel
theorem dX8_tellsPush_44 : decode cX8_tellsPush 44 = .ok (.putfield 129, 3) := by decide +kernel
theorem dX8_tellsPush_47 : decode cX8_tellsPush 47 = .ok (.aload_n 0, 1) := by decide +kernel
theorem dX8_tellsPush_48 : decode cX8_tellsPush 48 = .ok (.lload 4, 2) := by decide +kernel
theorem dX8_tellsPush_50 : decode cX8_tellsPush 50 = .ok (.iload_n 2, 1) := by decide +kernel
theorem dX8_tellsPush_51 : decode cX8_tellsPush 51 = .ok (.aload_n 0, 1) := by decide +kernel
theorem dX8_tellsPush_52 : decode cX8_tellsPush 52 = .ok (.iload_n 1, 1) := by decide +kernel
theorem dX8_tellsPush_53 : decode cX8_tellsPush 53 = .ok (.iconst 0, 1) := by decide +kernel
theorem dX8_tellsPush_54 : decode cX8_tellsPush 54 = .ok (.invokevirtual 101, 3) := by decide +kernel
theorem dX8_tellsPush_57 : decode cX8_tellsPush 57 = .ok (.isub, 1) := by decide +kernel
theorem dX8_tellsPush_58 : decode cX8_tellsPush 58 = .ok (.i2l, 1) := by decide +kernel
theorem dX8_tellsPush_59 : decode cX8_tellsPush 59 = .ok (.aload_n 0, 1) := by decide +kernel
theorem dX8_tellsPush_60 : decode cX8_tellsPush 60 = .ok (.getfield 115, 3) := by decide +kernel
theorem dX8_tellsPush_63 : decode cX8_tellsPush 63 = .ok (.lmul, 1) := by decide +kernel
theorem dX8_tellsPush_64 : decode cX8_tellsPush 64 = .ok (.aload_n 0, 1) := by decide +kernel
theorem dX8_tellsPush_65 : decode cX8_tellsPush 65 = .ok (.getfield 119, 3) := by decide +kernel
theorem dX8_tellsPush_68 : decode cX8_tellsPush 68 = .ok (.lsub, 1) := by decide +kernel
theorem dX8_tellsPush_69 : decode cX8_tellsPush 69 = .ok (.lmul, 1) := by decide +kernel
theorem dX8_tellsPush_70 : decode cX8_tellsPush 70 = .ok (.putfield 132, 3) := by decide +kernel
theorem dX8_tellsPush_73 : decode cX8_tellsPush 73 = .ok (.return_, 1) := by decide +kernel
theorem dX8_common_0 : decode cX8_common 0 = .ok (.lload_n 0, 1) := by decide +kernel
theorem dX8_common_1 : decode cX8_common 1 = .ok (.lconst 0, 1) := by decide +kernel
theorem dX8_common_2 : decode cX8_common 2 = .ok (.lcmp, 1) := by decide +kernel
theorem dX8_common_3 : decode cX8_common 3 = .ok (.ifCond .ge 8, 3) := by decide +kernel
theorem dX8_common_6 : decode cX8_common 6 = .ok (.lload_n 0, 1) := by decide +kernel
theorem dX8_common_7 : decode cX8_common 7 = .ok (.lneg, 1) := by decide +kernel
theorem dX8_common_8 : decode cX8_common 8 = .ok (.goto 4, 3) := by decide +kernel
theorem dX8_common_11 : decode cX8_common 11 = .ok (.lload_n 0, 1) := by decide +kernel
theorem dX8_common_12 : decode cX8_common 12 = .ok (.lstore 4, 2) := by decide +kernel
theorem dX8_common_14 : decode cX8_common 14 = .ok (.lload_n 2, 1) := by decide +kernel
theorem dX8_common_15 : decode cX8_common 15 = .ok (.lstore 6, 2) := by decide +kernel
theorem dX8_common_17 : decode cX8_common 17 = .ok (.lload 6, 2) := by decide +kernel
theorem dX8_common_19 : decode cX8_common 19 = .ok (.lconst 0, 1) := by decide +kernel
theorem dX8_common_20 : decode cX8_common 20 = .ok (.lcmp, 1) := by decide +kernel
theorem dX8_common_21 : decode cX8_common 21 = .ok (.ifCond .eq 21, 3) := by decide +kernel
theorem dX8_common_24 : decode cX8_common 24 = .ok (.lload 4, 2) := by decide +kernel
theorem dX8_common_26 : decode cX8_common 26 = .ok (.lload 6, 2) := by decide +kernel
theorem dX8_common_28 : decode cX8_common 28 = .ok (.lrem, 1) := by decide +kernel
theorem dX8_common_29 : decode cX8_common 29 = .ok (.lstore 8, 2) := by decide +kernel
theorem dX8_common_31 : decode cX8_common 31 = .ok (.lload 6, 2) := by decide +kernel
theorem dX8_common_33 : decode cX8_common 33 = .ok (.lstore 4, 2) := by decide +kernel
theorem dX8_common_35 : decode cX8_common 35 = .ok (.lload 8, 2) := by decide +kernel
theorem dX8_common_37 : decode cX8_common 37 = .ok (.lstore 6, 2) := by decide +kernel
theorem dX8_common_39 : decode cX8_common 39 = .ok (.goto (-22), 3) := by decide +kernel
theorem dX8_common_42 : decode cX8_common 42 = .ok (.lload 4, 2) := by decide +kernel
theorem dX8_common_44 : decode cX8_common 44 = .ok (.lreturn, 1) := by decide +kernel
theorem dX8_lowest_0 : decode cX8_lowest 0 = .ok (.lload_n 0, 1) := by decide +kernel
theorem dX8_lowest_1 : decode cX8_lowest 1 = .ok (.lload_n 2, 1) := by decide +kernel
theorem dX8_lowest_2 : decode cX8_lowest 2 = .ok (.invokestatic 135, 3) := by decide +kernel
theorem dX8_lowest_5 : decode cX8_lowest 5 = .ok (.lstore 5, 2) := by decide +kernel
theorem dX8_lowest_7 : decode cX8_lowest 7 = .ok (.iload 4, 2) := by decide +kernel
theorem dX8_lowest_9 : decode cX8_lowest 9 = .ok (.ifCond .ne 10, 3) := by decide +kernel
theorem dX8_lowest_12 : decode cX8_lowest 12 = .ok (.lload_n 0, 1) := by decide +kernel
theorem dX8_lowest_13 : decode cX8_lowest 13 = .ok (.lload 5, 2) := by decide +kernel
theorem dX8_lowest_15 : decode cX8_lowest 15 = .ok (.ldiv, 1) := by decide +kernel
theorem dX8_lowest_16 : decode cX8_lowest 16 = .ok (.goto 7, 3) := by decide +kernel
theorem dX8_lowest_19 : decode cX8_lowest 19 = .ok (.lload_n 2, 1) := by decide +kernel
theorem dX8_lowest_20 : decode cX8_lowest 20 = .ok (.lload 5, 2) := by decide +kernel
theorem dX8_lowest_22 : decode cX8_lowest 22 = .ok (.ldiv, 1) := by decide +kernel
theorem dX8_lowest_23 : decode cX8_lowest 23 = .ok (.lreturn, 1) := by decide +kernel
theorem dX8_field_0 : decode cX8_field 0 = .ok (.iload_n 1, 1) := by decide +kernel
theorem dX8_field_1 : decode cX8_field 1 = .ok (.i2l, 1) := by decide +kernel
theorem dX8_field_2 : decode cX8_field 2 = .ok (.lconst 1, 1) := by decide +kernel
theorem dX8_field_3 : decode cX8_field 3 = .ok (.ldc2_w 139, 3) := by decide +kernel
theorem dX8_field_6 : decode cX8_field 6 = .ok (.invokestatic 13, 3) := by decide +kernel
theorem dX8_field_9 : decode cX8_field 9 = .ok (.ifCond .ne 5, 3) := by decide +kernel
theorem dX8_field_12 : decode cX8_field 12 = .ok (.iconst (-1), 1) := by decide +kernel
theorem dX8_field_13 : decode cX8_field 13 = .ok (.ireturn, 1) := by decide +kernel
theorem dX8_field_14 : decode cX8_field 14 = .ok (.aload_n 0, 1) := by decide +kernel
theorem dX8_field_15 : decode cX8_field 15 = .ok (.invokevirtual 141, 3) := by decide +kernel
theorem dX8_field_18 : decode cX8_field 18 = .ok (.aload_n 0, 1) := by decide +kernel
theorem dX8_field_19 : decode cX8_field 19 = .ok (.getfield 23, 3) := by decide +kernel
theorem dX8_field_22 : decode cX8_field 22 = .ok (.iconst 0, 1) := by decide +kernel
theorem dX8_field_23 : decode cX8_field 23 = .ok (.iaload, 1) := by decide +kernel
theorem dX8_field_24 : decode cX8_field 24 = .ok (.istore_n 2, 1) := by decide +kernel
theorem dX8_field_25 : decode cX8_field 25 = .ok (.aload_n 0, 1) := by decide +kernel
theorem dX8_field_26 : decode cX8_field 26 = .ok (.getfield 23, 3) := by decide +kernel
theorem dX8_field_29 : decode cX8_field 29 = .ok (.iconst 0, 1) := by decide +kernel
theorem dX8_field_30 : decode cX8_field 30 = .ok (.iload_n 1, 1) := by decide +kernel
theorem dX8_field_31 : decode cX8_field 31 = .ok (.iastore, 1) := by decide +kernel
theorem dX8_field_32 : decode cX8_field 32 = .ok (.iload_n 2, 1) := by decide +kernel
theorem dX8_field_33 : decode cX8_field 33 = .ok (.ireturn, 1) := by decide +kernel
theorem dX8_trackRefusal_0 : decode cX8_trackRefusal 0 = .ok (.iload_n 1, 1) := by decide +kernel
theorem dX8_trackRefusal_1 : decode cX8_trackRefusal 1 = .ok (.iload_n 2, 1) := by decide +kernel
theorem dX8_trackRefusal_2 : decode cX8_trackRefusal 2 = .ok (.invokestatic 144, 3) := by decide +kernel
theorem dX8_trackRefusal_5 : decode cX8_trackRefusal 5 = .ok (.ifCond .eq 22, 3) := by decide +kernel
theorem dX8_trackRefusal_8 : decode cX8_trackRefusal 8 = .ok (.iload_n 3, 1) := by decide +kernel
theorem dX8_trackRefusal_9 : decode cX8_trackRefusal 9 = .ok (.iload 4, 2) := by decide +kernel
theorem dX8_trackRefusal_11 : decode cX8_trackRefusal 11 = .ok (.invokestatic 144, 3) := by decide +kernel
theorem dX8_trackRefusal_14 : decode cX8_trackRefusal 14 = .ok (.ifCond .eq 13, 3) := by decide +kernel
theorem dX8_trackRefusal_17 : decode cX8_trackRefusal 17 = .ok (.iload 5, 2) := by decide +kernel
theorem dX8_trackRefusal_19 : decode cX8_trackRefusal 19 = .ok (.iload 6, 2) := by decide +kernel
theorem dX8_trackRefusal_21 : decode cX8_trackRefusal 21 = .ok (.invokestatic 144, 3) := by decide +kernel
theorem dX8_trackRefusal_24 : decode cX8_trackRefusal 24 = .ok (.ifCond .ne 5, 3) := by decide +kernel
theorem dX8_trackRefusal_27 : decode cX8_trackRefusal 27 = .ok (.iconst (-1), 1) := by decide +kernel
theorem dX8_trackRefusal_28 : decode cX8_trackRefusal 28 = .ok (.ireturn, 1) := by decide +kernel
theorem dX8_trackRefusal_29 : decode cX8_trackRefusal 29 = .ok (.iload_n 1, 1) := by decide +kernel
theorem dX8_trackRefusal_30 : decode cX8_trackRefusal 30 = .ok (.iload_n 3, 1) := by decide +kernel
theorem dX8_trackRefusal_31 : decode cX8_trackRefusal 31 = .ok (.if_icmp .ne 9, 3) := by decide +kernel
theorem dX8_trackRefusal_34 : decode cX8_trackRefusal 34 = .ok (.iload_n 2, 1) := by decide +kernel
theorem dX8_trackRefusal_35 : decode cX8_trackRefusal 35 = .ok (.iload 4, 2) := by decide +kernel
theorem dX8_trackRefusal_37 : decode cX8_trackRefusal 37 = .ok (.if_icmp .eq 28, 3) := by decide +kernel
theorem dX8_trackRefusal_40 : decode cX8_trackRefusal 40 = .ok (.iload_n 1, 1) := by decide +kernel
theorem dX8_trackRefusal_41 : decode cX8_trackRefusal 41 = .ok (.iload 5, 2) := by decide +kernel
theorem dX8_trackRefusal_43 : decode cX8_trackRefusal 43 = .ok (.if_icmp .ne 9, 3) := by decide +kernel
theorem dX8_trackRefusal_46 : decode cX8_trackRefusal 46 = .ok (.iload_n 2, 1) := by decide +kernel
theorem dX8_trackRefusal_47 : decode cX8_trackRefusal 47 = .ok (.iload 6, 2) := by decide +kernel
theorem dX8_trackRefusal_49 : decode cX8_trackRefusal 49 = .ok (.if_icmp .eq 16, 3) := by decide +kernel
theorem dX8_trackRefusal_52 : decode cX8_trackRefusal 52 = .ok (.iload_n 3, 1) := by decide +kernel
theorem dX8_trackRefusal_53 : decode cX8_trackRefusal 53 = .ok (.iload 5, 2) := by decide +kernel
theorem dX8_trackRefusal_55 : decode cX8_trackRefusal 55 = .ok (.if_icmp .ne 13, 3) := by decide +kernel
theorem dX8_trackRefusal_58 : decode cX8_trackRefusal 58 = .ok (.iload 4, 2) := by decide +kernel
theorem dX8_trackRefusal_60 : decode cX8_trackRefusal 60 = .ok (.iload 6, 2) := by decide +kernel
theorem dX8_trackRefusal_62 : decode cX8_trackRefusal 62 = .ok (.if_icmp .ne 6, 3) := by decide +kernel
theorem dX8_trackRefusal_65 : decode cX8_trackRefusal 65 = .ok (.bipush (-5), 2) := by decide +kernel
theorem dX8_trackRefusal_67 : decode cX8_trackRefusal 67 = .ok (.ireturn, 1) := by decide +kernel
theorem dX8_trackRefusal_68 : decode cX8_trackRefusal 68 = .ok (.aload_n 0, 1) := by decide +kernel
theorem dX8_trackRefusal_69 : decode cX8_trackRefusal 69 = .ok (.getfield 23, 3) := by decide +kernel
theorem dX8_trackRefusal_72 : decode cX8_trackRefusal 72 = .ok (.iconst 1, 1) := by decide +kernel
theorem dX8_trackRefusal_73 : decode cX8_trackRefusal 73 = .ok (.iaload, 1) := by decide +kernel
theorem dX8_trackRefusal_74 : decode cX8_trackRefusal 74 = .ok (.bipush 8, 2) := by decide +kernel
theorem dX8_trackRefusal_76 : decode cX8_trackRefusal 76 = .ok (.if_icmp .ne 8, 3) := by decide +kernel
theorem dX8_trackRefusal_79 : decode cX8_trackRefusal 79 = .ok (.bipush (-3), 2) := by decide +kernel
theorem dX8_trackRefusal_81 : decode cX8_trackRefusal 81 = .ok (.goto 4, 3) := by decide +kernel
theorem dX8_trackRefusal_84 : decode cX8_trackRefusal 84 = .ok (.iconst 0, 1) := by decide +kernel
theorem dX8_trackRefusal_85 : decode cX8_trackRefusal 85 = .ok (.ireturn, 1) := by decide +kernel
theorem dX8_trackComes_0 : decode cX8_trackComes 0 = .ok (.iconst 3, 1) := by decide +kernel
theorem dX8_trackComes_1 : decode cX8_trackComes 1 = .ok (.bipush 6, 2) := by decide +kernel
theorem dX8_trackComes_3 : decode cX8_trackComes 3 = .ok (.aload_n 0, 1) := by decide +kernel
theorem dX8_trackComes_4 : decode cX8_trackComes 4 = .ok (.getfield 23, 3) := by decide +kernel
theorem dX8_trackComes_7 : decode cX8_trackComes 7 = .ok (.iconst 1, 1) := by decide +kernel
theorem dX8_trackComes_8 : decode cX8_trackComes 8 = .ok (.iaload, 1) := by decide +kernel
theorem dX8_trackComes_9 : decode cX8_trackComes 9 = .ok (.imul, 1) := by decide +kernel
theorem dX8_trackComes_10 : decode cX8_trackComes 10 = .ok (.iadd, 1) := by decide +kernel
theorem dX8_trackComes_11 : decode cX8_trackComes 11 = .ok (.istore 7, 2) := by decide +kernel
theorem dX8_trackComes_13 : decode cX8_trackComes 13 = .ok (.aload_n 0, 1) := by decide +kernel
theorem dX8_trackComes_14 : decode cX8_trackComes 14 = .ok (.getfield 23, 3) := by decide +kernel
theorem dX8_trackComes_17 : decode cX8_trackComes 17 = .ok (.iload 7, 2) := by decide +kernel
theorem dX8_trackComes_19 : decode cX8_trackComes 19 = .ok (.iload_n 1, 1) := by decide +kernel
theorem dX8_trackComes_20 : decode cX8_trackComes 20 = .ok (.iastore, 1) := by decide +kernel
theorem dX8_trackComes_21 : decode cX8_trackComes 21 = .ok (.aload_n 0, 1) := by decide +kernel
theorem dX8_trackComes_22 : decode cX8_trackComes 22 = .ok (.getfield 23, 3) := by decide +kernel
theorem dX8_trackComes_25 : decode cX8_trackComes 25 = .ok (.iload 7, 2) := by decide +kernel
theorem dX8_trackComes_27 : decode cX8_trackComes 27 = .ok (.iconst 1, 1) := by decide +kernel
theorem dX8_trackComes_28 : decode cX8_trackComes 28 = .ok (.iadd, 1) := by decide +kernel
theorem dX8_trackComes_29 : decode cX8_trackComes 29 = .ok (.iload_n 2, 1) := by decide +kernel
theorem dX8_trackComes_30 : decode cX8_trackComes 30 = .ok (.iastore, 1) := by decide +kernel
theorem dX8_trackComes_31 : decode cX8_trackComes 31 = .ok (.aload_n 0, 1) := by decide +kernel
theorem dX8_trackComes_32 : decode cX8_trackComes 32 = .ok (.getfield 23, 3) := by decide +kernel
theorem dX8_trackComes_35 : decode cX8_trackComes 35 = .ok (.iload 7, 2) := by decide +kernel
theorem dX8_trackComes_37 : decode cX8_trackComes 37 = .ok (.iconst 2, 1) := by decide +kernel
theorem dX8_trackComes_38 : decode cX8_trackComes 38 = .ok (.iadd, 1) := by decide +kernel
theorem dX8_trackComes_39 : decode cX8_trackComes 39 = .ok (.iload_n 3, 1) := by decide +kernel
theorem dX8_trackComes_40 : decode cX8_trackComes 40 = .ok (.iastore, 1) := by decide +kernel
theorem dX8_trackComes_41 : decode cX8_trackComes 41 = .ok (.aload_n 0, 1) := by decide +kernel
theorem dX8_trackComes_42 : decode cX8_trackComes 42 = .ok (.getfield 23, 3) := by decide +kernel
theorem dX8_trackComes_45 : decode cX8_trackComes 45 = .ok (.iload 7, 2) := by decide +kernel
theorem dX8_trackComes_47 : decode cX8_trackComes 47 = .ok (.iconst 3, 1) := by decide +kernel
theorem dX8_trackComes_48 : decode cX8_trackComes 48 = .ok (.iadd, 1) := by decide +kernel
theorem dX8_trackComes_49 : decode cX8_trackComes 49 = .ok (.iload 4, 2) := by decide +kernel
theorem dX8_trackComes_51 : decode cX8_trackComes 51 = .ok (.iastore, 1) := by decide +kernel
theorem dX8_trackComes_52 : decode cX8_trackComes 52 = .ok (.aload_n 0, 1) := by decide +kernel
theorem dX8_trackComes_53 : decode cX8_trackComes 53 = .ok (.getfield 23, 3) := by decide +kernel
theorem dX8_trackComes_56 : decode cX8_trackComes 56 = .ok (.iload 7, 2) := by decide +kernel
theorem dX8_trackComes_58 : decode cX8_trackComes 58 = .ok (.iconst 4, 1) := by decide +kernel
theorem dX8_trackComes_59 : decode cX8_trackComes 59 = .ok (.iadd, 1) := by decide +kernel
theorem dX8_trackComes_60 : decode cX8_trackComes 60 = .ok (.iload 5, 2) := by decide +kernel
theorem dX8_trackComes_62 : decode cX8_trackComes 62 = .ok (.iastore, 1) := by decide +kernel
theorem dX8_trackComes_63 : decode cX8_trackComes 63 = .ok (.aload_n 0, 1) := by decide +kernel
theorem dX8_trackComes_64 : decode cX8_trackComes 64 = .ok (.getfield 23, 3) := by decide +kernel
theorem dX8_trackComes_67 : decode cX8_trackComes 67 = .ok (.iload 7, 2) := by decide +kernel
theorem dX8_trackComes_69 : decode cX8_trackComes 69 = .ok (.iconst 5, 1) := by decide +kernel
theorem dX8_trackComes_70 : decode cX8_trackComes 70 = .ok (.iadd, 1) := by decide +kernel
theorem dX8_trackComes_71 : decode cX8_trackComes 71 = .ok (.iload 6, 2) := by decide +kernel
theorem dX8_trackComes_73 : decode cX8_trackComes 73 = .ok (.iastore, 1) := by decide +kernel
theorem dX8_trackComes_74 : decode cX8_trackComes 74 = .ok (.aload_n 0, 1) := by decide +kernel
theorem dX8_trackComes_75 : decode cX8_trackComes 75 = .ok (.getfield 23, 3) := by decide +kernel
theorem dX8_trackComes_78 : decode cX8_trackComes 78 = .ok (.bipush 51, 2) := by decide +kernel
theorem dX8_trackComes_80 : decode cX8_trackComes 80 = .ok (.aload_n 0, 1) := by decide +kernel
theorem dX8_trackComes_81 : decode cX8_trackComes 81 = .ok (.getfield 23, 3) := by decide +kernel
theorem dX8_trackComes_84 : decode cX8_trackComes 84 = .ok (.iconst 1, 1) := by decide +kernel
theorem dX8_trackComes_85 : decode cX8_trackComes 85 = .ok (.iaload, 1) := by decide +kernel
theorem dX8_trackComes_86 : decode cX8_trackComes 86 = .ok (.iadd, 1) := by decide +kernel
theorem dX8_trackComes_87 : decode cX8_trackComes 87 = .ok (.iconst (-1), 1) := by decide +kernel
theorem dX8_trackComes_88 : decode cX8_trackComes 88 = .ok (.iastore, 1) := by decide +kernel
theorem dX8_trackComes_89 : decode cX8_trackComes 89 = .ok (.aload_n 0, 1) := by decide +kernel
theorem dX8_trackComes_90 : decode cX8_trackComes 90 = .ok (.getfield 23, 3) := by decide +kernel
theorem dX8_trackComes_93 : decode cX8_trackComes 93 = .ok (.iconst 1, 1) := by decide +kernel
theorem dX8_trackComes_94 : decode cX8_trackComes 94 = .ok (.dup2, 1) := by decide +kernel
theorem dX8_trackComes_95 : decode cX8_trackComes 95 = .ok (.iaload, 1) := by decide +kernel
theorem dX8_trackComes_96 : decode cX8_trackComes 96 = .ok (.iconst 1, 1) := by decide +kernel
theorem dX8_trackComes_97 : decode cX8_trackComes 97 = .ok (.iadd, 1) := by decide +kernel
theorem dX8_trackComes_98 : decode cX8_trackComes 98 = .ok (.iastore, 1) := by decide +kernel
theorem dX8_trackComes_99 : decode cX8_trackComes 99 = .ok (.return_, 1) := by decide +kernel
theorem dX8_track_0 : decode cX8_track 0 = .ok (.aload_n 0, 1) := by decide +kernel
theorem dX8_track_1 : decode cX8_track 1 = .ok (.iload_n 1, 1) := by decide +kernel
theorem dX8_track_2 : decode cX8_track 2 = .ok (.iload_n 2, 1) := by decide +kernel
theorem dX8_track_3 : decode cX8_track 3 = .ok (.iload_n 3, 1) := by decide +kernel
theorem dX8_track_4 : decode cX8_track 4 = .ok (.iload 4, 2) := by decide +kernel
theorem dX8_track_6 : decode cX8_track 6 = .ok (.iload 5, 2) := by decide +kernel
theorem dX8_track_8 : decode cX8_track 8 = .ok (.iload 6, 2) := by decide +kernel
theorem dX8_track_10 : decode cX8_track 10 = .ok (.invokevirtual 148, 3) := by decide +kernel
theorem dX8_track_13 : decode cX8_track 13 = .ok (.istore 7, 2) := by decide +kernel
theorem dX8_track_15 : decode cX8_track 15 = .ok (.iload 7, 2) := by decide +kernel
theorem dX8_track_17 : decode cX8_track 17 = .ok (.ifCond .eq 6, 3) := by decide +kernel
theorem dX8_track_20 : decode cX8_track 20 = .ok (.iload 7, 2) := by decide +kernel
theorem dX8_track_22 : decode cX8_track 22 = .ok (.ireturn, 1) := by decide +kernel
theorem dX8_track_23 : decode cX8_track 23 = .ok (.aload_n 0, 1) := by decide +kernel
theorem dX8_track_24 : decode cX8_track 24 = .ok (.invokevirtual 141, 3) := by decide +kernel
theorem dX8_track_27 : decode cX8_track 27 = .ok (.aload_n 0, 1) := by decide +kernel
theorem dX8_track_28 : decode cX8_track 28 = .ok (.iload_n 1, 1) := by decide +kernel
theorem dX8_track_29 : decode cX8_track 29 = .ok (.iload_n 2, 1) := by decide +kernel
theorem dX8_track_30 : decode cX8_track 30 = .ok (.iload_n 3, 1) := by decide +kernel
theorem dX8_track_31 : decode cX8_track 31 = .ok (.iload 4, 2) := by decide +kernel
theorem dX8_track_33 : decode cX8_track 33 = .ok (.iload 5, 2) := by decide +kernel
theorem dX8_track_35 : decode cX8_track 35 = .ok (.iload 6, 2) := by decide +kernel
theorem dX8_track_37 : decode cX8_track 37 = .ok (.invokevirtual 152, 3) := by decide +kernel
theorem dX8_track_40 : decode cX8_track 40 = .ok (.aload_n 0, 1) := by decide +kernel
theorem dX8_track_41 : decode cX8_track 41 = .ok (.getfield 23, 3) := by decide +kernel
theorem dX8_track_44 : decode cX8_track 44 = .ok (.iconst 1, 1) := by decide +kernel
theorem dX8_track_45 : decode cX8_track 45 = .ok (.iaload, 1) := by decide +kernel
theorem dX8_track_46 : decode cX8_track 46 = .ok (.iconst 1, 1) := by decide +kernel
theorem dX8_track_47 : decode cX8_track 47 = .ok (.isub, 1) := by decide +kernel
theorem dX8_track_48 : decode cX8_track 48 = .ok (.ireturn, 1) := by decide +kernel
theorem dX8_kindRefusal_0 : decode cX8_kindRefusal 0 = .ok (.aload_n 0, 1) := by decide +kernel
theorem dX8_kindRefusal_1 : decode cX8_kindRefusal 1 = .ok (.iload_n 1, 1) := by decide +kernel
theorem dX8_kindRefusal_2 : decode cX8_kindRefusal 2 = .ok (.invokevirtual 156, 3) := by decide +kernel
theorem dX8_kindRefusal_5 : decode cX8_kindRefusal 5 = .ok (.ifCond .eq 17, 3) := by decide +kernel
theorem dX8_kindRefusal_8 : decode cX8_kindRefusal 8 = .ok (.iload_n 2, 1) := by decide +kernel
theorem dX8_kindRefusal_9 : decode cX8_kindRefusal 9 = .ok (.i2l, 1) := by decide +kernel
theorem dX8_kindRefusal_10 : decode cX8_kindRefusal 10 = .ok (.ldc2_w 159, 3) := by decide +kernel
theorem dX8_kindRefusal_13 : decode cX8_kindRefusal 13 = .ok (.ldc2_w 88, 3) := by decide +kernel
theorem dX8_kindRefusal_16 : decode cX8_kindRefusal 16 = .ok (.invokestatic 13, 3) := by decide +kernel
theorem dX8_kindRefusal_19 : decode cX8_kindRefusal 19 = .ok (.ifCond .ne 5, 3) := by decide +kernel
theorem dX8_kindRefusal_22 : decode cX8_kindRefusal 22 = .ok (.iconst (-1), 1) := by decide +kernel
theorem dX8_kindRefusal_23 : decode cX8_kindRefusal 23 = .ok (.ireturn, 1) := by decide +kernel
theorem dX8_kindRefusal_24 : decode cX8_kindRefusal 24 = .ok (.iload_n 2, 1) := by decide +kernel
theorem dX8_kindRefusal_25 : decode cX8_kindRefusal 25 = .ok (.ifCond .lt 24, 3) := by decide +kernel
theorem dX8_kindRefusal_28 : decode cX8_kindRefusal 28 = .ok (.aload_n 0, 1) := by decide +kernel
theorem dX8_kindRefusal_29 : decode cX8_kindRefusal 29 = .ok (.getfield 27, 3) := by decide +kernel
theorem dX8_kindRefusal_32 : decode cX8_kindRefusal 32 = .ok (.iload_n 2, 1) := by decide +kernel
theorem dX8_kindRefusal_33 : decode cX8_kindRefusal 33 = .ok (.iaload, 1) := by decide +kernel
theorem dX8_kindRefusal_34 : decode cX8_kindRefusal 34 = .ok (.iconst 1, 1) := by decide +kernel
theorem dX8_kindRefusal_35 : decode cX8_kindRefusal 35 = .ok (.isub, 1) := by decide +kernel
theorem dX8_kindRefusal_36 : decode cX8_kindRefusal 36 = .ok (.aload_n 0, 1) := by decide +kernel
theorem dX8_kindRefusal_37 : decode cX8_kindRefusal 37 = .ok (.iload_n 1, 1) := by decide +kernel
theorem dX8_kindRefusal_38 : decode cX8_kindRefusal 38 = .ok (.invokevirtual 109, 3) := by decide +kernel
theorem dX8_kindRefusal_41 : decode cX8_kindRefusal 41 = .ok (.if_icmp .eq 8, 3) := by decide +kernel
theorem dX8_kindRefusal_44 : decode cX8_kindRefusal 44 = .ok (.bipush (-5), 2) := by decide +kernel
theorem dX8_kindRefusal_46 : decode cX8_kindRefusal 46 = .ok (.goto 4, 3) := by decide +kernel
theorem dX8_kindRefusal_49 : decode cX8_kindRefusal 49 = .ok (.iconst 0, 1) := by decide +kernel
theorem dX8_kindRefusal_50 : decode cX8_kindRefusal 50 = .ok (.ireturn, 1) := by decide +kernel
theorem dX8_kind_0 : decode cX8_kind 0 = .ok (.aload_n 0, 1) := by decide +kernel
theorem dX8_kind_1 : decode cX8_kind 1 = .ok (.iload_n 1, 1) := by decide +kernel
theorem dX8_kind_2 : decode cX8_kind 2 = .ok (.iload_n 2, 1) := by decide +kernel
theorem dX8_kind_3 : decode cX8_kind 3 = .ok (.invokevirtual 161, 3) := by decide +kernel
theorem dX8_kind_6 : decode cX8_kind 6 = .ok (.istore_n 3, 1) := by decide +kernel
theorem dX8_kind_7 : decode cX8_kind 7 = .ok (.iload_n 3, 1) := by decide +kernel
theorem dX8_kind_8 : decode cX8_kind 8 = .ok (.ifCond .eq 5, 3) := by decide +kernel
theorem dX8_kind_11 : decode cX8_kind 11 = .ok (.iload_n 3, 1) := by decide +kernel
theorem dX8_kind_12 : decode cX8_kind 12 = .ok (.ireturn, 1) := by decide +kernel
theorem dX8_kind_13 : decode cX8_kind 13 = .ok (.aload_n 0, 1) := by decide +kernel
theorem dX8_kind_14 : decode cX8_kind 14 = .ok (.invokevirtual 141, 3) := by decide +kernel
theorem dX8_kind_17 : decode cX8_kind 17 = .ok (.aload_n 0, 1) := by decide +kernel
theorem dX8_kind_18 : decode cX8_kind 18 = .ok (.iload_n 1, 1) := by decide +kernel
theorem dX8_kind_19 : decode cX8_kind 19 = .ok (.invokevirtual 164, 3) := by decide +kernel
theorem dX8_kind_22 : decode cX8_kind 22 = .ok (.istore 4, 2) := by decide +kernel
theorem dX8_kind_24 : decode cX8_kind 24 = .ok (.aload_n 0, 1) := by decide +kernel
theorem dX8_kind_25 : decode cX8_kind 25 = .ok (.getfield 23, 3) := by decide +kernel
theorem dX8_kind_28 : decode cX8_kind 28 = .ok (.bipush 51, 2) := by decide +kernel
theorem dX8_kind_30 : decode cX8_kind 30 = .ok (.iload_n 1, 1) := by decide +kernel
theorem dX8_kind_31 : decode cX8_kind 31 = .ok (.iadd, 1) := by decide +kernel
theorem dX8_kind_32 : decode cX8_kind 32 = .ok (.iload_n 2, 1) := by decide +kernel
theorem dX8_kind_33 : decode cX8_kind 33 = .ok (.iastore, 1) := by decide +kernel
theorem dX8_kind_34 : decode cX8_kind 34 = .ok (.iload 4, 2) := by decide +kernel
theorem dX8_kind_36 : decode cX8_kind 36 = .ok (.ifCond .ge 8, 3) := by decide +kernel
theorem dX8_kind_39 : decode cX8_kind 39 = .ok (.bipush 12, 2) := by decide +kernel
theorem dX8_kind_41 : decode cX8_kind 41 = .ok (.goto 5, 3) := by decide +kernel
theorem dX8_kind_44 : decode cX8_kind 44 = .ok (.iload 4, 2) := by decide +kernel
theorem dX8_kind_46 : decode cX8_kind 46 = .ok (.ireturn, 1) := by decide +kernel
theorem dX8_ones_0 : decode cX8_ones 0 = .ok (.iconst 0, 1) := by decide +kernel
theorem dX8_ones_1 : decode cX8_ones 1 = .ok (.istore_n 1, 1) := by decide +kernel
theorem dX8_ones_2 : decode cX8_ones 2 = .ok (.iconst 0, 1) := by decide +kernel
theorem dX8_ones_3 : decode cX8_ones 3 = .ok (.istore_n 2, 1) := by decide +kernel
theorem dX8_ones_4 : decode cX8_ones 4 = .ok (.iload_n 2, 1) := by decide +kernel
theorem dX8_ones_5 : decode cX8_ones 5 = .ok (.bipush 31, 2) := by decide +kernel
theorem dX8_ones_7 : decode cX8_ones 7 = .ok (.if_icmp .ge 17, 3) := by decide +kernel
theorem dX8_ones_10 : decode cX8_ones 10 = .ok (.iload_n 1, 1) := by decide +kernel
theorem dX8_ones_11 : decode cX8_ones 11 = .ok (.iload_n 0, 1) := by decide +kernel
theorem dX8_ones_12 : decode cX8_ones 12 = .ok (.iload_n 2, 1) := by decide +kernel
theorem dX8_ones_13 : decode cX8_ones 13 = .ok (.ishr, 1) := by decide +kernel
theorem dX8_ones_14 : decode cX8_ones 14 = .ok (.iconst 1, 1) := by decide +kernel
theorem dX8_ones_15 : decode cX8_ones 15 = .ok (.iand, 1) := by decide +kernel
theorem dX8_ones_16 : decode cX8_ones 16 = .ok (.iadd, 1) := by decide +kernel
theorem dX8_ones_17 : decode cX8_ones 17 = .ok (.istore_n 1, 1) := by decide +kernel
theorem dX8_ones_18 : decode cX8_ones 18 = .ok (.iinc 2 1, 3) := by decide +kernel
theorem dX8_ones_21 : decode cX8_ones 21 = .ok (.goto (-17), 3) := by decide +kernel
theorem dX8_ones_24 : decode cX8_ones 24 = .ok (.iload_n 1, 1) := by decide +kernel
theorem dX8_ones_25 : decode cX8_ones 25 = .ok (.ireturn, 1) := by decide +kernel
theorem dX8_vertexRefusal_0 : decode cX8_vertexRefusal 0 = .ok (.iload_n 1, 1) := by decide +kernel
theorem dX8_vertexRefusal_1 : decode cX8_vertexRefusal 1 = .ok (.iload_n 2, 1) := by decide +kernel
theorem dX8_vertexRefusal_2 : decode cX8_vertexRefusal 2 = .ok (.invokestatic 144, 3) := by decide +kernel
theorem dX8_vertexRefusal_5 : decode cX8_vertexRefusal 5 = .ok (.ifCond .eq 55, 3) := by decide +kernel
theorem dX8_vertexRefusal_8 : decode cX8_vertexRefusal 8 = .ok (.iload_n 3, 1) := by decide +kernel
theorem dX8_vertexRefusal_9 : decode cX8_vertexRefusal 9 = .ok (.iconst (-1), 1) := by decide +kernel
theorem dX8_vertexRefusal_10 : decode cX8_vertexRefusal 10 = .ok (.if_icmp .eq 11, 3) := by decide +kernel
theorem dX8_vertexRefusal_13 : decode cX8_vertexRefusal 13 = .ok (.aload_n 0, 1) := by decide +kernel
theorem dX8_vertexRefusal_14 : decode cX8_vertexRefusal 14 = .ok (.iload_n 3, 1) := by decide +kernel
theorem dX8_vertexRefusal_15 : decode cX8_vertexRefusal 15 = .ok (.invokevirtual 156, 3) := by decide +kernel
theorem dX8_vertexRefusal_18 : decode cX8_vertexRefusal 18 = .ok (.ifCond .eq 42, 3) := by decide +kernel
theorem dX8_vertexRefusal_21 : decode cX8_vertexRefusal 21 = .ok (.iload 4, 2) := by decide +kernel
theorem dX8_vertexRefusal_23 : decode cX8_vertexRefusal 23 = .ok (.ifCond .le 37, 3) := by decide +kernel
theorem dX8_vertexRefusal_26 : decode cX8_vertexRefusal 26 = .ok (.iload 4, 2) := by decide +kernel
theorem dX8_vertexRefusal_28 : decode cX8_vertexRefusal 28 = .ok (.aload_n 0, 1) := by decide +kernel
theorem dX8_vertexRefusal_29 : decode cX8_vertexRefusal 29 = .ok (.getfield 23, 3) := by decide +kernel
theorem dX8_vertexRefusal_32 : decode cX8_vertexRefusal 32 = .ok (.iconst 1, 1) := by decide +kernel
theorem dX8_vertexRefusal_33 : decode cX8_vertexRefusal 33 = .ok (.iaload, 1) := by decide +kernel
theorem dX8_vertexRefusal_34 : decode cX8_vertexRefusal 34 = .ok (.ishr, 1) := by decide +kernel
theorem dX8_vertexRefusal_35 : decode cX8_vertexRefusal 35 = .ok (.ifCond .ne 25, 3) := by decide +kernel
theorem dX8_vertexRefusal_38 : decode cX8_vertexRefusal 38 = .ok (.iload 4, 2) := by decide +kernel
theorem dX8_vertexRefusal_40 : decode cX8_vertexRefusal 40 = .ok (.invokestatic 167, 3) := by decide +kernel
theorem dX8_vertexRefusal_43 : decode cX8_vertexRefusal 43 = .ok (.iconst 3, 1) := by decide +kernel
theorem dX8_vertexRefusal_44 : decode cX8_vertexRefusal 44 = .ok (.if_icmp .gt 16, 3) := by decide +kernel
theorem dX8_vertexRefusal_47 : decode cX8_vertexRefusal 47 = .ok (.iload_n 3, 1) := by decide +kernel
theorem dX8_vertexRefusal_48 : decode cX8_vertexRefusal 48 = .ok (.ifCond .lt 14, 3) := by decide +kernel
theorem dX8_vertexRefusal_51 : decode cX8_vertexRefusal 51 = .ok (.iload 4, 2) := by decide +kernel
theorem dX8_vertexRefusal_53 : decode cX8_vertexRefusal 53 = .ok (.iload_n 3, 1) := by decide +kernel
theorem dX8_vertexRefusal_54 : decode cX8_vertexRefusal 54 = .ok (.invokestatic 170, 3) := by decide +kernel
theorem dX8_vertexRefusal_57 : decode cX8_vertexRefusal 57 = .ok (.ifCond .eq 5, 3) := by decide +kernel
theorem dX8_vertexRefusal_60 : decode cX8_vertexRefusal 60 = .ok (.iconst (-1), 1) := by decide +kernel
theorem dX8_vertexRefusal_61 : decode cX8_vertexRefusal 61 = .ok (.ireturn, 1) := by decide +kernel
theorem dX8_vertexRefusal_62 : decode cX8_vertexRefusal 62 = .ok (.iconst 0, 1) := by decide +kernel
theorem dX8_vertexRefusal_63 : decode cX8_vertexRefusal 63 = .ok (.istore 5, 2) := by decide +kernel
theorem dX8_vertexRefusal_65 : decode cX8_vertexRefusal 65 = .ok (.iload 5, 2) := by decide +kernel
theorem dX8_vertexRefusal_67 : decode cX8_vertexRefusal 67 = .ok (.aload_n 0, 1) := by decide +kernel
theorem dX8_vertexRefusal_68 : decode cX8_vertexRefusal 68 = .ok (.getfield 23, 3) := by decide +kernel
theorem dX8_vertexRefusal_71 : decode cX8_vertexRefusal 71 = .ok (.iconst 1, 1) := by decide +kernel
theorem dX8_vertexRefusal_72 : decode cX8_vertexRefusal 72 = .ok (.iaload, 1) := by decide +kernel
theorem dX8_vertexRefusal_73 : decode cX8_vertexRefusal 73 = .ok (.if_icmp .ge 39, 3) := by decide +kernel
theorem dX8_vertexRefusal_76 : decode cX8_vertexRefusal 76 = .ok (.iload 5, 2) := by decide +kernel
theorem dX8_vertexRefusal_78 : decode cX8_vertexRefusal 78 = .ok (.iload_n 3, 1) := by decide +kernel
theorem dX8_vertexRefusal_79 : decode cX8_vertexRefusal 79 = .ok (.if_icmp .eq 13, 3) := by decide +kernel
theorem dX8_vertexRefusal_82 : decode cX8_vertexRefusal 82 = .ok (.iload 4, 2) := by decide +kernel
theorem dX8_vertexRefusal_84 : decode cX8_vertexRefusal 84 = .ok (.iload 5, 2) := by decide +kernel
theorem dX8_vertexRefusal_86 : decode cX8_vertexRefusal 86 = .ok (.invokestatic 170, 3) := by decide +kernel
theorem dX8_vertexRefusal_89 : decode cX8_vertexRefusal 89 = .ok (.ifCond .eq 17, 3) := by decide +kernel
theorem dX8_vertexRefusal_92 : decode cX8_vertexRefusal 92 = .ok (.aload_n 0, 1) := by decide +kernel
theorem dX8_vertexRefusal_93 : decode cX8_vertexRefusal 93 = .ok (.iload 5, 2) := by decide +kernel
theorem dX8_vertexRefusal_95 : decode cX8_vertexRefusal 95 = .ok (.iload_n 1, 1) := by decide +kernel
theorem dX8_vertexRefusal_96 : decode cX8_vertexRefusal 96 = .ok (.iload_n 2, 1) := by decide +kernel
theorem dX8_vertexRefusal_97 : decode cX8_vertexRefusal 97 = .ok (.invokevirtual 173, 3) := by decide +kernel
theorem dX8_vertexRefusal_100 : decode cX8_vertexRefusal 100 = .ok (.ifCond .ne 6, 3) := by decide +kernel
theorem dX8_vertexRefusal_103 : decode cX8_vertexRefusal 103 = .ok (.bipush (-5), 2) := by decide +kernel
theorem dX8_vertexRefusal_105 : decode cX8_vertexRefusal 105 = .ok (.ireturn, 1) := by decide +kernel
theorem dX8_vertexRefusal_106 : decode cX8_vertexRefusal 106 = .ok (.iinc 5 1, 3) := by decide +kernel
theorem dX8_vertexRefusal_109 : decode cX8_vertexRefusal 109 = .ok (.goto (-44), 3) := by decide +kernel
theorem dX8_vertexRefusal_112 : decode cX8_vertexRefusal 112 = .ok (.aload_n 0, 1) := by decide +kernel
theorem dX8_vertexRefusal_113 : decode cX8_vertexRefusal 113 = .ok (.getfield 23, 3) := by decide +kernel
theorem dX8_vertexRefusal_116 : decode cX8_vertexRefusal 116 = .ok (.iconst 2, 1) := by decide +kernel
theorem dX8_vertexRefusal_117 : decode cX8_vertexRefusal 117 = .ok (.iaload, 1) := by decide +kernel
theorem dX8_vertexRefusal_118 : decode cX8_vertexRefusal 118 = .ok (.iconst 4, 1) := by decide +kernel
theorem dX8_vertexRefusal_119 : decode cX8_vertexRefusal 119 = .ok (.if_icmp .ne 8, 3) := by decide +kernel
theorem dX8_vertexRefusal_122 : decode cX8_vertexRefusal 122 = .ok (.bipush (-3), 2) := by decide +kernel
theorem dX8_vertexRefusal_124 : decode cX8_vertexRefusal 124 = .ok (.goto 4, 3) := by decide +kernel
theorem dX8_vertexRefusal_127 : decode cX8_vertexRefusal 127 = .ok (.iconst 0, 1) := by decide +kernel
theorem dX8_vertexRefusal_128 : decode cX8_vertexRefusal 128 = .ok (.ireturn, 1) := by decide +kernel
theorem dX8_vertexComes_0 : decode cX8_vertexComes 0 = .ok (.bipush 59, 2) := by decide +kernel
theorem dX8_vertexComes_2 : decode cX8_vertexComes 2 = .ok (.iconst 4, 1) := by decide +kernel
theorem dX8_vertexComes_3 : decode cX8_vertexComes 3 = .ok (.aload_n 0, 1) := by decide +kernel
theorem dX8_vertexComes_4 : decode cX8_vertexComes 4 = .ok (.getfield 23, 3) := by decide +kernel
theorem dX8_vertexComes_7 : decode cX8_vertexComes 7 = .ok (.iconst 2, 1) := by decide +kernel
theorem dX8_vertexComes_8 : decode cX8_vertexComes 8 = .ok (.iaload, 1) := by decide +kernel
theorem dX8_vertexComes_9 : decode cX8_vertexComes 9 = .ok (.imul, 1) := by decide +kernel
theorem dX8_vertexComes_10 : decode cX8_vertexComes 10 = .ok (.iadd, 1) := by decide +kernel
theorem dX8_vertexComes_11 : decode cX8_vertexComes 11 = .ok (.istore 5, 2) := by decide +kernel
theorem dX8_vertexComes_13 : decode cX8_vertexComes 13 = .ok (.aload_n 0, 1) := by decide +kernel
theorem dX8_vertexComes_14 : decode cX8_vertexComes 14 = .ok (.getfield 23, 3) := by decide +kernel
theorem dX8_vertexComes_17 : decode cX8_vertexComes 17 = .ok (.iload 5, 2) := by decide +kernel
theorem dX8_vertexComes_19 : decode cX8_vertexComes 19 = .ok (.iload_n 1, 1) := by decide +kernel
theorem dX8_vertexComes_20 : decode cX8_vertexComes 20 = .ok (.iastore, 1) := by decide +kernel
theorem dX8_vertexComes_21 : decode cX8_vertexComes 21 = .ok (.aload_n 0, 1) := by decide +kernel
theorem dX8_vertexComes_22 : decode cX8_vertexComes 22 = .ok (.getfield 23, 3) := by decide +kernel
theorem dX8_vertexComes_25 : decode cX8_vertexComes 25 = .ok (.iload 5, 2) := by decide +kernel
theorem dX8_vertexComes_27 : decode cX8_vertexComes 27 = .ok (.iconst 1, 1) := by decide +kernel
theorem dX8_vertexComes_28 : decode cX8_vertexComes 28 = .ok (.iadd, 1) := by decide +kernel
theorem dX8_vertexComes_29 : decode cX8_vertexComes 29 = .ok (.iload_n 2, 1) := by decide +kernel
theorem dX8_vertexComes_30 : decode cX8_vertexComes 30 = .ok (.iastore, 1) := by decide +kernel
theorem dX8_vertexComes_31 : decode cX8_vertexComes 31 = .ok (.aload_n 0, 1) := by decide +kernel
theorem dX8_vertexComes_32 : decode cX8_vertexComes 32 = .ok (.getfield 23, 3) := by decide +kernel
theorem dX8_vertexComes_35 : decode cX8_vertexComes 35 = .ok (.iload 5, 2) := by decide +kernel
theorem dX8_vertexComes_37 : decode cX8_vertexComes 37 = .ok (.iconst 2, 1) := by decide +kernel
theorem dX8_vertexComes_38 : decode cX8_vertexComes 38 = .ok (.iadd, 1) := by decide +kernel
theorem dX8_vertexComes_39 : decode cX8_vertexComes 39 = .ok (.iload_n 3, 1) := by decide +kernel
theorem dX8_vertexComes_40 : decode cX8_vertexComes 40 = .ok (.iastore, 1) := by decide +kernel
theorem dX8_vertexComes_41 : decode cX8_vertexComes 41 = .ok (.aload_n 0, 1) := by decide +kernel
theorem dX8_vertexComes_42 : decode cX8_vertexComes 42 = .ok (.getfield 23, 3) := by decide +kernel
theorem dX8_vertexComes_45 : decode cX8_vertexComes 45 = .ok (.iload 5, 2) := by decide +kernel
theorem dX8_vertexComes_47 : decode cX8_vertexComes 47 = .ok (.iconst 3, 1) := by decide +kernel
theorem dX8_vertexComes_48 : decode cX8_vertexComes 48 = .ok (.iadd, 1) := by decide +kernel
theorem dX8_vertexComes_49 : decode cX8_vertexComes 49 = .ok (.iload 4, 2) := by decide +kernel
theorem dX8_vertexComes_51 : decode cX8_vertexComes 51 = .ok (.iastore, 1) := by decide +kernel
theorem dX8_vertexComes_52 : decode cX8_vertexComes 52 = .ok (.aload_n 0, 1) := by decide +kernel
theorem dX8_vertexComes_53 : decode cX8_vertexComes 53 = .ok (.getfield 23, 3) := by decide +kernel
theorem dX8_vertexComes_56 : decode cX8_vertexComes 56 = .ok (.iconst 2, 1) := by decide +kernel
theorem dX8_vertexComes_57 : decode cX8_vertexComes 57 = .ok (.dup2, 1) := by decide +kernel
theorem dX8_vertexComes_58 : decode cX8_vertexComes 58 = .ok (.iaload, 1) := by decide +kernel
theorem dX8_vertexComes_59 : decode cX8_vertexComes 59 = .ok (.iconst 1, 1) := by decide +kernel
theorem dX8_vertexComes_60 : decode cX8_vertexComes 60 = .ok (.iadd, 1) := by decide +kernel
theorem dX8_vertexComes_61 : decode cX8_vertexComes 61 = .ok (.iastore, 1) := by decide +kernel
theorem dX8_vertexComes_62 : decode cX8_vertexComes 62 = .ok (.return_, 1) := by decide +kernel
theorem dX8_vertex_0 : decode cX8_vertex 0 = .ok (.aload_n 0, 1) := by decide +kernel
theorem dX8_vertex_1 : decode cX8_vertex 1 = .ok (.iload_n 1, 1) := by decide +kernel
theorem dX8_vertex_2 : decode cX8_vertex 2 = .ok (.iload_n 2, 1) := by decide +kernel
theorem dX8_vertex_3 : decode cX8_vertex 3 = .ok (.iload_n 3, 1) := by decide +kernel
theorem dX8_vertex_4 : decode cX8_vertex 4 = .ok (.iload 4, 2) := by decide +kernel
theorem dX8_vertex_6 : decode cX8_vertex 6 = .ok (.invokevirtual 177, 3) := by decide +kernel
theorem dX8_vertex_9 : decode cX8_vertex 9 = .ok (.istore 5, 2) := by decide +kernel
theorem dX8_vertex_11 : decode cX8_vertex 11 = .ok (.iload 5, 2) := by decide +kernel
theorem dX8_vertex_13 : decode cX8_vertex 13 = .ok (.ifCond .eq 6, 3) := by decide +kernel
theorem dX8_vertex_16 : decode cX8_vertex 16 = .ok (.iload 5, 2) := by decide +kernel
theorem dX8_vertex_18 : decode cX8_vertex 18 = .ok (.ireturn, 1) := by decide +kernel
theorem dX8_vertex_19 : decode cX8_vertex 19 = .ok (.aload_n 0, 1) := by decide +kernel
theorem dX8_vertex_20 : decode cX8_vertex 20 = .ok (.invokevirtual 141, 3) := by decide +kernel
theorem dX8_vertex_23 : decode cX8_vertex 23 = .ok (.aload_n 0, 1) := by decide +kernel
theorem dX8_vertex_24 : decode cX8_vertex 24 = .ok (.iload_n 1, 1) := by decide +kernel
theorem dX8_vertex_25 : decode cX8_vertex 25 = .ok (.iload_n 2, 1) := by decide +kernel
theorem dX8_vertex_26 : decode cX8_vertex 26 = .ok (.iload_n 3, 1) := by decide +kernel
theorem dX8_vertex_27 : decode cX8_vertex 27 = .ok (.iload 4, 2) := by decide +kernel
theorem dX8_vertex_29 : decode cX8_vertex 29 = .ok (.invokevirtual 181, 3) := by decide +kernel
theorem dX8_vertex_32 : decode cX8_vertex 32 = .ok (.aload_n 0, 1) := by decide +kernel
theorem dX8_vertex_33 : decode cX8_vertex 33 = .ok (.getfield 23, 3) := by decide +kernel
theorem dX8_vertex_36 : decode cX8_vertex 36 = .ok (.iconst 2, 1) := by decide +kernel
theorem dX8_vertex_37 : decode cX8_vertex 37 = .ok (.iaload, 1) := by decide +kernel
theorem dX8_vertex_38 : decode cX8_vertex 38 = .ok (.iconst 1, 1) := by decide +kernel
theorem dX8_vertex_39 : decode cX8_vertex 39 = .ok (.isub, 1) := by decide +kernel
theorem dX8_vertex_40 : decode cX8_vertex 40 = .ok (.ireturn, 1) := by decide +kernel
theorem dX8_drop_0 : decode cX8_drop 0 = .ok (.aload_n 0, 1) := by decide +kernel
theorem dX8_drop_1 : decode cX8_drop 1 = .ok (.getfield 23, 3) := by decide +kernel
theorem dX8_drop_4 : decode cX8_drop 4 = .ok (.iconst 2, 1) := by decide +kernel
theorem dX8_drop_5 : decode cX8_drop 5 = .ok (.iaload, 1) := by decide +kernel
theorem dX8_drop_6 : decode cX8_drop 6 = .ok (.ifCond .ne 6, 3) := by decide +kernel
theorem dX8_drop_9 : decode cX8_drop 9 = .ok (.bipush (-5), 2) := by decide +kernel
theorem dX8_drop_11 : decode cX8_drop 11 = .ok (.ireturn, 1) := by decide +kernel
theorem dX8_drop_12 : decode cX8_drop 12 = .ok (.aload_n 0, 1) := by decide +kernel
theorem dX8_drop_13 : decode cX8_drop 13 = .ok (.invokevirtual 141, 3) := by decide +kernel
theorem dX8_drop_16 : decode cX8_drop 16 = .ok (.aload_n 0, 1) := by decide +kernel
theorem dX8_drop_17 : decode cX8_drop 17 = .ok (.getfield 23, 3) := by decide +kernel
theorem dX8_drop_20 : decode cX8_drop 20 = .ok (.iconst 2, 1) := by decide +kernel
theorem dX8_drop_21 : decode cX8_drop 21 = .ok (.dup2, 1) := by decide +kernel
theorem dX8_drop_22 : decode cX8_drop 22 = .ok (.iaload, 1) := by decide +kernel
theorem dX8_drop_23 : decode cX8_drop 23 = .ok (.iconst 1, 1) := by decide +kernel
theorem dX8_drop_24 : decode cX8_drop 24 = .ok (.isub, 1) := by decide +kernel
theorem dX8_drop_25 : decode cX8_drop 25 = .ok (.iastore, 1) := by decide +kernel
theorem dX8_drop_26 : decode cX8_drop 26 = .ok (.aload_n 0, 1) := by decide +kernel
theorem dX8_drop_27 : decode cX8_drop 27 = .ok (.getfield 23, 3) := by decide +kernel
theorem dX8_drop_30 : decode cX8_drop 30 = .ok (.iconst 2, 1) := by decide +kernel
theorem dX8_drop_31 : decode cX8_drop 31 = .ok (.iaload, 1) := by decide +kernel
theorem dX8_drop_32 : decode cX8_drop 32 = .ok (.ireturn, 1) := by decide +kernel
theorem dX8_wipe_0 : decode cX8_wipe 0 = .ok (.aload_n 0, 1) := by decide +kernel
theorem dX8_wipe_1 : decode cX8_wipe 1 = .ok (.getfield 23, 3) := by decide +kernel
theorem dX8_wipe_4 : decode cX8_wipe 4 = .ok (.iconst 1, 1) := by decide +kernel
theorem dX8_wipe_5 : decode cX8_wipe 5 = .ok (.iaload, 1) := by decide +kernel
theorem dX8_wipe_6 : decode cX8_wipe 6 = .ok (.iconst 1, 1) := by decide +kernel
theorem dX8_wipe_7 : decode cX8_wipe 7 = .ok (.isub, 1) := by decide +kernel
theorem dX8_wipe_8 : decode cX8_wipe 8 = .ok (.istore_n 1, 1) := by decide +kernel
theorem dX8_wipe_9 : decode cX8_wipe 9 = .ok (.iload_n 1, 1) := by decide +kernel
theorem dX8_wipe_10 : decode cX8_wipe 10 = .ok (.ifCond .ge 6, 3) := by decide +kernel
theorem dX8_wipe_13 : decode cX8_wipe 13 = .ok (.bipush (-5), 2) := by decide +kernel
theorem dX8_wipe_15 : decode cX8_wipe 15 = .ok (.ireturn, 1) := by decide +kernel
theorem dX8_wipe_16 : decode cX8_wipe 16 = .ok (.iconst 0, 1) := by decide +kernel
theorem dX8_wipe_17 : decode cX8_wipe 17 = .ok (.istore_n 2, 1) := by decide +kernel
theorem dX8_wipe_18 : decode cX8_wipe 18 = .ok (.iload_n 2, 1) := by decide +kernel
theorem dX8_wipe_19 : decode cX8_wipe 19 = .ok (.aload_n 0, 1) := by decide +kernel
theorem dX8_wipe_20 : decode cX8_wipe 20 = .ok (.getfield 23, 3) := by decide +kernel
theorem dX8_wipe_23 : decode cX8_wipe 23 = .ok (.iconst 2, 1) := by decide +kernel
theorem dX8_wipe_24 : decode cX8_wipe 24 = .ok (.iaload, 1) := by decide +kernel
theorem dX8_wipe_25 : decode cX8_wipe 25 = .ok (.if_icmp .ge 35, 3) := by decide +kernel
theorem dX8_wipe_28 : decode cX8_wipe 28 = .ok (.aload_n 0, 1) := by decide +kernel
theorem dX8_wipe_29 : decode cX8_wipe 29 = .ok (.iload_n 2, 1) := by decide +kernel
theorem dX8_wipe_30 : decode cX8_wipe 30 = .ok (.iconst 2, 1) := by decide +kernel
theorem dX8_wipe_31 : decode cX8_wipe 31 = .ok (.invokevirtual 185, 3) := by decide +kernel
theorem dX8_wipe_34 : decode cX8_wipe 34 = .ok (.iload_n 1, 1) := by decide +kernel
theorem dX8_wipe_35 : decode cX8_wipe 35 = .ok (.if_icmp .eq 16, 3) := by decide +kernel
theorem dX8_wipe_38 : decode cX8_wipe 38 = .ok (.aload_n 0, 1) := by decide +kernel
theorem dX8_wipe_39 : decode cX8_wipe 39 = .ok (.iload_n 2, 1) := by decide +kernel
theorem dX8_wipe_40 : decode cX8_wipe 40 = .ok (.iconst 3, 1) := by decide +kernel
theorem dX8_wipe_41 : decode cX8_wipe 41 = .ok (.invokevirtual 185, 3) := by decide +kernel
theorem dX8_wipe_44 : decode cX8_wipe 44 = .ok (.iload_n 1, 1) := by decide +kernel
theorem dX8_wipe_45 : decode cX8_wipe 45 = .ok (.invokestatic 170, 3) := by decide +kernel
theorem dX8_wipe_48 : decode cX8_wipe 48 = .ok (.ifCond .eq 6, 3) := by decide +kernel
theorem dX8_wipe_51 : decode cX8_wipe 51 = .ok (.bipush (-5), 2) := by decide +kernel
theorem dX8_wipe_53 : decode cX8_wipe 53 = .ok (.ireturn, 1) := by decide +kernel
theorem dX8_wipe_54 : decode cX8_wipe 54 = .ok (.iinc 2 1, 3) := by decide +kernel
theorem dX8_wipe_57 : decode cX8_wipe 57 = .ok (.goto (-39), 3) := by decide +kernel
theorem dX8_wipe_60 : decode cX8_wipe 60 = .ok (.aload_n 0, 1) := by decide +kernel
theorem dX8_wipe_61 : decode cX8_wipe 61 = .ok (.invokevirtual 141, 3) := by decide +kernel
theorem dX8_wipe_64 : decode cX8_wipe 64 = .ok (.aload_n 0, 1) := by decide +kernel
theorem dX8_wipe_65 : decode cX8_wipe 65 = .ok (.getfield 23, 3) := by decide +kernel
theorem dX8_wipe_68 : decode cX8_wipe 68 = .ok (.iconst 1, 1) := by decide +kernel
theorem dX8_wipe_69 : decode cX8_wipe 69 = .ok (.dup2, 1) := by decide +kernel
theorem dX8_wipe_70 : decode cX8_wipe 70 = .ok (.iaload, 1) := by decide +kernel
theorem dX8_wipe_71 : decode cX8_wipe 71 = .ok (.iconst 1, 1) := by decide +kernel
theorem dX8_wipe_72 : decode cX8_wipe 72 = .ok (.isub, 1) := by decide +kernel
theorem dX8_wipe_73 : decode cX8_wipe 73 = .ok (.iastore, 1) := by decide +kernel
theorem dX8_wipe_74 : decode cX8_wipe 74 = .ok (.aload_n 0, 1) := by decide +kernel
theorem dX8_wipe_75 : decode cX8_wipe 75 = .ok (.getfield 23, 3) := by decide +kernel
theorem dX8_wipe_78 : decode cX8_wipe 78 = .ok (.iconst 1, 1) := by decide +kernel
theorem dX8_wipe_79 : decode cX8_wipe 79 = .ok (.iaload, 1) := by decide +kernel
theorem dX8_wipe_80 : decode cX8_wipe 80 = .ok (.ireturn, 1) := by decide +kernel
theorem dX8_trackOf_0 : decode cX8_trackOf 0 = .ok (.aload_n 0, 1) := by decide +kernel
theorem dX8_trackOf_1 : decode cX8_trackOf 1 = .ok (.iload_n 1, 1) := by decide +kernel
theorem dX8_trackOf_2 : decode cX8_trackOf 2 = .ok (.invokevirtual 156, 3) := by decide +kernel
theorem dX8_trackOf_5 : decode cX8_trackOf 5 = .ok (.ifCond .eq 15, 3) := by decide +kernel
theorem dX8_trackOf_8 : decode cX8_trackOf 8 = .ok (.iload_n 2, 1) := by decide +kernel
theorem dX8_trackOf_9 : decode cX8_trackOf 9 = .ok (.i2l, 1) := by decide +kernel
theorem dX8_trackOf_10 : decode cX8_trackOf 10 = .ok (.lconst 0, 1) := by decide +kernel
theorem dX8_trackOf_11 : decode cX8_trackOf 11 = .ok (.ldc2_w 188, 3) := by decide +kernel
theorem dX8_trackOf_14 : decode cX8_trackOf 14 = .ok (.invokestatic 13, 3) := by decide +kernel
theorem dX8_trackOf_17 : decode cX8_trackOf 17 = .ok (.ifCond .ne 5, 3) := by decide +kernel
theorem dX8_trackOf_20 : decode cX8_trackOf 20 = .ok (.iconst (-1), 1) := by decide +kernel
theorem dX8_trackOf_21 : decode cX8_trackOf 21 = .ok (.ireturn, 1) := by decide +kernel
theorem dX8_trackOf_22 : decode cX8_trackOf 22 = .ok (.iload_n 2, 1) := by decide +kernel
theorem dX8_trackOf_23 : decode cX8_trackOf 23 = .ok (.bipush 6, 2) := by decide +kernel
theorem dX8_trackOf_25 : decode cX8_trackOf 25 = .ok (.if_icmp .ge 10, 3) := by decide +kernel
theorem dX8_trackOf_28 : decode cX8_trackOf 28 = .ok (.aload_n 0, 1) := by decide +kernel
theorem dX8_trackOf_29 : decode cX8_trackOf 29 = .ok (.iload_n 1, 1) := by decide +kernel
theorem dX8_trackOf_30 : decode cX8_trackOf 30 = .ok (.iload_n 2, 1) := by decide +kernel
theorem dX8_trackOf_31 : decode cX8_trackOf 31 = .ok (.invokevirtual 101, 3) := by decide +kernel
theorem dX8_trackOf_34 : decode cX8_trackOf 34 = .ok (.ireturn, 1) := by decide +kernel
theorem dX8_trackOf_35 : decode cX8_trackOf 35 = .ok (.iload_n 2, 1) := by decide +kernel
theorem dX8_trackOf_36 : decode cX8_trackOf 36 = .ok (.bipush 6, 2) := by decide +kernel
theorem dX8_trackOf_38 : decode cX8_trackOf 38 = .ok (.if_icmp .ne 13, 3) := by decide +kernel
theorem dX8_trackOf_41 : decode cX8_trackOf 41 = .ok (.aload_n 0, 1) := by decide +kernel
theorem dX8_trackOf_42 : decode cX8_trackOf 42 = .ok (.iload_n 1, 1) := by decide +kernel
theorem dX8_trackOf_43 : decode cX8_trackOf 43 = .ok (.invokevirtual 109, 3) := by decide +kernel
theorem dX8_trackOf_46 : decode cX8_trackOf 46 = .ok (.iconst 1, 1) := by decide +kernel
theorem dX8_trackOf_47 : decode cX8_trackOf 47 = .ok (.iadd, 1) := by decide +kernel
theorem dX8_trackOf_48 : decode cX8_trackOf 48 = .ok (.goto 21, 3) := by decide +kernel
theorem dX8_trackOf_51 : decode cX8_trackOf 51 = .ok (.aload_n 0, 1) := by decide +kernel
theorem dX8_trackOf_52 : decode cX8_trackOf 52 = .ok (.iload_n 1, 1) := by decide +kernel
theorem dX8_trackOf_53 : decode cX8_trackOf 53 = .ok (.invokevirtual 164, 3) := by decide +kernel
theorem dX8_trackOf_56 : decode cX8_trackOf 56 = .ok (.ifCond .ge 8, 3) := by decide +kernel
theorem dX8_trackOf_59 : decode cX8_trackOf 59 = .ok (.bipush 12, 2) := by decide +kernel
theorem dX8_trackOf_61 : decode cX8_trackOf 61 = .ok (.goto 8, 3) := by decide +kernel
theorem dX8_trackOf_64 : decode cX8_trackOf 64 = .ok (.aload_n 0, 1) := by decide +kernel
theorem dX8_trackOf_65 : decode cX8_trackOf 65 = .ok (.iload_n 1, 1) := by decide +kernel
theorem dX8_trackOf_66 : decode cX8_trackOf 66 = .ok (.invokevirtual 164, 3) := by decide +kernel
theorem dX8_trackOf_69 : decode cX8_trackOf 69 = .ok (.ireturn, 1) := by decide +kernel
theorem dX8_bend_0 : decode cX8_bend 0 = .ok (.aload_n 0, 1) := by decide +kernel
theorem dX8_bend_1 : decode cX8_bend 1 = .ok (.iload_n 1, 1) := by decide +kernel
theorem dX8_bend_2 : decode cX8_bend 2 = .ok (.invokevirtual 156, 3) := by decide +kernel
theorem dX8_bend_5 : decode cX8_bend 5 = .ok (.ifCond .eq 11, 3) := by decide +kernel
theorem dX8_bend_8 : decode cX8_bend 8 = .ok (.aload_n 0, 1) := by decide +kernel
theorem dX8_bend_9 : decode cX8_bend 9 = .ok (.iload_n 1, 1) := by decide +kernel
theorem dX8_bend_10 : decode cX8_bend 10 = .ok (.invokevirtual 105, 3) := by decide +kernel
theorem dX8_bend_13 : decode cX8_bend 13 = .ok (.goto 6, 3) := by decide +kernel
theorem dX8_bend_16 : decode cX8_bend 16 = .ok (.ldc2_w 190, 3) := by decide +kernel
theorem dX8_bend_19 : decode cX8_bend 19 = .ok (.lreturn, 1) := by decide +kernel
theorem dX8_vertexOf_0 : decode cX8_vertexOf 0 = .ok (.aload_n 0, 1) := by decide +kernel
theorem dX8_vertexOf_1 : decode cX8_vertexOf 1 = .ok (.iload_n 1, 1) := by decide +kernel
theorem dX8_vertexOf_2 : decode cX8_vertexOf 2 = .ok (.invokevirtual 192, 3) := by decide +kernel
theorem dX8_vertexOf_5 : decode cX8_vertexOf 5 = .ok (.ifCond .eq 15, 3) := by decide +kernel
theorem dX8_vertexOf_8 : decode cX8_vertexOf 8 = .ok (.iload_n 2, 1) := by decide +kernel
theorem dX8_vertexOf_9 : decode cX8_vertexOf 9 = .ok (.i2l, 1) := by decide +kernel
theorem dX8_vertexOf_10 : decode cX8_vertexOf 10 = .ok (.lconst 0, 1) := by decide +kernel
theorem dX8_vertexOf_11 : decode cX8_vertexOf 11 = .ok (.ldc2_w 195, 3) := by decide +kernel
theorem dX8_vertexOf_14 : decode cX8_vertexOf 14 = .ok (.invokestatic 13, 3) := by decide +kernel
theorem dX8_vertexOf_17 : decode cX8_vertexOf 17 = .ok (.ifCond .ne 5, 3) := by decide +kernel
theorem dX8_vertexOf_20 : decode cX8_vertexOf 20 = .ok (.iconst (-1), 1) := by decide +kernel
theorem dX8_vertexOf_21 : decode cX8_vertexOf 21 = .ok (.ireturn, 1) := by decide +kernel
theorem dX8_vertexOf_22 : decode cX8_vertexOf 22 = .ok (.aload_n 0, 1) := by decide +kernel
theorem dX8_vertexOf_23 : decode cX8_vertexOf 23 = .ok (.iload_n 1, 1) := by decide +kernel
theorem dX8_vertexOf_24 : decode cX8_vertexOf 24 = .ok (.iload_n 2, 1) := by decide +kernel
theorem dX8_vertexOf_25 : decode cX8_vertexOf 25 = .ok (.invokevirtual 185, 3) := by decide +kernel
theorem dX8_vertexOf_28 : decode cX8_vertexOf 28 = .ok (.istore_n 3, 1) := by decide +kernel
theorem dX8_vertexOf_29 : decode cX8_vertexOf 29 = .ok (.iload_n 2, 1) := by decide +kernel
theorem dX8_vertexOf_30 : decode cX8_vertexOf 30 = .ok (.iconst 2, 1) := by decide +kernel
theorem dX8_vertexOf_31 : decode cX8_vertexOf 31 = .ok (.if_icmp .ge 10, 3) := by decide +kernel
theorem dX8_vertexOf_34 : decode cX8_vertexOf 34 = .ok (.iload_n 3, 1) := by decide +kernel
theorem dX8_vertexOf_35 : decode cX8_vertexOf 35 = .ok (.bipush 20, 2) := by decide +kernel
theorem dX8_vertexOf_37 : decode cX8_vertexOf 37 = .ok (.iadd, 1) := by decide +kernel
theorem dX8_vertexOf_38 : decode cX8_vertexOf 38 = .ok (.goto 18, 3) := by decide +kernel
theorem dX8_vertexOf_41 : decode cX8_vertexOf 41 = .ok (.iload_n 2, 1) := by decide +kernel
theorem dX8_vertexOf_42 : decode cX8_vertexOf 42 = .ok (.iconst 2, 1) := by decide +kernel
theorem dX8_vertexOf_43 : decode cX8_vertexOf 43 = .ok (.if_icmp .ne 12, 3) := by decide +kernel
theorem dX8_vertexOf_46 : decode cX8_vertexOf 46 = .ok (.iload_n 3, 1) := by decide +kernel
theorem dX8_vertexOf_47 : decode cX8_vertexOf 47 = .ok (.ifCond .ge 8, 3) := by decide +kernel
theorem dX8_vertexOf_50 : decode cX8_vertexOf 50 = .ok (.bipush 8, 2) := by decide +kernel
theorem dX8_vertexOf_52 : decode cX8_vertexOf 52 = .ok (.goto 4, 3) := by decide +kernel
theorem dX8_vertexOf_55 : decode cX8_vertexOf 55 = .ok (.iload_n 3, 1) := by decide +kernel
theorem dX8_vertexOf_56 : decode cX8_vertexOf 56 = .ok (.ireturn, 1) := by decide +kernel
theorem dX8_toldMany_0 : decode cX8_toldMany 0 = .ok (.iconst 0, 1) := by decide +kernel
theorem dX8_toldMany_1 : decode cX8_toldMany 1 = .ok (.istore_n 1, 1) := by decide +kernel
theorem dX8_toldMany_2 : decode cX8_toldMany 2 = .ok (.iconst 0, 1) := by decide +kernel
theorem dX8_toldMany_3 : decode cX8_toldMany 3 = .ok (.istore_n 2, 1) := by decide +kernel
theorem dX8_toldMany_4 : decode cX8_toldMany 4 = .ok (.iload_n 2, 1) := by decide +kernel
theorem dX8_toldMany_5 : decode cX8_toldMany 5 = .ok (.aload_n 0, 1) := by decide +kernel
theorem dX8_toldMany_6 : decode cX8_toldMany 6 = .ok (.getfield 23, 3) := by decide +kernel
theorem dX8_toldMany_9 : decode cX8_toldMany 9 = .ok (.iconst 1, 1) := by decide +kernel
theorem dX8_toldMany_10 : decode cX8_toldMany 10 = .ok (.iaload, 1) := by decide +kernel
theorem dX8_toldMany_11 : decode cX8_toldMany 11 = .ok (.if_icmp .ge 25, 3) := by decide +kernel
theorem dX8_toldMany_14 : decode cX8_toldMany 14 = .ok (.iload_n 1, 1) := by decide +kernel
theorem dX8_toldMany_15 : decode cX8_toldMany 15 = .ok (.aload_n 0, 1) := by decide +kernel
theorem dX8_toldMany_16 : decode cX8_toldMany 16 = .ok (.iload_n 2, 1) := by decide +kernel
theorem dX8_toldMany_17 : decode cX8_toldMany 17 = .ok (.invokevirtual 164, 3) := by decide +kernel
theorem dX8_toldMany_20 : decode cX8_toldMany 20 = .ok (.ifCond .lt 7, 3) := by decide +kernel
theorem dX8_toldMany_23 : decode cX8_toldMany 23 = .ok (.iconst 1, 1) := by decide +kernel
theorem dX8_toldMany_24 : decode cX8_toldMany 24 = .ok (.goto 4, 3) := by decide +kernel
theorem dX8_toldMany_27 : decode cX8_toldMany 27 = .ok (.iconst 0, 1) := by decide +kernel
theorem dX8_toldMany_28 : decode cX8_toldMany 28 = .ok (.iadd, 1) := by decide +kernel
theorem dX8_toldMany_29 : decode cX8_toldMany 29 = .ok (.istore_n 1, 1) := by decide +kernel
theorem dX8_toldMany_30 : decode cX8_toldMany 30 = .ok (.iinc 2 1, 3) := by decide +kernel
theorem dX8_toldMany_33 : decode cX8_toldMany 33 = .ok (.goto (-29), 3) := by decide +kernel
theorem dX8_toldMany_36 : decode cX8_toldMany 36 = .ok (.iload_n 1, 1) := by decide +kernel
theorem dX8_toldMany_37 : decode cX8_toldMany 37 = .ok (.ireturn, 1) := by decide +kernel
theorem dX8_count_0 : decode cX8_count 0 = .ok (.iload_n 1, 1) := by decide +kernel
theorem dX8_count_1 : decode cX8_count 1 = .ok (.tableswitch 84 0 6 #[43, 50, 57, 64, 69, 74, 79], 43) := by decide +kernel
theorem dX8_count_44 : decode cX8_count 44 = .ok (.aload_n 0, 1) := by decide +kernel
theorem dX8_count_45 : decode cX8_count 45 = .ok (.getfield 23, 3) := by decide +kernel
theorem dX8_count_48 : decode cX8_count 48 = .ok (.iconst 0, 1) := by decide +kernel
theorem dX8_count_49 : decode cX8_count 49 = .ok (.iaload, 1) := by decide +kernel
theorem dX8_count_50 : decode cX8_count 50 = .ok (.ireturn, 1) := by decide +kernel
theorem dX8_count_51 : decode cX8_count 51 = .ok (.aload_n 0, 1) := by decide +kernel
theorem dX8_count_52 : decode cX8_count 52 = .ok (.getfield 23, 3) := by decide +kernel
theorem dX8_count_55 : decode cX8_count 55 = .ok (.iconst 1, 1) := by decide +kernel
theorem dX8_count_56 : decode cX8_count 56 = .ok (.iaload, 1) := by decide +kernel
theorem dX8_count_57 : decode cX8_count 57 = .ok (.ireturn, 1) := by decide +kernel
theorem dX8_count_58 : decode cX8_count 58 = .ok (.aload_n 0, 1) := by decide +kernel
theorem dX8_count_59 : decode cX8_count 59 = .ok (.getfield 23, 3) := by decide +kernel
theorem dX8_count_62 : decode cX8_count 62 = .ok (.iconst 2, 1) := by decide +kernel
theorem dX8_count_63 : decode cX8_count 63 = .ok (.iaload, 1) := by decide +kernel
theorem dX8_count_64 : decode cX8_count 64 = .ok (.ireturn, 1) := by decide +kernel
theorem dX8_count_65 : decode cX8_count 65 = .ok (.aload_n 0, 1) := by decide +kernel
theorem dX8_count_66 : decode cX8_count 66 = .ok (.invokevirtual 197, 3) := by decide +kernel
theorem dX8_count_69 : decode cX8_count 69 = .ok (.ireturn, 1) := by decide +kernel
theorem dX8_count_70 : decode cX8_count 70 = .ok (.aload_n 0, 1) := by decide +kernel
theorem dX8_count_71 : decode cX8_count 71 = .ok (.getfield 94, 3) := by decide +kernel
theorem dX8_count_74 : decode cX8_count 74 = .ok (.ireturn, 1) := by decide +kernel
theorem dX8_count_75 : decode cX8_count 75 = .ok (.aload_n 0, 1) := by decide +kernel
theorem dX8_count_76 : decode cX8_count 76 = .ok (.getfield 201, 3) := by decide +kernel
theorem dX8_count_79 : decode cX8_count 79 = .ok (.ireturn, 1) := by decide +kernel
theorem dX8_count_80 : decode cX8_count 80 = .ok (.aload_n 0, 1) := by decide +kernel
theorem dX8_count_81 : decode cX8_count 81 = .ok (.getfield 204, 3) := by decide +kernel
theorem dX8_count_84 : decode cX8_count 84 = .ok (.ireturn, 1) := by decide +kernel
theorem dX8_count_85 : decode cX8_count 85 = .ok (.iconst (-1), 1) := by decide +kernel
theorem dX8_count_86 : decode cX8_count 86 = .ok (.ireturn, 1) := by decide +kernel
theorem dX8_centre_0 : decode cX8_centre 0 = .ok (.aload_n 0, 1) := by decide +kernel
theorem dX8_centre_1 : decode cX8_centre 1 = .ok (.iload_n 1, 1) := by decide +kernel
theorem dX8_centre_2 : decode cX8_centre 2 = .ok (.invokevirtual 156, 3) := by decide +kernel
theorem dX8_centre_5 : decode cX8_centre 5 = .ok (.ifCond .eq 31, 3) := by decide +kernel
theorem dX8_centre_8 : decode cX8_centre 8 = .ok (.iload_n 2, 1) := by decide +kernel
theorem dX8_centre_9 : decode cX8_centre 9 = .ok (.i2l, 1) := by decide +kernel
theorem dX8_centre_10 : decode cX8_centre 10 = .ok (.lconst 0, 1) := by decide +kernel
theorem dX8_centre_11 : decode cX8_centre 11 = .ok (.lconst 1, 1) := by decide +kernel
theorem dX8_centre_12 : decode cX8_centre 12 = .ok (.invokestatic 13, 3) := by decide +kernel
theorem dX8_centre_15 : decode cX8_centre 15 = .ok (.ifCond .eq 21, 3) := by decide +kernel
theorem dX8_centre_18 : decode cX8_centre 18 = .ok (.iload_n 3, 1) := by decide +kernel
theorem dX8_centre_19 : decode cX8_centre 19 = .ok (.i2l, 1) := by decide +kernel
theorem dX8_centre_20 : decode cX8_centre 20 = .ok (.lconst 0, 1) := by decide +kernel
theorem dX8_centre_21 : decode cX8_centre 21 = .ok (.lconst 1, 1) := by decide +kernel
theorem dX8_centre_22 : decode cX8_centre 22 = .ok (.invokestatic 13, 3) := by decide +kernel
theorem dX8_centre_25 : decode cX8_centre 25 = .ok (.ifCond .eq 11, 3) := by decide +kernel
theorem dX8_centre_28 : decode cX8_centre 28 = .ok (.aload_n 0, 1) := by decide +kernel
theorem dX8_centre_29 : decode cX8_centre 29 = .ok (.iload_n 1, 1) := by decide +kernel
theorem dX8_centre_30 : decode cX8_centre 30 = .ok (.invokevirtual 109, 3) := by decide +kernel
theorem dX8_centre_33 : decode cX8_centre 33 = .ok (.ifCond .ne 7, 3) := by decide +kernel
theorem dX8_centre_36 : decode cX8_centre 36 = .ok (.ldc2_w 190, 3) := by decide +kernel
theorem dX8_centre_39 : decode cX8_centre 39 = .ok (.lreturn, 1) := by decide +kernel
theorem dX8_centre_40 : decode cX8_centre 40 = .ok (.aload_n 0, 1) := by decide +kernel
theorem dX8_centre_41 : decode cX8_centre 41 = .ok (.iload_n 1, 1) := by decide +kernel
theorem dX8_centre_42 : decode cX8_centre 42 = .ok (.invokevirtual 125, 3) := by decide +kernel
theorem dX8_centre_45 : decode cX8_centre 45 = .ok (.aload_n 0, 1) := by decide +kernel
theorem dX8_centre_46 : decode cX8_centre 46 = .ok (.iload_n 1, 1) := by decide +kernel
theorem dX8_centre_47 : decode cX8_centre 47 = .ok (.iload_n 2, 1) := by decide +kernel
theorem dX8_centre_48 : decode cX8_centre 48 = .ok (.invokevirtual 101, 3) := by decide +kernel
theorem dX8_centre_51 : decode cX8_centre 51 = .ok (.i2l, 1) := by decide +kernel
theorem dX8_centre_52 : decode cX8_centre 52 = .ok (.aload_n 0, 1) := by decide +kernel
theorem dX8_centre_53 : decode cX8_centre 53 = .ok (.getfield 115, 3) := by decide +kernel
theorem dX8_centre_56 : decode cX8_centre 56 = .ok (.lmul, 1) := by decide +kernel
theorem dX8_centre_57 : decode cX8_centre 57 = .ok (.iload_n 2, 1) := by decide +kernel
theorem dX8_centre_58 : decode cX8_centre 58 = .ok (.ifCond .ne 10, 3) := by decide +kernel
theorem dX8_centre_61 : decode cX8_centre 61 = .ok (.aload_n 0, 1) := by decide +kernel
theorem dX8_centre_62 : decode cX8_centre 62 = .ok (.getfield 119, 3) := by decide +kernel
theorem dX8_centre_65 : decode cX8_centre 65 = .ok (.goto 7, 3) := by decide +kernel
theorem dX8_centre_68 : decode cX8_centre 68 = .ok (.aload_n 0, 1) := by decide +kernel
theorem dX8_centre_69 : decode cX8_centre 69 = .ok (.getfield 122, 3) := by decide +kernel
theorem dX8_centre_72 : decode cX8_centre 72 = .ok (.ladd, 1) := by decide +kernel
theorem dX8_centre_73 : decode cX8_centre 73 = .ok (.aload_n 0, 1) := by decide +kernel
theorem dX8_centre_74 : decode cX8_centre 74 = .ok (.getfield 115, 3) := by decide +kernel
theorem dX8_centre_77 : decode cX8_centre 77 = .ok (.iload_n 3, 1) := by decide +kernel
theorem dX8_centre_78 : decode cX8_centre 78 = .ok (.invokestatic 207, 3) := by decide +kernel
theorem dX8_centre_81 : decode cX8_centre 81 = .ok (.lreturn, 1) := by decide +kernel
theorem dX8_on_0 : decode cX8_on 0 = .ok (.aload_n 0, 1) := by decide +kernel
theorem dX8_on_1 : decode cX8_on 1 = .ok (.iload_n 1, 1) := by decide +kernel
theorem dX8_on_2 : decode cX8_on 2 = .ok (.invokevirtual 156, 3) := by decide +kernel
theorem dX8_on_5 : decode cX8_on 5 = .ok (.ifCond .eq 11, 3) := by decide +kernel
theorem dX8_on_8 : decode cX8_on 8 = .ok (.iload_n 2, 1) := by decide +kernel
theorem dX8_on_9 : decode cX8_on 9 = .ok (.iload_n 3, 1) := by decide +kernel
theorem dX8_on_10 : decode cX8_on 10 = .ok (.invokestatic 144, 3) := by decide +kernel
theorem dX8_on_13 : decode cX8_on 13 = .ok (.ifCond .ne 5, 3) := by decide +kernel
theorem dX8_on_16 : decode cX8_on 16 = .ok (.iconst (-1), 1) := by decide +kernel
theorem dX8_on_17 : decode cX8_on 17 = .ok (.ireturn, 1) := by decide +kernel
theorem dX8_on_18 : decode cX8_on 18 = .ok (.aload_n 0, 1) := by decide +kernel
theorem dX8_on_19 : decode cX8_on 19 = .ok (.iload_n 1, 1) := by decide +kernel
theorem dX8_on_20 : decode cX8_on 20 = .ok (.iload_n 2, 1) := by decide +kernel
theorem dX8_on_21 : decode cX8_on 21 = .ok (.iload_n 3, 1) := by decide +kernel
theorem dX8_on_22 : decode cX8_on 22 = .ok (.invokevirtual 173, 3) := by decide +kernel
theorem dX8_on_25 : decode cX8_on 25 = .ok (.ifCond .eq 7, 3) := by decide +kernel
theorem dX8_on_28 : decode cX8_on 28 = .ok (.iconst 1, 1) := by decide +kernel
theorem dX8_on_29 : decode cX8_on 29 = .ok (.goto 4, 3) := by decide +kernel
theorem dX8_on_32 : decode cX8_on 32 = .ok (.iconst 0, 1) := by decide +kernel
theorem dX8_on_33 : decode cX8_on 33 = .ok (.ireturn, 1) := by decide +kernel
theorem dX8_meets_0 : decode cX8_meets 0 = .ok (.aload_n 0, 1) := by decide +kernel
theorem dX8_meets_1 : decode cX8_meets 1 = .ok (.iload_n 1, 1) := by decide +kernel
theorem dX8_meets_2 : decode cX8_meets 2 = .ok (.invokevirtual 156, 3) := by decide +kernel
theorem dX8_meets_5 : decode cX8_meets 5 = .ok (.ifCond .eq 21, 3) := by decide +kernel
theorem dX8_meets_8 : decode cX8_meets 8 = .ok (.aload_n 0, 1) := by decide +kernel
theorem dX8_meets_9 : decode cX8_meets 9 = .ok (.iload_n 2, 1) := by decide +kernel
theorem dX8_meets_10 : decode cX8_meets 10 = .ok (.invokevirtual 156, 3) := by decide +kernel
theorem dX8_meets_13 : decode cX8_meets 13 = .ok (.ifCond .eq 13, 3) := by decide +kernel
theorem dX8_meets_16 : decode cX8_meets 16 = .ok (.iload_n 1, 1) := by decide +kernel
theorem dX8_meets_17 : decode cX8_meets 17 = .ok (.iload_n 2, 1) := by decide +kernel
theorem dX8_meets_18 : decode cX8_meets 18 = .ok (.if_icmp .eq 8, 3) := by decide +kernel
theorem dX8_meets_21 : decode cX8_meets 21 = .ok (.iload_n 3, 1) := by decide +kernel
theorem dX8_meets_22 : decode cX8_meets 22 = .ok (.iconst (-1), 1) := by decide +kernel
theorem dX8_meets_23 : decode cX8_meets 23 = .ok (.if_icmp .ge 5, 3) := by decide +kernel
theorem dX8_meets_26 : decode cX8_meets 26 = .ok (.iconst (-1), 1) := by decide +kernel
theorem dX8_meets_27 : decode cX8_meets 27 = .ok (.ireturn, 1) := by decide +kernel
theorem dX8_meets_28 : decode cX8_meets 28 = .ok (.iconst 0, 1) := by decide +kernel
theorem dX8_meets_29 : decode cX8_meets 29 = .ok (.istore 4, 2) := by decide +kernel
theorem dX8_meets_31 : decode cX8_meets 31 = .ok (.bipush (-20), 2) := by decide +kernel
theorem dX8_meets_33 : decode cX8_meets 33 = .ok (.istore 5, 2) := by decide +kernel
theorem dX8_meets_35 : decode cX8_meets 35 = .ok (.iload 5, 2) := by decide +kernel
theorem dX8_meets_37 : decode cX8_meets 37 = .ok (.bipush 20, 2) := by decide +kernel
theorem dX8_meets_39 : decode cX8_meets 39 = .ok (.if_icmp .gt 78, 3) := by decide +kernel
theorem dX8_meets_42 : decode cX8_meets 42 = .ok (.bipush (-20), 2) := by decide +kernel
theorem dX8_meets_44 : decode cX8_meets 44 = .ok (.istore 6, 2) := by decide +kernel
theorem dX8_meets_46 : decode cX8_meets 46 = .ok (.iload 6, 2) := by decide +kernel
theorem dX8_meets_48 : decode cX8_meets 48 = .ok (.bipush 20, 2) := by decide +kernel
theorem dX8_meets_50 : decode cX8_meets 50 = .ok (.if_icmp .gt 61, 3) := by decide +kernel
theorem dX8_meets_53 : decode cX8_meets 53 = .ok (.aload_n 0, 1) := by decide +kernel
theorem dX8_meets_54 : decode cX8_meets 54 = .ok (.iload_n 1, 1) := by decide +kernel
theorem dX8_meets_55 : decode cX8_meets 55 = .ok (.iload 5, 2) := by decide +kernel
theorem dX8_meets_57 : decode cX8_meets 57 = .ok (.iload 6, 2) := by decide +kernel
theorem dX8_meets_59 : decode cX8_meets 59 = .ok (.invokevirtual 173, 3) := by decide +kernel
theorem dX8_meets_62 : decode cX8_meets 62 = .ok (.ifCond .eq 43, 3) := by decide +kernel
theorem dX8_meets_65 : decode cX8_meets 65 = .ok (.aload_n 0, 1) := by decide +kernel
theorem dX8_meets_66 : decode cX8_meets 66 = .ok (.iload_n 2, 1) := by decide +kernel
theorem dX8_meets_67 : decode cX8_meets 67 = .ok (.iload 5, 2) := by decide +kernel
theorem dX8_meets_69 : decode cX8_meets 69 = .ok (.iload 6, 2) := by decide +kernel
theorem dX8_meets_71 : decode cX8_meets 71 = .ok (.invokevirtual 173, 3) := by decide +kernel
theorem dX8_meets_74 : decode cX8_meets 74 = .ok (.ifCond .ne 6, 3) := by decide +kernel
theorem dX8_meets_77 : decode cX8_meets 77 = .ok (.goto 28, 3) := by decide +kernel
theorem dX8_meets_80 : decode cX8_meets 80 = .ok (.iload 4, 2) := by decide +kernel
theorem dX8_meets_82 : decode cX8_meets 82 = .ok (.iload_n 3, 1) := by decide +kernel
theorem dX8_meets_83 : decode cX8_meets 83 = .ok (.if_icmp .ne 19, 3) := by decide +kernel
theorem dX8_meets_86 : decode cX8_meets 86 = .ok (.sipush 1000, 3) := by decide +kernel
theorem dX8_meets_89 : decode cX8_meets 89 = .ok (.iload 5, 2) := by decide +kernel
theorem dX8_meets_91 : decode cX8_meets 91 = .ok (.bipush 20, 2) := by decide +kernel
theorem dX8_meets_93 : decode cX8_meets 93 = .ok (.iadd, 1) := by decide +kernel
theorem dX8_meets_94 : decode cX8_meets 94 = .ok (.imul, 1) := by decide +kernel
theorem dX8_meets_95 : decode cX8_meets 95 = .ok (.iload 6, 2) := by decide +kernel
theorem dX8_meets_97 : decode cX8_meets 97 = .ok (.iadd, 1) := by decide +kernel
theorem dX8_meets_98 : decode cX8_meets 98 = .ok (.bipush 20, 2) := by decide +kernel
theorem dX8_meets_100 : decode cX8_meets 100 = .ok (.iadd, 1) := by decide +kernel
theorem dX8_meets_101 : decode cX8_meets 101 = .ok (.ireturn, 1) := by decide +kernel
theorem dX8_meets_102 : decode cX8_meets 102 = .ok (.iinc 4 1, 3) := by decide +kernel
theorem dX8_meets_105 : decode cX8_meets 105 = .ok (.iinc 6 1, 3) := by decide +kernel
theorem dX8_meets_108 : decode cX8_meets 108 = .ok (.goto (-62), 3) := by decide +kernel
theorem dX8_meets_111 : decode cX8_meets 111 = .ok (.iinc 5 1, 3) := by decide +kernel
theorem dX8_meets_114 : decode cX8_meets 114 = .ok (.goto (-79), 3) := by decide +kernel
theorem dX8_meets_117 : decode cX8_meets 117 = .ok (.iload_n 3, 1) := by decide +kernel
theorem dX8_meets_118 : decode cX8_meets 118 = .ok (.iconst (-1), 1) := by decide +kernel
theorem dX8_meets_119 : decode cX8_meets 119 = .ok (.if_icmp .ne 8, 3) := by decide +kernel
theorem dX8_meets_122 : decode cX8_meets 122 = .ok (.iload 4, 2) := by decide +kernel
theorem dX8_meets_124 : decode cX8_meets 124 = .ok (.goto 5, 3) := by decide +kernel
theorem dX8_meets_127 : decode cX8_meets 127 = .ok (.bipush (-2), 2) := by decide +kernel
theorem dX8_meets_129 : decode cX8_meets 129 = .ok (.ireturn, 1) := by decide +kernel
theorem dX8_push_0 : decode cX8_push 0 = .ok (.aload_n 0, 1) := by decide +kernel
theorem dX8_push_1 : decode cX8_push 1 = .ok (.iload_n 1, 1) := by decide +kernel
theorem dX8_push_2 : decode cX8_push 2 = .ok (.invokevirtual 156, 3) := by decide +kernel
theorem dX8_push_5 : decode cX8_push 5 = .ok (.ifCond .eq 51, 3) := by decide +kernel
theorem dX8_push_8 : decode cX8_push 8 = .ok (.iload_n 2, 1) := by decide +kernel
theorem dX8_push_9 : decode cX8_push 9 = .ok (.iload_n 3, 1) := by decide +kernel
theorem dX8_push_10 : decode cX8_push 10 = .ok (.invokestatic 144, 3) := by decide +kernel
theorem dX8_push_13 : decode cX8_push 13 = .ok (.ifCond .eq 43, 3) := by decide +kernel
theorem dX8_push_16 : decode cX8_push 16 = .ok (.iload 4, 2) := by decide +kernel
theorem dX8_push_18 : decode cX8_push 18 = .ok (.i2l, 1) := by decide +kernel
theorem dX8_push_19 : decode cX8_push 19 = .ok (.lconst 0, 1) := by decide +kernel
theorem dX8_push_20 : decode cX8_push 20 = .ok (.lconst 1, 1) := by decide +kernel
theorem dX8_push_21 : decode cX8_push 21 = .ok (.invokestatic 13, 3) := by decide +kernel
theorem dX8_push_24 : decode cX8_push 24 = .ok (.ifCond .eq 32, 3) := by decide +kernel
theorem dX8_push_27 : decode cX8_push 27 = .ok (.iload 5, 2) := by decide +kernel
theorem dX8_push_29 : decode cX8_push 29 = .ok (.i2l, 1) := by decide +kernel
theorem dX8_push_30 : decode cX8_push 30 = .ok (.lconst 0, 1) := by decide +kernel
theorem dX8_push_31 : decode cX8_push 31 = .ok (.lconst 1, 1) := by decide +kernel
theorem dX8_push_32 : decode cX8_push 32 = .ok (.invokestatic 13, 3) := by decide +kernel
theorem dX8_push_35 : decode cX8_push 35 = .ok (.ifCond .eq 21, 3) := by decide +kernel
theorem dX8_push_38 : decode cX8_push 38 = .ok (.aload_n 0, 1) := by decide +kernel
theorem dX8_push_39 : decode cX8_push 39 = .ok (.iload_n 1, 1) := by decide +kernel
theorem dX8_push_40 : decode cX8_push 40 = .ok (.invokevirtual 109, 3) := by decide +kernel
theorem dX8_push_43 : decode cX8_push 43 = .ok (.ifCond .eq 13, 3) := by decide +kernel
theorem dX8_push_46 : decode cX8_push 46 = .ok (.aload_n 0, 1) := by decide +kernel
theorem dX8_push_47 : decode cX8_push 47 = .ok (.iload_n 1, 1) := by decide +kernel
theorem dX8_push_48 : decode cX8_push 48 = .ok (.iload_n 2, 1) := by decide +kernel
theorem dX8_push_49 : decode cX8_push 49 = .ok (.iload_n 3, 1) := by decide +kernel
theorem dX8_push_50 : decode cX8_push 50 = .ok (.invokevirtual 173, 3) := by decide +kernel
theorem dX8_push_53 : decode cX8_push 53 = .ok (.ifCond .ne 7, 3) := by decide +kernel
theorem dX8_push_56 : decode cX8_push 56 = .ok (.ldc2_w 190, 3) := by decide +kernel
theorem dX8_push_59 : decode cX8_push 59 = .ok (.lreturn, 1) := by decide +kernel
theorem dX8_push_60 : decode cX8_push 60 = .ok (.aload_n 0, 1) := by decide +kernel
theorem dX8_push_61 : decode cX8_push 61 = .ok (.iload_n 1, 1) := by decide +kernel
theorem dX8_push_62 : decode cX8_push 62 = .ok (.iload_n 2, 1) := by decide +kernel
theorem dX8_push_63 : decode cX8_push 63 = .ok (.iload_n 3, 1) := by decide +kernel
theorem dX8_push_64 : decode cX8_push 64 = .ok (.invokevirtual 211, 3) := by decide +kernel
theorem dX8_push_67 : decode cX8_push 67 = .ok (.iload 4, 2) := by decide +kernel
theorem dX8_push_69 : decode cX8_push 69 = .ok (.ifCond .ne 10, 3) := by decide +kernel
theorem dX8_push_72 : decode cX8_push 72 = .ok (.aload_n 0, 1) := by decide +kernel
theorem dX8_push_73 : decode cX8_push 73 = .ok (.getfield 129, 3) := by decide +kernel
theorem dX8_push_76 : decode cX8_push 76 = .ok (.goto 7, 3) := by decide +kernel
theorem dX8_push_79 : decode cX8_push 79 = .ok (.aload_n 0, 1) := by decide +kernel
theorem dX8_push_80 : decode cX8_push 80 = .ok (.getfield 132, 3) := by decide +kernel
theorem dX8_push_83 : decode cX8_push 83 = .ok (.aload_n 0, 1) := by decide +kernel
theorem dX8_push_84 : decode cX8_push 84 = .ok (.getfield 115, 3) := by decide +kernel
theorem dX8_push_87 : decode cX8_push 87 = .ok (.iload 5, 2) := by decide +kernel
theorem dX8_push_89 : decode cX8_push 89 = .ok (.invokestatic 207, 3) := by decide +kernel
theorem dX8_push_92 : decode cX8_push 92 = .ok (.lreturn, 1) := by decide +kernel
theorem dX8_fitting_0 : decode cX8_fitting 0 = .ok (.iconst 0, 1) := by decide +kernel
theorem dX8_fitting_1 : decode cX8_fitting 1 = .ok (.istore_n 3, 1) := by decide +kernel
theorem dX8_fitting_2 : decode cX8_fitting 2 = .ok (.iconst 0, 1) := by decide +kernel
theorem dX8_fitting_3 : decode cX8_fitting 3 = .ok (.istore 4, 2) := by decide +kernel
theorem dX8_fitting_5 : decode cX8_fitting 5 = .ok (.iload 4, 2) := by decide +kernel
theorem dX8_fitting_7 : decode cX8_fitting 7 = .ok (.aload_n 0, 1) := by decide +kernel
theorem dX8_fitting_8 : decode cX8_fitting 8 = .ok (.getfield 23, 3) := by decide +kernel
theorem dX8_fitting_11 : decode cX8_fitting 11 = .ok (.iconst 1, 1) := by decide +kernel
theorem dX8_fitting_12 : decode cX8_fitting 12 = .ok (.iaload, 1) := by decide +kernel
theorem dX8_fitting_13 : decode cX8_fitting 13 = .ok (.if_icmp .ge 31, 3) := by decide +kernel
theorem dX8_fitting_16 : decode cX8_fitting 16 = .ok (.iload_n 3, 1) := by decide +kernel
theorem dX8_fitting_17 : decode cX8_fitting 17 = .ok (.aload_n 0, 1) := by decide +kernel
theorem dX8_fitting_18 : decode cX8_fitting 18 = .ok (.iload 4, 2) := by decide +kernel
theorem dX8_fitting_20 : decode cX8_fitting 20 = .ok (.iload_n 1, 1) := by decide +kernel
theorem dX8_fitting_21 : decode cX8_fitting 21 = .ok (.iload_n 2, 1) := by decide +kernel
theorem dX8_fitting_22 : decode cX8_fitting 22 = .ok (.invokevirtual 173, 3) := by decide +kernel
theorem dX8_fitting_25 : decode cX8_fitting 25 = .ok (.ifCond .eq 10, 3) := by decide +kernel
theorem dX8_fitting_28 : decode cX8_fitting 28 = .ok (.iconst 1, 1) := by decide +kernel
theorem dX8_fitting_29 : decode cX8_fitting 29 = .ok (.iload 4, 2) := by decide +kernel
theorem dX8_fitting_31 : decode cX8_fitting 31 = .ok (.ishl, 1) := by decide +kernel
theorem dX8_fitting_32 : decode cX8_fitting 32 = .ok (.goto 4, 3) := by decide +kernel
theorem dX8_fitting_35 : decode cX8_fitting 35 = .ok (.iconst 0, 1) := by decide +kernel
theorem dX8_fitting_36 : decode cX8_fitting 36 = .ok (.ior, 1) := by decide +kernel
theorem dX8_fitting_37 : decode cX8_fitting 37 = .ok (.istore_n 3, 1) := by decide +kernel
theorem dX8_fitting_38 : decode cX8_fitting 38 = .ok (.iinc 4 1, 3) := by decide +kernel
theorem dX8_fitting_41 : decode cX8_fitting 41 = .ok (.goto (-36), 3) := by decide +kernel
theorem dX8_fitting_44 : decode cX8_fitting 44 = .ok (.iload_n 3, 1) := by decide +kernel
theorem dX8_fitting_45 : decode cX8_fitting 45 = .ok (.ireturn, 1) := by decide +kernel
theorem dX8_fits_0 : decode cX8_fits 0 = .ok (.iload_n 1, 1) := by decide +kernel
theorem dX8_fits_1 : decode cX8_fits 1 = .ok (.iload_n 2, 1) := by decide +kernel
theorem dX8_fits_2 : decode cX8_fits 2 = .ok (.invokestatic 144, 3) := by decide +kernel
theorem dX8_fits_5 : decode cX8_fits 5 = .ok (.ifCond .eq 12, 3) := by decide +kernel
theorem dX8_fits_8 : decode cX8_fits 8 = .ok (.aload_n 0, 1) := by decide +kernel
theorem dX8_fits_9 : decode cX8_fits 9 = .ok (.iload_n 1, 1) := by decide +kernel
theorem dX8_fits_10 : decode cX8_fits 10 = .ok (.iload_n 2, 1) := by decide +kernel
theorem dX8_fits_11 : decode cX8_fits 11 = .ok (.invokevirtual 215, 3) := by decide +kernel
theorem dX8_fits_14 : decode cX8_fits 14 = .ok (.goto 4, 3) := by decide +kernel
theorem dX8_fits_17 : decode cX8_fits 17 = .ok (.iconst (-1), 1) := by decide +kernel
theorem dX8_fits_18 : decode cX8_fits 18 = .ok (.ireturn, 1) := by decide +kernel
theorem dX8_through_0 : decode cX8_through 0 = .ok (.aload_n 0, 1) := by decide +kernel
theorem dX8_through_1 : decode cX8_through 1 = .ok (.getfield 23, 3) := by decide +kernel
theorem dX8_through_4 : decode cX8_through 4 = .ok (.iconst 1, 1) := by decide +kernel
theorem dX8_through_5 : decode cX8_through 5 = .ok (.iaload, 1) := by decide +kernel
theorem dX8_through_6 : decode cX8_through 6 = .ok (.ifCond .ne 6, 3) := by decide +kernel
theorem dX8_through_9 : decode cX8_through 9 = .ok (.bipush (-2), 2) := by decide +kernel
theorem dX8_through_11 : decode cX8_through 11 = .ok (.ireturn, 1) := by decide +kernel
theorem dX8_through_12 : decode cX8_through 12 = .ok (.iconst (-1), 1) := by decide +kernel
theorem dX8_through_13 : decode cX8_through 13 = .ok (.istore_n 1, 1) := by decide +kernel
theorem dX8_through_14 : decode cX8_through 14 = .ok (.iconst 0, 1) := by decide +kernel
theorem dX8_through_15 : decode cX8_through 15 = .ok (.istore_n 2, 1) := by decide +kernel
theorem dX8_through_16 : decode cX8_through 16 = .ok (.bipush (-20), 2) := by decide +kernel
theorem dX8_through_18 : decode cX8_through 18 = .ok (.istore_n 3, 1) := by decide +kernel
theorem dX8_through_19 : decode cX8_through 19 = .ok (.iload_n 3, 1) := by decide +kernel
theorem dX8_through_20 : decode cX8_through 20 = .ok (.bipush 20, 2) := by decide +kernel
theorem dX8_through_22 : decode cX8_through 22 = .ok (.if_icmp .gt 68, 3) := by decide +kernel
theorem dX8_through_25 : decode cX8_through 25 = .ok (.bipush (-20), 2) := by decide +kernel
theorem dX8_through_27 : decode cX8_through 27 = .ok (.istore 4, 2) := by decide +kernel
theorem dX8_through_29 : decode cX8_through 29 = .ok (.iload 4, 2) := by decide +kernel
theorem dX8_through_31 : decode cX8_through 31 = .ok (.bipush 20, 2) := by decide +kernel
theorem dX8_through_33 : decode cX8_through 33 = .ok (.if_icmp .gt 51, 3) := by decide +kernel
theorem dX8_through_36 : decode cX8_through 36 = .ok (.aload_n 0, 1) := by decide +kernel
theorem dX8_through_37 : decode cX8_through 37 = .ok (.iload_n 3, 1) := by decide +kernel
theorem dX8_through_38 : decode cX8_through 38 = .ok (.iload 4, 2) := by decide +kernel
theorem dX8_through_40 : decode cX8_through 40 = .ok (.invokevirtual 215, 3) := by decide +kernel
theorem dX8_through_43 : decode cX8_through 43 = .ok (.invokestatic 167, 3) := by decide +kernel
theorem dX8_through_46 : decode cX8_through 46 = .ok (.istore 5, 2) := by decide +kernel
theorem dX8_through_48 : decode cX8_through 48 = .ok (.iload 5, 2) := by decide +kernel
theorem dX8_through_50 : decode cX8_through 50 = .ok (.iload_n 1, 1) := by decide +kernel
theorem dX8_through_51 : decode cX8_through 51 = .ok (.if_icmp .le 27, 3) := by decide +kernel
theorem dX8_through_54 : decode cX8_through 54 = .ok (.iload 5, 2) := by decide +kernel
theorem dX8_through_56 : decode cX8_through 56 = .ok (.istore_n 1, 1) := by decide +kernel
theorem dX8_through_57 : decode cX8_through 57 = .ok (.sipush 10000, 3) := by decide +kernel
theorem dX8_through_60 : decode cX8_through 60 = .ok (.iload 5, 2) := by decide +kernel
theorem dX8_through_62 : decode cX8_through 62 = .ok (.imul, 1) := by decide +kernel
theorem dX8_through_63 : decode cX8_through 63 = .ok (.bipush 100, 2) := by decide +kernel
theorem dX8_through_65 : decode cX8_through 65 = .ok (.iload_n 3, 1) := by decide +kernel
theorem dX8_through_66 : decode cX8_through 66 = .ok (.bipush 20, 2) := by decide +kernel
theorem dX8_through_68 : decode cX8_through 68 = .ok (.iadd, 1) := by decide +kernel
theorem dX8_through_69 : decode cX8_through 69 = .ok (.imul, 1) := by decide +kernel
theorem dX8_through_70 : decode cX8_through 70 = .ok (.iadd, 1) := by decide +kernel
theorem dX8_through_71 : decode cX8_through 71 = .ok (.iload 4, 2) := by decide +kernel
theorem dX8_through_73 : decode cX8_through 73 = .ok (.iadd, 1) := by decide +kernel
theorem dX8_through_74 : decode cX8_through 74 = .ok (.bipush 20, 2) := by decide +kernel
theorem dX8_through_76 : decode cX8_through 76 = .ok (.iadd, 1) := by decide +kernel
theorem dX8_through_77 : decode cX8_through 77 = .ok (.istore_n 2, 1) := by decide +kernel
theorem dX8_through_78 : decode cX8_through 78 = .ok (.iinc 4 1, 3) := by decide +kernel
theorem dX8_through_81 : decode cX8_through 81 = .ok (.goto (-52), 3) := by decide +kernel
theorem dX8_through_84 : decode cX8_through 84 = .ok (.iinc 3 1, 3) := by decide +kernel
theorem dX8_through_87 : decode cX8_through 87 = .ok (.goto (-68), 3) := by decide +kernel
theorem dX8_through_90 : decode cX8_through 90 = .ok (.iload_n 2, 1) := by decide +kernel
theorem dX8_through_91 : decode cX8_through 91 = .ok (.ireturn, 1) := by decide +kernel
theorem dX8_tellsThose_0 : decode cX8_tellsThose 0 = .ok (.aload_n 0, 1) := by decide +kernel
theorem dX8_tellsThose_1 : decode cX8_tellsThose 1 = .ok (.iconst 0, 1) := by decide +kernel
theorem dX8_tellsThose_2 : decode cX8_tellsThose 2 = .ok (.putfield 218, 3) := by decide +kernel
theorem dX8_tellsThose_5 : decode cX8_tellsThose 5 = .ok (.aload_n 0, 1) := by decide +kernel
theorem dX8_tellsThose_6 : decode cX8_tellsThose 6 = .ok (.iload_n 1, 1) := by decide +kernel
theorem dX8_tellsThose_7 : decode cX8_tellsThose 7 = .ok (.iconst 2, 1) := by decide +kernel
theorem dX8_tellsThose_8 : decode cX8_tellsThose 8 = .ok (.invokevirtual 185, 3) := by decide +kernel
theorem dX8_tellsThose_11 : decode cX8_tellsThose 11 = .ok (.ifCond .lt 20, 3) := by decide +kernel
theorem dX8_tellsThose_14 : decode cX8_tellsThose 14 = .ok (.aload_n 0, 1) := by decide +kernel
theorem dX8_tellsThose_15 : decode cX8_tellsThose 15 = .ok (.getfield 48, 3) := by decide +kernel
theorem dX8_tellsThose_18 : decode cX8_tellsThose 18 = .ok (.iconst 0, 1) := by decide +kernel
theorem dX8_tellsThose_19 : decode cX8_tellsThose 19 = .ok (.aload_n 0, 1) := by decide +kernel
theorem dX8_tellsThose_20 : decode cX8_tellsThose 20 = .ok (.iload_n 1, 1) := by decide +kernel
theorem dX8_tellsThose_21 : decode cX8_tellsThose 21 = .ok (.iconst 2, 1) := by decide +kernel
theorem dX8_tellsThose_22 : decode cX8_tellsThose 22 = .ok (.invokevirtual 185, 3) := by decide +kernel
theorem dX8_tellsThose_25 : decode cX8_tellsThose 25 = .ok (.iastore, 1) := by decide +kernel
theorem dX8_tellsThose_26 : decode cX8_tellsThose 26 = .ok (.aload_n 0, 1) := by decide +kernel
theorem dX8_tellsThose_27 : decode cX8_tellsThose 27 = .ok (.iconst 1, 1) := by decide +kernel
theorem dX8_tellsThose_28 : decode cX8_tellsThose 28 = .ok (.putfield 218, 3) := by decide +kernel
theorem dX8_tellsThose_31 : decode cX8_tellsThose 31 = .ok (.iconst 0, 1) := by decide +kernel
theorem dX8_tellsThose_32 : decode cX8_tellsThose 32 = .ok (.istore_n 2, 1) := by decide +kernel
theorem dX8_tellsThose_33 : decode cX8_tellsThose 33 = .ok (.iload_n 2, 1) := by decide +kernel
theorem dX8_tellsThose_34 : decode cX8_tellsThose 34 = .ok (.aload_n 0, 1) := by decide +kernel
theorem dX8_tellsThose_35 : decode cX8_tellsThose 35 = .ok (.getfield 23, 3) := by decide +kernel
theorem dX8_tellsThose_38 : decode cX8_tellsThose 38 = .ok (.iconst 1, 1) := by decide +kernel
theorem dX8_tellsThose_39 : decode cX8_tellsThose 39 = .ok (.iaload, 1) := by decide +kernel
theorem dX8_tellsThose_40 : decode cX8_tellsThose 40 = .ok (.if_icmp .ge 42, 3) := by decide +kernel
theorem dX8_tellsThose_43 : decode cX8_tellsThose 43 = .ok (.aload_n 0, 1) := by decide +kernel
theorem dX8_tellsThose_44 : decode cX8_tellsThose 44 = .ok (.iload_n 1, 1) := by decide +kernel
theorem dX8_tellsThose_45 : decode cX8_tellsThose 45 = .ok (.iconst 3, 1) := by decide +kernel
theorem dX8_tellsThose_46 : decode cX8_tellsThose 46 = .ok (.invokevirtual 185, 3) := by decide +kernel
theorem dX8_tellsThose_49 : decode cX8_tellsThose 49 = .ok (.iload_n 2, 1) := by decide +kernel
theorem dX8_tellsThose_50 : decode cX8_tellsThose 50 = .ok (.invokestatic 170, 3) := by decide +kernel
theorem dX8_tellsThose_53 : decode cX8_tellsThose 53 = .ok (.ifCond .eq 23, 3) := by decide +kernel
theorem dX8_tellsThose_56 : decode cX8_tellsThose 56 = .ok (.aload_n 0, 1) := by decide +kernel
theorem dX8_tellsThose_57 : decode cX8_tellsThose 57 = .ok (.getfield 48, 3) := by decide +kernel
theorem dX8_tellsThose_60 : decode cX8_tellsThose 60 = .ok (.aload_n 0, 1) := by decide +kernel
theorem dX8_tellsThose_61 : decode cX8_tellsThose 61 = .ok (.getfield 218, 3) := by decide +kernel
theorem dX8_tellsThose_64 : decode cX8_tellsThose 64 = .ok (.iload_n 2, 1) := by decide +kernel
theorem dX8_tellsThose_65 : decode cX8_tellsThose 65 = .ok (.iastore, 1) := by decide +kernel
theorem dX8_tellsThose_66 : decode cX8_tellsThose 66 = .ok (.aload_n 0, 1) := by decide +kernel
theorem dX8_tellsThose_67 : decode cX8_tellsThose 67 = .ok (.dup, 1) := by decide +kernel
theorem dX8_tellsThose_68 : decode cX8_tellsThose 68 = .ok (.getfield 218, 3) := by decide +kernel
theorem dX8_tellsThose_71 : decode cX8_tellsThose 71 = .ok (.iconst 1, 1) := by decide +kernel
theorem dX8_tellsThose_72 : decode cX8_tellsThose 72 = .ok (.iadd, 1) := by decide +kernel
theorem dX8_tellsThose_73 : decode cX8_tellsThose 73 = .ok (.putfield 218, 3) := by decide +kernel
theorem dX8_tellsThose_76 : decode cX8_tellsThose 76 = .ok (.iinc 2 1, 3) := by decide +kernel
theorem dX8_tellsThose_79 : decode cX8_tellsThose 79 = .ok (.goto (-46), 3) := by decide +kernel
theorem dX8_tellsThose_82 : decode cX8_tellsThose 82 = .ok (.return_, 1) := by decide +kernel
theorem dX8_isBalanced_0 : decode cX8_isBalanced 0 = .ok (.aload_n 0, 1) := by decide +kernel
theorem dX8_isBalanced_1 : decode cX8_isBalanced 1 = .ok (.iload_n 1, 1) := by decide +kernel
theorem dX8_isBalanced_2 : decode cX8_isBalanced 2 = .ok (.invokevirtual 221, 3) := by decide +kernel
theorem dX8_isBalanced_5 : decode cX8_isBalanced 5 = .ok (.iconst 0, 1) := by decide +kernel
theorem dX8_isBalanced_6 : decode cX8_isBalanced 6 = .ok (.istore_n 2, 1) := by decide +kernel
theorem dX8_isBalanced_7 : decode cX8_isBalanced 7 = .ok (.iload_n 2, 1) := by decide +kernel
theorem dX8_isBalanced_8 : decode cX8_isBalanced 8 = .ok (.aload_n 0, 1) := by decide +kernel
theorem dX8_isBalanced_9 : decode cX8_isBalanced 9 = .ok (.getfield 218, 3) := by decide +kernel
theorem dX8_isBalanced_12 : decode cX8_isBalanced 12 = .ok (.if_icmp .ge 24, 3) := by decide +kernel
theorem dX8_isBalanced_15 : decode cX8_isBalanced 15 = .ok (.aload_n 0, 1) := by decide +kernel
theorem dX8_isBalanced_16 : decode cX8_isBalanced 16 = .ok (.aload_n 0, 1) := by decide +kernel
theorem dX8_isBalanced_17 : decode cX8_isBalanced 17 = .ok (.getfield 48, 3) := by decide +kernel
theorem dX8_isBalanced_20 : decode cX8_isBalanced 20 = .ok (.iload_n 2, 1) := by decide +kernel
theorem dX8_isBalanced_21 : decode cX8_isBalanced 21 = .ok (.iaload, 1) := by decide +kernel
theorem dX8_isBalanced_22 : decode cX8_isBalanced 22 = .ok (.invokevirtual 109, 3) := by decide +kernel
theorem dX8_isBalanced_25 : decode cX8_isBalanced 25 = .ok (.ifCond .ne 5, 3) := by decide +kernel
theorem dX8_isBalanced_28 : decode cX8_isBalanced 28 = .ok (.iconst 0, 1) := by decide +kernel
theorem dX8_isBalanced_29 : decode cX8_isBalanced 29 = .ok (.ireturn, 1) := by decide +kernel
theorem dX8_isBalanced_30 : decode cX8_isBalanced 30 = .ok (.iinc 2 1, 3) := by decide +kernel
theorem dX8_isBalanced_33 : decode cX8_isBalanced 33 = .ok (.goto (-26), 3) := by decide +kernel
theorem dX8_isBalanced_36 : decode cX8_isBalanced 36 = .ok (.iconst 1, 1) := by decide +kernel
theorem dX8_isBalanced_37 : decode cX8_isBalanced 37 = .ok (.ireturn, 1) := by decide +kernel
theorem dX8_adds_0 : decode cX8_adds 0 = .ok (.lload_n 1, 1) := by decide +kernel
theorem dX8_adds_1 : decode cX8_adds 1 = .ok (.lload 5, 2) := by decide +kernel
theorem dX8_adds_3 : decode cX8_adds 3 = .ok (.invokestatic 135, 3) := by decide +kernel
theorem dX8_adds_6 : decode cX8_adds 6 = .ok (.lstore 7, 2) := by decide +kernel
theorem dX8_adds_8 : decode cX8_adds 8 = .ok (.lload 5, 2) := by decide +kernel
theorem dX8_adds_10 : decode cX8_adds 10 = .ok (.lload 7, 2) := by decide +kernel
theorem dX8_adds_12 : decode cX8_adds 12 = .ok (.ldiv, 1) := by decide +kernel
theorem dX8_adds_13 : decode cX8_adds 13 = .ok (.lstore 9, 2) := by decide +kernel
theorem dX8_adds_15 : decode cX8_adds 15 = .ok (.aload_n 0, 1) := by decide +kernel
theorem dX8_adds_16 : decode cX8_adds 16 = .ok (.getfield 224, 3) := by decide +kernel
theorem dX8_adds_19 : decode cX8_adds 19 = .ok (.lload 9, 2) := by decide +kernel
theorem dX8_adds_21 : decode cX8_adds 21 = .ok (.invokestatic 135, 3) := by decide +kernel
theorem dX8_adds_24 : decode cX8_adds 24 = .ok (.lstore 11, 2) := by decide +kernel
theorem dX8_adds_26 : decode cX8_adds 26 = .ok (.aload_n 0, 1) := by decide +kernel
theorem dX8_adds_27 : decode cX8_adds 27 = .ok (.aload_n 0, 1) := by decide +kernel
theorem dX8_adds_28 : decode cX8_adds 28 = .ok (.getfield 227, 3) := by decide +kernel
theorem dX8_adds_31 : decode cX8_adds 31 = .ok (.lload 9, 2) := by decide +kernel
theorem dX8_adds_33 : decode cX8_adds 33 = .ok (.lload 11, 2) := by decide +kernel
theorem dX8_adds_35 : decode cX8_adds 35 = .ok (.ldiv, 1) := by decide +kernel
theorem dX8_adds_36 : decode cX8_adds 36 = .ok (.lmul, 1) := by decide +kernel
theorem dX8_adds_37 : decode cX8_adds 37 = .ok (.lload_n 1, 1) := by decide +kernel
theorem dX8_adds_38 : decode cX8_adds 38 = .ok (.lload 7, 2) := by decide +kernel
theorem dX8_adds_40 : decode cX8_adds 40 = .ok (.ldiv, 1) := by decide +kernel
theorem dX8_adds_41 : decode cX8_adds 41 = .ok (.aload_n 0, 1) := by decide +kernel
theorem dX8_adds_42 : decode cX8_adds 42 = .ok (.getfield 224, 3) := by decide +kernel
theorem dX8_adds_45 : decode cX8_adds 45 = .ok (.lload 11, 2) := by decide +kernel
theorem dX8_adds_47 : decode cX8_adds 47 = .ok (.ldiv, 1) := by decide +kernel
theorem dX8_adds_48 : decode cX8_adds 48 = .ok (.lmul, 1) := by decide +kernel
theorem dX8_adds_49 : decode cX8_adds 49 = .ok (.ladd, 1) := by decide +kernel
theorem dX8_adds_50 : decode cX8_adds 50 = .ok (.putfield 227, 3) := by decide +kernel
theorem dX8_adds_53 : decode cX8_adds 53 = .ok (.aload_n 0, 1) := by decide +kernel
theorem dX8_adds_54 : decode cX8_adds 54 = .ok (.aload_n 0, 1) := by decide +kernel
theorem dX8_adds_55 : decode cX8_adds 55 = .ok (.getfield 224, 3) := by decide +kernel
theorem dX8_adds_58 : decode cX8_adds 58 = .ok (.lload 11, 2) := by decide +kernel
theorem dX8_adds_60 : decode cX8_adds 60 = .ok (.ldiv, 1) := by decide +kernel
theorem dX8_adds_61 : decode cX8_adds 61 = .ok (.lload 9, 2) := by decide +kernel
theorem dX8_adds_63 : decode cX8_adds 63 = .ok (.lmul, 1) := by decide +kernel
theorem dX8_adds_64 : decode cX8_adds 64 = .ok (.putfield 224, 3) := by decide +kernel
theorem dX8_adds_67 : decode cX8_adds 67 = .ok (.aload_n 0, 1) := by decide +kernel
theorem dX8_adds_68 : decode cX8_adds 68 = .ok (.getfield 227, 3) := by decide +kernel
theorem dX8_adds_71 : decode cX8_adds 71 = .ok (.aload_n 0, 1) := by decide +kernel
theorem dX8_adds_72 : decode cX8_adds 72 = .ok (.getfield 224, 3) := by decide +kernel
theorem dX8_adds_75 : decode cX8_adds 75 = .ok (.invokestatic 135, 3) := by decide +kernel
theorem dX8_adds_78 : decode cX8_adds 78 = .ok (.lstore 11, 2) := by decide +kernel
theorem dX8_adds_80 : decode cX8_adds 80 = .ok (.aload_n 0, 1) := by decide +kernel
theorem dX8_adds_81 : decode cX8_adds 81 = .ok (.dup, 1) := by decide +kernel
theorem dX8_adds_82 : decode cX8_adds 82 = .ok (.getfield 227, 3) := by decide +kernel
theorem dX8_adds_85 : decode cX8_adds 85 = .ok (.lload 11, 2) := by decide +kernel
theorem dX8_adds_87 : decode cX8_adds 87 = .ok (.ldiv, 1) := by decide +kernel
theorem dX8_adds_88 : decode cX8_adds 88 = .ok (.putfield 227, 3) := by decide +kernel
theorem dX8_adds_91 : decode cX8_adds 91 = .ok (.aload_n 0, 1) := by decide +kernel
theorem dX8_adds_92 : decode cX8_adds 92 = .ok (.dup, 1) := by decide +kernel
theorem dX8_adds_93 : decode cX8_adds 93 = .ok (.getfield 224, 3) := by decide +kernel
theorem dX8_adds_96 : decode cX8_adds 96 = .ok (.lload 11, 2) := by decide +kernel
theorem dX8_adds_98 : decode cX8_adds 98 = .ok (.ldiv, 1) := by decide +kernel
theorem dX8_adds_99 : decode cX8_adds 99 = .ok (.putfield 224, 3) := by decide +kernel
theorem dX8_adds_102 : decode cX8_adds 102 = .ok (.lload_n 3, 1) := by decide +kernel
theorem dX8_adds_103 : decode cX8_adds 103 = .ok (.lload 5, 2) := by decide +kernel
theorem dX8_adds_105 : decode cX8_adds 105 = .ok (.invokestatic 135, 3) := by decide +kernel
theorem dX8_adds_108 : decode cX8_adds 108 = .ok (.lstore 7, 2) := by decide +kernel
theorem dX8_adds_110 : decode cX8_adds 110 = .ok (.lload 5, 2) := by decide +kernel
theorem dX8_adds_112 : decode cX8_adds 112 = .ok (.lload 7, 2) := by decide +kernel
theorem dX8_adds_114 : decode cX8_adds 114 = .ok (.ldiv, 1) := by decide +kernel
theorem dX8_adds_115 : decode cX8_adds 115 = .ok (.lstore 13, 2) := by decide +kernel
theorem dX8_adds_117 : decode cX8_adds 117 = .ok (.aload_n 0, 1) := by decide +kernel
theorem dX8_adds_118 : decode cX8_adds 118 = .ok (.getfield 230, 3) := by decide +kernel
theorem dX8_adds_121 : decode cX8_adds 121 = .ok (.lload 13, 2) := by decide +kernel
theorem dX8_adds_123 : decode cX8_adds 123 = .ok (.invokestatic 135, 3) := by decide +kernel
theorem dX8_adds_126 : decode cX8_adds 126 = .ok (.lstore 11, 2) := by decide +kernel
theorem dX8_adds_128 : decode cX8_adds 128 = .ok (.aload_n 0, 1) := by decide +kernel
theorem dX8_adds_129 : decode cX8_adds 129 = .ok (.aload_n 0, 1) := by decide +kernel
theorem dX8_adds_130 : decode cX8_adds 130 = .ok (.getfield 233, 3) := by decide +kernel
theorem dX8_adds_133 : decode cX8_adds 133 = .ok (.lload 13, 2) := by decide +kernel
theorem dX8_adds_135 : decode cX8_adds 135 = .ok (.lload 11, 2) := by decide +kernel
theorem dX8_adds_137 : decode cX8_adds 137 = .ok (.ldiv, 1) := by decide +kernel
theorem dX8_adds_138 : decode cX8_adds 138 = .ok (.lmul, 1) := by decide +kernel
theorem dX8_adds_139 : decode cX8_adds 139 = .ok (.lload_n 3, 1) := by decide +kernel
theorem dX8_adds_140 : decode cX8_adds 140 = .ok (.lload 7, 2) := by decide +kernel
theorem dX8_adds_142 : decode cX8_adds 142 = .ok (.ldiv, 1) := by decide +kernel
theorem dX8_adds_143 : decode cX8_adds 143 = .ok (.aload_n 0, 1) := by decide +kernel
theorem dX8_adds_144 : decode cX8_adds 144 = .ok (.getfield 230, 3) := by decide +kernel
theorem dX8_adds_147 : decode cX8_adds 147 = .ok (.lload 11, 2) := by decide +kernel
theorem dX8_adds_149 : decode cX8_adds 149 = .ok (.ldiv, 1) := by decide +kernel
theorem dX8_adds_150 : decode cX8_adds 150 = .ok (.lmul, 1) := by decide +kernel
theorem dX8_adds_151 : decode cX8_adds 151 = .ok (.ladd, 1) := by decide +kernel
theorem dX8_adds_152 : decode cX8_adds 152 = .ok (.putfield 233, 3) := by decide +kernel
theorem dX8_adds_155 : decode cX8_adds 155 = .ok (.aload_n 0, 1) := by decide +kernel
theorem dX8_adds_156 : decode cX8_adds 156 = .ok (.aload_n 0, 1) := by decide +kernel
theorem dX8_adds_157 : decode cX8_adds 157 = .ok (.getfield 230, 3) := by decide +kernel
theorem dX8_adds_160 : decode cX8_adds 160 = .ok (.lload 11, 2) := by decide +kernel
theorem dX8_adds_162 : decode cX8_adds 162 = .ok (.ldiv, 1) := by decide +kernel
theorem dX8_adds_163 : decode cX8_adds 163 = .ok (.lload 13, 2) := by decide +kernel
theorem dX8_adds_165 : decode cX8_adds 165 = .ok (.lmul, 1) := by decide +kernel
theorem dX8_adds_166 : decode cX8_adds 166 = .ok (.putfield 230, 3) := by decide +kernel
theorem dX8_adds_169 : decode cX8_adds 169 = .ok (.aload_n 0, 1) := by decide +kernel
theorem dX8_adds_170 : decode cX8_adds 170 = .ok (.getfield 233, 3) := by decide +kernel
theorem dX8_adds_173 : decode cX8_adds 173 = .ok (.aload_n 0, 1) := by decide +kernel
theorem dX8_adds_174 : decode cX8_adds 174 = .ok (.getfield 230, 3) := by decide +kernel
theorem dX8_adds_177 : decode cX8_adds 177 = .ok (.invokestatic 135, 3) := by decide +kernel
theorem dX8_adds_180 : decode cX8_adds 180 = .ok (.lstore 11, 2) := by decide +kernel
theorem dX8_adds_182 : decode cX8_adds 182 = .ok (.aload_n 0, 1) := by decide +kernel
theorem dX8_adds_183 : decode cX8_adds 183 = .ok (.dup, 1) := by decide +kernel
theorem dX8_adds_184 : decode cX8_adds 184 = .ok (.getfield 233, 3) := by decide +kernel
theorem dX8_adds_187 : decode cX8_adds 187 = .ok (.lload 11, 2) := by decide +kernel
theorem dX8_adds_189 : decode cX8_adds 189 = .ok (.ldiv, 1) := by decide +kernel
theorem dX8_adds_190 : decode cX8_adds 190 = .ok (.putfield 233, 3) := by decide +kernel
theorem dX8_adds_193 : decode cX8_adds 193 = .ok (.aload_n 0, 1) := by decide +kernel
theorem dX8_adds_194 : decode cX8_adds 194 = .ok (.dup, 1) := by decide +kernel
theorem dX8_adds_195 : decode cX8_adds 195 = .ok (.getfield 230, 3) := by decide +kernel
theorem dX8_adds_198 : decode cX8_adds 198 = .ok (.lload 11, 2) := by decide +kernel
theorem dX8_adds_200 : decode cX8_adds 200 = .ok (.ldiv, 1) := by decide +kernel
theorem dX8_adds_201 : decode cX8_adds 201 = .ok (.putfield 230, 3) := by decide +kernel
theorem dX8_adds_204 : decode cX8_adds 204 = .ok (.return_, 1) := by decide +kernel
theorem dX8_tellsLost_0 : decode cX8_tellsLost 0 = .ok (.aload_n 0, 1) := by decide +kernel
theorem dX8_tellsLost_1 : decode cX8_tellsLost 1 = .ok (.iload_n 1, 1) := by decide +kernel
theorem dX8_tellsLost_2 : decode cX8_tellsLost 2 = .ok (.invokevirtual 221, 3) := by decide +kernel
theorem dX8_tellsLost_5 : decode cX8_tellsLost 5 = .ok (.aload_n 0, 1) := by decide +kernel
theorem dX8_tellsLost_6 : decode cX8_tellsLost 6 = .ok (.lconst 0, 1) := by decide +kernel
theorem dX8_tellsLost_7 : decode cX8_tellsLost 7 = .ok (.putfield 227, 3) := by decide +kernel
theorem dX8_tellsLost_10 : decode cX8_tellsLost 10 = .ok (.aload_n 0, 1) := by decide +kernel
theorem dX8_tellsLost_11 : decode cX8_tellsLost 11 = .ok (.lconst 0, 1) := by decide +kernel
theorem dX8_tellsLost_12 : decode cX8_tellsLost 12 = .ok (.putfield 233, 3) := by decide +kernel
theorem dX8_tellsLost_15 : decode cX8_tellsLost 15 = .ok (.aload_n 0, 1) := by decide +kernel
theorem dX8_tellsLost_16 : decode cX8_tellsLost 16 = .ok (.lconst 1, 1) := by decide +kernel
theorem dX8_tellsLost_17 : decode cX8_tellsLost 17 = .ok (.putfield 224, 3) := by decide +kernel
theorem dX8_tellsLost_20 : decode cX8_tellsLost 20 = .ok (.aload_n 0, 1) := by decide +kernel
theorem dX8_tellsLost_21 : decode cX8_tellsLost 21 = .ok (.lconst 1, 1) := by decide +kernel
theorem dX8_tellsLost_22 : decode cX8_tellsLost 22 = .ok (.putfield 230, 3) := by decide +kernel
theorem dX8_tellsLost_25 : decode cX8_tellsLost 25 = .ok (.iconst 0, 1) := by decide +kernel
theorem dX8_tellsLost_26 : decode cX8_tellsLost 26 = .ok (.istore_n 3, 1) := by decide +kernel
theorem dX8_tellsLost_27 : decode cX8_tellsLost 27 = .ok (.iload_n 3, 1) := by decide +kernel
theorem dX8_tellsLost_28 : decode cX8_tellsLost 28 = .ok (.aload_n 0, 1) := by decide +kernel
theorem dX8_tellsLost_29 : decode cX8_tellsLost 29 = .ok (.getfield 218, 3) := by decide +kernel
theorem dX8_tellsLost_32 : decode cX8_tellsLost 32 = .ok (.if_icmp .ge 86, 3) := by decide +kernel
theorem dX8_tellsLost_35 : decode cX8_tellsLost 35 = .ok (.aload_n 0, 1) := by decide +kernel
theorem dX8_tellsLost_36 : decode cX8_tellsLost 36 = .ok (.getfield 48, 3) := by decide +kernel
theorem dX8_tellsLost_39 : decode cX8_tellsLost 39 = .ok (.iload_n 3, 1) := by decide +kernel
theorem dX8_tellsLost_40 : decode cX8_tellsLost 40 = .ok (.iaload, 1) := by decide +kernel
theorem dX8_tellsLost_41 : decode cX8_tellsLost 41 = .ok (.istore 4, 2) := by decide +kernel
theorem dX8_tellsLost_43 : decode cX8_tellsLost 43 = .ok (.iload 4, 2) := by decide +kernel
theorem dX8_tellsLost_45 : decode cX8_tellsLost 45 = .ok (.iload_n 2, 1) := by decide +kernel
theorem dX8_tellsLost_46 : decode cX8_tellsLost 46 = .ok (.if_icmp .ne 6, 3) := by decide +kernel
theorem dX8_tellsLost_49 : decode cX8_tellsLost 49 = .ok (.goto 63, 3) := by decide +kernel
theorem dX8_tellsLost_52 : decode cX8_tellsLost 52 = .ok (.aload_n 0, 1) := by decide +kernel
theorem dX8_tellsLost_53 : decode cX8_tellsLost 53 = .ok (.iload 4, 2) := by decide +kernel
theorem dX8_tellsLost_55 : decode cX8_tellsLost 55 = .ok (.aload_n 0, 1) := by decide +kernel
theorem dX8_tellsLost_56 : decode cX8_tellsLost 56 = .ok (.iload_n 1, 1) := by decide +kernel
theorem dX8_tellsLost_57 : decode cX8_tellsLost 57 = .ok (.iconst 0, 1) := by decide +kernel
theorem dX8_tellsLost_58 : decode cX8_tellsLost 58 = .ok (.invokevirtual 185, 3) := by decide +kernel
theorem dX8_tellsLost_61 : decode cX8_tellsLost 61 = .ok (.aload_n 0, 1) := by decide +kernel
theorem dX8_tellsLost_62 : decode cX8_tellsLost 62 = .ok (.iload_n 1, 1) := by decide +kernel
theorem dX8_tellsLost_63 : decode cX8_tellsLost 63 = .ok (.iconst 1, 1) := by decide +kernel
theorem dX8_tellsLost_64 : decode cX8_tellsLost 64 = .ok (.invokevirtual 185, 3) := by decide +kernel
theorem dX8_tellsLost_67 : decode cX8_tellsLost 67 = .ok (.invokevirtual 211, 3) := by decide +kernel
theorem dX8_tellsLost_70 : decode cX8_tellsLost 70 = .ok (.iload 4, 2) := by decide +kernel
theorem dX8_tellsLost_72 : decode cX8_tellsLost 72 = .ok (.aload_n 0, 1) := by decide +kernel
theorem dX8_tellsLost_73 : decode cX8_tellsLost 73 = .ok (.iload_n 1, 1) := by decide +kernel
theorem dX8_tellsLost_74 : decode cX8_tellsLost 74 = .ok (.iconst 2, 1) := by decide +kernel
theorem dX8_tellsLost_75 : decode cX8_tellsLost 75 = .ok (.invokevirtual 185, 3) := by decide +kernel
theorem dX8_tellsLost_78 : decode cX8_tellsLost 78 = .ok (.if_icmp .ne 7, 3) := by decide +kernel
theorem dX8_tellsLost_81 : decode cX8_tellsLost 81 = .ok (.lconst 1, 1) := by decide +kernel
theorem dX8_tellsLost_82 : decode cX8_tellsLost 82 = .ok (.goto 6, 3) := by decide +kernel
theorem dX8_tellsLost_85 : decode cX8_tellsLost 85 = .ok (.ldc2_w 159, 3) := by decide +kernel
theorem dX8_tellsLost_88 : decode cX8_tellsLost 88 = .ok (.lstore 5, 2) := by decide +kernel
theorem dX8_tellsLost_90 : decode cX8_tellsLost 90 = .ok (.aload_n 0, 1) := by decide +kernel
theorem dX8_tellsLost_91 : decode cX8_tellsLost 91 = .ok (.lload 5, 2) := by decide +kernel
theorem dX8_tellsLost_93 : decode cX8_tellsLost 93 = .ok (.aload_n 0, 1) := by decide +kernel
theorem dX8_tellsLost_94 : decode cX8_tellsLost 94 = .ok (.getfield 129, 3) := by decide +kernel
theorem dX8_tellsLost_97 : decode cX8_tellsLost 97 = .ok (.lmul, 1) := by decide +kernel
theorem dX8_tellsLost_98 : decode cX8_tellsLost 98 = .ok (.lload 5, 2) := by decide +kernel
theorem dX8_tellsLost_100 : decode cX8_tellsLost 100 = .ok (.aload_n 0, 1) := by decide +kernel
theorem dX8_tellsLost_101 : decode cX8_tellsLost 101 = .ok (.getfield 132, 3) := by decide +kernel
theorem dX8_tellsLost_104 : decode cX8_tellsLost 104 = .ok (.lmul, 1) := by decide +kernel
theorem dX8_tellsLost_105 : decode cX8_tellsLost 105 = .ok (.aload_n 0, 1) := by decide +kernel
theorem dX8_tellsLost_106 : decode cX8_tellsLost 106 = .ok (.getfield 115, 3) := by decide +kernel
theorem dX8_tellsLost_109 : decode cX8_tellsLost 109 = .ok (.invokevirtual 236, 3) := by decide +kernel
theorem dX8_tellsLost_112 : decode cX8_tellsLost 112 = .ok (.iinc 3 1, 3) := by decide +kernel
theorem dX8_tellsLost_115 : decode cX8_tellsLost 115 = .ok (.goto (-88), 3) := by decide +kernel
theorem dX8_tellsLost_118 : decode cX8_tellsLost 118 = .ok (.return_, 1) := by decide +kernel
theorem dX8_strength_0 : decode cX8_strength 0 = .ok (.lload_n 0, 1) := by decide +kernel
theorem dX8_strength_1 : decode cX8_strength 1 = .ok (.lload_n 2, 1) := by decide +kernel
theorem dX8_strength_2 : decode cX8_strength 2 = .ok (.ldiv, 1) := by decide +kernel
theorem dX8_strength_3 : decode cX8_strength 3 = .ok (.lstore 8, 2) := by decide +kernel
theorem dX8_strength_5 : decode cX8_strength 5 = .ok (.lload 4, 2) := by decide +kernel
theorem dX8_strength_7 : decode cX8_strength 7 = .ok (.lload 6, 2) := by decide +kernel
theorem dX8_strength_9 : decode cX8_strength 9 = .ok (.ldiv, 1) := by decide +kernel
theorem dX8_strength_10 : decode cX8_strength 10 = .ok (.lstore 10, 2) := by decide +kernel
theorem dX8_strength_12 : decode cX8_strength 12 = .ok (.lload 8, 2) := by decide +kernel
theorem dX8_strength_14 : decode cX8_strength 14 = .ok (.lload 8, 2) := by decide +kernel
theorem dX8_strength_16 : decode cX8_strength 16 = .ok (.lmul, 1) := by decide +kernel
theorem dX8_strength_17 : decode cX8_strength 17 = .ok (.lload 10, 2) := by decide +kernel
theorem dX8_strength_19 : decode cX8_strength 19 = .ok (.lload 10, 2) := by decide +kernel
theorem dX8_strength_21 : decode cX8_strength 21 = .ok (.lmul, 1) := by decide +kernel
theorem dX8_strength_22 : decode cX8_strength 22 = .ok (.ladd, 1) := by decide +kernel
theorem dX8_strength_23 : decode cX8_strength 23 = .ok (.lreturn, 1) := by decide +kernel
theorem dX8_lost_0 : decode cX8_lost 0 = .ok (.aload_n 0, 1) := by decide +kernel
theorem dX8_lost_1 : decode cX8_lost 1 = .ok (.iload_n 1, 1) := by decide +kernel
theorem dX8_lost_2 : decode cX8_lost 2 = .ok (.invokevirtual 192, 3) := by decide +kernel
theorem dX8_lost_5 : decode cX8_lost 5 = .ok (.ifCond .eq 33, 3) := by decide +kernel
theorem dX8_lost_8 : decode cX8_lost 8 = .ok (.iload_n 2, 1) := by decide +kernel
theorem dX8_lost_9 : decode cX8_lost 9 = .ok (.i2l, 1) := by decide +kernel
theorem dX8_lost_10 : decode cX8_lost 10 = .ok (.lconst 0, 1) := by decide +kernel
theorem dX8_lost_11 : decode cX8_lost 11 = .ok (.ldc2_w 113, 3) := by decide +kernel
theorem dX8_lost_14 : decode cX8_lost 14 = .ok (.invokestatic 13, 3) := by decide +kernel
theorem dX8_lost_17 : decode cX8_lost 17 = .ok (.ifCond .eq 21, 3) := by decide +kernel
theorem dX8_lost_20 : decode cX8_lost 20 = .ok (.iload_n 3, 1) := by decide +kernel
theorem dX8_lost_21 : decode cX8_lost 21 = .ok (.i2l, 1) := by decide +kernel
theorem dX8_lost_22 : decode cX8_lost 22 = .ok (.lconst 0, 1) := by decide +kernel
theorem dX8_lost_23 : decode cX8_lost 23 = .ok (.lconst 1, 1) := by decide +kernel
theorem dX8_lost_24 : decode cX8_lost 24 = .ok (.invokestatic 13, 3) := by decide +kernel
theorem dX8_lost_27 : decode cX8_lost 27 = .ok (.ifCond .eq 11, 3) := by decide +kernel
theorem dX8_lost_30 : decode cX8_lost 30 = .ok (.aload_n 0, 1) := by decide +kernel
theorem dX8_lost_31 : decode cX8_lost 31 = .ok (.iload_n 1, 1) := by decide +kernel
theorem dX8_lost_32 : decode cX8_lost 32 = .ok (.invokevirtual 240, 3) := by decide +kernel
theorem dX8_lost_35 : decode cX8_lost 35 = .ok (.ifCond .ne 7, 3) := by decide +kernel
theorem dX8_lost_38 : decode cX8_lost 38 = .ok (.ldc2_w 190, 3) := by decide +kernel
theorem dX8_lost_41 : decode cX8_lost 41 = .ok (.lreturn, 1) := by decide +kernel
theorem dX8_lost_42 : decode cX8_lost 42 = .ok (.aload_n 0, 1) := by decide +kernel
theorem dX8_lost_43 : decode cX8_lost 43 = .ok (.iload_n 1, 1) := by decide +kernel
theorem dX8_lost_44 : decode cX8_lost 44 = .ok (.iconst (-1), 1) := by decide +kernel
theorem dX8_lost_45 : decode cX8_lost 45 = .ok (.invokevirtual 243, 3) := by decide +kernel
theorem dX8_lost_48 : decode cX8_lost 48 = .ok (.iload_n 2, 1) := by decide +kernel
theorem dX8_lost_49 : decode cX8_lost 49 = .ok (.iconst 2, 1) := by decide +kernel
theorem dX8_lost_50 : decode cX8_lost 50 = .ok (.if_icmp .ne 31, 3) := by decide +kernel
theorem dX8_lost_53 : decode cX8_lost 53 = .ok (.iload_n 3, 1) := by decide +kernel
theorem dX8_lost_54 : decode cX8_lost 54 = .ok (.ifCond .ne 25, 3) := by decide +kernel
theorem dX8_lost_57 : decode cX8_lost 57 = .ok (.aload_n 0, 1) := by decide +kernel
theorem dX8_lost_58 : decode cX8_lost 58 = .ok (.getfield 227, 3) := by decide +kernel
theorem dX8_lost_61 : decode cX8_lost 61 = .ok (.aload_n 0, 1) := by decide +kernel
theorem dX8_lost_62 : decode cX8_lost 62 = .ok (.getfield 224, 3) := by decide +kernel
theorem dX8_lost_65 : decode cX8_lost 65 = .ok (.aload_n 0, 1) := by decide +kernel
theorem dX8_lost_66 : decode cX8_lost 66 = .ok (.getfield 233, 3) := by decide +kernel
theorem dX8_lost_69 : decode cX8_lost 69 = .ok (.aload_n 0, 1) := by decide +kernel
theorem dX8_lost_70 : decode cX8_lost 70 = .ok (.getfield 230, 3) := by decide +kernel
theorem dX8_lost_73 : decode cX8_lost 73 = .ok (.invokestatic 247, 3) := by decide +kernel
theorem dX8_lost_76 : decode cX8_lost 76 = .ok (.goto 4, 3) := by decide +kernel
theorem dX8_lost_79 : decode cX8_lost 79 = .ok (.lconst 1, 1) := by decide +kernel
theorem dX8_lost_80 : decode cX8_lost 80 = .ok (.lreturn, 1) := by decide +kernel
theorem dX8_lost_81 : decode cX8_lost 81 = .ok (.iload_n 2, 1) := by decide +kernel
theorem dX8_lost_82 : decode cX8_lost 82 = .ok (.ifCond .ne 21, 3) := by decide +kernel
theorem dX8_lost_85 : decode cX8_lost 85 = .ok (.iload_n 3, 1) := by decide +kernel
theorem dX8_lost_86 : decode cX8_lost 86 = .ok (.ifCond .ne 10, 3) := by decide +kernel
theorem dX8_lost_89 : decode cX8_lost 89 = .ok (.aload_n 0, 1) := by decide +kernel
theorem dX8_lost_90 : decode cX8_lost 90 = .ok (.getfield 227, 3) := by decide +kernel
theorem dX8_lost_93 : decode cX8_lost 93 = .ok (.goto 25, 3) := by decide +kernel
theorem dX8_lost_96 : decode cX8_lost 96 = .ok (.aload_n 0, 1) := by decide +kernel
theorem dX8_lost_97 : decode cX8_lost 97 = .ok (.getfield 224, 3) := by decide +kernel
theorem dX8_lost_100 : decode cX8_lost 100 = .ok (.goto 18, 3) := by decide +kernel
theorem dX8_lost_103 : decode cX8_lost 103 = .ok (.iload_n 3, 1) := by decide +kernel
theorem dX8_lost_104 : decode cX8_lost 104 = .ok (.ifCond .ne 10, 3) := by decide +kernel
theorem dX8_lost_107 : decode cX8_lost 107 = .ok (.aload_n 0, 1) := by decide +kernel
theorem dX8_lost_108 : decode cX8_lost 108 = .ok (.getfield 233, 3) := by decide +kernel
theorem dX8_lost_111 : decode cX8_lost 111 = .ok (.goto 7, 3) := by decide +kernel
theorem dX8_lost_114 : decode cX8_lost 114 = .ok (.aload_n 0, 1) := by decide +kernel
theorem dX8_lost_115 : decode cX8_lost 115 = .ok (.getfield 230, 3) := by decide +kernel
theorem dX8_lost_118 : decode cX8_lost 118 = .ok (.lreturn, 1) := by decide +kernel
theorem dX8_isNothing_0 : decode cX8_isNothing 0 = .ok (.aload_n 0, 1) := by decide +kernel
theorem dX8_isNothing_1 : decode cX8_isNothing 1 = .ok (.getfield 227, 3) := by decide +kernel
theorem dX8_isNothing_4 : decode cX8_isNothing 4 = .ok (.lconst 0, 1) := by decide +kernel
theorem dX8_isNothing_5 : decode cX8_isNothing 5 = .ok (.lcmp, 1) := by decide +kernel
theorem dX8_isNothing_6 : decode cX8_isNothing 6 = .ok (.ifCond .ne 16, 3) := by decide +kernel
theorem dX8_isNothing_9 : decode cX8_isNothing 9 = .ok (.aload_n 0, 1) := by decide +kernel
theorem dX8_isNothing_10 : decode cX8_isNothing 10 = .ok (.getfield 233, 3) := by decide +kernel
theorem dX8_isNothing_13 : decode cX8_isNothing 13 = .ok (.lconst 0, 1) := by decide +kernel
theorem dX8_isNothing_14 : decode cX8_isNothing 14 = .ok (.lcmp, 1) := by decide +kernel
theorem dX8_isNothing_15 : decode cX8_isNothing 15 = .ok (.ifCond .ne 7, 3) := by decide +kernel
theorem dX8_isNothing_18 : decode cX8_isNothing 18 = .ok (.iconst 1, 1) := by decide +kernel
theorem dX8_isNothing_19 : decode cX8_isNothing 19 = .ok (.goto 4, 3) := by decide +kernel
theorem dX8_isNothing_22 : decode cX8_isNothing 22 = .ok (.iconst 0, 1) := by decide +kernel
theorem dX8_isNothing_23 : decode cX8_isNothing 23 = .ok (.ireturn, 1) := by decide +kernel
theorem dX8_even_0 : decode cX8_even 0 = .ok (.aload_n 0, 1) := by decide +kernel
theorem dX8_even_1 : decode cX8_even 1 = .ok (.iload_n 1, 1) := by decide +kernel
theorem dX8_even_2 : decode cX8_even 2 = .ok (.invokevirtual 192, 3) := by decide +kernel
theorem dX8_even_5 : decode cX8_even 5 = .ok (.ifCond .ne 5, 3) := by decide +kernel
theorem dX8_even_8 : decode cX8_even 8 = .ok (.iconst (-1), 1) := by decide +kernel
theorem dX8_even_9 : decode cX8_even 9 = .ok (.ireturn, 1) := by decide +kernel
theorem dX8_even_10 : decode cX8_even 10 = .ok (.aload_n 0, 1) := by decide +kernel
theorem dX8_even_11 : decode cX8_even 11 = .ok (.iload_n 1, 1) := by decide +kernel
theorem dX8_even_12 : decode cX8_even 12 = .ok (.invokevirtual 240, 3) := by decide +kernel
theorem dX8_even_15 : decode cX8_even 15 = .ok (.ifCond .ne 6, 3) := by decide +kernel
theorem dX8_even_18 : decode cX8_even 18 = .ok (.bipush (-2), 2) := by decide +kernel
theorem dX8_even_20 : decode cX8_even 20 = .ok (.ireturn, 1) := by decide +kernel
theorem dX8_even_21 : decode cX8_even 21 = .ok (.aload_n 0, 1) := by decide +kernel
theorem dX8_even_22 : decode cX8_even 22 = .ok (.iload_n 1, 1) := by decide +kernel
theorem dX8_even_23 : decode cX8_even 23 = .ok (.iconst (-1), 1) := by decide +kernel
theorem dX8_even_24 : decode cX8_even 24 = .ok (.invokevirtual 243, 3) := by decide +kernel
theorem dX8_even_27 : decode cX8_even 27 = .ok (.aload_n 0, 1) := by decide +kernel
theorem dX8_even_28 : decode cX8_even 28 = .ok (.invokevirtual 251, 3) := by decide +kernel
theorem dX8_even_31 : decode cX8_even 31 = .ok (.ifCond .eq 7, 3) := by decide +kernel
theorem dX8_even_34 : decode cX8_even 34 = .ok (.iconst 1, 1) := by decide +kernel
theorem dX8_even_35 : decode cX8_even 35 = .ok (.goto 4, 3) := by decide +kernel
theorem dX8_even_38 : decode cX8_even 38 = .ok (.iconst 0, 1) := by decide +kernel
theorem dX8_even_39 : decode cX8_even 39 = .ok (.ireturn, 1) := by decide +kernel
theorem dX8_canCome_0 : decode cX8_canCome 0 = .ok (.aload_n 0, 1) := by decide +kernel
theorem dX8_canCome_1 : decode cX8_canCome 1 = .ok (.iload_n 1, 1) := by decide +kernel
theorem dX8_canCome_2 : decode cX8_canCome 2 = .ok (.iconst 0, 1) := by decide +kernel
theorem dX8_canCome_3 : decode cX8_canCome 3 = .ok (.invokevirtual 185, 3) := by decide +kernel
theorem dX8_canCome_6 : decode cX8_canCome 6 = .ok (.aload_n 0, 1) := by decide +kernel
theorem dX8_canCome_7 : decode cX8_canCome 7 = .ok (.iload_n 2, 1) := by decide +kernel
theorem dX8_canCome_8 : decode cX8_canCome 8 = .ok (.iconst 0, 1) := by decide +kernel
theorem dX8_canCome_9 : decode cX8_canCome 9 = .ok (.invokevirtual 185, 3) := by decide +kernel
theorem dX8_canCome_12 : decode cX8_canCome 12 = .ok (.isub, 1) := by decide +kernel
theorem dX8_canCome_13 : decode cX8_canCome 13 = .ok (.i2l, 1) := by decide +kernel
theorem dX8_canCome_14 : decode cX8_canCome 14 = .ok (.lstore_n 3, 1) := by decide +kernel
theorem dX8_canCome_15 : decode cX8_canCome 15 = .ok (.aload_n 0, 1) := by decide +kernel
theorem dX8_canCome_16 : decode cX8_canCome 16 = .ok (.iload_n 1, 1) := by decide +kernel
theorem dX8_canCome_17 : decode cX8_canCome 17 = .ok (.iconst 1, 1) := by decide +kernel
theorem dX8_canCome_18 : decode cX8_canCome 18 = .ok (.invokevirtual 185, 3) := by decide +kernel
theorem dX8_canCome_21 : decode cX8_canCome 21 = .ok (.aload_n 0, 1) := by decide +kernel
