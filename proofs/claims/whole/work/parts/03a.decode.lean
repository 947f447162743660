theorem dX0_init_0 : decode cX0_init 0 = .ok (.aload_n 0, 1) := by decide +kernel
theorem dX0_init_1 : decode cX0_init 1 = .ok (.invokespecial 1, 3) := by decide +kernel
theorem dX0_init_4 : decode cX0_init 4 = .ok (.return_, 1) := by decide +kernel
theorem dX0_lay_0 : decode cX0_lay 0 = .ok (.aload_n 1, 1) := by decide +kernel
theorem dX0_lay_1 : decode cX0_lay 1 = .ok (.iload_n 2, 1) := by decide +kernel
theorem dX0_lay_2 : decode cX0_lay 2 = .ok (.iaload, 1) := by decide +kernel
theorem dX0_lay_3 : decode cX0_lay 3 = .ok (.i2l, 1) := by decide +kernel
theorem dX0_lay_4 : decode cX0_lay 4 = .ok (.lstore_n 3, 1) := by decide +kernel
theorem dX0_lay_5 : decode cX0_lay 5 = .ok (.aload_n 1, 1) := by decide +kernel
theorem dX0_lay_6 : decode cX0_lay 6 = .ok (.iload_n 2, 1) := by decide +kernel
theorem dX0_lay_7 : decode cX0_lay 7 = .ok (.iconst 1, 1) := by decide +kernel
theorem dX0_lay_8 : decode cX0_lay 8 = .ok (.iadd, 1) := by decide +kernel
theorem dX0_lay_9 : decode cX0_lay 9 = .ok (.iaload, 1) := by decide +kernel
theorem dX0_lay_10 : decode cX0_lay 10 = .ok (.i2l, 1) := by decide +kernel
theorem dX0_lay_11 : decode cX0_lay 11 = .ok (.lstore 5, 2) := by decide +kernel
theorem dX0_lay_13 : decode cX0_lay 13 = .ok (.aload_n 1, 1) := by decide +kernel
theorem dX0_lay_14 : decode cX0_lay 14 = .ok (.iload_n 2, 1) := by decide +kernel
theorem dX0_lay_15 : decode cX0_lay 15 = .ok (.iconst 2, 1) := by decide +kernel
theorem dX0_lay_16 : decode cX0_lay 16 = .ok (.iadd, 1) := by decide +kernel
theorem dX0_lay_17 : decode cX0_lay 17 = .ok (.iaload, 1) := by decide +kernel
theorem dX0_lay_18 : decode cX0_lay 18 = .ok (.i2l, 1) := by decide +kernel
theorem dX0_lay_19 : decode cX0_lay 19 = .ok (.lload_n 3, 1) := by decide +kernel
theorem dX0_lay_20 : decode cX0_lay 20 = .ok (.lsub, 1) := by decide +kernel
theorem dX0_lay_21 : decode cX0_lay 21 = .ok (.lstore 7, 2) := by decide +kernel
theorem dX0_lay_23 : decode cX0_lay 23 = .ok (.aload_n 1, 1) := by decide +kernel
theorem dX0_lay_24 : decode cX0_lay 24 = .ok (.iload_n 2, 1) := by decide +kernel
theorem dX0_lay_25 : decode cX0_lay 25 = .ok (.iconst 3, 1) := by decide +kernel
theorem dX0_lay_26 : decode cX0_lay 26 = .ok (.iadd, 1) := by decide +kernel
theorem dX0_lay_27 : decode cX0_lay 27 = .ok (.iaload, 1) := by decide +kernel
theorem dX0_lay_28 : decode cX0_lay 28 = .ok (.i2l, 1) := by decide +kernel
theorem dX0_lay_29 : decode cX0_lay 29 = .ok (.lload 5, 2) := by decide +kernel
theorem dX0_lay_31 : decode cX0_lay 31 = .ok (.lsub, 1) := by decide +kernel
theorem dX0_lay_32 : decode cX0_lay 32 = .ok (.lstore 9, 2) := by decide +kernel
theorem dX0_lay_34 : decode cX0_lay 34 = .ok (.aload_n 1, 1) := by decide +kernel
theorem dX0_lay_35 : decode cX0_lay 35 = .ok (.iload_n 2, 1) := by decide +kernel
theorem dX0_lay_36 : decode cX0_lay 36 = .ok (.iconst 4, 1) := by decide +kernel
theorem dX0_lay_37 : decode cX0_lay 37 = .ok (.iadd, 1) := by decide +kernel
theorem dX0_lay_38 : decode cX0_lay 38 = .ok (.iaload, 1) := by decide +kernel
theorem dX0_lay_39 : decode cX0_lay 39 = .ok (.i2l, 1) := by decide +kernel
theorem dX0_lay_40 : decode cX0_lay 40 = .ok (.lload_n 3, 1) := by decide +kernel
theorem dX0_lay_41 : decode cX0_lay 41 = .ok (.lsub, 1) := by decide +kernel
theorem dX0_lay_42 : decode cX0_lay 42 = .ok (.lstore 11, 2) := by decide +kernel
theorem dX0_lay_44 : decode cX0_lay 44 = .ok (.aload_n 1, 1) := by decide +kernel
theorem dX0_lay_45 : decode cX0_lay 45 = .ok (.iload_n 2, 1) := by decide +kernel
theorem dX0_lay_46 : decode cX0_lay 46 = .ok (.iconst 5, 1) := by decide +kernel
theorem dX0_lay_47 : decode cX0_lay 47 = .ok (.iadd, 1) := by decide +kernel
theorem dX0_lay_48 : decode cX0_lay 48 = .ok (.iaload, 1) := by decide +kernel
theorem dX0_lay_49 : decode cX0_lay 49 = .ok (.i2l, 1) := by decide +kernel
theorem dX0_lay_50 : decode cX0_lay 50 = .ok (.lload 5, 2) := by decide +kernel
theorem dX0_lay_52 : decode cX0_lay 52 = .ok (.lsub, 1) := by decide +kernel
theorem dX0_lay_53 : decode cX0_lay 53 = .ok (.lstore 13, 2) := by decide +kernel
theorem dX0_lay_55 : decode cX0_lay 55 = .ok (.lload 7, 2) := by decide +kernel
theorem dX0_lay_57 : decode cX0_lay 57 = .ok (.lload 7, 2) := by decide +kernel
theorem dX0_lay_59 : decode cX0_lay 59 = .ok (.lmul, 1) := by decide +kernel
theorem dX0_lay_60 : decode cX0_lay 60 = .ok (.lload 9, 2) := by decide +kernel
theorem dX0_lay_62 : decode cX0_lay 62 = .ok (.lload 9, 2) := by decide +kernel
theorem dX0_lay_64 : decode cX0_lay 64 = .ok (.lmul, 1) := by decide +kernel
theorem dX0_lay_65 : decode cX0_lay 65 = .ok (.ladd, 1) := by decide +kernel
theorem dX0_lay_66 : decode cX0_lay 66 = .ok (.lstore 15, 2) := by decide +kernel
theorem dX0_lay_68 : decode cX0_lay 68 = .ok (.lload 11, 2) := by decide +kernel
theorem dX0_lay_70 : decode cX0_lay 70 = .ok (.lload 11, 2) := by decide +kernel
theorem dX0_lay_72 : decode cX0_lay 72 = .ok (.lmul, 1) := by decide +kernel
theorem dX0_lay_73 : decode cX0_lay 73 = .ok (.lload 13, 2) := by decide +kernel
theorem dX0_lay_75 : decode cX0_lay 75 = .ok (.lload 13, 2) := by decide +kernel
theorem dX0_lay_77 : decode cX0_lay 77 = .ok (.lmul, 1) := by decide +kernel
theorem dX0_lay_78 : decode cX0_lay 78 = .ok (.ladd, 1) := by decide +kernel
theorem dX0_lay_79 : decode cX0_lay 79 = .ok (.lstore 17, 2) := by decide +kernel
theorem dX0_lay_81 : decode cX0_lay 81 = .ok (.aload_n 0, 1) := by decide +kernel
theorem dX0_lay_82 : decode cX0_lay 82 = .ok (.lload 7, 2) := by decide +kernel
theorem dX0_lay_84 : decode cX0_lay 84 = .ok (.lload 13, 2) := by decide +kernel
theorem dX0_lay_86 : decode cX0_lay 86 = .ok (.lmul, 1) := by decide +kernel
theorem dX0_lay_87 : decode cX0_lay 87 = .ok (.lload 9, 2) := by decide +kernel
theorem dX0_lay_89 : decode cX0_lay 89 = .ok (.lload 11, 2) := by decide +kernel
theorem dX0_lay_91 : decode cX0_lay 91 = .ok (.lmul, 1) := by decide +kernel
theorem dX0_lay_92 : decode cX0_lay 92 = .ok (.lsub, 1) := by decide +kernel
theorem dX0_lay_93 : decode cX0_lay 93 = .ok (.putfield 7, 3) := by decide +kernel
theorem dX0_lay_96 : decode cX0_lay 96 = .ok (.aload_n 0, 1) := by decide +kernel
theorem dX0_lay_97 : decode cX0_lay 97 = .ok (.ldc2_w 13, 3) := by decide +kernel
theorem dX0_lay_100 : decode cX0_lay 100 = .ok (.aload_n 0, 1) := by decide +kernel
theorem dX0_lay_101 : decode cX0_lay 101 = .ok (.getfield 7, 3) := by decide +kernel
theorem dX0_lay_104 : decode cX0_lay 104 = .ok (.lmul, 1) := by decide +kernel
theorem dX0_lay_105 : decode cX0_lay 105 = .ok (.lload_n 3, 1) := by decide +kernel
theorem dX0_lay_106 : decode cX0_lay 106 = .ok (.lmul, 1) := by decide +kernel
theorem dX0_lay_107 : decode cX0_lay 107 = .ok (.lload 13, 2) := by decide +kernel
theorem dX0_lay_109 : decode cX0_lay 109 = .ok (.lload 15, 2) := by decide +kernel
theorem dX0_lay_111 : decode cX0_lay 111 = .ok (.lmul, 1) := by decide +kernel
theorem dX0_lay_112 : decode cX0_lay 112 = .ok (.ladd, 1) := by decide +kernel
theorem dX0_lay_113 : decode cX0_lay 113 = .ok (.lload 9, 2) := by decide +kernel
theorem dX0_lay_115 : decode cX0_lay 115 = .ok (.lload 17, 2) := by decide +kernel
theorem dX0_lay_117 : decode cX0_lay 117 = .ok (.lmul, 1) := by decide +kernel
theorem dX0_lay_118 : decode cX0_lay 118 = .ok (.lsub, 1) := by decide +kernel
theorem dX0_lay_119 : decode cX0_lay 119 = .ok (.putfield 15, 3) := by decide +kernel
theorem dX0_lay_122 : decode cX0_lay 122 = .ok (.aload_n 0, 1) := by decide +kernel
theorem dX0_lay_123 : decode cX0_lay 123 = .ok (.ldc2_w 13, 3) := by decide +kernel
theorem dX0_lay_126 : decode cX0_lay 126 = .ok (.aload_n 0, 1) := by decide +kernel
theorem dX0_lay_127 : decode cX0_lay 127 = .ok (.getfield 7, 3) := by decide +kernel
theorem dX0_lay_130 : decode cX0_lay 130 = .ok (.lmul, 1) := by decide +kernel
theorem dX0_lay_131 : decode cX0_lay 131 = .ok (.lload 5, 2) := by decide +kernel
theorem dX0_lay_133 : decode cX0_lay 133 = .ok (.lmul, 1) := by decide +kernel
theorem dX0_lay_134 : decode cX0_lay 134 = .ok (.lload 7, 2) := by decide +kernel
theorem dX0_lay_136 : decode cX0_lay 136 = .ok (.lload 17, 2) := by decide +kernel
theorem dX0_lay_138 : decode cX0_lay 138 = .ok (.lmul, 1) := by decide +kernel
theorem dX0_lay_139 : decode cX0_lay 139 = .ok (.ladd, 1) := by decide +kernel
theorem dX0_lay_140 : decode cX0_lay 140 = .ok (.lload 11, 2) := by decide +kernel
theorem dX0_lay_142 : decode cX0_lay 142 = .ok (.lload 15, 2) := by decide +kernel
theorem dX0_lay_144 : decode cX0_lay 144 = .ok (.lmul, 1) := by decide +kernel
theorem dX0_lay_145 : decode cX0_lay 145 = .ok (.lsub, 1) := by decide +kernel
theorem dX0_lay_146 : decode cX0_lay 146 = .ok (.putfield 18, 3) := by decide +kernel
theorem dX0_lay_149 : decode cX0_lay 149 = .ok (.aload_n 0, 1) := by decide +kernel
theorem dX0_lay_150 : decode cX0_lay 150 = .ok (.aload_n 0, 1) := by decide +kernel
theorem dX0_lay_151 : decode cX0_lay 151 = .ok (.getfield 15, 3) := by decide +kernel
theorem dX0_lay_154 : decode cX0_lay 154 = .ok (.lload_n 3, 1) := by decide +kernel
theorem dX0_lay_155 : decode cX0_lay 155 = .ok (.lmul, 1) := by decide +kernel
theorem dX0_lay_156 : decode cX0_lay 156 = .ok (.aload_n 0, 1) := by decide +kernel
theorem dX0_lay_157 : decode cX0_lay 157 = .ok (.getfield 18, 3) := by decide +kernel
theorem dX0_lay_160 : decode cX0_lay 160 = .ok (.lload 5, 2) := by decide +kernel
theorem dX0_lay_162 : decode cX0_lay 162 = .ok (.lmul, 1) := by decide +kernel
theorem dX0_lay_163 : decode cX0_lay 163 = .ok (.ladd, 1) := by decide +kernel
theorem dX0_lay_164 : decode cX0_lay 164 = .ok (.aload_n 0, 1) := by decide +kernel
theorem dX0_lay_165 : decode cX0_lay 165 = .ok (.getfield 7, 3) := by decide +kernel
theorem dX0_lay_168 : decode cX0_lay 168 = .ok (.lload_n 3, 1) := by decide +kernel
theorem dX0_lay_169 : decode cX0_lay 169 = .ok (.lload_n 3, 1) := by decide +kernel
theorem dX0_lay_170 : decode cX0_lay 170 = .ok (.lmul, 1) := by decide +kernel
theorem dX0_lay_171 : decode cX0_lay 171 = .ok (.lload 5, 2) := by decide +kernel
theorem dX0_lay_173 : decode cX0_lay 173 = .ok (.lload 5, 2) := by decide +kernel
theorem dX0_lay_175 : decode cX0_lay 175 = .ok (.lmul, 1) := by decide +kernel
theorem dX0_lay_176 : decode cX0_lay 176 = .ok (.ladd, 1) := by decide +kernel
theorem dX0_lay_177 : decode cX0_lay 177 = .ok (.lmul, 1) := by decide +kernel
theorem dX0_lay_178 : decode cX0_lay 178 = .ok (.lsub, 1) := by decide +kernel
theorem dX0_lay_179 : decode cX0_lay 179 = .ok (.putfield 21, 3) := by decide +kernel
theorem dX0_lay_182 : decode cX0_lay 182 = .ok (.return_, 1) := by decide +kernel
theorem dX0_isStraight_0 : decode cX0_isStraight 0 = .ok (.aload_n 0, 1) := by decide +kernel
theorem dX0_isStraight_1 : decode cX0_isStraight 1 = .ok (.getfield 7, 3) := by decide +kernel
theorem dX0_isStraight_4 : decode cX0_isStraight 4 = .ok (.lconst 0, 1) := by decide +kernel
theorem dX0_isStraight_5 : decode cX0_isStraight 5 = .ok (.lcmp, 1) := by decide +kernel
theorem dX0_isStraight_6 : decode cX0_isStraight 6 = .ok (.ifCond .ne 7, 3) := by decide +kernel
theorem dX0_isStraight_9 : decode cX0_isStraight 9 = .ok (.iconst 1, 1) := by decide +kernel
theorem dX0_isStraight_10 : decode cX0_isStraight 10 = .ok (.goto 4, 3) := by decide +kernel
theorem dX0_isStraight_13 : decode cX0_isStraight 13 = .ok (.iconst 0, 1) := by decide +kernel
theorem dX0_isStraight_14 : decode cX0_isStraight 14 = .ok (.ireturn, 1) := by decide +kernel
theorem dX0_turn_0 : decode cX0_turn 0 = .ok (.aload_n 0, 1) := by decide +kernel
theorem dX0_turn_1 : decode cX0_turn 1 = .ok (.getfield 7, 3) := by decide +kernel
theorem dX0_turn_4 : decode cX0_turn 4 = .ok (.invokestatic 24, 3) := by decide +kernel
theorem dX0_turn_7 : decode cX0_turn 7 = .ok (.ireturn, 1) := by decide +kernel
theorem dX0_passes_0 : decode cX0_passes 0 = .ok (.aload_n 0, 1) := by decide +kernel
theorem dX0_passes_1 : decode cX0_passes 1 = .ok (.getfield 7, 3) := by decide +kernel
theorem dX0_passes_4 : decode cX0_passes 4 = .ok (.iload_n 1, 1) := by decide +kernel
theorem dX0_passes_5 : decode cX0_passes 5 = .ok (.iload_n 1, 1) := by decide +kernel
theorem dX0_passes_6 : decode cX0_passes 6 = .ok (.imul, 1) := by decide +kernel
theorem dX0_passes_7 : decode cX0_passes 7 = .ok (.iload_n 2, 1) := by decide +kernel
theorem dX0_passes_8 : decode cX0_passes 8 = .ok (.iload_n 2, 1) := by decide +kernel
theorem dX0_passes_9 : decode cX0_passes 9 = .ok (.imul, 1) := by decide +kernel
theorem dX0_passes_10 : decode cX0_passes 10 = .ok (.iadd, 1) := by decide +kernel
theorem dX0_passes_11 : decode cX0_passes 11 = .ok (.i2l, 1) := by decide +kernel
theorem dX0_passes_12 : decode cX0_passes 12 = .ok (.lmul, 1) := by decide +kernel
theorem dX0_passes_13 : decode cX0_passes 13 = .ok (.aload_n 0, 1) := by decide +kernel
theorem dX0_passes_14 : decode cX0_passes 14 = .ok (.getfield 15, 3) := by decide +kernel
theorem dX0_passes_17 : decode cX0_passes 17 = .ok (.iload_n 1, 1) := by decide +kernel
theorem dX0_passes_18 : decode cX0_passes 18 = .ok (.i2l, 1) := by decide +kernel
theorem dX0_passes_19 : decode cX0_passes 19 = .ok (.lmul, 1) := by decide +kernel
theorem dX0_passes_20 : decode cX0_passes 20 = .ok (.lsub, 1) := by decide +kernel
theorem dX0_passes_21 : decode cX0_passes 21 = .ok (.aload_n 0, 1) := by decide +kernel
theorem dX0_passes_22 : decode cX0_passes 22 = .ok (.getfield 18, 3) := by decide +kernel
theorem dX0_passes_25 : decode cX0_passes 25 = .ok (.iload_n 2, 1) := by decide +kernel
theorem dX0_passes_26 : decode cX0_passes 26 = .ok (.i2l, 1) := by decide +kernel
theorem dX0_passes_27 : decode cX0_passes 27 = .ok (.lmul, 1) := by decide +kernel
theorem dX0_passes_28 : decode cX0_passes 28 = .ok (.lsub, 1) := by decide +kernel
theorem dX0_passes_29 : decode cX0_passes 29 = .ok (.aload_n 0, 1) := by decide +kernel
theorem dX0_passes_30 : decode cX0_passes 30 = .ok (.getfield 21, 3) := by decide +kernel
theorem dX0_passes_33 : decode cX0_passes 33 = .ok (.ladd, 1) := by decide +kernel
theorem dX0_passes_34 : decode cX0_passes 34 = .ok (.lconst 0, 1) := by decide +kernel
theorem dX0_passes_35 : decode cX0_passes 35 = .ok (.lcmp, 1) := by decide +kernel
theorem dX0_passes_36 : decode cX0_passes 36 = .ok (.ifCond .ne 7, 3) := by decide +kernel
theorem dX0_passes_39 : decode cX0_passes 39 = .ok (.iconst 1, 1) := by decide +kernel
theorem dX0_passes_40 : decode cX0_passes 40 = .ok (.goto 4, 3) := by decide +kernel
theorem dX0_passes_43 : decode cX0_passes 43 = .ok (.iconst 0, 1) := by decide +kernel
theorem dX0_passes_44 : decode cX0_passes 44 = .ok (.ireturn, 1) := by decide +kernel
theorem dX1_init_0 : decode cX1_init 0 = .ok (.aload_n 0, 1) := by decide +kernel
theorem dX1_init_1 : decode cX1_init 1 = .ok (.invokespecial 3, 3) := by decide +kernel
theorem dX1_init_4 : decode cX1_init 4 = .ok (.aload_n 0, 1) := by decide +kernel
theorem dX1_init_5 : decode cX1_init 5 = .ok (.bipush 9, 2) := by decide +kernel
theorem dX1_init_7 : decode cX1_init 7 = .ok (.anewarray 11, 3) := by decide +kernel
theorem dX1_init_10 : decode cX1_init 10 = .ok (.putfield 13, 3) := by decide +kernel
theorem dX1_init_13 : decode cX1_init 13 = .ok (.aload_n 0, 1) := by decide +kernel
theorem dX1_init_14 : decode cX1_init 14 = .ok (.iconst 0, 1) := by decide +kernel
theorem dX1_init_15 : decode cX1_init 15 = .ok (.putfield 17, 3) := by decide +kernel
theorem dX1_init_18 : decode cX1_init 18 = .ok (.aload_n 0, 1) := by decide +kernel
theorem dX1_init_19 : decode cX1_init 19 = .ok (.iconst 0, 1) := by decide +kernel
theorem dX1_init_20 : decode cX1_init 20 = .ok (.putfield 21, 3) := by decide +kernel
theorem dX1_init_23 : decode cX1_init 23 = .ok (.iconst 0, 1) := by decide +kernel
theorem dX1_init_24 : decode cX1_init 24 = .ok (.istore_n 1, 1) := by decide +kernel
theorem dX1_init_25 : decode cX1_init 25 = .ok (.iload_n 1, 1) := by decide +kernel
theorem dX1_init_26 : decode cX1_init 26 = .ok (.bipush 9, 2) := by decide +kernel
theorem dX1_init_28 : decode cX1_init 28 = .ok (.if_icmp .ge 22, 3) := by decide +kernel
theorem dX1_init_31 : decode cX1_init 31 = .ok (.aload_n 0, 1) := by decide +kernel
theorem dX1_init_32 : decode cX1_init 32 = .ok (.getfield 13, 3) := by decide +kernel
theorem dX1_init_35 : decode cX1_init 35 = .ok (.iload_n 1, 1) := by decide +kernel
theorem dX1_init_36 : decode cX1_init 36 = .ok (.new 11, 3) := by decide +kernel
theorem dX1_init_39 : decode cX1_init 39 = .ok (.dup, 1) := by decide +kernel
theorem dX1_init_40 : decode cX1_init 40 = .ok (.invokespecial 24, 3) := by decide +kernel
theorem dX1_init_43 : decode cX1_init 43 = .ok (.aastore, 1) := by decide +kernel
theorem dX1_init_44 : decode cX1_init 44 = .ok (.iinc 1 1, 3) := by decide +kernel
theorem dX1_init_47 : decode cX1_init 47 = .ok (.goto (-22), 3) := by decide +kernel
theorem dX1_init_50 : decode cX1_init 50 = .ok (.return_, 1) := by decide +kernel
theorem dX1_draft_0 : decode cX1_draft 0 = .ok (.aload_n 0, 1) := by decide +kernel
theorem dX1_draft_1 : decode cX1_draft 1 = .ok (.getfield 13, 3) := by decide +kernel
theorem dX1_draft_4 : decode cX1_draft 4 = .ok (.aload_n 0, 1) := by decide +kernel
theorem dX1_draft_5 : decode cX1_draft 5 = .ok (.getfield 17, 3) := by decide +kernel
theorem dX1_draft_8 : decode cX1_draft 8 = .ok (.aaload, 1) := by decide +kernel
theorem dX1_draft_9 : decode cX1_draft 9 = .ok (.aload_n 1, 1) := by decide +kernel
theorem dX1_draft_10 : decode cX1_draft 10 = .ok (.invokevirtual 25, 3) := by decide +kernel
theorem dX1_draft_13 : decode cX1_draft 13 = .ok (.return_, 1) := by decide +kernel
theorem dX1_layDraftBack_0 : decode cX1_layDraftBack 0 = .ok (.aload_n 1, 1) := by decide +kernel
theorem dX1_layDraftBack_1 : decode cX1_layDraftBack 1 = .ok (.aload_n 0, 1) := by decide +kernel
theorem dX1_layDraftBack_2 : decode cX1_layDraftBack 2 = .ok (.getfield 13, 3) := by decide +kernel
theorem dX1_layDraftBack_5 : decode cX1_layDraftBack 5 = .ok (.aload_n 0, 1) := by decide +kernel
theorem dX1_layDraftBack_6 : decode cX1_layDraftBack 6 = .ok (.getfield 17, 3) := by decide +kernel
theorem dX1_layDraftBack_9 : decode cX1_layDraftBack 9 = .ok (.aaload, 1) := by decide +kernel
theorem dX1_layDraftBack_10 : decode cX1_layDraftBack 10 = .ok (.invokevirtual 25, 3) := by decide +kernel
theorem dX1_layDraftBack_13 : decode cX1_layDraftBack 13 = .ok (.return_, 1) := by decide +kernel
theorem dX1_settle_0 : decode cX1_settle 0 = .ok (.iload_n 1, 1) := by decide +kernel
theorem dX1_settle_1 : decode cX1_settle 1 = .ok (.ifCond .lt 31, 3) := by decide +kernel
theorem dX1_settle_4 : decode cX1_settle 4 = .ok (.aload_n 0, 1) := by decide +kernel
theorem dX1_settle_5 : decode cX1_settle 5 = .ok (.aload_n 0, 1) := by decide +kernel
theorem dX1_settle_6 : decode cX1_settle 6 = .ok (.getfield 17, 3) := by decide +kernel
theorem dX1_settle_9 : decode cX1_settle 9 = .ok (.iconst 1, 1) := by decide +kernel
theorem dX1_settle_10 : decode cX1_settle 10 = .ok (.iadd, 1) := by decide +kernel
theorem dX1_settle_11 : decode cX1_settle 11 = .ok (.bipush 9, 2) := by decide +kernel
theorem dX1_settle_13 : decode cX1_settle 13 = .ok (.irem, 1) := by decide +kernel
theorem dX1_settle_14 : decode cX1_settle 14 = .ok (.putfield 17, 3) := by decide +kernel
theorem dX1_settle_17 : decode cX1_settle 17 = .ok (.aload_n 0, 1) := by decide +kernel
theorem dX1_settle_18 : decode cX1_settle 18 = .ok (.aload_n 0, 1) := by decide +kernel
theorem dX1_settle_19 : decode cX1_settle 19 = .ok (.getfield 21, 3) := by decide +kernel
theorem dX1_settle_22 : decode cX1_settle 22 = .ok (.iconst 1, 1) := by decide +kernel
theorem dX1_settle_23 : decode cX1_settle 23 = .ok (.iadd, 1) := by decide +kernel
theorem dX1_settle_24 : decode cX1_settle 24 = .ok (.bipush 8, 2) := by decide +kernel
theorem dX1_settle_26 : decode cX1_settle 26 = .ok (.invokestatic 29, 3) := by decide +kernel
theorem dX1_settle_29 : decode cX1_settle 29 = .ok (.putfield 21, 3) := by decide +kernel
theorem dX1_settle_32 : decode cX1_settle 32 = .ok (.iload_n 1, 1) := by decide +kernel
theorem dX1_settle_33 : decode cX1_settle 33 = .ok (.ireturn, 1) := by decide +kernel
theorem dX1_takeBack_0 : decode cX1_takeBack 0 = .ok (.aload_n 0, 1) := by decide +kernel
theorem dX1_takeBack_1 : decode cX1_takeBack 1 = .ok (.getfield 21, 3) := by decide +kernel
theorem dX1_takeBack_4 : decode cX1_takeBack 4 = .ok (.ifCond .ne 5, 3) := by decide +kernel
theorem dX1_takeBack_7 : decode cX1_takeBack 7 = .ok (.iconst 0, 1) := by decide +kernel
theorem dX1_takeBack_8 : decode cX1_takeBack 8 = .ok (.ireturn, 1) := by decide +kernel
theorem dX1_takeBack_9 : decode cX1_takeBack 9 = .ok (.aload_n 0, 1) := by decide +kernel
theorem dX1_takeBack_10 : decode cX1_takeBack 10 = .ok (.aload_n 0, 1) := by decide +kernel
theorem dX1_takeBack_11 : decode cX1_takeBack 11 = .ok (.getfield 17, 3) := by decide +kernel
theorem dX1_takeBack_14 : decode cX1_takeBack 14 = .ok (.bipush 9, 2) := by decide +kernel
theorem dX1_takeBack_16 : decode cX1_takeBack 16 = .ok (.iadd, 1) := by decide +kernel
theorem dX1_takeBack_17 : decode cX1_takeBack 17 = .ok (.iconst 1, 1) := by decide +kernel
theorem dX1_takeBack_18 : decode cX1_takeBack 18 = .ok (.isub, 1) := by decide +kernel
theorem dX1_takeBack_19 : decode cX1_takeBack 19 = .ok (.bipush 9, 2) := by decide +kernel
theorem dX1_takeBack_21 : decode cX1_takeBack 21 = .ok (.irem, 1) := by decide +kernel
theorem dX1_takeBack_22 : decode cX1_takeBack 22 = .ok (.putfield 17, 3) := by decide +kernel
theorem dX1_takeBack_25 : decode cX1_takeBack 25 = .ok (.aload_n 0, 1) := by decide +kernel
theorem dX1_takeBack_26 : decode cX1_takeBack 26 = .ok (.dup, 1) := by decide +kernel
theorem dX1_takeBack_27 : decode cX1_takeBack 27 = .ok (.getfield 21, 3) := by decide +kernel
theorem dX1_takeBack_30 : decode cX1_takeBack 30 = .ok (.iconst 1, 1) := by decide +kernel
theorem dX1_takeBack_31 : decode cX1_takeBack 31 = .ok (.isub, 1) := by decide +kernel
theorem dX1_takeBack_32 : decode cX1_takeBack 32 = .ok (.putfield 21, 3) := by decide +kernel
theorem dX1_takeBack_35 : decode cX1_takeBack 35 = .ok (.aload_n 1, 1) := by decide +kernel
theorem dX1_takeBack_36 : decode cX1_takeBack 36 = .ok (.aload_n 0, 1) := by decide +kernel
theorem dX1_takeBack_37 : decode cX1_takeBack 37 = .ok (.getfield 13, 3) := by decide +kernel
theorem dX1_takeBack_40 : decode cX1_takeBack 40 = .ok (.aload_n 0, 1) := by decide +kernel
theorem dX1_takeBack_41 : decode cX1_takeBack 41 = .ok (.getfield 17, 3) := by decide +kernel
theorem dX1_takeBack_44 : decode cX1_takeBack 44 = .ok (.aaload, 1) := by decide +kernel
theorem dX1_takeBack_45 : decode cX1_takeBack 45 = .ok (.invokevirtual 25, 3) := by decide +kernel
theorem dX1_takeBack_48 : decode cX1_takeBack 48 = .ok (.iconst 1, 1) := by decide +kernel
theorem dX1_takeBack_49 : decode cX1_takeBack 49 = .ok (.ireturn, 1) := by decide +kernel
theorem dX1_forget_0 : decode cX1_forget 0 = .ok (.aload_n 0, 1) := by decide +kernel
theorem dX1_forget_1 : decode cX1_forget 1 = .ok (.iconst 0, 1) := by decide +kernel
theorem dX1_forget_2 : decode cX1_forget 2 = .ok (.putfield 21, 3) := by decide +kernel
theorem dX1_forget_5 : decode cX1_forget 5 = .ok (.return_, 1) := by decide +kernel
theorem dX2_init_0 : decode cX2_init 0 = .ok (.aload_n 0, 1) := by decide +kernel
theorem dX2_init_1 : decode cX2_init 1 = .ok (.invokespecial 3, 3) := by decide +kernel
theorem dX2_init_4 : decode cX2_init 4 = .ok (.aload_n 0, 1) := by decide +kernel
theorem dX2_init_5 : decode cX2_init 5 = .ok (.iconst 5, 1) := by decide +kernel
theorem dX2_init_6 : decode cX2_init 6 = .ok (.newarray .int, 2) := by decide +kernel
theorem dX2_init_8 : decode cX2_init 8 = .ok (.putfield 11, 3) := by decide +kernel
theorem dX2_init_11 : decode cX2_init 11 = .ok (.aload_n 0, 1) := by decide +kernel
theorem dX2_init_12 : decode cX2_init 12 = .ok (.iconst 5, 1) := by decide +kernel
theorem dX2_init_13 : decode cX2_init 13 = .ok (.newarray .int, 2) := by decide +kernel
theorem dX2_init_15 : decode cX2_init 15 = .ok (.putfield 15, 3) := by decide +kernel
theorem dX2_init_18 : decode cX2_init 18 = .ok (.aload_n 0, 1) := by decide +kernel
theorem dX2_init_19 : decode cX2_init 19 = .ok (.iconst 5, 1) := by decide +kernel
theorem dX2_init_20 : decode cX2_init 20 = .ok (.newarray .int, 2) := by decide +kernel
theorem dX2_init_22 : decode cX2_init 22 = .ok (.putfield 18, 3) := by decide +kernel
theorem dX2_init_25 : decode cX2_init 25 = .ok (.aload_n 0, 1) := by decide +kernel
theorem dX2_init_26 : decode cX2_init 26 = .ok (.iconst 5, 1) := by decide +kernel
theorem dX2_init_27 : decode cX2_init 27 = .ok (.newarray .int, 2) := by decide +kernel
theorem dX2_init_29 : decode cX2_init 29 = .ok (.putfield 21, 3) := by decide +kernel
theorem dX2_init_32 : decode cX2_init 32 = .ok (.aload_n 0, 1) := by decide +kernel
theorem dX2_init_33 : decode cX2_init 33 = .ok (.iconst 5, 1) := by decide +kernel
theorem dX2_init_34 : decode cX2_init 34 = .ok (.newarray .int, 2) := by decide +kernel
theorem dX2_init_36 : decode cX2_init 36 = .ok (.putfield 24, 3) := by decide +kernel
theorem dX2_init_39 : decode cX2_init 39 = .ok (.aload_n 0, 1) := by decide +kernel
theorem dX2_init_40 : decode cX2_init 40 = .ok (.iconst 4, 1) := by decide +kernel
theorem dX2_init_41 : decode cX2_init 41 = .ok (.newarray .int, 2) := by decide +kernel
theorem dX2_init_43 : decode cX2_init 43 = .ok (.putfield 27, 3) := by decide +kernel
theorem dX2_init_46 : decode cX2_init 46 = .ok (.return_, 1) := by decide +kernel
theorem dX2_begin_0 : decode cX2_begin 0 = .ok (.aload_n 0, 1) := by decide +kernel
theorem dX2_begin_1 : decode cX2_begin 1 = .ok (.iload_n 1, 1) := by decide +kernel
theorem dX2_begin_2 : decode cX2_begin 2 = .ok (.putfield 30, 3) := by decide +kernel
theorem dX2_begin_5 : decode cX2_begin 5 = .ok (.aload_n 0, 1) := by decide +kernel
theorem dX2_begin_6 : decode cX2_begin 6 = .ok (.iconst 0, 1) := by decide +kernel
theorem dX2_begin_7 : decode cX2_begin 7 = .ok (.putfield 34, 3) := by decide +kernel
theorem dX2_begin_10 : decode cX2_begin 10 = .ok (.aload_n 0, 1) := by decide +kernel
theorem dX2_begin_11 : decode cX2_begin 11 = .ok (.iconst 0, 1) := by decide +kernel
theorem dX2_begin_12 : decode cX2_begin 12 = .ok (.putfield 37, 3) := by decide +kernel
theorem dX2_begin_15 : decode cX2_begin 15 = .ok (.iconst 0, 1) := by decide +kernel
theorem dX2_begin_16 : decode cX2_begin 16 = .ok (.istore_n 2, 1) := by decide +kernel
theorem dX2_begin_17 : decode cX2_begin 17 = .ok (.iload_n 2, 1) := by decide +kernel
theorem dX2_begin_18 : decode cX2_begin 18 = .ok (.iconst 4, 1) := by decide +kernel
theorem dX2_begin_19 : decode cX2_begin 19 = .ok (.if_icmp .ge 16, 3) := by decide +kernel
theorem dX2_begin_22 : decode cX2_begin 22 = .ok (.aload_n 0, 1) := by decide +kernel
theorem dX2_begin_23 : decode cX2_begin 23 = .ok (.getfield 27, 3) := by decide +kernel
theorem dX2_begin_26 : decode cX2_begin 26 = .ok (.iload_n 2, 1) := by decide +kernel
theorem dX2_begin_27 : decode cX2_begin 27 = .ok (.iconst 0, 1) := by decide +kernel
theorem dX2_begin_28 : decode cX2_begin 28 = .ok (.iastore, 1) := by decide +kernel
theorem dX2_begin_29 : decode cX2_begin 29 = .ok (.iinc 2 1, 3) := by decide +kernel
theorem dX2_begin_32 : decode cX2_begin 32 = .ok (.goto (-15), 3) := by decide +kernel
theorem dX2_begin_35 : decode cX2_begin 35 = .ok (.return_, 1) := by decide +kernel
theorem dX2_ask_0 : decode cX2_ask 0 = .ok (.aload_n 0, 1) := by decide +kernel
theorem dX2_ask_1 : decode cX2_ask 1 = .ok (.getfield 34, 3) := by decide +kernel
theorem dX2_ask_4 : decode cX2_ask 4 = .ok (.iconst 5, 1) := by decide +kernel
theorem dX2_ask_5 : decode cX2_ask 5 = .ok (.if_icmp .ge 43, 3) := by decide +kernel
theorem dX2_ask_8 : decode cX2_ask 8 = .ok (.aload_n 0, 1) := by decide +kernel
theorem dX2_ask_9 : decode cX2_ask 9 = .ok (.getfield 11, 3) := by decide +kernel
theorem dX2_ask_12 : decode cX2_ask 12 = .ok (.aload_n 0, 1) := by decide +kernel
theorem dX2_ask_13 : decode cX2_ask 13 = .ok (.getfield 34, 3) := by decide +kernel
theorem dX2_ask_16 : decode cX2_ask 16 = .ok (.iload_n 1, 1) := by decide +kernel
theorem dX2_ask_17 : decode cX2_ask 17 = .ok (.iastore, 1) := by decide +kernel
theorem dX2_ask_18 : decode cX2_ask 18 = .ok (.aload_n 0, 1) := by decide +kernel
theorem dX2_ask_19 : decode cX2_ask 19 = .ok (.getfield 15, 3) := by decide +kernel
theorem dX2_ask_22 : decode cX2_ask 22 = .ok (.aload_n 0, 1) := by decide +kernel
theorem dX2_ask_23 : decode cX2_ask 23 = .ok (.getfield 34, 3) := by decide +kernel
theorem dX2_ask_26 : decode cX2_ask 26 = .ok (.iload_n 2, 1) := by decide +kernel
theorem dX2_ask_27 : decode cX2_ask 27 = .ok (.iastore, 1) := by decide +kernel
theorem dX2_ask_28 : decode cX2_ask 28 = .ok (.aload_n 0, 1) := by decide +kernel
theorem dX2_ask_29 : decode cX2_ask 29 = .ok (.getfield 18, 3) := by decide +kernel
theorem dX2_ask_32 : decode cX2_ask 32 = .ok (.aload_n 0, 1) := by decide +kernel
theorem dX2_ask_33 : decode cX2_ask 33 = .ok (.getfield 34, 3) := by decide +kernel
theorem dX2_ask_36 : decode cX2_ask 36 = .ok (.iload_n 3, 1) := by decide +kernel
theorem dX2_ask_37 : decode cX2_ask 37 = .ok (.iastore, 1) := by decide +kernel
theorem dX2_ask_38 : decode cX2_ask 38 = .ok (.aload_n 0, 1) := by decide +kernel
theorem dX2_ask_39 : decode cX2_ask 39 = .ok (.dup, 1) := by decide +kernel
theorem dX2_ask_40 : decode cX2_ask 40 = .ok (.getfield 34, 3) := by decide +kernel
theorem dX2_ask_43 : decode cX2_ask 43 = .ok (.iconst 1, 1) := by decide +kernel
theorem dX2_ask_44 : decode cX2_ask 44 = .ok (.iadd, 1) := by decide +kernel
theorem dX2_ask_45 : decode cX2_ask 45 = .ok (.putfield 34, 3) := by decide +kernel
theorem dX2_ask_48 : decode cX2_ask 48 = .ok (.return_, 1) := by decide +kernel
theorem dX2_weigh_0 : decode cX2_weigh 0 = .ok (.iconst 0, 1) := by decide +kernel
theorem dX2_weigh_1 : decode cX2_weigh 1 = .ok (.istore_n 3, 1) := by decide +kernel
theorem dX2_weigh_2 : decode cX2_weigh 2 = .ok (.iload_n 3, 1) := by decide +kernel
theorem dX2_weigh_3 : decode cX2_weigh 3 = .ok (.iconst 4, 1) := by decide +kernel
theorem dX2_weigh_4 : decode cX2_weigh 4 = .ok (.if_icmp .ge 25, 3) := by decide +kernel
theorem dX2_weigh_7 : decode cX2_weigh 7 = .ok (.aload_n 0, 1) := by decide +kernel
theorem dX2_weigh_8 : decode cX2_weigh 8 = .ok (.getfield 27, 3) := by decide +kernel
theorem dX2_weigh_11 : decode cX2_weigh 11 = .ok (.iload_n 3, 1) := by decide +kernel
theorem dX2_weigh_12 : decode cX2_weigh 12 = .ok (.dup2, 1) := by decide +kernel
theorem dX2_weigh_13 : decode cX2_weigh 13 = .ok (.iaload, 1) := by decide +kernel
theorem dX2_weigh_14 : decode cX2_weigh 14 = .ok (.iload_n 2, 1) := by decide +kernel
theorem dX2_weigh_15 : decode cX2_weigh 15 = .ok (.iload_n 1, 1) := by decide +kernel
theorem dX2_weigh_16 : decode cX2_weigh 16 = .ok (.iload_n 3, 1) := by decide +kernel
theorem dX2_weigh_17 : decode cX2_weigh 17 = .ok (.invokestatic 40, 3) := by decide +kernel
theorem dX2_weigh_20 : decode cX2_weigh 20 = .ok (.imul, 1) := by decide +kernel
theorem dX2_weigh_21 : decode cX2_weigh 21 = .ok (.iadd, 1) := by decide +kernel
theorem dX2_weigh_22 : decode cX2_weigh 22 = .ok (.iastore, 1) := by decide +kernel
theorem dX2_weigh_23 : decode cX2_weigh 23 = .ok (.iinc 3 1, 3) := by decide +kernel
theorem dX2_weigh_26 : decode cX2_weigh 26 = .ok (.goto (-24), 3) := by decide +kernel
theorem dX2_weigh_29 : decode cX2_weigh 29 = .ok (.return_, 1) := by decide +kernel
theorem dX2_isLawful_0 : decode cX2_isLawful 0 = .ok (.aload_n 0, 1) := by decide +kernel
theorem dX2_isLawful_1 : decode cX2_isLawful 1 = .ok (.getfield 27, 3) := by decide +kernel
theorem dX2_isLawful_4 : decode cX2_isLawful 4 = .ok (.iconst 0, 1) := by decide +kernel
theorem dX2_isLawful_5 : decode cX2_isLawful 5 = .ok (.iaload, 1) := by decide +kernel
theorem dX2_isLawful_6 : decode cX2_isLawful 6 = .ok (.ifCond .ne 12, 3) := by decide +kernel
theorem dX2_isLawful_9 : decode cX2_isLawful 9 = .ok (.aload_n 0, 1) := by decide +kernel
theorem dX2_isLawful_10 : decode cX2_isLawful 10 = .ok (.getfield 27, 3) := by decide +kernel
theorem dX2_isLawful_13 : decode cX2_isLawful 13 = .ok (.iconst 1, 1) := by decide +kernel
theorem dX2_isLawful_14 : decode cX2_isLawful 14 = .ok (.iaload, 1) := by decide +kernel
theorem dX2_isLawful_15 : decode cX2_isLawful 15 = .ok (.ifCond .eq 5, 3) := by decide +kernel
theorem dX2_isLawful_18 : decode cX2_isLawful 18 = .ok (.iconst 0, 1) := by decide +kernel
theorem dX2_isLawful_19 : decode cX2_isLawful 19 = .ok (.ireturn, 1) := by decide +kernel
theorem dX2_isLawful_20 : decode cX2_isLawful 20 = .ok (.aload_n 0, 1) := by decide +kernel
theorem dX2_isLawful_21 : decode cX2_isLawful 21 = .ok (.getfield 30, 3) := by decide +kernel
theorem dX2_isLawful_24 : decode cX2_isLawful 24 = .ok (.iconst 2, 1) := by decide +kernel
theorem dX2_isLawful_25 : decode cX2_isLawful 25 = .ok (.if_icmp .ne 5, 3) := by decide +kernel
theorem dX2_isLawful_28 : decode cX2_isLawful 28 = .ok (.iconst 1, 1) := by decide +kernel
theorem dX2_isLawful_29 : decode cX2_isLawful 29 = .ok (.ireturn, 1) := by decide +kernel
theorem dX2_isLawful_30 : decode cX2_isLawful 30 = .ok (.aload_n 0, 1) := by decide +kernel
theorem dX2_isLawful_31 : decode cX2_isLawful 31 = .ok (.getfield 27, 3) := by decide +kernel
theorem dX2_isLawful_34 : decode cX2_isLawful 34 = .ok (.iconst 2, 1) := by decide +kernel
theorem dX2_isLawful_35 : decode cX2_isLawful 35 = .ok (.iaload, 1) := by decide +kernel
theorem dX2_isLawful_36 : decode cX2_isLawful 36 = .ok (.ifCond .ne 32, 3) := by decide +kernel
theorem dX2_isLawful_39 : decode cX2_isLawful 39 = .ok (.aload_n 0, 1) := by decide +kernel
theorem dX2_isLawful_40 : decode cX2_isLawful 40 = .ok (.getfield 27, 3) := by decide +kernel
theorem dX2_isLawful_43 : decode cX2_isLawful 43 = .ok (.iconst 3, 1) := by decide +kernel
theorem dX2_isLawful_44 : decode cX2_isLawful 44 = .ok (.iaload, 1) := by decide +kernel
theorem dX2_isLawful_45 : decode cX2_isLawful 45 = .ok (.invokestatic 44, 3) := by decide +kernel
theorem dX2_isLawful_48 : decode cX2_isLawful 48 = .ok (.aload_n 0, 1) := by decide +kernel
theorem dX2_isLawful_49 : decode cX2_isLawful 49 = .ok (.getfield 30, 3) := by decide +kernel
theorem dX2_isLawful_52 : decode cX2_isLawful 52 = .ok (.iconst 1, 1) := by decide +kernel
theorem dX2_isLawful_53 : decode cX2_isLawful 53 = .ok (.if_icmp .ne 7, 3) := by decide +kernel
theorem dX2_isLawful_56 : decode cX2_isLawful 56 = .ok (.iconst 1, 1) := by decide +kernel
theorem dX2_isLawful_57 : decode cX2_isLawful 57 = .ok (.goto 4, 3) := by decide +kernel
theorem dX2_isLawful_60 : decode cX2_isLawful 60 = .ok (.iconst 0, 1) := by decide +kernel
theorem dX2_isLawful_61 : decode cX2_isLawful 61 = .ok (.if_icmp .gt 7, 3) := by decide +kernel
theorem dX2_isLawful_64 : decode cX2_isLawful 64 = .ok (.iconst 1, 1) := by decide +kernel
theorem dX2_isLawful_65 : decode cX2_isLawful 65 = .ok (.goto 4, 3) := by decide +kernel
theorem dX2_isLawful_68 : decode cX2_isLawful 68 = .ok (.iconst 0, 1) := by decide +kernel
theorem dX2_isLawful_69 : decode cX2_isLawful 69 = .ok (.ireturn, 1) := by decide +kernel
theorem dX2_search_0 : decode cX2_search 0 = .ok (.iload_n 1, 1) := by decide +kernel
theorem dX2_search_1 : decode cX2_search 1 = .ok (.aload_n 0, 1) := by decide +kernel
theorem dX2_search_2 : decode cX2_search 2 = .ok (.getfield 34, 3) := by decide +kernel
theorem dX2_search_5 : decode cX2_search 5 = .ok (.if_icmp .ge 8, 3) := by decide +kernel
theorem dX2_search_8 : decode cX2_search 8 = .ok (.iload_n 1, 1) := by decide +kernel
theorem dX2_search_9 : decode cX2_search 9 = .ok (.iconst 5, 1) := by decide +kernel
theorem dX2_search_10 : decode cX2_search 10 = .ok (.if_icmp .lt 8, 3) := by decide +kernel
theorem dX2_search_13 : decode cX2_search 13 = .ok (.aload_n 0, 1) := by decide +kernel
theorem dX2_search_14 : decode cX2_search 14 = .ok (.invokevirtual 50, 3) := by decide +kernel
theorem dX2_search_17 : decode cX2_search 17 = .ok (.return_, 1) := by decide +kernel
theorem dX2_search_18 : decode cX2_search 18 = .ok (.iconst 0, 1) := by decide +kernel
theorem dX2_search_19 : decode cX2_search 19 = .ok (.istore_n 2, 1) := by decide +kernel
theorem dX2_search_20 : decode cX2_search 20 = .ok (.iload_n 2, 1) := by decide +kernel
theorem dX2_search_21 : decode cX2_search 21 = .ok (.bipush 12, 2) := by decide +kernel
theorem dX2_search_23 : decode cX2_search 23 = .ok (.if_icmp .ge 60, 3) := by decide +kernel
theorem dX2_search_26 : decode cX2_search 26 = .ok (.iload_n 2, 1) := by decide +kernel
theorem dX2_search_27 : decode cX2_search 27 = .ok (.iconst 0, 1) := by decide +kernel
theorem dX2_search_28 : decode cX2_search 28 = .ok (.invokestatic 40, 3) := by decide +kernel
theorem dX2_search_31 : decode cX2_search 31 = .ok (.aload_n 0, 1) := by decide +kernel
theorem dX2_search_32 : decode cX2_search 32 = .ok (.getfield 15, 3) := by decide +kernel
theorem dX2_search_35 : decode cX2_search 35 = .ok (.iload_n 1, 1) := by decide +kernel
theorem dX2_search_36 : decode cX2_search 36 = .ok (.iaload, 1) := by decide +kernel
theorem dX2_search_37 : decode cX2_search 37 = .ok (.if_icmp .ne 40, 3) := by decide +kernel
theorem dX2_search_40 : decode cX2_search 40 = .ok (.aload_n 0, 1) := by decide +kernel
theorem dX2_search_41 : decode cX2_search 41 = .ok (.getfield 21, 3) := by decide +kernel
theorem dX2_search_44 : decode cX2_search 44 = .ok (.iload_n 1, 1) := by decide +kernel
theorem dX2_search_45 : decode cX2_search 45 = .ok (.iload_n 2, 1) := by decide +kernel
theorem dX2_search_46 : decode cX2_search 46 = .ok (.iastore, 1) := by decide +kernel
theorem dX2_search_47 : decode cX2_search 47 = .ok (.aload_n 0, 1) := by decide +kernel
theorem dX2_search_48 : decode cX2_search 48 = .ok (.iload_n 2, 1) := by decide +kernel
theorem dX2_search_49 : decode cX2_search 49 = .ok (.aload_n 0, 1) := by decide +kernel
theorem dX2_search_50 : decode cX2_search 50 = .ok (.getfield 18, 3) := by decide +kernel
theorem dX2_search_53 : decode cX2_search 53 = .ok (.iload_n 1, 1) := by decide +kernel
theorem dX2_search_54 : decode cX2_search 54 = .ok (.iaload, 1) := by decide +kernel
theorem dX2_search_55 : decode cX2_search 55 = .ok (.invokevirtual 53, 3) := by decide +kernel
theorem dX2_search_58 : decode cX2_search 58 = .ok (.aload_n 0, 1) := by decide +kernel
theorem dX2_search_59 : decode cX2_search 59 = .ok (.iload_n 1, 1) := by decide +kernel
theorem dX2_search_60 : decode cX2_search 60 = .ok (.iconst 1, 1) := by decide +kernel
theorem dX2_search_61 : decode cX2_search 61 = .ok (.iadd, 1) := by decide +kernel
theorem dX2_search_62 : decode cX2_search 62 = .ok (.invokevirtual 57, 3) := by decide +kernel
theorem dX2_search_65 : decode cX2_search 65 = .ok (.aload_n 0, 1) := by decide +kernel
theorem dX2_search_66 : decode cX2_search 66 = .ok (.iload_n 2, 1) := by decide +kernel
theorem dX2_search_67 : decode cX2_search 67 = .ok (.aload_n 0, 1) := by decide +kernel
theorem dX2_search_68 : decode cX2_search 68 = .ok (.getfield 18, 3) := by decide +kernel
theorem dX2_search_71 : decode cX2_search 71 = .ok (.iload_n 1, 1) := by decide +kernel
theorem dX2_search_72 : decode cX2_search 72 = .ok (.iaload, 1) := by decide +kernel
theorem dX2_search_73 : decode cX2_search 73 = .ok (.ineg, 1) := by decide +kernel
theorem dX2_search_74 : decode cX2_search 74 = .ok (.invokevirtual 53, 3) := by decide +kernel
theorem dX2_search_77 : decode cX2_search 77 = .ok (.iinc 2 1, 3) := by decide +kernel
theorem dX2_search_80 : decode cX2_search 80 = .ok (.goto (-60), 3) := by decide +kernel
theorem dX2_search_83 : decode cX2_search 83 = .ok (.return_, 1) := by decide +kernel
theorem dX2_countWay_0 : decode cX2_countWay 0 = .ok (.aload_n 0, 1) := by decide +kernel
theorem dX2_countWay_1 : decode cX2_countWay 1 = .ok (.invokevirtual 61, 3) := by decide +kernel
theorem dX2_countWay_4 : decode cX2_countWay 4 = .ok (.ifCond .ne 4, 3) := by decide +kernel
theorem dX2_countWay_7 : decode cX2_countWay 7 = .ok (.return_, 1) := by decide +kernel
theorem dX2_countWay_8 : decode cX2_countWay 8 = .ok (.aload_n 0, 1) := by decide +kernel
theorem dX2_countWay_9 : decode cX2_countWay 9 = .ok (.getfield 37, 3) := by decide +kernel
theorem dX2_countWay_12 : decode cX2_countWay 12 = .ok (.ifCond .ne 17, 3) := by decide +kernel
theorem dX2_countWay_15 : decode cX2_countWay 15 = .ok (.aload_n 0, 1) := by decide +kernel
theorem dX2_countWay_16 : decode cX2_countWay 16 = .ok (.getfield 21, 3) := by decide +kernel
theorem dX2_countWay_19 : decode cX2_countWay 19 = .ok (.iconst 0, 1) := by decide +kernel
theorem dX2_countWay_20 : decode cX2_countWay 20 = .ok (.aload_n 0, 1) := by decide +kernel
theorem dX2_countWay_21 : decode cX2_countWay 21 = .ok (.getfield 24, 3) := by decide +kernel
theorem dX2_countWay_24 : decode cX2_countWay 24 = .ok (.iconst 0, 1) := by decide +kernel
theorem dX2_countWay_25 : decode cX2_countWay 25 = .ok (.iconst 5, 1) := by decide +kernel
theorem dX2_countWay_26 : decode cX2_countWay 26 = .ok (.invokestatic 65, 3) := by decide +kernel
theorem dX2_countWay_29 : decode cX2_countWay 29 = .ok (.aload_n 0, 1) := by decide +kernel
theorem dX2_countWay_30 : decode cX2_countWay 30 = .ok (.dup, 1) := by decide +kernel
theorem dX2_countWay_31 : decode cX2_countWay 31 = .ok (.getfield 37, 3) := by decide +kernel
theorem dX2_countWay_34 : decode cX2_countWay 34 = .ok (.iconst 1, 1) := by decide +kernel
theorem dX2_countWay_35 : decode cX2_countWay 35 = .ok (.iadd, 1) := by decide +kernel
theorem dX2_countWay_36 : decode cX2_countWay 36 = .ok (.putfield 37, 3) := by decide +kernel
theorem dX2_countWay_39 : decode cX2_countWay 39 = .ok (.return_, 1) := by decide +kernel
theorem dX3_init_0 : decode cX3_init 0 = .ok (.aload_n 0, 1) := by decide +kernel
theorem dX3_init_1 : decode cX3_init 1 = .ok (.invokespecial 3, 3) := by decide +kernel
theorem dX3_init_4 : decode cX3_init 4 = .ok (.aload_n 0, 1) := by decide +kernel
theorem dX3_init_5 : decode cX3_init 5 = .ok (.iconst 3, 1) := by decide +kernel
theorem dX3_init_6 : decode cX3_init 6 = .ok (.putfield 9, 3) := by decide +kernel
theorem dX3_init_9 : decode cX3_init 9 = .ok (.aload_n 0, 1) := by decide +kernel
theorem dX3_init_10 : decode cX3_init 10 = .ok (.iconst 0, 1) := by decide +kernel
theorem dX3_init_11 : decode cX3_init 11 = .ok (.putfield 15, 3) := by decide +kernel
theorem dX3_init_14 : decode cX3_init 14 = .ok (.aload_n 0, 1) := by decide +kernel
theorem dX3_init_15 : decode cX3_init 15 = .ok (.iconst 0, 1) := by decide +kernel
theorem dX3_init_16 : decode cX3_init 16 = .ok (.putfield 18, 3) := by decide +kernel
theorem dX3_init_19 : decode cX3_init 19 = .ok (.aload_n 0, 1) := by decide +kernel
theorem dX3_init_20 : decode cX3_init 20 = .ok (.bipush 48, 2) := by decide +kernel
theorem dX3_init_22 : decode cX3_init 22 = .ok (.newarray .int, 2) := by decide +kernel
theorem dX3_init_24 : decode cX3_init 24 = .ok (.putfield 21, 3) := by decide +kernel
theorem dX3_init_27 : decode cX3_init 27 = .ok (.aload_n 0, 1) := by decide +kernel
theorem dX3_init_28 : decode cX3_init 28 = .ok (.bipush 8, 2) := by decide +kernel
theorem dX3_init_30 : decode cX3_init 30 = .ok (.newarray .int, 2) := by decide +kernel
theorem dX3_init_32 : decode cX3_init 32 = .ok (.putfield 25, 3) := by decide +kernel
theorem dX3_init_35 : decode cX3_init 35 = .ok (.aload_n 0, 1) := by decide +kernel
theorem dX3_init_36 : decode cX3_init 36 = .ok (.iconst 4, 1) := by decide +kernel
theorem dX3_init_37 : decode cX3_init 37 = .ok (.newarray .int, 2) := by decide +kernel
theorem dX3_init_39 : decode cX3_init 39 = .ok (.putfield 28, 3) := by decide +kernel
theorem dX3_init_42 : decode cX3_init 42 = .ok (.aload_n 0, 1) := by decide +kernel
theorem dX3_init_43 : decode cX3_init 43 = .ok (.iconst 4, 1) := by decide +kernel
theorem dX3_init_44 : decode cX3_init 44 = .ok (.newarray .int, 2) := by decide +kernel
theorem dX3_init_46 : decode cX3_init 46 = .ok (.putfield 31, 3) := by decide +kernel
theorem dX3_init_49 : decode cX3_init 49 = .ok (.aload_n 0, 1) := by decide +kernel
theorem dX3_init_50 : decode cX3_init 50 = .ok (.iconst 4, 1) := by decide +kernel
theorem dX3_init_51 : decode cX3_init 51 = .ok (.newarray .int, 2) := by decide +kernel
theorem dX3_init_53 : decode cX3_init 53 = .ok (.putfield 34, 3) := by decide +kernel
theorem dX3_init_56 : decode cX3_init 56 = .ok (.aload_n 0, 1) := by decide +kernel
theorem dX3_init_57 : decode cX3_init 57 = .ok (.iconst 4, 1) := by decide +kernel
theorem dX3_init_58 : decode cX3_init 58 = .ok (.newarray .int, 2) := by decide +kernel
theorem dX3_init_60 : decode cX3_init 60 = .ok (.putfield 37, 3) := by decide +kernel
theorem dX3_init_63 : decode cX3_init 63 = .ok (.return_, 1) := by decide +kernel
theorem dX3_become_0 : decode cX3_become 0 = .ok (.aload_n 0, 1) := by decide +kernel
theorem dX3_become_1 : decode cX3_become 1 = .ok (.aload_n 1, 1) := by decide +kernel
theorem dX3_become_2 : decode cX3_become 2 = .ok (.getfield 9, 3) := by decide +kernel
theorem dX3_become_5 : decode cX3_become 5 = .ok (.putfield 9, 3) := by decide +kernel
theorem dX3_become_8 : decode cX3_become 8 = .ok (.aload_n 0, 1) := by decide +kernel
theorem dX3_become_9 : decode cX3_become 9 = .ok (.aload_n 1, 1) := by decide +kernel
theorem dX3_become_10 : decode cX3_become 10 = .ok (.getfield 15, 3) := by decide +kernel
theorem dX3_become_13 : decode cX3_become 13 = .ok (.putfield 15, 3) := by decide +kernel
theorem dX3_become_16 : decode cX3_become 16 = .ok (.aload_n 0, 1) := by decide +kernel
theorem dX3_become_17 : decode cX3_become 17 = .ok (.aload_n 1, 1) := by decide +kernel
theorem dX3_become_18 : decode cX3_become 18 = .ok (.getfield 18, 3) := by decide +kernel
theorem dX3_become_21 : decode cX3_become 21 = .ok (.putfield 18, 3) := by decide +kernel
theorem dX3_become_24 : decode cX3_become 24 = .ok (.aload_n 1, 1) := by decide +kernel
theorem dX3_become_25 : decode cX3_become 25 = .ok (.getfield 21, 3) := by decide +kernel
theorem dX3_become_28 : decode cX3_become 28 = .ok (.iconst 0, 1) := by decide +kernel
theorem dX3_become_29 : decode cX3_become 29 = .ok (.aload_n 0, 1) := by decide +kernel
theorem dX3_become_30 : decode cX3_become 30 = .ok (.getfield 21, 3) := by decide +kernel
theorem dX3_become_33 : decode cX3_become 33 = .ok (.iconst 0, 1) := by decide +kernel
theorem dX3_become_34 : decode cX3_become 34 = .ok (.bipush 48, 2) := by decide +kernel
theorem dX3_become_36 : decode cX3_become 36 = .ok (.invokestatic 40, 3) := by decide +kernel
theorem dX3_become_39 : decode cX3_become 39 = .ok (.aload_n 1, 1) := by decide +kernel
theorem dX3_become_40 : decode cX3_become 40 = .ok (.getfield 25, 3) := by decide +kernel
theorem dX3_become_43 : decode cX3_become 43 = .ok (.iconst 0, 1) := by decide +kernel
theorem dX3_become_44 : decode cX3_become 44 = .ok (.aload_n 0, 1) := by decide +kernel
theorem dX3_become_45 : decode cX3_become 45 = .ok (.getfield 25, 3) := by decide +kernel
theorem dX3_become_48 : decode cX3_become 48 = .ok (.iconst 0, 1) := by decide +kernel
theorem dX3_become_49 : decode cX3_become 49 = .ok (.bipush 8, 2) := by decide +kernel
theorem dX3_become_51 : decode cX3_become 51 = .ok (.invokestatic 40, 3) := by decide +kernel
theorem dX3_become_54 : decode cX3_become 54 = .ok (.aload_n 1, 1) := by decide +kernel
theorem dX3_become_55 : decode cX3_become 55 = .ok (.getfield 28, 3) := by decide +kernel
theorem dX3_become_58 : decode cX3_become 58 = .ok (.iconst 0, 1) := by decide +kernel
theorem dX3_become_59 : decode cX3_become 59 = .ok (.aload_n 0, 1) := by decide +kernel
theorem dX3_become_60 : decode cX3_become 60 = .ok (.getfield 28, 3) := by decide +kernel
theorem dX3_become_63 : decode cX3_become 63 = .ok (.iconst 0, 1) := by decide +kernel
theorem dX3_become_64 : decode cX3_become 64 = .ok (.iconst 4, 1) := by decide +kernel
theorem dX3_become_65 : decode cX3_become 65 = .ok (.invokestatic 40, 3) := by decide +kernel
theorem dX3_become_68 : decode cX3_become 68 = .ok (.aload_n 1, 1) := by decide +kernel
theorem dX3_become_69 : decode cX3_become 69 = .ok (.getfield 31, 3) := by decide +kernel
theorem dX3_become_72 : decode cX3_become 72 = .ok (.iconst 0, 1) := by decide +kernel
theorem dX3_become_73 : decode cX3_become 73 = .ok (.aload_n 0, 1) := by decide +kernel
theorem dX3_become_74 : decode cX3_become 74 = .ok (.getfield 31, 3) := by decide +kernel
theorem dX3_become_77 : decode cX3_become 77 = .ok (.iconst 0, 1) := by decide +kernel
theorem dX3_become_78 : decode cX3_become 78 = .ok (.iconst 4, 1) := by decide +kernel
theorem dX3_become_79 : decode cX3_become 79 = .ok (.invokestatic 40, 3) := by decide +kernel
theorem dX3_become_82 : decode cX3_become 82 = .ok (.aload_n 1, 1) := by decide +kernel
theorem dX3_become_83 : decode cX3_become 83 = .ok (.getfield 34, 3) := by decide +kernel
theorem dX3_become_86 : decode cX3_become 86 = .ok (.iconst 0, 1) := by decide +kernel
theorem dX3_become_87 : decode cX3_become 87 = .ok (.aload_n 0, 1) := by decide +kernel
theorem dX3_become_88 : decode cX3_become 88 = .ok (.getfield 34, 3) := by decide +kernel
theorem dX3_become_91 : decode cX3_become 91 = .ok (.iconst 0, 1) := by decide +kernel
theorem dX3_become_92 : decode cX3_become 92 = .ok (.iconst 4, 1) := by decide +kernel
theorem dX3_become_93 : decode cX3_become 93 = .ok (.invokestatic 40, 3) := by decide +kernel
theorem dX3_become_96 : decode cX3_become 96 = .ok (.aload_n 1, 1) := by decide +kernel
theorem dX3_become_97 : decode cX3_become 97 = .ok (.getfield 37, 3) := by decide +kernel
theorem dX3_become_100 : decode cX3_become 100 = .ok (.iconst 0, 1) := by decide +kernel
theorem dX3_become_101 : decode cX3_become 101 = .ok (.aload_n 0, 1) := by decide +kernel
theorem dX3_become_102 : decode cX3_become 102 = .ok (.getfield 37, 3) := by decide +kernel
theorem dX3_become_105 : decode cX3_become 105 = .ok (.iconst 0, 1) := by decide +kernel
theorem dX3_become_106 : decode cX3_become 106 = .ok (.iconst 4, 1) := by decide +kernel
theorem dX3_become_107 : decode cX3_become 107 = .ok (.invokestatic 40, 3) := by decide +kernel
theorem dX3_become_110 : decode cX3_become 110 = .ok (.return_, 1) := by decide +kernel
theorem dX3_hasTrack_0 : decode cX3_hasTrack 0 = .ok (.iload_n 1, 1) := by decide +kernel
theorem dX3_hasTrack_1 : decode cX3_hasTrack 1 = .ok (.ifCond .lt 15, 3) := by decide +kernel
theorem dX3_hasTrack_4 : decode cX3_hasTrack 4 = .ok (.iload_n 1, 1) := by decide +kernel
theorem dX3_hasTrack_5 : decode cX3_hasTrack 5 = .ok (.aload_n 0, 1) := by decide +kernel
theorem dX3_hasTrack_6 : decode cX3_hasTrack 6 = .ok (.getfield 15, 3) := by decide +kernel
theorem dX3_hasTrack_9 : decode cX3_hasTrack 9 = .ok (.if_icmp .ge 7, 3) := by decide +kernel
theorem dX3_hasTrack_12 : decode cX3_hasTrack 12 = .ok (.iconst 1, 1) := by decide +kernel
theorem dX3_hasTrack_13 : decode cX3_hasTrack 13 = .ok (.goto 4, 3) := by decide +kernel
theorem dX3_hasTrack_16 : decode cX3_hasTrack 16 = .ok (.iconst 0, 1) := by decide +kernel
theorem dX3_hasTrack_17 : decode cX3_hasTrack 17 = .ok (.ireturn, 1) := by decide +kernel
theorem dX3_hasVertex_0 : decode cX3_hasVertex 0 = .ok (.iload_n 1, 1) := by decide +kernel
theorem dX3_hasVertex_1 : decode cX3_hasVertex 1 = .ok (.ifCond .lt 15, 3) := by decide +kernel
theorem dX3_hasVertex_4 : decode cX3_hasVertex 4 = .ok (.iload_n 1, 1) := by decide +kernel
theorem dX3_hasVertex_5 : decode cX3_hasVertex 5 = .ok (.aload_n 0, 1) := by decide +kernel
theorem dX3_hasVertex_6 : decode cX3_hasVertex 6 = .ok (.getfield 18, 3) := by decide +kernel
theorem dX3_hasVertex_9 : decode cX3_hasVertex 9 = .ok (.if_icmp .ge 7, 3) := by decide +kernel
theorem dX3_hasVertex_12 : decode cX3_hasVertex 12 = .ok (.iconst 1, 1) := by decide +kernel
theorem dX3_hasVertex_13 : decode cX3_hasVertex 13 = .ok (.goto 4, 3) := by decide +kernel
theorem dX3_hasVertex_16 : decode cX3_hasVertex 16 = .ok (.iconst 0, 1) := by decide +kernel
theorem dX3_hasVertex_17 : decode cX3_hasVertex 17 = .ok (.ireturn, 1) := by decide +kernel
theorem dX3_goesOut_0 : decode cX3_goesOut 0 = .ok (.aload_n 0, 1) := by decide +kernel
theorem dX3_goesOut_1 : decode cX3_goesOut 1 = .ok (.getfield 37, 3) := by decide +kernel
theorem dX3_goesOut_4 : decode cX3_goesOut 4 = .ok (.iload_n 1, 1) := by decide +kernel
theorem dX3_goesOut_5 : decode cX3_goesOut 5 = .ok (.iaload, 1) := by decide +kernel
theorem dX3_goesOut_6 : decode cX3_goesOut 6 = .ok (.iload_n 2, 1) := by decide +kernel
theorem dX3_goesOut_7 : decode cX3_goesOut 7 = .ok (.ishr, 1) := by decide +kernel
theorem dX3_goesOut_8 : decode cX3_goesOut 8 = .ok (.iconst 1, 1) := by decide +kernel
theorem dX3_goesOut_9 : decode cX3_goesOut 9 = .ok (.iand, 1) := by decide +kernel
theorem dX3_goesOut_10 : decode cX3_goesOut 10 = .ok (.iconst 1, 1) := by decide +kernel
theorem dX3_goesOut_11 : decode cX3_goesOut 11 = .ok (.if_icmp .ne 7, 3) := by decide +kernel
theorem dX3_goesOut_14 : decode cX3_goesOut 14 = .ok (.iconst 1, 1) := by decide +kernel
theorem dX3_goesOut_15 : decode cX3_goesOut 15 = .ok (.goto 4, 3) := by decide +kernel
theorem dX3_goesOut_18 : decode cX3_goesOut 18 = .ok (.iconst 0, 1) := by decide +kernel
theorem dX3_goesOut_19 : decode cX3_goesOut 19 = .ok (.ireturn, 1) := by decide +kernel
theorem dX3_toldTracks_0 : decode cX3_toldTracks 0 = .ok (.iconst 0, 1) := by decide +kernel
theorem dX3_toldTracks_1 : decode cX3_toldTracks 1 = .ok (.istore_n 1, 1) := by decide +kernel
theorem dX3_toldTracks_2 : decode cX3_toldTracks 2 = .ok (.iconst 0, 1) := by decide +kernel
theorem dX3_toldTracks_3 : decode cX3_toldTracks 3 = .ok (.istore_n 2, 1) := by decide +kernel
theorem dX3_toldTracks_4 : decode cX3_toldTracks 4 = .ok (.iload_n 2, 1) := by decide +kernel
theorem dX3_toldTracks_5 : decode cX3_toldTracks 5 = .ok (.aload_n 0, 1) := by decide +kernel
theorem dX3_toldTracks_6 : decode cX3_toldTracks 6 = .ok (.getfield 15, 3) := by decide +kernel
theorem dX3_toldTracks_9 : decode cX3_toldTracks 9 = .ok (.if_icmp .ge 23, 3) := by decide +kernel
theorem dX3_toldTracks_12 : decode cX3_toldTracks 12 = .ok (.aload_n 0, 1) := by decide +kernel
theorem dX3_toldTracks_13 : decode cX3_toldTracks 13 = .ok (.getfield 25, 3) := by decide +kernel
theorem dX3_toldTracks_16 : decode cX3_toldTracks 16 = .ok (.iload_n 2, 1) := by decide +kernel
theorem dX3_toldTracks_17 : decode cX3_toldTracks 17 = .ok (.iaload, 1) := by decide +kernel
theorem dX3_toldTracks_18 : decode cX3_toldTracks 18 = .ok (.bipush 12, 2) := by decide +kernel
theorem dX3_toldTracks_20 : decode cX3_toldTracks 20 = .ok (.if_icmp .eq 6, 3) := by decide +kernel
theorem dX3_toldTracks_23 : decode cX3_toldTracks 23 = .ok (.iinc 1 1, 3) := by decide +kernel
theorem dX3_toldTracks_26 : decode cX3_toldTracks 26 = .ok (.iinc 2 1, 3) := by decide +kernel
theorem dX3_toldTracks_29 : decode cX3_toldTracks 29 = .ok (.goto (-25), 3) := by decide +kernel
theorem dX3_toldTracks_32 : decode cX3_toldTracks 32 = .ok (.iload_n 1, 1) := by decide +kernel
theorem dX3_toldTracks_33 : decode cX3_toldTracks 33 = .ok (.ireturn, 1) := by decide +kernel
theorem dX3_membersOf_0 : decode cX3_membersOf 0 = .ok (.iconst 0, 1) := by decide +kernel
theorem dX3_membersOf_1 : decode cX3_membersOf 1 = .ok (.istore_n 3, 1) := by decide +kernel
theorem dX3_membersOf_2 : decode cX3_membersOf 2 = .ok (.aload_n 0, 1) := by decide +kernel
theorem dX3_membersOf_3 : decode cX3_membersOf 3 = .ok (.getfield 34, 3) := by decide +kernel
theorem dX3_membersOf_6 : decode cX3_membersOf 6 = .ok (.iload_n 1, 1) := by decide +kernel
theorem dX3_membersOf_7 : decode cX3_membersOf 7 = .ok (.iaload, 1) := by decide +kernel
theorem dX3_membersOf_8 : decode cX3_membersOf 8 = .ok (.iconst (-1), 1) := by decide +kernel
theorem dX3_membersOf_9 : decode cX3_membersOf 9 = .ok (.if_icmp .eq 14, 3) := by decide +kernel
theorem dX3_membersOf_12 : decode cX3_membersOf 12 = .ok (.aload_n 2, 1) := by decide +kernel
theorem dX3_membersOf_13 : decode cX3_membersOf 13 = .ok (.iconst 0, 1) := by decide +kernel
theorem dX3_membersOf_14 : decode cX3_membersOf 14 = .ok (.aload_n 0, 1) := by decide +kernel
theorem dX3_membersOf_15 : decode cX3_membersOf 15 = .ok (.getfield 34, 3) := by decide +kernel
theorem dX3_membersOf_18 : decode cX3_membersOf 18 = .ok (.iload_n 1, 1) := by decide +kernel
theorem dX3_membersOf_19 : decode cX3_membersOf 19 = .ok (.iaload, 1) := by decide +kernel
theorem dX3_membersOf_20 : decode cX3_membersOf 20 = .ok (.iastore, 1) := by decide +kernel
theorem dX3_membersOf_21 : decode cX3_membersOf 21 = .ok (.iconst 1, 1) := by decide +kernel
theorem dX3_membersOf_22 : decode cX3_membersOf 22 = .ok (.istore_n 3, 1) := by decide +kernel
theorem dX3_membersOf_23 : decode cX3_membersOf 23 = .ok (.iconst 0, 1) := by decide +kernel
theorem dX3_membersOf_24 : decode cX3_membersOf 24 = .ok (.istore 4, 2) := by decide +kernel
theorem dX3_membersOf_26 : decode cX3_membersOf 26 = .ok (.iload 4, 2) := by decide +kernel
theorem dX3_membersOf_28 : decode cX3_membersOf 28 = .ok (.aload_n 0, 1) := by decide +kernel
theorem dX3_membersOf_29 : decode cX3_membersOf 29 = .ok (.getfield 15, 3) := by decide +kernel
theorem dX3_membersOf_32 : decode cX3_membersOf 32 = .ok (.if_icmp .ge 33, 3) := by decide +kernel
theorem dX3_membersOf_35 : decode cX3_membersOf 35 = .ok (.iload_n 3, 1) := by decide +kernel
theorem dX3_membersOf_36 : decode cX3_membersOf 36 = .ok (.aload_n 2, 1) := by decide +kernel
theorem dX3_membersOf_37 : decode cX3_membersOf 37 = .ok (.arraylength, 1) := by decide +kernel
theorem dX3_membersOf_38 : decode cX3_membersOf 38 = .ok (.if_icmp .ge 27, 3) := by decide +kernel
theorem dX3_membersOf_41 : decode cX3_membersOf 41 = .ok (.aload_n 0, 1) := by decide +kernel
theorem dX3_membersOf_42 : decode cX3_membersOf 42 = .ok (.iload_n 1, 1) := by decide +kernel
theorem dX3_membersOf_43 : decode cX3_membersOf 43 = .ok (.iload 4, 2) := by decide +kernel
theorem dX3_membersOf_45 : decode cX3_membersOf 45 = .ok (.invokevirtual 46, 3) := by decide +kernel
theorem dX3_membersOf_48 : decode cX3_membersOf 48 = .ok (.ifCond .eq 11, 3) := by decide +kernel
theorem dX3_membersOf_51 : decode cX3_membersOf 51 = .ok (.aload_n 2, 1) := by decide +kernel
theorem dX3_membersOf_52 : decode cX3_membersOf 52 = .ok (.iload_n 3, 1) := by decide +kernel
theorem dX3_membersOf_53 : decode cX3_membersOf 53 = .ok (.iload 4, 2) := by decide +kernel
theorem dX3_membersOf_55 : decode cX3_membersOf 55 = .ok (.iastore, 1) := by decide +kernel
theorem dX3_membersOf_56 : decode cX3_membersOf 56 = .ok (.iinc 3 1, 3) := by decide +kernel
theorem dX3_membersOf_59 : decode cX3_membersOf 59 = .ok (.iinc 4 1, 3) := by decide +kernel
theorem dX3_membersOf_62 : decode cX3_membersOf 62 = .ok (.goto (-36), 3) := by decide +kernel
theorem dX3_membersOf_65 : decode cX3_membersOf 65 = .ok (.iload_n 3, 1) := by decide +kernel
theorem dX3_membersOf_66 : decode cX3_membersOf 66 = .ok (.ireturn, 1) := by decide +kernel
theorem dX3_strengthen_0 : decode cX3_strengthen 0 = .ok (.iload_n 1, 1) := by decide +kernel
theorem dX3_strengthen_1 : decode cX3_strengthen 1 = .ok (.iconst 1, 1) := by decide +kernel
theorem dX3_strengthen_2 : decode cX3_strengthen 2 = .ok (.if_icmp .lt 9, 3) := by decide +kernel
theorem dX3_strengthen_5 : decode cX3_strengthen 5 = .ok (.iload_n 1, 1) := by decide +kernel
theorem dX3_strengthen_6 : decode cX3_strengthen 6 = .ok (.bipush 9, 2) := by decide +kernel
theorem dX3_strengthen_8 : decode cX3_strengthen 8 = .ok (.if_icmp .le 5, 3) := by decide +kernel
theorem dX3_strengthen_11 : decode cX3_strengthen 11 = .ok (.iconst (-1), 1) := by decide +kernel
theorem dX3_strengthen_12 : decode cX3_strengthen 12 = .ok (.ireturn, 1) := by decide +kernel
theorem dX3_strengthen_13 : decode cX3_strengthen 13 = .ok (.aload_n 0, 1) := by decide +kernel
theorem dX3_strengthen_14 : decode cX3_strengthen 14 = .ok (.getfield 9, 3) := by decide +kernel
theorem dX3_strengthen_17 : decode cX3_strengthen 17 = .ok (.istore_n 2, 1) := by decide +kernel
theorem dX3_strengthen_18 : decode cX3_strengthen 18 = .ok (.aload_n 0, 1) := by decide +kernel
theorem dX3_strengthen_19 : decode cX3_strengthen 19 = .ok (.iload_n 1, 1) := by decide +kernel
theorem dX3_strengthen_20 : decode cX3_strengthen 20 = .ok (.putfield 9, 3) := by decide +kernel
theorem dX3_strengthen_23 : decode cX3_strengthen 23 = .ok (.iload_n 2, 1) := by decide +kernel
theorem dX3_strengthen_24 : decode cX3_strengthen 24 = .ok (.ireturn, 1) := by decide +kernel
theorem dX3_addTrack_0 : decode cX3_addTrack 0 = .ok (.iload_n 1, 1) := by decide +kernel
theorem dX3_addTrack_1 : decode cX3_addTrack 1 = .ok (.iload_n 2, 1) := by decide +kernel
theorem dX3_addTrack_2 : decode cX3_addTrack 2 = .ok (.invokestatic 50, 3) := by decide +kernel
theorem dX3_addTrack_5 : decode cX3_addTrack 5 = .ok (.ifCond .eq 22, 3) := by decide +kernel
theorem dX3_addTrack_8 : decode cX3_addTrack 8 = .ok (.iload_n 3, 1) := by decide +kernel
theorem dX3_addTrack_9 : decode cX3_addTrack 9 = .ok (.iload 4, 2) := by decide +kernel
theorem dX3_addTrack_11 : decode cX3_addTrack 11 = .ok (.invokestatic 50, 3) := by decide +kernel
theorem dX3_addTrack_14 : decode cX3_addTrack 14 = .ok (.ifCond .eq 13, 3) := by decide +kernel
theorem dX3_addTrack_17 : decode cX3_addTrack 17 = .ok (.iload 5, 2) := by decide +kernel
theorem dX3_addTrack_19 : decode cX3_addTrack 19 = .ok (.iload 6, 2) := by decide +kernel
theorem dX3_addTrack_21 : decode cX3_addTrack 21 = .ok (.invokestatic 50, 3) := by decide +kernel
theorem dX3_addTrack_24 : decode cX3_addTrack 24 = .ok (.ifCond .ne 5, 3) := by decide +kernel
theorem dX3_addTrack_27 : decode cX3_addTrack 27 = .ok (.iconst (-1), 1) := by decide +kernel
theorem dX3_addTrack_28 : decode cX3_addTrack 28 = .ok (.ireturn, 1) := by decide +kernel
theorem dX3_addTrack_29 : decode cX3_addTrack 29 = .ok (.iload_n 1, 1) := by decide +kernel
theorem dX3_addTrack_30 : decode cX3_addTrack 30 = .ok (.iload_n 3, 1) := by decide +kernel
theorem dX3_addTrack_31 : decode cX3_addTrack 31 = .ok (.if_icmp .ne 9, 3) := by decide +kernel
theorem dX3_addTrack_34 : decode cX3_addTrack 34 = .ok (.iload_n 2, 1) := by decide +kernel
theorem dX3_addTrack_35 : decode cX3_addTrack 35 = .ok (.iload 4, 2) := by decide +kernel
theorem dX3_addTrack_37 : decode cX3_addTrack 37 = .ok (.if_icmp .eq 28, 3) := by decide +kernel
theorem dX3_addTrack_40 : decode cX3_addTrack 40 = .ok (.iload_n 1, 1) := by decide +kernel
theorem dX3_addTrack_41 : decode cX3_addTrack 41 = .ok (.iload 5, 2) := by decide +kernel
theorem dX3_addTrack_43 : decode cX3_addTrack 43 = .ok (.if_icmp .ne 9, 3) := by decide +kernel
theorem dX3_addTrack_46 : decode cX3_addTrack 46 = .ok (.iload_n 2, 1) := by decide +kernel
theorem dX3_addTrack_47 : decode cX3_addTrack 47 = .ok (.iload 6, 2) := by decide +kernel
theorem dX3_addTrack_49 : decode cX3_addTrack 49 = .ok (.if_icmp .eq 16, 3) := by decide +kernel
theorem dX3_addTrack_52 : decode cX3_addTrack 52 = .ok (.iload_n 3, 1) := by decide +kernel
theorem dX3_addTrack_53 : decode cX3_addTrack 53 = .ok (.iload 5, 2) := by decide +kernel
theorem dX3_addTrack_55 : decode cX3_addTrack 55 = .ok (.if_icmp .ne 13, 3) := by decide +kernel
theorem dX3_addTrack_58 : decode cX3_addTrack 58 = .ok (.iload 4, 2) := by decide +kernel
theorem dX3_addTrack_60 : decode cX3_addTrack 60 = .ok (.iload 6, 2) := by decide +kernel
theorem dX3_addTrack_62 : decode cX3_addTrack 62 = .ok (.if_icmp .ne 6, 3) := by decide +kernel
theorem dX3_addTrack_65 : decode cX3_addTrack 65 = .ok (.bipush (-5), 2) := by decide +kernel
theorem dX3_addTrack_67 : decode cX3_addTrack 67 = .ok (.ireturn, 1) := by decide +kernel
theorem dX3_addTrack_68 : decode cX3_addTrack 68 = .ok (.aload_n 0, 1) := by decide +kernel
theorem dX3_addTrack_69 : decode cX3_addTrack 69 = .ok (.getfield 15, 3) := by decide +kernel
theorem dX3_addTrack_72 : decode cX3_addTrack 72 = .ok (.bipush 8, 2) := by decide +kernel
theorem dX3_addTrack_74 : decode cX3_addTrack 74 = .ok (.if_icmp .ne 6, 3) := by decide +kernel
theorem dX3_addTrack_77 : decode cX3_addTrack 77 = .ok (.bipush (-3), 2) := by decide +kernel
theorem dX3_addTrack_79 : decode cX3_addTrack 79 = .ok (.ireturn, 1) := by decide +kernel
theorem dX3_addTrack_80 : decode cX3_addTrack 80 = .ok (.bipush 6, 2) := by decide +kernel
theorem dX3_addTrack_82 : decode cX3_addTrack 82 = .ok (.aload_n 0, 1) := by decide +kernel
theorem dX3_addTrack_83 : decode cX3_addTrack 83 = .ok (.getfield 15, 3) := by decide +kernel
theorem dX3_addTrack_86 : decode cX3_addTrack 86 = .ok (.imul, 1) := by decide +kernel
theorem dX3_addTrack_87 : decode cX3_addTrack 87 = .ok (.istore 7, 2) := by decide +kernel
theorem dX3_addTrack_89 : decode cX3_addTrack 89 = .ok (.aload_n 0, 1) := by decide +kernel
theorem dX3_addTrack_90 : decode cX3_addTrack 90 = .ok (.getfield 21, 3) := by decide +kernel
theorem dX3_addTrack_93 : decode cX3_addTrack 93 = .ok (.iload 7, 2) := by decide +kernel
theorem dX3_addTrack_95 : decode cX3_addTrack 95 = .ok (.iload_n 1, 1) := by decide +kernel
theorem dX3_addTrack_96 : decode cX3_addTrack 96 = .ok (.iastore, 1) := by decide +kernel
theorem dX3_addTrack_97 : decode cX3_addTrack 97 = .ok (.aload_n 0, 1) := by decide +kernel
theorem dX3_addTrack_98 : decode cX3_addTrack 98 = .ok (.getfield 21, 3) := by decide +kernel
theorem dX3_addTrack_101 : decode cX3_addTrack 101 = .ok (.iload 7, 2) := by decide +kernel
theorem dX3_addTrack_103 : decode cX3_addTrack 103 = .ok (.iconst 1, 1) := by decide +kernel
theorem dX3_addTrack_104 : decode cX3_addTrack 104 = .ok (.iadd, 1) := by decide +kernel
theorem dX3_addTrack_105 : decode cX3_addTrack 105 = .ok (.iload_n 2, 1) := by decide +kernel
theorem dX3_addTrack_106 : decode cX3_addTrack 106 = .ok (.iastore, 1) := by decide +kernel
theorem dX3_addTrack_107 : decode cX3_addTrack 107 = .ok (.aload_n 0, 1) := by decide +kernel
theorem dX3_addTrack_108 : decode cX3_addTrack 108 = .ok (.getfield 21, 3) := by decide +kernel
theorem dX3_addTrack_111 : decode cX3_addTrack 111 = .ok (.iload 7, 2) := by decide +kernel
theorem dX3_addTrack_113 : decode cX3_addTrack 113 = .ok (.iconst 2, 1) := by decide +kernel
theorem dX3_addTrack_114 : decode cX3_addTrack 114 = .ok (.iadd, 1) := by decide +kernel
theorem dX3_addTrack_115 : decode cX3_addTrack 115 = .ok (.iload_n 3, 1) := by decide +kernel
theorem dX3_addTrack_116 : decode cX3_addTrack 116 = .ok (.iastore, 1) := by decide +kernel
theorem dX3_addTrack_117 : decode cX3_addTrack 117 = .ok (.aload_n 0, 1) := by decide +kernel
theorem dX3_addTrack_118 : decode cX3_addTrack 118 = .ok (.getfield 21, 3) := by decide +kernel
theorem dX3_addTrack_121 : decode cX3_addTrack 121 = .ok (.iload 7, 2) := by decide +kernel
theorem dX3_addTrack_123 : decode cX3_addTrack 123 = .ok (.iconst 3, 1) := by decide +kernel
theorem dX3_addTrack_124 : decode cX3_addTrack 124 = .ok (.iadd, 1) := by decide +kernel
theorem dX3_addTrack_125 : decode cX3_addTrack 125 = .ok (.iload 4, 2) := by decide +kernel
theorem dX3_addTrack_127 : decode cX3_addTrack 127 = .ok (.iastore, 1) := by decide +kernel
theorem dX3_addTrack_128 : decode cX3_addTrack 128 = .ok (.aload_n 0, 1) := by decide +kernel
theorem dX3_addTrack_129 : decode cX3_addTrack 129 = .ok (.getfield 21, 3) := by decide +kernel
theorem dX3_addTrack_132 : decode cX3_addTrack 132 = .ok (.iload 7, 2) := by decide +kernel
theorem dX3_addTrack_134 : decode cX3_addTrack 134 = .ok (.iconst 4, 1) := by decide +kernel
theorem dX3_addTrack_135 : decode cX3_addTrack 135 = .ok (.iadd, 1) := by decide +kernel
theorem dX3_addTrack_136 : decode cX3_addTrack 136 = .ok (.iload 5, 2) := by decide +kernel
theorem dX3_addTrack_138 : decode cX3_addTrack 138 = .ok (.iastore, 1) := by decide +kernel
theorem dX3_addTrack_139 : decode cX3_addTrack 139 = .ok (.aload_n 0, 1) := by decide +kernel
theorem dX3_addTrack_140 : decode cX3_addTrack 140 = .ok (.getfield 21, 3) := by decide +kernel
theorem dX3_addTrack_143 : decode cX3_addTrack 143 = .ok (.iload 7, 2) := by decide +kernel
theorem dX3_addTrack_145 : decode cX3_addTrack 145 = .ok (.iconst 5, 1) := by decide +kernel
theorem dX3_addTrack_146 : decode cX3_addTrack 146 = .ok (.iadd, 1) := by decide +kernel
theorem dX3_addTrack_147 : decode cX3_addTrack 147 = .ok (.iload 6, 2) := by decide +kernel
theorem dX3_addTrack_149 : decode cX3_addTrack 149 = .ok (.iastore, 1) := by decide +kernel
theorem dX3_addTrack_150 : decode cX3_addTrack 150 = .ok (.aload_n 0, 1) := by decide +kernel
theorem dX3_addTrack_151 : decode cX3_addTrack 151 = .ok (.getfield 25, 3) := by decide +kernel
theorem dX3_addTrack_154 : decode cX3_addTrack 154 = .ok (.aload_n 0, 1) := by decide +kernel
theorem dX3_addTrack_155 : decode cX3_addTrack 155 = .ok (.getfield 15, 3) := by decide +kernel
theorem dX3_addTrack_158 : decode cX3_addTrack 158 = .ok (.bipush 12, 2) := by decide +kernel
theorem dX3_addTrack_160 : decode cX3_addTrack 160 = .ok (.iastore, 1) := by decide +kernel
theorem dX3_addTrack_161 : decode cX3_addTrack 161 = .ok (.aload_n 0, 1) := by decide +kernel
theorem dX3_addTrack_162 : decode cX3_addTrack 162 = .ok (.dup, 1) := by decide +kernel
theorem dX3_addTrack_163 : decode cX3_addTrack 163 = .ok (.getfield 15, 3) := by decide +kernel
theorem dX3_addTrack_166 : decode cX3_addTrack 166 = .ok (.iconst 1, 1) := by decide +kernel
theorem dX3_addTrack_167 : decode cX3_addTrack 167 = .ok (.iadd, 1) := by decide +kernel
theorem dX3_addTrack_168 : decode cX3_addTrack 168 = .ok (.putfield 15, 3) := by decide +kernel
theorem dX3_addTrack_171 : decode cX3_addTrack 171 = .ok (.aload_n 0, 1) := by decide +kernel
theorem dX3_addTrack_172 : decode cX3_addTrack 172 = .ok (.getfield 15, 3) := by decide +kernel
theorem dX3_addTrack_175 : decode cX3_addTrack 175 = .ok (.iconst 1, 1) := by decide +kernel
theorem dX3_addTrack_176 : decode cX3_addTrack 176 = .ok (.isub, 1) := by decide +kernel
theorem dX3_addTrack_177 : decode cX3_addTrack 177 = .ok (.ireturn, 1) := by decide +kernel
theorem dX3_canTie_0 : decode cX3_canTie 0 = .ok (.iload_n 1, 1) := by decide +kernel
theorem dX3_canTie_1 : decode cX3_canTie 1 = .ok (.iconst (-1), 1) := by decide +kernel
theorem dX3_canTie_2 : decode cX3_canTie 2 = .ok (.if_icmp .eq 11, 3) := by decide +kernel
theorem dX3_canTie_5 : decode cX3_canTie 5 = .ok (.aload_n 0, 1) := by decide +kernel
theorem dX3_canTie_6 : decode cX3_canTie 6 = .ok (.iload_n 1, 1) := by decide +kernel
theorem dX3_canTie_7 : decode cX3_canTie 7 = .ok (.invokevirtual 53, 3) := by decide +kernel
theorem dX3_canTie_10 : decode cX3_canTie 10 = .ok (.ifCond .eq 18, 3) := by decide +kernel
theorem dX3_canTie_13 : decode cX3_canTie 13 = .ok (.iload_n 2, 1) := by decide +kernel
theorem dX3_canTie_14 : decode cX3_canTie 14 = .ok (.iconst 1, 1) := by decide +kernel
theorem dX3_canTie_15 : decode cX3_canTie 15 = .ok (.if_icmp .lt 13, 3) := by decide +kernel
theorem dX3_canTie_18 : decode cX3_canTie 18 = .ok (.iload_n 2, 1) := by decide +kernel
theorem dX3_canTie_19 : decode cX3_canTie 19 = .ok (.iconst 1, 1) := by decide +kernel
theorem dX3_canTie_20 : decode cX3_canTie 20 = .ok (.aload_n 0, 1) := by decide +kernel
theorem dX3_canTie_21 : decode cX3_canTie 21 = .ok (.getfield 15, 3) := by decide +kernel
theorem dX3_canTie_24 : decode cX3_canTie 24 = .ok (.ishl, 1) := by decide +kernel
theorem dX3_canTie_25 : decode cX3_canTie 25 = .ok (.if_icmp .lt 5, 3) := by decide +kernel
theorem dX3_canTie_28 : decode cX3_canTie 28 = .ok (.iconst 0, 1) := by decide +kernel
theorem dX3_canTie_29 : decode cX3_canTie 29 = .ok (.ireturn, 1) := by decide +kernel
theorem dX3_canTie_30 : decode cX3_canTie 30 = .ok (.iload_n 2, 1) := by decide +kernel
theorem dX3_canTie_31 : decode cX3_canTie 31 = .ok (.invokestatic 57, 3) := by decide +kernel
theorem dX3_canTie_34 : decode cX3_canTie 34 = .ok (.iconst 3, 1) := by decide +kernel
theorem dX3_canTie_35 : decode cX3_canTie 35 = .ok (.if_icmp .gt 20, 3) := by decide +kernel
theorem dX3_canTie_38 : decode cX3_canTie 38 = .ok (.iload_n 1, 1) := by decide +kernel
theorem dX3_canTie_39 : decode cX3_canTie 39 = .ok (.iconst (-1), 1) := by decide +kernel
theorem dX3_canTie_40 : decode cX3_canTie 40 = .ok (.if_icmp .eq 11, 3) := by decide +kernel
theorem dX3_canTie_43 : decode cX3_canTie 43 = .ok (.iload_n 2, 1) := by decide +kernel
theorem dX3_canTie_44 : decode cX3_canTie 44 = .ok (.iload_n 1, 1) := by decide +kernel
theorem dX3_canTie_45 : decode cX3_canTie 45 = .ok (.ishr, 1) := by decide +kernel
theorem dX3_canTie_46 : decode cX3_canTie 46 = .ok (.iconst 1, 1) := by decide +kernel
theorem dX3_canTie_47 : decode cX3_canTie 47 = .ok (.iand, 1) := by decide +kernel
theorem dX3_canTie_48 : decode cX3_canTie 48 = .ok (.ifCond .ne 7, 3) := by decide +kernel
theorem dX3_canTie_51 : decode cX3_canTie 51 = .ok (.iconst 1, 1) := by decide +kernel
theorem dX3_canTie_52 : decode cX3_canTie 52 = .ok (.goto 4, 3) := by decide +kernel
theorem dX3_canTie_55 : decode cX3_canTie 55 = .ok (.iconst 0, 1) := by decide +kernel
theorem dX3_canTie_56 : decode cX3_canTie 56 = .ok (.ireturn, 1) := by decide +kernel
theorem dX3_addVertex_0 : decode cX3_addVertex 0 = .ok (.aload_n 0, 1) := by decide +kernel
theorem dX3_addVertex_1 : decode cX3_addVertex 1 = .ok (.getfield 18, 3) := by decide +kernel
theorem dX3_addVertex_4 : decode cX3_addVertex 4 = .ok (.iconst 4, 1) := by decide +kernel
theorem dX3_addVertex_5 : decode cX3_addVertex 5 = .ok (.if_icmp .ne 6, 3) := by decide +kernel
theorem dX3_addVertex_8 : decode cX3_addVertex 8 = .ok (.bipush (-3), 2) := by decide +kernel
theorem dX3_addVertex_10 : decode cX3_addVertex 10 = .ok (.ireturn, 1) := by decide +kernel
theorem dX3_addVertex_11 : decode cX3_addVertex 11 = .ok (.aload_n 0, 1) := by decide +kernel
theorem dX3_addVertex_12 : decode cX3_addVertex 12 = .ok (.getfield 28, 3) := by decide +kernel
theorem dX3_addVertex_15 : decode cX3_addVertex 15 = .ok (.aload_n 0, 1) := by decide +kernel
theorem dX3_addVertex_16 : decode cX3_addVertex 16 = .ok (.getfield 18, 3) := by decide +kernel
theorem dX3_addVertex_19 : decode cX3_addVertex 19 = .ok (.iload_n 1, 1) := by decide +kernel
theorem dX3_addVertex_20 : decode cX3_addVertex 20 = .ok (.iastore, 1) := by decide +kernel
theorem dX3_addVertex_21 : decode cX3_addVertex 21 = .ok (.aload_n 0, 1) := by decide +kernel
theorem dX3_addVertex_22 : decode cX3_addVertex 22 = .ok (.getfield 31, 3) := by decide +kernel
theorem dX3_addVertex_25 : decode cX3_addVertex 25 = .ok (.aload_n 0, 1) := by decide +kernel
theorem dX3_addVertex_26 : decode cX3_addVertex 26 = .ok (.getfield 18, 3) := by decide +kernel
theorem dX3_addVertex_29 : decode cX3_addVertex 29 = .ok (.iload_n 2, 1) := by decide +kernel
theorem dX3_addVertex_30 : decode cX3_addVertex 30 = .ok (.iastore, 1) := by decide +kernel
theorem dX3_addVertex_31 : decode cX3_addVertex 31 = .ok (.aload_n 0, 1) := by decide +kernel
theorem dX3_addVertex_32 : decode cX3_addVertex 32 = .ok (.getfield 34, 3) := by decide +kernel
theorem dX3_addVertex_35 : decode cX3_addVertex 35 = .ok (.aload_n 0, 1) := by decide +kernel
theorem dX3_addVertex_36 : decode cX3_addVertex 36 = .ok (.getfield 18, 3) := by decide +kernel
theorem dX3_addVertex_39 : decode cX3_addVertex 39 = .ok (.iload_n 3, 1) := by decide +kernel
theorem dX3_addVertex_40 : decode cX3_addVertex 40 = .ok (.iastore, 1) := by decide +kernel
theorem dX3_addVertex_41 : decode cX3_addVertex 41 = .ok (.aload_n 0, 1) := by decide +kernel
theorem dX3_addVertex_42 : decode cX3_addVertex 42 = .ok (.getfield 37, 3) := by decide +kernel
theorem dX3_addVertex_45 : decode cX3_addVertex 45 = .ok (.aload_n 0, 1) := by decide +kernel
theorem dX3_addVertex_46 : decode cX3_addVertex 46 = .ok (.getfield 18, 3) := by decide +kernel
theorem dX3_addVertex_49 : decode cX3_addVertex 49 = .ok (.iload 4, 2) := by decide +kernel
theorem dX3_addVertex_51 : decode cX3_addVertex 51 = .ok (.iastore, 1) := by decide +kernel
theorem dX3_addVertex_52 : decode cX3_addVertex 52 = .ok (.aload_n 0, 1) := by decide +kernel
theorem dX3_addVertex_53 : decode cX3_addVertex 53 = .ok (.dup, 1) := by decide +kernel
theorem dX3_addVertex_54 : decode cX3_addVertex 54 = .ok (.getfield 18, 3) := by decide +kernel
theorem dX3_addVertex_57 : decode cX3_addVertex 57 = .ok (.iconst 1, 1) := by decide +kernel
theorem dX3_addVertex_58 : decode cX3_addVertex 58 = .ok (.iadd, 1) := by decide +kernel
theorem dX3_addVertex_59 : decode cX3_addVertex 59 = .ok (.putfield 18, 3) := by decide +kernel
theorem dX3_addVertex_62 : decode cX3_addVertex 62 = .ok (.aload_n 0, 1) := by decide +kernel
theorem dX3_addVertex_63 : decode cX3_addVertex 63 = .ok (.getfield 18, 3) := by decide +kernel
theorem dX3_addVertex_66 : decode cX3_addVertex 66 = .ok (.iconst 1, 1) := by decide +kernel
theorem dX3_addVertex_67 : decode cX3_addVertex 67 = .ok (.isub, 1) := by decide +kernel
theorem dX3_addVertex_68 : decode cX3_addVertex 68 = .ok (.ireturn, 1) := by decide +kernel
theorem dX3_removeVertex_0 : decode cX3_removeVertex 0 = .ok (.aload_n 0, 1) := by decide +kernel
theorem dX3_removeVertex_1 : decode cX3_removeVertex 1 = .ok (.getfield 18, 3) := by decide +kernel
theorem dX3_removeVertex_4 : decode cX3_removeVertex 4 = .ok (.ifCond .ne 6, 3) := by decide +kernel
theorem dX3_removeVertex_7 : decode cX3_removeVertex 7 = .ok (.bipush (-5), 2) := by decide +kernel
theorem dX3_removeVertex_9 : decode cX3_removeVertex 9 = .ok (.ireturn, 1) := by decide +kernel
theorem dX3_removeVertex_10 : decode cX3_removeVertex 10 = .ok (.aload_n 0, 1) := by decide +kernel
theorem dX3_removeVertex_11 : decode cX3_removeVertex 11 = .ok (.dup, 1) := by decide +kernel
theorem dX3_removeVertex_12 : decode cX3_removeVertex 12 = .ok (.getfield 18, 3) := by decide +kernel
theorem dX3_removeVertex_15 : decode cX3_removeVertex 15 = .ok (.iconst 1, 1) := by decide +kernel
theorem dX3_removeVertex_16 : decode cX3_removeVertex 16 = .ok (.isub, 1) := by decide +kernel
theorem dX3_removeVertex_17 : decode cX3_removeVertex 17 = .ok (.putfield 18, 3) := by decide +kernel
theorem dX3_removeVertex_20 : decode cX3_removeVertex 20 = .ok (.aload_n 0, 1) := by decide +kernel
theorem dX3_removeVertex_21 : decode cX3_removeVertex 21 = .ok (.getfield 18, 3) := by decide +kernel
theorem dX3_removeVertex_24 : decode cX3_removeVertex 24 = .ok (.ireturn, 1) := by decide +kernel
theorem dX3_removeTrack_0 : decode cX3_removeTrack 0 = .ok (.aload_n 0, 1) := by decide +kernel
theorem dX3_removeTrack_1 : decode cX3_removeTrack 1 = .ok (.getfield 15, 3) := by decide +kernel
theorem dX3_removeTrack_4 : decode cX3_removeTrack 4 = .ok (.ifCond .ne 6, 3) := by decide +kernel
theorem dX3_removeTrack_7 : decode cX3_removeTrack 7 = .ok (.bipush (-5), 2) := by decide +kernel
theorem dX3_removeTrack_9 : decode cX3_removeTrack 9 = .ok (.ireturn, 1) := by decide +kernel
theorem dX3_removeTrack_10 : decode cX3_removeTrack 10 = .ok (.aload_n 0, 1) := by decide +kernel
theorem dX3_removeTrack_11 : decode cX3_removeTrack 11 = .ok (.getfield 15, 3) := by decide +kernel
theorem dX3_removeTrack_14 : decode cX3_removeTrack 14 = .ok (.iconst 1, 1) := by decide +kernel
theorem dX3_removeTrack_15 : decode cX3_removeTrack 15 = .ok (.isub, 1) := by decide +kernel
theorem dX3_removeTrack_16 : decode cX3_removeTrack 16 = .ok (.istore_n 1, 1) := by decide +kernel
theorem dX3_removeTrack_17 : decode cX3_removeTrack 17 = .ok (.iconst 0, 1) := by decide +kernel
theorem dX3_removeTrack_18 : decode cX3_removeTrack 18 = .ok (.istore_n 2, 1) := by decide +kernel
theorem dX3_removeTrack_19 : decode cX3_removeTrack 19 = .ok (.iload_n 2, 1) := by decide +kernel
theorem dX3_removeTrack_20 : decode cX3_removeTrack 20 = .ok (.aload_n 0, 1) := by decide +kernel
theorem dX3_removeTrack_21 : decode cX3_removeTrack 21 = .ok (.getfield 18, 3) := by decide +kernel
theorem dX3_removeTrack_24 : decode cX3_removeTrack 24 = .ok (.if_icmp .ge 31, 3) := by decide +kernel
theorem dX3_removeTrack_27 : decode cX3_removeTrack 27 = .ok (.aload_n 0, 1) := by decide +kernel
theorem dX3_removeTrack_28 : decode cX3_removeTrack 28 = .ok (.getfield 34, 3) := by decide +kernel
theorem dX3_removeTrack_31 : decode cX3_removeTrack 31 = .ok (.iload_n 2, 1) := by decide +kernel
theorem dX3_removeTrack_32 : decode cX3_removeTrack 32 = .ok (.iaload, 1) := by decide +kernel
theorem dX3_removeTrack_33 : decode cX3_removeTrack 33 = .ok (.iload_n 1, 1) := by decide +kernel
theorem dX3_removeTrack_34 : decode cX3_removeTrack 34 = .ok (.if_icmp .eq 12, 3) := by decide +kernel
theorem dX3_removeTrack_37 : decode cX3_removeTrack 37 = .ok (.aload_n 0, 1) := by decide +kernel
theorem dX3_removeTrack_38 : decode cX3_removeTrack 38 = .ok (.iload_n 2, 1) := by decide +kernel
theorem dX3_removeTrack_39 : decode cX3_removeTrack 39 = .ok (.iload_n 1, 1) := by decide +kernel
theorem dX3_removeTrack_40 : decode cX3_removeTrack 40 = .ok (.invokevirtual 46, 3) := by decide +kernel
theorem dX3_removeTrack_43 : decode cX3_removeTrack 43 = .ok (.ifCond .eq 6, 3) := by decide +kernel
theorem dX3_removeTrack_46 : decode cX3_removeTrack 46 = .ok (.bipush (-5), 2) := by decide +kernel
theorem dX3_removeTrack_48 : decode cX3_removeTrack 48 = .ok (.ireturn, 1) := by decide +kernel
theorem dX3_removeTrack_49 : decode cX3_removeTrack 49 = .ok (.iinc 2 1, 3) := by decide +kernel
theorem dX3_removeTrack_52 : decode cX3_removeTrack 52 = .ok (.goto (-33), 3) := by decide +kernel
theorem dX3_removeTrack_55 : decode cX3_removeTrack 55 = .ok (.aload_n 0, 1) := by decide +kernel
theorem dX3_removeTrack_56 : decode cX3_removeTrack 56 = .ok (.iload_n 1, 1) := by decide +kernel
theorem dX3_removeTrack_57 : decode cX3_removeTrack 57 = .ok (.putfield 15, 3) := by decide +kernel
theorem dX3_removeTrack_60 : decode cX3_removeTrack 60 = .ok (.aload_n 0, 1) := by decide +kernel
theorem dX3_removeTrack_61 : decode cX3_removeTrack 61 = .ok (.getfield 15, 3) := by decide +kernel
theorem dX3_removeTrack_64 : decode cX3_removeTrack 64 = .ok (.ireturn, 1) := by decide +kernel
theorem dX4_init_0 : decode cX4_init 0 = .ok (.aload_n 0, 1) := by decide +kernel
theorem dX4_init_1 : decode cX4_init 1 = .ok (.invokespecial 1, 3) := by decide +kernel
theorem dX4_init_4 : decode cX4_init 4 = .ok (.aload_n 0, 1) := by decide +kernel
theorem dX4_init_5 : decode cX4_init 5 = .ok (.lconst 1, 1) := by decide +kernel
theorem dX4_init_6 : decode cX4_init 6 = .ok (.putfield 7, 3) := by decide +kernel
theorem dX4_init_9 : decode cX4_init 9 = .ok (.return_, 1) := by decide +kernel
theorem dX4_clear_0 : decode cX4_clear 0 = .ok (.aload_n 0, 1) := by decide +kernel
theorem dX4_clear_1 : decode cX4_clear 1 = .ok (.lconst 0, 1) := by decide +kernel
theorem dX4_clear_2 : decode cX4_clear 2 = .ok (.putfield 13, 3) := by decide +kernel
theorem dX4_clear_5 : decode cX4_clear 5 = .ok (.aload_n 0, 1) := by decide +kernel
theorem dX4_clear_6 : decode cX4_clear 6 = .ok (.lconst 0, 1) := by decide +kernel
theorem dX4_clear_7 : decode cX4_clear 7 = .ok (.putfield 16, 3) := by decide +kernel
theorem dX4_clear_10 : decode cX4_clear 10 = .ok (.aload_n 0, 1) := by decide +kernel
theorem dX4_clear_11 : decode cX4_clear 11 = .ok (.lconst 1, 1) := by decide +kernel
theorem dX4_clear_12 : decode cX4_clear 12 = .ok (.putfield 7, 3) := by decide +kernel
theorem dX4_clear_15 : decode cX4_clear 15 = .ok (.return_, 1) := by decide +kernel
theorem dX4_join_0 : decode cX4_join 0 = .ok (.ldc2_w 19, 3) := by decide +kernel
theorem dX4_join_3 : decode cX4_join 3 = .ok (.aload_n 1, 1) := by decide +kernel
theorem dX4_join_4 : decode cX4_join 4 = .ok (.getfield 21, 3) := by decide +kernel
theorem dX4_join_7 : decode cX4_join 7 = .ok (.invokestatic 26, 3) := by decide +kernel
theorem dX4_join_10 : decode cX4_join 10 = .ok (.lmul, 1) := by decide +kernel
theorem dX4_join_11 : decode cX4_join 11 = .ok (.lstore 6, 2) := by decide +kernel
theorem dX4_join_13 : decode cX4_join 13 = .ok (.iload 5, 2) := by decide +kernel
theorem dX4_join_15 : decode cX4_join 15 = .ok (.iload_n 2, 1) := by decide +kernel
theorem dX4_join_16 : decode cX4_join 16 = .ok (.imul, 1) := by decide +kernel
theorem dX4_join_17 : decode cX4_join 17 = .ok (.i2l, 1) := by decide +kernel
theorem dX4_join_18 : decode cX4_join 18 = .ok (.aload_n 1, 1) := by decide +kernel
theorem dX4_join_19 : decode cX4_join 19 = .ok (.getfield 32, 3) := by decide +kernel
theorem dX4_join_22 : decode cX4_join 22 = .ok (.ldc2_w 19, 3) := by decide +kernel
theorem dX4_join_25 : decode cX4_join 25 = .ok (.aload_n 1, 1) := by decide +kernel
theorem dX4_join_26 : decode cX4_join 26 = .ok (.getfield 21, 3) := by decide +kernel
theorem dX4_join_29 : decode cX4_join 29 = .ok (.lmul, 1) := by decide +kernel
theorem dX4_join_30 : decode cX4_join 30 = .ok (.iload 4, 2) := by decide +kernel
theorem dX4_join_32 : decode cX4_join 32 = .ok (.i2l, 1) := by decide +kernel
theorem dX4_join_33 : decode cX4_join 33 = .ok (.lmul, 1) := by decide +kernel
theorem dX4_join_34 : decode cX4_join 34 = .ok (.lsub, 1) := by decide +kernel
theorem dX4_join_35 : decode cX4_join 35 = .ok (.lmul, 1) := by decide +kernel
theorem dX4_join_36 : decode cX4_join 36 = .ok (.lstore 8, 2) := by decide +kernel
theorem dX4_join_38 : decode cX4_join 38 = .ok (.iload 5, 2) := by decide +kernel
theorem dX4_join_40 : decode cX4_join 40 = .ok (.iload_n 2, 1) := by decide +kernel
theorem dX4_join_41 : decode cX4_join 41 = .ok (.imul, 1) := by decide +kernel
theorem dX4_join_42 : decode cX4_join 42 = .ok (.i2l, 1) := by decide +kernel
theorem dX4_join_43 : decode cX4_join 43 = .ok (.ldc2_w 19, 3) := by decide +kernel
theorem dX4_join_46 : decode cX4_join 46 = .ok (.aload_n 1, 1) := by decide +kernel
theorem dX4_join_47 : decode cX4_join 47 = .ok (.getfield 21, 3) := by decide +kernel
theorem dX4_join_50 : decode cX4_join 50 = .ok (.lmul, 1) := by decide +kernel
theorem dX4_join_51 : decode cX4_join 51 = .ok (.iload_n 3, 1) := by decide +kernel
theorem dX4_join_52 : decode cX4_join 52 = .ok (.i2l, 1) := by decide +kernel
theorem dX4_join_53 : decode cX4_join 53 = .ok (.lmul, 1) := by decide +kernel
theorem dX4_join_54 : decode cX4_join 54 = .ok (.aload_n 1, 1) := by decide +kernel
theorem dX4_join_55 : decode cX4_join 55 = .ok (.getfield 35, 3) := by decide +kernel
theorem dX4_join_58 : decode cX4_join 58 = .ok (.lsub, 1) := by decide +kernel
theorem dX4_join_59 : decode cX4_join 59 = .ok (.lmul, 1) := by decide +kernel
theorem dX4_join_60 : decode cX4_join 60 = .ok (.lstore 10, 2) := by decide +kernel
theorem dX4_join_62 : decode cX4_join 62 = .ok (.aload_n 0, 1) := by decide +kernel
theorem dX4_join_63 : decode cX4_join 63 = .ok (.aload_n 0, 1) := by decide +kernel
theorem dX4_join_64 : decode cX4_join 64 = .ok (.getfield 13, 3) := by decide +kernel
theorem dX4_join_67 : decode cX4_join 67 = .ok (.lload 6, 2) := by decide +kernel
theorem dX4_join_69 : decode cX4_join 69 = .ok (.lmul, 1) := by decide +kernel
theorem dX4_join_70 : decode cX4_join 70 = .ok (.lload 8, 2) := by decide +kernel
theorem dX4_join_72 : decode cX4_join 72 = .ok (.aload_n 0, 1) := by decide +kernel
theorem dX4_join_73 : decode cX4_join 73 = .ok (.getfield 7, 3) := by decide +kernel
theorem dX4_join_76 : decode cX4_join 76 = .ok (.lmul, 1) := by decide +kernel
theorem dX4_join_77 : decode cX4_join 77 = .ok (.ladd, 1) := by decide +kernel
theorem dX4_join_78 : decode cX4_join 78 = .ok (.putfield 13, 3) := by decide +kernel
theorem dX4_join_81 : decode cX4_join 81 = .ok (.aload_n 0, 1) := by decide +kernel
theorem dX4_join_82 : decode cX4_join 82 = .ok (.aload_n 0, 1) := by decide +kernel
theorem dX4_join_83 : decode cX4_join 83 = .ok (.getfield 16, 3) := by decide +kernel
theorem dX4_join_86 : decode cX4_join 86 = .ok (.lload 6, 2) := by decide +kernel
theorem dX4_join_88 : decode cX4_join 88 = .ok (.lmul, 1) := by decide +kernel
theorem dX4_join_89 : decode cX4_join 89 = .ok (.lload 10, 2) := by decide +kernel
theorem dX4_join_91 : decode cX4_join 91 = .ok (.aload_n 0, 1) := by decide +kernel
theorem dX4_join_92 : decode cX4_join 92 = .ok (.getfield 7, 3) := by decide +kernel
theorem dX4_join_95 : decode cX4_join 95 = .ok (.lmul, 1) := by decide +kernel
theorem dX4_join_96 : decode cX4_join 96 = .ok (.ladd, 1) := by decide +kernel
theorem dX4_join_97 : decode cX4_join 97 = .ok (.putfield 16, 3) := by decide +kernel
theorem dX4_join_100 : decode cX4_join 100 = .ok (.aload_n 0, 1) := by decide +kernel
theorem dX4_join_101 : decode cX4_join 101 = .ok (.aload_n 0, 1) := by decide +kernel
theorem dX4_join_102 : decode cX4_join 102 = .ok (.getfield 7, 3) := by decide +kernel
theorem dX4_join_105 : decode cX4_join 105 = .ok (.lload 6, 2) := by decide +kernel
theorem dX4_join_107 : decode cX4_join 107 = .ok (.lmul, 1) := by decide +kernel
theorem dX4_join_108 : decode cX4_join 108 = .ok (.putfield 7, 3) := by decide +kernel
theorem dX4_join_111 : decode cX4_join 111 = .ok (.return_, 1) := by decide +kernel
theorem dX4_isNone_0 : decode cX4_isNone 0 = .ok (.aload_n 0, 1) := by decide +kernel
theorem dX4_isNone_1 : decode cX4_isNone 1 = .ok (.getfield 13, 3) := by decide +kernel
theorem dX4_isNone_4 : decode cX4_isNone 4 = .ok (.lconst 0, 1) := by decide +kernel
theorem dX4_isNone_5 : decode cX4_isNone 5 = .ok (.lcmp, 1) := by decide +kernel
theorem dX4_isNone_6 : decode cX4_isNone 6 = .ok (.ifCond .ne 16, 3) := by decide +kernel
theorem dX4_isNone_9 : decode cX4_isNone 9 = .ok (.aload_n 0, 1) := by decide +kernel
theorem dX4_isNone_10 : decode cX4_isNone 10 = .ok (.getfield 16, 3) := by decide +kernel
theorem dX4_isNone_13 : decode cX4_isNone 13 = .ok (.lconst 0, 1) := by decide +kernel
theorem dX4_isNone_14 : decode cX4_isNone 14 = .ok (.lcmp, 1) := by decide +kernel
theorem dX4_isNone_15 : decode cX4_isNone 15 = .ok (.ifCond .ne 7, 3) := by decide +kernel
theorem dX4_isNone_18 : decode cX4_isNone 18 = .ok (.iconst 1, 1) := by decide +kernel
theorem dX4_isNone_19 : decode cX4_isNone 19 = .ok (.goto 4, 3) := by decide +kernel
theorem dX4_isNone_22 : decode cX4_isNone 22 = .ok (.iconst 0, 1) := by decide +kernel
theorem dX4_isNone_23 : decode cX4_isNone 23 = .ok (.ireturn, 1) := by decide +kernel
theorem dX4_partAlong_0 : decode cX4_partAlong 0 = .ok (.iload_n 1, 1) := by decide +kernel
theorem dX4_partAlong_1 : decode cX4_partAlong 1 = .ok (.ifCond .ne 10, 3) := by decide +kernel
theorem dX4_partAlong_4 : decode cX4_partAlong 4 = .ok (.aload_n 0, 1) := by decide +kernel
theorem dX4_partAlong_5 : decode cX4_partAlong 5 = .ok (.getfield 13, 3) := by decide +kernel
theorem dX4_partAlong_8 : decode cX4_partAlong 8 = .ok (.goto 7, 3) := by decide +kernel
theorem dX4_partAlong_11 : decode cX4_partAlong 11 = .ok (.aload_n 0, 1) := by decide +kernel
theorem dX4_partAlong_12 : decode cX4_partAlong 12 = .ok (.getfield 16, 3) := by decide +kernel
theorem dX4_partAlong_15 : decode cX4_partAlong 15 = .ok (.aload_n 0, 1) := by decide +kernel
theorem dX4_partAlong_16 : decode cX4_partAlong 16 = .ok (.getfield 7, 3) := by decide +kernel
theorem dX4_partAlong_19 : decode cX4_partAlong 19 = .ok (.iload_n 2, 1) := by decide +kernel
theorem dX4_partAlong_20 : decode cX4_partAlong 20 = .ok (.invokestatic 38, 3) := by decide +kernel
theorem dX4_partAlong_23 : decode cX4_partAlong 23 = .ok (.lreturn, 1) := by decide +kernel
theorem dX4_strength_0 : decode cX4_strength 0 = .ok (.lconst 1, 1) := by decide +kernel
theorem dX4_strength_1 : decode cX4_strength 1 = .ok (.aload_n 0, 1) := by decide +kernel
theorem dX4_strength_2 : decode cX4_strength 2 = .ok (.getfield 7, 3) := by decide +kernel
theorem dX4_strength_5 : decode cX4_strength 5 = .ok (.invokestatic 44, 3) := by decide +kernel
theorem dX4_strength_8 : decode cX4_strength 8 = .ok (.lstore_n 1, 1) := by decide +kernel
theorem dX4_strength_9 : decode cX4_strength 9 = .ok (.aload_n 0, 1) := by decide +kernel
theorem dX4_strength_10 : decode cX4_strength 10 = .ok (.getfield 13, 3) := by decide +kernel
theorem dX4_strength_13 : decode cX4_strength 13 = .ok (.lload_n 1, 1) := by decide +kernel
theorem dX4_strength_14 : decode cX4_strength 14 = .ok (.ldiv, 1) := by decide +kernel
theorem dX4_strength_15 : decode cX4_strength 15 = .ok (.lstore_n 3, 1) := by decide +kernel
theorem dX4_strength_16 : decode cX4_strength 16 = .ok (.aload_n 0, 1) := by decide +kernel
theorem dX4_strength_17 : decode cX4_strength 17 = .ok (.getfield 16, 3) := by decide +kernel
theorem dX4_strength_20 : decode cX4_strength 20 = .ok (.lload_n 1, 1) := by decide +kernel
theorem dX4_strength_21 : decode cX4_strength 21 = .ok (.ldiv, 1) := by decide +kernel
theorem dX4_strength_22 : decode cX4_strength 22 = .ok (.lstore 5, 2) := by decide +kernel
theorem dX4_strength_24 : decode cX4_strength 24 = .ok (.lload_n 3, 1) := by decide +kernel
theorem dX4_strength_25 : decode cX4_strength 25 = .ok (.lload_n 3, 1) := by decide +kernel
theorem dX4_strength_26 : decode cX4_strength 26 = .ok (.lmul, 1) := by decide +kernel
theorem dX4_strength_27 : decode cX4_strength 27 = .ok (.lload 5, 2) := by decide +kernel
theorem dX4_strength_29 : decode cX4_strength 29 = .ok (.lload 5, 2) := by decide +kernel
theorem dX4_strength_31 : decode cX4_strength 31 = .ok (.lmul, 1) := by decide +kernel
theorem dX4_strength_32 : decode cX4_strength 32 = .ok (.ladd, 1) := by decide +kernel
theorem dX4_strength_33 : decode cX4_strength 33 = .ok (.lreturn, 1) := by decide +kernel
theorem dX4_goesAlong_0 : decode cX4_goesAlong 0 = .ok (.aload_n 0, 1) := by decide +kernel
theorem dX4_goesAlong_1 : decode cX4_goesAlong 1 = .ok (.getfield 13, 3) := by decide +kernel
theorem dX4_goesAlong_4 : decode cX4_goesAlong 4 = .ok (.iload_n 2, 1) := by decide +kernel
theorem dX4_goesAlong_5 : decode cX4_goesAlong 5 = .ok (.i2l, 1) := by decide +kernel
theorem dX4_goesAlong_6 : decode cX4_goesAlong 6 = .ok (.lmul, 1) := by decide +kernel
theorem dX4_goesAlong_7 : decode cX4_goesAlong 7 = .ok (.aload_n 0, 1) := by decide +kernel
theorem dX4_goesAlong_8 : decode cX4_goesAlong 8 = .ok (.getfield 16, 3) := by decide +kernel
theorem dX4_goesAlong_11 : decode cX4_goesAlong 11 = .ok (.iload_n 1, 1) := by decide +kernel
theorem dX4_goesAlong_12 : decode cX4_goesAlong 12 = .ok (.i2l, 1) := by decide +kernel
theorem dX4_goesAlong_13 : decode cX4_goesAlong 13 = .ok (.lmul, 1) := by decide +kernel
theorem dX4_goesAlong_14 : decode cX4_goesAlong 14 = .ok (.lcmp, 1) := by decide +kernel
theorem dX4_goesAlong_15 : decode cX4_goesAlong 15 = .ok (.ifCond .ne 27, 3) := by decide +kernel
theorem dX4_goesAlong_18 : decode cX4_goesAlong 18 = .ok (.aload_n 0, 1) := by decide +kernel
theorem dX4_goesAlong_19 : decode cX4_goesAlong 19 = .ok (.getfield 13, 3) := by decide +kernel
theorem dX4_goesAlong_22 : decode cX4_goesAlong 22 = .ok (.iload_n 1, 1) := by decide +kernel
theorem dX4_goesAlong_23 : decode cX4_goesAlong 23 = .ok (.i2l, 1) := by decide +kernel
theorem dX4_goesAlong_24 : decode cX4_goesAlong 24 = .ok (.lmul, 1) := by decide +kernel
theorem dX4_goesAlong_25 : decode cX4_goesAlong 25 = .ok (.aload_n 0, 1) := by decide +kernel
theorem dX4_goesAlong_26 : decode cX4_goesAlong 26 = .ok (.getfield 16, 3) := by decide +kernel
theorem dX4_goesAlong_29 : decode cX4_goesAlong 29 = .ok (.iload_n 2, 1) := by decide +kernel
theorem dX4_goesAlong_30 : decode cX4_goesAlong 30 = .ok (.i2l, 1) := by decide +kernel
theorem dX4_goesAlong_31 : decode cX4_goesAlong 31 = .ok (.lmul, 1) := by decide +kernel
theorem dX4_goesAlong_32 : decode cX4_goesAlong 32 = .ok (.ladd, 1) := by decide +kernel
theorem dX4_goesAlong_33 : decode cX4_goesAlong 33 = .ok (.lconst 0, 1) := by decide +kernel
theorem dX4_goesAlong_34 : decode cX4_goesAlong 34 = .ok (.lcmp, 1) := by decide +kernel
theorem dX4_goesAlong_35 : decode cX4_goesAlong 35 = .ok (.ifCond .le 7, 3) := by decide +kernel
theorem dX4_goesAlong_38 : decode cX4_goesAlong 38 = .ok (.iconst 1, 1) := by decide +kernel
theorem dX4_goesAlong_39 : decode cX4_goesAlong 39 = .ok (.goto 4, 3) := by decide +kernel
theorem dX4_goesAlong_42 : decode cX4_goesAlong 42 = .ok (.iconst 0, 1) := by decide +kernel
theorem dX4_goesAlong_43 : decode cX4_goesAlong 43 = .ok (.ireturn, 1) := by decide +kernel
theorem dX5_init_0 : decode cX5_init 0 = .ok (.aload_n 0, 1) := by decide +kernel
theorem dX5_init_1 : decode cX5_init 1 = .ok (.invokespecial 3, 3) := by decide +kernel
theorem dX5_init_4 : decode cX5_init 4 = .ok (.aload_n 0, 1) := by decide +kernel
theorem dX5_init_5 : decode cX5_init 5 = .ok (.bipush 24, 2) := by decide +kernel
theorem dX5_init_7 : decode cX5_init 7 = .ok (.newarray .long, 2) := by decide +kernel
theorem dX5_init_9 : decode cX5_init 9 = .ok (.putfield 9, 3) := by decide +kernel
theorem dX5_init_12 : decode cX5_init 12 = .ok (.aload_n 0, 1) := by decide +kernel
theorem dX5_init_13 : decode cX5_init 13 = .ok (.iconst (-1), 1) := by decide +kernel
theorem dX5_init_14 : decode cX5_init 14 = .ok (.putfield 15, 3) := by decide +kernel
theorem dX5_init_17 : decode cX5_init 17 = .ok (.return_, 1) := by decide +kernel
theorem dX5_become_0 : decode cX5_become 0 = .ok (.iconst 0, 1) := by decide +kernel
theorem dX5_become_1 : decode cX5_become 1 = .ok (.istore_n 2, 1) := by decide +kernel
theorem dX5_become_2 : decode cX5_become 2 = .ok (.iload_n 2, 1) := by decide +kernel
theorem dX5_become_3 : decode cX5_become 3 = .ok (.bipush 24, 2) := by decide +kernel
theorem dX5_become_5 : decode cX5_become 5 = .ok (.if_icmp .ge 16, 3) := by decide +kernel
theorem dX5_become_8 : decode cX5_become 8 = .ok (.aload_n 0, 1) := by decide +kernel
theorem dX5_become_9 : decode cX5_become 9 = .ok (.getfield 9, 3) := by decide +kernel
theorem dX5_become_12 : decode cX5_become 12 = .ok (.iload_n 2, 1) := by decide +kernel
theorem dX5_become_13 : decode cX5_become 13 = .ok (.lconst 0, 1) := by decide +kernel
theorem dX5_become_14 : decode cX5_become 14 = .ok (.lastore, 1) := by decide +kernel
theorem dX5_become_15 : decode cX5_become 15 = .ok (.iinc 2 1, 3) := by decide +kernel
theorem dX5_become_18 : decode cX5_become 18 = .ok (.goto (-16), 3) := by decide +kernel
theorem dX5_become_21 : decode cX5_become 21 = .ok (.aload_n 0, 1) := by decide +kernel
theorem dX5_become_22 : decode cX5_become 22 = .ok (.iload_n 1, 1) := by decide +kernel
theorem dX5_become_23 : decode cX5_become 23 = .ok (.putfield 15, 3) := by decide +kernel
theorem dX5_become_26 : decode cX5_become 26 = .ok (.return_, 1) := by decide +kernel
theorem dX5_holdsNothing_0 : decode cX5_holdsNothing 0 = .ok (.aload_n 0, 1) := by decide +kernel
theorem dX5_holdsNothing_1 : decode cX5_holdsNothing 1 = .ok (.getfield 15, 3) := by decide +kernel
theorem dX5_holdsNothing_4 : decode cX5_holdsNothing 4 = .ok (.ifCond .ge 7, 3) := by decide +kernel
theorem dX5_holdsNothing_7 : decode cX5_holdsNothing 7 = .ok (.iconst 1, 1) := by decide +kernel
theorem dX5_holdsNothing_8 : decode cX5_holdsNothing 8 = .ok (.goto 4, 3) := by decide +kernel
theorem dX5_holdsNothing_11 : decode cX5_holdsNothing 11 = .ok (.iconst 0, 1) := by decide +kernel
theorem dX5_holdsNothing_12 : decode cX5_holdsNothing 12 = .ok (.ireturn, 1) := by decide +kernel
theorem dX5_hasPlace_0 : decode cX5_hasPlace 0 = .ok (.iload_n 1, 1) := by decide +kernel
theorem dX5_hasPlace_1 : decode cX5_hasPlace 1 = .ok (.ifCond .lt 15, 3) := by decide +kernel
theorem dX5_hasPlace_4 : decode cX5_hasPlace 4 = .ok (.iload_n 1, 1) := by decide +kernel
theorem dX5_hasPlace_5 : decode cX5_hasPlace 5 = .ok (.aload_n 0, 1) := by decide +kernel
theorem dX5_hasPlace_6 : decode cX5_hasPlace 6 = .ok (.getfield 15, 3) := by decide +kernel
theorem dX5_hasPlace_9 : decode cX5_hasPlace 9 = .ok (.if_icmp .ge 7, 3) := by decide +kernel
theorem dX5_hasPlace_12 : decode cX5_hasPlace 12 = .ok (.iconst 1, 1) := by decide +kernel
theorem dX5_hasPlace_13 : decode cX5_hasPlace 13 = .ok (.goto 4, 3) := by decide +kernel
theorem dX5_hasPlace_16 : decode cX5_hasPlace 16 = .ok (.iconst 0, 1) := by decide +kernel
theorem dX5_hasPlace_17 : decode cX5_hasPlace 17 = .ok (.ireturn, 1) := by decide +kernel
theorem dX6_init_0 : decode cX6_init 0 = .ok (.aload_n 0, 1) := by decide +kernel
theorem dX6_init_1 : decode cX6_init 1 = .ok (.invokespecial 3, 3) := by decide +kernel
theorem dX6_init_4 : decode cX6_init 4 = .ok (.aload_n 0, 1) := by decide +kernel
theorem dX6_init_5 : decode cX6_init 5 = .ok (.bipush 120, 2) := by decide +kernel
theorem dX6_init_7 : decode cX6_init 7 = .ok (.newarray .byte, 2) := by decide +kernel
theorem dX6_init_9 : decode cX6_init 9 = .ok (.putfield 9, 3) := by decide +kernel
theorem dX6_init_12 : decode cX6_init 12 = .ok (.aload_n 0, 1) := by decide +kernel
theorem dX6_init_13 : decode cX6_init 13 = .ok (.iconst 0, 1) := by decide +kernel
theorem dX6_init_14 : decode cX6_init 14 = .ok (.putfield 15, 3) := by decide +kernel
theorem dX6_init_17 : decode cX6_init 17 = .ok (.aload_n 0, 1) := by decide +kernel
theorem dX6_init_18 : decode cX6_init 18 = .ok (.iconst 0, 1) := by decide +kernel
theorem dX6_init_19 : decode cX6_init 19 = .ok (.putfield 19, 3) := by decide +kernel
theorem dX6_init_22 : decode cX6_init 22 = .ok (.aload_n 0, 1) := by decide +kernel
theorem dX6_init_23 : decode cX6_init 23 = .ok (.iconst 0, 1) := by decide +kernel
theorem dX6_init_24 : decode cX6_init 24 = .ok (.putfield 22, 3) := by decide +kernel
theorem dX6_init_27 : decode cX6_init 27 = .ok (.aload_n 0, 1) := by decide +kernel
theorem dX6_init_28 : decode cX6_init 28 = .ok (.bipush 6, 2) := by decide +kernel
theorem dX6_init_30 : decode cX6_init 30 = .ok (.newarray .int, 2) := by decide +kernel
theorem dX6_init_32 : decode cX6_init 32 = .ok (.putfield 25, 3) := by decide +kernel
theorem dX6_init_35 : decode cX6_init 35 = .ok (.return_, 1) := by decide +kernel
theorem dX6_append_0 : decode cX6_append 0 = .ok (.aload_n 0, 1) := by decide +kernel
theorem dX6_append_1 : decode cX6_append 1 = .ok (.getfield 15, 3) := by decide +kernel
theorem dX6_append_4 : decode cX6_append 4 = .ok (.bipush 120, 2) := by decide +kernel
theorem dX6_append_6 : decode cX6_append 6 = .ok (.if_icmp .lt 5, 3) := by decide +kernel
theorem dX6_append_9 : decode cX6_append 9 = .ok (.iconst 0, 1) := by decide +kernel
theorem dX6_append_10 : decode cX6_append 10 = .ok (.ireturn, 1) := by decide +kernel
theorem dX6_append_11 : decode cX6_append 11 = .ok (.aload_n 0, 1) := by decide +kernel
theorem dX6_append_12 : decode cX6_append 12 = .ok (.getfield 9, 3) := by decide +kernel
theorem dX6_append_15 : decode cX6_append 15 = .ok (.aload_n 0, 1) := by decide +kernel
theorem dX6_append_16 : decode cX6_append 16 = .ok (.getfield 15, 3) := by decide +kernel
theorem dX6_append_19 : decode cX6_append 19 = .ok (.iload_n 1, 1) := by decide +kernel
theorem dX6_append_20 : decode cX6_append 20 = .ok (.i2b, 1) := by decide +kernel
theorem dX6_append_21 : decode cX6_append 21 = .ok (.bastore, 1) := by decide +kernel
theorem dX6_append_22 : decode cX6_append 22 = .ok (.aload_n 0, 1) := by decide +kernel
theorem dX6_append_23 : decode cX6_append 23 = .ok (.dup, 1) := by decide +kernel
theorem dX6_append_24 : decode cX6_append 24 = .ok (.getfield 15, 3) := by decide +kernel
theorem dX6_append_27 : decode cX6_append 27 = .ok (.iconst 1, 1) := by decide +kernel
theorem dX6_append_28 : decode cX6_append 28 = .ok (.iadd, 1) := by decide +kernel
theorem dX6_append_29 : decode cX6_append 29 = .ok (.putfield 15, 3) := by decide +kernel
theorem dX6_append_32 : decode cX6_append 32 = .ok (.iconst 1, 1) := by decide +kernel
theorem dX6_append_33 : decode cX6_append 33 = .ok (.ireturn, 1) := by decide +kernel
theorem dX6_faultPlace_0 : decode cX6_faultPlace 0 = .ok (.aload_n 0, 1) := by decide +kernel
theorem dX6_faultPlace_1 : decode cX6_faultPlace 1 = .ok (.iconst 0, 1) := by decide +kernel
theorem dX6_faultPlace_2 : decode cX6_faultPlace 2 = .ok (.putfield 19, 3) := by decide +kernel
theorem dX6_faultPlace_5 : decode cX6_faultPlace 5 = .ok (.iconst 0, 1) := by decide +kernel
theorem dX6_faultPlace_6 : decode cX6_faultPlace 6 = .ok (.istore_n 1, 1) := by decide +kernel
theorem dX6_faultPlace_7 : decode cX6_faultPlace 7 = .ok (.iload_n 1, 1) := by decide +kernel
theorem dX6_faultPlace_8 : decode cX6_faultPlace 8 = .ok (.bipush 120, 2) := by decide +kernel
theorem dX6_faultPlace_10 : decode cX6_faultPlace 10 = .ok (.if_icmp .ge 48, 3) := by decide +kernel
theorem dX6_faultPlace_13 : decode cX6_faultPlace 13 = .ok (.aload_n 0, 1) := by decide +kernel
theorem dX6_faultPlace_14 : decode cX6_faultPlace 14 = .ok (.invokevirtual 29, 3) := by decide +kernel
theorem dX6_faultPlace_17 : decode cX6_faultPlace 17 = .ok (.ifCond .ne 8, 3) := by decide +kernel
theorem dX6_faultPlace_20 : decode cX6_faultPlace 20 = .ok (.aload_n 0, 1) := by decide +kernel
theorem dX6_faultPlace_21 : decode cX6_faultPlace 21 = .ok (.getfield 19, 3) := by decide +kernel
theorem dX6_faultPlace_24 : decode cX6_faultPlace 24 = .ok (.ireturn, 1) := by decide +kernel
theorem dX6_faultPlace_25 : decode cX6_faultPlace 25 = .ok (.aload_n 0, 1) := by decide +kernel
theorem dX6_faultPlace_26 : decode cX6_faultPlace 26 = .ok (.getfield 19, 3) := by decide +kernel
theorem dX6_faultPlace_29 : decode cX6_faultPlace 29 = .ok (.aload_n 0, 1) := by decide +kernel
theorem dX6_faultPlace_30 : decode cX6_faultPlace 30 = .ok (.getfield 15, 3) := by decide +kernel
theorem dX6_faultPlace_33 : decode cX6_faultPlace 33 = .ok (.if_icmp .ne 5, 3) := by decide +kernel
theorem dX6_faultPlace_36 : decode cX6_faultPlace 36 = .ok (.iconst (-1), 1) := by decide +kernel
theorem dX6_faultPlace_37 : decode cX6_faultPlace 37 = .ok (.ireturn, 1) := by decide +kernel
theorem dX6_faultPlace_38 : decode cX6_faultPlace 38 = .ok (.aload_n 0, 1) := by decide +kernel
theorem dX6_faultPlace_39 : decode cX6_faultPlace 39 = .ok (.bipush 59, 2) := by decide +kernel
theorem dX6_faultPlace_41 : decode cX6_faultPlace 41 = .ok (.invokevirtual 33, 3) := by decide +kernel
theorem dX6_faultPlace_44 : decode cX6_faultPlace 44 = .ok (.ifCond .ne 8, 3) := by decide +kernel
theorem dX6_faultPlace_47 : decode cX6_faultPlace 47 = .ok (.aload_n 0, 1) := by decide +kernel
theorem dX6_faultPlace_48 : decode cX6_faultPlace 48 = .ok (.getfield 19, 3) := by decide +kernel
theorem dX6_faultPlace_51 : decode cX6_faultPlace 51 = .ok (.ireturn, 1) := by decide +kernel
theorem dX6_faultPlace_52 : decode cX6_faultPlace 52 = .ok (.iinc 1 1, 3) := by decide +kernel
theorem dX6_faultPlace_55 : decode cX6_faultPlace 55 = .ok (.goto (-48), 3) := by decide +kernel
theorem dX6_faultPlace_58 : decode cX6_faultPlace 58 = .ok (.aload_n 0, 1) := by decide +kernel
theorem dX6_faultPlace_59 : decode cX6_faultPlace 59 = .ok (.getfield 19, 3) := by decide +kernel
theorem dX6_faultPlace_62 : decode cX6_faultPlace 62 = .ok (.ireturn, 1) := by decide +kernel
theorem dX6_readStatement_0 : decode cX6_readStatement 0 = .ok (.aload_n 0, 1) := by decide +kernel
theorem dX6_readStatement_1 : decode cX6_readStatement 1 = .ok (.aload_n 0, 1) := by decide +kernel
theorem dX6_readStatement_2 : decode cX6_readStatement 2 = .ok (.invokevirtual 37, 3) := by decide +kernel
theorem dX6_readStatement_5 : decode cX6_readStatement 5 = .ok (.putfield 22, 3) := by decide +kernel
theorem dX6_readStatement_8 : decode cX6_readStatement 8 = .ok (.aload_n 0, 1) := by decide +kernel
theorem dX6_readStatement_9 : decode cX6_readStatement 9 = .ok (.getfield 22, 3) := by decide +kernel
theorem dX6_readStatement_12 : decode cX6_readStatement 12 = .ok (.bipush 102, 2) := by decide +kernel
theorem dX6_readStatement_14 : decode cX6_readStatement 14 = .ok (.if_icmp .eq 32, 3) := by decide +kernel
theorem dX6_readStatement_17 : decode cX6_readStatement 17 = .ok (.aload_n 0, 1) := by decide +kernel
theorem dX6_readStatement_18 : decode cX6_readStatement 18 = .ok (.getfield 22, 3) := by decide +kernel
theorem dX6_readStatement_21 : decode cX6_readStatement 21 = .ok (.bipush 116, 2) := by decide +kernel
theorem dX6_readStatement_23 : decode cX6_readStatement 23 = .ok (.if_icmp .eq 23, 3) := by decide +kernel
theorem dX6_readStatement_26 : decode cX6_readStatement 26 = .ok (.aload_n 0, 1) := by decide +kernel
theorem dX6_readStatement_27 : decode cX6_readStatement 27 = .ok (.getfield 22, 3) := by decide +kernel
theorem dX6_readStatement_30 : decode cX6_readStatement 30 = .ok (.bipush 107, 2) := by decide +kernel
theorem dX6_readStatement_32 : decode cX6_readStatement 32 = .ok (.if_icmp .eq 14, 3) := by decide +kernel
theorem dX6_readStatement_35 : decode cX6_readStatement 35 = .ok (.aload_n 0, 1) := by decide +kernel
theorem dX6_readStatement_36 : decode cX6_readStatement 36 = .ok (.getfield 22, 3) := by decide +kernel
theorem dX6_readStatement_39 : decode cX6_readStatement 39 = .ok (.bipush 118, 2) := by decide +kernel
theorem dX6_readStatement_41 : decode cX6_readStatement 41 = .ok (.if_icmp .eq 5, 3) := by decide +kernel
theorem dX6_readStatement_44 : decode cX6_readStatement 44 = .ok (.iconst 0, 1) := by decide +kernel
theorem dX6_readStatement_45 : decode cX6_readStatement 45 = .ok (.ireturn, 1) := by decide +kernel
theorem dX6_readStatement_46 : decode cX6_readStatement 46 = .ok (.aload_n 0, 1) := by decide +kernel
theorem dX6_readStatement_47 : decode cX6_readStatement 47 = .ok (.dup, 1) := by decide +kernel
theorem dX6_readStatement_48 : decode cX6_readStatement 48 = .ok (.getfield 19, 3) := by decide +kernel
theorem dX6_readStatement_51 : decode cX6_readStatement 51 = .ok (.iconst 1, 1) := by decide +kernel
theorem dX6_readStatement_52 : decode cX6_readStatement 52 = .ok (.iadd, 1) := by decide +kernel
theorem dX6_readStatement_53 : decode cX6_readStatement 53 = .ok (.putfield 19, 3) := by decide +kernel
theorem dX6_readStatement_56 : decode cX6_readStatement 56 = .ok (.aload_n 0, 1) := by decide +kernel
theorem dX6_readStatement_57 : decode cX6_readStatement 57 = .ok (.getfield 22, 3) := by decide +kernel
theorem dX6_readStatement_60 : decode cX6_readStatement 60 = .ok (.lookupswitch 70 #[(102, 36), (107, 49), (116, 42)], 36) := by decide +kernel
theorem dX6_readStatement_96 : decode cX6_readStatement 96 = .ok (.aload_n 0, 1) := by decide +kernel
theorem dX6_readStatement_97 : decode cX6_readStatement 97 = .ok (.iconst 0, 1) := by decide +kernel
theorem dX6_readStatement_98 : decode cX6_readStatement 98 = .ok (.invokevirtual 41, 3) := by decide +kernel
theorem dX6_readStatement_101 : decode cX6_readStatement 101 = .ok (.ireturn, 1) := by decide +kernel
theorem dX6_readStatement_102 : decode cX6_readStatement 102 = .ok (.aload_n 0, 1) := by decide +kernel
theorem dX6_readStatement_103 : decode cX6_readStatement 103 = .ok (.bipush 6, 2) := by decide +kernel
theorem dX6_readStatement_105 : decode cX6_readStatement 105 = .ok (.invokevirtual 45, 3) := by decide +kernel
theorem dX6_readStatement_108 : decode cX6_readStatement 108 = .ok (.ireturn, 1) := by decide +kernel
theorem dX6_readStatement_109 : decode cX6_readStatement 109 = .ok (.aload_n 0, 1) := by decide +kernel
theorem dX6_readStatement_110 : decode cX6_readStatement 110 = .ok (.iconst 0, 1) := by decide +kernel
theorem dX6_readStatement_111 : decode cX6_readStatement 111 = .ok (.invokevirtual 41, 3) := by decide +kernel
theorem dX6_readStatement_114 : decode cX6_readStatement 114 = .ok (.ifCond .eq 14, 3) := by decide +kernel
theorem dX6_readStatement_117 : decode cX6_readStatement 117 = .ok (.aload_n 0, 1) := by decide +kernel
theorem dX6_readStatement_118 : decode cX6_readStatement 118 = .ok (.invokevirtual 48, 3) := by decide +kernel
theorem dX6_readStatement_121 : decode cX6_readStatement 121 = .ok (.ifCond .eq 7, 3) := by decide +kernel
theorem dX6_readStatement_124 : decode cX6_readStatement 124 = .ok (.iconst 1, 1) := by decide +kernel
theorem dX6_readStatement_125 : decode cX6_readStatement 125 = .ok (.goto 4, 3) := by decide +kernel
theorem dX6_readStatement_128 : decode cX6_readStatement 128 = .ok (.iconst 0, 1) := by decide +kernel
theorem dX6_readStatement_129 : decode cX6_readStatement 129 = .ok (.ireturn, 1) := by decide +kernel
theorem dX6_readStatement_130 : decode cX6_readStatement 130 = .ok (.aload_n 0, 1) := by decide +kernel
theorem dX6_readStatement_131 : decode cX6_readStatement 131 = .ok (.iconst 2, 1) := by decide +kernel
theorem dX6_readStatement_132 : decode cX6_readStatement 132 = .ok (.invokevirtual 45, 3) := by decide +kernel
theorem dX6_readStatement_135 : decode cX6_readStatement 135 = .ok (.ifCond .eq 14, 3) := by decide +kernel
theorem dX6_readStatement_138 : decode cX6_readStatement 138 = .ok (.aload_n 0, 1) := by decide +kernel
theorem dX6_readStatement_139 : decode cX6_readStatement 139 = .ok (.invokevirtual 51, 3) := by decide +kernel
theorem dX6_readStatement_142 : decode cX6_readStatement 142 = .ok (.ifCond .eq 7, 3) := by decide +kernel
theorem dX6_readStatement_145 : decode cX6_readStatement 145 = .ok (.iconst 1, 1) := by decide +kernel
theorem dX6_readStatement_146 : decode cX6_readStatement 146 = .ok (.goto 4, 3) := by decide +kernel
theorem dX6_readStatement_149 : decode cX6_readStatement 149 = .ok (.iconst 0, 1) := by decide +kernel
theorem dX6_readStatement_150 : decode cX6_readStatement 150 = .ok (.ireturn, 1) := by decide +kernel
theorem dX6_here_0 : decode cX6_here 0 = .ok (.aload_n 0, 1) := by decide +kernel
theorem dX6_here_1 : decode cX6_here 1 = .ok (.getfield 19, 3) := by decide +kernel
theorem dX6_here_4 : decode cX6_here 4 = .ok (.aload_n 0, 1) := by decide +kernel
theorem dX6_here_5 : decode cX6_here 5 = .ok (.getfield 15, 3) := by decide +kernel
theorem dX6_here_8 : decode cX6_here 8 = .ok (.if_icmp .ge 15, 3) := by decide +kernel
theorem dX6_here_11 : decode cX6_here 11 = .ok (.aload_n 0, 1) := by decide +kernel
theorem dX6_here_12 : decode cX6_here 12 = .ok (.getfield 9, 3) := by decide +kernel
theorem dX6_here_15 : decode cX6_here 15 = .ok (.aload_n 0, 1) := by decide +kernel
theorem dX6_here_16 : decode cX6_here 16 = .ok (.getfield 19, 3) := by decide +kernel
theorem dX6_here_19 : decode cX6_here 19 = .ok (.baload, 1) := by decide +kernel
theorem dX6_here_20 : decode cX6_here 20 = .ok (.goto 4, 3) := by decide +kernel
theorem dX6_here_23 : decode cX6_here 23 = .ok (.iconst 0, 1) := by decide +kernel
theorem dX6_here_24 : decode cX6_here 24 = .ok (.ireturn, 1) := by decide +kernel
theorem dX6_accept_0 : decode cX6_accept 0 = .ok (.aload_n 0, 1) := by decide +kernel
theorem dX6_accept_1 : decode cX6_accept 1 = .ok (.invokevirtual 37, 3) := by decide +kernel
theorem dX6_accept_4 : decode cX6_accept 4 = .ok (.iload_n 1, 1) := by decide +kernel
theorem dX6_accept_5 : decode cX6_accept 5 = .ok (.if_icmp .eq 5, 3) := by decide +kernel
theorem dX6_accept_8 : decode cX6_accept 8 = .ok (.iconst 0, 1) := by decide +kernel
theorem dX6_accept_9 : decode cX6_accept 9 = .ok (.ireturn, 1) := by decide +kernel
theorem dX6_accept_10 : decode cX6_accept 10 = .ok (.aload_n 0, 1) := by decide +kernel
theorem dX6_accept_11 : decode cX6_accept 11 = .ok (.dup, 1) := by decide +kernel
theorem dX6_accept_12 : decode cX6_accept 12 = .ok (.getfield 19, 3) := by decide +kernel
theorem dX6_accept_15 : decode cX6_accept 15 = .ok (.iconst 1, 1) := by decide +kernel
theorem dX6_accept_16 : decode cX6_accept 16 = .ok (.iadd, 1) := by decide +kernel
theorem dX6_accept_17 : decode cX6_accept 17 = .ok (.putfield 19, 3) := by decide +kernel
theorem dX6_accept_20 : decode cX6_accept 20 = .ok (.iconst 1, 1) := by decide +kernel
theorem dX6_accept_21 : decode cX6_accept 21 = .ok (.ireturn, 1) := by decide +kernel
theorem dX6_isFigureHere_0 : decode cX6_isFigureHere 0 = .ok (.aload_n 0, 1) := by decide +kernel
theorem dX6_isFigureHere_1 : decode cX6_isFigureHere 1 = .ok (.invokevirtual 37, 3) := by decide +kernel
theorem dX6_isFigureHere_4 : decode cX6_isFigureHere 4 = .ok (.bipush 48, 2) := by decide +kernel
theorem dX6_isFigureHere_6 : decode cX6_isFigureHere 6 = .ok (.if_icmp .lt 16, 3) := by decide +kernel
theorem dX6_isFigureHere_9 : decode cX6_isFigureHere 9 = .ok (.aload_n 0, 1) := by decide +kernel
theorem dX6_isFigureHere_10 : decode cX6_isFigureHere 10 = .ok (.invokevirtual 37, 3) := by decide +kernel
theorem dX6_isFigureHere_13 : decode cX6_isFigureHere 13 = .ok (.bipush 57, 2) := by decide +kernel
theorem dX6_isFigureHere_15 : decode cX6_isFigureHere 15 = .ok (.if_icmp .gt 7, 3) := by decide +kernel
theorem dX6_isFigureHere_18 : decode cX6_isFigureHere 18 = .ok (.iconst 1, 1) := by decide +kernel
theorem dX6_isFigureHere_19 : decode cX6_isFigureHere 19 = .ok (.goto 4, 3) := by decide +kernel
theorem dX6_isFigureHere_22 : decode cX6_isFigureHere 22 = .ok (.iconst 0, 1) := by decide +kernel
theorem dX6_isFigureHere_23 : decode cX6_isFigureHere 23 = .ok (.ireturn, 1) := by decide +kernel
theorem dX6_readFigure_0 : decode cX6_readFigure 0 = .ok (.aload_n 0, 1) := by decide +kernel
theorem dX6_readFigure_1 : decode cX6_readFigure 1 = .ok (.invokevirtual 54, 3) := by decide +kernel
theorem dX6_readFigure_4 : decode cX6_readFigure 4 = .ok (.ifCond .ne 5, 3) := by decide +kernel
theorem dX6_readFigure_7 : decode cX6_readFigure 7 = .ok (.iconst 0, 1) := by decide +kernel
theorem dX6_readFigure_8 : decode cX6_readFigure 8 = .ok (.ireturn, 1) := by decide +kernel
theorem dX6_readFigure_9 : decode cX6_readFigure 9 = .ok (.aload_n 0, 1) := by decide +kernel
theorem dX6_readFigure_10 : decode cX6_readFigure 10 = .ok (.getfield 25, 3) := by decide +kernel
theorem dX6_readFigure_13 : decode cX6_readFigure 13 = .ok (.iload_n 1, 1) := by decide +kernel
theorem dX6_readFigure_14 : decode cX6_readFigure 14 = .ok (.aload_n 0, 1) := by decide +kernel
theorem dX6_readFigure_15 : decode cX6_readFigure 15 = .ok (.invokevirtual 37, 3) := by decide +kernel
theorem dX6_readFigure_18 : decode cX6_readFigure 18 = .ok (.bipush 48, 2) := by decide +kernel
theorem dX6_readFigure_20 : decode cX6_readFigure 20 = .ok (.isub, 1) := by decide +kernel
theorem dX6_readFigure_21 : decode cX6_readFigure 21 = .ok (.iastore, 1) := by decide +kernel
theorem dX6_readFigure_22 : decode cX6_readFigure 22 = .ok (.aload_n 0, 1) := by decide +kernel
theorem dX6_readFigure_23 : decode cX6_readFigure 23 = .ok (.dup, 1) := by decide +kernel
theorem dX6_readFigure_24 : decode cX6_readFigure 24 = .ok (.getfield 19, 3) := by decide +kernel
theorem dX6_readFigure_27 : decode cX6_readFigure 27 = .ok (.iconst 1, 1) := by decide +kernel
theorem dX6_readFigure_28 : decode cX6_readFigure 28 = .ok (.iadd, 1) := by decide +kernel
theorem dX6_readFigure_29 : decode cX6_readFigure 29 = .ok (.putfield 19, 3) := by decide +kernel
theorem dX6_readFigure_32 : decode cX6_readFigure 32 = .ok (.iconst 1, 1) := by decide +kernel
theorem dX6_readFigure_33 : decode cX6_readFigure 33 = .ok (.ireturn, 1) := by decide +kernel
theorem dX6_readNumbers_0 : decode cX6_readNumbers 0 = .ok (.iconst 0, 1) := by decide +kernel
theorem dX6_readNumbers_1 : decode cX6_readNumbers 1 = .ok (.istore_n 2, 1) := by decide +kernel
theorem dX6_readNumbers_2 : decode cX6_readNumbers 2 = .ok (.iload_n 2, 1) := by decide +kernel
theorem dX6_readNumbers_3 : decode cX6_readNumbers 3 = .ok (.iload_n 1, 1) := by decide +kernel
theorem dX6_readNumbers_4 : decode cX6_readNumbers 4 = .ok (.if_icmp .ge 32, 3) := by decide +kernel
theorem dX6_readNumbers_7 : decode cX6_readNumbers 7 = .ok (.iload_n 2, 1) := by decide +kernel
theorem dX6_readNumbers_8 : decode cX6_readNumbers 8 = .ok (.ifCond .le 12, 3) := by decide +kernel
theorem dX6_readNumbers_11 : decode cX6_readNumbers 11 = .ok (.aload_n 0, 1) := by decide +kernel
theorem dX6_readNumbers_12 : decode cX6_readNumbers 12 = .ok (.bipush 44, 2) := by decide +kernel
theorem dX6_readNumbers_14 : decode cX6_readNumbers 14 = .ok (.invokevirtual 33, 3) := by decide +kernel
theorem dX6_readNumbers_17 : decode cX6_readNumbers 17 = .ok (.ifCond .eq 11, 3) := by decide +kernel
theorem dX6_readNumbers_20 : decode cX6_readNumbers 20 = .ok (.aload_n 0, 1) := by decide +kernel
theorem dX6_readNumbers_21 : decode cX6_readNumbers 21 = .ok (.iload_n 2, 1) := by decide +kernel
theorem dX6_readNumbers_22 : decode cX6_readNumbers 22 = .ok (.invokevirtual 57, 3) := by decide +kernel
theorem dX6_readNumbers_25 : decode cX6_readNumbers 25 = .ok (.ifCond .ne 5, 3) := by decide +kernel
theorem dX6_readNumbers_28 : decode cX6_readNumbers 28 = .ok (.iconst 0, 1) := by decide +kernel
theorem dX6_readNumbers_29 : decode cX6_readNumbers 29 = .ok (.ireturn, 1) := by decide +kernel
theorem dX6_readNumbers_30 : decode cX6_readNumbers 30 = .ok (.iinc 2 1, 3) := by decide +kernel
theorem dX6_readNumbers_33 : decode cX6_readNumbers 33 = .ok (.goto (-31), 3) := by decide +kernel
theorem dX6_readNumbers_36 : decode cX6_readNumbers 36 = .ok (.iconst 1, 1) := by decide +kernel
theorem dX6_readNumbers_37 : decode cX6_readNumbers 37 = .ok (.ireturn, 1) := by decide +kernel
theorem dX6_readNumber_0 : decode cX6_readNumber 0 = .ok (.aload_n 0, 1) := by decide +kernel
theorem dX6_readNumber_1 : decode cX6_readNumber 1 = .ok (.bipush 45, 2) := by decide +kernel
theorem dX6_readNumber_3 : decode cX6_readNumber 3 = .ok (.invokevirtual 33, 3) := by decide +kernel
theorem dX6_readNumber_6 : decode cX6_readNumber 6 = .ok (.ifCond .eq 7, 3) := by decide +kernel
theorem dX6_readNumber_9 : decode cX6_readNumber 9 = .ok (.iconst (-1), 1) := by decide +kernel
theorem dX6_readNumber_10 : decode cX6_readNumber 10 = .ok (.goto 4, 3) := by decide +kernel
theorem dX6_readNumber_13 : decode cX6_readNumber 13 = .ok (.iconst 1, 1) := by decide +kernel
theorem dX6_readNumber_14 : decode cX6_readNumber 14 = .ok (.istore_n 2, 1) := by decide +kernel
theorem dX6_readNumber_15 : decode cX6_readNumber 15 = .ok (.aload_n 0, 1) := by decide +kernel
theorem dX6_readNumber_16 : decode cX6_readNumber 16 = .ok (.iload_n 1, 1) := by decide +kernel
theorem dX6_readNumber_17 : decode cX6_readNumber 17 = .ok (.invokevirtual 41, 3) := by decide +kernel
theorem dX6_readNumber_20 : decode cX6_readNumber 20 = .ok (.ifCond .ne 5, 3) := by decide +kernel
theorem dX6_readNumber_23 : decode cX6_readNumber 23 = .ok (.iconst 0, 1) := by decide +kernel
theorem dX6_readNumber_24 : decode cX6_readNumber 24 = .ok (.ireturn, 1) := by decide +kernel
theorem dX6_readNumber_25 : decode cX6_readNumber 25 = .ok (.aload_n 0, 1) := by decide +kernel
theorem dX6_readNumber_26 : decode cX6_readNumber 26 = .ok (.getfield 25, 3) := by decide +kernel
theorem dX6_readNumber_29 : decode cX6_readNumber 29 = .ok (.iload_n 1, 1) := by decide +kernel
theorem dX6_readNumber_30 : decode cX6_readNumber 30 = .ok (.iaload, 1) := by decide +kernel
theorem dX6_readNumber_31 : decode cX6_readNumber 31 = .ok (.istore_n 3, 1) := by decide +kernel
theorem dX6_readNumber_32 : decode cX6_readNumber 32 = .ok (.aload_n 0, 1) := by decide +kernel
theorem dX6_readNumber_33 : decode cX6_readNumber 33 = .ok (.iload_n 1, 1) := by decide +kernel
theorem dX6_readNumber_34 : decode cX6_readNumber 34 = .ok (.invokevirtual 41, 3) := by decide +kernel
theorem dX6_readNumber_37 : decode cX6_readNumber 37 = .ok (.ifCond .eq 15, 3) := by decide +kernel
theorem dX6_readNumber_40 : decode cX6_readNumber 40 = .ok (.bipush 10, 2) := by decide +kernel
theorem dX6_readNumber_42 : decode cX6_readNumber 42 = .ok (.iload_n 3, 1) := by decide +kernel
theorem dX6_readNumber_43 : decode cX6_readNumber 43 = .ok (.imul, 1) := by decide +kernel
theorem dX6_readNumber_44 : decode cX6_readNumber 44 = .ok (.aload_n 0, 1) := by decide +kernel
theorem dX6_readNumber_45 : decode cX6_readNumber 45 = .ok (.getfield 25, 3) := by decide +kernel
theorem dX6_readNumber_48 : decode cX6_readNumber 48 = .ok (.iload_n 1, 1) := by decide +kernel
theorem dX6_readNumber_49 : decode cX6_readNumber 49 = .ok (.iaload, 1) := by decide +kernel
theorem dX6_readNumber_50 : decode cX6_readNumber 50 = .ok (.iadd, 1) := by decide +kernel
theorem dX6_readNumber_51 : decode cX6_readNumber 51 = .ok (.istore_n 3, 1) := by decide +kernel
theorem dX6_readNumber_52 : decode cX6_readNumber 52 = .ok (.aload_n 0, 1) := by decide +kernel
theorem dX6_readNumber_53 : decode cX6_readNumber 53 = .ok (.getfield 25, 3) := by decide +kernel
theorem dX6_readNumber_56 : decode cX6_readNumber 56 = .ok (.iload_n 1, 1) := by decide +kernel
theorem dX6_readNumber_57 : decode cX6_readNumber 57 = .ok (.iload_n 2, 1) := by decide +kernel
theorem dX6_readNumber_58 : decode cX6_readNumber 58 = .ok (.iload_n 3, 1) := by decide +kernel
theorem dX6_readNumber_59 : decode cX6_readNumber 59 = .ok (.imul, 1) := by decide +kernel
theorem dX6_readNumber_60 : decode cX6_readNumber 60 = .ok (.iastore, 1) := by decide +kernel
theorem dX6_readNumber_61 : decode cX6_readNumber 61 = .ok (.iconst 1, 1) := by decide +kernel
theorem dX6_readNumber_62 : decode cX6_readNumber 62 = .ok (.ireturn, 1) := by decide +kernel
theorem dX6_readKind_0 : decode cX6_readKind 0 = .ok (.ldc 60, 2) := by decide +kernel
theorem dX6_readKind_2 : decode cX6_readKind 2 = .ok (.aload_n 0, 1) := by decide +kernel
theorem dX6_readKind_3 : decode cX6_readKind 3 = .ok (.invokevirtual 37, 3) := by decide +kernel
theorem dX6_readKind_6 : decode cX6_readKind 6 = .ok (.i2c, 1) := by decide +kernel
theorem dX6_readKind_7 : decode cX6_readKind 7 = .ok (.invokevirtual 62, 3) := by decide +kernel
theorem dX6_readKind_10 : decode cX6_readKind 10 = .ok (.istore_n 1, 1) := by decide +kernel
theorem dX6_readKind_11 : decode cX6_readKind 11 = .ok (.iload_n 1, 1) := by decide +kernel
theorem dX6_readKind_12 : decode cX6_readKind 12 = .ok (.ifCond .ge 5, 3) := by decide +kernel
theorem dX6_readKind_15 : decode cX6_readKind 15 = .ok (.iconst 0, 1) := by decide +kernel
theorem dX6_readKind_16 : decode cX6_readKind 16 = .ok (.ireturn, 1) := by decide +kernel
theorem dX6_readKind_17 : decode cX6_readKind 17 = .ok (.aload_n 0, 1) := by decide +kernel
theorem dX6_readKind_18 : decode cX6_readKind 18 = .ok (.getfield 25, 3) := by decide +kernel
theorem dX6_readKind_21 : decode cX6_readKind 21 = .ok (.iconst 1, 1) := by decide +kernel
theorem dX6_readKind_22 : decode cX6_readKind 22 = .ok (.iload_n 1, 1) := by decide +kernel
theorem dX6_readKind_23 : decode cX6_readKind 23 = .ok (.iastore, 1) := by decide +kernel
theorem dX6_readKind_24 : decode cX6_readKind 24 = .ok (.aload_n 0, 1) := by decide +kernel
theorem dX6_readKind_25 : decode cX6_readKind 25 = .ok (.dup, 1) := by decide +kernel
theorem dX6_readKind_26 : decode cX6_readKind 26 = .ok (.getfield 19, 3) := by decide +kernel
theorem dX6_readKind_29 : decode cX6_readKind 29 = .ok (.iconst 1, 1) := by decide +kernel
theorem dX6_readKind_30 : decode cX6_readKind 30 = .ok (.iadd, 1) := by decide +kernel
theorem dX6_readKind_31 : decode cX6_readKind 31 = .ok (.putfield 19, 3) := by decide +kernel
theorem dX6_readKind_34 : decode cX6_readKind 34 = .ok (.iconst 1, 1) := by decide +kernel
theorem dX6_readKind_35 : decode cX6_readKind 35 = .ok (.ireturn, 1) := by decide +kernel
theorem dX6_readTies_0 : decode cX6_readTies 0 = .ok (.aload_n 0, 1) := by decide +kernel
theorem dX6_readTies_1 : decode cX6_readTies 1 = .ok (.getfield 25, 3) := by decide +kernel
theorem dX6_readTies_4 : decode cX6_readTies 4 = .ok (.iconst 2, 1) := by decide +kernel
theorem dX6_readTies_5 : decode cX6_readTies 5 = .ok (.iconst (-1), 1) := by decide +kernel
theorem dX6_readTies_6 : decode cX6_readTies 6 = .ok (.iastore, 1) := by decide +kernel
theorem dX6_readTies_7 : decode cX6_readTies 7 = .ok (.aload_n 0, 1) := by decide +kernel
theorem dX6_readTies_8 : decode cX6_readTies 8 = .ok (.bipush 60, 2) := by decide +kernel
theorem dX6_readTies_10 : decode cX6_readTies 10 = .ok (.invokevirtual 33, 3) := by decide +kernel
theorem dX6_readTies_13 : decode cX6_readTies 13 = .ok (.ifCond .eq 13, 3) := by decide +kernel
theorem dX6_readTies_16 : decode cX6_readTies 16 = .ok (.aload_n 0, 1) := by decide +kernel
theorem dX6_readTies_17 : decode cX6_readTies 17 = .ok (.iconst 2, 1) := by decide +kernel
theorem dX6_readTies_18 : decode cX6_readTies 18 = .ok (.invokevirtual 41, 3) := by decide +kernel
theorem dX6_readTies_21 : decode cX6_readTies 21 = .ok (.ifCond .ne 5, 3) := by decide +kernel
theorem dX6_readTies_24 : decode cX6_readTies 24 = .ok (.iconst 0, 1) := by decide +kernel
theorem dX6_readTies_25 : decode cX6_readTies 25 = .ok (.ireturn, 1) := by decide +kernel
theorem dX6_readTies_26 : decode cX6_readTies 26 = .ok (.iconst 0, 1) := by decide +kernel
theorem dX6_readTies_27 : decode cX6_readTies 27 = .ok (.istore_n 1, 1) := by decide +kernel
theorem dX6_readTies_28 : decode cX6_readTies 28 = .ok (.iconst 0, 1) := by decide +kernel
theorem dX6_readTies_29 : decode cX6_readTies 29 = .ok (.istore_n 2, 1) := by decide +kernel
theorem dX6_readTies_30 : decode cX6_readTies 30 = .ok (.iload_n 2, 1) := by decide +kernel
theorem dX6_readTies_31 : decode cX6_readTies 31 = .ok (.iconst 3, 1) := by decide +kernel
theorem dX6_readTies_32 : decode cX6_readTies 32 = .ok (.if_icmp .ge 48, 3) := by decide +kernel
theorem dX6_readTies_35 : decode cX6_readTies 35 = .ok (.aload_n 0, 1) := by decide +kernel
theorem dX6_readTies_36 : decode cX6_readTies 36 = .ok (.bipush 62, 2) := by decide +kernel
theorem dX6_readTies_38 : decode cX6_readTies 38 = .ok (.invokevirtual 33, 3) := by decide +kernel
theorem dX6_readTies_41 : decode cX6_readTies 41 = .ok (.ifCond .eq 27, 3) := by decide +kernel
theorem dX6_readTies_44 : decode cX6_readTies 44 = .ok (.aload_n 0, 1) := by decide +kernel
theorem dX6_readTies_45 : decode cX6_readTies 45 = .ok (.iconst 3, 1) := by decide +kernel
theorem dX6_readTies_46 : decode cX6_readTies 46 = .ok (.invokevirtual 41, 3) := by decide +kernel
theorem dX6_readTies_49 : decode cX6_readTies 49 = .ok (.ifCond .ne 5, 3) := by decide +kernel
theorem dX6_readTies_52 : decode cX6_readTies 52 = .ok (.iconst 0, 1) := by decide +kernel
theorem dX6_readTies_53 : decode cX6_readTies 53 = .ok (.ireturn, 1) := by decide +kernel
theorem dX6_readTies_54 : decode cX6_readTies 54 = .ok (.iload_n 1, 1) := by decide +kernel
theorem dX6_readTies_55 : decode cX6_readTies 55 = .ok (.iconst 1, 1) := by decide +kernel
theorem dX6_readTies_56 : decode cX6_readTies 56 = .ok (.aload_n 0, 1) := by decide +kernel
theorem dX6_readTies_57 : decode cX6_readTies 57 = .ok (.getfield 25, 3) := by decide +kernel
theorem dX6_readTies_60 : decode cX6_readTies 60 = .ok (.iconst 3, 1) := by decide +kernel
theorem dX6_readTies_61 : decode cX6_readTies 61 = .ok (.iaload, 1) := by decide +kernel
theorem dX6_readTies_62 : decode cX6_readTies 62 = .ok (.ishl, 1) := by decide +kernel
theorem dX6_readTies_63 : decode cX6_readTies 63 = .ok (.ior, 1) := by decide +kernel
theorem dX6_readTies_64 : decode cX6_readTies 64 = .ok (.istore_n 1, 1) := by decide +kernel
theorem dX6_readTies_65 : decode cX6_readTies 65 = .ok (.goto 9, 3) := by decide +kernel
theorem dX6_readTies_68 : decode cX6_readTies 68 = .ok (.iload_n 2, 1) := by decide +kernel
theorem dX6_readTies_69 : decode cX6_readTies 69 = .ok (.ifCond .ne 11, 3) := by decide +kernel
theorem dX6_readTies_72 : decode cX6_readTies 72 = .ok (.iconst 0, 1) := by decide +kernel
theorem dX6_readTies_73 : decode cX6_readTies 73 = .ok (.ireturn, 1) := by decide +kernel
theorem dX6_readTies_74 : decode cX6_readTies 74 = .ok (.iinc 2 1, 3) := by decide +kernel
theorem dX6_readTies_77 : decode cX6_readTies 77 = .ok (.goto (-47), 3) := by decide +kernel
theorem dX6_readTies_80 : decode cX6_readTies 80 = .ok (.aload_n 0, 1) := by decide +kernel
theorem dX6_readTies_81 : decode cX6_readTies 81 = .ok (.getfield 25, 3) := by decide +kernel
theorem dX6_readTies_84 : decode cX6_readTies 84 = .ok (.iconst 3, 1) := by decide +kernel
theorem dX6_readTies_85 : decode cX6_readTies 85 = .ok (.iload_n 1, 1) := by decide +kernel
theorem dX6_readTies_86 : decode cX6_readTies 86 = .ok (.iastore, 1) := by decide +kernel
theorem dX6_readTies_87 : decode cX6_readTies 87 = .ok (.iconst 1, 1) := by decide +kernel
theorem dX6_readTies_88 : decode cX6_readTies 88 = .ok (.ireturn, 1) := by decide +kernel
