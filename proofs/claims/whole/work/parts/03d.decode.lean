theorem dX8_canCome_22 : decode cX8_canCome 22 = .ok (.iload_n 2, 1) := by decide +kernel
theorem dX8_canCome_23 : decode cX8_canCome 23 = .ok (.iconst 1, 1) := by decide +kernel
theorem dX8_canCome_24 : decode cX8_canCome 24 = .ok (.invokevirtual 185, 3) := by decide +kernel
theorem dX8_canCome_27 : decode cX8_canCome 27 = .ok (.isub, 1) := by decide +kernel
theorem dX8_canCome_28 : decode cX8_canCome 28 = .ok (.i2l, 1) := by decide +kernel
theorem dX8_canCome_29 : decode cX8_canCome 29 = .ok (.lstore 5, 2) := by decide +kernel
theorem dX8_canCome_31 : decode cX8_canCome 31 = .ok (.lload_n 3, 1) := by decide +kernel
theorem dX8_canCome_32 : decode cX8_canCome 32 = .ok (.lconst 0, 1) := by decide +kernel
theorem dX8_canCome_33 : decode cX8_canCome 33 = .ok (.lcmp, 1) := by decide +kernel
theorem dX8_canCome_34 : decode cX8_canCome 34 = .ok (.ifCond .ne 12, 3) := by decide +kernel
theorem dX8_canCome_37 : decode cX8_canCome 37 = .ok (.lload 5, 2) := by decide +kernel
theorem dX8_canCome_39 : decode cX8_canCome 39 = .ok (.lconst 0, 1) := by decide +kernel
theorem dX8_canCome_40 : decode cX8_canCome 40 = .ok (.lcmp, 1) := by decide +kernel
theorem dX8_canCome_41 : decode cX8_canCome 41 = .ok (.ifCond .ne 5, 3) := by decide +kernel
theorem dX8_canCome_44 : decode cX8_canCome 44 = .ok (.iconst 0, 1) := by decide +kernel
theorem dX8_canCome_45 : decode cX8_canCome 45 = .ok (.ireturn, 1) := by decide +kernel
theorem dX8_canCome_46 : decode cX8_canCome 46 = .ok (.aload_n 0, 1) := by decide +kernel
theorem dX8_canCome_47 : decode cX8_canCome 47 = .ok (.iload_n 1, 1) := by decide +kernel
theorem dX8_canCome_48 : decode cX8_canCome 48 = .ok (.invokevirtual 221, 3) := by decide +kernel
theorem dX8_canCome_51 : decode cX8_canCome 51 = .ok (.aload_n 0, 1) := by decide +kernel
theorem dX8_canCome_52 : decode cX8_canCome 52 = .ok (.lconst 0, 1) := by decide +kernel
theorem dX8_canCome_53 : decode cX8_canCome 53 = .ok (.putfield 227, 3) := by decide +kernel
theorem dX8_canCome_56 : decode cX8_canCome 56 = .ok (.aload_n 0, 1) := by decide +kernel
theorem dX8_canCome_57 : decode cX8_canCome 57 = .ok (.lconst 0, 1) := by decide +kernel
theorem dX8_canCome_58 : decode cX8_canCome 58 = .ok (.putfield 233, 3) := by decide +kernel
theorem dX8_canCome_61 : decode cX8_canCome 61 = .ok (.aload_n 0, 1) := by decide +kernel
theorem dX8_canCome_62 : decode cX8_canCome 62 = .ok (.lconst 1, 1) := by decide +kernel
theorem dX8_canCome_63 : decode cX8_canCome 63 = .ok (.putfield 224, 3) := by decide +kernel
theorem dX8_canCome_66 : decode cX8_canCome 66 = .ok (.aload_n 0, 1) := by decide +kernel
theorem dX8_canCome_67 : decode cX8_canCome 67 = .ok (.lconst 1, 1) := by decide +kernel
theorem dX8_canCome_68 : decode cX8_canCome 68 = .ok (.putfield 230, 3) := by decide +kernel
theorem dX8_canCome_71 : decode cX8_canCome 71 = .ok (.iconst 0, 1) := by decide +kernel
theorem dX8_canCome_72 : decode cX8_canCome 72 = .ok (.istore 7, 2) := by decide +kernel
theorem dX8_canCome_74 : decode cX8_canCome 74 = .ok (.iload 7, 2) := by decide +kernel
theorem dX8_canCome_76 : decode cX8_canCome 76 = .ok (.aload_n 0, 1) := by decide +kernel
theorem dX8_canCome_77 : decode cX8_canCome 77 = .ok (.getfield 218, 3) := by decide +kernel
theorem dX8_canCome_80 : decode cX8_canCome 80 = .ok (.if_icmp .ge 68, 3) := by decide +kernel
theorem dX8_canCome_83 : decode cX8_canCome 83 = .ok (.aload_n 0, 1) := by decide +kernel
theorem dX8_canCome_84 : decode cX8_canCome 84 = .ok (.aload_n 0, 1) := by decide +kernel
theorem dX8_canCome_85 : decode cX8_canCome 85 = .ok (.getfield 48, 3) := by decide +kernel
theorem dX8_canCome_88 : decode cX8_canCome 88 = .ok (.iload 7, 2) := by decide +kernel
theorem dX8_canCome_90 : decode cX8_canCome 90 = .ok (.iaload, 1) := by decide +kernel
theorem dX8_canCome_91 : decode cX8_canCome 91 = .ok (.aload_n 0, 1) := by decide +kernel
theorem dX8_canCome_92 : decode cX8_canCome 92 = .ok (.iload_n 1, 1) := by decide +kernel
theorem dX8_canCome_93 : decode cX8_canCome 93 = .ok (.iconst 0, 1) := by decide +kernel
theorem dX8_canCome_94 : decode cX8_canCome 94 = .ok (.invokevirtual 185, 3) := by decide +kernel
theorem dX8_canCome_97 : decode cX8_canCome 97 = .ok (.aload_n 0, 1) := by decide +kernel
theorem dX8_canCome_98 : decode cX8_canCome 98 = .ok (.iload_n 1, 1) := by decide +kernel
theorem dX8_canCome_99 : decode cX8_canCome 99 = .ok (.iconst 1, 1) := by decide +kernel
theorem dX8_canCome_100 : decode cX8_canCome 100 = .ok (.invokevirtual 185, 3) := by decide +kernel
theorem dX8_canCome_103 : decode cX8_canCome 103 = .ok (.invokevirtual 211, 3) := by decide +kernel
theorem dX8_canCome_106 : decode cX8_canCome 106 = .ok (.aload_n 0, 1) := by decide +kernel
theorem dX8_canCome_107 : decode cX8_canCome 107 = .ok (.lload_n 3, 1) := by decide +kernel
theorem dX8_canCome_108 : decode cX8_canCome 108 = .ok (.aload_n 0, 1) := by decide +kernel
theorem dX8_canCome_109 : decode cX8_canCome 109 = .ok (.getfield 132, 3) := by decide +kernel
theorem dX8_canCome_112 : decode cX8_canCome 112 = .ok (.lmul, 1) := by decide +kernel
theorem dX8_canCome_113 : decode cX8_canCome 113 = .ok (.lload 5, 2) := by decide +kernel
theorem dX8_canCome_115 : decode cX8_canCome 115 = .ok (.aload_n 0, 1) := by decide +kernel
theorem dX8_canCome_116 : decode cX8_canCome 116 = .ok (.getfield 129, 3) := by decide +kernel
theorem dX8_canCome_119 : decode cX8_canCome 119 = .ok (.lmul, 1) := by decide +kernel
theorem dX8_canCome_120 : decode cX8_canCome 120 = .ok (.lsub, 1) := by decide +kernel
theorem dX8_canCome_121 : decode cX8_canCome 121 = .ok (.lload_n 3, 1) := by decide +kernel
theorem dX8_canCome_122 : decode cX8_canCome 122 = .ok (.aload_n 0, 1) := by decide +kernel
theorem dX8_canCome_123 : decode cX8_canCome 123 = .ok (.getfield 129, 3) := by decide +kernel
theorem dX8_canCome_126 : decode cX8_canCome 126 = .ok (.lmul, 1) := by decide +kernel
theorem dX8_canCome_127 : decode cX8_canCome 127 = .ok (.lload 5, 2) := by decide +kernel
theorem dX8_canCome_129 : decode cX8_canCome 129 = .ok (.aload_n 0, 1) := by decide +kernel
theorem dX8_canCome_130 : decode cX8_canCome 130 = .ok (.getfield 132, 3) := by decide +kernel
theorem dX8_canCome_133 : decode cX8_canCome 133 = .ok (.lmul, 1) := by decide +kernel
theorem dX8_canCome_134 : decode cX8_canCome 134 = .ok (.ladd, 1) := by decide +kernel
theorem dX8_canCome_135 : decode cX8_canCome 135 = .ok (.aload_n 0, 1) := by decide +kernel
theorem dX8_canCome_136 : decode cX8_canCome 136 = .ok (.getfield 115, 3) := by decide +kernel
theorem dX8_canCome_139 : decode cX8_canCome 139 = .ok (.invokevirtual 236, 3) := by decide +kernel
theorem dX8_canCome_142 : decode cX8_canCome 142 = .ok (.iinc 7 1, 3) := by decide +kernel
theorem dX8_canCome_145 : decode cX8_canCome 145 = .ok (.goto (-71), 3) := by decide +kernel
theorem dX8_canCome_148 : decode cX8_canCome 148 = .ok (.aload_n 0, 1) := by decide +kernel
theorem dX8_canCome_149 : decode cX8_canCome 149 = .ok (.getfield 227, 3) := by decide +kernel
theorem dX8_canCome_152 : decode cX8_canCome 152 = .ok (.lconst 0, 1) := by decide +kernel
theorem dX8_canCome_153 : decode cX8_canCome 153 = .ok (.lcmp, 1) := by decide +kernel
theorem dX8_canCome_154 : decode cX8_canCome 154 = .ok (.ifCond .ne 16, 3) := by decide +kernel
theorem dX8_canCome_157 : decode cX8_canCome 157 = .ok (.aload_n 0, 1) := by decide +kernel
theorem dX8_canCome_158 : decode cX8_canCome 158 = .ok (.getfield 233, 3) := by decide +kernel
theorem dX8_canCome_161 : decode cX8_canCome 161 = .ok (.lconst 0, 1) := by decide +kernel
theorem dX8_canCome_162 : decode cX8_canCome 162 = .ok (.lcmp, 1) := by decide +kernel
theorem dX8_canCome_163 : decode cX8_canCome 163 = .ok (.ifCond .le 7, 3) := by decide +kernel
theorem dX8_canCome_166 : decode cX8_canCome 166 = .ok (.iconst 1, 1) := by decide +kernel
theorem dX8_canCome_167 : decode cX8_canCome 167 = .ok (.goto 4, 3) := by decide +kernel
theorem dX8_canCome_170 : decode cX8_canCome 170 = .ok (.iconst 0, 1) := by decide +kernel
theorem dX8_canCome_171 : decode cX8_canCome 171 = .ok (.ireturn, 1) := by decide +kernel
theorem dX8_came_0 : decode cX8_came 0 = .ok (.aload_n 0, 1) := by decide +kernel
theorem dX8_came_1 : decode cX8_came 1 = .ok (.iload_n 1, 1) := by decide +kernel
theorem dX8_came_2 : decode cX8_came 2 = .ok (.invokevirtual 192, 3) := by decide +kernel
theorem dX8_came_5 : decode cX8_came 5 = .ok (.ifCond .ne 5, 3) := by decide +kernel
theorem dX8_came_8 : decode cX8_came 8 = .ok (.iconst (-1), 1) := by decide +kernel
theorem dX8_came_9 : decode cX8_came 9 = .ok (.ireturn, 1) := by decide +kernel
theorem dX8_came_10 : decode cX8_came 10 = .ok (.aload_n 0, 1) := by decide +kernel
theorem dX8_came_11 : decode cX8_came 11 = .ok (.iload_n 1, 1) := by decide +kernel
theorem dX8_came_12 : decode cX8_came 12 = .ok (.iconst 2, 1) := by decide +kernel
theorem dX8_came_13 : decode cX8_came 13 = .ok (.invokevirtual 185, 3) := by decide +kernel
theorem dX8_came_16 : decode cX8_came 16 = .ok (.ifCond .lt 6, 3) := by decide +kernel
theorem dX8_came_19 : decode cX8_came 19 = .ok (.bipush (-5), 2) := by decide +kernel
theorem dX8_came_21 : decode cX8_came 21 = .ok (.ireturn, 1) := by decide +kernel
theorem dX8_came_22 : decode cX8_came 22 = .ok (.aload_n 0, 1) := by decide +kernel
theorem dX8_came_23 : decode cX8_came 23 = .ok (.iload_n 1, 1) := by decide +kernel
theorem dX8_came_24 : decode cX8_came 24 = .ok (.invokevirtual 240, 3) := by decide +kernel
theorem dX8_came_27 : decode cX8_came 27 = .ok (.ifCond .ne 6, 3) := by decide +kernel
theorem dX8_came_30 : decode cX8_came 30 = .ok (.bipush (-2), 2) := by decide +kernel
theorem dX8_came_32 : decode cX8_came 32 = .ok (.ireturn, 1) := by decide +kernel
theorem dX8_came_33 : decode cX8_came 33 = .ok (.iconst 0, 1) := by decide +kernel
theorem dX8_came_34 : decode cX8_came 34 = .ok (.istore_n 2, 1) := by decide +kernel
theorem dX8_came_35 : decode cX8_came 35 = .ok (.iconst 0, 1) := by decide +kernel
theorem dX8_came_36 : decode cX8_came 36 = .ok (.istore_n 3, 1) := by decide +kernel
theorem dX8_came_37 : decode cX8_came 37 = .ok (.iload_n 3, 1) := by decide +kernel
theorem dX8_came_38 : decode cX8_came 38 = .ok (.aload_n 0, 1) := by decide +kernel
theorem dX8_came_39 : decode cX8_came 39 = .ok (.getfield 23, 3) := by decide +kernel
theorem dX8_came_42 : decode cX8_came 42 = .ok (.iconst 2, 1) := by decide +kernel
theorem dX8_came_43 : decode cX8_came 43 = .ok (.iaload, 1) := by decide +kernel
theorem dX8_came_44 : decode cX8_came 44 = .ok (.if_icmp .ge 28, 3) := by decide +kernel
theorem dX8_came_47 : decode cX8_came 47 = .ok (.iload_n 2, 1) := by decide +kernel
theorem dX8_came_48 : decode cX8_came 48 = .ok (.aload_n 0, 1) := by decide +kernel
theorem dX8_came_49 : decode cX8_came 49 = .ok (.iload_n 1, 1) := by decide +kernel
theorem dX8_came_50 : decode cX8_came 50 = .ok (.iload_n 3, 1) := by decide +kernel
theorem dX8_came_51 : decode cX8_came 51 = .ok (.invokevirtual 255, 3) := by decide +kernel
theorem dX8_came_54 : decode cX8_came 54 = .ok (.ifCond .eq 9, 3) := by decide +kernel
theorem dX8_came_57 : decode cX8_came 57 = .ok (.iconst 1, 1) := by decide +kernel
theorem dX8_came_58 : decode cX8_came 58 = .ok (.iload_n 3, 1) := by decide +kernel
theorem dX8_came_59 : decode cX8_came 59 = .ok (.ishl, 1) := by decide +kernel
theorem dX8_came_60 : decode cX8_came 60 = .ok (.goto 4, 3) := by decide +kernel
theorem dX8_came_63 : decode cX8_came 63 = .ok (.iconst 0, 1) := by decide +kernel
theorem dX8_came_64 : decode cX8_came 64 = .ok (.ior, 1) := by decide +kernel
theorem dX8_came_65 : decode cX8_came 65 = .ok (.istore_n 2, 1) := by decide +kernel
theorem dX8_came_66 : decode cX8_came 66 = .ok (.iinc 3 1, 3) := by decide +kernel
theorem dX8_came_69 : decode cX8_came 69 = .ok (.goto (-32), 3) := by decide +kernel
theorem dX8_came_72 : decode cX8_came 72 = .ok (.iload_n 2, 1) := by decide +kernel
theorem dX8_came_73 : decode cX8_came 73 = .ok (.ireturn, 1) := by decide +kernel
theorem dX8_spoils_0 : decode cX8_spoils 0 = .ok (.aload_n 0, 1) := by decide +kernel
theorem dX8_spoils_1 : decode cX8_spoils 1 = .ok (.iload_n 1, 1) := by decide +kernel
theorem dX8_spoils_2 : decode cX8_spoils 2 = .ok (.invokevirtual 192, 3) := by decide +kernel
theorem dX8_spoils_5 : decode cX8_spoils 5 = .ok (.ifCond .ne 5, 3) := by decide +kernel
theorem dX8_spoils_8 : decode cX8_spoils 8 = .ok (.iconst (-1), 1) := by decide +kernel
theorem dX8_spoils_9 : decode cX8_spoils 9 = .ok (.ireturn, 1) := by decide +kernel
theorem dX8_spoils_10 : decode cX8_spoils 10 = .ok (.aload_n 0, 1) := by decide +kernel
theorem dX8_spoils_11 : decode cX8_spoils 11 = .ok (.iload_n 1, 1) := by decide +kernel
theorem dX8_spoils_12 : decode cX8_spoils 12 = .ok (.invokevirtual 240, 3) := by decide +kernel
theorem dX8_spoils_15 : decode cX8_spoils 15 = .ok (.ifCond .ne 6, 3) := by decide +kernel
theorem dX8_spoils_18 : decode cX8_spoils 18 = .ok (.bipush (-2), 2) := by decide +kernel
theorem dX8_spoils_20 : decode cX8_spoils 20 = .ok (.ireturn, 1) := by decide +kernel
theorem dX8_spoils_21 : decode cX8_spoils 21 = .ok (.iconst 0, 1) := by decide +kernel
theorem dX8_spoils_22 : decode cX8_spoils 22 = .ok (.istore_n 2, 1) := by decide +kernel
theorem dX8_spoils_23 : decode cX8_spoils 23 = .ok (.iload_n 2, 1) := by decide +kernel
theorem dX8_spoils_24 : decode cX8_spoils 24 = .ok (.aload_n 0, 1) := by decide +kernel
theorem dX8_spoils_25 : decode cX8_spoils 25 = .ok (.getfield 23, 3) := by decide +kernel
theorem dX8_spoils_28 : decode cX8_spoils 28 = .ok (.iconst 1, 1) := by decide +kernel
theorem dX8_spoils_29 : decode cX8_spoils 29 = .ok (.iaload, 1) := by decide +kernel
theorem dX8_spoils_30 : decode cX8_spoils 30 = .ok (.if_icmp .ge 40, 3) := by decide +kernel
theorem dX8_spoils_33 : decode cX8_spoils 33 = .ok (.aload_n 0, 1) := by decide +kernel
theorem dX8_spoils_34 : decode cX8_spoils 34 = .ok (.iload_n 1, 1) := by decide +kernel
theorem dX8_spoils_35 : decode cX8_spoils 35 = .ok (.iconst 3, 1) := by decide +kernel
theorem dX8_spoils_36 : decode cX8_spoils 36 = .ok (.invokevirtual 185, 3) := by decide +kernel
theorem dX8_spoils_39 : decode cX8_spoils 39 = .ok (.iload_n 2, 1) := by decide +kernel
theorem dX8_spoils_40 : decode cX8_spoils 40 = .ok (.invokestatic 170, 3) := by decide +kernel
theorem dX8_spoils_43 : decode cX8_spoils 43 = .ok (.ifCond .ne 6, 3) := by decide +kernel
theorem dX8_spoils_46 : decode cX8_spoils 46 = .ok (.goto 18, 3) := by decide +kernel
theorem dX8_spoils_49 : decode cX8_spoils 49 = .ok (.aload_n 0, 1) := by decide +kernel
theorem dX8_spoils_50 : decode cX8_spoils 50 = .ok (.iload_n 1, 1) := by decide +kernel
theorem dX8_spoils_51 : decode cX8_spoils 51 = .ok (.iload_n 2, 1) := by decide +kernel
theorem dX8_spoils_52 : decode cX8_spoils 52 = .ok (.invokevirtual 243, 3) := by decide +kernel
theorem dX8_spoils_55 : decode cX8_spoils 55 = .ok (.aload_n 0, 1) := by decide +kernel
theorem dX8_spoils_56 : decode cX8_spoils 56 = .ok (.invokevirtual 251, 3) := by decide +kernel
theorem dX8_spoils_59 : decode cX8_spoils 59 = .ok (.ifCond .eq 5, 3) := by decide +kernel
theorem dX8_spoils_62 : decode cX8_spoils 62 = .ok (.iload_n 2, 1) := by decide +kernel
theorem dX8_spoils_63 : decode cX8_spoils 63 = .ok (.ireturn, 1) := by decide +kernel
theorem dX8_spoils_64 : decode cX8_spoils 64 = .ok (.iinc 2 1, 3) := by decide +kernel
theorem dX8_spoils_67 : decode cX8_spoils 67 = .ok (.goto (-44), 3) := by decide +kernel
theorem dX8_spoils_70 : decode cX8_spoils 70 = .ok (.bipush (-2), 2) := by decide +kernel
theorem dX8_spoils_72 : decode cX8_spoils 72 = .ok (.ireturn, 1) := by decide +kernel
theorem dX8_tellsNamed_0 : decode cX8_tellsNamed 0 = .ok (.iconst 0, 1) := by decide +kernel
theorem dX8_tellsNamed_1 : decode cX8_tellsNamed 1 = .ok (.istore_n 1, 1) := by decide +kernel
theorem dX8_tellsNamed_2 : decode cX8_tellsNamed 2 = .ok (.iload_n 1, 1) := by decide +kernel
theorem dX8_tellsNamed_3 : decode cX8_tellsNamed 3 = .ok (.aload_n 0, 1) := by decide +kernel
theorem dX8_tellsNamed_4 : decode cX8_tellsNamed 4 = .ok (.getfield 23, 3) := by decide +kernel
theorem dX8_tellsNamed_7 : decode cX8_tellsNamed 7 = .ok (.iconst 1, 1) := by decide +kernel
theorem dX8_tellsNamed_8 : decode cX8_tellsNamed 8 = .ok (.iaload, 1) := by decide +kernel
theorem dX8_tellsNamed_9 : decode cX8_tellsNamed 9 = .ok (.if_icmp .ge 20, 3) := by decide +kernel
theorem dX8_tellsNamed_12 : decode cX8_tellsNamed 12 = .ok (.aload_n 0, 1) := by decide +kernel
theorem dX8_tellsNamed_13 : decode cX8_tellsNamed 13 = .ok (.getfield 51, 3) := by decide +kernel
theorem dX8_tellsNamed_16 : decode cX8_tellsNamed 16 = .ok (.iload_n 1, 1) := by decide +kernel
theorem dX8_tellsNamed_17 : decode cX8_tellsNamed 17 = .ok (.aload_n 0, 1) := by decide +kernel
theorem dX8_tellsNamed_18 : decode cX8_tellsNamed 18 = .ok (.iload_n 1, 1) := by decide +kernel
theorem dX8_tellsNamed_19 : decode cX8_tellsNamed 19 = .ok (.invokevirtual 164, 3) := by decide +kernel
theorem dX8_tellsNamed_22 : decode cX8_tellsNamed 22 = .ok (.iastore, 1) := by decide +kernel
theorem dX8_tellsNamed_23 : decode cX8_tellsNamed 23 = .ok (.iinc 1 1, 3) := by decide +kernel
theorem dX8_tellsNamed_26 : decode cX8_tellsNamed 26 = .ok (.goto (-24), 3) := by decide +kernel
theorem dX8_tellsNamed_29 : decode cX8_tellsNamed 29 = .ok (.return_, 1) := by decide +kernel
theorem dX8_leftOver_0 : decode cX8_leftOver 0 = .ok (.aload_n 0, 1) := by decide +kernel
theorem dX8_leftOver_1 : decode cX8_leftOver 1 = .ok (.iload_n 2, 1) := by decide +kernel
theorem dX8_leftOver_2 : decode cX8_leftOver 2 = .ok (.iconst 2, 1) := by decide +kernel
theorem dX8_leftOver_3 : decode cX8_leftOver 3 = .ok (.invokevirtual 185, 3) := by decide +kernel
theorem dX8_leftOver_6 : decode cX8_leftOver 6 = .ok (.ifCond .lt 21, 3) := by decide +kernel
theorem dX8_leftOver_9 : decode cX8_leftOver 9 = .ok (.aload_n 1, 1) := by decide +kernel
theorem dX8_leftOver_10 : decode cX8_leftOver 10 = .ok (.aload_n 0, 1) := by decide +kernel
theorem dX8_leftOver_11 : decode cX8_leftOver 11 = .ok (.getfield 51, 3) := by decide +kernel
theorem dX8_leftOver_14 : decode cX8_leftOver 14 = .ok (.aload_n 0, 1) := by decide +kernel
theorem dX8_leftOver_15 : decode cX8_leftOver 15 = .ok (.iload_n 2, 1) := by decide +kernel
theorem dX8_leftOver_16 : decode cX8_leftOver 16 = .ok (.iconst 2, 1) := by decide +kernel
theorem dX8_leftOver_17 : decode cX8_leftOver 17 = .ok (.invokevirtual 185, 3) := by decide +kernel
theorem dX8_leftOver_20 : decode cX8_leftOver 20 = .ok (.iaload, 1) := by decide +kernel
theorem dX8_leftOver_21 : decode cX8_leftOver 21 = .ok (.iaload, 1) := by decide +kernel
theorem dX8_leftOver_22 : decode cX8_leftOver 22 = .ok (.iconst 1, 1) := by decide +kernel
theorem dX8_leftOver_23 : decode cX8_leftOver 23 = .ok (.isub, 1) := by decide +kernel
theorem dX8_leftOver_24 : decode cX8_leftOver 24 = .ok (.goto 8, 3) := by decide +kernel
theorem dX8_leftOver_27 : decode cX8_leftOver 27 = .ok (.aload_n 1, 1) := by decide +kernel
theorem dX8_leftOver_28 : decode cX8_leftOver 28 = .ok (.iload_n 3, 1) := by decide +kernel
theorem dX8_leftOver_29 : decode cX8_leftOver 29 = .ok (.iaload, 1) := by decide +kernel
theorem dX8_leftOver_30 : decode cX8_leftOver 30 = .ok (.iconst 1, 1) := by decide +kernel
theorem dX8_leftOver_31 : decode cX8_leftOver 31 = .ok (.isub, 1) := by decide +kernel
theorem dX8_leftOver_32 : decode cX8_leftOver 32 = .ok (.istore 5, 2) := by decide +kernel
theorem dX8_leftOver_34 : decode cX8_leftOver 34 = .ok (.iconst 0, 1) := by decide +kernel
theorem dX8_leftOver_35 : decode cX8_leftOver 35 = .ok (.istore 6, 2) := by decide +kernel
theorem dX8_leftOver_37 : decode cX8_leftOver 37 = .ok (.iload 6, 2) := by decide +kernel
theorem dX8_leftOver_39 : decode cX8_leftOver 39 = .ok (.aload_n 0, 1) := by decide +kernel
theorem dX8_leftOver_40 : decode cX8_leftOver 40 = .ok (.getfield 23, 3) := by decide +kernel
theorem dX8_leftOver_43 : decode cX8_leftOver 43 = .ok (.iconst 1, 1) := by decide +kernel
theorem dX8_leftOver_44 : decode cX8_leftOver 44 = .ok (.iaload, 1) := by decide +kernel
theorem dX8_leftOver_45 : decode cX8_leftOver 45 = .ok (.if_icmp .ge 43, 3) := by decide +kernel
theorem dX8_leftOver_48 : decode cX8_leftOver 48 = .ok (.iload 5, 2) := by decide +kernel
theorem dX8_leftOver_50 : decode cX8_leftOver 50 = .ok (.aload_n 0, 1) := by decide +kernel
theorem dX8_leftOver_51 : decode cX8_leftOver 51 = .ok (.iload_n 2, 1) := by decide +kernel
theorem dX8_leftOver_52 : decode cX8_leftOver 52 = .ok (.iconst 3, 1) := by decide +kernel
theorem dX8_leftOver_53 : decode cX8_leftOver 53 = .ok (.invokevirtual 185, 3) := by decide +kernel
theorem dX8_leftOver_56 : decode cX8_leftOver 56 = .ok (.iload 6, 2) := by decide +kernel
theorem dX8_leftOver_58 : decode cX8_leftOver 58 = .ok (.invokestatic 170, 3) := by decide +kernel
theorem dX8_leftOver_61 : decode cX8_leftOver 61 = .ok (.ifCond .eq 17, 3) := by decide +kernel
theorem dX8_leftOver_64 : decode cX8_leftOver 64 = .ok (.aload_n 1, 1) := by decide +kernel
theorem dX8_leftOver_65 : decode cX8_leftOver 65 = .ok (.aload_n 0, 1) := by decide +kernel
theorem dX8_leftOver_66 : decode cX8_leftOver 66 = .ok (.getfield 51, 3) := by decide +kernel
theorem dX8_leftOver_69 : decode cX8_leftOver 69 = .ok (.iload 6, 2) := by decide +kernel
theorem dX8_leftOver_71 : decode cX8_leftOver 71 = .ok (.iaload, 1) := by decide +kernel
theorem dX8_leftOver_72 : decode cX8_leftOver 72 = .ok (.iaload, 1) := by decide +kernel
theorem dX8_leftOver_73 : decode cX8_leftOver 73 = .ok (.iconst 1, 1) := by decide +kernel
theorem dX8_leftOver_74 : decode cX8_leftOver 74 = .ok (.isub, 1) := by decide +kernel
theorem dX8_leftOver_75 : decode cX8_leftOver 75 = .ok (.goto 4, 3) := by decide +kernel
theorem dX8_leftOver_78 : decode cX8_leftOver 78 = .ok (.iconst 0, 1) := by decide +kernel
theorem dX8_leftOver_79 : decode cX8_leftOver 79 = .ok (.isub, 1) := by decide +kernel
theorem dX8_leftOver_80 : decode cX8_leftOver 80 = .ok (.istore 5, 2) := by decide +kernel
theorem dX8_leftOver_82 : decode cX8_leftOver 82 = .ok (.iinc 6 1, 3) := by decide +kernel
theorem dX8_leftOver_85 : decode cX8_leftOver 85 = .ok (.goto (-48), 3) := by decide +kernel
theorem dX8_leftOver_88 : decode cX8_leftOver 88 = .ok (.iload 4, 2) := by decide +kernel
theorem dX8_leftOver_90 : decode cX8_leftOver 90 = .ok (.ifCond .lt 15, 3) := by decide +kernel
theorem dX8_leftOver_93 : decode cX8_leftOver 93 = .ok (.iload 5, 2) := by decide +kernel
theorem dX8_leftOver_95 : decode cX8_leftOver 95 = .ok (.aload_n 1, 1) := by decide +kernel
theorem dX8_leftOver_96 : decode cX8_leftOver 96 = .ok (.iload 4, 2) := by decide +kernel
theorem dX8_leftOver_98 : decode cX8_leftOver 98 = .ok (.iaload, 1) := by decide +kernel
theorem dX8_leftOver_99 : decode cX8_leftOver 99 = .ok (.isub, 1) := by decide +kernel
theorem dX8_leftOver_100 : decode cX8_leftOver 100 = .ok (.iconst 1, 1) := by decide +kernel
theorem dX8_leftOver_101 : decode cX8_leftOver 101 = .ok (.iadd, 1) := by decide +kernel
theorem dX8_leftOver_102 : decode cX8_leftOver 102 = .ok (.goto 5, 3) := by decide +kernel
theorem dX8_leftOver_105 : decode cX8_leftOver 105 = .ok (.iload 5, 2) := by decide +kernel
theorem dX8_leftOver_107 : decode cX8_leftOver 107 = .ok (.ireturn, 1) := by decide +kernel
theorem dX8_isHeld_0 : decode cX8_isHeld 0 = .ok (.aload_n 0, 1) := by decide +kernel
theorem dX8_isHeld_1 : decode cX8_isHeld 1 = .ok (.aload_n 0, 1) := by decide +kernel
theorem dX8_isHeld_2 : decode cX8_isHeld 2 = .ok (.getfield 27, 3) := by decide +kernel
theorem dX8_isHeld_5 : decode cX8_isHeld 5 = .ok (.iload_n 1, 1) := by decide +kernel
theorem dX8_isHeld_6 : decode cX8_isHeld 6 = .ok (.iload_n 3, 1) := by decide +kernel
theorem dX8_isHeld_7 : decode cX8_isHeld 7 = .ok (.iload 4, 2) := by decide +kernel
theorem dX8_isHeld_9 : decode cX8_isHeld 9 = .ok (.invokevirtual 258, 3) := by decide +kernel
theorem dX8_isHeld_12 : decode cX8_isHeld 12 = .ok (.ifCond .ne 18, 3) := by decide +kernel
theorem dX8_isHeld_15 : decode cX8_isHeld 15 = .ok (.aload_n 0, 1) := by decide +kernel
theorem dX8_isHeld_16 : decode cX8_isHeld 16 = .ok (.aload_n 0, 1) := by decide +kernel
theorem dX8_isHeld_17 : decode cX8_isHeld 17 = .ok (.getfield 30, 3) := by decide +kernel
theorem dX8_isHeld_20 : decode cX8_isHeld 20 = .ok (.iload_n 1, 1) := by decide +kernel
theorem dX8_isHeld_21 : decode cX8_isHeld 21 = .ok (.iload_n 3, 1) := by decide +kernel
theorem dX8_isHeld_22 : decode cX8_isHeld 22 = .ok (.iload 4, 2) := by decide +kernel
theorem dX8_isHeld_24 : decode cX8_isHeld 24 = .ok (.invokevirtual 258, 3) := by decide +kernel
theorem dX8_isHeld_27 : decode cX8_isHeld 27 = .ok (.ifCond .eq 5, 3) := by decide +kernel
theorem dX8_isHeld_30 : decode cX8_isHeld 30 = .ok (.iconst 0, 1) := by decide +kernel
theorem dX8_isHeld_31 : decode cX8_isHeld 31 = .ok (.ireturn, 1) := by decide +kernel
theorem dX8_isHeld_32 : decode cX8_isHeld 32 = .ok (.iload_n 2, 1) := by decide +kernel
theorem dX8_isHeld_33 : decode cX8_isHeld 33 = .ok (.iconst 2, 1) := by decide +kernel
theorem dX8_isHeld_34 : decode cX8_isHeld 34 = .ok (.if_icmp .ne 5, 3) := by decide +kernel
theorem dX8_isHeld_37 : decode cX8_isHeld 37 = .ok (.iconst 1, 1) := by decide +kernel
theorem dX8_isHeld_38 : decode cX8_isHeld 38 = .ok (.ireturn, 1) := by decide +kernel
theorem dX8_isHeld_39 : decode cX8_isHeld 39 = .ok (.aload_n 0, 1) := by decide +kernel
theorem dX8_isHeld_40 : decode cX8_isHeld 40 = .ok (.aload_n 0, 1) := by decide +kernel
theorem dX8_isHeld_41 : decode cX8_isHeld 41 = .ok (.getfield 36, 3) := by decide +kernel
theorem dX8_isHeld_44 : decode cX8_isHeld 44 = .ok (.iload_n 1, 1) := by decide +kernel
theorem dX8_isHeld_45 : decode cX8_isHeld 45 = .ok (.iload_n 3, 1) := by decide +kernel
theorem dX8_isHeld_46 : decode cX8_isHeld 46 = .ok (.iload 4, 2) := by decide +kernel
theorem dX8_isHeld_48 : decode cX8_isHeld 48 = .ok (.invokevirtual 258, 3) := by decide +kernel
theorem dX8_isHeld_51 : decode cX8_isHeld 51 = .ok (.istore 5, 2) := by decide +kernel
theorem dX8_isHeld_53 : decode cX8_isHeld 53 = .ok (.aload_n 0, 1) := by decide +kernel
theorem dX8_isHeld_54 : decode cX8_isHeld 54 = .ok (.aload_n 0, 1) := by decide +kernel
theorem dX8_isHeld_55 : decode cX8_isHeld 55 = .ok (.getfield 33, 3) := by decide +kernel
theorem dX8_isHeld_58 : decode cX8_isHeld 58 = .ok (.iload_n 1, 1) := by decide +kernel
theorem dX8_isHeld_59 : decode cX8_isHeld 59 = .ok (.iload_n 3, 1) := by decide +kernel
theorem dX8_isHeld_60 : decode cX8_isHeld 60 = .ok (.iload 4, 2) := by decide +kernel
theorem dX8_isHeld_62 : decode cX8_isHeld 62 = .ok (.invokevirtual 258, 3) := by decide +kernel
theorem dX8_isHeld_65 : decode cX8_isHeld 65 = .ok (.ifCond .ne 38, 3) := by decide +kernel
theorem dX8_isHeld_68 : decode cX8_isHeld 68 = .ok (.iload 5, 2) := by decide +kernel
theorem dX8_isHeld_70 : decode cX8_isHeld 70 = .ok (.i2l, 1) := by decide +kernel
theorem dX8_isHeld_71 : decode cX8_isHeld 71 = .ok (.iload_n 2, 1) := by decide +kernel
theorem dX8_isHeld_72 : decode cX8_isHeld 72 = .ok (.iconst 1, 1) := by decide +kernel
theorem dX8_isHeld_73 : decode cX8_isHeld 73 = .ok (.if_icmp .ne 9, 3) := by decide +kernel
theorem dX8_isHeld_76 : decode cX8_isHeld 76 = .ok (.ldc2_w 159, 3) := by decide +kernel
theorem dX8_isHeld_79 : decode cX8_isHeld 79 = .ok (.goto 4, 3) := by decide +kernel
theorem dX8_isHeld_82 : decode cX8_isHeld 82 = .ok (.lconst 0, 1) := by decide +kernel
theorem dX8_isHeld_83 : decode cX8_isHeld 83 = .ok (.iload_n 2, 1) := by decide +kernel
theorem dX8_isHeld_84 : decode cX8_isHeld 84 = .ok (.iconst 1, 1) := by decide +kernel
theorem dX8_isHeld_85 : decode cX8_isHeld 85 = .ok (.if_icmp .ne 7, 3) := by decide +kernel
theorem dX8_isHeld_88 : decode cX8_isHeld 88 = .ok (.lconst 1, 1) := by decide +kernel
theorem dX8_isHeld_89 : decode cX8_isHeld 89 = .ok (.goto 4, 3) := by decide +kernel
theorem dX8_isHeld_92 : decode cX8_isHeld 92 = .ok (.lconst 0, 1) := by decide +kernel
theorem dX8_isHeld_93 : decode cX8_isHeld 93 = .ok (.invokestatic 13, 3) := by decide +kernel
theorem dX8_isHeld_96 : decode cX8_isHeld 96 = .ok (.ifCond .eq 7, 3) := by decide +kernel
theorem dX8_isHeld_99 : decode cX8_isHeld 99 = .ok (.iconst 1, 1) := by decide +kernel
theorem dX8_isHeld_100 : decode cX8_isHeld 100 = .ok (.goto 4, 3) := by decide +kernel
theorem dX8_isHeld_103 : decode cX8_isHeld 103 = .ok (.iconst 0, 1) := by decide +kernel
theorem dX8_isHeld_104 : decode cX8_isHeld 104 = .ok (.ireturn, 1) := by decide +kernel
theorem dX8_untoldMany_0 : decode cX8_untoldMany 0 = .ok (.aload_n 0, 1) := by decide +kernel
theorem dX8_untoldMany_1 : decode cX8_untoldMany 1 = .ok (.iload_n 1, 1) := by decide +kernel
theorem dX8_untoldMany_2 : decode cX8_untoldMany 2 = .ok (.invokevirtual 221, 3) := by decide +kernel
theorem dX8_untoldMany_5 : decode cX8_untoldMany 5 = .ok (.iconst 0, 1) := by decide +kernel
theorem dX8_untoldMany_6 : decode cX8_untoldMany 6 = .ok (.istore_n 2, 1) := by decide +kernel
theorem dX8_untoldMany_7 : decode cX8_untoldMany 7 = .ok (.iconst 0, 1) := by decide +kernel
theorem dX8_untoldMany_8 : decode cX8_untoldMany 8 = .ok (.istore_n 3, 1) := by decide +kernel
theorem dX8_untoldMany_9 : decode cX8_untoldMany 9 = .ok (.iload_n 3, 1) := by decide +kernel
theorem dX8_untoldMany_10 : decode cX8_untoldMany 10 = .ok (.aload_n 0, 1) := by decide +kernel
theorem dX8_untoldMany_11 : decode cX8_untoldMany 11 = .ok (.getfield 218, 3) := by decide +kernel
theorem dX8_untoldMany_14 : decode cX8_untoldMany 14 = .ok (.if_icmp .ge 30, 3) := by decide +kernel
theorem dX8_untoldMany_17 : decode cX8_untoldMany 17 = .ok (.iload_n 2, 1) := by decide +kernel
theorem dX8_untoldMany_18 : decode cX8_untoldMany 18 = .ok (.aload_n 0, 1) := by decide +kernel
theorem dX8_untoldMany_19 : decode cX8_untoldMany 19 = .ok (.aload_n 0, 1) := by decide +kernel
theorem dX8_untoldMany_20 : decode cX8_untoldMany 20 = .ok (.getfield 48, 3) := by decide +kernel
theorem dX8_untoldMany_23 : decode cX8_untoldMany 23 = .ok (.iload_n 3, 1) := by decide +kernel
theorem dX8_untoldMany_24 : decode cX8_untoldMany 24 = .ok (.iaload, 1) := by decide +kernel
theorem dX8_untoldMany_25 : decode cX8_untoldMany 25 = .ok (.invokevirtual 164, 3) := by decide +kernel
theorem dX8_untoldMany_28 : decode cX8_untoldMany 28 = .ok (.ifCond .ge 7, 3) := by decide +kernel
theorem dX8_untoldMany_31 : decode cX8_untoldMany 31 = .ok (.iconst 1, 1) := by decide +kernel
theorem dX8_untoldMany_32 : decode cX8_untoldMany 32 = .ok (.goto 4, 3) := by decide +kernel
theorem dX8_untoldMany_35 : decode cX8_untoldMany 35 = .ok (.iconst 0, 1) := by decide +kernel
theorem dX8_untoldMany_36 : decode cX8_untoldMany 36 = .ok (.iadd, 1) := by decide +kernel
theorem dX8_untoldMany_37 : decode cX8_untoldMany 37 = .ok (.istore_n 2, 1) := by decide +kernel
theorem dX8_untoldMany_38 : decode cX8_untoldMany 38 = .ok (.iinc 3 1, 3) := by decide +kernel
theorem dX8_untoldMany_41 : decode cX8_untoldMany 41 = .ok (.goto (-32), 3) := by decide +kernel
theorem dX8_untoldMany_44 : decode cX8_untoldMany 44 = .ok (.iload_n 2, 1) := by decide +kernel
theorem dX8_untoldMany_45 : decode cX8_untoldMany 45 = .ok (.ireturn, 1) := by decide +kernel
theorem dX8_isLaw_0 : decode cX8_isLaw 0 = .ok (.iload_n 0, 1) := by decide +kernel
theorem dX8_isLaw_1 : decode cX8_isLaw 1 = .ok (.i2l, 1) := by decide +kernel
theorem dX8_isLaw_2 : decode cX8_isLaw 2 = .ok (.lconst 0, 1) := by decide +kernel
theorem dX8_isLaw_3 : decode cX8_isLaw 3 = .ok (.ldc2_w 113, 3) := by decide +kernel
theorem dX8_isLaw_6 : decode cX8_isLaw 6 = .ok (.invokestatic 13, 3) := by decide +kernel
theorem dX8_isLaw_9 : decode cX8_isLaw 9 = .ok (.ireturn, 1) := by decide +kernel
theorem dX8_holds_0 : decode cX8_holds 0 = .ok (.aload_n 0, 1) := by decide +kernel
theorem dX8_holds_1 : decode cX8_holds 1 = .ok (.iload_n 1, 1) := by decide +kernel
theorem dX8_holds_2 : decode cX8_holds 2 = .ok (.invokevirtual 192, 3) := by decide +kernel
theorem dX8_holds_5 : decode cX8_holds 5 = .ok (.ifCond .eq 42, 3) := by decide +kernel
theorem dX8_holds_8 : decode cX8_holds 8 = .ok (.iload_n 2, 1) := by decide +kernel
theorem dX8_holds_9 : decode cX8_holds 9 = .ok (.invokestatic 262, 3) := by decide +kernel
theorem dX8_holds_12 : decode cX8_holds 12 = .ok (.ifCond .eq 35, 3) := by decide +kernel
theorem dX8_holds_15 : decode cX8_holds 15 = .ok (.iload 4, 2) := by decide +kernel
theorem dX8_holds_17 : decode cX8_holds 17 = .ok (.iconst (-1), 1) := by decide +kernel
theorem dX8_holds_18 : decode cX8_holds 18 = .ok (.if_icmp .eq 12, 3) := by decide +kernel
theorem dX8_holds_21 : decode cX8_holds 21 = .ok (.aload_n 0, 1) := by decide +kernel
theorem dX8_holds_22 : decode cX8_holds 22 = .ok (.iload 4, 2) := by decide +kernel
theorem dX8_holds_24 : decode cX8_holds 24 = .ok (.invokevirtual 265, 3) := by decide +kernel
theorem dX8_holds_27 : decode cX8_holds 27 = .ok (.ifCond .eq 20, 3) := by decide +kernel
theorem dX8_holds_30 : decode cX8_holds 30 = .ok (.aload_n 0, 1) := by decide +kernel
theorem dX8_holds_31 : decode cX8_holds 31 = .ok (.iload_n 1, 1) := by decide +kernel
theorem dX8_holds_32 : decode cX8_holds 32 = .ok (.iconst 2, 1) := by decide +kernel
theorem dX8_holds_33 : decode cX8_holds 33 = .ok (.invokevirtual 185, 3) := by decide +kernel
theorem dX8_holds_36 : decode cX8_holds 36 = .ok (.ifCond .ge 13, 3) := by decide +kernel
theorem dX8_holds_39 : decode cX8_holds 39 = .ok (.aload_n 0, 1) := by decide +kernel
theorem dX8_holds_40 : decode cX8_holds 40 = .ok (.iload_n 3, 1) := by decide +kernel
theorem dX8_holds_41 : decode cX8_holds 41 = .ok (.invokevirtual 265, 3) := by decide +kernel
theorem dX8_holds_44 : decode cX8_holds 44 = .ok (.ifCond .ne 5, 3) := by decide +kernel
theorem dX8_holds_47 : decode cX8_holds 47 = .ok (.iconst (-1), 1) := by decide +kernel
theorem dX8_holds_48 : decode cX8_holds 48 = .ok (.ireturn, 1) := by decide +kernel
theorem dX8_holds_49 : decode cX8_holds 49 = .ok (.aload_n 0, 1) := by decide +kernel
theorem dX8_holds_50 : decode cX8_holds 50 = .ok (.iload_n 1, 1) := by decide +kernel
theorem dX8_holds_51 : decode cX8_holds 51 = .ok (.invokevirtual 268, 3) := by decide +kernel
theorem dX8_holds_54 : decode cX8_holds 54 = .ok (.ifCond .le 6, 3) := by decide +kernel
theorem dX8_holds_57 : decode cX8_holds 57 = .ok (.bipush (-5), 2) := by decide +kernel
theorem dX8_holds_59 : decode cX8_holds 59 = .ok (.ireturn, 1) := by decide +kernel
theorem dX8_holds_60 : decode cX8_holds 60 = .ok (.aload_n 0, 1) := by decide +kernel
theorem dX8_holds_61 : decode cX8_holds 61 = .ok (.invokevirtual 271, 3) := by decide +kernel
theorem dX8_holds_64 : decode cX8_holds 64 = .ok (.aload_n 0, 1) := by decide +kernel
theorem dX8_holds_65 : decode cX8_holds 65 = .ok (.iload_n 1, 1) := by decide +kernel
theorem dX8_holds_66 : decode cX8_holds 66 = .ok (.iload_n 2, 1) := by decide +kernel
theorem dX8_holds_67 : decode cX8_holds 67 = .ok (.iload_n 3, 1) := by decide +kernel
theorem dX8_holds_68 : decode cX8_holds 68 = .ok (.iload 4, 2) := by decide +kernel
theorem dX8_holds_70 : decode cX8_holds 70 = .ok (.invokevirtual 274, 3) := by decide +kernel
theorem dX8_holds_73 : decode cX8_holds 73 = .ok (.ifCond .eq 7, 3) := by decide +kernel
theorem dX8_holds_76 : decode cX8_holds 76 = .ok (.iconst 1, 1) := by decide +kernel
theorem dX8_holds_77 : decode cX8_holds 77 = .ok (.goto 4, 3) := by decide +kernel
theorem dX8_holds_80 : decode cX8_holds 80 = .ok (.iconst 0, 1) := by decide +kernel
theorem dX8_holds_81 : decode cX8_holds 81 = .ok (.ireturn, 1) := by decide +kernel
theorem dX8_tellsAsked_0 : decode cX8_tellsAsked 0 = .ok (.aload_n 0, 1) := by decide +kernel
theorem dX8_tellsAsked_1 : decode cX8_tellsAsked 1 = .ok (.iload_n 1, 1) := by decide +kernel
theorem dX8_tellsAsked_2 : decode cX8_tellsAsked 2 = .ok (.invokevirtual 221, 3) := by decide +kernel
theorem dX8_tellsAsked_5 : decode cX8_tellsAsked 5 = .ok (.aload_n 0, 1) := by decide +kernel
theorem dX8_tellsAsked_6 : decode cX8_tellsAsked 6 = .ok (.iconst 0, 1) := by decide +kernel
theorem dX8_tellsAsked_7 : decode cX8_tellsAsked 7 = .ok (.putfield 278, 3) := by decide +kernel
theorem dX8_tellsAsked_10 : decode cX8_tellsAsked 10 = .ok (.iconst 0, 1) := by decide +kernel
theorem dX8_tellsAsked_11 : decode cX8_tellsAsked 11 = .ok (.istore_n 3, 1) := by decide +kernel
theorem dX8_tellsAsked_12 : decode cX8_tellsAsked 12 = .ok (.iload_n 3, 1) := by decide +kernel
theorem dX8_tellsAsked_13 : decode cX8_tellsAsked 13 = .ok (.aload_n 0, 1) := by decide +kernel
theorem dX8_tellsAsked_14 : decode cX8_tellsAsked 14 = .ok (.getfield 218, 3) := by decide +kernel
theorem dX8_tellsAsked_17 : decode cX8_tellsAsked 17 = .ok (.if_icmp .ge 47, 3) := by decide +kernel
theorem dX8_tellsAsked_20 : decode cX8_tellsAsked 20 = .ok (.aload_n 0, 1) := by decide +kernel
theorem dX8_tellsAsked_21 : decode cX8_tellsAsked 21 = .ok (.aload_n 0, 1) := by decide +kernel
theorem dX8_tellsAsked_22 : decode cX8_tellsAsked 22 = .ok (.getfield 48, 3) := by decide +kernel
theorem dX8_tellsAsked_25 : decode cX8_tellsAsked 25 = .ok (.iload_n 3, 1) := by decide +kernel
theorem dX8_tellsAsked_26 : decode cX8_tellsAsked 26 = .ok (.iaload, 1) := by decide +kernel
theorem dX8_tellsAsked_27 : decode cX8_tellsAsked 27 = .ok (.invokevirtual 164, 3) := by decide +kernel
theorem dX8_tellsAsked_30 : decode cX8_tellsAsked 30 = .ok (.ifCond .ge 28, 3) := by decide +kernel
theorem dX8_tellsAsked_33 : decode cX8_tellsAsked 33 = .ok (.aload_n 0, 1) := by decide +kernel
theorem dX8_tellsAsked_34 : decode cX8_tellsAsked 34 = .ok (.getfield 54, 3) := by decide +kernel
theorem dX8_tellsAsked_37 : decode cX8_tellsAsked 37 = .ok (.aload_n 0, 1) := by decide +kernel
theorem dX8_tellsAsked_38 : decode cX8_tellsAsked 38 = .ok (.getfield 278, 3) := by decide +kernel
theorem dX8_tellsAsked_41 : decode cX8_tellsAsked 41 = .ok (.aload_n 0, 1) := by decide +kernel
theorem dX8_tellsAsked_42 : decode cX8_tellsAsked 42 = .ok (.getfield 48, 3) := by decide +kernel
theorem dX8_tellsAsked_45 : decode cX8_tellsAsked 45 = .ok (.iload_n 3, 1) := by decide +kernel
theorem dX8_tellsAsked_46 : decode cX8_tellsAsked 46 = .ok (.iaload, 1) := by decide +kernel
theorem dX8_tellsAsked_47 : decode cX8_tellsAsked 47 = .ok (.iastore, 1) := by decide +kernel
theorem dX8_tellsAsked_48 : decode cX8_tellsAsked 48 = .ok (.aload_n 0, 1) := by decide +kernel
theorem dX8_tellsAsked_49 : decode cX8_tellsAsked 49 = .ok (.dup, 1) := by decide +kernel
theorem dX8_tellsAsked_50 : decode cX8_tellsAsked 50 = .ok (.getfield 278, 3) := by decide +kernel
theorem dX8_tellsAsked_53 : decode cX8_tellsAsked 53 = .ok (.iconst 1, 1) := by decide +kernel
theorem dX8_tellsAsked_54 : decode cX8_tellsAsked 54 = .ok (.iadd, 1) := by decide +kernel
theorem dX8_tellsAsked_55 : decode cX8_tellsAsked 55 = .ok (.putfield 278, 3) := by decide +kernel
theorem dX8_tellsAsked_58 : decode cX8_tellsAsked 58 = .ok (.iinc 3 1, 3) := by decide +kernel
theorem dX8_tellsAsked_61 : decode cX8_tellsAsked 61 = .ok (.goto (-49), 3) := by decide +kernel
theorem dX8_tellsAsked_64 : decode cX8_tellsAsked 64 = .ok (.aload_n 0, 1) := by decide +kernel
theorem dX8_tellsAsked_65 : decode cX8_tellsAsked 65 = .ok (.iload_n 1, 1) := by decide +kernel
theorem dX8_tellsAsked_66 : decode cX8_tellsAsked 66 = .ok (.iconst 2, 1) := by decide +kernel
theorem dX8_tellsAsked_67 : decode cX8_tellsAsked 67 = .ok (.invokevirtual 185, 3) := by decide +kernel
theorem dX8_tellsAsked_70 : decode cX8_tellsAsked 70 = .ok (.ifCond .ge 23, 3) := by decide +kernel
theorem dX8_tellsAsked_73 : decode cX8_tellsAsked 73 = .ok (.aload_n 0, 1) := by decide +kernel
theorem dX8_tellsAsked_74 : decode cX8_tellsAsked 74 = .ok (.getfield 54, 3) := by decide +kernel
theorem dX8_tellsAsked_77 : decode cX8_tellsAsked 77 = .ok (.aload_n 0, 1) := by decide +kernel
theorem dX8_tellsAsked_78 : decode cX8_tellsAsked 78 = .ok (.getfield 278, 3) := by decide +kernel
theorem dX8_tellsAsked_81 : decode cX8_tellsAsked 81 = .ok (.iconst (-1), 1) := by decide +kernel
theorem dX8_tellsAsked_82 : decode cX8_tellsAsked 82 = .ok (.iastore, 1) := by decide +kernel
theorem dX8_tellsAsked_83 : decode cX8_tellsAsked 83 = .ok (.aload_n 0, 1) := by decide +kernel
theorem dX8_tellsAsked_84 : decode cX8_tellsAsked 84 = .ok (.dup, 1) := by decide +kernel
theorem dX8_tellsAsked_85 : decode cX8_tellsAsked 85 = .ok (.getfield 278, 3) := by decide +kernel
theorem dX8_tellsAsked_88 : decode cX8_tellsAsked 88 = .ok (.iconst 1, 1) := by decide +kernel
theorem dX8_tellsAsked_89 : decode cX8_tellsAsked 89 = .ok (.iadd, 1) := by decide +kernel
theorem dX8_tellsAsked_90 : decode cX8_tellsAsked 90 = .ok (.putfield 278, 3) := by decide +kernel
theorem dX8_tellsAsked_93 : decode cX8_tellsAsked 93 = .ok (.iload_n 2, 1) := by decide +kernel
theorem dX8_tellsAsked_94 : decode cX8_tellsAsked 94 = .ok (.iconst 1, 1) := by decide +kernel
theorem dX8_tellsAsked_95 : decode cX8_tellsAsked 95 = .ok (.if_icmp .ne 24, 3) := by decide +kernel
theorem dX8_tellsAsked_98 : decode cX8_tellsAsked 98 = .ok (.aload_n 0, 1) := by decide +kernel
theorem dX8_tellsAsked_99 : decode cX8_tellsAsked 99 = .ok (.getfield 54, 3) := by decide +kernel
theorem dX8_tellsAsked_102 : decode cX8_tellsAsked 102 = .ok (.aload_n 0, 1) := by decide +kernel
theorem dX8_tellsAsked_103 : decode cX8_tellsAsked 103 = .ok (.getfield 278, 3) := by decide +kernel
theorem dX8_tellsAsked_106 : decode cX8_tellsAsked 106 = .ok (.bipush (-2), 2) := by decide +kernel
theorem dX8_tellsAsked_108 : decode cX8_tellsAsked 108 = .ok (.iastore, 1) := by decide +kernel
theorem dX8_tellsAsked_109 : decode cX8_tellsAsked 109 = .ok (.aload_n 0, 1) := by decide +kernel
theorem dX8_tellsAsked_110 : decode cX8_tellsAsked 110 = .ok (.dup, 1) := by decide +kernel
theorem dX8_tellsAsked_111 : decode cX8_tellsAsked 111 = .ok (.getfield 278, 3) := by decide +kernel
theorem dX8_tellsAsked_114 : decode cX8_tellsAsked 114 = .ok (.iconst 1, 1) := by decide +kernel
theorem dX8_tellsAsked_115 : decode cX8_tellsAsked 115 = .ok (.iadd, 1) := by decide +kernel
theorem dX8_tellsAsked_116 : decode cX8_tellsAsked 116 = .ok (.putfield 278, 3) := by decide +kernel
theorem dX8_tellsAsked_119 : decode cX8_tellsAsked 119 = .ok (.return_, 1) := by decide +kernel
theorem dX8_tries_0 : decode cX8_tries 0 = .ok (.iload_n 3, 1) := by decide +kernel
theorem dX8_tries_1 : decode cX8_tries 1 = .ok (.aload_n 0, 1) := by decide +kernel
theorem dX8_tries_2 : decode cX8_tries 2 = .ok (.getfield 278, 3) := by decide +kernel
theorem dX8_tries_5 : decode cX8_tries 5 = .ok (.if_icmp .ne 171, 3) := by decide +kernel
theorem dX8_tries_8 : decode cX8_tries 8 = .ok (.iconst (-1), 1) := by decide +kernel
theorem dX8_tries_9 : decode cX8_tries 9 = .ok (.istore 4, 2) := by decide +kernel
theorem dX8_tries_11 : decode cX8_tries 11 = .ok (.iconst (-1), 1) := by decide +kernel
theorem dX8_tries_12 : decode cX8_tries 12 = .ok (.istore 5, 2) := by decide +kernel
theorem dX8_tries_14 : decode cX8_tries 14 = .ok (.iconst 0, 1) := by decide +kernel
theorem dX8_tries_15 : decode cX8_tries 15 = .ok (.istore 6, 2) := by decide +kernel
theorem dX8_tries_17 : decode cX8_tries 17 = .ok (.iload 6, 2) := by decide +kernel
theorem dX8_tries_19 : decode cX8_tries 19 = .ok (.aload_n 0, 1) := by decide +kernel
theorem dX8_tries_20 : decode cX8_tries 20 = .ok (.getfield 278, 3) := by decide +kernel
theorem dX8_tries_23 : decode cX8_tries 23 = .ok (.if_icmp .ge 89, 3) := by decide +kernel
theorem dX8_tries_26 : decode cX8_tries 26 = .ok (.aload_n 0, 1) := by decide +kernel
theorem dX8_tries_27 : decode cX8_tries 27 = .ok (.getfield 54, 3) := by decide +kernel
theorem dX8_tries_30 : decode cX8_tries 30 = .ok (.iload 6, 2) := by decide +kernel
theorem dX8_tries_32 : decode cX8_tries 32 = .ok (.iaload, 1) := by decide +kernel
theorem dX8_tries_33 : decode cX8_tries 33 = .ok (.ifCond .lt 22, 3) := by decide +kernel
theorem dX8_tries_36 : decode cX8_tries 36 = .ok (.aload_n 0, 1) := by decide +kernel
theorem dX8_tries_37 : decode cX8_tries 37 = .ok (.getfield 51, 3) := by decide +kernel
theorem dX8_tries_40 : decode cX8_tries 40 = .ok (.aload_n 0, 1) := by decide +kernel
theorem dX8_tries_41 : decode cX8_tries 41 = .ok (.getfield 54, 3) := by decide +kernel
theorem dX8_tries_44 : decode cX8_tries 44 = .ok (.iload 6, 2) := by decide +kernel
theorem dX8_tries_46 : decode cX8_tries 46 = .ok (.iaload, 1) := by decide +kernel
theorem dX8_tries_47 : decode cX8_tries 47 = .ok (.aload_n 0, 1) := by decide +kernel
theorem dX8_tries_48 : decode cX8_tries 48 = .ok (.getfield 57, 3) := by decide +kernel
theorem dX8_tries_51 : decode cX8_tries 51 = .ok (.iload 6, 2) := by decide +kernel
theorem dX8_tries_53 : decode cX8_tries 53 = .ok (.iaload, 1) := by decide +kernel
theorem dX8_tries_54 : decode cX8_tries 54 = .ok (.iastore, 1) := by decide +kernel
theorem dX8_tries_55 : decode cX8_tries 55 = .ok (.aload_n 0, 1) := by decide +kernel
theorem dX8_tries_56 : decode cX8_tries 56 = .ok (.getfield 54, 3) := by decide +kernel
theorem dX8_tries_59 : decode cX8_tries 59 = .ok (.iload 6, 2) := by decide +kernel
theorem dX8_tries_61 : decode cX8_tries 61 = .ok (.iaload, 1) := by decide +kernel
theorem dX8_tries_62 : decode cX8_tries 62 = .ok (.iconst (-1), 1) := by decide +kernel
theorem dX8_tries_63 : decode cX8_tries 63 = .ok (.if_icmp .ne 13, 3) := by decide +kernel
theorem dX8_tries_66 : decode cX8_tries 66 = .ok (.aload_n 0, 1) := by decide +kernel
theorem dX8_tries_67 : decode cX8_tries 67 = .ok (.getfield 57, 3) := by decide +kernel
theorem dX8_tries_70 : decode cX8_tries 70 = .ok (.iload 6, 2) := by decide +kernel
theorem dX8_tries_72 : decode cX8_tries 72 = .ok (.iaload, 1) := by decide +kernel
theorem dX8_tries_73 : decode cX8_tries 73 = .ok (.goto 5, 3) := by decide +kernel
theorem dX8_tries_76 : decode cX8_tries 76 = .ok (.iload 4, 2) := by decide +kernel
theorem dX8_tries_78 : decode cX8_tries 78 = .ok (.istore 4, 2) := by decide +kernel
theorem dX8_tries_80 : decode cX8_tries 80 = .ok (.aload_n 0, 1) := by decide +kernel
theorem dX8_tries_81 : decode cX8_tries 81 = .ok (.getfield 54, 3) := by decide +kernel
theorem dX8_tries_84 : decode cX8_tries 84 = .ok (.iload 6, 2) := by decide +kernel
theorem dX8_tries_86 : decode cX8_tries 86 = .ok (.iaload, 1) := by decide +kernel
theorem dX8_tries_87 : decode cX8_tries 87 = .ok (.bipush (-2), 2) := by decide +kernel
theorem dX8_tries_89 : decode cX8_tries 89 = .ok (.if_icmp .ne 13, 3) := by decide +kernel
theorem dX8_tries_92 : decode cX8_tries 92 = .ok (.aload_n 0, 1) := by decide +kernel
theorem dX8_tries_93 : decode cX8_tries 93 = .ok (.getfield 57, 3) := by decide +kernel
theorem dX8_tries_96 : decode cX8_tries 96 = .ok (.iload 6, 2) := by decide +kernel
theorem dX8_tries_98 : decode cX8_tries 98 = .ok (.iaload, 1) := by decide +kernel
theorem dX8_tries_99 : decode cX8_tries 99 = .ok (.goto 5, 3) := by decide +kernel
theorem dX8_tries_102 : decode cX8_tries 102 = .ok (.iload 5, 2) := by decide +kernel
theorem dX8_tries_104 : decode cX8_tries 104 = .ok (.istore 5, 2) := by decide +kernel
theorem dX8_tries_106 : decode cX8_tries 106 = .ok (.iinc 6 1, 3) := by decide +kernel
theorem dX8_tries_109 : decode cX8_tries 109 = .ok (.goto (-92), 3) := by decide +kernel
theorem dX8_tries_112 : decode cX8_tries 112 = .ok (.aload_n 0, 1) := by decide +kernel
theorem dX8_tries_113 : decode cX8_tries 113 = .ok (.iload_n 1, 1) := by decide +kernel
theorem dX8_tries_114 : decode cX8_tries 114 = .ok (.iload_n 2, 1) := by decide +kernel
theorem dX8_tries_115 : decode cX8_tries 115 = .ok (.iload 4, 2) := by decide +kernel
theorem dX8_tries_117 : decode cX8_tries 117 = .ok (.iload 5, 2) := by decide +kernel
theorem dX8_tries_119 : decode cX8_tries 119 = .ok (.invokevirtual 274, 3) := by decide +kernel
theorem dX8_tries_122 : decode cX8_tries 122 = .ok (.ifCond .ne 4, 3) := by decide +kernel
theorem dX8_tries_125 : decode cX8_tries 125 = .ok (.return_, 1) := by decide +kernel
theorem dX8_tries_126 : decode cX8_tries 126 = .ok (.iconst 0, 1) := by decide +kernel
theorem dX8_tries_127 : decode cX8_tries 127 = .ok (.istore 6, 2) := by decide +kernel
theorem dX8_tries_129 : decode cX8_tries 129 = .ok (.iload 6, 2) := by decide +kernel
theorem dX8_tries_131 : decode cX8_tries 131 = .ok (.aload_n 0, 1) := by decide +kernel
theorem dX8_tries_132 : decode cX8_tries 132 = .ok (.getfield 278, 3) := by decide +kernel
theorem dX8_tries_135 : decode cX8_tries 135 = .ok (.if_icmp .ge 30, 3) := by decide +kernel
theorem dX8_tries_138 : decode cX8_tries 138 = .ok (.aload_n 0, 1) := by decide +kernel
theorem dX8_tries_139 : decode cX8_tries 139 = .ok (.getfield 281, 3) := by decide +kernel
theorem dX8_tries_142 : decode cX8_tries 142 = .ok (.ifCond .ne 23, 3) := by decide +kernel
theorem dX8_tries_145 : decode cX8_tries 145 = .ok (.aload_n 0, 1) := by decide +kernel
theorem dX8_tries_146 : decode cX8_tries 146 = .ok (.getfield 60, 3) := by decide +kernel
theorem dX8_tries_149 : decode cX8_tries 149 = .ok (.iload 6, 2) := by decide +kernel
theorem dX8_tries_151 : decode cX8_tries 151 = .ok (.aload_n 0, 1) := by decide +kernel
theorem dX8_tries_152 : decode cX8_tries 152 = .ok (.getfield 57, 3) := by decide +kernel
theorem dX8_tries_155 : decode cX8_tries 155 = .ok (.iload 6, 2) := by decide +kernel
theorem dX8_tries_157 : decode cX8_tries 157 = .ok (.iaload, 1) := by decide +kernel
theorem dX8_tries_158 : decode cX8_tries 158 = .ok (.iastore, 1) := by decide +kernel
theorem dX8_tries_159 : decode cX8_tries 159 = .ok (.iinc 6 1, 3) := by decide +kernel
theorem dX8_tries_162 : decode cX8_tries 162 = .ok (.goto (-33), 3) := by decide +kernel
theorem dX8_tries_165 : decode cX8_tries 165 = .ok (.aload_n 0, 1) := by decide +kernel
theorem dX8_tries_166 : decode cX8_tries 166 = .ok (.dup, 1) := by decide +kernel
theorem dX8_tries_167 : decode cX8_tries 167 = .ok (.getfield 281, 3) := by decide +kernel
theorem dX8_tries_170 : decode cX8_tries 170 = .ok (.iconst 1, 1) := by decide +kernel
theorem dX8_tries_171 : decode cX8_tries 171 = .ok (.iadd, 1) := by decide +kernel
theorem dX8_tries_172 : decode cX8_tries 172 = .ok (.putfield 281, 3) := by decide +kernel
theorem dX8_tries_175 : decode cX8_tries 175 = .ok (.return_, 1) := by decide +kernel
theorem dX8_tries_176 : decode cX8_tries 176 = .ok (.aload_n 0, 1) := by decide +kernel
theorem dX8_tries_177 : decode cX8_tries 177 = .ok (.getfield 54, 3) := by decide +kernel
theorem dX8_tries_180 : decode cX8_tries 180 = .ok (.iload_n 3, 1) := by decide +kernel
theorem dX8_tries_181 : decode cX8_tries 181 = .ok (.iaload, 1) := by decide +kernel
theorem dX8_tries_182 : decode cX8_tries 182 = .ok (.ifCond .ge 7, 3) := by decide +kernel
theorem dX8_tries_185 : decode cX8_tries 185 = .ok (.iconst 0, 1) := by decide +kernel
theorem dX8_tries_186 : decode cX8_tries 186 = .ok (.goto 13, 3) := by decide +kernel
theorem dX8_tries_189 : decode cX8_tries 189 = .ok (.aload_n 0, 1) := by decide +kernel
theorem dX8_tries_190 : decode cX8_tries 190 = .ok (.aload_n 0, 1) := by decide +kernel
theorem dX8_tries_191 : decode cX8_tries 191 = .ok (.getfield 54, 3) := by decide +kernel
theorem dX8_tries_194 : decode cX8_tries 194 = .ok (.iload_n 3, 1) := by decide +kernel
theorem dX8_tries_195 : decode cX8_tries 195 = .ok (.iaload, 1) := by decide +kernel
theorem dX8_tries_196 : decode cX8_tries 196 = .ok (.invokevirtual 109, 3) := by decide +kernel
theorem dX8_tries_199 : decode cX8_tries 199 = .ok (.istore 4, 2) := by decide +kernel
theorem dX8_tries_201 : decode cX8_tries 201 = .ok (.iconst 0, 1) := by decide +kernel
theorem dX8_tries_202 : decode cX8_tries 202 = .ok (.istore 5, 2) := by decide +kernel
theorem dX8_tries_204 : decode cX8_tries 204 = .ok (.iload 5, 2) := by decide +kernel
theorem dX8_tries_206 : decode cX8_tries 206 = .ok (.bipush 12, 2) := by decide +kernel
theorem dX8_tries_208 : decode cX8_tries 208 = .ok (.if_icmp .ge 40, 3) := by decide +kernel
theorem dX8_tries_211 : decode cX8_tries 211 = .ok (.aload_n 0, 1) := by decide +kernel
theorem dX8_tries_212 : decode cX8_tries 212 = .ok (.getfield 27, 3) := by decide +kernel
theorem dX8_tries_215 : decode cX8_tries 215 = .ok (.iload 5, 2) := by decide +kernel
theorem dX8_tries_217 : decode cX8_tries 217 = .ok (.iaload, 1) := by decide +kernel
theorem dX8_tries_218 : decode cX8_tries 218 = .ok (.iconst 1, 1) := by decide +kernel
theorem dX8_tries_219 : decode cX8_tries 219 = .ok (.isub, 1) := by decide +kernel
theorem dX8_tries_220 : decode cX8_tries 220 = .ok (.iload 4, 2) := by decide +kernel
theorem dX8_tries_222 : decode cX8_tries 222 = .ok (.if_icmp .ne 20, 3) := by decide +kernel
theorem dX8_tries_225 : decode cX8_tries 225 = .ok (.aload_n 0, 1) := by decide +kernel
theorem dX8_tries_226 : decode cX8_tries 226 = .ok (.getfield 57, 3) := by decide +kernel
theorem dX8_tries_229 : decode cX8_tries 229 = .ok (.iload_n 3, 1) := by decide +kernel
theorem dX8_tries_230 : decode cX8_tries 230 = .ok (.iload 5, 2) := by decide +kernel
theorem dX8_tries_232 : decode cX8_tries 232 = .ok (.iastore, 1) := by decide +kernel
theorem dX8_tries_233 : decode cX8_tries 233 = .ok (.aload_n 0, 1) := by decide +kernel
theorem dX8_tries_234 : decode cX8_tries 234 = .ok (.iload_n 1, 1) := by decide +kernel
theorem dX8_tries_235 : decode cX8_tries 235 = .ok (.iload_n 2, 1) := by decide +kernel
theorem dX8_tries_236 : decode cX8_tries 236 = .ok (.iload_n 3, 1) := by decide +kernel
theorem dX8_tries_237 : decode cX8_tries 237 = .ok (.iconst 1, 1) := by decide +kernel
theorem dX8_tries_238 : decode cX8_tries 238 = .ok (.iadd, 1) := by decide +kernel
theorem dX8_tries_239 : decode cX8_tries 239 = .ok (.invokevirtual 284, 3) := by decide +kernel
theorem dX8_tries_242 : decode cX8_tries 242 = .ok (.iinc 5 1, 3) := by decide +kernel
theorem dX8_tries_245 : decode cX8_tries 245 = .ok (.goto (-41), 3) := by decide +kernel
theorem dX8_tries_248 : decode cX8_tries 248 = .ok (.return_, 1) := by decide +kernel
theorem dX8_naming_0 : decode cX8_naming 0 = .ok (.aload_n 0, 1) := by decide +kernel
theorem dX8_naming_1 : decode cX8_naming 1 = .ok (.iload_n 1, 1) := by decide +kernel
theorem dX8_naming_2 : decode cX8_naming 2 = .ok (.invokevirtual 192, 3) := by decide +kernel
theorem dX8_naming_5 : decode cX8_naming 5 = .ok (.ifCond .eq 20, 3) := by decide +kernel
theorem dX8_naming_8 : decode cX8_naming 8 = .ok (.iload_n 2, 1) := by decide +kernel
theorem dX8_naming_9 : decode cX8_naming 9 = .ok (.invokestatic 262, 3) := by decide +kernel
theorem dX8_naming_12 : decode cX8_naming 12 = .ok (.ifCond .eq 13, 3) := by decide +kernel
theorem dX8_naming_15 : decode cX8_naming 15 = .ok (.iload_n 3, 1) := by decide +kernel
theorem dX8_naming_16 : decode cX8_naming 16 = .ok (.i2l, 1) := by decide +kernel
theorem dX8_naming_17 : decode cX8_naming 17 = .ok (.lconst 0, 1) := by decide +kernel
theorem dX8_naming_18 : decode cX8_naming 18 = .ok (.lconst 1, 1) := by decide +kernel
theorem dX8_naming_19 : decode cX8_naming 19 = .ok (.invokestatic 13, 3) := by decide +kernel
theorem dX8_naming_22 : decode cX8_naming 22 = .ok (.ifCond .ne 5, 3) := by decide +kernel
theorem dX8_naming_25 : decode cX8_naming 25 = .ok (.iconst (-1), 1) := by decide +kernel
theorem dX8_naming_26 : decode cX8_naming 26 = .ok (.ireturn, 1) := by decide +kernel
theorem dX8_naming_27 : decode cX8_naming 27 = .ok (.aload_n 0, 1) := by decide +kernel
theorem dX8_naming_28 : decode cX8_naming 28 = .ok (.iload_n 1, 1) := by decide +kernel
theorem dX8_naming_29 : decode cX8_naming 29 = .ok (.invokevirtual 268, 3) := by decide +kernel
theorem dX8_naming_32 : decode cX8_naming 32 = .ok (.iconst 3, 1) := by decide +kernel
theorem dX8_naming_33 : decode cX8_naming 33 = .ok (.if_icmp .le 6, 3) := by decide +kernel
theorem dX8_naming_36 : decode cX8_naming 36 = .ok (.bipush (-5), 2) := by decide +kernel
theorem dX8_naming_38 : decode cX8_naming 38 = .ok (.ireturn, 1) := by decide +kernel
theorem dX8_naming_39 : decode cX8_naming 39 = .ok (.aload_n 0, 1) := by decide +kernel
theorem dX8_naming_40 : decode cX8_naming 40 = .ok (.iload_n 1, 1) := by decide +kernel
theorem dX8_naming_41 : decode cX8_naming 41 = .ok (.iload_n 3, 1) := by decide +kernel
theorem dX8_naming_42 : decode cX8_naming 42 = .ok (.invokevirtual 287, 3) := by decide +kernel
theorem dX8_naming_45 : decode cX8_naming 45 = .ok (.aload_n 0, 1) := by decide +kernel
theorem dX8_naming_46 : decode cX8_naming 46 = .ok (.invokevirtual 271, 3) := by decide +kernel
theorem dX8_naming_49 : decode cX8_naming 49 = .ok (.aload_n 0, 1) := by decide +kernel
theorem dX8_naming_50 : decode cX8_naming 50 = .ok (.iconst 0, 1) := by decide +kernel
theorem dX8_naming_51 : decode cX8_naming 51 = .ok (.putfield 281, 3) := by decide +kernel
theorem dX8_naming_54 : decode cX8_naming 54 = .ok (.aload_n 0, 1) := by decide +kernel
theorem dX8_naming_55 : decode cX8_naming 55 = .ok (.iload_n 1, 1) := by decide +kernel
theorem dX8_naming_56 : decode cX8_naming 56 = .ok (.iload_n 2, 1) := by decide +kernel
theorem dX8_naming_57 : decode cX8_naming 57 = .ok (.iconst 0, 1) := by decide +kernel
theorem dX8_naming_58 : decode cX8_naming 58 = .ok (.invokevirtual 284, 3) := by decide +kernel
theorem dX8_naming_61 : decode cX8_naming 61 = .ok (.iconst 0, 1) := by decide +kernel
theorem dX8_naming_62 : decode cX8_naming 62 = .ok (.ireturn, 1) := by decide +kernel
theorem dX8_names_0 : decode cX8_names 0 = .ok (.iload 4, 2) := by decide +kernel
theorem dX8_names_2 : decode cX8_names 2 = .ok (.iconst (-1), 1) := by decide +kernel
theorem dX8_names_3 : decode cX8_names 3 = .ok (.if_icmp .ge 5, 3) := by decide +kernel
theorem dX8_names_6 : decode cX8_names 6 = .ok (.iconst (-1), 1) := by decide +kernel
theorem dX8_names_7 : decode cX8_names 7 = .ok (.ireturn, 1) := by decide +kernel
theorem dX8_names_8 : decode cX8_names 8 = .ok (.aload_n 0, 1) := by decide +kernel
theorem dX8_names_9 : decode cX8_names 9 = .ok (.iload_n 1, 1) := by decide +kernel
theorem dX8_names_10 : decode cX8_names 10 = .ok (.iload_n 2, 1) := by decide +kernel
theorem dX8_names_11 : decode cX8_names 11 = .ok (.iload_n 3, 1) := by decide +kernel
theorem dX8_names_12 : decode cX8_names 12 = .ok (.invokevirtual 290, 3) := by decide +kernel
theorem dX8_names_15 : decode cX8_names 15 = .ok (.istore 5, 2) := by decide +kernel
theorem dX8_names_17 : decode cX8_names 17 = .ok (.iload 5, 2) := by decide +kernel
theorem dX8_names_19 : decode cX8_names 19 = .ok (.ifCond .eq 6, 3) := by decide +kernel
theorem dX8_names_22 : decode cX8_names 22 = .ok (.iload 5, 2) := by decide +kernel
theorem dX8_names_24 : decode cX8_names 24 = .ok (.ireturn, 1) := by decide +kernel
theorem dX8_names_25 : decode cX8_names 25 = .ok (.iload 4, 2) := by decide +kernel
theorem dX8_names_27 : decode cX8_names 27 = .ok (.iconst (-1), 1) := by decide +kernel
theorem dX8_names_28 : decode cX8_names 28 = .ok (.if_icmp .ne 8, 3) := by decide +kernel
theorem dX8_names_31 : decode cX8_names 31 = .ok (.aload_n 0, 1) := by decide +kernel
theorem dX8_names_32 : decode cX8_names 32 = .ok (.getfield 281, 3) := by decide +kernel
theorem dX8_names_35 : decode cX8_names 35 = .ok (.ireturn, 1) := by decide +kernel
theorem dX8_names_36 : decode cX8_names 36 = .ok (.aload_n 0, 1) := by decide +kernel
theorem dX8_names_37 : decode cX8_names 37 = .ok (.getfield 281, 3) := by decide +kernel
theorem dX8_names_40 : decode cX8_names 40 = .ok (.ifCond .le 22, 3) := by decide +kernel
theorem dX8_names_43 : decode cX8_names 43 = .ok (.iload 4, 2) := by decide +kernel
theorem dX8_names_45 : decode cX8_names 45 = .ok (.aload_n 0, 1) := by decide +kernel
theorem dX8_names_46 : decode cX8_names 46 = .ok (.getfield 278, 3) := by decide +kernel
theorem dX8_names_49 : decode cX8_names 49 = .ok (.if_icmp .ge 13, 3) := by decide +kernel
theorem dX8_names_52 : decode cX8_names 52 = .ok (.aload_n 0, 1) := by decide +kernel
theorem dX8_names_53 : decode cX8_names 53 = .ok (.getfield 60, 3) := by decide +kernel
theorem dX8_names_56 : decode cX8_names 56 = .ok (.iload 4, 2) := by decide +kernel
theorem dX8_names_58 : decode cX8_names 58 = .ok (.iaload, 1) := by decide +kernel
theorem dX8_names_59 : decode cX8_names 59 = .ok (.goto 5, 3) := by decide +kernel
theorem dX8_names_62 : decode cX8_names 62 = .ok (.bipush (-2), 2) := by decide +kernel
theorem dX8_names_64 : decode cX8_names 64 = .ok (.ireturn, 1) := by decide +kernel
theorem dX8_calls_0 : decode cX8_calls 0 = .ok (.aload_n 0, 1) := by decide +kernel
theorem dX8_calls_1 : decode cX8_calls 1 = .ok (.iload_n 1, 1) := by decide +kernel
theorem dX8_calls_2 : decode cX8_calls 2 = .ok (.iload_n 2, 1) := by decide +kernel
theorem dX8_calls_3 : decode cX8_calls 3 = .ok (.iload_n 3, 1) := by decide +kernel
theorem dX8_calls_4 : decode cX8_calls 4 = .ok (.invokevirtual 290, 3) := by decide +kernel
theorem dX8_calls_7 : decode cX8_calls 7 = .ok (.istore 4, 2) := by decide +kernel
theorem dX8_calls_9 : decode cX8_calls 9 = .ok (.iload 4, 2) := by decide +kernel
theorem dX8_calls_11 : decode cX8_calls 11 = .ok (.ifCond .eq 6, 3) := by decide +kernel
theorem dX8_calls_14 : decode cX8_calls 14 = .ok (.iload 4, 2) := by decide +kernel
theorem dX8_calls_16 : decode cX8_calls 16 = .ok (.ireturn, 1) := by decide +kernel
theorem dX8_calls_17 : decode cX8_calls 17 = .ok (.aload_n 0, 1) := by decide +kernel
theorem dX8_calls_18 : decode cX8_calls 18 = .ok (.getfield 281, 3) := by decide +kernel
theorem dX8_calls_21 : decode cX8_calls 21 = .ok (.ifCond .ne 6, 3) := by decide +kernel
theorem dX8_calls_24 : decode cX8_calls 24 = .ok (.bipush (-2), 2) := by decide +kernel
theorem dX8_calls_26 : decode cX8_calls 26 = .ok (.ireturn, 1) := by decide +kernel
theorem dX8_calls_27 : decode cX8_calls 27 = .ok (.aload_n 0, 1) := by decide +kernel
theorem dX8_calls_28 : decode cX8_calls 28 = .ok (.invokevirtual 141, 3) := by decide +kernel
theorem dX8_calls_31 : decode cX8_calls 31 = .ok (.iconst 0, 1) := by decide +kernel
theorem dX8_calls_32 : decode cX8_calls 32 = .ok (.istore 5, 2) := by decide +kernel
theorem dX8_calls_34 : decode cX8_calls 34 = .ok (.iconst 0, 1) := by decide +kernel
theorem dX8_calls_35 : decode cX8_calls 35 = .ok (.istore 6, 2) := by decide +kernel
theorem dX8_calls_37 : decode cX8_calls 37 = .ok (.iload 6, 2) := by decide +kernel
theorem dX8_calls_39 : decode cX8_calls 39 = .ok (.aload_n 0, 1) := by decide +kernel
theorem dX8_calls_40 : decode cX8_calls 40 = .ok (.getfield 278, 3) := by decide +kernel
theorem dX8_calls_43 : decode cX8_calls 43 = .ok (.if_icmp .ge 47, 3) := by decide +kernel
theorem dX8_calls_46 : decode cX8_calls 46 = .ok (.aload_n 0, 1) := by decide +kernel
theorem dX8_calls_47 : decode cX8_calls 47 = .ok (.getfield 54, 3) := by decide +kernel
theorem dX8_calls_50 : decode cX8_calls 50 = .ok (.iload 6, 2) := by decide +kernel
theorem dX8_calls_52 : decode cX8_calls 52 = .ok (.iaload, 1) := by decide +kernel
theorem dX8_calls_53 : decode cX8_calls 53 = .ok (.ifCond .ge 6, 3) := by decide +kernel
theorem dX8_calls_56 : decode cX8_calls 56 = .ok (.goto 28, 3) := by decide +kernel
theorem dX8_calls_59 : decode cX8_calls 59 = .ok (.aload_n 0, 1) := by decide +kernel
theorem dX8_calls_60 : decode cX8_calls 60 = .ok (.getfield 23, 3) := by decide +kernel
theorem dX8_calls_63 : decode cX8_calls 63 = .ok (.bipush 51, 2) := by decide +kernel
theorem dX8_calls_65 : decode cX8_calls 65 = .ok (.aload_n 0, 1) := by decide +kernel
theorem dX8_calls_66 : decode cX8_calls 66 = .ok (.getfield 54, 3) := by decide +kernel
theorem dX8_calls_69 : decode cX8_calls 69 = .ok (.iload 6, 2) := by decide +kernel
theorem dX8_calls_71 : decode cX8_calls 71 = .ok (.iaload, 1) := by decide +kernel
theorem dX8_calls_72 : decode cX8_calls 72 = .ok (.iadd, 1) := by decide +kernel
theorem dX8_calls_73 : decode cX8_calls 73 = .ok (.aload_n 0, 1) := by decide +kernel
theorem dX8_calls_74 : decode cX8_calls 74 = .ok (.getfield 60, 3) := by decide +kernel
theorem dX8_calls_77 : decode cX8_calls 77 = .ok (.iload 6, 2) := by decide +kernel
theorem dX8_calls_79 : decode cX8_calls 79 = .ok (.iaload, 1) := by decide +kernel
theorem dX8_calls_80 : decode cX8_calls 80 = .ok (.iastore, 1) := by decide +kernel
theorem dX8_calls_81 : decode cX8_calls 81 = .ok (.iinc 5 1, 3) := by decide +kernel
theorem dX8_calls_84 : decode cX8_calls 84 = .ok (.iinc 6 1, 3) := by decide +kernel
theorem dX8_calls_87 : decode cX8_calls 87 = .ok (.goto (-50), 3) := by decide +kernel
theorem dX8_calls_90 : decode cX8_calls 90 = .ok (.iload 5, 2) := by decide +kernel
theorem dX8_calls_92 : decode cX8_calls 92 = .ok (.ireturn, 1) := by decide +kernel
theorem dX8_rests_0 : decode cX8_rests 0 = .ok (.aload_n 0, 1) := by decide +kernel
theorem dX8_rests_1 : decode cX8_rests 1 = .ok (.iload_n 1, 1) := by decide +kernel
theorem dX8_rests_2 : decode cX8_rests 2 = .ok (.invokevirtual 268, 3) := by decide +kernel
theorem dX8_rests_5 : decode cX8_rests 5 = .ok (.ifCond .le 5, 3) := by decide +kernel
theorem dX8_rests_8 : decode cX8_rests 8 = .ok (.iconst 0, 1) := by decide +kernel
theorem dX8_rests_9 : decode cX8_rests 9 = .ok (.ireturn, 1) := by decide +kernel
theorem dX8_rests_10 : decode cX8_rests 10 = .ok (.aload_n 0, 1) := by decide +kernel
theorem dX8_rests_11 : decode cX8_rests 11 = .ok (.invokevirtual 271, 3) := by decide +kernel
theorem dX8_rests_14 : decode cX8_rests 14 = .ok (.aload_n 0, 1) := by decide +kernel
theorem dX8_rests_15 : decode cX8_rests 15 = .ok (.iload_n 1, 1) := by decide +kernel
theorem dX8_rests_16 : decode cX8_rests 16 = .ok (.iconst 2, 1) := by decide +kernel
theorem dX8_rests_17 : decode cX8_rests 17 = .ok (.invokevirtual 185, 3) := by decide +kernel
theorem dX8_rests_20 : decode cX8_rests 20 = .ok (.ifCond .lt 12, 3) := by decide +kernel
theorem dX8_rests_23 : decode cX8_rests 23 = .ok (.aload_n 0, 1) := by decide +kernel
theorem dX8_rests_24 : decode cX8_rests 24 = .ok (.iload_n 1, 1) := by decide +kernel
theorem dX8_rests_25 : decode cX8_rests 25 = .ok (.iload_n 2, 1) := by decide +kernel
theorem dX8_rests_26 : decode cX8_rests 26 = .ok (.iconst (-1), 1) := by decide +kernel
theorem dX8_rests_27 : decode cX8_rests 27 = .ok (.iconst (-1), 1) := by decide +kernel
theorem dX8_rests_28 : decode cX8_rests 28 = .ok (.invokevirtual 274, 3) := by decide +kernel
theorem dX8_rests_31 : decode cX8_rests 31 = .ok (.ireturn, 1) := by decide +kernel
theorem dX8_rests_32 : decode cX8_rests 32 = .ok (.iconst 0, 1) := by decide +kernel
theorem dX8_rests_33 : decode cX8_rests 33 = .ok (.istore_n 3, 1) := by decide +kernel
theorem dX8_rests_34 : decode cX8_rests 34 = .ok (.iconst 0, 1) := by decide +kernel
theorem dX8_rests_35 : decode cX8_rests 35 = .ok (.istore 4, 2) := by decide +kernel
theorem dX8_rests_37 : decode cX8_rests 37 = .ok (.iload 4, 2) := by decide +kernel
theorem dX8_rests_39 : decode cX8_rests 39 = .ok (.bipush 12, 2) := by decide +kernel
theorem dX8_rests_41 : decode cX8_rests 41 = .ok (.if_icmp .ge 40, 3) := by decide +kernel
theorem dX8_rests_44 : decode cX8_rests 44 = .ok (.iload_n 3, 1) := by decide +kernel
theorem dX8_rests_45 : decode cX8_rests 45 = .ok (.ifCond .ne 24, 3) := by decide +kernel
theorem dX8_rests_48 : decode cX8_rests 48 = .ok (.aload_n 0, 1) := by decide +kernel
theorem dX8_rests_49 : decode cX8_rests 49 = .ok (.iload 4, 2) := by decide +kernel
theorem dX8_rests_51 : decode cX8_rests 51 = .ok (.invokevirtual 265, 3) := by decide +kernel
theorem dX8_rests_54 : decode cX8_rests 54 = .ok (.ifCond .eq 19, 3) := by decide +kernel
theorem dX8_rests_57 : decode cX8_rests 57 = .ok (.aload_n 0, 1) := by decide +kernel
theorem dX8_rests_58 : decode cX8_rests 58 = .ok (.iload_n 1, 1) := by decide +kernel
theorem dX8_rests_59 : decode cX8_rests 59 = .ok (.iload_n 2, 1) := by decide +kernel
theorem dX8_rests_60 : decode cX8_rests 60 = .ok (.iload 4, 2) := by decide +kernel
theorem dX8_rests_62 : decode cX8_rests 62 = .ok (.iconst (-1), 1) := by decide +kernel
theorem dX8_rests_63 : decode cX8_rests 63 = .ok (.invokevirtual 274, 3) := by decide +kernel
theorem dX8_rests_66 : decode cX8_rests 66 = .ok (.ifCond .eq 7, 3) := by decide +kernel
theorem dX8_rests_69 : decode cX8_rests 69 = .ok (.iconst 1, 1) := by decide +kernel
theorem dX8_rests_70 : decode cX8_rests 70 = .ok (.goto 4, 3) := by decide +kernel
theorem dX8_rests_73 : decode cX8_rests 73 = .ok (.iconst 0, 1) := by decide +kernel
theorem dX8_rests_74 : decode cX8_rests 74 = .ok (.istore_n 3, 1) := by decide +kernel
theorem dX8_rests_75 : decode cX8_rests 75 = .ok (.iinc 4 1, 3) := by decide +kernel
theorem dX8_rests_78 : decode cX8_rests 78 = .ok (.goto (-41), 3) := by decide +kernel
theorem dX8_rests_81 : decode cX8_rests 81 = .ok (.iload_n 3, 1) := by decide +kernel
theorem dX8_rests_82 : decode cX8_rests 82 = .ok (.ireturn, 1) := by decide +kernel
theorem dX8_rest_0 : decode cX8_rest 0 = .ok (.iload_n 1, 1) := by decide +kernel
theorem dX8_rest_1 : decode cX8_rest 1 = .ok (.invokestatic 262, 3) := by decide +kernel
theorem dX8_rest_4 : decode cX8_rest 4 = .ok (.ifCond .ne 5, 3) := by decide +kernel
theorem dX8_rest_7 : decode cX8_rest 7 = .ok (.iconst (-1), 1) := by decide +kernel
theorem dX8_rest_8 : decode cX8_rest 8 = .ok (.ireturn, 1) := by decide +kernel
theorem dX8_rest_9 : decode cX8_rest 9 = .ok (.iconst 0, 1) := by decide +kernel
theorem dX8_rest_10 : decode cX8_rest 10 = .ok (.istore_n 2, 1) := by decide +kernel
theorem dX8_rest_11 : decode cX8_rest 11 = .ok (.iconst 0, 1) := by decide +kernel
theorem dX8_rest_12 : decode cX8_rest 12 = .ok (.istore_n 3, 1) := by decide +kernel
theorem dX8_rest_13 : decode cX8_rest 13 = .ok (.iload_n 3, 1) := by decide +kernel
theorem dX8_rest_14 : decode cX8_rest 14 = .ok (.aload_n 0, 1) := by decide +kernel
theorem dX8_rest_15 : decode cX8_rest 15 = .ok (.getfield 23, 3) := by decide +kernel
theorem dX8_rest_18 : decode cX8_rest 18 = .ok (.iconst 2, 1) := by decide +kernel
theorem dX8_rest_19 : decode cX8_rest 19 = .ok (.iaload, 1) := by decide +kernel
theorem dX8_rest_20 : decode cX8_rest 20 = .ok (.if_icmp .ge 28, 3) := by decide +kernel
theorem dX8_rest_23 : decode cX8_rest 23 = .ok (.iload_n 2, 1) := by decide +kernel
theorem dX8_rest_24 : decode cX8_rest 24 = .ok (.aload_n 0, 1) := by decide +kernel
theorem dX8_rest_25 : decode cX8_rest 25 = .ok (.iload_n 3, 1) := by decide +kernel
theorem dX8_rest_26 : decode cX8_rest 26 = .ok (.iload_n 1, 1) := by decide +kernel
theorem dX8_rest_27 : decode cX8_rest 27 = .ok (.invokevirtual 294, 3) := by decide +kernel
theorem dX8_rest_30 : decode cX8_rest 30 = .ok (.ifCond .eq 9, 3) := by decide +kernel
theorem dX8_rest_33 : decode cX8_rest 33 = .ok (.iconst 1, 1) := by decide +kernel
theorem dX8_rest_34 : decode cX8_rest 34 = .ok (.iload_n 3, 1) := by decide +kernel
theorem dX8_rest_35 : decode cX8_rest 35 = .ok (.ishl, 1) := by decide +kernel
theorem dX8_rest_36 : decode cX8_rest 36 = .ok (.goto 4, 3) := by decide +kernel
theorem dX8_rest_39 : decode cX8_rest 39 = .ok (.iconst 0, 1) := by decide +kernel
theorem dX8_rest_40 : decode cX8_rest 40 = .ok (.ior, 1) := by decide +kernel
theorem dX8_rest_41 : decode cX8_rest 41 = .ok (.istore_n 2, 1) := by decide +kernel
theorem dX8_rest_42 : decode cX8_rest 42 = .ok (.iinc 3 1, 3) := by decide +kernel
theorem dX8_rest_45 : decode cX8_rest 45 = .ok (.goto (-32), 3) := by decide +kernel
theorem dX8_rest_48 : decode cX8_rest 48 = .ok (.iload_n 2, 1) := by decide +kernel
theorem dX8_rest_49 : decode cX8_rest 49 = .ok (.ireturn, 1) := by decide +kernel
theorem dX8_root_0 : decode cX8_root 0 = .ok (.lconst 0, 1) := by decide +kernel
theorem dX8_root_1 : decode cX8_root 1 = .ok (.lstore_n 2, 1) := by decide +kernel
theorem dX8_root_2 : decode cX8_root 2 = .ok (.ldc2_w 297, 3) := by decide +kernel
theorem dX8_root_5 : decode cX8_root 5 = .ok (.lstore 4, 2) := by decide +kernel
theorem dX8_root_7 : decode cX8_root 7 = .ok (.lload 4, 2) := by decide +kernel
theorem dX8_root_9 : decode cX8_root 9 = .ok (.lload_n 2, 1) := by decide +kernel
theorem dX8_root_10 : decode cX8_root 10 = .ok (.lsub, 1) := by decide +kernel
theorem dX8_root_11 : decode cX8_root 11 = .ok (.lconst 1, 1) := by decide +kernel
theorem dX8_root_12 : decode cX8_root 12 = .ok (.lcmp, 1) := by decide +kernel
theorem dX8_root_13 : decode cX8_root 13 = .ok (.ifCond .le 36, 3) := by decide +kernel
theorem dX8_root_16 : decode cX8_root 16 = .ok (.lload_n 2, 1) := by decide +kernel
theorem dX8_root_17 : decode cX8_root 17 = .ok (.lload 4, 2) := by decide +kernel
theorem dX8_root_19 : decode cX8_root 19 = .ok (.ladd, 1) := by decide +kernel
theorem dX8_root_20 : decode cX8_root 20 = .ok (.ldc2_w 113, 3) := by decide +kernel
theorem dX8_root_23 : decode cX8_root 23 = .ok (.ldiv, 1) := by decide +kernel
theorem dX8_root_24 : decode cX8_root 24 = .ok (.lstore 6, 2) := by decide +kernel
theorem dX8_root_26 : decode cX8_root 26 = .ok (.lload 6, 2) := by decide +kernel
theorem dX8_root_28 : decode cX8_root 28 = .ok (.lload 6, 2) := by decide +kernel
theorem dX8_root_30 : decode cX8_root 30 = .ok (.lmul, 1) := by decide +kernel
theorem dX8_root_31 : decode cX8_root 31 = .ok (.lload_n 0, 1) := by decide +kernel
theorem dX8_root_32 : decode cX8_root 32 = .ok (.lcmp, 1) := by decide +kernel
theorem dX8_root_33 : decode cX8_root 33 = .ok (.ifCond .gt 9, 3) := by decide +kernel
theorem dX8_root_36 : decode cX8_root 36 = .ok (.lload 6, 2) := by decide +kernel
theorem dX8_root_38 : decode cX8_root 38 = .ok (.lstore_n 2, 1) := by decide +kernel
theorem dX8_root_39 : decode cX8_root 39 = .ok (.goto 7, 3) := by decide +kernel
theorem dX8_root_42 : decode cX8_root 42 = .ok (.lload 6, 2) := by decide +kernel
theorem dX8_root_44 : decode cX8_root 44 = .ok (.lstore 4, 2) := by decide +kernel
theorem dX8_root_46 : decode cX8_root 46 = .ok (.goto (-39), 3) := by decide +kernel
theorem dX8_root_49 : decode cX8_root 49 = .ok (.lload_n 2, 1) := by decide +kernel
theorem dX8_root_50 : decode cX8_root 50 = .ok (.lreturn, 1) := by decide +kernel
theorem dX8_energyOf_0 : decode cX8_energyOf 0 = .ok (.aload_n 0, 1) := by decide +kernel
theorem dX8_energyOf_1 : decode cX8_energyOf 1 = .ok (.iload_n 1, 1) := by decide +kernel
theorem dX8_energyOf_2 : decode cX8_energyOf 2 = .ok (.iload_n 2, 1) := by decide +kernel
theorem dX8_energyOf_3 : decode cX8_energyOf 3 = .ok (.iload_n 3, 1) := by decide +kernel
theorem dX8_energyOf_4 : decode cX8_energyOf 4 = .ok (.invokevirtual 211, 3) := by decide +kernel
theorem dX8_energyOf_7 : decode cX8_energyOf 7 = .ok (.aload_n 0, 1) := by decide +kernel
theorem dX8_energyOf_8 : decode cX8_energyOf 8 = .ok (.getfield 39, 3) := by decide +kernel
theorem dX8_energyOf_11 : decode cX8_energyOf 11 = .ok (.iload 4, 2) := by decide +kernel
theorem dX8_energyOf_13 : decode cX8_energyOf 13 = .ok (.iaload, 1) := by decide +kernel
theorem dX8_energyOf_14 : decode cX8_energyOf 14 = .ok (.i2l, 1) := by decide +kernel
theorem dX8_energyOf_15 : decode cX8_energyOf 15 = .ok (.aload_n 0, 1) := by decide +kernel
theorem dX8_energyOf_16 : decode cX8_energyOf 16 = .ok (.getfield 39, 3) := by decide +kernel
theorem dX8_energyOf_19 : decode cX8_energyOf 19 = .ok (.iload 4, 2) := by decide +kernel
theorem dX8_energyOf_21 : decode cX8_energyOf 21 = .ok (.iaload, 1) := by decide +kernel
theorem dX8_energyOf_22 : decode cX8_energyOf 22 = .ok (.i2l, 1) := by decide +kernel
theorem dX8_energyOf_23 : decode cX8_energyOf 23 = .ok (.lmul, 1) := by decide +kernel
theorem dX8_energyOf_24 : decode cX8_energyOf 24 = .ok (.aload_n 0, 1) := by decide +kernel
theorem dX8_energyOf_25 : decode cX8_energyOf 25 = .ok (.getfield 129, 3) := by decide +kernel
theorem dX8_energyOf_28 : decode cX8_energyOf 28 = .ok (.aload_n 0, 1) := by decide +kernel
theorem dX8_energyOf_29 : decode cX8_energyOf 29 = .ok (.getfield 115, 3) := by decide +kernel
theorem dX8_energyOf_32 : decode cX8_energyOf 32 = .ok (.aload_n 0, 1) := by decide +kernel
theorem dX8_energyOf_33 : decode cX8_energyOf 33 = .ok (.getfield 132, 3) := by decide +kernel
theorem dX8_energyOf_36 : decode cX8_energyOf 36 = .ok (.aload_n 0, 1) := by decide +kernel
theorem dX8_energyOf_37 : decode cX8_energyOf 37 = .ok (.getfield 115, 3) := by decide +kernel
theorem dX8_energyOf_40 : decode cX8_energyOf 40 = .ok (.invokestatic 247, 3) := by decide +kernel
theorem dX8_energyOf_43 : decode cX8_energyOf 43 = .ok (.ladd, 1) := by decide +kernel
theorem dX8_energyOf_44 : decode cX8_energyOf 44 = .ok (.invokestatic 299, 3) := by decide +kernel
theorem dX8_energyOf_47 : decode cX8_energyOf 47 = .ok (.lreturn, 1) := by decide +kernel
theorem dX8_energy_0 : decode cX8_energy 0 = .ok (.aload_n 0, 1) := by decide +kernel
theorem dX8_energy_1 : decode cX8_energy 1 = .ok (.iload_n 1, 1) := by decide +kernel
theorem dX8_energy_2 : decode cX8_energy 2 = .ok (.invokevirtual 156, 3) := by decide +kernel
theorem dX8_energy_5 : decode cX8_energy 5 = .ok (.ifCond .eq 37, 3) := by decide +kernel
theorem dX8_energy_8 : decode cX8_energy 8 = .ok (.iload_n 2, 1) := by decide +kernel
theorem dX8_energy_9 : decode cX8_energy 9 = .ok (.iload_n 3, 1) := by decide +kernel
theorem dX8_energy_10 : decode cX8_energy 10 = .ok (.invokestatic 144, 3) := by decide +kernel
theorem dX8_energy_13 : decode cX8_energy 13 = .ok (.ifCond .eq 29, 3) := by decide +kernel
theorem dX8_energy_16 : decode cX8_energy 16 = .ok (.iload 4, 2) := by decide +kernel
theorem dX8_energy_18 : decode cX8_energy 18 = .ok (.invokestatic 90, 3) := by decide +kernel
theorem dX8_energy_21 : decode cX8_energy 21 = .ok (.ifCond .eq 21, 3) := by decide +kernel
theorem dX8_energy_24 : decode cX8_energy 24 = .ok (.aload_n 0, 1) := by decide +kernel
theorem dX8_energy_25 : decode cX8_energy 25 = .ok (.iload_n 1, 1) := by decide +kernel
theorem dX8_energy_26 : decode cX8_energy 26 = .ok (.invokevirtual 109, 3) := by decide +kernel
theorem dX8_energy_29 : decode cX8_energy 29 = .ok (.ifCond .eq 13, 3) := by decide +kernel
theorem dX8_energy_32 : decode cX8_energy 32 = .ok (.aload_n 0, 1) := by decide +kernel
theorem dX8_energy_33 : decode cX8_energy 33 = .ok (.iload_n 1, 1) := by decide +kernel
theorem dX8_energy_34 : decode cX8_energy 34 = .ok (.iload_n 2, 1) := by decide +kernel
theorem dX8_energy_35 : decode cX8_energy 35 = .ok (.iload_n 3, 1) := by decide +kernel
theorem dX8_energy_36 : decode cX8_energy 36 = .ok (.invokevirtual 173, 3) := by decide +kernel
theorem dX8_energy_39 : decode cX8_energy 39 = .ok (.ifCond .ne 7, 3) := by decide +kernel
theorem dX8_energy_42 : decode cX8_energy 42 = .ok (.ldc2_w 190, 3) := by decide +kernel
theorem dX8_energy_45 : decode cX8_energy 45 = .ok (.lreturn, 1) := by decide +kernel
theorem dX8_energy_46 : decode cX8_energy 46 = .ok (.aload_n 0, 1) := by decide +kernel
theorem dX8_energy_47 : decode cX8_energy 47 = .ok (.iload_n 1, 1) := by decide +kernel
theorem dX8_energy_48 : decode cX8_energy 48 = .ok (.iload_n 2, 1) := by decide +kernel
theorem dX8_energy_49 : decode cX8_energy 49 = .ok (.iload_n 3, 1) := by decide +kernel
theorem dX8_energy_50 : decode cX8_energy 50 = .ok (.iload 4, 2) := by decide +kernel
theorem dX8_energy_52 : decode cX8_energy 52 = .ok (.invokevirtual 303, 3) := by decide +kernel
theorem dX8_energy_55 : decode cX8_energy 55 = .ok (.lreturn, 1) := by decide +kernel
theorem dX8_isHot_0 : decode cX8_isHot 0 = .ok (.aload_n 0, 1) := by decide +kernel
theorem dX8_isHot_1 : decode cX8_isHot 1 = .ok (.iload_n 1, 1) := by decide +kernel
theorem dX8_isHot_2 : decode cX8_isHot 2 = .ok (.iconst 2, 1) := by decide +kernel
theorem dX8_isHot_3 : decode cX8_isHot 3 = .ok (.invokevirtual 185, 3) := by decide +kernel
theorem dX8_isHot_6 : decode cX8_isHot 6 = .ok (.ifCond .lt 23, 3) := by decide +kernel
theorem dX8_isHot_9 : decode cX8_isHot 9 = .ok (.aload_n 0, 1) := by decide +kernel
theorem dX8_isHot_10 : decode cX8_isHot 10 = .ok (.iload_n 1, 1) := by decide +kernel
theorem dX8_isHot_11 : decode cX8_isHot 11 = .ok (.invokevirtual 268, 3) := by decide +kernel
theorem dX8_isHot_14 : decode cX8_isHot 14 = .ok (.ifCond .ne 15, 3) := by decide +kernel
theorem dX8_isHot_17 : decode cX8_isHot 17 = .ok (.aload_n 0, 1) := by decide +kernel
theorem dX8_isHot_18 : decode cX8_isHot 18 = .ok (.iload_n 1, 1) := by decide +kernel
theorem dX8_isHot_19 : decode cX8_isHot 19 = .ok (.invokevirtual 240, 3) := by decide +kernel
theorem dX8_isHot_22 : decode cX8_isHot 22 = .ok (.ifCond .eq 7, 3) := by decide +kernel
theorem dX8_isHot_25 : decode cX8_isHot 25 = .ok (.iconst 1, 1) := by decide +kernel
theorem dX8_isHot_26 : decode cX8_isHot 26 = .ok (.goto 4, 3) := by decide +kernel
theorem dX8_isHot_29 : decode cX8_isHot 29 = .ok (.iconst 0, 1) := by decide +kernel
theorem dX8_isHot_30 : decode cX8_isHot 30 = .ok (.ireturn, 1) := by decide +kernel
theorem dX8_heatOf_0 : decode cX8_heatOf 0 = .ok (.aload_n 0, 1) := by decide +kernel
theorem dX8_heatOf_1 : decode cX8_heatOf 1 = .ok (.iload_n 1, 1) := by decide +kernel
theorem dX8_heatOf_2 : decode cX8_heatOf 2 = .ok (.invokevirtual 221, 3) := by decide +kernel
theorem dX8_heatOf_5 : decode cX8_heatOf 5 = .ok (.lconst 0, 1) := by decide +kernel
theorem dX8_heatOf_6 : decode cX8_heatOf 6 = .ok (.lstore_n 2, 1) := by decide +kernel
theorem dX8_heatOf_7 : decode cX8_heatOf 7 = .ok (.iconst 0, 1) := by decide +kernel
theorem dX8_heatOf_8 : decode cX8_heatOf 8 = .ok (.istore 4, 2) := by decide +kernel
theorem dX8_heatOf_10 : decode cX8_heatOf 10 = .ok (.iload 4, 2) := by decide +kernel
theorem dX8_heatOf_12 : decode cX8_heatOf 12 = .ok (.aload_n 0, 1) := by decide +kernel
theorem dX8_heatOf_13 : decode cX8_heatOf 13 = .ok (.getfield 218, 3) := by decide +kernel
theorem dX8_heatOf_16 : decode cX8_heatOf 16 = .ok (.if_icmp .ge 61, 3) := by decide +kernel
theorem dX8_heatOf_19 : decode cX8_heatOf 19 = .ok (.aload_n 0, 1) := by decide +kernel
theorem dX8_heatOf_20 : decode cX8_heatOf 20 = .ok (.aload_n 0, 1) := by decide +kernel
theorem dX8_heatOf_21 : decode cX8_heatOf 21 = .ok (.getfield 48, 3) := by decide +kernel
theorem dX8_heatOf_24 : decode cX8_heatOf 24 = .ok (.iload 4, 2) := by decide +kernel
theorem dX8_heatOf_26 : decode cX8_heatOf 26 = .ok (.iaload, 1) := by decide +kernel
theorem dX8_heatOf_27 : decode cX8_heatOf 27 = .ok (.aload_n 0, 1) := by decide +kernel
theorem dX8_heatOf_28 : decode cX8_heatOf 28 = .ok (.iload_n 1, 1) := by decide +kernel
theorem dX8_heatOf_29 : decode cX8_heatOf 29 = .ok (.iconst 0, 1) := by decide +kernel
theorem dX8_heatOf_30 : decode cX8_heatOf 30 = .ok (.invokevirtual 185, 3) := by decide +kernel
theorem dX8_heatOf_33 : decode cX8_heatOf 33 = .ok (.aload_n 0, 1) := by decide +kernel
theorem dX8_heatOf_34 : decode cX8_heatOf 34 = .ok (.iload_n 1, 1) := by decide +kernel
theorem dX8_heatOf_35 : decode cX8_heatOf 35 = .ok (.iconst 1, 1) := by decide +kernel
theorem dX8_heatOf_36 : decode cX8_heatOf 36 = .ok (.invokevirtual 185, 3) := by decide +kernel
theorem dX8_heatOf_39 : decode cX8_heatOf 39 = .ok (.aload_n 0, 1) := by decide +kernel
theorem dX8_heatOf_40 : decode cX8_heatOf 40 = .ok (.aload_n 0, 1) := by decide +kernel
theorem dX8_heatOf_41 : decode cX8_heatOf 41 = .ok (.getfield 48, 3) := by decide +kernel
theorem dX8_heatOf_44 : decode cX8_heatOf 44 = .ok (.iload 4, 2) := by decide +kernel
theorem dX8_heatOf_46 : decode cX8_heatOf 46 = .ok (.iaload, 1) := by decide +kernel
theorem dX8_heatOf_47 : decode cX8_heatOf 47 = .ok (.invokevirtual 164, 3) := by decide +kernel
theorem dX8_heatOf_50 : decode cX8_heatOf 50 = .ok (.invokevirtual 303, 3) := by decide +kernel
theorem dX8_heatOf_53 : decode cX8_heatOf 53 = .ok (.lstore 5, 2) := by decide +kernel
theorem dX8_heatOf_55 : decode cX8_heatOf 55 = .ok (.lload_n 2, 1) := by decide +kernel
theorem dX8_heatOf_56 : decode cX8_heatOf 56 = .ok (.iload 4, 2) := by decide +kernel
theorem dX8_heatOf_58 : decode cX8_heatOf 58 = .ok (.ifCond .ne 8, 3) := by decide +kernel
theorem dX8_heatOf_61 : decode cX8_heatOf 61 = .ok (.lload 5, 2) := by decide +kernel
theorem dX8_heatOf_63 : decode cX8_heatOf 63 = .ok (.goto 6, 3) := by decide +kernel
theorem dX8_heatOf_66 : decode cX8_heatOf 66 = .ok (.lload 5, 2) := by decide +kernel
theorem dX8_heatOf_68 : decode cX8_heatOf 68 = .ok (.lneg, 1) := by decide +kernel
theorem dX8_heatOf_69 : decode cX8_heatOf 69 = .ok (.ladd, 1) := by decide +kernel
theorem dX8_heatOf_70 : decode cX8_heatOf 70 = .ok (.lstore_n 2, 1) := by decide +kernel
theorem dX8_heatOf_71 : decode cX8_heatOf 71 = .ok (.iinc 4 1, 3) := by decide +kernel
theorem dX8_heatOf_74 : decode cX8_heatOf 74 = .ok (.goto (-64), 3) := by decide +kernel
theorem dX8_heatOf_77 : decode cX8_heatOf 77 = .ok (.lload_n 2, 1) := by decide +kernel
theorem dX8_heatOf_78 : decode cX8_heatOf 78 = .ok (.lreturn, 1) := by decide +kernel
theorem dX8_massOf_0 : decode cX8_massOf 0 = .ok (.aload_n 0, 1) := by decide +kernel
theorem dX8_massOf_1 : decode cX8_massOf 1 = .ok (.iload_n 1, 1) := by decide +kernel
theorem dX8_massOf_2 : decode cX8_massOf 2 = .ok (.invokevirtual 307, 3) := by decide +kernel
theorem dX8_massOf_5 : decode cX8_massOf 5 = .ok (.lstore_n 2, 1) := by decide +kernel
theorem dX8_massOf_6 : decode cX8_massOf 6 = .ok (.aload_n 0, 1) := by decide +kernel
theorem dX8_massOf_7 : decode cX8_massOf 7 = .ok (.iload_n 1, 1) := by decide +kernel
theorem dX8_massOf_8 : decode cX8_massOf 8 = .ok (.iconst (-1), 1) := by decide +kernel
theorem dX8_massOf_9 : decode cX8_massOf 9 = .ok (.invokevirtual 243, 3) := by decide +kernel
theorem dX8_massOf_12 : decode cX8_massOf 12 = .ok (.lload_n 2, 1) := by decide +kernel
theorem dX8_massOf_13 : decode cX8_massOf 13 = .ok (.lload_n 2, 1) := by decide +kernel
theorem dX8_massOf_14 : decode cX8_massOf 14 = .ok (.lmul, 1) := by decide +kernel
theorem dX8_massOf_15 : decode cX8_massOf 15 = .ok (.aload_n 0, 1) := by decide +kernel
theorem dX8_massOf_16 : decode cX8_massOf 16 = .ok (.getfield 227, 3) := by decide +kernel
theorem dX8_massOf_19 : decode cX8_massOf 19 = .ok (.aload_n 0, 1) := by decide +kernel
theorem dX8_massOf_20 : decode cX8_massOf 20 = .ok (.getfield 224, 3) := by decide +kernel
theorem dX8_massOf_23 : decode cX8_massOf 23 = .ok (.aload_n 0, 1) := by decide +kernel
theorem dX8_massOf_24 : decode cX8_massOf 24 = .ok (.getfield 233, 3) := by decide +kernel
theorem dX8_massOf_27 : decode cX8_massOf 27 = .ok (.aload_n 0, 1) := by decide +kernel
theorem dX8_massOf_28 : decode cX8_massOf 28 = .ok (.getfield 230, 3) := by decide +kernel
theorem dX8_massOf_31 : decode cX8_massOf 31 = .ok (.invokestatic 247, 3) := by decide +kernel
theorem dX8_massOf_34 : decode cX8_massOf 34 = .ok (.lsub, 1) := by decide +kernel
theorem dX8_massOf_35 : decode cX8_massOf 35 = .ok (.lstore 4, 2) := by decide +kernel
theorem dX8_massOf_37 : decode cX8_massOf 37 = .ok (.lload 4, 2) := by decide +kernel
theorem dX8_massOf_39 : decode cX8_massOf 39 = .ok (.lconst 0, 1) := by decide +kernel
theorem dX8_massOf_40 : decode cX8_massOf 40 = .ok (.lcmp, 1) := by decide +kernel
theorem dX8_massOf_41 : decode cX8_massOf 41 = .ok (.ifCond .ge 9, 3) := by decide +kernel
theorem dX8_massOf_44 : decode cX8_massOf 44 = .ok (.ldc2_w 159, 3) := by decide +kernel
theorem dX8_massOf_47 : decode cX8_massOf 47 = .ok (.goto 8, 3) := by decide +kernel
theorem dX8_massOf_50 : decode cX8_massOf 50 = .ok (.lload 4, 2) := by decide +kernel
theorem dX8_massOf_52 : decode cX8_massOf 52 = .ok (.invokestatic 299, 3) := by decide +kernel
theorem dX8_massOf_55 : decode cX8_massOf 55 = .ok (.lreturn, 1) := by decide +kernel
theorem dX8_nearest_0 : decode cX8_nearest 0 = .ok (.iconst (-1), 1) := by decide +kernel
theorem dX8_nearest_1 : decode cX8_nearest 1 = .ok (.istore_n 3, 1) := by decide +kernel
theorem dX8_nearest_2 : decode cX8_nearest 2 = .ok (.lconst 0, 1) := by decide +kernel
theorem dX8_nearest_3 : decode cX8_nearest 3 = .ok (.lstore 4, 2) := by decide +kernel
theorem dX8_nearest_5 : decode cX8_nearest 5 = .ok (.iconst 0, 1) := by decide +kernel
theorem dX8_nearest_6 : decode cX8_nearest 6 = .ok (.istore 6, 2) := by decide +kernel
theorem dX8_nearest_8 : decode cX8_nearest 8 = .ok (.iload 6, 2) := by decide +kernel
theorem dX8_nearest_10 : decode cX8_nearest 10 = .ok (.bipush 12, 2) := by decide +kernel
theorem dX8_nearest_12 : decode cX8_nearest 12 = .ok (.if_icmp .ge 85, 3) := by decide +kernel
theorem dX8_nearest_15 : decode cX8_nearest 15 = .ok (.lload_n 1, 1) := by decide +kernel
theorem dX8_nearest_16 : decode cX8_nearest 16 = .ok (.lconst 0, 1) := by decide +kernel
theorem dX8_nearest_17 : decode cX8_nearest 17 = .ok (.lcmp, 1) := by decide +kernel
theorem dX8_nearest_18 : decode cX8_nearest 18 = .ok (.ifCond .lt 79, 3) := by decide +kernel
theorem dX8_nearest_21 : decode cX8_nearest 21 = .ok (.aload_n 0, 1) := by decide +kernel
theorem dX8_nearest_22 : decode cX8_nearest 22 = .ok (.iload 6, 2) := by decide +kernel
theorem dX8_nearest_24 : decode cX8_nearest 24 = .ok (.invokevirtual 265, 3) := by decide +kernel
theorem dX8_nearest_27 : decode cX8_nearest 27 = .ok (.ifCond .ne 6, 3) := by decide +kernel
theorem dX8_nearest_30 : decode cX8_nearest 30 = .ok (.goto 61, 3) := by decide +kernel
theorem dX8_nearest_33 : decode cX8_nearest 33 = .ok (.lload_n 1, 1) := by decide +kernel
theorem dX8_nearest_34 : decode cX8_nearest 34 = .ok (.aload_n 0, 1) := by decide +kernel
theorem dX8_nearest_35 : decode cX8_nearest 35 = .ok (.getfield 39, 3) := by decide +kernel
theorem dX8_nearest_38 : decode cX8_nearest 38 = .ok (.iload 6, 2) := by decide +kernel
theorem dX8_nearest_40 : decode cX8_nearest 40 = .ok (.iaload, 1) := by decide +kernel
theorem dX8_nearest_41 : decode cX8_nearest 41 = .ok (.i2l, 1) := by decide +kernel
theorem dX8_nearest_42 : decode cX8_nearest 42 = .ok (.lcmp, 1) := by decide +kernel
theorem dX8_nearest_43 : decode cX8_nearest 43 = .ok (.ifCond .le 16, 3) := by decide +kernel
theorem dX8_nearest_46 : decode cX8_nearest 46 = .ok (.lload_n 1, 1) := by decide +kernel
theorem dX8_nearest_47 : decode cX8_nearest 47 = .ok (.aload_n 0, 1) := by decide +kernel
theorem dX8_nearest_48 : decode cX8_nearest 48 = .ok (.getfield 39, 3) := by decide +kernel
theorem dX8_nearest_51 : decode cX8_nearest 51 = .ok (.iload 6, 2) := by decide +kernel
theorem dX8_nearest_53 : decode cX8_nearest 53 = .ok (.iaload, 1) := by decide +kernel
theorem dX8_nearest_54 : decode cX8_nearest 54 = .ok (.i2l, 1) := by decide +kernel
theorem dX8_nearest_55 : decode cX8_nearest 55 = .ok (.lsub, 1) := by decide +kernel
theorem dX8_nearest_56 : decode cX8_nearest 56 = .ok (.goto 13, 3) := by decide +kernel
theorem dX8_nearest_59 : decode cX8_nearest 59 = .ok (.aload_n 0, 1) := by decide +kernel
theorem dX8_nearest_60 : decode cX8_nearest 60 = .ok (.getfield 39, 3) := by decide +kernel
theorem dX8_nearest_63 : decode cX8_nearest 63 = .ok (.iload 6, 2) := by decide +kernel
theorem dX8_nearest_65 : decode cX8_nearest 65 = .ok (.iaload, 1) := by decide +kernel
theorem dX8_nearest_66 : decode cX8_nearest 66 = .ok (.i2l, 1) := by decide +kernel
theorem dX8_nearest_67 : decode cX8_nearest 67 = .ok (.lload_n 1, 1) := by decide +kernel
theorem dX8_nearest_68 : decode cX8_nearest 68 = .ok (.lsub, 1) := by decide +kernel
theorem dX8_nearest_69 : decode cX8_nearest 69 = .ok (.lstore 7, 2) := by decide +kernel
theorem dX8_nearest_71 : decode cX8_nearest 71 = .ok (.iload_n 3, 1) := by decide +kernel
theorem dX8_nearest_72 : decode cX8_nearest 72 = .ok (.iconst (-1), 1) := by decide +kernel
theorem dX8_nearest_73 : decode cX8_nearest 73 = .ok (.if_icmp .eq 11, 3) := by decide +kernel
theorem dX8_nearest_76 : decode cX8_nearest 76 = .ok (.lload 7, 2) := by decide +kernel
theorem dX8_nearest_78 : decode cX8_nearest 78 = .ok (.lload 4, 2) := by decide +kernel
theorem dX8_nearest_80 : decode cX8_nearest 80 = .ok (.lcmp, 1) := by decide +kernel
theorem dX8_nearest_81 : decode cX8_nearest 81 = .ok (.ifCond .ge 10, 3) := by decide +kernel
theorem dX8_nearest_84 : decode cX8_nearest 84 = .ok (.iload 6, 2) := by decide +kernel
theorem dX8_nearest_86 : decode cX8_nearest 86 = .ok (.istore_n 3, 1) := by decide +kernel
theorem dX8_nearest_87 : decode cX8_nearest 87 = .ok (.lload 7, 2) := by decide +kernel
theorem dX8_nearest_89 : decode cX8_nearest 89 = .ok (.lstore 4, 2) := by decide +kernel
theorem dX8_nearest_91 : decode cX8_nearest 91 = .ok (.iinc 6 1, 3) := by decide +kernel
theorem dX8_nearest_94 : decode cX8_nearest 94 = .ok (.goto (-86), 3) := by decide +kernel
theorem dX8_nearest_97 : decode cX8_nearest 97 = .ok (.iload_n 3, 1) := by decide +kernel
theorem dX8_nearest_98 : decode cX8_nearest 98 = .ok (.i2l, 1) := by decide +kernel
theorem dX8_nearest_99 : decode cX8_nearest 99 = .ok (.lreturn, 1) := by decide +kernel
theorem dX8_heat_0 : decode cX8_heat 0 = .ok (.aload_n 0, 1) := by decide +kernel
theorem dX8_heat_1 : decode cX8_heat 1 = .ok (.iload_n 1, 1) := by decide +kernel
theorem dX8_heat_2 : decode cX8_heat 2 = .ok (.invokevirtual 192, 3) := by decide +kernel
theorem dX8_heat_5 : decode cX8_heat 5 = .ok (.ifCond .eq 23, 3) := by decide +kernel
theorem dX8_heat_8 : decode cX8_heat 8 = .ok (.iload_n 2, 1) := by decide +kernel
theorem dX8_heat_9 : decode cX8_heat 9 = .ok (.i2l, 1) := by decide +kernel
theorem dX8_heat_10 : decode cX8_heat 10 = .ok (.lconst 0, 1) := by decide +kernel
theorem dX8_heat_11 : decode cX8_heat 11 = .ok (.ldc2_w 113, 3) := by decide +kernel
theorem dX8_heat_14 : decode cX8_heat 14 = .ok (.invokestatic 13, 3) := by decide +kernel
theorem dX8_heat_17 : decode cX8_heat 17 = .ok (.ifCond .eq 11, 3) := by decide +kernel
theorem dX8_heat_20 : decode cX8_heat 20 = .ok (.aload_n 0, 1) := by decide +kernel
theorem dX8_heat_21 : decode cX8_heat 21 = .ok (.iload_n 1, 1) := by decide +kernel
theorem dX8_heat_22 : decode cX8_heat 22 = .ok (.invokevirtual 310, 3) := by decide +kernel
theorem dX8_heat_25 : decode cX8_heat 25 = .ok (.ifCond .ne 7, 3) := by decide +kernel
theorem dX8_heat_28 : decode cX8_heat 28 = .ok (.ldc2_w 190, 3) := by decide +kernel
theorem dX8_heat_31 : decode cX8_heat 31 = .ok (.lreturn, 1) := by decide +kernel
theorem dX8_heat_32 : decode cX8_heat 32 = .ok (.iload_n 2, 1) := by decide +kernel
theorem dX8_heat_33 : decode cX8_heat 33 = .ok (.ifCond .ne 11, 3) := by decide +kernel
theorem dX8_heat_36 : decode cX8_heat 36 = .ok (.aload_n 0, 1) := by decide +kernel
theorem dX8_heat_37 : decode cX8_heat 37 = .ok (.iload_n 1, 1) := by decide +kernel
theorem dX8_heat_38 : decode cX8_heat 38 = .ok (.invokevirtual 307, 3) := by decide +kernel
theorem dX8_heat_41 : decode cX8_heat 41 = .ok (.goto 25, 3) := by decide +kernel
theorem dX8_heat_44 : decode cX8_heat 44 = .ok (.iload_n 2, 1) := by decide +kernel
theorem dX8_heat_45 : decode cX8_heat 45 = .ok (.iconst 1, 1) := by decide +kernel
theorem dX8_heat_46 : decode cX8_heat 46 = .ok (.if_icmp .ne 11, 3) := by decide +kernel
theorem dX8_heat_49 : decode cX8_heat 49 = .ok (.aload_n 0, 1) := by decide +kernel
theorem dX8_heat_50 : decode cX8_heat 50 = .ok (.iload_n 1, 1) := by decide +kernel
theorem dX8_heat_51 : decode cX8_heat 51 = .ok (.invokevirtual 313, 3) := by decide +kernel
theorem dX8_heat_54 : decode cX8_heat 54 = .ok (.goto 12, 3) := by decide +kernel
theorem dX8_heat_57 : decode cX8_heat 57 = .ok (.aload_n 0, 1) := by decide +kernel
theorem dX8_heat_58 : decode cX8_heat 58 = .ok (.aload_n 0, 1) := by decide +kernel
theorem dX8_heat_59 : decode cX8_heat 59 = .ok (.iload_n 1, 1) := by decide +kernel
theorem dX8_heat_60 : decode cX8_heat 60 = .ok (.invokevirtual 313, 3) := by decide +kernel
theorem dX8_heat_63 : decode cX8_heat 63 = .ok (.invokevirtual 316, 3) := by decide +kernel
theorem dX8_heat_66 : decode cX8_heat 66 = .ok (.lreturn, 1) := by decide +kernel
theorem dX8_evens_0 : decode cX8_evens 0 = .ok (.aload_n 0, 1) := by decide +kernel
theorem dX8_evens_1 : decode cX8_evens 1 = .ok (.iload_n 1, 1) := by decide +kernel
theorem dX8_evens_2 : decode cX8_evens 2 = .ok (.invokevirtual 192, 3) := by decide +kernel
theorem dX8_evens_5 : decode cX8_evens 5 = .ok (.ifCond .ne 5, 3) := by decide +kernel
theorem dX8_evens_8 : decode cX8_evens 8 = .ok (.iconst (-1), 1) := by decide +kernel
theorem dX8_evens_9 : decode cX8_evens 9 = .ok (.ireturn, 1) := by decide +kernel
theorem dX8_evens_10 : decode cX8_evens 10 = .ok (.aload_n 0, 1) := by decide +kernel
theorem dX8_evens_11 : decode cX8_evens 11 = .ok (.iload_n 1, 1) := by decide +kernel
theorem dX8_evens_12 : decode cX8_evens 12 = .ok (.invokevirtual 310, 3) := by decide +kernel
theorem dX8_evens_15 : decode cX8_evens 15 = .ok (.ifCond .ne 6, 3) := by decide +kernel
theorem dX8_evens_18 : decode cX8_evens 18 = .ok (.bipush (-5), 2) := by decide +kernel
theorem dX8_evens_20 : decode cX8_evens 20 = .ok (.ireturn, 1) := by decide +kernel
theorem dX8_evens_21 : decode cX8_evens 21 = .ok (.aload_n 0, 1) := by decide +kernel
theorem dX8_evens_22 : decode cX8_evens 22 = .ok (.getfield 23, 3) := by decide +kernel
theorem dX8_evens_25 : decode cX8_evens 25 = .ok (.iconst 0, 1) := by decide +kernel
theorem dX8_evens_26 : decode cX8_evens 26 = .ok (.iaload, 1) := by decide +kernel
theorem dX8_evens_27 : decode cX8_evens 27 = .ok (.istore_n 2, 1) := by decide +kernel
theorem dX8_evens_28 : decode cX8_evens 28 = .ok (.iconst 0, 1) := by decide +kernel
theorem dX8_evens_29 : decode cX8_evens 29 = .ok (.istore_n 3, 1) := by decide +kernel
theorem dX8_evens_30 : decode cX8_evens 30 = .ok (.lconst 0, 1) := by decide +kernel
theorem dX8_evens_31 : decode cX8_evens 31 = .ok (.lstore 4, 2) := by decide +kernel
theorem dX8_evens_33 : decode cX8_evens 33 = .ok (.iconst 1, 1) := by decide +kernel
theorem dX8_evens_34 : decode cX8_evens 34 = .ok (.istore 6, 2) := by decide +kernel
theorem dX8_evens_36 : decode cX8_evens 36 = .ok (.iload 6, 2) := by decide +kernel
theorem dX8_evens_38 : decode cX8_evens 38 = .ok (.bipush 9, 2) := by decide +kernel
theorem dX8_evens_40 : decode cX8_evens 40 = .ok (.if_icmp .gt 60, 3) := by decide +kernel
theorem dX8_evens_43 : decode cX8_evens 43 = .ok (.aload_n 0, 1) := by decide +kernel
theorem dX8_evens_44 : decode cX8_evens 44 = .ok (.getfield 23, 3) := by decide +kernel
theorem dX8_evens_47 : decode cX8_evens 47 = .ok (.iconst 0, 1) := by decide +kernel
theorem dX8_evens_48 : decode cX8_evens 48 = .ok (.iload 6, 2) := by decide +kernel
theorem dX8_evens_50 : decode cX8_evens 50 = .ok (.iastore, 1) := by decide +kernel
theorem dX8_evens_51 : decode cX8_evens 51 = .ok (.aload_n 0, 1) := by decide +kernel
theorem dX8_evens_52 : decode cX8_evens 52 = .ok (.iload_n 1, 1) := by decide +kernel
theorem dX8_evens_53 : decode cX8_evens 53 = .ok (.invokevirtual 307, 3) := by decide +kernel
theorem dX8_evens_56 : decode cX8_evens 56 = .ok (.lstore 7, 2) := by decide +kernel
theorem dX8_evens_58 : decode cX8_evens 58 = .ok (.lload 7, 2) := by decide +kernel
theorem dX8_evens_60 : decode cX8_evens 60 = .ok (.lconst 0, 1) := by decide +kernel
theorem dX8_evens_61 : decode cX8_evens 61 = .ok (.lcmp, 1) := by decide +kernel
theorem dX8_evens_62 : decode cX8_evens 62 = .ok (.ifCond .ge 9, 3) := by decide +kernel
theorem dX8_evens_65 : decode cX8_evens 65 = .ok (.lload 7, 2) := by decide +kernel
theorem dX8_evens_67 : decode cX8_evens 67 = .ok (.lneg, 1) := by decide +kernel
theorem dX8_evens_68 : decode cX8_evens 68 = .ok (.goto 5, 3) := by decide +kernel
theorem dX8_evens_71 : decode cX8_evens 71 = .ok (.lload 7, 2) := by decide +kernel
theorem dX8_evens_73 : decode cX8_evens 73 = .ok (.lstore 9, 2) := by decide +kernel
theorem dX8_evens_75 : decode cX8_evens 75 = .ok (.iload_n 3, 1) := by decide +kernel
theorem dX8_evens_76 : decode cX8_evens 76 = .ok (.ifCond .eq 11, 3) := by decide +kernel
theorem dX8_evens_79 : decode cX8_evens 79 = .ok (.lload 9, 2) := by decide +kernel
theorem dX8_evens_81 : decode cX8_evens 81 = .ok (.lload 4, 2) := by decide +kernel
theorem dX8_evens_83 : decode cX8_evens 83 = .ok (.lcmp, 1) := by decide +kernel
theorem dX8_evens_84 : decode cX8_evens 84 = .ok (.ifCond .ge 10, 3) := by decide +kernel
theorem dX8_evens_87 : decode cX8_evens 87 = .ok (.iload 6, 2) := by decide +kernel
theorem dX8_evens_89 : decode cX8_evens 89 = .ok (.istore_n 3, 1) := by decide +kernel
theorem dX8_evens_90 : decode cX8_evens 90 = .ok (.lload 9, 2) := by decide +kernel
theorem dX8_evens_92 : decode cX8_evens 92 = .ok (.lstore 4, 2) := by decide +kernel
theorem dX8_evens_94 : decode cX8_evens 94 = .ok (.iinc 6 1, 3) := by decide +kernel
theorem dX8_evens_97 : decode cX8_evens 97 = .ok (.goto (-61), 3) := by decide +kernel
theorem dX8_evens_100 : decode cX8_evens 100 = .ok (.aload_n 0, 1) := by decide +kernel
theorem dX8_evens_101 : decode cX8_evens 101 = .ok (.getfield 23, 3) := by decide +kernel
theorem dX8_evens_104 : decode cX8_evens 104 = .ok (.iconst 0, 1) := by decide +kernel
theorem dX8_evens_105 : decode cX8_evens 105 = .ok (.iload_n 2, 1) := by decide +kernel
theorem dX8_evens_106 : decode cX8_evens 106 = .ok (.iastore, 1) := by decide +kernel
theorem dX8_evens_107 : decode cX8_evens 107 = .ok (.iload_n 3, 1) := by decide +kernel
theorem dX8_evens_108 : decode cX8_evens 108 = .ok (.ireturn, 1) := by decide +kernel
theorem dX8_feed_0 : decode cX8_feed 0 = .ok (.iload_n 1, 1) := by decide +kernel
theorem dX8_feed_1 : decode cX8_feed 1 = .ok (.i2l, 1) := by decide +kernel
theorem dX8_feed_2 : decode cX8_feed 2 = .ok (.lconst 1, 1) := by decide +kernel
theorem dX8_feed_3 : decode cX8_feed 3 = .ok (.ldc2_w 319, 3) := by decide +kernel
theorem dX8_feed_6 : decode cX8_feed 6 = .ok (.invokestatic 13, 3) := by decide +kernel
theorem dX8_feed_9 : decode cX8_feed 9 = .ok (.ifCond .ne 5, 3) := by decide +kernel
theorem dX8_feed_12 : decode cX8_feed 12 = .ok (.iconst (-1), 1) := by decide +kernel
theorem dX8_feed_13 : decode cX8_feed 13 = .ok (.ireturn, 1) := by decide +kernel
theorem dX8_feed_14 : decode cX8_feed 14 = .ok (.aload_n 0, 1) := by decide +kernel
theorem dX8_feed_15 : decode cX8_feed 15 = .ok (.getfield 201, 3) := by decide +kernel
theorem dX8_feed_18 : decode cX8_feed 18 = .ok (.bipush 120, 2) := by decide +kernel
theorem dX8_feed_20 : decode cX8_feed 20 = .ok (.if_icmp .ne 6, 3) := by decide +kernel
theorem dX8_feed_23 : decode cX8_feed 23 = .ok (.bipush (-3), 2) := by decide +kernel
theorem dX8_feed_25 : decode cX8_feed 25 = .ok (.ireturn, 1) := by decide +kernel
theorem dX8_feed_26 : decode cX8_feed 26 = .ok (.aload_n 0, 1) := by decide +kernel
theorem dX8_feed_27 : decode cX8_feed 27 = .ok (.getfield 63, 3) := by decide +kernel
theorem dX8_feed_30 : decode cX8_feed 30 = .ok (.aload_n 0, 1) := by decide +kernel
theorem dX8_feed_31 : decode cX8_feed 31 = .ok (.getfield 201, 3) := by decide +kernel
theorem dX8_feed_34 : decode cX8_feed 34 = .ok (.iload_n 1, 1) := by decide +kernel
theorem dX8_feed_35 : decode cX8_feed 35 = .ok (.iastore, 1) := by decide +kernel
theorem dX8_feed_36 : decode cX8_feed 36 = .ok (.aload_n 0, 1) := by decide +kernel
theorem dX8_feed_37 : decode cX8_feed 37 = .ok (.dup, 1) := by decide +kernel
theorem dX8_feed_38 : decode cX8_feed 38 = .ok (.getfield 201, 3) := by decide +kernel
theorem dX8_feed_41 : decode cX8_feed 41 = .ok (.iconst 1, 1) := by decide +kernel
theorem dX8_feed_42 : decode cX8_feed 42 = .ok (.iadd, 1) := by decide +kernel
theorem dX8_feed_43 : decode cX8_feed 43 = .ok (.putfield 201, 3) := by decide +kernel
theorem dX8_feed_46 : decode cX8_feed 46 = .ok (.aload_n 0, 1) := by decide +kernel
theorem dX8_feed_47 : decode cX8_feed 47 = .ok (.getfield 201, 3) := by decide +kernel
theorem dX8_feed_50 : decode cX8_feed 50 = .ok (.ireturn, 1) := by decide +kernel
theorem dX8_byteAt_0 : decode cX8_byteAt 0 = .ok (.iload_n 1, 1) := by decide +kernel
theorem dX8_byteAt_1 : decode cX8_byteAt 1 = .ok (.aload_n 0, 1) := by decide +kernel
theorem dX8_byteAt_2 : decode cX8_byteAt 2 = .ok (.getfield 201, 3) := by decide +kernel
theorem dX8_byteAt_5 : decode cX8_byteAt 5 = .ok (.if_icmp .ge 12, 3) := by decide +kernel
theorem dX8_byteAt_8 : decode cX8_byteAt 8 = .ok (.aload_n 0, 1) := by decide +kernel
theorem dX8_byteAt_9 : decode cX8_byteAt 9 = .ok (.getfield 63, 3) := by decide +kernel
theorem dX8_byteAt_12 : decode cX8_byteAt 12 = .ok (.iload_n 1, 1) := by decide +kernel
theorem dX8_byteAt_13 : decode cX8_byteAt 13 = .ok (.iaload, 1) := by decide +kernel
theorem dX8_byteAt_14 : decode cX8_byteAt 14 = .ok (.goto 4, 3) := by decide +kernel
theorem dX8_byteAt_17 : decode cX8_byteAt 17 = .ok (.iconst 0, 1) := by decide +kernel
theorem dX8_byteAt_18 : decode cX8_byteAt 18 = .ok (.ireturn, 1) := by decide +kernel
theorem dX8_isFigure_0 : decode cX8_isFigure 0 = .ok (.aload_n 0, 1) := by decide +kernel
theorem dX8_isFigure_1 : decode cX8_isFigure 1 = .ok (.aload_n 0, 1) := by decide +kernel
theorem dX8_isFigure_2 : decode cX8_isFigure 2 = .ok (.getfield 321, 3) := by decide +kernel
theorem dX8_isFigure_5 : decode cX8_isFigure 5 = .ok (.invokevirtual 324, 3) := by decide +kernel
theorem dX8_isFigure_8 : decode cX8_isFigure 8 = .ok (.i2l, 1) := by decide +kernel
theorem dX8_isFigure_9 : decode cX8_isFigure 9 = .ok (.ldc2_w 327, 3) := by decide +kernel
theorem dX8_isFigure_12 : decode cX8_isFigure 12 = .ok (.ldc2_w 329, 3) := by decide +kernel
theorem dX8_isFigure_15 : decode cX8_isFigure 15 = .ok (.invokestatic 13, 3) := by decide +kernel
theorem dX8_isFigure_18 : decode cX8_isFigure 18 = .ok (.ireturn, 1) := by decide +kernel
theorem dX8_takes_0 : decode cX8_takes 0 = .ok (.aload_n 0, 1) := by decide +kernel
theorem dX8_takes_1 : decode cX8_takes 1 = .ok (.getfield 331, 3) := by decide +kernel
theorem dX8_takes_4 : decode cX8_takes 4 = .ok (.ifCond .eq 4, 3) := by decide +kernel
theorem dX8_takes_7 : decode cX8_takes 7 = .ok (.return_, 1) := by decide +kernel
theorem dX8_takes_8 : decode cX8_takes 8 = .ok (.aload_n 0, 1) := by decide +kernel
theorem dX8_takes_9 : decode cX8_takes 9 = .ok (.aload_n 0, 1) := by decide +kernel
theorem dX8_takes_10 : decode cX8_takes 10 = .ok (.aload_n 0, 1) := by decide +kernel
theorem dX8_takes_11 : decode cX8_takes 11 = .ok (.getfield 321, 3) := by decide +kernel
theorem dX8_takes_14 : decode cX8_takes 14 = .ok (.invokevirtual 324, 3) := by decide +kernel
theorem dX8_takes_17 : decode cX8_takes 17 = .ok (.iload_n 1, 1) := by decide +kernel
theorem dX8_takes_18 : decode cX8_takes 18 = .ok (.if_icmp .eq 7, 3) := by decide +kernel
theorem dX8_takes_21 : decode cX8_takes 21 = .ok (.iconst 1, 1) := by decide +kernel
theorem dX8_takes_22 : decode cX8_takes 22 = .ok (.goto 4, 3) := by decide +kernel
theorem dX8_takes_25 : decode cX8_takes 25 = .ok (.iconst 0, 1) := by decide +kernel
theorem dX8_takes_26 : decode cX8_takes 26 = .ok (.putfield 331, 3) := by decide +kernel
theorem dX8_takes_29 : decode cX8_takes 29 = .ok (.aload_n 0, 1) := by decide +kernel
theorem dX8_takes_30 : decode cX8_takes 30 = .ok (.dup, 1) := by decide +kernel
theorem dX8_takes_31 : decode cX8_takes 31 = .ok (.getfield 321, 3) := by decide +kernel
theorem dX8_takes_34 : decode cX8_takes 34 = .ok (.aload_n 0, 1) := by decide +kernel
theorem dX8_takes_35 : decode cX8_takes 35 = .ok (.getfield 331, 3) := by decide +kernel
theorem dX8_takes_38 : decode cX8_takes 38 = .ok (.ifCond .eq 7, 3) := by decide +kernel
theorem dX8_takes_41 : decode cX8_takes 41 = .ok (.iconst 0, 1) := by decide +kernel
theorem dX8_takes_42 : decode cX8_takes 42 = .ok (.goto 4, 3) := by decide +kernel
theorem dX8_takes_45 : decode cX8_takes 45 = .ok (.iconst 1, 1) := by decide +kernel
theorem dX8_takes_46 : decode cX8_takes 46 = .ok (.iadd, 1) := by decide +kernel
theorem dX8_takes_47 : decode cX8_takes 47 = .ok (.putfield 321, 3) := by decide +kernel
theorem dX8_takes_50 : decode cX8_takes 50 = .ok (.return_, 1) := by decide +kernel
theorem dX8_figure_0 : decode cX8_figure 0 = .ok (.aload_n 0, 1) := by decide +kernel
theorem dX8_figure_1 : decode cX8_figure 1 = .ok (.getfield 331, 3) := by decide +kernel
theorem dX8_figure_4 : decode cX8_figure 4 = .ok (.ifCond .eq 5, 3) := by decide +kernel
theorem dX8_figure_7 : decode cX8_figure 7 = .ok (.iconst 0, 1) := by decide +kernel
theorem dX8_figure_8 : decode cX8_figure 8 = .ok (.ireturn, 1) := by decide +kernel
theorem dX8_figure_9 : decode cX8_figure 9 = .ok (.aload_n 0, 1) := by decide +kernel
theorem dX8_figure_10 : decode cX8_figure 10 = .ok (.aload_n 0, 1) := by decide +kernel
theorem dX8_figure_11 : decode cX8_figure 11 = .ok (.invokevirtual 335, 3) := by decide +kernel
theorem dX8_figure_14 : decode cX8_figure 14 = .ok (.ifCond .ne 7, 3) := by decide +kernel
theorem dX8_figure_17 : decode cX8_figure 17 = .ok (.iconst 1, 1) := by decide +kernel
theorem dX8_figure_18 : decode cX8_figure 18 = .ok (.goto 4, 3) := by decide +kernel
theorem dX8_figure_21 : decode cX8_figure 21 = .ok (.iconst 0, 1) := by decide +kernel
theorem dX8_figure_22 : decode cX8_figure 22 = .ok (.putfield 331, 3) := by decide +kernel
theorem dX8_figure_25 : decode cX8_figure 25 = .ok (.aload_n 0, 1) := by decide +kernel
theorem dX8_figure_26 : decode cX8_figure 26 = .ok (.getfield 331, 3) := by decide +kernel
theorem dX8_figure_29 : decode cX8_figure 29 = .ok (.ifCond .eq 5, 3) := by decide +kernel
theorem dX8_figure_32 : decode cX8_figure 32 = .ok (.iconst 0, 1) := by decide +kernel
theorem dX8_figure_33 : decode cX8_figure 33 = .ok (.ireturn, 1) := by decide +kernel
theorem dX8_figure_34 : decode cX8_figure 34 = .ok (.aload_n 0, 1) := by decide +kernel
theorem dX8_figure_35 : decode cX8_figure 35 = .ok (.dup, 1) := by decide +kernel
theorem dX8_figure_36 : decode cX8_figure 36 = .ok (.getfield 321, 3) := by decide +kernel
theorem dX8_figure_39 : decode cX8_figure 39 = .ok (.iconst 1, 1) := by decide +kernel
theorem dX8_figure_40 : decode cX8_figure 40 = .ok (.iadd, 1) := by decide +kernel
theorem dX8_figure_41 : decode cX8_figure 41 = .ok (.putfield 321, 3) := by decide +kernel
theorem dX8_figure_44 : decode cX8_figure 44 = .ok (.aload_n 0, 1) := by decide +kernel
theorem dX8_figure_45 : decode cX8_figure 45 = .ok (.getfield 63, 3) := by decide +kernel
theorem dX8_figure_48 : decode cX8_figure 48 = .ok (.aload_n 0, 1) := by decide +kernel
theorem dX8_figure_49 : decode cX8_figure 49 = .ok (.getfield 321, 3) := by decide +kernel
theorem dX8_figure_52 : decode cX8_figure 52 = .ok (.iconst 1, 1) := by decide +kernel
theorem dX8_figure_53 : decode cX8_figure 53 = .ok (.isub, 1) := by decide +kernel
theorem dX8_figure_54 : decode cX8_figure 54 = .ok (.iaload, 1) := by decide +kernel
theorem dX8_figure_55 : decode cX8_figure 55 = .ok (.bipush 48, 2) := by decide +kernel
theorem dX8_figure_57 : decode cX8_figure 57 = .ok (.isub, 1) := by decide +kernel
theorem dX8_figure_58 : decode cX8_figure 58 = .ok (.ireturn, 1) := by decide +kernel
theorem dX8_number_0 : decode cX8_number 0 = .ok (.aload_n 0, 1) := by decide +kernel
theorem dX8_number_1 : decode cX8_number 1 = .ok (.getfield 331, 3) := by decide +kernel
theorem dX8_number_4 : decode cX8_number 4 = .ok (.ifCond .ne 20, 3) := by decide +kernel
theorem dX8_number_7 : decode cX8_number 7 = .ok (.aload_n 0, 1) := by decide +kernel
theorem dX8_number_8 : decode cX8_number 8 = .ok (.aload_n 0, 1) := by decide +kernel
theorem dX8_number_9 : decode cX8_number 9 = .ok (.getfield 321, 3) := by decide +kernel
theorem dX8_number_12 : decode cX8_number 12 = .ok (.invokevirtual 324, 3) := by decide +kernel
theorem dX8_number_15 : decode cX8_number 15 = .ok (.bipush 45, 2) := by decide +kernel
theorem dX8_number_17 : decode cX8_number 17 = .ok (.if_icmp .ne 7, 3) := by decide +kernel
theorem dX8_number_20 : decode cX8_number 20 = .ok (.iconst 1, 1) := by decide +kernel
theorem dX8_number_21 : decode cX8_number 21 = .ok (.goto 4, 3) := by decide +kernel
theorem dX8_number_24 : decode cX8_number 24 = .ok (.iconst 0, 1) := by decide +kernel
theorem dX8_number_25 : decode cX8_number 25 = .ok (.istore_n 1, 1) := by decide +kernel
theorem dX8_number_26 : decode cX8_number 26 = .ok (.aload_n 0, 1) := by decide +kernel
theorem dX8_number_27 : decode cX8_number 27 = .ok (.dup, 1) := by decide +kernel
theorem dX8_number_28 : decode cX8_number 28 = .ok (.getfield 321, 3) := by decide +kernel
theorem dX8_number_31 : decode cX8_number 31 = .ok (.iload_n 1, 1) := by decide +kernel
theorem dX8_number_32 : decode cX8_number 32 = .ok (.ifCond .eq 7, 3) := by decide +kernel
theorem dX8_number_35 : decode cX8_number 35 = .ok (.iconst 1, 1) := by decide +kernel
theorem dX8_number_36 : decode cX8_number 36 = .ok (.goto 4, 3) := by decide +kernel
theorem dX8_number_39 : decode cX8_number 39 = .ok (.iconst 0, 1) := by decide +kernel
theorem dX8_number_40 : decode cX8_number 40 = .ok (.iadd, 1) := by decide +kernel
theorem dX8_number_41 : decode cX8_number 41 = .ok (.putfield 321, 3) := by decide +kernel
theorem dX8_number_44 : decode cX8_number 44 = .ok (.aload_n 0, 1) := by decide +kernel
theorem dX8_number_45 : decode cX8_number 45 = .ok (.invokevirtual 338, 3) := by decide +kernel
theorem dX8_number_48 : decode cX8_number 48 = .ok (.istore_n 2, 1) := by decide +kernel
theorem dX8_number_49 : decode cX8_number 49 = .ok (.aload_n 0, 1) := by decide +kernel
theorem dX8_number_50 : decode cX8_number 50 = .ok (.getfield 331, 3) := by decide +kernel
theorem dX8_number_53 : decode cX8_number 53 = .ok (.ifCond .ne 20, 3) := by decide +kernel
theorem dX8_number_56 : decode cX8_number 56 = .ok (.aload_n 0, 1) := by decide +kernel
theorem dX8_number_57 : decode cX8_number 57 = .ok (.invokevirtual 335, 3) := by decide +kernel
theorem dX8_number_60 : decode cX8_number 60 = .ok (.ifCond .eq 13, 3) := by decide +kernel
theorem dX8_number_63 : decode cX8_number 63 = .ok (.bipush 10, 2) := by decide +kernel
theorem dX8_number_65 : decode cX8_number 65 = .ok (.iload_n 2, 1) := by decide +kernel
theorem dX8_number_66 : decode cX8_number 66 = .ok (.imul, 1) := by decide +kernel
theorem dX8_number_67 : decode cX8_number 67 = .ok (.aload_n 0, 1) := by decide +kernel
theorem dX8_number_68 : decode cX8_number 68 = .ok (.invokevirtual 338, 3) := by decide +kernel
theorem dX8_number_71 : decode cX8_number 71 = .ok (.iadd, 1) := by decide +kernel
theorem dX8_number_72 : decode cX8_number 72 = .ok (.istore_n 2, 1) := by decide +kernel
theorem dX8_number_73 : decode cX8_number 73 = .ok (.iload_n 1, 1) := by decide +kernel
theorem dX8_number_74 : decode cX8_number 74 = .ok (.ifCond .eq 8, 3) := by decide +kernel
theorem dX8_number_77 : decode cX8_number 77 = .ok (.iload_n 2, 1) := by decide +kernel
theorem dX8_number_78 : decode cX8_number 78 = .ok (.ineg, 1) := by decide +kernel
theorem dX8_number_79 : decode cX8_number 79 = .ok (.goto 4, 3) := by decide +kernel
theorem dX8_number_82 : decode cX8_number 82 = .ok (.iload_n 2, 1) := by decide +kernel
theorem dX8_number_83 : decode cX8_number 83 = .ok (.ireturn, 1) := by decide +kernel
theorem dX8_letterKind_0 : decode cX8_letterKind 0 = .ok (.iconst 0, 1) := by decide +kernel
theorem dX8_letterKind_1 : decode cX8_letterKind 1 = .ok (.istore_n 1, 1) := by decide +kernel
theorem dX8_letterKind_2 : decode cX8_letterKind 2 = .ok (.iload_n 1, 1) := by decide +kernel
theorem dX8_letterKind_3 : decode cX8_letterKind 3 = .ok (.bipush 12, 2) := by decide +kernel
theorem dX8_letterKind_5 : decode cX8_letterKind 5 = .ok (.if_icmp .ge 45, 3) := by decide +kernel
theorem dX8_letterKind_8 : decode cX8_letterKind 8 = .ok (.aload_n 0, 1) := by decide +kernel
theorem dX8_letterKind_9 : decode cX8_letterKind 9 = .ok (.getfield 331, 3) := by decide +kernel
theorem dX8_letterKind_12 : decode cX8_letterKind 12 = .ok (.ifCond .ne 38, 3) := by decide +kernel
theorem dX8_letterKind_15 : decode cX8_letterKind 15 = .ok (.aload_n 0, 1) := by decide +kernel
theorem dX8_letterKind_16 : decode cX8_letterKind 16 = .ok (.aload_n 0, 1) := by decide +kernel
theorem dX8_letterKind_17 : decode cX8_letterKind 17 = .ok (.getfield 321, 3) := by decide +kernel
theorem dX8_letterKind_20 : decode cX8_letterKind 20 = .ok (.invokevirtual 324, 3) := by decide +kernel
theorem dX8_letterKind_23 : decode cX8_letterKind 23 = .ok (.aload_n 0, 1) := by decide +kernel
theorem dX8_letterKind_24 : decode cX8_letterKind 24 = .ok (.getfield 42, 3) := by decide +kernel
theorem dX8_letterKind_27 : decode cX8_letterKind 27 = .ok (.iload_n 1, 1) := by decide +kernel
theorem dX8_letterKind_28 : decode cX8_letterKind 28 = .ok (.iaload, 1) := by decide +kernel
theorem dX8_letterKind_29 : decode cX8_letterKind 29 = .ok (.if_icmp .ne 15, 3) := by decide +kernel
theorem dX8_letterKind_32 : decode cX8_letterKind 32 = .ok (.aload_n 0, 1) := by decide +kernel
theorem dX8_letterKind_33 : decode cX8_letterKind 33 = .ok (.dup, 1) := by decide +kernel
theorem dX8_letterKind_34 : decode cX8_letterKind 34 = .ok (.getfield 321, 3) := by decide +kernel
theorem dX8_letterKind_37 : decode cX8_letterKind 37 = .ok (.iconst 1, 1) := by decide +kernel
theorem dX8_letterKind_38 : decode cX8_letterKind 38 = .ok (.iadd, 1) := by decide +kernel
theorem dX8_letterKind_39 : decode cX8_letterKind 39 = .ok (.putfield 321, 3) := by decide +kernel
theorem dX8_letterKind_42 : decode cX8_letterKind 42 = .ok (.iload_n 1, 1) := by decide +kernel
theorem dX8_letterKind_43 : decode cX8_letterKind 43 = .ok (.ireturn, 1) := by decide +kernel
theorem dX8_letterKind_44 : decode cX8_letterKind 44 = .ok (.iinc 1 1, 3) := by decide +kernel
theorem dX8_letterKind_47 : decode cX8_letterKind 47 = .ok (.goto (-45), 3) := by decide +kernel
theorem dX8_letterKind_50 : decode cX8_letterKind 50 = .ok (.aload_n 0, 1) := by decide +kernel
theorem dX8_letterKind_51 : decode cX8_letterKind 51 = .ok (.iconst 1, 1) := by decide +kernel
theorem dX8_letterKind_52 : decode cX8_letterKind 52 = .ok (.putfield 331, 3) := by decide +kernel
theorem dX8_letterKind_55 : decode cX8_letterKind 55 = .ok (.iconst 0, 1) := by decide +kernel
theorem dX8_letterKind_56 : decode cX8_letterKind 56 = .ok (.ireturn, 1) := by decide +kernel
theorem dX8_statement_0 : decode cX8_statement 0 = .ok (.aload_n 0, 1) := by decide +kernel
theorem dX8_statement_1 : decode cX8_statement 1 = .ok (.aload_n 0, 1) := by decide +kernel
theorem dX8_statement_2 : decode cX8_statement 2 = .ok (.getfield 321, 3) := by decide +kernel
theorem dX8_statement_5 : decode cX8_statement 5 = .ok (.invokevirtual 324, 3) := by decide +kernel
theorem dX8_statement_8 : decode cX8_statement 8 = .ok (.istore_n 1, 1) := by decide +kernel
theorem dX8_statement_9 : decode cX8_statement 9 = .ok (.aload_n 0, 1) := by decide +kernel
theorem dX8_statement_10 : decode cX8_statement 10 = .ok (.iload_n 1, 1) := by decide +kernel
theorem dX8_statement_11 : decode cX8_statement 11 = .ok (.bipush 102, 2) := by decide +kernel
theorem dX8_statement_13 : decode cX8_statement 13 = .ok (.if_icmp .eq 25, 3) := by decide +kernel
theorem dX8_statement_16 : decode cX8_statement 16 = .ok (.iload_n 1, 1) := by decide +kernel
theorem dX8_statement_17 : decode cX8_statement 17 = .ok (.bipush 116, 2) := by decide +kernel
theorem dX8_statement_19 : decode cX8_statement 19 = .ok (.if_icmp .eq 19, 3) := by decide +kernel
theorem dX8_statement_22 : decode cX8_statement 22 = .ok (.iload_n 1, 1) := by decide +kernel
theorem dX8_statement_23 : decode cX8_statement 23 = .ok (.bipush 107, 2) := by decide +kernel
theorem dX8_statement_25 : decode cX8_statement 25 = .ok (.if_icmp .eq 13, 3) := by decide +kernel
theorem dX8_statement_28 : decode cX8_statement 28 = .ok (.iload_n 1, 1) := by decide +kernel
theorem dX8_statement_29 : decode cX8_statement 29 = .ok (.bipush 118, 2) := by decide +kernel
theorem dX8_statement_31 : decode cX8_statement 31 = .ok (.if_icmp .eq 7, 3) := by decide +kernel
theorem dX8_statement_34 : decode cX8_statement 34 = .ok (.iconst 1, 1) := by decide +kernel
theorem dX8_statement_35 : decode cX8_statement 35 = .ok (.goto 4, 3) := by decide +kernel
theorem dX8_statement_38 : decode cX8_statement 38 = .ok (.iconst 0, 1) := by decide +kernel
theorem dX8_statement_39 : decode cX8_statement 39 = .ok (.putfield 331, 3) := by decide +kernel
theorem dX8_statement_42 : decode cX8_statement 42 = .ok (.aload_n 0, 1) := by decide +kernel
theorem dX8_statement_43 : decode cX8_statement 43 = .ok (.getfield 331, 3) := by decide +kernel
theorem dX8_statement_46 : decode cX8_statement 46 = .ok (.ifCond .eq 5, 3) := by decide +kernel
theorem dX8_statement_49 : decode cX8_statement 49 = .ok (.iconst 0, 1) := by decide +kernel
theorem dX8_statement_50 : decode cX8_statement 50 = .ok (.ireturn, 1) := by decide +kernel
theorem dX8_statement_51 : decode cX8_statement 51 = .ok (.aload_n 0, 1) := by decide +kernel
theorem dX8_statement_52 : decode cX8_statement 52 = .ok (.dup, 1) := by decide +kernel
theorem dX8_statement_53 : decode cX8_statement 53 = .ok (.getfield 321, 3) := by decide +kernel
theorem dX8_statement_56 : decode cX8_statement 56 = .ok (.iconst 1, 1) := by decide +kernel
theorem dX8_statement_57 : decode cX8_statement 57 = .ok (.iadd, 1) := by decide +kernel
theorem dX8_statement_58 : decode cX8_statement 58 = .ok (.putfield 321, 3) := by decide +kernel
theorem dX8_statement_61 : decode cX8_statement 61 = .ok (.iload_n 1, 1) := by decide +kernel
theorem dX8_statement_62 : decode cX8_statement 62 = .ok (.bipush 102, 2) := by decide +kernel
theorem dX8_statement_64 : decode cX8_statement 64 = .ok (.if_icmp .ne 16, 3) := by decide +kernel
theorem dX8_statement_67 : decode cX8_statement 67 = .ok (.aload_n 0, 1) := by decide +kernel
theorem dX8_statement_68 : decode cX8_statement 68 = .ok (.getfield 66, 3) := by decide +kernel
theorem dX8_statement_71 : decode cX8_statement 71 = .ok (.iconst 0, 1) := by decide +kernel
theorem dX8_statement_72 : decode cX8_statement 72 = .ok (.aload_n 0, 1) := by decide +kernel
theorem dX8_statement_73 : decode cX8_statement 73 = .ok (.invokevirtual 338, 3) := by decide +kernel
theorem dX8_statement_76 : decode cX8_statement 76 = .ok (.iastore, 1) := by decide +kernel
theorem dX8_statement_77 : decode cX8_statement 77 = .ok (.goto 79, 3) := by decide +kernel
theorem dX8_statement_80 : decode cX8_statement 80 = .ok (.iload_n 1, 1) := by decide +kernel
theorem dX8_statement_81 : decode cX8_statement 81 = .ok (.bipush 116, 2) := by decide +kernel
theorem dX8_statement_83 : decode cX8_statement 83 = .ok (.if_icmp .ne 40, 3) := by decide +kernel
theorem dX8_statement_86 : decode cX8_statement 86 = .ok (.iconst 0, 1) := by decide +kernel
theorem dX8_statement_87 : decode cX8_statement 87 = .ok (.istore_n 2, 1) := by decide +kernel
theorem dX8_statement_88 : decode cX8_statement 88 = .ok (.iload_n 2, 1) := by decide +kernel
theorem dX8_statement_89 : decode cX8_statement 89 = .ok (.bipush 6, 2) := by decide +kernel
theorem dX8_statement_91 : decode cX8_statement 91 = .ok (.if_icmp .ge 29, 3) := by decide +kernel
theorem dX8_statement_94 : decode cX8_statement 94 = .ok (.iload_n 2, 1) := by decide +kernel
theorem dX8_statement_95 : decode cX8_statement 95 = .ok (.ifCond .le 9, 3) := by decide +kernel
theorem dX8_statement_98 : decode cX8_statement 98 = .ok (.aload_n 0, 1) := by decide +kernel
theorem dX8_statement_99 : decode cX8_statement 99 = .ok (.bipush 44, 2) := by decide +kernel
theorem dX8_statement_101 : decode cX8_statement 101 = .ok (.invokevirtual 341, 3) := by decide +kernel
theorem dX8_statement_104 : decode cX8_statement 104 = .ok (.aload_n 0, 1) := by decide +kernel
theorem dX8_statement_105 : decode cX8_statement 105 = .ok (.getfield 66, 3) := by decide +kernel
theorem dX8_statement_108 : decode cX8_statement 108 = .ok (.iload_n 2, 1) := by decide +kernel
theorem dX8_statement_109 : decode cX8_statement 109 = .ok (.aload_n 0, 1) := by decide +kernel
theorem dX8_statement_110 : decode cX8_statement 110 = .ok (.invokevirtual 344, 3) := by decide +kernel
theorem dX8_statement_113 : decode cX8_statement 113 = .ok (.iastore, 1) := by decide +kernel
theorem dX8_statement_114 : decode cX8_statement 114 = .ok (.iinc 2 1, 3) := by decide +kernel
theorem dX8_statement_117 : decode cX8_statement 117 = .ok (.goto (-29), 3) := by decide +kernel
theorem dX8_statement_120 : decode cX8_statement 120 = .ok (.goto 36, 3) := by decide +kernel
theorem dX8_statement_123 : decode cX8_statement 123 = .ok (.iload_n 1, 1) := by decide +kernel
theorem dX8_statement_124 : decode cX8_statement 124 = .ok (.bipush 107, 2) := by decide +kernel
theorem dX8_statement_126 : decode cX8_statement 126 = .ok (.if_icmp .ne 26, 3) := by decide +kernel
theorem dX8_statement_129 : decode cX8_statement 129 = .ok (.aload_n 0, 1) := by decide +kernel
theorem dX8_statement_130 : decode cX8_statement 130 = .ok (.getfield 66, 3) := by decide +kernel
theorem dX8_statement_133 : decode cX8_statement 133 = .ok (.iconst 0, 1) := by decide +kernel
theorem dX8_statement_134 : decode cX8_statement 134 = .ok (.aload_n 0, 1) := by decide +kernel
theorem dX8_statement_135 : decode cX8_statement 135 = .ok (.invokevirtual 338, 3) := by decide +kernel
theorem dX8_statement_138 : decode cX8_statement 138 = .ok (.iastore, 1) := by decide +kernel
theorem dX8_statement_139 : decode cX8_statement 139 = .ok (.aload_n 0, 1) := by decide +kernel
theorem dX8_statement_140 : decode cX8_statement 140 = .ok (.getfield 66, 3) := by decide +kernel
theorem dX8_statement_143 : decode cX8_statement 143 = .ok (.iconst 1, 1) := by decide +kernel
theorem dX8_statement_144 : decode cX8_statement 144 = .ok (.aload_n 0, 1) := by decide +kernel
theorem dX8_statement_145 : decode cX8_statement 145 = .ok (.invokevirtual 347, 3) := by decide +kernel
theorem dX8_statement_148 : decode cX8_statement 148 = .ok (.iastore, 1) := by decide +kernel
theorem dX8_statement_149 : decode cX8_statement 149 = .ok (.goto 7, 3) := by decide +kernel
theorem dX8_statement_152 : decode cX8_statement 152 = .ok (.aload_n 0, 1) := by decide +kernel
theorem dX8_statement_153 : decode cX8_statement 153 = .ok (.invokevirtual 350, 3) := by decide +kernel
theorem dX8_statement_156 : decode cX8_statement 156 = .ok (.iload_n 1, 1) := by decide +kernel
theorem dX8_statement_157 : decode cX8_statement 157 = .ok (.ireturn, 1) := by decide +kernel
theorem dX8_readsVertex_0 : decode cX8_readsVertex 0 = .ok (.aload_n 0, 1) := by decide +kernel
theorem dX8_readsVertex_1 : decode cX8_readsVertex 1 = .ok (.getfield 66, 3) := by decide +kernel
theorem dX8_readsVertex_4 : decode cX8_readsVertex 4 = .ok (.iconst 0, 1) := by decide +kernel
theorem dX8_readsVertex_5 : decode cX8_readsVertex 5 = .ok (.aload_n 0, 1) := by decide +kernel
theorem dX8_readsVertex_6 : decode cX8_readsVertex 6 = .ok (.invokevirtual 344, 3) := by decide +kernel
theorem dX8_readsVertex_9 : decode cX8_readsVertex 9 = .ok (.iastore, 1) := by decide +kernel
theorem dX8_readsVertex_10 : decode cX8_readsVertex 10 = .ok (.aload_n 0, 1) := by decide +kernel
theorem dX8_readsVertex_11 : decode cX8_readsVertex 11 = .ok (.bipush 44, 2) := by decide +kernel
theorem dX8_readsVertex_13 : decode cX8_readsVertex 13 = .ok (.invokevirtual 341, 3) := by decide +kernel
theorem dX8_readsVertex_16 : decode cX8_readsVertex 16 = .ok (.aload_n 0, 1) := by decide +kernel
theorem dX8_readsVertex_17 : decode cX8_readsVertex 17 = .ok (.getfield 66, 3) := by decide +kernel
theorem dX8_readsVertex_20 : decode cX8_readsVertex 20 = .ok (.iconst 1, 1) := by decide +kernel
theorem dX8_readsVertex_21 : decode cX8_readsVertex 21 = .ok (.aload_n 0, 1) := by decide +kernel
theorem dX8_readsVertex_22 : decode cX8_readsVertex 22 = .ok (.invokevirtual 344, 3) := by decide +kernel
theorem dX8_readsVertex_25 : decode cX8_readsVertex 25 = .ok (.iastore, 1) := by decide +kernel
theorem dX8_readsVertex_26 : decode cX8_readsVertex 26 = .ok (.aload_n 0, 1) := by decide +kernel
theorem dX8_readsVertex_27 : decode cX8_readsVertex 27 = .ok (.getfield 66, 3) := by decide +kernel
theorem dX8_readsVertex_30 : decode cX8_readsVertex 30 = .ok (.iconst 2, 1) := by decide +kernel
theorem dX8_readsVertex_31 : decode cX8_readsVertex 31 = .ok (.iconst (-1), 1) := by decide +kernel
theorem dX8_readsVertex_32 : decode cX8_readsVertex 32 = .ok (.iastore, 1) := by decide +kernel
theorem dX8_readsVertex_33 : decode cX8_readsVertex 33 = .ok (.aload_n 0, 1) := by decide +kernel
theorem dX8_readsVertex_34 : decode cX8_readsVertex 34 = .ok (.getfield 331, 3) := by decide +kernel
theorem dX8_readsVertex_37 : decode cX8_readsVertex 37 = .ok (.ifCond .ne 36, 3) := by decide +kernel
theorem dX8_readsVertex_40 : decode cX8_readsVertex 40 = .ok (.aload_n 0, 1) := by decide +kernel
theorem dX8_readsVertex_41 : decode cX8_readsVertex 41 = .ok (.aload_n 0, 1) := by decide +kernel
theorem dX8_readsVertex_42 : decode cX8_readsVertex 42 = .ok (.getfield 321, 3) := by decide +kernel
theorem dX8_readsVertex_45 : decode cX8_readsVertex 45 = .ok (.invokevirtual 324, 3) := by decide +kernel
theorem dX8_readsVertex_48 : decode cX8_readsVertex 48 = .ok (.bipush 60, 2) := by decide +kernel
theorem dX8_readsVertex_50 : decode cX8_readsVertex 50 = .ok (.if_icmp .ne 23, 3) := by decide +kernel
theorem dX8_readsVertex_53 : decode cX8_readsVertex 53 = .ok (.aload_n 0, 1) := by decide +kernel
theorem dX8_readsVertex_54 : decode cX8_readsVertex 54 = .ok (.dup, 1) := by decide +kernel
theorem dX8_readsVertex_55 : decode cX8_readsVertex 55 = .ok (.getfield 321, 3) := by decide +kernel
theorem dX8_readsVertex_58 : decode cX8_readsVertex 58 = .ok (.iconst 1, 1) := by decide +kernel
theorem dX8_readsVertex_59 : decode cX8_readsVertex 59 = .ok (.iadd, 1) := by decide +kernel
theorem dX8_readsVertex_60 : decode cX8_readsVertex 60 = .ok (.putfield 321, 3) := by decide +kernel
theorem dX8_readsVertex_63 : decode cX8_readsVertex 63 = .ok (.aload_n 0, 1) := by decide +kernel
theorem dX8_readsVertex_64 : decode cX8_readsVertex 64 = .ok (.getfield 66, 3) := by decide +kernel
theorem dX8_readsVertex_67 : decode cX8_readsVertex 67 = .ok (.iconst 2, 1) := by decide +kernel
theorem dX8_readsVertex_68 : decode cX8_readsVertex 68 = .ok (.aload_n 0, 1) := by decide +kernel
theorem dX8_readsVertex_69 : decode cX8_readsVertex 69 = .ok (.invokevirtual 338, 3) := by decide +kernel
theorem dX8_readsVertex_72 : decode cX8_readsVertex 72 = .ok (.iastore, 1) := by decide +kernel
theorem dX8_readsVertex_73 : decode cX8_readsVertex 73 = .ok (.aload_n 0, 1) := by decide +kernel
theorem dX8_readsVertex_74 : decode cX8_readsVertex 74 = .ok (.getfield 66, 3) := by decide +kernel
theorem dX8_readsVertex_77 : decode cX8_readsVertex 77 = .ok (.iconst 3, 1) := by decide +kernel
theorem dX8_readsVertex_78 : decode cX8_readsVertex 78 = .ok (.iconst 0, 1) := by decide +kernel
theorem dX8_readsVertex_79 : decode cX8_readsVertex 79 = .ok (.iastore, 1) := by decide +kernel
theorem dX8_readsVertex_80 : decode cX8_readsVertex 80 = .ok (.iconst 0, 1) := by decide +kernel
theorem dX8_readsVertex_81 : decode cX8_readsVertex 81 = .ok (.istore_n 1, 1) := by decide +kernel
theorem dX8_readsVertex_82 : decode cX8_readsVertex 82 = .ok (.iload_n 1, 1) := by decide +kernel
theorem dX8_readsVertex_83 : decode cX8_readsVertex 83 = .ok (.iconst 3, 1) := by decide +kernel
theorem dX8_readsVertex_84 : decode cX8_readsVertex 84 = .ok (.if_icmp .ge 54, 3) := by decide +kernel
theorem dX8_readsVertex_87 : decode cX8_readsVertex 87 = .ok (.aload_n 0, 1) := by decide +kernel
theorem dX8_readsVertex_88 : decode cX8_readsVertex 88 = .ok (.getfield 331, 3) := by decide +kernel
theorem dX8_readsVertex_91 : decode cX8_readsVertex 91 = .ok (.ifCond .ne 47, 3) := by decide +kernel
theorem dX8_readsVertex_94 : decode cX8_readsVertex 94 = .ok (.iload_n 1, 1) := by decide +kernel
theorem dX8_readsVertex_95 : decode cX8_readsVertex 95 = .ok (.ifCond .eq 16, 3) := by decide +kernel
theorem dX8_readsVertex_98 : decode cX8_readsVertex 98 = .ok (.aload_n 0, 1) := by decide +kernel
theorem dX8_readsVertex_99 : decode cX8_readsVertex 99 = .ok (.aload_n 0, 1) := by decide +kernel
theorem dX8_readsVertex_100 : decode cX8_readsVertex 100 = .ok (.getfield 321, 3) := by decide +kernel
theorem dX8_readsVertex_103 : decode cX8_readsVertex 103 = .ok (.invokevirtual 324, 3) := by decide +kernel
theorem dX8_readsVertex_106 : decode cX8_readsVertex 106 = .ok (.bipush 62, 2) := by decide +kernel
theorem dX8_readsVertex_108 : decode cX8_readsVertex 108 = .ok (.if_icmp .ne 30, 3) := by decide +kernel
theorem dX8_readsVertex_111 : decode cX8_readsVertex 111 = .ok (.aload_n 0, 1) := by decide +kernel
theorem dX8_readsVertex_112 : decode cX8_readsVertex 112 = .ok (.bipush 62, 2) := by decide +kernel
theorem dX8_readsVertex_114 : decode cX8_readsVertex 114 = .ok (.invokevirtual 341, 3) := by decide +kernel
theorem dX8_readsVertex_117 : decode cX8_readsVertex 117 = .ok (.aload_n 0, 1) := by decide +kernel
theorem dX8_readsVertex_118 : decode cX8_readsVertex 118 = .ok (.getfield 66, 3) := by decide +kernel
theorem dX8_readsVertex_121 : decode cX8_readsVertex 121 = .ok (.iconst 3, 1) := by decide +kernel
theorem dX8_readsVertex_122 : decode cX8_readsVertex 122 = .ok (.dup2, 1) := by decide +kernel
theorem dX8_readsVertex_123 : decode cX8_readsVertex 123 = .ok (.iaload, 1) := by decide +kernel
theorem dX8_readsVertex_124 : decode cX8_readsVertex 124 = .ok (.iconst 1, 1) := by decide +kernel
theorem dX8_readsVertex_125 : decode cX8_readsVertex 125 = .ok (.aload_n 0, 1) := by decide +kernel
theorem dX8_readsVertex_126 : decode cX8_readsVertex 126 = .ok (.invokevirtual 338, 3) := by decide +kernel
theorem dX8_readsVertex_129 : decode cX8_readsVertex 129 = .ok (.ishl, 1) := by decide +kernel
theorem dX8_readsVertex_130 : decode cX8_readsVertex 130 = .ok (.ior, 1) := by decide +kernel
theorem dX8_readsVertex_131 : decode cX8_readsVertex 131 = .ok (.iastore, 1) := by decide +kernel
theorem dX8_readsVertex_132 : decode cX8_readsVertex 132 = .ok (.iinc 1 1, 3) := by decide +kernel
theorem dX8_readsVertex_135 : decode cX8_readsVertex 135 = .ok (.goto (-53), 3) := by decide +kernel
theorem dX8_readsVertex_138 : decode cX8_readsVertex 138 = .ok (.return_, 1) := by decide +kernel
theorem dX8_isDone_0 : decode cX8_isDone 0 = .ok (.iload_n 1, 1) := by decide +kernel
theorem dX8_isDone_1 : decode cX8_isDone 1 = .ok (.bipush 102, 2) := by decide +kernel
theorem dX8_isDone_3 : decode cX8_isDone 3 = .ok (.if_icmp .ne 28, 3) := by decide +kernel
theorem dX8_isDone_6 : decode cX8_isDone 6 = .ok (.aload_n 0, 1) := by decide +kernel
theorem dX8_isDone_7 : decode cX8_isDone 7 = .ok (.getfield 66, 3) := by decide +kernel
theorem dX8_isDone_10 : decode cX8_isDone 10 = .ok (.iconst 0, 1) := by decide +kernel
theorem dX8_isDone_11 : decode cX8_isDone 11 = .ok (.iaload, 1) := by decide +kernel
theorem dX8_isDone_12 : decode cX8_isDone 12 = .ok (.ifCond .ne 5, 3) := by decide +kernel
theorem dX8_isDone_15 : decode cX8_isDone 15 = .ok (.iconst 0, 1) := by decide +kernel
theorem dX8_isDone_16 : decode cX8_isDone 16 = .ok (.ireturn, 1) := by decide +kernel
theorem dX8_isDone_17 : decode cX8_isDone 17 = .ok (.aload_n 0, 1) := by decide +kernel
theorem dX8_isDone_18 : decode cX8_isDone 18 = .ok (.getfield 23, 3) := by decide +kernel
theorem dX8_isDone_21 : decode cX8_isDone 21 = .ok (.iconst 0, 1) := by decide +kernel
theorem dX8_isDone_22 : decode cX8_isDone 22 = .ok (.aload_n 0, 1) := by decide +kernel
theorem dX8_isDone_23 : decode cX8_isDone 23 = .ok (.getfield 66, 3) := by decide +kernel
theorem dX8_isDone_26 : decode cX8_isDone 26 = .ok (.iconst 0, 1) := by decide +kernel
theorem dX8_isDone_27 : decode cX8_isDone 27 = .ok (.iaload, 1) := by decide +kernel
theorem dX8_isDone_28 : decode cX8_isDone 28 = .ok (.iastore, 1) := by decide +kernel
theorem dX8_isDone_29 : decode cX8_isDone 29 = .ok (.iconst 1, 1) := by decide +kernel
theorem dX8_isDone_30 : decode cX8_isDone 30 = .ok (.ireturn, 1) := by decide +kernel
theorem dX8_isDone_31 : decode cX8_isDone 31 = .ok (.iload_n 1, 1) := by decide +kernel
theorem dX8_isDone_32 : decode cX8_isDone 32 = .ok (.bipush 116, 2) := by decide +kernel
theorem dX8_isDone_34 : decode cX8_isDone 34 = .ok (.if_icmp .ne 90, 3) := by decide +kernel
theorem dX8_isDone_37 : decode cX8_isDone 37 = .ok (.aload_n 0, 1) := by decide +kernel
theorem dX8_isDone_38 : decode cX8_isDone 38 = .ok (.aload_n 0, 1) := by decide +kernel
theorem dX8_isDone_39 : decode cX8_isDone 39 = .ok (.getfield 66, 3) := by decide +kernel
theorem dX8_isDone_42 : decode cX8_isDone 42 = .ok (.iconst 0, 1) := by decide +kernel
theorem dX8_isDone_43 : decode cX8_isDone 43 = .ok (.iaload, 1) := by decide +kernel
theorem dX8_isDone_44 : decode cX8_isDone 44 = .ok (.aload_n 0, 1) := by decide +kernel
theorem dX8_isDone_45 : decode cX8_isDone 45 = .ok (.getfield 66, 3) := by decide +kernel
theorem dX8_isDone_48 : decode cX8_isDone 48 = .ok (.iconst 1, 1) := by decide +kernel
theorem dX8_isDone_49 : decode cX8_isDone 49 = .ok (.iaload, 1) := by decide +kernel
theorem dX8_isDone_50 : decode cX8_isDone 50 = .ok (.aload_n 0, 1) := by decide +kernel
theorem dX8_isDone_51 : decode cX8_isDone 51 = .ok (.getfield 66, 3) := by decide +kernel
theorem dX8_isDone_54 : decode cX8_isDone 54 = .ok (.iconst 2, 1) := by decide +kernel
theorem dX8_isDone_55 : decode cX8_isDone 55 = .ok (.iaload, 1) := by decide +kernel
theorem dX8_isDone_56 : decode cX8_isDone 56 = .ok (.aload_n 0, 1) := by decide +kernel
theorem dX8_isDone_57 : decode cX8_isDone 57 = .ok (.getfield 66, 3) := by decide +kernel
theorem dX8_isDone_60 : decode cX8_isDone 60 = .ok (.iconst 3, 1) := by decide +kernel
theorem dX8_isDone_61 : decode cX8_isDone 61 = .ok (.iaload, 1) := by decide +kernel
theorem dX8_isDone_62 : decode cX8_isDone 62 = .ok (.aload_n 0, 1) := by decide +kernel
theorem dX8_isDone_63 : decode cX8_isDone 63 = .ok (.getfield 66, 3) := by decide +kernel
theorem dX8_isDone_66 : decode cX8_isDone 66 = .ok (.iconst 4, 1) := by decide +kernel
theorem dX8_isDone_67 : decode cX8_isDone 67 = .ok (.iaload, 1) := by decide +kernel
theorem dX8_isDone_68 : decode cX8_isDone 68 = .ok (.aload_n 0, 1) := by decide +kernel
theorem dX8_isDone_69 : decode cX8_isDone 69 = .ok (.getfield 66, 3) := by decide +kernel
theorem dX8_isDone_72 : decode cX8_isDone 72 = .ok (.iconst 5, 1) := by decide +kernel
theorem dX8_isDone_73 : decode cX8_isDone 73 = .ok (.iaload, 1) := by decide +kernel
theorem dX8_isDone_74 : decode cX8_isDone 74 = .ok (.invokevirtual 148, 3) := by decide +kernel
theorem dX8_isDone_77 : decode cX8_isDone 77 = .ok (.ifCond .eq 5, 3) := by decide +kernel
theorem dX8_isDone_80 : decode cX8_isDone 80 = .ok (.iconst 0, 1) := by decide +kernel
theorem dX8_isDone_81 : decode cX8_isDone 81 = .ok (.ireturn, 1) := by decide +kernel
theorem dX8_isDone_82 : decode cX8_isDone 82 = .ok (.aload_n 0, 1) := by decide +kernel
theorem dX8_isDone_83 : decode cX8_isDone 83 = .ok (.aload_n 0, 1) := by decide +kernel
theorem dX8_isDone_84 : decode cX8_isDone 84 = .ok (.getfield 66, 3) := by decide +kernel
theorem dX8_isDone_87 : decode cX8_isDone 87 = .ok (.iconst 0, 1) := by decide +kernel
theorem dX8_isDone_88 : decode cX8_isDone 88 = .ok (.iaload, 1) := by decide +kernel
theorem dX8_isDone_89 : decode cX8_isDone 89 = .ok (.aload_n 0, 1) := by decide +kernel
theorem dX8_isDone_90 : decode cX8_isDone 90 = .ok (.getfield 66, 3) := by decide +kernel
theorem dX8_isDone_93 : decode cX8_isDone 93 = .ok (.iconst 1, 1) := by decide +kernel
theorem dX8_isDone_94 : decode cX8_isDone 94 = .ok (.iaload, 1) := by decide +kernel
theorem dX8_isDone_95 : decode cX8_isDone 95 = .ok (.aload_n 0, 1) := by decide +kernel
theorem dX8_isDone_96 : decode cX8_isDone 96 = .ok (.getfield 66, 3) := by decide +kernel
theorem dX8_isDone_99 : decode cX8_isDone 99 = .ok (.iconst 2, 1) := by decide +kernel
theorem dX8_isDone_100 : decode cX8_isDone 100 = .ok (.iaload, 1) := by decide +kernel
theorem dX8_isDone_101 : decode cX8_isDone 101 = .ok (.aload_n 0, 1) := by decide +kernel
theorem dX8_isDone_102 : decode cX8_isDone 102 = .ok (.getfield 66, 3) := by decide +kernel
theorem dX8_isDone_105 : decode cX8_isDone 105 = .ok (.iconst 3, 1) := by decide +kernel
theorem dX8_isDone_106 : decode cX8_isDone 106 = .ok (.iaload, 1) := by decide +kernel
theorem dX8_isDone_107 : decode cX8_isDone 107 = .ok (.aload_n 0, 1) := by decide +kernel
theorem dX8_isDone_108 : decode cX8_isDone 108 = .ok (.getfield 66, 3) := by decide +kernel
theorem dX8_isDone_111 : decode cX8_isDone 111 = .ok (.iconst 4, 1) := by decide +kernel
theorem dX8_isDone_112 : decode cX8_isDone 112 = .ok (.iaload, 1) := by decide +kernel
theorem dX8_isDone_113 : decode cX8_isDone 113 = .ok (.aload_n 0, 1) := by decide +kernel
theorem dX8_isDone_114 : decode cX8_isDone 114 = .ok (.getfield 66, 3) := by decide +kernel
theorem dX8_isDone_117 : decode cX8_isDone 117 = .ok (.iconst 5, 1) := by decide +kernel
theorem dX8_isDone_118 : decode cX8_isDone 118 = .ok (.iaload, 1) := by decide +kernel
theorem dX8_isDone_119 : decode cX8_isDone 119 = .ok (.invokevirtual 152, 3) := by decide +kernel
theorem dX8_isDone_122 : decode cX8_isDone 122 = .ok (.iconst 1, 1) := by decide +kernel
theorem dX8_isDone_123 : decode cX8_isDone 123 = .ok (.ireturn, 1) := by decide +kernel
theorem dX8_isDone_124 : decode cX8_isDone 124 = .ok (.iload_n 1, 1) := by decide +kernel
theorem dX8_isDone_125 : decode cX8_isDone 125 = .ok (.bipush 107, 2) := by decide +kernel
theorem dX8_isDone_127 : decode cX8_isDone 127 = .ok (.if_icmp .ne 46, 3) := by decide +kernel
theorem dX8_isDone_130 : decode cX8_isDone 130 = .ok (.aload_n 0, 1) := by decide +kernel
theorem dX8_isDone_131 : decode cX8_isDone 131 = .ok (.aload_n 0, 1) := by decide +kernel
theorem dX8_isDone_132 : decode cX8_isDone 132 = .ok (.getfield 66, 3) := by decide +kernel
theorem dX8_isDone_135 : decode cX8_isDone 135 = .ok (.iconst 0, 1) := by decide +kernel
theorem dX8_isDone_136 : decode cX8_isDone 136 = .ok (.iaload, 1) := by decide +kernel
theorem dX8_isDone_137 : decode cX8_isDone 137 = .ok (.aload_n 0, 1) := by decide +kernel
theorem dX8_isDone_138 : decode cX8_isDone 138 = .ok (.getfield 66, 3) := by decide +kernel
theorem dX8_isDone_141 : decode cX8_isDone 141 = .ok (.iconst 1, 1) := by decide +kernel
theorem dX8_isDone_142 : decode cX8_isDone 142 = .ok (.iaload, 1) := by decide +kernel
theorem dX8_isDone_143 : decode cX8_isDone 143 = .ok (.invokevirtual 161, 3) := by decide +kernel
theorem dX8_isDone_146 : decode cX8_isDone 146 = .ok (.ifCond .eq 5, 3) := by decide +kernel
theorem dX8_isDone_149 : decode cX8_isDone 149 = .ok (.iconst 0, 1) := by decide +kernel
theorem dX8_isDone_150 : decode cX8_isDone 150 = .ok (.ireturn, 1) := by decide +kernel
theorem dX8_isDone_151 : decode cX8_isDone 151 = .ok (.aload_n 0, 1) := by decide +kernel
theorem dX8_isDone_152 : decode cX8_isDone 152 = .ok (.getfield 23, 3) := by decide +kernel
theorem dX8_isDone_155 : decode cX8_isDone 155 = .ok (.bipush 51, 2) := by decide +kernel
theorem dX8_isDone_157 : decode cX8_isDone 157 = .ok (.aload_n 0, 1) := by decide +kernel
theorem dX8_isDone_158 : decode cX8_isDone 158 = .ok (.getfield 66, 3) := by decide +kernel
theorem dX8_isDone_161 : decode cX8_isDone 161 = .ok (.iconst 0, 1) := by decide +kernel
theorem dX8_isDone_162 : decode cX8_isDone 162 = .ok (.iaload, 1) := by decide +kernel
theorem dX8_isDone_163 : decode cX8_isDone 163 = .ok (.iadd, 1) := by decide +kernel
theorem dX8_isDone_164 : decode cX8_isDone 164 = .ok (.aload_n 0, 1) := by decide +kernel
theorem dX8_isDone_165 : decode cX8_isDone 165 = .ok (.getfield 66, 3) := by decide +kernel
theorem dX8_isDone_168 : decode cX8_isDone 168 = .ok (.iconst 1, 1) := by decide +kernel
theorem dX8_isDone_169 : decode cX8_isDone 169 = .ok (.iaload, 1) := by decide +kernel
theorem dX8_isDone_170 : decode cX8_isDone 170 = .ok (.iastore, 1) := by decide +kernel
theorem dX8_isDone_171 : decode cX8_isDone 171 = .ok (.iconst 1, 1) := by decide +kernel
theorem dX8_isDone_172 : decode cX8_isDone 172 = .ok (.ireturn, 1) := by decide +kernel
theorem dX8_isDone_173 : decode cX8_isDone 173 = .ok (.aload_n 0, 1) := by decide +kernel
theorem dX8_isDone_174 : decode cX8_isDone 174 = .ok (.aload_n 0, 1) := by decide +kernel
theorem dX8_isDone_175 : decode cX8_isDone 175 = .ok (.getfield 66, 3) := by decide +kernel
theorem dX8_isDone_178 : decode cX8_isDone 178 = .ok (.iconst 0, 1) := by decide +kernel
theorem dX8_isDone_179 : decode cX8_isDone 179 = .ok (.iaload, 1) := by decide +kernel
theorem dX8_isDone_180 : decode cX8_isDone 180 = .ok (.aload_n 0, 1) := by decide +kernel
theorem dX8_isDone_181 : decode cX8_isDone 181 = .ok (.getfield 66, 3) := by decide +kernel
theorem dX8_isDone_184 : decode cX8_isDone 184 = .ok (.iconst 1, 1) := by decide +kernel
theorem dX8_isDone_185 : decode cX8_isDone 185 = .ok (.iaload, 1) := by decide +kernel
theorem dX8_isDone_186 : decode cX8_isDone 186 = .ok (.aload_n 0, 1) := by decide +kernel
theorem dX8_isDone_187 : decode cX8_isDone 187 = .ok (.getfield 66, 3) := by decide +kernel
theorem dX8_isDone_190 : decode cX8_isDone 190 = .ok (.iconst 2, 1) := by decide +kernel
theorem dX8_isDone_191 : decode cX8_isDone 191 = .ok (.iaload, 1) := by decide +kernel
theorem dX8_isDone_192 : decode cX8_isDone 192 = .ok (.aload_n 0, 1) := by decide +kernel
theorem dX8_isDone_193 : decode cX8_isDone 193 = .ok (.getfield 66, 3) := by decide +kernel
theorem dX8_isDone_196 : decode cX8_isDone 196 = .ok (.iconst 3, 1) := by decide +kernel
theorem dX8_isDone_197 : decode cX8_isDone 197 = .ok (.iaload, 1) := by decide +kernel
theorem dX8_isDone_198 : decode cX8_isDone 198 = .ok (.invokevirtual 177, 3) := by decide +kernel
theorem dX8_isDone_201 : decode cX8_isDone 201 = .ok (.ifCond .eq 5, 3) := by decide +kernel
theorem dX8_isDone_204 : decode cX8_isDone 204 = .ok (.iconst 0, 1) := by decide +kernel
theorem dX8_isDone_205 : decode cX8_isDone 205 = .ok (.ireturn, 1) := by decide +kernel
theorem dX8_isDone_206 : decode cX8_isDone 206 = .ok (.aload_n 0, 1) := by decide +kernel
theorem dX8_isDone_207 : decode cX8_isDone 207 = .ok (.aload_n 0, 1) := by decide +kernel
theorem dX8_isDone_208 : decode cX8_isDone 208 = .ok (.getfield 66, 3) := by decide +kernel
theorem dX8_isDone_211 : decode cX8_isDone 211 = .ok (.iconst 0, 1) := by decide +kernel
theorem dX8_isDone_212 : decode cX8_isDone 212 = .ok (.iaload, 1) := by decide +kernel
theorem dX8_isDone_213 : decode cX8_isDone 213 = .ok (.aload_n 0, 1) := by decide +kernel
theorem dX8_isDone_214 : decode cX8_isDone 214 = .ok (.getfield 66, 3) := by decide +kernel
theorem dX8_isDone_217 : decode cX8_isDone 217 = .ok (.iconst 1, 1) := by decide +kernel
theorem dX8_isDone_218 : decode cX8_isDone 218 = .ok (.iaload, 1) := by decide +kernel
theorem dX8_isDone_219 : decode cX8_isDone 219 = .ok (.aload_n 0, 1) := by decide +kernel
theorem dX8_isDone_220 : decode cX8_isDone 220 = .ok (.getfield 66, 3) := by decide +kernel
theorem dX8_isDone_223 : decode cX8_isDone 223 = .ok (.iconst 2, 1) := by decide +kernel
theorem dX8_isDone_224 : decode cX8_isDone 224 = .ok (.iaload, 1) := by decide +kernel
theorem dX8_isDone_225 : decode cX8_isDone 225 = .ok (.aload_n 0, 1) := by decide +kernel
theorem dX8_isDone_226 : decode cX8_isDone 226 = .ok (.getfield 66, 3) := by decide +kernel
theorem dX8_isDone_229 : decode cX8_isDone 229 = .ok (.iconst 3, 1) := by decide +kernel
theorem dX8_isDone_230 : decode cX8_isDone 230 = .ok (.iaload, 1) := by decide +kernel
theorem dX8_isDone_231 : decode cX8_isDone 231 = .ok (.invokevirtual 181, 3) := by decide +kernel
theorem dX8_isDone_234 : decode cX8_isDone 234 = .ok (.iconst 1, 1) := by decide +kernel
theorem dX8_isDone_235 : decode cX8_isDone 235 = .ok (.ireturn, 1) := by decide +kernel
theorem dX8_goesThrough_0 : decode cX8_goesThrough 0 = .ok (.aload_n 0, 1) := by decide +kernel
theorem dX8_goesThrough_1 : decode cX8_goesThrough 1 = .ok (.iconst 0, 1) := by decide +kernel
theorem dX8_goesThrough_2 : decode cX8_goesThrough 2 = .ok (.putfield 321, 3) := by decide +kernel
theorem dX8_goesThrough_5 : decode cX8_goesThrough 5 = .ok (.iconst 0, 1) := by decide +kernel
theorem dX8_goesThrough_6 : decode cX8_goesThrough 6 = .ok (.istore_n 2, 1) := by decide +kernel
theorem dX8_goesThrough_7 : decode cX8_goesThrough 7 = .ok (.iconst 1, 1) := by decide +kernel
theorem dX8_goesThrough_8 : decode cX8_goesThrough 8 = .ok (.istore_n 3, 1) := by decide +kernel
theorem dX8_goesThrough_9 : decode cX8_goesThrough 9 = .ok (.iload_n 3, 1) := by decide +kernel
theorem dX8_goesThrough_10 : decode cX8_goesThrough 10 = .ok (.ifCond .eq 111, 3) := by decide +kernel
theorem dX8_goesThrough_13 : decode cX8_goesThrough 13 = .ok (.aload_n 0, 1) := by decide +kernel
theorem dX8_goesThrough_14 : decode cX8_goesThrough 14 = .ok (.getfield 321, 3) := by decide +kernel
theorem dX8_goesThrough_17 : decode cX8_goesThrough 17 = .ok (.istore 4, 2) := by decide +kernel
theorem dX8_goesThrough_19 : decode cX8_goesThrough 19 = .ok (.aload_n 0, 1) := by decide +kernel
theorem dX8_goesThrough_20 : decode cX8_goesThrough 20 = .ok (.invokevirtual 353, 3) := by decide +kernel
theorem dX8_goesThrough_23 : decode cX8_goesThrough 23 = .ok (.istore 5, 2) := by decide +kernel
theorem dX8_goesThrough_25 : decode cX8_goesThrough 25 = .ok (.aload_n 0, 1) := by decide +kernel
theorem dX8_goesThrough_26 : decode cX8_goesThrough 26 = .ok (.getfield 331, 3) := by decide +kernel
theorem dX8_goesThrough_29 : decode cX8_goesThrough 29 = .ok (.ifCond .eq 12, 3) := by decide +kernel
theorem dX8_goesThrough_32 : decode cX8_goesThrough 32 = .ok (.sipush (-1000), 3) := by decide +kernel
theorem dX8_goesThrough_35 : decode cX8_goesThrough 35 = .ok (.aload_n 0, 1) := by decide +kernel
theorem dX8_goesThrough_36 : decode cX8_goesThrough 36 = .ok (.getfield 321, 3) := by decide +kernel
theorem dX8_goesThrough_39 : decode cX8_goesThrough 39 = .ok (.isub, 1) := by decide +kernel
theorem dX8_goesThrough_40 : decode cX8_goesThrough 40 = .ok (.ireturn, 1) := by decide +kernel
theorem dX8_goesThrough_41 : decode cX8_goesThrough 41 = .ok (.iload_n 1, 1) := by decide +kernel
theorem dX8_goesThrough_42 : decode cX8_goesThrough 42 = .ok (.ifCond .eq 19, 3) := by decide +kernel
theorem dX8_goesThrough_45 : decode cX8_goesThrough 45 = .ok (.aload_n 0, 1) := by decide +kernel
theorem dX8_goesThrough_46 : decode cX8_goesThrough 46 = .ok (.iload 5, 2) := by decide +kernel
theorem dX8_goesThrough_48 : decode cX8_goesThrough 48 = .ok (.invokevirtual 356, 3) := by decide +kernel
theorem dX8_goesThrough_51 : decode cX8_goesThrough 51 = .ok (.ifCond .ne 10, 3) := by decide +kernel
theorem dX8_goesThrough_54 : decode cX8_goesThrough 54 = .ok (.sipush (-2000), 3) := by decide +kernel
theorem dX8_goesThrough_57 : decode cX8_goesThrough 57 = .ok (.iload 4, 2) := by decide +kernel
theorem dX8_goesThrough_59 : decode cX8_goesThrough 59 = .ok (.isub, 1) := by decide +kernel
theorem dX8_goesThrough_60 : decode cX8_goesThrough 60 = .ok (.ireturn, 1) := by decide +kernel
theorem dX8_goesThrough_61 : decode cX8_goesThrough 61 = .ok (.iinc 2 1, 3) := by decide +kernel
theorem dX8_goesThrough_64 : decode cX8_goesThrough 64 = .ok (.aload_n 0, 1) := by decide +kernel
theorem dX8_goesThrough_65 : decode cX8_goesThrough 65 = .ok (.getfield 321, 3) := by decide +kernel
theorem dX8_goesThrough_68 : decode cX8_goesThrough 68 = .ok (.aload_n 0, 1) := by decide +kernel
theorem dX8_goesThrough_69 : decode cX8_goesThrough 69 = .ok (.getfield 201, 3) := by decide +kernel
theorem dX8_goesThrough_72 : decode cX8_goesThrough 72 = .ok (.if_icmp .ge 7, 3) := by decide +kernel
theorem dX8_goesThrough_75 : decode cX8_goesThrough 75 = .ok (.iconst 1, 1) := by decide +kernel
theorem dX8_goesThrough_76 : decode cX8_goesThrough 76 = .ok (.goto 4, 3) := by decide +kernel
theorem dX8_goesThrough_79 : decode cX8_goesThrough 79 = .ok (.iconst 0, 1) := by decide +kernel
theorem dX8_goesThrough_80 : decode cX8_goesThrough 80 = .ok (.istore_n 3, 1) := by decide +kernel
theorem dX8_goesThrough_81 : decode cX8_goesThrough 81 = .ok (.aload_n 0, 1) := by decide +kernel
theorem dX8_goesThrough_82 : decode cX8_goesThrough 82 = .ok (.iload_n 3, 1) := by decide +kernel
theorem dX8_goesThrough_83 : decode cX8_goesThrough 83 = .ok (.ifCond .eq 8, 3) := by decide +kernel
theorem dX8_goesThrough_86 : decode cX8_goesThrough 86 = .ok (.bipush 59, 2) := by decide +kernel
theorem dX8_goesThrough_88 : decode cX8_goesThrough 88 = .ok (.goto 11, 3) := by decide +kernel
theorem dX8_goesThrough_91 : decode cX8_goesThrough 91 = .ok (.aload_n 0, 1) := by decide +kernel
theorem dX8_goesThrough_92 : decode cX8_goesThrough 92 = .ok (.aload_n 0, 1) := by decide +kernel
theorem dX8_goesThrough_93 : decode cX8_goesThrough 93 = .ok (.getfield 321, 3) := by decide +kernel
theorem dX8_goesThrough_96 : decode cX8_goesThrough 96 = .ok (.invokevirtual 324, 3) := by decide +kernel
theorem dX8_goesThrough_99 : decode cX8_goesThrough 99 = .ok (.invokevirtual 341, 3) := by decide +kernel
theorem dX8_goesThrough_102 : decode cX8_goesThrough 102 = .ok (.aload_n 0, 1) := by decide +kernel
theorem dX8_goesThrough_103 : decode cX8_goesThrough 103 = .ok (.getfield 331, 3) := by decide +kernel
theorem dX8_goesThrough_106 : decode cX8_goesThrough 106 = .ok (.ifCond .eq 12, 3) := by decide +kernel
theorem dX8_goesThrough_109 : decode cX8_goesThrough 109 = .ok (.sipush (-1000), 3) := by decide +kernel
theorem dX8_goesThrough_112 : decode cX8_goesThrough 112 = .ok (.aload_n 0, 1) := by decide +kernel
theorem dX8_goesThrough_113 : decode cX8_goesThrough 113 = .ok (.getfield 321, 3) := by decide +kernel
theorem dX8_goesThrough_116 : decode cX8_goesThrough 116 = .ok (.isub, 1) := by decide +kernel
theorem dX8_goesThrough_117 : decode cX8_goesThrough 117 = .ok (.ireturn, 1) := by decide +kernel
theorem dX8_goesThrough_118 : decode cX8_goesThrough 118 = .ok (.goto (-109), 3) := by decide +kernel
theorem dX8_goesThrough_121 : decode cX8_goesThrough 121 = .ok (.iload_n 2, 1) := by decide +kernel
theorem dX8_goesThrough_122 : decode cX8_goesThrough 122 = .ok (.ireturn, 1) := by decide +kernel
theorem dX8_reads_0 : decode cX8_reads 0 = .ok (.aload_n 0, 1) := by decide +kernel
theorem dX8_reads_1 : decode cX8_reads 1 = .ok (.iconst 0, 1) := by decide +kernel
theorem dX8_reads_2 : decode cX8_reads 2 = .ok (.invokevirtual 359, 3) := by decide +kernel
theorem dX8_reads_5 : decode cX8_reads 5 = .ok (.istore_n 1, 1) := by decide +kernel
theorem dX8_reads_6 : decode cX8_reads 6 = .ok (.iload_n 1, 1) := by decide +kernel
theorem dX8_reads_7 : decode cX8_reads 7 = .ok (.ifCond .lt 47, 3) := by decide +kernel
theorem dX8_reads_10 : decode cX8_reads 10 = .ok (.aload_n 0, 1) := by decide +kernel
theorem dX8_reads_11 : decode cX8_reads 11 = .ok (.getfield 23, 3) := by decide +kernel
theorem dX8_reads_14 : decode cX8_reads 14 = .ok (.iconst 0, 1) := by decide +kernel
theorem dX8_reads_15 : decode cX8_reads 15 = .ok (.aload_n 0, 1) := by decide +kernel
theorem dX8_reads_16 : decode cX8_reads 16 = .ok (.getfield 69, 3) := by decide +kernel
theorem dX8_reads_19 : decode cX8_reads 19 = .ok (.iconst 0, 1) := by decide +kernel
theorem dX8_reads_20 : decode cX8_reads 20 = .ok (.invokestatic 97, 3) := by decide +kernel
theorem dX8_reads_23 : decode cX8_reads 23 = .ok (.aload_n 0, 1) := by decide +kernel
theorem dX8_reads_24 : decode cX8_reads 24 = .ok (.iconst 1, 1) := by decide +kernel
theorem dX8_reads_25 : decode cX8_reads 25 = .ok (.invokevirtual 359, 3) := by decide +kernel
theorem dX8_reads_28 : decode cX8_reads 28 = .ok (.istore_n 1, 1) := by decide +kernel
theorem dX8_reads_29 : decode cX8_reads 29 = .ok (.iload_n 1, 1) := by decide +kernel
theorem dX8_reads_30 : decode cX8_reads 30 = .ok (.ifCond .ge 19, 3) := by decide +kernel
theorem dX8_reads_33 : decode cX8_reads 33 = .ok (.aload_n 0, 1) := by decide +kernel
theorem dX8_reads_34 : decode cX8_reads 34 = .ok (.getfield 69, 3) := by decide +kernel
theorem dX8_reads_37 : decode cX8_reads 37 = .ok (.iconst 0, 1) := by decide +kernel
theorem dX8_reads_38 : decode cX8_reads 38 = .ok (.aload_n 0, 1) := by decide +kernel
theorem dX8_reads_39 : decode cX8_reads 39 = .ok (.getfield 23, 3) := by decide +kernel
theorem dX8_reads_42 : decode cX8_reads 42 = .ok (.iconst 0, 1) := by decide +kernel
theorem dX8_reads_43 : decode cX8_reads 43 = .ok (.invokestatic 97, 3) := by decide +kernel
theorem dX8_reads_46 : decode cX8_reads 46 = .ok (.goto 8, 3) := by decide +kernel
theorem dX8_reads_49 : decode cX8_reads 49 = .ok (.aload_n 0, 1) := by decide +kernel
theorem dX8_reads_50 : decode cX8_reads 50 = .ok (.iconst 0, 1) := by decide +kernel
theorem dX8_reads_51 : decode cX8_reads 51 = .ok (.putfield 94, 3) := by decide +kernel
theorem dX8_reads_54 : decode cX8_reads 54 = .ok (.aload_n 0, 1) := by decide +kernel
theorem dX8_reads_55 : decode cX8_reads 55 = .ok (.iconst 0, 1) := by decide +kernel
theorem dX8_reads_56 : decode cX8_reads 56 = .ok (.putfield 201, 3) := by decide +kernel
theorem dX8_reads_59 : decode cX8_reads 59 = .ok (.iload_n 1, 1) := by decide +kernel
theorem dX8_reads_60 : decode cX8_reads 60 = .ok (.ireturn, 1) := by decide +kernel
theorem dX8_letterOf_0 : decode cX8_letterOf 0 = .ok (.aload_n 0, 1) := by decide +kernel
theorem dX8_letterOf_1 : decode cX8_letterOf 1 = .ok (.iload_n 1, 1) := by decide +kernel
theorem dX8_letterOf_2 : decode cX8_letterOf 2 = .ok (.invokevirtual 164, 3) := by decide +kernel
theorem dX8_letterOf_5 : decode cX8_letterOf 5 = .ok (.ifCond .ge 8, 3) := by decide +kernel
theorem dX8_letterOf_8 : decode cX8_letterOf 8 = .ok (.bipush 63, 2) := by decide +kernel
theorem dX8_letterOf_10 : decode cX8_letterOf 10 = .ok (.goto 13, 3) := by decide +kernel
theorem dX8_letterOf_13 : decode cX8_letterOf 13 = .ok (.aload_n 0, 1) := by decide +kernel
theorem dX8_letterOf_14 : decode cX8_letterOf 14 = .ok (.getfield 42, 3) := by decide +kernel
theorem dX8_letterOf_17 : decode cX8_letterOf 17 = .ok (.aload_n 0, 1) := by decide +kernel
theorem dX8_letterOf_18 : decode cX8_letterOf 18 = .ok (.iload_n 1, 1) := by decide +kernel
theorem dX8_letterOf_19 : decode cX8_letterOf 19 = .ok (.invokevirtual 164, 3) := by decide +kernel
theorem dX8_letterOf_22 : decode cX8_letterOf 22 = .ok (.iaload, 1) := by decide +kernel
theorem dX8_letterOf_23 : decode cX8_letterOf 23 = .ok (.ireturn, 1) := by decide +kernel
theorem dX8_writes_0 : decode cX8_writes 0 = .ok (.aload_n 0, 1) := by decide +kernel
theorem dX8_writes_1 : decode cX8_writes 1 = .ok (.getfield 72, 3) := by decide +kernel
theorem dX8_writes_4 : decode cX8_writes 4 = .ok (.aload_n 0, 1) := by decide +kernel
theorem dX8_writes_5 : decode cX8_writes 5 = .ok (.getfield 204, 3) := by decide +kernel
theorem dX8_writes_8 : decode cX8_writes 8 = .ok (.iload_n 1, 1) := by decide +kernel
theorem dX8_writes_9 : decode cX8_writes 9 = .ok (.iastore, 1) := by decide +kernel
theorem dX8_writes_10 : decode cX8_writes 10 = .ok (.aload_n 0, 1) := by decide +kernel
theorem dX8_writes_11 : decode cX8_writes 11 = .ok (.dup, 1) := by decide +kernel
theorem dX8_writes_12 : decode cX8_writes 12 = .ok (.getfield 204, 3) := by decide +kernel
theorem dX8_writes_15 : decode cX8_writes 15 = .ok (.iconst 1, 1) := by decide +kernel
theorem dX8_writes_16 : decode cX8_writes 16 = .ok (.iadd, 1) := by decide +kernel
theorem dX8_writes_17 : decode cX8_writes 17 = .ok (.putfield 204, 3) := by decide +kernel
theorem dX8_writes_20 : decode cX8_writes 20 = .ok (.return_, 1) := by decide +kernel
theorem dX8_prints_0 : decode cX8_prints 0 = .ok (.aload_n 0, 1) := by decide +kernel
theorem dX8_prints_1 : decode cX8_prints 1 = .ok (.iload_n 1, 1) := by decide +kernel
theorem dX8_prints_2 : decode cX8_prints 2 = .ok (.invokevirtual 192, 3) := by decide +kernel
theorem dX8_prints_5 : decode cX8_prints 5 = .ok (.ifCond .ne 5, 3) := by decide +kernel
theorem dX8_prints_8 : decode cX8_prints 8 = .ok (.iconst (-1), 1) := by decide +kernel
theorem dX8_prints_9 : decode cX8_prints 9 = .ok (.ireturn, 1) := by decide +kernel
theorem dX8_prints_10 : decode cX8_prints 10 = .ok (.aload_n 0, 1) := by decide +kernel
theorem dX8_prints_11 : decode cX8_prints 11 = .ok (.iconst 0, 1) := by decide +kernel
theorem dX8_prints_12 : decode cX8_prints 12 = .ok (.putfield 204, 3) := by decide +kernel
theorem dX8_prints_15 : decode cX8_prints 15 = .ok (.aload_n 0, 1) := by decide +kernel
theorem dX8_prints_16 : decode cX8_prints 16 = .ok (.iload_n 1, 1) := by decide +kernel
theorem dX8_prints_17 : decode cX8_prints 17 = .ok (.iconst 2, 1) := by decide +kernel
theorem dX8_prints_18 : decode cX8_prints 18 = .ok (.invokevirtual 185, 3) := by decide +kernel
theorem dX8_prints_21 : decode cX8_prints 21 = .ok (.ifCond .lt 17, 3) := by decide +kernel
theorem dX8_prints_24 : decode cX8_prints 24 = .ok (.aload_n 0, 1) := by decide +kernel
theorem dX8_prints_25 : decode cX8_prints 25 = .ok (.aload_n 0, 1) := by decide +kernel
theorem dX8_prints_26 : decode cX8_prints 26 = .ok (.aload_n 0, 1) := by decide +kernel
theorem dX8_prints_27 : decode cX8_prints 27 = .ok (.iload_n 1, 1) := by decide +kernel
theorem dX8_prints_28 : decode cX8_prints 28 = .ok (.iconst 2, 1) := by decide +kernel
theorem dX8_prints_29 : decode cX8_prints 29 = .ok (.invokevirtual 185, 3) := by decide +kernel
theorem dX8_prints_32 : decode cX8_prints 32 = .ok (.invokevirtual 363, 3) := by decide +kernel
theorem dX8_prints_35 : decode cX8_prints 35 = .ok (.invokevirtual 366, 3) := by decide +kernel
theorem dX8_prints_38 : decode cX8_prints 38 = .ok (.aload_n 0, 1) := by decide +kernel
theorem dX8_prints_39 : decode cX8_prints 39 = .ok (.bipush 45, 2) := by decide +kernel
theorem dX8_prints_41 : decode cX8_prints 41 = .ok (.invokevirtual 366, 3) := by decide +kernel
theorem dX8_prints_44 : decode cX8_prints 44 = .ok (.aload_n 0, 1) := by decide +kernel
theorem dX8_prints_45 : decode cX8_prints 45 = .ok (.bipush 62, 2) := by decide +kernel
theorem dX8_prints_47 : decode cX8_prints 47 = .ok (.invokevirtual 366, 3) := by decide +kernel
theorem dX8_prints_50 : decode cX8_prints 50 = .ok (.iconst 0, 1) := by decide +kernel
theorem dX8_prints_51 : decode cX8_prints 51 = .ok (.istore_n 2, 1) := by decide +kernel
theorem dX8_prints_52 : decode cX8_prints 52 = .ok (.iload_n 2, 1) := by decide +kernel
theorem dX8_prints_53 : decode cX8_prints 53 = .ok (.aload_n 0, 1) := by decide +kernel
theorem dX8_prints_54 : decode cX8_prints 54 = .ok (.getfield 23, 3) := by decide +kernel
theorem dX8_prints_57 : decode cX8_prints 57 = .ok (.iconst 1, 1) := by decide +kernel
theorem dX8_prints_58 : decode cX8_prints 58 = .ok (.iaload, 1) := by decide +kernel
theorem dX8_prints_59 : decode cX8_prints 59 = .ok (.if_icmp .ge 31, 3) := by decide +kernel
theorem dX8_prints_62 : decode cX8_prints 62 = .ok (.aload_n 0, 1) := by decide +kernel
theorem dX8_prints_63 : decode cX8_prints 63 = .ok (.iload_n 1, 1) := by decide +kernel
theorem dX8_prints_64 : decode cX8_prints 64 = .ok (.iconst 3, 1) := by decide +kernel
theorem dX8_prints_65 : decode cX8_prints 65 = .ok (.invokevirtual 185, 3) := by decide +kernel
theorem dX8_prints_68 : decode cX8_prints 68 = .ok (.iload_n 2, 1) := by decide +kernel
theorem dX8_prints_69 : decode cX8_prints 69 = .ok (.invokestatic 170, 3) := by decide +kernel
theorem dX8_prints_72 : decode cX8_prints 72 = .ok (.ifCond .eq 12, 3) := by decide +kernel
theorem dX8_prints_75 : decode cX8_prints 75 = .ok (.aload_n 0, 1) := by decide +kernel
theorem dX8_prints_76 : decode cX8_prints 76 = .ok (.aload_n 0, 1) := by decide +kernel
theorem dX8_prints_77 : decode cX8_prints 77 = .ok (.iload_n 2, 1) := by decide +kernel
theorem dX8_prints_78 : decode cX8_prints 78 = .ok (.invokevirtual 363, 3) := by decide +kernel
theorem dX8_prints_81 : decode cX8_prints 81 = .ok (.invokevirtual 366, 3) := by decide +kernel
theorem dX8_prints_84 : decode cX8_prints 84 = .ok (.iinc 2 1, 3) := by decide +kernel
theorem dX8_prints_87 : decode cX8_prints 87 = .ok (.goto (-35), 3) := by decide +kernel
theorem dX8_prints_90 : decode cX8_prints 90 = .ok (.aload_n 0, 1) := by decide +kernel
theorem dX8_prints_91 : decode cX8_prints 91 = .ok (.getfield 204, 3) := by decide +kernel
theorem dX8_prints_94 : decode cX8_prints 94 = .ok (.ireturn, 1) := by decide +kernel
theorem dX8_paper_0 : decode cX8_paper 0 = .ok (.iload_n 1, 1) := by decide +kernel
theorem dX8_paper_1 : decode cX8_paper 1 = .ok (.ifCond .ge 5, 3) := by decide +kernel
theorem dX8_paper_4 : decode cX8_paper 4 = .ok (.iconst (-1), 1) := by decide +kernel
theorem dX8_paper_5 : decode cX8_paper 5 = .ok (.ireturn, 1) := by decide +kernel
theorem dX8_paper_6 : decode cX8_paper 6 = .ok (.iload_n 1, 1) := by decide +kernel
theorem dX8_paper_7 : decode cX8_paper 7 = .ok (.aload_n 0, 1) := by decide +kernel
theorem dX8_paper_8 : decode cX8_paper 8 = .ok (.getfield 204, 3) := by decide +kernel
theorem dX8_paper_11 : decode cX8_paper 11 = .ok (.if_icmp .ge 12, 3) := by decide +kernel
theorem dX8_paper_14 : decode cX8_paper 14 = .ok (.aload_n 0, 1) := by decide +kernel
theorem dX8_paper_15 : decode cX8_paper 15 = .ok (.getfield 72, 3) := by decide +kernel
theorem dX8_paper_18 : decode cX8_paper 18 = .ok (.iload_n 1, 1) := by decide +kernel
theorem dX8_paper_19 : decode cX8_paper 19 = .ok (.iaload, 1) := by decide +kernel
theorem dX8_paper_20 : decode cX8_paper 20 = .ok (.goto 5, 3) := by decide +kernel
theorem dX8_paper_23 : decode cX8_paper 23 = .ok (.bipush (-2), 2) := by decide +kernel
theorem dX8_paper_25 : decode cX8_paper 25 = .ok (.ireturn, 1) := by decide +kernel
theorem dX8_isList_0 : decode cX8_isList 0 = .ok (.iload_n 0, 1) := by decide +kernel
theorem dX8_isList_1 : decode cX8_isList 1 = .ok (.i2l, 1) := by decide +kernel
theorem dX8_isList_2 : decode cX8_isList 2 = .ok (.lconst 0, 1) := by decide +kernel
theorem dX8_isList_3 : decode cX8_isList 3 = .ok (.ldc2_w 113, 3) := by decide +kernel
theorem dX8_isList_6 : decode cX8_isList 6 = .ok (.invokestatic 13, 3) := by decide +kernel
theorem dX8_isList_9 : decode cX8_isList 9 = .ok (.ireturn, 1) := by decide +kernel
theorem dX8_list_0 : decode cX8_list 0 = .ok (.iload_n 1, 1) := by decide +kernel
theorem dX8_list_1 : decode cX8_list 1 = .ok (.invokestatic 369, 3) := by decide +kernel
theorem dX8_list_4 : decode cX8_list 4 = .ok (.ifCond .eq 9, 3) := by decide +kernel
theorem dX8_list_7 : decode cX8_list 7 = .ok (.iload_n 2, 1) := by decide +kernel
theorem dX8_list_8 : decode cX8_list 8 = .ok (.bipush 24, 2) := by decide +kernel
theorem dX8_list_10 : decode cX8_list 10 = .ok (.if_icmp .le 5, 3) := by decide +kernel
theorem dX8_list_13 : decode cX8_list 13 = .ok (.iconst (-1), 1) := by decide +kernel
theorem dX8_list_14 : decode cX8_list 14 = .ok (.ireturn, 1) := by decide +kernel
theorem dX8_list_15 : decode cX8_list 15 = .ok (.iload_n 2, 1) := by decide +kernel
theorem dX8_list_16 : decode cX8_list 16 = .ok (.ifCond .ge 6, 3) := by decide +kernel
theorem dX8_list_19 : decode cX8_list 19 = .ok (.bipush (-14), 2) := by decide +kernel
theorem dX8_list_21 : decode cX8_list 21 = .ok (.ireturn, 1) := by decide +kernel
theorem dX8_list_22 : decode cX8_list 22 = .ok (.aload_n 0, 1) := by decide +kernel
theorem dX8_list_23 : decode cX8_list 23 = .ok (.getfield 75, 3) := by decide +kernel
theorem dX8_list_26 : decode cX8_list 26 = .ok (.iload_n 1, 1) := by decide +kernel
theorem dX8_list_27 : decode cX8_list 27 = .ok (.iload_n 2, 1) := by decide +kernel
theorem dX8_list_28 : decode cX8_list 28 = .ok (.iastore, 1) := by decide +kernel
theorem dX8_list_29 : decode cX8_list 29 = .ok (.iconst 0, 1) := by decide +kernel
theorem dX8_list_30 : decode cX8_list 30 = .ok (.istore_n 3, 1) := by decide +kernel
theorem dX8_list_31 : decode cX8_list 31 = .ok (.iload_n 3, 1) := by decide +kernel
theorem dX8_list_32 : decode cX8_list 32 = .ok (.bipush 24, 2) := by decide +kernel
theorem dX8_list_34 : decode cX8_list 34 = .ok (.if_icmp .ge 21, 3) := by decide +kernel
theorem dX8_list_37 : decode cX8_list 37 = .ok (.aload_n 0, 1) := by decide +kernel
theorem dX8_list_38 : decode cX8_list 38 = .ok (.getfield 78, 3) := by decide +kernel
theorem dX8_list_41 : decode cX8_list 41 = .ok (.bipush 24, 2) := by decide +kernel
theorem dX8_list_43 : decode cX8_list 43 = .ok (.iload_n 1, 1) := by decide +kernel
theorem dX8_list_44 : decode cX8_list 44 = .ok (.imul, 1) := by decide +kernel
theorem dX8_list_45 : decode cX8_list 45 = .ok (.iload_n 3, 1) := by decide +kernel
theorem dX8_list_46 : decode cX8_list 46 = .ok (.iadd, 1) := by decide +kernel
theorem dX8_list_47 : decode cX8_list 47 = .ok (.lconst 0, 1) := by decide +kernel
theorem dX8_list_48 : decode cX8_list 48 = .ok (.lastore, 1) := by decide +kernel
theorem dX8_list_49 : decode cX8_list 49 = .ok (.iinc 3 1, 3) := by decide +kernel
theorem dX8_list_52 : decode cX8_list 52 = .ok (.goto (-21), 3) := by decide +kernel
theorem dX8_list_55 : decode cX8_list 55 = .ok (.iconst 1, 1) := by decide +kernel
theorem dX8_list_56 : decode cX8_list 56 = .ok (.ireturn, 1) := by decide +kernel
theorem dX8_set_0 : decode cX8_set 0 = .ok (.iload_n 1, 1) := by decide +kernel
theorem dX8_set_1 : decode cX8_set 1 = .ok (.invokestatic 369, 3) := by decide +kernel
theorem dX8_set_4 : decode cX8_set 4 = .ok (.ifCond .ne 5, 3) := by decide +kernel
theorem dX8_set_7 : decode cX8_set 7 = .ok (.iconst (-1), 1) := by decide +kernel
theorem dX8_set_8 : decode cX8_set 8 = .ok (.ireturn, 1) := by decide +kernel
theorem dX8_set_9 : decode cX8_set 9 = .ok (.aload_n 0, 1) := by decide +kernel
theorem dX8_set_10 : decode cX8_set 10 = .ok (.getfield 75, 3) := by decide +kernel
theorem dX8_set_13 : decode cX8_set 13 = .ok (.iload_n 1, 1) := by decide +kernel
theorem dX8_set_14 : decode cX8_set 14 = .ok (.iaload, 1) := by decide +kernel
theorem dX8_set_15 : decode cX8_set 15 = .ok (.ifCond .ge 6, 3) := by decide +kernel
theorem dX8_set_18 : decode cX8_set 18 = .ok (.bipush (-11), 2) := by decide +kernel
theorem dX8_set_20 : decode cX8_set 20 = .ok (.ireturn, 1) := by decide +kernel
theorem dX8_set_21 : decode cX8_set 21 = .ok (.iload_n 2, 1) := by decide +kernel
theorem dX8_set_22 : decode cX8_set 22 = .ok (.i2l, 1) := by decide +kernel
theorem dX8_set_23 : decode cX8_set 23 = .ok (.lconst 0, 1) := by decide +kernel
theorem dX8_set_24 : decode cX8_set 24 = .ok (.aload_n 0, 1) := by decide +kernel
theorem dX8_set_25 : decode cX8_set 25 = .ok (.getfield 75, 3) := by decide +kernel
theorem dX8_set_28 : decode cX8_set 28 = .ok (.iload_n 1, 1) := by decide +kernel
theorem dX8_set_29 : decode cX8_set 29 = .ok (.iaload, 1) := by decide +kernel
theorem dX8_set_30 : decode cX8_set 30 = .ok (.iconst 1, 1) := by decide +kernel
theorem dX8_set_31 : decode cX8_set 31 = .ok (.isub, 1) := by decide +kernel
theorem dX8_set_32 : decode cX8_set 32 = .ok (.i2l, 1) := by decide +kernel
theorem dX8_set_33 : decode cX8_set 33 = .ok (.invokestatic 13, 3) := by decide +kernel
theorem dX8_set_36 : decode cX8_set 36 = .ok (.ifCond .ne 6, 3) := by decide +kernel
theorem dX8_set_39 : decode cX8_set 39 = .ok (.bipush (-13), 2) := by decide +kernel
theorem dX8_set_41 : decode cX8_set 41 = .ok (.ireturn, 1) := by decide +kernel
theorem dX8_set_42 : decode cX8_set 42 = .ok (.aload_n 0, 1) := by decide +kernel
theorem dX8_set_43 : decode cX8_set 43 = .ok (.getfield 78, 3) := by decide +kernel
theorem dX8_set_46 : decode cX8_set 46 = .ok (.bipush 24, 2) := by decide +kernel
theorem dX8_set_48 : decode cX8_set 48 = .ok (.iload_n 1, 1) := by decide +kernel
theorem dX8_set_49 : decode cX8_set 49 = .ok (.imul, 1) := by decide +kernel
theorem dX8_set_50 : decode cX8_set 50 = .ok (.iload_n 2, 1) := by decide +kernel
theorem dX8_set_51 : decode cX8_set 51 = .ok (.iadd, 1) := by decide +kernel
theorem dX8_set_52 : decode cX8_set 52 = .ok (.lload_n 3, 1) := by decide +kernel
theorem dX8_set_53 : decode cX8_set 53 = .ok (.lastore, 1) := by decide +kernel
theorem dX8_set_54 : decode cX8_set 54 = .ok (.iconst 1, 1) := by decide +kernel
theorem dX8_set_55 : decode cX8_set 55 = .ok (.ireturn, 1) := by decide +kernel
theorem dX8_get_0 : decode cX8_get 0 = .ok (.iload_n 1, 1) := by decide +kernel
theorem dX8_get_1 : decode cX8_get 1 = .ok (.invokestatic 369, 3) := by decide +kernel
theorem dX8_get_4 : decode cX8_get 4 = .ok (.ifCond .eq 35, 3) := by decide +kernel
theorem dX8_get_7 : decode cX8_get 7 = .ok (.iload_n 2, 1) := by decide +kernel
theorem dX8_get_8 : decode cX8_get 8 = .ok (.i2l, 1) := by decide +kernel
theorem dX8_get_9 : decode cX8_get 9 = .ok (.lconst 0, 1) := by decide +kernel
theorem dX8_get_10 : decode cX8_get 10 = .ok (.aload_n 0, 1) := by decide +kernel
theorem dX8_get_11 : decode cX8_get 11 = .ok (.getfield 75, 3) := by decide +kernel
theorem dX8_get_14 : decode cX8_get 14 = .ok (.iload_n 1, 1) := by decide +kernel
theorem dX8_get_15 : decode cX8_get 15 = .ok (.iaload, 1) := by decide +kernel
theorem dX8_get_16 : decode cX8_get 16 = .ok (.iconst 1, 1) := by decide +kernel
theorem dX8_get_17 : decode cX8_get 17 = .ok (.isub, 1) := by decide +kernel
theorem dX8_get_18 : decode cX8_get 18 = .ok (.i2l, 1) := by decide +kernel
theorem dX8_get_19 : decode cX8_get 19 = .ok (.invokestatic 13, 3) := by decide +kernel
theorem dX8_get_22 : decode cX8_get 22 = .ok (.ifCond .eq 17, 3) := by decide +kernel
theorem dX8_get_25 : decode cX8_get 25 = .ok (.aload_n 0, 1) := by decide +kernel
theorem dX8_get_26 : decode cX8_get 26 = .ok (.getfield 78, 3) := by decide +kernel
theorem dX8_get_29 : decode cX8_get 29 = .ok (.bipush 24, 2) := by decide +kernel
theorem dX8_get_31 : decode cX8_get 31 = .ok (.iload_n 1, 1) := by decide +kernel
theorem dX8_get_32 : decode cX8_get 32 = .ok (.imul, 1) := by decide +kernel
theorem dX8_get_33 : decode cX8_get 33 = .ok (.iload_n 2, 1) := by decide +kernel
theorem dX8_get_34 : decode cX8_get 34 = .ok (.iadd, 1) := by decide +kernel
theorem dX8_get_35 : decode cX8_get 35 = .ok (.laload, 1) := by decide +kernel
theorem dX8_get_36 : decode cX8_get 36 = .ok (.goto 6, 3) := by decide +kernel
theorem dX8_get_39 : decode cX8_get 39 = .ok (.ldc2_w 190, 3) := by decide +kernel
theorem dX8_get_42 : decode cX8_get 42 = .ok (.lreturn, 1) := by decide +kernel
theorem dX8_tellsPushes_0 : decode cX8_tellsPushes 0 = .ok (.aload_n 0, 1) := by decide +kernel
theorem dX8_tellsPushes_1 : decode cX8_tellsPushes 1 = .ok (.iload_n 1, 1) := by decide +kernel
theorem dX8_tellsPushes_2 : decode cX8_tellsPushes 2 = .ok (.invokevirtual 221, 3) := by decide +kernel
theorem dX8_tellsPushes_5 : decode cX8_tellsPushes 5 = .ok (.iconst 0, 1) := by decide +kernel
theorem dX8_tellsPushes_6 : decode cX8_tellsPushes 6 = .ok (.istore_n 2, 1) := by decide +kernel
theorem dX8_tellsPushes_7 : decode cX8_tellsPushes 7 = .ok (.iload_n 2, 1) := by decide +kernel
theorem dX8_tellsPushes_8 : decode cX8_tellsPushes 8 = .ok (.aload_n 0, 1) := by decide +kernel
theorem dX8_tellsPushes_9 : decode cX8_tellsPushes 9 = .ok (.getfield 218, 3) := by decide +kernel
theorem dX8_tellsPushes_12 : decode cX8_tellsPushes 12 = .ok (.if_icmp .ge 117, 3) := by decide +kernel
theorem dX8_tellsPushes_15 : decode cX8_tellsPushes 15 = .ok (.aload_n 0, 1) := by decide +kernel
theorem dX8_tellsPushes_16 : decode cX8_tellsPushes 16 = .ok (.aload_n 0, 1) := by decide +kernel
theorem dX8_tellsPushes_17 : decode cX8_tellsPushes 17 = .ok (.getfield 48, 3) := by decide +kernel
theorem dX8_tellsPushes_20 : decode cX8_tellsPushes 20 = .ok (.iload_n 2, 1) := by decide +kernel
theorem dX8_tellsPushes_21 : decode cX8_tellsPushes 21 = .ok (.iaload, 1) := by decide +kernel
theorem dX8_tellsPushes_22 : decode cX8_tellsPushes 22 = .ok (.aload_n 0, 1) := by decide +kernel
theorem dX8_tellsPushes_23 : decode cX8_tellsPushes 23 = .ok (.iload_n 1, 1) := by decide +kernel
theorem dX8_tellsPushes_24 : decode cX8_tellsPushes 24 = .ok (.iconst 0, 1) := by decide +kernel
theorem dX8_tellsPushes_25 : decode cX8_tellsPushes 25 = .ok (.invokevirtual 185, 3) := by decide +kernel
theorem dX8_tellsPushes_28 : decode cX8_tellsPushes 28 = .ok (.aload_n 0, 1) := by decide +kernel
theorem dX8_tellsPushes_29 : decode cX8_tellsPushes 29 = .ok (.iload_n 1, 1) := by decide +kernel
theorem dX8_tellsPushes_30 : decode cX8_tellsPushes 30 = .ok (.iconst 1, 1) := by decide +kernel
theorem dX8_tellsPushes_31 : decode cX8_tellsPushes 31 = .ok (.invokevirtual 185, 3) := by decide +kernel
theorem dX8_tellsPushes_34 : decode cX8_tellsPushes 34 = .ok (.invokevirtual 211, 3) := by decide +kernel
theorem dX8_tellsPushes_37 : decode cX8_tellsPushes 37 = .ok (.aload_n 0, 1) := by decide +kernel
theorem dX8_tellsPushes_38 : decode cX8_tellsPushes 38 = .ok (.getfield 82, 3) := by decide +kernel
theorem dX8_tellsPushes_41 : decode cX8_tellsPushes 41 = .ok (.iconst 4, 1) := by decide +kernel
theorem dX8_tellsPushes_42 : decode cX8_tellsPushes 42 = .ok (.iload_n 2, 1) := by decide +kernel
theorem dX8_tellsPushes_43 : decode cX8_tellsPushes 43 = .ok (.imul, 1) := by decide +kernel
theorem dX8_tellsPushes_44 : decode cX8_tellsPushes 44 = .ok (.aload_n 0, 1) := by decide +kernel
theorem dX8_tellsPushes_45 : decode cX8_tellsPushes 45 = .ok (.getfield 129, 3) := by decide +kernel
theorem dX8_tellsPushes_48 : decode cX8_tellsPushes 48 = .ok (.aload_n 0, 1) := by decide +kernel
theorem dX8_tellsPushes_49 : decode cX8_tellsPushes 49 = .ok (.getfield 115, 3) := by decide +kernel
theorem dX8_tellsPushes_52 : decode cX8_tellsPushes 52 = .ok (.iconst 0, 1) := by decide +kernel
theorem dX8_tellsPushes_53 : decode cX8_tellsPushes 53 = .ok (.invokestatic 207, 3) := by decide +kernel
theorem dX8_tellsPushes_56 : decode cX8_tellsPushes 56 = .ok (.lastore, 1) := by decide +kernel
theorem dX8_tellsPushes_57 : decode cX8_tellsPushes 57 = .ok (.aload_n 0, 1) := by decide +kernel
theorem dX8_tellsPushes_58 : decode cX8_tellsPushes 58 = .ok (.getfield 82, 3) := by decide +kernel
theorem dX8_tellsPushes_61 : decode cX8_tellsPushes 61 = .ok (.iconst 4, 1) := by decide +kernel
theorem dX8_tellsPushes_62 : decode cX8_tellsPushes 62 = .ok (.iload_n 2, 1) := by decide +kernel
theorem dX8_tellsPushes_63 : decode cX8_tellsPushes 63 = .ok (.imul, 1) := by decide +kernel
theorem dX8_tellsPushes_64 : decode cX8_tellsPushes 64 = .ok (.iconst 1, 1) := by decide +kernel
theorem dX8_tellsPushes_65 : decode cX8_tellsPushes 65 = .ok (.iadd, 1) := by decide +kernel
theorem dX8_tellsPushes_66 : decode cX8_tellsPushes 66 = .ok (.aload_n 0, 1) := by decide +kernel
theorem dX8_tellsPushes_67 : decode cX8_tellsPushes 67 = .ok (.getfield 129, 3) := by decide +kernel
theorem dX8_tellsPushes_70 : decode cX8_tellsPushes 70 = .ok (.aload_n 0, 1) := by decide +kernel
theorem dX8_tellsPushes_71 : decode cX8_tellsPushes 71 = .ok (.getfield 115, 3) := by decide +kernel
theorem dX8_tellsPushes_74 : decode cX8_tellsPushes 74 = .ok (.iconst 1, 1) := by decide +kernel
theorem dX8_tellsPushes_75 : decode cX8_tellsPushes 75 = .ok (.invokestatic 207, 3) := by decide +kernel
theorem dX8_tellsPushes_78 : decode cX8_tellsPushes 78 = .ok (.lastore, 1) := by decide +kernel
theorem dX8_tellsPushes_79 : decode cX8_tellsPushes 79 = .ok (.aload_n 0, 1) := by decide +kernel
theorem dX8_tellsPushes_80 : decode cX8_tellsPushes 80 = .ok (.getfield 82, 3) := by decide +kernel
theorem dX8_tellsPushes_83 : decode cX8_tellsPushes 83 = .ok (.iconst 4, 1) := by decide +kernel
theorem dX8_tellsPushes_84 : decode cX8_tellsPushes 84 = .ok (.iload_n 2, 1) := by decide +kernel
theorem dX8_tellsPushes_85 : decode cX8_tellsPushes 85 = .ok (.imul, 1) := by decide +kernel
theorem dX8_tellsPushes_86 : decode cX8_tellsPushes 86 = .ok (.iconst 2, 1) := by decide +kernel
theorem dX8_tellsPushes_87 : decode cX8_tellsPushes 87 = .ok (.iadd, 1) := by decide +kernel
theorem dX8_tellsPushes_88 : decode cX8_tellsPushes 88 = .ok (.aload_n 0, 1) := by decide +kernel
theorem dX8_tellsPushes_89 : decode cX8_tellsPushes 89 = .ok (.getfield 132, 3) := by decide +kernel
theorem dX8_tellsPushes_92 : decode cX8_tellsPushes 92 = .ok (.aload_n 0, 1) := by decide +kernel
theorem dX8_tellsPushes_93 : decode cX8_tellsPushes 93 = .ok (.getfield 115, 3) := by decide +kernel
theorem dX8_tellsPushes_96 : decode cX8_tellsPushes 96 = .ok (.iconst 0, 1) := by decide +kernel
theorem dX8_tellsPushes_97 : decode cX8_tellsPushes 97 = .ok (.invokestatic 207, 3) := by decide +kernel
theorem dX8_tellsPushes_100 : decode cX8_tellsPushes 100 = .ok (.lastore, 1) := by decide +kernel
theorem dX8_tellsPushes_101 : decode cX8_tellsPushes 101 = .ok (.aload_n 0, 1) := by decide +kernel
theorem dX8_tellsPushes_102 : decode cX8_tellsPushes 102 = .ok (.getfield 82, 3) := by decide +kernel
theorem dX8_tellsPushes_105 : decode cX8_tellsPushes 105 = .ok (.iconst 4, 1) := by decide +kernel
theorem dX8_tellsPushes_106 : decode cX8_tellsPushes 106 = .ok (.iload_n 2, 1) := by decide +kernel
theorem dX8_tellsPushes_107 : decode cX8_tellsPushes 107 = .ok (.imul, 1) := by decide +kernel
theorem dX8_tellsPushes_108 : decode cX8_tellsPushes 108 = .ok (.iconst 3, 1) := by decide +kernel
theorem dX8_tellsPushes_109 : decode cX8_tellsPushes 109 = .ok (.iadd, 1) := by decide +kernel
theorem dX8_tellsPushes_110 : decode cX8_tellsPushes 110 = .ok (.aload_n 0, 1) := by decide +kernel
theorem dX8_tellsPushes_111 : decode cX8_tellsPushes 111 = .ok (.getfield 132, 3) := by decide +kernel
theorem dX8_tellsPushes_114 : decode cX8_tellsPushes 114 = .ok (.aload_n 0, 1) := by decide +kernel
theorem dX8_tellsPushes_115 : decode cX8_tellsPushes 115 = .ok (.getfield 115, 3) := by decide +kernel
theorem dX8_tellsPushes_118 : decode cX8_tellsPushes 118 = .ok (.iconst 1, 1) := by decide +kernel
theorem dX8_tellsPushes_119 : decode cX8_tellsPushes 119 = .ok (.invokestatic 207, 3) := by decide +kernel
theorem dX8_tellsPushes_122 : decode cX8_tellsPushes 122 = .ok (.lastore, 1) := by decide +kernel
theorem dX8_tellsPushes_123 : decode cX8_tellsPushes 123 = .ok (.iinc 2 1, 3) := by decide +kernel
theorem dX8_tellsPushes_126 : decode cX8_tellsPushes 126 = .ok (.goto (-119), 3) := by decide +kernel
theorem dX8_tellsPushes_129 : decode cX8_tellsPushes 129 = .ok (.return_, 1) := by decide +kernel
theorem dX8_into_0 : decode cX8_into 0 = .ok (.aload_n 0, 1) := by decide +kernel
theorem dX8_into_1 : decode cX8_into 1 = .ok (.iload_n 1, 1) := by decide +kernel
theorem dX8_into_2 : decode cX8_into 2 = .ok (.invokevirtual 192, 3) := by decide +kernel
theorem dX8_into_5 : decode cX8_into 5 = .ok (.ifCond .eq 10, 3) := by decide +kernel
theorem dX8_into_8 : decode cX8_into 8 = .ok (.iload_n 2, 1) := by decide +kernel
theorem dX8_into_9 : decode cX8_into 9 = .ok (.invokestatic 369, 3) := by decide +kernel
theorem dX8_into_12 : decode cX8_into 12 = .ok (.ifCond .ne 5, 3) := by decide +kernel
theorem dX8_into_15 : decode cX8_into 15 = .ok (.iconst (-1), 1) := by decide +kernel
theorem dX8_into_16 : decode cX8_into 16 = .ok (.ireturn, 1) := by decide +kernel
theorem dX8_into_17 : decode cX8_into 17 = .ok (.aload_n 0, 1) := by decide +kernel
theorem dX8_into_18 : decode cX8_into 18 = .ok (.getfield 75, 3) := by decide +kernel
theorem dX8_into_21 : decode cX8_into 21 = .ok (.iload_n 2, 1) := by decide +kernel
theorem dX8_into_22 : decode cX8_into 22 = .ok (.iaload, 1) := by decide +kernel
theorem dX8_into_23 : decode cX8_into 23 = .ok (.ifCond .ge 6, 3) := by decide +kernel
theorem dX8_into_26 : decode cX8_into 26 = .ok (.bipush (-11), 2) := by decide +kernel
theorem dX8_into_28 : decode cX8_into 28 = .ok (.ireturn, 1) := by decide +kernel
theorem dX8_into_29 : decode cX8_into 29 = .ok (.iload_n 3, 1) := by decide +kernel
theorem dX8_into_30 : decode cX8_into 30 = .ok (.ifCond .ge 6, 3) := by decide +kernel
theorem dX8_into_33 : decode cX8_into 33 = .ok (.bipush (-13), 2) := by decide +kernel
theorem dX8_into_35 : decode cX8_into 35 = .ok (.ireturn, 1) := by decide +kernel
theorem dX8_into_36 : decode cX8_into 36 = .ok (.aload_n 0, 1) := by decide +kernel
theorem dX8_into_37 : decode cX8_into 37 = .ok (.iload_n 1, 1) := by decide +kernel
theorem dX8_into_38 : decode cX8_into 38 = .ok (.invokevirtual 240, 3) := by decide +kernel
theorem dX8_into_41 : decode cX8_into 41 = .ok (.ifCond .ne 6, 3) := by decide +kernel
theorem dX8_into_44 : decode cX8_into 44 = .ok (.bipush (-2), 2) := by decide +kernel
theorem dX8_into_46 : decode cX8_into 46 = .ok (.ireturn, 1) := by decide +kernel
theorem dX8_into_47 : decode cX8_into 47 = .ok (.aload_n 0, 1) := by decide +kernel
theorem dX8_into_48 : decode cX8_into 48 = .ok (.iload_n 1, 1) := by decide +kernel
theorem dX8_into_49 : decode cX8_into 49 = .ok (.invokevirtual 372, 3) := by decide +kernel
theorem dX8_into_52 : decode cX8_into 52 = .ok (.iconst 0, 1) := by decide +kernel
theorem dX8_into_53 : decode cX8_into 53 = .ok (.istore 4, 2) := by decide +kernel
theorem dX8_into_55 : decode cX8_into 55 = .ok (.iload 4, 2) := by decide +kernel
theorem dX8_into_57 : decode cX8_into 57 = .ok (.iconst 4, 1) := by decide +kernel
theorem dX8_into_58 : decode cX8_into 58 = .ok (.aload_n 0, 1) := by decide +kernel
theorem dX8_into_59 : decode cX8_into 59 = .ok (.getfield 218, 3) := by decide +kernel
theorem dX8_into_62 : decode cX8_into 62 = .ok (.imul, 1) := by decide +kernel
theorem dX8_into_63 : decode cX8_into 63 = .ok (.if_icmp .ge 43, 3) := by decide +kernel
theorem dX8_into_66 : decode cX8_into 66 = .ok (.iload_n 3, 1) := by decide +kernel
theorem dX8_into_67 : decode cX8_into 67 = .ok (.aload_n 0, 1) := by decide +kernel
theorem dX8_into_68 : decode cX8_into 68 = .ok (.getfield 75, 3) := by decide +kernel
theorem dX8_into_71 : decode cX8_into 71 = .ok (.iload_n 2, 1) := by decide +kernel
theorem dX8_into_72 : decode cX8_into 72 = .ok (.iaload, 1) := by decide +kernel
theorem dX8_into_73 : decode cX8_into 73 = .ok (.iload 4, 2) := by decide +kernel
theorem dX8_into_75 : decode cX8_into 75 = .ok (.isub, 1) := by decide +kernel
theorem dX8_into_76 : decode cX8_into 76 = .ok (.if_icmp .ge 30, 3) := by decide +kernel
theorem dX8_into_79 : decode cX8_into 79 = .ok (.aload_n 0, 1) := by decide +kernel
theorem dX8_into_80 : decode cX8_into 80 = .ok (.getfield 78, 3) := by decide +kernel
theorem dX8_into_83 : decode cX8_into 83 = .ok (.bipush 24, 2) := by decide +kernel
theorem dX8_into_85 : decode cX8_into 85 = .ok (.iload_n 2, 1) := by decide +kernel
theorem dX8_into_86 : decode cX8_into 86 = .ok (.imul, 1) := by decide +kernel
theorem dX8_into_87 : decode cX8_into 87 = .ok (.iload_n 3, 1) := by decide +kernel
theorem dX8_into_88 : decode cX8_into 88 = .ok (.iadd, 1) := by decide +kernel
theorem dX8_into_89 : decode cX8_into 89 = .ok (.iload 4, 2) := by decide +kernel
theorem dX8_into_91 : decode cX8_into 91 = .ok (.iadd, 1) := by decide +kernel
theorem dX8_into_92 : decode cX8_into 92 = .ok (.aload_n 0, 1) := by decide +kernel
theorem dX8_into_93 : decode cX8_into 93 = .ok (.getfield 82, 3) := by decide +kernel
theorem dX8_into_96 : decode cX8_into 96 = .ok (.iload 4, 2) := by decide +kernel
theorem dX8_into_98 : decode cX8_into 98 = .ok (.laload, 1) := by decide +kernel
theorem dX8_into_99 : decode cX8_into 99 = .ok (.lastore, 1) := by decide +kernel
theorem dX8_into_100 : decode cX8_into 100 = .ok (.iinc 4 1, 3) := by decide +kernel
theorem dX8_into_103 : decode cX8_into 103 = .ok (.goto (-48), 3) := by decide +kernel
theorem dX8_into_106 : decode cX8_into 106 = .ok (.iload 4, 2) := by decide +kernel
theorem dX8_into_108 : decode cX8_into 108 = .ok (.ireturn, 1) := by decide +kernel
theorem dX8_judge_0 : decode cX8_judge 0 = .ok (.aload_n 0, 1) := by decide +kernel
theorem dX8_judge_1 : decode cX8_judge 1 = .ok (.iload_n 1, 1) := by decide +kernel
theorem dX8_judge_2 : decode cX8_judge 2 = .ok (.invokevirtual 192, 3) := by decide +kernel
theorem dX8_judge_5 : decode cX8_judge 5 = .ok (.ifCond .eq 14, 3) := by decide +kernel
theorem dX8_judge_8 : decode cX8_judge 8 = .ok (.iload_n 2, 1) := by decide +kernel
theorem dX8_judge_9 : decode cX8_judge 9 = .ok (.invokestatic 369, 3) := by decide +kernel
theorem dX8_judge_12 : decode cX8_judge 12 = .ok (.ifCond .eq 7, 3) := by decide +kernel
theorem dX8_judge_15 : decode cX8_judge 15 = .ok (.iload_n 3, 1) := by decide +kernel
theorem dX8_judge_16 : decode cX8_judge 16 = .ok (.ifCond .ge 5, 3) := by decide +kernel
theorem dX8_judge_19 : decode cX8_judge 19 = .ok (.iconst (-1), 1) := by decide +kernel
theorem dX8_judge_20 : decode cX8_judge 20 = .ok (.ireturn, 1) := by decide +kernel
theorem dX8_judge_21 : decode cX8_judge 21 = .ok (.aload_n 0, 1) := by decide +kernel
theorem dX8_judge_22 : decode cX8_judge 22 = .ok (.getfield 75, 3) := by decide +kernel
theorem dX8_judge_25 : decode cX8_judge 25 = .ok (.iload_n 2, 1) := by decide +kernel
theorem dX8_judge_26 : decode cX8_judge 26 = .ok (.iaload, 1) := by decide +kernel
theorem dX8_judge_27 : decode cX8_judge 27 = .ok (.ifCond .ge 6, 3) := by decide +kernel
theorem dX8_judge_30 : decode cX8_judge 30 = .ok (.bipush (-11), 2) := by decide +kernel
theorem dX8_judge_32 : decode cX8_judge 32 = .ok (.ireturn, 1) := by decide +kernel
theorem dX8_judge_33 : decode cX8_judge 33 = .ok (.aload_n 0, 1) := by decide +kernel
theorem dX8_judge_34 : decode cX8_judge 34 = .ok (.iload_n 1, 1) := by decide +kernel
theorem dX8_judge_35 : decode cX8_judge 35 = .ok (.invokevirtual 240, 3) := by decide +kernel
theorem dX8_judge_38 : decode cX8_judge 38 = .ok (.ifCond .ne 6, 3) := by decide +kernel
theorem dX8_judge_41 : decode cX8_judge 41 = .ok (.bipush (-5), 2) := by decide +kernel
theorem dX8_judge_43 : decode cX8_judge 43 = .ok (.ireturn, 1) := by decide +kernel
theorem dX8_judge_44 : decode cX8_judge 44 = .ok (.aload_n 0, 1) := by decide +kernel
theorem dX8_judge_45 : decode cX8_judge 45 = .ok (.iload_n 1, 1) := by decide +kernel
theorem dX8_judge_46 : decode cX8_judge 46 = .ok (.invokevirtual 372, 3) := by decide +kernel
theorem dX8_judge_49 : decode cX8_judge 49 = .ok (.iconst 0, 1) := by decide +kernel
theorem dX8_judge_50 : decode cX8_judge 50 = .ok (.istore 4, 2) := by decide +kernel
theorem dX8_judge_52 : decode cX8_judge 52 = .ok (.iload 4, 2) := by decide +kernel
theorem dX8_judge_54 : decode cX8_judge 54 = .ok (.iconst 4, 1) := by decide +kernel
theorem dX8_judge_55 : decode cX8_judge 55 = .ok (.aload_n 0, 1) := by decide +kernel
theorem dX8_judge_56 : decode cX8_judge 56 = .ok (.getfield 218, 3) := by decide +kernel
theorem dX8_judge_59 : decode cX8_judge 59 = .ok (.imul, 1) := by decide +kernel
theorem dX8_judge_60 : decode cX8_judge 60 = .ok (.if_icmp .ge 60, 3) := by decide +kernel
theorem dX8_judge_63 : decode cX8_judge 63 = .ok (.iload_n 3, 1) := by decide +kernel
theorem dX8_judge_64 : decode cX8_judge 64 = .ok (.aload_n 0, 1) := by decide +kernel
theorem dX8_judge_65 : decode cX8_judge 65 = .ok (.getfield 75, 3) := by decide +kernel
theorem dX8_judge_68 : decode cX8_judge 68 = .ok (.iload_n 2, 1) := by decide +kernel
theorem dX8_judge_69 : decode cX8_judge 69 = .ok (.iaload, 1) := by decide +kernel
theorem dX8_judge_70 : decode cX8_judge 70 = .ok (.iload 4, 2) := by decide +kernel
theorem dX8_judge_72 : decode cX8_judge 72 = .ok (.isub, 1) := by decide +kernel
theorem dX8_judge_73 : decode cX8_judge 73 = .ok (.if_icmp .lt 11, 3) := by decide +kernel
theorem dX8_judge_76 : decode cX8_judge 76 = .ok (.bipush 100, 2) := by decide +kernel
theorem dX8_judge_78 : decode cX8_judge 78 = .ok (.iload 4, 2) := by decide +kernel
theorem dX8_judge_80 : decode cX8_judge 80 = .ok (.iconst 4, 1) := by decide +kernel
theorem dX8_judge_81 : decode cX8_judge 81 = .ok (.idiv, 1) := by decide +kernel
theorem dX8_judge_82 : decode cX8_judge 82 = .ok (.iadd, 1) := by decide +kernel
theorem dX8_judge_83 : decode cX8_judge 83 = .ok (.ireturn, 1) := by decide +kernel
theorem dX8_judge_84 : decode cX8_judge 84 = .ok (.aload_n 0, 1) := by decide +kernel
theorem dX8_judge_85 : decode cX8_judge 85 = .ok (.getfield 78, 3) := by decide +kernel
theorem dX8_judge_88 : decode cX8_judge 88 = .ok (.bipush 24, 2) := by decide +kernel
theorem dX8_judge_90 : decode cX8_judge 90 = .ok (.iload_n 2, 1) := by decide +kernel
theorem dX8_judge_91 : decode cX8_judge 91 = .ok (.imul, 1) := by decide +kernel
theorem dX8_judge_92 : decode cX8_judge 92 = .ok (.iload_n 3, 1) := by decide +kernel
theorem dX8_judge_93 : decode cX8_judge 93 = .ok (.iadd, 1) := by decide +kernel
theorem dX8_judge_94 : decode cX8_judge 94 = .ok (.iload 4, 2) := by decide +kernel
theorem dX8_judge_96 : decode cX8_judge 96 = .ok (.iadd, 1) := by decide +kernel
theorem dX8_judge_97 : decode cX8_judge 97 = .ok (.laload, 1) := by decide +kernel
theorem dX8_judge_98 : decode cX8_judge 98 = .ok (.aload_n 0, 1) := by decide +kernel
theorem dX8_judge_99 : decode cX8_judge 99 = .ok (.getfield 82, 3) := by decide +kernel
theorem dX8_judge_102 : decode cX8_judge 102 = .ok (.iload 4, 2) := by decide +kernel
theorem dX8_judge_104 : decode cX8_judge 104 = .ok (.laload, 1) := by decide +kernel
theorem dX8_judge_105 : decode cX8_judge 105 = .ok (.lcmp, 1) := by decide +kernel
theorem dX8_judge_106 : decode cX8_judge 106 = .ok (.ifCond .eq 8, 3) := by decide +kernel
theorem dX8_judge_109 : decode cX8_judge 109 = .ok (.iload 4, 2) := by decide +kernel
theorem dX8_judge_111 : decode cX8_judge 111 = .ok (.iconst 4, 1) := by decide +kernel
theorem dX8_judge_112 : decode cX8_judge 112 = .ok (.idiv, 1) := by decide +kernel
theorem dX8_judge_113 : decode cX8_judge 113 = .ok (.ireturn, 1) := by decide +kernel
theorem dX8_judge_114 : decode cX8_judge 114 = .ok (.iinc 4 1, 3) := by decide +kernel
theorem dX8_judge_117 : decode cX8_judge 117 = .ok (.goto (-65), 3) := by decide +kernel
theorem dX8_judge_120 : decode cX8_judge 120 = .ok (.bipush (-2), 2) := by decide +kernel
theorem dX8_judge_122 : decode cX8_judge 122 = .ok (.ireturn, 1) := by decide +kernel
theorem dX8_image_0 : decode cX8_image 0 = .ok (.aload_n 0, 1) := by decide +kernel
theorem dX8_image_1 : decode cX8_image 1 = .ok (.iconst 1, 1) := by decide +kernel
theorem dX8_image_2 : decode cX8_image 2 = .ok (.putfield 375, 3) := by decide +kernel
theorem dX8_image_5 : decode cX8_image 5 = .ok (.aload_n 0, 1) := by decide +kernel
theorem dX8_image_6 : decode cX8_image 6 = .ok (.getfield 23, 3) := by decide +kernel
theorem dX8_image_9 : decode cX8_image 9 = .ok (.iconst 0, 1) := by decide +kernel
theorem dX8_image_10 : decode cX8_image 10 = .ok (.aload_n 0, 1) := by decide +kernel
theorem dX8_image_11 : decode cX8_image 11 = .ok (.getfield 85, 3) := by decide +kernel
theorem dX8_image_14 : decode cX8_image 14 = .ok (.iconst 0, 1) := by decide +kernel
theorem dX8_image_15 : decode cX8_image 15 = .ok (.invokestatic 97, 3) := by decide +kernel
theorem dX8_image_18 : decode cX8_image 18 = .ok (.aload_n 0, 1) := by decide +kernel
theorem dX8_image_19 : decode cX8_image 19 = .ok (.getfield 23, 3) := by decide +kernel
theorem dX8_image_22 : decode cX8_image 22 = .ok (.iconst 1, 1) := by decide +kernel
theorem dX8_image_23 : decode cX8_image 23 = .ok (.iaload, 1) := by decide +kernel
theorem dX8_image_24 : decode cX8_image 24 = .ok (.ireturn, 1) := by decide +kernel
theorem dX8_back_0 : decode cX8_back 0 = .ok (.aload_n 0, 1) := by decide +kernel
theorem dX8_back_1 : decode cX8_back 1 = .ok (.getfield 375, 3) := by decide +kernel
theorem dX8_back_4 : decode cX8_back 4 = .ok (.ifCond .ne 6, 3) := by decide +kernel
theorem dX8_back_7 : decode cX8_back 7 = .ok (.bipush (-5), 2) := by decide +kernel
theorem dX8_back_9 : decode cX8_back 9 = .ok (.ireturn, 1) := by decide +kernel
theorem dX8_back_10 : decode cX8_back 10 = .ok (.aload_n 0, 1) := by decide +kernel
theorem dX8_back_11 : decode cX8_back 11 = .ok (.getfield 85, 3) := by decide +kernel
theorem dX8_back_14 : decode cX8_back 14 = .ok (.iconst 0, 1) := by decide +kernel
theorem dX8_back_15 : decode cX8_back 15 = .ok (.aload_n 0, 1) := by decide +kernel
theorem dX8_back_16 : decode cX8_back 16 = .ok (.getfield 23, 3) := by decide +kernel
theorem dX8_back_19 : decode cX8_back 19 = .ok (.iconst 0, 1) := by decide +kernel
theorem dX8_back_20 : decode cX8_back 20 = .ok (.invokestatic 97, 3) := by decide +kernel
theorem dX8_back_23 : decode cX8_back 23 = .ok (.aload_n 0, 1) := by decide +kernel
theorem dX8_back_24 : decode cX8_back 24 = .ok (.iconst 0, 1) := by decide +kernel
theorem dX8_back_25 : decode cX8_back 25 = .ok (.putfield 94, 3) := by decide +kernel
theorem dX8_back_28 : decode cX8_back 28 = .ok (.aload_n 0, 1) := by decide +kernel
theorem dX8_back_29 : decode cX8_back 29 = .ok (.getfield 23, 3) := by decide +kernel
theorem dX8_back_32 : decode cX8_back 32 = .ok (.iconst 1, 1) := by decide +kernel
theorem dX8_back_33 : decode cX8_back 33 = .ok (.iaload, 1) := by decide +kernel
theorem dX8_back_34 : decode cX8_back 34 = .ok (.ireturn, 1) := by decide +kernel
