theorem dX7_init_0 : decode cX7_init 0 = .ok (.aload_n 0, 1) := by decide +kernel
theorem dX7_init_1 : decode cX7_init 1 = .ok (.invokespecial 3, 3) := by decide +kernel
theorem dX7_init_4 : decode cX7_init 4 = .ok (.aload_n 0, 1) := by decide +kernel
theorem dX7_init_5 : decode cX7_init 5 = .ok (.new 9, 3) := by decide +kernel
theorem dX7_init_8 : decode cX7_init 8 = .ok (.dup, 1) := by decide +kernel
theorem dX7_init_9 : decode cX7_init 9 = .ok (.invokespecial 11, 3) := by decide +kernel
theorem dX7_init_12 : decode cX7_init 12 = .ok (.putfield 12, 3) := by decide +kernel
theorem dX7_init_15 : decode cX7_init 15 = .ok (.aload_n 0, 1) := by decide +kernel
theorem dX7_init_16 : decode cX7_init 16 = .ok (.new 18, 3) := by decide +kernel
theorem dX7_init_19 : decode cX7_init 19 = .ok (.dup, 1) := by decide +kernel
theorem dX7_init_20 : decode cX7_init 20 = .ok (.invokespecial 20, 3) := by decide +kernel
theorem dX7_init_23 : decode cX7_init 23 = .ok (.putfield 21, 3) := by decide +kernel
theorem dX7_init_26 : decode cX7_init 26 = .ok (.aload_n 0, 1) := by decide +kernel
theorem dX7_init_27 : decode cX7_init 27 = .ok (.new 9, 3) := by decide +kernel
theorem dX7_init_30 : decode cX7_init 30 = .ok (.dup, 1) := by decide +kernel
theorem dX7_init_31 : decode cX7_init 31 = .ok (.invokespecial 11, 3) := by decide +kernel
theorem dX7_init_34 : decode cX7_init 34 = .ok (.putfield 25, 3) := by decide +kernel
theorem dX7_init_37 : decode cX7_init 37 = .ok (.aload_n 0, 1) := by decide +kernel
theorem dX7_init_38 : decode cX7_init 38 = .ok (.iconst 0, 1) := by decide +kernel
theorem dX7_init_39 : decode cX7_init 39 = .ok (.putfield 28, 3) := by decide +kernel
theorem dX7_init_42 : decode cX7_init 42 = .ok (.aload_n 0, 1) := by decide +kernel
theorem dX7_init_43 : decode cX7_init 43 = .ok (.bipush 8, 2) := by decide +kernel
theorem dX7_init_45 : decode cX7_init 45 = .ok (.anewarray 32, 3) := by decide +kernel
theorem dX7_init_48 : decode cX7_init 48 = .ok (.putfield 34, 3) := by decide +kernel
theorem dX7_init_51 : decode cX7_init 51 = .ok (.aload_n 0, 1) := by decide +kernel
theorem dX7_init_52 : decode cX7_init 52 = .ok (.new 38, 3) := by decide +kernel
theorem dX7_init_55 : decode cX7_init 55 = .ok (.dup, 1) := by decide +kernel
theorem dX7_init_56 : decode cX7_init 56 = .ok (.invokespecial 40, 3) := by decide +kernel
theorem dX7_init_59 : decode cX7_init 59 = .ok (.putfield 41, 3) := by decide +kernel
theorem dX7_init_62 : decode cX7_init 62 = .ok (.aload_n 0, 1) := by decide +kernel
theorem dX7_init_63 : decode cX7_init 63 = .ok (.new 38, 3) := by decide +kernel
theorem dX7_init_66 : decode cX7_init 66 = .ok (.dup, 1) := by decide +kernel
theorem dX7_init_67 : decode cX7_init 67 = .ok (.invokespecial 40, 3) := by decide +kernel
theorem dX7_init_70 : decode cX7_init 70 = .ok (.putfield 45, 3) := by decide +kernel
theorem dX7_init_73 : decode cX7_init 73 = .ok (.aload_n 0, 1) := by decide +kernel
theorem dX7_init_74 : decode cX7_init 74 = .ok (.iconst 4, 1) := by decide +kernel
theorem dX7_init_75 : decode cX7_init 75 = .ok (.newarray .int, 2) := by decide +kernel
theorem dX7_init_77 : decode cX7_init 77 = .ok (.putfield 48, 3) := by decide +kernel
theorem dX7_init_80 : decode cX7_init 80 = .ok (.aload_n 0, 1) := by decide +kernel
theorem dX7_init_81 : decode cX7_init 81 = .ok (.new 52, 3) := by decide +kernel
theorem dX7_init_84 : decode cX7_init 84 = .ok (.dup, 1) := by decide +kernel
theorem dX7_init_85 : decode cX7_init 85 = .ok (.invokespecial 54, 3) := by decide +kernel
theorem dX7_init_88 : decode cX7_init 88 = .ok (.putfield 55, 3) := by decide +kernel
theorem dX7_init_91 : decode cX7_init 91 = .ok (.aload_n 0, 1) := by decide +kernel
theorem dX7_init_92 : decode cX7_init 92 = .ok (.new 59, 3) := by decide +kernel
theorem dX7_init_95 : decode cX7_init 95 = .ok (.dup, 1) := by decide +kernel
theorem dX7_init_96 : decode cX7_init 96 = .ok (.invokespecial 61, 3) := by decide +kernel
theorem dX7_init_99 : decode cX7_init 99 = .ok (.putfield 62, 3) := by decide +kernel
theorem dX7_init_102 : decode cX7_init 102 = .ok (.aload_n 0, 1) := by decide +kernel
theorem dX7_init_103 : decode cX7_init 103 = .ok (.bipush 6, 2) := by decide +kernel
theorem dX7_init_105 : decode cX7_init 105 = .ok (.newarray .char, 2) := by decide +kernel
theorem dX7_init_107 : decode cX7_init 107 = .ok (.putfield 66, 3) := by decide +kernel
theorem dX7_init_110 : decode cX7_init 110 = .ok (.aload_n 0, 1) := by decide +kernel
theorem dX7_init_111 : decode cX7_init 111 = .ok (.iconst 0, 1) := by decide +kernel
theorem dX7_init_112 : decode cX7_init 112 = .ok (.putfield 70, 3) := by decide +kernel
theorem dX7_init_115 : decode cX7_init 115 = .ok (.aload_n 0, 1) := by decide +kernel
theorem dX7_init_116 : decode cX7_init 116 = .ok (.iconst 3, 1) := by decide +kernel
theorem dX7_init_117 : decode cX7_init 117 = .ok (.anewarray 74, 3) := by decide +kernel
theorem dX7_init_120 : decode cX7_init 120 = .ok (.putfield 76, 3) := by decide +kernel
theorem dX7_init_123 : decode cX7_init 123 = .ok (.iconst 0, 1) := by decide +kernel
theorem dX7_init_124 : decode cX7_init 124 = .ok (.istore_n 1, 1) := by decide +kernel
theorem dX7_init_125 : decode cX7_init 125 = .ok (.iload_n 1, 1) := by decide +kernel
theorem dX7_init_126 : decode cX7_init 126 = .ok (.bipush 8, 2) := by decide +kernel
theorem dX7_init_128 : decode cX7_init 128 = .ok (.if_icmp .ge 22, 3) := by decide +kernel
theorem dX7_init_131 : decode cX7_init 131 = .ok (.aload_n 0, 1) := by decide +kernel
theorem dX7_init_132 : decode cX7_init 132 = .ok (.getfield 34, 3) := by decide +kernel
theorem dX7_init_135 : decode cX7_init 135 = .ok (.iload_n 1, 1) := by decide +kernel
theorem dX7_init_136 : decode cX7_init 136 = .ok (.new 32, 3) := by decide +kernel
theorem dX7_init_139 : decode cX7_init 139 = .ok (.dup, 1) := by decide +kernel
theorem dX7_init_140 : decode cX7_init 140 = .ok (.invokespecial 80, 3) := by decide +kernel
theorem dX7_init_143 : decode cX7_init 143 = .ok (.aastore, 1) := by decide +kernel
theorem dX7_init_144 : decode cX7_init 144 = .ok (.iinc 1 1, 3) := by decide +kernel
theorem dX7_init_147 : decode cX7_init 147 = .ok (.goto (-22), 3) := by decide +kernel
theorem dX7_init_150 : decode cX7_init 150 = .ok (.iconst 0, 1) := by decide +kernel
theorem dX7_init_151 : decode cX7_init 151 = .ok (.istore_n 1, 1) := by decide +kernel
theorem dX7_init_152 : decode cX7_init 152 = .ok (.iload_n 1, 1) := by decide +kernel
theorem dX7_init_153 : decode cX7_init 153 = .ok (.iconst 3, 1) := by decide +kernel
theorem dX7_init_154 : decode cX7_init 154 = .ok (.if_icmp .ge 22, 3) := by decide +kernel
theorem dX7_init_157 : decode cX7_init 157 = .ok (.aload_n 0, 1) := by decide +kernel
theorem dX7_init_158 : decode cX7_init 158 = .ok (.getfield 76, 3) := by decide +kernel
theorem dX7_init_161 : decode cX7_init 161 = .ok (.iload_n 1, 1) := by decide +kernel
theorem dX7_init_162 : decode cX7_init 162 = .ok (.new 74, 3) := by decide +kernel
theorem dX7_init_165 : decode cX7_init 165 = .ok (.dup, 1) := by decide +kernel
theorem dX7_init_166 : decode cX7_init 166 = .ok (.invokespecial 81, 3) := by decide +kernel
theorem dX7_init_169 : decode cX7_init 169 = .ok (.aastore, 1) := by decide +kernel
theorem dX7_init_170 : decode cX7_init 170 = .ok (.iinc 1 1, 3) := by decide +kernel
theorem dX7_init_173 : decode cX7_init 173 = .ok (.goto (-21), 3) := by decide +kernel
theorem dX7_init_176 : decode cX7_init 176 = .ok (.return_, 1) := by decide +kernel
theorem dX7_field_0 : decode cX7_field 0 = .ok (.aload_n 0, 1) := by decide +kernel
theorem dX7_field_1 : decode cX7_field 1 = .ok (.getfield 21, 3) := by decide +kernel
theorem dX7_field_4 : decode cX7_field 4 = .ok (.aload_n 0, 1) := by decide +kernel
theorem dX7_field_5 : decode cX7_field 5 = .ok (.getfield 12, 3) := by decide +kernel
theorem dX7_field_8 : decode cX7_field 8 = .ok (.invokevirtual 82, 3) := by decide +kernel
theorem dX7_field_11 : decode cX7_field 11 = .ok (.aload_n 0, 1) := by decide +kernel
theorem dX7_field_12 : decode cX7_field 12 = .ok (.getfield 21, 3) := by decide +kernel
theorem dX7_field_15 : decode cX7_field 15 = .ok (.aload_n 0, 1) := by decide +kernel
theorem dX7_field_16 : decode cX7_field 16 = .ok (.getfield 12, 3) := by decide +kernel
theorem dX7_field_19 : decode cX7_field 19 = .ok (.iload_n 1, 1) := by decide +kernel
theorem dX7_field_20 : decode cX7_field 20 = .ok (.invokevirtual 86, 3) := by decide +kernel
theorem dX7_field_23 : decode cX7_field 23 = .ok (.invokevirtual 90, 3) := by decide +kernel
theorem dX7_field_26 : decode cX7_field 26 = .ok (.ireturn, 1) := by decide +kernel
theorem dX7_track_0 : decode cX7_track 0 = .ok (.aload_n 0, 1) := by decide +kernel
theorem dX7_track_1 : decode cX7_track 1 = .ok (.getfield 21, 3) := by decide +kernel
theorem dX7_track_4 : decode cX7_track 4 = .ok (.aload_n 0, 1) := by decide +kernel
theorem dX7_track_5 : decode cX7_track 5 = .ok (.getfield 12, 3) := by decide +kernel
theorem dX7_track_8 : decode cX7_track 8 = .ok (.invokevirtual 82, 3) := by decide +kernel
theorem dX7_track_11 : decode cX7_track 11 = .ok (.aload_n 0, 1) := by decide +kernel
theorem dX7_track_12 : decode cX7_track 12 = .ok (.getfield 21, 3) := by decide +kernel
theorem dX7_track_15 : decode cX7_track 15 = .ok (.aload_n 0, 1) := by decide +kernel
theorem dX7_track_16 : decode cX7_track 16 = .ok (.getfield 12, 3) := by decide +kernel
theorem dX7_track_19 : decode cX7_track 19 = .ok (.iload_n 1, 1) := by decide +kernel
theorem dX7_track_20 : decode cX7_track 20 = .ok (.iload_n 2, 1) := by decide +kernel
theorem dX7_track_21 : decode cX7_track 21 = .ok (.iload_n 3, 1) := by decide +kernel
theorem dX7_track_22 : decode cX7_track 22 = .ok (.iload 4, 2) := by decide +kernel
theorem dX7_track_24 : decode cX7_track 24 = .ok (.iload 5, 2) := by decide +kernel
theorem dX7_track_26 : decode cX7_track 26 = .ok (.iload 6, 2) := by decide +kernel
theorem dX7_track_28 : decode cX7_track 28 = .ok (.invokevirtual 93, 3) := by decide +kernel
theorem dX7_track_31 : decode cX7_track 31 = .ok (.invokevirtual 90, 3) := by decide +kernel
theorem dX7_track_34 : decode cX7_track 34 = .ok (.ireturn, 1) := by decide +kernel
theorem dX7_kind_0 : decode cX7_kind 0 = .ok (.aload_n 0, 1) := by decide +kernel
theorem dX7_kind_1 : decode cX7_kind 1 = .ok (.getfield 21, 3) := by decide +kernel
theorem dX7_kind_4 : decode cX7_kind 4 = .ok (.aload_n 0, 1) := by decide +kernel
theorem dX7_kind_5 : decode cX7_kind 5 = .ok (.getfield 12, 3) := by decide +kernel
theorem dX7_kind_8 : decode cX7_kind 8 = .ok (.invokevirtual 82, 3) := by decide +kernel
theorem dX7_kind_11 : decode cX7_kind 11 = .ok (.aload_n 0, 1) := by decide +kernel
theorem dX7_kind_12 : decode cX7_kind 12 = .ok (.getfield 21, 3) := by decide +kernel
theorem dX7_kind_15 : decode cX7_kind 15 = .ok (.aload_n 0, 1) := by decide +kernel
theorem dX7_kind_16 : decode cX7_kind 16 = .ok (.iload_n 1, 1) := by decide +kernel
theorem dX7_kind_17 : decode cX7_kind 17 = .ok (.iload_n 2, 1) := by decide +kernel
theorem dX7_kind_18 : decode cX7_kind 18 = .ok (.invokevirtual 97, 3) := by decide +kernel
theorem dX7_kind_21 : decode cX7_kind 21 = .ok (.invokevirtual 90, 3) := by decide +kernel
theorem dX7_kind_24 : decode cX7_kind 24 = .ok (.ireturn, 1) := by decide +kernel
theorem dX7_vertex_0 : decode cX7_vertex 0 = .ok (.aload_n 0, 1) := by decide +kernel
theorem dX7_vertex_1 : decode cX7_vertex 1 = .ok (.getfield 21, 3) := by decide +kernel
theorem dX7_vertex_4 : decode cX7_vertex 4 = .ok (.aload_n 0, 1) := by decide +kernel
theorem dX7_vertex_5 : decode cX7_vertex 5 = .ok (.getfield 12, 3) := by decide +kernel
theorem dX7_vertex_8 : decode cX7_vertex 8 = .ok (.invokevirtual 82, 3) := by decide +kernel
theorem dX7_vertex_11 : decode cX7_vertex 11 = .ok (.aload_n 0, 1) := by decide +kernel
theorem dX7_vertex_12 : decode cX7_vertex 12 = .ok (.getfield 21, 3) := by decide +kernel
theorem dX7_vertex_15 : decode cX7_vertex 15 = .ok (.aload_n 0, 1) := by decide +kernel
theorem dX7_vertex_16 : decode cX7_vertex 16 = .ok (.iload_n 1, 1) := by decide +kernel
theorem dX7_vertex_17 : decode cX7_vertex 17 = .ok (.iload_n 2, 1) := by decide +kernel
theorem dX7_vertex_18 : decode cX7_vertex 18 = .ok (.iload_n 3, 1) := by decide +kernel
theorem dX7_vertex_19 : decode cX7_vertex 19 = .ok (.iload 4, 2) := by decide +kernel
theorem dX7_vertex_21 : decode cX7_vertex 21 = .ok (.invokevirtual 101, 3) := by decide +kernel
theorem dX7_vertex_24 : decode cX7_vertex 24 = .ok (.invokevirtual 90, 3) := by decide +kernel
theorem dX7_vertex_27 : decode cX7_vertex 27 = .ok (.ireturn, 1) := by decide +kernel
theorem dX7_drop_0 : decode cX7_drop 0 = .ok (.aload_n 0, 1) := by decide +kernel
theorem dX7_drop_1 : decode cX7_drop 1 = .ok (.getfield 21, 3) := by decide +kernel
theorem dX7_drop_4 : decode cX7_drop 4 = .ok (.aload_n 0, 1) := by decide +kernel
theorem dX7_drop_5 : decode cX7_drop 5 = .ok (.getfield 12, 3) := by decide +kernel
theorem dX7_drop_8 : decode cX7_drop 8 = .ok (.invokevirtual 82, 3) := by decide +kernel
theorem dX7_drop_11 : decode cX7_drop 11 = .ok (.aload_n 0, 1) := by decide +kernel
theorem dX7_drop_12 : decode cX7_drop 12 = .ok (.getfield 21, 3) := by decide +kernel
theorem dX7_drop_15 : decode cX7_drop 15 = .ok (.aload_n 0, 1) := by decide +kernel
theorem dX7_drop_16 : decode cX7_drop 16 = .ok (.getfield 12, 3) := by decide +kernel
theorem dX7_drop_19 : decode cX7_drop 19 = .ok (.invokevirtual 105, 3) := by decide +kernel
theorem dX7_drop_22 : decode cX7_drop 22 = .ok (.invokevirtual 90, 3) := by decide +kernel
theorem dX7_drop_25 : decode cX7_drop 25 = .ok (.ireturn, 1) := by decide +kernel
theorem dX7_wipe_0 : decode cX7_wipe 0 = .ok (.aload_n 0, 1) := by decide +kernel
theorem dX7_wipe_1 : decode cX7_wipe 1 = .ok (.getfield 21, 3) := by decide +kernel
theorem dX7_wipe_4 : decode cX7_wipe 4 = .ok (.aload_n 0, 1) := by decide +kernel
theorem dX7_wipe_5 : decode cX7_wipe 5 = .ok (.getfield 12, 3) := by decide +kernel
theorem dX7_wipe_8 : decode cX7_wipe 8 = .ok (.invokevirtual 82, 3) := by decide +kernel
theorem dX7_wipe_11 : decode cX7_wipe 11 = .ok (.aload_n 0, 1) := by decide +kernel
theorem dX7_wipe_12 : decode cX7_wipe 12 = .ok (.getfield 21, 3) := by decide +kernel
theorem dX7_wipe_15 : decode cX7_wipe 15 = .ok (.aload_n 0, 1) := by decide +kernel
theorem dX7_wipe_16 : decode cX7_wipe 16 = .ok (.getfield 12, 3) := by decide +kernel
theorem dX7_wipe_19 : decode cX7_wipe 19 = .ok (.invokevirtual 109, 3) := by decide +kernel
theorem dX7_wipe_22 : decode cX7_wipe 22 = .ok (.invokevirtual 90, 3) := by decide +kernel
theorem dX7_wipe_25 : decode cX7_wipe 25 = .ok (.ireturn, 1) := by decide +kernel
theorem dX7_trackOf_0 : decode cX7_trackOf 0 = .ok (.aload_n 0, 1) := by decide +kernel
theorem dX7_trackOf_1 : decode cX7_trackOf 1 = .ok (.getfield 12, 3) := by decide +kernel
theorem dX7_trackOf_4 : decode cX7_trackOf 4 = .ok (.iload_n 1, 1) := by decide +kernel
theorem dX7_trackOf_5 : decode cX7_trackOf 5 = .ok (.invokevirtual 112, 3) := by decide +kernel
theorem dX7_trackOf_8 : decode cX7_trackOf 8 = .ok (.ifCond .eq 13, 3) := by decide +kernel
theorem dX7_trackOf_11 : decode cX7_trackOf 11 = .ok (.iload_n 2, 1) := by decide +kernel
theorem dX7_trackOf_12 : decode cX7_trackOf 12 = .ok (.ifCond .lt 9, 3) := by decide +kernel
theorem dX7_trackOf_15 : decode cX7_trackOf 15 = .ok (.iload_n 2, 1) := by decide +kernel
theorem dX7_trackOf_16 : decode cX7_trackOf 16 = .ok (.bipush 7, 2) := by decide +kernel
theorem dX7_trackOf_18 : decode cX7_trackOf 18 = .ok (.if_icmp .le 5, 3) := by decide +kernel
theorem dX7_trackOf_21 : decode cX7_trackOf 21 = .ok (.iconst (-1), 1) := by decide +kernel
theorem dX7_trackOf_22 : decode cX7_trackOf 22 = .ok (.ireturn, 1) := by decide +kernel
theorem dX7_trackOf_23 : decode cX7_trackOf 23 = .ok (.iload_n 2, 1) := by decide +kernel
theorem dX7_trackOf_24 : decode cX7_trackOf 24 = .ok (.bipush 6, 2) := by decide +kernel
theorem dX7_trackOf_26 : decode cX7_trackOf 26 = .ok (.if_icmp .ne 14, 3) := by decide +kernel
theorem dX7_trackOf_29 : decode cX7_trackOf 29 = .ok (.aload_n 0, 1) := by decide +kernel
theorem dX7_trackOf_30 : decode cX7_trackOf 30 = .ok (.iload_n 1, 1) := by decide +kernel
theorem dX7_trackOf_31 : decode cX7_trackOf 31 = .ok (.invokevirtual 116, 3) := by decide +kernel
theorem dX7_trackOf_34 : decode cX7_trackOf 34 = .ok (.invokevirtual 120, 3) := by decide +kernel
theorem dX7_trackOf_37 : decode cX7_trackOf 37 = .ok (.iconst 1, 1) := by decide +kernel
theorem dX7_trackOf_38 : decode cX7_trackOf 38 = .ok (.iadd, 1) := by decide +kernel
theorem dX7_trackOf_39 : decode cX7_trackOf 39 = .ok (.ireturn, 1) := by decide +kernel
theorem dX7_trackOf_40 : decode cX7_trackOf 40 = .ok (.iload_n 2, 1) := by decide +kernel
theorem dX7_trackOf_41 : decode cX7_trackOf 41 = .ok (.bipush 7, 2) := by decide +kernel
theorem dX7_trackOf_43 : decode cX7_trackOf 43 = .ok (.if_icmp .ne 15, 3) := by decide +kernel
theorem dX7_trackOf_46 : decode cX7_trackOf 46 = .ok (.aload_n 0, 1) := by decide +kernel
theorem dX7_trackOf_47 : decode cX7_trackOf 47 = .ok (.getfield 12, 3) := by decide +kernel
theorem dX7_trackOf_50 : decode cX7_trackOf 50 = .ok (.getfield 123, 3) := by decide +kernel
theorem dX7_trackOf_53 : decode cX7_trackOf 53 = .ok (.iload_n 1, 1) := by decide +kernel
theorem dX7_trackOf_54 : decode cX7_trackOf 54 = .ok (.iaload, 1) := by decide +kernel
theorem dX7_trackOf_55 : decode cX7_trackOf 55 = .ok (.goto 17, 3) := by decide +kernel
theorem dX7_trackOf_58 : decode cX7_trackOf 58 = .ok (.aload_n 0, 1) := by decide +kernel
theorem dX7_trackOf_59 : decode cX7_trackOf 59 = .ok (.getfield 12, 3) := by decide +kernel
theorem dX7_trackOf_62 : decode cX7_trackOf 62 = .ok (.getfield 126, 3) := by decide +kernel
theorem dX7_trackOf_65 : decode cX7_trackOf 65 = .ok (.bipush 6, 2) := by decide +kernel
theorem dX7_trackOf_67 : decode cX7_trackOf 67 = .ok (.iload_n 1, 1) := by decide +kernel
theorem dX7_trackOf_68 : decode cX7_trackOf 68 = .ok (.imul, 1) := by decide +kernel
theorem dX7_trackOf_69 : decode cX7_trackOf 69 = .ok (.iload_n 2, 1) := by decide +kernel
theorem dX7_trackOf_70 : decode cX7_trackOf 70 = .ok (.iadd, 1) := by decide +kernel
theorem dX7_trackOf_71 : decode cX7_trackOf 71 = .ok (.iaload, 1) := by decide +kernel
theorem dX7_trackOf_72 : decode cX7_trackOf 72 = .ok (.ireturn, 1) := by decide +kernel
theorem dX7_bend_0 : decode cX7_bend 0 = .ok (.aload_n 0, 1) := by decide +kernel
theorem dX7_bend_1 : decode cX7_bend 1 = .ok (.getfield 12, 3) := by decide +kernel
theorem dX7_bend_4 : decode cX7_bend 4 = .ok (.iload_n 1, 1) := by decide +kernel
theorem dX7_bend_5 : decode cX7_bend 5 = .ok (.invokevirtual 112, 3) := by decide +kernel
theorem dX7_bend_8 : decode cX7_bend 8 = .ok (.ifCond .eq 14, 3) := by decide +kernel
theorem dX7_bend_11 : decode cX7_bend 11 = .ok (.aload_n 0, 1) := by decide +kernel
theorem dX7_bend_12 : decode cX7_bend 12 = .ok (.iload_n 1, 1) := by decide +kernel
theorem dX7_bend_13 : decode cX7_bend 13 = .ok (.invokevirtual 116, 3) := by decide +kernel
theorem dX7_bend_16 : decode cX7_bend 16 = .ok (.getfield 129, 3) := by decide +kernel
theorem dX7_bend_19 : decode cX7_bend 19 = .ok (.goto 6, 3) := by decide +kernel
theorem dX7_bend_22 : decode cX7_bend 22 = .ok (.ldc2_w 133, 3) := by decide +kernel
theorem dX7_bend_25 : decode cX7_bend 25 = .ok (.lreturn, 1) := by decide +kernel
theorem dX7_vertexOf_0 : decode cX7_vertexOf 0 = .ok (.aload_n 0, 1) := by decide +kernel
theorem dX7_vertexOf_1 : decode cX7_vertexOf 1 = .ok (.getfield 12, 3) := by decide +kernel
theorem dX7_vertexOf_4 : decode cX7_vertexOf 4 = .ok (.iload_n 1, 1) := by decide +kernel
theorem dX7_vertexOf_5 : decode cX7_vertexOf 5 = .ok (.invokevirtual 135, 3) := by decide +kernel
theorem dX7_vertexOf_8 : decode cX7_vertexOf 8 = .ok (.ifCond .ne 5, 3) := by decide +kernel
theorem dX7_vertexOf_11 : decode cX7_vertexOf 11 = .ok (.iconst (-1), 1) := by decide +kernel
theorem dX7_vertexOf_12 : decode cX7_vertexOf 12 = .ok (.ireturn, 1) := by decide +kernel
theorem dX7_vertexOf_13 : decode cX7_vertexOf 13 = .ok (.iload_n 2, 1) := by decide +kernel
theorem dX7_vertexOf_14 : decode cX7_vertexOf 14 = .ok (.tableswitch 94 0 3 #[30, 43, 56, 84], 30) := by decide +kernel
theorem dX7_vertexOf_44 : decode cX7_vertexOf 44 = .ok (.aload_n 0, 1) := by decide +kernel
theorem dX7_vertexOf_45 : decode cX7_vertexOf 45 = .ok (.getfield 12, 3) := by decide +kernel
theorem dX7_vertexOf_48 : decode cX7_vertexOf 48 = .ok (.getfield 138, 3) := by decide +kernel
theorem dX7_vertexOf_51 : decode cX7_vertexOf 51 = .ok (.iload_n 1, 1) := by decide +kernel
theorem dX7_vertexOf_52 : decode cX7_vertexOf 52 = .ok (.iaload, 1) := by decide +kernel
theorem dX7_vertexOf_53 : decode cX7_vertexOf 53 = .ok (.bipush 20, 2) := by decide +kernel
theorem dX7_vertexOf_55 : decode cX7_vertexOf 55 = .ok (.iadd, 1) := by decide +kernel
theorem dX7_vertexOf_56 : decode cX7_vertexOf 56 = .ok (.ireturn, 1) := by decide +kernel
theorem dX7_vertexOf_57 : decode cX7_vertexOf 57 = .ok (.aload_n 0, 1) := by decide +kernel
theorem dX7_vertexOf_58 : decode cX7_vertexOf 58 = .ok (.getfield 12, 3) := by decide +kernel
theorem dX7_vertexOf_61 : decode cX7_vertexOf 61 = .ok (.getfield 141, 3) := by decide +kernel
theorem dX7_vertexOf_64 : decode cX7_vertexOf 64 = .ok (.iload_n 1, 1) := by decide +kernel
theorem dX7_vertexOf_65 : decode cX7_vertexOf 65 = .ok (.iaload, 1) := by decide +kernel
theorem dX7_vertexOf_66 : decode cX7_vertexOf 66 = .ok (.bipush 20, 2) := by decide +kernel
theorem dX7_vertexOf_68 : decode cX7_vertexOf 68 = .ok (.iadd, 1) := by decide +kernel
theorem dX7_vertexOf_69 : decode cX7_vertexOf 69 = .ok (.ireturn, 1) := by decide +kernel
theorem dX7_vertexOf_70 : decode cX7_vertexOf 70 = .ok (.aload_n 0, 1) := by decide +kernel
theorem dX7_vertexOf_71 : decode cX7_vertexOf 71 = .ok (.getfield 12, 3) := by decide +kernel
theorem dX7_vertexOf_74 : decode cX7_vertexOf 74 = .ok (.getfield 144, 3) := by decide +kernel
theorem dX7_vertexOf_77 : decode cX7_vertexOf 77 = .ok (.iload_n 1, 1) := by decide +kernel
theorem dX7_vertexOf_78 : decode cX7_vertexOf 78 = .ok (.iaload, 1) := by decide +kernel
theorem dX7_vertexOf_79 : decode cX7_vertexOf 79 = .ok (.iconst (-1), 1) := by decide +kernel
theorem dX7_vertexOf_80 : decode cX7_vertexOf 80 = .ok (.if_icmp .ne 8, 3) := by decide +kernel
theorem dX7_vertexOf_83 : decode cX7_vertexOf 83 = .ok (.bipush 8, 2) := by decide +kernel
theorem dX7_vertexOf_85 : decode cX7_vertexOf 85 = .ok (.goto 12, 3) := by decide +kernel
theorem dX7_vertexOf_88 : decode cX7_vertexOf 88 = .ok (.aload_n 0, 1) := by decide +kernel
theorem dX7_vertexOf_89 : decode cX7_vertexOf 89 = .ok (.getfield 12, 3) := by decide +kernel
theorem dX7_vertexOf_92 : decode cX7_vertexOf 92 = .ok (.getfield 144, 3) := by decide +kernel
theorem dX7_vertexOf_95 : decode cX7_vertexOf 95 = .ok (.iload_n 1, 1) := by decide +kernel
theorem dX7_vertexOf_96 : decode cX7_vertexOf 96 = .ok (.iaload, 1) := by decide +kernel
theorem dX7_vertexOf_97 : decode cX7_vertexOf 97 = .ok (.ireturn, 1) := by decide +kernel
theorem dX7_vertexOf_98 : decode cX7_vertexOf 98 = .ok (.aload_n 0, 1) := by decide +kernel
theorem dX7_vertexOf_99 : decode cX7_vertexOf 99 = .ok (.getfield 12, 3) := by decide +kernel
theorem dX7_vertexOf_102 : decode cX7_vertexOf 102 = .ok (.getfield 147, 3) := by decide +kernel
theorem dX7_vertexOf_105 : decode cX7_vertexOf 105 = .ok (.iload_n 1, 1) := by decide +kernel
theorem dX7_vertexOf_106 : decode cX7_vertexOf 106 = .ok (.iaload, 1) := by decide +kernel
theorem dX7_vertexOf_107 : decode cX7_vertexOf 107 = .ok (.ireturn, 1) := by decide +kernel
theorem dX7_vertexOf_108 : decode cX7_vertexOf 108 = .ok (.iconst (-1), 1) := by decide +kernel
theorem dX7_vertexOf_109 : decode cX7_vertexOf 109 = .ok (.ireturn, 1) := by decide +kernel
theorem dX7_numbers_0 : decode cX7_numbers 0 = .ok (.iload_n 1, 1) := by decide +kernel
theorem dX7_numbers_1 : decode cX7_numbers 1 = .ok (.invokestatic 150, 3) := by decide +kernel
theorem dX7_numbers_4 : decode cX7_numbers 4 = .ok (.ifCond .eq 12, 3) := by decide +kernel
theorem dX7_numbers_7 : decode cX7_numbers 7 = .ok (.iload_n 2, 1) := by decide +kernel
theorem dX7_numbers_8 : decode cX7_numbers 8 = .ok (.ifCond .lt 8, 3) := by decide +kernel
theorem dX7_numbers_11 : decode cX7_numbers 11 = .ok (.iload_n 2, 1) := by decide +kernel
theorem dX7_numbers_12 : decode cX7_numbers 12 = .ok (.iconst 4, 1) := by decide +kernel
theorem dX7_numbers_13 : decode cX7_numbers 13 = .ok (.if_icmp .le 5, 3) := by decide +kernel
theorem dX7_numbers_16 : decode cX7_numbers 16 = .ok (.iconst (-1), 1) := by decide +kernel
theorem dX7_numbers_17 : decode cX7_numbers 17 = .ok (.ireturn, 1) := by decide +kernel
theorem dX7_numbers_18 : decode cX7_numbers 18 = .ok (.iload_n 2, 1) := by decide +kernel
theorem dX7_numbers_19 : decode cX7_numbers 19 = .ok (.iconst 4, 1) := by decide +kernel
theorem dX7_numbers_20 : decode cX7_numbers 20 = .ok (.if_icmp .ne 11, 3) := by decide +kernel
theorem dX7_numbers_23 : decode cX7_numbers 23 = .ok (.iload_n 1, 1) := by decide +kernel
theorem dX7_numbers_24 : decode cX7_numbers 24 = .ok (.iconst 4, 1) := by decide +kernel
theorem dX7_numbers_25 : decode cX7_numbers 25 = .ok (.invokestatic 153, 3) := by decide +kernel
theorem dX7_numbers_28 : decode cX7_numbers 28 = .ok (.goto 10, 3) := by decide +kernel
theorem dX7_numbers_31 : decode cX7_numbers 31 = .ok (.iload_n 1, 1) := by decide +kernel
theorem dX7_numbers_32 : decode cX7_numbers 32 = .ok (.iload_n 2, 1) := by decide +kernel
theorem dX7_numbers_33 : decode cX7_numbers 33 = .ok (.invokestatic 153, 3) := by decide +kernel
theorem dX7_numbers_36 : decode cX7_numbers 36 = .ok (.iconst 1, 1) := by decide +kernel
theorem dX7_numbers_37 : decode cX7_numbers 37 = .ok (.iadd, 1) := by decide +kernel
theorem dX7_numbers_38 : decode cX7_numbers 38 = .ok (.ireturn, 1) := by decide +kernel
theorem dX7_count_0 : decode cX7_count 0 = .ok (.iload_n 1, 1) := by decide +kernel
theorem dX7_count_1 : decode cX7_count 1 = .ok (.tableswitch 96 0 6 #[43, 51, 59, 67, 75, 83, 91], 43) := by decide +kernel
theorem dX7_count_44 : decode cX7_count 44 = .ok (.aload_n 0, 1) := by decide +kernel
theorem dX7_count_45 : decode cX7_count 45 = .ok (.getfield 12, 3) := by decide +kernel
theorem dX7_count_48 : decode cX7_count 48 = .ok (.getfield 156, 3) := by decide +kernel
theorem dX7_count_51 : decode cX7_count 51 = .ok (.ireturn, 1) := by decide +kernel
theorem dX7_count_52 : decode cX7_count 52 = .ok (.aload_n 0, 1) := by decide +kernel
theorem dX7_count_53 : decode cX7_count 53 = .ok (.getfield 12, 3) := by decide +kernel
theorem dX7_count_56 : decode cX7_count 56 = .ok (.getfield 159, 3) := by decide +kernel
theorem dX7_count_59 : decode cX7_count 59 = .ok (.ireturn, 1) := by decide +kernel
theorem dX7_count_60 : decode cX7_count 60 = .ok (.aload_n 0, 1) := by decide +kernel
theorem dX7_count_61 : decode cX7_count 61 = .ok (.getfield 12, 3) := by decide +kernel
theorem dX7_count_64 : decode cX7_count 64 = .ok (.getfield 162, 3) := by decide +kernel
theorem dX7_count_67 : decode cX7_count 67 = .ok (.ireturn, 1) := by decide +kernel
theorem dX7_count_68 : decode cX7_count 68 = .ok (.aload_n 0, 1) := by decide +kernel
theorem dX7_count_69 : decode cX7_count 69 = .ok (.getfield 12, 3) := by decide +kernel
theorem dX7_count_72 : decode cX7_count 72 = .ok (.invokevirtual 165, 3) := by decide +kernel
theorem dX7_count_75 : decode cX7_count 75 = .ok (.ireturn, 1) := by decide +kernel
theorem dX7_count_76 : decode cX7_count 76 = .ok (.aload_n 0, 1) := by decide +kernel
theorem dX7_count_77 : decode cX7_count 77 = .ok (.getfield 21, 3) := by decide +kernel
theorem dX7_count_80 : decode cX7_count 80 = .ok (.getfield 168, 3) := by decide +kernel
theorem dX7_count_83 : decode cX7_count 83 = .ok (.ireturn, 1) := by decide +kernel
theorem dX7_count_84 : decode cX7_count 84 = .ok (.aload_n 0, 1) := by decide +kernel
theorem dX7_count_85 : decode cX7_count 85 = .ok (.getfield 62, 3) := by decide +kernel
theorem dX7_count_88 : decode cX7_count 88 = .ok (.getfield 171, 3) := by decide +kernel
theorem dX7_count_91 : decode cX7_count 91 = .ok (.ireturn, 1) := by decide +kernel
theorem dX7_count_92 : decode cX7_count 92 = .ok (.aload_n 0, 1) := by decide +kernel
theorem dX7_count_93 : decode cX7_count 93 = .ok (.getfield 70, 3) := by decide +kernel
theorem dX7_count_96 : decode cX7_count 96 = .ok (.ireturn, 1) := by decide +kernel
theorem dX7_count_97 : decode cX7_count 97 = .ok (.iconst (-1), 1) := by decide +kernel
theorem dX7_count_98 : decode cX7_count 98 = .ok (.ireturn, 1) := by decide +kernel
theorem dX7_centre_0 : decode cX7_centre 0 = .ok (.aload_n 0, 1) := by decide +kernel
theorem dX7_centre_1 : decode cX7_centre 1 = .ok (.getfield 12, 3) := by decide +kernel
theorem dX7_centre_4 : decode cX7_centre 4 = .ok (.iload_n 1, 1) := by decide +kernel
theorem dX7_centre_5 : decode cX7_centre 5 = .ok (.invokevirtual 112, 3) := by decide +kernel
theorem dX7_centre_8 : decode cX7_centre 8 = .ok (.ifCond .eq 17, 3) := by decide +kernel
theorem dX7_centre_11 : decode cX7_centre 11 = .ok (.iload_n 2, 1) := by decide +kernel
theorem dX7_centre_12 : decode cX7_centre 12 = .ok (.invokestatic 174, 3) := by decide +kernel
theorem dX7_centre_15 : decode cX7_centre 15 = .ok (.ifCond .eq 10, 3) := by decide +kernel
theorem dX7_centre_18 : decode cX7_centre 18 = .ok (.iload_n 3, 1) := by decide +kernel
theorem dX7_centre_19 : decode cX7_centre 19 = .ok (.invokestatic 177, 3) := by decide +kernel
theorem dX7_centre_22 : decode cX7_centre 22 = .ok (.ifCond .ne 7, 3) := by decide +kernel
theorem dX7_centre_25 : decode cX7_centre 25 = .ok (.ldc2_w 133, 3) := by decide +kernel
theorem dX7_centre_28 : decode cX7_centre 28 = .ok (.lreturn, 1) := by decide +kernel
theorem dX7_centre_29 : decode cX7_centre 29 = .ok (.aload_n 0, 1) := by decide +kernel
theorem dX7_centre_30 : decode cX7_centre 30 = .ok (.iload_n 1, 1) := by decide +kernel
theorem dX7_centre_31 : decode cX7_centre 31 = .ok (.invokevirtual 116, 3) := by decide +kernel
theorem dX7_centre_34 : decode cX7_centre 34 = .ok (.astore 4, 2) := by decide +kernel
theorem dX7_centre_36 : decode cX7_centre 36 = .ok (.aload 4, 2) := by decide +kernel
theorem dX7_centre_38 : decode cX7_centre 38 = .ok (.invokevirtual 180, 3) := by decide +kernel
theorem dX7_centre_41 : decode cX7_centre 41 = .ok (.ifCond .eq 7, 3) := by decide +kernel
theorem dX7_centre_44 : decode cX7_centre 44 = .ok (.ldc2_w 133, 3) := by decide +kernel
theorem dX7_centre_47 : decode cX7_centre 47 = .ok (.lreturn, 1) := by decide +kernel
theorem dX7_centre_48 : decode cX7_centre 48 = .ok (.iload_n 2, 1) := by decide +kernel
theorem dX7_centre_49 : decode cX7_centre 49 = .ok (.ifCond .ne 11, 3) := by decide +kernel
theorem dX7_centre_52 : decode cX7_centre 52 = .ok (.aload 4, 2) := by decide +kernel
theorem dX7_centre_54 : decode cX7_centre 54 = .ok (.getfield 184, 3) := by decide +kernel
theorem dX7_centre_57 : decode cX7_centre 57 = .ok (.goto 8, 3) := by decide +kernel
theorem dX7_centre_60 : decode cX7_centre 60 = .ok (.aload 4, 2) := by decide +kernel
theorem dX7_centre_62 : decode cX7_centre 62 = .ok (.getfield 187, 3) := by decide +kernel
theorem dX7_centre_65 : decode cX7_centre 65 = .ok (.lstore 5, 2) := by decide +kernel
theorem dX7_centre_67 : decode cX7_centre 67 = .ok (.lload 5, 2) := by decide +kernel
theorem dX7_centre_69 : decode cX7_centre 69 = .ok (.aload 4, 2) := by decide +kernel
theorem dX7_centre_71 : decode cX7_centre 71 = .ok (.invokevirtual 120, 3) := by decide +kernel
theorem dX7_centre_74 : decode cX7_centre 74 = .ok (.i2l, 1) := by decide +kernel
theorem dX7_centre_75 : decode cX7_centre 75 = .ok (.lmul, 1) := by decide +kernel
theorem dX7_centre_76 : decode cX7_centre 76 = .ok (.ldc2_w 190, 3) := by decide +kernel
theorem dX7_centre_79 : decode cX7_centre 79 = .ok (.aload 4, 2) := by decide +kernel
theorem dX7_centre_81 : decode cX7_centre 81 = .ok (.getfield 129, 3) := by decide +kernel
theorem dX7_centre_84 : decode cX7_centre 84 = .ok (.invokestatic 192, 3) := by decide +kernel
theorem dX7_centre_87 : decode cX7_centre 87 = .ok (.lmul, 1) := by decide +kernel
theorem dX7_centre_88 : decode cX7_centre 88 = .ok (.iload_n 3, 1) := by decide +kernel
theorem dX7_centre_89 : decode cX7_centre 89 = .ok (.invokestatic 198, 3) := by decide +kernel
theorem dX7_centre_92 : decode cX7_centre 92 = .ok (.lreturn, 1) := by decide +kernel
theorem dX7_on_0 : decode cX7_on 0 = .ok (.aload_n 0, 1) := by decide +kernel
theorem dX7_on_1 : decode cX7_on 1 = .ok (.getfield 12, 3) := by decide +kernel
theorem dX7_on_4 : decode cX7_on 4 = .ok (.iload_n 1, 1) := by decide +kernel
theorem dX7_on_5 : decode cX7_on 5 = .ok (.invokevirtual 112, 3) := by decide +kernel
theorem dX7_on_8 : decode cX7_on 8 = .ok (.ifCond .eq 11, 3) := by decide +kernel
theorem dX7_on_11 : decode cX7_on 11 = .ok (.iload_n 2, 1) := by decide +kernel
theorem dX7_on_12 : decode cX7_on 12 = .ok (.iload_n 3, 1) := by decide +kernel
theorem dX7_on_13 : decode cX7_on 13 = .ok (.invokestatic 202, 3) := by decide +kernel
theorem dX7_on_16 : decode cX7_on 16 = .ok (.ifCond .ne 5, 3) := by decide +kernel
theorem dX7_on_19 : decode cX7_on 19 = .ok (.iconst (-1), 1) := by decide +kernel
theorem dX7_on_20 : decode cX7_on 20 = .ok (.ireturn, 1) := by decide +kernel
theorem dX7_on_21 : decode cX7_on 21 = .ok (.aload_n 0, 1) := by decide +kernel
theorem dX7_on_22 : decode cX7_on 22 = .ok (.iload_n 1, 1) := by decide +kernel
theorem dX7_on_23 : decode cX7_on 23 = .ok (.invokevirtual 116, 3) := by decide +kernel
theorem dX7_on_26 : decode cX7_on 26 = .ok (.iload_n 2, 1) := by decide +kernel
theorem dX7_on_27 : decode cX7_on 27 = .ok (.iload_n 3, 1) := by decide +kernel
theorem dX7_on_28 : decode cX7_on 28 = .ok (.invokevirtual 206, 3) := by decide +kernel
theorem dX7_on_31 : decode cX7_on 31 = .ok (.ifCond .eq 7, 3) := by decide +kernel
theorem dX7_on_34 : decode cX7_on 34 = .ok (.iconst 1, 1) := by decide +kernel
theorem dX7_on_35 : decode cX7_on 35 = .ok (.goto 4, 3) := by decide +kernel
theorem dX7_on_38 : decode cX7_on 38 = .ok (.iconst 0, 1) := by decide +kernel
theorem dX7_on_39 : decode cX7_on 39 = .ok (.ireturn, 1) := by decide +kernel
theorem dX7_meets_0 : decode cX7_meets 0 = .ok (.aload_n 0, 1) := by decide +kernel
theorem dX7_meets_1 : decode cX7_meets 1 = .ok (.getfield 12, 3) := by decide +kernel
theorem dX7_meets_4 : decode cX7_meets 4 = .ok (.iload_n 1, 1) := by decide +kernel
theorem dX7_meets_5 : decode cX7_meets 5 = .ok (.invokevirtual 112, 3) := by decide +kernel
theorem dX7_meets_8 : decode cX7_meets 8 = .ok (.ifCond .eq 24, 3) := by decide +kernel
theorem dX7_meets_11 : decode cX7_meets 11 = .ok (.aload_n 0, 1) := by decide +kernel
theorem dX7_meets_12 : decode cX7_meets 12 = .ok (.getfield 12, 3) := by decide +kernel
theorem dX7_meets_15 : decode cX7_meets 15 = .ok (.iload_n 2, 1) := by decide +kernel
theorem dX7_meets_16 : decode cX7_meets 16 = .ok (.invokevirtual 112, 3) := by decide +kernel
theorem dX7_meets_19 : decode cX7_meets 19 = .ok (.ifCond .eq 13, 3) := by decide +kernel
theorem dX7_meets_22 : decode cX7_meets 22 = .ok (.iload_n 1, 1) := by decide +kernel
theorem dX7_meets_23 : decode cX7_meets 23 = .ok (.iload_n 2, 1) := by decide +kernel
theorem dX7_meets_24 : decode cX7_meets 24 = .ok (.if_icmp .eq 8, 3) := by decide +kernel
theorem dX7_meets_27 : decode cX7_meets 27 = .ok (.iload_n 3, 1) := by decide +kernel
theorem dX7_meets_28 : decode cX7_meets 28 = .ok (.iconst (-1), 1) := by decide +kernel
theorem dX7_meets_29 : decode cX7_meets 29 = .ok (.if_icmp .ge 5, 3) := by decide +kernel
theorem dX7_meets_32 : decode cX7_meets 32 = .ok (.iconst (-1), 1) := by decide +kernel
theorem dX7_meets_33 : decode cX7_meets 33 = .ok (.ireturn, 1) := by decide +kernel
theorem dX7_meets_34 : decode cX7_meets 34 = .ok (.aload_n 0, 1) := by decide +kernel
theorem dX7_meets_35 : decode cX7_meets 35 = .ok (.iload_n 1, 1) := by decide +kernel
theorem dX7_meets_36 : decode cX7_meets 36 = .ok (.invokevirtual 116, 3) := by decide +kernel
theorem dX7_meets_39 : decode cX7_meets 39 = .ok (.astore 4, 2) := by decide +kernel
theorem dX7_meets_41 : decode cX7_meets 41 = .ok (.aload_n 0, 1) := by decide +kernel
theorem dX7_meets_42 : decode cX7_meets 42 = .ok (.iload_n 2, 1) := by decide +kernel
theorem dX7_meets_43 : decode cX7_meets 43 = .ok (.invokevirtual 116, 3) := by decide +kernel
theorem dX7_meets_46 : decode cX7_meets 46 = .ok (.astore 5, 2) := by decide +kernel
theorem dX7_meets_48 : decode cX7_meets 48 = .ok (.iconst 0, 1) := by decide +kernel
theorem dX7_meets_49 : decode cX7_meets 49 = .ok (.istore 6, 2) := by decide +kernel
theorem dX7_meets_51 : decode cX7_meets 51 = .ok (.bipush (-20), 2) := by decide +kernel
theorem dX7_meets_53 : decode cX7_meets 53 = .ok (.istore 7, 2) := by decide +kernel
theorem dX7_meets_55 : decode cX7_meets 55 = .ok (.iload 7, 2) := by decide +kernel
theorem dX7_meets_57 : decode cX7_meets 57 = .ok (.bipush 20, 2) := by decide +kernel
theorem dX7_meets_59 : decode cX7_meets 59 = .ok (.if_icmp .gt 75, 3) := by decide +kernel
theorem dX7_meets_62 : decode cX7_meets 62 = .ok (.bipush (-20), 2) := by decide +kernel
theorem dX7_meets_64 : decode cX7_meets 64 = .ok (.istore 8, 2) := by decide +kernel
theorem dX7_meets_66 : decode cX7_meets 66 = .ok (.iload 8, 2) := by decide +kernel
theorem dX7_meets_68 : decode cX7_meets 68 = .ok (.bipush 20, 2) := by decide +kernel
theorem dX7_meets_70 : decode cX7_meets 70 = .ok (.if_icmp .gt 58, 3) := by decide +kernel
theorem dX7_meets_73 : decode cX7_meets 73 = .ok (.aload 4, 2) := by decide +kernel
theorem dX7_meets_75 : decode cX7_meets 75 = .ok (.iload 7, 2) := by decide +kernel
theorem dX7_meets_77 : decode cX7_meets 77 = .ok (.iload 8, 2) := by decide +kernel
theorem dX7_meets_79 : decode cX7_meets 79 = .ok (.invokevirtual 206, 3) := by decide +kernel
theorem dX7_meets_82 : decode cX7_meets 82 = .ok (.ifCond .eq 40, 3) := by decide +kernel
theorem dX7_meets_85 : decode cX7_meets 85 = .ok (.aload 5, 2) := by decide +kernel
theorem dX7_meets_87 : decode cX7_meets 87 = .ok (.iload 7, 2) := by decide +kernel
theorem dX7_meets_89 : decode cX7_meets 89 = .ok (.iload 8, 2) := by decide +kernel
theorem dX7_meets_91 : decode cX7_meets 91 = .ok (.invokevirtual 206, 3) := by decide +kernel
theorem dX7_meets_94 : decode cX7_meets 94 = .ok (.ifCond .eq 28, 3) := by decide +kernel
theorem dX7_meets_97 : decode cX7_meets 97 = .ok (.iload 6, 2) := by decide +kernel
theorem dX7_meets_99 : decode cX7_meets 99 = .ok (.iload_n 3, 1) := by decide +kernel
theorem dX7_meets_100 : decode cX7_meets 100 = .ok (.if_icmp .ne 19, 3) := by decide +kernel
theorem dX7_meets_103 : decode cX7_meets 103 = .ok (.sipush 1000, 3) := by decide +kernel
theorem dX7_meets_106 : decode cX7_meets 106 = .ok (.iload 7, 2) := by decide +kernel
theorem dX7_meets_108 : decode cX7_meets 108 = .ok (.bipush 20, 2) := by decide +kernel
theorem dX7_meets_110 : decode cX7_meets 110 = .ok (.iadd, 1) := by decide +kernel
theorem dX7_meets_111 : decode cX7_meets 111 = .ok (.imul, 1) := by decide +kernel
theorem dX7_meets_112 : decode cX7_meets 112 = .ok (.iload 8, 2) := by decide +kernel
theorem dX7_meets_114 : decode cX7_meets 114 = .ok (.iadd, 1) := by decide +kernel
theorem dX7_meets_115 : decode cX7_meets 115 = .ok (.bipush 20, 2) := by decide +kernel
theorem dX7_meets_117 : decode cX7_meets 117 = .ok (.iadd, 1) := by decide +kernel
theorem dX7_meets_118 : decode cX7_meets 118 = .ok (.ireturn, 1) := by decide +kernel
theorem dX7_meets_119 : decode cX7_meets 119 = .ok (.iinc 6 1, 3) := by decide +kernel
theorem dX7_meets_122 : decode cX7_meets 122 = .ok (.iinc 8 1, 3) := by decide +kernel
theorem dX7_meets_125 : decode cX7_meets 125 = .ok (.goto (-59), 3) := by decide +kernel
theorem dX7_meets_128 : decode cX7_meets 128 = .ok (.iinc 7 1, 3) := by decide +kernel
theorem dX7_meets_131 : decode cX7_meets 131 = .ok (.goto (-76), 3) := by decide +kernel
theorem dX7_meets_134 : decode cX7_meets 134 = .ok (.iload_n 3, 1) := by decide +kernel
theorem dX7_meets_135 : decode cX7_meets 135 = .ok (.iconst (-1), 1) := by decide +kernel
theorem dX7_meets_136 : decode cX7_meets 136 = .ok (.if_icmp .ne 8, 3) := by decide +kernel
theorem dX7_meets_139 : decode cX7_meets 139 = .ok (.iload 6, 2) := by decide +kernel
theorem dX7_meets_141 : decode cX7_meets 141 = .ok (.goto 5, 3) := by decide +kernel
theorem dX7_meets_144 : decode cX7_meets 144 = .ok (.bipush (-2), 2) := by decide +kernel
theorem dX7_meets_146 : decode cX7_meets 146 = .ok (.ireturn, 1) := by decide +kernel
theorem dX7_push_0 : decode cX7_push 0 = .ok (.aload_n 0, 1) := by decide +kernel
theorem dX7_push_1 : decode cX7_push 1 = .ok (.iload_n 1, 1) := by decide +kernel
theorem dX7_push_2 : decode cX7_push 2 = .ok (.iload_n 2, 1) := by decide +kernel
theorem dX7_push_3 : decode cX7_push 3 = .ok (.iload_n 3, 1) := by decide +kernel
theorem dX7_push_4 : decode cX7_push 4 = .ok (.invokevirtual 209, 3) := by decide +kernel
theorem dX7_push_7 : decode cX7_push 7 = .ok (.ifCond .eq 19, 3) := by decide +kernel
theorem dX7_push_10 : decode cX7_push 10 = .ok (.iload 4, 2) := by decide +kernel
theorem dX7_push_12 : decode cX7_push 12 = .ok (.invokestatic 174, 3) := by decide +kernel
theorem dX7_push_15 : decode cX7_push 15 = .ok (.ifCond .eq 11, 3) := by decide +kernel
theorem dX7_push_18 : decode cX7_push 18 = .ok (.iload 5, 2) := by decide +kernel
theorem dX7_push_20 : decode cX7_push 20 = .ok (.invokestatic 177, 3) := by decide +kernel
theorem dX7_push_23 : decode cX7_push 23 = .ok (.ifCond .ne 7, 3) := by decide +kernel
theorem dX7_push_26 : decode cX7_push 26 = .ok (.ldc2_w 133, 3) := by decide +kernel
theorem dX7_push_29 : decode cX7_push 29 = .ok (.lreturn, 1) := by decide +kernel
theorem dX7_push_30 : decode cX7_push 30 = .ok (.aload_n 0, 1) := by decide +kernel
theorem dX7_push_31 : decode cX7_push 31 = .ok (.iload_n 1, 1) := by decide +kernel
theorem dX7_push_32 : decode cX7_push 32 = .ok (.iload_n 2, 1) := by decide +kernel
theorem dX7_push_33 : decode cX7_push 33 = .ok (.iload_n 3, 1) := by decide +kernel
theorem dX7_push_34 : decode cX7_push 34 = .ok (.aload_n 0, 1) := by decide +kernel
theorem dX7_push_35 : decode cX7_push 35 = .ok (.getfield 12, 3) := by decide +kernel
theorem dX7_push_38 : decode cX7_push 38 = .ok (.getfield 156, 3) := by decide +kernel
theorem dX7_push_41 : decode cX7_push 41 = .ok (.invokevirtual 213, 3) := by decide +kernel
theorem dX7_push_44 : decode cX7_push 44 = .ok (.iload 4, 2) := by decide +kernel
theorem dX7_push_46 : decode cX7_push 46 = .ok (.iload 5, 2) := by decide +kernel
theorem dX7_push_48 : decode cX7_push 48 = .ok (.invokevirtual 217, 3) := by decide +kernel
theorem dX7_push_51 : decode cX7_push 51 = .ok (.lreturn, 1) := by decide +kernel
theorem dX7_fits_0 : decode cX7_fits 0 = .ok (.iload_n 1, 1) := by decide +kernel
theorem dX7_fits_1 : decode cX7_fits 1 = .ok (.iload_n 2, 1) := by decide +kernel
theorem dX7_fits_2 : decode cX7_fits 2 = .ok (.invokestatic 202, 3) := by decide +kernel
theorem dX7_fits_5 : decode cX7_fits 5 = .ok (.ifCond .ne 5, 3) := by decide +kernel
theorem dX7_fits_8 : decode cX7_fits 8 = .ok (.iconst (-1), 1) := by decide +kernel
theorem dX7_fits_9 : decode cX7_fits 9 = .ok (.ireturn, 1) := by decide +kernel
theorem dX7_fits_10 : decode cX7_fits 10 = .ok (.iconst 0, 1) := by decide +kernel
theorem dX7_fits_11 : decode cX7_fits 11 = .ok (.istore_n 3, 1) := by decide +kernel
theorem dX7_fits_12 : decode cX7_fits 12 = .ok (.iconst 0, 1) := by decide +kernel
theorem dX7_fits_13 : decode cX7_fits 13 = .ok (.istore 4, 2) := by decide +kernel
theorem dX7_fits_15 : decode cX7_fits 15 = .ok (.iload 4, 2) := by decide +kernel
theorem dX7_fits_17 : decode cX7_fits 17 = .ok (.aload_n 0, 1) := by decide +kernel
theorem dX7_fits_18 : decode cX7_fits 18 = .ok (.getfield 12, 3) := by decide +kernel
theorem dX7_fits_21 : decode cX7_fits 21 = .ok (.getfield 159, 3) := by decide +kernel
theorem dX7_fits_24 : decode cX7_fits 24 = .ok (.if_icmp .ge 30, 3) := by decide +kernel
theorem dX7_fits_27 : decode cX7_fits 27 = .ok (.aload_n 0, 1) := by decide +kernel
theorem dX7_fits_28 : decode cX7_fits 28 = .ok (.iload 4, 2) := by decide +kernel
theorem dX7_fits_30 : decode cX7_fits 30 = .ok (.invokevirtual 116, 3) := by decide +kernel
theorem dX7_fits_33 : decode cX7_fits 33 = .ok (.iload_n 1, 1) := by decide +kernel
theorem dX7_fits_34 : decode cX7_fits 34 = .ok (.iload_n 2, 1) := by decide +kernel
theorem dX7_fits_35 : decode cX7_fits 35 = .ok (.invokevirtual 206, 3) := by decide +kernel
theorem dX7_fits_38 : decode cX7_fits 38 = .ok (.ifCond .eq 10, 3) := by decide +kernel
theorem dX7_fits_41 : decode cX7_fits 41 = .ok (.iload_n 3, 1) := by decide +kernel
theorem dX7_fits_42 : decode cX7_fits 42 = .ok (.iconst 1, 1) := by decide +kernel
theorem dX7_fits_43 : decode cX7_fits 43 = .ok (.iload 4, 2) := by decide +kernel
theorem dX7_fits_45 : decode cX7_fits 45 = .ok (.ishl, 1) := by decide +kernel
theorem dX7_fits_46 : decode cX7_fits 46 = .ok (.ior, 1) := by decide +kernel
theorem dX7_fits_47 : decode cX7_fits 47 = .ok (.istore_n 3, 1) := by decide +kernel
theorem dX7_fits_48 : decode cX7_fits 48 = .ok (.iinc 4 1, 3) := by decide +kernel
theorem dX7_fits_51 : decode cX7_fits 51 = .ok (.goto (-36), 3) := by decide +kernel
theorem dX7_fits_54 : decode cX7_fits 54 = .ok (.iload_n 3, 1) := by decide +kernel
theorem dX7_fits_55 : decode cX7_fits 55 = .ok (.ireturn, 1) := by decide +kernel
theorem dX7_through_0 : decode cX7_through 0 = .ok (.aload_n 0, 1) := by decide +kernel
theorem dX7_through_1 : decode cX7_through 1 = .ok (.getfield 12, 3) := by decide +kernel
theorem dX7_through_4 : decode cX7_through 4 = .ok (.getfield 159, 3) := by decide +kernel
theorem dX7_through_7 : decode cX7_through 7 = .ok (.ifCond .ne 6, 3) := by decide +kernel
theorem dX7_through_10 : decode cX7_through 10 = .ok (.bipush (-2), 2) := by decide +kernel
theorem dX7_through_12 : decode cX7_through 12 = .ok (.ireturn, 1) := by decide +kernel
theorem dX7_through_13 : decode cX7_through 13 = .ok (.iconst 0, 1) := by decide +kernel
theorem dX7_through_14 : decode cX7_through 14 = .ok (.istore_n 1, 1) := by decide +kernel
theorem dX7_through_15 : decode cX7_through 15 = .ok (.iload_n 1, 1) := by decide +kernel
theorem dX7_through_16 : decode cX7_through 16 = .ok (.aload_n 0, 1) := by decide +kernel
theorem dX7_through_17 : decode cX7_through 17 = .ok (.getfield 12, 3) := by decide +kernel
theorem dX7_through_20 : decode cX7_through 20 = .ok (.getfield 159, 3) := by decide +kernel
theorem dX7_through_23 : decode cX7_through 23 = .ok (.if_icmp .ge 15, 3) := by decide +kernel
theorem dX7_through_26 : decode cX7_through 26 = .ok (.aload_n 0, 1) := by decide +kernel
theorem dX7_through_27 : decode cX7_through 27 = .ok (.iload_n 1, 1) := by decide +kernel
theorem dX7_through_28 : decode cX7_through 28 = .ok (.invokevirtual 116, 3) := by decide +kernel
theorem dX7_through_31 : decode cX7_through 31 = .ok (.pop, 1) := by decide +kernel
theorem dX7_through_32 : decode cX7_through 32 = .ok (.iinc 1 1, 3) := by decide +kernel
theorem dX7_through_35 : decode cX7_through 35 = .ok (.goto (-20), 3) := by decide +kernel
theorem dX7_through_38 : decode cX7_through 38 = .ok (.iconst (-1), 1) := by decide +kernel
theorem dX7_through_39 : decode cX7_through 39 = .ok (.istore_n 1, 1) := by decide +kernel
theorem dX7_through_40 : decode cX7_through 40 = .ok (.iconst 0, 1) := by decide +kernel
theorem dX7_through_41 : decode cX7_through 41 = .ok (.istore_n 2, 1) := by decide +kernel
theorem dX7_through_42 : decode cX7_through 42 = .ok (.bipush (-20), 2) := by decide +kernel
theorem dX7_through_44 : decode cX7_through 44 = .ok (.istore_n 3, 1) := by decide +kernel
theorem dX7_through_45 : decode cX7_through 45 = .ok (.iload_n 3, 1) := by decide +kernel
theorem dX7_through_46 : decode cX7_through 46 = .ok (.bipush 20, 2) := by decide +kernel
theorem dX7_through_48 : decode cX7_through 48 = .ok (.if_icmp .gt 58, 3) := by decide +kernel
theorem dX7_through_51 : decode cX7_through 51 = .ok (.bipush (-20), 2) := by decide +kernel
theorem dX7_through_53 : decode cX7_through 53 = .ok (.istore 4, 2) := by decide +kernel
theorem dX7_through_55 : decode cX7_through 55 = .ok (.iload 4, 2) := by decide +kernel
theorem dX7_through_57 : decode cX7_through 57 = .ok (.bipush 20, 2) := by decide +kernel
theorem dX7_through_59 : decode cX7_through 59 = .ok (.if_icmp .gt 41, 3) := by decide +kernel
theorem dX7_through_62 : decode cX7_through 62 = .ok (.aload_n 0, 1) := by decide +kernel
theorem dX7_through_63 : decode cX7_through 63 = .ok (.iload_n 3, 1) := by decide +kernel
theorem dX7_through_64 : decode cX7_through 64 = .ok (.iload 4, 2) := by decide +kernel
theorem dX7_through_66 : decode cX7_through 66 = .ok (.invokevirtual 221, 3) := by decide +kernel
theorem dX7_through_69 : decode cX7_through 69 = .ok (.istore 5, 2) := by decide +kernel
theorem dX7_through_71 : decode cX7_through 71 = .ok (.iload 5, 2) := by decide +kernel
theorem dX7_through_73 : decode cX7_through 73 = .ok (.iload_n 1, 1) := by decide +kernel
theorem dX7_through_74 : decode cX7_through 74 = .ok (.if_icmp .le 20, 3) := by decide +kernel
theorem dX7_through_77 : decode cX7_through 77 = .ok (.iload 5, 2) := by decide +kernel
theorem dX7_through_79 : decode cX7_through 79 = .ok (.istore_n 1, 1) := by decide +kernel
theorem dX7_through_80 : decode cX7_through 80 = .ok (.bipush 100, 2) := by decide +kernel
theorem dX7_through_82 : decode cX7_through 82 = .ok (.iload_n 3, 1) := by decide +kernel
theorem dX7_through_83 : decode cX7_through 83 = .ok (.bipush 20, 2) := by decide +kernel
theorem dX7_through_85 : decode cX7_through 85 = .ok (.iadd, 1) := by decide +kernel
theorem dX7_through_86 : decode cX7_through 86 = .ok (.imul, 1) := by decide +kernel
theorem dX7_through_87 : decode cX7_through 87 = .ok (.iload 4, 2) := by decide +kernel
theorem dX7_through_89 : decode cX7_through 89 = .ok (.iadd, 1) := by decide +kernel
theorem dX7_through_90 : decode cX7_through 90 = .ok (.bipush 20, 2) := by decide +kernel
theorem dX7_through_92 : decode cX7_through 92 = .ok (.iadd, 1) := by decide +kernel
theorem dX7_through_93 : decode cX7_through 93 = .ok (.istore_n 2, 1) := by decide +kernel
theorem dX7_through_94 : decode cX7_through 94 = .ok (.iinc 4 1, 3) := by decide +kernel
theorem dX7_through_97 : decode cX7_through 97 = .ok (.goto (-42), 3) := by decide +kernel
theorem dX7_through_100 : decode cX7_through 100 = .ok (.iinc 3 1, 3) := by decide +kernel
theorem dX7_through_103 : decode cX7_through 103 = .ok (.goto (-58), 3) := by decide +kernel
theorem dX7_through_106 : decode cX7_through 106 = .ok (.sipush 10000, 3) := by decide +kernel
theorem dX7_through_109 : decode cX7_through 109 = .ok (.iload_n 1, 1) := by decide +kernel
theorem dX7_through_110 : decode cX7_through 110 = .ok (.imul, 1) := by decide +kernel
theorem dX7_through_111 : decode cX7_through 111 = .ok (.iload_n 2, 1) := by decide +kernel
theorem dX7_through_112 : decode cX7_through 112 = .ok (.iadd, 1) := by decide +kernel
theorem dX7_through_113 : decode cX7_through 113 = .ok (.ireturn, 1) := by decide +kernel
theorem dX7_lost_0 : decode cX7_lost 0 = .ok (.aload_n 0, 1) := by decide +kernel
theorem dX7_lost_1 : decode cX7_lost 1 = .ok (.iload_n 1, 1) := by decide +kernel
theorem dX7_lost_2 : decode cX7_lost 2 = .ok (.invokevirtual 224, 3) := by decide +kernel
theorem dX7_lost_5 : decode cX7_lost 5 = .ok (.ifCond .eq 19, 3) := by decide +kernel
theorem dX7_lost_8 : decode cX7_lost 8 = .ok (.iload_n 2, 1) := by decide +kernel
theorem dX7_lost_9 : decode cX7_lost 9 = .ok (.ifCond .lt 15, 3) := by decide +kernel
theorem dX7_lost_12 : decode cX7_lost 12 = .ok (.iload_n 2, 1) := by decide +kernel
theorem dX7_lost_13 : decode cX7_lost 13 = .ok (.iconst 2, 1) := by decide +kernel
theorem dX7_lost_14 : decode cX7_lost 14 = .ok (.if_icmp .gt 10, 3) := by decide +kernel
theorem dX7_lost_17 : decode cX7_lost 17 = .ok (.iload_n 3, 1) := by decide +kernel
theorem dX7_lost_18 : decode cX7_lost 18 = .ok (.invokestatic 177, 3) := by decide +kernel
theorem dX7_lost_21 : decode cX7_lost 21 = .ok (.ifCond .ne 7, 3) := by decide +kernel
theorem dX7_lost_24 : decode cX7_lost 24 = .ok (.ldc2_w 133, 3) := by decide +kernel
theorem dX7_lost_27 : decode cX7_lost 27 = .ok (.lreturn, 1) := by decide +kernel
theorem dX7_lost_28 : decode cX7_lost 28 = .ok (.aload_n 0, 1) := by decide +kernel
theorem dX7_lost_29 : decode cX7_lost 29 = .ok (.iload_n 1, 1) := by decide +kernel
theorem dX7_lost_30 : decode cX7_lost 30 = .ok (.iconst (-1), 1) := by decide +kernel
theorem dX7_lost_31 : decode cX7_lost 31 = .ok (.invokevirtual 227, 3) := by decide +kernel
theorem dX7_lost_34 : decode cX7_lost 34 = .ok (.astore 4, 2) := by decide +kernel
theorem dX7_lost_36 : decode cX7_lost 36 = .ok (.iload_n 2, 1) := by decide +kernel
theorem dX7_lost_37 : decode cX7_lost 37 = .ok (.iconst 2, 1) := by decide +kernel
theorem dX7_lost_38 : decode cX7_lost 38 = .ok (.if_icmp .ne 17, 3) := by decide +kernel
theorem dX7_lost_41 : decode cX7_lost 41 = .ok (.iload_n 3, 1) := by decide +kernel
theorem dX7_lost_42 : decode cX7_lost 42 = .ok (.ifCond .ne 11, 3) := by decide +kernel
theorem dX7_lost_45 : decode cX7_lost 45 = .ok (.aload 4, 2) := by decide +kernel
theorem dX7_lost_47 : decode cX7_lost 47 = .ok (.invokevirtual 231, 3) := by decide +kernel
theorem dX7_lost_50 : decode cX7_lost 50 = .ok (.goto 4, 3) := by decide +kernel
theorem dX7_lost_53 : decode cX7_lost 53 = .ok (.lconst 1, 1) := by decide +kernel
theorem dX7_lost_54 : decode cX7_lost 54 = .ok (.lreturn, 1) := by decide +kernel
theorem dX7_lost_55 : decode cX7_lost 55 = .ok (.aload 4, 2) := by decide +kernel
theorem dX7_lost_57 : decode cX7_lost 57 = .ok (.iload_n 2, 1) := by decide +kernel
theorem dX7_lost_58 : decode cX7_lost 58 = .ok (.iload_n 3, 1) := by decide +kernel
theorem dX7_lost_59 : decode cX7_lost 59 = .ok (.invokevirtual 217, 3) := by decide +kernel
theorem dX7_lost_62 : decode cX7_lost 62 = .ok (.lreturn, 1) := by decide +kernel
theorem dX7_even_0 : decode cX7_even 0 = .ok (.aload_n 0, 1) := by decide +kernel
theorem dX7_even_1 : decode cX7_even 1 = .ok (.getfield 12, 3) := by decide +kernel
theorem dX7_even_4 : decode cX7_even 4 = .ok (.iload_n 1, 1) := by decide +kernel
theorem dX7_even_5 : decode cX7_even 5 = .ok (.invokevirtual 135, 3) := by decide +kernel
theorem dX7_even_8 : decode cX7_even 8 = .ok (.ifCond .ne 5, 3) := by decide +kernel
theorem dX7_even_11 : decode cX7_even 11 = .ok (.iconst (-1), 1) := by decide +kernel
theorem dX7_even_12 : decode cX7_even 12 = .ok (.ireturn, 1) := by decide +kernel
theorem dX7_even_13 : decode cX7_even 13 = .ok (.aload_n 0, 1) := by decide +kernel
theorem dX7_even_14 : decode cX7_even 14 = .ok (.iload_n 1, 1) := by decide +kernel
theorem dX7_even_15 : decode cX7_even 15 = .ok (.invokevirtual 224, 3) := by decide +kernel
theorem dX7_even_18 : decode cX7_even 18 = .ok (.ifCond .ne 6, 3) := by decide +kernel
theorem dX7_even_21 : decode cX7_even 21 = .ok (.bipush (-2), 2) := by decide +kernel
theorem dX7_even_23 : decode cX7_even 23 = .ok (.ireturn, 1) := by decide +kernel
theorem dX7_even_24 : decode cX7_even 24 = .ok (.aload_n 0, 1) := by decide +kernel
theorem dX7_even_25 : decode cX7_even 25 = .ok (.iload_n 1, 1) := by decide +kernel
theorem dX7_even_26 : decode cX7_even 26 = .ok (.iconst (-1), 1) := by decide +kernel
theorem dX7_even_27 : decode cX7_even 27 = .ok (.invokevirtual 227, 3) := by decide +kernel
theorem dX7_even_30 : decode cX7_even 30 = .ok (.invokevirtual 234, 3) := by decide +kernel
theorem dX7_even_33 : decode cX7_even 33 = .ok (.ifCond .eq 7, 3) := by decide +kernel
theorem dX7_even_36 : decode cX7_even 36 = .ok (.iconst 1, 1) := by decide +kernel
theorem dX7_even_37 : decode cX7_even 37 = .ok (.goto 4, 3) := by decide +kernel
theorem dX7_even_40 : decode cX7_even 40 = .ok (.iconst 0, 1) := by decide +kernel
theorem dX7_even_41 : decode cX7_even 41 = .ok (.ireturn, 1) := by decide +kernel
theorem dX7_came_0 : decode cX7_came 0 = .ok (.aload_n 0, 1) := by decide +kernel
theorem dX7_came_1 : decode cX7_came 1 = .ok (.getfield 12, 3) := by decide +kernel
theorem dX7_came_4 : decode cX7_came 4 = .ok (.iload_n 1, 1) := by decide +kernel
theorem dX7_came_5 : decode cX7_came 5 = .ok (.invokevirtual 135, 3) := by decide +kernel
theorem dX7_came_8 : decode cX7_came 8 = .ok (.ifCond .ne 5, 3) := by decide +kernel
theorem dX7_came_11 : decode cX7_came 11 = .ok (.iconst (-1), 1) := by decide +kernel
theorem dX7_came_12 : decode cX7_came 12 = .ok (.ireturn, 1) := by decide +kernel
theorem dX7_came_13 : decode cX7_came 13 = .ok (.aload_n 0, 1) := by decide +kernel
theorem dX7_came_14 : decode cX7_came 14 = .ok (.getfield 12, 3) := by decide +kernel
theorem dX7_came_17 : decode cX7_came 17 = .ok (.getfield 144, 3) := by decide +kernel
theorem dX7_came_20 : decode cX7_came 20 = .ok (.iload_n 1, 1) := by decide +kernel
theorem dX7_came_21 : decode cX7_came 21 = .ok (.iaload, 1) := by decide +kernel
theorem dX7_came_22 : decode cX7_came 22 = .ok (.iconst (-1), 1) := by decide +kernel
theorem dX7_came_23 : decode cX7_came 23 = .ok (.if_icmp .eq 6, 3) := by decide +kernel
theorem dX7_came_26 : decode cX7_came 26 = .ok (.bipush (-5), 2) := by decide +kernel
theorem dX7_came_28 : decode cX7_came 28 = .ok (.ireturn, 1) := by decide +kernel
theorem dX7_came_29 : decode cX7_came 29 = .ok (.aload_n 0, 1) := by decide +kernel
theorem dX7_came_30 : decode cX7_came 30 = .ok (.iload_n 1, 1) := by decide +kernel
theorem dX7_came_31 : decode cX7_came 31 = .ok (.invokevirtual 224, 3) := by decide +kernel
theorem dX7_came_34 : decode cX7_came 34 = .ok (.ifCond .ne 6, 3) := by decide +kernel
theorem dX7_came_37 : decode cX7_came 37 = .ok (.bipush (-2), 2) := by decide +kernel
theorem dX7_came_39 : decode cX7_came 39 = .ok (.ireturn, 1) := by decide +kernel
theorem dX7_came_40 : decode cX7_came 40 = .ok (.aload_n 0, 1) := by decide +kernel
theorem dX7_came_41 : decode cX7_came 41 = .ok (.iload_n 1, 1) := by decide +kernel
theorem dX7_came_42 : decode cX7_came 42 = .ok (.iconst (-1), 1) := by decide +kernel
theorem dX7_came_43 : decode cX7_came 43 = .ok (.invokevirtual 227, 3) := by decide +kernel
theorem dX7_came_46 : decode cX7_came 46 = .ok (.astore_n 2, 1) := by decide +kernel
theorem dX7_came_47 : decode cX7_came 47 = .ok (.iconst 0, 1) := by decide +kernel
theorem dX7_came_48 : decode cX7_came 48 = .ok (.istore_n 3, 1) := by decide +kernel
theorem dX7_came_49 : decode cX7_came 49 = .ok (.iconst 0, 1) := by decide +kernel
theorem dX7_came_50 : decode cX7_came 50 = .ok (.istore 4, 2) := by decide +kernel
theorem dX7_came_52 : decode cX7_came 52 = .ok (.iload 4, 2) := by decide +kernel
theorem dX7_came_54 : decode cX7_came 54 = .ok (.aload_n 0, 1) := by decide +kernel
theorem dX7_came_55 : decode cX7_came 55 = .ok (.getfield 12, 3) := by decide +kernel
theorem dX7_came_58 : decode cX7_came 58 = .ok (.getfield 162, 3) := by decide +kernel
theorem dX7_came_61 : decode cX7_came 61 = .ok (.if_icmp .ge 71, 3) := by decide +kernel
theorem dX7_came_64 : decode cX7_came 64 = .ok (.aload_n 0, 1) := by decide +kernel
theorem dX7_came_65 : decode cX7_came 65 = .ok (.getfield 12, 3) := by decide +kernel
theorem dX7_came_68 : decode cX7_came 68 = .ok (.getfield 138, 3) := by decide +kernel
theorem dX7_came_71 : decode cX7_came 71 = .ok (.iload 4, 2) := by decide +kernel
theorem dX7_came_73 : decode cX7_came 73 = .ok (.iaload, 1) := by decide +kernel
theorem dX7_came_74 : decode cX7_came 74 = .ok (.aload_n 0, 1) := by decide +kernel
theorem dX7_came_75 : decode cX7_came 75 = .ok (.getfield 12, 3) := by decide +kernel
theorem dX7_came_78 : decode cX7_came 78 = .ok (.getfield 138, 3) := by decide +kernel
theorem dX7_came_81 : decode cX7_came 81 = .ok (.iload_n 1, 1) := by decide +kernel
theorem dX7_came_82 : decode cX7_came 82 = .ok (.iaload, 1) := by decide +kernel
theorem dX7_came_83 : decode cX7_came 83 = .ok (.isub, 1) := by decide +kernel
theorem dX7_came_84 : decode cX7_came 84 = .ok (.istore 5, 2) := by decide +kernel
theorem dX7_came_86 : decode cX7_came 86 = .ok (.aload_n 0, 1) := by decide +kernel
theorem dX7_came_87 : decode cX7_came 87 = .ok (.getfield 12, 3) := by decide +kernel
theorem dX7_came_90 : decode cX7_came 90 = .ok (.getfield 141, 3) := by decide +kernel
theorem dX7_came_93 : decode cX7_came 93 = .ok (.iload 4, 2) := by decide +kernel
theorem dX7_came_95 : decode cX7_came 95 = .ok (.iaload, 1) := by decide +kernel
theorem dX7_came_96 : decode cX7_came 96 = .ok (.aload_n 0, 1) := by decide +kernel
theorem dX7_came_97 : decode cX7_came 97 = .ok (.getfield 12, 3) := by decide +kernel
theorem dX7_came_100 : decode cX7_came 100 = .ok (.getfield 141, 3) := by decide +kernel
theorem dX7_came_103 : decode cX7_came 103 = .ok (.iload_n 1, 1) := by decide +kernel
theorem dX7_came_104 : decode cX7_came 104 = .ok (.iaload, 1) := by decide +kernel
theorem dX7_came_105 : decode cX7_came 105 = .ok (.isub, 1) := by decide +kernel
theorem dX7_came_106 : decode cX7_came 106 = .ok (.istore 6, 2) := by decide +kernel
theorem dX7_came_108 : decode cX7_came 108 = .ok (.aload_n 2, 1) := by decide +kernel
theorem dX7_came_109 : decode cX7_came 109 = .ok (.iload 5, 2) := by decide +kernel
theorem dX7_came_111 : decode cX7_came 111 = .ok (.iload 6, 2) := by decide +kernel
theorem dX7_came_113 : decode cX7_came 113 = .ok (.invokevirtual 237, 3) := by decide +kernel
theorem dX7_came_116 : decode cX7_came 116 = .ok (.ifCond .eq 10, 3) := by decide +kernel
theorem dX7_came_119 : decode cX7_came 119 = .ok (.iload_n 3, 1) := by decide +kernel
theorem dX7_came_120 : decode cX7_came 120 = .ok (.iconst 1, 1) := by decide +kernel
theorem dX7_came_121 : decode cX7_came 121 = .ok (.iload 4, 2) := by decide +kernel
theorem dX7_came_123 : decode cX7_came 123 = .ok (.ishl, 1) := by decide +kernel
theorem dX7_came_124 : decode cX7_came 124 = .ok (.ior, 1) := by decide +kernel
theorem dX7_came_125 : decode cX7_came 125 = .ok (.istore_n 3, 1) := by decide +kernel
theorem dX7_came_126 : decode cX7_came 126 = .ok (.iinc 4 1, 3) := by decide +kernel
theorem dX7_came_129 : decode cX7_came 129 = .ok (.goto (-77), 3) := by decide +kernel
theorem dX7_came_132 : decode cX7_came 132 = .ok (.iload_n 3, 1) := by decide +kernel
theorem dX7_came_133 : decode cX7_came 133 = .ok (.ireturn, 1) := by decide +kernel
theorem dX7_spoils_0 : decode cX7_spoils 0 = .ok (.aload_n 0, 1) := by decide +kernel
theorem dX7_spoils_1 : decode cX7_spoils 1 = .ok (.getfield 12, 3) := by decide +kernel
theorem dX7_spoils_4 : decode cX7_spoils 4 = .ok (.iload_n 1, 1) := by decide +kernel
theorem dX7_spoils_5 : decode cX7_spoils 5 = .ok (.invokevirtual 135, 3) := by decide +kernel
theorem dX7_spoils_8 : decode cX7_spoils 8 = .ok (.ifCond .ne 5, 3) := by decide +kernel
theorem dX7_spoils_11 : decode cX7_spoils 11 = .ok (.iconst (-1), 1) := by decide +kernel
theorem dX7_spoils_12 : decode cX7_spoils 12 = .ok (.ireturn, 1) := by decide +kernel
theorem dX7_spoils_13 : decode cX7_spoils 13 = .ok (.aload_n 0, 1) := by decide +kernel
theorem dX7_spoils_14 : decode cX7_spoils 14 = .ok (.iload_n 1, 1) := by decide +kernel
theorem dX7_spoils_15 : decode cX7_spoils 15 = .ok (.invokevirtual 224, 3) := by decide +kernel
theorem dX7_spoils_18 : decode cX7_spoils 18 = .ok (.ifCond .ne 6, 3) := by decide +kernel
theorem dX7_spoils_21 : decode cX7_spoils 21 = .ok (.bipush (-2), 2) := by decide +kernel
theorem dX7_spoils_23 : decode cX7_spoils 23 = .ok (.ireturn, 1) := by decide +kernel
theorem dX7_spoils_24 : decode cX7_spoils 24 = .ok (.iconst 0, 1) := by decide +kernel
theorem dX7_spoils_25 : decode cX7_spoils 25 = .ok (.istore_n 2, 1) := by decide +kernel
theorem dX7_spoils_26 : decode cX7_spoils 26 = .ok (.iload_n 2, 1) := by decide +kernel
theorem dX7_spoils_27 : decode cX7_spoils 27 = .ok (.aload_n 0, 1) := by decide +kernel
theorem dX7_spoils_28 : decode cX7_spoils 28 = .ok (.getfield 12, 3) := by decide +kernel
theorem dX7_spoils_31 : decode cX7_spoils 31 = .ok (.getfield 159, 3) := by decide +kernel
theorem dX7_spoils_34 : decode cX7_spoils 34 = .ok (.if_icmp .ge 35, 3) := by decide +kernel
theorem dX7_spoils_37 : decode cX7_spoils 37 = .ok (.aload_n 0, 1) := by decide +kernel
theorem dX7_spoils_38 : decode cX7_spoils 38 = .ok (.getfield 12, 3) := by decide +kernel
theorem dX7_spoils_41 : decode cX7_spoils 41 = .ok (.iload_n 1, 1) := by decide +kernel
theorem dX7_spoils_42 : decode cX7_spoils 42 = .ok (.iload_n 2, 1) := by decide +kernel
theorem dX7_spoils_43 : decode cX7_spoils 43 = .ok (.invokevirtual 240, 3) := by decide +kernel
theorem dX7_spoils_46 : decode cX7_spoils 46 = .ok (.ifCond .eq 17, 3) := by decide +kernel
theorem dX7_spoils_49 : decode cX7_spoils 49 = .ok (.aload_n 0, 1) := by decide +kernel
theorem dX7_spoils_50 : decode cX7_spoils 50 = .ok (.iload_n 1, 1) := by decide +kernel
theorem dX7_spoils_51 : decode cX7_spoils 51 = .ok (.iload_n 2, 1) := by decide +kernel
theorem dX7_spoils_52 : decode cX7_spoils 52 = .ok (.invokevirtual 227, 3) := by decide +kernel
theorem dX7_spoils_55 : decode cX7_spoils 55 = .ok (.invokevirtual 234, 3) := by decide +kernel
theorem dX7_spoils_58 : decode cX7_spoils 58 = .ok (.ifCond .eq 5, 3) := by decide +kernel
theorem dX7_spoils_61 : decode cX7_spoils 61 = .ok (.iload_n 2, 1) := by decide +kernel
theorem dX7_spoils_62 : decode cX7_spoils 62 = .ok (.ireturn, 1) := by decide +kernel
theorem dX7_spoils_63 : decode cX7_spoils 63 = .ok (.iinc 2 1, 3) := by decide +kernel
theorem dX7_spoils_66 : decode cX7_spoils 66 = .ok (.goto (-40), 3) := by decide +kernel
theorem dX7_spoils_69 : decode cX7_spoils 69 = .ok (.bipush (-2), 2) := by decide +kernel
theorem dX7_spoils_71 : decode cX7_spoils 71 = .ok (.ireturn, 1) := by decide +kernel
theorem dX7_holds_0 : decode cX7_holds 0 = .ok (.aload_n 0, 1) := by decide +kernel
theorem dX7_holds_1 : decode cX7_holds 1 = .ok (.getfield 12, 3) := by decide +kernel
theorem dX7_holds_4 : decode cX7_holds 4 = .ok (.iload_n 1, 1) := by decide +kernel
theorem dX7_holds_5 : decode cX7_holds 5 = .ok (.invokevirtual 135, 3) := by decide +kernel
theorem dX7_holds_8 : decode cX7_holds 8 = .ok (.ifCond .eq 24, 3) := by decide +kernel
theorem dX7_holds_11 : decode cX7_holds 11 = .ok (.iload_n 2, 1) := by decide +kernel
theorem dX7_holds_12 : decode cX7_holds 12 = .ok (.invokestatic 243, 3) := by decide +kernel
theorem dX7_holds_15 : decode cX7_holds 15 = .ok (.ifCond .eq 17, 3) := by decide +kernel
theorem dX7_holds_18 : decode cX7_holds 18 = .ok (.iload 4, 2) := by decide +kernel
theorem dX7_holds_20 : decode cX7_holds 20 = .ok (.iconst (-1), 1) := by decide +kernel
theorem dX7_holds_21 : decode cX7_holds 21 = .ok (.if_icmp .eq 13, 3) := by decide +kernel
theorem dX7_holds_24 : decode cX7_holds 24 = .ok (.iload 4, 2) := by decide +kernel
theorem dX7_holds_26 : decode cX7_holds 26 = .ok (.invokestatic 246, 3) := by decide +kernel
theorem dX7_holds_29 : decode cX7_holds 29 = .ok (.ifCond .ne 5, 3) := by decide +kernel
theorem dX7_holds_32 : decode cX7_holds 32 = .ok (.iconst (-1), 1) := by decide +kernel
theorem dX7_holds_33 : decode cX7_holds 33 = .ok (.ireturn, 1) := by decide +kernel
theorem dX7_holds_34 : decode cX7_holds 34 = .ok (.aload_n 0, 1) := by decide +kernel
theorem dX7_holds_35 : decode cX7_holds 35 = .ok (.getfield 12, 3) := by decide +kernel
theorem dX7_holds_38 : decode cX7_holds 38 = .ok (.getfield 144, 3) := by decide +kernel
theorem dX7_holds_41 : decode cX7_holds 41 = .ok (.iload_n 1, 1) := by decide +kernel
theorem dX7_holds_42 : decode cX7_holds 42 = .ok (.iaload, 1) := by decide +kernel
theorem dX7_holds_43 : decode cX7_holds 43 = .ok (.iconst (-1), 1) := by decide +kernel
theorem dX7_holds_44 : decode cX7_holds 44 = .ok (.if_icmp .ne 7, 3) := by decide +kernel
theorem dX7_holds_47 : decode cX7_holds 47 = .ok (.iconst 1, 1) := by decide +kernel
theorem dX7_holds_48 : decode cX7_holds 48 = .ok (.goto 4, 3) := by decide +kernel
theorem dX7_holds_51 : decode cX7_holds 51 = .ok (.iconst 0, 1) := by decide +kernel
theorem dX7_holds_52 : decode cX7_holds 52 = .ok (.istore 5, 2) := by decide +kernel
theorem dX7_holds_54 : decode cX7_holds 54 = .ok (.iload 5, 2) := by decide +kernel
theorem dX7_holds_56 : decode cX7_holds 56 = .ok (.ifCond .eq 12, 3) := by decide +kernel
theorem dX7_holds_59 : decode cX7_holds 59 = .ok (.iload_n 3, 1) := by decide +kernel
theorem dX7_holds_60 : decode cX7_holds 60 = .ok (.invokestatic 246, 3) := by decide +kernel
theorem dX7_holds_63 : decode cX7_holds 63 = .ok (.ifCond .ne 5, 3) := by decide +kernel
theorem dX7_holds_66 : decode cX7_holds 66 = .ok (.iconst (-1), 1) := by decide +kernel
theorem dX7_holds_67 : decode cX7_holds 67 = .ok (.ireturn, 1) := by decide +kernel
theorem dX7_holds_68 : decode cX7_holds 68 = .ok (.aload_n 0, 1) := by decide +kernel
theorem dX7_holds_69 : decode cX7_holds 69 = .ok (.iload_n 1, 1) := by decide +kernel
theorem dX7_holds_70 : decode cX7_holds 70 = .ok (.iload_n 2, 1) := by decide +kernel
theorem dX7_holds_71 : decode cX7_holds 71 = .ok (.invokevirtual 249, 3) := by decide +kernel
theorem dX7_holds_74 : decode cX7_holds 74 = .ok (.ifCond .le 6, 3) := by decide +kernel
theorem dX7_holds_77 : decode cX7_holds 77 = .ok (.bipush (-5), 2) := by decide +kernel
theorem dX7_holds_79 : decode cX7_holds 79 = .ok (.ireturn, 1) := by decide +kernel
theorem dX7_holds_80 : decode cX7_holds 80 = .ok (.iload 5, 2) := by decide +kernel
theorem dX7_holds_82 : decode cX7_holds 82 = .ok (.ifCond .eq 12, 3) := by decide +kernel
theorem dX7_holds_85 : decode cX7_holds 85 = .ok (.aload_n 0, 1) := by decide +kernel
theorem dX7_holds_86 : decode cX7_holds 86 = .ok (.getfield 55, 3) := by decide +kernel
theorem dX7_holds_89 : decode cX7_holds 89 = .ok (.iload_n 3, 1) := by decide +kernel
theorem dX7_holds_90 : decode cX7_holds 90 = .ok (.iconst 1, 1) := by decide +kernel
theorem dX7_holds_91 : decode cX7_holds 91 = .ok (.invokevirtual 252, 3) := by decide +kernel
theorem dX7_holds_94 : decode cX7_holds 94 = .ok (.iload 4, 2) := by decide +kernel
theorem dX7_holds_96 : decode cX7_holds 96 = .ok (.iconst (-1), 1) := by decide +kernel
theorem dX7_holds_97 : decode cX7_holds 97 = .ok (.if_icmp .eq 13, 3) := by decide +kernel
theorem dX7_holds_100 : decode cX7_holds 100 = .ok (.aload_n 0, 1) := by decide +kernel
theorem dX7_holds_101 : decode cX7_holds 101 = .ok (.getfield 55, 3) := by decide +kernel
theorem dX7_holds_104 : decode cX7_holds 104 = .ok (.iload 4, 2) := by decide +kernel
theorem dX7_holds_106 : decode cX7_holds 106 = .ok (.iconst (-1), 1) := by decide +kernel
theorem dX7_holds_107 : decode cX7_holds 107 = .ok (.invokevirtual 252, 3) := by decide +kernel
theorem dX7_holds_110 : decode cX7_holds 110 = .ok (.aload_n 0, 1) := by decide +kernel
theorem dX7_holds_111 : decode cX7_holds 111 = .ok (.getfield 55, 3) := by decide +kernel
theorem dX7_holds_114 : decode cX7_holds 114 = .ok (.invokevirtual 256, 3) := by decide +kernel
theorem dX7_holds_117 : decode cX7_holds 117 = .ok (.ifCond .eq 7, 3) := by decide +kernel
theorem dX7_holds_120 : decode cX7_holds 120 = .ok (.iconst 1, 1) := by decide +kernel
theorem dX7_holds_121 : decode cX7_holds 121 = .ok (.goto 4, 3) := by decide +kernel
theorem dX7_holds_124 : decode cX7_holds 124 = .ok (.iconst 0, 1) := by decide +kernel
theorem dX7_holds_125 : decode cX7_holds 125 = .ok (.ireturn, 1) := by decide +kernel
theorem dX7_names_0 : decode cX7_names 0 = .ok (.aload_n 0, 1) := by decide +kernel
theorem dX7_names_1 : decode cX7_names 1 = .ok (.iload_n 1, 1) := by decide +kernel
theorem dX7_names_2 : decode cX7_names 2 = .ok (.iload_n 2, 1) := by decide +kernel
theorem dX7_names_3 : decode cX7_names 3 = .ok (.iload_n 3, 1) := by decide +kernel
theorem dX7_names_4 : decode cX7_names 4 = .ok (.invokevirtual 259, 3) := by decide +kernel
theorem dX7_names_7 : decode cX7_names 7 = .ok (.ifCond .eq 9, 3) := by decide +kernel
theorem dX7_names_10 : decode cX7_names 10 = .ok (.iload 4, 2) := by decide +kernel
theorem dX7_names_12 : decode cX7_names 12 = .ok (.iconst (-1), 1) := by decide +kernel
theorem dX7_names_13 : decode cX7_names 13 = .ok (.if_icmp .ge 5, 3) := by decide +kernel
theorem dX7_names_16 : decode cX7_names 16 = .ok (.iconst (-1), 1) := by decide +kernel
theorem dX7_names_17 : decode cX7_names 17 = .ok (.ireturn, 1) := by decide +kernel
theorem dX7_names_18 : decode cX7_names 18 = .ok (.aload_n 0, 1) := by decide +kernel
theorem dX7_names_19 : decode cX7_names 19 = .ok (.iload_n 1, 1) := by decide +kernel
theorem dX7_names_20 : decode cX7_names 20 = .ok (.iload_n 2, 1) := by decide +kernel
theorem dX7_names_21 : decode cX7_names 21 = .ok (.invokevirtual 249, 3) := by decide +kernel
theorem dX7_names_24 : decode cX7_names 24 = .ok (.iconst 3, 1) := by decide +kernel
theorem dX7_names_25 : decode cX7_names 25 = .ok (.if_icmp .le 6, 3) := by decide +kernel
theorem dX7_names_28 : decode cX7_names 28 = .ok (.bipush (-5), 2) := by decide +kernel
theorem dX7_names_30 : decode cX7_names 30 = .ok (.ireturn, 1) := by decide +kernel
theorem dX7_names_31 : decode cX7_names 31 = .ok (.aload_n 0, 1) := by decide +kernel
theorem dX7_names_32 : decode cX7_names 32 = .ok (.iload_n 1, 1) := by decide +kernel
theorem dX7_names_33 : decode cX7_names 33 = .ok (.iload_n 3, 1) := by decide +kernel
theorem dX7_names_34 : decode cX7_names 34 = .ok (.invokevirtual 262, 3) := by decide +kernel
theorem dX7_names_37 : decode cX7_names 37 = .ok (.istore 5, 2) := by decide +kernel
theorem dX7_names_39 : decode cX7_names 39 = .ok (.iload 4, 2) := by decide +kernel
theorem dX7_names_41 : decode cX7_names 41 = .ok (.iconst (-1), 1) := by decide +kernel
theorem dX7_names_42 : decode cX7_names 42 = .ok (.if_icmp .ne 6, 3) := by decide +kernel
theorem dX7_names_45 : decode cX7_names 45 = .ok (.iload 5, 2) := by decide +kernel
theorem dX7_names_47 : decode cX7_names 47 = .ok (.ireturn, 1) := by decide +kernel
theorem dX7_names_48 : decode cX7_names 48 = .ok (.iload 5, 2) := by decide +kernel
theorem dX7_names_50 : decode cX7_names 50 = .ok (.ifCond .eq 15, 3) := by decide +kernel
theorem dX7_names_53 : decode cX7_names 53 = .ok (.iload 4, 2) := by decide +kernel
theorem dX7_names_55 : decode cX7_names 55 = .ok (.aload_n 0, 1) := by decide +kernel
theorem dX7_names_56 : decode cX7_names 56 = .ok (.getfield 55, 3) := by decide +kernel
theorem dX7_names_59 : decode cX7_names 59 = .ok (.getfield 265, 3) := by decide +kernel
theorem dX7_names_62 : decode cX7_names 62 = .ok (.if_icmp .lt 8, 3) := by decide +kernel
theorem dX7_names_65 : decode cX7_names 65 = .ok (.bipush (-2), 2) := by decide +kernel
theorem dX7_names_67 : decode cX7_names 67 = .ok (.goto 13, 3) := by decide +kernel
theorem dX7_names_70 : decode cX7_names 70 = .ok (.aload_n 0, 1) := by decide +kernel
theorem dX7_names_71 : decode cX7_names 71 = .ok (.getfield 55, 3) := by decide +kernel
theorem dX7_names_74 : decode cX7_names 74 = .ok (.getfield 268, 3) := by decide +kernel
theorem dX7_names_77 : decode cX7_names 77 = .ok (.iload 4, 2) := by decide +kernel
theorem dX7_names_79 : decode cX7_names 79 = .ok (.iaload, 1) := by decide +kernel
theorem dX7_names_80 : decode cX7_names 80 = .ok (.ireturn, 1) := by decide +kernel
theorem dX7_calls_0 : decode cX7_calls 0 = .ok (.aload_n 0, 1) := by decide +kernel
theorem dX7_calls_1 : decode cX7_calls 1 = .ok (.iload_n 1, 1) := by decide +kernel
theorem dX7_calls_2 : decode cX7_calls 2 = .ok (.iload_n 2, 1) := by decide +kernel
theorem dX7_calls_3 : decode cX7_calls 3 = .ok (.iload_n 3, 1) := by decide +kernel
theorem dX7_calls_4 : decode cX7_calls 4 = .ok (.invokevirtual 259, 3) := by decide +kernel
theorem dX7_calls_7 : decode cX7_calls 7 = .ok (.ifCond .ne 5, 3) := by decide +kernel
theorem dX7_calls_10 : decode cX7_calls 10 = .ok (.iconst (-1), 1) := by decide +kernel
theorem dX7_calls_11 : decode cX7_calls 11 = .ok (.ireturn, 1) := by decide +kernel
theorem dX7_calls_12 : decode cX7_calls 12 = .ok (.aload_n 0, 1) := by decide +kernel
theorem dX7_calls_13 : decode cX7_calls 13 = .ok (.iload_n 1, 1) := by decide +kernel
theorem dX7_calls_14 : decode cX7_calls 14 = .ok (.iload_n 2, 1) := by decide +kernel
theorem dX7_calls_15 : decode cX7_calls 15 = .ok (.invokevirtual 249, 3) := by decide +kernel
theorem dX7_calls_18 : decode cX7_calls 18 = .ok (.istore 4, 2) := by decide +kernel
theorem dX7_calls_20 : decode cX7_calls 20 = .ok (.iload 4, 2) := by decide +kernel
theorem dX7_calls_22 : decode cX7_calls 22 = .ok (.iconst 3, 1) := by decide +kernel
theorem dX7_calls_23 : decode cX7_calls 23 = .ok (.if_icmp .le 6, 3) := by decide +kernel
theorem dX7_calls_26 : decode cX7_calls 26 = .ok (.bipush (-5), 2) := by decide +kernel
theorem dX7_calls_28 : decode cX7_calls 28 = .ok (.ireturn, 1) := by decide +kernel
theorem dX7_calls_29 : decode cX7_calls 29 = .ok (.aload_n 0, 1) := by decide +kernel
theorem dX7_calls_30 : decode cX7_calls 30 = .ok (.iload_n 1, 1) := by decide +kernel
theorem dX7_calls_31 : decode cX7_calls 31 = .ok (.iload_n 3, 1) := by decide +kernel
theorem dX7_calls_32 : decode cX7_calls 32 = .ok (.invokevirtual 262, 3) := by decide +kernel
theorem dX7_calls_35 : decode cX7_calls 35 = .ok (.ifCond .ne 6, 3) := by decide +kernel
theorem dX7_calls_38 : decode cX7_calls 38 = .ok (.bipush (-2), 2) := by decide +kernel
theorem dX7_calls_40 : decode cX7_calls 40 = .ok (.ireturn, 1) := by decide +kernel
theorem dX7_calls_41 : decode cX7_calls 41 = .ok (.aload_n 0, 1) := by decide +kernel
theorem dX7_calls_42 : decode cX7_calls 42 = .ok (.getfield 21, 3) := by decide +kernel
theorem dX7_calls_45 : decode cX7_calls 45 = .ok (.aload_n 0, 1) := by decide +kernel
theorem dX7_calls_46 : decode cX7_calls 46 = .ok (.getfield 12, 3) := by decide +kernel
theorem dX7_calls_49 : decode cX7_calls 49 = .ok (.invokevirtual 82, 3) := by decide +kernel
theorem dX7_calls_52 : decode cX7_calls 52 = .ok (.iconst 0, 1) := by decide +kernel
theorem dX7_calls_53 : decode cX7_calls 53 = .ok (.istore 5, 2) := by decide +kernel
theorem dX7_calls_55 : decode cX7_calls 55 = .ok (.iload 5, 2) := by decide +kernel
theorem dX7_calls_57 : decode cX7_calls 57 = .ok (.iload 4, 2) := by decide +kernel
theorem dX7_calls_59 : decode cX7_calls 59 = .ok (.if_icmp .ge 37, 3) := by decide +kernel
theorem dX7_calls_62 : decode cX7_calls 62 = .ok (.aload_n 0, 1) := by decide +kernel
theorem dX7_calls_63 : decode cX7_calls 63 = .ok (.getfield 12, 3) := by decide +kernel
theorem dX7_calls_66 : decode cX7_calls 66 = .ok (.getfield 123, 3) := by decide +kernel
theorem dX7_calls_69 : decode cX7_calls 69 = .ok (.aload_n 0, 1) := by decide +kernel
theorem dX7_calls_70 : decode cX7_calls 70 = .ok (.getfield 55, 3) := by decide +kernel
theorem dX7_calls_73 : decode cX7_calls 73 = .ok (.getfield 271, 3) := by decide +kernel
theorem dX7_calls_76 : decode cX7_calls 76 = .ok (.iload 5, 2) := by decide +kernel
theorem dX7_calls_78 : decode cX7_calls 78 = .ok (.iaload, 1) := by decide +kernel
theorem dX7_calls_79 : decode cX7_calls 79 = .ok (.aload_n 0, 1) := by decide +kernel
theorem dX7_calls_80 : decode cX7_calls 80 = .ok (.getfield 55, 3) := by decide +kernel
theorem dX7_calls_83 : decode cX7_calls 83 = .ok (.getfield 268, 3) := by decide +kernel
theorem dX7_calls_86 : decode cX7_calls 86 = .ok (.iload 5, 2) := by decide +kernel
theorem dX7_calls_88 : decode cX7_calls 88 = .ok (.iaload, 1) := by decide +kernel
theorem dX7_calls_89 : decode cX7_calls 89 = .ok (.iastore, 1) := by decide +kernel
theorem dX7_calls_90 : decode cX7_calls 90 = .ok (.iinc 5 1, 3) := by decide +kernel
theorem dX7_calls_93 : decode cX7_calls 93 = .ok (.goto (-38), 3) := by decide +kernel
theorem dX7_calls_96 : decode cX7_calls 96 = .ok (.aload_n 0, 1) := by decide +kernel
theorem dX7_calls_97 : decode cX7_calls 97 = .ok (.getfield 21, 3) := by decide +kernel
theorem dX7_calls_100 : decode cX7_calls 100 = .ok (.iload 4, 2) := by decide +kernel
theorem dX7_calls_102 : decode cX7_calls 102 = .ok (.invokevirtual 90, 3) := by decide +kernel
theorem dX7_calls_105 : decode cX7_calls 105 = .ok (.ireturn, 1) := by decide +kernel
theorem dX7_rest_0 : decode cX7_rest 0 = .ok (.iload_n 1, 1) := by decide +kernel
theorem dX7_rest_1 : decode cX7_rest 1 = .ok (.invokestatic 243, 3) := by decide +kernel
theorem dX7_rest_4 : decode cX7_rest 4 = .ok (.ifCond .ne 5, 3) := by decide +kernel
theorem dX7_rest_7 : decode cX7_rest 7 = .ok (.iconst (-1), 1) := by decide +kernel
theorem dX7_rest_8 : decode cX7_rest 8 = .ok (.ireturn, 1) := by decide +kernel
theorem dX7_rest_9 : decode cX7_rest 9 = .ok (.iconst 0, 1) := by decide +kernel
theorem dX7_rest_10 : decode cX7_rest 10 = .ok (.istore_n 2, 1) := by decide +kernel
theorem dX7_rest_11 : decode cX7_rest 11 = .ok (.iconst 0, 1) := by decide +kernel
theorem dX7_rest_12 : decode cX7_rest 12 = .ok (.istore_n 3, 1) := by decide +kernel
theorem dX7_rest_13 : decode cX7_rest 13 = .ok (.iload_n 3, 1) := by decide +kernel
theorem dX7_rest_14 : decode cX7_rest 14 = .ok (.aload_n 0, 1) := by decide +kernel
theorem dX7_rest_15 : decode cX7_rest 15 = .ok (.getfield 12, 3) := by decide +kernel
theorem dX7_rest_18 : decode cX7_rest 18 = .ok (.getfield 162, 3) := by decide +kernel
theorem dX7_rest_21 : decode cX7_rest 21 = .ok (.if_icmp .ge 33, 3) := by decide +kernel
theorem dX7_rest_24 : decode cX7_rest 24 = .ok (.aload_n 0, 1) := by decide +kernel
theorem dX7_rest_25 : decode cX7_rest 25 = .ok (.iload_n 3, 1) := by decide +kernel
theorem dX7_rest_26 : decode cX7_rest 26 = .ok (.iload_n 1, 1) := by decide +kernel
theorem dX7_rest_27 : decode cX7_rest 27 = .ok (.invokevirtual 249, 3) := by decide +kernel
theorem dX7_rest_30 : decode cX7_rest 30 = .ok (.ifCond .ne 18, 3) := by decide +kernel
theorem dX7_rest_33 : decode cX7_rest 33 = .ok (.aload_n 0, 1) := by decide +kernel
theorem dX7_rest_34 : decode cX7_rest 34 = .ok (.iload_n 3, 1) := by decide +kernel
theorem dX7_rest_35 : decode cX7_rest 35 = .ok (.iconst 0, 1) := by decide +kernel
theorem dX7_rest_36 : decode cX7_rest 36 = .ok (.invokevirtual 262, 3) := by decide +kernel
theorem dX7_rest_39 : decode cX7_rest 39 = .ok (.ifCond .le 9, 3) := by decide +kernel
theorem dX7_rest_42 : decode cX7_rest 42 = .ok (.iload_n 2, 1) := by decide +kernel
theorem dX7_rest_43 : decode cX7_rest 43 = .ok (.iconst 1, 1) := by decide +kernel
theorem dX7_rest_44 : decode cX7_rest 44 = .ok (.iload_n 3, 1) := by decide +kernel
theorem dX7_rest_45 : decode cX7_rest 45 = .ok (.ishl, 1) := by decide +kernel
theorem dX7_rest_46 : decode cX7_rest 46 = .ok (.ior, 1) := by decide +kernel
theorem dX7_rest_47 : decode cX7_rest 47 = .ok (.istore_n 2, 1) := by decide +kernel
theorem dX7_rest_48 : decode cX7_rest 48 = .ok (.iinc 3 1, 3) := by decide +kernel
theorem dX7_rest_51 : decode cX7_rest 51 = .ok (.goto (-38), 3) := by decide +kernel
theorem dX7_rest_54 : decode cX7_rest 54 = .ok (.iload_n 2, 1) := by decide +kernel
theorem dX7_rest_55 : decode cX7_rest 55 = .ok (.ireturn, 1) := by decide +kernel
theorem dX7_energy_0 : decode cX7_energy 0 = .ok (.aload_n 0, 1) := by decide +kernel
theorem dX7_energy_1 : decode cX7_energy 1 = .ok (.iload_n 1, 1) := by decide +kernel
theorem dX7_energy_2 : decode cX7_energy 2 = .ok (.iload_n 2, 1) := by decide +kernel
theorem dX7_energy_3 : decode cX7_energy 3 = .ok (.iload_n 3, 1) := by decide +kernel
theorem dX7_energy_4 : decode cX7_energy 4 = .ok (.invokevirtual 209, 3) := by decide +kernel
theorem dX7_energy_7 : decode cX7_energy 7 = .ok (.ifCond .eq 11, 3) := by decide +kernel
theorem dX7_energy_10 : decode cX7_energy 10 = .ok (.iload 4, 2) := by decide +kernel
theorem dX7_energy_12 : decode cX7_energy 12 = .ok (.invokestatic 150, 3) := by decide +kernel
theorem dX7_energy_15 : decode cX7_energy 15 = .ok (.ifCond .ne 7, 3) := by decide +kernel
theorem dX7_energy_18 : decode cX7_energy 18 = .ok (.ldc2_w 133, 3) := by decide +kernel
theorem dX7_energy_21 : decode cX7_energy 21 = .ok (.lreturn, 1) := by decide +kernel
theorem dX7_energy_22 : decode cX7_energy 22 = .ok (.aload_n 0, 1) := by decide +kernel
theorem dX7_energy_23 : decode cX7_energy 23 = .ok (.iload_n 1, 1) := by decide +kernel
theorem dX7_energy_24 : decode cX7_energy 24 = .ok (.iload_n 2, 1) := by decide +kernel
theorem dX7_energy_25 : decode cX7_energy 25 = .ok (.iload_n 3, 1) := by decide +kernel
theorem dX7_energy_26 : decode cX7_energy 26 = .ok (.aload_n 0, 1) := by decide +kernel
theorem dX7_energy_27 : decode cX7_energy 27 = .ok (.getfield 12, 3) := by decide +kernel
theorem dX7_energy_30 : decode cX7_energy 30 = .ok (.getfield 156, 3) := by decide +kernel
theorem dX7_energy_33 : decode cX7_energy 33 = .ok (.invokevirtual 213, 3) := by decide +kernel
theorem dX7_energy_36 : decode cX7_energy 36 = .ok (.iload 4, 2) := by decide +kernel
theorem dX7_energy_38 : decode cX7_energy 38 = .ok (.invokestatic 274, 3) := by decide +kernel
theorem dX7_energy_41 : decode cX7_energy 41 = .ok (.lreturn, 1) := by decide +kernel
theorem dX7_heat_0 : decode cX7_heat 0 = .ok (.iload_n 2, 1) := by decide +kernel
theorem dX7_heat_1 : decode cX7_heat 1 = .ok (.ifCond .lt 16, 3) := by decide +kernel
theorem dX7_heat_4 : decode cX7_heat 4 = .ok (.iload_n 2, 1) := by decide +kernel
theorem dX7_heat_5 : decode cX7_heat 5 = .ok (.iconst 2, 1) := by decide +kernel
theorem dX7_heat_6 : decode cX7_heat 6 = .ok (.if_icmp .gt 11, 3) := by decide +kernel
theorem dX7_heat_9 : decode cX7_heat 9 = .ok (.aload_n 0, 1) := by decide +kernel
theorem dX7_heat_10 : decode cX7_heat 10 = .ok (.iload_n 1, 1) := by decide +kernel
theorem dX7_heat_11 : decode cX7_heat 11 = .ok (.invokevirtual 278, 3) := by decide +kernel
theorem dX7_heat_14 : decode cX7_heat 14 = .ok (.ifCond .ne 7, 3) := by decide +kernel
theorem dX7_heat_17 : decode cX7_heat 17 = .ok (.ldc2_w 133, 3) := by decide +kernel
theorem dX7_heat_20 : decode cX7_heat 20 = .ok (.lreturn, 1) := by decide +kernel
theorem dX7_heat_21 : decode cX7_heat 21 = .ok (.aload_n 0, 1) := by decide +kernel
theorem dX7_heat_22 : decode cX7_heat 22 = .ok (.iload_n 1, 1) := by decide +kernel
theorem dX7_heat_23 : decode cX7_heat 23 = .ok (.aload_n 0, 1) := by decide +kernel
theorem dX7_heat_24 : decode cX7_heat 24 = .ok (.getfield 12, 3) := by decide +kernel
theorem dX7_heat_27 : decode cX7_heat 27 = .ok (.getfield 156, 3) := by decide +kernel
theorem dX7_heat_30 : decode cX7_heat 30 = .ok (.invokevirtual 281, 3) := by decide +kernel
theorem dX7_heat_33 : decode cX7_heat 33 = .ok (.lstore_n 3, 1) := by decide +kernel
theorem dX7_heat_34 : decode cX7_heat 34 = .ok (.iload_n 2, 1) := by decide +kernel
theorem dX7_heat_35 : decode cX7_heat 35 = .ok (.ifCond .ne 5, 3) := by decide +kernel
theorem dX7_heat_38 : decode cX7_heat 38 = .ok (.lload_n 3, 1) := by decide +kernel
theorem dX7_heat_39 : decode cX7_heat 39 = .ok (.lreturn, 1) := by decide +kernel
theorem dX7_heat_40 : decode cX7_heat 40 = .ok (.lload_n 3, 1) := by decide +kernel
theorem dX7_heat_41 : decode cX7_heat 41 = .ok (.lload_n 3, 1) := by decide +kernel
theorem dX7_heat_42 : decode cX7_heat 42 = .ok (.lmul, 1) := by decide +kernel
theorem dX7_heat_43 : decode cX7_heat 43 = .ok (.aload_n 0, 1) := by decide +kernel
theorem dX7_heat_44 : decode cX7_heat 44 = .ok (.iload_n 1, 1) := by decide +kernel
theorem dX7_heat_45 : decode cX7_heat 45 = .ok (.iconst (-1), 1) := by decide +kernel
theorem dX7_heat_46 : decode cX7_heat 46 = .ok (.invokevirtual 227, 3) := by decide +kernel
theorem dX7_heat_49 : decode cX7_heat 49 = .ok (.invokevirtual 231, 3) := by decide +kernel
theorem dX7_heat_52 : decode cX7_heat 52 = .ok (.lsub, 1) := by decide +kernel
theorem dX7_heat_53 : decode cX7_heat 53 = .ok (.lstore 5, 2) := by decide +kernel
theorem dX7_heat_55 : decode cX7_heat 55 = .ok (.lload 5, 2) := by decide +kernel
theorem dX7_heat_57 : decode cX7_heat 57 = .ok (.lconst 0, 1) := by decide +kernel
theorem dX7_heat_58 : decode cX7_heat 58 = .ok (.lcmp, 1) := by decide +kernel
theorem dX7_heat_59 : decode cX7_heat 59 = .ok (.ifCond .ge 9, 3) := by decide +kernel
theorem dX7_heat_62 : decode cX7_heat 62 = .ok (.ldc2_w 284, 3) := by decide +kernel
theorem dX7_heat_65 : decode cX7_heat 65 = .ok (.goto 8, 3) := by decide +kernel
theorem dX7_heat_68 : decode cX7_heat 68 = .ok (.lload 5, 2) := by decide +kernel
theorem dX7_heat_70 : decode cX7_heat 70 = .ok (.invokestatic 286, 3) := by decide +kernel
theorem dX7_heat_73 : decode cX7_heat 73 = .ok (.lstore 7, 2) := by decide +kernel
theorem dX7_heat_75 : decode cX7_heat 75 = .ok (.iload_n 2, 1) := by decide +kernel
theorem dX7_heat_76 : decode cX7_heat 76 = .ok (.iconst 1, 1) := by decide +kernel
theorem dX7_heat_77 : decode cX7_heat 77 = .ok (.if_icmp .eq 10, 3) := by decide +kernel
theorem dX7_heat_80 : decode cX7_heat 80 = .ok (.lload 7, 2) := by decide +kernel
theorem dX7_heat_82 : decode cX7_heat 82 = .ok (.lconst 0, 1) := by decide +kernel
theorem dX7_heat_83 : decode cX7_heat 83 = .ok (.lcmp, 1) := by decide +kernel
theorem dX7_heat_84 : decode cX7_heat 84 = .ok (.ifCond .ge 8, 3) := by decide +kernel
theorem dX7_heat_87 : decode cX7_heat 87 = .ok (.lload 7, 2) := by decide +kernel
theorem dX7_heat_89 : decode cX7_heat 89 = .ok (.goto 9, 3) := by decide +kernel
theorem dX7_heat_92 : decode cX7_heat 92 = .ok (.lload 7, 2) := by decide +kernel
theorem dX7_heat_94 : decode cX7_heat 94 = .ok (.invokestatic 289, 3) := by decide +kernel
theorem dX7_heat_97 : decode cX7_heat 97 = .ok (.i2l, 1) := by decide +kernel
theorem dX7_heat_98 : decode cX7_heat 98 = .ok (.lreturn, 1) := by decide +kernel
theorem dX7_evens_0 : decode cX7_evens 0 = .ok (.aload_n 0, 1) := by decide +kernel
theorem dX7_evens_1 : decode cX7_evens 1 = .ok (.getfield 12, 3) := by decide +kernel
theorem dX7_evens_4 : decode cX7_evens 4 = .ok (.iload_n 1, 1) := by decide +kernel
theorem dX7_evens_5 : decode cX7_evens 5 = .ok (.invokevirtual 135, 3) := by decide +kernel
theorem dX7_evens_8 : decode cX7_evens 8 = .ok (.ifCond .ne 5, 3) := by decide +kernel
theorem dX7_evens_11 : decode cX7_evens 11 = .ok (.iconst (-1), 1) := by decide +kernel
theorem dX7_evens_12 : decode cX7_evens 12 = .ok (.ireturn, 1) := by decide +kernel
theorem dX7_evens_13 : decode cX7_evens 13 = .ok (.aload_n 0, 1) := by decide +kernel
theorem dX7_evens_14 : decode cX7_evens 14 = .ok (.iload_n 1, 1) := by decide +kernel
theorem dX7_evens_15 : decode cX7_evens 15 = .ok (.invokevirtual 278, 3) := by decide +kernel
theorem dX7_evens_18 : decode cX7_evens 18 = .ok (.ifCond .ne 6, 3) := by decide +kernel
theorem dX7_evens_21 : decode cX7_evens 21 = .ok (.bipush (-5), 2) := by decide +kernel
theorem dX7_evens_23 : decode cX7_evens 23 = .ok (.ireturn, 1) := by decide +kernel
theorem dX7_evens_24 : decode cX7_evens 24 = .ok (.iconst 1, 1) := by decide +kernel
theorem dX7_evens_25 : decode cX7_evens 25 = .ok (.istore_n 2, 1) := by decide +kernel
theorem dX7_evens_26 : decode cX7_evens 26 = .ok (.aload_n 0, 1) := by decide +kernel
theorem dX7_evens_27 : decode cX7_evens 27 = .ok (.iload_n 1, 1) := by decide +kernel
theorem dX7_evens_28 : decode cX7_evens 28 = .ok (.iconst 1, 1) := by decide +kernel
theorem dX7_evens_29 : decode cX7_evens 29 = .ok (.invokevirtual 281, 3) := by decide +kernel
theorem dX7_evens_32 : decode cX7_evens 32 = .ok (.invokestatic 192, 3) := by decide +kernel
theorem dX7_evens_35 : decode cX7_evens 35 = .ok (.lstore_n 3, 1) := by decide +kernel
theorem dX7_evens_36 : decode cX7_evens 36 = .ok (.iconst 2, 1) := by decide +kernel
theorem dX7_evens_37 : decode cX7_evens 37 = .ok (.istore 5, 2) := by decide +kernel
theorem dX7_evens_39 : decode cX7_evens 39 = .ok (.iload 5, 2) := by decide +kernel
theorem dX7_evens_41 : decode cX7_evens 41 = .ok (.bipush 9, 2) := by decide +kernel
theorem dX7_evens_43 : decode cX7_evens 43 = .ok (.if_icmp .gt 34, 3) := by decide +kernel
theorem dX7_evens_46 : decode cX7_evens 46 = .ok (.aload_n 0, 1) := by decide +kernel
theorem dX7_evens_47 : decode cX7_evens 47 = .ok (.iload_n 1, 1) := by decide +kernel
theorem dX7_evens_48 : decode cX7_evens 48 = .ok (.iload 5, 2) := by decide +kernel
theorem dX7_evens_50 : decode cX7_evens 50 = .ok (.invokevirtual 281, 3) := by decide +kernel
theorem dX7_evens_53 : decode cX7_evens 53 = .ok (.invokestatic 192, 3) := by decide +kernel
theorem dX7_evens_56 : decode cX7_evens 56 = .ok (.lstore 6, 2) := by decide +kernel
theorem dX7_evens_58 : decode cX7_evens 58 = .ok (.lload 6, 2) := by decide +kernel
theorem dX7_evens_60 : decode cX7_evens 60 = .ok (.lload_n 3, 1) := by decide +kernel
theorem dX7_evens_61 : decode cX7_evens 61 = .ok (.lcmp, 1) := by decide +kernel
theorem dX7_evens_62 : decode cX7_evens 62 = .ok (.ifCond .ge 9, 3) := by decide +kernel
theorem dX7_evens_65 : decode cX7_evens 65 = .ok (.lload 6, 2) := by decide +kernel
theorem dX7_evens_67 : decode cX7_evens 67 = .ok (.lstore_n 3, 1) := by decide +kernel
theorem dX7_evens_68 : decode cX7_evens 68 = .ok (.iload 5, 2) := by decide +kernel
theorem dX7_evens_70 : decode cX7_evens 70 = .ok (.istore_n 2, 1) := by decide +kernel
theorem dX7_evens_71 : decode cX7_evens 71 = .ok (.iinc 5 1, 3) := by decide +kernel
theorem dX7_evens_74 : decode cX7_evens 74 = .ok (.goto (-35), 3) := by decide +kernel
theorem dX7_evens_77 : decode cX7_evens 77 = .ok (.iload_n 2, 1) := by decide +kernel
theorem dX7_evens_78 : decode cX7_evens 78 = .ok (.ireturn, 1) := by decide +kernel
theorem dX7_feed_0 : decode cX7_feed 0 = .ok (.iload_n 1, 1) := by decide +kernel
theorem dX7_feed_1 : decode cX7_feed 1 = .ok (.iconst 1, 1) := by decide +kernel
theorem dX7_feed_2 : decode cX7_feed 2 = .ok (.if_icmp .lt 9, 3) := by decide +kernel
theorem dX7_feed_5 : decode cX7_feed 5 = .ok (.iload_n 1, 1) := by decide +kernel
theorem dX7_feed_6 : decode cX7_feed 6 = .ok (.bipush 127, 2) := by decide +kernel
theorem dX7_feed_8 : decode cX7_feed 8 = .ok (.if_icmp .le 5, 3) := by decide +kernel
theorem dX7_feed_11 : decode cX7_feed 11 = .ok (.iconst (-1), 1) := by decide +kernel
theorem dX7_feed_12 : decode cX7_feed 12 = .ok (.ireturn, 1) := by decide +kernel
theorem dX7_feed_13 : decode cX7_feed 13 = .ok (.aload_n 0, 1) := by decide +kernel
theorem dX7_feed_14 : decode cX7_feed 14 = .ok (.getfield 62, 3) := by decide +kernel
theorem dX7_feed_17 : decode cX7_feed 17 = .ok (.iload_n 1, 1) := by decide +kernel
theorem dX7_feed_18 : decode cX7_feed 18 = .ok (.invokevirtual 293, 3) := by decide +kernel
theorem dX7_feed_21 : decode cX7_feed 21 = .ok (.ifCond .eq 13, 3) := by decide +kernel
theorem dX7_feed_24 : decode cX7_feed 24 = .ok (.aload_n 0, 1) := by decide +kernel
theorem dX7_feed_25 : decode cX7_feed 25 = .ok (.getfield 62, 3) := by decide +kernel
theorem dX7_feed_28 : decode cX7_feed 28 = .ok (.getfield 171, 3) := by decide +kernel
theorem dX7_feed_31 : decode cX7_feed 31 = .ok (.goto 5, 3) := by decide +kernel
theorem dX7_feed_34 : decode cX7_feed 34 = .ok (.bipush (-3), 2) := by decide +kernel
theorem dX7_feed_36 : decode cX7_feed 36 = .ok (.ireturn, 1) := by decide +kernel
theorem dX7_reads_0 : decode cX7_reads 0 = .ok (.aload_n 0, 1) := by decide +kernel
theorem dX7_reads_1 : decode cX7_reads 1 = .ok (.getfield 62, 3) := by decide +kernel
theorem dX7_reads_4 : decode cX7_reads 4 = .ok (.invokevirtual 296, 3) := by decide +kernel
theorem dX7_reads_7 : decode cX7_reads 7 = .ok (.istore_n 1, 1) := by decide +kernel
theorem dX7_reads_8 : decode cX7_reads 8 = .ok (.iload_n 1, 1) := by decide +kernel
theorem dX7_reads_9 : decode cX7_reads 9 = .ok (.ifCond .lt 11, 3) := by decide +kernel
theorem dX7_reads_12 : decode cX7_reads 12 = .ok (.sipush (-1000), 3) := by decide +kernel
theorem dX7_reads_15 : decode cX7_reads 15 = .ok (.iload_n 1, 1) := by decide +kernel
theorem dX7_reads_16 : decode cX7_reads 16 = .ok (.isub, 1) := by decide +kernel
theorem dX7_reads_17 : decode cX7_reads 17 = .ok (.goto 7, 3) := by decide +kernel
theorem dX7_reads_20 : decode cX7_reads 20 = .ok (.aload_n 0, 1) := by decide +kernel
theorem dX7_reads_21 : decode cX7_reads 21 = .ok (.invokevirtual 299, 3) := by decide +kernel
theorem dX7_reads_24 : decode cX7_reads 24 = .ok (.istore_n 2, 1) := by decide +kernel
theorem dX7_reads_25 : decode cX7_reads 25 = .ok (.aload_n 0, 1) := by decide +kernel
theorem dX7_reads_26 : decode cX7_reads 26 = .ok (.getfield 62, 3) := by decide +kernel
theorem dX7_reads_29 : decode cX7_reads 29 = .ok (.iconst 0, 1) := by decide +kernel
theorem dX7_reads_30 : decode cX7_reads 30 = .ok (.putfield 171, 3) := by decide +kernel
theorem dX7_reads_33 : decode cX7_reads 33 = .ok (.iload_n 2, 1) := by decide +kernel
theorem dX7_reads_34 : decode cX7_reads 34 = .ok (.ireturn, 1) := by decide +kernel
theorem dX7_prints_0 : decode cX7_prints 0 = .ok (.aload_n 0, 1) := by decide +kernel
theorem dX7_prints_1 : decode cX7_prints 1 = .ok (.getfield 12, 3) := by decide +kernel
theorem dX7_prints_4 : decode cX7_prints 4 = .ok (.iload_n 1, 1) := by decide +kernel
theorem dX7_prints_5 : decode cX7_prints 5 = .ok (.invokevirtual 135, 3) := by decide +kernel
theorem dX7_prints_8 : decode cX7_prints 8 = .ok (.ifCond .ne 5, 3) := by decide +kernel
theorem dX7_prints_11 : decode cX7_prints 11 = .ok (.iconst (-1), 1) := by decide +kernel
theorem dX7_prints_12 : decode cX7_prints 12 = .ok (.ireturn, 1) := by decide +kernel
theorem dX7_prints_13 : decode cX7_prints 13 = .ok (.aload_n 0, 1) := by decide +kernel
theorem dX7_prints_14 : decode cX7_prints 14 = .ok (.iconst 0, 1) := by decide +kernel
theorem dX7_prints_15 : decode cX7_prints 15 = .ok (.putfield 70, 3) := by decide +kernel
theorem dX7_prints_18 : decode cX7_prints 18 = .ok (.aload_n 0, 1) := by decide +kernel
theorem dX7_prints_19 : decode cX7_prints 19 = .ok (.getfield 12, 3) := by decide +kernel
theorem dX7_prints_22 : decode cX7_prints 22 = .ok (.getfield 144, 3) := by decide +kernel
theorem dX7_prints_25 : decode cX7_prints 25 = .ok (.iload_n 1, 1) := by decide +kernel
theorem dX7_prints_26 : decode cX7_prints 26 = .ok (.iaload, 1) := by decide +kernel
theorem dX7_prints_27 : decode cX7_prints 27 = .ok (.istore_n 2, 1) := by decide +kernel
theorem dX7_prints_28 : decode cX7_prints 28 = .ok (.iload_n 2, 1) := by decide +kernel
theorem dX7_prints_29 : decode cX7_prints 29 = .ok (.iconst (-1), 1) := by decide +kernel
theorem dX7_prints_30 : decode cX7_prints 30 = .ok (.if_icmp .eq 12, 3) := by decide +kernel
theorem dX7_prints_33 : decode cX7_prints 33 = .ok (.aload_n 0, 1) := by decide +kernel
theorem dX7_prints_34 : decode cX7_prints 34 = .ok (.aload_n 0, 1) := by decide +kernel
theorem dX7_prints_35 : decode cX7_prints 35 = .ok (.iload_n 2, 1) := by decide +kernel
theorem dX7_prints_36 : decode cX7_prints 36 = .ok (.invokevirtual 302, 3) := by decide +kernel
theorem dX7_prints_39 : decode cX7_prints 39 = .ok (.invokevirtual 306, 3) := by decide +kernel
theorem dX7_prints_42 : decode cX7_prints 42 = .ok (.aload_n 0, 1) := by decide +kernel
theorem dX7_prints_43 : decode cX7_prints 43 = .ok (.bipush 45, 2) := by decide +kernel
theorem dX7_prints_45 : decode cX7_prints 45 = .ok (.invokevirtual 306, 3) := by decide +kernel
theorem dX7_prints_48 : decode cX7_prints 48 = .ok (.aload_n 0, 1) := by decide +kernel
theorem dX7_prints_49 : decode cX7_prints 49 = .ok (.bipush 62, 2) := by decide +kernel
theorem dX7_prints_51 : decode cX7_prints 51 = .ok (.invokevirtual 306, 3) := by decide +kernel
theorem dX7_prints_54 : decode cX7_prints 54 = .ok (.iconst 0, 1) := by decide +kernel
theorem dX7_prints_55 : decode cX7_prints 55 = .ok (.istore_n 3, 1) := by decide +kernel
theorem dX7_prints_56 : decode cX7_prints 56 = .ok (.iload_n 3, 1) := by decide +kernel
theorem dX7_prints_57 : decode cX7_prints 57 = .ok (.aload_n 0, 1) := by decide +kernel
theorem dX7_prints_58 : decode cX7_prints 58 = .ok (.getfield 12, 3) := by decide +kernel
theorem dX7_prints_61 : decode cX7_prints 61 = .ok (.getfield 159, 3) := by decide +kernel
theorem dX7_prints_64 : decode cX7_prints 64 = .ok (.if_icmp .ge 30, 3) := by decide +kernel
theorem dX7_prints_67 : decode cX7_prints 67 = .ok (.aload_n 0, 1) := by decide +kernel
theorem dX7_prints_68 : decode cX7_prints 68 = .ok (.getfield 12, 3) := by decide +kernel
theorem dX7_prints_71 : decode cX7_prints 71 = .ok (.iload_n 1, 1) := by decide +kernel
theorem dX7_prints_72 : decode cX7_prints 72 = .ok (.iload_n 3, 1) := by decide +kernel
theorem dX7_prints_73 : decode cX7_prints 73 = .ok (.invokevirtual 240, 3) := by decide +kernel
theorem dX7_prints_76 : decode cX7_prints 76 = .ok (.ifCond .eq 12, 3) := by decide +kernel
theorem dX7_prints_79 : decode cX7_prints 79 = .ok (.aload_n 0, 1) := by decide +kernel
theorem dX7_prints_80 : decode cX7_prints 80 = .ok (.aload_n 0, 1) := by decide +kernel
theorem dX7_prints_81 : decode cX7_prints 81 = .ok (.iload_n 3, 1) := by decide +kernel
theorem dX7_prints_82 : decode cX7_prints 82 = .ok (.invokevirtual 302, 3) := by decide +kernel
theorem dX7_prints_85 : decode cX7_prints 85 = .ok (.invokevirtual 306, 3) := by decide +kernel
theorem dX7_prints_88 : decode cX7_prints 88 = .ok (.iinc 3 1, 3) := by decide +kernel
theorem dX7_prints_91 : decode cX7_prints 91 = .ok (.goto (-35), 3) := by decide +kernel
theorem dX7_prints_94 : decode cX7_prints 94 = .ok (.aload_n 0, 1) := by decide +kernel
theorem dX7_prints_95 : decode cX7_prints 95 = .ok (.getfield 70, 3) := by decide +kernel
theorem dX7_prints_98 : decode cX7_prints 98 = .ok (.ireturn, 1) := by decide +kernel
theorem dX7_paper_0 : decode cX7_paper 0 = .ok (.iload_n 1, 1) := by decide +kernel
theorem dX7_paper_1 : decode cX7_paper 1 = .ok (.ifCond .ge 5, 3) := by decide +kernel
theorem dX7_paper_4 : decode cX7_paper 4 = .ok (.iconst (-1), 1) := by decide +kernel
theorem dX7_paper_5 : decode cX7_paper 5 = .ok (.ireturn, 1) := by decide +kernel
theorem dX7_paper_6 : decode cX7_paper 6 = .ok (.iload_n 1, 1) := by decide +kernel
theorem dX7_paper_7 : decode cX7_paper 7 = .ok (.aload_n 0, 1) := by decide +kernel
theorem dX7_paper_8 : decode cX7_paper 8 = .ok (.getfield 70, 3) := by decide +kernel
theorem dX7_paper_11 : decode cX7_paper 11 = .ok (.if_icmp .ge 12, 3) := by decide +kernel
theorem dX7_paper_14 : decode cX7_paper 14 = .ok (.aload_n 0, 1) := by decide +kernel
theorem dX7_paper_15 : decode cX7_paper 15 = .ok (.getfield 66, 3) := by decide +kernel
theorem dX7_paper_18 : decode cX7_paper 18 = .ok (.iload_n 1, 1) := by decide +kernel
theorem dX7_paper_19 : decode cX7_paper 19 = .ok (.caload, 1) := by decide +kernel
theorem dX7_paper_20 : decode cX7_paper 20 = .ok (.goto 5, 3) := by decide +kernel
theorem dX7_paper_23 : decode cX7_paper 23 = .ok (.bipush (-2), 2) := by decide +kernel
theorem dX7_paper_25 : decode cX7_paper 25 = .ok (.ireturn, 1) := by decide +kernel
theorem dX7_list_0 : decode cX7_list 0 = .ok (.iload_n 1, 1) := by decide +kernel
theorem dX7_list_1 : decode cX7_list 1 = .ok (.invokestatic 310, 3) := by decide +kernel
theorem dX7_list_4 : decode cX7_list 4 = .ok (.ifCond .eq 9, 3) := by decide +kernel
theorem dX7_list_7 : decode cX7_list 7 = .ok (.iload_n 2, 1) := by decide +kernel
theorem dX7_list_8 : decode cX7_list 8 = .ok (.bipush 24, 2) := by decide +kernel
theorem dX7_list_10 : decode cX7_list 10 = .ok (.if_icmp .le 5, 3) := by decide +kernel
theorem dX7_list_13 : decode cX7_list 13 = .ok (.iconst (-1), 1) := by decide +kernel
theorem dX7_list_14 : decode cX7_list 14 = .ok (.ireturn, 1) := by decide +kernel
theorem dX7_list_15 : decode cX7_list 15 = .ok (.iload_n 2, 1) := by decide +kernel
theorem dX7_list_16 : decode cX7_list 16 = .ok (.ifCond .ge 6, 3) := by decide +kernel
theorem dX7_list_19 : decode cX7_list 19 = .ok (.bipush (-14), 2) := by decide +kernel
theorem dX7_list_21 : decode cX7_list 21 = .ok (.ireturn, 1) := by decide +kernel
theorem dX7_list_22 : decode cX7_list 22 = .ok (.aload_n 0, 1) := by decide +kernel
theorem dX7_list_23 : decode cX7_list 23 = .ok (.getfield 76, 3) := by decide +kernel
theorem dX7_list_26 : decode cX7_list 26 = .ok (.iload_n 1, 1) := by decide +kernel
theorem dX7_list_27 : decode cX7_list 27 = .ok (.aaload, 1) := by decide +kernel
theorem dX7_list_28 : decode cX7_list 28 = .ok (.iload_n 2, 1) := by decide +kernel
theorem dX7_list_29 : decode cX7_list 29 = .ok (.invokevirtual 313, 3) := by decide +kernel
theorem dX7_list_32 : decode cX7_list 32 = .ok (.iconst 1, 1) := by decide +kernel
theorem dX7_list_33 : decode cX7_list 33 = .ok (.ireturn, 1) := by decide +kernel
theorem dX7_set_0 : decode cX7_set 0 = .ok (.iload_n 1, 1) := by decide +kernel
theorem dX7_set_1 : decode cX7_set 1 = .ok (.invokestatic 310, 3) := by decide +kernel
theorem dX7_set_4 : decode cX7_set 4 = .ok (.ifCond .ne 5, 3) := by decide +kernel
theorem dX7_set_7 : decode cX7_set 7 = .ok (.iconst (-1), 1) := by decide +kernel
theorem dX7_set_8 : decode cX7_set 8 = .ok (.ireturn, 1) := by decide +kernel
theorem dX7_set_9 : decode cX7_set 9 = .ok (.aload_n 0, 1) := by decide +kernel
theorem dX7_set_10 : decode cX7_set 10 = .ok (.getfield 76, 3) := by decide +kernel
theorem dX7_set_13 : decode cX7_set 13 = .ok (.iload_n 1, 1) := by decide +kernel
theorem dX7_set_14 : decode cX7_set 14 = .ok (.aaload, 1) := by decide +kernel
theorem dX7_set_15 : decode cX7_set 15 = .ok (.invokevirtual 317, 3) := by decide +kernel
theorem dX7_set_18 : decode cX7_set 18 = .ok (.ifCond .eq 6, 3) := by decide +kernel
theorem dX7_set_21 : decode cX7_set 21 = .ok (.bipush (-11), 2) := by decide +kernel
theorem dX7_set_23 : decode cX7_set 23 = .ok (.ireturn, 1) := by decide +kernel
theorem dX7_set_24 : decode cX7_set 24 = .ok (.aload_n 0, 1) := by decide +kernel
theorem dX7_set_25 : decode cX7_set 25 = .ok (.getfield 76, 3) := by decide +kernel
theorem dX7_set_28 : decode cX7_set 28 = .ok (.iload_n 1, 1) := by decide +kernel
theorem dX7_set_29 : decode cX7_set 29 = .ok (.aaload, 1) := by decide +kernel
theorem dX7_set_30 : decode cX7_set 30 = .ok (.iload_n 2, 1) := by decide +kernel
theorem dX7_set_31 : decode cX7_set 31 = .ok (.invokevirtual 320, 3) := by decide +kernel
theorem dX7_set_34 : decode cX7_set 34 = .ok (.ifCond .ne 6, 3) := by decide +kernel
theorem dX7_set_37 : decode cX7_set 37 = .ok (.bipush (-13), 2) := by decide +kernel
theorem dX7_set_39 : decode cX7_set 39 = .ok (.ireturn, 1) := by decide +kernel
theorem dX7_set_40 : decode cX7_set 40 = .ok (.aload_n 0, 1) := by decide +kernel
theorem dX7_set_41 : decode cX7_set 41 = .ok (.getfield 76, 3) := by decide +kernel
theorem dX7_set_44 : decode cX7_set 44 = .ok (.iload_n 1, 1) := by decide +kernel
theorem dX7_set_45 : decode cX7_set 45 = .ok (.aaload, 1) := by decide +kernel
theorem dX7_set_46 : decode cX7_set 46 = .ok (.getfield 323, 3) := by decide +kernel
theorem dX7_set_49 : decode cX7_set 49 = .ok (.iload_n 2, 1) := by decide +kernel
theorem dX7_set_50 : decode cX7_set 50 = .ok (.lload_n 3, 1) := by decide +kernel
theorem dX7_set_51 : decode cX7_set 51 = .ok (.lastore, 1) := by decide +kernel
theorem dX7_set_52 : decode cX7_set 52 = .ok (.iconst 1, 1) := by decide +kernel
theorem dX7_set_53 : decode cX7_set 53 = .ok (.ireturn, 1) := by decide +kernel
theorem dX7_get_0 : decode cX7_get 0 = .ok (.iload_n 1, 1) := by decide +kernel
theorem dX7_get_1 : decode cX7_get 1 = .ok (.invokestatic 310, 3) := by decide +kernel
theorem dX7_get_4 : decode cX7_get 4 = .ok (.ifCond .eq 30, 3) := by decide +kernel
theorem dX7_get_7 : decode cX7_get 7 = .ok (.aload_n 0, 1) := by decide +kernel
theorem dX7_get_8 : decode cX7_get 8 = .ok (.getfield 76, 3) := by decide +kernel
theorem dX7_get_11 : decode cX7_get 11 = .ok (.iload_n 1, 1) := by decide +kernel
theorem dX7_get_12 : decode cX7_get 12 = .ok (.aaload, 1) := by decide +kernel
theorem dX7_get_13 : decode cX7_get 13 = .ok (.iload_n 2, 1) := by decide +kernel
theorem dX7_get_14 : decode cX7_get 14 = .ok (.invokevirtual 320, 3) := by decide +kernel
theorem dX7_get_17 : decode cX7_get 17 = .ok (.ifCond .eq 17, 3) := by decide +kernel
theorem dX7_get_20 : decode cX7_get 20 = .ok (.aload_n 0, 1) := by decide +kernel
theorem dX7_get_21 : decode cX7_get 21 = .ok (.getfield 76, 3) := by decide +kernel
theorem dX7_get_24 : decode cX7_get 24 = .ok (.iload_n 1, 1) := by decide +kernel
theorem dX7_get_25 : decode cX7_get 25 = .ok (.aaload, 1) := by decide +kernel
theorem dX7_get_26 : decode cX7_get 26 = .ok (.getfield 323, 3) := by decide +kernel
theorem dX7_get_29 : decode cX7_get 29 = .ok (.iload_n 2, 1) := by decide +kernel
theorem dX7_get_30 : decode cX7_get 30 = .ok (.laload, 1) := by decide +kernel
theorem dX7_get_31 : decode cX7_get 31 = .ok (.goto 6, 3) := by decide +kernel
theorem dX7_get_34 : decode cX7_get 34 = .ok (.ldc2_w 133, 3) := by decide +kernel
theorem dX7_get_37 : decode cX7_get 37 = .ok (.lreturn, 1) := by decide +kernel
theorem dX7_into_0 : decode cX7_into 0 = .ok (.aload_n 0, 1) := by decide +kernel
theorem dX7_into_1 : decode cX7_into 1 = .ok (.getfield 12, 3) := by decide +kernel
theorem dX7_into_4 : decode cX7_into 4 = .ok (.iload_n 1, 1) := by decide +kernel
theorem dX7_into_5 : decode cX7_into 5 = .ok (.invokevirtual 135, 3) := by decide +kernel
theorem dX7_into_8 : decode cX7_into 8 = .ok (.ifCond .eq 10, 3) := by decide +kernel
theorem dX7_into_11 : decode cX7_into 11 = .ok (.iload_n 2, 1) := by decide +kernel
theorem dX7_into_12 : decode cX7_into 12 = .ok (.invokestatic 310, 3) := by decide +kernel
theorem dX7_into_15 : decode cX7_into 15 = .ok (.ifCond .ne 5, 3) := by decide +kernel
theorem dX7_into_18 : decode cX7_into 18 = .ok (.iconst (-1), 1) := by decide +kernel
theorem dX7_into_19 : decode cX7_into 19 = .ok (.ireturn, 1) := by decide +kernel
theorem dX7_into_20 : decode cX7_into 20 = .ok (.aload_n 0, 1) := by decide +kernel
theorem dX7_into_21 : decode cX7_into 21 = .ok (.getfield 76, 3) := by decide +kernel
theorem dX7_into_24 : decode cX7_into 24 = .ok (.iload_n 2, 1) := by decide +kernel
theorem dX7_into_25 : decode cX7_into 25 = .ok (.aaload, 1) := by decide +kernel
theorem dX7_into_26 : decode cX7_into 26 = .ok (.astore 4, 2) := by decide +kernel
theorem dX7_into_28 : decode cX7_into 28 = .ok (.aload 4, 2) := by decide +kernel
theorem dX7_into_30 : decode cX7_into 30 = .ok (.invokevirtual 317, 3) := by decide +kernel
theorem dX7_into_33 : decode cX7_into 33 = .ok (.ifCond .eq 6, 3) := by decide +kernel
theorem dX7_into_36 : decode cX7_into 36 = .ok (.bipush (-11), 2) := by decide +kernel
theorem dX7_into_38 : decode cX7_into 38 = .ok (.ireturn, 1) := by decide +kernel
theorem dX7_into_39 : decode cX7_into 39 = .ok (.iload_n 3, 1) := by decide +kernel
theorem dX7_into_40 : decode cX7_into 40 = .ok (.ifCond .ge 6, 3) := by decide +kernel
theorem dX7_into_43 : decode cX7_into 43 = .ok (.bipush (-13), 2) := by decide +kernel
theorem dX7_into_45 : decode cX7_into 45 = .ok (.ireturn, 1) := by decide +kernel
theorem dX7_into_46 : decode cX7_into 46 = .ok (.aload_n 0, 1) := by decide +kernel
theorem dX7_into_47 : decode cX7_into 47 = .ok (.iload_n 1, 1) := by decide +kernel
theorem dX7_into_48 : decode cX7_into 48 = .ok (.invokevirtual 224, 3) := by decide +kernel
theorem dX7_into_51 : decode cX7_into 51 = .ok (.ifCond .ne 6, 3) := by decide +kernel
theorem dX7_into_54 : decode cX7_into 54 = .ok (.bipush (-2), 2) := by decide +kernel
theorem dX7_into_56 : decode cX7_into 56 = .ok (.ireturn, 1) := by decide +kernel
theorem dX7_into_57 : decode cX7_into 57 = .ok (.iconst 4, 1) := by decide +kernel
theorem dX7_into_58 : decode cX7_into 58 = .ok (.aload_n 0, 1) := by decide +kernel
theorem dX7_into_59 : decode cX7_into 59 = .ok (.getfield 12, 3) := by decide +kernel
theorem dX7_into_62 : decode cX7_into 62 = .ok (.iload_n 1, 1) := by decide +kernel
theorem dX7_into_63 : decode cX7_into 63 = .ok (.aload_n 0, 1) := by decide +kernel
theorem dX7_into_64 : decode cX7_into 64 = .ok (.getfield 48, 3) := by decide +kernel
theorem dX7_into_67 : decode cX7_into 67 = .ok (.invokevirtual 327, 3) := by decide +kernel
theorem dX7_into_70 : decode cX7_into 70 = .ok (.imul, 1) := by decide +kernel
theorem dX7_into_71 : decode cX7_into 71 = .ok (.istore 5, 2) := by decide +kernel
theorem dX7_into_73 : decode cX7_into 73 = .ok (.iconst 0, 1) := by decide +kernel
theorem dX7_into_74 : decode cX7_into 74 = .ok (.istore 6, 2) := by decide +kernel
theorem dX7_into_76 : decode cX7_into 76 = .ok (.iload 6, 2) := by decide +kernel
theorem dX7_into_78 : decode cX7_into 78 = .ok (.iload 5, 2) := by decide +kernel
theorem dX7_into_80 : decode cX7_into 80 = .ok (.if_icmp .ge 38, 3) := by decide +kernel
theorem dX7_into_83 : decode cX7_into 83 = .ok (.aload 4, 2) := by decide +kernel
theorem dX7_into_85 : decode cX7_into 85 = .ok (.iload_n 3, 1) := by decide +kernel
theorem dX7_into_86 : decode cX7_into 86 = .ok (.iload 6, 2) := by decide +kernel
theorem dX7_into_88 : decode cX7_into 88 = .ok (.iadd, 1) := by decide +kernel
theorem dX7_into_89 : decode cX7_into 89 = .ok (.invokevirtual 320, 3) := by decide +kernel
theorem dX7_into_92 : decode cX7_into 92 = .ok (.ifCond .eq 26, 3) := by decide +kernel
theorem dX7_into_95 : decode cX7_into 95 = .ok (.aload 4, 2) := by decide +kernel
theorem dX7_into_97 : decode cX7_into 97 = .ok (.getfield 323, 3) := by decide +kernel
theorem dX7_into_100 : decode cX7_into 100 = .ok (.iload_n 3, 1) := by decide +kernel
theorem dX7_into_101 : decode cX7_into 101 = .ok (.iload 6, 2) := by decide +kernel
theorem dX7_into_103 : decode cX7_into 103 = .ok (.iadd, 1) := by decide +kernel
theorem dX7_into_104 : decode cX7_into 104 = .ok (.aload_n 0, 1) := by decide +kernel
theorem dX7_into_105 : decode cX7_into 105 = .ok (.iload_n 1, 1) := by decide +kernel
theorem dX7_into_106 : decode cX7_into 106 = .ok (.iload 6, 2) := by decide +kernel
theorem dX7_into_108 : decode cX7_into 108 = .ok (.invokevirtual 331, 3) := by decide +kernel
theorem dX7_into_111 : decode cX7_into 111 = .ok (.lastore, 1) := by decide +kernel
theorem dX7_into_112 : decode cX7_into 112 = .ok (.iinc 6 1, 3) := by decide +kernel
theorem dX7_into_115 : decode cX7_into 115 = .ok (.goto (-39), 3) := by decide +kernel
theorem dX7_into_118 : decode cX7_into 118 = .ok (.iload 6, 2) := by decide +kernel
theorem dX7_into_120 : decode cX7_into 120 = .ok (.ireturn, 1) := by decide +kernel
theorem dX7_judge_0 : decode cX7_judge 0 = .ok (.aload_n 0, 1) := by decide +kernel
theorem dX7_judge_1 : decode cX7_judge 1 = .ok (.getfield 12, 3) := by decide +kernel
theorem dX7_judge_4 : decode cX7_judge 4 = .ok (.iload_n 1, 1) := by decide +kernel
theorem dX7_judge_5 : decode cX7_judge 5 = .ok (.invokevirtual 135, 3) := by decide +kernel
theorem dX7_judge_8 : decode cX7_judge 8 = .ok (.ifCond .eq 14, 3) := by decide +kernel
theorem dX7_judge_11 : decode cX7_judge 11 = .ok (.iload_n 2, 1) := by decide +kernel
theorem dX7_judge_12 : decode cX7_judge 12 = .ok (.invokestatic 310, 3) := by decide +kernel
theorem dX7_judge_15 : decode cX7_judge 15 = .ok (.ifCond .eq 7, 3) := by decide +kernel
theorem dX7_judge_18 : decode cX7_judge 18 = .ok (.iload_n 3, 1) := by decide +kernel
theorem dX7_judge_19 : decode cX7_judge 19 = .ok (.ifCond .ge 5, 3) := by decide +kernel
theorem dX7_judge_22 : decode cX7_judge 22 = .ok (.iconst (-1), 1) := by decide +kernel
theorem dX7_judge_23 : decode cX7_judge 23 = .ok (.ireturn, 1) := by decide +kernel
theorem dX7_judge_24 : decode cX7_judge 24 = .ok (.aload_n 0, 1) := by decide +kernel
theorem dX7_judge_25 : decode cX7_judge 25 = .ok (.getfield 76, 3) := by decide +kernel
theorem dX7_judge_28 : decode cX7_judge 28 = .ok (.iload_n 2, 1) := by decide +kernel
theorem dX7_judge_29 : decode cX7_judge 29 = .ok (.aaload, 1) := by decide +kernel
theorem dX7_judge_30 : decode cX7_judge 30 = .ok (.astore 4, 2) := by decide +kernel
theorem dX7_judge_32 : decode cX7_judge 32 = .ok (.aload 4, 2) := by decide +kernel
theorem dX7_judge_34 : decode cX7_judge 34 = .ok (.invokevirtual 317, 3) := by decide +kernel
theorem dX7_judge_37 : decode cX7_judge 37 = .ok (.ifCond .eq 6, 3) := by decide +kernel
theorem dX7_judge_40 : decode cX7_judge 40 = .ok (.bipush (-11), 2) := by decide +kernel
theorem dX7_judge_42 : decode cX7_judge 42 = .ok (.ireturn, 1) := by decide +kernel
theorem dX7_judge_43 : decode cX7_judge 43 = .ok (.aload_n 0, 1) := by decide +kernel
theorem dX7_judge_44 : decode cX7_judge 44 = .ok (.iload_n 1, 1) := by decide +kernel
theorem dX7_judge_45 : decode cX7_judge 45 = .ok (.invokevirtual 224, 3) := by decide +kernel
theorem dX7_judge_48 : decode cX7_judge 48 = .ok (.ifCond .ne 6, 3) := by decide +kernel
theorem dX7_judge_51 : decode cX7_judge 51 = .ok (.bipush (-5), 2) := by decide +kernel
theorem dX7_judge_53 : decode cX7_judge 53 = .ok (.ireturn, 1) := by decide +kernel
theorem dX7_judge_54 : decode cX7_judge 54 = .ok (.iconst 4, 1) := by decide +kernel
theorem dX7_judge_55 : decode cX7_judge 55 = .ok (.aload_n 0, 1) := by decide +kernel
theorem dX7_judge_56 : decode cX7_judge 56 = .ok (.getfield 12, 3) := by decide +kernel
theorem dX7_judge_59 : decode cX7_judge 59 = .ok (.iload_n 1, 1) := by decide +kernel
theorem dX7_judge_60 : decode cX7_judge 60 = .ok (.aload_n 0, 1) := by decide +kernel
theorem dX7_judge_61 : decode cX7_judge 61 = .ok (.getfield 48, 3) := by decide +kernel
theorem dX7_judge_64 : decode cX7_judge 64 = .ok (.invokevirtual 327, 3) := by decide +kernel
theorem dX7_judge_67 : decode cX7_judge 67 = .ok (.imul, 1) := by decide +kernel
theorem dX7_judge_68 : decode cX7_judge 68 = .ok (.istore 5, 2) := by decide +kernel
theorem dX7_judge_70 : decode cX7_judge 70 = .ok (.iconst 0, 1) := by decide +kernel
theorem dX7_judge_71 : decode cX7_judge 71 = .ok (.istore 6, 2) := by decide +kernel
theorem dX7_judge_73 : decode cX7_judge 73 = .ok (.iload 6, 2) := by decide +kernel
theorem dX7_judge_75 : decode cX7_judge 75 = .ok (.iload 5, 2) := by decide +kernel
theorem dX7_judge_77 : decode cX7_judge 77 = .ok (.if_icmp .ge 55, 3) := by decide +kernel
theorem dX7_judge_80 : decode cX7_judge 80 = .ok (.aload 4, 2) := by decide +kernel
theorem dX7_judge_82 : decode cX7_judge 82 = .ok (.iload_n 3, 1) := by decide +kernel
theorem dX7_judge_83 : decode cX7_judge 83 = .ok (.iload 6, 2) := by decide +kernel
theorem dX7_judge_85 : decode cX7_judge 85 = .ok (.iadd, 1) := by decide +kernel
theorem dX7_judge_86 : decode cX7_judge 86 = .ok (.invokevirtual 320, 3) := by decide +kernel
theorem dX7_judge_89 : decode cX7_judge 89 = .ok (.ifCond .ne 11, 3) := by decide +kernel
theorem dX7_judge_92 : decode cX7_judge 92 = .ok (.bipush 100, 2) := by decide +kernel
theorem dX7_judge_94 : decode cX7_judge 94 = .ok (.iload 6, 2) := by decide +kernel
theorem dX7_judge_96 : decode cX7_judge 96 = .ok (.iconst 4, 1) := by decide +kernel
theorem dX7_judge_97 : decode cX7_judge 97 = .ok (.idiv, 1) := by decide +kernel
theorem dX7_judge_98 : decode cX7_judge 98 = .ok (.iadd, 1) := by decide +kernel
theorem dX7_judge_99 : decode cX7_judge 99 = .ok (.ireturn, 1) := by decide +kernel
theorem dX7_judge_100 : decode cX7_judge 100 = .ok (.aload 4, 2) := by decide +kernel
theorem dX7_judge_102 : decode cX7_judge 102 = .ok (.getfield 323, 3) := by decide +kernel
theorem dX7_judge_105 : decode cX7_judge 105 = .ok (.iload_n 3, 1) := by decide +kernel
theorem dX7_judge_106 : decode cX7_judge 106 = .ok (.iload 6, 2) := by decide +kernel
theorem dX7_judge_108 : decode cX7_judge 108 = .ok (.iadd, 1) := by decide +kernel
theorem dX7_judge_109 : decode cX7_judge 109 = .ok (.laload, 1) := by decide +kernel
theorem dX7_judge_110 : decode cX7_judge 110 = .ok (.aload_n 0, 1) := by decide +kernel
theorem dX7_judge_111 : decode cX7_judge 111 = .ok (.iload_n 1, 1) := by decide +kernel
theorem dX7_judge_112 : decode cX7_judge 112 = .ok (.iload 6, 2) := by decide +kernel
theorem dX7_judge_114 : decode cX7_judge 114 = .ok (.invokevirtual 331, 3) := by decide +kernel
theorem dX7_judge_117 : decode cX7_judge 117 = .ok (.lcmp, 1) := by decide +kernel
theorem dX7_judge_118 : decode cX7_judge 118 = .ok (.ifCond .eq 8, 3) := by decide +kernel
theorem dX7_judge_121 : decode cX7_judge 121 = .ok (.iload 6, 2) := by decide +kernel
theorem dX7_judge_123 : decode cX7_judge 123 = .ok (.iconst 4, 1) := by decide +kernel
theorem dX7_judge_124 : decode cX7_judge 124 = .ok (.idiv, 1) := by decide +kernel
theorem dX7_judge_125 : decode cX7_judge 125 = .ok (.ireturn, 1) := by decide +kernel
theorem dX7_judge_126 : decode cX7_judge 126 = .ok (.iinc 6 1, 3) := by decide +kernel
theorem dX7_judge_129 : decode cX7_judge 129 = .ok (.goto (-56), 3) := by decide +kernel
theorem dX7_judge_132 : decode cX7_judge 132 = .ok (.bipush (-2), 2) := by decide +kernel
theorem dX7_judge_134 : decode cX7_judge 134 = .ok (.ireturn, 1) := by decide +kernel
theorem dX7_undo_0 : decode cX7_undo 0 = .ok (.aload_n 0, 1) := by decide +kernel
theorem dX7_undo_1 : decode cX7_undo 1 = .ok (.getfield 21, 3) := by decide +kernel
theorem dX7_undo_4 : decode cX7_undo 4 = .ok (.aload_n 0, 1) := by decide +kernel
theorem dX7_undo_5 : decode cX7_undo 5 = .ok (.getfield 12, 3) := by decide +kernel
theorem dX7_undo_8 : decode cX7_undo 8 = .ok (.invokevirtual 334, 3) := by decide +kernel
theorem dX7_undo_11 : decode cX7_undo 11 = .ok (.ifCond .eq 13, 3) := by decide +kernel
theorem dX7_undo_14 : decode cX7_undo 14 = .ok (.aload_n 0, 1) := by decide +kernel
theorem dX7_undo_15 : decode cX7_undo 15 = .ok (.getfield 21, 3) := by decide +kernel
theorem dX7_undo_18 : decode cX7_undo 18 = .ok (.getfield 168, 3) := by decide +kernel
theorem dX7_undo_21 : decode cX7_undo 21 = .ok (.goto 5, 3) := by decide +kernel
theorem dX7_undo_24 : decode cX7_undo 24 = .ok (.bipush (-2), 2) := by decide +kernel
theorem dX7_undo_26 : decode cX7_undo 26 = .ok (.ireturn, 1) := by decide +kernel
theorem dX7_image_0 : decode cX7_image 0 = .ok (.aload_n 0, 1) := by decide +kernel
theorem dX7_image_1 : decode cX7_image 1 = .ok (.getfield 25, 3) := by decide +kernel
theorem dX7_image_4 : decode cX7_image 4 = .ok (.aload_n 0, 1) := by decide +kernel
theorem dX7_image_5 : decode cX7_image 5 = .ok (.getfield 12, 3) := by decide +kernel
theorem dX7_image_8 : decode cX7_image 8 = .ok (.invokevirtual 338, 3) := by decide +kernel
theorem dX7_image_11 : decode cX7_image 11 = .ok (.aload_n 0, 1) := by decide +kernel
theorem dX7_image_12 : decode cX7_image 12 = .ok (.iconst 1, 1) := by decide +kernel
theorem dX7_image_13 : decode cX7_image 13 = .ok (.putfield 28, 3) := by decide +kernel
theorem dX7_image_16 : decode cX7_image 16 = .ok (.aload_n 0, 1) := by decide +kernel
theorem dX7_image_17 : decode cX7_image 17 = .ok (.getfield 12, 3) := by decide +kernel
theorem dX7_image_20 : decode cX7_image 20 = .ok (.getfield 159, 3) := by decide +kernel
theorem dX7_image_23 : decode cX7_image 23 = .ok (.ireturn, 1) := by decide +kernel
theorem dX7_back_0 : decode cX7_back 0 = .ok (.aload_n 0, 1) := by decide +kernel
theorem dX7_back_1 : decode cX7_back 1 = .ok (.getfield 28, 3) := by decide +kernel
theorem dX7_back_4 : decode cX7_back 4 = .ok (.ifCond .ne 6, 3) := by decide +kernel
theorem dX7_back_7 : decode cX7_back 7 = .ok (.bipush (-5), 2) := by decide +kernel
theorem dX7_back_9 : decode cX7_back 9 = .ok (.ireturn, 1) := by decide +kernel
theorem dX7_back_10 : decode cX7_back 10 = .ok (.aload_n 0, 1) := by decide +kernel
theorem dX7_back_11 : decode cX7_back 11 = .ok (.getfield 12, 3) := by decide +kernel
theorem dX7_back_14 : decode cX7_back 14 = .ok (.aload_n 0, 1) := by decide +kernel
theorem dX7_back_15 : decode cX7_back 15 = .ok (.getfield 25, 3) := by decide +kernel
theorem dX7_back_18 : decode cX7_back 18 = .ok (.invokevirtual 338, 3) := by decide +kernel
theorem dX7_back_21 : decode cX7_back 21 = .ok (.aload_n 0, 1) := by decide +kernel
theorem dX7_back_22 : decode cX7_back 22 = .ok (.getfield 21, 3) := by decide +kernel
theorem dX7_back_25 : decode cX7_back 25 = .ok (.invokevirtual 340, 3) := by decide +kernel
theorem dX7_back_28 : decode cX7_back 28 = .ok (.aload_n 0, 1) := by decide +kernel
theorem dX7_back_29 : decode cX7_back 29 = .ok (.getfield 12, 3) := by decide +kernel
theorem dX7_back_32 : decode cX7_back 32 = .ok (.getfield 159, 3) := by decide +kernel
theorem dX7_back_35 : decode cX7_back 35 = .ok (.ireturn, 1) := by decide +kernel
theorem dX7_isPoint_0 : decode cX7_isPoint 0 = .ok (.iload_n 0, 1) := by decide +kernel
theorem dX7_isPoint_1 : decode cX7_isPoint 1 = .ok (.bipush (-20), 2) := by decide +kernel
theorem dX7_isPoint_3 : decode cX7_isPoint 3 = .ok (.if_icmp .lt 25, 3) := by decide +kernel
theorem dX7_isPoint_6 : decode cX7_isPoint 6 = .ok (.iload_n 0, 1) := by decide +kernel
theorem dX7_isPoint_7 : decode cX7_isPoint 7 = .ok (.bipush 20, 2) := by decide +kernel
theorem dX7_isPoint_9 : decode cX7_isPoint 9 = .ok (.if_icmp .gt 19, 3) := by decide +kernel
theorem dX7_isPoint_12 : decode cX7_isPoint 12 = .ok (.iload_n 1, 1) := by decide +kernel
theorem dX7_isPoint_13 : decode cX7_isPoint 13 = .ok (.bipush (-20), 2) := by decide +kernel
theorem dX7_isPoint_15 : decode cX7_isPoint 15 = .ok (.if_icmp .lt 13, 3) := by decide +kernel
theorem dX7_isPoint_18 : decode cX7_isPoint 18 = .ok (.iload_n 1, 1) := by decide +kernel
theorem dX7_isPoint_19 : decode cX7_isPoint 19 = .ok (.bipush 20, 2) := by decide +kernel
theorem dX7_isPoint_21 : decode cX7_isPoint 21 = .ok (.if_icmp .gt 7, 3) := by decide +kernel
theorem dX7_isPoint_24 : decode cX7_isPoint 24 = .ok (.iconst 1, 1) := by decide +kernel
theorem dX7_isPoint_25 : decode cX7_isPoint 25 = .ok (.goto 4, 3) := by decide +kernel
theorem dX7_isPoint_28 : decode cX7_isPoint 28 = .ok (.iconst 0, 1) := by decide +kernel
theorem dX7_isPoint_29 : decode cX7_isPoint 29 = .ok (.ireturn, 1) := by decide +kernel
theorem dX7_isAxis_0 : decode cX7_isAxis 0 = .ok (.iload_n 0, 1) := by decide +kernel
theorem dX7_isAxis_1 : decode cX7_isAxis 1 = .ok (.ifCond .eq 8, 3) := by decide +kernel
theorem dX7_isAxis_4 : decode cX7_isAxis 4 = .ok (.iload_n 0, 1) := by decide +kernel
theorem dX7_isAxis_5 : decode cX7_isAxis 5 = .ok (.iconst 1, 1) := by decide +kernel
theorem dX7_isAxis_6 : decode cX7_isAxis 6 = .ok (.if_icmp .ne 7, 3) := by decide +kernel
theorem dX7_isAxis_9 : decode cX7_isAxis 9 = .ok (.iconst 1, 1) := by decide +kernel
theorem dX7_isAxis_10 : decode cX7_isAxis 10 = .ok (.goto 4, 3) := by decide +kernel
theorem dX7_isAxis_13 : decode cX7_isAxis 13 = .ok (.iconst 0, 1) := by decide +kernel
theorem dX7_isAxis_14 : decode cX7_isAxis 14 = .ok (.ireturn, 1) := by decide +kernel
theorem dX7_isPart_0 : decode cX7_isPart 0 = .ok (.iload_n 0, 1) := by decide +kernel
theorem dX7_isPart_1 : decode cX7_isPart 1 = .ok (.ifCond .eq 8, 3) := by decide +kernel
theorem dX7_isPart_4 : decode cX7_isPart 4 = .ok (.iload_n 0, 1) := by decide +kernel
theorem dX7_isPart_5 : decode cX7_isPart 5 = .ok (.iconst 1, 1) := by decide +kernel
theorem dX7_isPart_6 : decode cX7_isPart 6 = .ok (.if_icmp .ne 7, 3) := by decide +kernel
theorem dX7_isPart_9 : decode cX7_isPart 9 = .ok (.iconst 1, 1) := by decide +kernel
theorem dX7_isPart_10 : decode cX7_isPart 10 = .ok (.goto 4, 3) := by decide +kernel
theorem dX7_isPart_13 : decode cX7_isPart 13 = .ok (.iconst 0, 1) := by decide +kernel
theorem dX7_isPart_14 : decode cX7_isPart 14 = .ok (.ireturn, 1) := by decide +kernel
theorem dX7_isKind_0 : decode cX7_isKind 0 = .ok (.iload_n 0, 1) := by decide +kernel
theorem dX7_isKind_1 : decode cX7_isKind 1 = .ok (.ifCond .lt 13, 3) := by decide +kernel
theorem dX7_isKind_4 : decode cX7_isKind 4 = .ok (.iload_n 0, 1) := by decide +kernel
theorem dX7_isKind_5 : decode cX7_isKind 5 = .ok (.bipush 12, 2) := by decide +kernel
theorem dX7_isKind_7 : decode cX7_isKind 7 = .ok (.if_icmp .ge 7, 3) := by decide +kernel
theorem dX7_isKind_10 : decode cX7_isKind 10 = .ok (.iconst 1, 1) := by decide +kernel
theorem dX7_isKind_11 : decode cX7_isKind 11 = .ok (.goto 4, 3) := by decide +kernel
theorem dX7_isKind_14 : decode cX7_isKind 14 = .ok (.iconst 0, 1) := by decide +kernel
theorem dX7_isKind_15 : decode cX7_isKind 15 = .ok (.ireturn, 1) := by decide +kernel
theorem dX7_isNeutral_0 : decode cX7_isNeutral 0 = .ok (.iload_n 0, 1) := by decide +kernel
theorem dX7_isNeutral_1 : decode cX7_isNeutral 1 = .ok (.invokestatic 150, 3) := by decide +kernel
theorem dX7_isNeutral_4 : decode cX7_isNeutral 4 = .ok (.ifCond .eq 15, 3) := by decide +kernel
theorem dX7_isNeutral_7 : decode cX7_isNeutral 7 = .ok (.iload_n 0, 1) := by decide +kernel
theorem dX7_isNeutral_8 : decode cX7_isNeutral 8 = .ok (.iconst 0, 1) := by decide +kernel
theorem dX7_isNeutral_9 : decode cX7_isNeutral 9 = .ok (.invokestatic 153, 3) := by decide +kernel
theorem dX7_isNeutral_12 : decode cX7_isNeutral 12 = .ok (.ifCond .ne 7, 3) := by decide +kernel
theorem dX7_isNeutral_15 : decode cX7_isNeutral 15 = .ok (.iconst 1, 1) := by decide +kernel
theorem dX7_isNeutral_16 : decode cX7_isNeutral 16 = .ok (.goto 4, 3) := by decide +kernel
theorem dX7_isNeutral_19 : decode cX7_isNeutral 19 = .ok (.iconst 0, 1) := by decide +kernel
theorem dX7_isNeutral_20 : decode cX7_isNeutral 20 = .ok (.ireturn, 1) := by decide +kernel
theorem dX7_isLaw_0 : decode cX7_isLaw 0 = .ok (.iload_n 0, 1) := by decide +kernel
theorem dX7_isLaw_1 : decode cX7_isLaw 1 = .ok (.ifCond .lt 12, 3) := by decide +kernel
theorem dX7_isLaw_4 : decode cX7_isLaw 4 = .ok (.iload_n 0, 1) := by decide +kernel
theorem dX7_isLaw_5 : decode cX7_isLaw 5 = .ok (.iconst 3, 1) := by decide +kernel
theorem dX7_isLaw_6 : decode cX7_isLaw 6 = .ok (.if_icmp .ge 7, 3) := by decide +kernel
theorem dX7_isLaw_9 : decode cX7_isLaw 9 = .ok (.iconst 1, 1) := by decide +kernel
theorem dX7_isLaw_10 : decode cX7_isLaw 10 = .ok (.goto 4, 3) := by decide +kernel
theorem dX7_isLaw_13 : decode cX7_isLaw 13 = .ok (.iconst 0, 1) := by decide +kernel
theorem dX7_isLaw_14 : decode cX7_isLaw 14 = .ok (.ireturn, 1) := by decide +kernel
theorem dX7_isList_0 : decode cX7_isList 0 = .ok (.iload_n 0, 1) := by decide +kernel
theorem dX7_isList_1 : decode cX7_isList 1 = .ok (.ifCond .lt 12, 3) := by decide +kernel
theorem dX7_isList_4 : decode cX7_isList 4 = .ok (.iload_n 0, 1) := by decide +kernel
theorem dX7_isList_5 : decode cX7_isList 5 = .ok (.iconst 3, 1) := by decide +kernel
theorem dX7_isList_6 : decode cX7_isList 6 = .ok (.if_icmp .ge 7, 3) := by decide +kernel
theorem dX7_isList_9 : decode cX7_isList 9 = .ok (.iconst 1, 1) := by decide +kernel
theorem dX7_isList_10 : decode cX7_isList 10 = .ok (.goto 4, 3) := by decide +kernel
theorem dX7_isList_13 : decode cX7_isList 13 = .ok (.iconst 0, 1) := by decide +kernel
theorem dX7_isList_14 : decode cX7_isList 14 = .ok (.ireturn, 1) := by decide +kernel
theorem dX7_numberOf_0 : decode cX7_numberOf 0 = .ok (.getstatic 343, 3) := by decide +kernel
theorem dX7_numberOf_3 : decode cX7_numberOf 3 = .ok (.iconst 5, 1) := by decide +kernel
theorem dX7_numberOf_4 : decode cX7_numberOf 4 = .ok (.iload_n 0, 1) := by decide +kernel
theorem dX7_numberOf_5 : decode cX7_numberOf 5 = .ok (.imul, 1) := by decide +kernel
theorem dX7_numberOf_6 : decode cX7_numberOf 6 = .ok (.iload_n 1, 1) := by decide +kernel
theorem dX7_numberOf_7 : decode cX7_numberOf 7 = .ok (.iadd, 1) := by decide +kernel
theorem dX7_numberOf_8 : decode cX7_numberOf 8 = .ok (.iaload, 1) := by decide +kernel
theorem dX7_numberOf_9 : decode cX7_numberOf 9 = .ok (.ireturn, 1) := by decide +kernel
theorem dX7_lowest_0 : decode cX7_lowest 0 = .ok (.lconst 1, 1) := by decide +kernel
theorem dX7_lowest_1 : decode cX7_lowest 1 = .ok (.lload_n 0, 1) := by decide +kernel
theorem dX7_lowest_2 : decode cX7_lowest 2 = .ok (.invokestatic 192, 3) := by decide +kernel
theorem dX7_lowest_5 : decode cX7_lowest 5 = .ok (.lload_n 2, 1) := by decide +kernel
theorem dX7_lowest_6 : decode cX7_lowest 6 = .ok (.invokestatic 346, 3) := by decide +kernel
theorem dX7_lowest_9 : decode cX7_lowest 9 = .ok (.invokestatic 350, 3) := by decide +kernel
theorem dX7_lowest_12 : decode cX7_lowest 12 = .ok (.lstore 5, 2) := by decide +kernel
theorem dX7_lowest_14 : decode cX7_lowest 14 = .ok (.iload 4, 2) := by decide +kernel
theorem dX7_lowest_16 : decode cX7_lowest 16 = .ok (.ifCond .ne 7, 3) := by decide +kernel
theorem dX7_lowest_19 : decode cX7_lowest 19 = .ok (.lload_n 0, 1) := by decide +kernel
theorem dX7_lowest_20 : decode cX7_lowest 20 = .ok (.goto 4, 3) := by decide +kernel
theorem dX7_lowest_23 : decode cX7_lowest 23 = .ok (.lload_n 2, 1) := by decide +kernel
theorem dX7_lowest_24 : decode cX7_lowest 24 = .ok (.lload 5, 2) := by decide +kernel
theorem dX7_lowest_26 : decode cX7_lowest 26 = .ok (.ldiv, 1) := by decide +kernel
theorem dX7_lowest_27 : decode cX7_lowest 27 = .ok (.lreturn, 1) := by decide +kernel
theorem dX7_commonDivisor_0 : decode cX7_commonDivisor 0 = .ok (.iconst 0, 1) := by decide +kernel
theorem dX7_commonDivisor_1 : decode cX7_commonDivisor 1 = .ok (.istore 4, 2) := by decide +kernel
theorem dX7_commonDivisor_3 : decode cX7_commonDivisor 3 = .ok (.iload 4, 2) := by decide +kernel
theorem dX7_commonDivisor_5 : decode cX7_commonDivisor 5 = .ok (.sipush 128, 3) := by decide +kernel
theorem dX7_commonDivisor_8 : decode cX7_commonDivisor 8 = .ok (.if_icmp .ge 25, 3) := by decide +kernel
theorem dX7_commonDivisor_11 : decode cX7_commonDivisor 11 = .ok (.lload_n 2, 1) := by decide +kernel
theorem dX7_commonDivisor_12 : decode cX7_commonDivisor 12 = .ok (.lconst 0, 1) := by decide +kernel
theorem dX7_commonDivisor_13 : decode cX7_commonDivisor 13 = .ok (.lcmp, 1) := by decide +kernel
theorem dX7_commonDivisor_14 : decode cX7_commonDivisor 14 = .ok (.ifCond .eq 19, 3) := by decide +kernel
theorem dX7_commonDivisor_17 : decode cX7_commonDivisor 17 = .ok (.lload_n 0, 1) := by decide +kernel
theorem dX7_commonDivisor_18 : decode cX7_commonDivisor 18 = .ok (.lload_n 2, 1) := by decide +kernel
theorem dX7_commonDivisor_19 : decode cX7_commonDivisor 19 = .ok (.lrem, 1) := by decide +kernel
theorem dX7_commonDivisor_20 : decode cX7_commonDivisor 20 = .ok (.lstore 5, 2) := by decide +kernel
theorem dX7_commonDivisor_22 : decode cX7_commonDivisor 22 = .ok (.lload_n 2, 1) := by decide +kernel
theorem dX7_commonDivisor_23 : decode cX7_commonDivisor 23 = .ok (.lstore_n 0, 1) := by decide +kernel
theorem dX7_commonDivisor_24 : decode cX7_commonDivisor 24 = .ok (.lload 5, 2) := by decide +kernel
theorem dX7_commonDivisor_26 : decode cX7_commonDivisor 26 = .ok (.lstore_n 2, 1) := by decide +kernel
theorem dX7_commonDivisor_27 : decode cX7_commonDivisor 27 = .ok (.iinc 4 1, 3) := by decide +kernel
theorem dX7_commonDivisor_30 : decode cX7_commonDivisor 30 = .ok (.goto (-27), 3) := by decide +kernel
theorem dX7_commonDivisor_33 : decode cX7_commonDivisor 33 = .ok (.lload_n 0, 1) := by decide +kernel
theorem dX7_commonDivisor_34 : decode cX7_commonDivisor 34 = .ok (.lreturn, 1) := by decide +kernel
theorem dX7_wholeRoot_0 : decode cX7_wholeRoot 0 = .ok (.lconst 0, 1) := by decide +kernel
theorem dX7_wholeRoot_1 : decode cX7_wholeRoot 1 = .ok (.lstore_n 2, 1) := by decide +kernel
theorem dX7_wholeRoot_2 : decode cX7_wholeRoot 2 = .ok (.bipush 30, 2) := by decide +kernel
theorem dX7_wholeRoot_4 : decode cX7_wholeRoot 4 = .ok (.istore 4, 2) := by decide +kernel
theorem dX7_wholeRoot_6 : decode cX7_wholeRoot 6 = .ok (.iload 4, 2) := by decide +kernel
theorem dX7_wholeRoot_8 : decode cX7_wholeRoot 8 = .ok (.ifCond .lt 30, 3) := by decide +kernel
theorem dX7_wholeRoot_11 : decode cX7_wholeRoot 11 = .ok (.lload_n 2, 1) := by decide +kernel
theorem dX7_wholeRoot_12 : decode cX7_wholeRoot 12 = .ok (.lconst 1, 1) := by decide +kernel
theorem dX7_wholeRoot_13 : decode cX7_wholeRoot 13 = .ok (.iload 4, 2) := by decide +kernel
theorem dX7_wholeRoot_15 : decode cX7_wholeRoot 15 = .ok (.lshl, 1) := by decide +kernel
theorem dX7_wholeRoot_16 : decode cX7_wholeRoot 16 = .ok (.ladd, 1) := by decide +kernel
theorem dX7_wholeRoot_17 : decode cX7_wholeRoot 17 = .ok (.lstore 5, 2) := by decide +kernel
theorem dX7_wholeRoot_19 : decode cX7_wholeRoot 19 = .ok (.lload 5, 2) := by decide +kernel
theorem dX7_wholeRoot_21 : decode cX7_wholeRoot 21 = .ok (.lload 5, 2) := by decide +kernel
theorem dX7_wholeRoot_23 : decode cX7_wholeRoot 23 = .ok (.lmul, 1) := by decide +kernel
theorem dX7_wholeRoot_24 : decode cX7_wholeRoot 24 = .ok (.lload_n 0, 1) := by decide +kernel
theorem dX7_wholeRoot_25 : decode cX7_wholeRoot 25 = .ok (.lcmp, 1) := by decide +kernel
theorem dX7_wholeRoot_26 : decode cX7_wholeRoot 26 = .ok (.ifCond .gt 6, 3) := by decide +kernel
theorem dX7_wholeRoot_29 : decode cX7_wholeRoot 29 = .ok (.lload 5, 2) := by decide +kernel
theorem dX7_wholeRoot_31 : decode cX7_wholeRoot 31 = .ok (.lstore_n 2, 1) := by decide +kernel
theorem dX7_wholeRoot_32 : decode cX7_wholeRoot 32 = .ok (.iinc 4 (-1), 3) := by decide +kernel
theorem dX7_wholeRoot_35 : decode cX7_wholeRoot 35 = .ok (.goto (-29), 3) := by decide +kernel
theorem dX7_wholeRoot_38 : decode cX7_wholeRoot 38 = .ok (.lload_n 2, 1) := by decide +kernel
theorem dX7_wholeRoot_39 : decode cX7_wholeRoot 39 = .ok (.lreturn, 1) := by decide +kernel
theorem dX7_tell_0 : decode cX7_tell 0 = .ok (.aload_n 0, 1) := by decide +kernel
theorem dX7_tell_1 : decode cX7_tell 1 = .ok (.getfield 12, 3) := by decide +kernel
theorem dX7_tell_4 : decode cX7_tell 4 = .ok (.iload_n 1, 1) := by decide +kernel
theorem dX7_tell_5 : decode cX7_tell 5 = .ok (.invokevirtual 112, 3) := by decide +kernel
theorem dX7_tell_8 : decode cX7_tell 8 = .ok (.ifCond .eq 15, 3) := by decide +kernel
theorem dX7_tell_11 : decode cX7_tell 11 = .ok (.iload_n 2, 1) := by decide +kernel
theorem dX7_tell_12 : decode cX7_tell 12 = .ok (.iconst (-1), 1) := by decide +kernel
theorem dX7_tell_13 : decode cX7_tell 13 = .ok (.if_icmp .eq 12, 3) := by decide +kernel
theorem dX7_tell_16 : decode cX7_tell 16 = .ok (.iload_n 2, 1) := by decide +kernel
theorem dX7_tell_17 : decode cX7_tell 17 = .ok (.invokestatic 150, 3) := by decide +kernel
theorem dX7_tell_20 : decode cX7_tell 20 = .ok (.ifCond .ne 5, 3) := by decide +kernel
theorem dX7_tell_23 : decode cX7_tell 23 = .ok (.iconst (-1), 1) := by decide +kernel
theorem dX7_tell_24 : decode cX7_tell 24 = .ok (.ireturn, 1) := by decide +kernel
theorem dX7_tell_25 : decode cX7_tell 25 = .ok (.iload_n 2, 1) := by decide +kernel
theorem dX7_tell_26 : decode cX7_tell 26 = .ok (.iconst (-1), 1) := by decide +kernel
theorem dX7_tell_27 : decode cX7_tell 27 = .ok (.if_icmp .eq 22, 3) := by decide +kernel
theorem dX7_tell_30 : decode cX7_tell 30 = .ok (.iload_n 2, 1) := by decide +kernel
theorem dX7_tell_31 : decode cX7_tell 31 = .ok (.iconst 0, 1) := by decide +kernel
theorem dX7_tell_32 : decode cX7_tell 32 = .ok (.invokestatic 153, 3) := by decide +kernel
theorem dX7_tell_35 : decode cX7_tell 35 = .ok (.aload_n 0, 1) := by decide +kernel
theorem dX7_tell_36 : decode cX7_tell 36 = .ok (.iload_n 1, 1) := by decide +kernel
theorem dX7_tell_37 : decode cX7_tell 37 = .ok (.invokevirtual 116, 3) := by decide +kernel
theorem dX7_tell_40 : decode cX7_tell 40 = .ok (.invokevirtual 120, 3) := by decide +kernel
theorem dX7_tell_43 : decode cX7_tell 43 = .ok (.if_icmp .eq 6, 3) := by decide +kernel
theorem dX7_tell_46 : decode cX7_tell 46 = .ok (.bipush (-5), 2) := by decide +kernel
theorem dX7_tell_48 : decode cX7_tell 48 = .ok (.ireturn, 1) := by decide +kernel
theorem dX7_tell_49 : decode cX7_tell 49 = .ok (.aload_n 0, 1) := by decide +kernel
theorem dX7_tell_50 : decode cX7_tell 50 = .ok (.getfield 12, 3) := by decide +kernel
theorem dX7_tell_53 : decode cX7_tell 53 = .ok (.getfield 123, 3) := by decide +kernel
theorem dX7_tell_56 : decode cX7_tell 56 = .ok (.iload_n 1, 1) := by decide +kernel
theorem dX7_tell_57 : decode cX7_tell 57 = .ok (.iaload, 1) := by decide +kernel
theorem dX7_tell_58 : decode cX7_tell 58 = .ok (.istore_n 3, 1) := by decide +kernel
theorem dX7_tell_59 : decode cX7_tell 59 = .ok (.aload_n 0, 1) := by decide +kernel
theorem dX7_tell_60 : decode cX7_tell 60 = .ok (.getfield 12, 3) := by decide +kernel
theorem dX7_tell_63 : decode cX7_tell 63 = .ok (.getfield 123, 3) := by decide +kernel
theorem dX7_tell_66 : decode cX7_tell 66 = .ok (.iload_n 1, 1) := by decide +kernel
theorem dX7_tell_67 : decode cX7_tell 67 = .ok (.iload_n 2, 1) := by decide +kernel
theorem dX7_tell_68 : decode cX7_tell 68 = .ok (.iconst (-1), 1) := by decide +kernel
theorem dX7_tell_69 : decode cX7_tell 69 = .ok (.if_icmp .ne 8, 3) := by decide +kernel
theorem dX7_tell_72 : decode cX7_tell 72 = .ok (.bipush 12, 2) := by decide +kernel
theorem dX7_tell_74 : decode cX7_tell 74 = .ok (.goto 4, 3) := by decide +kernel
theorem dX7_tell_77 : decode cX7_tell 77 = .ok (.iload_n 2, 1) := by decide +kernel
theorem dX7_tell_78 : decode cX7_tell 78 = .ok (.iastore, 1) := by decide +kernel
theorem dX7_tell_79 : decode cX7_tell 79 = .ok (.iload_n 3, 1) := by decide +kernel
theorem dX7_tell_80 : decode cX7_tell 80 = .ok (.ireturn, 1) := by decide +kernel
theorem dX7_tie_0 : decode cX7_tie 0 = .ok (.iload_n 1, 1) := by decide +kernel
theorem dX7_tie_1 : decode cX7_tie 1 = .ok (.iload_n 2, 1) := by decide +kernel
theorem dX7_tie_2 : decode cX7_tie 2 = .ok (.invokestatic 202, 3) := by decide +kernel
theorem dX7_tie_5 : decode cX7_tie 5 = .ok (.ifCond .eq 16, 3) := by decide +kernel
theorem dX7_tie_8 : decode cX7_tie 8 = .ok (.aload_n 0, 1) := by decide +kernel
theorem dX7_tie_9 : decode cX7_tie 9 = .ok (.getfield 12, 3) := by decide +kernel
theorem dX7_tie_12 : decode cX7_tie 12 = .ok (.iload_n 3, 1) := by decide +kernel
theorem dX7_tie_13 : decode cX7_tie 13 = .ok (.iload 4, 2) := by decide +kernel
theorem dX7_tie_15 : decode cX7_tie 15 = .ok (.invokevirtual 353, 3) := by decide +kernel
theorem dX7_tie_18 : decode cX7_tie 18 = .ok (.ifCond .ne 5, 3) := by decide +kernel
theorem dX7_tie_21 : decode cX7_tie 21 = .ok (.iconst (-1), 1) := by decide +kernel
theorem dX7_tie_22 : decode cX7_tie 22 = .ok (.ireturn, 1) := by decide +kernel
theorem dX7_tie_23 : decode cX7_tie 23 = .ok (.iload_n 3, 1) := by decide +kernel
theorem dX7_tie_24 : decode cX7_tie 24 = .ok (.iconst (-1), 1) := by decide +kernel
theorem dX7_tie_25 : decode cX7_tie 25 = .ok (.if_icmp .ne 8, 3) := by decide +kernel
theorem dX7_tie_28 : decode cX7_tie 28 = .ok (.iload 4, 2) := by decide +kernel
theorem dX7_tie_30 : decode cX7_tie 30 = .ok (.goto 9, 3) := by decide +kernel
theorem dX7_tie_33 : decode cX7_tie 33 = .ok (.iload 4, 2) := by decide +kernel
theorem dX7_tie_35 : decode cX7_tie 35 = .ok (.iconst 1, 1) := by decide +kernel
theorem dX7_tie_36 : decode cX7_tie 36 = .ok (.iload_n 3, 1) := by decide +kernel
theorem dX7_tie_37 : decode cX7_tie 37 = .ok (.ishl, 1) := by decide +kernel
theorem dX7_tie_38 : decode cX7_tie 38 = .ok (.ior, 1) := by decide +kernel
theorem dX7_tie_39 : decode cX7_tie 39 = .ok (.istore 5, 2) := by decide +kernel
theorem dX7_tie_41 : decode cX7_tie 41 = .ok (.aload_n 0, 1) := by decide +kernel
theorem dX7_tie_42 : decode cX7_tie 42 = .ok (.iload_n 1, 1) := by decide +kernel
theorem dX7_tie_43 : decode cX7_tie 43 = .ok (.iload_n 2, 1) := by decide +kernel
theorem dX7_tie_44 : decode cX7_tie 44 = .ok (.invokevirtual 356, 3) := by decide +kernel
theorem dX7_tie_47 : decode cX7_tie 47 = .ok (.iload 5, 2) := by decide +kernel
theorem dX7_tie_49 : decode cX7_tie 49 = .ok (.iand, 1) := by decide +kernel
theorem dX7_tie_50 : decode cX7_tie 50 = .ok (.iload 5, 2) := by decide +kernel
theorem dX7_tie_52 : decode cX7_tie 52 = .ok (.if_icmp .eq 6, 3) := by decide +kernel
theorem dX7_tie_55 : decode cX7_tie 55 = .ok (.bipush (-5), 2) := by decide +kernel
theorem dX7_tie_57 : decode cX7_tie 57 = .ok (.ireturn, 1) := by decide +kernel
theorem dX7_tie_58 : decode cX7_tie 58 = .ok (.aload_n 0, 1) := by decide +kernel
theorem dX7_tie_59 : decode cX7_tie 59 = .ok (.getfield 12, 3) := by decide +kernel
theorem dX7_tie_62 : decode cX7_tie 62 = .ok (.iload_n 1, 1) := by decide +kernel
theorem dX7_tie_63 : decode cX7_tie 63 = .ok (.iload_n 2, 1) := by decide +kernel
theorem dX7_tie_64 : decode cX7_tie 64 = .ok (.iload_n 3, 1) := by decide +kernel
theorem dX7_tie_65 : decode cX7_tie 65 = .ok (.iload 4, 2) := by decide +kernel
theorem dX7_tie_67 : decode cX7_tie 67 = .ok (.invokevirtual 359, 3) := by decide +kernel
theorem dX7_tie_70 : decode cX7_tie 70 = .ok (.ireturn, 1) := by decide +kernel
theorem dX7_curveOf_0 : decode cX7_curveOf 0 = .ok (.aload_n 0, 1) := by decide +kernel
theorem dX7_curveOf_1 : decode cX7_curveOf 1 = .ok (.getfield 34, 3) := by decide +kernel
theorem dX7_curveOf_4 : decode cX7_curveOf 4 = .ok (.iload_n 1, 1) := by decide +kernel
theorem dX7_curveOf_5 : decode cX7_curveOf 5 = .ok (.aaload, 1) := by decide +kernel
theorem dX7_curveOf_6 : decode cX7_curveOf 6 = .ok (.astore_n 2, 1) := by decide +kernel
theorem dX7_curveOf_7 : decode cX7_curveOf 7 = .ok (.aload_n 2, 1) := by decide +kernel
theorem dX7_curveOf_8 : decode cX7_curveOf 8 = .ok (.aload_n 0, 1) := by decide +kernel
theorem dX7_curveOf_9 : decode cX7_curveOf 9 = .ok (.getfield 12, 3) := by decide +kernel
theorem dX7_curveOf_12 : decode cX7_curveOf 12 = .ok (.getfield 126, 3) := by decide +kernel
theorem dX7_curveOf_15 : decode cX7_curveOf 15 = .ok (.bipush 6, 2) := by decide +kernel
theorem dX7_curveOf_17 : decode cX7_curveOf 17 = .ok (.iload_n 1, 1) := by decide +kernel
theorem dX7_curveOf_18 : decode cX7_curveOf 18 = .ok (.imul, 1) := by decide +kernel
theorem dX7_curveOf_19 : decode cX7_curveOf 19 = .ok (.invokevirtual 362, 3) := by decide +kernel
theorem dX7_curveOf_22 : decode cX7_curveOf 22 = .ok (.aload_n 2, 1) := by decide +kernel
theorem dX7_curveOf_23 : decode cX7_curveOf 23 = .ok (.areturn, 1) := by decide +kernel
theorem dX7_laidCurvesThrough_0 : decode cX7_laidCurvesThrough 0 = .ok (.iconst 0, 1) := by decide +kernel
theorem dX7_laidCurvesThrough_1 : decode cX7_laidCurvesThrough 1 = .ok (.istore_n 3, 1) := by decide +kernel
theorem dX7_laidCurvesThrough_2 : decode cX7_laidCurvesThrough 2 = .ok (.iconst 0, 1) := by decide +kernel
theorem dX7_laidCurvesThrough_3 : decode cX7_laidCurvesThrough 3 = .ok (.istore 4, 2) := by decide +kernel
theorem dX7_laidCurvesThrough_5 : decode cX7_laidCurvesThrough 5 = .ok (.iload 4, 2) := by decide +kernel
theorem dX7_laidCurvesThrough_7 : decode cX7_laidCurvesThrough 7 = .ok (.aload_n 0, 1) := by decide +kernel
theorem dX7_laidCurvesThrough_8 : decode cX7_laidCurvesThrough 8 = .ok (.getfield 12, 3) := by decide +kernel
theorem dX7_laidCurvesThrough_11 : decode cX7_laidCurvesThrough 11 = .ok (.getfield 159, 3) := by decide +kernel
theorem dX7_laidCurvesThrough_14 : decode cX7_laidCurvesThrough 14 = .ok (.if_icmp .ge 27, 3) := by decide +kernel
theorem dX7_laidCurvesThrough_17 : decode cX7_laidCurvesThrough 17 = .ok (.aload_n 0, 1) := by decide +kernel
theorem dX7_laidCurvesThrough_18 : decode cX7_laidCurvesThrough 18 = .ok (.getfield 34, 3) := by decide +kernel
theorem dX7_laidCurvesThrough_21 : decode cX7_laidCurvesThrough 21 = .ok (.iload 4, 2) := by decide +kernel
theorem dX7_laidCurvesThrough_23 : decode cX7_laidCurvesThrough 23 = .ok (.aaload, 1) := by decide +kernel
theorem dX7_laidCurvesThrough_24 : decode cX7_laidCurvesThrough 24 = .ok (.iload_n 1, 1) := by decide +kernel
theorem dX7_laidCurvesThrough_25 : decode cX7_laidCurvesThrough 25 = .ok (.iload_n 2, 1) := by decide +kernel
theorem dX7_laidCurvesThrough_26 : decode cX7_laidCurvesThrough 26 = .ok (.invokevirtual 206, 3) := by decide +kernel
theorem dX7_laidCurvesThrough_29 : decode cX7_laidCurvesThrough 29 = .ok (.ifCond .eq 6, 3) := by decide +kernel
theorem dX7_laidCurvesThrough_32 : decode cX7_laidCurvesThrough 32 = .ok (.iinc 3 1, 3) := by decide +kernel
theorem dX7_laidCurvesThrough_35 : decode cX7_laidCurvesThrough 35 = .ok (.iinc 4 1, 3) := by decide +kernel
theorem dX7_laidCurvesThrough_38 : decode cX7_laidCurvesThrough 38 = .ok (.goto (-33), 3) := by decide +kernel
theorem dX7_laidCurvesThrough_41 : decode cX7_laidCurvesThrough 41 = .ok (.iload_n 3, 1) := by decide +kernel
theorem dX7_laidCurvesThrough_42 : decode cX7_laidCurvesThrough 42 = .ok (.ireturn, 1) := by decide +kernel
theorem dX7_hasPush_0 : decode cX7_hasPush 0 = .ok (.aload_n 0, 1) := by decide +kernel
theorem dX7_hasPush_1 : decode cX7_hasPush 1 = .ok (.getfield 12, 3) := by decide +kernel
theorem dX7_hasPush_4 : decode cX7_hasPush 4 = .ok (.iload_n 1, 1) := by decide +kernel
theorem dX7_hasPush_5 : decode cX7_hasPush 5 = .ok (.invokevirtual 112, 3) := by decide +kernel
theorem dX7_hasPush_8 : decode cX7_hasPush 8 = .ok (.ifCond .eq 40, 3) := by decide +kernel
theorem dX7_hasPush_11 : decode cX7_hasPush 11 = .ok (.iload_n 2, 1) := by decide +kernel
theorem dX7_hasPush_12 : decode cX7_hasPush 12 = .ok (.iload_n 3, 1) := by decide +kernel
theorem dX7_hasPush_13 : decode cX7_hasPush 13 = .ok (.invokestatic 202, 3) := by decide +kernel
theorem dX7_hasPush_16 : decode cX7_hasPush 16 = .ok (.ifCond .eq 32, 3) := by decide +kernel
theorem dX7_hasPush_19 : decode cX7_hasPush 19 = .ok (.aload_n 0, 1) := by decide +kernel
theorem dX7_hasPush_20 : decode cX7_hasPush 20 = .ok (.iload_n 1, 1) := by decide +kernel
theorem dX7_hasPush_21 : decode cX7_hasPush 21 = .ok (.invokevirtual 116, 3) := by decide +kernel
theorem dX7_hasPush_24 : decode cX7_hasPush 24 = .ok (.iload_n 2, 1) := by decide +kernel
theorem dX7_hasPush_25 : decode cX7_hasPush 25 = .ok (.iload_n 3, 1) := by decide +kernel
theorem dX7_hasPush_26 : decode cX7_hasPush 26 = .ok (.invokevirtual 206, 3) := by decide +kernel
theorem dX7_hasPush_29 : decode cX7_hasPush 29 = .ok (.ifCond .eq 19, 3) := by decide +kernel
theorem dX7_hasPush_32 : decode cX7_hasPush 32 = .ok (.aload_n 0, 1) := by decide +kernel
theorem dX7_hasPush_33 : decode cX7_hasPush 33 = .ok (.getfield 34, 3) := by decide +kernel
theorem dX7_hasPush_36 : decode cX7_hasPush 36 = .ok (.iload_n 1, 1) := by decide +kernel
theorem dX7_hasPush_37 : decode cX7_hasPush 37 = .ok (.aaload, 1) := by decide +kernel
theorem dX7_hasPush_38 : decode cX7_hasPush 38 = .ok (.invokevirtual 180, 3) := by decide +kernel
theorem dX7_hasPush_41 : decode cX7_hasPush 41 = .ok (.ifCond .ne 7, 3) := by decide +kernel
theorem dX7_hasPush_44 : decode cX7_hasPush 44 = .ok (.iconst 1, 1) := by decide +kernel
theorem dX7_hasPush_45 : decode cX7_hasPush 45 = .ok (.goto 4, 3) := by decide +kernel
theorem dX7_hasPush_48 : decode cX7_hasPush 48 = .ok (.iconst 0, 1) := by decide +kernel
theorem dX7_hasPush_49 : decode cX7_hasPush 49 = .ok (.ireturn, 1) := by decide +kernel
theorem dX7_pushOf_0 : decode cX7_pushOf 0 = .ok (.aload_n 0, 1) := by decide +kernel
theorem dX7_pushOf_1 : decode cX7_pushOf 1 = .ok (.getfield 45, 3) := by decide +kernel
theorem dX7_pushOf_4 : decode cX7_pushOf 4 = .ok (.invokevirtual 366, 3) := by decide +kernel
theorem dX7_pushOf_7 : decode cX7_pushOf 7 = .ok (.aload_n 0, 1) := by decide +kernel
theorem dX7_pushOf_8 : decode cX7_pushOf 8 = .ok (.getfield 45, 3) := by decide +kernel
theorem dX7_pushOf_11 : decode cX7_pushOf 11 = .ok (.aload_n 0, 1) := by decide +kernel
theorem dX7_pushOf_12 : decode cX7_pushOf 12 = .ok (.iload_n 1, 1) := by decide +kernel
theorem dX7_pushOf_13 : decode cX7_pushOf 13 = .ok (.invokevirtual 116, 3) := by decide +kernel
theorem dX7_pushOf_16 : decode cX7_pushOf 16 = .ok (.iload 4, 2) := by decide +kernel
theorem dX7_pushOf_18 : decode cX7_pushOf 18 = .ok (.iload_n 2, 1) := by decide +kernel
theorem dX7_pushOf_19 : decode cX7_pushOf 19 = .ok (.iload_n 3, 1) := by decide +kernel
theorem dX7_pushOf_20 : decode cX7_pushOf 20 = .ok (.iconst 1, 1) := by decide +kernel
theorem dX7_pushOf_21 : decode cX7_pushOf 21 = .ok (.invokevirtual 369, 3) := by decide +kernel
theorem dX7_pushOf_24 : decode cX7_pushOf 24 = .ok (.aload_n 0, 1) := by decide +kernel
theorem dX7_pushOf_25 : decode cX7_pushOf 25 = .ok (.getfield 45, 3) := by decide +kernel
theorem dX7_pushOf_28 : decode cX7_pushOf 28 = .ok (.areturn, 1) := by decide +kernel
theorem dX7_hasBalance_0 : decode cX7_hasBalance 0 = .ok (.aload_n 0, 1) := by decide +kernel
theorem dX7_hasBalance_1 : decode cX7_hasBalance 1 = .ok (.getfield 12, 3) := by decide +kernel
theorem dX7_hasBalance_4 : decode cX7_hasBalance 4 = .ok (.iload_n 1, 1) := by decide +kernel
theorem dX7_hasBalance_5 : decode cX7_hasBalance 5 = .ok (.invokevirtual 135, 3) := by decide +kernel
theorem dX7_hasBalance_8 : decode cX7_hasBalance 8 = .ok (.ifCond .ne 5, 3) := by decide +kernel
theorem dX7_hasBalance_11 : decode cX7_hasBalance 11 = .ok (.iconst 0, 1) := by decide +kernel
theorem dX7_hasBalance_12 : decode cX7_hasBalance 12 = .ok (.ireturn, 1) := by decide +kernel
theorem dX7_hasBalance_13 : decode cX7_hasBalance 13 = .ok (.aload_n 0, 1) := by decide +kernel
theorem dX7_hasBalance_14 : decode cX7_hasBalance 14 = .ok (.getfield 12, 3) := by decide +kernel
theorem dX7_hasBalance_17 : decode cX7_hasBalance 17 = .ok (.iload_n 1, 1) := by decide +kernel
theorem dX7_hasBalance_18 : decode cX7_hasBalance 18 = .ok (.aload_n 0, 1) := by decide +kernel
theorem dX7_hasBalance_19 : decode cX7_hasBalance 19 = .ok (.getfield 48, 3) := by decide +kernel
theorem dX7_hasBalance_22 : decode cX7_hasBalance 22 = .ok (.invokevirtual 327, 3) := by decide +kernel
theorem dX7_hasBalance_25 : decode cX7_hasBalance 25 = .ok (.istore_n 2, 1) := by decide +kernel
theorem dX7_hasBalance_26 : decode cX7_hasBalance 26 = .ok (.iconst 0, 1) := by decide +kernel
theorem dX7_hasBalance_27 : decode cX7_hasBalance 27 = .ok (.istore_n 3, 1) := by decide +kernel
theorem dX7_hasBalance_28 : decode cX7_hasBalance 28 = .ok (.iload_n 3, 1) := by decide +kernel
theorem dX7_hasBalance_29 : decode cX7_hasBalance 29 = .ok (.iload_n 2, 1) := by decide +kernel
theorem dX7_hasBalance_30 : decode cX7_hasBalance 30 = .ok (.if_icmp .ge 27, 3) := by decide +kernel
theorem dX7_hasBalance_33 : decode cX7_hasBalance 33 = .ok (.aload_n 0, 1) := by decide +kernel
theorem dX7_hasBalance_34 : decode cX7_hasBalance 34 = .ok (.aload_n 0, 1) := by decide +kernel
theorem dX7_hasBalance_35 : decode cX7_hasBalance 35 = .ok (.getfield 48, 3) := by decide +kernel
theorem dX7_hasBalance_38 : decode cX7_hasBalance 38 = .ok (.iload_n 3, 1) := by decide +kernel
theorem dX7_hasBalance_39 : decode cX7_hasBalance 39 = .ok (.iaload, 1) := by decide +kernel
theorem dX7_hasBalance_40 : decode cX7_hasBalance 40 = .ok (.invokevirtual 116, 3) := by decide +kernel
theorem dX7_hasBalance_43 : decode cX7_hasBalance 43 = .ok (.invokevirtual 180, 3) := by decide +kernel
theorem dX7_hasBalance_46 : decode cX7_hasBalance 46 = .ok (.ifCond .eq 5, 3) := by decide +kernel
theorem dX7_hasBalance_49 : decode cX7_hasBalance 49 = .ok (.iconst 0, 1) := by decide +kernel
theorem dX7_hasBalance_50 : decode cX7_hasBalance 50 = .ok (.ireturn, 1) := by decide +kernel
theorem dX7_hasBalance_51 : decode cX7_hasBalance 51 = .ok (.iinc 3 1, 3) := by decide +kernel
theorem dX7_hasBalance_54 : decode cX7_hasBalance 54 = .ok (.goto (-26), 3) := by decide +kernel
theorem dX7_hasBalance_57 : decode cX7_hasBalance 57 = .ok (.iconst 1, 1) := by decide +kernel
theorem dX7_hasBalance_58 : decode cX7_hasBalance 58 = .ok (.ireturn, 1) := by decide +kernel
theorem dX7_lostAt_0 : decode cX7_lostAt 0 = .ok (.aload_n 0, 1) := by decide +kernel
theorem dX7_lostAt_1 : decode cX7_lostAt 1 = .ok (.getfield 12, 3) := by decide +kernel
theorem dX7_lostAt_4 : decode cX7_lostAt 4 = .ok (.iload_n 1, 1) := by decide +kernel
theorem dX7_lostAt_5 : decode cX7_lostAt 5 = .ok (.aload_n 0, 1) := by decide +kernel
theorem dX7_lostAt_6 : decode cX7_lostAt 6 = .ok (.getfield 48, 3) := by decide +kernel
theorem dX7_lostAt_9 : decode cX7_lostAt 9 = .ok (.invokevirtual 327, 3) := by decide +kernel
theorem dX7_lostAt_12 : decode cX7_lostAt 12 = .ok (.istore_n 3, 1) := by decide +kernel
theorem dX7_lostAt_13 : decode cX7_lostAt 13 = .ok (.aload_n 0, 1) := by decide +kernel
theorem dX7_lostAt_14 : decode cX7_lostAt 14 = .ok (.getfield 41, 3) := by decide +kernel
theorem dX7_lostAt_17 : decode cX7_lostAt 17 = .ok (.invokevirtual 366, 3) := by decide +kernel
theorem dX7_lostAt_20 : decode cX7_lostAt 20 = .ok (.iconst 0, 1) := by decide +kernel
theorem dX7_lostAt_21 : decode cX7_lostAt 21 = .ok (.istore 4, 2) := by decide +kernel
theorem dX7_lostAt_23 : decode cX7_lostAt 23 = .ok (.iload 4, 2) := by decide +kernel
theorem dX7_lostAt_25 : decode cX7_lostAt 25 = .ok (.iload_n 3, 1) := by decide +kernel
theorem dX7_lostAt_26 : decode cX7_lostAt 26 = .ok (.if_icmp .ge 85, 3) := by decide +kernel
theorem dX7_lostAt_29 : decode cX7_lostAt 29 = .ok (.aload_n 0, 1) := by decide +kernel
theorem dX7_lostAt_30 : decode cX7_lostAt 30 = .ok (.getfield 48, 3) := by decide +kernel
theorem dX7_lostAt_33 : decode cX7_lostAt 33 = .ok (.iload 4, 2) := by decide +kernel
theorem dX7_lostAt_35 : decode cX7_lostAt 35 = .ok (.iaload, 1) := by decide +kernel
theorem dX7_lostAt_36 : decode cX7_lostAt 36 = .ok (.istore 5, 2) := by decide +kernel
theorem dX7_lostAt_38 : decode cX7_lostAt 38 = .ok (.iload 5, 2) := by decide +kernel
theorem dX7_lostAt_40 : decode cX7_lostAt 40 = .ok (.iload_n 2, 1) := by decide +kernel
theorem dX7_lostAt_41 : decode cX7_lostAt 41 = .ok (.if_icmp .eq 64, 3) := by decide +kernel
theorem dX7_lostAt_44 : decode cX7_lostAt 44 = .ok (.iload 5, 2) := by decide +kernel
theorem dX7_lostAt_46 : decode cX7_lostAt 46 = .ok (.aload_n 0, 1) := by decide +kernel
theorem dX7_lostAt_47 : decode cX7_lostAt 47 = .ok (.getfield 12, 3) := by decide +kernel
theorem dX7_lostAt_50 : decode cX7_lostAt 50 = .ok (.getfield 144, 3) := by decide +kernel
theorem dX7_lostAt_53 : decode cX7_lostAt 53 = .ok (.iload_n 1, 1) := by decide +kernel
theorem dX7_lostAt_54 : decode cX7_lostAt 54 = .ok (.iaload, 1) := by decide +kernel
theorem dX7_lostAt_55 : decode cX7_lostAt 55 = .ok (.if_icmp .ne 7, 3) := by decide +kernel
theorem dX7_lostAt_58 : decode cX7_lostAt 58 = .ok (.iconst 1, 1) := by decide +kernel
theorem dX7_lostAt_59 : decode cX7_lostAt 59 = .ok (.goto 4, 3) := by decide +kernel
theorem dX7_lostAt_62 : decode cX7_lostAt 62 = .ok (.iconst (-1), 1) := by decide +kernel
theorem dX7_lostAt_63 : decode cX7_lostAt 63 = .ok (.istore 6, 2) := by decide +kernel
theorem dX7_lostAt_65 : decode cX7_lostAt 65 = .ok (.aload_n 0, 1) := by decide +kernel
theorem dX7_lostAt_66 : decode cX7_lostAt 66 = .ok (.getfield 41, 3) := by decide +kernel
theorem dX7_lostAt_69 : decode cX7_lostAt 69 = .ok (.aload_n 0, 1) := by decide +kernel
theorem dX7_lostAt_70 : decode cX7_lostAt 70 = .ok (.iload 5, 2) := by decide +kernel
theorem dX7_lostAt_72 : decode cX7_lostAt 72 = .ok (.invokevirtual 116, 3) := by decide +kernel
theorem dX7_lostAt_75 : decode cX7_lostAt 75 = .ok (.aload_n 0, 1) := by decide +kernel
theorem dX7_lostAt_76 : decode cX7_lostAt 76 = .ok (.getfield 12, 3) := by decide +kernel
theorem dX7_lostAt_79 : decode cX7_lostAt 79 = .ok (.getfield 156, 3) := by decide +kernel
theorem dX7_lostAt_82 : decode cX7_lostAt 82 = .ok (.aload_n 0, 1) := by decide +kernel
theorem dX7_lostAt_83 : decode cX7_lostAt 83 = .ok (.getfield 12, 3) := by decide +kernel
theorem dX7_lostAt_86 : decode cX7_lostAt 86 = .ok (.getfield 138, 3) := by decide +kernel
theorem dX7_lostAt_89 : decode cX7_lostAt 89 = .ok (.iload_n 1, 1) := by decide +kernel
theorem dX7_lostAt_90 : decode cX7_lostAt 90 = .ok (.iaload, 1) := by decide +kernel
theorem dX7_lostAt_91 : decode cX7_lostAt 91 = .ok (.aload_n 0, 1) := by decide +kernel
theorem dX7_lostAt_92 : decode cX7_lostAt 92 = .ok (.getfield 12, 3) := by decide +kernel
theorem dX7_lostAt_95 : decode cX7_lostAt 95 = .ok (.getfield 141, 3) := by decide +kernel
theorem dX7_lostAt_98 : decode cX7_lostAt 98 = .ok (.iload_n 1, 1) := by decide +kernel
theorem dX7_lostAt_99 : decode cX7_lostAt 99 = .ok (.iaload, 1) := by decide +kernel
theorem dX7_lostAt_100 : decode cX7_lostAt 100 = .ok (.iload 6, 2) := by decide +kernel
theorem dX7_lostAt_102 : decode cX7_lostAt 102 = .ok (.invokevirtual 369, 3) := by decide +kernel
theorem dX7_lostAt_105 : decode cX7_lostAt 105 = .ok (.iinc 4 1, 3) := by decide +kernel
theorem dX7_lostAt_108 : decode cX7_lostAt 108 = .ok (.goto (-85), 3) := by decide +kernel
theorem dX7_lostAt_111 : decode cX7_lostAt 111 = .ok (.aload_n 0, 1) := by decide +kernel
theorem dX7_lostAt_112 : decode cX7_lostAt 112 = .ok (.getfield 41, 3) := by decide +kernel
theorem dX7_lostAt_115 : decode cX7_lostAt 115 = .ok (.areturn, 1) := by decide +kernel
theorem dX7_toldNumber_0 : decode cX7_toldNumber 0 = .ok (.aload_n 0, 1) := by decide +kernel
theorem dX7_toldNumber_1 : decode cX7_toldNumber 1 = .ok (.aload_n 0, 1) := by decide +kernel
theorem dX7_toldNumber_2 : decode cX7_toldNumber 2 = .ok (.getfield 48, 3) := by decide +kernel
theorem dX7_toldNumber_5 : decode cX7_toldNumber 5 = .ok (.iload_n 2, 1) := by decide +kernel
theorem dX7_toldNumber_6 : decode cX7_toldNumber 6 = .ok (.iconst 4, 1) := by decide +kernel
theorem dX7_toldNumber_7 : decode cX7_toldNumber 7 = .ok (.idiv, 1) := by decide +kernel
theorem dX7_toldNumber_8 : decode cX7_toldNumber 8 = .ok (.iaload, 1) := by decide +kernel
theorem dX7_toldNumber_9 : decode cX7_toldNumber 9 = .ok (.aload_n 0, 1) := by decide +kernel
theorem dX7_toldNumber_10 : decode cX7_toldNumber 10 = .ok (.getfield 12, 3) := by decide +kernel
theorem dX7_toldNumber_13 : decode cX7_toldNumber 13 = .ok (.getfield 138, 3) := by decide +kernel
theorem dX7_toldNumber_16 : decode cX7_toldNumber 16 = .ok (.iload_n 1, 1) := by decide +kernel
theorem dX7_toldNumber_17 : decode cX7_toldNumber 17 = .ok (.iaload, 1) := by decide +kernel
theorem dX7_toldNumber_18 : decode cX7_toldNumber 18 = .ok (.aload_n 0, 1) := by decide +kernel
theorem dX7_toldNumber_19 : decode cX7_toldNumber 19 = .ok (.getfield 12, 3) := by decide +kernel
theorem dX7_toldNumber_22 : decode cX7_toldNumber 22 = .ok (.getfield 141, 3) := by decide +kernel
theorem dX7_toldNumber_25 : decode cX7_toldNumber 25 = .ok (.iload_n 1, 1) := by decide +kernel
theorem dX7_toldNumber_26 : decode cX7_toldNumber 26 = .ok (.iaload, 1) := by decide +kernel
theorem dX7_toldNumber_27 : decode cX7_toldNumber 27 = .ok (.aload_n 0, 1) := by decide +kernel
theorem dX7_toldNumber_28 : decode cX7_toldNumber 28 = .ok (.getfield 12, 3) := by decide +kernel
theorem dX7_toldNumber_31 : decode cX7_toldNumber 31 = .ok (.getfield 156, 3) := by decide +kernel
theorem dX7_toldNumber_34 : decode cX7_toldNumber 34 = .ok (.invokevirtual 213, 3) := by decide +kernel
theorem dX7_toldNumber_37 : decode cX7_toldNumber 37 = .ok (.astore_n 3, 1) := by decide +kernel
theorem dX7_toldNumber_38 : decode cX7_toldNumber 38 = .ok (.aload_n 3, 1) := by decide +kernel
theorem dX7_toldNumber_39 : decode cX7_toldNumber 39 = .ok (.iload_n 2, 1) := by decide +kernel
theorem dX7_toldNumber_40 : decode cX7_toldNumber 40 = .ok (.iconst 4, 1) := by decide +kernel
theorem dX7_toldNumber_41 : decode cX7_toldNumber 41 = .ok (.irem, 1) := by decide +kernel
theorem dX7_toldNumber_42 : decode cX7_toldNumber 42 = .ok (.iconst 2, 1) := by decide +kernel
theorem dX7_toldNumber_43 : decode cX7_toldNumber 43 = .ok (.idiv, 1) := by decide +kernel
theorem dX7_toldNumber_44 : decode cX7_toldNumber 44 = .ok (.iload_n 2, 1) := by decide +kernel
theorem dX7_toldNumber_45 : decode cX7_toldNumber 45 = .ok (.iconst 2, 1) := by decide +kernel
theorem dX7_toldNumber_46 : decode cX7_toldNumber 46 = .ok (.irem, 1) := by decide +kernel
theorem dX7_toldNumber_47 : decode cX7_toldNumber 47 = .ok (.invokevirtual 217, 3) := by decide +kernel
theorem dX7_toldNumber_50 : decode cX7_toldNumber 50 = .ok (.lreturn, 1) := by decide +kernel
theorem dX7_canBeNamed_0 : decode cX7_canBeNamed 0 = .ok (.aload_n 0, 1) := by decide +kernel
theorem dX7_canBeNamed_1 : decode cX7_canBeNamed 1 = .ok (.getfield 12, 3) := by decide +kernel
theorem dX7_canBeNamed_4 : decode cX7_canBeNamed 4 = .ok (.iload_n 1, 1) := by decide +kernel
theorem dX7_canBeNamed_5 : decode cX7_canBeNamed 5 = .ok (.invokevirtual 135, 3) := by decide +kernel
theorem dX7_canBeNamed_8 : decode cX7_canBeNamed 8 = .ok (.ifCond .eq 23, 3) := by decide +kernel
theorem dX7_canBeNamed_11 : decode cX7_canBeNamed 11 = .ok (.iload_n 2, 1) := by decide +kernel
theorem dX7_canBeNamed_12 : decode cX7_canBeNamed 12 = .ok (.invokestatic 243, 3) := by decide +kernel
theorem dX7_canBeNamed_15 : decode cX7_canBeNamed 15 = .ok (.ifCond .eq 16, 3) := by decide +kernel
theorem dX7_canBeNamed_18 : decode cX7_canBeNamed 18 = .ok (.iload_n 3, 1) := by decide +kernel
theorem dX7_canBeNamed_19 : decode cX7_canBeNamed 19 = .ok (.ifCond .eq 8, 3) := by decide +kernel
theorem dX7_canBeNamed_22 : decode cX7_canBeNamed 22 = .ok (.iload_n 3, 1) := by decide +kernel
theorem dX7_canBeNamed_23 : decode cX7_canBeNamed 23 = .ok (.iconst 1, 1) := by decide +kernel
theorem dX7_canBeNamed_24 : decode cX7_canBeNamed 24 = .ok (.if_icmp .ne 7, 3) := by decide +kernel
theorem dX7_canBeNamed_27 : decode cX7_canBeNamed 27 = .ok (.iconst 1, 1) := by decide +kernel
theorem dX7_canBeNamed_28 : decode cX7_canBeNamed 28 = .ok (.goto 4, 3) := by decide +kernel
theorem dX7_canBeNamed_31 : decode cX7_canBeNamed 31 = .ok (.iconst 0, 1) := by decide +kernel
theorem dX7_canBeNamed_32 : decode cX7_canBeNamed 32 = .ok (.ireturn, 1) := by decide +kernel
theorem dX7_askTracks_0 : decode cX7_askTracks 0 = .ok (.aload_n 0, 1) := by decide +kernel
theorem dX7_askTracks_1 : decode cX7_askTracks 1 = .ok (.getfield 55, 3) := by decide +kernel
theorem dX7_askTracks_4 : decode cX7_askTracks 4 = .ok (.iload_n 2, 1) := by decide +kernel
theorem dX7_askTracks_5 : decode cX7_askTracks 5 = .ok (.invokevirtual 373, 3) := by decide +kernel
theorem dX7_askTracks_8 : decode cX7_askTracks 8 = .ok (.aload_n 0, 1) := by decide +kernel
theorem dX7_askTracks_9 : decode cX7_askTracks 9 = .ok (.getfield 12, 3) := by decide +kernel
theorem dX7_askTracks_12 : decode cX7_askTracks 12 = .ok (.iload_n 1, 1) := by decide +kernel
theorem dX7_askTracks_13 : decode cX7_askTracks 13 = .ok (.aload_n 0, 1) := by decide +kernel
theorem dX7_askTracks_14 : decode cX7_askTracks 14 = .ok (.getfield 48, 3) := by decide +kernel
theorem dX7_askTracks_17 : decode cX7_askTracks 17 = .ok (.invokevirtual 327, 3) := by decide +kernel
theorem dX7_askTracks_20 : decode cX7_askTracks 20 = .ok (.istore_n 3, 1) := by decide +kernel
theorem dX7_askTracks_21 : decode cX7_askTracks 21 = .ok (.iconst 0, 1) := by decide +kernel
theorem dX7_askTracks_22 : decode cX7_askTracks 22 = .ok (.istore 4, 2) := by decide +kernel
theorem dX7_askTracks_24 : decode cX7_askTracks 24 = .ok (.iload 4, 2) := by decide +kernel
theorem dX7_askTracks_26 : decode cX7_askTracks 26 = .ok (.iload_n 3, 1) := by decide +kernel
theorem dX7_askTracks_27 : decode cX7_askTracks 27 = .ok (.if_icmp .ge 96, 3) := by decide +kernel
theorem dX7_askTracks_30 : decode cX7_askTracks 30 = .ok (.aload_n 0, 1) := by decide +kernel
theorem dX7_askTracks_31 : decode cX7_askTracks 31 = .ok (.getfield 48, 3) := by decide +kernel
theorem dX7_askTracks_34 : decode cX7_askTracks 34 = .ok (.iload 4, 2) := by decide +kernel
theorem dX7_askTracks_36 : decode cX7_askTracks 36 = .ok (.iaload, 1) := by decide +kernel
theorem dX7_askTracks_37 : decode cX7_askTracks 37 = .ok (.istore 5, 2) := by decide +kernel
theorem dX7_askTracks_39 : decode cX7_askTracks 39 = .ok (.iload 5, 2) := by decide +kernel
theorem dX7_askTracks_41 : decode cX7_askTracks 41 = .ok (.aload_n 0, 1) := by decide +kernel
theorem dX7_askTracks_42 : decode cX7_askTracks 42 = .ok (.getfield 12, 3) := by decide +kernel
theorem dX7_askTracks_45 : decode cX7_askTracks 45 = .ok (.getfield 144, 3) := by decide +kernel
theorem dX7_askTracks_48 : decode cX7_askTracks 48 = .ok (.iload_n 1, 1) := by decide +kernel
theorem dX7_askTracks_49 : decode cX7_askTracks 49 = .ok (.iaload, 1) := by decide +kernel
theorem dX7_askTracks_50 : decode cX7_askTracks 50 = .ok (.if_icmp .ne 7, 3) := by decide +kernel
theorem dX7_askTracks_53 : decode cX7_askTracks 53 = .ok (.iconst 1, 1) := by decide +kernel
theorem dX7_askTracks_54 : decode cX7_askTracks 54 = .ok (.goto 4, 3) := by decide +kernel
theorem dX7_askTracks_57 : decode cX7_askTracks 57 = .ok (.iconst (-1), 1) := by decide +kernel
theorem dX7_askTracks_58 : decode cX7_askTracks 58 = .ok (.istore 6, 2) := by decide +kernel
theorem dX7_askTracks_60 : decode cX7_askTracks 60 = .ok (.aload_n 0, 1) := by decide +kernel
theorem dX7_askTracks_61 : decode cX7_askTracks 61 = .ok (.getfield 12, 3) := by decide +kernel
theorem dX7_askTracks_64 : decode cX7_askTracks 64 = .ok (.getfield 123, 3) := by decide +kernel
theorem dX7_askTracks_67 : decode cX7_askTracks 67 = .ok (.iload 5, 2) := by decide +kernel
theorem dX7_askTracks_69 : decode cX7_askTracks 69 = .ok (.iaload, 1) := by decide +kernel
theorem dX7_askTracks_70 : decode cX7_askTracks 70 = .ok (.bipush 12, 2) := by decide +kernel
theorem dX7_askTracks_72 : decode cX7_askTracks 72 = .ok (.if_icmp .ne 26, 3) := by decide +kernel
theorem dX7_askTracks_75 : decode cX7_askTracks 75 = .ok (.aload_n 0, 1) := by decide +kernel
theorem dX7_askTracks_76 : decode cX7_askTracks 76 = .ok (.getfield 55, 3) := by decide +kernel
theorem dX7_askTracks_79 : decode cX7_askTracks 79 = .ok (.iload 5, 2) := by decide +kernel
theorem dX7_askTracks_81 : decode cX7_askTracks 81 = .ok (.aload_n 0, 1) := by decide +kernel
theorem dX7_askTracks_82 : decode cX7_askTracks 82 = .ok (.iload 5, 2) := by decide +kernel
theorem dX7_askTracks_84 : decode cX7_askTracks 84 = .ok (.invokevirtual 116, 3) := by decide +kernel
theorem dX7_askTracks_87 : decode cX7_askTracks 87 = .ok (.invokevirtual 120, 3) := by decide +kernel
theorem dX7_askTracks_90 : decode cX7_askTracks 90 = .ok (.iload 6, 2) := by decide +kernel
theorem dX7_askTracks_92 : decode cX7_askTracks 92 = .ok (.invokevirtual 376, 3) := by decide +kernel
theorem dX7_askTracks_95 : decode cX7_askTracks 95 = .ok (.goto 22, 3) := by decide +kernel
theorem dX7_askTracks_98 : decode cX7_askTracks 98 = .ok (.aload_n 0, 1) := by decide +kernel
theorem dX7_askTracks_99 : decode cX7_askTracks 99 = .ok (.getfield 55, 3) := by decide +kernel
theorem dX7_askTracks_102 : decode cX7_askTracks 102 = .ok (.aload_n 0, 1) := by decide +kernel
theorem dX7_askTracks_103 : decode cX7_askTracks 103 = .ok (.getfield 12, 3) := by decide +kernel
theorem dX7_askTracks_106 : decode cX7_askTracks 106 = .ok (.getfield 123, 3) := by decide +kernel
theorem dX7_askTracks_109 : decode cX7_askTracks 109 = .ok (.iload 5, 2) := by decide +kernel
theorem dX7_askTracks_111 : decode cX7_askTracks 111 = .ok (.iaload, 1) := by decide +kernel
theorem dX7_askTracks_112 : decode cX7_askTracks 112 = .ok (.iload 6, 2) := by decide +kernel
theorem dX7_askTracks_114 : decode cX7_askTracks 114 = .ok (.invokevirtual 252, 3) := by decide +kernel
theorem dX7_askTracks_117 : decode cX7_askTracks 117 = .ok (.iinc 4 1, 3) := by decide +kernel
theorem dX7_askTracks_120 : decode cX7_askTracks 120 = .ok (.goto (-96), 3) := by decide +kernel
theorem dX7_askTracks_123 : decode cX7_askTracks 123 = .ok (.aload_n 0, 1) := by decide +kernel
theorem dX7_askTracks_124 : decode cX7_askTracks 124 = .ok (.getfield 55, 3) := by decide +kernel
theorem dX7_askTracks_127 : decode cX7_askTracks 127 = .ok (.getfield 265, 3) := by decide +kernel
theorem dX7_askTracks_130 : decode cX7_askTracks 130 = .ok (.ireturn, 1) := by decide +kernel
theorem dX7_waysWith_0 : decode cX7_waysWith 0 = .ok (.aload_n 0, 1) := by decide +kernel
theorem dX7_waysWith_1 : decode cX7_waysWith 1 = .ok (.getfield 12, 3) := by decide +kernel
theorem dX7_waysWith_4 : decode cX7_waysWith 4 = .ok (.getfield 144, 3) := by decide +kernel
theorem dX7_waysWith_7 : decode cX7_waysWith 7 = .ok (.iload_n 1, 1) := by decide +kernel
theorem dX7_waysWith_8 : decode cX7_waysWith 8 = .ok (.iaload, 1) := by decide +kernel
theorem dX7_waysWith_9 : decode cX7_waysWith 9 = .ok (.iconst (-1), 1) := by decide +kernel
theorem dX7_waysWith_10 : decode cX7_waysWith 10 = .ok (.if_icmp .ne 13, 3) := by decide +kernel
theorem dX7_waysWith_13 : decode cX7_waysWith 13 = .ok (.aload_n 0, 1) := by decide +kernel
theorem dX7_waysWith_14 : decode cX7_waysWith 14 = .ok (.getfield 55, 3) := by decide +kernel
theorem dX7_waysWith_17 : decode cX7_waysWith 17 = .ok (.iconst (-1), 1) := by decide +kernel
theorem dX7_waysWith_18 : decode cX7_waysWith 18 = .ok (.iconst 0, 1) := by decide +kernel
theorem dX7_waysWith_19 : decode cX7_waysWith 19 = .ok (.iconst 1, 1) := by decide +kernel
theorem dX7_waysWith_20 : decode cX7_waysWith 20 = .ok (.invokevirtual 376, 3) := by decide +kernel
theorem dX7_waysWith_23 : decode cX7_waysWith 23 = .ok (.iload_n 2, 1) := by decide +kernel
theorem dX7_waysWith_24 : decode cX7_waysWith 24 = .ok (.iconst 1, 1) := by decide +kernel
theorem dX7_waysWith_25 : decode cX7_waysWith 25 = .ok (.if_icmp .ne 13, 3) := by decide +kernel
theorem dX7_waysWith_28 : decode cX7_waysWith 28 = .ok (.aload_n 0, 1) := by decide +kernel
theorem dX7_waysWith_29 : decode cX7_waysWith 29 = .ok (.getfield 55, 3) := by decide +kernel
theorem dX7_waysWith_32 : decode cX7_waysWith 32 = .ok (.iconst (-1), 1) := by decide +kernel
theorem dX7_waysWith_33 : decode cX7_waysWith 33 = .ok (.iconst 0, 1) := by decide +kernel
theorem dX7_waysWith_34 : decode cX7_waysWith 34 = .ok (.iconst (-1), 1) := by decide +kernel
theorem dX7_waysWith_35 : decode cX7_waysWith 35 = .ok (.invokevirtual 376, 3) := by decide +kernel
theorem dX7_waysWith_38 : decode cX7_waysWith 38 = .ok (.aload_n 0, 1) := by decide +kernel
theorem dX7_waysWith_39 : decode cX7_waysWith 39 = .ok (.getfield 55, 3) := by decide +kernel
theorem dX7_waysWith_42 : decode cX7_waysWith 42 = .ok (.iconst 0, 1) := by decide +kernel
theorem dX7_waysWith_43 : decode cX7_waysWith 43 = .ok (.invokevirtual 380, 3) := by decide +kernel
theorem dX7_waysWith_46 : decode cX7_waysWith 46 = .ok (.aload_n 0, 1) := by decide +kernel
theorem dX7_waysWith_47 : decode cX7_waysWith 47 = .ok (.getfield 55, 3) := by decide +kernel
theorem dX7_waysWith_50 : decode cX7_waysWith 50 = .ok (.getfield 383, 3) := by decide +kernel
theorem dX7_waysWith_53 : decode cX7_waysWith 53 = .ok (.ireturn, 1) := by decide +kernel
theorem dX7_energyOf_0 : decode cX7_energyOf 0 = .ok (.iload_n 1, 1) := by decide +kernel
theorem dX7_energyOf_1 : decode cX7_energyOf 1 = .ok (.iconst 4, 1) := by decide +kernel
theorem dX7_energyOf_2 : decode cX7_energyOf 2 = .ok (.invokestatic 153, 3) := by decide +kernel
theorem dX7_energyOf_5 : decode cX7_energyOf 5 = .ok (.i2l, 1) := by decide +kernel
theorem dX7_energyOf_6 : decode cX7_energyOf 6 = .ok (.lstore_n 2, 1) := by decide +kernel
theorem dX7_energyOf_7 : decode cX7_energyOf 7 = .ok (.lload_n 2, 1) := by decide +kernel
theorem dX7_energyOf_8 : decode cX7_energyOf 8 = .ok (.lload_n 2, 1) := by decide +kernel
theorem dX7_energyOf_9 : decode cX7_energyOf 9 = .ok (.lmul, 1) := by decide +kernel
theorem dX7_energyOf_10 : decode cX7_energyOf 10 = .ok (.aload_n 0, 1) := by decide +kernel
theorem dX7_energyOf_11 : decode cX7_energyOf 11 = .ok (.invokevirtual 231, 3) := by decide +kernel
theorem dX7_energyOf_14 : decode cX7_energyOf 14 = .ok (.ladd, 1) := by decide +kernel
theorem dX7_energyOf_15 : decode cX7_energyOf 15 = .ok (.invokestatic 286, 3) := by decide +kernel
theorem dX7_energyOf_18 : decode cX7_energyOf 18 = .ok (.lreturn, 1) := by decide +kernel
theorem dX7_hasHeat_0 : decode cX7_hasHeat 0 = .ok (.aload_n 0, 1) := by decide +kernel
theorem dX7_hasHeat_1 : decode cX7_hasHeat 1 = .ok (.iload_n 1, 1) := by decide +kernel
theorem dX7_hasHeat_2 : decode cX7_hasHeat 2 = .ok (.invokevirtual 224, 3) := by decide +kernel
theorem dX7_hasHeat_5 : decode cX7_hasHeat 5 = .ok (.ifCond .eq 16, 3) := by decide +kernel
theorem dX7_hasHeat_8 : decode cX7_hasHeat 8 = .ok (.aload_n 0, 1) := by decide +kernel
theorem dX7_hasHeat_9 : decode cX7_hasHeat 9 = .ok (.getfield 12, 3) := by decide +kernel
theorem dX7_hasHeat_12 : decode cX7_hasHeat 12 = .ok (.getfield 144, 3) := by decide +kernel
theorem dX7_hasHeat_15 : decode cX7_hasHeat 15 = .ok (.iload_n 1, 1) := by decide +kernel
theorem dX7_hasHeat_16 : decode cX7_hasHeat 16 = .ok (.iaload, 1) := by decide +kernel
theorem dX7_hasHeat_17 : decode cX7_hasHeat 17 = .ok (.iconst (-1), 1) := by decide +kernel
theorem dX7_hasHeat_18 : decode cX7_hasHeat 18 = .ok (.if_icmp .ne 5, 3) := by decide +kernel
theorem dX7_hasHeat_21 : decode cX7_hasHeat 21 = .ok (.iconst 0, 1) := by decide +kernel
theorem dX7_hasHeat_22 : decode cX7_hasHeat 22 = .ok (.ireturn, 1) := by decide +kernel
theorem dX7_hasHeat_23 : decode cX7_hasHeat 23 = .ok (.aload_n 0, 1) := by decide +kernel
theorem dX7_hasHeat_24 : decode cX7_hasHeat 24 = .ok (.getfield 12, 3) := by decide +kernel
theorem dX7_hasHeat_27 : decode cX7_hasHeat 27 = .ok (.iload_n 1, 1) := by decide +kernel
theorem dX7_hasHeat_28 : decode cX7_hasHeat 28 = .ok (.aload_n 0, 1) := by decide +kernel
theorem dX7_hasHeat_29 : decode cX7_hasHeat 29 = .ok (.getfield 48, 3) := by decide +kernel
theorem dX7_hasHeat_32 : decode cX7_hasHeat 32 = .ok (.invokevirtual 327, 3) := by decide +kernel
theorem dX7_hasHeat_35 : decode cX7_hasHeat 35 = .ok (.istore_n 2, 1) := by decide +kernel
theorem dX7_hasHeat_36 : decode cX7_hasHeat 36 = .ok (.iconst 0, 1) := by decide +kernel
theorem dX7_hasHeat_37 : decode cX7_hasHeat 37 = .ok (.istore_n 3, 1) := by decide +kernel
theorem dX7_hasHeat_38 : decode cX7_hasHeat 38 = .ok (.iload_n 3, 1) := by decide +kernel
theorem dX7_hasHeat_39 : decode cX7_hasHeat 39 = .ok (.iload_n 2, 1) := by decide +kernel
theorem dX7_hasHeat_40 : decode cX7_hasHeat 40 = .ok (.if_icmp .ge 30, 3) := by decide +kernel
theorem dX7_hasHeat_43 : decode cX7_hasHeat 43 = .ok (.aload_n 0, 1) := by decide +kernel
theorem dX7_hasHeat_44 : decode cX7_hasHeat 44 = .ok (.getfield 12, 3) := by decide +kernel
theorem dX7_hasHeat_47 : decode cX7_hasHeat 47 = .ok (.getfield 123, 3) := by decide +kernel
theorem dX7_hasHeat_50 : decode cX7_hasHeat 50 = .ok (.aload_n 0, 1) := by decide +kernel
theorem dX7_hasHeat_51 : decode cX7_hasHeat 51 = .ok (.getfield 48, 3) := by decide +kernel
theorem dX7_hasHeat_54 : decode cX7_hasHeat 54 = .ok (.iload_n 3, 1) := by decide +kernel
theorem dX7_hasHeat_55 : decode cX7_hasHeat 55 = .ok (.iaload, 1) := by decide +kernel
theorem dX7_hasHeat_56 : decode cX7_hasHeat 56 = .ok (.iaload, 1) := by decide +kernel
theorem dX7_hasHeat_57 : decode cX7_hasHeat 57 = .ok (.bipush 12, 2) := by decide +kernel
theorem dX7_hasHeat_59 : decode cX7_hasHeat 59 = .ok (.if_icmp .ne 5, 3) := by decide +kernel
theorem dX7_hasHeat_62 : decode cX7_hasHeat 62 = .ok (.iconst 0, 1) := by decide +kernel
theorem dX7_hasHeat_63 : decode cX7_hasHeat 63 = .ok (.ireturn, 1) := by decide +kernel
theorem dX7_hasHeat_64 : decode cX7_hasHeat 64 = .ok (.iinc 3 1, 3) := by decide +kernel
theorem dX7_hasHeat_67 : decode cX7_hasHeat 67 = .ok (.goto (-29), 3) := by decide +kernel
theorem dX7_hasHeat_70 : decode cX7_hasHeat 70 = .ok (.iconst 1, 1) := by decide +kernel
theorem dX7_hasHeat_71 : decode cX7_hasHeat 71 = .ok (.ireturn, 1) := by decide +kernel
theorem dX7_heatBy_0 : decode cX7_heatBy 0 = .ok (.aload_n 0, 1) := by decide +kernel
theorem dX7_heatBy_1 : decode cX7_heatBy 1 = .ok (.getfield 12, 3) := by decide +kernel
theorem dX7_heatBy_4 : decode cX7_heatBy 4 = .ok (.iload_n 1, 1) := by decide +kernel
theorem dX7_heatBy_5 : decode cX7_heatBy 5 = .ok (.aload_n 0, 1) := by decide +kernel
theorem dX7_heatBy_6 : decode cX7_heatBy 6 = .ok (.getfield 48, 3) := by decide +kernel
theorem dX7_heatBy_9 : decode cX7_heatBy 9 = .ok (.invokevirtual 327, 3) := by decide +kernel
theorem dX7_heatBy_12 : decode cX7_heatBy 12 = .ok (.istore_n 3, 1) := by decide +kernel
theorem dX7_heatBy_13 : decode cX7_heatBy 13 = .ok (.lconst 0, 1) := by decide +kernel
theorem dX7_heatBy_14 : decode cX7_heatBy 14 = .ok (.lstore 4, 2) := by decide +kernel
theorem dX7_heatBy_16 : decode cX7_heatBy 16 = .ok (.iconst 0, 1) := by decide +kernel
theorem dX7_heatBy_17 : decode cX7_heatBy 17 = .ok (.istore 6, 2) := by decide +kernel
theorem dX7_heatBy_19 : decode cX7_heatBy 19 = .ok (.iload 6, 2) := by decide +kernel
theorem dX7_heatBy_21 : decode cX7_heatBy 21 = .ok (.iload_n 3, 1) := by decide +kernel
theorem dX7_heatBy_22 : decode cX7_heatBy 22 = .ok (.if_icmp .ge 89, 3) := by decide +kernel
theorem dX7_heatBy_25 : decode cX7_heatBy 25 = .ok (.aload_n 0, 1) := by decide +kernel
theorem dX7_heatBy_26 : decode cX7_heatBy 26 = .ok (.getfield 48, 3) := by decide +kernel
theorem dX7_heatBy_29 : decode cX7_heatBy 29 = .ok (.iload 6, 2) := by decide +kernel
theorem dX7_heatBy_31 : decode cX7_heatBy 31 = .ok (.iaload, 1) := by decide +kernel
theorem dX7_heatBy_32 : decode cX7_heatBy 32 = .ok (.istore 7, 2) := by decide +kernel
theorem dX7_heatBy_34 : decode cX7_heatBy 34 = .ok (.aload_n 0, 1) := by decide +kernel
theorem dX7_heatBy_35 : decode cX7_heatBy 35 = .ok (.iload 7, 2) := by decide +kernel
theorem dX7_heatBy_37 : decode cX7_heatBy 37 = .ok (.aload_n 0, 1) := by decide +kernel
theorem dX7_heatBy_38 : decode cX7_heatBy 38 = .ok (.getfield 12, 3) := by decide +kernel
theorem dX7_heatBy_41 : decode cX7_heatBy 41 = .ok (.getfield 138, 3) := by decide +kernel
theorem dX7_heatBy_44 : decode cX7_heatBy 44 = .ok (.iload_n 1, 1) := by decide +kernel
theorem dX7_heatBy_45 : decode cX7_heatBy 45 = .ok (.iaload, 1) := by decide +kernel
theorem dX7_heatBy_46 : decode cX7_heatBy 46 = .ok (.aload_n 0, 1) := by decide +kernel
theorem dX7_heatBy_47 : decode cX7_heatBy 47 = .ok (.getfield 12, 3) := by decide +kernel
theorem dX7_heatBy_50 : decode cX7_heatBy 50 = .ok (.getfield 141, 3) := by decide +kernel
theorem dX7_heatBy_53 : decode cX7_heatBy 53 = .ok (.iload_n 1, 1) := by decide +kernel
theorem dX7_heatBy_54 : decode cX7_heatBy 54 = .ok (.iaload, 1) := by decide +kernel
theorem dX7_heatBy_55 : decode cX7_heatBy 55 = .ok (.iload_n 2, 1) := by decide +kernel
theorem dX7_heatBy_56 : decode cX7_heatBy 56 = .ok (.invokevirtual 213, 3) := by decide +kernel
theorem dX7_heatBy_59 : decode cX7_heatBy 59 = .ok (.astore 8, 2) := by decide +kernel
theorem dX7_heatBy_61 : decode cX7_heatBy 61 = .ok (.aload 8, 2) := by decide +kernel
theorem dX7_heatBy_63 : decode cX7_heatBy 63 = .ok (.aload_n 0, 1) := by decide +kernel
theorem dX7_heatBy_64 : decode cX7_heatBy 64 = .ok (.getfield 12, 3) := by decide +kernel
theorem dX7_heatBy_67 : decode cX7_heatBy 67 = .ok (.getfield 123, 3) := by decide +kernel
theorem dX7_heatBy_70 : decode cX7_heatBy 70 = .ok (.iload 7, 2) := by decide +kernel
theorem dX7_heatBy_72 : decode cX7_heatBy 72 = .ok (.iaload, 1) := by decide +kernel
theorem dX7_heatBy_73 : decode cX7_heatBy 73 = .ok (.invokestatic 274, 3) := by decide +kernel
theorem dX7_heatBy_76 : decode cX7_heatBy 76 = .ok (.lstore 9, 2) := by decide +kernel
theorem dX7_heatBy_78 : decode cX7_heatBy 78 = .ok (.lload 4, 2) := by decide +kernel
theorem dX7_heatBy_80 : decode cX7_heatBy 80 = .ok (.iload 7, 2) := by decide +kernel
theorem dX7_heatBy_82 : decode cX7_heatBy 82 = .ok (.aload_n 0, 1) := by decide +kernel
theorem dX7_heatBy_83 : decode cX7_heatBy 83 = .ok (.getfield 12, 3) := by decide +kernel
theorem dX7_heatBy_86 : decode cX7_heatBy 86 = .ok (.getfield 144, 3) := by decide +kernel
theorem dX7_heatBy_89 : decode cX7_heatBy 89 = .ok (.iload_n 1, 1) := by decide +kernel
theorem dX7_heatBy_90 : decode cX7_heatBy 90 = .ok (.iaload, 1) := by decide +kernel
theorem dX7_heatBy_91 : decode cX7_heatBy 91 = .ok (.if_icmp .ne 8, 3) := by decide +kernel
theorem dX7_heatBy_94 : decode cX7_heatBy 94 = .ok (.lload 9, 2) := by decide +kernel
theorem dX7_heatBy_96 : decode cX7_heatBy 96 = .ok (.goto 6, 3) := by decide +kernel
theorem dX7_heatBy_99 : decode cX7_heatBy 99 = .ok (.lload 9, 2) := by decide +kernel
theorem dX7_heatBy_101 : decode cX7_heatBy 101 = .ok (.lneg, 1) := by decide +kernel
theorem dX7_heatBy_102 : decode cX7_heatBy 102 = .ok (.ladd, 1) := by decide +kernel
theorem dX7_heatBy_103 : decode cX7_heatBy 103 = .ok (.lstore 4, 2) := by decide +kernel
theorem dX7_heatBy_105 : decode cX7_heatBy 105 = .ok (.iinc 6 1, 3) := by decide +kernel
theorem dX7_heatBy_108 : decode cX7_heatBy 108 = .ok (.goto (-89), 3) := by decide +kernel
theorem dX7_heatBy_111 : decode cX7_heatBy 111 = .ok (.lload 4, 2) := by decide +kernel
theorem dX7_heatBy_113 : decode cX7_heatBy 113 = .ok (.lreturn, 1) := by decide +kernel
theorem dX7_nearestNeutral_0 : decode cX7_nearestNeutral 0 = .ok (.iconst (-1), 1) := by decide +kernel
theorem dX7_nearestNeutral_1 : decode cX7_nearestNeutral 1 = .ok (.istore_n 2, 1) := by decide +kernel
theorem dX7_nearestNeutral_2 : decode cX7_nearestNeutral 2 = .ok (.ldc2_w 386, 3) := by decide +kernel
theorem dX7_nearestNeutral_5 : decode cX7_nearestNeutral 5 = .ok (.lstore_n 3, 1) := by decide +kernel
theorem dX7_nearestNeutral_6 : decode cX7_nearestNeutral 6 = .ok (.iconst 0, 1) := by decide +kernel
theorem dX7_nearestNeutral_7 : decode cX7_nearestNeutral 7 = .ok (.istore 5, 2) := by decide +kernel
theorem dX7_nearestNeutral_9 : decode cX7_nearestNeutral 9 = .ok (.iload 5, 2) := by decide +kernel
theorem dX7_nearestNeutral_11 : decode cX7_nearestNeutral 11 = .ok (.bipush 12, 2) := by decide +kernel
theorem dX7_nearestNeutral_13 : decode cX7_nearestNeutral 13 = .ok (.if_icmp .ge 44, 3) := by decide +kernel
theorem dX7_nearestNeutral_16 : decode cX7_nearestNeutral 16 = .ok (.iload 5, 2) := by decide +kernel
theorem dX7_nearestNeutral_18 : decode cX7_nearestNeutral 18 = .ok (.iconst 4, 1) := by decide +kernel
theorem dX7_nearestNeutral_19 : decode cX7_nearestNeutral 19 = .ok (.invokestatic 153, 3) := by decide +kernel
theorem dX7_nearestNeutral_22 : decode cX7_nearestNeutral 22 = .ok (.i2l, 1) := by decide +kernel
theorem dX7_nearestNeutral_23 : decode cX7_nearestNeutral 23 = .ok (.lload_n 0, 1) := by decide +kernel
theorem dX7_nearestNeutral_24 : decode cX7_nearestNeutral 24 = .ok (.lsub, 1) := by decide +kernel
theorem dX7_nearestNeutral_25 : decode cX7_nearestNeutral 25 = .ok (.invokestatic 192, 3) := by decide +kernel
theorem dX7_nearestNeutral_28 : decode cX7_nearestNeutral 28 = .ok (.lstore 6, 2) := by decide +kernel
theorem dX7_nearestNeutral_30 : decode cX7_nearestNeutral 30 = .ok (.iload 5, 2) := by decide +kernel
theorem dX7_nearestNeutral_32 : decode cX7_nearestNeutral 32 = .ok (.invokestatic 246, 3) := by decide +kernel
theorem dX7_nearestNeutral_35 : decode cX7_nearestNeutral 35 = .ok (.ifCond .eq 16, 3) := by decide +kernel
theorem dX7_nearestNeutral_38 : decode cX7_nearestNeutral 38 = .ok (.lload 6, 2) := by decide +kernel
theorem dX7_nearestNeutral_40 : decode cX7_nearestNeutral 40 = .ok (.lload_n 3, 1) := by decide +kernel
theorem dX7_nearestNeutral_41 : decode cX7_nearestNeutral 41 = .ok (.lcmp, 1) := by decide +kernel
theorem dX7_nearestNeutral_42 : decode cX7_nearestNeutral 42 = .ok (.ifCond .ge 9, 3) := by decide +kernel
theorem dX7_nearestNeutral_45 : decode cX7_nearestNeutral 45 = .ok (.lload 6, 2) := by decide +kernel
theorem dX7_nearestNeutral_47 : decode cX7_nearestNeutral 47 = .ok (.lstore_n 3, 1) := by decide +kernel
theorem dX7_nearestNeutral_48 : decode cX7_nearestNeutral 48 = .ok (.iload 5, 2) := by decide +kernel
theorem dX7_nearestNeutral_50 : decode cX7_nearestNeutral 50 = .ok (.istore_n 2, 1) := by decide +kernel
theorem dX7_nearestNeutral_51 : decode cX7_nearestNeutral 51 = .ok (.iinc 5 1, 3) := by decide +kernel
theorem dX7_nearestNeutral_54 : decode cX7_nearestNeutral 54 = .ok (.goto (-45), 3) := by decide +kernel
theorem dX7_nearestNeutral_57 : decode cX7_nearestNeutral 57 = .ok (.iload_n 2, 1) := by decide +kernel
theorem dX7_nearestNeutral_58 : decode cX7_nearestNeutral 58 = .ok (.ireturn, 1) := by decide +kernel
theorem dX7_doStatements_0 : decode cX7_doStatements 0 = .ok (.aload_n 0, 1) := by decide +kernel
theorem dX7_doStatements_1 : decode cX7_doStatements 1 = .ok (.getfield 21, 3) := by decide +kernel
theorem dX7_doStatements_4 : decode cX7_doStatements 4 = .ok (.aload_n 0, 1) := by decide +kernel
theorem dX7_doStatements_5 : decode cX7_doStatements 5 = .ok (.getfield 12, 3) := by decide +kernel
theorem dX7_doStatements_8 : decode cX7_doStatements 8 = .ok (.invokevirtual 82, 3) := by decide +kernel
theorem dX7_doStatements_11 : decode cX7_doStatements 11 = .ok (.aload_n 0, 1) := by decide +kernel
theorem dX7_doStatements_12 : decode cX7_doStatements 12 = .ok (.getfield 62, 3) := by decide +kernel
theorem dX7_doStatements_15 : decode cX7_doStatements 15 = .ok (.iconst 0, 1) := by decide +kernel
theorem dX7_doStatements_16 : decode cX7_doStatements 16 = .ok (.putfield 388, 3) := by decide +kernel
theorem dX7_doStatements_19 : decode cX7_doStatements 19 = .ok (.iconst 0, 1) := by decide +kernel
theorem dX7_doStatements_20 : decode cX7_doStatements 20 = .ok (.istore_n 1, 1) := by decide +kernel
theorem dX7_doStatements_21 : decode cX7_doStatements 21 = .ok (.iconst 1, 1) := by decide +kernel
theorem dX7_doStatements_22 : decode cX7_doStatements 22 = .ok (.istore_n 2, 1) := by decide +kernel
theorem dX7_doStatements_23 : decode cX7_doStatements 23 = .ok (.iload_n 2, 1) := by decide +kernel
theorem dX7_doStatements_24 : decode cX7_doStatements 24 = .ok (.ifCond .eq 65, 3) := by decide +kernel
theorem dX7_doStatements_27 : decode cX7_doStatements 27 = .ok (.iload_n 1, 1) := by decide +kernel
theorem dX7_doStatements_28 : decode cX7_doStatements 28 = .ok (.bipush 120, 2) := by decide +kernel
theorem dX7_doStatements_30 : decode cX7_doStatements 30 = .ok (.if_icmp .ge 59, 3) := by decide +kernel
theorem dX7_doStatements_33 : decode cX7_doStatements 33 = .ok (.aload_n 0, 1) := by decide +kernel
theorem dX7_doStatements_34 : decode cX7_doStatements 34 = .ok (.getfield 62, 3) := by decide +kernel
theorem dX7_doStatements_37 : decode cX7_doStatements 37 = .ok (.getfield 388, 3) := by decide +kernel
theorem dX7_doStatements_40 : decode cX7_doStatements 40 = .ok (.istore_n 3, 1) := by decide +kernel
theorem dX7_doStatements_41 : decode cX7_doStatements 41 = .ok (.aload_n 0, 1) := by decide +kernel
theorem dX7_doStatements_42 : decode cX7_doStatements 42 = .ok (.getfield 62, 3) := by decide +kernel
theorem dX7_doStatements_45 : decode cX7_doStatements 45 = .ok (.invokevirtual 391, 3) := by decide +kernel
theorem dX7_doStatements_48 : decode cX7_doStatements 48 = .ok (.pop, 1) := by decide +kernel
theorem dX7_doStatements_49 : decode cX7_doStatements 49 = .ok (.aload_n 0, 1) := by decide +kernel
theorem dX7_doStatements_50 : decode cX7_doStatements 50 = .ok (.invokevirtual 394, 3) := by decide +kernel
theorem dX7_doStatements_53 : decode cX7_doStatements 53 = .ok (.ifCond .ge 20, 3) := by decide +kernel
theorem dX7_doStatements_56 : decode cX7_doStatements 56 = .ok (.aload_n 0, 1) := by decide +kernel
theorem dX7_doStatements_57 : decode cX7_doStatements 57 = .ok (.getfield 21, 3) := by decide +kernel
theorem dX7_doStatements_60 : decode cX7_doStatements 60 = .ok (.aload_n 0, 1) := by decide +kernel
theorem dX7_doStatements_61 : decode cX7_doStatements 61 = .ok (.getfield 12, 3) := by decide +kernel
theorem dX7_doStatements_64 : decode cX7_doStatements 64 = .ok (.invokevirtual 397, 3) := by decide +kernel
theorem dX7_doStatements_67 : decode cX7_doStatements 67 = .ok (.sipush (-2000), 3) := by decide +kernel
theorem dX7_doStatements_70 : decode cX7_doStatements 70 = .ok (.iload_n 3, 1) := by decide +kernel
theorem dX7_doStatements_71 : decode cX7_doStatements 71 = .ok (.isub, 1) := by decide +kernel
theorem dX7_doStatements_72 : decode cX7_doStatements 72 = .ok (.ireturn, 1) := by decide +kernel
theorem dX7_doStatements_73 : decode cX7_doStatements 73 = .ok (.iinc 1 1, 3) := by decide +kernel
theorem dX7_doStatements_76 : decode cX7_doStatements 76 = .ok (.aload_n 0, 1) := by decide +kernel
theorem dX7_doStatements_77 : decode cX7_doStatements 77 = .ok (.getfield 62, 3) := by decide +kernel
theorem dX7_doStatements_80 : decode cX7_doStatements 80 = .ok (.bipush 59, 2) := by decide +kernel
theorem dX7_doStatements_82 : decode cX7_doStatements 82 = .ok (.invokevirtual 400, 3) := by decide +kernel
theorem dX7_doStatements_85 : decode cX7_doStatements 85 = .ok (.istore_n 2, 1) := by decide +kernel
theorem dX7_doStatements_86 : decode cX7_doStatements 86 = .ok (.goto (-63), 3) := by decide +kernel
theorem dX7_doStatements_89 : decode cX7_doStatements 89 = .ok (.aload_n 0, 1) := by decide +kernel
theorem dX7_doStatements_90 : decode cX7_doStatements 90 = .ok (.getfield 21, 3) := by decide +kernel
theorem dX7_doStatements_93 : decode cX7_doStatements 93 = .ok (.invokevirtual 340, 3) := by decide +kernel
theorem dX7_doStatements_96 : decode cX7_doStatements 96 = .ok (.iload_n 1, 1) := by decide +kernel
theorem dX7_doStatements_97 : decode cX7_doStatements 97 = .ok (.ireturn, 1) := by decide +kernel
theorem dX7_doStatement_0 : decode cX7_doStatement 0 = .ok (.aload_n 0, 1) := by decide +kernel
theorem dX7_doStatement_1 : decode cX7_doStatement 1 = .ok (.getfield 62, 3) := by decide +kernel
theorem dX7_doStatement_4 : decode cX7_doStatement 4 = .ok (.getfield 404, 3) := by decide +kernel
theorem dX7_doStatement_7 : decode cX7_doStatement 7 = .ok (.astore_n 1, 1) := by decide +kernel
theorem dX7_doStatement_8 : decode cX7_doStatement 8 = .ok (.aload_n 0, 1) := by decide +kernel
theorem dX7_doStatement_9 : decode cX7_doStatement 9 = .ok (.getfield 62, 3) := by decide +kernel
theorem dX7_doStatement_12 : decode cX7_doStatement 12 = .ok (.getfield 407, 3) := by decide +kernel
theorem dX7_doStatement_15 : decode cX7_doStatement 15 = .ok (.lookupswitch 81 #[(102, 33), (107, 70), (116, 44)], 33) := by decide +kernel
theorem dX7_doStatement_48 : decode cX7_doStatement 48 = .ok (.aload_n 0, 1) := by decide +kernel
theorem dX7_doStatement_49 : decode cX7_doStatement 49 = .ok (.getfield 12, 3) := by decide +kernel
theorem dX7_doStatement_52 : decode cX7_doStatement 52 = .ok (.aload_n 1, 1) := by decide +kernel
theorem dX7_doStatement_53 : decode cX7_doStatement 53 = .ok (.iconst 0, 1) := by decide +kernel
theorem dX7_doStatement_54 : decode cX7_doStatement 54 = .ok (.iaload, 1) := by decide +kernel
theorem dX7_doStatement_55 : decode cX7_doStatement 55 = .ok (.invokevirtual 86, 3) := by decide +kernel
theorem dX7_doStatement_58 : decode cX7_doStatement 58 = .ok (.ireturn, 1) := by decide +kernel
theorem dX7_doStatement_59 : decode cX7_doStatement 59 = .ok (.aload_n 0, 1) := by decide +kernel
theorem dX7_doStatement_60 : decode cX7_doStatement 60 = .ok (.getfield 12, 3) := by decide +kernel
theorem dX7_doStatement_63 : decode cX7_doStatement 63 = .ok (.aload_n 1, 1) := by decide +kernel
theorem dX7_doStatement_64 : decode cX7_doStatement 64 = .ok (.iconst 0, 1) := by decide +kernel
theorem dX7_doStatement_65 : decode cX7_doStatement 65 = .ok (.iaload, 1) := by decide +kernel
theorem dX7_doStatement_66 : decode cX7_doStatement 66 = .ok (.aload_n 1, 1) := by decide +kernel
theorem dX7_doStatement_67 : decode cX7_doStatement 67 = .ok (.iconst 1, 1) := by decide +kernel
theorem dX7_doStatement_68 : decode cX7_doStatement 68 = .ok (.iaload, 1) := by decide +kernel
theorem dX7_doStatement_69 : decode cX7_doStatement 69 = .ok (.aload_n 1, 1) := by decide +kernel
theorem dX7_doStatement_70 : decode cX7_doStatement 70 = .ok (.iconst 2, 1) := by decide +kernel
theorem dX7_doStatement_71 : decode cX7_doStatement 71 = .ok (.iaload, 1) := by decide +kernel
theorem dX7_doStatement_72 : decode cX7_doStatement 72 = .ok (.aload_n 1, 1) := by decide +kernel
theorem dX7_doStatement_73 : decode cX7_doStatement 73 = .ok (.iconst 3, 1) := by decide +kernel
theorem dX7_doStatement_74 : decode cX7_doStatement 74 = .ok (.iaload, 1) := by decide +kernel
theorem dX7_doStatement_75 : decode cX7_doStatement 75 = .ok (.aload_n 1, 1) := by decide +kernel
theorem dX7_doStatement_76 : decode cX7_doStatement 76 = .ok (.iconst 4, 1) := by decide +kernel
theorem dX7_doStatement_77 : decode cX7_doStatement 77 = .ok (.iaload, 1) := by decide +kernel
theorem dX7_doStatement_78 : decode cX7_doStatement 78 = .ok (.aload_n 1, 1) := by decide +kernel
theorem dX7_doStatement_79 : decode cX7_doStatement 79 = .ok (.iconst 5, 1) := by decide +kernel
theorem dX7_doStatement_80 : decode cX7_doStatement 80 = .ok (.iaload, 1) := by decide +kernel
theorem dX7_doStatement_81 : decode cX7_doStatement 81 = .ok (.invokevirtual 93, 3) := by decide +kernel
theorem dX7_doStatement_84 : decode cX7_doStatement 84 = .ok (.ireturn, 1) := by decide +kernel
theorem dX7_doStatement_85 : decode cX7_doStatement 85 = .ok (.aload_n 0, 1) := by decide +kernel
theorem dX7_doStatement_86 : decode cX7_doStatement 86 = .ok (.aload_n 1, 1) := by decide +kernel
theorem dX7_doStatement_87 : decode cX7_doStatement 87 = .ok (.iconst 0, 1) := by decide +kernel
theorem dX7_doStatement_88 : decode cX7_doStatement 88 = .ok (.iaload, 1) := by decide +kernel
theorem dX7_doStatement_89 : decode cX7_doStatement 89 = .ok (.aload_n 1, 1) := by decide +kernel
theorem dX7_doStatement_90 : decode cX7_doStatement 90 = .ok (.iconst 1, 1) := by decide +kernel
theorem dX7_doStatement_91 : decode cX7_doStatement 91 = .ok (.iaload, 1) := by decide +kernel
theorem dX7_doStatement_92 : decode cX7_doStatement 92 = .ok (.invokevirtual 97, 3) := by decide +kernel
theorem dX7_doStatement_95 : decode cX7_doStatement 95 = .ok (.ireturn, 1) := by decide +kernel
theorem dX7_doStatement_96 : decode cX7_doStatement 96 = .ok (.aload_n 0, 1) := by decide +kernel
theorem dX7_doStatement_97 : decode cX7_doStatement 97 = .ok (.aload_n 1, 1) := by decide +kernel
theorem dX7_doStatement_98 : decode cX7_doStatement 98 = .ok (.iconst 0, 1) := by decide +kernel
theorem dX7_doStatement_99 : decode cX7_doStatement 99 = .ok (.iaload, 1) := by decide +kernel
theorem dX7_doStatement_100 : decode cX7_doStatement 100 = .ok (.aload_n 1, 1) := by decide +kernel
theorem dX7_doStatement_101 : decode cX7_doStatement 101 = .ok (.iconst 1, 1) := by decide +kernel
theorem dX7_doStatement_102 : decode cX7_doStatement 102 = .ok (.iaload, 1) := by decide +kernel
theorem dX7_doStatement_103 : decode cX7_doStatement 103 = .ok (.aload_n 1, 1) := by decide +kernel
theorem dX7_doStatement_104 : decode cX7_doStatement 104 = .ok (.iconst 2, 1) := by decide +kernel
theorem dX7_doStatement_105 : decode cX7_doStatement 105 = .ok (.iaload, 1) := by decide +kernel
theorem dX7_doStatement_106 : decode cX7_doStatement 106 = .ok (.aload_n 1, 1) := by decide +kernel
theorem dX7_doStatement_107 : decode cX7_doStatement 107 = .ok (.iconst 3, 1) := by decide +kernel
theorem dX7_doStatement_108 : decode cX7_doStatement 108 = .ok (.iaload, 1) := by decide +kernel
theorem dX7_doStatement_109 : decode cX7_doStatement 109 = .ok (.invokevirtual 101, 3) := by decide +kernel
theorem dX7_doStatement_112 : decode cX7_doStatement 112 = .ok (.ireturn, 1) := by decide +kernel
theorem dX7_letterOf_0 : decode cX7_letterOf 0 = .ok (.aload_n 0, 1) := by decide +kernel
theorem dX7_letterOf_1 : decode cX7_letterOf 1 = .ok (.getfield 12, 3) := by decide +kernel
theorem dX7_letterOf_4 : decode cX7_letterOf 4 = .ok (.getfield 123, 3) := by decide +kernel
theorem dX7_letterOf_7 : decode cX7_letterOf 7 = .ok (.iload_n 1, 1) := by decide +kernel
theorem dX7_letterOf_8 : decode cX7_letterOf 8 = .ok (.iaload, 1) := by decide +kernel
theorem dX7_letterOf_9 : decode cX7_letterOf 9 = .ok (.istore_n 2, 1) := by decide +kernel
theorem dX7_letterOf_10 : decode cX7_letterOf 10 = .ok (.iload_n 2, 1) := by decide +kernel
theorem dX7_letterOf_11 : decode cX7_letterOf 11 = .ok (.invokestatic 150, 3) := by decide +kernel
theorem dX7_letterOf_14 : decode cX7_letterOf 14 = .ok (.ifCond .eq 13, 3) := by decide +kernel
theorem dX7_letterOf_17 : decode cX7_letterOf 17 = .ok (.ldc_w 410, 3) := by decide +kernel
theorem dX7_letterOf_20 : decode cX7_letterOf 20 = .ok (.iload_n 2, 1) := by decide +kernel
theorem dX7_letterOf_21 : decode cX7_letterOf 21 = .ok (.invokevirtual 412, 3) := by decide +kernel
theorem dX7_letterOf_24 : decode cX7_letterOf 24 = .ok (.goto 5, 3) := by decide +kernel
theorem dX7_letterOf_27 : decode cX7_letterOf 27 = .ok (.bipush 63, 2) := by decide +kernel
theorem dX7_letterOf_29 : decode cX7_letterOf 29 = .ok (.ireturn, 1) := by decide +kernel
theorem dX7_printLetter_0 : decode cX7_printLetter 0 = .ok (.aload_n 0, 1) := by decide +kernel
theorem dX7_printLetter_1 : decode cX7_printLetter 1 = .ok (.getfield 70, 3) := by decide +kernel
theorem dX7_printLetter_4 : decode cX7_printLetter 4 = .ok (.bipush 6, 2) := by decide +kernel
theorem dX7_printLetter_6 : decode cX7_printLetter 6 = .ok (.if_icmp .ge 23, 3) := by decide +kernel
theorem dX7_printLetter_9 : decode cX7_printLetter 9 = .ok (.aload_n 0, 1) := by decide +kernel
theorem dX7_printLetter_10 : decode cX7_printLetter 10 = .ok (.getfield 66, 3) := by decide +kernel
theorem dX7_printLetter_13 : decode cX7_printLetter 13 = .ok (.aload_n 0, 1) := by decide +kernel
theorem dX7_printLetter_14 : decode cX7_printLetter 14 = .ok (.getfield 70, 3) := by decide +kernel
theorem dX7_printLetter_17 : decode cX7_printLetter 17 = .ok (.iload_n 1, 1) := by decide +kernel
theorem dX7_printLetter_18 : decode cX7_printLetter 18 = .ok (.castore, 1) := by decide +kernel
theorem dX7_printLetter_19 : decode cX7_printLetter 19 = .ok (.aload_n 0, 1) := by decide +kernel
theorem dX7_printLetter_20 : decode cX7_printLetter 20 = .ok (.dup, 1) := by decide +kernel
theorem dX7_printLetter_21 : decode cX7_printLetter 21 = .ok (.getfield 70, 3) := by decide +kernel
theorem dX7_printLetter_24 : decode cX7_printLetter 24 = .ok (.iconst 1, 1) := by decide +kernel
theorem dX7_printLetter_25 : decode cX7_printLetter 25 = .ok (.iadd, 1) := by decide +kernel
theorem dX7_printLetter_26 : decode cX7_printLetter 26 = .ok (.putfield 70, 3) := by decide +kernel
theorem dX7_printLetter_29 : decode cX7_printLetter 29 = .ok (.return_, 1) := by decide +kernel
