theorem d_BF_init_0 : decode prog_1_method_1_code 0 = .ok (.aload_n 0, 1) := by decide +kernel
theorem d_BF_init_1 : decode prog_1_method_1_code 1 = .ok (.invokespecial 1, 3) := by decide +kernel
theorem d_BF_init_4 : decode prog_1_method_1_code 4 = .ok (.aload_n 0, 1) := by decide +kernel
theorem d_BF_init_5 : decode prog_1_method_1_code 5 = .ok (.new 7, 3) := by decide +kernel
theorem d_BF_init_8 : decode prog_1_method_1_code 8 = .ok (.dup, 1) := by decide +kernel
theorem d_BF_init_9 : decode prog_1_method_1_code 9 = .ok (.bipush 64, 2) := by decide +kernel
theorem d_BF_init_11 : decode prog_1_method_1_code 11 = .ok (.invokespecial 11, 3) := by decide +kernel
theorem d_BF_init_14 : decode prog_1_method_1_code 14 = .ok (.putfield 14, 3) := by decide +kernel
theorem d_BF_init_17 : decode prog_1_method_1_code 17 = .ok (.aload_n 0, 1) := by decide +kernel
theorem d_BF_init_18 : decode prog_1_method_1_code 18 = .ok (.new 7, 3) := by decide +kernel
theorem d_BF_init_21 : decode prog_1_method_1_code 21 = .ok (.dup, 1) := by decide +kernel
theorem d_BF_init_22 : decode prog_1_method_1_code 22 = .ok (.bipush 8, 2) := by decide +kernel
theorem d_BF_init_24 : decode prog_1_method_1_code 24 = .ok (.invokespecial 11, 3) := by decide +kernel
theorem d_BF_init_27 : decode prog_1_method_1_code 27 = .ok (.putfield 18, 3) := by decide +kernel
theorem d_BF_init_30 : decode prog_1_method_1_code 30 = .ok (.aload_n 0, 1) := by decide +kernel
theorem d_BF_init_31 : decode prog_1_method_1_code 31 = .ok (.new 21, 3) := by decide +kernel
theorem d_BF_init_34 : decode prog_1_method_1_code 34 = .ok (.dup, 1) := by decide +kernel
theorem d_BF_init_35 : decode prog_1_method_1_code 35 = .ok (.invokespecial 23, 3) := by decide +kernel
theorem d_BF_init_38 : decode prog_1_method_1_code 38 = .ok (.putfield 24, 3) := by decide +kernel
theorem d_BF_init_41 : decode prog_1_method_1_code 41 = .ok (.aload_n 0, 1) := by decide +kernel
theorem d_BF_init_42 : decode prog_1_method_1_code 42 = .ok (.new 21, 3) := by decide +kernel
theorem d_BF_init_45 : decode prog_1_method_1_code 45 = .ok (.dup, 1) := by decide +kernel
theorem d_BF_init_46 : decode prog_1_method_1_code 46 = .ok (.invokespecial 23, 3) := by decide +kernel
theorem d_BF_init_49 : decode prog_1_method_1_code 49 = .ok (.putfield 28, 3) := by decide +kernel
theorem d_BF_init_52 : decode prog_1_method_1_code 52 = .ok (.aload_n 0, 1) := by decide +kernel
theorem d_BF_init_53 : decode prog_1_method_1_code 53 = .ok (.new 21, 3) := by decide +kernel
theorem d_BF_init_56 : decode prog_1_method_1_code 56 = .ok (.dup, 1) := by decide +kernel
theorem d_BF_init_57 : decode prog_1_method_1_code 57 = .ok (.invokespecial 23, 3) := by decide +kernel
theorem d_BF_init_60 : decode prog_1_method_1_code 60 = .ok (.putfield 31, 3) := by decide +kernel
theorem d_BF_init_63 : decode prog_1_method_1_code 63 = .ok (.aload_n 0, 1) := by decide +kernel
theorem d_BF_init_64 : decode prog_1_method_1_code 64 = .ok (.new 34, 3) := by decide +kernel
theorem d_BF_init_67 : decode prog_1_method_1_code 67 = .ok (.dup, 1) := by decide +kernel
theorem d_BF_init_68 : decode prog_1_method_1_code 68 = .ok (.invokespecial 36, 3) := by decide +kernel
theorem d_BF_init_71 : decode prog_1_method_1_code 71 = .ok (.putfield 37, 3) := by decide +kernel
theorem d_BF_init_74 : decode prog_1_method_1_code 74 = .ok (.aload_n 0, 1) := by decide +kernel
theorem d_BF_init_75 : decode prog_1_method_1_code 75 = .ok (.new 34, 3) := by decide +kernel
theorem d_BF_init_78 : decode prog_1_method_1_code 78 = .ok (.dup, 1) := by decide +kernel
theorem d_BF_init_79 : decode prog_1_method_1_code 79 = .ok (.invokespecial 36, 3) := by decide +kernel
theorem d_BF_init_82 : decode prog_1_method_1_code 82 = .ok (.putfield 41, 3) := by decide +kernel
theorem d_BF_init_85 : decode prog_1_method_1_code 85 = .ok (.aload_n 0, 1) := by decide +kernel
theorem d_BF_init_86 : decode prog_1_method_1_code 86 = .ok (.bipush 64, 2) := by decide +kernel
theorem d_BF_init_88 : decode prog_1_method_1_code 88 = .ok (.newarray .int, 2) := by decide +kernel
theorem d_BF_init_90 : decode prog_1_method_1_code 90 = .ok (.putfield 44, 3) := by decide +kernel
theorem d_BF_init_93 : decode prog_1_method_1_code 93 = .ok (.aload_n 0, 1) := by decide +kernel
theorem d_BF_init_94 : decode prog_1_method_1_code 94 = .ok (.bipush 64, 2) := by decide +kernel
theorem d_BF_init_96 : decode prog_1_method_1_code 96 = .ok (.newarray .int, 2) := by decide +kernel
theorem d_BF_init_98 : decode prog_1_method_1_code 98 = .ok (.putfield 48, 3) := by decide +kernel
theorem d_BF_init_101 : decode prog_1_method_1_code 101 = .ok (.aload_n 0, 1) := by decide +kernel
theorem d_BF_init_102 : decode prog_1_method_1_code 102 = .ok (.bipush 64, 2) := by decide +kernel
theorem d_BF_init_104 : decode prog_1_method_1_code 104 = .ok (.newarray .int, 2) := by decide +kernel
theorem d_BF_init_106 : decode prog_1_method_1_code 106 = .ok (.putfield 51, 3) := by decide +kernel
theorem d_BF_init_109 : decode prog_1_method_1_code 109 = .ok (.aload_n 0, 1) := by decide +kernel
theorem d_BF_init_110 : decode prog_1_method_1_code 110 = .ok (.bipush 64, 2) := by decide +kernel
theorem d_BF_init_112 : decode prog_1_method_1_code 112 = .ok (.newarray .int, 2) := by decide +kernel
theorem d_BF_init_114 : decode prog_1_method_1_code 114 = .ok (.putfield 54, 3) := by decide +kernel
theorem d_BF_init_117 : decode prog_1_method_1_code 117 = .ok (.aload_n 0, 1) := by decide +kernel
theorem d_BF_init_118 : decode prog_1_method_1_code 118 = .ok (.iconst 0, 1) := by decide +kernel
theorem d_BF_init_119 : decode prog_1_method_1_code 119 = .ok (.putfield 57, 3) := by decide +kernel
theorem d_BF_init_122 : decode prog_1_method_1_code 122 = .ok (.aload_n 0, 1) := by decide +kernel
theorem d_BF_init_123 : decode prog_1_method_1_code 123 = .ok (.iload_n 1, 1) := by decide +kernel
theorem d_BF_init_124 : decode prog_1_method_1_code 124 = .ok (.invokestatic 61, 3) := by decide +kernel
theorem d_BF_init_127 : decode prog_1_method_1_code 127 = .ok (.putfield 65, 3) := by decide +kernel
theorem d_BF_init_130 : decode prog_1_method_1_code 130 = .ok (.aload_n 0, 1) := by decide +kernel
theorem d_BF_init_131 : decode prog_1_method_1_code 131 = .ok (.iload_n 2, 1) := by decide +kernel
theorem d_BF_init_132 : decode prog_1_method_1_code 132 = .ok (.invokestatic 61, 3) := by decide +kernel
theorem d_BF_init_135 : decode prog_1_method_1_code 135 = .ok (.putfield 69, 3) := by decide +kernel
theorem d_BF_init_138 : decode prog_1_method_1_code 138 = .ok (.return_, 1) := by decide +kernel
theorem d_BF_box_0 : decode prog_1_method_2_code 0 = .ok (.aload_n 0, 1) := by decide +kernel
theorem d_BF_box_1 : decode prog_1_method_2_code 1 = .ok (.aload_n 0, 1) := by decide +kernel
theorem d_BF_box_2 : decode prog_1_method_2_code 2 = .ok (.getfield 14, 3) := by decide +kernel
theorem d_BF_box_5 : decode prog_1_method_2_code 5 = .ok (.iload_n 1, 1) := by decide +kernel
theorem d_BF_box_6 : decode prog_1_method_2_code 6 = .ok (.iload_n 2, 1) := by decide +kernel
theorem d_BF_box_7 : decode prog_1_method_2_code 7 = .ok (.iload_n 3, 1) := by decide +kernel
theorem d_BF_box_8 : decode prog_1_method_2_code 8 = .ok (.iload 4, 2) := by decide +kernel
theorem d_BF_box_10 : decode prog_1_method_2_code 10 = .ok (.invokevirtual 72, 3) := by decide +kernel
theorem d_BF_box_13 : decode prog_1_method_2_code 13 = .ok (.istore 5, 2) := by decide +kernel
theorem d_BF_box_15 : decode prog_1_method_2_code 15 = .ok (.iload 5, 2) := by decide +kernel
theorem d_BF_box_17 : decode prog_1_method_2_code 17 = .ok (.ifCond .lt 11, 3) := by decide +kernel
theorem d_BF_box_20 : decode prog_1_method_2_code 20 = .ok (.aload_n 0, 1) := by decide +kernel
theorem d_BF_box_21 : decode prog_1_method_2_code 21 = .ok (.getfield 54, 3) := by decide +kernel
theorem d_BF_box_24 : decode prog_1_method_2_code 24 = .ok (.iload 5, 2) := by decide +kernel
theorem d_BF_box_26 : decode prog_1_method_2_code 26 = .ok (.iconst (-1), 1) := by decide +kernel
theorem d_BF_box_27 : decode prog_1_method_2_code 27 = .ok (.iastore, 1) := by decide +kernel
theorem d_BF_box_28 : decode prog_1_method_2_code 28 = .ok (.iload 5, 2) := by decide +kernel
theorem d_BF_box_30 : decode prog_1_method_2_code 30 = .ok (.ireturn, 1) := by decide +kernel
theorem d_BF_frame_0 : decode prog_1_method_3_code 0 = .ok (.aload_n 0, 1) := by decide +kernel
theorem d_BF_frame_1 : decode prog_1_method_3_code 1 = .ok (.aload_n 0, 1) := by decide +kernel
theorem d_BF_frame_2 : decode prog_1_method_3_code 2 = .ok (.getfield 18, 3) := by decide +kernel
theorem d_BF_frame_5 : decode prog_1_method_3_code 5 = .ok (.iload_n 1, 1) := by decide +kernel
theorem d_BF_frame_6 : decode prog_1_method_3_code 6 = .ok (.iload_n 2, 1) := by decide +kernel
theorem d_BF_frame_7 : decode prog_1_method_3_code 7 = .ok (.iload_n 3, 1) := by decide +kernel
theorem d_BF_frame_8 : decode prog_1_method_3_code 8 = .ok (.iload 4, 2) := by decide +kernel
theorem d_BF_frame_10 : decode prog_1_method_3_code 10 = .ok (.invokevirtual 72, 3) := by decide +kernel
theorem d_BF_frame_13 : decode prog_1_method_3_code 13 = .ok (.ireturn, 1) := by decide +kernel
theorem d_BF_find_0 : decode prog_1_method_4_code 0 = .ok (.aload_n 0, 1) := by decide +kernel
theorem d_BF_find_1 : decode prog_1_method_4_code 1 = .ok (.aload_n 0, 1) := by decide +kernel
theorem d_BF_find_2 : decode prog_1_method_4_code 2 = .ok (.getfield 24, 3) := by decide +kernel
theorem d_BF_find_5 : decode prog_1_method_4_code 5 = .ok (.iconst 0, 1) := by decide +kernel
theorem d_BF_find_6 : decode prog_1_method_4_code 6 = .ok (.invokevirtual 76, 3) := by decide +kernel
theorem d_BF_find_9 : decode prog_1_method_4_code 9 = .ok (.aload_n 0, 1) := by decide +kernel
theorem d_BF_find_10 : decode prog_1_method_4_code 10 = .ok (.aload_n 0, 1) := by decide +kernel
theorem d_BF_find_11 : decode prog_1_method_4_code 11 = .ok (.getfield 28, 3) := by decide +kernel
theorem d_BF_find_14 : decode prog_1_method_4_code 14 = .ok (.iconst 1, 1) := by decide +kernel
theorem d_BF_find_15 : decode prog_1_method_4_code 15 = .ok (.invokevirtual 76, 3) := by decide +kernel
theorem d_BF_find_18 : decode prog_1_method_4_code 18 = .ok (.aload_n 0, 1) := by decide +kernel
theorem d_BF_find_19 : decode prog_1_method_4_code 19 = .ok (.aload_n 0, 1) := by decide +kernel
theorem d_BF_find_20 : decode prog_1_method_4_code 20 = .ok (.getfield 28, 3) := by decide +kernel
theorem d_BF_find_23 : decode prog_1_method_4_code 23 = .ok (.getfield 80, 3) := by decide +kernel
theorem d_BF_find_26 : decode prog_1_method_4_code 26 = .ok (.aload_n 0, 1) := by decide +kernel
theorem d_BF_find_27 : decode prog_1_method_4_code 27 = .ok (.getfield 24, 3) := by decide +kernel
theorem d_BF_find_30 : decode prog_1_method_4_code 30 = .ok (.getfield 80, 3) := by decide +kernel
theorem d_BF_find_33 : decode prog_1_method_4_code 33 = .ok (.if_icmp .ge 7, 3) := by decide +kernel
theorem d_BF_find_36 : decode prog_1_method_4_code 36 = .ok (.iconst 1, 1) := by decide +kernel
theorem d_BF_find_37 : decode prog_1_method_4_code 37 = .ok (.goto 4, 3) := by decide +kernel
theorem d_BF_find_40 : decode prog_1_method_4_code 40 = .ok (.iconst 0, 1) := by decide +kernel
theorem d_BF_find_41 : decode prog_1_method_4_code 41 = .ok (.putfield 57, 3) := by decide +kernel
theorem d_BF_find_44 : decode prog_1_method_4_code 44 = .ok (.aload_n 0, 1) := by decide +kernel
theorem d_BF_find_45 : decode prog_1_method_4_code 45 = .ok (.getfield 37, 3) := by decide +kernel
theorem d_BF_find_48 : decode prog_1_method_4_code 48 = .ok (.aload_n 0, 1) := by decide +kernel
theorem d_BF_find_49 : decode prog_1_method_4_code 49 = .ok (.getfield 14, 3) := by decide +kernel
theorem d_BF_find_52 : decode prog_1_method_4_code 52 = .ok (.aload_n 0, 1) := by decide +kernel
theorem d_BF_find_53 : decode prog_1_method_4_code 53 = .ok (.getfield 57, 3) := by decide +kernel
theorem d_BF_find_56 : decode prog_1_method_4_code 56 = .ok (.ifCond .eq 10, 3) := by decide +kernel
theorem d_BF_find_59 : decode prog_1_method_4_code 59 = .ok (.aload_n 0, 1) := by decide +kernel
theorem d_BF_find_60 : decode prog_1_method_4_code 60 = .ok (.getfield 28, 3) := by decide +kernel
theorem d_BF_find_63 : decode prog_1_method_4_code 63 = .ok (.goto 7, 3) := by decide +kernel
theorem d_BF_find_66 : decode prog_1_method_4_code 66 = .ok (.aload_n 0, 1) := by decide +kernel
theorem d_BF_find_67 : decode prog_1_method_4_code 67 = .ok (.getfield 24, 3) := by decide +kernel
theorem d_BF_find_70 : decode prog_1_method_4_code 70 = .ok (.invokevirtual 83, 3) := by decide +kernel
theorem d_BF_find_73 : decode prog_1_method_4_code 73 = .ok (.aload_n 0, 1) := by decide +kernel
theorem d_BF_find_74 : decode prog_1_method_4_code 74 = .ok (.invokevirtual 87, 3) := by decide +kernel
theorem d_BF_find_77 : decode prog_1_method_4_code 77 = .ok (.aload_n 0, 1) := by decide +kernel
theorem d_BF_find_78 : decode prog_1_method_4_code 78 = .ok (.getfield 41, 3) := by decide +kernel
theorem d_BF_find_81 : decode prog_1_method_4_code 81 = .ok (.aload_n 0, 1) := by decide +kernel
theorem d_BF_find_82 : decode prog_1_method_4_code 82 = .ok (.getfield 37, 3) := by decide +kernel
theorem d_BF_find_85 : decode prog_1_method_4_code 85 = .ok (.getfield 90, 3) := by decide +kernel
theorem d_BF_find_88 : decode prog_1_method_4_code 88 = .ok (.aload_n 0, 1) := by decide +kernel
theorem d_BF_find_89 : decode prog_1_method_4_code 89 = .ok (.getfield 31, 3) := by decide +kernel
theorem d_BF_find_92 : decode prog_1_method_4_code 92 = .ok (.invokevirtual 83, 3) := by decide +kernel
theorem d_BF_find_95 : decode prog_1_method_4_code 95 = .ok (.aload_n 0, 1) := by decide +kernel
theorem d_BF_find_96 : decode prog_1_method_4_code 96 = .ok (.invokevirtual 93, 3) := by decide +kernel
theorem d_BF_find_99 : decode prog_1_method_4_code 99 = .ok (.iconst 0, 1) := by decide +kernel
theorem d_BF_find_100 : decode prog_1_method_4_code 100 = .ok (.istore_n 1, 1) := by decide +kernel
theorem d_BF_find_101 : decode prog_1_method_4_code 101 = .ok (.iload_n 1, 1) := by decide +kernel
theorem d_BF_find_102 : decode prog_1_method_4_code 102 = .ok (.aload_n 0, 1) := by decide +kernel
theorem d_BF_find_103 : decode prog_1_method_4_code 103 = .ok (.getfield 41, 3) := by decide +kernel
theorem d_BF_find_106 : decode prog_1_method_4_code 106 = .ok (.invokevirtual 96, 3) := by decide +kernel
theorem d_BF_find_109 : decode prog_1_method_4_code 109 = .ok (.if_icmp .ge 23, 3) := by decide +kernel
theorem d_BF_find_112 : decode prog_1_method_4_code 112 = .ok (.aload_n 0, 1) := by decide +kernel
theorem d_BF_find_113 : decode prog_1_method_4_code 113 = .ok (.getfield 41, 3) := by decide +kernel
theorem d_BF_find_116 : decode prog_1_method_4_code 116 = .ok (.getfield 100, 3) := by decide +kernel
theorem d_BF_find_119 : decode prog_1_method_4_code 119 = .ok (.iload_n 1, 1) := by decide +kernel
theorem d_BF_find_120 : decode prog_1_method_4_code 120 = .ok (.aload_n 0, 1) := by decide +kernel
theorem d_BF_find_121 : decode prog_1_method_4_code 121 = .ok (.iload_n 1, 1) := by decide +kernel
theorem d_BF_find_122 : decode prog_1_method_4_code 122 = .ok (.invokevirtual 103, 3) := by decide +kernel
theorem d_BF_find_125 : decode prog_1_method_4_code 125 = .ok (.iastore, 1) := by decide +kernel
theorem d_BF_find_126 : decode prog_1_method_4_code 126 = .ok (.iinc 1 1, 3) := by decide +kernel
theorem d_BF_find_129 : decode prog_1_method_4_code 129 = .ok (.goto (-28), 3) := by decide +kernel
theorem d_BF_find_132 : decode prog_1_method_4_code 132 = .ok (.aload_n 0, 1) := by decide +kernel
theorem d_BF_find_133 : decode prog_1_method_4_code 133 = .ok (.getfield 37, 3) := by decide +kernel
theorem d_BF_find_136 : decode prog_1_method_4_code 136 = .ok (.aload_n 0, 1) := by decide +kernel
theorem d_BF_find_137 : decode prog_1_method_4_code 137 = .ok (.getfield 57, 3) := by decide +kernel
theorem d_BF_find_140 : decode prog_1_method_4_code 140 = .ok (.invokevirtual 106, 3) := by decide +kernel
theorem d_BF_find_143 : decode prog_1_method_4_code 143 = .ok (.aload_n 0, 1) := by decide +kernel
theorem d_BF_find_144 : decode prog_1_method_4_code 144 = .ok (.getfield 41, 3) := by decide +kernel
theorem d_BF_find_147 : decode prog_1_method_4_code 147 = .ok (.aload_n 0, 1) := by decide +kernel
theorem d_BF_find_148 : decode prog_1_method_4_code 148 = .ok (.getfield 57, 3) := by decide +kernel
theorem d_BF_find_151 : decode prog_1_method_4_code 151 = .ok (.invokevirtual 106, 3) := by decide +kernel
theorem d_BF_find_154 : decode prog_1_method_4_code 154 = .ok (.iconst 0, 1) := by decide +kernel
theorem d_BF_find_155 : decode prog_1_method_4_code 155 = .ok (.istore_n 1, 1) := by decide +kernel
theorem d_BF_find_156 : decode prog_1_method_4_code 156 = .ok (.iload_n 1, 1) := by decide +kernel
theorem d_BF_find_157 : decode prog_1_method_4_code 157 = .ok (.aload_n 0, 1) := by decide +kernel
theorem d_BF_find_158 : decode prog_1_method_4_code 158 = .ok (.getfield 14, 3) := by decide +kernel
theorem d_BF_find_161 : decode prog_1_method_4_code 161 = .ok (.getfield 110, 3) := by decide +kernel
theorem d_BF_find_164 : decode prog_1_method_4_code 164 = .ok (.if_icmp .ge 28, 3) := by decide +kernel
theorem d_BF_find_167 : decode prog_1_method_4_code 167 = .ok (.aload_n 0, 1) := by decide +kernel
theorem d_BF_find_168 : decode prog_1_method_4_code 168 = .ok (.getfield 54, 3) := by decide +kernel
theorem d_BF_find_171 : decode prog_1_method_4_code 171 = .ok (.iload_n 1, 1) := by decide +kernel
theorem d_BF_find_172 : decode prog_1_method_4_code 172 = .ok (.aload_n 0, 1) := by decide +kernel
theorem d_BF_find_173 : decode prog_1_method_4_code 173 = .ok (.getfield 41, 3) := by decide +kernel
theorem d_BF_find_176 : decode prog_1_method_4_code 176 = .ok (.getfield 111, 3) := by decide +kernel
theorem d_BF_find_179 : decode prog_1_method_4_code 179 = .ok (.aload_n 0, 1) := by decide +kernel
theorem d_BF_find_180 : decode prog_1_method_4_code 180 = .ok (.iload_n 1, 1) := by decide +kernel
theorem d_BF_find_181 : decode prog_1_method_4_code 181 = .ok (.invokevirtual 114, 3) := by decide +kernel
theorem d_BF_find_184 : decode prog_1_method_4_code 184 = .ok (.iaload, 1) := by decide +kernel
theorem d_BF_find_185 : decode prog_1_method_4_code 185 = .ok (.iastore, 1) := by decide +kernel
theorem d_BF_find_186 : decode prog_1_method_4_code 186 = .ok (.iinc 1 1, 3) := by decide +kernel
theorem d_BF_find_189 : decode prog_1_method_4_code 189 = .ok (.goto (-33), 3) := by decide +kernel
theorem d_BF_find_192 : decode prog_1_method_4_code 192 = .ok (.aload_n 0, 1) := by decide +kernel
theorem d_BF_find_193 : decode prog_1_method_4_code 193 = .ok (.getfield 41, 3) := by decide +kernel
theorem d_BF_find_196 : decode prog_1_method_4_code 196 = .ok (.invokevirtual 96, 3) := by decide +kernel
theorem d_BF_find_199 : decode prog_1_method_4_code 199 = .ok (.ireturn, 1) := by decide +kernel
theorem d_BF_block_0 : decode prog_1_method_5_code 0 = .ok (.aload_n 0, 1) := by decide +kernel
theorem d_BF_block_1 : decode prog_1_method_5_code 1 = .ok (.getfield 41, 3) := by decide +kernel
theorem d_BF_block_4 : decode prog_1_method_5_code 4 = .ok (.iload_n 1, 1) := by decide +kernel
theorem d_BF_block_5 : decode prog_1_method_5_code 5 = .ok (.invokevirtual 117, 3) := by decide +kernel
theorem d_BF_block_8 : decode prog_1_method_5_code 8 = .ok (.ifCond .ne 6, 3) := by decide +kernel
theorem d_BF_block_11 : decode prog_1_method_5_code 11 = .ok (.bipush (-11), 2) := by decide +kernel
theorem d_BF_block_13 : decode prog_1_method_5_code 13 = .ok (.ireturn, 1) := by decide +kernel
theorem d_BF_block_14 : decode prog_1_method_5_code 14 = .ok (.iload_n 2, 1) := by decide +kernel
theorem d_BF_block_15 : decode prog_1_method_5_code 15 = .ok (.invokestatic 121, 3) := by decide +kernel
theorem d_BF_block_18 : decode prog_1_method_5_code 18 = .ok (.ifCond .ne 6, 3) := by decide +kernel
theorem d_BF_block_21 : decode prog_1_method_5_code 21 = .ok (.bipush (-12), 2) := by decide +kernel
theorem d_BF_block_23 : decode prog_1_method_5_code 23 = .ok (.ireturn, 1) := by decide +kernel
theorem d_BF_block_24 : decode prog_1_method_5_code 24 = .ok (.aload_n 0, 1) := by decide +kernel
theorem d_BF_block_25 : decode prog_1_method_5_code 25 = .ok (.getfield 41, 3) := by decide +kernel
theorem d_BF_block_28 : decode prog_1_method_5_code 28 = .ok (.getfield 124, 3) := by decide +kernel
theorem d_BF_block_31 : decode prog_1_method_5_code 31 = .ok (.iload_n 1, 1) := by decide +kernel
theorem d_BF_block_32 : decode prog_1_method_5_code 32 = .ok (.iaload, 1) := by decide +kernel
theorem d_BF_block_33 : decode prog_1_method_5_code 33 = .ok (.istore_n 3, 1) := by decide +kernel
theorem d_BF_block_34 : decode prog_1_method_5_code 34 = .ok (.iload_n 2, 1) := by decide +kernel
theorem d_BF_block_35 : decode prog_1_method_5_code 35 = .ok (.lookupswitch 42 #[(4, 25), (5, 35)], 25) := by decide +kernel
theorem d_BF_block_60 : decode prog_1_method_5_code 60 = .ok (.aload_n 0, 1) := by decide +kernel
theorem d_BF_block_61 : decode prog_1_method_5_code 61 = .ok (.getfield 41, 3) := by decide +kernel
theorem d_BF_block_64 : decode prog_1_method_5_code 64 = .ok (.getfield 127, 3) := by decide +kernel
theorem d_BF_block_67 : decode prog_1_method_5_code 67 = .ok (.iload_n 3, 1) := by decide +kernel
theorem d_BF_block_68 : decode prog_1_method_5_code 68 = .ok (.iaload, 1) := by decide +kernel
theorem d_BF_block_69 : decode prog_1_method_5_code 69 = .ok (.ireturn, 1) := by decide +kernel
theorem d_BF_block_70 : decode prog_1_method_5_code 70 = .ok (.aload_n 0, 1) := by decide +kernel
theorem d_BF_block_71 : decode prog_1_method_5_code 71 = .ok (.getfield 44, 3) := by decide +kernel
theorem d_BF_block_74 : decode prog_1_method_5_code 74 = .ok (.iload_n 3, 1) := by decide +kernel
theorem d_BF_block_75 : decode prog_1_method_5_code 75 = .ok (.iaload, 1) := by decide +kernel
theorem d_BF_block_76 : decode prog_1_method_5_code 76 = .ok (.ireturn, 1) := by decide +kernel
theorem d_BF_block_77 : decode prog_1_method_5_code 77 = .ok (.aload_n 0, 1) := by decide +kernel
theorem d_BF_block_78 : decode prog_1_method_5_code 78 = .ok (.getfield 41, 3) := by decide +kernel
theorem d_BF_block_81 : decode prog_1_method_5_code 81 = .ok (.getfield 90, 3) := by decide +kernel
theorem d_BF_block_84 : decode prog_1_method_5_code 84 = .ok (.iload_n 3, 1) := by decide +kernel
theorem d_BF_block_85 : decode prog_1_method_5_code 85 = .ok (.iload_n 2, 1) := by decide +kernel
theorem d_BF_block_86 : decode prog_1_method_5_code 86 = .ok (.invokevirtual 130, 3) := by decide +kernel
theorem d_BF_block_89 : decode prog_1_method_5_code 89 = .ok (.ireturn, 1) := by decide +kernel
theorem d_BF_line_0 : decode prog_1_method_6_code 0 = .ok (.aload_n 0, 1) := by decide +kernel
theorem d_BF_line_1 : decode prog_1_method_6_code 1 = .ok (.getfield 41, 3) := by decide +kernel
theorem d_BF_line_4 : decode prog_1_method_6_code 4 = .ok (.iload_n 1, 1) := by decide +kernel
theorem d_BF_line_5 : decode prog_1_method_6_code 5 = .ok (.invokevirtual 117, 3) := by decide +kernel
theorem d_BF_line_8 : decode prog_1_method_6_code 8 = .ok (.ifCond .ne 6, 3) := by decide +kernel
theorem d_BF_line_11 : decode prog_1_method_6_code 11 = .ok (.bipush (-11), 2) := by decide +kernel
theorem d_BF_line_13 : decode prog_1_method_6_code 13 = .ok (.ireturn, 1) := by decide +kernel
theorem d_BF_line_14 : decode prog_1_method_6_code 14 = .ok (.iload_n 3, 1) := by decide +kernel
theorem d_BF_line_15 : decode prog_1_method_6_code 15 = .ok (.invokestatic 121, 3) := by decide +kernel
theorem d_BF_line_18 : decode prog_1_method_6_code 18 = .ok (.ifCond .ne 6, 3) := by decide +kernel
theorem d_BF_line_21 : decode prog_1_method_6_code 21 = .ok (.bipush (-12), 2) := by decide +kernel
theorem d_BF_line_23 : decode prog_1_method_6_code 23 = .ok (.ireturn, 1) := by decide +kernel
theorem d_BF_line_24 : decode prog_1_method_6_code 24 = .ok (.aload_n 0, 1) := by decide +kernel
theorem d_BF_line_25 : decode prog_1_method_6_code 25 = .ok (.aload_n 0, 1) := by decide +kernel
theorem d_BF_line_26 : decode prog_1_method_6_code 26 = .ok (.getfield 41, 3) := by decide +kernel
theorem d_BF_line_29 : decode prog_1_method_6_code 29 = .ok (.getfield 124, 3) := by decide +kernel
theorem d_BF_line_32 : decode prog_1_method_6_code 32 = .ok (.iload_n 1, 1) := by decide +kernel
theorem d_BF_line_33 : decode prog_1_method_6_code 33 = .ok (.iaload, 1) := by decide +kernel
theorem d_BF_line_34 : decode prog_1_method_6_code 34 = .ok (.iload_n 2, 1) := by decide +kernel
theorem d_BF_line_35 : decode prog_1_method_6_code 35 = .ok (.invokevirtual 134, 3) := by decide +kernel
theorem d_BF_line_38 : decode prog_1_method_6_code 38 = .ok (.istore 4, 2) := by decide +kernel
theorem d_BF_line_40 : decode prog_1_method_6_code 40 = .ok (.iload 4, 2) := by decide +kernel
theorem d_BF_line_42 : decode prog_1_method_6_code 42 = .ok (.ifCond .ge 5, 3) := by decide +kernel
theorem d_BF_line_45 : decode prog_1_method_6_code 45 = .ok (.iconst (-1), 1) := by decide +kernel
theorem d_BF_line_46 : decode prog_1_method_6_code 46 = .ok (.ireturn, 1) := by decide +kernel
theorem d_BF_line_47 : decode prog_1_method_6_code 47 = .ok (.iload_n 3, 1) := by decide +kernel
theorem d_BF_line_48 : decode prog_1_method_6_code 48 = .ok (.lookupswitch 50 #[(4, 28), (5, 39)], 28) := by decide +kernel
theorem d_BF_line_76 : decode prog_1_method_6_code 76 = .ok (.aload_n 0, 1) := by decide +kernel
theorem d_BF_line_77 : decode prog_1_method_6_code 77 = .ok (.getfield 37, 3) := by decide +kernel
theorem d_BF_line_80 : decode prog_1_method_6_code 80 = .ok (.getfield 127, 3) := by decide +kernel
theorem d_BF_line_83 : decode prog_1_method_6_code 83 = .ok (.iload 4, 2) := by decide +kernel
theorem d_BF_line_85 : decode prog_1_method_6_code 85 = .ok (.iaload, 1) := by decide +kernel
theorem d_BF_line_86 : decode prog_1_method_6_code 86 = .ok (.ireturn, 1) := by decide +kernel
theorem d_BF_line_87 : decode prog_1_method_6_code 87 = .ok (.aload_n 0, 1) := by decide +kernel
theorem d_BF_line_88 : decode prog_1_method_6_code 88 = .ok (.getfield 37, 3) := by decide +kernel
theorem d_BF_line_91 : decode prog_1_method_6_code 91 = .ok (.getfield 137, 3) := by decide +kernel
theorem d_BF_line_94 : decode prog_1_method_6_code 94 = .ok (.iload 4, 2) := by decide +kernel
theorem d_BF_line_96 : decode prog_1_method_6_code 96 = .ok (.iaload, 1) := by decide +kernel
theorem d_BF_line_97 : decode prog_1_method_6_code 97 = .ok (.ireturn, 1) := by decide +kernel
theorem d_BF_line_98 : decode prog_1_method_6_code 98 = .ok (.aload_n 0, 1) := by decide +kernel
theorem d_BF_line_99 : decode prog_1_method_6_code 99 = .ok (.getfield 37, 3) := by decide +kernel
theorem d_BF_line_102 : decode prog_1_method_6_code 102 = .ok (.getfield 90, 3) := by decide +kernel
theorem d_BF_line_105 : decode prog_1_method_6_code 105 = .ok (.iload 4, 2) := by decide +kernel
theorem d_BF_line_107 : decode prog_1_method_6_code 107 = .ok (.iload_n 3, 1) := by decide +kernel
theorem d_BF_line_108 : decode prog_1_method_6_code 108 = .ok (.invokevirtual 130, 3) := by decide +kernel
theorem d_BF_line_111 : decode prog_1_method_6_code 111 = .ok (.ireturn, 1) := by decide +kernel
theorem d_BF_points_0 : decode prog_1_method_7_code 0 = .ok (.aload_n 0, 1) := by decide +kernel
theorem d_BF_points_1 : decode prog_1_method_7_code 1 = .ok (.getfield 41, 3) := by decide +kernel
theorem d_BF_points_4 : decode prog_1_method_7_code 4 = .ok (.iload_n 1, 1) := by decide +kernel
theorem d_BF_points_5 : decode prog_1_method_7_code 5 = .ok (.invokevirtual 117, 3) := by decide +kernel
theorem d_BF_points_8 : decode prog_1_method_7_code 8 = .ok (.ifCond .eq 23, 3) := by decide +kernel
theorem d_BF_points_11 : decode prog_1_method_7_code 11 = .ok (.aload_n 0, 1) := by decide +kernel
theorem d_BF_points_12 : decode prog_1_method_7_code 12 = .ok (.getfield 41, 3) := by decide +kernel
theorem d_BF_points_15 : decode prog_1_method_7_code 15 = .ok (.getfield 100, 3) := by decide +kernel
theorem d_BF_points_18 : decode prog_1_method_7_code 18 = .ok (.aload_n 0, 1) := by decide +kernel
theorem d_BF_points_19 : decode prog_1_method_7_code 19 = .ok (.getfield 41, 3) := by decide +kernel
theorem d_BF_points_22 : decode prog_1_method_7_code 22 = .ok (.getfield 124, 3) := by decide +kernel
theorem d_BF_points_25 : decode prog_1_method_7_code 25 = .ok (.iload_n 1, 1) := by decide +kernel
theorem d_BF_points_26 : decode prog_1_method_7_code 26 = .ok (.iaload, 1) := by decide +kernel
theorem d_BF_points_27 : decode prog_1_method_7_code 27 = .ok (.iaload, 1) := by decide +kernel
theorem d_BF_points_28 : decode prog_1_method_7_code 28 = .ok (.goto 5, 3) := by decide +kernel
theorem d_BF_points_31 : decode prog_1_method_7_code 31 = .ok (.bipush (-11), 2) := by decide +kernel
theorem d_BF_points_33 : decode prog_1_method_7_code 33 = .ok (.ireturn, 1) := by decide +kernel
theorem d_BF_printed_0 : decode prog_1_method_8_code 0 = .ok (.aload_n 0, 1) := by decide +kernel
theorem d_BF_printed_1 : decode prog_1_method_8_code 1 = .ok (.getfield 41, 3) := by decide +kernel
theorem d_BF_printed_4 : decode prog_1_method_8_code 4 = .ok (.iload_n 1, 1) := by decide +kernel
theorem d_BF_printed_5 : decode prog_1_method_8_code 5 = .ok (.invokevirtual 117, 3) := by decide +kernel
theorem d_BF_printed_8 : decode prog_1_method_8_code 8 = .ok (.ifCond .ne 5, 3) := by decide +kernel
theorem d_BF_printed_11 : decode prog_1_method_8_code 11 = .ok (.iconst 0, 1) := by decide +kernel
theorem d_BF_printed_12 : decode prog_1_method_8_code 12 = .ok (.ireturn, 1) := by decide +kernel
theorem d_BF_printed_13 : decode prog_1_method_8_code 13 = .ok (.aload_n 0, 1) := by decide +kernel
theorem d_BF_printed_14 : decode prog_1_method_8_code 14 = .ok (.getfield 41, 3) := by decide +kernel
theorem d_BF_printed_17 : decode prog_1_method_8_code 17 = .ok (.getfield 124, 3) := by decide +kernel
theorem d_BF_printed_20 : decode prog_1_method_8_code 20 = .ok (.iload_n 1, 1) := by decide +kernel
theorem d_BF_printed_21 : decode prog_1_method_8_code 21 = .ok (.iaload, 1) := by decide +kernel
theorem d_BF_printed_22 : decode prog_1_method_8_code 22 = .ok (.istore_n 2, 1) := by decide +kernel
theorem d_BF_printed_23 : decode prog_1_method_8_code 23 = .ok (.iconst 4, 1) := by decide +kernel
theorem d_BF_printed_24 : decode prog_1_method_8_code 24 = .ok (.aload_n 0, 1) := by decide +kernel
theorem d_BF_printed_25 : decode prog_1_method_8_code 25 = .ok (.getfield 48, 3) := by decide +kernel
theorem d_BF_printed_28 : decode prog_1_method_8_code 28 = .ok (.iload_n 2, 1) := by decide +kernel
theorem d_BF_printed_29 : decode prog_1_method_8_code 29 = .ok (.iaload, 1) := by decide +kernel
theorem d_BF_printed_30 : decode prog_1_method_8_code 30 = .ok (.aload_n 0, 1) := by decide +kernel
theorem d_BF_printed_31 : decode prog_1_method_8_code 31 = .ok (.getfield 51, 3) := by decide +kernel
theorem d_BF_printed_34 : decode prog_1_method_8_code 34 = .ok (.iload_n 2, 1) := by decide +kernel
theorem d_BF_printed_35 : decode prog_1_method_8_code 35 = .ok (.iaload, 1) := by decide +kernel
theorem d_BF_printed_36 : decode prog_1_method_8_code 36 = .ok (.isub, 1) := by decide +kernel
theorem d_BF_printed_37 : decode prog_1_method_8_code 37 = .ok (.imul, 1) := by decide +kernel
theorem d_BF_printed_38 : decode prog_1_method_8_code 38 = .ok (.aload_n 0, 1) := by decide +kernel
theorem d_BF_printed_39 : decode prog_1_method_8_code 39 = .ok (.getfield 48, 3) := by decide +kernel
theorem d_BF_printed_42 : decode prog_1_method_8_code 42 = .ok (.iload_n 2, 1) := by decide +kernel
theorem d_BF_printed_43 : decode prog_1_method_8_code 43 = .ok (.iaload, 1) := by decide +kernel
theorem d_BF_printed_44 : decode prog_1_method_8_code 44 = .ok (.if_icmp .gt 7, 3) := by decide +kernel
theorem d_BF_printed_47 : decode prog_1_method_8_code 47 = .ok (.iconst 1, 1) := by decide +kernel
theorem d_BF_printed_48 : decode prog_1_method_8_code 48 = .ok (.goto 4, 3) := by decide +kernel
theorem d_BF_printed_51 : decode prog_1_method_8_code 51 = .ok (.iconst 0, 1) := by decide +kernel
theorem d_BF_printed_52 : decode prog_1_method_8_code 52 = .ok (.ireturn, 1) := by decide +kernel
theorem d_BF_turned_0 : decode prog_1_method_9_code 0 = .ok (.aload_n 0, 1) := by decide +kernel
theorem d_BF_turned_1 : decode prog_1_method_9_code 1 = .ok (.getfield 57, 3) := by decide +kernel
theorem d_BF_turned_4 : decode prog_1_method_9_code 4 = .ok (.ireturn, 1) := by decide +kernel
theorem d_BF_blockOf_0 : decode prog_1_method_10_code 0 = .ok (.aload_n 0, 1) := by decide +kernel
theorem d_BF_blockOf_1 : decode prog_1_method_10_code 1 = .ok (.getfield 14, 3) := by decide +kernel
theorem d_BF_blockOf_4 : decode prog_1_method_10_code 4 = .ok (.iload_n 1, 1) := by decide +kernel
theorem d_BF_blockOf_5 : decode prog_1_method_10_code 5 = .ok (.invokevirtual 140, 3) := by decide +kernel
theorem d_BF_blockOf_8 : decode prog_1_method_10_code 8 = .ok (.ifCond .eq 12, 3) := by decide +kernel
theorem d_BF_blockOf_11 : decode prog_1_method_10_code 11 = .ok (.aload_n 0, 1) := by decide +kernel
theorem d_BF_blockOf_12 : decode prog_1_method_10_code 12 = .ok (.getfield 54, 3) := by decide +kernel
theorem d_BF_blockOf_15 : decode prog_1_method_10_code 15 = .ok (.iload_n 1, 1) := by decide +kernel
theorem d_BF_blockOf_16 : decode prog_1_method_10_code 16 = .ok (.iaload, 1) := by decide +kernel
theorem d_BF_blockOf_17 : decode prog_1_method_10_code 17 = .ok (.goto 5, 3) := by decide +kernel
theorem d_BF_blockOf_20 : decode prog_1_method_10_code 20 = .ok (.bipush (-11), 2) := by decide +kernel
theorem d_BF_blockOf_22 : decode prog_1_method_10_code 22 = .ok (.ireturn, 1) := by decide +kernel
theorem d_BF_candidates_0 : decode prog_1_method_11_code 0 = .ok (.iconst 0, 1) := by decide +kernel
theorem d_BF_candidates_1 : decode prog_1_method_11_code 1 = .ok (.istore_n 1, 1) := by decide +kernel
theorem d_BF_candidates_2 : decode prog_1_method_11_code 2 = .ok (.iconst 0, 1) := by decide +kernel
theorem d_BF_candidates_3 : decode prog_1_method_11_code 3 = .ok (.istore_n 2, 1) := by decide +kernel
theorem d_BF_candidates_4 : decode prog_1_method_11_code 4 = .ok (.iload_n 2, 1) := by decide +kernel
theorem d_BF_candidates_5 : decode prog_1_method_11_code 5 = .ok (.aload_n 0, 1) := by decide +kernel
theorem d_BF_candidates_6 : decode prog_1_method_11_code 6 = .ok (.getfield 41, 3) := by decide +kernel
theorem d_BF_candidates_9 : decode prog_1_method_11_code 9 = .ok (.invokevirtual 96, 3) := by decide +kernel
theorem d_BF_candidates_12 : decode prog_1_method_11_code 12 = .ok (.if_icmp .ge 24, 3) := by decide +kernel
theorem d_BF_candidates_15 : decode prog_1_method_11_code 15 = .ok (.aload_n 0, 1) := by decide +kernel
theorem d_BF_candidates_16 : decode prog_1_method_11_code 16 = .ok (.getfield 41, 3) := by decide +kernel
theorem d_BF_candidates_19 : decode prog_1_method_11_code 19 = .ok (.getfield 100, 3) := by decide +kernel
theorem d_BF_candidates_22 : decode prog_1_method_11_code 22 = .ok (.iload_n 2, 1) := by decide +kernel
theorem d_BF_candidates_23 : decode prog_1_method_11_code 23 = .ok (.iaload, 1) := by decide +kernel
theorem d_BF_candidates_24 : decode prog_1_method_11_code 24 = .ok (.ifCond .le 6, 3) := by decide +kernel
theorem d_BF_candidates_27 : decode prog_1_method_11_code 27 = .ok (.iinc 1 1, 3) := by decide +kernel
theorem d_BF_candidates_30 : decode prog_1_method_11_code 30 = .ok (.iinc 2 1, 3) := by decide +kernel
theorem d_BF_candidates_33 : decode prog_1_method_11_code 33 = .ok (.goto (-29), 3) := by decide +kernel
theorem d_BF_candidates_36 : decode prog_1_method_11_code 36 = .ok (.iload_n 1, 1) := by decide +kernel
theorem d_BF_candidates_37 : decode prog_1_method_11_code 37 = .ok (.ireturn, 1) := by decide +kernel
theorem d_BF_clear_0 : decode prog_1_method_12_code 0 = .ok (.aload_n 0, 1) := by decide +kernel
theorem d_BF_clear_1 : decode prog_1_method_12_code 1 = .ok (.getfield 14, 3) := by decide +kernel
theorem d_BF_clear_4 : decode prog_1_method_12_code 4 = .ok (.getfield 110, 3) := by decide +kernel
theorem d_BF_clear_7 : decode prog_1_method_12_code 7 = .ok (.istore_n 1, 1) := by decide +kernel
theorem d_BF_clear_8 : decode prog_1_method_12_code 8 = .ok (.aload_n 0, 1) := by decide +kernel
theorem d_BF_clear_9 : decode prog_1_method_12_code 9 = .ok (.getfield 14, 3) := by decide +kernel
theorem d_BF_clear_12 : decode prog_1_method_12_code 12 = .ok (.iconst 0, 1) := by decide +kernel
theorem d_BF_clear_13 : decode prog_1_method_12_code 13 = .ok (.putfield 110, 3) := by decide +kernel
theorem d_BF_clear_16 : decode prog_1_method_12_code 16 = .ok (.iload_n 1, 1) := by decide +kernel
theorem d_BF_clear_17 : decode prog_1_method_12_code 17 = .ok (.ireturn, 1) := by decide +kernel
theorem d_BF_nearestSide_0 : decode prog_1_method_13_code 0 = .ok (.iconst 1, 1) := by decide +kernel
theorem d_BF_nearestSide_1 : decode prog_1_method_13_code 1 = .ok (.sipush 4096, 3) := by decide +kernel
theorem d_BF_nearestSide_4 : decode prog_1_method_13_code 4 = .ok (.iload_n 0, 1) := by decide +kernel
theorem d_BF_nearestSide_5 : decode prog_1_method_13_code 5 = .ok (.invokestatic 141, 3) := by decide +kernel
theorem d_BF_nearestSide_8 : decode prog_1_method_13_code 8 = .ok (.invokestatic 146, 3) := by decide +kernel
theorem d_BF_nearestSide_11 : decode prog_1_method_13_code 11 = .ok (.ireturn, 1) := by decide +kernel
theorem d_BF_isDetail_0 : decode prog_1_method_14_code 0 = .ok (.iload_n 0, 1) := by decide +kernel
theorem d_BF_isDetail_1 : decode prog_1_method_14_code 1 = .ok (.ifCond .lt 12, 3) := by decide +kernel
theorem d_BF_isDetail_4 : decode prog_1_method_14_code 4 = .ok (.iload_n 0, 1) := by decide +kernel
theorem d_BF_isDetail_5 : decode prog_1_method_14_code 5 = .ok (.iconst 5, 1) := by decide +kernel
theorem d_BF_isDetail_6 : decode prog_1_method_14_code 6 = .ok (.if_icmp .gt 7, 3) := by decide +kernel
theorem d_BF_isDetail_9 : decode prog_1_method_14_code 9 = .ok (.iconst 1, 1) := by decide +kernel
theorem d_BF_isDetail_10 : decode prog_1_method_14_code 10 = .ok (.goto 4, 3) := by decide +kernel
theorem d_BF_isDetail_13 : decode prog_1_method_14_code 13 = .ok (.iconst 0, 1) := by decide +kernel
theorem d_BF_isDetail_14 : decode prog_1_method_14_code 14 = .ok (.ireturn, 1) := by decide +kernel
theorem d_BF_addTo_0 : decode prog_1_method_15_code 0 = .ok (.aload_n 0, 1) := by decide +kernel
theorem d_BF_addTo_1 : decode prog_1_method_15_code 1 = .ok (.iload_n 2, 1) := by decide +kernel
theorem d_BF_addTo_2 : decode prog_1_method_15_code 2 = .ok (.iload_n 3, 1) := by decide +kernel
theorem d_BF_addTo_3 : decode prog_1_method_15_code 3 = .ok (.iload 4, 2) := by decide +kernel
theorem d_BF_addTo_5 : decode prog_1_method_15_code 5 = .ok (.iload 5, 2) := by decide +kernel
theorem d_BF_addTo_7 : decode prog_1_method_15_code 7 = .ok (.invokevirtual 149, 3) := by decide +kernel
theorem d_BF_addTo_10 : decode prog_1_method_15_code 10 = .ok (.ifCond .eq 20, 3) := by decide +kernel
theorem d_BF_addTo_13 : decode prog_1_method_15_code 13 = .ok (.aload_n 1, 1) := by decide +kernel
theorem d_BF_addTo_14 : decode prog_1_method_15_code 14 = .ok (.iload_n 2, 1) := by decide +kernel
theorem d_BF_addTo_15 : decode prog_1_method_15_code 15 = .ok (.iload_n 3, 1) := by decide +kernel
theorem d_BF_addTo_16 : decode prog_1_method_15_code 16 = .ok (.iload_n 2, 1) := by decide +kernel
theorem d_BF_addTo_17 : decode prog_1_method_15_code 17 = .ok (.iload 4, 2) := by decide +kernel
theorem d_BF_addTo_19 : decode prog_1_method_15_code 19 = .ok (.iadd, 1) := by decide +kernel
theorem d_BF_addTo_20 : decode prog_1_method_15_code 20 = .ok (.iload_n 3, 1) := by decide +kernel
theorem d_BF_addTo_21 : decode prog_1_method_15_code 21 = .ok (.iload 5, 2) := by decide +kernel
theorem d_BF_addTo_23 : decode prog_1_method_15_code 23 = .ok (.iadd, 1) := by decide +kernel
theorem d_BF_addTo_24 : decode prog_1_method_15_code 24 = .ok (.invokevirtual 153, 3) := by decide +kernel
theorem d_BF_addTo_27 : decode prog_1_method_15_code 27 = .ok (.goto 5, 3) := by decide +kernel
theorem d_BF_addTo_30 : decode prog_1_method_15_code 30 = .ok (.bipush (-12), 2) := by decide +kernel
theorem d_BF_addTo_32 : decode prog_1_method_15_code 32 = .ok (.ireturn, 1) := by decide +kernel
theorem d_BF_liesOnSheet_0 : decode prog_1_method_16_code 0 = .ok (.iload_n 3, 1) := by decide +kernel
theorem d_BF_liesOnSheet_1 : decode prog_1_method_16_code 1 = .ok (.iconst 1, 1) := by decide +kernel
theorem d_BF_liesOnSheet_2 : decode prog_1_method_16_code 2 = .ok (.if_icmp .lt 42, 3) := by decide +kernel
theorem d_BF_liesOnSheet_5 : decode prog_1_method_16_code 5 = .ok (.iload 4, 2) := by decide +kernel
theorem d_BF_liesOnSheet_7 : decode prog_1_method_16_code 7 = .ok (.iconst 1, 1) := by decide +kernel
theorem d_BF_liesOnSheet_8 : decode prog_1_method_16_code 8 = .ok (.if_icmp .lt 36, 3) := by decide +kernel
theorem d_BF_liesOnSheet_11 : decode prog_1_method_16_code 11 = .ok (.iload_n 1, 1) := by decide +kernel
theorem d_BF_liesOnSheet_12 : decode prog_1_method_16_code 12 = .ok (.ifCond .lt 32, 3) := by decide +kernel
theorem d_BF_liesOnSheet_15 : decode prog_1_method_16_code 15 = .ok (.iload_n 1, 1) := by decide +kernel
theorem d_BF_liesOnSheet_16 : decode prog_1_method_16_code 16 = .ok (.aload_n 0, 1) := by decide +kernel
theorem d_BF_liesOnSheet_17 : decode prog_1_method_16_code 17 = .ok (.getfield 65, 3) := by decide +kernel
theorem d_BF_liesOnSheet_20 : decode prog_1_method_16_code 20 = .ok (.iload_n 3, 1) := by decide +kernel
theorem d_BF_liesOnSheet_21 : decode prog_1_method_16_code 21 = .ok (.isub, 1) := by decide +kernel
theorem d_BF_liesOnSheet_22 : decode prog_1_method_16_code 22 = .ok (.if_icmp .gt 22, 3) := by decide +kernel
theorem d_BF_liesOnSheet_25 : decode prog_1_method_16_code 25 = .ok (.iload_n 2, 1) := by decide +kernel
theorem d_BF_liesOnSheet_26 : decode prog_1_method_16_code 26 = .ok (.ifCond .lt 18, 3) := by decide +kernel
theorem d_BF_liesOnSheet_29 : decode prog_1_method_16_code 29 = .ok (.iload_n 2, 1) := by decide +kernel
theorem d_BF_liesOnSheet_30 : decode prog_1_method_16_code 30 = .ok (.aload_n 0, 1) := by decide +kernel
theorem d_BF_liesOnSheet_31 : decode prog_1_method_16_code 31 = .ok (.getfield 69, 3) := by decide +kernel
theorem d_BF_liesOnSheet_34 : decode prog_1_method_16_code 34 = .ok (.iload 4, 2) := by decide +kernel
theorem d_BF_liesOnSheet_36 : decode prog_1_method_16_code 36 = .ok (.isub, 1) := by decide +kernel
theorem d_BF_liesOnSheet_37 : decode prog_1_method_16_code 37 = .ok (.if_icmp .gt 7, 3) := by decide +kernel
theorem d_BF_liesOnSheet_40 : decode prog_1_method_16_code 40 = .ok (.iconst 1, 1) := by decide +kernel
theorem d_BF_liesOnSheet_41 : decode prog_1_method_16_code 41 = .ok (.goto 4, 3) := by decide +kernel
theorem d_BF_liesOnSheet_44 : decode prog_1_method_16_code 44 = .ok (.iconst 0, 1) := by decide +kernel
theorem d_BF_liesOnSheet_45 : decode prog_1_method_16_code 45 = .ok (.ireturn, 1) := by decide +kernel
theorem d_BF_joinBoxes_0 : decode prog_1_method_17_code 0 = .ok (.aload_n 1, 1) := by decide +kernel
theorem d_BF_joinBoxes_1 : decode prog_1_method_17_code 1 = .ok (.aload_n 0, 1) := by decide +kernel
theorem d_BF_joinBoxes_2 : decode prog_1_method_17_code 2 = .ok (.getfield 14, 3) := by decide +kernel
theorem d_BF_joinBoxes_5 : decode prog_1_method_17_code 5 = .ok (.getfield 110, 3) := by decide +kernel
theorem d_BF_joinBoxes_8 : decode prog_1_method_17_code 8 = .ok (.invokevirtual 157, 3) := by decide +kernel
theorem d_BF_joinBoxes_11 : decode prog_1_method_17_code 11 = .ok (.iconst 0, 1) := by decide +kernel
theorem d_BF_joinBoxes_12 : decode prog_1_method_17_code 12 = .ok (.istore_n 3, 1) := by decide +kernel
theorem d_BF_joinBoxes_13 : decode prog_1_method_17_code 13 = .ok (.iload_n 3, 1) := by decide +kernel
theorem d_BF_joinBoxes_14 : decode prog_1_method_17_code 14 = .ok (.aload_n 0, 1) := by decide +kernel
theorem d_BF_joinBoxes_15 : decode prog_1_method_17_code 15 = .ok (.getfield 14, 3) := by decide +kernel
theorem d_BF_joinBoxes_18 : decode prog_1_method_17_code 18 = .ok (.getfield 110, 3) := by decide +kernel
theorem d_BF_joinBoxes_21 : decode prog_1_method_17_code 21 = .ok (.if_icmp .ge 53, 3) := by decide +kernel
theorem d_BF_joinBoxes_24 : decode prog_1_method_17_code 24 = .ok (.iload_n 3, 1) := by decide +kernel
theorem d_BF_joinBoxes_25 : decode prog_1_method_17_code 25 = .ok (.iconst 1, 1) := by decide +kernel
theorem d_BF_joinBoxes_26 : decode prog_1_method_17_code 26 = .ok (.iadd, 1) := by decide +kernel
theorem d_BF_joinBoxes_27 : decode prog_1_method_17_code 27 = .ok (.istore 4, 2) := by decide +kernel
theorem d_BF_joinBoxes_29 : decode prog_1_method_17_code 29 = .ok (.iload 4, 2) := by decide +kernel
theorem d_BF_joinBoxes_31 : decode prog_1_method_17_code 31 = .ok (.aload_n 0, 1) := by decide +kernel
theorem d_BF_joinBoxes_32 : decode prog_1_method_17_code 32 = .ok (.getfield 14, 3) := by decide +kernel
theorem d_BF_joinBoxes_35 : decode prog_1_method_17_code 35 = .ok (.getfield 110, 3) := by decide +kernel
theorem d_BF_joinBoxes_38 : decode prog_1_method_17_code 38 = .ok (.if_icmp .ge 30, 3) := by decide +kernel
theorem d_BF_joinBoxes_41 : decode prog_1_method_17_code 41 = .ok (.aload_n 0, 1) := by decide +kernel
theorem d_BF_joinBoxes_42 : decode prog_1_method_17_code 42 = .ok (.getfield 14, 3) := by decide +kernel
theorem d_BF_joinBoxes_45 : decode prog_1_method_17_code 45 = .ok (.iload_n 3, 1) := by decide +kernel
theorem d_BF_joinBoxes_46 : decode prog_1_method_17_code 46 = .ok (.iload 4, 2) := by decide +kernel
theorem d_BF_joinBoxes_48 : decode prog_1_method_17_code 48 = .ok (.iload_n 2, 1) := by decide +kernel
theorem d_BF_joinBoxes_49 : decode prog_1_method_17_code 49 = .ok (.invokevirtual 160, 3) := by decide +kernel
theorem d_BF_joinBoxes_52 : decode prog_1_method_17_code 52 = .ok (.ifCond .eq 10, 3) := by decide +kernel
theorem d_BF_joinBoxes_55 : decode prog_1_method_17_code 55 = .ok (.aload_n 1, 1) := by decide +kernel
theorem d_BF_joinBoxes_56 : decode prog_1_method_17_code 56 = .ok (.iload_n 3, 1) := by decide +kernel
theorem d_BF_joinBoxes_57 : decode prog_1_method_17_code 57 = .ok (.iload 4, 2) := by decide +kernel
theorem d_BF_joinBoxes_59 : decode prog_1_method_17_code 59 = .ok (.invokevirtual 164, 3) := by decide +kernel
theorem d_BF_joinBoxes_62 : decode prog_1_method_17_code 62 = .ok (.iinc 4 1, 3) := by decide +kernel
theorem d_BF_joinBoxes_65 : decode prog_1_method_17_code 65 = .ok (.goto (-36), 3) := by decide +kernel
theorem d_BF_joinBoxes_68 : decode prog_1_method_17_code 68 = .ok (.iinc 3 1, 3) := by decide +kernel
theorem d_BF_joinBoxes_71 : decode prog_1_method_17_code 71 = .ok (.goto (-58), 3) := by decide +kernel
theorem d_BF_joinBoxes_74 : decode prog_1_method_17_code 74 = .ok (.return_, 1) := by decide +kernel
theorem d_BF_joinLines_0 : decode prog_1_method_18_code 0 = .ok (.aload_n 0, 1) := by decide +kernel
theorem d_BF_joinLines_1 : decode prog_1_method_18_code 1 = .ok (.getfield 31, 3) := by decide +kernel
theorem d_BF_joinLines_4 : decode prog_1_method_18_code 4 = .ok (.aload_n 0, 1) := by decide +kernel
theorem d_BF_joinLines_5 : decode prog_1_method_18_code 5 = .ok (.getfield 37, 3) := by decide +kernel
theorem d_BF_joinLines_8 : decode prog_1_method_18_code 8 = .ok (.invokevirtual 96, 3) := by decide +kernel
theorem d_BF_joinLines_11 : decode prog_1_method_18_code 11 = .ok (.invokevirtual 157, 3) := by decide +kernel
theorem d_BF_joinLines_14 : decode prog_1_method_18_code 14 = .ok (.iconst 0, 1) := by decide +kernel
theorem d_BF_joinLines_15 : decode prog_1_method_18_code 15 = .ok (.istore_n 1, 1) := by decide +kernel
theorem d_BF_joinLines_16 : decode prog_1_method_18_code 16 = .ok (.iload_n 1, 1) := by decide +kernel
theorem d_BF_joinLines_17 : decode prog_1_method_18_code 17 = .ok (.aload_n 0, 1) := by decide +kernel
theorem d_BF_joinLines_18 : decode prog_1_method_18_code 18 = .ok (.getfield 37, 3) := by decide +kernel
theorem d_BF_joinLines_21 : decode prog_1_method_18_code 21 = .ok (.invokevirtual 96, 3) := by decide +kernel
theorem d_BF_joinLines_24 : decode prog_1_method_18_code 24 = .ok (.if_icmp .ge 58, 3) := by decide +kernel
theorem d_BF_joinLines_27 : decode prog_1_method_18_code 27 = .ok (.iload_n 1, 1) := by decide +kernel
theorem d_BF_joinLines_28 : decode prog_1_method_18_code 28 = .ok (.iconst 1, 1) := by decide +kernel
theorem d_BF_joinLines_29 : decode prog_1_method_18_code 29 = .ok (.iadd, 1) := by decide +kernel
theorem d_BF_joinLines_30 : decode prog_1_method_18_code 30 = .ok (.istore_n 2, 1) := by decide +kernel
theorem d_BF_joinLines_31 : decode prog_1_method_18_code 31 = .ok (.iload_n 2, 1) := by decide +kernel
theorem d_BF_joinLines_32 : decode prog_1_method_18_code 32 = .ok (.aload_n 0, 1) := by decide +kernel
theorem d_BF_joinLines_33 : decode prog_1_method_18_code 33 = .ok (.getfield 37, 3) := by decide +kernel
theorem d_BF_joinLines_36 : decode prog_1_method_18_code 36 = .ok (.invokevirtual 96, 3) := by decide +kernel
theorem d_BF_joinLines_39 : decode prog_1_method_18_code 39 = .ok (.if_icmp .ge 37, 3) := by decide +kernel
theorem d_BF_joinLines_42 : decode prog_1_method_18_code 42 = .ok (.aload_n 0, 1) := by decide +kernel
theorem d_BF_joinLines_43 : decode prog_1_method_18_code 43 = .ok (.getfield 37, 3) := by decide +kernel
theorem d_BF_joinLines_46 : decode prog_1_method_18_code 46 = .ok (.getfield 90, 3) := by decide +kernel
theorem d_BF_joinLines_49 : decode prog_1_method_18_code 49 = .ok (.iload_n 1, 1) := by decide +kernel
theorem d_BF_joinLines_50 : decode prog_1_method_18_code 50 = .ok (.iload_n 2, 1) := by decide +kernel
theorem d_BF_joinLines_51 : decode prog_1_method_18_code 51 = .ok (.aload_n 0, 1) := by decide +kernel
theorem d_BF_joinLines_52 : decode prog_1_method_18_code 52 = .ok (.getfield 57, 3) := by decide +kernel
theorem d_BF_joinLines_55 : decode prog_1_method_18_code 55 = .ok (.invokevirtual 168, 3) := by decide +kernel
theorem d_BF_joinLines_58 : decode prog_1_method_18_code 58 = .ok (.ifCond .eq 12, 3) := by decide +kernel
theorem d_BF_joinLines_61 : decode prog_1_method_18_code 61 = .ok (.aload_n 0, 1) := by decide +kernel
theorem d_BF_joinLines_62 : decode prog_1_method_18_code 62 = .ok (.getfield 31, 3) := by decide +kernel
theorem d_BF_joinLines_65 : decode prog_1_method_18_code 65 = .ok (.iload_n 1, 1) := by decide +kernel
theorem d_BF_joinLines_66 : decode prog_1_method_18_code 66 = .ok (.iload_n 2, 1) := by decide +kernel
theorem d_BF_joinLines_67 : decode prog_1_method_18_code 67 = .ok (.invokevirtual 164, 3) := by decide +kernel
theorem d_BF_joinLines_70 : decode prog_1_method_18_code 70 = .ok (.iinc 2 1, 3) := by decide +kernel
theorem d_BF_joinLines_73 : decode prog_1_method_18_code 73 = .ok (.goto (-42), 3) := by decide +kernel
theorem d_BF_joinLines_76 : decode prog_1_method_18_code 76 = .ok (.iinc 1 1, 3) := by decide +kernel
theorem d_BF_joinLines_79 : decode prog_1_method_18_code 79 = .ok (.goto (-63), 3) := by decide +kernel
theorem d_BF_joinLines_82 : decode prog_1_method_18_code 82 = .ok (.return_, 1) := by decide +kernel
theorem d_BF_groupOfBox_0 : decode prog_1_method_19_code 0 = .ok (.aload_n 0, 1) := by decide +kernel
theorem d_BF_groupOfBox_1 : decode prog_1_method_19_code 1 = .ok (.getfield 41, 3) := by decide +kernel
theorem d_BF_groupOfBox_4 : decode prog_1_method_19_code 4 = .ok (.getfield 171, 3) := by decide +kernel
theorem d_BF_groupOfBox_7 : decode prog_1_method_19_code 7 = .ok (.aload_n 0, 1) := by decide +kernel
theorem d_BF_groupOfBox_8 : decode prog_1_method_19_code 8 = .ok (.getfield 37, 3) := by decide +kernel
theorem d_BF_groupOfBox_11 : decode prog_1_method_19_code 11 = .ok (.getfield 171, 3) := by decide +kernel
theorem d_BF_groupOfBox_14 : decode prog_1_method_19_code 14 = .ok (.iload_n 1, 1) := by decide +kernel
theorem d_BF_groupOfBox_15 : decode prog_1_method_19_code 15 = .ok (.iaload, 1) := by decide +kernel
theorem d_BF_groupOfBox_16 : decode prog_1_method_19_code 16 = .ok (.iaload, 1) := by decide +kernel
theorem d_BF_groupOfBox_17 : decode prog_1_method_19_code 17 = .ok (.ireturn, 1) := by decide +kernel
theorem d_BF_measureBoxesOfBlocks_0 : decode prog_1_method_20_code 0 = .ok (.iconst 0, 1) := by decide +kernel
theorem d_BF_measureBoxesOfBlocks_1 : decode prog_1_method_20_code 1 = .ok (.istore_n 1, 1) := by decide +kernel
theorem d_BF_measureBoxesOfBlocks_2 : decode prog_1_method_20_code 2 = .ok (.iload_n 1, 1) := by decide +kernel
theorem d_BF_measureBoxesOfBlocks_3 : decode prog_1_method_20_code 3 = .ok (.aload_n 0, 1) := by decide +kernel
theorem d_BF_measureBoxesOfBlocks_4 : decode prog_1_method_20_code 4 = .ok (.getfield 41, 3) := by decide +kernel
theorem d_BF_measureBoxesOfBlocks_7 : decode prog_1_method_20_code 7 = .ok (.invokevirtual 96, 3) := by decide +kernel
theorem d_BF_measureBoxesOfBlocks_10 : decode prog_1_method_20_code 10 = .ok (.if_icmp .ge 32, 3) := by decide +kernel
theorem d_BF_measureBoxesOfBlocks_13 : decode prog_1_method_20_code 13 = .ok (.aload_n 0, 1) := by decide +kernel
theorem d_BF_measureBoxesOfBlocks_14 : decode prog_1_method_20_code 14 = .ok (.getfield 44, 3) := by decide +kernel
theorem d_BF_measureBoxesOfBlocks_17 : decode prog_1_method_20_code 17 = .ok (.iload_n 1, 1) := by decide +kernel
theorem d_BF_measureBoxesOfBlocks_18 : decode prog_1_method_20_code 18 = .ok (.iconst 0, 1) := by decide +kernel
theorem d_BF_measureBoxesOfBlocks_19 : decode prog_1_method_20_code 19 = .ok (.iastore, 1) := by decide +kernel
theorem d_BF_measureBoxesOfBlocks_20 : decode prog_1_method_20_code 20 = .ok (.aload_n 0, 1) := by decide +kernel
theorem d_BF_measureBoxesOfBlocks_21 : decode prog_1_method_20_code 21 = .ok (.getfield 48, 3) := by decide +kernel
theorem d_BF_measureBoxesOfBlocks_24 : decode prog_1_method_20_code 24 = .ok (.iload_n 1, 1) := by decide +kernel
theorem d_BF_measureBoxesOfBlocks_25 : decode prog_1_method_20_code 25 = .ok (.iconst 0, 1) := by decide +kernel
theorem d_BF_measureBoxesOfBlocks_26 : decode prog_1_method_20_code 26 = .ok (.iastore, 1) := by decide +kernel
theorem d_BF_measureBoxesOfBlocks_27 : decode prog_1_method_20_code 27 = .ok (.aload_n 0, 1) := by decide +kernel
theorem d_BF_measureBoxesOfBlocks_28 : decode prog_1_method_20_code 28 = .ok (.getfield 51, 3) := by decide +kernel
theorem d_BF_measureBoxesOfBlocks_31 : decode prog_1_method_20_code 31 = .ok (.iload_n 1, 1) := by decide +kernel
theorem d_BF_measureBoxesOfBlocks_32 : decode prog_1_method_20_code 32 = .ok (.sipush 4096, 3) := by decide +kernel
theorem d_BF_measureBoxesOfBlocks_35 : decode prog_1_method_20_code 35 = .ok (.iastore, 1) := by decide +kernel
theorem d_BF_measureBoxesOfBlocks_36 : decode prog_1_method_20_code 36 = .ok (.iinc 1 1, 3) := by decide +kernel
theorem d_BF_measureBoxesOfBlocks_39 : decode prog_1_method_20_code 39 = .ok (.goto (-37), 3) := by decide +kernel
theorem d_BF_measureBoxesOfBlocks_42 : decode prog_1_method_20_code 42 = .ok (.iconst 0, 1) := by decide +kernel
theorem d_BF_measureBoxesOfBlocks_43 : decode prog_1_method_20_code 43 = .ok (.istore_n 1, 1) := by decide +kernel
theorem d_BF_measureBoxesOfBlocks_44 : decode prog_1_method_20_code 44 = .ok (.iload_n 1, 1) := by decide +kernel
theorem d_BF_measureBoxesOfBlocks_45 : decode prog_1_method_20_code 45 = .ok (.aload_n 0, 1) := by decide +kernel
theorem d_BF_measureBoxesOfBlocks_46 : decode prog_1_method_20_code 46 = .ok (.getfield 14, 3) := by decide +kernel
theorem d_BF_measureBoxesOfBlocks_49 : decode prog_1_method_20_code 49 = .ok (.getfield 110, 3) := by decide +kernel
theorem d_BF_measureBoxesOfBlocks_52 : decode prog_1_method_20_code 52 = .ok (.if_icmp .ge 70, 3) := by decide +kernel
theorem d_BF_measureBoxesOfBlocks_55 : decode prog_1_method_20_code 55 = .ok (.aload_n 0, 1) := by decide +kernel
theorem d_BF_measureBoxesOfBlocks_56 : decode prog_1_method_20_code 56 = .ok (.iload_n 1, 1) := by decide +kernel
theorem d_BF_measureBoxesOfBlocks_57 : decode prog_1_method_20_code 57 = .ok (.invokevirtual 114, 3) := by decide +kernel
theorem d_BF_measureBoxesOfBlocks_60 : decode prog_1_method_20_code 60 = .ok (.istore_n 2, 1) := by decide +kernel
theorem d_BF_measureBoxesOfBlocks_61 : decode prog_1_method_20_code 61 = .ok (.aload_n 0, 1) := by decide +kernel
theorem d_BF_measureBoxesOfBlocks_62 : decode prog_1_method_20_code 62 = .ok (.getfield 14, 3) := by decide +kernel
theorem d_BF_measureBoxesOfBlocks_65 : decode prog_1_method_20_code 65 = .ok (.iload_n 1, 1) := by decide +kernel
theorem d_BF_measureBoxesOfBlocks_66 : decode prog_1_method_20_code 66 = .ok (.aload_n 0, 1) := by decide +kernel
theorem d_BF_measureBoxesOfBlocks_67 : decode prog_1_method_20_code 67 = .ok (.getfield 57, 3) := by decide +kernel
theorem d_BF_measureBoxesOfBlocks_70 : decode prog_1_method_20_code 70 = .ok (.invokevirtual 174, 3) := by decide +kernel
theorem d_BF_measureBoxesOfBlocks_73 : decode prog_1_method_20_code 73 = .ok (.istore_n 3, 1) := by decide +kernel
theorem d_BF_measureBoxesOfBlocks_74 : decode prog_1_method_20_code 74 = .ok (.aload_n 0, 1) := by decide +kernel
theorem d_BF_measureBoxesOfBlocks_75 : decode prog_1_method_20_code 75 = .ok (.getfield 44, 3) := by decide +kernel
theorem d_BF_measureBoxesOfBlocks_78 : decode prog_1_method_20_code 78 = .ok (.iload_n 2, 1) := by decide +kernel
theorem d_BF_measureBoxesOfBlocks_79 : decode prog_1_method_20_code 79 = .ok (.dup2, 1) := by decide +kernel
theorem d_BF_measureBoxesOfBlocks_80 : decode prog_1_method_20_code 80 = .ok (.iaload, 1) := by decide +kernel
theorem d_BF_measureBoxesOfBlocks_81 : decode prog_1_method_20_code 81 = .ok (.iconst 1, 1) := by decide +kernel
theorem d_BF_measureBoxesOfBlocks_82 : decode prog_1_method_20_code 82 = .ok (.iadd, 1) := by decide +kernel
theorem d_BF_measureBoxesOfBlocks_83 : decode prog_1_method_20_code 83 = .ok (.iastore, 1) := by decide +kernel
theorem d_BF_measureBoxesOfBlocks_84 : decode prog_1_method_20_code 84 = .ok (.aload_n 0, 1) := by decide +kernel
theorem d_BF_measureBoxesOfBlocks_85 : decode prog_1_method_20_code 85 = .ok (.getfield 48, 3) := by decide +kernel
theorem d_BF_measureBoxesOfBlocks_88 : decode prog_1_method_20_code 88 = .ok (.iload_n 2, 1) := by decide +kernel
theorem d_BF_measureBoxesOfBlocks_89 : decode prog_1_method_20_code 89 = .ok (.aload_n 0, 1) := by decide +kernel
theorem d_BF_measureBoxesOfBlocks_90 : decode prog_1_method_20_code 90 = .ok (.getfield 48, 3) := by decide +kernel
theorem d_BF_measureBoxesOfBlocks_93 : decode prog_1_method_20_code 93 = .ok (.iload_n 2, 1) := by decide +kernel
theorem d_BF_measureBoxesOfBlocks_94 : decode prog_1_method_20_code 94 = .ok (.iaload, 1) := by decide +kernel
theorem d_BF_measureBoxesOfBlocks_95 : decode prog_1_method_20_code 95 = .ok (.iload_n 3, 1) := by decide +kernel
theorem d_BF_measureBoxesOfBlocks_96 : decode prog_1_method_20_code 96 = .ok (.invokestatic 146, 3) := by decide +kernel
theorem d_BF_measureBoxesOfBlocks_99 : decode prog_1_method_20_code 99 = .ok (.iastore, 1) := by decide +kernel
theorem d_BF_measureBoxesOfBlocks_100 : decode prog_1_method_20_code 100 = .ok (.aload_n 0, 1) := by decide +kernel
theorem d_BF_measureBoxesOfBlocks_101 : decode prog_1_method_20_code 101 = .ok (.getfield 51, 3) := by decide +kernel
theorem d_BF_measureBoxesOfBlocks_104 : decode prog_1_method_20_code 104 = .ok (.iload_n 2, 1) := by decide +kernel
theorem d_BF_measureBoxesOfBlocks_105 : decode prog_1_method_20_code 105 = .ok (.aload_n 0, 1) := by decide +kernel
theorem d_BF_measureBoxesOfBlocks_106 : decode prog_1_method_20_code 106 = .ok (.getfield 51, 3) := by decide +kernel
theorem d_BF_measureBoxesOfBlocks_109 : decode prog_1_method_20_code 109 = .ok (.iload_n 2, 1) := by decide +kernel
theorem d_BF_measureBoxesOfBlocks_110 : decode prog_1_method_20_code 110 = .ok (.iaload, 1) := by decide +kernel
theorem d_BF_measureBoxesOfBlocks_111 : decode prog_1_method_20_code 111 = .ok (.iload_n 3, 1) := by decide +kernel
theorem d_BF_measureBoxesOfBlocks_112 : decode prog_1_method_20_code 112 = .ok (.invokestatic 141, 3) := by decide +kernel
theorem d_BF_measureBoxesOfBlocks_115 : decode prog_1_method_20_code 115 = .ok (.iastore, 1) := by decide +kernel
theorem d_BF_measureBoxesOfBlocks_116 : decode prog_1_method_20_code 116 = .ok (.iinc 1 1, 3) := by decide +kernel
theorem d_BF_measureBoxesOfBlocks_119 : decode prog_1_method_20_code 119 = .ok (.goto (-75), 3) := by decide +kernel
theorem d_BF_measureBoxesOfBlocks_122 : decode prog_1_method_20_code 122 = .ok (.return_, 1) := by decide +kernel
theorem d_BF_judge_0 : decode prog_1_method_21_code 0 = .ok (.aload_n 0, 1) := by decide +kernel
theorem d_BF_judge_1 : decode prog_1_method_21_code 1 = .ok (.iload_n 1, 1) := by decide +kernel
theorem d_BF_judge_2 : decode prog_1_method_21_code 2 = .ok (.invokevirtual 178, 3) := by decide +kernel
theorem d_BF_judge_5 : decode prog_1_method_21_code 5 = .ok (.istore_n 2, 1) := by decide +kernel
theorem d_BF_judge_6 : decode prog_1_method_21_code 6 = .ok (.iload_n 2, 1) := by decide +kernel
theorem d_BF_judge_7 : decode prog_1_method_21_code 7 = .ok (.ifCond .ne 21, 3) := by decide +kernel
theorem d_BF_judge_10 : decode prog_1_method_21_code 10 = .ok (.aload_n 0, 1) := by decide +kernel
theorem d_BF_judge_11 : decode prog_1_method_21_code 11 = .ok (.iload_n 1, 1) := by decide +kernel
theorem d_BF_judge_12 : decode prog_1_method_21_code 12 = .ok (.invokevirtual 181, 3) := by decide +kernel
theorem d_BF_judge_15 : decode prog_1_method_21_code 15 = .ok (.ifCond .ne 11, 3) := by decide +kernel
theorem d_BF_judge_18 : decode prog_1_method_21_code 18 = .ok (.aload_n 0, 1) := by decide +kernel
theorem d_BF_judge_19 : decode prog_1_method_21_code 19 = .ok (.iload_n 1, 1) := by decide +kernel
theorem d_BF_judge_20 : decode prog_1_method_21_code 20 = .ok (.invokevirtual 184, 3) := by decide +kernel
theorem d_BF_judge_23 : decode prog_1_method_21_code 23 = .ok (.ifCond .eq 5, 3) := by decide +kernel
theorem d_BF_judge_26 : decode prog_1_method_21_code 26 = .ok (.iconst 0, 1) := by decide +kernel
theorem d_BF_judge_27 : decode prog_1_method_21_code 27 = .ok (.ireturn, 1) := by decide +kernel
theorem d_BF_judge_28 : decode prog_1_method_21_code 28 = .ok (.aload_n 0, 1) := by decide +kernel
theorem d_BF_judge_29 : decode prog_1_method_21_code 29 = .ok (.getfield 41, 3) := by decide +kernel
theorem d_BF_judge_32 : decode prog_1_method_21_code 32 = .ok (.getfield 127, 3) := by decide +kernel
theorem d_BF_judge_35 : decode prog_1_method_21_code 35 = .ok (.iload_n 1, 1) := by decide +kernel
theorem d_BF_judge_36 : decode prog_1_method_21_code 36 = .ok (.iaload, 1) := by decide +kernel
theorem d_BF_judge_37 : decode prog_1_method_21_code 37 = .ok (.iconst 2, 1) := by decide +kernel
theorem d_BF_judge_38 : decode prog_1_method_21_code 38 = .ok (.if_icmp .lt 22, 3) := by decide +kernel
theorem d_BF_judge_41 : decode prog_1_method_21_code 41 = .ok (.aload_n 0, 1) := by decide +kernel
theorem d_BF_judge_42 : decode prog_1_method_21_code 42 = .ok (.getfield 41, 3) := by decide +kernel
theorem d_BF_judge_45 : decode prog_1_method_21_code 45 = .ok (.getfield 127, 3) := by decide +kernel
theorem d_BF_judge_48 : decode prog_1_method_21_code 48 = .ok (.iload_n 1, 1) := by decide +kernel
theorem d_BF_judge_49 : decode prog_1_method_21_code 49 = .ok (.iaload, 1) := by decide +kernel
theorem d_BF_judge_50 : decode prog_1_method_21_code 50 = .ok (.bipush 6, 2) := by decide +kernel
theorem d_BF_judge_52 : decode prog_1_method_21_code 52 = .ok (.if_icmp .gt 8, 3) := by decide +kernel
theorem d_BF_judge_55 : decode prog_1_method_21_code 55 = .ok (.bipush 30, 2) := by decide +kernel
theorem d_BF_judge_57 : decode prog_1_method_21_code 57 = .ok (.goto 5, 3) := by decide +kernel
theorem d_BF_judge_60 : decode prog_1_method_21_code 60 = .ok (.bipush 10, 2) := by decide +kernel
theorem d_BF_judge_62 : decode prog_1_method_21_code 62 = .ok (.istore_n 3, 1) := by decide +kernel
theorem d_BF_judge_63 : decode prog_1_method_21_code 63 = .ok (.aload_n 0, 1) := by decide +kernel
theorem d_BF_judge_64 : decode prog_1_method_21_code 64 = .ok (.getfield 41, 3) := by decide +kernel
theorem d_BF_judge_67 : decode prog_1_method_21_code 67 = .ok (.getfield 90, 3) := by decide +kernel
theorem d_BF_judge_70 : decode prog_1_method_21_code 70 = .ok (.getfield 187, 3) := by decide +kernel
theorem d_BF_judge_73 : decode prog_1_method_21_code 73 = .ok (.iload_n 1, 1) := by decide +kernel
theorem d_BF_judge_74 : decode prog_1_method_21_code 74 = .ok (.iaload, 1) := by decide +kernel
theorem d_BF_judge_75 : decode prog_1_method_21_code 75 = .ok (.aload_n 0, 1) := by decide +kernel
theorem d_BF_judge_76 : decode prog_1_method_21_code 76 = .ok (.getfield 41, 3) := by decide +kernel
theorem d_BF_judge_79 : decode prog_1_method_21_code 79 = .ok (.getfield 90, 3) := by decide +kernel
theorem d_BF_judge_82 : decode prog_1_method_21_code 82 = .ok (.getfield 190, 3) := by decide +kernel
theorem d_BF_judge_85 : decode prog_1_method_21_code 85 = .ok (.iload_n 1, 1) := by decide +kernel
theorem d_BF_judge_86 : decode prog_1_method_21_code 86 = .ok (.iaload, 1) := by decide +kernel
theorem d_BF_judge_87 : decode prog_1_method_21_code 87 = .ok (.iadd, 1) := by decide +kernel
theorem d_BF_judge_88 : decode prog_1_method_21_code 88 = .ok (.aload_n 0, 1) := by decide +kernel
theorem d_BF_judge_89 : decode prog_1_method_21_code 89 = .ok (.getfield 65, 3) := by decide +kernel
theorem d_BF_judge_92 : decode prog_1_method_21_code 92 = .ok (.if_icmp .lt 6, 3) := by decide +kernel
theorem d_BF_judge_95 : decode prog_1_method_21_code 95 = .ok (.iinc 3 15, 3) := by decide +kernel
theorem d_BF_judge_98 : decode prog_1_method_21_code 98 = .ok (.aload_n 0, 1) := by decide +kernel
theorem d_BF_judge_99 : decode prog_1_method_21_code 99 = .ok (.getfield 41, 3) := by decide +kernel
theorem d_BF_judge_102 : decode prog_1_method_21_code 102 = .ok (.getfield 90, 3) := by decide +kernel
theorem d_BF_judge_105 : decode prog_1_method_21_code 105 = .ok (.getfield 193, 3) := by decide +kernel
theorem d_BF_judge_108 : decode prog_1_method_21_code 108 = .ok (.iload_n 1, 1) := by decide +kernel
theorem d_BF_judge_109 : decode prog_1_method_21_code 109 = .ok (.iaload, 1) := by decide +kernel
theorem d_BF_judge_110 : decode prog_1_method_21_code 110 = .ok (.aload_n 0, 1) := by decide +kernel
theorem d_BF_judge_111 : decode prog_1_method_21_code 111 = .ok (.getfield 41, 3) := by decide +kernel
theorem d_BF_judge_114 : decode prog_1_method_21_code 114 = .ok (.getfield 90, 3) := by decide +kernel
theorem d_BF_judge_117 : decode prog_1_method_21_code 117 = .ok (.getfield 196, 3) := by decide +kernel
theorem d_BF_judge_120 : decode prog_1_method_21_code 120 = .ok (.iload_n 1, 1) := by decide +kernel
theorem d_BF_judge_121 : decode prog_1_method_21_code 121 = .ok (.iaload, 1) := by decide +kernel
theorem d_BF_judge_122 : decode prog_1_method_21_code 122 = .ok (.iadd, 1) := by decide +kernel
theorem d_BF_judge_123 : decode prog_1_method_21_code 123 = .ok (.aload_n 0, 1) := by decide +kernel
theorem d_BF_judge_124 : decode prog_1_method_21_code 124 = .ok (.getfield 69, 3) := by decide +kernel
theorem d_BF_judge_127 : decode prog_1_method_21_code 127 = .ok (.if_icmp .lt 6, 3) := by decide +kernel
theorem d_BF_judge_130 : decode prog_1_method_21_code 130 = .ok (.iinc 3 15, 3) := by decide +kernel
theorem d_BF_judge_133 : decode prog_1_method_21_code 133 = .ok (.iconst 2, 1) := by decide +kernel
theorem d_BF_judge_134 : decode prog_1_method_21_code 134 = .ok (.aload_n 0, 1) := by decide +kernel
theorem d_BF_judge_135 : decode prog_1_method_21_code 135 = .ok (.getfield 41, 3) := by decide +kernel
theorem d_BF_judge_138 : decode prog_1_method_21_code 138 = .ok (.getfield 90, 3) := by decide +kernel
theorem d_BF_judge_141 : decode prog_1_method_21_code 141 = .ok (.iload_n 1, 1) := by decide +kernel
theorem d_BF_judge_142 : decode prog_1_method_21_code 142 = .ok (.invokevirtual 199, 3) := by decide +kernel
theorem d_BF_judge_145 : decode prog_1_method_21_code 145 = .ok (.imul, 1) := by decide +kernel
theorem d_BF_judge_146 : decode prog_1_method_21_code 146 = .ok (.aload_n 0, 1) := by decide +kernel
theorem d_BF_judge_147 : decode prog_1_method_21_code 147 = .ok (.getfield 65, 3) := by decide +kernel
theorem d_BF_judge_150 : decode prog_1_method_21_code 150 = .ok (.aload_n 0, 1) := by decide +kernel
theorem d_BF_judge_151 : decode prog_1_method_21_code 151 = .ok (.getfield 69, 3) := by decide +kernel
theorem d_BF_judge_154 : decode prog_1_method_21_code 154 = .ok (.imul, 1) := by decide +kernel
theorem d_BF_judge_155 : decode prog_1_method_21_code 155 = .ok (.if_icmp .gt 6, 3) := by decide +kernel
theorem d_BF_judge_158 : decode prog_1_method_21_code 158 = .ok (.iinc 3 10, 3) := by decide +kernel
theorem d_BF_judge_161 : decode prog_1_method_21_code 161 = .ok (.iload_n 2, 1) := by decide +kernel
theorem d_BF_judge_162 : decode prog_1_method_21_code 162 = .ok (.ifCond .eq 10, 3) := by decide +kernel
theorem d_BF_judge_165 : decode prog_1_method_21_code 165 = .ok (.iload_n 3, 1) := by decide +kernel
theorem d_BF_judge_166 : decode prog_1_method_21_code 166 = .ok (.bipush 25, 2) := by decide +kernel
theorem d_BF_judge_168 : decode prog_1_method_21_code 168 = .ok (.iadd, 1) := by decide +kernel
theorem d_BF_judge_169 : decode prog_1_method_21_code 169 = .ok (.goto 4, 3) := by decide +kernel
theorem d_BF_judge_172 : decode prog_1_method_21_code 172 = .ok (.iload_n 3, 1) := by decide +kernel
theorem d_BF_judge_173 : decode prog_1_method_21_code 173 = .ok (.ireturn, 1) := by decide +kernel
theorem d_BF_isStamp_0 : decode prog_1_method_22_code 0 = .ok (.iconst 4, 1) := by decide +kernel
theorem d_BF_isStamp_1 : decode prog_1_method_22_code 1 = .ok (.aload_n 0, 1) := by decide +kernel
theorem d_BF_isStamp_2 : decode prog_1_method_22_code 2 = .ok (.getfield 41, 3) := by decide +kernel
theorem d_BF_isStamp_5 : decode prog_1_method_22_code 5 = .ok (.getfield 90, 3) := by decide +kernel
theorem d_BF_isStamp_8 : decode prog_1_method_22_code 8 = .ok (.getfield 187, 3) := by decide +kernel
theorem d_BF_isStamp_11 : decode prog_1_method_22_code 11 = .ok (.iload_n 1, 1) := by decide +kernel
theorem d_BF_isStamp_12 : decode prog_1_method_22_code 12 = .ok (.iaload, 1) := by decide +kernel
theorem d_BF_isStamp_13 : decode prog_1_method_22_code 13 = .ok (.imul, 1) := by decide +kernel
theorem d_BF_isStamp_14 : decode prog_1_method_22_code 14 = .ok (.iconst 3, 1) := by decide +kernel
theorem d_BF_isStamp_15 : decode prog_1_method_22_code 15 = .ok (.aload_n 0, 1) := by decide +kernel
theorem d_BF_isStamp_16 : decode prog_1_method_22_code 16 = .ok (.getfield 65, 3) := by decide +kernel
theorem d_BF_isStamp_19 : decode prog_1_method_22_code 19 = .ok (.imul, 1) := by decide +kernel
theorem d_BF_isStamp_20 : decode prog_1_method_22_code 20 = .ok (.if_icmp .lt 28, 3) := by decide +kernel
theorem d_BF_isStamp_23 : decode prog_1_method_22_code 23 = .ok (.iconst 3, 1) := by decide +kernel
theorem d_BF_isStamp_24 : decode prog_1_method_22_code 24 = .ok (.aload_n 0, 1) := by decide +kernel
theorem d_BF_isStamp_25 : decode prog_1_method_22_code 25 = .ok (.getfield 41, 3) := by decide +kernel
theorem d_BF_isStamp_28 : decode prog_1_method_22_code 28 = .ok (.getfield 90, 3) := by decide +kernel
theorem d_BF_isStamp_31 : decode prog_1_method_22_code 31 = .ok (.getfield 196, 3) := by decide +kernel
theorem d_BF_isStamp_34 : decode prog_1_method_22_code 34 = .ok (.iload_n 1, 1) := by decide +kernel
theorem d_BF_isStamp_35 : decode prog_1_method_22_code 35 = .ok (.iaload, 1) := by decide +kernel
theorem d_BF_isStamp_36 : decode prog_1_method_22_code 36 = .ok (.imul, 1) := by decide +kernel
theorem d_BF_isStamp_37 : decode prog_1_method_22_code 37 = .ok (.aload_n 0, 1) := by decide +kernel
theorem d_BF_isStamp_38 : decode prog_1_method_22_code 38 = .ok (.getfield 69, 3) := by decide +kernel
theorem d_BF_isStamp_41 : decode prog_1_method_22_code 41 = .ok (.if_icmp .gt 7, 3) := by decide +kernel
theorem d_BF_isStamp_44 : decode prog_1_method_22_code 44 = .ok (.iconst 1, 1) := by decide +kernel
theorem d_BF_isStamp_45 : decode prog_1_method_22_code 45 = .ok (.goto 4, 3) := by decide +kernel
theorem d_BF_isStamp_48 : decode prog_1_method_22_code 48 = .ok (.iconst 0, 1) := by decide +kernel
theorem d_BF_isStamp_49 : decode prog_1_method_22_code 49 = .ok (.ireturn, 1) := by decide +kernel
theorem d_BF_isSender_0 : decode prog_1_method_23_code 0 = .ok (.iconst 2, 1) := by decide +kernel
theorem d_BF_isSender_1 : decode prog_1_method_23_code 1 = .ok (.aload_n 0, 1) := by decide +kernel
theorem d_BF_isSender_2 : decode prog_1_method_23_code 2 = .ok (.getfield 41, 3) := by decide +kernel
theorem d_BF_isSender_5 : decode prog_1_method_23_code 5 = .ok (.getfield 90, 3) := by decide +kernel
theorem d_BF_isSender_8 : decode prog_1_method_23_code 8 = .ok (.getfield 190, 3) := by decide +kernel
theorem d_BF_isSender_11 : decode prog_1_method_23_code 11 = .ok (.iload_n 1, 1) := by decide +kernel
theorem d_BF_isSender_12 : decode prog_1_method_23_code 12 = .ok (.iaload, 1) := by decide +kernel
theorem d_BF_isSender_13 : decode prog_1_method_23_code 13 = .ok (.imul, 1) := by decide +kernel
theorem d_BF_isSender_14 : decode prog_1_method_23_code 14 = .ok (.aload_n 0, 1) := by decide +kernel
theorem d_BF_isSender_15 : decode prog_1_method_23_code 15 = .ok (.getfield 65, 3) := by decide +kernel
theorem d_BF_isSender_18 : decode prog_1_method_23_code 18 = .ok (.if_icmp .gt 28, 3) := by decide +kernel
theorem d_BF_isSender_21 : decode prog_1_method_23_code 21 = .ok (.iconst 4, 1) := by decide +kernel
theorem d_BF_isSender_22 : decode prog_1_method_23_code 22 = .ok (.aload_n 0, 1) := by decide +kernel
theorem d_BF_isSender_23 : decode prog_1_method_23_code 23 = .ok (.getfield 41, 3) := by decide +kernel
theorem d_BF_isSender_26 : decode prog_1_method_23_code 26 = .ok (.getfield 90, 3) := by decide +kernel
theorem d_BF_isSender_29 : decode prog_1_method_23_code 29 = .ok (.getfield 196, 3) := by decide +kernel
theorem d_BF_isSender_32 : decode prog_1_method_23_code 32 = .ok (.iload_n 1, 1) := by decide +kernel
theorem d_BF_isSender_33 : decode prog_1_method_23_code 33 = .ok (.iaload, 1) := by decide +kernel
theorem d_BF_isSender_34 : decode prog_1_method_23_code 34 = .ok (.imul, 1) := by decide +kernel
theorem d_BF_isSender_35 : decode prog_1_method_23_code 35 = .ok (.aload_n 0, 1) := by decide +kernel
theorem d_BF_isSender_36 : decode prog_1_method_23_code 36 = .ok (.getfield 69, 3) := by decide +kernel
theorem d_BF_isSender_39 : decode prog_1_method_23_code 39 = .ok (.if_icmp .gt 7, 3) := by decide +kernel
theorem d_BF_isSender_42 : decode prog_1_method_23_code 42 = .ok (.iconst 1, 1) := by decide +kernel
theorem d_BF_isSender_43 : decode prog_1_method_23_code 43 = .ok (.goto 4, 3) := by decide +kernel
theorem d_BF_isSender_46 : decode prog_1_method_23_code 46 = .ok (.iconst 0, 1) := by decide +kernel
theorem d_BF_isSender_47 : decode prog_1_method_23_code 47 = .ok (.ireturn, 1) := by decide +kernel
theorem d_BF_liesInPane_0 : decode prog_1_method_24_code 0 = .ok (.iconst 0, 1) := by decide +kernel
theorem d_BF_liesInPane_1 : decode prog_1_method_24_code 1 = .ok (.istore_n 2, 1) := by decide +kernel
theorem d_BF_liesInPane_2 : decode prog_1_method_24_code 2 = .ok (.iload_n 2, 1) := by decide +kernel
theorem d_BF_liesInPane_3 : decode prog_1_method_24_code 3 = .ok (.aload_n 0, 1) := by decide +kernel
theorem d_BF_liesInPane_4 : decode prog_1_method_24_code 4 = .ok (.getfield 18, 3) := by decide +kernel
theorem d_BF_liesInPane_7 : decode prog_1_method_24_code 7 = .ok (.getfield 110, 3) := by decide +kernel
theorem d_BF_liesInPane_10 : decode prog_1_method_24_code 10 = .ok (.if_icmp .ge 30, 3) := by decide +kernel
theorem d_BF_liesInPane_13 : decode prog_1_method_24_code 13 = .ok (.aload_n 0, 1) := by decide +kernel
theorem d_BF_liesInPane_14 : decode prog_1_method_24_code 14 = .ok (.getfield 18, 3) := by decide +kernel
theorem d_BF_liesInPane_17 : decode prog_1_method_24_code 17 = .ok (.iload_n 2, 1) := by decide +kernel
theorem d_BF_liesInPane_18 : decode prog_1_method_24_code 18 = .ok (.aload_n 0, 1) := by decide +kernel
theorem d_BF_liesInPane_19 : decode prog_1_method_24_code 19 = .ok (.getfield 41, 3) := by decide +kernel
theorem d_BF_liesInPane_22 : decode prog_1_method_24_code 22 = .ok (.getfield 90, 3) := by decide +kernel
theorem d_BF_liesInPane_25 : decode prog_1_method_24_code 25 = .ok (.iload_n 1, 1) := by decide +kernel
theorem d_BF_liesInPane_26 : decode prog_1_method_24_code 26 = .ok (.invokevirtual 202, 3) := by decide +kernel
theorem d_BF_liesInPane_29 : decode prog_1_method_24_code 29 = .ok (.ifCond .eq 5, 3) := by decide +kernel
theorem d_BF_liesInPane_32 : decode prog_1_method_24_code 32 = .ok (.iconst 1, 1) := by decide +kernel
theorem d_BF_liesInPane_33 : decode prog_1_method_24_code 33 = .ok (.ireturn, 1) := by decide +kernel
theorem d_BF_liesInPane_34 : decode prog_1_method_24_code 34 = .ok (.iinc 2 1, 3) := by decide +kernel
theorem d_BF_liesInPane_37 : decode prog_1_method_24_code 37 = .ok (.goto (-35), 3) := by decide +kernel
theorem d_BF_liesInPane_40 : decode prog_1_method_24_code 40 = .ok (.iconst 0, 1) := by decide +kernel
theorem d_BF_liesInPane_41 : decode prog_1_method_24_code 41 = .ok (.ireturn, 1) := by decide +kernel
theorem d_BF_lineInBlock_0 : decode prog_1_method_25_code 0 = .ok (.iconst 0, 1) := by decide +kernel
theorem d_BF_lineInBlock_1 : decode prog_1_method_25_code 1 = .ok (.istore_n 3, 1) := by decide +kernel
theorem d_BF_lineInBlock_2 : decode prog_1_method_25_code 2 = .ok (.iconst 0, 1) := by decide +kernel
theorem d_BF_lineInBlock_3 : decode prog_1_method_25_code 3 = .ok (.istore 4, 2) := by decide +kernel
theorem d_BF_lineInBlock_5 : decode prog_1_method_25_code 5 = .ok (.iload 4, 2) := by decide +kernel
theorem d_BF_lineInBlock_7 : decode prog_1_method_25_code 7 = .ok (.aload_n 0, 1) := by decide +kernel
theorem d_BF_lineInBlock_8 : decode prog_1_method_25_code 8 = .ok (.getfield 37, 3) := by decide +kernel
theorem d_BF_lineInBlock_11 : decode prog_1_method_25_code 11 = .ok (.invokevirtual 96, 3) := by decide +kernel
theorem d_BF_lineInBlock_14 : decode prog_1_method_25_code 14 = .ok (.if_icmp .ge 46, 3) := by decide +kernel
theorem d_BF_lineInBlock_17 : decode prog_1_method_25_code 17 = .ok (.aload_n 0, 1) := by decide +kernel
theorem d_BF_lineInBlock_18 : decode prog_1_method_25_code 18 = .ok (.getfield 37, 3) := by decide +kernel
theorem d_BF_lineInBlock_21 : decode prog_1_method_25_code 21 = .ok (.getfield 124, 3) := by decide +kernel
theorem d_BF_lineInBlock_24 : decode prog_1_method_25_code 24 = .ok (.iload 4, 2) := by decide +kernel
theorem d_BF_lineInBlock_26 : decode prog_1_method_25_code 26 = .ok (.iaload, 1) := by decide +kernel
theorem d_BF_lineInBlock_27 : decode prog_1_method_25_code 27 = .ok (.istore 5, 2) := by decide +kernel
theorem d_BF_lineInBlock_29 : decode prog_1_method_25_code 29 = .ok (.aload_n 0, 1) := by decide +kernel
theorem d_BF_lineInBlock_30 : decode prog_1_method_25_code 30 = .ok (.getfield 41, 3) := by decide +kernel
theorem d_BF_lineInBlock_33 : decode prog_1_method_25_code 33 = .ok (.getfield 171, 3) := by decide +kernel
theorem d_BF_lineInBlock_36 : decode prog_1_method_25_code 36 = .ok (.iload 5, 2) := by decide +kernel
theorem d_BF_lineInBlock_38 : decode prog_1_method_25_code 38 = .ok (.iaload, 1) := by decide +kernel
theorem d_BF_lineInBlock_39 : decode prog_1_method_25_code 39 = .ok (.iload_n 1, 1) := by decide +kernel
theorem d_BF_lineInBlock_40 : decode prog_1_method_25_code 40 = .ok (.if_icmp .ne 14, 3) := by decide +kernel
theorem d_BF_lineInBlock_43 : decode prog_1_method_25_code 43 = .ok (.iload_n 3, 1) := by decide +kernel
theorem d_BF_lineInBlock_44 : decode prog_1_method_25_code 44 = .ok (.iload_n 2, 1) := by decide +kernel
theorem d_BF_lineInBlock_45 : decode prog_1_method_25_code 45 = .ok (.if_icmp .ne 6, 3) := by decide +kernel
theorem d_BF_lineInBlock_48 : decode prog_1_method_25_code 48 = .ok (.iload 5, 2) := by decide +kernel
theorem d_BF_lineInBlock_50 : decode prog_1_method_25_code 50 = .ok (.ireturn, 1) := by decide +kernel
theorem d_BF_lineInBlock_51 : decode prog_1_method_25_code 51 = .ok (.iinc 3 1, 3) := by decide +kernel
theorem d_BF_lineInBlock_54 : decode prog_1_method_25_code 54 = .ok (.iinc 4 1, 3) := by decide +kernel
theorem d_BF_lineInBlock_57 : decode prog_1_method_25_code 57 = .ok (.goto (-52), 3) := by decide +kernel
theorem d_BF_lineInBlock_60 : decode prog_1_method_25_code 60 = .ok (.iconst (-1), 1) := by decide +kernel
theorem d_BF_lineInBlock_61 : decode prog_1_method_25_code 61 = .ok (.ireturn, 1) := by decide +kernel
