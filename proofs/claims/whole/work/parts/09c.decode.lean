theorem d_RM_init_0 : decode prog_6_method_1_code 0 = .ok (.aload_n 0, 1) := by decide +kernel
theorem d_RM_init_1 : decode prog_6_method_1_code 1 = .ok (.invokespecial 1, 3) := by decide +kernel
theorem d_RM_init_4 : decode prog_6_method_1_code 4 = .ok (.aload_n 0, 1) := by decide +kernel
theorem d_RM_init_5 : decode prog_6_method_1_code 5 = .ok (.sipush 256, 3) := by decide +kernel
theorem d_RM_init_8 : decode prog_6_method_1_code 8 = .ok (.newarray .int, 2) := by decide +kernel
theorem d_RM_init_10 : decode prog_6_method_1_code 10 = .ok (.putfield 7, 3) := by decide +kernel
theorem d_RM_init_13 : decode prog_6_method_1_code 13 = .ok (.aload_n 0, 1) := by decide +kernel
theorem d_RM_init_14 : decode prog_6_method_1_code 14 = .ok (.bipush 32, 2) := by decide +kernel
theorem d_RM_init_16 : decode prog_6_method_1_code 16 = .ok (.newarray .int, 2) := by decide +kernel
theorem d_RM_init_18 : decode prog_6_method_1_code 18 = .ok (.putfield 13, 3) := by decide +kernel
theorem d_RM_init_21 : decode prog_6_method_1_code 21 = .ok (.aload_n 0, 1) := by decide +kernel
theorem d_RM_init_22 : decode prog_6_method_1_code 22 = .ok (.bipush 64, 2) := by decide +kernel
theorem d_RM_init_24 : decode prog_6_method_1_code 24 = .ok (.newarray .int, 2) := by decide +kernel
theorem d_RM_init_26 : decode prog_6_method_1_code 26 = .ok (.putfield 16, 3) := by decide +kernel
theorem d_RM_init_29 : decode prog_6_method_1_code 29 = .ok (.aload_n 0, 1) := by decide +kernel
theorem d_RM_init_30 : decode prog_6_method_1_code 30 = .ok (.sipush 256, 3) := by decide +kernel
theorem d_RM_init_33 : decode prog_6_method_1_code 33 = .ok (.newarray .int, 2) := by decide +kernel
theorem d_RM_init_35 : decode prog_6_method_1_code 35 = .ok (.putfield 19, 3) := by decide +kernel
theorem d_RM_init_38 : decode prog_6_method_1_code 38 = .ok (.aload_n 0, 1) := by decide +kernel
theorem d_RM_init_39 : decode prog_6_method_1_code 39 = .ok (.bipush 64, 2) := by decide +kernel
theorem d_RM_init_41 : decode prog_6_method_1_code 41 = .ok (.newarray .int, 2) := by decide +kernel
theorem d_RM_init_43 : decode prog_6_method_1_code 43 = .ok (.putfield 22, 3) := by decide +kernel
theorem d_RM_init_46 : decode prog_6_method_1_code 46 = .ok (.aload_n 0, 1) := by decide +kernel
theorem d_RM_init_47 : decode prog_6_method_1_code 47 = .ok (.bipush 64, 2) := by decide +kernel
theorem d_RM_init_49 : decode prog_6_method_1_code 49 = .ok (.newarray .int, 2) := by decide +kernel
theorem d_RM_init_51 : decode prog_6_method_1_code 51 = .ok (.putfield 25, 3) := by decide +kernel
theorem d_RM_init_54 : decode prog_6_method_1_code 54 = .ok (.aload_n 0, 1) := by decide +kernel
theorem d_RM_init_55 : decode prog_6_method_1_code 55 = .ok (.sipush 256, 3) := by decide +kernel
theorem d_RM_init_58 : decode prog_6_method_1_code 58 = .ok (.newarray .int, 2) := by decide +kernel
theorem d_RM_init_60 : decode prog_6_method_1_code 60 = .ok (.putfield 28, 3) := by decide +kernel
theorem d_RM_init_63 : decode prog_6_method_1_code 63 = .ok (.aload_n 0, 1) := by decide +kernel
theorem d_RM_init_64 : decode prog_6_method_1_code 64 = .ok (.bipush 64, 2) := by decide +kernel
theorem d_RM_init_66 : decode prog_6_method_1_code 66 = .ok (.newarray .int, 2) := by decide +kernel
theorem d_RM_init_68 : decode prog_6_method_1_code 68 = .ok (.putfield 31, 3) := by decide +kernel
theorem d_RM_init_71 : decode prog_6_method_1_code 71 = .ok (.aload_n 0, 1) := by decide +kernel
theorem d_RM_init_72 : decode prog_6_method_1_code 72 = .ok (.bipush 64, 2) := by decide +kernel
theorem d_RM_init_74 : decode prog_6_method_1_code 74 = .ok (.newarray .int, 2) := by decide +kernel
theorem d_RM_init_76 : decode prog_6_method_1_code 76 = .ok (.putfield 34, 3) := by decide +kernel
theorem d_RM_init_79 : decode prog_6_method_1_code 79 = .ok (.aload_n 0, 1) := by decide +kernel
theorem d_RM_init_80 : decode prog_6_method_1_code 80 = .ok (.bipush 64, 2) := by decide +kernel
theorem d_RM_init_82 : decode prog_6_method_1_code 82 = .ok (.newarray .boolean, 2) := by decide +kernel
theorem d_RM_init_84 : decode prog_6_method_1_code 84 = .ok (.putfield 37, 3) := by decide +kernel
theorem d_RM_init_87 : decode prog_6_method_1_code 87 = .ok (.aload_n 0, 1) := by decide +kernel
theorem d_RM_init_88 : decode prog_6_method_1_code 88 = .ok (.bipush 64, 2) := by decide +kernel
theorem d_RM_init_90 : decode prog_6_method_1_code 90 = .ok (.newarray .int, 2) := by decide +kernel
theorem d_RM_init_92 : decode prog_6_method_1_code 92 = .ok (.putfield 41, 3) := by decide +kernel
theorem d_RM_init_95 : decode prog_6_method_1_code 95 = .ok (.aload_n 0, 1) := by decide +kernel
theorem d_RM_init_96 : decode prog_6_method_1_code 96 = .ok (.sipush 256, 3) := by decide +kernel
theorem d_RM_init_99 : decode prog_6_method_1_code 99 = .ok (.newarray .int, 2) := by decide +kernel
theorem d_RM_init_101 : decode prog_6_method_1_code 101 = .ok (.putfield 44, 3) := by decide +kernel
theorem d_RM_init_104 : decode prog_6_method_1_code 104 = .ok (.aload_n 0, 1) := by decide +kernel
theorem d_RM_init_105 : decode prog_6_method_1_code 105 = .ok (.bipush 64, 2) := by decide +kernel
theorem d_RM_init_107 : decode prog_6_method_1_code 107 = .ok (.newarray .int, 2) := by decide +kernel
theorem d_RM_init_109 : decode prog_6_method_1_code 109 = .ok (.putfield 47, 3) := by decide +kernel
theorem d_RM_init_112 : decode prog_6_method_1_code 112 = .ok (.aload_n 0, 1) := by decide +kernel
theorem d_RM_init_113 : decode prog_6_method_1_code 113 = .ok (.bipush 64, 2) := by decide +kernel
theorem d_RM_init_115 : decode prog_6_method_1_code 115 = .ok (.newarray .int, 2) := by decide +kernel
theorem d_RM_init_117 : decode prog_6_method_1_code 117 = .ok (.putfield 50, 3) := by decide +kernel
theorem d_RM_init_120 : decode prog_6_method_1_code 120 = .ok (.aload_n 0, 1) := by decide +kernel
theorem d_RM_init_121 : decode prog_6_method_1_code 121 = .ok (.bipush 64, 2) := by decide +kernel
theorem d_RM_init_123 : decode prog_6_method_1_code 123 = .ok (.newarray .int, 2) := by decide +kernel
theorem d_RM_init_125 : decode prog_6_method_1_code 125 = .ok (.putfield 53, 3) := by decide +kernel
theorem d_RM_init_128 : decode prog_6_method_1_code 128 = .ok (.aload_n 0, 1) := by decide +kernel
theorem d_RM_init_129 : decode prog_6_method_1_code 129 = .ok (.bipush 64, 2) := by decide +kernel
theorem d_RM_init_131 : decode prog_6_method_1_code 131 = .ok (.newarray .int, 2) := by decide +kernel
theorem d_RM_init_133 : decode prog_6_method_1_code 133 = .ok (.putfield 56, 3) := by decide +kernel
theorem d_RM_init_136 : decode prog_6_method_1_code 136 = .ok (.aload_n 0, 1) := by decide +kernel
theorem d_RM_init_137 : decode prog_6_method_1_code 137 = .ok (.iload_n 1, 1) := by decide +kernel
theorem d_RM_init_138 : decode prog_6_method_1_code 138 = .ok (.iconst 1, 1) := by decide +kernel
theorem d_RM_init_139 : decode prog_6_method_1_code 139 = .ok (.if_icmp .ge 7, 3) := by decide +kernel
theorem d_RM_init_142 : decode prog_6_method_1_code 142 = .ok (.iconst 1, 1) := by decide +kernel
theorem d_RM_init_143 : decode prog_6_method_1_code 143 = .ok (.goto 17, 3) := by decide +kernel
theorem d_RM_init_146 : decode prog_6_method_1_code 146 = .ok (.iload_n 1, 1) := by decide +kernel
theorem d_RM_init_147 : decode prog_6_method_1_code 147 = .ok (.sipush 4096, 3) := by decide +kernel
theorem d_RM_init_150 : decode prog_6_method_1_code 150 = .ok (.if_icmp .le 9, 3) := by decide +kernel
theorem d_RM_init_153 : decode prog_6_method_1_code 153 = .ok (.sipush 4096, 3) := by decide +kernel
theorem d_RM_init_156 : decode prog_6_method_1_code 156 = .ok (.goto 4, 3) := by decide +kernel
theorem d_RM_init_159 : decode prog_6_method_1_code 159 = .ok (.iload_n 1, 1) := by decide +kernel
theorem d_RM_init_160 : decode prog_6_method_1_code 160 = .ok (.putfield 59, 3) := by decide +kernel
theorem d_RM_init_163 : decode prog_6_method_1_code 163 = .ok (.aload_n 0, 1) := by decide +kernel
theorem d_RM_init_164 : decode prog_6_method_1_code 164 = .ok (.iload_n 2, 1) := by decide +kernel
theorem d_RM_init_165 : decode prog_6_method_1_code 165 = .ok (.iconst 1, 1) := by decide +kernel
theorem d_RM_init_166 : decode prog_6_method_1_code 166 = .ok (.if_icmp .ge 7, 3) := by decide +kernel
theorem d_RM_init_169 : decode prog_6_method_1_code 169 = .ok (.iconst 1, 1) := by decide +kernel
theorem d_RM_init_170 : decode prog_6_method_1_code 170 = .ok (.goto 17, 3) := by decide +kernel
theorem d_RM_init_173 : decode prog_6_method_1_code 173 = .ok (.iload_n 2, 1) := by decide +kernel
theorem d_RM_init_174 : decode prog_6_method_1_code 174 = .ok (.sipush 4096, 3) := by decide +kernel
theorem d_RM_init_177 : decode prog_6_method_1_code 177 = .ok (.if_icmp .le 9, 3) := by decide +kernel
theorem d_RM_init_180 : decode prog_6_method_1_code 180 = .ok (.sipush 4096, 3) := by decide +kernel
theorem d_RM_init_183 : decode prog_6_method_1_code 183 = .ok (.goto 4, 3) := by decide +kernel
theorem d_RM_init_186 : decode prog_6_method_1_code 186 = .ok (.iload_n 2, 1) := by decide +kernel
theorem d_RM_init_187 : decode prog_6_method_1_code 187 = .ok (.putfield 63, 3) := by decide +kernel
theorem d_RM_init_190 : decode prog_6_method_1_code 190 = .ok (.return_, 1) := by decide +kernel
theorem d_RM_isOnSheet_0 : decode prog_6_method_3_code 0 = .ok (.iload_n 3, 1) := by decide +kernel
theorem d_RM_isOnSheet_1 : decode prog_6_method_3_code 1 = .ok (.iconst 1, 1) := by decide +kernel
theorem d_RM_isOnSheet_2 : decode prog_6_method_3_code 2 = .ok (.if_icmp .lt 50, 3) := by decide +kernel
theorem d_RM_isOnSheet_5 : decode prog_6_method_3_code 5 = .ok (.iload 4, 2) := by decide +kernel
theorem d_RM_isOnSheet_7 : decode prog_6_method_3_code 7 = .ok (.iconst 1, 1) := by decide +kernel
theorem d_RM_isOnSheet_8 : decode prog_6_method_3_code 8 = .ok (.if_icmp .lt 44, 3) := by decide +kernel
theorem d_RM_isOnSheet_11 : decode prog_6_method_3_code 11 = .ok (.iload_n 1, 1) := by decide +kernel
theorem d_RM_isOnSheet_12 : decode prog_6_method_3_code 12 = .ok (.ifCond .lt 40, 3) := by decide +kernel
theorem d_RM_isOnSheet_15 : decode prog_6_method_3_code 15 = .ok (.iload_n 2, 1) := by decide +kernel
theorem d_RM_isOnSheet_16 : decode prog_6_method_3_code 16 = .ok (.ifCond .lt 36, 3) := by decide +kernel
theorem d_RM_isOnSheet_19 : decode prog_6_method_3_code 19 = .ok (.iload_n 1, 1) := by decide +kernel
theorem d_RM_isOnSheet_20 : decode prog_6_method_3_code 20 = .ok (.i2l, 1) := by decide +kernel
theorem d_RM_isOnSheet_21 : decode prog_6_method_3_code 21 = .ok (.iload_n 3, 1) := by decide +kernel
theorem d_RM_isOnSheet_22 : decode prog_6_method_3_code 22 = .ok (.i2l, 1) := by decide +kernel
theorem d_RM_isOnSheet_23 : decode prog_6_method_3_code 23 = .ok (.ladd, 1) := by decide +kernel
theorem d_RM_isOnSheet_24 : decode prog_6_method_3_code 24 = .ok (.aload_n 0, 1) := by decide +kernel
theorem d_RM_isOnSheet_25 : decode prog_6_method_3_code 25 = .ok (.getfield 59, 3) := by decide +kernel
theorem d_RM_isOnSheet_28 : decode prog_6_method_3_code 28 = .ok (.i2l, 1) := by decide +kernel
theorem d_RM_isOnSheet_29 : decode prog_6_method_3_code 29 = .ok (.lcmp, 1) := by decide +kernel
theorem d_RM_isOnSheet_30 : decode prog_6_method_3_code 30 = .ok (.ifCond .gt 22, 3) := by decide +kernel
theorem d_RM_isOnSheet_33 : decode prog_6_method_3_code 33 = .ok (.iload_n 2, 1) := by decide +kernel
theorem d_RM_isOnSheet_34 : decode prog_6_method_3_code 34 = .ok (.i2l, 1) := by decide +kernel
theorem d_RM_isOnSheet_35 : decode prog_6_method_3_code 35 = .ok (.iload 4, 2) := by decide +kernel
theorem d_RM_isOnSheet_37 : decode prog_6_method_3_code 37 = .ok (.i2l, 1) := by decide +kernel
theorem d_RM_isOnSheet_38 : decode prog_6_method_3_code 38 = .ok (.ladd, 1) := by decide +kernel
theorem d_RM_isOnSheet_39 : decode prog_6_method_3_code 39 = .ok (.aload_n 0, 1) := by decide +kernel
theorem d_RM_isOnSheet_40 : decode prog_6_method_3_code 40 = .ok (.getfield 63, 3) := by decide +kernel
theorem d_RM_isOnSheet_43 : decode prog_6_method_3_code 43 = .ok (.i2l, 1) := by decide +kernel
theorem d_RM_isOnSheet_44 : decode prog_6_method_3_code 44 = .ok (.lcmp, 1) := by decide +kernel
theorem d_RM_isOnSheet_45 : decode prog_6_method_3_code 45 = .ok (.ifCond .gt 7, 3) := by decide +kernel
theorem d_RM_isOnSheet_48 : decode prog_6_method_3_code 48 = .ok (.iconst 1, 1) := by decide +kernel
theorem d_RM_isOnSheet_49 : decode prog_6_method_3_code 49 = .ok (.goto 4, 3) := by decide +kernel
theorem d_RM_isOnSheet_52 : decode prog_6_method_3_code 52 = .ok (.iconst 0, 1) := by decide +kernel
theorem d_RM_isOnSheet_53 : decode prog_6_method_3_code 53 = .ok (.ireturn, 1) := by decide +kernel
theorem d_RM_box_0 : decode prog_6_method_4_code 0 = .ok (.aload_n 0, 1) := by decide +kernel
theorem d_RM_box_1 : decode prog_6_method_4_code 1 = .ok (.iconst 0, 1) := by decide +kernel
theorem d_RM_box_2 : decode prog_6_method_4_code 2 = .ok (.putfield 66, 3) := by decide +kernel
theorem d_RM_box_5 : decode prog_6_method_4_code 5 = .ok (.aload_n 0, 1) := by decide +kernel
theorem d_RM_box_6 : decode prog_6_method_4_code 6 = .ok (.iload_n 1, 1) := by decide +kernel
theorem d_RM_box_7 : decode prog_6_method_4_code 7 = .ok (.iload_n 2, 1) := by decide +kernel
theorem d_RM_box_8 : decode prog_6_method_4_code 8 = .ok (.iload_n 3, 1) := by decide +kernel
theorem d_RM_box_9 : decode prog_6_method_4_code 9 = .ok (.iload 4, 2) := by decide +kernel
theorem d_RM_box_11 : decode prog_6_method_4_code 11 = .ok (.invokevirtual 69, 3) := by decide +kernel
theorem d_RM_box_14 : decode prog_6_method_4_code 14 = .ok (.ifCond .ne 6, 3) := by decide +kernel
theorem d_RM_box_17 : decode prog_6_method_4_code 17 = .ok (.bipush (-12), 2) := by decide +kernel
theorem d_RM_box_19 : decode prog_6_method_4_code 19 = .ok (.ireturn, 1) := by decide +kernel
theorem d_RM_box_20 : decode prog_6_method_4_code 20 = .ok (.aload_n 0, 1) := by decide +kernel
theorem d_RM_box_21 : decode prog_6_method_4_code 21 = .ok (.getfield 73, 3) := by decide +kernel
theorem d_RM_box_24 : decode prog_6_method_4_code 24 = .ok (.bipush 64, 2) := by decide +kernel
theorem d_RM_box_26 : decode prog_6_method_4_code 26 = .ok (.if_icmp .ne 6, 3) := by decide +kernel
theorem d_RM_box_29 : decode prog_6_method_4_code 29 = .ok (.bipush (-14), 2) := by decide +kernel
theorem d_RM_box_31 : decode prog_6_method_4_code 31 = .ok (.ireturn, 1) := by decide +kernel
theorem d_RM_box_32 : decode prog_6_method_4_code 32 = .ok (.aload_n 0, 1) := by decide +kernel
theorem d_RM_box_33 : decode prog_6_method_4_code 33 = .ok (.getfield 7, 3) := by decide +kernel
theorem d_RM_box_36 : decode prog_6_method_4_code 36 = .ok (.iconst 4, 1) := by decide +kernel
theorem d_RM_box_37 : decode prog_6_method_4_code 37 = .ok (.aload_n 0, 1) := by decide +kernel
theorem d_RM_box_38 : decode prog_6_method_4_code 38 = .ok (.getfield 73, 3) := by decide +kernel
theorem d_RM_box_41 : decode prog_6_method_4_code 41 = .ok (.imul, 1) := by decide +kernel
theorem d_RM_box_42 : decode prog_6_method_4_code 42 = .ok (.iload_n 1, 1) := by decide +kernel
theorem d_RM_box_43 : decode prog_6_method_4_code 43 = .ok (.iastore, 1) := by decide +kernel
theorem d_RM_box_44 : decode prog_6_method_4_code 44 = .ok (.aload_n 0, 1) := by decide +kernel
theorem d_RM_box_45 : decode prog_6_method_4_code 45 = .ok (.getfield 7, 3) := by decide +kernel
theorem d_RM_box_48 : decode prog_6_method_4_code 48 = .ok (.iconst 4, 1) := by decide +kernel
theorem d_RM_box_49 : decode prog_6_method_4_code 49 = .ok (.aload_n 0, 1) := by decide +kernel
theorem d_RM_box_50 : decode prog_6_method_4_code 50 = .ok (.getfield 73, 3) := by decide +kernel
theorem d_RM_box_53 : decode prog_6_method_4_code 53 = .ok (.imul, 1) := by decide +kernel
theorem d_RM_box_54 : decode prog_6_method_4_code 54 = .ok (.iconst 1, 1) := by decide +kernel
theorem d_RM_box_55 : decode prog_6_method_4_code 55 = .ok (.iadd, 1) := by decide +kernel
theorem d_RM_box_56 : decode prog_6_method_4_code 56 = .ok (.iload_n 2, 1) := by decide +kernel
theorem d_RM_box_57 : decode prog_6_method_4_code 57 = .ok (.iastore, 1) := by decide +kernel
theorem d_RM_box_58 : decode prog_6_method_4_code 58 = .ok (.aload_n 0, 1) := by decide +kernel
theorem d_RM_box_59 : decode prog_6_method_4_code 59 = .ok (.getfield 7, 3) := by decide +kernel
theorem d_RM_box_62 : decode prog_6_method_4_code 62 = .ok (.iconst 4, 1) := by decide +kernel
theorem d_RM_box_63 : decode prog_6_method_4_code 63 = .ok (.aload_n 0, 1) := by decide +kernel
theorem d_RM_box_64 : decode prog_6_method_4_code 64 = .ok (.getfield 73, 3) := by decide +kernel
theorem d_RM_box_67 : decode prog_6_method_4_code 67 = .ok (.imul, 1) := by decide +kernel
theorem d_RM_box_68 : decode prog_6_method_4_code 68 = .ok (.iconst 2, 1) := by decide +kernel
theorem d_RM_box_69 : decode prog_6_method_4_code 69 = .ok (.iadd, 1) := by decide +kernel
theorem d_RM_box_70 : decode prog_6_method_4_code 70 = .ok (.iload_n 3, 1) := by decide +kernel
theorem d_RM_box_71 : decode prog_6_method_4_code 71 = .ok (.iastore, 1) := by decide +kernel
theorem d_RM_box_72 : decode prog_6_method_4_code 72 = .ok (.aload_n 0, 1) := by decide +kernel
theorem d_RM_box_73 : decode prog_6_method_4_code 73 = .ok (.getfield 7, 3) := by decide +kernel
theorem d_RM_box_76 : decode prog_6_method_4_code 76 = .ok (.iconst 4, 1) := by decide +kernel
theorem d_RM_box_77 : decode prog_6_method_4_code 77 = .ok (.aload_n 0, 1) := by decide +kernel
theorem d_RM_box_78 : decode prog_6_method_4_code 78 = .ok (.getfield 73, 3) := by decide +kernel
theorem d_RM_box_81 : decode prog_6_method_4_code 81 = .ok (.imul, 1) := by decide +kernel
theorem d_RM_box_82 : decode prog_6_method_4_code 82 = .ok (.iconst 3, 1) := by decide +kernel
theorem d_RM_box_83 : decode prog_6_method_4_code 83 = .ok (.iadd, 1) := by decide +kernel
theorem d_RM_box_84 : decode prog_6_method_4_code 84 = .ok (.iload 4, 2) := by decide +kernel
theorem d_RM_box_86 : decode prog_6_method_4_code 86 = .ok (.iastore, 1) := by decide +kernel
theorem d_RM_box_87 : decode prog_6_method_4_code 87 = .ok (.aload_n 0, 1) := by decide +kernel
theorem d_RM_box_88 : decode prog_6_method_4_code 88 = .ok (.dup, 1) := by decide +kernel
theorem d_RM_box_89 : decode prog_6_method_4_code 89 = .ok (.getfield 73, 3) := by decide +kernel
theorem d_RM_box_92 : decode prog_6_method_4_code 92 = .ok (.iconst 1, 1) := by decide +kernel
theorem d_RM_box_93 : decode prog_6_method_4_code 93 = .ok (.iadd, 1) := by decide +kernel
theorem d_RM_box_94 : decode prog_6_method_4_code 94 = .ok (.putfield 73, 3) := by decide +kernel
theorem d_RM_box_97 : decode prog_6_method_4_code 97 = .ok (.aload_n 0, 1) := by decide +kernel
theorem d_RM_box_98 : decode prog_6_method_4_code 98 = .ok (.getfield 73, 3) := by decide +kernel
theorem d_RM_box_101 : decode prog_6_method_4_code 101 = .ok (.iconst 1, 1) := by decide +kernel
theorem d_RM_box_102 : decode prog_6_method_4_code 102 = .ok (.isub, 1) := by decide +kernel
theorem d_RM_box_103 : decode prog_6_method_4_code 103 = .ok (.ireturn, 1) := by decide +kernel
theorem d_RM_frame_0 : decode prog_6_method_5_code 0 = .ok (.aload_n 0, 1) := by decide +kernel
theorem d_RM_frame_1 : decode prog_6_method_5_code 1 = .ok (.iconst 0, 1) := by decide +kernel
theorem d_RM_frame_2 : decode prog_6_method_5_code 2 = .ok (.putfield 66, 3) := by decide +kernel
theorem d_RM_frame_5 : decode prog_6_method_5_code 5 = .ok (.aload_n 0, 1) := by decide +kernel
theorem d_RM_frame_6 : decode prog_6_method_5_code 6 = .ok (.iload_n 1, 1) := by decide +kernel
theorem d_RM_frame_7 : decode prog_6_method_5_code 7 = .ok (.iload_n 2, 1) := by decide +kernel
theorem d_RM_frame_8 : decode prog_6_method_5_code 8 = .ok (.iload_n 3, 1) := by decide +kernel
theorem d_RM_frame_9 : decode prog_6_method_5_code 9 = .ok (.iload 4, 2) := by decide +kernel
theorem d_RM_frame_11 : decode prog_6_method_5_code 11 = .ok (.invokevirtual 69, 3) := by decide +kernel
theorem d_RM_frame_14 : decode prog_6_method_5_code 14 = .ok (.ifCond .ne 6, 3) := by decide +kernel
theorem d_RM_frame_17 : decode prog_6_method_5_code 17 = .ok (.bipush (-12), 2) := by decide +kernel
theorem d_RM_frame_19 : decode prog_6_method_5_code 19 = .ok (.ireturn, 1) := by decide +kernel
theorem d_RM_frame_20 : decode prog_6_method_5_code 20 = .ok (.aload_n 0, 1) := by decide +kernel
theorem d_RM_frame_21 : decode prog_6_method_5_code 21 = .ok (.getfield 76, 3) := by decide +kernel
theorem d_RM_frame_24 : decode prog_6_method_5_code 24 = .ok (.bipush 8, 2) := by decide +kernel
theorem d_RM_frame_26 : decode prog_6_method_5_code 26 = .ok (.if_icmp .ne 6, 3) := by decide +kernel
theorem d_RM_frame_29 : decode prog_6_method_5_code 29 = .ok (.bipush (-14), 2) := by decide +kernel
theorem d_RM_frame_31 : decode prog_6_method_5_code 31 = .ok (.ireturn, 1) := by decide +kernel
theorem d_RM_frame_32 : decode prog_6_method_5_code 32 = .ok (.aload_n 0, 1) := by decide +kernel
theorem d_RM_frame_33 : decode prog_6_method_5_code 33 = .ok (.getfield 13, 3) := by decide +kernel
theorem d_RM_frame_36 : decode prog_6_method_5_code 36 = .ok (.iconst 4, 1) := by decide +kernel
theorem d_RM_frame_37 : decode prog_6_method_5_code 37 = .ok (.aload_n 0, 1) := by decide +kernel
theorem d_RM_frame_38 : decode prog_6_method_5_code 38 = .ok (.getfield 76, 3) := by decide +kernel
theorem d_RM_frame_41 : decode prog_6_method_5_code 41 = .ok (.imul, 1) := by decide +kernel
theorem d_RM_frame_42 : decode prog_6_method_5_code 42 = .ok (.iload_n 1, 1) := by decide +kernel
theorem d_RM_frame_43 : decode prog_6_method_5_code 43 = .ok (.iastore, 1) := by decide +kernel
theorem d_RM_frame_44 : decode prog_6_method_5_code 44 = .ok (.aload_n 0, 1) := by decide +kernel
theorem d_RM_frame_45 : decode prog_6_method_5_code 45 = .ok (.getfield 13, 3) := by decide +kernel
theorem d_RM_frame_48 : decode prog_6_method_5_code 48 = .ok (.iconst 4, 1) := by decide +kernel
theorem d_RM_frame_49 : decode prog_6_method_5_code 49 = .ok (.aload_n 0, 1) := by decide +kernel
theorem d_RM_frame_50 : decode prog_6_method_5_code 50 = .ok (.getfield 76, 3) := by decide +kernel
theorem d_RM_frame_53 : decode prog_6_method_5_code 53 = .ok (.imul, 1) := by decide +kernel
theorem d_RM_frame_54 : decode prog_6_method_5_code 54 = .ok (.iconst 1, 1) := by decide +kernel
theorem d_RM_frame_55 : decode prog_6_method_5_code 55 = .ok (.iadd, 1) := by decide +kernel
theorem d_RM_frame_56 : decode prog_6_method_5_code 56 = .ok (.iload_n 2, 1) := by decide +kernel
theorem d_RM_frame_57 : decode prog_6_method_5_code 57 = .ok (.iastore, 1) := by decide +kernel
theorem d_RM_frame_58 : decode prog_6_method_5_code 58 = .ok (.aload_n 0, 1) := by decide +kernel
theorem d_RM_frame_59 : decode prog_6_method_5_code 59 = .ok (.getfield 13, 3) := by decide +kernel
theorem d_RM_frame_62 : decode prog_6_method_5_code 62 = .ok (.iconst 4, 1) := by decide +kernel
theorem d_RM_frame_63 : decode prog_6_method_5_code 63 = .ok (.aload_n 0, 1) := by decide +kernel
theorem d_RM_frame_64 : decode prog_6_method_5_code 64 = .ok (.getfield 76, 3) := by decide +kernel
theorem d_RM_frame_67 : decode prog_6_method_5_code 67 = .ok (.imul, 1) := by decide +kernel
theorem d_RM_frame_68 : decode prog_6_method_5_code 68 = .ok (.iconst 2, 1) := by decide +kernel
theorem d_RM_frame_69 : decode prog_6_method_5_code 69 = .ok (.iadd, 1) := by decide +kernel
theorem d_RM_frame_70 : decode prog_6_method_5_code 70 = .ok (.iload_n 3, 1) := by decide +kernel
theorem d_RM_frame_71 : decode prog_6_method_5_code 71 = .ok (.iastore, 1) := by decide +kernel
theorem d_RM_frame_72 : decode prog_6_method_5_code 72 = .ok (.aload_n 0, 1) := by decide +kernel
theorem d_RM_frame_73 : decode prog_6_method_5_code 73 = .ok (.getfield 13, 3) := by decide +kernel
theorem d_RM_frame_76 : decode prog_6_method_5_code 76 = .ok (.iconst 4, 1) := by decide +kernel
theorem d_RM_frame_77 : decode prog_6_method_5_code 77 = .ok (.aload_n 0, 1) := by decide +kernel
theorem d_RM_frame_78 : decode prog_6_method_5_code 78 = .ok (.getfield 76, 3) := by decide +kernel
theorem d_RM_frame_81 : decode prog_6_method_5_code 81 = .ok (.imul, 1) := by decide +kernel
theorem d_RM_frame_82 : decode prog_6_method_5_code 82 = .ok (.iconst 3, 1) := by decide +kernel
theorem d_RM_frame_83 : decode prog_6_method_5_code 83 = .ok (.iadd, 1) := by decide +kernel
theorem d_RM_frame_84 : decode prog_6_method_5_code 84 = .ok (.iload 4, 2) := by decide +kernel
theorem d_RM_frame_86 : decode prog_6_method_5_code 86 = .ok (.iastore, 1) := by decide +kernel
theorem d_RM_frame_87 : decode prog_6_method_5_code 87 = .ok (.aload_n 0, 1) := by decide +kernel
theorem d_RM_frame_88 : decode prog_6_method_5_code 88 = .ok (.dup, 1) := by decide +kernel
theorem d_RM_frame_89 : decode prog_6_method_5_code 89 = .ok (.getfield 76, 3) := by decide +kernel
theorem d_RM_frame_92 : decode prog_6_method_5_code 92 = .ok (.iconst 1, 1) := by decide +kernel
theorem d_RM_frame_93 : decode prog_6_method_5_code 93 = .ok (.iadd, 1) := by decide +kernel
theorem d_RM_frame_94 : decode prog_6_method_5_code 94 = .ok (.putfield 76, 3) := by decide +kernel
theorem d_RM_frame_97 : decode prog_6_method_5_code 97 = .ok (.aload_n 0, 1) := by decide +kernel
theorem d_RM_frame_98 : decode prog_6_method_5_code 98 = .ok (.getfield 76, 3) := by decide +kernel
theorem d_RM_frame_101 : decode prog_6_method_5_code 101 = .ok (.iconst 1, 1) := by decide +kernel
theorem d_RM_frame_102 : decode prog_6_method_5_code 102 = .ok (.isub, 1) := by decide +kernel
theorem d_RM_frame_103 : decode prog_6_method_5_code 103 = .ok (.ireturn, 1) := by decide +kernel
theorem d_RM_side_0 : decode prog_6_method_6_code 0 = .ok (.aload_n 0, 1) := by decide +kernel
theorem d_RM_side_1 : decode prog_6_method_6_code 1 = .ok (.getfield 79, 3) := by decide +kernel
theorem d_RM_side_4 : decode prog_6_method_6_code 4 = .ok (.ifCond .eq 9, 3) := by decide +kernel
theorem d_RM_side_7 : decode prog_6_method_6_code 7 = .ok (.iload_n 2, 1) := by decide +kernel
theorem d_RM_side_8 : decode prog_6_method_6_code 8 = .ok (.iconst 1, 1) := by decide +kernel
theorem d_RM_side_9 : decode prog_6_method_6_code 9 = .ok (.ixor, 1) := by decide +kernel
theorem d_RM_side_10 : decode prog_6_method_6_code 10 = .ok (.goto 4, 3) := by decide +kernel
theorem d_RM_side_13 : decode prog_6_method_6_code 13 = .ok (.iload_n 2, 1) := by decide +kernel
theorem d_RM_side_14 : decode prog_6_method_6_code 14 = .ok (.istore_n 3, 1) := by decide +kernel
theorem d_RM_side_15 : decode prog_6_method_6_code 15 = .ok (.iload_n 1, 1) := by decide +kernel
theorem d_RM_side_16 : decode prog_6_method_6_code 16 = .ok (.bipush 64, 2) := by decide +kernel
theorem d_RM_side_18 : decode prog_6_method_6_code 18 = .ok (.if_icmp .ge 16, 3) := by decide +kernel
theorem d_RM_side_21 : decode prog_6_method_6_code 21 = .ok (.aload_n 0, 1) := by decide +kernel
theorem d_RM_side_22 : decode prog_6_method_6_code 22 = .ok (.getfield 7, 3) := by decide +kernel
theorem d_RM_side_25 : decode prog_6_method_6_code 25 = .ok (.iconst 4, 1) := by decide +kernel
theorem d_RM_side_26 : decode prog_6_method_6_code 26 = .ok (.iload_n 1, 1) := by decide +kernel
theorem d_RM_side_27 : decode prog_6_method_6_code 27 = .ok (.imul, 1) := by decide +kernel
theorem d_RM_side_28 : decode prog_6_method_6_code 28 = .ok (.iload_n 3, 1) := by decide +kernel
theorem d_RM_side_29 : decode prog_6_method_6_code 29 = .ok (.iadd, 1) := by decide +kernel
theorem d_RM_side_30 : decode prog_6_method_6_code 30 = .ok (.iaload, 1) := by decide +kernel
theorem d_RM_side_31 : decode prog_6_method_6_code 31 = .ok (.goto 16, 3) := by decide +kernel
theorem d_RM_side_34 : decode prog_6_method_6_code 34 = .ok (.aload_n 0, 1) := by decide +kernel
theorem d_RM_side_35 : decode prog_6_method_6_code 35 = .ok (.getfield 19, 3) := by decide +kernel
theorem d_RM_side_38 : decode prog_6_method_6_code 38 = .ok (.iconst 4, 1) := by decide +kernel
theorem d_RM_side_39 : decode prog_6_method_6_code 39 = .ok (.iload_n 1, 1) := by decide +kernel
theorem d_RM_side_40 : decode prog_6_method_6_code 40 = .ok (.bipush 64, 2) := by decide +kernel
theorem d_RM_side_42 : decode prog_6_method_6_code 42 = .ok (.isub, 1) := by decide +kernel
theorem d_RM_side_43 : decode prog_6_method_6_code 43 = .ok (.imul, 1) := by decide +kernel
theorem d_RM_side_44 : decode prog_6_method_6_code 44 = .ok (.iload_n 3, 1) := by decide +kernel
theorem d_RM_side_45 : decode prog_6_method_6_code 45 = .ok (.iadd, 1) := by decide +kernel
theorem d_RM_side_46 : decode prog_6_method_6_code 46 = .ok (.iaload, 1) := by decide +kernel
theorem d_RM_side_47 : decode prog_6_method_6_code 47 = .ok (.ireturn, 1) := by decide +kernel
theorem d_RM_left_0 : decode prog_6_method_7_code 0 = .ok (.aload_n 0, 1) := by decide +kernel
theorem d_RM_left_1 : decode prog_6_method_7_code 1 = .ok (.iload_n 1, 1) := by decide +kernel
theorem d_RM_left_2 : decode prog_6_method_7_code 2 = .ok (.iconst 0, 1) := by decide +kernel
theorem d_RM_left_3 : decode prog_6_method_7_code 3 = .ok (.invokevirtual 83, 3) := by decide +kernel
theorem d_RM_left_6 : decode prog_6_method_7_code 6 = .ok (.ireturn, 1) := by decide +kernel
theorem d_RM_upper_0 : decode prog_6_method_8_code 0 = .ok (.aload_n 0, 1) := by decide +kernel
theorem d_RM_upper_1 : decode prog_6_method_8_code 1 = .ok (.iload_n 1, 1) := by decide +kernel
theorem d_RM_upper_2 : decode prog_6_method_8_code 2 = .ok (.iconst 1, 1) := by decide +kernel
theorem d_RM_upper_3 : decode prog_6_method_8_code 3 = .ok (.invokevirtual 83, 3) := by decide +kernel
theorem d_RM_upper_6 : decode prog_6_method_8_code 6 = .ok (.ireturn, 1) := by decide +kernel
theorem d_RM_right_0 : decode prog_6_method_9_code 0 = .ok (.aload_n 0, 1) := by decide +kernel
theorem d_RM_right_1 : decode prog_6_method_9_code 1 = .ok (.iload_n 1, 1) := by decide +kernel
theorem d_RM_right_2 : decode prog_6_method_9_code 2 = .ok (.iconst 0, 1) := by decide +kernel
theorem d_RM_right_3 : decode prog_6_method_9_code 3 = .ok (.invokevirtual 83, 3) := by decide +kernel
theorem d_RM_right_6 : decode prog_6_method_9_code 6 = .ok (.aload_n 0, 1) := by decide +kernel
theorem d_RM_right_7 : decode prog_6_method_9_code 7 = .ok (.iload_n 1, 1) := by decide +kernel
theorem d_RM_right_8 : decode prog_6_method_9_code 8 = .ok (.iconst 2, 1) := by decide +kernel
theorem d_RM_right_9 : decode prog_6_method_9_code 9 = .ok (.invokevirtual 83, 3) := by decide +kernel
theorem d_RM_right_12 : decode prog_6_method_9_code 12 = .ok (.iadd, 1) := by decide +kernel
theorem d_RM_right_13 : decode prog_6_method_9_code 13 = .ok (.ireturn, 1) := by decide +kernel
theorem d_RM_lower_0 : decode prog_6_method_10_code 0 = .ok (.aload_n 0, 1) := by decide +kernel
theorem d_RM_lower_1 : decode prog_6_method_10_code 1 = .ok (.iload_n 1, 1) := by decide +kernel
theorem d_RM_lower_2 : decode prog_6_method_10_code 2 = .ok (.iconst 1, 1) := by decide +kernel
theorem d_RM_lower_3 : decode prog_6_method_10_code 3 = .ok (.invokevirtual 83, 3) := by decide +kernel
theorem d_RM_lower_6 : decode prog_6_method_10_code 6 = .ok (.aload_n 0, 1) := by decide +kernel
theorem d_RM_lower_7 : decode prog_6_method_10_code 7 = .ok (.iload_n 1, 1) := by decide +kernel
theorem d_RM_lower_8 : decode prog_6_method_10_code 8 = .ok (.iconst 3, 1) := by decide +kernel
theorem d_RM_lower_9 : decode prog_6_method_10_code 9 = .ok (.invokevirtual 83, 3) := by decide +kernel
theorem d_RM_lower_12 : decode prog_6_method_10_code 12 = .ok (.iadd, 1) := by decide +kernel
theorem d_RM_lower_13 : decode prog_6_method_10_code 13 = .ok (.ireturn, 1) := by decide +kernel
theorem d_RM_high_0 : decode prog_6_method_11_code 0 = .ok (.aload_n 0, 1) := by decide +kernel
theorem d_RM_high_1 : decode prog_6_method_11_code 1 = .ok (.iload_n 1, 1) := by decide +kernel
theorem d_RM_high_2 : decode prog_6_method_11_code 2 = .ok (.iconst 3, 1) := by decide +kernel
theorem d_RM_high_3 : decode prog_6_method_11_code 3 = .ok (.invokevirtual 83, 3) := by decide +kernel
theorem d_RM_high_6 : decode prog_6_method_11_code 6 = .ok (.ireturn, 1) := by decide +kernel
theorem d_RM_least_0 : decode prog_6_method_12_code 0 = .ok (.iload_n 0, 1) := by decide +kernel
theorem d_RM_least_1 : decode prog_6_method_12_code 1 = .ok (.iload_n 1, 1) := by decide +kernel
theorem d_RM_least_2 : decode prog_6_method_12_code 2 = .ok (.if_icmp .ge 7, 3) := by decide +kernel
theorem d_RM_least_5 : decode prog_6_method_12_code 5 = .ok (.iload_n 0, 1) := by decide +kernel
theorem d_RM_least_6 : decode prog_6_method_12_code 6 = .ok (.goto 4, 3) := by decide +kernel
theorem d_RM_least_9 : decode prog_6_method_12_code 9 = .ok (.iload_n 1, 1) := by decide +kernel
theorem d_RM_least_10 : decode prog_6_method_12_code 10 = .ok (.ireturn, 1) := by decide +kernel
theorem d_RM_most_0 : decode prog_6_method_13_code 0 = .ok (.iload_n 0, 1) := by decide +kernel
theorem d_RM_most_1 : decode prog_6_method_13_code 1 = .ok (.iload_n 1, 1) := by decide +kernel
theorem d_RM_most_2 : decode prog_6_method_13_code 2 = .ok (.if_icmp .le 7, 3) := by decide +kernel
theorem d_RM_most_5 : decode prog_6_method_13_code 5 = .ok (.iload_n 0, 1) := by decide +kernel
theorem d_RM_most_6 : decode prog_6_method_13_code 6 = .ok (.goto 4, 3) := by decide +kernel
theorem d_RM_most_9 : decode prog_6_method_13_code 9 = .ok (.iload_n 1, 1) := by decide +kernel
theorem d_RM_most_10 : decode prog_6_method_13_code 10 = .ok (.ireturn, 1) := by decide +kernel
theorem d_RM_areBoxesNear_0 : decode prog_6_method_14_code 0 = .ok (.aload_n 0, 1) := by decide +kernel
theorem d_RM_areBoxesNear_1 : decode prog_6_method_14_code 1 = .ok (.iload_n 1, 1) := by decide +kernel
theorem d_RM_areBoxesNear_2 : decode prog_6_method_14_code 2 = .ok (.invokevirtual 87, 3) := by decide +kernel
theorem d_RM_areBoxesNear_5 : decode prog_6_method_14_code 5 = .ok (.aload_n 0, 1) := by decide +kernel
theorem d_RM_areBoxesNear_6 : decode prog_6_method_14_code 6 = .ok (.iload_n 2, 1) := by decide +kernel
theorem d_RM_areBoxesNear_7 : decode prog_6_method_14_code 7 = .ok (.invokevirtual 87, 3) := by decide +kernel
theorem d_RM_areBoxesNear_10 : decode prog_6_method_14_code 10 = .ok (.invokestatic 91, 3) := by decide +kernel
theorem d_RM_areBoxesNear_13 : decode prog_6_method_14_code 13 = .ok (.aload_n 0, 1) := by decide +kernel
theorem d_RM_areBoxesNear_14 : decode prog_6_method_14_code 14 = .ok (.iload_n 1, 1) := by decide +kernel
theorem d_RM_areBoxesNear_15 : decode prog_6_method_14_code 15 = .ok (.invokevirtual 94, 3) := by decide +kernel
theorem d_RM_areBoxesNear_18 : decode prog_6_method_14_code 18 = .ok (.aload_n 0, 1) := by decide +kernel
theorem d_RM_areBoxesNear_19 : decode prog_6_method_14_code 19 = .ok (.iload_n 2, 1) := by decide +kernel
theorem d_RM_areBoxesNear_20 : decode prog_6_method_14_code 20 = .ok (.invokevirtual 94, 3) := by decide +kernel
theorem d_RM_areBoxesNear_23 : decode prog_6_method_14_code 23 = .ok (.invokestatic 97, 3) := by decide +kernel
theorem d_RM_areBoxesNear_26 : decode prog_6_method_14_code 26 = .ok (.isub, 1) := by decide +kernel
theorem d_RM_areBoxesNear_27 : decode prog_6_method_14_code 27 = .ok (.istore_n 3, 1) := by decide +kernel
theorem d_RM_areBoxesNear_28 : decode prog_6_method_14_code 28 = .ok (.aload_n 0, 1) := by decide +kernel
theorem d_RM_areBoxesNear_29 : decode prog_6_method_14_code 29 = .ok (.iload_n 1, 1) := by decide +kernel
theorem d_RM_areBoxesNear_30 : decode prog_6_method_14_code 30 = .ok (.invokevirtual 100, 3) := by decide +kernel
theorem d_RM_areBoxesNear_33 : decode prog_6_method_14_code 33 = .ok (.aload_n 0, 1) := by decide +kernel
theorem d_RM_areBoxesNear_34 : decode prog_6_method_14_code 34 = .ok (.iload_n 2, 1) := by decide +kernel
theorem d_RM_areBoxesNear_35 : decode prog_6_method_14_code 35 = .ok (.invokevirtual 100, 3) := by decide +kernel
theorem d_RM_areBoxesNear_38 : decode prog_6_method_14_code 38 = .ok (.invokestatic 97, 3) := by decide +kernel
theorem d_RM_areBoxesNear_41 : decode prog_6_method_14_code 41 = .ok (.aload_n 0, 1) := by decide +kernel
theorem d_RM_areBoxesNear_42 : decode prog_6_method_14_code 42 = .ok (.iload_n 1, 1) := by decide +kernel
theorem d_RM_areBoxesNear_43 : decode prog_6_method_14_code 43 = .ok (.invokevirtual 103, 3) := by decide +kernel
theorem d_RM_areBoxesNear_46 : decode prog_6_method_14_code 46 = .ok (.aload_n 0, 1) := by decide +kernel
theorem d_RM_areBoxesNear_47 : decode prog_6_method_14_code 47 = .ok (.iload_n 2, 1) := by decide +kernel
theorem d_RM_areBoxesNear_48 : decode prog_6_method_14_code 48 = .ok (.invokevirtual 103, 3) := by decide +kernel
theorem d_RM_areBoxesNear_51 : decode prog_6_method_14_code 51 = .ok (.invokestatic 91, 3) := by decide +kernel
theorem d_RM_areBoxesNear_54 : decode prog_6_method_14_code 54 = .ok (.isub, 1) := by decide +kernel
theorem d_RM_areBoxesNear_55 : decode prog_6_method_14_code 55 = .ok (.istore 4, 2) := by decide +kernel
theorem d_RM_areBoxesNear_57 : decode prog_6_method_14_code 57 = .ok (.iconst 2, 1) := by decide +kernel
theorem d_RM_areBoxesNear_58 : decode prog_6_method_14_code 58 = .ok (.iload_n 3, 1) := by decide +kernel
theorem d_RM_areBoxesNear_59 : decode prog_6_method_14_code 59 = .ok (.imul, 1) := by decide +kernel
theorem d_RM_areBoxesNear_60 : decode prog_6_method_14_code 60 = .ok (.aload_n 0, 1) := by decide +kernel
theorem d_RM_areBoxesNear_61 : decode prog_6_method_14_code 61 = .ok (.iload_n 1, 1) := by decide +kernel
theorem d_RM_areBoxesNear_62 : decode prog_6_method_14_code 62 = .ok (.invokevirtual 106, 3) := by decide +kernel
theorem d_RM_areBoxesNear_65 : decode prog_6_method_14_code 65 = .ok (.aload_n 0, 1) := by decide +kernel
theorem d_RM_areBoxesNear_66 : decode prog_6_method_14_code 66 = .ok (.iload_n 2, 1) := by decide +kernel
theorem d_RM_areBoxesNear_67 : decode prog_6_method_14_code 67 = .ok (.invokevirtual 106, 3) := by decide +kernel
theorem d_RM_areBoxesNear_70 : decode prog_6_method_14_code 70 = .ok (.invokestatic 91, 3) := by decide +kernel
theorem d_RM_areBoxesNear_73 : decode prog_6_method_14_code 73 = .ok (.if_icmp .lt 29, 3) := by decide +kernel
theorem d_RM_areBoxesNear_76 : decode prog_6_method_14_code 76 = .ok (.iconst 2, 1) := by decide +kernel
theorem d_RM_areBoxesNear_77 : decode prog_6_method_14_code 77 = .ok (.iload 4, 2) := by decide +kernel
theorem d_RM_areBoxesNear_79 : decode prog_6_method_14_code 79 = .ok (.imul, 1) := by decide +kernel
theorem d_RM_areBoxesNear_80 : decode prog_6_method_14_code 80 = .ok (.iconst 3, 1) := by decide +kernel
theorem d_RM_areBoxesNear_81 : decode prog_6_method_14_code 81 = .ok (.aload_n 0, 1) := by decide +kernel
theorem d_RM_areBoxesNear_82 : decode prog_6_method_14_code 82 = .ok (.iload_n 1, 1) := by decide +kernel
theorem d_RM_areBoxesNear_83 : decode prog_6_method_14_code 83 = .ok (.invokevirtual 106, 3) := by decide +kernel
theorem d_RM_areBoxesNear_86 : decode prog_6_method_14_code 86 = .ok (.aload_n 0, 1) := by decide +kernel
theorem d_RM_areBoxesNear_87 : decode prog_6_method_14_code 87 = .ok (.iload_n 2, 1) := by decide +kernel
theorem d_RM_areBoxesNear_88 : decode prog_6_method_14_code 88 = .ok (.invokevirtual 106, 3) := by decide +kernel
theorem d_RM_areBoxesNear_91 : decode prog_6_method_14_code 91 = .ok (.invokestatic 97, 3) := by decide +kernel
theorem d_RM_areBoxesNear_94 : decode prog_6_method_14_code 94 = .ok (.imul, 1) := by decide +kernel
theorem d_RM_areBoxesNear_95 : decode prog_6_method_14_code 95 = .ok (.if_icmp .gt 7, 3) := by decide +kernel
theorem d_RM_areBoxesNear_98 : decode prog_6_method_14_code 98 = .ok (.iconst 1, 1) := by decide +kernel
theorem d_RM_areBoxesNear_99 : decode prog_6_method_14_code 99 = .ok (.goto 4, 3) := by decide +kernel
theorem d_RM_areBoxesNear_102 : decode prog_6_method_14_code 102 = .ok (.iconst 0, 1) := by decide +kernel
theorem d_RM_areBoxesNear_103 : decode prog_6_method_14_code 103 = .ok (.ireturn, 1) := by decide +kernel
theorem d_RM_areLinesNear_0 : decode prog_6_method_15_code 0 = .ok (.aload_n 0, 1) := by decide +kernel
theorem d_RM_areLinesNear_1 : decode prog_6_method_15_code 1 = .ok (.iload_n 1, 1) := by decide +kernel
theorem d_RM_areLinesNear_2 : decode prog_6_method_15_code 2 = .ok (.invokevirtual 100, 3) := by decide +kernel
theorem d_RM_areLinesNear_5 : decode prog_6_method_15_code 5 = .ok (.aload_n 0, 1) := by decide +kernel
theorem d_RM_areLinesNear_6 : decode prog_6_method_15_code 6 = .ok (.iload_n 2, 1) := by decide +kernel
theorem d_RM_areLinesNear_7 : decode prog_6_method_15_code 7 = .ok (.invokevirtual 100, 3) := by decide +kernel
theorem d_RM_areLinesNear_10 : decode prog_6_method_15_code 10 = .ok (.isub, 1) := by decide +kernel
theorem d_RM_areLinesNear_11 : decode prog_6_method_15_code 11 = .ok (.istore_n 3, 1) := by decide +kernel
theorem d_RM_areLinesNear_12 : decode prog_6_method_15_code 12 = .ok (.aload_n 0, 1) := by decide +kernel
theorem d_RM_areLinesNear_13 : decode prog_6_method_15_code 13 = .ok (.iload_n 1, 1) := by decide +kernel
theorem d_RM_areLinesNear_14 : decode prog_6_method_15_code 14 = .ok (.invokevirtual 94, 3) := by decide +kernel
theorem d_RM_areLinesNear_17 : decode prog_6_method_15_code 17 = .ok (.aload_n 0, 1) := by decide +kernel
theorem d_RM_areLinesNear_18 : decode prog_6_method_15_code 18 = .ok (.iload_n 2, 1) := by decide +kernel
theorem d_RM_areLinesNear_19 : decode prog_6_method_15_code 19 = .ok (.invokevirtual 94, 3) := by decide +kernel
theorem d_RM_areLinesNear_22 : decode prog_6_method_15_code 22 = .ok (.invokestatic 97, 3) := by decide +kernel
theorem d_RM_areLinesNear_25 : decode prog_6_method_15_code 25 = .ok (.aload_n 0, 1) := by decide +kernel
theorem d_RM_areLinesNear_26 : decode prog_6_method_15_code 26 = .ok (.iload_n 1, 1) := by decide +kernel
theorem d_RM_areLinesNear_27 : decode prog_6_method_15_code 27 = .ok (.invokevirtual 87, 3) := by decide +kernel
theorem d_RM_areLinesNear_30 : decode prog_6_method_15_code 30 = .ok (.aload_n 0, 1) := by decide +kernel
theorem d_RM_areLinesNear_31 : decode prog_6_method_15_code 31 = .ok (.iload_n 2, 1) := by decide +kernel
theorem d_RM_areLinesNear_32 : decode prog_6_method_15_code 32 = .ok (.invokevirtual 87, 3) := by decide +kernel
theorem d_RM_areLinesNear_35 : decode prog_6_method_15_code 35 = .ok (.invokestatic 91, 3) := by decide +kernel
theorem d_RM_areLinesNear_38 : decode prog_6_method_15_code 38 = .ok (.isub, 1) := by decide +kernel
theorem d_RM_areLinesNear_39 : decode prog_6_method_15_code 39 = .ok (.istore 4, 2) := by decide +kernel
theorem d_RM_areLinesNear_41 : decode prog_6_method_15_code 41 = .ok (.iload_n 3, 1) := by decide +kernel
theorem d_RM_areLinesNear_42 : decode prog_6_method_15_code 42 = .ok (.ifCond .ge 8, 3) := by decide +kernel
theorem d_RM_areLinesNear_45 : decode prog_6_method_15_code 45 = .ok (.iload_n 3, 1) := by decide +kernel
theorem d_RM_areLinesNear_46 : decode prog_6_method_15_code 46 = .ok (.ineg, 1) := by decide +kernel
theorem d_RM_areLinesNear_47 : decode prog_6_method_15_code 47 = .ok (.goto 4, 3) := by decide +kernel
theorem d_RM_areLinesNear_50 : decode prog_6_method_15_code 50 = .ok (.iload_n 3, 1) := by decide +kernel
theorem d_RM_areLinesNear_51 : decode prog_6_method_15_code 51 = .ok (.aload_n 0, 1) := by decide +kernel
theorem d_RM_areLinesNear_52 : decode prog_6_method_15_code 52 = .ok (.iload_n 1, 1) := by decide +kernel
theorem d_RM_areLinesNear_53 : decode prog_6_method_15_code 53 = .ok (.invokevirtual 106, 3) := by decide +kernel
theorem d_RM_areLinesNear_56 : decode prog_6_method_15_code 56 = .ok (.aload_n 0, 1) := by decide +kernel
theorem d_RM_areLinesNear_57 : decode prog_6_method_15_code 57 = .ok (.iload_n 2, 1) := by decide +kernel
theorem d_RM_areLinesNear_58 : decode prog_6_method_15_code 58 = .ok (.invokevirtual 106, 3) := by decide +kernel
theorem d_RM_areLinesNear_61 : decode prog_6_method_15_code 61 = .ok (.invokestatic 97, 3) := by decide +kernel
theorem d_RM_areLinesNear_64 : decode prog_6_method_15_code 64 = .ok (.if_icmp .gt 27, 3) := by decide +kernel
theorem d_RM_areLinesNear_67 : decode prog_6_method_15_code 67 = .ok (.iload 4, 2) := by decide +kernel
theorem d_RM_areLinesNear_69 : decode prog_6_method_15_code 69 = .ok (.iconst 2, 1) := by decide +kernel
theorem d_RM_areLinesNear_70 : decode prog_6_method_15_code 70 = .ok (.aload_n 0, 1) := by decide +kernel
theorem d_RM_areLinesNear_71 : decode prog_6_method_15_code 71 = .ok (.iload_n 1, 1) := by decide +kernel
theorem d_RM_areLinesNear_72 : decode prog_6_method_15_code 72 = .ok (.invokevirtual 106, 3) := by decide +kernel
theorem d_RM_areLinesNear_75 : decode prog_6_method_15_code 75 = .ok (.aload_n 0, 1) := by decide +kernel
theorem d_RM_areLinesNear_76 : decode prog_6_method_15_code 76 = .ok (.iload_n 2, 1) := by decide +kernel
theorem d_RM_areLinesNear_77 : decode prog_6_method_15_code 77 = .ok (.invokevirtual 106, 3) := by decide +kernel
theorem d_RM_areLinesNear_80 : decode prog_6_method_15_code 80 = .ok (.invokestatic 91, 3) := by decide +kernel
theorem d_RM_areLinesNear_83 : decode prog_6_method_15_code 83 = .ok (.imul, 1) := by decide +kernel
theorem d_RM_areLinesNear_84 : decode prog_6_method_15_code 84 = .ok (.if_icmp .gt 7, 3) := by decide +kernel
theorem d_RM_areLinesNear_87 : decode prog_6_method_15_code 87 = .ok (.iconst 1, 1) := by decide +kernel
theorem d_RM_areLinesNear_88 : decode prog_6_method_15_code 88 = .ok (.goto 4, 3) := by decide +kernel
theorem d_RM_areLinesNear_91 : decode prog_6_method_15_code 91 = .ok (.iconst 0, 1) := by decide +kernel
theorem d_RM_areLinesNear_92 : decode prog_6_method_15_code 92 = .ok (.ireturn, 1) := by decide +kernel
theorem d_RM_findLines_0 : decode prog_6_method_16_code 0 = .ok (.aload_n 0, 1) := by decide +kernel
theorem d_RM_findLines_1 : decode prog_6_method_16_code 1 = .ok (.iload_n 1, 1) := by decide +kernel
theorem d_RM_findLines_2 : decode prog_6_method_16_code 2 = .ok (.putfield 79, 3) := by decide +kernel
theorem d_RM_findLines_5 : decode prog_6_method_16_code 5 = .ok (.iconst 0, 1) := by decide +kernel
theorem d_RM_findLines_6 : decode prog_6_method_16_code 6 = .ok (.istore_n 2, 1) := by decide +kernel
theorem d_RM_findLines_7 : decode prog_6_method_16_code 7 = .ok (.iload_n 2, 1) := by decide +kernel
theorem d_RM_findLines_8 : decode prog_6_method_16_code 8 = .ok (.aload_n 0, 1) := by decide +kernel
theorem d_RM_findLines_9 : decode prog_6_method_16_code 9 = .ok (.getfield 73, 3) := by decide +kernel
theorem d_RM_findLines_12 : decode prog_6_method_16_code 12 = .ok (.if_icmp .ge 16, 3) := by decide +kernel
theorem d_RM_findLines_15 : decode prog_6_method_16_code 15 = .ok (.aload_n 0, 1) := by decide +kernel
theorem d_RM_findLines_16 : decode prog_6_method_16_code 16 = .ok (.getfield 16, 3) := by decide +kernel
theorem d_RM_findLines_19 : decode prog_6_method_16_code 19 = .ok (.iload_n 2, 1) := by decide +kernel
theorem d_RM_findLines_20 : decode prog_6_method_16_code 20 = .ok (.iload_n 2, 1) := by decide +kernel
theorem d_RM_findLines_21 : decode prog_6_method_16_code 21 = .ok (.iastore, 1) := by decide +kernel
theorem d_RM_findLines_22 : decode prog_6_method_16_code 22 = .ok (.iinc 2 1, 3) := by decide +kernel
theorem d_RM_findLines_25 : decode prog_6_method_16_code 25 = .ok (.goto (-18), 3) := by decide +kernel
theorem d_RM_findLines_28 : decode prog_6_method_16_code 28 = .ok (.iconst 0, 1) := by decide +kernel
theorem d_RM_findLines_29 : decode prog_6_method_16_code 29 = .ok (.istore_n 2, 1) := by decide +kernel
theorem d_RM_findLines_30 : decode prog_6_method_16_code 30 = .ok (.iload_n 2, 1) := by decide +kernel
theorem d_RM_findLines_31 : decode prog_6_method_16_code 31 = .ok (.aload_n 0, 1) := by decide +kernel
theorem d_RM_findLines_32 : decode prog_6_method_16_code 32 = .ok (.getfield 73, 3) := by decide +kernel
theorem d_RM_findLines_35 : decode prog_6_method_16_code 35 = .ok (.if_icmp .ge 91, 3) := by decide +kernel
theorem d_RM_findLines_38 : decode prog_6_method_16_code 38 = .ok (.iconst 0, 1) := by decide +kernel
theorem d_RM_findLines_39 : decode prog_6_method_16_code 39 = .ok (.istore_n 3, 1) := by decide +kernel
theorem d_RM_findLines_40 : decode prog_6_method_16_code 40 = .ok (.iload_n 3, 1) := by decide +kernel
theorem d_RM_findLines_41 : decode prog_6_method_16_code 41 = .ok (.aload_n 0, 1) := by decide +kernel
theorem d_RM_findLines_42 : decode prog_6_method_16_code 42 = .ok (.getfield 73, 3) := by decide +kernel
theorem d_RM_findLines_45 : decode prog_6_method_16_code 45 = .ok (.if_icmp .ge 75, 3) := by decide +kernel
theorem d_RM_findLines_48 : decode prog_6_method_16_code 48 = .ok (.iconst 0, 1) := by decide +kernel
theorem d_RM_findLines_49 : decode prog_6_method_16_code 49 = .ok (.istore 4, 2) := by decide +kernel
theorem d_RM_findLines_51 : decode prog_6_method_16_code 51 = .ok (.iload 4, 2) := by decide +kernel
theorem d_RM_findLines_53 : decode prog_6_method_16_code 53 = .ok (.aload_n 0, 1) := by decide +kernel
theorem d_RM_findLines_54 : decode prog_6_method_16_code 54 = .ok (.getfield 73, 3) := by decide +kernel
theorem d_RM_findLines_57 : decode prog_6_method_16_code 57 = .ok (.if_icmp .ge 57, 3) := by decide +kernel
theorem d_RM_findLines_60 : decode prog_6_method_16_code 60 = .ok (.aload_n 0, 1) := by decide +kernel
theorem d_RM_findLines_61 : decode prog_6_method_16_code 61 = .ok (.getfield 16, 3) := by decide +kernel
theorem d_RM_findLines_64 : decode prog_6_method_16_code 64 = .ok (.iload_n 3, 1) := by decide +kernel
theorem d_RM_findLines_65 : decode prog_6_method_16_code 65 = .ok (.aload_n 0, 1) := by decide +kernel
theorem d_RM_findLines_66 : decode prog_6_method_16_code 66 = .ok (.getfield 16, 3) := by decide +kernel
theorem d_RM_findLines_69 : decode prog_6_method_16_code 69 = .ok (.iload 4, 2) := by decide +kernel
theorem d_RM_findLines_71 : decode prog_6_method_16_code 71 = .ok (.iaload, 1) := by decide +kernel
theorem d_RM_findLines_72 : decode prog_6_method_16_code 72 = .ok (.aload_n 0, 1) := by decide +kernel
theorem d_RM_findLines_73 : decode prog_6_method_16_code 73 = .ok (.getfield 16, 3) := by decide +kernel
theorem d_RM_findLines_76 : decode prog_6_method_16_code 76 = .ok (.iload_n 3, 1) := by decide +kernel
theorem d_RM_findLines_77 : decode prog_6_method_16_code 77 = .ok (.iaload, 1) := by decide +kernel
theorem d_RM_findLines_78 : decode prog_6_method_16_code 78 = .ok (.if_icmp .ge 23, 3) := by decide +kernel
theorem d_RM_findLines_81 : decode prog_6_method_16_code 81 = .ok (.aload_n 0, 1) := by decide +kernel
theorem d_RM_findLines_82 : decode prog_6_method_16_code 82 = .ok (.iload_n 3, 1) := by decide +kernel
theorem d_RM_findLines_83 : decode prog_6_method_16_code 83 = .ok (.iload 4, 2) := by decide +kernel
theorem d_RM_findLines_85 : decode prog_6_method_16_code 85 = .ok (.invokevirtual 109, 3) := by decide +kernel
theorem d_RM_findLines_88 : decode prog_6_method_16_code 88 = .ok (.ifCond .eq 13, 3) := by decide +kernel
theorem d_RM_findLines_91 : decode prog_6_method_16_code 91 = .ok (.aload_n 0, 1) := by decide +kernel
theorem d_RM_findLines_92 : decode prog_6_method_16_code 92 = .ok (.getfield 16, 3) := by decide +kernel
theorem d_RM_findLines_95 : decode prog_6_method_16_code 95 = .ok (.iload 4, 2) := by decide +kernel
theorem d_RM_findLines_97 : decode prog_6_method_16_code 97 = .ok (.iaload, 1) := by decide +kernel
theorem d_RM_findLines_98 : decode prog_6_method_16_code 98 = .ok (.goto 9, 3) := by decide +kernel
theorem d_RM_findLines_101 : decode prog_6_method_16_code 101 = .ok (.aload_n 0, 1) := by decide +kernel
theorem d_RM_findLines_102 : decode prog_6_method_16_code 102 = .ok (.getfield 16, 3) := by decide +kernel
theorem d_RM_findLines_105 : decode prog_6_method_16_code 105 = .ok (.iload_n 3, 1) := by decide +kernel
theorem d_RM_findLines_106 : decode prog_6_method_16_code 106 = .ok (.iaload, 1) := by decide +kernel
theorem d_RM_findLines_107 : decode prog_6_method_16_code 107 = .ok (.iastore, 1) := by decide +kernel
theorem d_RM_findLines_108 : decode prog_6_method_16_code 108 = .ok (.iinc 4 1, 3) := by decide +kernel
theorem d_RM_findLines_111 : decode prog_6_method_16_code 111 = .ok (.goto (-60), 3) := by decide +kernel
theorem d_RM_findLines_114 : decode prog_6_method_16_code 114 = .ok (.iinc 3 1, 3) := by decide +kernel
theorem d_RM_findLines_117 : decode prog_6_method_16_code 117 = .ok (.goto (-77), 3) := by decide +kernel
theorem d_RM_findLines_120 : decode prog_6_method_16_code 120 = .ok (.iinc 2 1, 3) := by decide +kernel
theorem d_RM_findLines_123 : decode prog_6_method_16_code 123 = .ok (.goto (-93), 3) := by decide +kernel
theorem d_RM_findLines_126 : decode prog_6_method_16_code 126 = .ok (.aload_n 0, 1) := by decide +kernel
theorem d_RM_findLines_127 : decode prog_6_method_16_code 127 = .ok (.iconst 0, 1) := by decide +kernel
theorem d_RM_findLines_128 : decode prog_6_method_16_code 128 = .ok (.putfield 113, 3) := by decide +kernel
theorem d_RM_findLines_131 : decode prog_6_method_16_code 131 = .ok (.iconst 0, 1) := by decide +kernel
theorem d_RM_findLines_132 : decode prog_6_method_16_code 132 = .ok (.istore_n 2, 1) := by decide +kernel
theorem d_RM_findLines_133 : decode prog_6_method_16_code 133 = .ok (.iload_n 2, 1) := by decide +kernel
theorem d_RM_findLines_134 : decode prog_6_method_16_code 134 = .ok (.aload_n 0, 1) := by decide +kernel
theorem d_RM_findLines_135 : decode prog_6_method_16_code 135 = .ok (.getfield 73, 3) := by decide +kernel
theorem d_RM_findLines_138 : decode prog_6_method_16_code 138 = .ok (.if_icmp .ge 39, 3) := by decide +kernel
theorem d_RM_findLines_141 : decode prog_6_method_16_code 141 = .ok (.aload_n 0, 1) := by decide +kernel
theorem d_RM_findLines_142 : decode prog_6_method_16_code 142 = .ok (.getfield 16, 3) := by decide +kernel
theorem d_RM_findLines_145 : decode prog_6_method_16_code 145 = .ok (.iload_n 2, 1) := by decide +kernel
theorem d_RM_findLines_146 : decode prog_6_method_16_code 146 = .ok (.iaload, 1) := by decide +kernel
theorem d_RM_findLines_147 : decode prog_6_method_16_code 147 = .ok (.iload_n 2, 1) := by decide +kernel
theorem d_RM_findLines_148 : decode prog_6_method_16_code 148 = .ok (.if_icmp .ne 23, 3) := by decide +kernel
theorem d_RM_findLines_151 : decode prog_6_method_16_code 151 = .ok (.aload_n 0, 1) := by decide +kernel
theorem d_RM_findLines_152 : decode prog_6_method_16_code 152 = .ok (.getfield 22, 3) := by decide +kernel
theorem d_RM_findLines_155 : decode prog_6_method_16_code 155 = .ok (.aload_n 0, 1) := by decide +kernel
theorem d_RM_findLines_156 : decode prog_6_method_16_code 156 = .ok (.getfield 113, 3) := by decide +kernel
theorem d_RM_findLines_159 : decode prog_6_method_16_code 159 = .ok (.iload_n 2, 1) := by decide +kernel
theorem d_RM_findLines_160 : decode prog_6_method_16_code 160 = .ok (.iastore, 1) := by decide +kernel
theorem d_RM_findLines_161 : decode prog_6_method_16_code 161 = .ok (.aload_n 0, 1) := by decide +kernel
theorem d_RM_findLines_162 : decode prog_6_method_16_code 162 = .ok (.dup, 1) := by decide +kernel
theorem d_RM_findLines_163 : decode prog_6_method_16_code 163 = .ok (.getfield 113, 3) := by decide +kernel
theorem d_RM_findLines_166 : decode prog_6_method_16_code 166 = .ok (.iconst 1, 1) := by decide +kernel
theorem d_RM_findLines_167 : decode prog_6_method_16_code 167 = .ok (.iadd, 1) := by decide +kernel
theorem d_RM_findLines_168 : decode prog_6_method_16_code 168 = .ok (.putfield 113, 3) := by decide +kernel
theorem d_RM_findLines_171 : decode prog_6_method_16_code 171 = .ok (.iinc 2 1, 3) := by decide +kernel
theorem d_RM_findLines_174 : decode prog_6_method_16_code 174 = .ok (.goto (-41), 3) := by decide +kernel
theorem d_RM_findLines_177 : decode prog_6_method_16_code 177 = .ok (.aload_n 0, 1) := by decide +kernel
theorem d_RM_findLines_178 : decode prog_6_method_16_code 178 = .ok (.getfield 113, 3) := by decide +kernel
theorem d_RM_findLines_181 : decode prog_6_method_16_code 181 = .ok (.ireturn, 1) := by decide +kernel
theorem d_RM_join_0 : decode prog_6_method_17_code 0 = .ok (.iload 6, 2) := by decide +kernel
theorem d_RM_join_2 : decode prog_6_method_17_code 2 = .ok (.ifCond .eq 10, 3) := by decide +kernel
theorem d_RM_join_5 : decode prog_6_method_17_code 5 = .ok (.iload_n 2, 1) := by decide +kernel
theorem d_RM_join_6 : decode prog_6_method_17_code 6 = .ok (.iload 4, 2) := by decide +kernel
theorem d_RM_join_8 : decode prog_6_method_17_code 8 = .ok (.iadd, 1) := by decide +kernel
theorem d_RM_join_9 : decode prog_6_method_17_code 9 = .ok (.goto 23, 3) := by decide +kernel
theorem d_RM_join_12 : decode prog_6_method_17_code 12 = .ok (.aload_n 0, 1) := by decide +kernel
theorem d_RM_join_13 : decode prog_6_method_17_code 13 = .ok (.iconst 4, 1) := by decide +kernel
theorem d_RM_join_14 : decode prog_6_method_17_code 14 = .ok (.iload_n 1, 1) := by decide +kernel
theorem d_RM_join_15 : decode prog_6_method_17_code 15 = .ok (.imul, 1) := by decide +kernel
theorem d_RM_join_16 : decode prog_6_method_17_code 16 = .ok (.iaload, 1) := by decide +kernel
theorem d_RM_join_17 : decode prog_6_method_17_code 17 = .ok (.aload_n 0, 1) := by decide +kernel
theorem d_RM_join_18 : decode prog_6_method_17_code 18 = .ok (.iconst 4, 1) := by decide +kernel
theorem d_RM_join_19 : decode prog_6_method_17_code 19 = .ok (.iload_n 1, 1) := by decide +kernel
theorem d_RM_join_20 : decode prog_6_method_17_code 20 = .ok (.imul, 1) := by decide +kernel
theorem d_RM_join_21 : decode prog_6_method_17_code 21 = .ok (.iconst 2, 1) := by decide +kernel
theorem d_RM_join_22 : decode prog_6_method_17_code 22 = .ok (.iadd, 1) := by decide +kernel
theorem d_RM_join_23 : decode prog_6_method_17_code 23 = .ok (.iaload, 1) := by decide +kernel
theorem d_RM_join_24 : decode prog_6_method_17_code 24 = .ok (.iadd, 1) := by decide +kernel
theorem d_RM_join_25 : decode prog_6_method_17_code 25 = .ok (.iload_n 2, 1) := by decide +kernel
theorem d_RM_join_26 : decode prog_6_method_17_code 26 = .ok (.iload 4, 2) := by decide +kernel
theorem d_RM_join_28 : decode prog_6_method_17_code 28 = .ok (.iadd, 1) := by decide +kernel
theorem d_RM_join_29 : decode prog_6_method_17_code 29 = .ok (.invokestatic 97, 3) := by decide +kernel
theorem d_RM_join_32 : decode prog_6_method_17_code 32 = .ok (.istore 7, 2) := by decide +kernel
theorem d_RM_join_34 : decode prog_6_method_17_code 34 = .ok (.iload 6, 2) := by decide +kernel
theorem d_RM_join_36 : decode prog_6_method_17_code 36 = .ok (.ifCond .eq 10, 3) := by decide +kernel
theorem d_RM_join_39 : decode prog_6_method_17_code 39 = .ok (.iload_n 3, 1) := by decide +kernel
theorem d_RM_join_40 : decode prog_6_method_17_code 40 = .ok (.iload 5, 2) := by decide +kernel
theorem d_RM_join_42 : decode prog_6_method_17_code 42 = .ok (.iadd, 1) := by decide +kernel
theorem d_RM_join_43 : decode prog_6_method_17_code 43 = .ok (.goto 25, 3) := by decide +kernel
theorem d_RM_join_46 : decode prog_6_method_17_code 46 = .ok (.aload_n 0, 1) := by decide +kernel
theorem d_RM_join_47 : decode prog_6_method_17_code 47 = .ok (.iconst 4, 1) := by decide +kernel
theorem d_RM_join_48 : decode prog_6_method_17_code 48 = .ok (.iload_n 1, 1) := by decide +kernel
theorem d_RM_join_49 : decode prog_6_method_17_code 49 = .ok (.imul, 1) := by decide +kernel
theorem d_RM_join_50 : decode prog_6_method_17_code 50 = .ok (.iconst 1, 1) := by decide +kernel
theorem d_RM_join_51 : decode prog_6_method_17_code 51 = .ok (.iadd, 1) := by decide +kernel
theorem d_RM_join_52 : decode prog_6_method_17_code 52 = .ok (.iaload, 1) := by decide +kernel
theorem d_RM_join_53 : decode prog_6_method_17_code 53 = .ok (.aload_n 0, 1) := by decide +kernel
theorem d_RM_join_54 : decode prog_6_method_17_code 54 = .ok (.iconst 4, 1) := by decide +kernel
theorem d_RM_join_55 : decode prog_6_method_17_code 55 = .ok (.iload_n 1, 1) := by decide +kernel
theorem d_RM_join_56 : decode prog_6_method_17_code 56 = .ok (.imul, 1) := by decide +kernel
theorem d_RM_join_57 : decode prog_6_method_17_code 57 = .ok (.iconst 3, 1) := by decide +kernel
theorem d_RM_join_58 : decode prog_6_method_17_code 58 = .ok (.iadd, 1) := by decide +kernel
theorem d_RM_join_59 : decode prog_6_method_17_code 59 = .ok (.iaload, 1) := by decide +kernel
theorem d_RM_join_60 : decode prog_6_method_17_code 60 = .ok (.iadd, 1) := by decide +kernel
theorem d_RM_join_61 : decode prog_6_method_17_code 61 = .ok (.iload_n 3, 1) := by decide +kernel
theorem d_RM_join_62 : decode prog_6_method_17_code 62 = .ok (.iload 5, 2) := by decide +kernel
theorem d_RM_join_64 : decode prog_6_method_17_code 64 = .ok (.iadd, 1) := by decide +kernel
theorem d_RM_join_65 : decode prog_6_method_17_code 65 = .ok (.invokestatic 97, 3) := by decide +kernel
theorem d_RM_join_68 : decode prog_6_method_17_code 68 = .ok (.istore 8, 2) := by decide +kernel
theorem d_RM_join_70 : decode prog_6_method_17_code 70 = .ok (.aload_n 0, 1) := by decide +kernel
theorem d_RM_join_71 : decode prog_6_method_17_code 71 = .ok (.iconst 4, 1) := by decide +kernel
theorem d_RM_join_72 : decode prog_6_method_17_code 72 = .ok (.iload_n 1, 1) := by decide +kernel
theorem d_RM_join_73 : decode prog_6_method_17_code 73 = .ok (.imul, 1) := by decide +kernel
theorem d_RM_join_74 : decode prog_6_method_17_code 74 = .ok (.iload 6, 2) := by decide +kernel
theorem d_RM_join_76 : decode prog_6_method_17_code 76 = .ok (.ifCond .eq 7, 3) := by decide +kernel
theorem d_RM_join_79 : decode prog_6_method_17_code 79 = .ok (.iload_n 2, 1) := by decide +kernel
theorem d_RM_join_80 : decode prog_6_method_17_code 80 = .ok (.goto 12, 3) := by decide +kernel
theorem d_RM_join_83 : decode prog_6_method_17_code 83 = .ok (.aload_n 0, 1) := by decide +kernel
theorem d_RM_join_84 : decode prog_6_method_17_code 84 = .ok (.iconst 4, 1) := by decide +kernel
theorem d_RM_join_85 : decode prog_6_method_17_code 85 = .ok (.iload_n 1, 1) := by decide +kernel
theorem d_RM_join_86 : decode prog_6_method_17_code 86 = .ok (.imul, 1) := by decide +kernel
theorem d_RM_join_87 : decode prog_6_method_17_code 87 = .ok (.iaload, 1) := by decide +kernel
theorem d_RM_join_88 : decode prog_6_method_17_code 88 = .ok (.iload_n 2, 1) := by decide +kernel
theorem d_RM_join_89 : decode prog_6_method_17_code 89 = .ok (.invokestatic 91, 3) := by decide +kernel
theorem d_RM_join_92 : decode prog_6_method_17_code 92 = .ok (.iastore, 1) := by decide +kernel
theorem d_RM_join_93 : decode prog_6_method_17_code 93 = .ok (.aload_n 0, 1) := by decide +kernel
theorem d_RM_join_94 : decode prog_6_method_17_code 94 = .ok (.iconst 4, 1) := by decide +kernel
theorem d_RM_join_95 : decode prog_6_method_17_code 95 = .ok (.iload_n 1, 1) := by decide +kernel
theorem d_RM_join_96 : decode prog_6_method_17_code 96 = .ok (.imul, 1) := by decide +kernel
theorem d_RM_join_97 : decode prog_6_method_17_code 97 = .ok (.iconst 1, 1) := by decide +kernel
theorem d_RM_join_98 : decode prog_6_method_17_code 98 = .ok (.iadd, 1) := by decide +kernel
theorem d_RM_join_99 : decode prog_6_method_17_code 99 = .ok (.iload 6, 2) := by decide +kernel
theorem d_RM_join_101 : decode prog_6_method_17_code 101 = .ok (.ifCond .eq 7, 3) := by decide +kernel
theorem d_RM_join_104 : decode prog_6_method_17_code 104 = .ok (.iload_n 3, 1) := by decide +kernel
theorem d_RM_join_105 : decode prog_6_method_17_code 105 = .ok (.goto 14, 3) := by decide +kernel
theorem d_RM_join_108 : decode prog_6_method_17_code 108 = .ok (.aload_n 0, 1) := by decide +kernel
theorem d_RM_join_109 : decode prog_6_method_17_code 109 = .ok (.iconst 4, 1) := by decide +kernel
theorem d_RM_join_110 : decode prog_6_method_17_code 110 = .ok (.iload_n 1, 1) := by decide +kernel
theorem d_RM_join_111 : decode prog_6_method_17_code 111 = .ok (.imul, 1) := by decide +kernel
theorem d_RM_join_112 : decode prog_6_method_17_code 112 = .ok (.iconst 1, 1) := by decide +kernel
theorem d_RM_join_113 : decode prog_6_method_17_code 113 = .ok (.iadd, 1) := by decide +kernel
theorem d_RM_join_114 : decode prog_6_method_17_code 114 = .ok (.iaload, 1) := by decide +kernel
theorem d_RM_join_115 : decode prog_6_method_17_code 115 = .ok (.iload_n 3, 1) := by decide +kernel
theorem d_RM_join_116 : decode prog_6_method_17_code 116 = .ok (.invokestatic 91, 3) := by decide +kernel
theorem d_RM_join_119 : decode prog_6_method_17_code 119 = .ok (.iastore, 1) := by decide +kernel
theorem d_RM_join_120 : decode prog_6_method_17_code 120 = .ok (.aload_n 0, 1) := by decide +kernel
theorem d_RM_join_121 : decode prog_6_method_17_code 121 = .ok (.iconst 4, 1) := by decide +kernel
theorem d_RM_join_122 : decode prog_6_method_17_code 122 = .ok (.iload_n 1, 1) := by decide +kernel
theorem d_RM_join_123 : decode prog_6_method_17_code 123 = .ok (.imul, 1) := by decide +kernel
theorem d_RM_join_124 : decode prog_6_method_17_code 124 = .ok (.iconst 2, 1) := by decide +kernel
theorem d_RM_join_125 : decode prog_6_method_17_code 125 = .ok (.iadd, 1) := by decide +kernel
theorem d_RM_join_126 : decode prog_6_method_17_code 126 = .ok (.iload 7, 2) := by decide +kernel
theorem d_RM_join_128 : decode prog_6_method_17_code 128 = .ok (.aload_n 0, 1) := by decide +kernel
theorem d_RM_join_129 : decode prog_6_method_17_code 129 = .ok (.iconst 4, 1) := by decide +kernel
theorem d_RM_join_130 : decode prog_6_method_17_code 130 = .ok (.iload_n 1, 1) := by decide +kernel
theorem d_RM_join_131 : decode prog_6_method_17_code 131 = .ok (.imul, 1) := by decide +kernel
theorem d_RM_join_132 : decode prog_6_method_17_code 132 = .ok (.iaload, 1) := by decide +kernel
theorem d_RM_join_133 : decode prog_6_method_17_code 133 = .ok (.isub, 1) := by decide +kernel
theorem d_RM_join_134 : decode prog_6_method_17_code 134 = .ok (.iastore, 1) := by decide +kernel
theorem d_RM_join_135 : decode prog_6_method_17_code 135 = .ok (.aload_n 0, 1) := by decide +kernel
theorem d_RM_join_136 : decode prog_6_method_17_code 136 = .ok (.iconst 4, 1) := by decide +kernel
theorem d_RM_join_137 : decode prog_6_method_17_code 137 = .ok (.iload_n 1, 1) := by decide +kernel
theorem d_RM_join_138 : decode prog_6_method_17_code 138 = .ok (.imul, 1) := by decide +kernel
theorem d_RM_join_139 : decode prog_6_method_17_code 139 = .ok (.iconst 3, 1) := by decide +kernel
theorem d_RM_join_140 : decode prog_6_method_17_code 140 = .ok (.iadd, 1) := by decide +kernel
theorem d_RM_join_141 : decode prog_6_method_17_code 141 = .ok (.iload 8, 2) := by decide +kernel
theorem d_RM_join_143 : decode prog_6_method_17_code 143 = .ok (.aload_n 0, 1) := by decide +kernel
theorem d_RM_join_144 : decode prog_6_method_17_code 144 = .ok (.iconst 4, 1) := by decide +kernel
theorem d_RM_join_145 : decode prog_6_method_17_code 145 = .ok (.iload_n 1, 1) := by decide +kernel
theorem d_RM_join_146 : decode prog_6_method_17_code 146 = .ok (.imul, 1) := by decide +kernel
theorem d_RM_join_147 : decode prog_6_method_17_code 147 = .ok (.iconst 1, 1) := by decide +kernel
theorem d_RM_join_148 : decode prog_6_method_17_code 148 = .ok (.iadd, 1) := by decide +kernel
theorem d_RM_join_149 : decode prog_6_method_17_code 149 = .ok (.iaload, 1) := by decide +kernel
theorem d_RM_join_150 : decode prog_6_method_17_code 150 = .ok (.isub, 1) := by decide +kernel
theorem d_RM_join_151 : decode prog_6_method_17_code 151 = .ok (.iastore, 1) := by decide +kernel
theorem d_RM_join_152 : decode prog_6_method_17_code 152 = .ok (.return_, 1) := by decide +kernel
theorem d_RM_rectangles_0 : decode prog_6_method_18_code 0 = .ok (.iconst 0, 1) := by decide +kernel
theorem d_RM_rectangles_1 : decode prog_6_method_18_code 1 = .ok (.istore_n 1, 1) := by decide +kernel
theorem d_RM_rectangles_2 : decode prog_6_method_18_code 2 = .ok (.iload_n 1, 1) := by decide +kernel
theorem d_RM_rectangles_3 : decode prog_6_method_18_code 3 = .ok (.aload_n 0, 1) := by decide +kernel
theorem d_RM_rectangles_4 : decode prog_6_method_18_code 4 = .ok (.getfield 113, 3) := by decide +kernel
theorem d_RM_rectangles_7 : decode prog_6_method_18_code 7 = .ok (.if_icmp .ge 101, 3) := by decide +kernel
theorem d_RM_rectangles_10 : decode prog_6_method_18_code 10 = .ok (.iconst 0, 1) := by decide +kernel
theorem d_RM_rectangles_11 : decode prog_6_method_18_code 11 = .ok (.istore_n 2, 1) := by decide +kernel
theorem d_RM_rectangles_12 : decode prog_6_method_18_code 12 = .ok (.iload_n 2, 1) := by decide +kernel
theorem d_RM_rectangles_13 : decode prog_6_method_18_code 13 = .ok (.aload_n 0, 1) := by decide +kernel
theorem d_RM_rectangles_14 : decode prog_6_method_18_code 14 = .ok (.getfield 73, 3) := by decide +kernel
theorem d_RM_rectangles_17 : decode prog_6_method_18_code 17 = .ok (.if_icmp .ge 85, 3) := by decide +kernel
theorem d_RM_rectangles_20 : decode prog_6_method_18_code 20 = .ok (.aload_n 0, 1) := by decide +kernel
theorem d_RM_rectangles_21 : decode prog_6_method_18_code 21 = .ok (.getfield 16, 3) := by decide +kernel
theorem d_RM_rectangles_24 : decode prog_6_method_18_code 24 = .ok (.iload_n 2, 1) := by decide +kernel
theorem d_RM_rectangles_25 : decode prog_6_method_18_code 25 = .ok (.iaload, 1) := by decide +kernel
theorem d_RM_rectangles_26 : decode prog_6_method_18_code 26 = .ok (.aload_n 0, 1) := by decide +kernel
theorem d_RM_rectangles_27 : decode prog_6_method_18_code 27 = .ok (.getfield 22, 3) := by decide +kernel
theorem d_RM_rectangles_30 : decode prog_6_method_18_code 30 = .ok (.iload_n 1, 1) := by decide +kernel
theorem d_RM_rectangles_31 : decode prog_6_method_18_code 31 = .ok (.iaload, 1) := by decide +kernel
theorem d_RM_rectangles_32 : decode prog_6_method_18_code 32 = .ok (.if_icmp .ne 64, 3) := by decide +kernel
theorem d_RM_rectangles_35 : decode prog_6_method_18_code 35 = .ok (.aload_n 0, 1) := by decide +kernel
theorem d_RM_rectangles_36 : decode prog_6_method_18_code 36 = .ok (.getfield 19, 3) := by decide +kernel
theorem d_RM_rectangles_39 : decode prog_6_method_18_code 39 = .ok (.iload_n 1, 1) := by decide +kernel
theorem d_RM_rectangles_40 : decode prog_6_method_18_code 40 = .ok (.aload_n 0, 1) := by decide +kernel
theorem d_RM_rectangles_41 : decode prog_6_method_18_code 41 = .ok (.getfield 7, 3) := by decide +kernel
theorem d_RM_rectangles_44 : decode prog_6_method_18_code 44 = .ok (.iconst 4, 1) := by decide +kernel
theorem d_RM_rectangles_45 : decode prog_6_method_18_code 45 = .ok (.iload_n 2, 1) := by decide +kernel
theorem d_RM_rectangles_46 : decode prog_6_method_18_code 46 = .ok (.imul, 1) := by decide +kernel
theorem d_RM_rectangles_47 : decode prog_6_method_18_code 47 = .ok (.iaload, 1) := by decide +kernel
theorem d_RM_rectangles_48 : decode prog_6_method_18_code 48 = .ok (.aload_n 0, 1) := by decide +kernel
theorem d_RM_rectangles_49 : decode prog_6_method_18_code 49 = .ok (.getfield 7, 3) := by decide +kernel
theorem d_RM_rectangles_52 : decode prog_6_method_18_code 52 = .ok (.iconst 4, 1) := by decide +kernel
theorem d_RM_rectangles_53 : decode prog_6_method_18_code 53 = .ok (.iload_n 2, 1) := by decide +kernel
theorem d_RM_rectangles_54 : decode prog_6_method_18_code 54 = .ok (.imul, 1) := by decide +kernel
theorem d_RM_rectangles_55 : decode prog_6_method_18_code 55 = .ok (.iconst 1, 1) := by decide +kernel
theorem d_RM_rectangles_56 : decode prog_6_method_18_code 56 = .ok (.iadd, 1) := by decide +kernel
theorem d_RM_rectangles_57 : decode prog_6_method_18_code 57 = .ok (.iaload, 1) := by decide +kernel
theorem d_RM_rectangles_58 : decode prog_6_method_18_code 58 = .ok (.aload_n 0, 1) := by decide +kernel
theorem d_RM_rectangles_59 : decode prog_6_method_18_code 59 = .ok (.getfield 7, 3) := by decide +kernel
theorem d_RM_rectangles_62 : decode prog_6_method_18_code 62 = .ok (.iconst 4, 1) := by decide +kernel
theorem d_RM_rectangles_63 : decode prog_6_method_18_code 63 = .ok (.iload_n 2, 1) := by decide +kernel
theorem d_RM_rectangles_64 : decode prog_6_method_18_code 64 = .ok (.imul, 1) := by decide +kernel
theorem d_RM_rectangles_65 : decode prog_6_method_18_code 65 = .ok (.iconst 2, 1) := by decide +kernel
theorem d_RM_rectangles_66 : decode prog_6_method_18_code 66 = .ok (.iadd, 1) := by decide +kernel
theorem d_RM_rectangles_67 : decode prog_6_method_18_code 67 = .ok (.iaload, 1) := by decide +kernel
theorem d_RM_rectangles_68 : decode prog_6_method_18_code 68 = .ok (.aload_n 0, 1) := by decide +kernel
theorem d_RM_rectangles_69 : decode prog_6_method_18_code 69 = .ok (.getfield 7, 3) := by decide +kernel
theorem d_RM_rectangles_72 : decode prog_6_method_18_code 72 = .ok (.iconst 4, 1) := by decide +kernel
theorem d_RM_rectangles_73 : decode prog_6_method_18_code 73 = .ok (.iload_n 2, 1) := by decide +kernel
theorem d_RM_rectangles_74 : decode prog_6_method_18_code 74 = .ok (.imul, 1) := by decide +kernel
theorem d_RM_rectangles_75 : decode prog_6_method_18_code 75 = .ok (.iconst 3, 1) := by decide +kernel
theorem d_RM_rectangles_76 : decode prog_6_method_18_code 76 = .ok (.iadd, 1) := by decide +kernel
theorem d_RM_rectangles_77 : decode prog_6_method_18_code 77 = .ok (.iaload, 1) := by decide +kernel
theorem d_RM_rectangles_78 : decode prog_6_method_18_code 78 = .ok (.iload_n 2, 1) := by decide +kernel
theorem d_RM_rectangles_79 : decode prog_6_method_18_code 79 = .ok (.aload_n 0, 1) := by decide +kernel
theorem d_RM_rectangles_80 : decode prog_6_method_18_code 80 = .ok (.getfield 22, 3) := by decide +kernel
theorem d_RM_rectangles_83 : decode prog_6_method_18_code 83 = .ok (.iload_n 1, 1) := by decide +kernel
theorem d_RM_rectangles_84 : decode prog_6_method_18_code 84 = .ok (.iaload, 1) := by decide +kernel
theorem d_RM_rectangles_85 : decode prog_6_method_18_code 85 = .ok (.if_icmp .ne 7, 3) := by decide +kernel
theorem d_RM_rectangles_88 : decode prog_6_method_18_code 88 = .ok (.iconst 1, 1) := by decide +kernel
theorem d_RM_rectangles_89 : decode prog_6_method_18_code 89 = .ok (.goto 4, 3) := by decide +kernel
theorem d_RM_rectangles_92 : decode prog_6_method_18_code 92 = .ok (.iconst 0, 1) := by decide +kernel
theorem d_RM_rectangles_93 : decode prog_6_method_18_code 93 = .ok (.invokestatic 116, 3) := by decide +kernel
theorem d_RM_rectangles_96 : decode prog_6_method_18_code 96 = .ok (.iinc 2 1, 3) := by decide +kernel
theorem d_RM_rectangles_99 : decode prog_6_method_18_code 99 = .ok (.goto (-87), 3) := by decide +kernel
theorem d_RM_rectangles_102 : decode prog_6_method_18_code 102 = .ok (.iinc 1 1, 3) := by decide +kernel
theorem d_RM_rectangles_105 : decode prog_6_method_18_code 105 = .ok (.goto (-103), 3) := by decide +kernel
theorem d_RM_rectangles_108 : decode prog_6_method_18_code 108 = .ok (.return_, 1) := by decide +kernel
theorem d_RM_sortLines_0 : decode prog_6_method_19_code 0 = .ok (.iconst 1, 1) := by decide +kernel
theorem d_RM_sortLines_1 : decode prog_6_method_19_code 1 = .ok (.istore_n 1, 1) := by decide +kernel
theorem d_RM_sortLines_2 : decode prog_6_method_19_code 2 = .ok (.iload_n 1, 1) := by decide +kernel
theorem d_RM_sortLines_3 : decode prog_6_method_19_code 3 = .ok (.aload_n 0, 1) := by decide +kernel
theorem d_RM_sortLines_4 : decode prog_6_method_19_code 4 = .ok (.getfield 113, 3) := by decide +kernel
theorem d_RM_sortLines_7 : decode prog_6_method_19_code 7 = .ok (.if_icmp .ge 143, 3) := by decide +kernel
theorem d_RM_sortLines_10 : decode prog_6_method_19_code 10 = .ok (.iload_n 1, 1) := by decide +kernel
theorem d_RM_sortLines_11 : decode prog_6_method_19_code 11 = .ok (.istore_n 2, 1) := by decide +kernel
theorem d_RM_sortLines_12 : decode prog_6_method_19_code 12 = .ok (.iload_n 2, 1) := by decide +kernel
theorem d_RM_sortLines_13 : decode prog_6_method_19_code 13 = .ok (.ifCond .le 131, 3) := by decide +kernel
theorem d_RM_sortLines_16 : decode prog_6_method_19_code 16 = .ok (.aload_n 0, 1) := by decide +kernel
theorem d_RM_sortLines_17 : decode prog_6_method_19_code 17 = .ok (.bipush 64, 2) := by decide +kernel
theorem d_RM_sortLines_19 : decode prog_6_method_19_code 19 = .ok (.iload_n 2, 1) := by decide +kernel
theorem d_RM_sortLines_20 : decode prog_6_method_19_code 20 = .ok (.iadd, 1) := by decide +kernel
theorem d_RM_sortLines_21 : decode prog_6_method_19_code 21 = .ok (.bipush 64, 2) := by decide +kernel
theorem d_RM_sortLines_23 : decode prog_6_method_19_code 23 = .ok (.iload_n 2, 1) := by decide +kernel
theorem d_RM_sortLines_24 : decode prog_6_method_19_code 24 = .ok (.iadd, 1) := by decide +kernel
theorem d_RM_sortLines_25 : decode prog_6_method_19_code 25 = .ok (.iconst 1, 1) := by decide +kernel
theorem d_RM_sortLines_26 : decode prog_6_method_19_code 26 = .ok (.isub, 1) := by decide +kernel
theorem d_RM_sortLines_27 : decode prog_6_method_19_code 27 = .ok (.aload_n 0, 1) := by decide +kernel
theorem d_RM_sortLines_28 : decode prog_6_method_19_code 28 = .ok (.getfield 22, 3) := by decide +kernel
theorem d_RM_sortLines_31 : decode prog_6_method_19_code 31 = .ok (.iload_n 2, 1) := by decide +kernel
theorem d_RM_sortLines_32 : decode prog_6_method_19_code 32 = .ok (.iaload, 1) := by decide +kernel
theorem d_RM_sortLines_33 : decode prog_6_method_19_code 33 = .ok (.aload_n 0, 1) := by decide +kernel
theorem d_RM_sortLines_34 : decode prog_6_method_19_code 34 = .ok (.getfield 22, 3) := by decide +kernel
theorem d_RM_sortLines_37 : decode prog_6_method_19_code 37 = .ok (.iload_n 2, 1) := by decide +kernel
theorem d_RM_sortLines_38 : decode prog_6_method_19_code 38 = .ok (.iconst 1, 1) := by decide +kernel
theorem d_RM_sortLines_39 : decode prog_6_method_19_code 39 = .ok (.isub, 1) := by decide +kernel
theorem d_RM_sortLines_40 : decode prog_6_method_19_code 40 = .ok (.iaload, 1) := by decide +kernel
theorem d_RM_sortLines_41 : decode prog_6_method_19_code 41 = .ok (.invokevirtual 120, 3) := by decide +kernel
theorem d_RM_sortLines_44 : decode prog_6_method_19_code 44 = .ok (.ifCond .eq 100, 3) := by decide +kernel
theorem d_RM_sortLines_47 : decode prog_6_method_19_code 47 = .ok (.iconst 0, 1) := by decide +kernel
theorem d_RM_sortLines_48 : decode prog_6_method_19_code 48 = .ok (.istore_n 3, 1) := by decide +kernel
theorem d_RM_sortLines_49 : decode prog_6_method_19_code 49 = .ok (.iload_n 3, 1) := by decide +kernel
theorem d_RM_sortLines_50 : decode prog_6_method_19_code 50 = .ok (.iconst 4, 1) := by decide +kernel
theorem d_RM_sortLines_51 : decode prog_6_method_19_code 51 = .ok (.if_icmp .ge 57, 3) := by decide +kernel
theorem d_RM_sortLines_54 : decode prog_6_method_19_code 54 = .ok (.aload_n 0, 1) := by decide +kernel
theorem d_RM_sortLines_55 : decode prog_6_method_19_code 55 = .ok (.getfield 19, 3) := by decide +kernel
theorem d_RM_sortLines_58 : decode prog_6_method_19_code 58 = .ok (.iconst 4, 1) := by decide +kernel
theorem d_RM_sortLines_59 : decode prog_6_method_19_code 59 = .ok (.iload_n 2, 1) := by decide +kernel
theorem d_RM_sortLines_60 : decode prog_6_method_19_code 60 = .ok (.imul, 1) := by decide +kernel
theorem d_RM_sortLines_61 : decode prog_6_method_19_code 61 = .ok (.iload_n 3, 1) := by decide +kernel
theorem d_RM_sortLines_62 : decode prog_6_method_19_code 62 = .ok (.iadd, 1) := by decide +kernel
theorem d_RM_sortLines_63 : decode prog_6_method_19_code 63 = .ok (.iaload, 1) := by decide +kernel
theorem d_RM_sortLines_64 : decode prog_6_method_19_code 64 = .ok (.istore 4, 2) := by decide +kernel
theorem d_RM_sortLines_66 : decode prog_6_method_19_code 66 = .ok (.aload_n 0, 1) := by decide +kernel
theorem d_RM_sortLines_67 : decode prog_6_method_19_code 67 = .ok (.getfield 19, 3) := by decide +kernel
theorem d_RM_sortLines_70 : decode prog_6_method_19_code 70 = .ok (.iconst 4, 1) := by decide +kernel
theorem d_RM_sortLines_71 : decode prog_6_method_19_code 71 = .ok (.iload_n 2, 1) := by decide +kernel
theorem d_RM_sortLines_72 : decode prog_6_method_19_code 72 = .ok (.imul, 1) := by decide +kernel
theorem d_RM_sortLines_73 : decode prog_6_method_19_code 73 = .ok (.iload_n 3, 1) := by decide +kernel
theorem d_RM_sortLines_74 : decode prog_6_method_19_code 74 = .ok (.iadd, 1) := by decide +kernel
theorem d_RM_sortLines_75 : decode prog_6_method_19_code 75 = .ok (.aload_n 0, 1) := by decide +kernel
theorem d_RM_sortLines_76 : decode prog_6_method_19_code 76 = .ok (.getfield 19, 3) := by decide +kernel
theorem d_RM_sortLines_79 : decode prog_6_method_19_code 79 = .ok (.iconst 4, 1) := by decide +kernel
theorem d_RM_sortLines_80 : decode prog_6_method_19_code 80 = .ok (.iload_n 2, 1) := by decide +kernel
theorem d_RM_sortLines_81 : decode prog_6_method_19_code 81 = .ok (.imul, 1) := by decide +kernel
theorem d_RM_sortLines_82 : decode prog_6_method_19_code 82 = .ok (.iconst 4, 1) := by decide +kernel
theorem d_RM_sortLines_83 : decode prog_6_method_19_code 83 = .ok (.isub, 1) := by decide +kernel
theorem d_RM_sortLines_84 : decode prog_6_method_19_code 84 = .ok (.iload_n 3, 1) := by decide +kernel
theorem d_RM_sortLines_85 : decode prog_6_method_19_code 85 = .ok (.iadd, 1) := by decide +kernel
theorem d_RM_sortLines_86 : decode prog_6_method_19_code 86 = .ok (.iaload, 1) := by decide +kernel
theorem d_RM_sortLines_87 : decode prog_6_method_19_code 87 = .ok (.iastore, 1) := by decide +kernel
theorem d_RM_sortLines_88 : decode prog_6_method_19_code 88 = .ok (.aload_n 0, 1) := by decide +kernel
theorem d_RM_sortLines_89 : decode prog_6_method_19_code 89 = .ok (.getfield 19, 3) := by decide +kernel
theorem d_RM_sortLines_92 : decode prog_6_method_19_code 92 = .ok (.iconst 4, 1) := by decide +kernel
theorem d_RM_sortLines_93 : decode prog_6_method_19_code 93 = .ok (.iload_n 2, 1) := by decide +kernel
theorem d_RM_sortLines_94 : decode prog_6_method_19_code 94 = .ok (.imul, 1) := by decide +kernel
theorem d_RM_sortLines_95 : decode prog_6_method_19_code 95 = .ok (.iconst 4, 1) := by decide +kernel
theorem d_RM_sortLines_96 : decode prog_6_method_19_code 96 = .ok (.isub, 1) := by decide +kernel
theorem d_RM_sortLines_97 : decode prog_6_method_19_code 97 = .ok (.iload_n 3, 1) := by decide +kernel
theorem d_RM_sortLines_98 : decode prog_6_method_19_code 98 = .ok (.iadd, 1) := by decide +kernel
theorem d_RM_sortLines_99 : decode prog_6_method_19_code 99 = .ok (.iload 4, 2) := by decide +kernel
theorem d_RM_sortLines_101 : decode prog_6_method_19_code 101 = .ok (.iastore, 1) := by decide +kernel
theorem d_RM_sortLines_102 : decode prog_6_method_19_code 102 = .ok (.iinc 3 1, 3) := by decide +kernel
theorem d_RM_sortLines_105 : decode prog_6_method_19_code 105 = .ok (.goto (-56), 3) := by decide +kernel
theorem d_RM_sortLines_108 : decode prog_6_method_19_code 108 = .ok (.aload_n 0, 1) := by decide +kernel
theorem d_RM_sortLines_109 : decode prog_6_method_19_code 109 = .ok (.getfield 22, 3) := by decide +kernel
theorem d_RM_sortLines_112 : decode prog_6_method_19_code 112 = .ok (.iload_n 2, 1) := by decide +kernel
theorem d_RM_sortLines_113 : decode prog_6_method_19_code 113 = .ok (.iaload, 1) := by decide +kernel
theorem d_RM_sortLines_114 : decode prog_6_method_19_code 114 = .ok (.istore_n 3, 1) := by decide +kernel
theorem d_RM_sortLines_115 : decode prog_6_method_19_code 115 = .ok (.aload_n 0, 1) := by decide +kernel
theorem d_RM_sortLines_116 : decode prog_6_method_19_code 116 = .ok (.getfield 22, 3) := by decide +kernel
theorem d_RM_sortLines_119 : decode prog_6_method_19_code 119 = .ok (.iload_n 2, 1) := by decide +kernel
theorem d_RM_sortLines_120 : decode prog_6_method_19_code 120 = .ok (.aload_n 0, 1) := by decide +kernel
theorem d_RM_sortLines_121 : decode prog_6_method_19_code 121 = .ok (.getfield 22, 3) := by decide +kernel
theorem d_RM_sortLines_124 : decode prog_6_method_19_code 124 = .ok (.iload_n 2, 1) := by decide +kernel
theorem d_RM_sortLines_125 : decode prog_6_method_19_code 125 = .ok (.iconst 1, 1) := by decide +kernel
theorem d_RM_sortLines_126 : decode prog_6_method_19_code 126 = .ok (.isub, 1) := by decide +kernel
theorem d_RM_sortLines_127 : decode prog_6_method_19_code 127 = .ok (.iaload, 1) := by decide +kernel
theorem d_RM_sortLines_128 : decode prog_6_method_19_code 128 = .ok (.iastore, 1) := by decide +kernel
theorem d_RM_sortLines_129 : decode prog_6_method_19_code 129 = .ok (.aload_n 0, 1) := by decide +kernel
theorem d_RM_sortLines_130 : decode prog_6_method_19_code 130 = .ok (.getfield 22, 3) := by decide +kernel
theorem d_RM_sortLines_133 : decode prog_6_method_19_code 133 = .ok (.iload_n 2, 1) := by decide +kernel
theorem d_RM_sortLines_134 : decode prog_6_method_19_code 134 = .ok (.iconst 1, 1) := by decide +kernel
theorem d_RM_sortLines_135 : decode prog_6_method_19_code 135 = .ok (.isub, 1) := by decide +kernel
theorem d_RM_sortLines_136 : decode prog_6_method_19_code 136 = .ok (.iload_n 3, 1) := by decide +kernel
theorem d_RM_sortLines_137 : decode prog_6_method_19_code 137 = .ok (.iastore, 1) := by decide +kernel
theorem d_RM_sortLines_138 : decode prog_6_method_19_code 138 = .ok (.iinc 2 (-1), 3) := by decide +kernel
theorem d_RM_sortLines_141 : decode prog_6_method_19_code 141 = .ok (.goto (-129), 3) := by decide +kernel
theorem d_RM_sortLines_144 : decode prog_6_method_19_code 144 = .ok (.iinc 1 1, 3) := by decide +kernel
theorem d_RM_sortLines_147 : decode prog_6_method_19_code 147 = .ok (.goto (-145), 3) := by decide +kernel
theorem d_RM_sortLines_150 : decode prog_6_method_19_code 150 = .ok (.return_, 1) := by decide +kernel
theorem d_RM_isBefore_0 : decode prog_6_method_20_code 0 = .ok (.aload_n 0, 1) := by decide +kernel
theorem d_RM_isBefore_1 : decode prog_6_method_20_code 1 = .ok (.iload_n 1, 1) := by decide +kernel
theorem d_RM_isBefore_2 : decode prog_6_method_20_code 2 = .ok (.invokevirtual 94, 3) := by decide +kernel
theorem d_RM_isBefore_5 : decode prog_6_method_20_code 5 = .ok (.aload_n 0, 1) := by decide +kernel
theorem d_RM_isBefore_6 : decode prog_6_method_20_code 6 = .ok (.iload_n 2, 1) := by decide +kernel
theorem d_RM_isBefore_7 : decode prog_6_method_20_code 7 = .ok (.invokevirtual 94, 3) := by decide +kernel
theorem d_RM_isBefore_10 : decode prog_6_method_20_code 10 = .ok (.if_icmp .eq 22, 3) := by decide +kernel
theorem d_RM_isBefore_13 : decode prog_6_method_20_code 13 = .ok (.aload_n 0, 1) := by decide +kernel
theorem d_RM_isBefore_14 : decode prog_6_method_20_code 14 = .ok (.iload_n 1, 1) := by decide +kernel
theorem d_RM_isBefore_15 : decode prog_6_method_20_code 15 = .ok (.invokevirtual 94, 3) := by decide +kernel
theorem d_RM_isBefore_18 : decode prog_6_method_20_code 18 = .ok (.aload_n 0, 1) := by decide +kernel
theorem d_RM_isBefore_19 : decode prog_6_method_20_code 19 = .ok (.iload_n 2, 1) := by decide +kernel
theorem d_RM_isBefore_20 : decode prog_6_method_20_code 20 = .ok (.invokevirtual 94, 3) := by decide +kernel
theorem d_RM_isBefore_23 : decode prog_6_method_20_code 23 = .ok (.if_icmp .ge 7, 3) := by decide +kernel
theorem d_RM_isBefore_26 : decode prog_6_method_20_code 26 = .ok (.iconst 1, 1) := by decide +kernel
theorem d_RM_isBefore_27 : decode prog_6_method_20_code 27 = .ok (.goto 4, 3) := by decide +kernel
theorem d_RM_isBefore_30 : decode prog_6_method_20_code 30 = .ok (.iconst 0, 1) := by decide +kernel
theorem d_RM_isBefore_31 : decode prog_6_method_20_code 31 = .ok (.ireturn, 1) := by decide +kernel
theorem d_RM_isBefore_32 : decode prog_6_method_20_code 32 = .ok (.aload_n 0, 1) := by decide +kernel
theorem d_RM_isBefore_33 : decode prog_6_method_20_code 33 = .ok (.iload_n 1, 1) := by decide +kernel
theorem d_RM_isBefore_34 : decode prog_6_method_20_code 34 = .ok (.invokevirtual 100, 3) := by decide +kernel
theorem d_RM_isBefore_37 : decode prog_6_method_20_code 37 = .ok (.aload_n 0, 1) := by decide +kernel
theorem d_RM_isBefore_38 : decode prog_6_method_20_code 38 = .ok (.iload_n 2, 1) := by decide +kernel
theorem d_RM_isBefore_39 : decode prog_6_method_20_code 39 = .ok (.invokevirtual 100, 3) := by decide +kernel
theorem d_RM_isBefore_42 : decode prog_6_method_20_code 42 = .ok (.if_icmp .eq 24, 3) := by decide +kernel
theorem d_RM_isBefore_45 : decode prog_6_method_20_code 45 = .ok (.aload_n 0, 1) := by decide +kernel
theorem d_RM_isBefore_46 : decode prog_6_method_20_code 46 = .ok (.iload_n 1, 1) := by decide +kernel
theorem d_RM_isBefore_47 : decode prog_6_method_20_code 47 = .ok (.invokevirtual 100, 3) := by decide +kernel
theorem d_RM_isBefore_50 : decode prog_6_method_20_code 50 = .ok (.aload_n 0, 1) := by decide +kernel
theorem d_RM_isBefore_51 : decode prog_6_method_20_code 51 = .ok (.iload_n 2, 1) := by decide +kernel
theorem d_RM_isBefore_52 : decode prog_6_method_20_code 52 = .ok (.invokevirtual 100, 3) := by decide +kernel
theorem d_RM_isBefore_55 : decode prog_6_method_20_code 55 = .ok (.if_icmp .ge 7, 3) := by decide +kernel
theorem d_RM_isBefore_58 : decode prog_6_method_20_code 58 = .ok (.iconst 1, 1) := by decide +kernel
theorem d_RM_isBefore_59 : decode prog_6_method_20_code 59 = .ok (.goto 18, 3) := by decide +kernel
theorem d_RM_isBefore_62 : decode prog_6_method_20_code 62 = .ok (.iconst 0, 1) := by decide +kernel
theorem d_RM_isBefore_63 : decode prog_6_method_20_code 63 = .ok (.goto 14, 3) := by decide +kernel
theorem d_RM_isBefore_66 : decode prog_6_method_20_code 66 = .ok (.iload_n 3, 1) := by decide +kernel
theorem d_RM_isBefore_67 : decode prog_6_method_20_code 67 = .ok (.iload 4, 2) := by decide +kernel
theorem d_RM_isBefore_69 : decode prog_6_method_20_code 69 = .ok (.if_icmp .ge 7, 3) := by decide +kernel
theorem d_RM_isBefore_72 : decode prog_6_method_20_code 72 = .ok (.iconst 1, 1) := by decide +kernel
theorem d_RM_isBefore_73 : decode prog_6_method_20_code 73 = .ok (.goto 4, 3) := by decide +kernel
theorem d_RM_isBefore_76 : decode prog_6_method_20_code 76 = .ok (.iconst 0, 1) := by decide +kernel
theorem d_RM_isBefore_77 : decode prog_6_method_20_code 77 = .ok (.ireturn, 1) := by decide +kernel
theorem d_RM_findBlocks_0 : decode prog_6_method_21_code 0 = .ok (.iconst 0, 1) := by decide +kernel
theorem d_RM_findBlocks_1 : decode prog_6_method_21_code 1 = .ok (.istore_n 1, 1) := by decide +kernel
theorem d_RM_findBlocks_2 : decode prog_6_method_21_code 2 = .ok (.iload_n 1, 1) := by decide +kernel
theorem d_RM_findBlocks_3 : decode prog_6_method_21_code 3 = .ok (.aload_n 0, 1) := by decide +kernel
theorem d_RM_findBlocks_4 : decode prog_6_method_21_code 4 = .ok (.getfield 113, 3) := by decide +kernel
theorem d_RM_findBlocks_7 : decode prog_6_method_21_code 7 = .ok (.if_icmp .ge 16, 3) := by decide +kernel
theorem d_RM_findBlocks_10 : decode prog_6_method_21_code 10 = .ok (.aload_n 0, 1) := by decide +kernel
theorem d_RM_findBlocks_11 : decode prog_6_method_21_code 11 = .ok (.getfield 25, 3) := by decide +kernel
theorem d_RM_findBlocks_14 : decode prog_6_method_21_code 14 = .ok (.iload_n 1, 1) := by decide +kernel
theorem d_RM_findBlocks_15 : decode prog_6_method_21_code 15 = .ok (.iload_n 1, 1) := by decide +kernel
theorem d_RM_findBlocks_16 : decode prog_6_method_21_code 16 = .ok (.iastore, 1) := by decide +kernel
theorem d_RM_findBlocks_17 : decode prog_6_method_21_code 17 = .ok (.iinc 1 1, 3) := by decide +kernel
theorem d_RM_findBlocks_20 : decode prog_6_method_21_code 20 = .ok (.goto (-18), 3) := by decide +kernel
theorem d_RM_findBlocks_23 : decode prog_6_method_21_code 23 = .ok (.iconst 0, 1) := by decide +kernel
theorem d_RM_findBlocks_24 : decode prog_6_method_21_code 24 = .ok (.istore_n 1, 1) := by decide +kernel
theorem d_RM_findBlocks_25 : decode prog_6_method_21_code 25 = .ok (.iload_n 1, 1) := by decide +kernel
theorem d_RM_findBlocks_26 : decode prog_6_method_21_code 26 = .ok (.aload_n 0, 1) := by decide +kernel
theorem d_RM_findBlocks_27 : decode prog_6_method_21_code 27 = .ok (.getfield 113, 3) := by decide +kernel
theorem d_RM_findBlocks_30 : decode prog_6_method_21_code 30 = .ok (.if_icmp .ge 92, 3) := by decide +kernel
theorem d_RM_findBlocks_33 : decode prog_6_method_21_code 33 = .ok (.iconst 0, 1) := by decide +kernel
theorem d_RM_findBlocks_34 : decode prog_6_method_21_code 34 = .ok (.istore_n 2, 1) := by decide +kernel
theorem d_RM_findBlocks_35 : decode prog_6_method_21_code 35 = .ok (.iload_n 2, 1) := by decide +kernel
theorem d_RM_findBlocks_36 : decode prog_6_method_21_code 36 = .ok (.aload_n 0, 1) := by decide +kernel
theorem d_RM_findBlocks_37 : decode prog_6_method_21_code 37 = .ok (.getfield 113, 3) := by decide +kernel
theorem d_RM_findBlocks_40 : decode prog_6_method_21_code 40 = .ok (.if_icmp .ge 76, 3) := by decide +kernel
theorem d_RM_findBlocks_43 : decode prog_6_method_21_code 43 = .ok (.iconst 0, 1) := by decide +kernel
theorem d_RM_findBlocks_44 : decode prog_6_method_21_code 44 = .ok (.istore_n 3, 1) := by decide +kernel
theorem d_RM_findBlocks_45 : decode prog_6_method_21_code 45 = .ok (.iload_n 3, 1) := by decide +kernel
theorem d_RM_findBlocks_46 : decode prog_6_method_21_code 46 = .ok (.aload_n 0, 1) := by decide +kernel
theorem d_RM_findBlocks_47 : decode prog_6_method_21_code 47 = .ok (.getfield 113, 3) := by decide +kernel
theorem d_RM_findBlocks_50 : decode prog_6_method_21_code 50 = .ok (.if_icmp .ge 60, 3) := by decide +kernel
theorem d_RM_findBlocks_53 : decode prog_6_method_21_code 53 = .ok (.aload_n 0, 1) := by decide +kernel
theorem d_RM_findBlocks_54 : decode prog_6_method_21_code 54 = .ok (.getfield 25, 3) := by decide +kernel
theorem d_RM_findBlocks_57 : decode prog_6_method_21_code 57 = .ok (.iload_n 2, 1) := by decide +kernel
theorem d_RM_findBlocks_58 : decode prog_6_method_21_code 58 = .ok (.aload_n 0, 1) := by decide +kernel
theorem d_RM_findBlocks_59 : decode prog_6_method_21_code 59 = .ok (.getfield 25, 3) := by decide +kernel
theorem d_RM_findBlocks_62 : decode prog_6_method_21_code 62 = .ok (.iload_n 3, 1) := by decide +kernel
theorem d_RM_findBlocks_63 : decode prog_6_method_21_code 63 = .ok (.iaload, 1) := by decide +kernel
theorem d_RM_findBlocks_64 : decode prog_6_method_21_code 64 = .ok (.aload_n 0, 1) := by decide +kernel
theorem d_RM_findBlocks_65 : decode prog_6_method_21_code 65 = .ok (.getfield 25, 3) := by decide +kernel
theorem d_RM_findBlocks_68 : decode prog_6_method_21_code 68 = .ok (.iload_n 2, 1) := by decide +kernel
theorem d_RM_findBlocks_69 : decode prog_6_method_21_code 69 = .ok (.iaload, 1) := by decide +kernel
theorem d_RM_findBlocks_70 : decode prog_6_method_21_code 70 = .ok (.if_icmp .ge 27, 3) := by decide +kernel
theorem d_RM_findBlocks_73 : decode prog_6_method_21_code 73 = .ok (.aload_n 0, 1) := by decide +kernel
theorem d_RM_findBlocks_74 : decode prog_6_method_21_code 74 = .ok (.bipush 64, 2) := by decide +kernel
theorem d_RM_findBlocks_76 : decode prog_6_method_21_code 76 = .ok (.iload_n 2, 1) := by decide +kernel
theorem d_RM_findBlocks_77 : decode prog_6_method_21_code 77 = .ok (.iadd, 1) := by decide +kernel
theorem d_RM_findBlocks_78 : decode prog_6_method_21_code 78 = .ok (.bipush 64, 2) := by decide +kernel
theorem d_RM_findBlocks_80 : decode prog_6_method_21_code 80 = .ok (.iload_n 3, 1) := by decide +kernel
theorem d_RM_findBlocks_81 : decode prog_6_method_21_code 81 = .ok (.iadd, 1) := by decide +kernel
theorem d_RM_findBlocks_82 : decode prog_6_method_21_code 82 = .ok (.invokevirtual 123, 3) := by decide +kernel
theorem d_RM_findBlocks_85 : decode prog_6_method_21_code 85 = .ok (.ifCond .eq 12, 3) := by decide +kernel
theorem d_RM_findBlocks_88 : decode prog_6_method_21_code 88 = .ok (.aload_n 0, 1) := by decide +kernel
theorem d_RM_findBlocks_89 : decode prog_6_method_21_code 89 = .ok (.getfield 25, 3) := by decide +kernel
theorem d_RM_findBlocks_92 : decode prog_6_method_21_code 92 = .ok (.iload_n 3, 1) := by decide +kernel
theorem d_RM_findBlocks_93 : decode prog_6_method_21_code 93 = .ok (.iaload, 1) := by decide +kernel
theorem d_RM_findBlocks_94 : decode prog_6_method_21_code 94 = .ok (.goto 9, 3) := by decide +kernel
theorem d_RM_findBlocks_97 : decode prog_6_method_21_code 97 = .ok (.aload_n 0, 1) := by decide +kernel
theorem d_RM_findBlocks_98 : decode prog_6_method_21_code 98 = .ok (.getfield 25, 3) := by decide +kernel
theorem d_RM_findBlocks_101 : decode prog_6_method_21_code 101 = .ok (.iload_n 2, 1) := by decide +kernel
theorem d_RM_findBlocks_102 : decode prog_6_method_21_code 102 = .ok (.iaload, 1) := by decide +kernel
theorem d_RM_findBlocks_103 : decode prog_6_method_21_code 103 = .ok (.iastore, 1) := by decide +kernel
theorem d_RM_findBlocks_104 : decode prog_6_method_21_code 104 = .ok (.iinc 3 1, 3) := by decide +kernel
theorem d_RM_findBlocks_107 : decode prog_6_method_21_code 107 = .ok (.goto (-62), 3) := by decide +kernel
theorem d_RM_findBlocks_110 : decode prog_6_method_21_code 110 = .ok (.iinc 2 1, 3) := by decide +kernel
theorem d_RM_findBlocks_113 : decode prog_6_method_21_code 113 = .ok (.goto (-78), 3) := by decide +kernel
theorem d_RM_findBlocks_116 : decode prog_6_method_21_code 116 = .ok (.iinc 1 1, 3) := by decide +kernel
theorem d_RM_findBlocks_119 : decode prog_6_method_21_code 119 = .ok (.goto (-94), 3) := by decide +kernel
theorem d_RM_findBlocks_122 : decode prog_6_method_21_code 122 = .ok (.return_, 1) := by decide +kernel
theorem d_RM_lineAt_0 : decode prog_6_method_22_code 0 = .ok (.iconst 0, 1) := by decide +kernel
theorem d_RM_lineAt_1 : decode prog_6_method_22_code 1 = .ok (.istore_n 2, 1) := by decide +kernel
theorem d_RM_lineAt_2 : decode prog_6_method_22_code 2 = .ok (.aload_n 0, 1) := by decide +kernel
theorem d_RM_lineAt_3 : decode prog_6_method_22_code 3 = .ok (.getfield 22, 3) := by decide +kernel
theorem d_RM_lineAt_6 : decode prog_6_method_22_code 6 = .ok (.iload_n 2, 1) := by decide +kernel
theorem d_RM_lineAt_7 : decode prog_6_method_22_code 7 = .ok (.iaload, 1) := by decide +kernel
theorem d_RM_lineAt_8 : decode prog_6_method_22_code 8 = .ok (.aload_n 0, 1) := by decide +kernel
theorem d_RM_lineAt_9 : decode prog_6_method_22_code 9 = .ok (.getfield 16, 3) := by decide +kernel
theorem d_RM_lineAt_12 : decode prog_6_method_22_code 12 = .ok (.iload_n 1, 1) := by decide +kernel
theorem d_RM_lineAt_13 : decode prog_6_method_22_code 13 = .ok (.iaload, 1) := by decide +kernel
theorem d_RM_lineAt_14 : decode prog_6_method_22_code 14 = .ok (.if_icmp .eq 9, 3) := by decide +kernel
theorem d_RM_lineAt_17 : decode prog_6_method_22_code 17 = .ok (.iinc 2 1, 3) := by decide +kernel
theorem d_RM_lineAt_20 : decode prog_6_method_22_code 20 = .ok (.goto (-18), 3) := by decide +kernel
theorem d_RM_lineAt_23 : decode prog_6_method_22_code 23 = .ok (.iload_n 2, 1) := by decide +kernel
theorem d_RM_lineAt_24 : decode prog_6_method_22_code 24 = .ok (.ireturn, 1) := by decide +kernel
theorem d_RM_keepLines_0 : decode prog_6_method_23_code 0 = .ok (.aload_n 0, 1) := by decide +kernel
theorem d_RM_keepLines_1 : decode prog_6_method_23_code 1 = .ok (.aload_n 0, 1) := by decide +kernel
theorem d_RM_keepLines_2 : decode prog_6_method_23_code 2 = .ok (.getfield 113, 3) := by decide +kernel
theorem d_RM_keepLines_5 : decode prog_6_method_23_code 5 = .ok (.putfield 126, 3) := by decide +kernel
theorem d_RM_keepLines_8 : decode prog_6_method_23_code 8 = .ok (.iconst 0, 1) := by decide +kernel
theorem d_RM_keepLines_9 : decode prog_6_method_23_code 9 = .ok (.istore_n 1, 1) := by decide +kernel
theorem d_RM_keepLines_10 : decode prog_6_method_23_code 10 = .ok (.iload_n 1, 1) := by decide +kernel
theorem d_RM_keepLines_11 : decode prog_6_method_23_code 11 = .ok (.aload_n 0, 1) := by decide +kernel
theorem d_RM_keepLines_12 : decode prog_6_method_23_code 12 = .ok (.getfield 113, 3) := by decide +kernel
theorem d_RM_keepLines_15 : decode prog_6_method_23_code 15 = .ok (.if_icmp .ge 113, 3) := by decide +kernel
theorem d_RM_keepLines_18 : decode prog_6_method_23_code 18 = .ok (.iconst 0, 1) := by decide +kernel
theorem d_RM_keepLines_19 : decode prog_6_method_23_code 19 = .ok (.istore_n 2, 1) := by decide +kernel
theorem d_RM_keepLines_20 : decode prog_6_method_23_code 20 = .ok (.iload_n 2, 1) := by decide +kernel
theorem d_RM_keepLines_21 : decode prog_6_method_23_code 21 = .ok (.iconst 4, 1) := by decide +kernel
theorem d_RM_keepLines_22 : decode prog_6_method_23_code 22 = .ok (.if_icmp .ge 29, 3) := by decide +kernel
theorem d_RM_keepLines_25 : decode prog_6_method_23_code 25 = .ok (.aload_n 0, 1) := by decide +kernel
theorem d_RM_keepLines_26 : decode prog_6_method_23_code 26 = .ok (.getfield 44, 3) := by decide +kernel
theorem d_RM_keepLines_29 : decode prog_6_method_23_code 29 = .ok (.iconst 4, 1) := by decide +kernel
theorem d_RM_keepLines_30 : decode prog_6_method_23_code 30 = .ok (.iload_n 1, 1) := by decide +kernel
theorem d_RM_keepLines_31 : decode prog_6_method_23_code 31 = .ok (.imul, 1) := by decide +kernel
theorem d_RM_keepLines_32 : decode prog_6_method_23_code 32 = .ok (.iload_n 2, 1) := by decide +kernel
theorem d_RM_keepLines_33 : decode prog_6_method_23_code 33 = .ok (.iadd, 1) := by decide +kernel
theorem d_RM_keepLines_34 : decode prog_6_method_23_code 34 = .ok (.aload_n 0, 1) := by decide +kernel
theorem d_RM_keepLines_35 : decode prog_6_method_23_code 35 = .ok (.getfield 19, 3) := by decide +kernel
theorem d_RM_keepLines_38 : decode prog_6_method_23_code 38 = .ok (.iconst 4, 1) := by decide +kernel
theorem d_RM_keepLines_39 : decode prog_6_method_23_code 39 = .ok (.iload_n 1, 1) := by decide +kernel
theorem d_RM_keepLines_40 : decode prog_6_method_23_code 40 = .ok (.imul, 1) := by decide +kernel
theorem d_RM_keepLines_41 : decode prog_6_method_23_code 41 = .ok (.iload_n 2, 1) := by decide +kernel
theorem d_RM_keepLines_42 : decode prog_6_method_23_code 42 = .ok (.iadd, 1) := by decide +kernel
theorem d_RM_keepLines_43 : decode prog_6_method_23_code 43 = .ok (.iaload, 1) := by decide +kernel
theorem d_RM_keepLines_44 : decode prog_6_method_23_code 44 = .ok (.iastore, 1) := by decide +kernel
theorem d_RM_keepLines_45 : decode prog_6_method_23_code 45 = .ok (.iinc 2 1, 3) := by decide +kernel
