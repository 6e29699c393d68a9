theorem d_RM_keepLines_48 : decode prog_6_method_23_code 48 = .ok (.goto (-28), 3) := by decide +kernel
theorem d_RM_keepLines_51 : decode prog_6_method_23_code 51 = .ok (.aload_n 0, 1) := by decide +kernel
theorem d_RM_keepLines_52 : decode prog_6_method_23_code 52 = .ok (.getfield 47, 3) := by decide +kernel
theorem d_RM_keepLines_55 : decode prog_6_method_23_code 55 = .ok (.iload_n 1, 1) := by decide +kernel
theorem d_RM_keepLines_56 : decode prog_6_method_23_code 56 = .ok (.aload_n 0, 1) := by decide +kernel
theorem d_RM_keepLines_57 : decode prog_6_method_23_code 57 = .ok (.getfield 22, 3) := by decide +kernel
theorem d_RM_keepLines_60 : decode prog_6_method_23_code 60 = .ok (.iload_n 1, 1) := by decide +kernel
theorem d_RM_keepLines_61 : decode prog_6_method_23_code 61 = .ok (.iaload, 1) := by decide +kernel
theorem d_RM_keepLines_62 : decode prog_6_method_23_code 62 = .ok (.iastore, 1) := by decide +kernel
theorem d_RM_keepLines_63 : decode prog_6_method_23_code 63 = .ok (.aload_n 0, 1) := by decide +kernel
theorem d_RM_keepLines_64 : decode prog_6_method_23_code 64 = .ok (.getfield 50, 3) := by decide +kernel
theorem d_RM_keepLines_67 : decode prog_6_method_23_code 67 = .ok (.iload_n 1, 1) := by decide +kernel
theorem d_RM_keepLines_68 : decode prog_6_method_23_code 68 = .ok (.iconst 0, 1) := by decide +kernel
theorem d_RM_keepLines_69 : decode prog_6_method_23_code 69 = .ok (.iastore, 1) := by decide +kernel
theorem d_RM_keepLines_70 : decode prog_6_method_23_code 70 = .ok (.aload_n 0, 1) := by decide +kernel
theorem d_RM_keepLines_71 : decode prog_6_method_23_code 71 = .ok (.getfield 53, 3) := by decide +kernel
theorem d_RM_keepLines_74 : decode prog_6_method_23_code 74 = .ok (.iload_n 1, 1) := by decide +kernel
theorem d_RM_keepLines_75 : decode prog_6_method_23_code 75 = .ok (.iconst 0, 1) := by decide +kernel
theorem d_RM_keepLines_76 : decode prog_6_method_23_code 76 = .ok (.iastore, 1) := by decide +kernel
theorem d_RM_keepLines_77 : decode prog_6_method_23_code 77 = .ok (.iconst 0, 1) := by decide +kernel
theorem d_RM_keepLines_78 : decode prog_6_method_23_code 78 = .ok (.istore_n 2, 1) := by decide +kernel
theorem d_RM_keepLines_79 : decode prog_6_method_23_code 79 = .ok (.iload_n 2, 1) := by decide +kernel
theorem d_RM_keepLines_80 : decode prog_6_method_23_code 80 = .ok (.aload_n 0, 1) := by decide +kernel
theorem d_RM_keepLines_81 : decode prog_6_method_23_code 81 = .ok (.getfield 73, 3) := by decide +kernel
theorem d_RM_keepLines_84 : decode prog_6_method_23_code 84 = .ok (.if_icmp .ge 38, 3) := by decide +kernel
theorem d_RM_keepLines_87 : decode prog_6_method_23_code 87 = .ok (.aload_n 0, 1) := by decide +kernel
theorem d_RM_keepLines_88 : decode prog_6_method_23_code 88 = .ok (.getfield 50, 3) := by decide +kernel
theorem d_RM_keepLines_91 : decode prog_6_method_23_code 91 = .ok (.iload_n 1, 1) := by decide +kernel
theorem d_RM_keepLines_92 : decode prog_6_method_23_code 92 = .ok (.dup2, 1) := by decide +kernel
theorem d_RM_keepLines_93 : decode prog_6_method_23_code 93 = .ok (.iaload, 1) := by decide +kernel
theorem d_RM_keepLines_94 : decode prog_6_method_23_code 94 = .ok (.aload_n 0, 1) := by decide +kernel
theorem d_RM_keepLines_95 : decode prog_6_method_23_code 95 = .ok (.getfield 16, 3) := by decide +kernel
theorem d_RM_keepLines_98 : decode prog_6_method_23_code 98 = .ok (.iload_n 2, 1) := by decide +kernel
theorem d_RM_keepLines_99 : decode prog_6_method_23_code 99 = .ok (.iaload, 1) := by decide +kernel
theorem d_RM_keepLines_100 : decode prog_6_method_23_code 100 = .ok (.aload_n 0, 1) := by decide +kernel
theorem d_RM_keepLines_101 : decode prog_6_method_23_code 101 = .ok (.getfield 22, 3) := by decide +kernel
theorem d_RM_keepLines_104 : decode prog_6_method_23_code 104 = .ok (.iload_n 1, 1) := by decide +kernel
theorem d_RM_keepLines_105 : decode prog_6_method_23_code 105 = .ok (.iaload, 1) := by decide +kernel
theorem d_RM_keepLines_106 : decode prog_6_method_23_code 106 = .ok (.if_icmp .ne 7, 3) := by decide +kernel
theorem d_RM_keepLines_109 : decode prog_6_method_23_code 109 = .ok (.iconst 1, 1) := by decide +kernel
theorem d_RM_keepLines_110 : decode prog_6_method_23_code 110 = .ok (.goto 4, 3) := by decide +kernel
theorem d_RM_keepLines_113 : decode prog_6_method_23_code 113 = .ok (.iconst 0, 1) := by decide +kernel
theorem d_RM_keepLines_114 : decode prog_6_method_23_code 114 = .ok (.iadd, 1) := by decide +kernel
theorem d_RM_keepLines_115 : decode prog_6_method_23_code 115 = .ok (.iastore, 1) := by decide +kernel
theorem d_RM_keepLines_116 : decode prog_6_method_23_code 116 = .ok (.iinc 2 1, 3) := by decide +kernel
theorem d_RM_keepLines_119 : decode prog_6_method_23_code 119 = .ok (.goto (-40), 3) := by decide +kernel
theorem d_RM_keepLines_122 : decode prog_6_method_23_code 122 = .ok (.iinc 1 1, 3) := by decide +kernel
theorem d_RM_keepLines_125 : decode prog_6_method_23_code 125 = .ok (.goto (-115), 3) := by decide +kernel
theorem d_RM_keepLines_128 : decode prog_6_method_23_code 128 = .ok (.aload_n 0, 1) := by decide +kernel
theorem d_RM_keepLines_129 : decode prog_6_method_23_code 129 = .ok (.iconst 0, 1) := by decide +kernel
theorem d_RM_keepLines_130 : decode prog_6_method_23_code 130 = .ok (.putfield 129, 3) := by decide +kernel
theorem d_RM_keepLines_133 : decode prog_6_method_23_code 133 = .ok (.iconst 0, 1) := by decide +kernel
theorem d_RM_keepLines_134 : decode prog_6_method_23_code 134 = .ok (.istore_n 1, 1) := by decide +kernel
theorem d_RM_keepLines_135 : decode prog_6_method_23_code 135 = .ok (.iload_n 1, 1) := by decide +kernel
theorem d_RM_keepLines_136 : decode prog_6_method_23_code 136 = .ok (.aload_n 0, 1) := by decide +kernel
theorem d_RM_keepLines_137 : decode prog_6_method_23_code 137 = .ok (.getfield 113, 3) := by decide +kernel
theorem d_RM_keepLines_140 : decode prog_6_method_23_code 140 = .ok (.if_icmp .ge 24, 3) := by decide +kernel
theorem d_RM_keepLines_143 : decode prog_6_method_23_code 143 = .ok (.aload_n 0, 1) := by decide +kernel
theorem d_RM_keepLines_144 : decode prog_6_method_23_code 144 = .ok (.getfield 25, 3) := by decide +kernel
theorem d_RM_keepLines_147 : decode prog_6_method_23_code 147 = .ok (.iload_n 1, 1) := by decide +kernel
theorem d_RM_keepLines_148 : decode prog_6_method_23_code 148 = .ok (.iaload, 1) := by decide +kernel
theorem d_RM_keepLines_149 : decode prog_6_method_23_code 149 = .ok (.iload_n 1, 1) := by decide +kernel
theorem d_RM_keepLines_150 : decode prog_6_method_23_code 150 = .ok (.if_icmp .ne 8, 3) := by decide +kernel
theorem d_RM_keepLines_153 : decode prog_6_method_23_code 153 = .ok (.aload_n 0, 1) := by decide +kernel
theorem d_RM_keepLines_154 : decode prog_6_method_23_code 154 = .ok (.iload_n 1, 1) := by decide +kernel
theorem d_RM_keepLines_155 : decode prog_6_method_23_code 155 = .ok (.invokevirtual 132, 3) := by decide +kernel
theorem d_RM_keepLines_158 : decode prog_6_method_23_code 158 = .ok (.iinc 1 1, 3) := by decide +kernel
theorem d_RM_keepLines_161 : decode prog_6_method_23_code 161 = .ok (.goto (-26), 3) := by decide +kernel
theorem d_RM_keepLines_164 : decode prog_6_method_23_code 164 = .ok (.aload_n 0, 1) := by decide +kernel
theorem d_RM_keepLines_165 : decode prog_6_method_23_code 165 = .ok (.aload_n 0, 1) := by decide +kernel
theorem d_RM_keepLines_166 : decode prog_6_method_23_code 166 = .ok (.getfield 73, 3) := by decide +kernel
theorem d_RM_keepLines_169 : decode prog_6_method_23_code 169 = .ok (.putfield 136, 3) := by decide +kernel
theorem d_RM_keepLines_172 : decode prog_6_method_23_code 172 = .ok (.iconst 0, 1) := by decide +kernel
theorem d_RM_keepLines_173 : decode prog_6_method_23_code 173 = .ok (.istore_n 1, 1) := by decide +kernel
theorem d_RM_keepLines_174 : decode prog_6_method_23_code 174 = .ok (.iload_n 1, 1) := by decide +kernel
theorem d_RM_keepLines_175 : decode prog_6_method_23_code 175 = .ok (.aload_n 0, 1) := by decide +kernel
theorem d_RM_keepLines_176 : decode prog_6_method_23_code 176 = .ok (.getfield 73, 3) := by decide +kernel
theorem d_RM_keepLines_179 : decode prog_6_method_23_code 179 = .ok (.if_icmp .ge 25, 3) := by decide +kernel
theorem d_RM_keepLines_182 : decode prog_6_method_23_code 182 = .ok (.aload_n 0, 1) := by decide +kernel
theorem d_RM_keepLines_183 : decode prog_6_method_23_code 183 = .ok (.getfield 56, 3) := by decide +kernel
theorem d_RM_keepLines_186 : decode prog_6_method_23_code 186 = .ok (.iload_n 1, 1) := by decide +kernel
theorem d_RM_keepLines_187 : decode prog_6_method_23_code 187 = .ok (.aload_n 0, 1) := by decide +kernel
theorem d_RM_keepLines_188 : decode prog_6_method_23_code 188 = .ok (.getfield 53, 3) := by decide +kernel
theorem d_RM_keepLines_191 : decode prog_6_method_23_code 191 = .ok (.aload_n 0, 1) := by decide +kernel
theorem d_RM_keepLines_192 : decode prog_6_method_23_code 192 = .ok (.iload_n 1, 1) := by decide +kernel
theorem d_RM_keepLines_193 : decode prog_6_method_23_code 193 = .ok (.invokevirtual 139, 3) := by decide +kernel
theorem d_RM_keepLines_196 : decode prog_6_method_23_code 196 = .ok (.iaload, 1) := by decide +kernel
theorem d_RM_keepLines_197 : decode prog_6_method_23_code 197 = .ok (.iastore, 1) := by decide +kernel
theorem d_RM_keepLines_198 : decode prog_6_method_23_code 198 = .ok (.iinc 1 1, 3) := by decide +kernel
theorem d_RM_keepLines_201 : decode prog_6_method_23_code 201 = .ok (.goto (-27), 3) := by decide +kernel
theorem d_RM_keepLines_204 : decode prog_6_method_23_code 204 = .ok (.return_, 1) := by decide +kernel
theorem d_RM_keepBlock_0 : decode prog_6_method_24_code 0 = .ok (.aload_n 0, 1) := by decide +kernel
theorem d_RM_keepBlock_1 : decode prog_6_method_24_code 1 = .ok (.getfield 129, 3) := by decide +kernel
theorem d_RM_keepBlock_4 : decode prog_6_method_24_code 4 = .ok (.istore_n 2, 1) := by decide +kernel
theorem d_RM_keepBlock_5 : decode prog_6_method_24_code 5 = .ok (.aload_n 0, 1) := by decide +kernel
theorem d_RM_keepBlock_6 : decode prog_6_method_24_code 6 = .ok (.dup, 1) := by decide +kernel
theorem d_RM_keepBlock_7 : decode prog_6_method_24_code 7 = .ok (.getfield 129, 3) := by decide +kernel
theorem d_RM_keepBlock_10 : decode prog_6_method_24_code 10 = .ok (.iconst 1, 1) := by decide +kernel
theorem d_RM_keepBlock_11 : decode prog_6_method_24_code 11 = .ok (.iadd, 1) := by decide +kernel
theorem d_RM_keepBlock_12 : decode prog_6_method_24_code 12 = .ok (.putfield 129, 3) := by decide +kernel
theorem d_RM_keepBlock_15 : decode prog_6_method_24_code 15 = .ok (.aload_n 0, 1) := by decide +kernel
theorem d_RM_keepBlock_16 : decode prog_6_method_24_code 16 = .ok (.getfield 31, 3) := by decide +kernel
theorem d_RM_keepBlock_19 : decode prog_6_method_24_code 19 = .ok (.iload_n 2, 1) := by decide +kernel
theorem d_RM_keepBlock_20 : decode prog_6_method_24_code 20 = .ok (.bipush 64, 2) := by decide +kernel
theorem d_RM_keepBlock_22 : decode prog_6_method_24_code 22 = .ok (.iastore, 1) := by decide +kernel
theorem d_RM_keepBlock_23 : decode prog_6_method_24_code 23 = .ok (.iload_n 1, 1) := by decide +kernel
theorem d_RM_keepBlock_24 : decode prog_6_method_24_code 24 = .ok (.istore_n 3, 1) := by decide +kernel
theorem d_RM_keepBlock_25 : decode prog_6_method_24_code 25 = .ok (.iload_n 3, 1) := by decide +kernel
theorem d_RM_keepBlock_26 : decode prog_6_method_24_code 26 = .ok (.aload_n 0, 1) := by decide +kernel
theorem d_RM_keepBlock_27 : decode prog_6_method_24_code 27 = .ok (.getfield 113, 3) := by decide +kernel
theorem d_RM_keepBlock_30 : decode prog_6_method_24_code 30 = .ok (.if_icmp .ge 103, 3) := by decide +kernel
theorem d_RM_keepBlock_33 : decode prog_6_method_24_code 33 = .ok (.aload_n 0, 1) := by decide +kernel
theorem d_RM_keepBlock_34 : decode prog_6_method_24_code 34 = .ok (.getfield 25, 3) := by decide +kernel
theorem d_RM_keepBlock_37 : decode prog_6_method_24_code 37 = .ok (.iload_n 3, 1) := by decide +kernel
theorem d_RM_keepBlock_38 : decode prog_6_method_24_code 38 = .ok (.iaload, 1) := by decide +kernel
theorem d_RM_keepBlock_39 : decode prog_6_method_24_code 39 = .ok (.iload_n 1, 1) := by decide +kernel
theorem d_RM_keepBlock_40 : decode prog_6_method_24_code 40 = .ok (.if_icmp .ne 87, 3) := by decide +kernel
theorem d_RM_keepBlock_43 : decode prog_6_method_24_code 43 = .ok (.aload_n 0, 1) := by decide +kernel
theorem d_RM_keepBlock_44 : decode prog_6_method_24_code 44 = .ok (.getfield 53, 3) := by decide +kernel
theorem d_RM_keepBlock_47 : decode prog_6_method_24_code 47 = .ok (.iload_n 3, 1) := by decide +kernel
theorem d_RM_keepBlock_48 : decode prog_6_method_24_code 48 = .ok (.iload_n 2, 1) := by decide +kernel
theorem d_RM_keepBlock_49 : decode prog_6_method_24_code 49 = .ok (.iastore, 1) := by decide +kernel
theorem d_RM_keepBlock_50 : decode prog_6_method_24_code 50 = .ok (.aload_n 0, 1) := by decide +kernel
theorem d_RM_keepBlock_51 : decode prog_6_method_24_code 51 = .ok (.getfield 28, 3) := by decide +kernel
theorem d_RM_keepBlock_54 : decode prog_6_method_24_code 54 = .ok (.iload_n 2, 1) := by decide +kernel
theorem d_RM_keepBlock_55 : decode prog_6_method_24_code 55 = .ok (.aload_n 0, 1) := by decide +kernel
theorem d_RM_keepBlock_56 : decode prog_6_method_24_code 56 = .ok (.getfield 19, 3) := by decide +kernel
theorem d_RM_keepBlock_59 : decode prog_6_method_24_code 59 = .ok (.iconst 4, 1) := by decide +kernel
theorem d_RM_keepBlock_60 : decode prog_6_method_24_code 60 = .ok (.iload_n 3, 1) := by decide +kernel
theorem d_RM_keepBlock_61 : decode prog_6_method_24_code 61 = .ok (.imul, 1) := by decide +kernel
theorem d_RM_keepBlock_62 : decode prog_6_method_24_code 62 = .ok (.iaload, 1) := by decide +kernel
theorem d_RM_keepBlock_63 : decode prog_6_method_24_code 63 = .ok (.aload_n 0, 1) := by decide +kernel
theorem d_RM_keepBlock_64 : decode prog_6_method_24_code 64 = .ok (.getfield 19, 3) := by decide +kernel
theorem d_RM_keepBlock_67 : decode prog_6_method_24_code 67 = .ok (.iconst 4, 1) := by decide +kernel
theorem d_RM_keepBlock_68 : decode prog_6_method_24_code 68 = .ok (.iload_n 3, 1) := by decide +kernel
theorem d_RM_keepBlock_69 : decode prog_6_method_24_code 69 = .ok (.imul, 1) := by decide +kernel
theorem d_RM_keepBlock_70 : decode prog_6_method_24_code 70 = .ok (.iconst 1, 1) := by decide +kernel
theorem d_RM_keepBlock_71 : decode prog_6_method_24_code 71 = .ok (.iadd, 1) := by decide +kernel
theorem d_RM_keepBlock_72 : decode prog_6_method_24_code 72 = .ok (.iaload, 1) := by decide +kernel
theorem d_RM_keepBlock_73 : decode prog_6_method_24_code 73 = .ok (.aload_n 0, 1) := by decide +kernel
theorem d_RM_keepBlock_74 : decode prog_6_method_24_code 74 = .ok (.getfield 19, 3) := by decide +kernel
theorem d_RM_keepBlock_77 : decode prog_6_method_24_code 77 = .ok (.iconst 4, 1) := by decide +kernel
theorem d_RM_keepBlock_78 : decode prog_6_method_24_code 78 = .ok (.iload_n 3, 1) := by decide +kernel
theorem d_RM_keepBlock_79 : decode prog_6_method_24_code 79 = .ok (.imul, 1) := by decide +kernel
theorem d_RM_keepBlock_80 : decode prog_6_method_24_code 80 = .ok (.iconst 2, 1) := by decide +kernel
theorem d_RM_keepBlock_81 : decode prog_6_method_24_code 81 = .ok (.iadd, 1) := by decide +kernel
theorem d_RM_keepBlock_82 : decode prog_6_method_24_code 82 = .ok (.iaload, 1) := by decide +kernel
theorem d_RM_keepBlock_83 : decode prog_6_method_24_code 83 = .ok (.aload_n 0, 1) := by decide +kernel
theorem d_RM_keepBlock_84 : decode prog_6_method_24_code 84 = .ok (.getfield 19, 3) := by decide +kernel
theorem d_RM_keepBlock_87 : decode prog_6_method_24_code 87 = .ok (.iconst 4, 1) := by decide +kernel
theorem d_RM_keepBlock_88 : decode prog_6_method_24_code 88 = .ok (.iload_n 3, 1) := by decide +kernel
theorem d_RM_keepBlock_89 : decode prog_6_method_24_code 89 = .ok (.imul, 1) := by decide +kernel
theorem d_RM_keepBlock_90 : decode prog_6_method_24_code 90 = .ok (.iconst 3, 1) := by decide +kernel
theorem d_RM_keepBlock_91 : decode prog_6_method_24_code 91 = .ok (.iadd, 1) := by decide +kernel
theorem d_RM_keepBlock_92 : decode prog_6_method_24_code 92 = .ok (.iaload, 1) := by decide +kernel
theorem d_RM_keepBlock_93 : decode prog_6_method_24_code 93 = .ok (.iload_n 3, 1) := by decide +kernel
theorem d_RM_keepBlock_94 : decode prog_6_method_24_code 94 = .ok (.iload_n 1, 1) := by decide +kernel
theorem d_RM_keepBlock_95 : decode prog_6_method_24_code 95 = .ok (.if_icmp .ne 7, 3) := by decide +kernel
theorem d_RM_keepBlock_98 : decode prog_6_method_24_code 98 = .ok (.iconst 1, 1) := by decide +kernel
theorem d_RM_keepBlock_99 : decode prog_6_method_24_code 99 = .ok (.goto 4, 3) := by decide +kernel
theorem d_RM_keepBlock_102 : decode prog_6_method_24_code 102 = .ok (.iconst 0, 1) := by decide +kernel
theorem d_RM_keepBlock_103 : decode prog_6_method_24_code 103 = .ok (.invokestatic 116, 3) := by decide +kernel
theorem d_RM_keepBlock_106 : decode prog_6_method_24_code 106 = .ok (.aload_n 0, 1) := by decide +kernel
theorem d_RM_keepBlock_107 : decode prog_6_method_24_code 107 = .ok (.getfield 31, 3) := by decide +kernel
theorem d_RM_keepBlock_110 : decode prog_6_method_24_code 110 = .ok (.iload_n 2, 1) := by decide +kernel
theorem d_RM_keepBlock_111 : decode prog_6_method_24_code 111 = .ok (.aload_n 0, 1) := by decide +kernel
theorem d_RM_keepBlock_112 : decode prog_6_method_24_code 112 = .ok (.getfield 31, 3) := by decide +kernel
theorem d_RM_keepBlock_115 : decode prog_6_method_24_code 115 = .ok (.iload_n 2, 1) := by decide +kernel
theorem d_RM_keepBlock_116 : decode prog_6_method_24_code 116 = .ok (.iaload, 1) := by decide +kernel
theorem d_RM_keepBlock_117 : decode prog_6_method_24_code 117 = .ok (.aload_n 0, 1) := by decide +kernel
theorem d_RM_keepBlock_118 : decode prog_6_method_24_code 118 = .ok (.getfield 22, 3) := by decide +kernel
theorem d_RM_keepBlock_121 : decode prog_6_method_24_code 121 = .ok (.iload_n 3, 1) := by decide +kernel
theorem d_RM_keepBlock_122 : decode prog_6_method_24_code 122 = .ok (.iaload, 1) := by decide +kernel
theorem d_RM_keepBlock_123 : decode prog_6_method_24_code 123 = .ok (.invokestatic 91, 3) := by decide +kernel
theorem d_RM_keepBlock_126 : decode prog_6_method_24_code 126 = .ok (.iastore, 1) := by decide +kernel
theorem d_RM_keepBlock_127 : decode prog_6_method_24_code 127 = .ok (.iinc 3 1, 3) := by decide +kernel
theorem d_RM_keepBlock_130 : decode prog_6_method_24_code 130 = .ok (.goto (-105), 3) := by decide +kernel
theorem d_RM_keepBlock_133 : decode prog_6_method_24_code 133 = .ok (.aload_n 0, 1) := by decide +kernel
theorem d_RM_keepBlock_134 : decode prog_6_method_24_code 134 = .ok (.iconst 0, 1) := by decide +kernel
theorem d_RM_keepBlock_135 : decode prog_6_method_24_code 135 = .ok (.putfield 142, 3) := by decide +kernel
theorem d_RM_keepBlock_138 : decode prog_6_method_24_code 138 = .ok (.iload_n 1, 1) := by decide +kernel
theorem d_RM_keepBlock_139 : decode prog_6_method_24_code 139 = .ok (.istore_n 3, 1) := by decide +kernel
theorem d_RM_keepBlock_140 : decode prog_6_method_24_code 140 = .ok (.iload_n 3, 1) := by decide +kernel
theorem d_RM_keepBlock_141 : decode prog_6_method_24_code 141 = .ok (.aload_n 0, 1) := by decide +kernel
theorem d_RM_keepBlock_142 : decode prog_6_method_24_code 142 = .ok (.getfield 113, 3) := by decide +kernel
theorem d_RM_keepBlock_145 : decode prog_6_method_24_code 145 = .ok (.if_icmp .ge 33, 3) := by decide +kernel
theorem d_RM_keepBlock_148 : decode prog_6_method_24_code 148 = .ok (.aload_n 0, 1) := by decide +kernel
theorem d_RM_keepBlock_149 : decode prog_6_method_24_code 149 = .ok (.dup, 1) := by decide +kernel
theorem d_RM_keepBlock_150 : decode prog_6_method_24_code 150 = .ok (.getfield 142, 3) := by decide +kernel
theorem d_RM_keepBlock_153 : decode prog_6_method_24_code 153 = .ok (.aload_n 0, 1) := by decide +kernel
theorem d_RM_keepBlock_154 : decode prog_6_method_24_code 154 = .ok (.getfield 25, 3) := by decide +kernel
theorem d_RM_keepBlock_157 : decode prog_6_method_24_code 157 = .ok (.iload_n 3, 1) := by decide +kernel
theorem d_RM_keepBlock_158 : decode prog_6_method_24_code 158 = .ok (.iaload, 1) := by decide +kernel
theorem d_RM_keepBlock_159 : decode prog_6_method_24_code 159 = .ok (.iload_n 1, 1) := by decide +kernel
theorem d_RM_keepBlock_160 : decode prog_6_method_24_code 160 = .ok (.if_icmp .ne 7, 3) := by decide +kernel
theorem d_RM_keepBlock_163 : decode prog_6_method_24_code 163 = .ok (.iconst 1, 1) := by decide +kernel
theorem d_RM_keepBlock_164 : decode prog_6_method_24_code 164 = .ok (.goto 4, 3) := by decide +kernel
theorem d_RM_keepBlock_167 : decode prog_6_method_24_code 167 = .ok (.iconst 0, 1) := by decide +kernel
theorem d_RM_keepBlock_168 : decode prog_6_method_24_code 168 = .ok (.iadd, 1) := by decide +kernel
theorem d_RM_keepBlock_169 : decode prog_6_method_24_code 169 = .ok (.putfield 142, 3) := by decide +kernel
theorem d_RM_keepBlock_172 : decode prog_6_method_24_code 172 = .ok (.iinc 3 1, 3) := by decide +kernel
theorem d_RM_keepBlock_175 : decode prog_6_method_24_code 175 = .ok (.goto (-35), 3) := by decide +kernel
theorem d_RM_keepBlock_178 : decode prog_6_method_24_code 178 = .ok (.aload_n 0, 1) := by decide +kernel
theorem d_RM_keepBlock_179 : decode prog_6_method_24_code 179 = .ok (.getfield 34, 3) := by decide +kernel
theorem d_RM_keepBlock_182 : decode prog_6_method_24_code 182 = .ok (.iload_n 2, 1) := by decide +kernel
theorem d_RM_keepBlock_183 : decode prog_6_method_24_code 183 = .ok (.aload_n 0, 1) := by decide +kernel
theorem d_RM_keepBlock_184 : decode prog_6_method_24_code 184 = .ok (.iload_n 2, 1) := by decide +kernel
theorem d_RM_keepBlock_185 : decode prog_6_method_24_code 185 = .ok (.invokevirtual 145, 3) := by decide +kernel
theorem d_RM_keepBlock_188 : decode prog_6_method_24_code 188 = .ok (.iastore, 1) := by decide +kernel
theorem d_RM_keepBlock_189 : decode prog_6_method_24_code 189 = .ok (.iconst 0, 1) := by decide +kernel
theorem d_RM_keepBlock_190 : decode prog_6_method_24_code 190 = .ok (.istore_n 3, 1) := by decide +kernel
theorem d_RM_keepBlock_191 : decode prog_6_method_24_code 191 = .ok (.sipush 4097, 3) := by decide +kernel
theorem d_RM_keepBlock_194 : decode prog_6_method_24_code 194 = .ok (.istore 4, 2) := by decide +kernel
theorem d_RM_keepBlock_196 : decode prog_6_method_24_code 196 = .ok (.iconst 0, 1) := by decide +kernel
theorem d_RM_keepBlock_197 : decode prog_6_method_24_code 197 = .ok (.istore 5, 2) := by decide +kernel
theorem d_RM_keepBlock_199 : decode prog_6_method_24_code 199 = .ok (.iload 5, 2) := by decide +kernel
theorem d_RM_keepBlock_201 : decode prog_6_method_24_code 201 = .ok (.aload_n 0, 1) := by decide +kernel
theorem d_RM_keepBlock_202 : decode prog_6_method_24_code 202 = .ok (.getfield 73, 3) := by decide +kernel
theorem d_RM_keepBlock_205 : decode prog_6_method_24_code 205 = .ok (.if_icmp .ge 48, 3) := by decide +kernel
theorem d_RM_keepBlock_208 : decode prog_6_method_24_code 208 = .ok (.aload_n 0, 1) := by decide +kernel
theorem d_RM_keepBlock_209 : decode prog_6_method_24_code 209 = .ok (.getfield 25, 3) := by decide +kernel
theorem d_RM_keepBlock_212 : decode prog_6_method_24_code 212 = .ok (.aload_n 0, 1) := by decide +kernel
theorem d_RM_keepBlock_213 : decode prog_6_method_24_code 213 = .ok (.iload 5, 2) := by decide +kernel
theorem d_RM_keepBlock_215 : decode prog_6_method_24_code 215 = .ok (.invokevirtual 139, 3) := by decide +kernel
theorem d_RM_keepBlock_218 : decode prog_6_method_24_code 218 = .ok (.iaload, 1) := by decide +kernel
theorem d_RM_keepBlock_219 : decode prog_6_method_24_code 219 = .ok (.iload_n 1, 1) := by decide +kernel
theorem d_RM_keepBlock_220 : decode prog_6_method_24_code 220 = .ok (.if_icmp .ne 27, 3) := by decide +kernel
theorem d_RM_keepBlock_223 : decode prog_6_method_24_code 223 = .ok (.iload_n 3, 1) := by decide +kernel
theorem d_RM_keepBlock_224 : decode prog_6_method_24_code 224 = .ok (.aload_n 0, 1) := by decide +kernel
theorem d_RM_keepBlock_225 : decode prog_6_method_24_code 225 = .ok (.iload 5, 2) := by decide +kernel
theorem d_RM_keepBlock_227 : decode prog_6_method_24_code 227 = .ok (.invokevirtual 106, 3) := by decide +kernel
theorem d_RM_keepBlock_230 : decode prog_6_method_24_code 230 = .ok (.invokestatic 97, 3) := by decide +kernel
theorem d_RM_keepBlock_233 : decode prog_6_method_24_code 233 = .ok (.istore_n 3, 1) := by decide +kernel
theorem d_RM_keepBlock_234 : decode prog_6_method_24_code 234 = .ok (.iload 4, 2) := by decide +kernel
theorem d_RM_keepBlock_236 : decode prog_6_method_24_code 236 = .ok (.aload_n 0, 1) := by decide +kernel
theorem d_RM_keepBlock_237 : decode prog_6_method_24_code 237 = .ok (.iload 5, 2) := by decide +kernel
theorem d_RM_keepBlock_239 : decode prog_6_method_24_code 239 = .ok (.invokevirtual 106, 3) := by decide +kernel
theorem d_RM_keepBlock_242 : decode prog_6_method_24_code 242 = .ok (.invokestatic 91, 3) := by decide +kernel
theorem d_RM_keepBlock_245 : decode prog_6_method_24_code 245 = .ok (.istore 4, 2) := by decide +kernel
theorem d_RM_keepBlock_247 : decode prog_6_method_24_code 247 = .ok (.iinc 5 1, 3) := by decide +kernel
theorem d_RM_keepBlock_250 : decode prog_6_method_24_code 250 = .ok (.goto (-51), 3) := by decide +kernel
theorem d_RM_keepBlock_253 : decode prog_6_method_24_code 253 = .ok (.aload_n 0, 1) := by decide +kernel
theorem d_RM_keepBlock_254 : decode prog_6_method_24_code 254 = .ok (.getfield 37, 3) := by decide +kernel
theorem d_RM_keepBlock_257 : decode prog_6_method_24_code 257 = .ok (.iload_n 2, 1) := by decide +kernel
theorem d_RM_keepBlock_258 : decode prog_6_method_24_code 258 = .ok (.iconst 4, 1) := by decide +kernel
theorem d_RM_keepBlock_259 : decode prog_6_method_24_code 259 = .ok (.iload_n 3, 1) := by decide +kernel
theorem d_RM_keepBlock_260 : decode prog_6_method_24_code 260 = .ok (.iload 4, 2) := by decide +kernel
theorem d_RM_keepBlock_262 : decode prog_6_method_24_code 262 = .ok (.isub, 1) := by decide +kernel
theorem d_RM_keepBlock_263 : decode prog_6_method_24_code 263 = .ok (.imul, 1) := by decide +kernel
theorem d_RM_keepBlock_264 : decode prog_6_method_24_code 264 = .ok (.iload_n 3, 1) := by decide +kernel
theorem d_RM_keepBlock_265 : decode prog_6_method_24_code 265 = .ok (.if_icmp .gt 7, 3) := by decide +kernel
theorem d_RM_keepBlock_268 : decode prog_6_method_24_code 268 = .ok (.iconst 1, 1) := by decide +kernel
theorem d_RM_keepBlock_269 : decode prog_6_method_24_code 269 = .ok (.goto 4, 3) := by decide +kernel
theorem d_RM_keepBlock_272 : decode prog_6_method_24_code 272 = .ok (.iconst 0, 1) := by decide +kernel
theorem d_RM_keepBlock_273 : decode prog_6_method_24_code 273 = .ok (.bastore, 1) := by decide +kernel
theorem d_RM_keepBlock_274 : decode prog_6_method_24_code 274 = .ok (.return_, 1) := by decide +kernel
theorem d_RM_isInPane_0 : decode prog_6_method_25_code 0 = .ok (.iconst 0, 1) := by decide +kernel
theorem d_RM_isInPane_1 : decode prog_6_method_25_code 1 = .ok (.istore_n 2, 1) := by decide +kernel
theorem d_RM_isInPane_2 : decode prog_6_method_25_code 2 = .ok (.iconst 0, 1) := by decide +kernel
theorem d_RM_isInPane_3 : decode prog_6_method_25_code 3 = .ok (.istore_n 3, 1) := by decide +kernel
theorem d_RM_isInPane_4 : decode prog_6_method_25_code 4 = .ok (.iload_n 3, 1) := by decide +kernel
theorem d_RM_isInPane_5 : decode prog_6_method_25_code 5 = .ok (.aload_n 0, 1) := by decide +kernel
theorem d_RM_isInPane_6 : decode prog_6_method_25_code 6 = .ok (.getfield 76, 3) := by decide +kernel
theorem d_RM_isInPane_9 : decode prog_6_method_25_code 9 = .ok (.if_icmp .ge 171, 3) := by decide +kernel
theorem d_RM_isInPane_12 : decode prog_6_method_25_code 12 = .ok (.aload_n 0, 1) := by decide +kernel
theorem d_RM_isInPane_13 : decode prog_6_method_25_code 13 = .ok (.getfield 28, 3) := by decide +kernel
theorem d_RM_isInPane_16 : decode prog_6_method_25_code 16 = .ok (.iconst 4, 1) := by decide +kernel
theorem d_RM_isInPane_17 : decode prog_6_method_25_code 17 = .ok (.iload_n 1, 1) := by decide +kernel
theorem d_RM_isInPane_18 : decode prog_6_method_25_code 18 = .ok (.imul, 1) := by decide +kernel
theorem d_RM_isInPane_19 : decode prog_6_method_25_code 19 = .ok (.iaload, 1) := by decide +kernel
theorem d_RM_isInPane_20 : decode prog_6_method_25_code 20 = .ok (.aload_n 0, 1) := by decide +kernel
theorem d_RM_isInPane_21 : decode prog_6_method_25_code 21 = .ok (.getfield 13, 3) := by decide +kernel
theorem d_RM_isInPane_24 : decode prog_6_method_25_code 24 = .ok (.iconst 4, 1) := by decide +kernel
theorem d_RM_isInPane_25 : decode prog_6_method_25_code 25 = .ok (.iload_n 3, 1) := by decide +kernel
theorem d_RM_isInPane_26 : decode prog_6_method_25_code 26 = .ok (.imul, 1) := by decide +kernel
theorem d_RM_isInPane_27 : decode prog_6_method_25_code 27 = .ok (.iaload, 1) := by decide +kernel
theorem d_RM_isInPane_28 : decode prog_6_method_25_code 28 = .ok (.if_icmp .lt 48, 3) := by decide +kernel
theorem d_RM_isInPane_31 : decode prog_6_method_25_code 31 = .ok (.aload_n 0, 1) := by decide +kernel
theorem d_RM_isInPane_32 : decode prog_6_method_25_code 32 = .ok (.getfield 28, 3) := by decide +kernel
theorem d_RM_isInPane_35 : decode prog_6_method_25_code 35 = .ok (.iconst 4, 1) := by decide +kernel
theorem d_RM_isInPane_36 : decode prog_6_method_25_code 36 = .ok (.iload_n 1, 1) := by decide +kernel
theorem d_RM_isInPane_37 : decode prog_6_method_25_code 37 = .ok (.imul, 1) := by decide +kernel
theorem d_RM_isInPane_38 : decode prog_6_method_25_code 38 = .ok (.iaload, 1) := by decide +kernel
theorem d_RM_isInPane_39 : decode prog_6_method_25_code 39 = .ok (.aload_n 0, 1) := by decide +kernel
theorem d_RM_isInPane_40 : decode prog_6_method_25_code 40 = .ok (.getfield 28, 3) := by decide +kernel
theorem d_RM_isInPane_43 : decode prog_6_method_25_code 43 = .ok (.iconst 4, 1) := by decide +kernel
theorem d_RM_isInPane_44 : decode prog_6_method_25_code 44 = .ok (.iload_n 1, 1) := by decide +kernel
theorem d_RM_isInPane_45 : decode prog_6_method_25_code 45 = .ok (.imul, 1) := by decide +kernel
theorem d_RM_isInPane_46 : decode prog_6_method_25_code 46 = .ok (.iconst 2, 1) := by decide +kernel
theorem d_RM_isInPane_47 : decode prog_6_method_25_code 47 = .ok (.iadd, 1) := by decide +kernel
theorem d_RM_isInPane_48 : decode prog_6_method_25_code 48 = .ok (.iaload, 1) := by decide +kernel
theorem d_RM_isInPane_49 : decode prog_6_method_25_code 49 = .ok (.iadd, 1) := by decide +kernel
theorem d_RM_isInPane_50 : decode prog_6_method_25_code 50 = .ok (.aload_n 0, 1) := by decide +kernel
theorem d_RM_isInPane_51 : decode prog_6_method_25_code 51 = .ok (.getfield 13, 3) := by decide +kernel
theorem d_RM_isInPane_54 : decode prog_6_method_25_code 54 = .ok (.iconst 4, 1) := by decide +kernel
theorem d_RM_isInPane_55 : decode prog_6_method_25_code 55 = .ok (.iload_n 3, 1) := by decide +kernel
theorem d_RM_isInPane_56 : decode prog_6_method_25_code 56 = .ok (.imul, 1) := by decide +kernel
theorem d_RM_isInPane_57 : decode prog_6_method_25_code 57 = .ok (.iaload, 1) := by decide +kernel
theorem d_RM_isInPane_58 : decode prog_6_method_25_code 58 = .ok (.aload_n 0, 1) := by decide +kernel
theorem d_RM_isInPane_59 : decode prog_6_method_25_code 59 = .ok (.getfield 13, 3) := by decide +kernel
theorem d_RM_isInPane_62 : decode prog_6_method_25_code 62 = .ok (.iconst 4, 1) := by decide +kernel
theorem d_RM_isInPane_63 : decode prog_6_method_25_code 63 = .ok (.iload_n 3, 1) := by decide +kernel
theorem d_RM_isInPane_64 : decode prog_6_method_25_code 64 = .ok (.imul, 1) := by decide +kernel
theorem d_RM_isInPane_65 : decode prog_6_method_25_code 65 = .ok (.iconst 2, 1) := by decide +kernel
theorem d_RM_isInPane_66 : decode prog_6_method_25_code 66 = .ok (.iadd, 1) := by decide +kernel
theorem d_RM_isInPane_67 : decode prog_6_method_25_code 67 = .ok (.iaload, 1) := by decide +kernel
theorem d_RM_isInPane_68 : decode prog_6_method_25_code 68 = .ok (.iadd, 1) := by decide +kernel
theorem d_RM_isInPane_69 : decode prog_6_method_25_code 69 = .ok (.if_icmp .gt 7, 3) := by decide +kernel
theorem d_RM_isInPane_72 : decode prog_6_method_25_code 72 = .ok (.iconst 1, 1) := by decide +kernel
theorem d_RM_isInPane_73 : decode prog_6_method_25_code 73 = .ok (.goto 4, 3) := by decide +kernel
theorem d_RM_isInPane_76 : decode prog_6_method_25_code 76 = .ok (.iconst 0, 1) := by decide +kernel
theorem d_RM_isInPane_77 : decode prog_6_method_25_code 77 = .ok (.istore 4, 2) := by decide +kernel
theorem d_RM_isInPane_79 : decode prog_6_method_25_code 79 = .ok (.aload_n 0, 1) := by decide +kernel
theorem d_RM_isInPane_80 : decode prog_6_method_25_code 80 = .ok (.getfield 28, 3) := by decide +kernel
theorem d_RM_isInPane_83 : decode prog_6_method_25_code 83 = .ok (.iconst 4, 1) := by decide +kernel
theorem d_RM_isInPane_84 : decode prog_6_method_25_code 84 = .ok (.iload_n 1, 1) := by decide +kernel
theorem d_RM_isInPane_85 : decode prog_6_method_25_code 85 = .ok (.imul, 1) := by decide +kernel
theorem d_RM_isInPane_86 : decode prog_6_method_25_code 86 = .ok (.iconst 1, 1) := by decide +kernel
theorem d_RM_isInPane_87 : decode prog_6_method_25_code 87 = .ok (.iadd, 1) := by decide +kernel
theorem d_RM_isInPane_88 : decode prog_6_method_25_code 88 = .ok (.iaload, 1) := by decide +kernel
theorem d_RM_isInPane_89 : decode prog_6_method_25_code 89 = .ok (.aload_n 0, 1) := by decide +kernel
theorem d_RM_isInPane_90 : decode prog_6_method_25_code 90 = .ok (.getfield 13, 3) := by decide +kernel
theorem d_RM_isInPane_93 : decode prog_6_method_25_code 93 = .ok (.iconst 4, 1) := by decide +kernel
theorem d_RM_isInPane_94 : decode prog_6_method_25_code 94 = .ok (.iload_n 3, 1) := by decide +kernel
theorem d_RM_isInPane_95 : decode prog_6_method_25_code 95 = .ok (.imul, 1) := by decide +kernel
theorem d_RM_isInPane_96 : decode prog_6_method_25_code 96 = .ok (.iconst 1, 1) := by decide +kernel
theorem d_RM_isInPane_97 : decode prog_6_method_25_code 97 = .ok (.iadd, 1) := by decide +kernel
theorem d_RM_isInPane_98 : decode prog_6_method_25_code 98 = .ok (.iaload, 1) := by decide +kernel
theorem d_RM_isInPane_99 : decode prog_6_method_25_code 99 = .ok (.if_icmp .lt 52, 3) := by decide +kernel
theorem d_RM_isInPane_102 : decode prog_6_method_25_code 102 = .ok (.aload_n 0, 1) := by decide +kernel
theorem d_RM_isInPane_103 : decode prog_6_method_25_code 103 = .ok (.getfield 28, 3) := by decide +kernel
theorem d_RM_isInPane_106 : decode prog_6_method_25_code 106 = .ok (.iconst 4, 1) := by decide +kernel
theorem d_RM_isInPane_107 : decode prog_6_method_25_code 107 = .ok (.iload_n 1, 1) := by decide +kernel
theorem d_RM_isInPane_108 : decode prog_6_method_25_code 108 = .ok (.imul, 1) := by decide +kernel
theorem d_RM_isInPane_109 : decode prog_6_method_25_code 109 = .ok (.iconst 1, 1) := by decide +kernel
theorem d_RM_isInPane_110 : decode prog_6_method_25_code 110 = .ok (.iadd, 1) := by decide +kernel
theorem d_RM_isInPane_111 : decode prog_6_method_25_code 111 = .ok (.iaload, 1) := by decide +kernel
theorem d_RM_isInPane_112 : decode prog_6_method_25_code 112 = .ok (.aload_n 0, 1) := by decide +kernel
theorem d_RM_isInPane_113 : decode prog_6_method_25_code 113 = .ok (.getfield 28, 3) := by decide +kernel
theorem d_RM_isInPane_116 : decode prog_6_method_25_code 116 = .ok (.iconst 4, 1) := by decide +kernel
theorem d_RM_isInPane_117 : decode prog_6_method_25_code 117 = .ok (.iload_n 1, 1) := by decide +kernel
theorem d_RM_isInPane_118 : decode prog_6_method_25_code 118 = .ok (.imul, 1) := by decide +kernel
theorem d_RM_isInPane_119 : decode prog_6_method_25_code 119 = .ok (.iconst 3, 1) := by decide +kernel
theorem d_RM_isInPane_120 : decode prog_6_method_25_code 120 = .ok (.iadd, 1) := by decide +kernel
theorem d_RM_isInPane_121 : decode prog_6_method_25_code 121 = .ok (.iaload, 1) := by decide +kernel
theorem d_RM_isInPane_122 : decode prog_6_method_25_code 122 = .ok (.iadd, 1) := by decide +kernel
theorem d_RM_isInPane_123 : decode prog_6_method_25_code 123 = .ok (.aload_n 0, 1) := by decide +kernel
theorem d_RM_isInPane_124 : decode prog_6_method_25_code 124 = .ok (.getfield 13, 3) := by decide +kernel
theorem d_RM_isInPane_127 : decode prog_6_method_25_code 127 = .ok (.iconst 4, 1) := by decide +kernel
theorem d_RM_isInPane_128 : decode prog_6_method_25_code 128 = .ok (.iload_n 3, 1) := by decide +kernel
theorem d_RM_isInPane_129 : decode prog_6_method_25_code 129 = .ok (.imul, 1) := by decide +kernel
theorem d_RM_isInPane_130 : decode prog_6_method_25_code 130 = .ok (.iconst 1, 1) := by decide +kernel
theorem d_RM_isInPane_131 : decode prog_6_method_25_code 131 = .ok (.iadd, 1) := by decide +kernel
theorem d_RM_isInPane_132 : decode prog_6_method_25_code 132 = .ok (.iaload, 1) := by decide +kernel
theorem d_RM_isInPane_133 : decode prog_6_method_25_code 133 = .ok (.aload_n 0, 1) := by decide +kernel
theorem d_RM_isInPane_134 : decode prog_6_method_25_code 134 = .ok (.getfield 13, 3) := by decide +kernel
theorem d_RM_isInPane_137 : decode prog_6_method_25_code 137 = .ok (.iconst 4, 1) := by decide +kernel
theorem d_RM_isInPane_138 : decode prog_6_method_25_code 138 = .ok (.iload_n 3, 1) := by decide +kernel
theorem d_RM_isInPane_139 : decode prog_6_method_25_code 139 = .ok (.imul, 1) := by decide +kernel
theorem d_RM_isInPane_140 : decode prog_6_method_25_code 140 = .ok (.iconst 3, 1) := by decide +kernel
theorem d_RM_isInPane_141 : decode prog_6_method_25_code 141 = .ok (.iadd, 1) := by decide +kernel
theorem d_RM_isInPane_142 : decode prog_6_method_25_code 142 = .ok (.iaload, 1) := by decide +kernel
theorem d_RM_isInPane_143 : decode prog_6_method_25_code 143 = .ok (.iadd, 1) := by decide +kernel
theorem d_RM_isInPane_144 : decode prog_6_method_25_code 144 = .ok (.if_icmp .gt 7, 3) := by decide +kernel
theorem d_RM_isInPane_147 : decode prog_6_method_25_code 147 = .ok (.iconst 1, 1) := by decide +kernel
theorem d_RM_isInPane_148 : decode prog_6_method_25_code 148 = .ok (.goto 4, 3) := by decide +kernel
theorem d_RM_isInPane_151 : decode prog_6_method_25_code 151 = .ok (.iconst 0, 1) := by decide +kernel
theorem d_RM_isInPane_152 : decode prog_6_method_25_code 152 = .ok (.istore 5, 2) := by decide +kernel
theorem d_RM_isInPane_154 : decode prog_6_method_25_code 154 = .ok (.iload_n 2, 1) := by decide +kernel
theorem d_RM_isInPane_155 : decode prog_6_method_25_code 155 = .ok (.ifCond .ne 13, 3) := by decide +kernel
theorem d_RM_isInPane_158 : decode prog_6_method_25_code 158 = .ok (.iload 4, 2) := by decide +kernel
theorem d_RM_isInPane_160 : decode prog_6_method_25_code 160 = .ok (.ifCond .eq 12, 3) := by decide +kernel
theorem d_RM_isInPane_163 : decode prog_6_method_25_code 163 = .ok (.iload 5, 2) := by decide +kernel
theorem d_RM_isInPane_165 : decode prog_6_method_25_code 165 = .ok (.ifCond .eq 7, 3) := by decide +kernel
theorem d_RM_isInPane_168 : decode prog_6_method_25_code 168 = .ok (.iconst 1, 1) := by decide +kernel
theorem d_RM_isInPane_169 : decode prog_6_method_25_code 169 = .ok (.goto 4, 3) := by decide +kernel
theorem d_RM_isInPane_172 : decode prog_6_method_25_code 172 = .ok (.iconst 0, 1) := by decide +kernel
theorem d_RM_isInPane_173 : decode prog_6_method_25_code 173 = .ok (.istore_n 2, 1) := by decide +kernel
theorem d_RM_isInPane_174 : decode prog_6_method_25_code 174 = .ok (.iinc 3 1, 3) := by decide +kernel
theorem d_RM_isInPane_177 : decode prog_6_method_25_code 177 = .ok (.goto (-173), 3) := by decide +kernel
theorem d_RM_isInPane_180 : decode prog_6_method_25_code 180 = .ok (.iload_n 2, 1) := by decide +kernel
theorem d_RM_isInPane_181 : decode prog_6_method_25_code 181 = .ok (.ireturn, 1) := by decide +kernel
theorem d_RM_linesOf_0 : decode prog_6_method_26_code 0 = .ok (.iconst 0, 1) := by decide +kernel
theorem d_RM_linesOf_1 : decode prog_6_method_26_code 1 = .ok (.istore_n 2, 1) := by decide +kernel
theorem d_RM_linesOf_2 : decode prog_6_method_26_code 2 = .ok (.iconst 0, 1) := by decide +kernel
theorem d_RM_linesOf_3 : decode prog_6_method_26_code 3 = .ok (.istore_n 3, 1) := by decide +kernel
theorem d_RM_linesOf_4 : decode prog_6_method_26_code 4 = .ok (.iload_n 3, 1) := by decide +kernel
theorem d_RM_linesOf_5 : decode prog_6_method_26_code 5 = .ok (.aload_n 0, 1) := by decide +kernel
theorem d_RM_linesOf_6 : decode prog_6_method_26_code 6 = .ok (.getfield 126, 3) := by decide +kernel
theorem d_RM_linesOf_9 : decode prog_6_method_26_code 9 = .ok (.if_icmp .ge 27, 3) := by decide +kernel
theorem d_RM_linesOf_12 : decode prog_6_method_26_code 12 = .ok (.iload_n 2, 1) := by decide +kernel
theorem d_RM_linesOf_13 : decode prog_6_method_26_code 13 = .ok (.aload_n 0, 1) := by decide +kernel
theorem d_RM_linesOf_14 : decode prog_6_method_26_code 14 = .ok (.getfield 53, 3) := by decide +kernel
theorem d_RM_linesOf_17 : decode prog_6_method_26_code 17 = .ok (.iload_n 3, 1) := by decide +kernel
theorem d_RM_linesOf_18 : decode prog_6_method_26_code 18 = .ok (.iaload, 1) := by decide +kernel
theorem d_RM_linesOf_19 : decode prog_6_method_26_code 19 = .ok (.iload_n 1, 1) := by decide +kernel
theorem d_RM_linesOf_20 : decode prog_6_method_26_code 20 = .ok (.if_icmp .ne 7, 3) := by decide +kernel
theorem d_RM_linesOf_23 : decode prog_6_method_26_code 23 = .ok (.iconst 1, 1) := by decide +kernel
theorem d_RM_linesOf_24 : decode prog_6_method_26_code 24 = .ok (.goto 4, 3) := by decide +kernel
theorem d_RM_linesOf_27 : decode prog_6_method_26_code 27 = .ok (.iconst 0, 1) := by decide +kernel
theorem d_RM_linesOf_28 : decode prog_6_method_26_code 28 = .ok (.iadd, 1) := by decide +kernel
theorem d_RM_linesOf_29 : decode prog_6_method_26_code 29 = .ok (.istore_n 2, 1) := by decide +kernel
theorem d_RM_linesOf_30 : decode prog_6_method_26_code 30 = .ok (.iinc 3 1, 3) := by decide +kernel
theorem d_RM_linesOf_33 : decode prog_6_method_26_code 33 = .ok (.goto (-29), 3) := by decide +kernel
theorem d_RM_linesOf_36 : decode prog_6_method_26_code 36 = .ok (.iload_n 2, 1) := by decide +kernel
theorem d_RM_linesOf_37 : decode prog_6_method_26_code 37 = .ok (.ireturn, 1) := by decide +kernel
theorem d_RM_pointsOf_0 : decode prog_6_method_27_code 0 = .ok (.aload_n 0, 1) := by decide +kernel
theorem d_RM_pointsOf_1 : decode prog_6_method_27_code 1 = .ok (.getfield 28, 3) := by decide +kernel
theorem d_RM_pointsOf_4 : decode prog_6_method_27_code 4 = .ok (.iconst 4, 1) := by decide +kernel
theorem d_RM_pointsOf_5 : decode prog_6_method_27_code 5 = .ok (.iload_n 1, 1) := by decide +kernel
theorem d_RM_pointsOf_6 : decode prog_6_method_27_code 6 = .ok (.imul, 1) := by decide +kernel
theorem d_RM_pointsOf_7 : decode prog_6_method_27_code 7 = .ok (.iaload, 1) := by decide +kernel
theorem d_RM_pointsOf_8 : decode prog_6_method_27_code 8 = .ok (.istore_n 2, 1) := by decide +kernel
theorem d_RM_pointsOf_9 : decode prog_6_method_27_code 9 = .ok (.aload_n 0, 1) := by decide +kernel
theorem d_RM_pointsOf_10 : decode prog_6_method_27_code 10 = .ok (.getfield 28, 3) := by decide +kernel
theorem d_RM_pointsOf_13 : decode prog_6_method_27_code 13 = .ok (.iconst 4, 1) := by decide +kernel
theorem d_RM_pointsOf_14 : decode prog_6_method_27_code 14 = .ok (.iload_n 1, 1) := by decide +kernel
theorem d_RM_pointsOf_15 : decode prog_6_method_27_code 15 = .ok (.imul, 1) := by decide +kernel
theorem d_RM_pointsOf_16 : decode prog_6_method_27_code 16 = .ok (.iconst 1, 1) := by decide +kernel
theorem d_RM_pointsOf_17 : decode prog_6_method_27_code 17 = .ok (.iadd, 1) := by decide +kernel
theorem d_RM_pointsOf_18 : decode prog_6_method_27_code 18 = .ok (.iaload, 1) := by decide +kernel
theorem d_RM_pointsOf_19 : decode prog_6_method_27_code 19 = .ok (.istore_n 3, 1) := by decide +kernel
theorem d_RM_pointsOf_20 : decode prog_6_method_27_code 20 = .ok (.aload_n 0, 1) := by decide +kernel
theorem d_RM_pointsOf_21 : decode prog_6_method_27_code 21 = .ok (.getfield 28, 3) := by decide +kernel
theorem d_RM_pointsOf_24 : decode prog_6_method_27_code 24 = .ok (.iconst 4, 1) := by decide +kernel
theorem d_RM_pointsOf_25 : decode prog_6_method_27_code 25 = .ok (.iload_n 1, 1) := by decide +kernel
theorem d_RM_pointsOf_26 : decode prog_6_method_27_code 26 = .ok (.imul, 1) := by decide +kernel
theorem d_RM_pointsOf_27 : decode prog_6_method_27_code 27 = .ok (.iconst 2, 1) := by decide +kernel
theorem d_RM_pointsOf_28 : decode prog_6_method_27_code 28 = .ok (.iadd, 1) := by decide +kernel
theorem d_RM_pointsOf_29 : decode prog_6_method_27_code 29 = .ok (.iaload, 1) := by decide +kernel
theorem d_RM_pointsOf_30 : decode prog_6_method_27_code 30 = .ok (.istore 4, 2) := by decide +kernel
theorem d_RM_pointsOf_32 : decode prog_6_method_27_code 32 = .ok (.aload_n 0, 1) := by decide +kernel
theorem d_RM_pointsOf_33 : decode prog_6_method_27_code 33 = .ok (.getfield 28, 3) := by decide +kernel
theorem d_RM_pointsOf_36 : decode prog_6_method_27_code 36 = .ok (.iconst 4, 1) := by decide +kernel
theorem d_RM_pointsOf_37 : decode prog_6_method_27_code 37 = .ok (.iload_n 1, 1) := by decide +kernel
theorem d_RM_pointsOf_38 : decode prog_6_method_27_code 38 = .ok (.imul, 1) := by decide +kernel
theorem d_RM_pointsOf_39 : decode prog_6_method_27_code 39 = .ok (.iconst 3, 1) := by decide +kernel
theorem d_RM_pointsOf_40 : decode prog_6_method_27_code 40 = .ok (.iadd, 1) := by decide +kernel
theorem d_RM_pointsOf_41 : decode prog_6_method_27_code 41 = .ok (.iaload, 1) := by decide +kernel
theorem d_RM_pointsOf_42 : decode prog_6_method_27_code 42 = .ok (.istore 5, 2) := by decide +kernel
theorem d_RM_pointsOf_44 : decode prog_6_method_27_code 44 = .ok (.iconst 4, 1) := by decide +kernel
theorem d_RM_pointsOf_45 : decode prog_6_method_27_code 45 = .ok (.iload_n 2, 1) := by decide +kernel
theorem d_RM_pointsOf_46 : decode prog_6_method_27_code 46 = .ok (.imul, 1) := by decide +kernel
theorem d_RM_pointsOf_47 : decode prog_6_method_27_code 47 = .ok (.iconst 3, 1) := by decide +kernel
theorem d_RM_pointsOf_48 : decode prog_6_method_27_code 48 = .ok (.aload_n 0, 1) := by decide +kernel
theorem d_RM_pointsOf_49 : decode prog_6_method_27_code 49 = .ok (.getfield 59, 3) := by decide +kernel
theorem d_RM_pointsOf_52 : decode prog_6_method_27_code 52 = .ok (.imul, 1) := by decide +kernel
theorem d_RM_pointsOf_53 : decode prog_6_method_27_code 53 = .ok (.if_icmp .lt 20, 3) := by decide +kernel
theorem d_RM_pointsOf_56 : decode prog_6_method_27_code 56 = .ok (.iconst 3, 1) := by decide +kernel
theorem d_RM_pointsOf_57 : decode prog_6_method_27_code 57 = .ok (.iload_n 3, 1) := by decide +kernel
theorem d_RM_pointsOf_58 : decode prog_6_method_27_code 58 = .ok (.iload 5, 2) := by decide +kernel
theorem d_RM_pointsOf_60 : decode prog_6_method_27_code 60 = .ok (.iadd, 1) := by decide +kernel
theorem d_RM_pointsOf_61 : decode prog_6_method_27_code 61 = .ok (.imul, 1) := by decide +kernel
theorem d_RM_pointsOf_62 : decode prog_6_method_27_code 62 = .ok (.aload_n 0, 1) := by decide +kernel
theorem d_RM_pointsOf_63 : decode prog_6_method_27_code 63 = .ok (.getfield 63, 3) := by decide +kernel
theorem d_RM_pointsOf_66 : decode prog_6_method_27_code 66 = .ok (.if_icmp .gt 7, 3) := by decide +kernel
theorem d_RM_pointsOf_69 : decode prog_6_method_27_code 69 = .ok (.iconst 1, 1) := by decide +kernel
theorem d_RM_pointsOf_70 : decode prog_6_method_27_code 70 = .ok (.goto 4, 3) := by decide +kernel
theorem d_RM_pointsOf_73 : decode prog_6_method_27_code 73 = .ok (.iconst 0, 1) := by decide +kernel
theorem d_RM_pointsOf_74 : decode prog_6_method_27_code 74 = .ok (.istore 6, 2) := by decide +kernel
theorem d_RM_pointsOf_76 : decode prog_6_method_27_code 76 = .ok (.iconst 2, 1) := by decide +kernel
theorem d_RM_pointsOf_77 : decode prog_6_method_27_code 77 = .ok (.iload_n 2, 1) := by decide +kernel
theorem d_RM_pointsOf_78 : decode prog_6_method_27_code 78 = .ok (.iload 4, 2) := by decide +kernel
theorem d_RM_pointsOf_80 : decode prog_6_method_27_code 80 = .ok (.iadd, 1) := by decide +kernel
theorem d_RM_pointsOf_81 : decode prog_6_method_27_code 81 = .ok (.imul, 1) := by decide +kernel
theorem d_RM_pointsOf_82 : decode prog_6_method_27_code 82 = .ok (.aload_n 0, 1) := by decide +kernel
theorem d_RM_pointsOf_83 : decode prog_6_method_27_code 83 = .ok (.getfield 59, 3) := by decide +kernel
theorem d_RM_pointsOf_86 : decode prog_6_method_27_code 86 = .ok (.if_icmp .gt 20, 3) := by decide +kernel
theorem d_RM_pointsOf_89 : decode prog_6_method_27_code 89 = .ok (.iconst 4, 1) := by decide +kernel
theorem d_RM_pointsOf_90 : decode prog_6_method_27_code 90 = .ok (.iload_n 3, 1) := by decide +kernel
theorem d_RM_pointsOf_91 : decode prog_6_method_27_code 91 = .ok (.iload 5, 2) := by decide +kernel
theorem d_RM_pointsOf_93 : decode prog_6_method_27_code 93 = .ok (.iadd, 1) := by decide +kernel
theorem d_RM_pointsOf_94 : decode prog_6_method_27_code 94 = .ok (.imul, 1) := by decide +kernel
theorem d_RM_pointsOf_95 : decode prog_6_method_27_code 95 = .ok (.aload_n 0, 1) := by decide +kernel
theorem d_RM_pointsOf_96 : decode prog_6_method_27_code 96 = .ok (.getfield 63, 3) := by decide +kernel
theorem d_RM_pointsOf_99 : decode prog_6_method_27_code 99 = .ok (.if_icmp .gt 7, 3) := by decide +kernel
theorem d_RM_pointsOf_102 : decode prog_6_method_27_code 102 = .ok (.iconst 1, 1) := by decide +kernel
theorem d_RM_pointsOf_103 : decode prog_6_method_27_code 103 = .ok (.goto 4, 3) := by decide +kernel
theorem d_RM_pointsOf_106 : decode prog_6_method_27_code 106 = .ok (.iconst 0, 1) := by decide +kernel
theorem d_RM_pointsOf_107 : decode prog_6_method_27_code 107 = .ok (.istore 7, 2) := by decide +kernel
theorem d_RM_pointsOf_109 : decode prog_6_method_27_code 109 = .ok (.iload 6, 2) := by decide +kernel
theorem d_RM_pointsOf_111 : decode prog_6_method_27_code 111 = .ok (.ifCond .ne 8, 3) := by decide +kernel
theorem d_RM_pointsOf_114 : decode prog_6_method_27_code 114 = .ok (.iload 7, 2) := by decide +kernel
theorem d_RM_pointsOf_116 : decode prog_6_method_27_code 116 = .ok (.ifCond .eq 13, 3) := by decide +kernel
theorem d_RM_pointsOf_119 : decode prog_6_method_27_code 119 = .ok (.aload_n 0, 1) := by decide +kernel
theorem d_RM_pointsOf_120 : decode prog_6_method_27_code 120 = .ok (.iload_n 1, 1) := by decide +kernel
theorem d_RM_pointsOf_121 : decode prog_6_method_27_code 121 = .ok (.invokevirtual 148, 3) := by decide +kernel
theorem d_RM_pointsOf_124 : decode prog_6_method_27_code 124 = .ok (.ifCond .ne 5, 3) := by decide +kernel
theorem d_RM_pointsOf_127 : decode prog_6_method_27_code 127 = .ok (.iconst 0, 1) := by decide +kernel
theorem d_RM_pointsOf_128 : decode prog_6_method_27_code 128 = .ok (.ireturn, 1) := by decide +kernel
theorem d_RM_pointsOf_129 : decode prog_6_method_27_code 129 = .ok (.aload_n 0, 1) := by decide +kernel
theorem d_RM_pointsOf_130 : decode prog_6_method_27_code 130 = .ok (.getfield 142, 3) := by decide +kernel
theorem d_RM_pointsOf_133 : decode prog_6_method_27_code 133 = .ok (.istore 8, 2) := by decide +kernel
theorem d_RM_pointsOf_135 : decode prog_6_method_27_code 135 = .ok (.iload 8, 2) := by decide +kernel
theorem d_RM_pointsOf_137 : decode prog_6_method_27_code 137 = .ok (.iconst 2, 1) := by decide +kernel
theorem d_RM_pointsOf_138 : decode prog_6_method_27_code 138 = .ok (.if_icmp .lt 15, 3) := by decide +kernel
theorem d_RM_pointsOf_141 : decode prog_6_method_27_code 141 = .ok (.iload 8, 2) := by decide +kernel
theorem d_RM_pointsOf_143 : decode prog_6_method_27_code 143 = .ok (.bipush 6, 2) := by decide +kernel
theorem d_RM_pointsOf_145 : decode prog_6_method_27_code 145 = .ok (.if_icmp .gt 8, 3) := by decide +kernel
theorem d_RM_pointsOf_148 : decode prog_6_method_27_code 148 = .ok (.bipush 30, 2) := by decide +kernel
theorem d_RM_pointsOf_150 : decode prog_6_method_27_code 150 = .ok (.goto 5, 3) := by decide +kernel
theorem d_RM_pointsOf_153 : decode prog_6_method_27_code 153 = .ok (.bipush 10, 2) := by decide +kernel
theorem d_RM_pointsOf_155 : decode prog_6_method_27_code 155 = .ok (.istore 9, 2) := by decide +kernel
theorem d_RM_pointsOf_157 : decode prog_6_method_27_code 157 = .ok (.iload 9, 2) := by decide +kernel
theorem d_RM_pointsOf_159 : decode prog_6_method_27_code 159 = .ok (.iconst 2, 1) := by decide +kernel
theorem d_RM_pointsOf_160 : decode prog_6_method_27_code 160 = .ok (.iload_n 2, 1) := by decide +kernel
theorem d_RM_pointsOf_161 : decode prog_6_method_27_code 161 = .ok (.imul, 1) := by decide +kernel
theorem d_RM_pointsOf_162 : decode prog_6_method_27_code 162 = .ok (.iload 4, 2) := by decide +kernel
theorem d_RM_pointsOf_164 : decode prog_6_method_27_code 164 = .ok (.iadd, 1) := by decide +kernel
theorem d_RM_pointsOf_165 : decode prog_6_method_27_code 165 = .ok (.aload_n 0, 1) := by decide +kernel
theorem d_RM_pointsOf_166 : decode prog_6_method_27_code 166 = .ok (.getfield 59, 3) := by decide +kernel
theorem d_RM_pointsOf_169 : decode prog_6_method_27_code 169 = .ok (.if_icmp .lt 8, 3) := by decide +kernel
theorem d_RM_pointsOf_172 : decode prog_6_method_27_code 172 = .ok (.bipush 15, 2) := by decide +kernel
theorem d_RM_pointsOf_174 : decode prog_6_method_27_code 174 = .ok (.goto 4, 3) := by decide +kernel
theorem d_RM_pointsOf_177 : decode prog_6_method_27_code 177 = .ok (.iconst 0, 1) := by decide +kernel
theorem d_RM_pointsOf_178 : decode prog_6_method_27_code 178 = .ok (.iadd, 1) := by decide +kernel
theorem d_RM_pointsOf_179 : decode prog_6_method_27_code 179 = .ok (.istore 9, 2) := by decide +kernel
theorem d_RM_pointsOf_181 : decode prog_6_method_27_code 181 = .ok (.iload 9, 2) := by decide +kernel
theorem d_RM_pointsOf_183 : decode prog_6_method_27_code 183 = .ok (.iconst 2, 1) := by decide +kernel
theorem d_RM_pointsOf_184 : decode prog_6_method_27_code 184 = .ok (.iload_n 3, 1) := by decide +kernel
theorem d_RM_pointsOf_185 : decode prog_6_method_27_code 185 = .ok (.imul, 1) := by decide +kernel
theorem d_RM_pointsOf_186 : decode prog_6_method_27_code 186 = .ok (.iload 5, 2) := by decide +kernel
theorem d_RM_pointsOf_188 : decode prog_6_method_27_code 188 = .ok (.iadd, 1) := by decide +kernel
theorem d_RM_pointsOf_189 : decode prog_6_method_27_code 189 = .ok (.aload_n 0, 1) := by decide +kernel
theorem d_RM_pointsOf_190 : decode prog_6_method_27_code 190 = .ok (.getfield 63, 3) := by decide +kernel
theorem d_RM_pointsOf_193 : decode prog_6_method_27_code 193 = .ok (.if_icmp .lt 8, 3) := by decide +kernel
theorem d_RM_pointsOf_196 : decode prog_6_method_27_code 196 = .ok (.bipush 15, 2) := by decide +kernel
theorem d_RM_pointsOf_198 : decode prog_6_method_27_code 198 = .ok (.goto 4, 3) := by decide +kernel
theorem d_RM_pointsOf_201 : decode prog_6_method_27_code 201 = .ok (.iconst 0, 1) := by decide +kernel
theorem d_RM_pointsOf_202 : decode prog_6_method_27_code 202 = .ok (.iadd, 1) := by decide +kernel
theorem d_RM_pointsOf_203 : decode prog_6_method_27_code 203 = .ok (.istore 9, 2) := by decide +kernel
theorem d_RM_pointsOf_205 : decode prog_6_method_27_code 205 = .ok (.iload 9, 2) := by decide +kernel
theorem d_RM_pointsOf_207 : decode prog_6_method_27_code 207 = .ok (.iconst 2, 1) := by decide +kernel
theorem d_RM_pointsOf_208 : decode prog_6_method_27_code 208 = .ok (.iload 4, 2) := by decide +kernel
theorem d_RM_pointsOf_210 : decode prog_6_method_27_code 210 = .ok (.imul, 1) := by decide +kernel
theorem d_RM_pointsOf_211 : decode prog_6_method_27_code 211 = .ok (.iload 5, 2) := by decide +kernel
theorem d_RM_pointsOf_213 : decode prog_6_method_27_code 213 = .ok (.imul, 1) := by decide +kernel
theorem d_RM_pointsOf_214 : decode prog_6_method_27_code 214 = .ok (.aload_n 0, 1) := by decide +kernel
theorem d_RM_pointsOf_215 : decode prog_6_method_27_code 215 = .ok (.getfield 59, 3) := by decide +kernel
theorem d_RM_pointsOf_218 : decode prog_6_method_27_code 218 = .ok (.aload_n 0, 1) := by decide +kernel
theorem d_RM_pointsOf_219 : decode prog_6_method_27_code 219 = .ok (.getfield 63, 3) := by decide +kernel
theorem d_RM_pointsOf_222 : decode prog_6_method_27_code 222 = .ok (.imul, 1) := by decide +kernel
theorem d_RM_pointsOf_223 : decode prog_6_method_27_code 223 = .ok (.if_icmp .gt 8, 3) := by decide +kernel
theorem d_RM_pointsOf_226 : decode prog_6_method_27_code 226 = .ok (.bipush 10, 2) := by decide +kernel
theorem d_RM_pointsOf_228 : decode prog_6_method_27_code 228 = .ok (.goto 4, 3) := by decide +kernel
theorem d_RM_pointsOf_231 : decode prog_6_method_27_code 231 = .ok (.iconst 0, 1) := by decide +kernel
theorem d_RM_pointsOf_232 : decode prog_6_method_27_code 232 = .ok (.iadd, 1) := by decide +kernel
theorem d_RM_pointsOf_233 : decode prog_6_method_27_code 233 = .ok (.istore 9, 2) := by decide +kernel
theorem d_RM_pointsOf_235 : decode prog_6_method_27_code 235 = .ok (.iload 9, 2) := by decide +kernel
theorem d_RM_pointsOf_237 : decode prog_6_method_27_code 237 = .ok (.aload_n 0, 1) := by decide +kernel
theorem d_RM_pointsOf_238 : decode prog_6_method_27_code 238 = .ok (.iload_n 1, 1) := by decide +kernel
theorem d_RM_pointsOf_239 : decode prog_6_method_27_code 239 = .ok (.invokevirtual 148, 3) := by decide +kernel
theorem d_RM_pointsOf_242 : decode prog_6_method_27_code 242 = .ok (.ifCond .eq 8, 3) := by decide +kernel
theorem d_RM_pointsOf_245 : decode prog_6_method_27_code 245 = .ok (.bipush 25, 2) := by decide +kernel
theorem d_RM_pointsOf_247 : decode prog_6_method_27_code 247 = .ok (.goto 4, 3) := by decide +kernel
theorem d_RM_pointsOf_250 : decode prog_6_method_27_code 250 = .ok (.iconst 0, 1) := by decide +kernel
theorem d_RM_pointsOf_251 : decode prog_6_method_27_code 251 = .ok (.iadd, 1) := by decide +kernel
theorem d_RM_pointsOf_252 : decode prog_6_method_27_code 252 = .ok (.ireturn, 1) := by decide +kernel
theorem d_RM_isFirst_0 : decode prog_6_method_28_code 0 = .ok (.aload_n 0, 1) := by decide +kernel
theorem d_RM_isFirst_1 : decode prog_6_method_28_code 1 = .ok (.getfield 34, 3) := by decide +kernel
theorem d_RM_isFirst_4 : decode prog_6_method_28_code 4 = .ok (.iload_n 1, 1) := by decide +kernel
theorem d_RM_isFirst_5 : decode prog_6_method_28_code 5 = .ok (.iaload, 1) := by decide +kernel
theorem d_RM_isFirst_6 : decode prog_6_method_28_code 6 = .ok (.aload_n 0, 1) := by decide +kernel
theorem d_RM_isFirst_7 : decode prog_6_method_28_code 7 = .ok (.getfield 34, 3) := by decide +kernel
theorem d_RM_isFirst_10 : decode prog_6_method_28_code 10 = .ok (.iload_n 2, 1) := by decide +kernel
theorem d_RM_isFirst_11 : decode prog_6_method_28_code 11 = .ok (.iaload, 1) := by decide +kernel
theorem d_RM_isFirst_12 : decode prog_6_method_28_code 12 = .ok (.if_icmp .eq 24, 3) := by decide +kernel
theorem d_RM_isFirst_15 : decode prog_6_method_28_code 15 = .ok (.aload_n 0, 1) := by decide +kernel
theorem d_RM_isFirst_16 : decode prog_6_method_28_code 16 = .ok (.getfield 34, 3) := by decide +kernel
theorem d_RM_isFirst_19 : decode prog_6_method_28_code 19 = .ok (.iload_n 1, 1) := by decide +kernel
theorem d_RM_isFirst_20 : decode prog_6_method_28_code 20 = .ok (.iaload, 1) := by decide +kernel
theorem d_RM_isFirst_21 : decode prog_6_method_28_code 21 = .ok (.aload_n 0, 1) := by decide +kernel
theorem d_RM_isFirst_22 : decode prog_6_method_28_code 22 = .ok (.getfield 34, 3) := by decide +kernel
theorem d_RM_isFirst_25 : decode prog_6_method_28_code 25 = .ok (.iload_n 2, 1) := by decide +kernel
theorem d_RM_isFirst_26 : decode prog_6_method_28_code 26 = .ok (.iaload, 1) := by decide +kernel
theorem d_RM_isFirst_27 : decode prog_6_method_28_code 27 = .ok (.if_icmp .le 7, 3) := by decide +kernel
theorem d_RM_isFirst_30 : decode prog_6_method_28_code 30 = .ok (.iconst 1, 1) := by decide +kernel
theorem d_RM_isFirst_31 : decode prog_6_method_28_code 31 = .ok (.goto 4, 3) := by decide +kernel
theorem d_RM_isFirst_34 : decode prog_6_method_28_code 34 = .ok (.iconst 0, 1) := by decide +kernel
theorem d_RM_isFirst_35 : decode prog_6_method_28_code 35 = .ok (.ireturn, 1) := by decide +kernel
theorem d_RM_isFirst_36 : decode prog_6_method_28_code 36 = .ok (.aload_n 0, 1) := by decide +kernel
theorem d_RM_isFirst_37 : decode prog_6_method_28_code 37 = .ok (.getfield 152, 3) := by decide +kernel
theorem d_RM_isFirst_40 : decode prog_6_method_28_code 40 = .ok (.ifCond .eq 7, 3) := by decide +kernel
theorem d_RM_isFirst_43 : decode prog_6_method_28_code 43 = .ok (.iconst 0, 1) := by decide +kernel
theorem d_RM_isFirst_44 : decode prog_6_method_28_code 44 = .ok (.goto 4, 3) := by decide +kernel
theorem d_RM_isFirst_47 : decode prog_6_method_28_code 47 = .ok (.iconst 1, 1) := by decide +kernel
theorem d_RM_isFirst_48 : decode prog_6_method_28_code 48 = .ok (.istore_n 3, 1) := by decide +kernel
theorem d_RM_isFirst_49 : decode prog_6_method_28_code 49 = .ok (.aload_n 0, 1) := by decide +kernel
theorem d_RM_isFirst_50 : decode prog_6_method_28_code 50 = .ok (.getfield 28, 3) := by decide +kernel
theorem d_RM_isFirst_53 : decode prog_6_method_28_code 53 = .ok (.iconst 4, 1) := by decide +kernel
theorem d_RM_isFirst_54 : decode prog_6_method_28_code 54 = .ok (.iload_n 1, 1) := by decide +kernel
theorem d_RM_isFirst_55 : decode prog_6_method_28_code 55 = .ok (.imul, 1) := by decide +kernel
theorem d_RM_isFirst_56 : decode prog_6_method_28_code 56 = .ok (.iload_n 3, 1) := by decide +kernel
theorem d_RM_isFirst_57 : decode prog_6_method_28_code 57 = .ok (.iadd, 1) := by decide +kernel
theorem d_RM_isFirst_58 : decode prog_6_method_28_code 58 = .ok (.iaload, 1) := by decide +kernel
theorem d_RM_isFirst_59 : decode prog_6_method_28_code 59 = .ok (.istore 4, 2) := by decide +kernel
theorem d_RM_isFirst_61 : decode prog_6_method_28_code 61 = .ok (.aload_n 0, 1) := by decide +kernel
theorem d_RM_isFirst_62 : decode prog_6_method_28_code 62 = .ok (.getfield 28, 3) := by decide +kernel
theorem d_RM_isFirst_65 : decode prog_6_method_28_code 65 = .ok (.iconst 4, 1) := by decide +kernel
theorem d_RM_isFirst_66 : decode prog_6_method_28_code 66 = .ok (.iload_n 2, 1) := by decide +kernel
theorem d_RM_isFirst_67 : decode prog_6_method_28_code 67 = .ok (.imul, 1) := by decide +kernel
theorem d_RM_isFirst_68 : decode prog_6_method_28_code 68 = .ok (.iload_n 3, 1) := by decide +kernel
theorem d_RM_isFirst_69 : decode prog_6_method_28_code 69 = .ok (.iadd, 1) := by decide +kernel
theorem d_RM_isFirst_70 : decode prog_6_method_28_code 70 = .ok (.iaload, 1) := by decide +kernel
theorem d_RM_isFirst_71 : decode prog_6_method_28_code 71 = .ok (.istore 5, 2) := by decide +kernel
theorem d_RM_isFirst_73 : decode prog_6_method_28_code 73 = .ok (.iload 4, 2) := by decide +kernel
theorem d_RM_isFirst_75 : decode prog_6_method_28_code 75 = .ok (.iload 5, 2) := by decide +kernel
theorem d_RM_isFirst_77 : decode prog_6_method_28_code 77 = .ok (.if_icmp .eq 16, 3) := by decide +kernel
theorem d_RM_isFirst_80 : decode prog_6_method_28_code 80 = .ok (.iload 4, 2) := by decide +kernel
theorem d_RM_isFirst_82 : decode prog_6_method_28_code 82 = .ok (.iload 5, 2) := by decide +kernel
theorem d_RM_isFirst_84 : decode prog_6_method_28_code 84 = .ok (.if_icmp .ge 7, 3) := by decide +kernel
theorem d_RM_isFirst_87 : decode prog_6_method_28_code 87 = .ok (.iconst 1, 1) := by decide +kernel
theorem d_RM_isFirst_88 : decode prog_6_method_28_code 88 = .ok (.goto 4, 3) := by decide +kernel
theorem d_RM_isFirst_91 : decode prog_6_method_28_code 91 = .ok (.iconst 0, 1) := by decide +kernel
theorem d_RM_isFirst_92 : decode prog_6_method_28_code 92 = .ok (.ireturn, 1) := by decide +kernel
theorem d_RM_isFirst_93 : decode prog_6_method_28_code 93 = .ok (.aload_n 0, 1) := by decide +kernel
theorem d_RM_isFirst_94 : decode prog_6_method_28_code 94 = .ok (.getfield 28, 3) := by decide +kernel
theorem d_RM_isFirst_97 : decode prog_6_method_28_code 97 = .ok (.iconst 4, 1) := by decide +kernel
theorem d_RM_isFirst_98 : decode prog_6_method_28_code 98 = .ok (.iload_n 1, 1) := by decide +kernel
theorem d_RM_isFirst_99 : decode prog_6_method_28_code 99 = .ok (.imul, 1) := by decide +kernel
theorem d_RM_isFirst_100 : decode prog_6_method_28_code 100 = .ok (.iconst 1, 1) := by decide +kernel
theorem d_RM_isFirst_101 : decode prog_6_method_28_code 101 = .ok (.iadd, 1) := by decide +kernel
theorem d_RM_isFirst_102 : decode prog_6_method_28_code 102 = .ok (.iload_n 3, 1) := by decide +kernel
theorem d_RM_isFirst_103 : decode prog_6_method_28_code 103 = .ok (.isub, 1) := by decide +kernel
theorem d_RM_isFirst_104 : decode prog_6_method_28_code 104 = .ok (.iaload, 1) := by decide +kernel
theorem d_RM_isFirst_105 : decode prog_6_method_28_code 105 = .ok (.istore 6, 2) := by decide +kernel
theorem d_RM_isFirst_107 : decode prog_6_method_28_code 107 = .ok (.aload_n 0, 1) := by decide +kernel
theorem d_RM_isFirst_108 : decode prog_6_method_28_code 108 = .ok (.getfield 28, 3) := by decide +kernel
theorem d_RM_isFirst_111 : decode prog_6_method_28_code 111 = .ok (.iconst 4, 1) := by decide +kernel
theorem d_RM_isFirst_112 : decode prog_6_method_28_code 112 = .ok (.iload_n 2, 1) := by decide +kernel
theorem d_RM_isFirst_113 : decode prog_6_method_28_code 113 = .ok (.imul, 1) := by decide +kernel
theorem d_RM_isFirst_114 : decode prog_6_method_28_code 114 = .ok (.iconst 1, 1) := by decide +kernel
theorem d_RM_isFirst_115 : decode prog_6_method_28_code 115 = .ok (.iadd, 1) := by decide +kernel
theorem d_RM_isFirst_116 : decode prog_6_method_28_code 116 = .ok (.iload_n 3, 1) := by decide +kernel
theorem d_RM_isFirst_117 : decode prog_6_method_28_code 117 = .ok (.isub, 1) := by decide +kernel
theorem d_RM_isFirst_118 : decode prog_6_method_28_code 118 = .ok (.iaload, 1) := by decide +kernel
theorem d_RM_isFirst_119 : decode prog_6_method_28_code 119 = .ok (.istore 7, 2) := by decide +kernel
theorem d_RM_isFirst_121 : decode prog_6_method_28_code 121 = .ok (.iload 6, 2) := by decide +kernel
theorem d_RM_isFirst_123 : decode prog_6_method_28_code 123 = .ok (.iload 7, 2) := by decide +kernel
theorem d_RM_isFirst_125 : decode prog_6_method_28_code 125 = .ok (.if_icmp .eq 18, 3) := by decide +kernel
theorem d_RM_isFirst_128 : decode prog_6_method_28_code 128 = .ok (.iload 6, 2) := by decide +kernel
theorem d_RM_isFirst_130 : decode prog_6_method_28_code 130 = .ok (.iload 7, 2) := by decide +kernel
theorem d_RM_isFirst_132 : decode prog_6_method_28_code 132 = .ok (.if_icmp .ge 7, 3) := by decide +kernel
theorem d_RM_isFirst_135 : decode prog_6_method_28_code 135 = .ok (.iconst 1, 1) := by decide +kernel
theorem d_RM_isFirst_136 : decode prog_6_method_28_code 136 = .ok (.goto 27, 3) := by decide +kernel
theorem d_RM_isFirst_139 : decode prog_6_method_28_code 139 = .ok (.iconst 0, 1) := by decide +kernel
theorem d_RM_isFirst_140 : decode prog_6_method_28_code 140 = .ok (.goto 23, 3) := by decide +kernel
theorem d_RM_isFirst_143 : decode prog_6_method_28_code 143 = .ok (.aload_n 0, 1) := by decide +kernel
theorem d_RM_isFirst_144 : decode prog_6_method_28_code 144 = .ok (.getfield 31, 3) := by decide +kernel
theorem d_RM_isFirst_147 : decode prog_6_method_28_code 147 = .ok (.iload_n 1, 1) := by decide +kernel
theorem d_RM_isFirst_148 : decode prog_6_method_28_code 148 = .ok (.iaload, 1) := by decide +kernel
theorem d_RM_isFirst_149 : decode prog_6_method_28_code 149 = .ok (.aload_n 0, 1) := by decide +kernel
theorem d_RM_isFirst_150 : decode prog_6_method_28_code 150 = .ok (.getfield 31, 3) := by decide +kernel
theorem d_RM_isFirst_153 : decode prog_6_method_28_code 153 = .ok (.iload_n 2, 1) := by decide +kernel
theorem d_RM_isFirst_154 : decode prog_6_method_28_code 154 = .ok (.iaload, 1) := by decide +kernel
theorem d_RM_isFirst_155 : decode prog_6_method_28_code 155 = .ok (.if_icmp .ge 7, 3) := by decide +kernel
theorem d_RM_isFirst_158 : decode prog_6_method_28_code 158 = .ok (.iconst 1, 1) := by decide +kernel
theorem d_RM_isFirst_159 : decode prog_6_method_28_code 159 = .ok (.goto 4, 3) := by decide +kernel
theorem d_RM_isFirst_162 : decode prog_6_method_28_code 162 = .ok (.iconst 0, 1) := by decide +kernel
theorem d_RM_isFirst_163 : decode prog_6_method_28_code 163 = .ok (.ireturn, 1) := by decide +kernel
theorem d_RM_rank_0 : decode prog_6_method_29_code 0 = .ok (.iconst 0, 1) := by decide +kernel
theorem d_RM_rank_1 : decode prog_6_method_29_code 1 = .ok (.istore_n 1, 1) := by decide +kernel
theorem d_RM_rank_2 : decode prog_6_method_29_code 2 = .ok (.iload_n 1, 1) := by decide +kernel
theorem d_RM_rank_3 : decode prog_6_method_29_code 3 = .ok (.aload_n 0, 1) := by decide +kernel
theorem d_RM_rank_4 : decode prog_6_method_29_code 4 = .ok (.getfield 129, 3) := by decide +kernel
theorem d_RM_rank_7 : decode prog_6_method_29_code 7 = .ok (.if_icmp .ge 58, 3) := by decide +kernel
theorem d_RM_rank_10 : decode prog_6_method_29_code 10 = .ok (.iload_n 1, 1) := by decide +kernel
theorem d_RM_rank_11 : decode prog_6_method_29_code 11 = .ok (.istore_n 2, 1) := by decide +kernel
theorem d_RM_rank_12 : decode prog_6_method_29_code 12 = .ok (.iload_n 2, 1) := by decide +kernel
theorem d_RM_rank_13 : decode prog_6_method_29_code 13 = .ok (.ifCond .le 39, 3) := by decide +kernel
theorem d_RM_rank_16 : decode prog_6_method_29_code 16 = .ok (.aload_n 0, 1) := by decide +kernel
theorem d_RM_rank_17 : decode prog_6_method_29_code 17 = .ok (.iload_n 1, 1) := by decide +kernel
theorem d_RM_rank_18 : decode prog_6_method_29_code 18 = .ok (.aload_n 0, 1) := by decide +kernel
theorem d_RM_rank_19 : decode prog_6_method_29_code 19 = .ok (.getfield 41, 3) := by decide +kernel
theorem d_RM_rank_22 : decode prog_6_method_29_code 22 = .ok (.iload_n 2, 1) := by decide +kernel
theorem d_RM_rank_23 : decode prog_6_method_29_code 23 = .ok (.iconst 1, 1) := by decide +kernel
theorem d_RM_rank_24 : decode prog_6_method_29_code 24 = .ok (.isub, 1) := by decide +kernel
theorem d_RM_rank_25 : decode prog_6_method_29_code 25 = .ok (.iaload, 1) := by decide +kernel
theorem d_RM_rank_26 : decode prog_6_method_29_code 26 = .ok (.invokevirtual 155, 3) := by decide +kernel
theorem d_RM_rank_29 : decode prog_6_method_29_code 29 = .ok (.ifCond .eq 23, 3) := by decide +kernel
theorem d_RM_rank_32 : decode prog_6_method_29_code 32 = .ok (.aload_n 0, 1) := by decide +kernel
theorem d_RM_rank_33 : decode prog_6_method_29_code 33 = .ok (.getfield 41, 3) := by decide +kernel
theorem d_RM_rank_36 : decode prog_6_method_29_code 36 = .ok (.iload_n 2, 1) := by decide +kernel
theorem d_RM_rank_37 : decode prog_6_method_29_code 37 = .ok (.aload_n 0, 1) := by decide +kernel
theorem d_RM_rank_38 : decode prog_6_method_29_code 38 = .ok (.getfield 41, 3) := by decide +kernel
theorem d_RM_rank_41 : decode prog_6_method_29_code 41 = .ok (.iload_n 2, 1) := by decide +kernel
theorem d_RM_rank_42 : decode prog_6_method_29_code 42 = .ok (.iconst 1, 1) := by decide +kernel
theorem d_RM_rank_43 : decode prog_6_method_29_code 43 = .ok (.isub, 1) := by decide +kernel
theorem d_RM_rank_44 : decode prog_6_method_29_code 44 = .ok (.iaload, 1) := by decide +kernel
theorem d_RM_rank_45 : decode prog_6_method_29_code 45 = .ok (.iastore, 1) := by decide +kernel
theorem d_RM_rank_46 : decode prog_6_method_29_code 46 = .ok (.iinc 2 (-1), 3) := by decide +kernel
theorem d_RM_rank_49 : decode prog_6_method_29_code 49 = .ok (.goto (-37), 3) := by decide +kernel
theorem d_RM_rank_52 : decode prog_6_method_29_code 52 = .ok (.aload_n 0, 1) := by decide +kernel
theorem d_RM_rank_53 : decode prog_6_method_29_code 53 = .ok (.getfield 41, 3) := by decide +kernel
theorem d_RM_rank_56 : decode prog_6_method_29_code 56 = .ok (.iload_n 2, 1) := by decide +kernel
theorem d_RM_rank_57 : decode prog_6_method_29_code 57 = .ok (.iload_n 1, 1) := by decide +kernel
theorem d_RM_rank_58 : decode prog_6_method_29_code 58 = .ok (.iastore, 1) := by decide +kernel
theorem d_RM_rank_59 : decode prog_6_method_29_code 59 = .ok (.iinc 1 1, 3) := by decide +kernel
theorem d_RM_rank_62 : decode prog_6_method_29_code 62 = .ok (.goto (-60), 3) := by decide +kernel
theorem d_RM_rank_65 : decode prog_6_method_29_code 65 = .ok (.return_, 1) := by decide +kernel
theorem d_RM_find_0 : decode prog_6_method_30_code 0 = .ok (.aload_n 0, 1) := by decide +kernel
theorem d_RM_find_1 : decode prog_6_method_30_code 1 = .ok (.iconst 0, 1) := by decide +kernel
theorem d_RM_find_2 : decode prog_6_method_30_code 2 = .ok (.putfield 66, 3) := by decide +kernel
theorem d_RM_find_5 : decode prog_6_method_30_code 5 = .ok (.aload_n 0, 1) := by decide +kernel
theorem d_RM_find_6 : decode prog_6_method_30_code 6 = .ok (.iconst 0, 1) := by decide +kernel
theorem d_RM_find_7 : decode prog_6_method_30_code 7 = .ok (.invokevirtual 158, 3) := by decide +kernel
theorem d_RM_find_10 : decode prog_6_method_30_code 10 = .ok (.istore_n 1, 1) := by decide +kernel
theorem d_RM_find_11 : decode prog_6_method_30_code 11 = .ok (.aload_n 0, 1) := by decide +kernel
theorem d_RM_find_12 : decode prog_6_method_30_code 12 = .ok (.aload_n 0, 1) := by decide +kernel
theorem d_RM_find_13 : decode prog_6_method_30_code 13 = .ok (.iconst 1, 1) := by decide +kernel
theorem d_RM_find_14 : decode prog_6_method_30_code 14 = .ok (.invokevirtual 158, 3) := by decide +kernel
theorem d_RM_find_17 : decode prog_6_method_30_code 17 = .ok (.iload_n 1, 1) := by decide +kernel
theorem d_RM_find_18 : decode prog_6_method_30_code 18 = .ok (.if_icmp .ge 7, 3) := by decide +kernel
theorem d_RM_find_21 : decode prog_6_method_30_code 21 = .ok (.iconst 1, 1) := by decide +kernel
theorem d_RM_find_22 : decode prog_6_method_30_code 22 = .ok (.goto 4, 3) := by decide +kernel
theorem d_RM_find_25 : decode prog_6_method_30_code 25 = .ok (.iconst 0, 1) := by decide +kernel
theorem d_RM_find_26 : decode prog_6_method_30_code 26 = .ok (.putfield 152, 3) := by decide +kernel
theorem d_RM_find_29 : decode prog_6_method_30_code 29 = .ok (.aload_n 0, 1) := by decide +kernel
theorem d_RM_find_30 : decode prog_6_method_30_code 30 = .ok (.aload_n 0, 1) := by decide +kernel
theorem d_RM_find_31 : decode prog_6_method_30_code 31 = .ok (.getfield 152, 3) := by decide +kernel
theorem d_RM_find_34 : decode prog_6_method_30_code 34 = .ok (.invokevirtual 158, 3) := by decide +kernel
theorem d_RM_find_37 : decode prog_6_method_30_code 37 = .ok (.pop, 1) := by decide +kernel
theorem d_RM_find_38 : decode prog_6_method_30_code 38 = .ok (.aload_n 0, 1) := by decide +kernel
theorem d_RM_find_39 : decode prog_6_method_30_code 39 = .ok (.invokevirtual 162, 3) := by decide +kernel
theorem d_RM_find_42 : decode prog_6_method_30_code 42 = .ok (.aload_n 0, 1) := by decide +kernel
theorem d_RM_find_43 : decode prog_6_method_30_code 43 = .ok (.invokevirtual 165, 3) := by decide +kernel
theorem d_RM_find_46 : decode prog_6_method_30_code 46 = .ok (.aload_n 0, 1) := by decide +kernel
theorem d_RM_find_47 : decode prog_6_method_30_code 47 = .ok (.invokevirtual 168, 3) := by decide +kernel
theorem d_RM_find_50 : decode prog_6_method_30_code 50 = .ok (.aload_n 0, 1) := by decide +kernel
theorem d_RM_find_51 : decode prog_6_method_30_code 51 = .ok (.iconst 1, 1) := by decide +kernel
theorem d_RM_find_52 : decode prog_6_method_30_code 52 = .ok (.putfield 171, 3) := by decide +kernel
theorem d_RM_find_55 : decode prog_6_method_30_code 55 = .ok (.aload_n 0, 1) := by decide +kernel
theorem d_RM_find_56 : decode prog_6_method_30_code 56 = .ok (.invokevirtual 174, 3) := by decide +kernel
theorem d_RM_find_59 : decode prog_6_method_30_code 59 = .ok (.aload_n 0, 1) := by decide +kernel
theorem d_RM_find_60 : decode prog_6_method_30_code 60 = .ok (.invokevirtual 177, 3) := by decide +kernel
theorem d_RM_find_63 : decode prog_6_method_30_code 63 = .ok (.aload_n 0, 1) := by decide +kernel
theorem d_RM_find_64 : decode prog_6_method_30_code 64 = .ok (.getfield 129, 3) := by decide +kernel
theorem d_RM_find_67 : decode prog_6_method_30_code 67 = .ok (.ireturn, 1) := by decide +kernel
theorem d_RM_isBlock_0 : decode prog_6_method_31_code 0 = .ok (.aload_n 0, 1) := by decide +kernel
theorem d_RM_isBlock_1 : decode prog_6_method_31_code 1 = .ok (.getfield 171, 3) := by decide +kernel
theorem d_RM_isBlock_4 : decode prog_6_method_31_code 4 = .ok (.ifCond .eq 19, 3) := by decide +kernel
theorem d_RM_isBlock_7 : decode prog_6_method_31_code 7 = .ok (.iload_n 1, 1) := by decide +kernel
theorem d_RM_isBlock_8 : decode prog_6_method_31_code 8 = .ok (.ifCond .lt 15, 3) := by decide +kernel
theorem d_RM_isBlock_11 : decode prog_6_method_31_code 11 = .ok (.iload_n 1, 1) := by decide +kernel
theorem d_RM_isBlock_12 : decode prog_6_method_31_code 12 = .ok (.aload_n 0, 1) := by decide +kernel
theorem d_RM_isBlock_13 : decode prog_6_method_31_code 13 = .ok (.getfield 129, 3) := by decide +kernel
theorem d_RM_isBlock_16 : decode prog_6_method_31_code 16 = .ok (.if_icmp .ge 7, 3) := by decide +kernel
theorem d_RM_isBlock_19 : decode prog_6_method_31_code 19 = .ok (.iconst 1, 1) := by decide +kernel
theorem d_RM_isBlock_20 : decode prog_6_method_31_code 20 = .ok (.goto 4, 3) := by decide +kernel
theorem d_RM_isBlock_23 : decode prog_6_method_31_code 23 = .ok (.iconst 0, 1) := by decide +kernel
theorem d_RM_isBlock_24 : decode prog_6_method_31_code 24 = .ok (.ireturn, 1) := by decide +kernel
theorem d_RM_block_0 : decode prog_6_method_32_code 0 = .ok (.aload_n 0, 1) := by decide +kernel
theorem d_RM_block_1 : decode prog_6_method_32_code 1 = .ok (.iconst 0, 1) := by decide +kernel
theorem d_RM_block_2 : decode prog_6_method_32_code 2 = .ok (.putfield 66, 3) := by decide +kernel
theorem d_RM_block_5 : decode prog_6_method_32_code 5 = .ok (.aload_n 0, 1) := by decide +kernel
theorem d_RM_block_6 : decode prog_6_method_32_code 6 = .ok (.iload_n 1, 1) := by decide +kernel
theorem d_RM_block_7 : decode prog_6_method_32_code 7 = .ok (.invokevirtual 180, 3) := by decide +kernel
theorem d_RM_block_10 : decode prog_6_method_32_code 10 = .ok (.ifCond .ne 6, 3) := by decide +kernel
theorem d_RM_block_13 : decode prog_6_method_32_code 13 = .ok (.bipush (-11), 2) := by decide +kernel
theorem d_RM_block_15 : decode prog_6_method_32_code 15 = .ok (.ireturn, 1) := by decide +kernel
theorem d_RM_block_16 : decode prog_6_method_32_code 16 = .ok (.iload_n 2, 1) := by decide +kernel
theorem d_RM_block_17 : decode prog_6_method_32_code 17 = .ok (.ifCond .lt 8, 3) := by decide +kernel
theorem d_RM_block_20 : decode prog_6_method_32_code 20 = .ok (.iload_n 2, 1) := by decide +kernel
theorem d_RM_block_21 : decode prog_6_method_32_code 21 = .ok (.iconst 5, 1) := by decide +kernel
theorem d_RM_block_22 : decode prog_6_method_32_code 22 = .ok (.if_icmp .le 6, 3) := by decide +kernel
theorem d_RM_block_25 : decode prog_6_method_32_code 25 = .ok (.bipush (-12), 2) := by decide +kernel
theorem d_RM_block_27 : decode prog_6_method_32_code 27 = .ok (.ireturn, 1) := by decide +kernel
theorem d_RM_block_28 : decode prog_6_method_32_code 28 = .ok (.aload_n 0, 1) := by decide +kernel
theorem d_RM_block_29 : decode prog_6_method_32_code 29 = .ok (.getfield 41, 3) := by decide +kernel
theorem d_RM_block_32 : decode prog_6_method_32_code 32 = .ok (.iload_n 1, 1) := by decide +kernel
theorem d_RM_block_33 : decode prog_6_method_32_code 33 = .ok (.iaload, 1) := by decide +kernel
theorem d_RM_block_34 : decode prog_6_method_32_code 34 = .ok (.istore_n 3, 1) := by decide +kernel
theorem d_RM_block_35 : decode prog_6_method_32_code 35 = .ok (.iload_n 2, 1) := by decide +kernel
theorem d_RM_block_36 : decode prog_6_method_32_code 36 = .ok (.iconst 4, 1) := by decide +kernel
theorem d_RM_block_37 : decode prog_6_method_32_code 37 = .ok (.if_icmp .ge 14, 3) := by decide +kernel
theorem d_RM_block_40 : decode prog_6_method_32_code 40 = .ok (.aload_n 0, 1) := by decide +kernel
theorem d_RM_block_41 : decode prog_6_method_32_code 41 = .ok (.getfield 28, 3) := by decide +kernel
theorem d_RM_block_44 : decode prog_6_method_32_code 44 = .ok (.iconst 4, 1) := by decide +kernel
theorem d_RM_block_45 : decode prog_6_method_32_code 45 = .ok (.iload_n 3, 1) := by decide +kernel
theorem d_RM_block_46 : decode prog_6_method_32_code 46 = .ok (.imul, 1) := by decide +kernel
theorem d_RM_block_47 : decode prog_6_method_32_code 47 = .ok (.iload_n 2, 1) := by decide +kernel
theorem d_RM_block_48 : decode prog_6_method_32_code 48 = .ok (.iadd, 1) := by decide +kernel
theorem d_RM_block_49 : decode prog_6_method_32_code 49 = .ok (.iaload, 1) := by decide +kernel
theorem d_RM_block_50 : decode prog_6_method_32_code 50 = .ok (.ireturn, 1) := by decide +kernel
theorem d_RM_block_51 : decode prog_6_method_32_code 51 = .ok (.iconst 0, 1) := by decide +kernel
theorem d_RM_block_52 : decode prog_6_method_32_code 52 = .ok (.istore 4, 2) := by decide +kernel
theorem d_RM_block_54 : decode prog_6_method_32_code 54 = .ok (.iconst 0, 1) := by decide +kernel
theorem d_RM_block_55 : decode prog_6_method_32_code 55 = .ok (.istore 5, 2) := by decide +kernel
theorem d_RM_block_57 : decode prog_6_method_32_code 57 = .ok (.iload 5, 2) := by decide +kernel
theorem d_RM_block_59 : decode prog_6_method_32_code 59 = .ok (.aload_n 0, 1) := by decide +kernel
theorem d_RM_block_60 : decode prog_6_method_32_code 60 = .ok (.getfield 126, 3) := by decide +kernel
theorem d_RM_block_63 : decode prog_6_method_32_code 63 = .ok (.if_icmp .ge 41, 3) := by decide +kernel
theorem d_RM_block_66 : decode prog_6_method_32_code 66 = .ok (.iload_n 2, 1) := by decide +kernel
theorem d_RM_block_67 : decode prog_6_method_32_code 67 = .ok (.iconst 5, 1) := by decide +kernel
theorem d_RM_block_68 : decode prog_6_method_32_code 68 = .ok (.if_icmp .ne 36, 3) := by decide +kernel
theorem d_RM_block_71 : decode prog_6_method_32_code 71 = .ok (.iload 4, 2) := by decide +kernel
theorem d_RM_block_73 : decode prog_6_method_32_code 73 = .ok (.aload_n 0, 1) := by decide +kernel
theorem d_RM_block_74 : decode prog_6_method_32_code 74 = .ok (.getfield 53, 3) := by decide +kernel
theorem d_RM_block_77 : decode prog_6_method_32_code 77 = .ok (.iload 5, 2) := by decide +kernel
theorem d_RM_block_79 : decode prog_6_method_32_code 79 = .ok (.iaload, 1) := by decide +kernel
theorem d_RM_block_80 : decode prog_6_method_32_code 80 = .ok (.iload_n 3, 1) := by decide +kernel
theorem d_RM_block_81 : decode prog_6_method_32_code 81 = .ok (.if_icmp .ne 13, 3) := by decide +kernel
theorem d_RM_block_84 : decode prog_6_method_32_code 84 = .ok (.aload_n 0, 1) := by decide +kernel
theorem d_RM_block_85 : decode prog_6_method_32_code 85 = .ok (.getfield 50, 3) := by decide +kernel
theorem d_RM_block_88 : decode prog_6_method_32_code 88 = .ok (.iload 5, 2) := by decide +kernel
theorem d_RM_block_90 : decode prog_6_method_32_code 90 = .ok (.iaload, 1) := by decide +kernel
theorem d_RM_block_91 : decode prog_6_method_32_code 91 = .ok (.goto 4, 3) := by decide +kernel
theorem d_RM_block_94 : decode prog_6_method_32_code 94 = .ok (.iconst 0, 1) := by decide +kernel
theorem d_RM_block_95 : decode prog_6_method_32_code 95 = .ok (.iadd, 1) := by decide +kernel
theorem d_RM_block_96 : decode prog_6_method_32_code 96 = .ok (.istore 4, 2) := by decide +kernel
theorem d_RM_block_98 : decode prog_6_method_32_code 98 = .ok (.iinc 5 1, 3) := by decide +kernel
theorem d_RM_block_101 : decode prog_6_method_32_code 101 = .ok (.goto (-44), 3) := by decide +kernel
theorem d_RM_block_104 : decode prog_6_method_32_code 104 = .ok (.iload_n 2, 1) := by decide +kernel
theorem d_RM_block_105 : decode prog_6_method_32_code 105 = .ok (.iconst 4, 1) := by decide +kernel
theorem d_RM_block_106 : decode prog_6_method_32_code 106 = .ok (.if_icmp .ne 11, 3) := by decide +kernel
theorem d_RM_block_109 : decode prog_6_method_32_code 109 = .ok (.aload_n 0, 1) := by decide +kernel
theorem d_RM_block_110 : decode prog_6_method_32_code 110 = .ok (.iload_n 3, 1) := by decide +kernel
theorem d_RM_block_111 : decode prog_6_method_32_code 111 = .ok (.invokevirtual 183, 3) := by decide +kernel
theorem d_RM_block_114 : decode prog_6_method_32_code 114 = .ok (.goto 5, 3) := by decide +kernel
theorem d_RM_block_117 : decode prog_6_method_32_code 117 = .ok (.iload 4, 2) := by decide +kernel
theorem d_RM_block_119 : decode prog_6_method_32_code 119 = .ok (.ireturn, 1) := by decide +kernel
theorem d_RM_line_0 : decode prog_6_method_33_code 0 = .ok (.aload_n 0, 1) := by decide +kernel
theorem d_RM_line_1 : decode prog_6_method_33_code 1 = .ok (.iconst 0, 1) := by decide +kernel
theorem d_RM_line_2 : decode prog_6_method_33_code 2 = .ok (.putfield 66, 3) := by decide +kernel
theorem d_RM_line_5 : decode prog_6_method_33_code 5 = .ok (.aload_n 0, 1) := by decide +kernel
theorem d_RM_line_6 : decode prog_6_method_33_code 6 = .ok (.iload_n 1, 1) := by decide +kernel
theorem d_RM_line_7 : decode prog_6_method_33_code 7 = .ok (.invokevirtual 180, 3) := by decide +kernel
theorem d_RM_line_10 : decode prog_6_method_33_code 10 = .ok (.ifCond .ne 6, 3) := by decide +kernel
theorem d_RM_line_13 : decode prog_6_method_33_code 13 = .ok (.bipush (-11), 2) := by decide +kernel
theorem d_RM_line_15 : decode prog_6_method_33_code 15 = .ok (.ireturn, 1) := by decide +kernel
theorem d_RM_line_16 : decode prog_6_method_33_code 16 = .ok (.iload_n 3, 1) := by decide +kernel
theorem d_RM_line_17 : decode prog_6_method_33_code 17 = .ok (.ifCond .lt 8, 3) := by decide +kernel
theorem d_RM_line_20 : decode prog_6_method_33_code 20 = .ok (.iload_n 3, 1) := by decide +kernel
theorem d_RM_line_21 : decode prog_6_method_33_code 21 = .ok (.iconst 5, 1) := by decide +kernel
theorem d_RM_line_22 : decode prog_6_method_33_code 22 = .ok (.if_icmp .le 6, 3) := by decide +kernel
theorem d_RM_line_25 : decode prog_6_method_33_code 25 = .ok (.bipush (-12), 2) := by decide +kernel
theorem d_RM_line_27 : decode prog_6_method_33_code 27 = .ok (.ireturn, 1) := by decide +kernel
theorem d_RM_line_28 : decode prog_6_method_33_code 28 = .ok (.iload_n 2, 1) := by decide +kernel
theorem d_RM_line_29 : decode prog_6_method_33_code 29 = .ok (.istore 4, 2) := by decide +kernel
theorem d_RM_line_31 : decode prog_6_method_33_code 31 = .ok (.iconst 0, 1) := by decide +kernel
theorem d_RM_line_32 : decode prog_6_method_33_code 32 = .ok (.istore 5, 2) := by decide +kernel
theorem d_RM_line_34 : decode prog_6_method_33_code 34 = .ok (.iload 5, 2) := by decide +kernel
theorem d_RM_line_36 : decode prog_6_method_33_code 36 = .ok (.aload_n 0, 1) := by decide +kernel
theorem d_RM_line_37 : decode prog_6_method_33_code 37 = .ok (.getfield 126, 3) := by decide +kernel
theorem d_RM_line_40 : decode prog_6_method_33_code 40 = .ok (.if_icmp .ge 79, 3) := by decide +kernel
theorem d_RM_line_43 : decode prog_6_method_33_code 43 = .ok (.iload_n 2, 1) := by decide +kernel
theorem d_RM_line_44 : decode prog_6_method_33_code 44 = .ok (.ifCond .lt 75, 3) := by decide +kernel
theorem d_RM_line_47 : decode prog_6_method_33_code 47 = .ok (.aload_n 0, 1) := by decide +kernel
theorem d_RM_line_48 : decode prog_6_method_33_code 48 = .ok (.getfield 53, 3) := by decide +kernel
theorem d_RM_line_51 : decode prog_6_method_33_code 51 = .ok (.iload 5, 2) := by decide +kernel
theorem d_RM_line_53 : decode prog_6_method_33_code 53 = .ok (.iaload, 1) := by decide +kernel
theorem d_RM_line_54 : decode prog_6_method_33_code 54 = .ok (.aload_n 0, 1) := by decide +kernel
theorem d_RM_line_55 : decode prog_6_method_33_code 55 = .ok (.getfield 41, 3) := by decide +kernel
theorem d_RM_line_58 : decode prog_6_method_33_code 58 = .ok (.iload_n 1, 1) := by decide +kernel
theorem d_RM_line_59 : decode prog_6_method_33_code 59 = .ok (.iaload, 1) := by decide +kernel
theorem d_RM_line_60 : decode prog_6_method_33_code 60 = .ok (.if_icmp .ne 53, 3) := by decide +kernel
theorem d_RM_line_63 : decode prog_6_method_33_code 63 = .ok (.iload 4, 2) := by decide +kernel
theorem d_RM_line_65 : decode prog_6_method_33_code 65 = .ok (.ifCond .ne 45, 3) := by decide +kernel
theorem d_RM_line_68 : decode prog_6_method_33_code 68 = .ok (.iload_n 3, 1) := by decide +kernel
theorem d_RM_line_69 : decode prog_6_method_33_code 69 = .ok (.iconst 4, 1) := by decide +kernel
theorem d_RM_line_70 : decode prog_6_method_33_code 70 = .ok (.if_icmp .ge 17, 3) := by decide +kernel
theorem d_RM_line_73 : decode prog_6_method_33_code 73 = .ok (.aload_n 0, 1) := by decide +kernel
theorem d_RM_line_74 : decode prog_6_method_33_code 74 = .ok (.getfield 44, 3) := by decide +kernel
theorem d_RM_line_77 : decode prog_6_method_33_code 77 = .ok (.iconst 4, 1) := by decide +kernel
theorem d_RM_line_78 : decode prog_6_method_33_code 78 = .ok (.iload 5, 2) := by decide +kernel
theorem d_RM_line_80 : decode prog_6_method_33_code 80 = .ok (.imul, 1) := by decide +kernel
theorem d_RM_line_81 : decode prog_6_method_33_code 81 = .ok (.iload_n 3, 1) := by decide +kernel
theorem d_RM_line_82 : decode prog_6_method_33_code 82 = .ok (.iadd, 1) := by decide +kernel
theorem d_RM_line_83 : decode prog_6_method_33_code 83 = .ok (.iaload, 1) := by decide +kernel
theorem d_RM_line_84 : decode prog_6_method_33_code 84 = .ok (.goto 25, 3) := by decide +kernel
theorem d_RM_line_87 : decode prog_6_method_33_code 87 = .ok (.iload_n 3, 1) := by decide +kernel
theorem d_RM_line_88 : decode prog_6_method_33_code 88 = .ok (.iconst 4, 1) := by decide +kernel
theorem d_RM_line_89 : decode prog_6_method_33_code 89 = .ok (.if_icmp .ne 13, 3) := by decide +kernel
theorem d_RM_line_92 : decode prog_6_method_33_code 92 = .ok (.aload_n 0, 1) := by decide +kernel
theorem d_RM_line_93 : decode prog_6_method_33_code 93 = .ok (.getfield 50, 3) := by decide +kernel
theorem d_RM_line_96 : decode prog_6_method_33_code 96 = .ok (.iload 5, 2) := by decide +kernel
theorem d_RM_line_98 : decode prog_6_method_33_code 98 = .ok (.iaload, 1) := by decide +kernel
theorem d_RM_line_99 : decode prog_6_method_33_code 99 = .ok (.goto 10, 3) := by decide +kernel
theorem d_RM_line_102 : decode prog_6_method_33_code 102 = .ok (.aload_n 0, 1) := by decide +kernel
theorem d_RM_line_103 : decode prog_6_method_33_code 103 = .ok (.getfield 47, 3) := by decide +kernel
theorem d_RM_line_106 : decode prog_6_method_33_code 106 = .ok (.iload 5, 2) := by decide +kernel
theorem d_RM_line_108 : decode prog_6_method_33_code 108 = .ok (.iaload, 1) := by decide +kernel
theorem d_RM_line_109 : decode prog_6_method_33_code 109 = .ok (.ireturn, 1) := by decide +kernel
theorem d_RM_line_110 : decode prog_6_method_33_code 110 = .ok (.iinc 4 (-1), 3) := by decide +kernel
theorem d_RM_line_113 : decode prog_6_method_33_code 113 = .ok (.iinc 5 1, 3) := by decide +kernel
theorem d_RM_line_116 : decode prog_6_method_33_code 116 = .ok (.goto (-82), 3) := by decide +kernel
theorem d_RM_line_119 : decode prog_6_method_33_code 119 = .ok (.iconst (-1), 1) := by decide +kernel
theorem d_RM_line_120 : decode prog_6_method_33_code 120 = .ok (.ireturn, 1) := by decide +kernel
theorem d_RM_points_0 : decode prog_6_method_34_code 0 = .ok (.aload_n 0, 1) := by decide +kernel
theorem d_RM_points_1 : decode prog_6_method_34_code 1 = .ok (.iconst 0, 1) := by decide +kernel
theorem d_RM_points_2 : decode prog_6_method_34_code 2 = .ok (.putfield 66, 3) := by decide +kernel
theorem d_RM_points_5 : decode prog_6_method_34_code 5 = .ok (.aload_n 0, 1) := by decide +kernel
theorem d_RM_points_6 : decode prog_6_method_34_code 6 = .ok (.iload_n 1, 1) := by decide +kernel
theorem d_RM_points_7 : decode prog_6_method_34_code 7 = .ok (.invokevirtual 180, 3) := by decide +kernel
theorem d_RM_points_10 : decode prog_6_method_34_code 10 = .ok (.ifCond .eq 17, 3) := by decide +kernel
theorem d_RM_points_13 : decode prog_6_method_34_code 13 = .ok (.aload_n 0, 1) := by decide +kernel
theorem d_RM_points_14 : decode prog_6_method_34_code 14 = .ok (.getfield 34, 3) := by decide +kernel
theorem d_RM_points_17 : decode prog_6_method_34_code 17 = .ok (.aload_n 0, 1) := by decide +kernel
theorem d_RM_points_18 : decode prog_6_method_34_code 18 = .ok (.getfield 41, 3) := by decide +kernel
theorem d_RM_points_21 : decode prog_6_method_34_code 21 = .ok (.iload_n 1, 1) := by decide +kernel
theorem d_RM_points_22 : decode prog_6_method_34_code 22 = .ok (.iaload, 1) := by decide +kernel
theorem d_RM_points_23 : decode prog_6_method_34_code 23 = .ok (.iaload, 1) := by decide +kernel
theorem d_RM_points_24 : decode prog_6_method_34_code 24 = .ok (.goto 5, 3) := by decide +kernel
theorem d_RM_points_27 : decode prog_6_method_34_code 27 = .ok (.bipush (-11), 2) := by decide +kernel
theorem d_RM_points_29 : decode prog_6_method_34_code 29 = .ok (.ireturn, 1) := by decide +kernel
theorem d_RM_printed_0 : decode prog_6_method_35_code 0 = .ok (.aload_n 0, 1) := by decide +kernel
theorem d_RM_printed_1 : decode prog_6_method_35_code 1 = .ok (.iconst 0, 1) := by decide +kernel
theorem d_RM_printed_2 : decode prog_6_method_35_code 2 = .ok (.putfield 66, 3) := by decide +kernel
theorem d_RM_printed_5 : decode prog_6_method_35_code 5 = .ok (.aload_n 0, 1) := by decide +kernel
theorem d_RM_printed_6 : decode prog_6_method_35_code 6 = .ok (.iload_n 1, 1) := by decide +kernel
theorem d_RM_printed_7 : decode prog_6_method_35_code 7 = .ok (.invokevirtual 180, 3) := by decide +kernel
theorem d_RM_printed_10 : decode prog_6_method_35_code 10 = .ok (.ifCond .eq 21, 3) := by decide +kernel
theorem d_RM_printed_13 : decode prog_6_method_35_code 13 = .ok (.aload_n 0, 1) := by decide +kernel
theorem d_RM_printed_14 : decode prog_6_method_35_code 14 = .ok (.getfield 37, 3) := by decide +kernel
theorem d_RM_printed_17 : decode prog_6_method_35_code 17 = .ok (.aload_n 0, 1) := by decide +kernel
theorem d_RM_printed_18 : decode prog_6_method_35_code 18 = .ok (.getfield 41, 3) := by decide +kernel
theorem d_RM_printed_21 : decode prog_6_method_35_code 21 = .ok (.iload_n 1, 1) := by decide +kernel
theorem d_RM_printed_22 : decode prog_6_method_35_code 22 = .ok (.iaload, 1) := by decide +kernel
theorem d_RM_printed_23 : decode prog_6_method_35_code 23 = .ok (.baload, 1) := by decide +kernel
theorem d_RM_printed_24 : decode prog_6_method_35_code 24 = .ok (.ifCond .eq 7, 3) := by decide +kernel
theorem d_RM_printed_27 : decode prog_6_method_35_code 27 = .ok (.iconst 1, 1) := by decide +kernel
theorem d_RM_printed_28 : decode prog_6_method_35_code 28 = .ok (.goto 4, 3) := by decide +kernel
theorem d_RM_printed_31 : decode prog_6_method_35_code 31 = .ok (.iconst 0, 1) := by decide +kernel
theorem d_RM_printed_32 : decode prog_6_method_35_code 32 = .ok (.ireturn, 1) := by decide +kernel
theorem d_RM_turned_0 : decode prog_6_method_36_code 0 = .ok (.aload_n 0, 1) := by decide +kernel
theorem d_RM_turned_1 : decode prog_6_method_36_code 1 = .ok (.iconst 0, 1) := by decide +kernel
theorem d_RM_turned_2 : decode prog_6_method_36_code 2 = .ok (.putfield 66, 3) := by decide +kernel
theorem d_RM_turned_5 : decode prog_6_method_36_code 5 = .ok (.aload_n 0, 1) := by decide +kernel
theorem d_RM_turned_6 : decode prog_6_method_36_code 6 = .ok (.getfield 152, 3) := by decide +kernel
theorem d_RM_turned_9 : decode prog_6_method_36_code 9 = .ok (.ireturn, 1) := by decide +kernel
theorem d_RM_blockOf_0 : decode prog_6_method_37_code 0 = .ok (.aload_n 0, 1) := by decide +kernel
theorem d_RM_blockOf_1 : decode prog_6_method_37_code 1 = .ok (.iconst 0, 1) := by decide +kernel
theorem d_RM_blockOf_2 : decode prog_6_method_37_code 2 = .ok (.putfield 66, 3) := by decide +kernel
theorem d_RM_blockOf_5 : decode prog_6_method_37_code 5 = .ok (.iload_n 1, 1) := by decide +kernel
theorem d_RM_blockOf_6 : decode prog_6_method_37_code 6 = .ok (.ifCond .lt 11, 3) := by decide +kernel
theorem d_RM_blockOf_9 : decode prog_6_method_37_code 9 = .ok (.iload_n 1, 1) := by decide +kernel
theorem d_RM_blockOf_10 : decode prog_6_method_37_code 10 = .ok (.aload_n 0, 1) := by decide +kernel
theorem d_RM_blockOf_11 : decode prog_6_method_37_code 11 = .ok (.getfield 73, 3) := by decide +kernel
theorem d_RM_blockOf_14 : decode prog_6_method_37_code 14 = .ok (.if_icmp .lt 6, 3) := by decide +kernel
theorem d_RM_blockOf_17 : decode prog_6_method_37_code 17 = .ok (.bipush (-11), 2) := by decide +kernel
theorem d_RM_blockOf_19 : decode prog_6_method_37_code 19 = .ok (.ireturn, 1) := by decide +kernel
theorem d_RM_blockOf_20 : decode prog_6_method_37_code 20 = .ok (.iload_n 1, 1) := by decide +kernel
theorem d_RM_blockOf_21 : decode prog_6_method_37_code 21 = .ok (.aload_n 0, 1) := by decide +kernel
theorem d_RM_blockOf_22 : decode prog_6_method_37_code 22 = .ok (.getfield 136, 3) := by decide +kernel
theorem d_RM_blockOf_25 : decode prog_6_method_37_code 25 = .ok (.if_icmp .lt 5, 3) := by decide +kernel
theorem d_RM_blockOf_28 : decode prog_6_method_37_code 28 = .ok (.iconst (-1), 1) := by decide +kernel
theorem d_RM_blockOf_29 : decode prog_6_method_37_code 29 = .ok (.ireturn, 1) := by decide +kernel
theorem d_RM_blockOf_30 : decode prog_6_method_37_code 30 = .ok (.iconst 0, 1) := by decide +kernel
theorem d_RM_blockOf_31 : decode prog_6_method_37_code 31 = .ok (.istore_n 2, 1) := by decide +kernel
theorem d_RM_blockOf_32 : decode prog_6_method_37_code 32 = .ok (.aload_n 0, 1) := by decide +kernel
theorem d_RM_blockOf_33 : decode prog_6_method_37_code 33 = .ok (.getfield 41, 3) := by decide +kernel
theorem d_RM_blockOf_36 : decode prog_6_method_37_code 36 = .ok (.iload_n 2, 1) := by decide +kernel
theorem d_RM_blockOf_37 : decode prog_6_method_37_code 37 = .ok (.iaload, 1) := by decide +kernel
theorem d_RM_blockOf_38 : decode prog_6_method_37_code 38 = .ok (.aload_n 0, 1) := by decide +kernel
theorem d_RM_blockOf_39 : decode prog_6_method_37_code 39 = .ok (.getfield 56, 3) := by decide +kernel
theorem d_RM_blockOf_42 : decode prog_6_method_37_code 42 = .ok (.iload_n 1, 1) := by decide +kernel
theorem d_RM_blockOf_43 : decode prog_6_method_37_code 43 = .ok (.iaload, 1) := by decide +kernel
theorem d_RM_blockOf_44 : decode prog_6_method_37_code 44 = .ok (.if_icmp .eq 9, 3) := by decide +kernel
theorem d_RM_blockOf_47 : decode prog_6_method_37_code 47 = .ok (.iinc 2 1, 3) := by decide +kernel
theorem d_RM_blockOf_50 : decode prog_6_method_37_code 50 = .ok (.goto (-18), 3) := by decide +kernel
theorem d_RM_blockOf_53 : decode prog_6_method_37_code 53 = .ok (.iload_n 2, 1) := by decide +kernel
theorem d_RM_blockOf_54 : decode prog_6_method_37_code 54 = .ok (.ireturn, 1) := by decide +kernel
theorem d_RM_candidates_0 : decode prog_6_method_38_code 0 = .ok (.aload_n 0, 1) := by decide +kernel
theorem d_RM_candidates_1 : decode prog_6_method_38_code 1 = .ok (.iconst 0, 1) := by decide +kernel
theorem d_RM_candidates_2 : decode prog_6_method_38_code 2 = .ok (.putfield 66, 3) := by decide +kernel
theorem d_RM_candidates_5 : decode prog_6_method_38_code 5 = .ok (.iconst 0, 1) := by decide +kernel
theorem d_RM_candidates_6 : decode prog_6_method_38_code 6 = .ok (.istore_n 1, 1) := by decide +kernel
theorem d_RM_candidates_7 : decode prog_6_method_38_code 7 = .ok (.iconst 0, 1) := by decide +kernel
theorem d_RM_candidates_8 : decode prog_6_method_38_code 8 = .ok (.istore_n 2, 1) := by decide +kernel
theorem d_RM_candidates_9 : decode prog_6_method_38_code 9 = .ok (.iload_n 2, 1) := by decide +kernel
theorem d_RM_candidates_10 : decode prog_6_method_38_code 10 = .ok (.aload_n 0, 1) := by decide +kernel
theorem d_RM_candidates_11 : decode prog_6_method_38_code 11 = .ok (.getfield 129, 3) := by decide +kernel
theorem d_RM_candidates_14 : decode prog_6_method_38_code 14 = .ok (.if_icmp .ge 26, 3) := by decide +kernel
theorem d_RM_candidates_17 : decode prog_6_method_38_code 17 = .ok (.iload_n 1, 1) := by decide +kernel
theorem d_RM_candidates_18 : decode prog_6_method_38_code 18 = .ok (.aload_n 0, 1) := by decide +kernel
theorem d_RM_candidates_19 : decode prog_6_method_38_code 19 = .ok (.getfield 34, 3) := by decide +kernel
theorem d_RM_candidates_22 : decode prog_6_method_38_code 22 = .ok (.iload_n 2, 1) := by decide +kernel
theorem d_RM_candidates_23 : decode prog_6_method_38_code 23 = .ok (.iaload, 1) := by decide +kernel
theorem d_RM_candidates_24 : decode prog_6_method_38_code 24 = .ok (.ifCond .le 7, 3) := by decide +kernel
theorem d_RM_candidates_27 : decode prog_6_method_38_code 27 = .ok (.iconst 1, 1) := by decide +kernel
theorem d_RM_candidates_28 : decode prog_6_method_38_code 28 = .ok (.goto 4, 3) := by decide +kernel
theorem d_RM_candidates_31 : decode prog_6_method_38_code 31 = .ok (.iconst 0, 1) := by decide +kernel
theorem d_RM_candidates_32 : decode prog_6_method_38_code 32 = .ok (.iadd, 1) := by decide +kernel
theorem d_RM_candidates_33 : decode prog_6_method_38_code 33 = .ok (.istore_n 1, 1) := by decide +kernel
theorem d_RM_candidates_34 : decode prog_6_method_38_code 34 = .ok (.iinc 2 1, 3) := by decide +kernel
theorem d_RM_candidates_37 : decode prog_6_method_38_code 37 = .ok (.goto (-28), 3) := by decide +kernel
theorem d_RM_candidates_40 : decode prog_6_method_38_code 40 = .ok (.iload_n 1, 1) := by decide +kernel
theorem d_RM_candidates_41 : decode prog_6_method_38_code 41 = .ok (.ireturn, 1) := by decide +kernel
theorem d_RM_clear_0 : decode prog_6_method_39_code 0 = .ok (.aload_n 0, 1) := by decide +kernel
theorem d_RM_clear_1 : decode prog_6_method_39_code 1 = .ok (.iconst 0, 1) := by decide +kernel
theorem d_RM_clear_2 : decode prog_6_method_39_code 2 = .ok (.putfield 66, 3) := by decide +kernel
theorem d_RM_clear_5 : decode prog_6_method_39_code 5 = .ok (.aload_n 0, 1) := by decide +kernel
theorem d_RM_clear_6 : decode prog_6_method_39_code 6 = .ok (.getfield 73, 3) := by decide +kernel
theorem d_RM_clear_9 : decode prog_6_method_39_code 9 = .ok (.istore_n 1, 1) := by decide +kernel
theorem d_RM_clear_10 : decode prog_6_method_39_code 10 = .ok (.aload_n 0, 1) := by decide +kernel
theorem d_RM_clear_11 : decode prog_6_method_39_code 11 = .ok (.iconst 0, 1) := by decide +kernel
theorem d_RM_clear_12 : decode prog_6_method_39_code 12 = .ok (.putfield 73, 3) := by decide +kernel
theorem d_RM_clear_15 : decode prog_6_method_39_code 15 = .ok (.aload_n 0, 1) := by decide +kernel
theorem d_RM_clear_16 : decode prog_6_method_39_code 16 = .ok (.iconst 0, 1) := by decide +kernel
theorem d_RM_clear_17 : decode prog_6_method_39_code 17 = .ok (.putfield 136, 3) := by decide +kernel
theorem d_RM_clear_20 : decode prog_6_method_39_code 20 = .ok (.iload_n 1, 1) := by decide +kernel
theorem d_RM_clear_21 : decode prog_6_method_39_code 21 = .ok (.ireturn, 1) := by decide +kernel
theorem d_LW_cell_0 : decode method_2_code 0 = .ok (.iload_n 1, 1) := by decide +kernel
theorem d_LW_cell_1 : decode method_2_code 1 = .ok (.aload_n 0, 1) := by decide +kernel
theorem d_LW_cell_2 : decode method_2_code 2 = .ok (.arraylength, 1) := by decide +kernel
theorem d_LW_cell_3 : decode method_2_code 3 = .ok (.if_icmp .ge 9, 3) := by decide +kernel
theorem d_LW_cell_6 : decode method_2_code 6 = .ok (.aload_n 0, 1) := by decide +kernel
theorem d_LW_cell_7 : decode method_2_code 7 = .ok (.iload_n 1, 1) := by decide +kernel
theorem d_LW_cell_8 : decode method_2_code 8 = .ok (.iaload, 1) := by decide +kernel
theorem d_LW_cell_9 : decode method_2_code 9 = .ok (.goto 4, 3) := by decide +kernel
theorem d_LW_cell_12 : decode method_2_code 12 = .ok (.iconst 0, 1) := by decide +kernel
theorem d_LW_cell_13 : decode method_2_code 13 = .ok (.ireturn, 1) := by decide +kernel
theorem d_LW_law_0 : decode code 0 = .ok (.new 7, 3) := by decide +kernel
theorem d_LW_law_3 : decode code 3 = .ok (.dup, 1) := by decide +kernel
theorem d_LW_law_4 : decode code 4 = .ok (.aload_n 0, 1) := by decide +kernel
theorem d_LW_law_5 : decode code 5 = .ok (.iconst 0, 1) := by decide +kernel
theorem d_LW_law_6 : decode code 6 = .ok (.invokestatic 9, 3) := by decide +kernel
theorem d_LW_law_9 : decode code 9 = .ok (.aload_n 0, 1) := by decide +kernel
theorem d_LW_law_10 : decode code 10 = .ok (.iconst 1, 1) := by decide +kernel
theorem d_LW_law_11 : decode code 11 = .ok (.invokestatic 9, 3) := by decide +kernel
theorem d_LW_law_14 : decode code 14 = .ok (.invokespecial 15, 3) := by decide +kernel
theorem d_LW_law_17 : decode code 17 = .ok (.astore_n 1, 1) := by decide +kernel
theorem d_LW_law_18 : decode code 18 = .ok (.new 18, 3) := by decide +kernel
theorem d_LW_law_21 : decode code 21 = .ok (.dup, 1) := by decide +kernel
theorem d_LW_law_22 : decode code 22 = .ok (.aload_n 0, 1) := by decide +kernel
theorem d_LW_law_23 : decode code 23 = .ok (.iconst 0, 1) := by decide +kernel
theorem d_LW_law_24 : decode code 24 = .ok (.invokestatic 9, 3) := by decide +kernel
theorem d_LW_law_27 : decode code 27 = .ok (.aload_n 0, 1) := by decide +kernel
theorem d_LW_law_28 : decode code 28 = .ok (.iconst 1, 1) := by decide +kernel
theorem d_LW_law_29 : decode code 29 = .ok (.invokestatic 9, 3) := by decide +kernel
theorem d_LW_law_32 : decode code 32 = .ok (.invokespecial 20, 3) := by decide +kernel
theorem d_LW_law_35 : decode code 35 = .ok (.astore_n 2, 1) := by decide +kernel
theorem d_LW_law_36 : decode code 36 = .ok (.iconst 2, 1) := by decide +kernel
theorem d_LW_law_37 : decode code 37 = .ok (.istore_n 3, 1) := by decide +kernel
theorem d_LW_law_38 : decode code 38 = .ok (.iload_n 3, 1) := by decide +kernel
theorem d_LW_law_39 : decode code 39 = .ok (.aload_n 0, 1) := by decide +kernel
theorem d_LW_law_40 : decode code 40 = .ok (.arraylength, 1) := by decide +kernel
theorem d_LW_law_41 : decode code 41 = .ok (.iconst 5, 1) := by decide +kernel
theorem d_LW_law_42 : decode code 42 = .ok (.isub, 1) := by decide +kernel
theorem d_LW_law_43 : decode code 43 = .ok (.if_icmp .gt 378, 3) := by decide +kernel
theorem d_LW_law_46 : decode code 46 = .ok (.aload_n 0, 1) := by decide +kernel
theorem d_LW_law_47 : decode code 47 = .ok (.iload_n 3, 1) := by decide +kernel
theorem d_LW_law_48 : decode code 48 = .ok (.iaload, 1) := by decide +kernel
theorem d_LW_law_49 : decode code 49 = .ok (.bipush 15, 2) := by decide +kernel
theorem d_LW_law_51 : decode code 51 = .ok (.iand, 1) := by decide +kernel
theorem d_LW_law_52 : decode code 52 = .ok (.tableswitch 363 0 10 #[60, 113, 166, 179, 212, 255, 278, 301, 314, 337, 350], 60) := by decide +kernel
theorem d_LW_law_112 : decode code 112 = .ok (.aload_n 1, 1) := by decide +kernel
theorem d_LW_law_113 : decode code 113 = .ok (.aload_n 0, 1) := by decide +kernel
theorem d_LW_law_114 : decode code 114 = .ok (.iload_n 3, 1) := by decide +kernel
theorem d_LW_law_115 : decode code 115 = .ok (.iconst 1, 1) := by decide +kernel
theorem d_LW_law_116 : decode code 116 = .ok (.iadd, 1) := by decide +kernel
theorem d_LW_law_117 : decode code 117 = .ok (.iaload, 1) := by decide +kernel
theorem d_LW_law_118 : decode code 118 = .ok (.aload_n 0, 1) := by decide +kernel
theorem d_LW_law_119 : decode code 119 = .ok (.iload_n 3, 1) := by decide +kernel
theorem d_LW_law_120 : decode code 120 = .ok (.iconst 2, 1) := by decide +kernel
theorem d_LW_law_121 : decode code 121 = .ok (.iadd, 1) := by decide +kernel
theorem d_LW_law_122 : decode code 122 = .ok (.iaload, 1) := by decide +kernel
theorem d_LW_law_123 : decode code 123 = .ok (.aload_n 0, 1) := by decide +kernel
theorem d_LW_law_124 : decode code 124 = .ok (.iload_n 3, 1) := by decide +kernel
theorem d_LW_law_125 : decode code 125 = .ok (.iconst 3, 1) := by decide +kernel
theorem d_LW_law_126 : decode code 126 = .ok (.iadd, 1) := by decide +kernel
theorem d_LW_law_127 : decode code 127 = .ok (.iaload, 1) := by decide +kernel
theorem d_LW_law_128 : decode code 128 = .ok (.aload_n 0, 1) := by decide +kernel
theorem d_LW_law_129 : decode code 129 = .ok (.iload_n 3, 1) := by decide +kernel
theorem d_LW_law_130 : decode code 130 = .ok (.iconst 4, 1) := by decide +kernel
theorem d_LW_law_131 : decode code 131 = .ok (.iadd, 1) := by decide +kernel
theorem d_LW_law_132 : decode code 132 = .ok (.iaload, 1) := by decide +kernel
theorem d_LW_law_133 : decode code 133 = .ok (.invokevirtual 21, 3) := by decide +kernel
theorem d_LW_law_136 : decode code 136 = .ok (.aload_n 2, 1) := by decide +kernel
theorem d_LW_law_137 : decode code 137 = .ok (.aload_n 0, 1) := by decide +kernel
theorem d_LW_law_138 : decode code 138 = .ok (.iload_n 3, 1) := by decide +kernel
theorem d_LW_law_139 : decode code 139 = .ok (.iconst 1, 1) := by decide +kernel
theorem d_LW_law_140 : decode code 140 = .ok (.iadd, 1) := by decide +kernel
theorem d_LW_law_141 : decode code 141 = .ok (.iaload, 1) := by decide +kernel
theorem d_LW_law_142 : decode code 142 = .ok (.aload_n 0, 1) := by decide +kernel
theorem d_LW_law_143 : decode code 143 = .ok (.iload_n 3, 1) := by decide +kernel
theorem d_LW_law_144 : decode code 144 = .ok (.iconst 2, 1) := by decide +kernel
theorem d_LW_law_145 : decode code 145 = .ok (.iadd, 1) := by decide +kernel
theorem d_LW_law_146 : decode code 146 = .ok (.iaload, 1) := by decide +kernel
theorem d_LW_law_147 : decode code 147 = .ok (.aload_n 0, 1) := by decide +kernel
theorem d_LW_law_148 : decode code 148 = .ok (.iload_n 3, 1) := by decide +kernel
theorem d_LW_law_149 : decode code 149 = .ok (.iconst 3, 1) := by decide +kernel
theorem d_LW_law_150 : decode code 150 = .ok (.iadd, 1) := by decide +kernel
theorem d_LW_law_151 : decode code 151 = .ok (.iaload, 1) := by decide +kernel
theorem d_LW_law_152 : decode code 152 = .ok (.aload_n 0, 1) := by decide +kernel
theorem d_LW_law_153 : decode code 153 = .ok (.iload_n 3, 1) := by decide +kernel
theorem d_LW_law_154 : decode code 154 = .ok (.iconst 4, 1) := by decide +kernel
theorem d_LW_law_155 : decode code 155 = .ok (.iadd, 1) := by decide +kernel
theorem d_LW_law_156 : decode code 156 = .ok (.iaload, 1) := by decide +kernel
theorem d_LW_law_157 : decode code 157 = .ok (.invokevirtual 25, 3) := by decide +kernel
theorem d_LW_law_160 : decode code 160 = .ok (.if_icmp .eq 255, 3) := by decide +kernel
theorem d_LW_law_163 : decode code 163 = .ok (.iconst 0, 1) := by decide +kernel
theorem d_LW_law_164 : decode code 164 = .ok (.ireturn, 1) := by decide +kernel
theorem d_LW_law_165 : decode code 165 = .ok (.aload_n 1, 1) := by decide +kernel
theorem d_LW_law_166 : decode code 166 = .ok (.aload_n 0, 1) := by decide +kernel
theorem d_LW_law_167 : decode code 167 = .ok (.iload_n 3, 1) := by decide +kernel
theorem d_LW_law_168 : decode code 168 = .ok (.iconst 1, 1) := by decide +kernel
theorem d_LW_law_169 : decode code 169 = .ok (.iadd, 1) := by decide +kernel
theorem d_LW_law_170 : decode code 170 = .ok (.iaload, 1) := by decide +kernel
theorem d_LW_law_171 : decode code 171 = .ok (.aload_n 0, 1) := by decide +kernel
theorem d_LW_law_172 : decode code 172 = .ok (.iload_n 3, 1) := by decide +kernel
theorem d_LW_law_173 : decode code 173 = .ok (.iconst 2, 1) := by decide +kernel
theorem d_LW_law_174 : decode code 174 = .ok (.iadd, 1) := by decide +kernel
theorem d_LW_law_175 : decode code 175 = .ok (.iaload, 1) := by decide +kernel
theorem d_LW_law_176 : decode code 176 = .ok (.aload_n 0, 1) := by decide +kernel
theorem d_LW_law_177 : decode code 177 = .ok (.iload_n 3, 1) := by decide +kernel
theorem d_LW_law_178 : decode code 178 = .ok (.iconst 3, 1) := by decide +kernel
theorem d_LW_law_179 : decode code 179 = .ok (.iadd, 1) := by decide +kernel
theorem d_LW_law_180 : decode code 180 = .ok (.iaload, 1) := by decide +kernel
theorem d_LW_law_181 : decode code 181 = .ok (.aload_n 0, 1) := by decide +kernel
theorem d_LW_law_182 : decode code 182 = .ok (.iload_n 3, 1) := by decide +kernel
theorem d_LW_law_183 : decode code 183 = .ok (.iconst 4, 1) := by decide +kernel
theorem d_LW_law_184 : decode code 184 = .ok (.iadd, 1) := by decide +kernel
theorem d_LW_law_185 : decode code 185 = .ok (.iaload, 1) := by decide +kernel
theorem d_LW_law_186 : decode code 186 = .ok (.invokevirtual 26, 3) := by decide +kernel
theorem d_LW_law_189 : decode code 189 = .ok (.aload_n 2, 1) := by decide +kernel
theorem d_LW_law_190 : decode code 190 = .ok (.aload_n 0, 1) := by decide +kernel
theorem d_LW_law_191 : decode code 191 = .ok (.iload_n 3, 1) := by decide +kernel
theorem d_LW_law_192 : decode code 192 = .ok (.iconst 1, 1) := by decide +kernel
theorem d_LW_law_193 : decode code 193 = .ok (.iadd, 1) := by decide +kernel
theorem d_LW_law_194 : decode code 194 = .ok (.iaload, 1) := by decide +kernel
theorem d_LW_law_195 : decode code 195 = .ok (.aload_n 0, 1) := by decide +kernel
theorem d_LW_law_196 : decode code 196 = .ok (.iload_n 3, 1) := by decide +kernel
theorem d_LW_law_197 : decode code 197 = .ok (.iconst 2, 1) := by decide +kernel
theorem d_LW_law_198 : decode code 198 = .ok (.iadd, 1) := by decide +kernel
theorem d_LW_law_199 : decode code 199 = .ok (.iaload, 1) := by decide +kernel
theorem d_LW_law_200 : decode code 200 = .ok (.aload_n 0, 1) := by decide +kernel
theorem d_LW_law_201 : decode code 201 = .ok (.iload_n 3, 1) := by decide +kernel
theorem d_LW_law_202 : decode code 202 = .ok (.iconst 3, 1) := by decide +kernel
theorem d_LW_law_203 : decode code 203 = .ok (.iadd, 1) := by decide +kernel
theorem d_LW_law_204 : decode code 204 = .ok (.iaload, 1) := by decide +kernel
theorem d_LW_law_205 : decode code 205 = .ok (.aload_n 0, 1) := by decide +kernel
theorem d_LW_law_206 : decode code 206 = .ok (.iload_n 3, 1) := by decide +kernel
theorem d_LW_law_207 : decode code 207 = .ok (.iconst 4, 1) := by decide +kernel
theorem d_LW_law_208 : decode code 208 = .ok (.iadd, 1) := by decide +kernel
theorem d_LW_law_209 : decode code 209 = .ok (.iaload, 1) := by decide +kernel
theorem d_LW_law_210 : decode code 210 = .ok (.invokevirtual 29, 3) := by decide +kernel
theorem d_LW_law_213 : decode code 213 = .ok (.if_icmp .eq 202, 3) := by decide +kernel
theorem d_LW_law_216 : decode code 216 = .ok (.iconst 0, 1) := by decide +kernel
theorem d_LW_law_217 : decode code 217 = .ok (.ireturn, 1) := by decide +kernel
theorem d_LW_law_218 : decode code 218 = .ok (.aload_n 1, 1) := by decide +kernel
theorem d_LW_law_219 : decode code 219 = .ok (.invokevirtual 30, 3) := by decide +kernel
theorem d_LW_law_222 : decode code 222 = .ok (.aload_n 2, 1) := by decide +kernel
theorem d_LW_law_223 : decode code 223 = .ok (.invokevirtual 34, 3) := by decide +kernel
theorem d_LW_law_226 : decode code 226 = .ok (.if_icmp .eq 189, 3) := by decide +kernel
theorem d_LW_law_229 : decode code 229 = .ok (.iconst 0, 1) := by decide +kernel
theorem d_LW_law_230 : decode code 230 = .ok (.ireturn, 1) := by decide +kernel
theorem d_LW_law_231 : decode code 231 = .ok (.aload_n 1, 1) := by decide +kernel
theorem d_LW_law_232 : decode code 232 = .ok (.aload_n 0, 1) := by decide +kernel
theorem d_LW_law_233 : decode code 233 = .ok (.iload_n 3, 1) := by decide +kernel
theorem d_LW_law_234 : decode code 234 = .ok (.iconst 1, 1) := by decide +kernel
theorem d_LW_law_235 : decode code 235 = .ok (.iadd, 1) := by decide +kernel
theorem d_LW_law_236 : decode code 236 = .ok (.iaload, 1) := by decide +kernel
theorem d_LW_law_237 : decode code 237 = .ok (.aload_n 0, 1) := by decide +kernel
theorem d_LW_law_238 : decode code 238 = .ok (.iload_n 3, 1) := by decide +kernel
theorem d_LW_law_239 : decode code 239 = .ok (.iconst 2, 1) := by decide +kernel
theorem d_LW_law_240 : decode code 240 = .ok (.iadd, 1) := by decide +kernel
theorem d_LW_law_241 : decode code 241 = .ok (.iaload, 1) := by decide +kernel
theorem d_LW_law_242 : decode code 242 = .ok (.invokevirtual 35, 3) := by decide +kernel
theorem d_LW_law_245 : decode code 245 = .ok (.aload_n 2, 1) := by decide +kernel
theorem d_LW_law_246 : decode code 246 = .ok (.aload_n 0, 1) := by decide +kernel
theorem d_LW_law_247 : decode code 247 = .ok (.iload_n 3, 1) := by decide +kernel
theorem d_LW_law_248 : decode code 248 = .ok (.iconst 1, 1) := by decide +kernel
theorem d_LW_law_249 : decode code 249 = .ok (.iadd, 1) := by decide +kernel
theorem d_LW_law_250 : decode code 250 = .ok (.iaload, 1) := by decide +kernel
theorem d_LW_law_251 : decode code 251 = .ok (.aload_n 0, 1) := by decide +kernel
theorem d_LW_law_252 : decode code 252 = .ok (.iload_n 3, 1) := by decide +kernel
theorem d_LW_law_253 : decode code 253 = .ok (.iconst 2, 1) := by decide +kernel
theorem d_LW_law_254 : decode code 254 = .ok (.iadd, 1) := by decide +kernel
theorem d_LW_law_255 : decode code 255 = .ok (.iaload, 1) := by decide +kernel
theorem d_LW_law_256 : decode code 256 = .ok (.invokevirtual 39, 3) := by decide +kernel
theorem d_LW_law_259 : decode code 259 = .ok (.if_icmp .eq 156, 3) := by decide +kernel
theorem d_LW_law_262 : decode code 262 = .ok (.iconst 0, 1) := by decide +kernel
theorem d_LW_law_263 : decode code 263 = .ok (.ireturn, 1) := by decide +kernel
theorem d_LW_law_264 : decode code 264 = .ok (.aload_n 1, 1) := by decide +kernel
theorem d_LW_law_265 : decode code 265 = .ok (.aload_n 0, 1) := by decide +kernel
theorem d_LW_law_266 : decode code 266 = .ok (.iload_n 3, 1) := by decide +kernel
theorem d_LW_law_267 : decode code 267 = .ok (.iconst 1, 1) := by decide +kernel
theorem d_LW_law_268 : decode code 268 = .ok (.iadd, 1) := by decide +kernel
theorem d_LW_law_269 : decode code 269 = .ok (.iaload, 1) := by decide +kernel
theorem d_LW_law_270 : decode code 270 = .ok (.aload_n 0, 1) := by decide +kernel
theorem d_LW_law_271 : decode code 271 = .ok (.iload_n 3, 1) := by decide +kernel
theorem d_LW_law_272 : decode code 272 = .ok (.iconst 2, 1) := by decide +kernel
theorem d_LW_law_273 : decode code 273 = .ok (.iadd, 1) := by decide +kernel
theorem d_LW_law_274 : decode code 274 = .ok (.iaload, 1) := by decide +kernel
theorem d_LW_law_275 : decode code 275 = .ok (.aload_n 0, 1) := by decide +kernel
theorem d_LW_law_276 : decode code 276 = .ok (.iload_n 3, 1) := by decide +kernel
theorem d_LW_law_277 : decode code 277 = .ok (.iconst 3, 1) := by decide +kernel
theorem d_LW_law_278 : decode code 278 = .ok (.iadd, 1) := by decide +kernel
theorem d_LW_law_279 : decode code 279 = .ok (.iaload, 1) := by decide +kernel
theorem d_LW_law_280 : decode code 280 = .ok (.invokevirtual 40, 3) := by decide +kernel
theorem d_LW_law_283 : decode code 283 = .ok (.aload_n 2, 1) := by decide +kernel
theorem d_LW_law_284 : decode code 284 = .ok (.aload_n 0, 1) := by decide +kernel
theorem d_LW_law_285 : decode code 285 = .ok (.iload_n 3, 1) := by decide +kernel
theorem d_LW_law_286 : decode code 286 = .ok (.iconst 1, 1) := by decide +kernel
theorem d_LW_law_287 : decode code 287 = .ok (.iadd, 1) := by decide +kernel
theorem d_LW_law_288 : decode code 288 = .ok (.iaload, 1) := by decide +kernel
theorem d_LW_law_289 : decode code 289 = .ok (.aload_n 0, 1) := by decide +kernel
theorem d_LW_law_290 : decode code 290 = .ok (.iload_n 3, 1) := by decide +kernel
theorem d_LW_law_291 : decode code 291 = .ok (.iconst 2, 1) := by decide +kernel
theorem d_LW_law_292 : decode code 292 = .ok (.iadd, 1) := by decide +kernel
theorem d_LW_law_293 : decode code 293 = .ok (.iaload, 1) := by decide +kernel
theorem d_LW_law_294 : decode code 294 = .ok (.aload_n 0, 1) := by decide +kernel
theorem d_LW_law_295 : decode code 295 = .ok (.iload_n 3, 1) := by decide +kernel
theorem d_LW_law_296 : decode code 296 = .ok (.iconst 3, 1) := by decide +kernel
theorem d_LW_law_297 : decode code 297 = .ok (.iadd, 1) := by decide +kernel
theorem d_LW_law_298 : decode code 298 = .ok (.iaload, 1) := by decide +kernel
theorem d_LW_law_299 : decode code 299 = .ok (.invokevirtual 44, 3) := by decide +kernel
theorem d_LW_law_302 : decode code 302 = .ok (.if_icmp .eq 113, 3) := by decide +kernel
theorem d_LW_law_305 : decode code 305 = .ok (.iconst 0, 1) := by decide +kernel
theorem d_LW_law_306 : decode code 306 = .ok (.ireturn, 1) := by decide +kernel
theorem d_LW_law_307 : decode code 307 = .ok (.aload_n 1, 1) := by decide +kernel
theorem d_LW_law_308 : decode code 308 = .ok (.aload_n 0, 1) := by decide +kernel
theorem d_LW_law_309 : decode code 309 = .ok (.iload_n 3, 1) := by decide +kernel
theorem d_LW_law_310 : decode code 310 = .ok (.iconst 1, 1) := by decide +kernel
theorem d_LW_law_311 : decode code 311 = .ok (.iadd, 1) := by decide +kernel
theorem d_LW_law_312 : decode code 312 = .ok (.iaload, 1) := by decide +kernel
theorem d_LW_law_313 : decode code 313 = .ok (.invokevirtual 45, 3) := by decide +kernel
theorem d_LW_law_316 : decode code 316 = .ok (.aload_n 2, 1) := by decide +kernel
theorem d_LW_law_317 : decode code 317 = .ok (.aload_n 0, 1) := by decide +kernel
theorem d_LW_law_318 : decode code 318 = .ok (.iload_n 3, 1) := by decide +kernel
theorem d_LW_law_319 : decode code 319 = .ok (.iconst 1, 1) := by decide +kernel
theorem d_LW_law_320 : decode code 320 = .ok (.iadd, 1) := by decide +kernel
theorem d_LW_law_321 : decode code 321 = .ok (.iaload, 1) := by decide +kernel
theorem d_LW_law_322 : decode code 322 = .ok (.invokevirtual 49, 3) := by decide +kernel
theorem d_LW_law_325 : decode code 325 = .ok (.if_icmp .eq 90, 3) := by decide +kernel
theorem d_LW_law_328 : decode code 328 = .ok (.iconst 0, 1) := by decide +kernel
theorem d_LW_law_329 : decode code 329 = .ok (.ireturn, 1) := by decide +kernel
theorem d_LW_law_330 : decode code 330 = .ok (.aload_n 1, 1) := by decide +kernel
theorem d_LW_law_331 : decode code 331 = .ok (.aload_n 0, 1) := by decide +kernel
theorem d_LW_law_332 : decode code 332 = .ok (.iload_n 3, 1) := by decide +kernel
theorem d_LW_law_333 : decode code 333 = .ok (.iconst 1, 1) := by decide +kernel
theorem d_LW_law_334 : decode code 334 = .ok (.iadd, 1) := by decide +kernel
theorem d_LW_law_335 : decode code 335 = .ok (.iaload, 1) := by decide +kernel
theorem d_LW_law_336 : decode code 336 = .ok (.invokevirtual 50, 3) := by decide +kernel
theorem d_LW_law_339 : decode code 339 = .ok (.aload_n 2, 1) := by decide +kernel
theorem d_LW_law_340 : decode code 340 = .ok (.aload_n 0, 1) := by decide +kernel
theorem d_LW_law_341 : decode code 341 = .ok (.iload_n 3, 1) := by decide +kernel
theorem d_LW_law_342 : decode code 342 = .ok (.iconst 1, 1) := by decide +kernel
theorem d_LW_law_343 : decode code 343 = .ok (.iadd, 1) := by decide +kernel
theorem d_LW_law_344 : decode code 344 = .ok (.iaload, 1) := by decide +kernel
theorem d_LW_law_345 : decode code 345 = .ok (.invokevirtual 54, 3) := by decide +kernel
theorem d_LW_law_348 : decode code 348 = .ok (.if_icmp .eq 67, 3) := by decide +kernel
theorem d_LW_law_351 : decode code 351 = .ok (.iconst 0, 1) := by decide +kernel
theorem d_LW_law_352 : decode code 352 = .ok (.ireturn, 1) := by decide +kernel
theorem d_LW_law_353 : decode code 353 = .ok (.aload_n 1, 1) := by decide +kernel
theorem d_LW_law_354 : decode code 354 = .ok (.invokevirtual 55, 3) := by decide +kernel
theorem d_LW_law_357 : decode code 357 = .ok (.aload_n 2, 1) := by decide +kernel
theorem d_LW_law_358 : decode code 358 = .ok (.invokevirtual 59, 3) := by decide +kernel
theorem d_LW_law_361 : decode code 361 = .ok (.if_icmp .eq 54, 3) := by decide +kernel
theorem d_LW_law_364 : decode code 364 = .ok (.iconst 0, 1) := by decide +kernel
theorem d_LW_law_365 : decode code 365 = .ok (.ireturn, 1) := by decide +kernel
theorem d_LW_law_366 : decode code 366 = .ok (.aload_n 1, 1) := by decide +kernel
theorem d_LW_law_367 : decode code 367 = .ok (.aload_n 0, 1) := by decide +kernel
theorem d_LW_law_368 : decode code 368 = .ok (.iload_n 3, 1) := by decide +kernel
theorem d_LW_law_369 : decode code 369 = .ok (.iconst 1, 1) := by decide +kernel
theorem d_LW_law_370 : decode code 370 = .ok (.iadd, 1) := by decide +kernel
theorem d_LW_law_371 : decode code 371 = .ok (.iaload, 1) := by decide +kernel
theorem d_LW_law_372 : decode code 372 = .ok (.invokevirtual 60, 3) := by decide +kernel
theorem d_LW_law_375 : decode code 375 = .ok (.aload_n 2, 1) := by decide +kernel
theorem d_LW_law_376 : decode code 376 = .ok (.aload_n 0, 1) := by decide +kernel
theorem d_LW_law_377 : decode code 377 = .ok (.iload_n 3, 1) := by decide +kernel
theorem d_LW_law_378 : decode code 378 = .ok (.iconst 1, 1) := by decide +kernel
theorem d_LW_law_379 : decode code 379 = .ok (.iadd, 1) := by decide +kernel
theorem d_LW_law_380 : decode code 380 = .ok (.iaload, 1) := by decide +kernel
theorem d_LW_law_381 : decode code 381 = .ok (.invokevirtual 63, 3) := by decide +kernel
theorem d_LW_law_384 : decode code 384 = .ok (.if_icmp .eq 31, 3) := by decide +kernel
theorem d_LW_law_387 : decode code 387 = .ok (.iconst 0, 1) := by decide +kernel
theorem d_LW_law_388 : decode code 388 = .ok (.ireturn, 1) := by decide +kernel
theorem d_LW_law_389 : decode code 389 = .ok (.aload_n 1, 1) := by decide +kernel
theorem d_LW_law_390 : decode code 390 = .ok (.invokevirtual 64, 3) := by decide +kernel
theorem d_LW_law_393 : decode code 393 = .ok (.aload_n 2, 1) := by decide +kernel
theorem d_LW_law_394 : decode code 394 = .ok (.invokevirtual 67, 3) := by decide +kernel
theorem d_LW_law_397 : decode code 397 = .ok (.if_icmp .eq 18, 3) := by decide +kernel
theorem d_LW_law_400 : decode code 400 = .ok (.iconst 0, 1) := by decide +kernel
theorem d_LW_law_401 : decode code 401 = .ok (.ireturn, 1) := by decide +kernel
theorem d_LW_law_402 : decode code 402 = .ok (.aload_n 1, 1) := by decide +kernel
theorem d_LW_law_403 : decode code 403 = .ok (.invokevirtual 68, 3) := by decide +kernel
theorem d_LW_law_406 : decode code 406 = .ok (.aload_n 2, 1) := by decide +kernel
theorem d_LW_law_407 : decode code 407 = .ok (.invokevirtual 71, 3) := by decide +kernel
theorem d_LW_law_410 : decode code 410 = .ok (.if_icmp .eq 5, 3) := by decide +kernel
theorem d_LW_law_413 : decode code 413 = .ok (.iconst 0, 1) := by decide +kernel
theorem d_LW_law_414 : decode code 414 = .ok (.ireturn, 1) := by decide +kernel
theorem d_LW_law_415 : decode code 415 = .ok (.iinc 3 5, 3) := by decide +kernel
theorem d_LW_law_418 : decode code 418 = .ok (.goto (-380), 3) := by decide +kernel
theorem d_LW_law_421 : decode code 421 = .ok (.iconst 1, 1) := by decide +kernel
theorem d_LW_law_422 : decode code 422 = .ok (.ireturn, 1) := by decide +kernel
