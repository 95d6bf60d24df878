theorem d_MD_salt_0 : decode b_MD_salt 0 = .ok (.aload_n 0, 1) := by decide +kernel
theorem d_MD_salt_1 : decode b_MD_salt 1 = .ok (.invokevirtual 164, 3) := by decide +kernel
theorem d_MD_salt_4 : decode b_MD_salt 4 = .ok (.istore_n 1, 1) := by decide +kernel
theorem d_MD_salt_5 : decode b_MD_salt 5 = .ok (.aload_n 0, 1) := by decide +kernel
theorem d_MD_salt_6 : decode b_MD_salt 6 = .ok (.iload_n 1, 1) := by decide +kernel
theorem d_MD_salt_7 : decode b_MD_salt 7 = .ok (.bipush 16, 2) := by decide +kernel
theorem d_MD_salt_9 : decode b_MD_salt 9 = .ok (.if_icmp .le 7, 3) := by decide +kernel
theorem d_MD_salt_12 : decode b_MD_salt 12 = .ok (.iconst 1, 1) := by decide +kernel
theorem d_MD_salt_13 : decode b_MD_salt 13 = .ok (.goto 4, 3) := by decide +kernel
theorem d_MD_salt_16 : decode b_MD_salt 16 = .ok (.iconst 0, 1) := by decide +kernel
theorem d_MD_salt_17 : decode b_MD_salt 17 = .ok (.iconst 0, 1) := by decide +kernel
theorem d_MD_salt_18 : decode b_MD_salt 18 = .ok (.invokevirtual 178, 3) := by decide +kernel
theorem d_MD_salt_21 : decode b_MD_salt 21 = .ok (.ifCond .eq 4, 3) := by decide +kernel
theorem d_MD_salt_24 : decode b_MD_salt 24 = .ok (.return_, 1) := by decide +kernel
theorem d_MD_salt_25 : decode b_MD_salt 25 = .ok (.aload_n 0, 1) := by decide +kernel
theorem d_MD_salt_26 : decode b_MD_salt 26 = .ok (.iload_n 1, 1) := by decide +kernel
theorem d_MD_salt_27 : decode b_MD_salt 27 = .ok (.putfield 186, 3) := by decide +kernel
theorem d_MD_salt_30 : decode b_MD_salt 30 = .ok (.iconst 0, 1) := by decide +kernel
theorem d_MD_salt_31 : decode b_MD_salt 31 = .ok (.istore_n 2, 1) := by decide +kernel
theorem d_MD_salt_32 : decode b_MD_salt 32 = .ok (.iload_n 2, 1) := by decide +kernel
theorem d_MD_salt_33 : decode b_MD_salt 33 = .ok (.iload_n 1, 1) := by decide +kernel
theorem d_MD_salt_34 : decode b_MD_salt 34 = .ok (.if_icmp .ge 21, 3) := by decide +kernel
theorem d_MD_salt_37 : decode b_MD_salt 37 = .ok (.aload_n 0, 1) := by decide +kernel
theorem d_MD_salt_38 : decode b_MD_salt 38 = .ok (.getfield 115, 3) := by decide +kernel
theorem d_MD_salt_41 : decode b_MD_salt 41 = .ok (.iload_n 2, 1) := by decide +kernel
theorem d_MD_salt_42 : decode b_MD_salt 42 = .ok (.aload_n 0, 1) := by decide +kernel
theorem d_MD_salt_43 : decode b_MD_salt 43 = .ok (.getfield 85, 3) := by decide +kernel
theorem d_MD_salt_46 : decode b_MD_salt 46 = .ok (.iload_n 2, 1) := by decide +kernel
theorem d_MD_salt_47 : decode b_MD_salt 47 = .ok (.iaload, 1) := by decide +kernel
theorem d_MD_salt_48 : decode b_MD_salt 48 = .ok (.iastore, 1) := by decide +kernel
theorem d_MD_salt_49 : decode b_MD_salt 49 = .ok (.iinc 2 1, 3) := by decide +kernel
theorem d_MD_salt_52 : decode b_MD_salt 52 = .ok (.goto (-20), 3) := by decide +kernel
theorem d_MD_salt_55 : decode b_MD_salt 55 = .ok (.return_, 1) := by decide +kernel
theorem d_MD_allow_0 : decode b_MD_allow 0 = .ok (.aload_n 0, 1) := by decide +kernel
theorem d_MD_allow_1 : decode b_MD_allow 1 = .ok (.invokevirtual 164, 3) := by decide +kernel
theorem d_MD_allow_4 : decode b_MD_allow 4 = .ok (.istore_n 1, 1) := by decide +kernel
theorem d_MD_allow_5 : decode b_MD_allow 5 = .ok (.aload_n 0, 1) := by decide +kernel
theorem d_MD_allow_6 : decode b_MD_allow 6 = .ok (.iload_n 1, 1) := by decide +kernel
theorem d_MD_allow_7 : decode b_MD_allow 7 = .ok (.invokevirtual 157, 3) := by decide +kernel
theorem d_MD_allow_10 : decode b_MD_allow 10 = .ok (.ifCond .ne 7, 3) := by decide +kernel
theorem d_MD_allow_13 : decode b_MD_allow 13 = .ok (.iconst 1, 1) := by decide +kernel
theorem d_MD_allow_14 : decode b_MD_allow 14 = .ok (.goto 4, 3) := by decide +kernel
theorem d_MD_allow_17 : decode b_MD_allow 17 = .ok (.iconst 0, 1) := by decide +kernel
theorem d_MD_allow_18 : decode b_MD_allow 18 = .ok (.istore_n 2, 1) := by decide +kernel
theorem d_MD_allow_19 : decode b_MD_allow 19 = .ok (.iconst 0, 1) := by decide +kernel
theorem d_MD_allow_20 : decode b_MD_allow 20 = .ok (.istore_n 3, 1) := by decide +kernel
theorem d_MD_allow_21 : decode b_MD_allow 21 = .ok (.iconst 0, 1) := by decide +kernel
theorem d_MD_allow_22 : decode b_MD_allow 22 = .ok (.istore 4, 2) := by decide +kernel
theorem d_MD_allow_24 : decode b_MD_allow 24 = .ok (.iload 4, 2) := by decide +kernel
theorem d_MD_allow_26 : decode b_MD_allow 26 = .ok (.aload_n 0, 1) := by decide +kernel
theorem d_MD_allow_27 : decode b_MD_allow 27 = .ok (.getfield 183, 3) := by decide +kernel
theorem d_MD_allow_30 : decode b_MD_allow 30 = .ok (.if_icmp .ge 96, 3) := by decide +kernel
theorem d_MD_allow_33 : decode b_MD_allow 33 = .ok (.iload_n 2, 1) := by decide +kernel
theorem d_MD_allow_34 : decode b_MD_allow 34 = .ok (.ifCond .ne 92, 3) := by decide +kernel
theorem d_MD_allow_37 : decode b_MD_allow 37 = .ok (.aload_n 0, 1) := by decide +kernel
theorem d_MD_allow_38 : decode b_MD_allow 38 = .ok (.getfield 112, 3) := by decide +kernel
theorem d_MD_allow_41 : decode b_MD_allow 41 = .ok (.iload 4, 2) := by decide +kernel
theorem d_MD_allow_43 : decode b_MD_allow 43 = .ok (.iaload, 1) := by decide +kernel
theorem d_MD_allow_44 : decode b_MD_allow 44 = .ok (.iload_n 1, 1) := by decide +kernel
theorem d_MD_allow_45 : decode b_MD_allow 45 = .ok (.if_icmp .ne 7, 3) := by decide +kernel
theorem d_MD_allow_48 : decode b_MD_allow 48 = .ok (.iconst 1, 1) := by decide +kernel
theorem d_MD_allow_49 : decode b_MD_allow 49 = .ok (.goto 4, 3) := by decide +kernel
theorem d_MD_allow_52 : decode b_MD_allow 52 = .ok (.iconst 0, 1) := by decide +kernel
theorem d_MD_allow_53 : decode b_MD_allow 53 = .ok (.istore 5, 2) := by decide +kernel
theorem d_MD_allow_55 : decode b_MD_allow 55 = .ok (.iconst 0, 1) := by decide +kernel
theorem d_MD_allow_56 : decode b_MD_allow 56 = .ok (.istore 6, 2) := by decide +kernel
theorem d_MD_allow_58 : decode b_MD_allow 58 = .ok (.iload 6, 2) := by decide +kernel
theorem d_MD_allow_60 : decode b_MD_allow 60 = .ok (.iload_n 1, 1) := by decide +kernel
theorem d_MD_allow_61 : decode b_MD_allow 61 = .ok (.if_icmp .ge 44, 3) := by decide +kernel
theorem d_MD_allow_64 : decode b_MD_allow 64 = .ok (.iload 5, 2) := by decide +kernel
theorem d_MD_allow_66 : decode b_MD_allow 66 = .ok (.ifCond .eq 39, 3) := by decide +kernel
theorem d_MD_allow_69 : decode b_MD_allow 69 = .ok (.aload_n 0, 1) := by decide +kernel
theorem d_MD_allow_70 : decode b_MD_allow 70 = .ok (.getfield 109, 3) := by decide +kernel
theorem d_MD_allow_73 : decode b_MD_allow 73 = .ok (.bipush 16, 2) := by decide +kernel
theorem d_MD_allow_75 : decode b_MD_allow 75 = .ok (.iload 4, 2) := by decide +kernel
theorem d_MD_allow_77 : decode b_MD_allow 77 = .ok (.imul, 1) := by decide +kernel
theorem d_MD_allow_78 : decode b_MD_allow 78 = .ok (.iload 6, 2) := by decide +kernel
theorem d_MD_allow_80 : decode b_MD_allow 80 = .ok (.iadd, 1) := by decide +kernel
theorem d_MD_allow_81 : decode b_MD_allow 81 = .ok (.iaload, 1) := by decide +kernel
theorem d_MD_allow_82 : decode b_MD_allow 82 = .ok (.aload_n 0, 1) := by decide +kernel
theorem d_MD_allow_83 : decode b_MD_allow 83 = .ok (.getfield 85, 3) := by decide +kernel
theorem d_MD_allow_86 : decode b_MD_allow 86 = .ok (.iload 6, 2) := by decide +kernel
theorem d_MD_allow_88 : decode b_MD_allow 88 = .ok (.iaload, 1) := by decide +kernel
theorem d_MD_allow_89 : decode b_MD_allow 89 = .ok (.if_icmp .ne 7, 3) := by decide +kernel
theorem d_MD_allow_92 : decode b_MD_allow 92 = .ok (.iconst 1, 1) := by decide +kernel
theorem d_MD_allow_93 : decode b_MD_allow 93 = .ok (.goto 4, 3) := by decide +kernel
theorem d_MD_allow_96 : decode b_MD_allow 96 = .ok (.iconst 0, 1) := by decide +kernel
theorem d_MD_allow_97 : decode b_MD_allow 97 = .ok (.istore 5, 2) := by decide +kernel
theorem d_MD_allow_99 : decode b_MD_allow 99 = .ok (.iinc 6 1, 3) := by decide +kernel
theorem d_MD_allow_102 : decode b_MD_allow 102 = .ok (.goto (-44), 3) := by decide +kernel
theorem d_MD_allow_105 : decode b_MD_allow 105 = .ok (.iload_n 3, 1) := by decide +kernel
theorem d_MD_allow_106 : decode b_MD_allow 106 = .ok (.ifCond .ne 8, 3) := by decide +kernel
theorem d_MD_allow_109 : decode b_MD_allow 109 = .ok (.iload 5, 2) := by decide +kernel
theorem d_MD_allow_111 : decode b_MD_allow 111 = .ok (.ifCond .eq 7, 3) := by decide +kernel
theorem d_MD_allow_114 : decode b_MD_allow 114 = .ok (.iconst 1, 1) := by decide +kernel
theorem d_MD_allow_115 : decode b_MD_allow 115 = .ok (.goto 4, 3) := by decide +kernel
theorem d_MD_allow_118 : decode b_MD_allow 118 = .ok (.iconst 0, 1) := by decide +kernel
theorem d_MD_allow_119 : decode b_MD_allow 119 = .ok (.istore_n 3, 1) := by decide +kernel
theorem d_MD_allow_120 : decode b_MD_allow 120 = .ok (.iinc 4 1, 3) := by decide +kernel
theorem d_MD_allow_123 : decode b_MD_allow 123 = .ok (.goto (-99), 3) := by decide +kernel
theorem d_MD_allow_126 : decode b_MD_allow 126 = .ok (.aload_n 0, 1) := by decide +kernel
theorem d_MD_allow_127 : decode b_MD_allow 127 = .ok (.iload_n 2, 1) := by decide +kernel
theorem d_MD_allow_128 : decode b_MD_allow 128 = .ok (.iload_n 3, 1) := by decide +kernel
theorem d_MD_allow_129 : decode b_MD_allow 129 = .ok (.ifCond .ne 12, 3) := by decide +kernel
theorem d_MD_allow_132 : decode b_MD_allow 132 = .ok (.aload_n 0, 1) := by decide +kernel
theorem d_MD_allow_133 : decode b_MD_allow 133 = .ok (.getfield 183, 3) := by decide +kernel
theorem d_MD_allow_136 : decode b_MD_allow 136 = .ok (.bipush 8, 2) := by decide +kernel
theorem d_MD_allow_138 : decode b_MD_allow 138 = .ok (.if_icmp .ne 7, 3) := by decide +kernel
theorem d_MD_allow_141 : decode b_MD_allow 141 = .ok (.iconst 1, 1) := by decide +kernel
theorem d_MD_allow_142 : decode b_MD_allow 142 = .ok (.goto 4, 3) := by decide +kernel
theorem d_MD_allow_145 : decode b_MD_allow 145 = .ok (.iconst 0, 1) := by decide +kernel
theorem d_MD_allow_146 : decode b_MD_allow 146 = .ok (.invokevirtual 178, 3) := by decide +kernel
theorem d_MD_allow_149 : decode b_MD_allow 149 = .ok (.ifCond .eq 4, 3) := by decide +kernel
theorem d_MD_allow_152 : decode b_MD_allow 152 = .ok (.return_, 1) := by decide +kernel
theorem d_MD_allow_153 : decode b_MD_allow 153 = .ok (.aload_n 0, 1) := by decide +kernel
theorem d_MD_allow_154 : decode b_MD_allow 154 = .ok (.getfield 112, 3) := by decide +kernel
theorem d_MD_allow_157 : decode b_MD_allow 157 = .ok (.aload_n 0, 1) := by decide +kernel
theorem d_MD_allow_158 : decode b_MD_allow 158 = .ok (.getfield 183, 3) := by decide +kernel
theorem d_MD_allow_161 : decode b_MD_allow 161 = .ok (.iload_n 1, 1) := by decide +kernel
theorem d_MD_allow_162 : decode b_MD_allow 162 = .ok (.iastore, 1) := by decide +kernel
theorem d_MD_allow_163 : decode b_MD_allow 163 = .ok (.iconst 0, 1) := by decide +kernel
theorem d_MD_allow_164 : decode b_MD_allow 164 = .ok (.istore 4, 2) := by decide +kernel
theorem d_MD_allow_166 : decode b_MD_allow 166 = .ok (.iload 4, 2) := by decide +kernel
theorem d_MD_allow_168 : decode b_MD_allow 168 = .ok (.iload_n 1, 1) := by decide +kernel
theorem d_MD_allow_169 : decode b_MD_allow 169 = .ok (.if_icmp .ge 31, 3) := by decide +kernel
theorem d_MD_allow_172 : decode b_MD_allow 172 = .ok (.aload_n 0, 1) := by decide +kernel
theorem d_MD_allow_173 : decode b_MD_allow 173 = .ok (.getfield 109, 3) := by decide +kernel
theorem d_MD_allow_176 : decode b_MD_allow 176 = .ok (.bipush 16, 2) := by decide +kernel
theorem d_MD_allow_178 : decode b_MD_allow 178 = .ok (.aload_n 0, 1) := by decide +kernel
theorem d_MD_allow_179 : decode b_MD_allow 179 = .ok (.getfield 183, 3) := by decide +kernel
theorem d_MD_allow_182 : decode b_MD_allow 182 = .ok (.imul, 1) := by decide +kernel
theorem d_MD_allow_183 : decode b_MD_allow 183 = .ok (.iload 4, 2) := by decide +kernel
theorem d_MD_allow_185 : decode b_MD_allow 185 = .ok (.iadd, 1) := by decide +kernel
theorem d_MD_allow_186 : decode b_MD_allow 186 = .ok (.aload_n 0, 1) := by decide +kernel
theorem d_MD_allow_187 : decode b_MD_allow 187 = .ok (.getfield 85, 3) := by decide +kernel
theorem d_MD_allow_190 : decode b_MD_allow 190 = .ok (.iload 4, 2) := by decide +kernel
theorem d_MD_allow_192 : decode b_MD_allow 192 = .ok (.iaload, 1) := by decide +kernel
theorem d_MD_allow_193 : decode b_MD_allow 193 = .ok (.iastore, 1) := by decide +kernel
theorem d_MD_allow_194 : decode b_MD_allow 194 = .ok (.iinc 4 1, 3) := by decide +kernel
theorem d_MD_allow_197 : decode b_MD_allow 197 = .ok (.goto (-31), 3) := by decide +kernel
theorem d_MD_allow_200 : decode b_MD_allow 200 = .ok (.aload_n 0, 1) := by decide +kernel
theorem d_MD_allow_201 : decode b_MD_allow 201 = .ok (.dup, 1) := by decide +kernel
theorem d_MD_allow_202 : decode b_MD_allow 202 = .ok (.getfield 183, 3) := by decide +kernel
theorem d_MD_allow_205 : decode b_MD_allow 205 = .ok (.iconst 1, 1) := by decide +kernel
theorem d_MD_allow_206 : decode b_MD_allow 206 = .ok (.iadd, 1) := by decide +kernel
theorem d_MD_allow_207 : decode b_MD_allow 207 = .ok (.putfield 183, 3) := by decide +kernel
theorem d_MD_allow_210 : decode b_MD_allow 210 = .ok (.return_, 1) := by decide +kernel
theorem d_MD_row_0 : decode b_MD_row 0 = .ok (.aload_n 0, 1) := by decide +kernel
theorem d_MD_row_1 : decode b_MD_row 1 = .ok (.invokevirtual 164, 3) := by decide +kernel
theorem d_MD_row_4 : decode b_MD_row 4 = .ok (.istore_n 3, 1) := by decide +kernel
theorem d_MD_row_5 : decode b_MD_row 5 = .ok (.aload_n 0, 1) := by decide +kernel
theorem d_MD_row_6 : decode b_MD_row 6 = .ok (.iload_n 1, 1) := by decide +kernel
theorem d_MD_row_7 : decode b_MD_row 7 = .ok (.invokevirtual 168, 3) := by decide +kernel
theorem d_MD_row_10 : decode b_MD_row 10 = .ok (.ifCond .eq 13, 3) := by decide +kernel
theorem d_MD_row_13 : decode b_MD_row 13 = .ok (.iload_n 2, 1) := by decide +kernel
theorem d_MD_row_14 : decode b_MD_row 14 = .ok (.ifCond .lt 9, 3) := by decide +kernel
theorem d_MD_row_17 : decode b_MD_row 17 = .ok (.iload_n 2, 1) := by decide +kernel
theorem d_MD_row_18 : decode b_MD_row 18 = .ok (.bipush 6, 2) := by decide +kernel
theorem d_MD_row_20 : decode b_MD_row 20 = .ok (.if_icmp .le 7, 3) := by decide +kernel
theorem d_MD_row_23 : decode b_MD_row 23 = .ok (.iconst 1, 1) := by decide +kernel
theorem d_MD_row_24 : decode b_MD_row 24 = .ok (.goto 4, 3) := by decide +kernel
theorem d_MD_row_27 : decode b_MD_row 27 = .ok (.iconst 0, 1) := by decide +kernel
theorem d_MD_row_28 : decode b_MD_row 28 = .ok (.istore 4, 2) := by decide +kernel
theorem d_MD_row_30 : decode b_MD_row 30 = .ok (.iload 4, 2) := by decide +kernel
theorem d_MD_row_32 : decode b_MD_row 32 = .ok (.ifCond .eq 7, 3) := by decide +kernel
theorem d_MD_row_35 : decode b_MD_row 35 = .ok (.iconst (-1), 1) := by decide +kernel
theorem d_MD_row_36 : decode b_MD_row 36 = .ok (.goto 9, 3) := by decide +kernel
theorem d_MD_row_39 : decode b_MD_row 39 = .ok (.aload_n 0, 1) := by decide +kernel
theorem d_MD_row_40 : decode b_MD_row 40 = .ok (.iload_n 2, 1) := by decide +kernel
theorem d_MD_row_41 : decode b_MD_row 41 = .ok (.iload_n 3, 1) := by decide +kernel
theorem d_MD_row_42 : decode b_MD_row 42 = .ok (.invokevirtual 171, 3) := by decide +kernel
theorem d_MD_row_45 : decode b_MD_row 45 = .ok (.istore 5, 2) := by decide +kernel
theorem d_MD_row_47 : decode b_MD_row 47 = .ok (.iload 5, 2) := by decide +kernel
theorem d_MD_row_49 : decode b_MD_row 49 = .ok (.ifCond .lt 33, 3) := by decide +kernel
theorem d_MD_row_52 : decode b_MD_row 52 = .ok (.iload_n 2, 1) := by decide +kernel
theorem d_MD_row_53 : decode b_MD_row 53 = .ok (.ifCond .le 14, 3) := by decide +kernel
theorem d_MD_row_56 : decode b_MD_row 56 = .ok (.aload_n 0, 1) := by decide +kernel
theorem d_MD_row_57 : decode b_MD_row 57 = .ok (.iload_n 1, 1) := by decide +kernel
theorem d_MD_row_58 : decode b_MD_row 58 = .ok (.iload_n 2, 1) := by decide +kernel
theorem d_MD_row_59 : decode b_MD_row 59 = .ok (.iload 5, 2) := by decide +kernel
theorem d_MD_row_61 : decode b_MD_row 61 = .ok (.invokevirtual 174, 3) := by decide +kernel
theorem d_MD_row_64 : decode b_MD_row 64 = .ok (.ifCond .ne 14, 3) := by decide +kernel
theorem d_MD_row_67 : decode b_MD_row 67 = .ok (.aload_n 0, 1) := by decide +kernel
theorem d_MD_row_68 : decode b_MD_row 68 = .ok (.getfield 91, 3) := by decide +kernel
theorem d_MD_row_71 : decode b_MD_row 71 = .ok (.iload_n 1, 1) := by decide +kernel
theorem d_MD_row_72 : decode b_MD_row 72 = .ok (.iaload, 1) := by decide +kernel
theorem d_MD_row_73 : decode b_MD_row 73 = .ok (.bipush 24, 2) := by decide +kernel
theorem d_MD_row_75 : decode b_MD_row 75 = .ok (.if_icmp .ne 7, 3) := by decide +kernel
theorem d_MD_row_78 : decode b_MD_row 78 = .ok (.iconst 1, 1) := by decide +kernel
theorem d_MD_row_79 : decode b_MD_row 79 = .ok (.goto 4, 3) := by decide +kernel
theorem d_MD_row_82 : decode b_MD_row 82 = .ok (.iconst 0, 1) := by decide +kernel
theorem d_MD_row_83 : decode b_MD_row 83 = .ok (.istore 6, 2) := by decide +kernel
theorem d_MD_row_85 : decode b_MD_row 85 = .ok (.aload_n 0, 1) := by decide +kernel
theorem d_MD_row_86 : decode b_MD_row 86 = .ok (.iload 5, 2) := by decide +kernel
theorem d_MD_row_88 : decode b_MD_row 88 = .ok (.ifCond .ge 7, 3) := by decide +kernel
theorem d_MD_row_91 : decode b_MD_row 91 = .ok (.iconst 1, 1) := by decide +kernel
theorem d_MD_row_92 : decode b_MD_row 92 = .ok (.goto 4, 3) := by decide +kernel
theorem d_MD_row_95 : decode b_MD_row 95 = .ok (.iconst 0, 1) := by decide +kernel
theorem d_MD_row_96 : decode b_MD_row 96 = .ok (.iload 6, 2) := by decide +kernel
theorem d_MD_row_98 : decode b_MD_row 98 = .ok (.invokevirtual 178, 3) := by decide +kernel
theorem d_MD_row_101 : decode b_MD_row 101 = .ok (.ifCond .eq 4, 3) := by decide +kernel
theorem d_MD_row_104 : decode b_MD_row 104 = .ok (.return_, 1) := by decide +kernel
theorem d_MD_row_105 : decode b_MD_row 105 = .ok (.aload_n 0, 1) := by decide +kernel
theorem d_MD_row_106 : decode b_MD_row 106 = .ok (.iload_n 1, 1) := by decide +kernel
theorem d_MD_row_107 : decode b_MD_row 107 = .ok (.aload_n 0, 1) := by decide +kernel
theorem d_MD_row_108 : decode b_MD_row 108 = .ok (.getfield 91, 3) := by decide +kernel
theorem d_MD_row_111 : decode b_MD_row 111 = .ok (.iload_n 1, 1) := by decide +kernel
theorem d_MD_row_112 : decode b_MD_row 112 = .ok (.iaload, 1) := by decide +kernel
theorem d_MD_row_113 : decode b_MD_row 113 = .ok (.invokevirtual 160, 3) := by decide +kernel
theorem d_MD_row_116 : decode b_MD_row 116 = .ok (.istore 7, 2) := by decide +kernel
theorem d_MD_row_118 : decode b_MD_row 118 = .ok (.aload_n 0, 1) := by decide +kernel
theorem d_MD_row_119 : decode b_MD_row 119 = .ok (.getfield 94, 3) := by decide +kernel
theorem d_MD_row_122 : decode b_MD_row 122 = .ok (.iload 7, 2) := by decide +kernel
theorem d_MD_row_124 : decode b_MD_row 124 = .ok (.iload_n 2, 1) := by decide +kernel
theorem d_MD_row_125 : decode b_MD_row 125 = .ok (.iastore, 1) := by decide +kernel
theorem d_MD_row_126 : decode b_MD_row 126 = .ok (.aload_n 0, 1) := by decide +kernel
theorem d_MD_row_127 : decode b_MD_row 127 = .ok (.getfield 97, 3) := by decide +kernel
theorem d_MD_row_130 : decode b_MD_row 130 = .ok (.iload 7, 2) := by decide +kernel
theorem d_MD_row_132 : decode b_MD_row 132 = .ok (.iload_n 3, 1) := by decide +kernel
theorem d_MD_row_133 : decode b_MD_row 133 = .ok (.iastore, 1) := by decide +kernel
theorem d_MD_row_134 : decode b_MD_row 134 = .ok (.aload_n 0, 1) := by decide +kernel
theorem d_MD_row_135 : decode b_MD_row 135 = .ok (.getfield 100, 3) := by decide +kernel
theorem d_MD_row_138 : decode b_MD_row 138 = .ok (.iload 7, 2) := by decide +kernel
theorem d_MD_row_140 : decode b_MD_row 140 = .ok (.iload 5, 2) := by decide +kernel
theorem d_MD_row_142 : decode b_MD_row 142 = .ok (.iastore, 1) := by decide +kernel
theorem d_MD_row_143 : decode b_MD_row 143 = .ok (.iconst 0, 1) := by decide +kernel
theorem d_MD_row_144 : decode b_MD_row 144 = .ok (.istore 8, 2) := by decide +kernel
theorem d_MD_row_146 : decode b_MD_row 146 = .ok (.iload 8, 2) := by decide +kernel
theorem d_MD_row_148 : decode b_MD_row 148 = .ok (.iload_n 3, 1) := by decide +kernel
theorem d_MD_row_149 : decode b_MD_row 149 = .ok (.if_icmp .ge 29, 3) := by decide +kernel
theorem d_MD_row_152 : decode b_MD_row 152 = .ok (.aload_n 0, 1) := by decide +kernel
theorem d_MD_row_153 : decode b_MD_row 153 = .ok (.getfield 103, 3) := by decide +kernel
theorem d_MD_row_156 : decode b_MD_row 156 = .ok (.bipush 64, 2) := by decide +kernel
theorem d_MD_row_158 : decode b_MD_row 158 = .ok (.iload 7, 2) := by decide +kernel
theorem d_MD_row_160 : decode b_MD_row 160 = .ok (.imul, 1) := by decide +kernel
theorem d_MD_row_161 : decode b_MD_row 161 = .ok (.iload 8, 2) := by decide +kernel
theorem d_MD_row_163 : decode b_MD_row 163 = .ok (.iadd, 1) := by decide +kernel
theorem d_MD_row_164 : decode b_MD_row 164 = .ok (.aload_n 0, 1) := by decide +kernel
theorem d_MD_row_165 : decode b_MD_row 165 = .ok (.getfield 85, 3) := by decide +kernel
theorem d_MD_row_168 : decode b_MD_row 168 = .ok (.iload 8, 2) := by decide +kernel
theorem d_MD_row_170 : decode b_MD_row 170 = .ok (.iaload, 1) := by decide +kernel
theorem d_MD_row_171 : decode b_MD_row 171 = .ok (.iastore, 1) := by decide +kernel
theorem d_MD_row_172 : decode b_MD_row 172 = .ok (.iinc 8 1, 3) := by decide +kernel
theorem d_MD_row_175 : decode b_MD_row 175 = .ok (.goto (-29), 3) := by decide +kernel
theorem d_MD_row_178 : decode b_MD_row 178 = .ok (.iconst 0, 1) := by decide +kernel
theorem d_MD_row_179 : decode b_MD_row 179 = .ok (.istore 8, 2) := by decide +kernel
theorem d_MD_row_181 : decode b_MD_row 181 = .ok (.iload 8, 2) := by decide +kernel
theorem d_MD_row_183 : decode b_MD_row 183 = .ok (.bipush 8, 2) := by decide +kernel
theorem d_MD_row_185 : decode b_MD_row 185 = .ok (.if_icmp .ge 29, 3) := by decide +kernel
theorem d_MD_row_188 : decode b_MD_row 188 = .ok (.aload_n 0, 1) := by decide +kernel
theorem d_MD_row_189 : decode b_MD_row 189 = .ok (.getfield 106, 3) := by decide +kernel
theorem d_MD_row_192 : decode b_MD_row 192 = .ok (.bipush 8, 2) := by decide +kernel
theorem d_MD_row_194 : decode b_MD_row 194 = .ok (.iload 7, 2) := by decide +kernel
theorem d_MD_row_196 : decode b_MD_row 196 = .ok (.imul, 1) := by decide +kernel
theorem d_MD_row_197 : decode b_MD_row 197 = .ok (.iload 8, 2) := by decide +kernel
theorem d_MD_row_199 : decode b_MD_row 199 = .ok (.iadd, 1) := by decide +kernel
theorem d_MD_row_200 : decode b_MD_row 200 = .ok (.aload_n 0, 1) := by decide +kernel
theorem d_MD_row_201 : decode b_MD_row 201 = .ok (.getfield 88, 3) := by decide +kernel
theorem d_MD_row_204 : decode b_MD_row 204 = .ok (.iload 8, 2) := by decide +kernel
theorem d_MD_row_206 : decode b_MD_row 206 = .ok (.iaload, 1) := by decide +kernel
theorem d_MD_row_207 : decode b_MD_row 207 = .ok (.iastore, 1) := by decide +kernel
theorem d_MD_row_208 : decode b_MD_row 208 = .ok (.iinc 8 1, 3) := by decide +kernel
theorem d_MD_row_211 : decode b_MD_row 211 = .ok (.goto (-30), 3) := by decide +kernel
theorem d_MD_row_214 : decode b_MD_row 214 = .ok (.aload_n 0, 1) := by decide +kernel
theorem d_MD_row_215 : decode b_MD_row 215 = .ok (.getfield 91, 3) := by decide +kernel
theorem d_MD_row_218 : decode b_MD_row 218 = .ok (.iload_n 1, 1) := by decide +kernel
theorem d_MD_row_219 : decode b_MD_row 219 = .ok (.dup2, 1) := by decide +kernel
theorem d_MD_row_220 : decode b_MD_row 220 = .ok (.iaload, 1) := by decide +kernel
theorem d_MD_row_221 : decode b_MD_row 221 = .ok (.iconst 1, 1) := by decide +kernel
theorem d_MD_row_222 : decode b_MD_row 222 = .ok (.iadd, 1) := by decide +kernel
theorem d_MD_row_223 : decode b_MD_row 223 = .ok (.iastore, 1) := by decide +kernel
theorem d_MD_row_224 : decode b_MD_row 224 = .ok (.return_, 1) := by decide +kernel
theorem d_MD_edition_0 : decode b_MD_edition 0 = .ok (.aload_n 0, 1) := by decide +kernel
theorem d_MD_edition_1 : decode b_MD_edition 1 = .ok (.iload_n 1, 1) := by decide +kernel
theorem d_MD_edition_2 : decode b_MD_edition 2 = .ok (.invokevirtual 168, 3) := by decide +kernel
theorem d_MD_edition_5 : decode b_MD_edition 5 = .ok (.ifCond .eq 13, 3) := by decide +kernel
theorem d_MD_edition_8 : decode b_MD_edition 8 = .ok (.iload_n 2, 1) := by decide +kernel
theorem d_MD_edition_9 : decode b_MD_edition 9 = .ok (.ifCond .lt 9, 3) := by decide +kernel
theorem d_MD_edition_12 : decode b_MD_edition 12 = .ok (.iload_n 2, 1) := by decide +kernel
theorem d_MD_edition_13 : decode b_MD_edition 13 = .ok (.ldc 182, 2) := by decide +kernel
theorem d_MD_edition_15 : decode b_MD_edition 15 = .ok (.if_icmp .le 7, 3) := by decide +kernel
theorem d_MD_edition_18 : decode b_MD_edition 18 = .ok (.iconst 1, 1) := by decide +kernel
theorem d_MD_edition_19 : decode b_MD_edition 19 = .ok (.goto 4, 3) := by decide +kernel
theorem d_MD_edition_22 : decode b_MD_edition 22 = .ok (.iconst 0, 1) := by decide +kernel
theorem d_MD_edition_23 : decode b_MD_edition 23 = .ok (.istore_n 3, 1) := by decide +kernel
theorem d_MD_edition_24 : decode b_MD_edition 24 = .ok (.iload_n 3, 1) := by decide +kernel
theorem d_MD_edition_25 : decode b_MD_edition 25 = .ok (.ifCond .eq 7, 3) := by decide +kernel
theorem d_MD_edition_28 : decode b_MD_edition 28 = .ok (.iconst 0, 1) := by decide +kernel
theorem d_MD_edition_29 : decode b_MD_edition 29 = .ok (.goto 9, 3) := by decide +kernel
theorem d_MD_edition_32 : decode b_MD_edition 32 = .ok (.aload_n 0, 1) := by decide +kernel
theorem d_MD_edition_33 : decode b_MD_edition 33 = .ok (.getfield 91, 3) := by decide +kernel
theorem d_MD_edition_36 : decode b_MD_edition 36 = .ok (.iload_n 1, 1) := by decide +kernel
theorem d_MD_edition_37 : decode b_MD_edition 37 = .ok (.iaload, 1) := by decide +kernel
theorem d_MD_edition_38 : decode b_MD_edition 38 = .ok (.istore 4, 2) := by decide +kernel
theorem d_MD_edition_40 : decode b_MD_edition 40 = .ok (.iconst 0, 1) := by decide +kernel
theorem d_MD_edition_41 : decode b_MD_edition 41 = .ok (.istore 5, 2) := by decide +kernel
theorem d_MD_edition_43 : decode b_MD_edition 43 = .ok (.iload_n 3, 1) := by decide +kernel
theorem d_MD_edition_44 : decode b_MD_edition 44 = .ok (.ifCond .ne 46, 3) := by decide +kernel
theorem d_MD_edition_47 : decode b_MD_edition 47 = .ok (.iload 5, 2) := by decide +kernel
theorem d_MD_edition_49 : decode b_MD_edition 49 = .ok (.aload_n 0, 1) := by decide +kernel
theorem d_MD_edition_50 : decode b_MD_edition 50 = .ok (.getfield 91, 3) := by decide +kernel
theorem d_MD_edition_53 : decode b_MD_edition 53 = .ok (.iload_n 1, 1) := by decide +kernel
theorem d_MD_edition_54 : decode b_MD_edition 54 = .ok (.iaload, 1) := by decide +kernel
theorem d_MD_edition_55 : decode b_MD_edition 55 = .ok (.if_icmp .ge 35, 3) := by decide +kernel
theorem d_MD_edition_58 : decode b_MD_edition 58 = .ok (.aload_n 0, 1) := by decide +kernel
theorem d_MD_edition_59 : decode b_MD_edition 59 = .ok (.getfield 94, 3) := by decide +kernel
theorem d_MD_edition_62 : decode b_MD_edition 62 = .ok (.aload_n 0, 1) := by decide +kernel
theorem d_MD_edition_63 : decode b_MD_edition 63 = .ok (.iload_n 1, 1) := by decide +kernel
theorem d_MD_edition_64 : decode b_MD_edition 64 = .ok (.iload 5, 2) := by decide +kernel
theorem d_MD_edition_66 : decode b_MD_edition 66 = .ok (.invokevirtual 160, 3) := by decide +kernel
theorem d_MD_edition_69 : decode b_MD_edition 69 = .ok (.iaload, 1) := by decide +kernel
theorem d_MD_edition_70 : decode b_MD_edition 70 = .ok (.bipush 7, 2) := by decide +kernel
theorem d_MD_edition_72 : decode b_MD_edition 72 = .ok (.if_icmp .ne 8, 3) := by decide +kernel
theorem d_MD_edition_75 : decode b_MD_edition 75 = .ok (.iload 5, 2) := by decide +kernel
theorem d_MD_edition_77 : decode b_MD_edition 77 = .ok (.goto 5, 3) := by decide +kernel
theorem d_MD_edition_80 : decode b_MD_edition 80 = .ok (.iload 4, 2) := by decide +kernel
theorem d_MD_edition_82 : decode b_MD_edition 82 = .ok (.istore 4, 2) := by decide +kernel
theorem d_MD_edition_84 : decode b_MD_edition 84 = .ok (.iinc 5 1, 3) := by decide +kernel
theorem d_MD_edition_87 : decode b_MD_edition 87 = .ok (.goto (-44), 3) := by decide +kernel
theorem d_MD_edition_90 : decode b_MD_edition 90 = .ok (.aload_n 0, 1) := by decide +kernel
theorem d_MD_edition_91 : decode b_MD_edition 91 = .ok (.iload_n 3, 1) := by decide +kernel
theorem d_MD_edition_92 : decode b_MD_edition 92 = .ok (.iload 4, 2) := by decide +kernel
theorem d_MD_edition_94 : decode b_MD_edition 94 = .ok (.bipush 24, 2) := by decide +kernel
theorem d_MD_edition_96 : decode b_MD_edition 96 = .ok (.if_icmp .ne 7, 3) := by decide +kernel
theorem d_MD_edition_99 : decode b_MD_edition 99 = .ok (.iconst 1, 1) := by decide +kernel
theorem d_MD_edition_100 : decode b_MD_edition 100 = .ok (.goto 4, 3) := by decide +kernel
theorem d_MD_edition_103 : decode b_MD_edition 103 = .ok (.iconst 0, 1) := by decide +kernel
theorem d_MD_edition_104 : decode b_MD_edition 104 = .ok (.invokevirtual 178, 3) := by decide +kernel
theorem d_MD_edition_107 : decode b_MD_edition 107 = .ok (.ifCond .eq 4, 3) := by decide +kernel
theorem d_MD_edition_110 : decode b_MD_edition 110 = .ok (.return_, 1) := by decide +kernel
theorem d_MD_edition_111 : decode b_MD_edition 111 = .ok (.aload_n 0, 1) := by decide +kernel
theorem d_MD_edition_112 : decode b_MD_edition 112 = .ok (.iload_n 1, 1) := by decide +kernel
theorem d_MD_edition_113 : decode b_MD_edition 113 = .ok (.iload 4, 2) := by decide +kernel
theorem d_MD_edition_115 : decode b_MD_edition 115 = .ok (.invokevirtual 160, 3) := by decide +kernel
theorem d_MD_edition_118 : decode b_MD_edition 118 = .ok (.istore 5, 2) := by decide +kernel
theorem d_MD_edition_120 : decode b_MD_edition 120 = .ok (.aload_n 0, 1) := by decide +kernel
theorem d_MD_edition_121 : decode b_MD_edition 121 = .ok (.getfield 94, 3) := by decide +kernel
theorem d_MD_edition_124 : decode b_MD_edition 124 = .ok (.iload 5, 2) := by decide +kernel
theorem d_MD_edition_126 : decode b_MD_edition 126 = .ok (.bipush 7, 2) := by decide +kernel
theorem d_MD_edition_128 : decode b_MD_edition 128 = .ok (.iastore, 1) := by decide +kernel
theorem d_MD_edition_129 : decode b_MD_edition 129 = .ok (.aload_n 0, 1) := by decide +kernel
theorem d_MD_edition_130 : decode b_MD_edition 130 = .ok (.getfield 97, 3) := by decide +kernel
theorem d_MD_edition_133 : decode b_MD_edition 133 = .ok (.iload 5, 2) := by decide +kernel
theorem d_MD_edition_135 : decode b_MD_edition 135 = .ok (.bipush 8, 2) := by decide +kernel
theorem d_MD_edition_137 : decode b_MD_edition 137 = .ok (.iastore, 1) := by decide +kernel
theorem d_MD_edition_138 : decode b_MD_edition 138 = .ok (.aload_n 0, 1) := by decide +kernel
theorem d_MD_edition_139 : decode b_MD_edition 139 = .ok (.getfield 100, 3) := by decide +kernel
theorem d_MD_edition_142 : decode b_MD_edition 142 = .ok (.iload 5, 2) := by decide +kernel
theorem d_MD_edition_144 : decode b_MD_edition 144 = .ok (.iconst 0, 1) := by decide +kernel
theorem d_MD_edition_145 : decode b_MD_edition 145 = .ok (.iastore, 1) := by decide +kernel
theorem d_MD_edition_146 : decode b_MD_edition 146 = .ok (.iload_n 2, 1) := by decide +kernel
theorem d_MD_edition_147 : decode b_MD_edition 147 = .ok (.istore 6, 2) := by decide +kernel
theorem d_MD_edition_149 : decode b_MD_edition 149 = .ok (.bipush 7, 2) := by decide +kernel
theorem d_MD_edition_151 : decode b_MD_edition 151 = .ok (.istore 7, 2) := by decide +kernel
theorem d_MD_edition_153 : decode b_MD_edition 153 = .ok (.iload 7, 2) := by decide +kernel
theorem d_MD_edition_155 : decode b_MD_edition 155 = .ok (.ifCond .lt 37, 3) := by decide +kernel
theorem d_MD_edition_158 : decode b_MD_edition 158 = .ok (.aload_n 0, 1) := by decide +kernel
theorem d_MD_edition_159 : decode b_MD_edition 159 = .ok (.getfield 103, 3) := by decide +kernel
theorem d_MD_edition_162 : decode b_MD_edition 162 = .ok (.bipush 64, 2) := by decide +kernel
theorem d_MD_edition_164 : decode b_MD_edition 164 = .ok (.iload 5, 2) := by decide +kernel
theorem d_MD_edition_166 : decode b_MD_edition 166 = .ok (.imul, 1) := by decide +kernel
theorem d_MD_edition_167 : decode b_MD_edition 167 = .ok (.iload 7, 2) := by decide +kernel
theorem d_MD_edition_169 : decode b_MD_edition 169 = .ok (.iadd, 1) := by decide +kernel
theorem d_MD_edition_170 : decode b_MD_edition 170 = .ok (.bipush 48, 2) := by decide +kernel
theorem d_MD_edition_172 : decode b_MD_edition 172 = .ok (.iload 6, 2) := by decide +kernel
theorem d_MD_edition_174 : decode b_MD_edition 174 = .ok (.bipush 10, 2) := by decide +kernel
theorem d_MD_edition_176 : decode b_MD_edition 176 = .ok (.irem, 1) := by decide +kernel
theorem d_MD_edition_177 : decode b_MD_edition 177 = .ok (.iadd, 1) := by decide +kernel
theorem d_MD_edition_178 : decode b_MD_edition 178 = .ok (.iastore, 1) := by decide +kernel
theorem d_MD_edition_179 : decode b_MD_edition 179 = .ok (.iload 6, 2) := by decide +kernel
theorem d_MD_edition_181 : decode b_MD_edition 181 = .ok (.bipush 10, 2) := by decide +kernel
theorem d_MD_edition_183 : decode b_MD_edition 183 = .ok (.idiv, 1) := by decide +kernel
theorem d_MD_edition_184 : decode b_MD_edition 184 = .ok (.istore 6, 2) := by decide +kernel
theorem d_MD_edition_186 : decode b_MD_edition 186 = .ok (.iinc 7 (-1), 3) := by decide +kernel
theorem d_MD_edition_189 : decode b_MD_edition 189 = .ok (.goto (-36), 3) := by decide +kernel
theorem d_MD_edition_192 : decode b_MD_edition 192 = .ok (.iload 4, 2) := by decide +kernel
theorem d_MD_edition_194 : decode b_MD_edition 194 = .ok (.aload_n 0, 1) := by decide +kernel
theorem d_MD_edition_195 : decode b_MD_edition 195 = .ok (.getfield 91, 3) := by decide +kernel
theorem d_MD_edition_198 : decode b_MD_edition 198 = .ok (.iload_n 1, 1) := by decide +kernel
theorem d_MD_edition_199 : decode b_MD_edition 199 = .ok (.iaload, 1) := by decide +kernel
theorem d_MD_edition_200 : decode b_MD_edition 200 = .ok (.if_icmp .ne 13, 3) := by decide +kernel
theorem d_MD_edition_203 : decode b_MD_edition 203 = .ok (.aload_n 0, 1) := by decide +kernel
theorem d_MD_edition_204 : decode b_MD_edition 204 = .ok (.getfield 91, 3) := by decide +kernel
theorem d_MD_edition_207 : decode b_MD_edition 207 = .ok (.iload_n 1, 1) := by decide +kernel
theorem d_MD_edition_208 : decode b_MD_edition 208 = .ok (.dup2, 1) := by decide +kernel
theorem d_MD_edition_209 : decode b_MD_edition 209 = .ok (.iaload, 1) := by decide +kernel
theorem d_MD_edition_210 : decode b_MD_edition 210 = .ok (.iconst 1, 1) := by decide +kernel
theorem d_MD_edition_211 : decode b_MD_edition 211 = .ok (.iadd, 1) := by decide +kernel
theorem d_MD_edition_212 : decode b_MD_edition 212 = .ok (.iastore, 1) := by decide +kernel
theorem d_MD_edition_213 : decode b_MD_edition 213 = .ok (.return_, 1) := by decide +kernel
set_option maxHeartbeats 4000000 in
set_option maxRecDepth 100000 in
/-- salt() -/
theorem c_MD_salt (l : Launch) (D : va_G) (ct : Nat → ClassId) (Z : hp_Z) (hZ : hp_Zok Z) (M : hp_M) (sz : Nat) (md : Nat) (B : MA) (V : MS) (hw : mdS ct M md B V) (T : List Nat) (hty : V.ty = T.length) (hte : ∀ i, i < T.length → V.te i = T.getD i 0) (hT64 : T.length ≤ 64) (hcT : ∀ i, T.getD i 0 < 65536) : Mv l y_MD_salt b_MD_salt 3 none 1 22 0 0 [.ref md] D ct Z M sz (fun M1 => (16 < T.length ∧ mdS ct M1 md B (mkS (V.te) (V.cn) (V.kd) (V.sz) (V.ky) (V.le) (V.nm) (V.ns) (V.sl) (V.sb) (V.he) (V.dg) (V.su) (V.wi) (V.tu) 1 0 (V.ac) (V.al) (V.sd) (V.ss))) ∨ (T.length ≤ 16 ∧ ∃ sl, (∀ i, i < T.length → sl i = T.getD i 0) ∧ mdS ct M1 md B (mkS (V.te) (V.cn) (V.kd) (V.sz) (V.ky) (V.le) (V.nm) (V.ns) sl (V.sb) (V.he) (V.dg) (V.su) (V.wi) (V.tu) 0 0 (V.ac) (V.al) (T.length) (V.ss)))) := by
  refine hp_start (by decide) (Nat.le_of_ble_eq_true rfl) (fun p e s m below meth c ls S hret hlk hnm hsz hK hM hS hA hz hl => ?_)
  have hx := S.1
  have hb := S.2.1
  have hl : lv_has ls 3 [(0, .ref md)] := hl
  obtain ⟨f_md, f_ro, f_te, f_he, f_cn, f_kd, f_sz, f_ky, f_le, f_dg, f_nm, f_ns, f_sl, f_sb, f_su, f_wi, f_tu, hB, hV⟩ := id hw
  obtain ⟨n_kdsz, n_kdky, n_szky, n_hens, n_hesu, n_hetu, n_nssu, n_nstu, n_sutu, n_tewi⟩ := id hB
  obtain ⟨b_te, b_cn, b_kd, b_sz, b_ky, b_le, b_nm, b_ns, b_sl, b_sb, b_co, b_ty, b_ac, b_al, b_sd, b_ss⟩ := id hV
  refine lv_aload_n hx hb d_MD_salt_0 rfl (lv_at hl 0 rfl) ?_
  refine hp_calli (go_V S hZ hK hM hS hA hz (c_MD_takes l D ct Z hZ _ _ md B V hw) mc_MD_takes mz_MD ml_MD_164 mi_MD_takes mx_MD_takes hd_MD_takes rfl ⟨by decide, by decide⟩ f_md rfl rfl hl.1 rfl (Nat.le_of_ble_eq_true rfl) d_MD_salt_1 ⟨by decide, by decide⟩) hM hS hA (fun r9 M9 H locs h9 hM hS => ?_)
  obtain ⟨N1, eN1⟩ : ∃ z, z = M9 := ⟨_, rfl⟩
  rw [← eN1] at hM h9
  have hw2 : mdS ct N1 md B (mkS (V.te) (V.cn) (V.kd) (V.sz) (V.ky) (V.le) (V.nm) (V.ns) (V.sl) (V.sb) (V.he) (V.dg) (V.su) (V.wi) (V.tu) (V.co) 0 (V.ac) (V.al) (V.sd) (V.ss)) := h9.2
  clear f_md f_ro f_te f_he f_cn f_kd f_sz f_ky f_le f_dg f_nm f_ns f_sl f_sb f_su f_wi f_tu
  obtain ⟨f_md, f_ro, f_te, f_he, f_cn, f_kd, f_sz, f_ky, f_le, f_dg, f_nm, f_ns, f_sl, f_sb, f_su, f_wi, f_tu, hB, hV⟩ := id hw2
  replace f_md : N1 md = some (.inr (6, [.ref B.ro, .int (nI (V.co)), .ref B.te, .int (nI 0), .int (nI (V.ac)), .int (nI (V.al)), .int (nI (V.sd)), .ref B.he, .ref B.cn, .ref B.kd, .ref B.sz, .ref B.ky, .ref B.le, .ref B.dg, .ref B.nm, .ref B.ns, .ref B.sl, .ref B.sb, .int (nI (V.ss)), .ref B.su, .ref B.wi, .ref B.tu])) := f_md
  replace f_ro : N1 B.ro = some (.inl (ct 1, 72, .inl roF)) := f_ro
  replace f_te : N1 B.te = some (.inl (ct 1, 64, .inl (nf V.te))) := f_te
  replace f_he : N1 B.he = some (.inl (ct 1, 8, .inl (V.he))) := f_he
  replace f_cn : N1 B.cn = some (.inl (ct 1, 12, .inl (nf V.cn))) := f_cn
  replace f_kd : N1 B.kd = some (.inl (ct 1, 288, .inl (nf V.kd))) := f_kd
  replace f_sz : N1 B.sz = some (.inl (ct 1, 288, .inl (nf V.sz))) := f_sz
  replace f_ky : N1 B.ky = some (.inl (ct 1, 288, .inl (nf V.ky))) := f_ky
  replace f_le : N1 B.le = some (.inl (ct 1, 18432, .inl (nf V.le))) := f_le
  replace f_dg : N1 B.dg = some (.inl (ct 1, 2304, .inl (V.dg))) := f_dg
  replace f_nm : N1 B.nm = some (.inl (ct 1, 128, .inl (nf V.nm))) := f_nm
  replace f_ns : N1 B.ns = some (.inl (ct 1, 8, .inl (nf V.ns))) := f_ns
  replace f_sl : N1 B.sl = some (.inl (ct 1, 16, .inl (nf V.sl))) := f_sl
  replace f_sb : N1 B.sb = some (.inl (ct 1, 3000, .inl (nf V.sb))) := f_sb
  replace f_su : N1 B.su = some (.inl (ct 1, 8, .inl (V.su))) := f_su
  replace f_wi : N1 B.wi = some (.inl (ct 1, 64, .inl (V.wi))) := f_wi
  replace f_tu : N1 B.tu = some (.inl (ct 1, 8, .inl (V.tu))) := f_tu
  rw [h9.1, hty]
  refine lv_istore_n (lv' := [(1, .int (nI (T.length))), (0, .ref md)]) hx hb d_MD_salt_4 rfl hl (by decide) rfl (fun ls hl => ?_)
  refine lv_aload_n hx hb d_MD_salt_5 rfl (lv_at hl 1 rfl) ?_
  refine w_join hM hS (P := fun z => bo z (16 < T.length)) (pc2 := 17) (rest := [.ref md]) (fun v2 H locs hM hS hv2 => ?_) (fun hjv2 => ?_)
  · refine lv_iconst (v := nI 0) hx hb d_MD_salt_17 rfl ?_
    refine hp_calli (go_V S hZ hK hM hS hA hz (c_MD_refuses l D ct Z hZ _ _ md B (mkS (V.te) (V.cn) (V.kd) (V.sz) (V.ky) (V.le) (V.nm) (V.ns) (V.sl) (V.sb) (V.he) (V.dg) (V.su) (V.wi) (V.tu) (V.co) 0 (V.ac) (V.al) (V.sd) (V.ss)) hw2 v2 (nI 0) (16 < T.length) (False) (hv2) (bo_f id)) mc_MD_refuses mz_MD ml_MD_178 mi_MD_refuses mx_MD_refuses hd_MD_refuses rfl ⟨by decide, by decide⟩ f_md rfl rfl hl.1 rfl (Nat.le_of_ble_eq_true rfl) d_MD_salt_18 ⟨by decide, by decide⟩) hM hS hA (fun r9 M9 H locs h9 hM hS => ?_)
    obtain ⟨N3, eN3⟩ : ∃ z, z = M9 := ⟨_, rfl⟩
    rw [← eN3] at hM h9
    rcases h9 with ⟨hp1, er, h9⟩ | ⟨hp1, hp2, er, h9⟩ | ⟨hp1, hp2, er, h9⟩
    · subst er
      have hw4 : mdS ct N3 md B (mkS (V.te) (V.cn) (V.kd) (V.sz) (V.ky) (V.le) (V.nm) (V.ns) (V.sl) (V.sb) (V.he) (V.dg) (V.su) (V.wi) (V.tu) 1 0 (V.ac) (V.al) (V.sd) (V.ss)) := h9
      clear f_md f_ro f_te f_he f_cn f_kd f_sz f_ky f_le f_dg f_nm f_ns f_sl f_sb f_su f_wi f_tu
      obtain ⟨f_md, f_ro, f_te, f_he, f_cn, f_kd, f_sz, f_ky, f_le, f_dg, f_nm, f_ns, f_sl, f_sb, f_su, f_wi, f_tu, hB, hV⟩ := id hw4
      replace f_md : N3 md = some (.inr (6, [.ref B.ro, .int (nI 1), .ref B.te, .int (nI 0), .int (nI (V.ac)), .int (nI (V.al)), .int (nI (V.sd)), .ref B.he, .ref B.cn, .ref B.kd, .ref B.sz, .ref B.ky, .ref B.le, .ref B.dg, .ref B.nm, .ref B.ns, .ref B.sl, .ref B.sb, .int (nI (V.ss)), .ref B.su, .ref B.wi, .ref B.tu])) := f_md
      replace f_ro : N3 B.ro = some (.inl (ct 1, 72, .inl roF)) := f_ro
      replace f_te : N3 B.te = some (.inl (ct 1, 64, .inl (nf V.te))) := f_te
      replace f_he : N3 B.he = some (.inl (ct 1, 8, .inl (V.he))) := f_he
      replace f_cn : N3 B.cn = some (.inl (ct 1, 12, .inl (nf V.cn))) := f_cn
      replace f_kd : N3 B.kd = some (.inl (ct 1, 288, .inl (nf V.kd))) := f_kd
      replace f_sz : N3 B.sz = some (.inl (ct 1, 288, .inl (nf V.sz))) := f_sz
      replace f_ky : N3 B.ky = some (.inl (ct 1, 288, .inl (nf V.ky))) := f_ky
      replace f_le : N3 B.le = some (.inl (ct 1, 18432, .inl (nf V.le))) := f_le
      replace f_dg : N3 B.dg = some (.inl (ct 1, 2304, .inl (V.dg))) := f_dg
      replace f_nm : N3 B.nm = some (.inl (ct 1, 128, .inl (nf V.nm))) := f_nm
      replace f_ns : N3 B.ns = some (.inl (ct 1, 8, .inl (nf V.ns))) := f_ns
      replace f_sl : N3 B.sl = some (.inl (ct 1, 16, .inl (nf V.sl))) := f_sl
      replace f_sb : N3 B.sb = some (.inl (ct 1, 3000, .inl (nf V.sb))) := f_sb
      replace f_su : N3 B.su = some (.inl (ct 1, 8, .inl (V.su))) := f_su
      replace f_wi : N3 B.wi = some (.inl (ct 1, 64, .inl (V.wi))) := f_wi
      replace f_tu : N3 B.tu = some (.inl (ct 1, 8, .inl (V.tu))) := f_tu
      refine nz_eq (tgt := 25) hx hb d_MD_salt_21 (by decide) (by omega) (fun h4 => ?_) (fun h4 => ?_)
      · exact absurd h4 (by decide)
      · exact hp_vret S hret hlk hM hS (Or.inl ⟨hp1, hw4⟩) d_MD_salt_24
    · subst er
      have hw4 : mdS ct N3 md B (mkS (V.te) (V.cn) (V.kd) (V.sz) (V.ky) (V.le) (V.nm) (V.ns) (V.sl) (V.sb) (V.he) (V.dg) (V.su) (V.wi) (V.tu) 2 0 (V.ac) (V.al) (V.sd) (V.ss)) := h9
      clear f_md f_ro f_te f_he f_cn f_kd f_sz f_ky f_le f_dg f_nm f_ns f_sl f_sb f_su f_wi f_tu
      obtain ⟨f_md, f_ro, f_te, f_he, f_cn, f_kd, f_sz, f_ky, f_le, f_dg, f_nm, f_ns, f_sl, f_sb, f_su, f_wi, f_tu, hB, hV⟩ := id hw4
      replace f_md : N3 md = some (.inr (6, [.ref B.ro, .int (nI 2), .ref B.te, .int (nI 0), .int (nI (V.ac)), .int (nI (V.al)), .int (nI (V.sd)), .ref B.he, .ref B.cn, .ref B.kd, .ref B.sz, .ref B.ky, .ref B.le, .ref B.dg, .ref B.nm, .ref B.ns, .ref B.sl, .ref B.sb, .int (nI (V.ss)), .ref B.su, .ref B.wi, .ref B.tu])) := f_md
      replace f_ro : N3 B.ro = some (.inl (ct 1, 72, .inl roF)) := f_ro
      replace f_te : N3 B.te = some (.inl (ct 1, 64, .inl (nf V.te))) := f_te
      replace f_he : N3 B.he = some (.inl (ct 1, 8, .inl (V.he))) := f_he
      replace f_cn : N3 B.cn = some (.inl (ct 1, 12, .inl (nf V.cn))) := f_cn
      replace f_kd : N3 B.kd = some (.inl (ct 1, 288, .inl (nf V.kd))) := f_kd
      replace f_sz : N3 B.sz = some (.inl (ct 1, 288, .inl (nf V.sz))) := f_sz
      replace f_ky : N3 B.ky = some (.inl (ct 1, 288, .inl (nf V.ky))) := f_ky
      replace f_le : N3 B.le = some (.inl (ct 1, 18432, .inl (nf V.le))) := f_le
      replace f_dg : N3 B.dg = some (.inl (ct 1, 2304, .inl (V.dg))) := f_dg
      replace f_nm : N3 B.nm = some (.inl (ct 1, 128, .inl (nf V.nm))) := f_nm
      replace f_ns : N3 B.ns = some (.inl (ct 1, 8, .inl (nf V.ns))) := f_ns
      replace f_sl : N3 B.sl = some (.inl (ct 1, 16, .inl (nf V.sl))) := f_sl
      replace f_sb : N3 B.sb = some (.inl (ct 1, 3000, .inl (nf V.sb))) := f_sb
      replace f_su : N3 B.su = some (.inl (ct 1, 8, .inl (V.su))) := f_su
      replace f_wi : N3 B.wi = some (.inl (ct 1, 64, .inl (V.wi))) := f_wi
      replace f_tu : N3 B.tu = some (.inl (ct 1, 8, .inl (V.tu))) := f_tu
      refine nz_eq (tgt := 25) hx hb d_MD_salt_21 (by decide) (by omega) (fun h5 => ?_) (fun h5 => ?_)
      · exact absurd h5 (by decide)
      · exact hp_vret S hret hlk hM hS (absurd hp2 id) d_MD_salt_24
    · subst er
      have hw4 : mdS ct N3 md B (mkS (V.te) (V.cn) (V.kd) (V.sz) (V.ky) (V.le) (V.nm) (V.ns) (V.sl) (V.sb) (V.he) (V.dg) (V.su) (V.wi) (V.tu) 0 0 (V.ac) (V.al) (V.sd) (V.ss)) := h9
      clear f_md f_ro f_te f_he f_cn f_kd f_sz f_ky f_le f_dg f_nm f_ns f_sl f_sb f_su f_wi f_tu
      obtain ⟨f_md, f_ro, f_te, f_he, f_cn, f_kd, f_sz, f_ky, f_le, f_dg, f_nm, f_ns, f_sl, f_sb, f_su, f_wi, f_tu, hB, hV⟩ := id hw4
      replace f_md : N3 md = some (.inr (6, [.ref B.ro, .int (nI 0), .ref B.te, .int (nI 0), .int (nI (V.ac)), .int (nI (V.al)), .int (nI (V.sd)), .ref B.he, .ref B.cn, .ref B.kd, .ref B.sz, .ref B.ky, .ref B.le, .ref B.dg, .ref B.nm, .ref B.ns, .ref B.sl, .ref B.sb, .int (nI (V.ss)), .ref B.su, .ref B.wi, .ref B.tu])) := f_md
      replace f_ro : N3 B.ro = some (.inl (ct 1, 72, .inl roF)) := f_ro
      replace f_te : N3 B.te = some (.inl (ct 1, 64, .inl (nf V.te))) := f_te
      replace f_he : N3 B.he = some (.inl (ct 1, 8, .inl (V.he))) := f_he
      replace f_cn : N3 B.cn = some (.inl (ct 1, 12, .inl (nf V.cn))) := f_cn
      replace f_kd : N3 B.kd = some (.inl (ct 1, 288, .inl (nf V.kd))) := f_kd
      replace f_sz : N3 B.sz = some (.inl (ct 1, 288, .inl (nf V.sz))) := f_sz
      replace f_ky : N3 B.ky = some (.inl (ct 1, 288, .inl (nf V.ky))) := f_ky
      replace f_le : N3 B.le = some (.inl (ct 1, 18432, .inl (nf V.le))) := f_le
      replace f_dg : N3 B.dg = some (.inl (ct 1, 2304, .inl (V.dg))) := f_dg
      replace f_nm : N3 B.nm = some (.inl (ct 1, 128, .inl (nf V.nm))) := f_nm
      replace f_ns : N3 B.ns = some (.inl (ct 1, 8, .inl (nf V.ns))) := f_ns
      replace f_sl : N3 B.sl = some (.inl (ct 1, 16, .inl (nf V.sl))) := f_sl
      replace f_sb : N3 B.sb = some (.inl (ct 1, 3000, .inl (nf V.sb))) := f_sb
      replace f_su : N3 B.su = some (.inl (ct 1, 8, .inl (V.su))) := f_su
      replace f_wi : N3 B.wi = some (.inl (ct 1, 64, .inl (V.wi))) := f_wi
      replace f_tu : N3 B.tu = some (.inl (ct 1, 8, .inl (V.tu))) := f_tu
      refine nz_eq (tgt := 25) hx hb d_MD_salt_21 (by decide) (by omega) (fun h6 => ?_) (fun h6 => ?_)
      · refine lv_aload_n hx hb d_MD_salt_25 rfl (lv_at hl 1 rfl) ?_
        refine lv_iload_n hx hb d_MD_salt_26 rfl (lv_at hl 0 rfl) ?_
        refine hp_put (ty := .int) (fs' := [.ref B.ro, .int (nI 0), .ref B.te, .int (nI 0), .int (nI (V.ac)), .int (nI (V.al)), .int (nI (T.length)), .ref B.he, .ref B.cn, .ref B.kd, .ref B.sz, .ref B.ky, .ref B.le, .ref B.dg, .ref B.nm, .ref B.ns, .ref B.sl, .ref B.sb, .int (nI (V.ss)), .ref B.su, .ref B.wi, .ref B.tu]) S hK hM hS i_MD t_MD to_MD n_MD f_md rfl 6 (by decide) mf_MD_186 (fun _ h9 => h9) rfl (by decide +kernel) rfl rfl (by simp) rfl d_MD_salt_27 (fun H locs hM hS => ?_)
        have f_ro := hp_k (e := (.inr (6, [.ref B.ro, .int (nI 0), .ref B.te, .int (nI 0), .int (nI (V.ac)), .int (nI (V.al)), .int (nI (T.length)), .ref B.he, .ref B.cn, .ref B.kd, .ref B.sz, .ref B.ky, .ref B.le, .ref B.dg, .ref B.nm, .ref B.ns, .ref B.sl, .ref B.sb, .int (nI (V.ss)), .ref B.su, .ref B.wi, .ref B.tu]))) (hp_ne f_ro f_md (by simp)) f_ro
        have f_te := hp_k (e := (.inr (6, [.ref B.ro, .int (nI 0), .ref B.te, .int (nI 0), .int (nI (V.ac)), .int (nI (V.al)), .int (nI (T.length)), .ref B.he, .ref B.cn, .ref B.kd, .ref B.sz, .ref B.ky, .ref B.le, .ref B.dg, .ref B.nm, .ref B.ns, .ref B.sl, .ref B.sb, .int (nI (V.ss)), .ref B.su, .ref B.wi, .ref B.tu]))) (hp_ne f_te f_md (by simp)) f_te
        have f_he := hp_k (e := (.inr (6, [.ref B.ro, .int (nI 0), .ref B.te, .int (nI 0), .int (nI (V.ac)), .int (nI (V.al)), .int (nI (T.length)), .ref B.he, .ref B.cn, .ref B.kd, .ref B.sz, .ref B.ky, .ref B.le, .ref B.dg, .ref B.nm, .ref B.ns, .ref B.sl, .ref B.sb, .int (nI (V.ss)), .ref B.su, .ref B.wi, .ref B.tu]))) (hp_ne f_he f_md (by simp)) f_he
        have f_cn := hp_k (e := (.inr (6, [.ref B.ro, .int (nI 0), .ref B.te, .int (nI 0), .int (nI (V.ac)), .int (nI (V.al)), .int (nI (T.length)), .ref B.he, .ref B.cn, .ref B.kd, .ref B.sz, .ref B.ky, .ref B.le, .ref B.dg, .ref B.nm, .ref B.ns, .ref B.sl, .ref B.sb, .int (nI (V.ss)), .ref B.su, .ref B.wi, .ref B.tu]))) (hp_ne f_cn f_md (by simp)) f_cn
        have f_kd := hp_k (e := (.inr (6, [.ref B.ro, .int (nI 0), .ref B.te, .int (nI 0), .int (nI (V.ac)), .int (nI (V.al)), .int (nI (T.length)), .ref B.he, .ref B.cn, .ref B.kd, .ref B.sz, .ref B.ky, .ref B.le, .ref B.dg, .ref B.nm, .ref B.ns, .ref B.sl, .ref B.sb, .int (nI (V.ss)), .ref B.su, .ref B.wi, .ref B.tu]))) (hp_ne f_kd f_md (by simp)) f_kd
        have f_sz := hp_k (e := (.inr (6, [.ref B.ro, .int (nI 0), .ref B.te, .int (nI 0), .int (nI (V.ac)), .int (nI (V.al)), .int (nI (T.length)), .ref B.he, .ref B.cn, .ref B.kd, .ref B.sz, .ref B.ky, .ref B.le, .ref B.dg, .ref B.nm, .ref B.ns, .ref B.sl, .ref B.sb, .int (nI (V.ss)), .ref B.su, .ref B.wi, .ref B.tu]))) (hp_ne f_sz f_md (by simp)) f_sz
        have f_ky := hp_k (e := (.inr (6, [.ref B.ro, .int (nI 0), .ref B.te, .int (nI 0), .int (nI (V.ac)), .int (nI (V.al)), .int (nI (T.length)), .ref B.he, .ref B.cn, .ref B.kd, .ref B.sz, .ref B.ky, .ref B.le, .ref B.dg, .ref B.nm, .ref B.ns, .ref B.sl, .ref B.sb, .int (nI (V.ss)), .ref B.su, .ref B.wi, .ref B.tu]))) (hp_ne f_ky f_md (by simp)) f_ky
        have f_le := hp_k (e := (.inr (6, [.ref B.ro, .int (nI 0), .ref B.te, .int (nI 0), .int (nI (V.ac)), .int (nI (V.al)), .int (nI (T.length)), .ref B.he, .ref B.cn, .ref B.kd, .ref B.sz, .ref B.ky, .ref B.le, .ref B.dg, .ref B.nm, .ref B.ns, .ref B.sl, .ref B.sb, .int (nI (V.ss)), .ref B.su, .ref B.wi, .ref B.tu]))) (hp_ne f_le f_md (by simp)) f_le
        have f_dg := hp_k (e := (.inr (6, [.ref B.ro, .int (nI 0), .ref B.te, .int (nI 0), .int (nI (V.ac)), .int (nI (V.al)), .int (nI (T.length)), .ref B.he, .ref B.cn, .ref B.kd, .ref B.sz, .ref B.ky, .ref B.le, .ref B.dg, .ref B.nm, .ref B.ns, .ref B.sl, .ref B.sb, .int (nI (V.ss)), .ref B.su, .ref B.wi, .ref B.tu]))) (hp_ne f_dg f_md (by simp)) f_dg
        have f_nm := hp_k (e := (.inr (6, [.ref B.ro, .int (nI 0), .ref B.te, .int (nI 0), .int (nI (V.ac)), .int (nI (V.al)), .int (nI (T.length)), .ref B.he, .ref B.cn, .ref B.kd, .ref B.sz, .ref B.ky, .ref B.le, .ref B.dg, .ref B.nm, .ref B.ns, .ref B.sl, .ref B.sb, .int (nI (V.ss)), .ref B.su, .ref B.wi, .ref B.tu]))) (hp_ne f_nm f_md (by simp)) f_nm
        have f_ns := hp_k (e := (.inr (6, [.ref B.ro, .int (nI 0), .ref B.te, .int (nI 0), .int (nI (V.ac)), .int (nI (V.al)), .int (nI (T.length)), .ref B.he, .ref B.cn, .ref B.kd, .ref B.sz, .ref B.ky, .ref B.le, .ref B.dg, .ref B.nm, .ref B.ns, .ref B.sl, .ref B.sb, .int (nI (V.ss)), .ref B.su, .ref B.wi, .ref B.tu]))) (hp_ne f_ns f_md (by simp)) f_ns
        have f_sl := hp_k (e := (.inr (6, [.ref B.ro, .int (nI 0), .ref B.te, .int (nI 0), .int (nI (V.ac)), .int (nI (V.al)), .int (nI (T.length)), .ref B.he, .ref B.cn, .ref B.kd, .ref B.sz, .ref B.ky, .ref B.le, .ref B.dg, .ref B.nm, .ref B.ns, .ref B.sl, .ref B.sb, .int (nI (V.ss)), .ref B.su, .ref B.wi, .ref B.tu]))) (hp_ne f_sl f_md (by simp)) f_sl
        have f_sb := hp_k (e := (.inr (6, [.ref B.ro, .int (nI 0), .ref B.te, .int (nI 0), .int (nI (V.ac)), .int (nI (V.al)), .int (nI (T.length)), .ref B.he, .ref B.cn, .ref B.kd, .ref B.sz, .ref B.ky, .ref B.le, .ref B.dg, .ref B.nm, .ref B.ns, .ref B.sl, .ref B.sb, .int (nI (V.ss)), .ref B.su, .ref B.wi, .ref B.tu]))) (hp_ne f_sb f_md (by simp)) f_sb
        have f_su := hp_k (e := (.inr (6, [.ref B.ro, .int (nI 0), .ref B.te, .int (nI 0), .int (nI (V.ac)), .int (nI (V.al)), .int (nI (T.length)), .ref B.he, .ref B.cn, .ref B.kd, .ref B.sz, .ref B.ky, .ref B.le, .ref B.dg, .ref B.nm, .ref B.ns, .ref B.sl, .ref B.sb, .int (nI (V.ss)), .ref B.su, .ref B.wi, .ref B.tu]))) (hp_ne f_su f_md (by simp)) f_su
        have f_wi := hp_k (e := (.inr (6, [.ref B.ro, .int (nI 0), .ref B.te, .int (nI 0), .int (nI (V.ac)), .int (nI (V.al)), .int (nI (T.length)), .ref B.he, .ref B.cn, .ref B.kd, .ref B.sz, .ref B.ky, .ref B.le, .ref B.dg, .ref B.nm, .ref B.ns, .ref B.sl, .ref B.sb, .int (nI (V.ss)), .ref B.su, .ref B.wi, .ref B.tu]))) (hp_ne f_wi f_md (by simp)) f_wi
        have f_tu := hp_k (e := (.inr (6, [.ref B.ro, .int (nI 0), .ref B.te, .int (nI 0), .int (nI (V.ac)), .int (nI (V.al)), .int (nI (T.length)), .ref B.he, .ref B.cn, .ref B.kd, .ref B.sz, .ref B.ky, .ref B.le, .ref B.dg, .ref B.nm, .ref B.ns, .ref B.sl, .ref B.sb, .int (nI (V.ss)), .ref B.su, .ref B.wi, .ref B.tu]))) (hp_ne f_tu f_md (by simp)) f_tu
        have f_md : hp_up N3 md (.inr (6, [.ref B.ro, .int (nI 0), .ref B.te, .int (nI 0), .int (nI (V.ac)), .int (nI (V.al)), .int (nI (T.length)), .ref B.he, .ref B.cn, .ref B.kd, .ref B.sz, .ref B.ky, .ref B.le, .ref B.dg, .ref B.nm, .ref B.ns, .ref B.sl, .ref B.sb, .int (nI (V.ss)), .ref B.su, .ref B.wi, .ref B.tu])) md = some (.inr (6, [.ref B.ro, .int (nI 0), .ref B.te, .int (nI 0), .int (nI (V.ac)), .int (nI (V.al)), .int (nI (T.length)), .ref B.he, .ref B.cn, .ref B.kd, .ref B.sz, .ref B.ky, .ref B.le, .ref B.dg, .ref B.nm, .ref B.ns, .ref B.sl, .ref B.sb, .int (nI (V.ss)), .ref B.su, .ref B.wi, .ref B.tu])) := hp_us
        obtain ⟨M7, eM7⟩ : ∃ z, z = hp_up N3 md (.inr (6, [.ref B.ro, .int (nI 0), .ref B.te, .int (nI 0), .int (nI (V.ac)), .int (nI (V.al)), .int (nI (T.length)), .ref B.he, .ref B.cn, .ref B.kd, .ref B.sz, .ref B.ky, .ref B.le, .ref B.dg, .ref B.nm, .ref B.ns, .ref B.sl, .ref B.sb, .int (nI (V.ss)), .ref B.su, .ref B.wi, .ref B.tu])) := ⟨_, rfl⟩
        rw [← eM7] at hM f_md f_ro f_te f_he f_cn f_kd f_sz f_ky f_le f_dg f_nm f_ns f_sl f_sb f_su f_wi f_tu
        refine lv_iconst (v := nI 0) hx hb d_MD_salt_30 rfl ?_
        refine lv_istore_n (lv' := [(2, .int (nI 0)), (1, .int (nI (T.length))), (0, .ref md)]) hx hb d_MD_salt_31 rfl hl (by decide) rfl (fun ls hl => ?_)
        replace hl : lv_has ls 3 [(0, .ref md), (1, .int (nI (T.length))), (2, .int (nI 0))] := lv_sub hl [2, 1, 0] rfl
        obtain ⟨k, e9k⟩ : ∃ z : Nat, z = 0 := ⟨_, rfl⟩
        obtain ⟨sl, e9sl⟩ : ∃ z : Nat → Nat, z = V.sl := ⟨_, rfl⟩
        replace hl : lv_has ls 3 [(0, .ref md), (1, .int (nI (T.length))), (2, .int (nI k))] := by subst e9k e9sl; exact hl
        obtain ⟨N8, e9N8⟩ : ∃ z : hp_M, z = M7 := ⟨_, rfl⟩
        replace hM : hp_H D ccl (hp_A M sz) N8 H := by rw [e9N8]; exact hM
        replace f_md : N8 md = some (.inr (6, [.ref B.ro, .int (nI 0), .ref B.te, .int (nI 0), .int (nI (V.ac)), .int (nI (V.al)), .int (nI (T.length)), .ref B.he, .ref B.cn, .ref B.kd, .ref B.sz, .ref B.ky, .ref B.le, .ref B.dg, .ref B.nm, .ref B.ns, .ref B.sl, .ref B.sb, .int (nI (V.ss)), .ref B.su, .ref B.wi, .ref B.tu])) := by rw [e9N8]; exact f_md
        replace f_ro : N8 B.ro = some (.inl (ct 1, 72, .inl roF)) := by rw [e9N8]; exact f_ro
        replace f_te : N8 B.te = some (.inl (ct 1, 64, .inl (nf V.te))) := by rw [e9N8]; exact f_te
        replace f_he : N8 B.he = some (.inl (ct 1, 8, .inl (V.he))) := by rw [e9N8]; exact f_he
        replace f_cn : N8 B.cn = some (.inl (ct 1, 12, .inl (nf V.cn))) := by rw [e9N8]; exact f_cn
        replace f_kd : N8 B.kd = some (.inl (ct 1, 288, .inl (nf V.kd))) := by rw [e9N8]; exact f_kd
        replace f_sz : N8 B.sz = some (.inl (ct 1, 288, .inl (nf V.sz))) := by rw [e9N8]; exact f_sz
        replace f_ky : N8 B.ky = some (.inl (ct 1, 288, .inl (nf V.ky))) := by rw [e9N8]; exact f_ky
        replace f_le : N8 B.le = some (.inl (ct 1, 18432, .inl (nf V.le))) := by rw [e9N8]; exact f_le
        replace f_dg : N8 B.dg = some (.inl (ct 1, 2304, .inl (V.dg))) := by rw [e9N8]; exact f_dg
        replace f_nm : N8 B.nm = some (.inl (ct 1, 128, .inl (nf V.nm))) := by rw [e9N8]; exact f_nm
        replace f_ns : N8 B.ns = some (.inl (ct 1, 8, .inl (nf V.ns))) := by rw [e9N8]; exact f_ns
        replace f_sl : N8 B.sl = some (.inl (ct 1, 16, .inl (nf V.sl))) := by rw [e9N8]; exact f_sl
        replace f_sb : N8 B.sb = some (.inl (ct 1, 3000, .inl (nf V.sb))) := by rw [e9N8]; exact f_sb
        replace f_su : N8 B.su = some (.inl (ct 1, 8, .inl (V.su))) := by rw [e9N8]; exact f_su
        replace f_wi : N8 B.wi = some (.inl (ct 1, 64, .inl (V.wi))) := by rw [e9N8]; exact f_wi
        replace f_tu : N8 B.tu = some (.inl (ct 1, 8, .inl (V.tu))) := by rw [e9N8]; exact f_tu
        replace f_sl : N8 B.sl = some (.inl (ct 1, 16, .inl (nf sl))) := by subst e9k e9sl; exact f_sl
        have hsl : ∀ i, i < k → sl i = T.getD i 0 := by subst e9k e9sl; intro i hi; omega
        have hslb : ∀ i, sl i < 65536 := by subst e9k e9sl; exact b_sl
        obtain ⟨fu1, hn1⟩ : ∃ fu : Nat, k + fu = T.length := ⟨T.length - k, by omega⟩
        clear e9k e9sl e9N8
        induction fu1 generalizing k sl H locs N8 ls with
        | zero =>
          refine lv_iload_n hx hb d_MD_salt_32 rfl (lv_at hl 2 rfl) ?_
          refine lv_iload_n hx hb d_MD_salt_33 rfl (lv_at hl 1 rfl) ?_
          refine nb_ge (tgt := 55) hx hb d_MD_salt_34 (by decide) (by omega) (by omega) (fun h9 => ?_) (fun h9 => ?_)
          · exact hp_vret S hret hlk hM hS (Or.inr ⟨by omega, sl, fun i hi => hsl i (by omega), ⟨f_md, f_ro, f_te, f_he, f_cn, f_kd, f_sz, f_ky, f_le, f_dg, f_nm, f_ns, f_sl, f_sb, f_su, f_wi, f_tu, hB, b_te, b_cn, b_kd, b_sz, b_ky, b_le, b_nm, b_ns, hslb, b_sb, Nat.zero_le _, Nat.zero_le _, b_ac, b_al, by show T.length ≤ 16; omega, b_ss⟩⟩) d_MD_salt_55
          · exact absurd hn1 (by omega)
        | succ fu1 ih1 =>
          refine lv_iload_n hx hb d_MD_salt_32 rfl (lv_at hl 2 rfl) ?_
          refine lv_iload_n hx hb d_MD_salt_33 rfl (lv_at hl 1 rfl) ?_
          refine nb_ge (tgt := 55) hx hb d_MD_salt_34 (by decide) (by omega) (by omega) (fun h10 => ?_) (fun h10 => ?_)
          · exact absurd hn1 (by omega)
          · refine lv_aload_n hx hb d_MD_salt_37 rfl (lv_at hl 0 rfl) ?_
            refine hp_get S hK hM i_MD f_md rfl 16 (by decide) mf_MD_115 (fun _ h9 => h9) rfl d_MD_salt_38 ?_
            refine lv_iload_n hx hb d_MD_salt_41 rfl (lv_at hl 2 rfl) ?_
            refine lv_aload_n hx hb d_MD_salt_42 rfl (lv_at hl 0 rfl) ?_
            refine hp_get S hK hM i_MD f_md rfl 2 (by decide) mf_MD_85 (fun _ h9 => h9) rfl d_MD_salt_43 ?_
            refine lv_iload_n hx hb d_MD_salt_46 rfl (lv_at hl 2 rfl) ?_
            refine hp_iald S hK hM 1 f_te rfl k rfl (by omega) (by omega) d_MD_salt_47 ?_
            refine hp_iast S hK hM hS 1 f_sl rfl k rfl (by omega) (by omega) d_MD_salt_48 (fun H locs hM hS => ?_)
            first | rw [nf_up] at hM | rw [show upd (nf sl) k (nf V.te k) = nf (va_up sl k (V.te k)) from nf_up] at hM
            have f_md := hp_k (e := (.inl (ct 1, 16, .inl (nf (va_up sl k (V.te k)))))) (hp_ne f_md f_sl (by simp)) f_md
            have f_ro := hp_k (e := (.inl (ct 1, 16, .inl (nf (va_up sl k (V.te k)))))) (hp_ne f_ro f_sl (by simp)) f_ro
            have f_te := hp_k (e := (.inl (ct 1, 16, .inl (nf (va_up sl k (V.te k)))))) (hp_ne f_te f_sl (by simp)) f_te
            have f_he := hp_k (e := (.inl (ct 1, 16, .inl (nf (va_up sl k (V.te k)))))) (hp_ne f_he f_sl (by simp)) f_he
            have f_cn := hp_k (e := (.inl (ct 1, 16, .inl (nf (va_up sl k (V.te k)))))) (hp_ne f_cn f_sl (by simp)) f_cn
            have f_kd := hp_k (e := (.inl (ct 1, 16, .inl (nf (va_up sl k (V.te k)))))) (hp_ne f_kd f_sl (by simp)) f_kd
            have f_sz := hp_k (e := (.inl (ct 1, 16, .inl (nf (va_up sl k (V.te k)))))) (hp_ne f_sz f_sl (by simp)) f_sz
            have f_ky := hp_k (e := (.inl (ct 1, 16, .inl (nf (va_up sl k (V.te k)))))) (hp_ne f_ky f_sl (by simp)) f_ky
            have f_le := hp_k (e := (.inl (ct 1, 16, .inl (nf (va_up sl k (V.te k)))))) (hp_ne f_le f_sl (by simp)) f_le
            have f_dg := hp_k (e := (.inl (ct 1, 16, .inl (nf (va_up sl k (V.te k)))))) (hp_ne f_dg f_sl (by simp)) f_dg
            have f_nm := hp_k (e := (.inl (ct 1, 16, .inl (nf (va_up sl k (V.te k)))))) (hp_ne f_nm f_sl (by simp)) f_nm
            have f_ns := hp_k (e := (.inl (ct 1, 16, .inl (nf (va_up sl k (V.te k)))))) (hp_ne f_ns f_sl (by simp)) f_ns
            have f_sb := hp_k (e := (.inl (ct 1, 16, .inl (nf (va_up sl k (V.te k)))))) (hp_ne f_sb f_sl (by simp)) f_sb
            have f_su := hp_k (e := (.inl (ct 1, 16, .inl (nf (va_up sl k (V.te k)))))) (hp_ne f_su f_sl (by simp)) f_su
            have f_wi := hp_k (e := (.inl (ct 1, 16, .inl (nf (va_up sl k (V.te k)))))) (hp_ne f_wi f_sl (by simp)) f_wi
            have f_tu := hp_k (e := (.inl (ct 1, 16, .inl (nf (va_up sl k (V.te k)))))) (hp_ne f_tu f_sl (by simp)) f_tu
            have f_sl : hp_up N8 B.sl (.inl (ct 1, 16, .inl (nf (va_up sl k (V.te k))))) B.sl = some (.inl (ct 1, 16, .inl (nf (va_up sl k (V.te k))))) := hp_us
            obtain ⟨M11, eM11⟩ : ∃ z, z = hp_up N8 B.sl (.inl (ct 1, 16, .inl (nf (va_up sl k (V.te k))))) := ⟨_, rfl⟩
            rw [← eM11] at hM f_md f_ro f_te f_he f_cn f_kd f_sz f_ky f_le f_dg f_nm f_ns f_sl f_sb f_su f_wi f_tu
            refine lv_iinc (v := nI (k + 1)) (lv' := [(2, .int (nI (k + 1))), (0, .ref md), (1, .int (nI (T.length)))]) hx hb d_MD_salt_49 hl (k := 2) rfl (nI_add k 1) (by decide) rfl (fun ls hl => ?_)
            refine lv_goto (tgt := 32) hx hb d_MD_salt_52 (by decide) ?_
            exact ih1 (ls := ls) (hl := lv_sub hl [1, 2, 0] rfl) (hn1 := by omega) (k := k + 1) (sl := va_up sl k (V.te k)) (hsl := lt_s (fun i hi => by rw [up_n (Nat.ne_of_lt hi)]; exact hsl i hi) (by rw [up_s]; exact hte k (by omega))) (hslb := up_lt hslb (b_te k)) (H := H) (locs := locs) (hM := hM) (hS := hS) (N8 := M11) (f_md := f_md) (f_ro := f_ro) (f_te := f_te) (f_he := f_he) (f_cn := f_cn) (f_kd := f_kd) (f_sz := f_sz) (f_ky := f_ky) (f_le := f_le) (f_dg := f_dg) (f_nm := f_nm) (f_ns := f_ns) (f_sl := f_sl) (f_sb := f_sb) (f_su := f_su) (f_wi := f_wi) (f_tu := f_tu)
      · exact absurd rfl h6
  · refine lv_iload_n hx hb d_MD_salt_6 rfl (lv_at hl 0 rfl) ?_
    refine lv_bipush (v := nI 16) hx hb d_MD_salt_7 rfl ?_
    refine nb_le (tgt := 16) hx hb d_MD_salt_9 (by decide) (by omega) (by omega) (fun h16 => ?_) (fun h16 => ?_)
    · refine lv_iconst (v := nI 0) hx hb d_MD_salt_16 rfl ?_
      exact hjv2 _ H _ hM hS (bo_f (by omega))
    · refine lv_iconst (v := nI 1) hx hb d_MD_salt_12 rfl ?_
      refine lv_goto (tgt := 17) hx hb d_MD_salt_13 (by decide) ?_
      exact hjv2 _ H _ hM hS (bo_t (by omega))
theorem alQ {V : MS} {K T : List Nat} {k j : Nat} (h : V.ns k = K.length ∧ K.length ≤ 16 ∧ ∀ i, i < K.length → V.nm (16 * k + i) = K.getD i 0) (q : V.ns k = T.length ∧ ∀ i, i < j → V.nm (16 * k + i) = T.getD i 0) (hj : T.length ≤ j) : K = T := by
  have hl : K.length = T.length := h.1.symm.trans q.1
  exact leq hl (fun i hi => by rw [← h.2.2 i hi]; exact q.2 i (by omega))
theorem alQ2 {V : MS} {K T : List Nat} {k j : Nat} (h : V.ns k = K.length ∧ K.length ≤ 16 ∧ ∀ i, i < K.length → V.nm (16 * k + i) = K.getD i 0) (q : K = T) (hj : j ≤ T.length) : V.ns k = T.length ∧ ∀ i, i < j → V.nm (16 * k + i) = T.getD i 0 := by
  subst q
  exact ⟨h.1, fun i hi => h.2.2 i (by omega)⟩
set_option maxHeartbeats 4000000 in
set_option maxRecDepth 100000 in
/-- allow() -/
theorem c_MD_allow (l : Launch) (D : va_G) (ct : Nat → ClassId) (Z : hp_Z) (hZ : hp_Zok Z) (M : hp_M) (sz : Nat) (md : Nat) (B : MA) (V : MS) (hw : mdS ct M md B V) (T : List Nat) (hty : V.ty = T.length) (hte : ∀ i, i < T.length → V.te i = T.getD i 0) (hT64 : T.length ≤ 64) (hcT : ∀ i, T.getD i 0 < 65536) (Al : List (List Nat)) (hnA : nmA V Al) : Mv l y_MD_allow b_MD_allow 7 none 2 43 0 0 [.ref md] D ct Z M sz (fun M1 => (¬ isNam T T.length ∧ mdS ct M1 md B (mkS (V.te) (V.cn) (V.kd) (V.sz) (V.ky) (V.le) (V.nm) (V.ns) (V.sl) (V.sb) (V.he) (V.dg) (V.su) (V.wi) (V.tu) 1 0 (V.ac) (V.al) (V.sd) (V.ss))) ∨ (isNam T T.length ∧ ((∃ i, i < Al.length ∧ Al.getD i [] = T) ∨ 8 ≤ Al.length) ∧ mdS ct M1 md B (mkS (V.te) (V.cn) (V.kd) (V.sz) (V.ky) (V.le) (V.nm) (V.ns) (V.sl) (V.sb) (V.he) (V.dg) (V.su) (V.wi) (V.tu) 2 0 (V.ac) (V.al) (V.sd) (V.ss))) ∨ (isNam T T.length ∧ (¬ ∃ i, i < Al.length ∧ Al.getD i [] = T) ∧ Al.length < 8 ∧ ∃ ns nm, mdS ct M1 md B (mkS (V.te) (V.cn) (V.kd) (V.sz) (V.ky) (V.le) nm ns (V.sl) (V.sb) (V.he) (V.dg) (V.su) (V.wi) (V.tu) 0 0 (V.ac) (Al.length + 1) (V.sd) (V.ss)) ∧ nmA (mkS (V.te) (V.cn) (V.kd) (V.sz) (V.ky) (V.le) nm ns (V.sl) (V.sb) (V.he) (V.dg) (V.su) (V.wi) (V.tu) 0 0 (V.ac) (Al.length + 1) (V.sd) (V.ss)) (Al ++ [T]))) := by
  refine hp_start (by decide) (Nat.le_of_ble_eq_true rfl) (fun p e s m below meth c ls S hret hlk hnm hsz hK hM hS hA hz hl => ?_)
  have hx := S.1
  have hb := S.2.1
  have hl : lv_has ls 7 [(0, .ref md)] := hl
  obtain ⟨f_md, f_ro, f_te, f_he, f_cn, f_kd, f_sz, f_ky, f_le, f_dg, f_nm, f_ns, f_sl, f_sb, f_su, f_wi, f_tu, hB, hV⟩ := id hw
  obtain ⟨n_kdsz, n_kdky, n_szky, n_hens, n_hesu, n_hetu, n_nssu, n_nstu, n_sutu, n_tewi⟩ := id hB
  obtain ⟨b_te, b_cn, b_kd, b_sz, b_ky, b_le, b_nm, b_ns, b_sl, b_sb, b_co, b_ty, b_ac, b_al, b_sd, b_ss⟩ := id hV
  obtain ⟨hal, hal8, hnk⟩ := id hnA
  refine lv_aload_n hx hb d_MD_allow_0 rfl (lv_at hl 0 rfl) ?_
  refine hp_calli (go_V S hZ hK hM hS hA hz (c_MD_takes l D ct Z hZ _ _ md B V hw) mc_MD_takes mz_MD ml_MD_164 mi_MD_takes mx_MD_takes hd_MD_takes rfl ⟨by decide, by decide⟩ f_md rfl rfl hl.1 rfl (Nat.le_of_ble_eq_true rfl) d_MD_allow_1 ⟨by decide, by decide⟩) hM hS hA (fun r9 M9 H locs h9 hM hS => ?_)
  obtain ⟨N1, eN1⟩ : ∃ z, z = M9 := ⟨_, rfl⟩
  rw [← eN1] at hM h9
  have hw2 : mdS ct N1 md B (mkS (V.te) (V.cn) (V.kd) (V.sz) (V.ky) (V.le) (V.nm) (V.ns) (V.sl) (V.sb) (V.he) (V.dg) (V.su) (V.wi) (V.tu) (V.co) 0 (V.ac) (V.al) (V.sd) (V.ss)) := h9.2
  clear f_md f_ro f_te f_he f_cn f_kd f_sz f_ky f_le f_dg f_nm f_ns f_sl f_sb f_su f_wi f_tu
  obtain ⟨f_md, f_ro, f_te, f_he, f_cn, f_kd, f_sz, f_ky, f_le, f_dg, f_nm, f_ns, f_sl, f_sb, f_su, f_wi, f_tu, hB, hV⟩ := id hw2
  replace f_md : N1 md = some (.inr (6, [.ref B.ro, .int (nI (V.co)), .ref B.te, .int (nI 0), .int (nI (V.ac)), .int (nI (V.al)), .int (nI (V.sd)), .ref B.he, .ref B.cn, .ref B.kd, .ref B.sz, .ref B.ky, .ref B.le, .ref B.dg, .ref B.nm, .ref B.ns, .ref B.sl, .ref B.sb, .int (nI (V.ss)), .ref B.su, .ref B.wi, .ref B.tu])) := f_md
  replace f_ro : N1 B.ro = some (.inl (ct 1, 72, .inl roF)) := f_ro
  replace f_te : N1 B.te = some (.inl (ct 1, 64, .inl (nf V.te))) := f_te
  replace f_he : N1 B.he = some (.inl (ct 1, 8, .inl (V.he))) := f_he
  replace f_cn : N1 B.cn = some (.inl (ct 1, 12, .inl (nf V.cn))) := f_cn
  replace f_kd : N1 B.kd = some (.inl (ct 1, 288, .inl (nf V.kd))) := f_kd
  replace f_sz : N1 B.sz = some (.inl (ct 1, 288, .inl (nf V.sz))) := f_sz
  replace f_ky : N1 B.ky = some (.inl (ct 1, 288, .inl (nf V.ky))) := f_ky
  replace f_le : N1 B.le = some (.inl (ct 1, 18432, .inl (nf V.le))) := f_le
  replace f_dg : N1 B.dg = some (.inl (ct 1, 2304, .inl (V.dg))) := f_dg
  replace f_nm : N1 B.nm = some (.inl (ct 1, 128, .inl (nf V.nm))) := f_nm
  replace f_ns : N1 B.ns = some (.inl (ct 1, 8, .inl (nf V.ns))) := f_ns
  replace f_sl : N1 B.sl = some (.inl (ct 1, 16, .inl (nf V.sl))) := f_sl
  replace f_sb : N1 B.sb = some (.inl (ct 1, 3000, .inl (nf V.sb))) := f_sb
  replace f_su : N1 B.su = some (.inl (ct 1, 8, .inl (V.su))) := f_su
  replace f_wi : N1 B.wi = some (.inl (ct 1, 64, .inl (V.wi))) := f_wi
  replace f_tu : N1 B.tu = some (.inl (ct 1, 8, .inl (V.tu))) := f_tu
  rw [h9.1, hty]
  refine lv_istore_n (lv' := [(1, .int (nI (T.length))), (0, .ref md)]) hx hb d_MD_allow_4 rfl hl (by decide) rfl (fun ls hl => ?_)
  refine w_join hM hS (P := fun z => bo z (¬ isNam T T.length)) (pc2 := 18) (rest := []) (fun v2 H locs hM hS hv2 => ?_) (fun hjv2 => ?_)
  · refine lv_istore_n (lv' := [(2, .int v2), (1, .int (nI (T.length))), (0, .ref md)]) hx hb d_MD_allow_18 rfl hl (by decide) rfl (fun ls hl => ?_)
    refine lv_iconst (v := nI 0) hx hb d_MD_allow_19 rfl ?_
    refine lv_istore_n (lv' := [(3, .int (nI 0)), (2, .int v2), (1, .int (nI (T.length))), (0, .ref md)]) hx hb d_MD_allow_20 rfl hl (by decide) rfl (fun ls hl => ?_)
    refine lv_iconst (v := nI 0) hx hb d_MD_allow_21 rfl ?_
    refine lv_istore (lv' := [(4, .int (nI 0)), (3, .int (nI 0)), (2, .int v2), (1, .int (nI (T.length))), (0, .ref md)]) hx hb d_MD_allow_22 hl (by decide) rfl (fun ls hl => ?_)
    replace hl : lv_has ls 7 [(0, .ref md), (1, .int (nI (T.length))), (2, .int v2), (3, .int (nI 0)), (4, .int (nI 0))] := lv_sub hl [4, 3, 2, 1, 0] rfl
    obtain ⟨k, e9k⟩ : ∃ z : Nat, z = 0 := ⟨_, rfl⟩
    obtain ⟨v, e9v⟩ : ∃ z : Int32, z = nI 0 := ⟨_, rfl⟩
    replace hl : lv_has ls 7 [(0, .ref md), (1, .int (nI (T.length))), (2, .int v2), (3, .int v), (4, .int (nI k))] := by subst e9k e9v; exact hl
    have hkA : k ≤ Al.length := by subst e9k e9v; exact Nat.zero_le _
    have hv : bo v (∃ i, i < k ∧ Al.getD i [] = T) := by subst e9k e9v; exact bo_f (fun ⟨i, a, q⟩ => absurd a (Nat.not_lt_zero i))
    obtain ⟨fu1, hn1⟩ : ∃ fu : Nat, Al.length ≤ k + fu := ⟨Al.length, by omega⟩
    clear e9k e9v
    induction fu1 generalizing k v H locs ls with
    | zero =>
      refine lv_iload hx hb d_MD_allow_24 (lv_at hl 4 rfl) ?_
      refine lv_aload_n hx hb d_MD_allow_26 rfl (lv_at hl 0 rfl) ?_
      refine hp_get S hK hM i_MD f_md rfl 5 (by decide) mf_MD_183 (fun _ h9 => h9) rfl d_MD_allow_27 ?_
      refine nb_ge (tgt := 126) hx hb d_MD_allow_30 (by decide) (by omega) (by omega) (fun hkn => ?_) (fun hkn => ?_)
      · have hv9 : isNam T T.length → bo v (∃ i, i < Al.length ∧ Al.getD i [] = T) := fun z => by first | exact absurd z hbd | exact bo_iff hv ⟨fun ⟨i, a, q⟩ => ⟨i, by omega, q⟩, fun ⟨i, a, q⟩ => ⟨i, by omega, q⟩⟩
        refine lv_aload_n hx hb d_MD_allow_126 rfl (lv_at hl 0 rfl) ?_
        refine lv_iload_n hx hb d_MD_allow_127 rfl (lv_at hl 2 rfl) ?_
        have hbv : bo v (v = nI 1) := by rcases hv with ⟨-, e⟩ | ⟨-, e⟩; (rw [e]; exact bo_t rfl); (rw [e]; exact bo_f (by decide))
        refine w_join hM hS (P := fun z => bo z (v = nI 1 ∨ 8 ≤ Al.length)) (pc2 := 146) (rest := [.int v2, .ref md]) (fun v3 H locs hM hS hv3 => ?_) (fun hjv3 => ?_)
        · refine hp_calli (go_V S hZ hK hM hS hA hz (c_MD_refuses l D ct Z hZ _ _ md B (mkS (V.te) (V.cn) (V.kd) (V.sz) (V.ky) (V.le) (V.nm) (V.ns) (V.sl) (V.sb) (V.he) (V.dg) (V.su) (V.wi) (V.tu) (V.co) 0 (V.ac) (V.al) (V.sd) (V.ss)) hw2 v2 v3 (¬ isNam T T.length) (v = nI 1 ∨ 8 ≤ Al.length) (hv2) (hv3)) mc_MD_refuses mz_MD ml_MD_178 mi_MD_refuses mx_MD_refuses hd_MD_refuses rfl ⟨by decide, by decide⟩ f_md rfl rfl hl.1 rfl (Nat.le_of_ble_eq_true rfl) d_MD_allow_146 ⟨by decide, by decide⟩) hM hS hA (fun r9 M9 H locs h9 hM hS => ?_)
          obtain ⟨N4, eN4⟩ : ∃ z, z = M9 := ⟨_, rfl⟩
          rw [← eN4] at hM h9
          rcases h9 with ⟨hp1, er, h9⟩ | ⟨hp1, hp2, er, h9⟩ | ⟨hp1, hp2, er, h9⟩
          · subst er
            have hw4 : mdS ct N4 md B (mkS (V.te) (V.cn) (V.kd) (V.sz) (V.ky) (V.le) (V.nm) (V.ns) (V.sl) (V.sb) (V.he) (V.dg) (V.su) (V.wi) (V.tu) 1 0 (V.ac) (V.al) (V.sd) (V.ss)) := h9
            clear f_md f_ro f_te f_he f_cn f_kd f_sz f_ky f_le f_dg f_nm f_ns f_sl f_sb f_su f_wi f_tu
            obtain ⟨f_md, f_ro, f_te, f_he, f_cn, f_kd, f_sz, f_ky, f_le, f_dg, f_nm, f_ns, f_sl, f_sb, f_su, f_wi, f_tu, hB, hV⟩ := id hw4
            replace f_md : N4 md = some (.inr (6, [.ref B.ro, .int (nI 1), .ref B.te, .int (nI 0), .int (nI (V.ac)), .int (nI (V.al)), .int (nI (V.sd)), .ref B.he, .ref B.cn, .ref B.kd, .ref B.sz, .ref B.ky, .ref B.le, .ref B.dg, .ref B.nm, .ref B.ns, .ref B.sl, .ref B.sb, .int (nI (V.ss)), .ref B.su, .ref B.wi, .ref B.tu])) := f_md
            replace f_ro : N4 B.ro = some (.inl (ct 1, 72, .inl roF)) := f_ro
            replace f_te : N4 B.te = some (.inl (ct 1, 64, .inl (nf V.te))) := f_te
            replace f_he : N4 B.he = some (.inl (ct 1, 8, .inl (V.he))) := f_he
            replace f_cn : N4 B.cn = some (.inl (ct 1, 12, .inl (nf V.cn))) := f_cn
            replace f_kd : N4 B.kd = some (.inl (ct 1, 288, .inl (nf V.kd))) := f_kd
            replace f_sz : N4 B.sz = some (.inl (ct 1, 288, .inl (nf V.sz))) := f_sz
            replace f_ky : N4 B.ky = some (.inl (ct 1, 288, .inl (nf V.ky))) := f_ky
            replace f_le : N4 B.le = some (.inl (ct 1, 18432, .inl (nf V.le))) := f_le
            replace f_dg : N4 B.dg = some (.inl (ct 1, 2304, .inl (V.dg))) := f_dg
            replace f_nm : N4 B.nm = some (.inl (ct 1, 128, .inl (nf V.nm))) := f_nm
            replace f_ns : N4 B.ns = some (.inl (ct 1, 8, .inl (nf V.ns))) := f_ns
            replace f_sl : N4 B.sl = some (.inl (ct 1, 16, .inl (nf V.sl))) := f_sl
            replace f_sb : N4 B.sb = some (.inl (ct 1, 3000, .inl (nf V.sb))) := f_sb
            replace f_su : N4 B.su = some (.inl (ct 1, 8, .inl (V.su))) := f_su
            replace f_wi : N4 B.wi = some (.inl (ct 1, 64, .inl (V.wi))) := f_wi
            replace f_tu : N4 B.tu = some (.inl (ct 1, 8, .inl (V.tu))) := f_tu
            refine nz_eq (tgt := 153) hx hb d_MD_allow_149 (by decide) (by omega) (fun h5 => ?_) (fun h5 => ?_)
            · exact absurd h5 (by decide)
            · exact hp_vret S hret hlk hM hS (Or.inl ⟨hp1, hw4⟩) d_MD_allow_152
          · subst er
            have hw4 : mdS ct N4 md B (mkS (V.te) (V.cn) (V.kd) (V.sz) (V.ky) (V.le) (V.nm) (V.ns) (V.sl) (V.sb) (V.he) (V.dg) (V.su) (V.wi) (V.tu) 2 0 (V.ac) (V.al) (V.sd) (V.ss)) := h9
            clear f_md f_ro f_te f_he f_cn f_kd f_sz f_ky f_le f_dg f_nm f_ns f_sl f_sb f_su f_wi f_tu
            obtain ⟨f_md, f_ro, f_te, f_he, f_cn, f_kd, f_sz, f_ky, f_le, f_dg, f_nm, f_ns, f_sl, f_sb, f_su, f_wi, f_tu, hB, hV⟩ := id hw4
            replace f_md : N4 md = some (.inr (6, [.ref B.ro, .int (nI 2), .ref B.te, .int (nI 0), .int (nI (V.ac)), .int (nI (V.al)), .int (nI (V.sd)), .ref B.he, .ref B.cn, .ref B.kd, .ref B.sz, .ref B.ky, .ref B.le, .ref B.dg, .ref B.nm, .ref B.ns, .ref B.sl, .ref B.sb, .int (nI (V.ss)), .ref B.su, .ref B.wi, .ref B.tu])) := f_md
            replace f_ro : N4 B.ro = some (.inl (ct 1, 72, .inl roF)) := f_ro
            replace f_te : N4 B.te = some (.inl (ct 1, 64, .inl (nf V.te))) := f_te
            replace f_he : N4 B.he = some (.inl (ct 1, 8, .inl (V.he))) := f_he
            replace f_cn : N4 B.cn = some (.inl (ct 1, 12, .inl (nf V.cn))) := f_cn
            replace f_kd : N4 B.kd = some (.inl (ct 1, 288, .inl (nf V.kd))) := f_kd
            replace f_sz : N4 B.sz = some (.inl (ct 1, 288, .inl (nf V.sz))) := f_sz
            replace f_ky : N4 B.ky = some (.inl (ct 1, 288, .inl (nf V.ky))) := f_ky
            replace f_le : N4 B.le = some (.inl (ct 1, 18432, .inl (nf V.le))) := f_le
            replace f_dg : N4 B.dg = some (.inl (ct 1, 2304, .inl (V.dg))) := f_dg
            replace f_nm : N4 B.nm = some (.inl (ct 1, 128, .inl (nf V.nm))) := f_nm
            replace f_ns : N4 B.ns = some (.inl (ct 1, 8, .inl (nf V.ns))) := f_ns
            replace f_sl : N4 B.sl = some (.inl (ct 1, 16, .inl (nf V.sl))) := f_sl
            replace f_sb : N4 B.sb = some (.inl (ct 1, 3000, .inl (nf V.sb))) := f_sb
            replace f_su : N4 B.su = some (.inl (ct 1, 8, .inl (V.su))) := f_su
            replace f_wi : N4 B.wi = some (.inl (ct 1, 64, .inl (V.wi))) := f_wi
            replace f_tu : N4 B.tu = some (.inl (ct 1, 8, .inl (V.tu))) := f_tu
            refine nz_eq (tgt := 153) hx hb d_MD_allow_149 (by decide) (by omega) (fun h6 => ?_) (fun h6 => ?_)
            · exact absurd h6 (by decide)
            · have hnm1 : isNam T T.length := Classical.byContradiction hp1
              exact hp_vret S hret hlk hM hS (Or.inr (Or.inl ⟨hnm1, hp2.imp (fun q => by rcases hv9 hnm1 with z | z; (exact z.1); (rw [z.2] at q; exact absurd q (by decide))) id, hw4⟩)) d_MD_allow_152
          · subst er
            have hw4 : mdS ct N4 md B (mkS (V.te) (V.cn) (V.kd) (V.sz) (V.ky) (V.le) (V.nm) (V.ns) (V.sl) (V.sb) (V.he) (V.dg) (V.su) (V.wi) (V.tu) 0 0 (V.ac) (V.al) (V.sd) (V.ss)) := h9
            clear f_md f_ro f_te f_he f_cn f_kd f_sz f_ky f_le f_dg f_nm f_ns f_sl f_sb f_su f_wi f_tu
            obtain ⟨f_md, f_ro, f_te, f_he, f_cn, f_kd, f_sz, f_ky, f_le, f_dg, f_nm, f_ns, f_sl, f_sb, f_su, f_wi, f_tu, hB, hV⟩ := id hw4
            replace f_md : N4 md = some (.inr (6, [.ref B.ro, .int (nI 0), .ref B.te, .int (nI 0), .int (nI (V.ac)), .int (nI (V.al)), .int (nI (V.sd)), .ref B.he, .ref B.cn, .ref B.kd, .ref B.sz, .ref B.ky, .ref B.le, .ref B.dg, .ref B.nm, .ref B.ns, .ref B.sl, .ref B.sb, .int (nI (V.ss)), .ref B.su, .ref B.wi, .ref B.tu])) := f_md
            replace f_ro : N4 B.ro = some (.inl (ct 1, 72, .inl roF)) := f_ro
            replace f_te : N4 B.te = some (.inl (ct 1, 64, .inl (nf V.te))) := f_te
            replace f_he : N4 B.he = some (.inl (ct 1, 8, .inl (V.he))) := f_he
            replace f_cn : N4 B.cn = some (.inl (ct 1, 12, .inl (nf V.cn))) := f_cn
            replace f_kd : N4 B.kd = some (.inl (ct 1, 288, .inl (nf V.kd))) := f_kd
            replace f_sz : N4 B.sz = some (.inl (ct 1, 288, .inl (nf V.sz))) := f_sz
            replace f_ky : N4 B.ky = some (.inl (ct 1, 288, .inl (nf V.ky))) := f_ky
            replace f_le : N4 B.le = some (.inl (ct 1, 18432, .inl (nf V.le))) := f_le
            replace f_dg : N4 B.dg = some (.inl (ct 1, 2304, .inl (V.dg))) := f_dg
            replace f_nm : N4 B.nm = some (.inl (ct 1, 128, .inl (nf V.nm))) := f_nm
            replace f_ns : N4 B.ns = some (.inl (ct 1, 8, .inl (nf V.ns))) := f_ns
            replace f_sl : N4 B.sl = some (.inl (ct 1, 16, .inl (nf V.sl))) := f_sl
            replace f_sb : N4 B.sb = some (.inl (ct 1, 3000, .inl (nf V.sb))) := f_sb
            replace f_su : N4 B.su = some (.inl (ct 1, 8, .inl (V.su))) := f_su
            replace f_wi : N4 B.wi = some (.inl (ct 1, 64, .inl (V.wi))) := f_wi
            replace f_tu : N4 B.tu = some (.inl (ct 1, 8, .inl (V.tu))) := f_tu
            refine nz_eq (tgt := 153) hx hb d_MD_allow_149 (by decide) (by omega) (fun h7 => ?_) (fun h7 => ?_)
            · refine lv_aload_n hx hb d_MD_allow_153 rfl (lv_at hl 0 rfl) ?_
              refine hp_get S hK hM i_MD f_md rfl 15 (by decide) mf_MD_112 (fun _ h9 => h9) rfl d_MD_allow_154 ?_
              refine lv_aload_n hx hb d_MD_allow_157 rfl (lv_at hl 0 rfl) ?_
              refine hp_get S hK hM i_MD f_md rfl 5 (by decide) mf_MD_183 (fun _ h9 => h9) rfl d_MD_allow_158 ?_
              refine lv_iload_n hx hb d_MD_allow_161 rfl (lv_at hl 1 rfl) ?_
              refine hp_iast S hK hM hS 1 f_ns rfl (V.al) rfl (by omega) (by omega) d_MD_allow_162 (fun H locs hM hS => ?_)
              rw [nf_up] at hM
              have f_md := hp_k (e := (.inl (ct 1, 8, .inl (nf (va_up (V.ns) (V.al) (T.length)))))) (hp_ne f_md f_ns (by simp)) f_md
              have f_ro := hp_k (e := (.inl (ct 1, 8, .inl (nf (va_up (V.ns) (V.al) (T.length)))))) (hp_ne f_ro f_ns (by simp)) f_ro
              have f_te := hp_k (e := (.inl (ct 1, 8, .inl (nf (va_up (V.ns) (V.al) (T.length)))))) (hp_ne f_te f_ns (by simp)) f_te
              have f_he := hp_k (e := (.inl (ct 1, 8, .inl (nf (va_up (V.ns) (V.al) (T.length)))))) n_hens f_he
              have f_cn := hp_k (e := (.inl (ct 1, 8, .inl (nf (va_up (V.ns) (V.al) (T.length)))))) (hp_ne f_cn f_ns (by simp)) f_cn
              have f_kd := hp_k (e := (.inl (ct 1, 8, .inl (nf (va_up (V.ns) (V.al) (T.length)))))) (hp_ne f_kd f_ns (by simp)) f_kd
              have f_sz := hp_k (e := (.inl (ct 1, 8, .inl (nf (va_up (V.ns) (V.al) (T.length)))))) (hp_ne f_sz f_ns (by simp)) f_sz
              have f_ky := hp_k (e := (.inl (ct 1, 8, .inl (nf (va_up (V.ns) (V.al) (T.length)))))) (hp_ne f_ky f_ns (by simp)) f_ky
              have f_le := hp_k (e := (.inl (ct 1, 8, .inl (nf (va_up (V.ns) (V.al) (T.length)))))) (hp_ne f_le f_ns (by simp)) f_le
              have f_dg := hp_k (e := (.inl (ct 1, 8, .inl (nf (va_up (V.ns) (V.al) (T.length)))))) (hp_ne f_dg f_ns (by simp)) f_dg
              have f_nm := hp_k (e := (.inl (ct 1, 8, .inl (nf (va_up (V.ns) (V.al) (T.length)))))) (hp_ne f_nm f_ns (by simp)) f_nm
              have f_sl := hp_k (e := (.inl (ct 1, 8, .inl (nf (va_up (V.ns) (V.al) (T.length)))))) (hp_ne f_sl f_ns (by simp)) f_sl
              have f_sb := hp_k (e := (.inl (ct 1, 8, .inl (nf (va_up (V.ns) (V.al) (T.length)))))) (hp_ne f_sb f_ns (by simp)) f_sb
              have f_su := hp_k (e := (.inl (ct 1, 8, .inl (nf (va_up (V.ns) (V.al) (T.length)))))) (Ne.symm n_nssu) f_su
              have f_wi := hp_k (e := (.inl (ct 1, 8, .inl (nf (va_up (V.ns) (V.al) (T.length)))))) (hp_ne f_wi f_ns (by simp)) f_wi
              have f_tu := hp_k (e := (.inl (ct 1, 8, .inl (nf (va_up (V.ns) (V.al) (T.length)))))) (Ne.symm n_nstu) f_tu
              have f_ns : hp_up N4 B.ns (.inl (ct 1, 8, .inl (nf (va_up (V.ns) (V.al) (T.length))))) B.ns = some (.inl (ct 1, 8, .inl (nf (va_up (V.ns) (V.al) (T.length))))) := hp_us
              obtain ⟨M8, eM8⟩ : ∃ z, z = hp_up N4 B.ns (.inl (ct 1, 8, .inl (nf (va_up (V.ns) (V.al) (T.length))))) := ⟨_, rfl⟩
              rw [← eM8] at hM f_md f_ro f_te f_he f_cn f_kd f_sz f_ky f_le f_dg f_nm f_ns f_sl f_sb f_su f_wi f_tu
              refine lv_iconst (v := nI 0) hx hb d_MD_allow_163 rfl ?_
              refine lv_istore (lv' := [(4, .int (nI 0)), (0, .ref md), (1, .int (nI (T.length))), (2, .int v2), (3, .int v)]) hx hb d_MD_allow_164 hl (by decide) rfl (fun ls hl => ?_)
              have hnm1 : isNam T T.length := Classical.byContradiction hp1
              have hno : ¬ ∃ i, i < Al.length ∧ Al.getD i [] = T := fun q => hp2 (Or.inl (by rcases hv9 hnm1 with z | z; (exact z.2); (exact absurd q z.1)))
              have h16 := hnm1.2.1
              have hl8 : Al.length < 8 := Nat.lt_of_not_le (fun q => hp2 (Or.inr q))
              rw [hal] at f_md f_ns
              replace hl : lv_has ls 7 [(0, .ref md), (1, .int (nI (T.length))), (4, .int (nI 0))] := lv_sub hl [1, 2, 0] rfl
              obtain ⟨i9, e9i9⟩ : ∃ z : Nat, z = 0 := ⟨_, rfl⟩
              obtain ⟨nm, e9nm⟩ : ∃ z : Nat → Nat, z = V.nm := ⟨_, rfl⟩
              replace hl : lv_has ls 7 [(0, .ref md), (1, .int (nI (T.length))), (4, .int (nI i9))] := by subst e9i9 e9nm; exact hl
              obtain ⟨N9, e9N9⟩ : ∃ z : hp_M, z = M8 := ⟨_, rfl⟩
              replace hM : hp_H D ccl (hp_A M sz) N9 H := by rw [e9N9]; exact hM
              replace f_md : N9 md = some (.inr (6, [.ref B.ro, .int (nI 0), .ref B.te, .int (nI 0), .int (nI (V.ac)), .int (nI (Al.length)), .int (nI (V.sd)), .ref B.he, .ref B.cn, .ref B.kd, .ref B.sz, .ref B.ky, .ref B.le, .ref B.dg, .ref B.nm, .ref B.ns, .ref B.sl, .ref B.sb, .int (nI (V.ss)), .ref B.su, .ref B.wi, .ref B.tu])) := by rw [e9N9]; exact f_md
              replace f_ro : N9 B.ro = some (.inl (ct 1, 72, .inl roF)) := by rw [e9N9]; exact f_ro
              replace f_te : N9 B.te = some (.inl (ct 1, 64, .inl (nf V.te))) := by rw [e9N9]; exact f_te
              replace f_he : N9 B.he = some (.inl (ct 1, 8, .inl (V.he))) := by rw [e9N9]; exact f_he
              replace f_cn : N9 B.cn = some (.inl (ct 1, 12, .inl (nf V.cn))) := by rw [e9N9]; exact f_cn
              replace f_kd : N9 B.kd = some (.inl (ct 1, 288, .inl (nf V.kd))) := by rw [e9N9]; exact f_kd
              replace f_sz : N9 B.sz = some (.inl (ct 1, 288, .inl (nf V.sz))) := by rw [e9N9]; exact f_sz
              replace f_ky : N9 B.ky = some (.inl (ct 1, 288, .inl (nf V.ky))) := by rw [e9N9]; exact f_ky
              replace f_le : N9 B.le = some (.inl (ct 1, 18432, .inl (nf V.le))) := by rw [e9N9]; exact f_le
              replace f_dg : N9 B.dg = some (.inl (ct 1, 2304, .inl (V.dg))) := by rw [e9N9]; exact f_dg
              replace f_nm : N9 B.nm = some (.inl (ct 1, 128, .inl (nf V.nm))) := by rw [e9N9]; exact f_nm
              replace f_ns : N9 B.ns = some (.inl (ct 1, 8, .inl (nf (va_up V.ns Al.length T.length)))) := by rw [e9N9]; exact f_ns
              replace f_sl : N9 B.sl = some (.inl (ct 1, 16, .inl (nf V.sl))) := by rw [e9N9]; exact f_sl
              replace f_sb : N9 B.sb = some (.inl (ct 1, 3000, .inl (nf V.sb))) := by rw [e9N9]; exact f_sb
              replace f_su : N9 B.su = some (.inl (ct 1, 8, .inl (V.su))) := by rw [e9N9]; exact f_su
              replace f_wi : N9 B.wi = some (.inl (ct 1, 64, .inl (V.wi))) := by rw [e9N9]; exact f_wi
              replace f_tu : N9 B.tu = some (.inl (ct 1, 8, .inl (V.tu))) := by rw [e9N9]; exact f_tu
              replace f_nm : N9 B.nm = some (.inl (ct 1, 128, .inl (nf nm))) := by subst e9i9 e9nm; exact f_nm
              have hnm3 : ∀ i, i < i9 → nm (16 * Al.length + i) = T.getD i 0 := by subst e9i9 e9nm; intro i hi; omega
              have hnm2 : ∀ q, q < 16 * Al.length → nm q = V.nm q := by subst e9i9 e9nm; intro q hq; rfl
              have hnmb : ∀ i, nm i < 65536 := by subst e9i9 e9nm; exact b_nm
              obtain ⟨fu3, hn3⟩ : ∃ fu : Nat, i9 + fu = T.length := ⟨T.length - i9, by omega⟩
              clear e9i9 e9nm e9N9
              induction fu3 generalizing i9 nm H locs N9 ls with
              | zero =>
                refine lv_iload hx hb d_MD_allow_166 (lv_at hl 2 rfl) ?_
                refine lv_iload_n hx hb d_MD_allow_168 rfl (lv_at hl 1 rfl) ?_
                refine nb_ge (tgt := 200) hx hb d_MD_allow_169 (by decide) (by omega) (by omega) (fun h10 => ?_) (fun h10 => ?_)
                · refine lv_aload_n hx hb d_MD_allow_200 rfl (lv_at hl 0 rfl) ?_
                  refine lv_dup hx hb d_MD_allow_201 rfl ?_
                  refine hp_get S hK hM i_MD f_md rfl 5 (by decide) mf_MD_183 (fun _ h9 => h9) rfl d_MD_allow_202 ?_
                  refine lv_iconst (v := nI 1) hx hb d_MD_allow_205 rfl ?_
                  refine nb_iadd hx hb d_MD_allow_206 ?_
                  refine hp_put (ty := .int) (fs' := [.ref B.ro, .int (nI 0), .ref B.te, .int (nI 0), .int (nI (V.ac)), .int (nI ((Al.length) + 1)), .int (nI (V.sd)), .ref B.he, .ref B.cn, .ref B.kd, .ref B.sz, .ref B.ky, .ref B.le, .ref B.dg, .ref B.nm, .ref B.ns, .ref B.sl, .ref B.sb, .int (nI (V.ss)), .ref B.su, .ref B.wi, .ref B.tu]) S hK hM hS i_MD t_MD to_MD n_MD f_md rfl 5 (by decide) mf_MD_183 (fun _ h9 => h9) rfl (by decide +kernel) rfl rfl (by simp) rfl d_MD_allow_207 (fun H locs hM hS => ?_)
                  have f_ro := hp_k (e := (.inr (6, [.ref B.ro, .int (nI 0), .ref B.te, .int (nI 0), .int (nI (V.ac)), .int (nI ((Al.length) + 1)), .int (nI (V.sd)), .ref B.he, .ref B.cn, .ref B.kd, .ref B.sz, .ref B.ky, .ref B.le, .ref B.dg, .ref B.nm, .ref B.ns, .ref B.sl, .ref B.sb, .int (nI (V.ss)), .ref B.su, .ref B.wi, .ref B.tu]))) (hp_ne f_ro f_md (by simp)) f_ro
                  have f_te := hp_k (e := (.inr (6, [.ref B.ro, .int (nI 0), .ref B.te, .int (nI 0), .int (nI (V.ac)), .int (nI ((Al.length) + 1)), .int (nI (V.sd)), .ref B.he, .ref B.cn, .ref B.kd, .ref B.sz, .ref B.ky, .ref B.le, .ref B.dg, .ref B.nm, .ref B.ns, .ref B.sl, .ref B.sb, .int (nI (V.ss)), .ref B.su, .ref B.wi, .ref B.tu]))) (hp_ne f_te f_md (by simp)) f_te
                  have f_he := hp_k (e := (.inr (6, [.ref B.ro, .int (nI 0), .ref B.te, .int (nI 0), .int (nI (V.ac)), .int (nI ((Al.length) + 1)), .int (nI (V.sd)), .ref B.he, .ref B.cn, .ref B.kd, .ref B.sz, .ref B.ky, .ref B.le, .ref B.dg, .ref B.nm, .ref B.ns, .ref B.sl, .ref B.sb, .int (nI (V.ss)), .ref B.su, .ref B.wi, .ref B.tu]))) (hp_ne f_he f_md (by simp)) f_he
                  have f_cn := hp_k (e := (.inr (6, [.ref B.ro, .int (nI 0), .ref B.te, .int (nI 0), .int (nI (V.ac)), .int (nI ((Al.length) + 1)), .int (nI (V.sd)), .ref B.he, .ref B.cn, .ref B.kd, .ref B.sz, .ref B.ky, .ref B.le, .ref B.dg, .ref B.nm, .ref B.ns, .ref B.sl, .ref B.sb, .int (nI (V.ss)), .ref B.su, .ref B.wi, .ref B.tu]))) (hp_ne f_cn f_md (by simp)) f_cn
                  have f_kd := hp_k (e := (.inr (6, [.ref B.ro, .int (nI 0), .ref B.te, .int (nI 0), .int (nI (V.ac)), .int (nI ((Al.length) + 1)), .int (nI (V.sd)), .ref B.he, .ref B.cn, .ref B.kd, .ref B.sz, .ref B.ky, .ref B.le, .ref B.dg, .ref B.nm, .ref B.ns, .ref B.sl, .ref B.sb, .int (nI (V.ss)), .ref B.su, .ref B.wi, .ref B.tu]))) (hp_ne f_kd f_md (by simp)) f_kd
                  have f_sz := hp_k (e := (.inr (6, [.ref B.ro, .int (nI 0), .ref B.te, .int (nI 0), .int (nI (V.ac)), .int (nI ((Al.length) + 1)), .int (nI (V.sd)), .ref B.he, .ref B.cn, .ref B.kd, .ref B.sz, .ref B.ky, .ref B.le, .ref B.dg, .ref B.nm, .ref B.ns, .ref B.sl, .ref B.sb, .int (nI (V.ss)), .ref B.su, .ref B.wi, .ref B.tu]))) (hp_ne f_sz f_md (by simp)) f_sz
                  have f_ky := hp_k (e := (.inr (6, [.ref B.ro, .int (nI 0), .ref B.te, .int (nI 0), .int (nI (V.ac)), .int (nI ((Al.length) + 1)), .int (nI (V.sd)), .ref B.he, .ref B.cn, .ref B.kd, .ref B.sz, .ref B.ky, .ref B.le, .ref B.dg, .ref B.nm, .ref B.ns, .ref B.sl, .ref B.sb, .int (nI (V.ss)), .ref B.su, .ref B.wi, .ref B.tu]))) (hp_ne f_ky f_md (by simp)) f_ky
                  have f_le := hp_k (e := (.inr (6, [.ref B.ro, .int (nI 0), .ref B.te, .int (nI 0), .int (nI (V.ac)), .int (nI ((Al.length) + 1)), .int (nI (V.sd)), .ref B.he, .ref B.cn, .ref B.kd, .ref B.sz, .ref B.ky, .ref B.le, .ref B.dg, .ref B.nm, .ref B.ns, .ref B.sl, .ref B.sb, .int (nI (V.ss)), .ref B.su, .ref B.wi, .ref B.tu]))) (hp_ne f_le f_md (by simp)) f_le
                  have f_dg := hp_k (e := (.inr (6, [.ref B.ro, .int (nI 0), .ref B.te, .int (nI 0), .int (nI (V.ac)), .int (nI ((Al.length) + 1)), .int (nI (V.sd)), .ref B.he, .ref B.cn, .ref B.kd, .ref B.sz, .ref B.ky, .ref B.le, .ref B.dg, .ref B.nm, .ref B.ns, .ref B.sl, .ref B.sb, .int (nI (V.ss)), .ref B.su, .ref B.wi, .ref B.tu]))) (hp_ne f_dg f_md (by simp)) f_dg
                  have f_nm := hp_k (e := (.inr (6, [.ref B.ro, .int (nI 0), .ref B.te, .int (nI 0), .int (nI (V.ac)), .int (nI ((Al.length) + 1)), .int (nI (V.sd)), .ref B.he, .ref B.cn, .ref B.kd, .ref B.sz, .ref B.ky, .ref B.le, .ref B.dg, .ref B.nm, .ref B.ns, .ref B.sl, .ref B.sb, .int (nI (V.ss)), .ref B.su, .ref B.wi, .ref B.tu]))) (hp_ne f_nm f_md (by simp)) f_nm
                  have f_ns := hp_k (e := (.inr (6, [.ref B.ro, .int (nI 0), .ref B.te, .int (nI 0), .int (nI (V.ac)), .int (nI ((Al.length) + 1)), .int (nI (V.sd)), .ref B.he, .ref B.cn, .ref B.kd, .ref B.sz, .ref B.ky, .ref B.le, .ref B.dg, .ref B.nm, .ref B.ns, .ref B.sl, .ref B.sb, .int (nI (V.ss)), .ref B.su, .ref B.wi, .ref B.tu]))) (hp_ne f_ns f_md (by simp)) f_ns
                  have f_sl := hp_k (e := (.inr (6, [.ref B.ro, .int (nI 0), .ref B.te, .int (nI 0), .int (nI (V.ac)), .int (nI ((Al.length) + 1)), .int (nI (V.sd)), .ref B.he, .ref B.cn, .ref B.kd, .ref B.sz, .ref B.ky, .ref B.le, .ref B.dg, .ref B.nm, .ref B.ns, .ref B.sl, .ref B.sb, .int (nI (V.ss)), .ref B.su, .ref B.wi, .ref B.tu]))) (hp_ne f_sl f_md (by simp)) f_sl
                  have f_sb := hp_k (e := (.inr (6, [.ref B.ro, .int (nI 0), .ref B.te, .int (nI 0), .int (nI (V.ac)), .int (nI ((Al.length) + 1)), .int (nI (V.sd)), .ref B.he, .ref B.cn, .ref B.kd, .ref B.sz, .ref B.ky, .ref B.le, .ref B.dg, .ref B.nm, .ref B.ns, .ref B.sl, .ref B.sb, .int (nI (V.ss)), .ref B.su, .ref B.wi, .ref B.tu]))) (hp_ne f_sb f_md (by simp)) f_sb
                  have f_su := hp_k (e := (.inr (6, [.ref B.ro, .int (nI 0), .ref B.te, .int (nI 0), .int (nI (V.ac)), .int (nI ((Al.length) + 1)), .int (nI (V.sd)), .ref B.he, .ref B.cn, .ref B.kd, .ref B.sz, .ref B.ky, .ref B.le, .ref B.dg, .ref B.nm, .ref B.ns, .ref B.sl, .ref B.sb, .int (nI (V.ss)), .ref B.su, .ref B.wi, .ref B.tu]))) (hp_ne f_su f_md (by simp)) f_su
                  have f_wi := hp_k (e := (.inr (6, [.ref B.ro, .int (nI 0), .ref B.te, .int (nI 0), .int (nI (V.ac)), .int (nI ((Al.length) + 1)), .int (nI (V.sd)), .ref B.he, .ref B.cn, .ref B.kd, .ref B.sz, .ref B.ky, .ref B.le, .ref B.dg, .ref B.nm, .ref B.ns, .ref B.sl, .ref B.sb, .int (nI (V.ss)), .ref B.su, .ref B.wi, .ref B.tu]))) (hp_ne f_wi f_md (by simp)) f_wi
                  have f_tu := hp_k (e := (.inr (6, [.ref B.ro, .int (nI 0), .ref B.te, .int (nI 0), .int (nI (V.ac)), .int (nI ((Al.length) + 1)), .int (nI (V.sd)), .ref B.he, .ref B.cn, .ref B.kd, .ref B.sz, .ref B.ky, .ref B.le, .ref B.dg, .ref B.nm, .ref B.ns, .ref B.sl, .ref B.sb, .int (nI (V.ss)), .ref B.su, .ref B.wi, .ref B.tu]))) (hp_ne f_tu f_md (by simp)) f_tu
                  have f_md : hp_up N9 md (.inr (6, [.ref B.ro, .int (nI 0), .ref B.te, .int (nI 0), .int (nI (V.ac)), .int (nI ((Al.length) + 1)), .int (nI (V.sd)), .ref B.he, .ref B.cn, .ref B.kd, .ref B.sz, .ref B.ky, .ref B.le, .ref B.dg, .ref B.nm, .ref B.ns, .ref B.sl, .ref B.sb, .int (nI (V.ss)), .ref B.su, .ref B.wi, .ref B.tu])) md = some (.inr (6, [.ref B.ro, .int (nI 0), .ref B.te, .int (nI 0), .int (nI (V.ac)), .int (nI ((Al.length) + 1)), .int (nI (V.sd)), .ref B.he, .ref B.cn, .ref B.kd, .ref B.sz, .ref B.ky, .ref B.le, .ref B.dg, .ref B.nm, .ref B.ns, .ref B.sl, .ref B.sb, .int (nI (V.ss)), .ref B.su, .ref B.wi, .ref B.tu])) := hp_us
                  obtain ⟨M11, eM11⟩ : ∃ z, z = hp_up N9 md (.inr (6, [.ref B.ro, .int (nI 0), .ref B.te, .int (nI 0), .int (nI (V.ac)), .int (nI ((Al.length) + 1)), .int (nI (V.sd)), .ref B.he, .ref B.cn, .ref B.kd, .ref B.sz, .ref B.ky, .ref B.le, .ref B.dg, .ref B.nm, .ref B.ns, .ref B.sl, .ref B.sb, .int (nI (V.ss)), .ref B.su, .ref B.wi, .ref B.tu])) := ⟨_, rfl⟩
                  rw [← eM11] at hM f_md f_ro f_te f_he f_cn f_kd f_sz f_ky f_le f_dg f_nm f_ns f_sl f_sb f_su f_wi f_tu
                  exact hp_vret S hret hlk hM hS (Or.inr (Or.inr ⟨hnm1, hno, hl8, va_up V.ns Al.length T.length, nm, ⟨f_md, f_ro, f_te, f_he, f_cn, f_kd, f_sz, f_ky, f_le, f_dg, f_nm, f_ns, f_sl, f_sb, f_su, f_wi, f_tu, hB, b_te, b_cn, b_kd, b_sz, b_ky, b_le, hnmb, up_le b_ns h16, b_sl, b_sb, Nat.zero_le _, Nat.zero_le _, b_ac, hl8, b_sd, b_ss⟩, by show Al.length + 1 = (Al ++ [T]).length; rw [List.length_append]; rfl, by rw [List.length_append]; exact hl8, fun q hq => by rw [List.length_append] at hq; have hq : q < Al.length + 1 := hq; rw [getD_app (by omega)]; by_cases z : q = Al.length; (rw [if_pos z, z]; exact ⟨up_s, h16, fun i hi => hnm3 i (by omega)⟩); (rw [if_neg z]; obtain ⟨a1, a2, a3⟩ := hnk q (by omega); exact ⟨(up_n z).trans a1, a2, fun i hi => (hnm2 (16 * q + i) (by omega)).trans (a3 i hi)⟩)⟩)) d_MD_allow_210
                · exact absurd hn3 (by omega)
              | succ fu3 ih3 =>
                refine lv_iload hx hb d_MD_allow_166 (lv_at hl 2 rfl) ?_
                refine lv_iload_n hx hb d_MD_allow_168 rfl (lv_at hl 1 rfl) ?_
                refine nb_ge (tgt := 200) hx hb d_MD_allow_169 (by decide) (by omega) (by omega) (fun h12 => ?_) (fun h12 => ?_)
                · exact absurd hn3 (by omega)
                · refine lv_aload_n hx hb d_MD_allow_172 rfl (lv_at hl 0 rfl) ?_
                  refine hp_get S hK hM i_MD f_md rfl 14 (by decide) mf_MD_109 (fun _ h9 => h9) rfl d_MD_allow_173 ?_
                  refine lv_bipush (v := nI 16) hx hb d_MD_allow_176 rfl ?_
                  refine lv_aload_n hx hb d_MD_allow_178 rfl (lv_at hl 0 rfl) ?_
                  refine hp_get S hK hM i_MD f_md rfl 5 (by decide) mf_MD_183 (fun _ h9 => h9) rfl d_MD_allow_179 ?_
                  refine nb_imul hx hb d_MD_allow_182 ?_
                  refine lv_iload hx hb d_MD_allow_183 (lv_at hl 2 rfl) ?_
                  refine nb_iadd hx hb d_MD_allow_185 ?_
                  refine lv_aload_n hx hb d_MD_allow_186 rfl (lv_at hl 0 rfl) ?_
                  refine hp_get S hK hM i_MD f_md rfl 2 (by decide) mf_MD_85 (fun _ h9 => h9) rfl d_MD_allow_187 ?_
                  refine lv_iload hx hb d_MD_allow_190 (lv_at hl 2 rfl) ?_
                  refine hp_iald S hK hM 1 f_te rfl i9 rfl (by omega) (by omega) d_MD_allow_192 ?_
                  refine hp_iast S hK hM hS 1 f_nm rfl ((16 * (Al.length)) + i9) rfl (by omega) (by omega) d_MD_allow_193 (fun H locs hM hS => ?_)
                  first | rw [nf_up] at hM | rw [show upd (nf nm) ((16 * (Al.length)) + i9) (nf V.te i9) = nf (va_up nm ((16 * (Al.length)) + i9) (V.te i9)) from nf_up] at hM
                  have f_md := hp_k (e := (.inl (ct 1, 128, .inl (nf (va_up nm ((16 * (Al.length)) + i9) (V.te i9)))))) (hp_ne f_md f_nm (by simp)) f_md
                  have f_ro := hp_k (e := (.inl (ct 1, 128, .inl (nf (va_up nm ((16 * (Al.length)) + i9) (V.te i9)))))) (hp_ne f_ro f_nm (by simp)) f_ro
                  have f_te := hp_k (e := (.inl (ct 1, 128, .inl (nf (va_up nm ((16 * (Al.length)) + i9) (V.te i9)))))) (hp_ne f_te f_nm (by simp)) f_te
                  have f_he := hp_k (e := (.inl (ct 1, 128, .inl (nf (va_up nm ((16 * (Al.length)) + i9) (V.te i9)))))) (hp_ne f_he f_nm (by simp)) f_he
                  have f_cn := hp_k (e := (.inl (ct 1, 128, .inl (nf (va_up nm ((16 * (Al.length)) + i9) (V.te i9)))))) (hp_ne f_cn f_nm (by simp)) f_cn
                  have f_kd := hp_k (e := (.inl (ct 1, 128, .inl (nf (va_up nm ((16 * (Al.length)) + i9) (V.te i9)))))) (hp_ne f_kd f_nm (by simp)) f_kd
                  have f_sz := hp_k (e := (.inl (ct 1, 128, .inl (nf (va_up nm ((16 * (Al.length)) + i9) (V.te i9)))))) (hp_ne f_sz f_nm (by simp)) f_sz
                  have f_ky := hp_k (e := (.inl (ct 1, 128, .inl (nf (va_up nm ((16 * (Al.length)) + i9) (V.te i9)))))) (hp_ne f_ky f_nm (by simp)) f_ky
                  have f_le := hp_k (e := (.inl (ct 1, 128, .inl (nf (va_up nm ((16 * (Al.length)) + i9) (V.te i9)))))) (hp_ne f_le f_nm (by simp)) f_le
                  have f_dg := hp_k (e := (.inl (ct 1, 128, .inl (nf (va_up nm ((16 * (Al.length)) + i9) (V.te i9)))))) (hp_ne f_dg f_nm (by simp)) f_dg
                  have f_ns := hp_k (e := (.inl (ct 1, 128, .inl (nf (va_up nm ((16 * (Al.length)) + i9) (V.te i9)))))) (hp_ne f_ns f_nm (by simp)) f_ns
                  have f_sl := hp_k (e := (.inl (ct 1, 128, .inl (nf (va_up nm ((16 * (Al.length)) + i9) (V.te i9)))))) (hp_ne f_sl f_nm (by simp)) f_sl
                  have f_sb := hp_k (e := (.inl (ct 1, 128, .inl (nf (va_up nm ((16 * (Al.length)) + i9) (V.te i9)))))) (hp_ne f_sb f_nm (by simp)) f_sb
                  have f_su := hp_k (e := (.inl (ct 1, 128, .inl (nf (va_up nm ((16 * (Al.length)) + i9) (V.te i9)))))) (hp_ne f_su f_nm (by simp)) f_su
                  have f_wi := hp_k (e := (.inl (ct 1, 128, .inl (nf (va_up nm ((16 * (Al.length)) + i9) (V.te i9)))))) (hp_ne f_wi f_nm (by simp)) f_wi
                  have f_tu := hp_k (e := (.inl (ct 1, 128, .inl (nf (va_up nm ((16 * (Al.length)) + i9) (V.te i9)))))) (hp_ne f_tu f_nm (by simp)) f_tu
                  have f_nm : hp_up N9 B.nm (.inl (ct 1, 128, .inl (nf (va_up nm ((16 * (Al.length)) + i9) (V.te i9))))) B.nm = some (.inl (ct 1, 128, .inl (nf (va_up nm ((16 * (Al.length)) + i9) (V.te i9))))) := hp_us
                  obtain ⟨M13, eM13⟩ : ∃ z, z = hp_up N9 B.nm (.inl (ct 1, 128, .inl (nf (va_up nm ((16 * (Al.length)) + i9) (V.te i9))))) := ⟨_, rfl⟩
                  rw [← eM13] at hM f_md f_ro f_te f_he f_cn f_kd f_sz f_ky f_le f_dg f_nm f_ns f_sl f_sb f_su f_wi f_tu
                  refine lv_iinc (v := nI (i9 + 1)) (lv' := [(4, .int (nI (i9 + 1))), (0, .ref md), (1, .int (nI (T.length)))]) hx hb d_MD_allow_194 hl (k := 2) rfl (nI_add i9 1) (by decide) rfl (fun ls hl => ?_)
                  refine lv_goto (tgt := 166) hx hb d_MD_allow_197 (by decide) ?_
                  exact ih3 (ls := ls) (hl := lv_sub hl [1, 2, 0] rfl) (hn3 := by omega) (i9 := i9 + 1) (nm := va_up nm (16 * Al.length + i9) (V.te i9)) (hnm3 := lt_s (fun i hi => by rw [up_n (by omega)]; exact hnm3 i hi) (by rw [up_s]; exact hte i9 (by omega))) (hnm2 := fun q hq => by rw [up_n (by omega)]; exact hnm2 q hq) (hnmb := up_lt hnmb (b_te i9)) (H := H) (locs := locs) (hM := hM) (hS := hS) (N9 := M13) (f_md := f_md) (f_ro := f_ro) (f_te := f_te) (f_he := f_he) (f_cn := f_cn) (f_kd := f_kd) (f_sz := f_sz) (f_ky := f_ky) (f_le := f_le) (f_dg := f_dg) (f_nm := f_nm) (f_ns := f_ns) (f_sl := f_sl) (f_sb := f_sb) (f_su := f_su) (f_wi := f_wi) (f_tu := f_tu)
            · exact absurd rfl h7
        · refine lv_iload_n hx hb d_MD_allow_128 rfl (lv_at hl 3 rfl) ?_
          refine nt_ne (tgt := 141) hx hb d_MD_allow_129 (by decide) hbv (fun hP3 => ?_) (fun hP3 => ?_)
          · refine lv_iconst (v := nI 1) hx hb d_MD_allow_141 rfl ?_
            refine lv_goto (tgt := 146) hx hb d_MD_allow_142 (by decide) ?_
            exact hjv3 _ H _ hM hS (bo_t (by first | exact Or.inl hP3 | exact Or.inr (by omega)))
          · refine lv_aload_n hx hb d_MD_allow_132 rfl (lv_at hl 0 rfl) ?_
            refine hp_get S hK hM i_MD f_md rfl 5 (by decide) mf_MD_183 (fun _ h9 => h9) rfl d_MD_allow_133 ?_
            refine lv_bipush (v := nI 8) hx hb d_MD_allow_136 rfl ?_
            refine nb_ne (tgt := 145) hx hb d_MD_allow_138 (by decide) (by omega) (by omega) (fun h8 => ?_) (fun h8 => ?_)
            · refine lv_iconst (v := nI 0) hx hb d_MD_allow_145 rfl ?_
              exact hjv3 _ H _ hM hS (bo_f (fun q => by rcases q with q | q; (exact hP3 q); (omega)))
            · refine lv_iconst (v := nI 1) hx hb d_MD_allow_141 rfl ?_
              refine lv_goto (tgt := 146) hx hb d_MD_allow_142 (by decide) ?_
              exact hjv3 _ H _ hM hS (bo_t (by first | exact Or.inl hP3 | exact Or.inr (by omega)))
      · exact absurd hn1 (by omega)
    | succ fu1 ih1 =>
      refine lv_iload hx hb d_MD_allow_24 (lv_at hl 4 rfl) ?_
      refine lv_aload_n hx hb d_MD_allow_26 rfl (lv_at hl 0 rfl) ?_
      refine hp_get S hK hM i_MD f_md rfl 5 (by decide) mf_MD_183 (fun _ h9 => h9) rfl d_MD_allow_27 ?_
      refine nb_ge (tgt := 126) hx hb d_MD_allow_30 (by decide) (by omega) (by omega) (fun hkn => ?_) (fun hkn => ?_)
      · have hv9 : isNam T T.length → bo v (∃ i, i < Al.length ∧ Al.getD i [] = T) := fun z => by first | exact absurd z hbd | exact bo_iff hv ⟨fun ⟨i, a, q⟩ => ⟨i, by omega, q⟩, fun ⟨i, a, q⟩ => ⟨i, by omega, q⟩⟩
        refine lv_aload_n hx hb d_MD_allow_126 rfl (lv_at hl 0 rfl) ?_
        refine lv_iload_n hx hb d_MD_allow_127 rfl (lv_at hl 2 rfl) ?_
        have hbv : bo v (v = nI 1) := by rcases hv with ⟨-, e⟩ | ⟨-, e⟩; (rw [e]; exact bo_t rfl); (rw [e]; exact bo_f (by decide))
        refine w_join hM hS (P := fun z => bo z (v = nI 1 ∨ 8 ≤ Al.length)) (pc2 := 146) (rest := [.int v2, .ref md]) (fun v14 H locs hM hS hv14 => ?_) (fun hjv14 => ?_)
        · refine hp_calli (go_V S hZ hK hM hS hA hz (c_MD_refuses l D ct Z hZ _ _ md B (mkS (V.te) (V.cn) (V.kd) (V.sz) (V.ky) (V.le) (V.nm) (V.ns) (V.sl) (V.sb) (V.he) (V.dg) (V.su) (V.wi) (V.tu) (V.co) 0 (V.ac) (V.al) (V.sd) (V.ss)) hw2 v2 v14 (¬ isNam T T.length) (v = nI 1 ∨ 8 ≤ Al.length) (hv2) (hv14)) mc_MD_refuses mz_MD ml_MD_178 mi_MD_refuses mx_MD_refuses hd_MD_refuses rfl ⟨by decide, by decide⟩ f_md rfl rfl hl.1 rfl (Nat.le_of_ble_eq_true rfl) d_MD_allow_146 ⟨by decide, by decide⟩) hM hS hA (fun r9 M9 H locs h9 hM hS => ?_)
          obtain ⟨N15, eN15⟩ : ∃ z, z = M9 := ⟨_, rfl⟩
          rw [← eN15] at hM h9
          rcases h9 with ⟨hp1, er, h9⟩ | ⟨hp1, hp2, er, h9⟩ | ⟨hp1, hp2, er, h9⟩
          · subst er
            have hw4 : mdS ct N15 md B (mkS (V.te) (V.cn) (V.kd) (V.sz) (V.ky) (V.le) (V.nm) (V.ns) (V.sl) (V.sb) (V.he) (V.dg) (V.su) (V.wi) (V.tu) 1 0 (V.ac) (V.al) (V.sd) (V.ss)) := h9
            clear f_md f_ro f_te f_he f_cn f_kd f_sz f_ky f_le f_dg f_nm f_ns f_sl f_sb f_su f_wi f_tu
            obtain ⟨f_md, f_ro, f_te, f_he, f_cn, f_kd, f_sz, f_ky, f_le, f_dg, f_nm, f_ns, f_sl, f_sb, f_su, f_wi, f_tu, hB, hV⟩ := id hw4
            replace f_md : N15 md = some (.inr (6, [.ref B.ro, .int (nI 1), .ref B.te, .int (nI 0), .int (nI (V.ac)), .int (nI (V.al)), .int (nI (V.sd)), .ref B.he, .ref B.cn, .ref B.kd, .ref B.sz, .ref B.ky, .ref B.le, .ref B.dg, .ref B.nm, .ref B.ns, .ref B.sl, .ref B.sb, .int (nI (V.ss)), .ref B.su, .ref B.wi, .ref B.tu])) := f_md
            replace f_ro : N15 B.ro = some (.inl (ct 1, 72, .inl roF)) := f_ro
            replace f_te : N15 B.te = some (.inl (ct 1, 64, .inl (nf V.te))) := f_te
            replace f_he : N15 B.he = some (.inl (ct 1, 8, .inl (V.he))) := f_he
            replace f_cn : N15 B.cn = some (.inl (ct 1, 12, .inl (nf V.cn))) := f_cn
            replace f_kd : N15 B.kd = some (.inl (ct 1, 288, .inl (nf V.kd))) := f_kd
            replace f_sz : N15 B.sz = some (.inl (ct 1, 288, .inl (nf V.sz))) := f_sz
            replace f_ky : N15 B.ky = some (.inl (ct 1, 288, .inl (nf V.ky))) := f_ky
            replace f_le : N15 B.le = some (.inl (ct 1, 18432, .inl (nf V.le))) := f_le
            replace f_dg : N15 B.dg = some (.inl (ct 1, 2304, .inl (V.dg))) := f_dg
            replace f_nm : N15 B.nm = some (.inl (ct 1, 128, .inl (nf V.nm))) := f_nm
            replace f_ns : N15 B.ns = some (.inl (ct 1, 8, .inl (nf V.ns))) := f_ns
            replace f_sl : N15 B.sl = some (.inl (ct 1, 16, .inl (nf V.sl))) := f_sl
            replace f_sb : N15 B.sb = some (.inl (ct 1, 3000, .inl (nf V.sb))) := f_sb
            replace f_su : N15 B.su = some (.inl (ct 1, 8, .inl (V.su))) := f_su
            replace f_wi : N15 B.wi = some (.inl (ct 1, 64, .inl (V.wi))) := f_wi
            replace f_tu : N15 B.tu = some (.inl (ct 1, 8, .inl (V.tu))) := f_tu
            refine nz_eq (tgt := 153) hx hb d_MD_allow_149 (by decide) (by omega) (fun h16 => ?_) (fun h16 => ?_)
            · exact absurd h16 (by decide)
            · exact hp_vret S hret hlk hM hS (Or.inl ⟨hp1, hw4⟩) d_MD_allow_152
          · subst er
            have hw4 : mdS ct N15 md B (mkS (V.te) (V.cn) (V.kd) (V.sz) (V.ky) (V.le) (V.nm) (V.ns) (V.sl) (V.sb) (V.he) (V.dg) (V.su) (V.wi) (V.tu) 2 0 (V.ac) (V.al) (V.sd) (V.ss)) := h9
            clear f_md f_ro f_te f_he f_cn f_kd f_sz f_ky f_le f_dg f_nm f_ns f_sl f_sb f_su f_wi f_tu
            obtain ⟨f_md, f_ro, f_te, f_he, f_cn, f_kd, f_sz, f_ky, f_le, f_dg, f_nm, f_ns, f_sl, f_sb, f_su, f_wi, f_tu, hB, hV⟩ := id hw4
            replace f_md : N15 md = some (.inr (6, [.ref B.ro, .int (nI 2), .ref B.te, .int (nI 0), .int (nI (V.ac)), .int (nI (V.al)), .int (nI (V.sd)), .ref B.he, .ref B.cn, .ref B.kd, .ref B.sz, .ref B.ky, .ref B.le, .ref B.dg, .ref B.nm, .ref B.ns, .ref B.sl, .ref B.sb, .int (nI (V.ss)), .ref B.su, .ref B.wi, .ref B.tu])) := f_md
            replace f_ro : N15 B.ro = some (.inl (ct 1, 72, .inl roF)) := f_ro
            replace f_te : N15 B.te = some (.inl (ct 1, 64, .inl (nf V.te))) := f_te
            replace f_he : N15 B.he = some (.inl (ct 1, 8, .inl (V.he))) := f_he
            replace f_cn : N15 B.cn = some (.inl (ct 1, 12, .inl (nf V.cn))) := f_cn
            replace f_kd : N15 B.kd = some (.inl (ct 1, 288, .inl (nf V.kd))) := f_kd
            replace f_sz : N15 B.sz = some (.inl (ct 1, 288, .inl (nf V.sz))) := f_sz
            replace f_ky : N15 B.ky = some (.inl (ct 1, 288, .inl (nf V.ky))) := f_ky
            replace f_le : N15 B.le = some (.inl (ct 1, 18432, .inl (nf V.le))) := f_le
            replace f_dg : N15 B.dg = some (.inl (ct 1, 2304, .inl (V.dg))) := f_dg
            replace f_nm : N15 B.nm = some (.inl (ct 1, 128, .inl (nf V.nm))) := f_nm
            replace f_ns : N15 B.ns = some (.inl (ct 1, 8, .inl (nf V.ns))) := f_ns
            replace f_sl : N15 B.sl = some (.inl (ct 1, 16, .inl (nf V.sl))) := f_sl
            replace f_sb : N15 B.sb = some (.inl (ct 1, 3000, .inl (nf V.sb))) := f_sb
            replace f_su : N15 B.su = some (.inl (ct 1, 8, .inl (V.su))) := f_su
            replace f_wi : N15 B.wi = some (.inl (ct 1, 64, .inl (V.wi))) := f_wi
            replace f_tu : N15 B.tu = some (.inl (ct 1, 8, .inl (V.tu))) := f_tu
            refine nz_eq (tgt := 153) hx hb d_MD_allow_149 (by decide) (by omega) (fun h17 => ?_) (fun h17 => ?_)
            · exact absurd h17 (by decide)
            · have hnm1 : isNam T T.length := Classical.byContradiction hp1
              exact hp_vret S hret hlk hM hS (Or.inr (Or.inl ⟨hnm1, hp2.imp (fun q => by rcases hv9 hnm1 with z | z; (exact z.1); (rw [z.2] at q; exact absurd q (by decide))) id, hw4⟩)) d_MD_allow_152
          · subst er
            have hw4 : mdS ct N15 md B (mkS (V.te) (V.cn) (V.kd) (V.sz) (V.ky) (V.le) (V.nm) (V.ns) (V.sl) (V.sb) (V.he) (V.dg) (V.su) (V.wi) (V.tu) 0 0 (V.ac) (V.al) (V.sd) (V.ss)) := h9
            clear f_md f_ro f_te f_he f_cn f_kd f_sz f_ky f_le f_dg f_nm f_ns f_sl f_sb f_su f_wi f_tu
            obtain ⟨f_md, f_ro, f_te, f_he, f_cn, f_kd, f_sz, f_ky, f_le, f_dg, f_nm, f_ns, f_sl, f_sb, f_su, f_wi, f_tu, hB, hV⟩ := id hw4
            replace f_md : N15 md = some (.inr (6, [.ref B.ro, .int (nI 0), .ref B.te, .int (nI 0), .int (nI (V.ac)), .int (nI (V.al)), .int (nI (V.sd)), .ref B.he, .ref B.cn, .ref B.kd, .ref B.sz, .ref B.ky, .ref B.le, .ref B.dg, .ref B.nm, .ref B.ns, .ref B.sl, .ref B.sb, .int (nI (V.ss)), .ref B.su, .ref B.wi, .ref B.tu])) := f_md
            replace f_ro : N15 B.ro = some (.inl (ct 1, 72, .inl roF)) := f_ro
            replace f_te : N15 B.te = some (.inl (ct 1, 64, .inl (nf V.te))) := f_te
            replace f_he : N15 B.he = some (.inl (ct 1, 8, .inl (V.he))) := f_he
            replace f_cn : N15 B.cn = some (.inl (ct 1, 12, .inl (nf V.cn))) := f_cn
            replace f_kd : N15 B.kd = some (.inl (ct 1, 288, .inl (nf V.kd))) := f_kd
            replace f_sz : N15 B.sz = some (.inl (ct 1, 288, .inl (nf V.sz))) := f_sz
            replace f_ky : N15 B.ky = some (.inl (ct 1, 288, .inl (nf V.ky))) := f_ky
            replace f_le : N15 B.le = some (.inl (ct 1, 18432, .inl (nf V.le))) := f_le
            replace f_dg : N15 B.dg = some (.inl (ct 1, 2304, .inl (V.dg))) := f_dg
            replace f_nm : N15 B.nm = some (.inl (ct 1, 128, .inl (nf V.nm))) := f_nm
            replace f_ns : N15 B.ns = some (.inl (ct 1, 8, .inl (nf V.ns))) := f_ns
            replace f_sl : N15 B.sl = some (.inl (ct 1, 16, .inl (nf V.sl))) := f_sl
            replace f_sb : N15 B.sb = some (.inl (ct 1, 3000, .inl (nf V.sb))) := f_sb
            replace f_su : N15 B.su = some (.inl (ct 1, 8, .inl (V.su))) := f_su
            replace f_wi : N15 B.wi = some (.inl (ct 1, 64, .inl (V.wi))) := f_wi
            replace f_tu : N15 B.tu = some (.inl (ct 1, 8, .inl (V.tu))) := f_tu
            refine nz_eq (tgt := 153) hx hb d_MD_allow_149 (by decide) (by omega) (fun h18 => ?_) (fun h18 => ?_)
            · refine lv_aload_n hx hb d_MD_allow_153 rfl (lv_at hl 0 rfl) ?_
              refine hp_get S hK hM i_MD f_md rfl 15 (by decide) mf_MD_112 (fun _ h9 => h9) rfl d_MD_allow_154 ?_
              refine lv_aload_n hx hb d_MD_allow_157 rfl (lv_at hl 0 rfl) ?_
              refine hp_get S hK hM i_MD f_md rfl 5 (by decide) mf_MD_183 (fun _ h9 => h9) rfl d_MD_allow_158 ?_
              refine lv_iload_n hx hb d_MD_allow_161 rfl (lv_at hl 1 rfl) ?_
              refine hp_iast S hK hM hS 1 f_ns rfl (V.al) rfl (by omega) (by omega) d_MD_allow_162 (fun H locs hM hS => ?_)
              rw [nf_up] at hM
              have f_md := hp_k (e := (.inl (ct 1, 8, .inl (nf (va_up (V.ns) (V.al) (T.length)))))) (hp_ne f_md f_ns (by simp)) f_md
              have f_ro := hp_k (e := (.inl (ct 1, 8, .inl (nf (va_up (V.ns) (V.al) (T.length)))))) (hp_ne f_ro f_ns (by simp)) f_ro
              have f_te := hp_k (e := (.inl (ct 1, 8, .inl (nf (va_up (V.ns) (V.al) (T.length)))))) (hp_ne f_te f_ns (by simp)) f_te
              have f_he := hp_k (e := (.inl (ct 1, 8, .inl (nf (va_up (V.ns) (V.al) (T.length)))))) n_hens f_he
              have f_cn := hp_k (e := (.inl (ct 1, 8, .inl (nf (va_up (V.ns) (V.al) (T.length)))))) (hp_ne f_cn f_ns (by simp)) f_cn
              have f_kd := hp_k (e := (.inl (ct 1, 8, .inl (nf (va_up (V.ns) (V.al) (T.length)))))) (hp_ne f_kd f_ns (by simp)) f_kd
              have f_sz := hp_k (e := (.inl (ct 1, 8, .inl (nf (va_up (V.ns) (V.al) (T.length)))))) (hp_ne f_sz f_ns (by simp)) f_sz
              have f_ky := hp_k (e := (.inl (ct 1, 8, .inl (nf (va_up (V.ns) (V.al) (T.length)))))) (hp_ne f_ky f_ns (by simp)) f_ky
              have f_le := hp_k (e := (.inl (ct 1, 8, .inl (nf (va_up (V.ns) (V.al) (T.length)))))) (hp_ne f_le f_ns (by simp)) f_le
              have f_dg := hp_k (e := (.inl (ct 1, 8, .inl (nf (va_up (V.ns) (V.al) (T.length)))))) (hp_ne f_dg f_ns (by simp)) f_dg
              have f_nm := hp_k (e := (.inl (ct 1, 8, .inl (nf (va_up (V.ns) (V.al) (T.length)))))) (hp_ne f_nm f_ns (by simp)) f_nm
              have f_sl := hp_k (e := (.inl (ct 1, 8, .inl (nf (va_up (V.ns) (V.al) (T.length)))))) (hp_ne f_sl f_ns (by simp)) f_sl
              have f_sb := hp_k (e := (.inl (ct 1, 8, .inl (nf (va_up (V.ns) (V.al) (T.length)))))) (hp_ne f_sb f_ns (by simp)) f_sb
              have f_su := hp_k (e := (.inl (ct 1, 8, .inl (nf (va_up (V.ns) (V.al) (T.length)))))) (Ne.symm n_nssu) f_su
              have f_wi := hp_k (e := (.inl (ct 1, 8, .inl (nf (va_up (V.ns) (V.al) (T.length)))))) (hp_ne f_wi f_ns (by simp)) f_wi
              have f_tu := hp_k (e := (.inl (ct 1, 8, .inl (nf (va_up (V.ns) (V.al) (T.length)))))) (Ne.symm n_nstu) f_tu
              have f_ns : hp_up N15 B.ns (.inl (ct 1, 8, .inl (nf (va_up (V.ns) (V.al) (T.length))))) B.ns = some (.inl (ct 1, 8, .inl (nf (va_up (V.ns) (V.al) (T.length))))) := hp_us
              obtain ⟨M19, eM19⟩ : ∃ z, z = hp_up N15 B.ns (.inl (ct 1, 8, .inl (nf (va_up (V.ns) (V.al) (T.length))))) := ⟨_, rfl⟩
              rw [← eM19] at hM f_md f_ro f_te f_he f_cn f_kd f_sz f_ky f_le f_dg f_nm f_ns f_sl f_sb f_su f_wi f_tu
              refine lv_iconst (v := nI 0) hx hb d_MD_allow_163 rfl ?_
              refine lv_istore (lv' := [(4, .int (nI 0)), (0, .ref md), (1, .int (nI (T.length))), (2, .int v2), (3, .int v)]) hx hb d_MD_allow_164 hl (by decide) rfl (fun ls hl => ?_)
              have hnm1 : isNam T T.length := Classical.byContradiction hp1
              have hno : ¬ ∃ i, i < Al.length ∧ Al.getD i [] = T := fun q => hp2 (Or.inl (by rcases hv9 hnm1 with z | z; (exact z.2); (exact absurd q z.1)))
              have h16 := hnm1.2.1
              have hl8 : Al.length < 8 := Nat.lt_of_not_le (fun q => hp2 (Or.inr q))
              rw [hal] at f_md f_ns
              replace hl : lv_has ls 7 [(0, .ref md), (1, .int (nI (T.length))), (4, .int (nI 0))] := lv_sub hl [1, 2, 0] rfl
              obtain ⟨i9, e9i9⟩ : ∃ z : Nat, z = 0 := ⟨_, rfl⟩
              obtain ⟨nm, e9nm⟩ : ∃ z : Nat → Nat, z = V.nm := ⟨_, rfl⟩
              replace hl : lv_has ls 7 [(0, .ref md), (1, .int (nI (T.length))), (4, .int (nI i9))] := by subst e9i9 e9nm; exact hl
              obtain ⟨N20, e9N20⟩ : ∃ z : hp_M, z = M19 := ⟨_, rfl⟩
              replace hM : hp_H D ccl (hp_A M sz) N20 H := by rw [e9N20]; exact hM
              replace f_md : N20 md = some (.inr (6, [.ref B.ro, .int (nI 0), .ref B.te, .int (nI 0), .int (nI (V.ac)), .int (nI (Al.length)), .int (nI (V.sd)), .ref B.he, .ref B.cn, .ref B.kd, .ref B.sz, .ref B.ky, .ref B.le, .ref B.dg, .ref B.nm, .ref B.ns, .ref B.sl, .ref B.sb, .int (nI (V.ss)), .ref B.su, .ref B.wi, .ref B.tu])) := by rw [e9N20]; exact f_md
              replace f_ro : N20 B.ro = some (.inl (ct 1, 72, .inl roF)) := by rw [e9N20]; exact f_ro
              replace f_te : N20 B.te = some (.inl (ct 1, 64, .inl (nf V.te))) := by rw [e9N20]; exact f_te
              replace f_he : N20 B.he = some (.inl (ct 1, 8, .inl (V.he))) := by rw [e9N20]; exact f_he
              replace f_cn : N20 B.cn = some (.inl (ct 1, 12, .inl (nf V.cn))) := by rw [e9N20]; exact f_cn
              replace f_kd : N20 B.kd = some (.inl (ct 1, 288, .inl (nf V.kd))) := by rw [e9N20]; exact f_kd
              replace f_sz : N20 B.sz = some (.inl (ct 1, 288, .inl (nf V.sz))) := by rw [e9N20]; exact f_sz
              replace f_ky : N20 B.ky = some (.inl (ct 1, 288, .inl (nf V.ky))) := by rw [e9N20]; exact f_ky
              replace f_le : N20 B.le = some (.inl (ct 1, 18432, .inl (nf V.le))) := by rw [e9N20]; exact f_le
              replace f_dg : N20 B.dg = some (.inl (ct 1, 2304, .inl (V.dg))) := by rw [e9N20]; exact f_dg
              replace f_nm : N20 B.nm = some (.inl (ct 1, 128, .inl (nf V.nm))) := by rw [e9N20]; exact f_nm
              replace f_ns : N20 B.ns = some (.inl (ct 1, 8, .inl (nf (va_up V.ns Al.length T.length)))) := by rw [e9N20]; exact f_ns
              replace f_sl : N20 B.sl = some (.inl (ct 1, 16, .inl (nf V.sl))) := by rw [e9N20]; exact f_sl
              replace f_sb : N20 B.sb = some (.inl (ct 1, 3000, .inl (nf V.sb))) := by rw [e9N20]; exact f_sb
              replace f_su : N20 B.su = some (.inl (ct 1, 8, .inl (V.su))) := by rw [e9N20]; exact f_su
              replace f_wi : N20 B.wi = some (.inl (ct 1, 64, .inl (V.wi))) := by rw [e9N20]; exact f_wi
              replace f_tu : N20 B.tu = some (.inl (ct 1, 8, .inl (V.tu))) := by rw [e9N20]; exact f_tu
              replace f_nm : N20 B.nm = some (.inl (ct 1, 128, .inl (nf nm))) := by subst e9i9 e9nm; exact f_nm
              have hnm3 : ∀ i, i < i9 → nm (16 * Al.length + i) = T.getD i 0 := by subst e9i9 e9nm; intro i hi; omega
              have hnm2 : ∀ q, q < 16 * Al.length → nm q = V.nm q := by subst e9i9 e9nm; intro q hq; rfl
              have hnmb : ∀ i, nm i < 65536 := by subst e9i9 e9nm; exact b_nm
              obtain ⟨fu3, hn3⟩ : ∃ fu : Nat, i9 + fu = T.length := ⟨T.length - i9, by omega⟩
              clear e9i9 e9nm e9N20
              induction fu3 generalizing i9 nm H locs N20 ls with
              | zero =>
                refine lv_iload hx hb d_MD_allow_166 (lv_at hl 2 rfl) ?_
                refine lv_iload_n hx hb d_MD_allow_168 rfl (lv_at hl 1 rfl) ?_
                refine nb_ge (tgt := 200) hx hb d_MD_allow_169 (by decide) (by omega) (by omega) (fun h21 => ?_) (fun h21 => ?_)
                · refine lv_aload_n hx hb d_MD_allow_200 rfl (lv_at hl 0 rfl) ?_
                  refine lv_dup hx hb d_MD_allow_201 rfl ?_
                  refine hp_get S hK hM i_MD f_md rfl 5 (by decide) mf_MD_183 (fun _ h9 => h9) rfl d_MD_allow_202 ?_
                  refine lv_iconst (v := nI 1) hx hb d_MD_allow_205 rfl ?_
                  refine nb_iadd hx hb d_MD_allow_206 ?_
                  refine hp_put (ty := .int) (fs' := [.ref B.ro, .int (nI 0), .ref B.te, .int (nI 0), .int (nI (V.ac)), .int (nI ((Al.length) + 1)), .int (nI (V.sd)), .ref B.he, .ref B.cn, .ref B.kd, .ref B.sz, .ref B.ky, .ref B.le, .ref B.dg, .ref B.nm, .ref B.ns, .ref B.sl, .ref B.sb, .int (nI (V.ss)), .ref B.su, .ref B.wi, .ref B.tu]) S hK hM hS i_MD t_MD to_MD n_MD f_md rfl 5 (by decide) mf_MD_183 (fun _ h9 => h9) rfl (by decide +kernel) rfl rfl (by simp) rfl d_MD_allow_207 (fun H locs hM hS => ?_)
                  have f_ro := hp_k (e := (.inr (6, [.ref B.ro, .int (nI 0), .ref B.te, .int (nI 0), .int (nI (V.ac)), .int (nI ((Al.length) + 1)), .int (nI (V.sd)), .ref B.he, .ref B.cn, .ref B.kd, .ref B.sz, .ref B.ky, .ref B.le, .ref B.dg, .ref B.nm, .ref B.ns, .ref B.sl, .ref B.sb, .int (nI (V.ss)), .ref B.su, .ref B.wi, .ref B.tu]))) (hp_ne f_ro f_md (by simp)) f_ro
                  have f_te := hp_k (e := (.inr (6, [.ref B.ro, .int (nI 0), .ref B.te, .int (nI 0), .int (nI (V.ac)), .int (nI ((Al.length) + 1)), .int (nI (V.sd)), .ref B.he, .ref B.cn, .ref B.kd, .ref B.sz, .ref B.ky, .ref B.le, .ref B.dg, .ref B.nm, .ref B.ns, .ref B.sl, .ref B.sb, .int (nI (V.ss)), .ref B.su, .ref B.wi, .ref B.tu]))) (hp_ne f_te f_md (by simp)) f_te
                  have f_he := hp_k (e := (.inr (6, [.ref B.ro, .int (nI 0), .ref B.te, .int (nI 0), .int (nI (V.ac)), .int (nI ((Al.length) + 1)), .int (nI (V.sd)), .ref B.he, .ref B.cn, .ref B.kd, .ref B.sz, .ref B.ky, .ref B.le, .ref B.dg, .ref B.nm, .ref B.ns, .ref B.sl, .ref B.sb, .int (nI (V.ss)), .ref B.su, .ref B.wi, .ref B.tu]))) (hp_ne f_he f_md (by simp)) f_he
                  have f_cn := hp_k (e := (.inr (6, [.ref B.ro, .int (nI 0), .ref B.te, .int (nI 0), .int (nI (V.ac)), .int (nI ((Al.length) + 1)), .int (nI (V.sd)), .ref B.he, .ref B.cn, .ref B.kd, .ref B.sz, .ref B.ky, .ref B.le, .ref B.dg, .ref B.nm, .ref B.ns, .ref B.sl, .ref B.sb, .int (nI (V.ss)), .ref B.su, .ref B.wi, .ref B.tu]))) (hp_ne f_cn f_md (by simp)) f_cn
                  have f_kd := hp_k (e := (.inr (6, [.ref B.ro, .int (nI 0), .ref B.te, .int (nI 0), .int (nI (V.ac)), .int (nI ((Al.length) + 1)), .int (nI (V.sd)), .ref B.he, .ref B.cn, .ref B.kd, .ref B.sz, .ref B.ky, .ref B.le, .ref B.dg, .ref B.nm, .ref B.ns, .ref B.sl, .ref B.sb, .int (nI (V.ss)), .ref B.su, .ref B.wi, .ref B.tu]))) (hp_ne f_kd f_md (by simp)) f_kd
                  have f_sz := hp_k (e := (.inr (6, [.ref B.ro, .int (nI 0), .ref B.te, .int (nI 0), .int (nI (V.ac)), .int (nI ((Al.length) + 1)), .int (nI (V.sd)), .ref B.he, .ref B.cn, .ref B.kd, .ref B.sz, .ref B.ky, .ref B.le, .ref B.dg, .ref B.nm, .ref B.ns, .ref B.sl, .ref B.sb, .int (nI (V.ss)), .ref B.su, .ref B.wi, .ref B.tu]))) (hp_ne f_sz f_md (by simp)) f_sz
                  have f_ky := hp_k (e := (.inr (6, [.ref B.ro, .int (nI 0), .ref B.te, .int (nI 0), .int (nI (V.ac)), .int (nI ((Al.length) + 1)), .int (nI (V.sd)), .ref B.he, .ref B.cn, .ref B.kd, .ref B.sz, .ref B.ky, .ref B.le, .ref B.dg, .ref B.nm, .ref B.ns, .ref B.sl, .ref B.sb, .int (nI (V.ss)), .ref B.su, .ref B.wi, .ref B.tu]))) (hp_ne f_ky f_md (by simp)) f_ky
                  have f_le := hp_k (e := (.inr (6, [.ref B.ro, .int (nI 0), .ref B.te, .int (nI 0), .int (nI (V.ac)), .int (nI ((Al.length) + 1)), .int (nI (V.sd)), .ref B.he, .ref B.cn, .ref B.kd, .ref B.sz, .ref B.ky, .ref B.le, .ref B.dg, .ref B.nm, .ref B.ns, .ref B.sl, .ref B.sb, .int (nI (V.ss)), .ref B.su, .ref B.wi, .ref B.tu]))) (hp_ne f_le f_md (by simp)) f_le
                  have f_dg := hp_k (e := (.inr (6, [.ref B.ro, .int (nI 0), .ref B.te, .int (nI 0), .int (nI (V.ac)), .int (nI ((Al.length) + 1)), .int (nI (V.sd)), .ref B.he, .ref B.cn, .ref B.kd, .ref B.sz, .ref B.ky, .ref B.le, .ref B.dg, .ref B.nm, .ref B.ns, .ref B.sl, .ref B.sb, .int (nI (V.ss)), .ref B.su, .ref B.wi, .ref B.tu]))) (hp_ne f_dg f_md (by simp)) f_dg
                  have f_nm := hp_k (e := (.inr (6, [.ref B.ro, .int (nI 0), .ref B.te, .int (nI 0), .int (nI (V.ac)), .int (nI ((Al.length) + 1)), .int (nI (V.sd)), .ref B.he, .ref B.cn, .ref B.kd, .ref B.sz, .ref B.ky, .ref B.le, .ref B.dg, .ref B.nm, .ref B.ns, .ref B.sl, .ref B.sb, .int (nI (V.ss)), .ref B.su, .ref B.wi, .ref B.tu]))) (hp_ne f_nm f_md (by simp)) f_nm
                  have f_ns := hp_k (e := (.inr (6, [.ref B.ro, .int (nI 0), .ref B.te, .int (nI 0), .int (nI (V.ac)), .int (nI ((Al.length) + 1)), .int (nI (V.sd)), .ref B.he, .ref B.cn, .ref B.kd, .ref B.sz, .ref B.ky, .ref B.le, .ref B.dg, .ref B.nm, .ref B.ns, .ref B.sl, .ref B.sb, .int (nI (V.ss)), .ref B.su, .ref B.wi, .ref B.tu]))) (hp_ne f_ns f_md (by simp)) f_ns
                  have f_sl := hp_k (e := (.inr (6, [.ref B.ro, .int (nI 0), .ref B.te, .int (nI 0), .int (nI (V.ac)), .int (nI ((Al.length) + 1)), .int (nI (V.sd)), .ref B.he, .ref B.cn, .ref B.kd, .ref B.sz, .ref B.ky, .ref B.le, .ref B.dg, .ref B.nm, .ref B.ns, .ref B.sl, .ref B.sb, .int (nI (V.ss)), .ref B.su, .ref B.wi, .ref B.tu]))) (hp_ne f_sl f_md (by simp)) f_sl
                  have f_sb := hp_k (e := (.inr (6, [.ref B.ro, .int (nI 0), .ref B.te, .int (nI 0), .int (nI (V.ac)), .int (nI ((Al.length) + 1)), .int (nI (V.sd)), .ref B.he, .ref B.cn, .ref B.kd, .ref B.sz, .ref B.ky, .ref B.le, .ref B.dg, .ref B.nm, .ref B.ns, .ref B.sl, .ref B.sb, .int (nI (V.ss)), .ref B.su, .ref B.wi, .ref B.tu]))) (hp_ne f_sb f_md (by simp)) f_sb
                  have f_su := hp_k (e := (.inr (6, [.ref B.ro, .int (nI 0), .ref B.te, .int (nI 0), .int (nI (V.ac)), .int (nI ((Al.length) + 1)), .int (nI (V.sd)), .ref B.he, .ref B.cn, .ref B.kd, .ref B.sz, .ref B.ky, .ref B.le, .ref B.dg, .ref B.nm, .ref B.ns, .ref B.sl, .ref B.sb, .int (nI (V.ss)), .ref B.su, .ref B.wi, .ref B.tu]))) (hp_ne f_su f_md (by simp)) f_su
                  have f_wi := hp_k (e := (.inr (6, [.ref B.ro, .int (nI 0), .ref B.te, .int (nI 0), .int (nI (V.ac)), .int (nI ((Al.length) + 1)), .int (nI (V.sd)), .ref B.he, .ref B.cn, .ref B.kd, .ref B.sz, .ref B.ky, .ref B.le, .ref B.dg, .ref B.nm, .ref B.ns, .ref B.sl, .ref B.sb, .int (nI (V.ss)), .ref B.su, .ref B.wi, .ref B.tu]))) (hp_ne f_wi f_md (by simp)) f_wi
                  have f_tu := hp_k (e := (.inr (6, [.ref B.ro, .int (nI 0), .ref B.te, .int (nI 0), .int (nI (V.ac)), .int (nI ((Al.length) + 1)), .int (nI (V.sd)), .ref B.he, .ref B.cn, .ref B.kd, .ref B.sz, .ref B.ky, .ref B.le, .ref B.dg, .ref B.nm, .ref B.ns, .ref B.sl, .ref B.sb, .int (nI (V.ss)), .ref B.su, .ref B.wi, .ref B.tu]))) (hp_ne f_tu f_md (by simp)) f_tu
                  have f_md : hp_up N20 md (.inr (6, [.ref B.ro, .int (nI 0), .ref B.te, .int (nI 0), .int (nI (V.ac)), .int (nI ((Al.length) + 1)), .int (nI (V.sd)), .ref B.he, .ref B.cn, .ref B.kd, .ref B.sz, .ref B.ky, .ref B.le, .ref B.dg, .ref B.nm, .ref B.ns, .ref B.sl, .ref B.sb, .int (nI (V.ss)), .ref B.su, .ref B.wi, .ref B.tu])) md = some (.inr (6, [.ref B.ro, .int (nI 0), .ref B.te, .int (nI 0), .int (nI (V.ac)), .int (nI ((Al.length) + 1)), .int (nI (V.sd)), .ref B.he, .ref B.cn, .ref B.kd, .ref B.sz, .ref B.ky, .ref B.le, .ref B.dg, .ref B.nm, .ref B.ns, .ref B.sl, .ref B.sb, .int (nI (V.ss)), .ref B.su, .ref B.wi, .ref B.tu])) := hp_us
                  obtain ⟨M22, eM22⟩ : ∃ z, z = hp_up N20 md (.inr (6, [.ref B.ro, .int (nI 0), .ref B.te, .int (nI 0), .int (nI (V.ac)), .int (nI ((Al.length) + 1)), .int (nI (V.sd)), .ref B.he, .ref B.cn, .ref B.kd, .ref B.sz, .ref B.ky, .ref B.le, .ref B.dg, .ref B.nm, .ref B.ns, .ref B.sl, .ref B.sb, .int (nI (V.ss)), .ref B.su, .ref B.wi, .ref B.tu])) := ⟨_, rfl⟩
                  rw [← eM22] at hM f_md f_ro f_te f_he f_cn f_kd f_sz f_ky f_le f_dg f_nm f_ns f_sl f_sb f_su f_wi f_tu
                  exact hp_vret S hret hlk hM hS (Or.inr (Or.inr ⟨hnm1, hno, hl8, va_up V.ns Al.length T.length, nm, ⟨f_md, f_ro, f_te, f_he, f_cn, f_kd, f_sz, f_ky, f_le, f_dg, f_nm, f_ns, f_sl, f_sb, f_su, f_wi, f_tu, hB, b_te, b_cn, b_kd, b_sz, b_ky, b_le, hnmb, up_le b_ns h16, b_sl, b_sb, Nat.zero_le _, Nat.zero_le _, b_ac, hl8, b_sd, b_ss⟩, by show Al.length + 1 = (Al ++ [T]).length; rw [List.length_append]; rfl, by rw [List.length_append]; exact hl8, fun q hq => by rw [List.length_append] at hq; have hq : q < Al.length + 1 := hq; rw [getD_app (by omega)]; by_cases z : q = Al.length; (rw [if_pos z, z]; exact ⟨up_s, h16, fun i hi => hnm3 i (by omega)⟩); (rw [if_neg z]; obtain ⟨a1, a2, a3⟩ := hnk q (by omega); exact ⟨(up_n z).trans a1, a2, fun i hi => (hnm2 (16 * q + i) (by omega)).trans (a3 i hi)⟩)⟩)) d_MD_allow_210
                · exact absurd hn3 (by omega)
              | succ fu3 ih3 =>
                refine lv_iload hx hb d_MD_allow_166 (lv_at hl 2 rfl) ?_
                refine lv_iload_n hx hb d_MD_allow_168 rfl (lv_at hl 1 rfl) ?_
                refine nb_ge (tgt := 200) hx hb d_MD_allow_169 (by decide) (by omega) (by omega) (fun h23 => ?_) (fun h23 => ?_)
                · exact absurd hn3 (by omega)
                · refine lv_aload_n hx hb d_MD_allow_172 rfl (lv_at hl 0 rfl) ?_
                  refine hp_get S hK hM i_MD f_md rfl 14 (by decide) mf_MD_109 (fun _ h9 => h9) rfl d_MD_allow_173 ?_
                  refine lv_bipush (v := nI 16) hx hb d_MD_allow_176 rfl ?_
                  refine lv_aload_n hx hb d_MD_allow_178 rfl (lv_at hl 0 rfl) ?_
                  refine hp_get S hK hM i_MD f_md rfl 5 (by decide) mf_MD_183 (fun _ h9 => h9) rfl d_MD_allow_179 ?_
                  refine nb_imul hx hb d_MD_allow_182 ?_
                  refine lv_iload hx hb d_MD_allow_183 (lv_at hl 2 rfl) ?_
                  refine nb_iadd hx hb d_MD_allow_185 ?_
                  refine lv_aload_n hx hb d_MD_allow_186 rfl (lv_at hl 0 rfl) ?_
                  refine hp_get S hK hM i_MD f_md rfl 2 (by decide) mf_MD_85 (fun _ h9 => h9) rfl d_MD_allow_187 ?_
                  refine lv_iload hx hb d_MD_allow_190 (lv_at hl 2 rfl) ?_
                  refine hp_iald S hK hM 1 f_te rfl i9 rfl (by omega) (by omega) d_MD_allow_192 ?_
                  refine hp_iast S hK hM hS 1 f_nm rfl ((16 * (Al.length)) + i9) rfl (by omega) (by omega) d_MD_allow_193 (fun H locs hM hS => ?_)
                  first | rw [nf_up] at hM | rw [show upd (nf nm) ((16 * (Al.length)) + i9) (nf V.te i9) = nf (va_up nm ((16 * (Al.length)) + i9) (V.te i9)) from nf_up] at hM
                  have f_md := hp_k (e := (.inl (ct 1, 128, .inl (nf (va_up nm ((16 * (Al.length)) + i9) (V.te i9)))))) (hp_ne f_md f_nm (by simp)) f_md
                  have f_ro := hp_k (e := (.inl (ct 1, 128, .inl (nf (va_up nm ((16 * (Al.length)) + i9) (V.te i9)))))) (hp_ne f_ro f_nm (by simp)) f_ro
                  have f_te := hp_k (e := (.inl (ct 1, 128, .inl (nf (va_up nm ((16 * (Al.length)) + i9) (V.te i9)))))) (hp_ne f_te f_nm (by simp)) f_te
                  have f_he := hp_k (e := (.inl (ct 1, 128, .inl (nf (va_up nm ((16 * (Al.length)) + i9) (V.te i9)))))) (hp_ne f_he f_nm (by simp)) f_he
                  have f_cn := hp_k (e := (.inl (ct 1, 128, .inl (nf (va_up nm ((16 * (Al.length)) + i9) (V.te i9)))))) (hp_ne f_cn f_nm (by simp)) f_cn
                  have f_kd := hp_k (e := (.inl (ct 1, 128, .inl (nf (va_up nm ((16 * (Al.length)) + i9) (V.te i9)))))) (hp_ne f_kd f_nm (by simp)) f_kd
                  have f_sz := hp_k (e := (.inl (ct 1, 128, .inl (nf (va_up nm ((16 * (Al.length)) + i9) (V.te i9)))))) (hp_ne f_sz f_nm (by simp)) f_sz
                  have f_ky := hp_k (e := (.inl (ct 1, 128, .inl (nf (va_up nm ((16 * (Al.length)) + i9) (V.te i9)))))) (hp_ne f_ky f_nm (by simp)) f_ky
                  have f_le := hp_k (e := (.inl (ct 1, 128, .inl (nf (va_up nm ((16 * (Al.length)) + i9) (V.te i9)))))) (hp_ne f_le f_nm (by simp)) f_le
                  have f_dg := hp_k (e := (.inl (ct 1, 128, .inl (nf (va_up nm ((16 * (Al.length)) + i9) (V.te i9)))))) (hp_ne f_dg f_nm (by simp)) f_dg
                  have f_ns := hp_k (e := (.inl (ct 1, 128, .inl (nf (va_up nm ((16 * (Al.length)) + i9) (V.te i9)))))) (hp_ne f_ns f_nm (by simp)) f_ns
                  have f_sl := hp_k (e := (.inl (ct 1, 128, .inl (nf (va_up nm ((16 * (Al.length)) + i9) (V.te i9)))))) (hp_ne f_sl f_nm (by simp)) f_sl
                  have f_sb := hp_k (e := (.inl (ct 1, 128, .inl (nf (va_up nm ((16 * (Al.length)) + i9) (V.te i9)))))) (hp_ne f_sb f_nm (by simp)) f_sb
                  have f_su := hp_k (e := (.inl (ct 1, 128, .inl (nf (va_up nm ((16 * (Al.length)) + i9) (V.te i9)))))) (hp_ne f_su f_nm (by simp)) f_su
                  have f_wi := hp_k (e := (.inl (ct 1, 128, .inl (nf (va_up nm ((16 * (Al.length)) + i9) (V.te i9)))))) (hp_ne f_wi f_nm (by simp)) f_wi
                  have f_tu := hp_k (e := (.inl (ct 1, 128, .inl (nf (va_up nm ((16 * (Al.length)) + i9) (V.te i9)))))) (hp_ne f_tu f_nm (by simp)) f_tu
                  have f_nm : hp_up N20 B.nm (.inl (ct 1, 128, .inl (nf (va_up nm ((16 * (Al.length)) + i9) (V.te i9))))) B.nm = some (.inl (ct 1, 128, .inl (nf (va_up nm ((16 * (Al.length)) + i9) (V.te i9))))) := hp_us
                  obtain ⟨M24, eM24⟩ : ∃ z, z = hp_up N20 B.nm (.inl (ct 1, 128, .inl (nf (va_up nm ((16 * (Al.length)) + i9) (V.te i9))))) := ⟨_, rfl⟩
                  rw [← eM24] at hM f_md f_ro f_te f_he f_cn f_kd f_sz f_ky f_le f_dg f_nm f_ns f_sl f_sb f_su f_wi f_tu
                  refine lv_iinc (v := nI (i9 + 1)) (lv' := [(4, .int (nI (i9 + 1))), (0, .ref md), (1, .int (nI (T.length)))]) hx hb d_MD_allow_194 hl (k := 2) rfl (nI_add i9 1) (by decide) rfl (fun ls hl => ?_)
                  refine lv_goto (tgt := 166) hx hb d_MD_allow_197 (by decide) ?_
                  exact ih3 (ls := ls) (hl := lv_sub hl [1, 2, 0] rfl) (hn3 := by omega) (i9 := i9 + 1) (nm := va_up nm (16 * Al.length + i9) (V.te i9)) (hnm3 := lt_s (fun i hi => by rw [up_n (by omega)]; exact hnm3 i hi) (by rw [up_s]; exact hte i9 (by omega))) (hnm2 := fun q hq => by rw [up_n (by omega)]; exact hnm2 q hq) (hnmb := up_lt hnmb (b_te i9)) (H := H) (locs := locs) (hM := hM) (hS := hS) (N20 := M24) (f_md := f_md) (f_ro := f_ro) (f_te := f_te) (f_he := f_he) (f_cn := f_cn) (f_kd := f_kd) (f_sz := f_sz) (f_ky := f_ky) (f_le := f_le) (f_dg := f_dg) (f_nm := f_nm) (f_ns := f_ns) (f_sl := f_sl) (f_sb := f_sb) (f_su := f_su) (f_wi := f_wi) (f_tu := f_tu)
            · exact absurd rfl h18
        · refine lv_iload_n hx hb d_MD_allow_128 rfl (lv_at hl 3 rfl) ?_
          refine nt_ne (tgt := 141) hx hb d_MD_allow_129 (by decide) hbv (fun hP3 => ?_) (fun hP3 => ?_)
          · refine lv_iconst (v := nI 1) hx hb d_MD_allow_141 rfl ?_
            refine lv_goto (tgt := 146) hx hb d_MD_allow_142 (by decide) ?_
            exact hjv14 _ H _ hM hS (bo_t (by first | exact Or.inl hP3 | exact Or.inr (by omega)))
          · refine lv_aload_n hx hb d_MD_allow_132 rfl (lv_at hl 0 rfl) ?_
            refine hp_get S hK hM i_MD f_md rfl 5 (by decide) mf_MD_183 (fun _ h9 => h9) rfl d_MD_allow_133 ?_
            refine lv_bipush (v := nI 8) hx hb d_MD_allow_136 rfl ?_
            refine nb_ne (tgt := 145) hx hb d_MD_allow_138 (by decide) (by omega) (by omega) (fun h8 => ?_) (fun h8 => ?_)
            · refine lv_iconst (v := nI 0) hx hb d_MD_allow_145 rfl ?_
              exact hjv14 _ H _ hM hS (bo_f (fun q => by rcases q with q | q; (exact hP3 q); (omega)))
            · refine lv_iconst (v := nI 1) hx hb d_MD_allow_141 rfl ?_
              refine lv_goto (tgt := 146) hx hb d_MD_allow_142 (by decide) ?_
              exact hjv14 _ H _ hM hS (bo_t (by first | exact Or.inl hP3 | exact Or.inr (by omega)))
      · refine lv_iload_n hx hb d_MD_allow_33 rfl (lv_at hl 2 rfl) ?_
        refine nt_ne (tgt := 126) hx hb d_MD_allow_34 (by decide) hv2 (fun hbd => ?_) (fun hbd => ?_)
        · have hv9 : isNam T T.length → bo v (∃ i, i < Al.length ∧ Al.getD i [] = T) := fun z => by first | exact absurd z hbd | exact bo_iff hv ⟨fun ⟨i, a, q⟩ => ⟨i, by omega, q⟩, fun ⟨i, a, q⟩ => ⟨i, by omega, q⟩⟩
          refine lv_aload_n hx hb d_MD_allow_126 rfl (lv_at hl 0 rfl) ?_
          refine lv_iload_n hx hb d_MD_allow_127 rfl (lv_at hl 2 rfl) ?_
          have hbv : bo v (v = nI 1) := by rcases hv with ⟨-, e⟩ | ⟨-, e⟩; (rw [e]; exact bo_t rfl); (rw [e]; exact bo_f (by decide))
          refine w_join hM hS (P := fun z => bo z (v = nI 1 ∨ 8 ≤ Al.length)) (pc2 := 146) (rest := [.int v2, .ref md]) (fun v25 H locs hM hS hv25 => ?_) (fun hjv25 => ?_)
          · refine hp_calli (go_V S hZ hK hM hS hA hz (c_MD_refuses l D ct Z hZ _ _ md B (mkS (V.te) (V.cn) (V.kd) (V.sz) (V.ky) (V.le) (V.nm) (V.ns) (V.sl) (V.sb) (V.he) (V.dg) (V.su) (V.wi) (V.tu) (V.co) 0 (V.ac) (V.al) (V.sd) (V.ss)) hw2 v2 v25 (¬ isNam T T.length) (v = nI 1 ∨ 8 ≤ Al.length) (hv2) (hv25)) mc_MD_refuses mz_MD ml_MD_178 mi_MD_refuses mx_MD_refuses hd_MD_refuses rfl ⟨by decide, by decide⟩ f_md rfl rfl hl.1 rfl (Nat.le_of_ble_eq_true rfl) d_MD_allow_146 ⟨by decide, by decide⟩) hM hS hA (fun r9 M9 H locs h9 hM hS => ?_)
            obtain ⟨N26, eN26⟩ : ∃ z, z = M9 := ⟨_, rfl⟩
            rw [← eN26] at hM h9
            rcases h9 with ⟨hp1, er, h9⟩ | ⟨hp1, hp2, er, h9⟩ | ⟨hp1, hp2, er, h9⟩
            · subst er
              have hw4 : mdS ct N26 md B (mkS (V.te) (V.cn) (V.kd) (V.sz) (V.ky) (V.le) (V.nm) (V.ns) (V.sl) (V.sb) (V.he) (V.dg) (V.su) (V.wi) (V.tu) 1 0 (V.ac) (V.al) (V.sd) (V.ss)) := h9
              clear f_md f_ro f_te f_he f_cn f_kd f_sz f_ky f_le f_dg f_nm f_ns f_sl f_sb f_su f_wi f_tu
              obtain ⟨f_md, f_ro, f_te, f_he, f_cn, f_kd, f_sz, f_ky, f_le, f_dg, f_nm, f_ns, f_sl, f_sb, f_su, f_wi, f_tu, hB, hV⟩ := id hw4
              replace f_md : N26 md = some (.inr (6, [.ref B.ro, .int (nI 1), .ref B.te, .int (nI 0), .int (nI (V.ac)), .int (nI (V.al)), .int (nI (V.sd)), .ref B.he, .ref B.cn, .ref B.kd, .ref B.sz, .ref B.ky, .ref B.le, .ref B.dg, .ref B.nm, .ref B.ns, .ref B.sl, .ref B.sb, .int (nI (V.ss)), .ref B.su, .ref B.wi, .ref B.tu])) := f_md
              replace f_ro : N26 B.ro = some (.inl (ct 1, 72, .inl roF)) := f_ro
              replace f_te : N26 B.te = some (.inl (ct 1, 64, .inl (nf V.te))) := f_te
              replace f_he : N26 B.he = some (.inl (ct 1, 8, .inl (V.he))) := f_he
              replace f_cn : N26 B.cn = some (.inl (ct 1, 12, .inl (nf V.cn))) := f_cn
              replace f_kd : N26 B.kd = some (.inl (ct 1, 288, .inl (nf V.kd))) := f_kd
              replace f_sz : N26 B.sz = some (.inl (ct 1, 288, .inl (nf V.sz))) := f_sz
              replace f_ky : N26 B.ky = some (.inl (ct 1, 288, .inl (nf V.ky))) := f_ky
              replace f_le : N26 B.le = some (.inl (ct 1, 18432, .inl (nf V.le))) := f_le
              replace f_dg : N26 B.dg = some (.inl (ct 1, 2304, .inl (V.dg))) := f_dg
              replace f_nm : N26 B.nm = some (.inl (ct 1, 128, .inl (nf V.nm))) := f_nm
              replace f_ns : N26 B.ns = some (.inl (ct 1, 8, .inl (nf V.ns))) := f_ns
              replace f_sl : N26 B.sl = some (.inl (ct 1, 16, .inl (nf V.sl))) := f_sl
              replace f_sb : N26 B.sb = some (.inl (ct 1, 3000, .inl (nf V.sb))) := f_sb
              replace f_su : N26 B.su = some (.inl (ct 1, 8, .inl (V.su))) := f_su
              replace f_wi : N26 B.wi = some (.inl (ct 1, 64, .inl (V.wi))) := f_wi
              replace f_tu : N26 B.tu = some (.inl (ct 1, 8, .inl (V.tu))) := f_tu
              refine nz_eq (tgt := 153) hx hb d_MD_allow_149 (by decide) (by omega) (fun h27 => ?_) (fun h27 => ?_)
              · exact absurd h27 (by decide)
              · exact hp_vret S hret hlk hM hS (Or.inl ⟨hp1, hw4⟩) d_MD_allow_152
            · subst er
              have hw4 : mdS ct N26 md B (mkS (V.te) (V.cn) (V.kd) (V.sz) (V.ky) (V.le) (V.nm) (V.ns) (V.sl) (V.sb) (V.he) (V.dg) (V.su) (V.wi) (V.tu) 2 0 (V.ac) (V.al) (V.sd) (V.ss)) := h9
              clear f_md f_ro f_te f_he f_cn f_kd f_sz f_ky f_le f_dg f_nm f_ns f_sl f_sb f_su f_wi f_tu
              obtain ⟨f_md, f_ro, f_te, f_he, f_cn, f_kd, f_sz, f_ky, f_le, f_dg, f_nm, f_ns, f_sl, f_sb, f_su, f_wi, f_tu, hB, hV⟩ := id hw4
              replace f_md : N26 md = some (.inr (6, [.ref B.ro, .int (nI 2), .ref B.te, .int (nI 0), .int (nI (V.ac)), .int (nI (V.al)), .int (nI (V.sd)), .ref B.he, .ref B.cn, .ref B.kd, .ref B.sz, .ref B.ky, .ref B.le, .ref B.dg, .ref B.nm, .ref B.ns, .ref B.sl, .ref B.sb, .int (nI (V.ss)), .ref B.su, .ref B.wi, .ref B.tu])) := f_md
              replace f_ro : N26 B.ro = some (.inl (ct 1, 72, .inl roF)) := f_ro
              replace f_te : N26 B.te = some (.inl (ct 1, 64, .inl (nf V.te))) := f_te
              replace f_he : N26 B.he = some (.inl (ct 1, 8, .inl (V.he))) := f_he
              replace f_cn : N26 B.cn = some (.inl (ct 1, 12, .inl (nf V.cn))) := f_cn
              replace f_kd : N26 B.kd = some (.inl (ct 1, 288, .inl (nf V.kd))) := f_kd
              replace f_sz : N26 B.sz = some (.inl (ct 1, 288, .inl (nf V.sz))) := f_sz
              replace f_ky : N26 B.ky = some (.inl (ct 1, 288, .inl (nf V.ky))) := f_ky
              replace f_le : N26 B.le = some (.inl (ct 1, 18432, .inl (nf V.le))) := f_le
              replace f_dg : N26 B.dg = some (.inl (ct 1, 2304, .inl (V.dg))) := f_dg
              replace f_nm : N26 B.nm = some (.inl (ct 1, 128, .inl (nf V.nm))) := f_nm
              replace f_ns : N26 B.ns = some (.inl (ct 1, 8, .inl (nf V.ns))) := f_ns
              replace f_sl : N26 B.sl = some (.inl (ct 1, 16, .inl (nf V.sl))) := f_sl
              replace f_sb : N26 B.sb = some (.inl (ct 1, 3000, .inl (nf V.sb))) := f_sb
              replace f_su : N26 B.su = some (.inl (ct 1, 8, .inl (V.su))) := f_su
              replace f_wi : N26 B.wi = some (.inl (ct 1, 64, .inl (V.wi))) := f_wi
              replace f_tu : N26 B.tu = some (.inl (ct 1, 8, .inl (V.tu))) := f_tu
              refine nz_eq (tgt := 153) hx hb d_MD_allow_149 (by decide) (by omega) (fun h28 => ?_) (fun h28 => ?_)
              · exact absurd h28 (by decide)
              · have hnm1 : isNam T T.length := Classical.byContradiction hp1
                exact hp_vret S hret hlk hM hS (Or.inr (Or.inl ⟨hnm1, hp2.imp (fun q => by rcases hv9 hnm1 with z | z; (exact z.1); (rw [z.2] at q; exact absurd q (by decide))) id, hw4⟩)) d_MD_allow_152
            · subst er
              have hw4 : mdS ct N26 md B (mkS (V.te) (V.cn) (V.kd) (V.sz) (V.ky) (V.le) (V.nm) (V.ns) (V.sl) (V.sb) (V.he) (V.dg) (V.su) (V.wi) (V.tu) 0 0 (V.ac) (V.al) (V.sd) (V.ss)) := h9
              clear f_md f_ro f_te f_he f_cn f_kd f_sz f_ky f_le f_dg f_nm f_ns f_sl f_sb f_su f_wi f_tu
              obtain ⟨f_md, f_ro, f_te, f_he, f_cn, f_kd, f_sz, f_ky, f_le, f_dg, f_nm, f_ns, f_sl, f_sb, f_su, f_wi, f_tu, hB, hV⟩ := id hw4
              replace f_md : N26 md = some (.inr (6, [.ref B.ro, .int (nI 0), .ref B.te, .int (nI 0), .int (nI (V.ac)), .int (nI (V.al)), .int (nI (V.sd)), .ref B.he, .ref B.cn, .ref B.kd, .ref B.sz, .ref B.ky, .ref B.le, .ref B.dg, .ref B.nm, .ref B.ns, .ref B.sl, .ref B.sb, .int (nI (V.ss)), .ref B.su, .ref B.wi, .ref B.tu])) := f_md
              replace f_ro : N26 B.ro = some (.inl (ct 1, 72, .inl roF)) := f_ro
              replace f_te : N26 B.te = some (.inl (ct 1, 64, .inl (nf V.te))) := f_te
              replace f_he : N26 B.he = some (.inl (ct 1, 8, .inl (V.he))) := f_he
              replace f_cn : N26 B.cn = some (.inl (ct 1, 12, .inl (nf V.cn))) := f_cn
              replace f_kd : N26 B.kd = some (.inl (ct 1, 288, .inl (nf V.kd))) := f_kd
              replace f_sz : N26 B.sz = some (.inl (ct 1, 288, .inl (nf V.sz))) := f_sz
              replace f_ky : N26 B.ky = some (.inl (ct 1, 288, .inl (nf V.ky))) := f_ky
              replace f_le : N26 B.le = some (.inl (ct 1, 18432, .inl (nf V.le))) := f_le
              replace f_dg : N26 B.dg = some (.inl (ct 1, 2304, .inl (V.dg))) := f_dg
              replace f_nm : N26 B.nm = some (.inl (ct 1, 128, .inl (nf V.nm))) := f_nm
              replace f_ns : N26 B.ns = some (.inl (ct 1, 8, .inl (nf V.ns))) := f_ns
              replace f_sl : N26 B.sl = some (.inl (ct 1, 16, .inl (nf V.sl))) := f_sl
              replace f_sb : N26 B.sb = some (.inl (ct 1, 3000, .inl (nf V.sb))) := f_sb
              replace f_su : N26 B.su = some (.inl (ct 1, 8, .inl (V.su))) := f_su
              replace f_wi : N26 B.wi = some (.inl (ct 1, 64, .inl (V.wi))) := f_wi
              replace f_tu : N26 B.tu = some (.inl (ct 1, 8, .inl (V.tu))) := f_tu
              refine nz_eq (tgt := 153) hx hb d_MD_allow_149 (by decide) (by omega) (fun h29 => ?_) (fun h29 => ?_)
              · refine lv_aload_n hx hb d_MD_allow_153 rfl (lv_at hl 0 rfl) ?_
                refine hp_get S hK hM i_MD f_md rfl 15 (by decide) mf_MD_112 (fun _ h9 => h9) rfl d_MD_allow_154 ?_
                refine lv_aload_n hx hb d_MD_allow_157 rfl (lv_at hl 0 rfl) ?_
                refine hp_get S hK hM i_MD f_md rfl 5 (by decide) mf_MD_183 (fun _ h9 => h9) rfl d_MD_allow_158 ?_
                refine lv_iload_n hx hb d_MD_allow_161 rfl (lv_at hl 1 rfl) ?_
                refine hp_iast S hK hM hS 1 f_ns rfl (V.al) rfl (by omega) (by omega) d_MD_allow_162 (fun H locs hM hS => ?_)
                rw [nf_up] at hM
                have f_md := hp_k (e := (.inl (ct 1, 8, .inl (nf (va_up (V.ns) (V.al) (T.length)))))) (hp_ne f_md f_ns (by simp)) f_md
                have f_ro := hp_k (e := (.inl (ct 1, 8, .inl (nf (va_up (V.ns) (V.al) (T.length)))))) (hp_ne f_ro f_ns (by simp)) f_ro
                have f_te := hp_k (e := (.inl (ct 1, 8, .inl (nf (va_up (V.ns) (V.al) (T.length)))))) (hp_ne f_te f_ns (by simp)) f_te
                have f_he := hp_k (e := (.inl (ct 1, 8, .inl (nf (va_up (V.ns) (V.al) (T.length)))))) n_hens f_he
                have f_cn := hp_k (e := (.inl (ct 1, 8, .inl (nf (va_up (V.ns) (V.al) (T.length)))))) (hp_ne f_cn f_ns (by simp)) f_cn
                have f_kd := hp_k (e := (.inl (ct 1, 8, .inl (nf (va_up (V.ns) (V.al) (T.length)))))) (hp_ne f_kd f_ns (by simp)) f_kd
                have f_sz := hp_k (e := (.inl (ct 1, 8, .inl (nf (va_up (V.ns) (V.al) (T.length)))))) (hp_ne f_sz f_ns (by simp)) f_sz
                have f_ky := hp_k (e := (.inl (ct 1, 8, .inl (nf (va_up (V.ns) (V.al) (T.length)))))) (hp_ne f_ky f_ns (by simp)) f_ky
                have f_le := hp_k (e := (.inl (ct 1, 8, .inl (nf (va_up (V.ns) (V.al) (T.length)))))) (hp_ne f_le f_ns (by simp)) f_le
                have f_dg := hp_k (e := (.inl (ct 1, 8, .inl (nf (va_up (V.ns) (V.al) (T.length)))))) (hp_ne f_dg f_ns (by simp)) f_dg
                have f_nm := hp_k (e := (.inl (ct 1, 8, .inl (nf (va_up (V.ns) (V.al) (T.length)))))) (hp_ne f_nm f_ns (by simp)) f_nm
                have f_sl := hp_k (e := (.inl (ct 1, 8, .inl (nf (va_up (V.ns) (V.al) (T.length)))))) (hp_ne f_sl f_ns (by simp)) f_sl
                have f_sb := hp_k (e := (.inl (ct 1, 8, .inl (nf (va_up (V.ns) (V.al) (T.length)))))) (hp_ne f_sb f_ns (by simp)) f_sb
                have f_su := hp_k (e := (.inl (ct 1, 8, .inl (nf (va_up (V.ns) (V.al) (T.length)))))) (Ne.symm n_nssu) f_su
                have f_wi := hp_k (e := (.inl (ct 1, 8, .inl (nf (va_up (V.ns) (V.al) (T.length)))))) (hp_ne f_wi f_ns (by simp)) f_wi
                have f_tu := hp_k (e := (.inl (ct 1, 8, .inl (nf (va_up (V.ns) (V.al) (T.length)))))) (Ne.symm n_nstu) f_tu
                have f_ns : hp_up N26 B.ns (.inl (ct 1, 8, .inl (nf (va_up (V.ns) (V.al) (T.length))))) B.ns = some (.inl (ct 1, 8, .inl (nf (va_up (V.ns) (V.al) (T.length))))) := hp_us
                obtain ⟨M30, eM30⟩ : ∃ z, z = hp_up N26 B.ns (.inl (ct 1, 8, .inl (nf (va_up (V.ns) (V.al) (T.length))))) := ⟨_, rfl⟩
                rw [← eM30] at hM f_md f_ro f_te f_he f_cn f_kd f_sz f_ky f_le f_dg f_nm f_ns f_sl f_sb f_su f_wi f_tu
                refine lv_iconst (v := nI 0) hx hb d_MD_allow_163 rfl ?_
                refine lv_istore (lv' := [(4, .int (nI 0)), (0, .ref md), (1, .int (nI (T.length))), (2, .int v2), (3, .int v)]) hx hb d_MD_allow_164 hl (by decide) rfl (fun ls hl => ?_)
                have hnm1 : isNam T T.length := Classical.byContradiction hp1
                have hno : ¬ ∃ i, i < Al.length ∧ Al.getD i [] = T := fun q => hp2 (Or.inl (by rcases hv9 hnm1 with z | z; (exact z.2); (exact absurd q z.1)))
                have h16 := hnm1.2.1
                have hl8 : Al.length < 8 := Nat.lt_of_not_le (fun q => hp2 (Or.inr q))
                rw [hal] at f_md f_ns
                replace hl : lv_has ls 7 [(0, .ref md), (1, .int (nI (T.length))), (4, .int (nI 0))] := lv_sub hl [1, 2, 0] rfl
                obtain ⟨i9, e9i9⟩ : ∃ z : Nat, z = 0 := ⟨_, rfl⟩
                obtain ⟨nm, e9nm⟩ : ∃ z : Nat → Nat, z = V.nm := ⟨_, rfl⟩
                replace hl : lv_has ls 7 [(0, .ref md), (1, .int (nI (T.length))), (4, .int (nI i9))] := by subst e9i9 e9nm; exact hl
                obtain ⟨N31, e9N31⟩ : ∃ z : hp_M, z = M30 := ⟨_, rfl⟩
                replace hM : hp_H D ccl (hp_A M sz) N31 H := by rw [e9N31]; exact hM
                replace f_md : N31 md = some (.inr (6, [.ref B.ro, .int (nI 0), .ref B.te, .int (nI 0), .int (nI (V.ac)), .int (nI (Al.length)), .int (nI (V.sd)), .ref B.he, .ref B.cn, .ref B.kd, .ref B.sz, .ref B.ky, .ref B.le, .ref B.dg, .ref B.nm, .ref B.ns, .ref B.sl, .ref B.sb, .int (nI (V.ss)), .ref B.su, .ref B.wi, .ref B.tu])) := by rw [e9N31]; exact f_md
                replace f_ro : N31 B.ro = some (.inl (ct 1, 72, .inl roF)) := by rw [e9N31]; exact f_ro
                replace f_te : N31 B.te = some (.inl (ct 1, 64, .inl (nf V.te))) := by rw [e9N31]; exact f_te
                replace f_he : N31 B.he = some (.inl (ct 1, 8, .inl (V.he))) := by rw [e9N31]; exact f_he
                replace f_cn : N31 B.cn = some (.inl (ct 1, 12, .inl (nf V.cn))) := by rw [e9N31]; exact f_cn
                replace f_kd : N31 B.kd = some (.inl (ct 1, 288, .inl (nf V.kd))) := by rw [e9N31]; exact f_kd
                replace f_sz : N31 B.sz = some (.inl (ct 1, 288, .inl (nf V.sz))) := by rw [e9N31]; exact f_sz
                replace f_ky : N31 B.ky = some (.inl (ct 1, 288, .inl (nf V.ky))) := by rw [e9N31]; exact f_ky
                replace f_le : N31 B.le = some (.inl (ct 1, 18432, .inl (nf V.le))) := by rw [e9N31]; exact f_le
                replace f_dg : N31 B.dg = some (.inl (ct 1, 2304, .inl (V.dg))) := by rw [e9N31]; exact f_dg
                replace f_nm : N31 B.nm = some (.inl (ct 1, 128, .inl (nf V.nm))) := by rw [e9N31]; exact f_nm
                replace f_ns : N31 B.ns = some (.inl (ct 1, 8, .inl (nf (va_up V.ns Al.length T.length)))) := by rw [e9N31]; exact f_ns
                replace f_sl : N31 B.sl = some (.inl (ct 1, 16, .inl (nf V.sl))) := by rw [e9N31]; exact f_sl
                replace f_sb : N31 B.sb = some (.inl (ct 1, 3000, .inl (nf V.sb))) := by rw [e9N31]; exact f_sb
                replace f_su : N31 B.su = some (.inl (ct 1, 8, .inl (V.su))) := by rw [e9N31]; exact f_su
                replace f_wi : N31 B.wi = some (.inl (ct 1, 64, .inl (V.wi))) := by rw [e9N31]; exact f_wi
                replace f_tu : N31 B.tu = some (.inl (ct 1, 8, .inl (V.tu))) := by rw [e9N31]; exact f_tu
                replace f_nm : N31 B.nm = some (.inl (ct 1, 128, .inl (nf nm))) := by subst e9i9 e9nm; exact f_nm
                have hnm3 : ∀ i, i < i9 → nm (16 * Al.length + i) = T.getD i 0 := by subst e9i9 e9nm; intro i hi; omega
                have hnm2 : ∀ q, q < 16 * Al.length → nm q = V.nm q := by subst e9i9 e9nm; intro q hq; rfl
                have hnmb : ∀ i, nm i < 65536 := by subst e9i9 e9nm; exact b_nm
                obtain ⟨fu3, hn3⟩ : ∃ fu : Nat, i9 + fu = T.length := ⟨T.length - i9, by omega⟩
                clear e9i9 e9nm e9N31
                induction fu3 generalizing i9 nm H locs N31 ls with
                | zero =>
                  refine lv_iload hx hb d_MD_allow_166 (lv_at hl 2 rfl) ?_
                  refine lv_iload_n hx hb d_MD_allow_168 rfl (lv_at hl 1 rfl) ?_
                  refine nb_ge (tgt := 200) hx hb d_MD_allow_169 (by decide) (by omega) (by omega) (fun h32 => ?_) (fun h32 => ?_)
                  · refine lv_aload_n hx hb d_MD_allow_200 rfl (lv_at hl 0 rfl) ?_
                    refine lv_dup hx hb d_MD_allow_201 rfl ?_
                    refine hp_get S hK hM i_MD f_md rfl 5 (by decide) mf_MD_183 (fun _ h9 => h9) rfl d_MD_allow_202 ?_
                    refine lv_iconst (v := nI 1) hx hb d_MD_allow_205 rfl ?_
                    refine nb_iadd hx hb d_MD_allow_206 ?_
                    refine hp_put (ty := .int) (fs' := [.ref B.ro, .int (nI 0), .ref B.te, .int (nI 0), .int (nI (V.ac)), .int (nI ((Al.length) + 1)), .int (nI (V.sd)), .ref B.he, .ref B.cn, .ref B.kd, .ref B.sz, .ref B.ky, .ref B.le, .ref B.dg, .ref B.nm, .ref B.ns, .ref B.sl, .ref B.sb, .int (nI (V.ss)), .ref B.su, .ref B.wi, .ref B.tu]) S hK hM hS i_MD t_MD to_MD n_MD f_md rfl 5 (by decide) mf_MD_183 (fun _ h9 => h9) rfl (by decide +kernel) rfl rfl (by simp) rfl d_MD_allow_207 (fun H locs hM hS => ?_)
                    have f_ro := hp_k (e := (.inr (6, [.ref B.ro, .int (nI 0), .ref B.te, .int (nI 0), .int (nI (V.ac)), .int (nI ((Al.length) + 1)), .int (nI (V.sd)), .ref B.he, .ref B.cn, .ref B.kd, .ref B.sz, .ref B.ky, .ref B.le, .ref B.dg, .ref B.nm, .ref B.ns, .ref B.sl, .ref B.sb, .int (nI (V.ss)), .ref B.su, .ref B.wi, .ref B.tu]))) (hp_ne f_ro f_md (by simp)) f_ro
                    have f_te := hp_k (e := (.inr (6, [.ref B.ro, .int (nI 0), .ref B.te, .int (nI 0), .int (nI (V.ac)), .int (nI ((Al.length) + 1)), .int (nI (V.sd)), .ref B.he, .ref B.cn, .ref B.kd, .ref B.sz, .ref B.ky, .ref B.le, .ref B.dg, .ref B.nm, .ref B.ns, .ref B.sl, .ref B.sb, .int (nI (V.ss)), .ref B.su, .ref B.wi, .ref B.tu]))) (hp_ne f_te f_md (by simp)) f_te
                    have f_he := hp_k (e := (.inr (6, [.ref B.ro, .int (nI 0), .ref B.te, .int (nI 0), .int (nI (V.ac)), .int (nI ((Al.length) + 1)), .int (nI (V.sd)), .ref B.he, .ref B.cn, .ref B.kd, .ref B.sz, .ref B.ky, .ref B.le, .ref B.dg, .ref B.nm, .ref B.ns, .ref B.sl, .ref B.sb, .int (nI (V.ss)), .ref B.su, .ref B.wi, .ref B.tu]))) (hp_ne f_he f_md (by simp)) f_he
                    have f_cn := hp_k (e := (.inr (6, [.ref B.ro, .int (nI 0), .ref B.te, .int (nI 0), .int (nI (V.ac)), .int (nI ((Al.length) + 1)), .int (nI (V.sd)), .ref B.he, .ref B.cn, .ref B.kd, .ref B.sz, .ref B.ky, .ref B.le, .ref B.dg, .ref B.nm, .ref B.ns, .ref B.sl, .ref B.sb, .int (nI (V.ss)), .ref B.su, .ref B.wi, .ref B.tu]))) (hp_ne f_cn f_md (by simp)) f_cn
                    have f_kd := hp_k (e := (.inr (6, [.ref B.ro, .int (nI 0), .ref B.te, .int (nI 0), .int (nI (V.ac)), .int (nI ((Al.length) + 1)), .int (nI (V.sd)), .ref B.he, .ref B.cn, .ref B.kd, .ref B.sz, .ref B.ky, .ref B.le, .ref B.dg, .ref B.nm, .ref B.ns, .ref B.sl, .ref B.sb, .int (nI (V.ss)), .ref B.su, .ref B.wi, .ref B.tu]))) (hp_ne f_kd f_md (by simp)) f_kd
                    have f_sz := hp_k (e := (.inr (6, [.ref B.ro, .int (nI 0), .ref B.te, .int (nI 0), .int (nI (V.ac)), .int (nI ((Al.length) + 1)), .int (nI (V.sd)), .ref B.he, .ref B.cn, .ref B.kd, .ref B.sz, .ref B.ky, .ref B.le, .ref B.dg, .ref B.nm, .ref B.ns, .ref B.sl, .ref B.sb, .int (nI (V.ss)), .ref B.su, .ref B.wi, .ref B.tu]))) (hp_ne f_sz f_md (by simp)) f_sz
                    have f_ky := hp_k (e := (.inr (6, [.ref B.ro, .int (nI 0), .ref B.te, .int (nI 0), .int (nI (V.ac)), .int (nI ((Al.length) + 1)), .int (nI (V.sd)), .ref B.he, .ref B.cn, .ref B.kd, .ref B.sz, .ref B.ky, .ref B.le, .ref B.dg, .ref B.nm, .ref B.ns, .ref B.sl, .ref B.sb, .int (nI (V.ss)), .ref B.su, .ref B.wi, .ref B.tu]))) (hp_ne f_ky f_md (by simp)) f_ky
                    have f_le := hp_k (e := (.inr (6, [.ref B.ro, .int (nI 0), .ref B.te, .int (nI 0), .int (nI (V.ac)), .int (nI ((Al.length) + 1)), .int (nI (V.sd)), .ref B.he, .ref B.cn, .ref B.kd, .ref B.sz, .ref B.ky, .ref B.le, .ref B.dg, .ref B.nm, .ref B.ns, .ref B.sl, .ref B.sb, .int (nI (V.ss)), .ref B.su, .ref B.wi, .ref B.tu]))) (hp_ne f_le f_md (by simp)) f_le
                    have f_dg := hp_k (e := (.inr (6, [.ref B.ro, .int (nI 0), .ref B.te, .int (nI 0), .int (nI (V.ac)), .int (nI ((Al.length) + 1)), .int (nI (V.sd)), .ref B.he, .ref B.cn, .ref B.kd, .ref B.sz, .ref B.ky, .ref B.le, .ref B.dg, .ref B.nm, .ref B.ns, .ref B.sl, .ref B.sb, .int (nI (V.ss)), .ref B.su, .ref B.wi, .ref B.tu]))) (hp_ne f_dg f_md (by simp)) f_dg
                    have f_nm := hp_k (e := (.inr (6, [.ref B.ro, .int (nI 0), .ref B.te, .int (nI 0), .int (nI (V.ac)), .int (nI ((Al.length) + 1)), .int (nI (V.sd)), .ref B.he, .ref B.cn, .ref B.kd, .ref B.sz, .ref B.ky, .ref B.le, .ref B.dg, .ref B.nm, .ref B.ns, .ref B.sl, .ref B.sb, .int (nI (V.ss)), .ref B.su, .ref B.wi, .ref B.tu]))) (hp_ne f_nm f_md (by simp)) f_nm
                    have f_ns := hp_k (e := (.inr (6, [.ref B.ro, .int (nI 0), .ref B.te, .int (nI 0), .int (nI (V.ac)), .int (nI ((Al.length) + 1)), .int (nI (V.sd)), .ref B.he, .ref B.cn, .ref B.kd, .ref B.sz, .ref B.ky, .ref B.le, .ref B.dg, .ref B.nm, .ref B.ns, .ref B.sl, .ref B.sb, .int (nI (V.ss)), .ref B.su, .ref B.wi, .ref B.tu]))) (hp_ne f_ns f_md (by simp)) f_ns
                    have f_sl := hp_k (e := (.inr (6, [.ref B.ro, .int (nI 0), .ref B.te, .int (nI 0), .int (nI (V.ac)), .int (nI ((Al.length) + 1)), .int (nI (V.sd)), .ref B.he, .ref B.cn, .ref B.kd, .ref B.sz, .ref B.ky, .ref B.le, .ref B.dg, .ref B.nm, .ref B.ns, .ref B.sl, .ref B.sb, .int (nI (V.ss)), .ref B.su, .ref B.wi, .ref B.tu]))) (hp_ne f_sl f_md (by simp)) f_sl
                    have f_sb := hp_k (e := (.inr (6, [.ref B.ro, .int (nI 0), .ref B.te, .int (nI 0), .int (nI (V.ac)), .int (nI ((Al.length) + 1)), .int (nI (V.sd)), .ref B.he, .ref B.cn, .ref B.kd, .ref B.sz, .ref B.ky, .ref B.le, .ref B.dg, .ref B.nm, .ref B.ns, .ref B.sl, .ref B.sb, .int (nI (V.ss)), .ref B.su, .ref B.wi, .ref B.tu]))) (hp_ne f_sb f_md (by simp)) f_sb
                    have f_su := hp_k (e := (.inr (6, [.ref B.ro, .int (nI 0), .ref B.te, .int (nI 0), .int (nI (V.ac)), .int (nI ((Al.length) + 1)), .int (nI (V.sd)), .ref B.he, .ref B.cn, .ref B.kd, .ref B.sz, .ref B.ky, .ref B.le, .ref B.dg, .ref B.nm, .ref B.ns, .ref B.sl, .ref B.sb, .int (nI (V.ss)), .ref B.su, .ref B.wi, .ref B.tu]))) (hp_ne f_su f_md (by simp)) f_su
                    have f_wi := hp_k (e := (.inr (6, [.ref B.ro, .int (nI 0), .ref B.te, .int (nI 0), .int (nI (V.ac)), .int (nI ((Al.length) + 1)), .int (nI (V.sd)), .ref B.he, .ref B.cn, .ref B.kd, .ref B.sz, .ref B.ky, .ref B.le, .ref B.dg, .ref B.nm, .ref B.ns, .ref B.sl, .ref B.sb, .int (nI (V.ss)), .ref B.su, .ref B.wi, .ref B.tu]))) (hp_ne f_wi f_md (by simp)) f_wi
                    have f_tu := hp_k (e := (.inr (6, [.ref B.ro, .int (nI 0), .ref B.te, .int (nI 0), .int (nI (V.ac)), .int (nI ((Al.length) + 1)), .int (nI (V.sd)), .ref B.he, .ref B.cn, .ref B.kd, .ref B.sz, .ref B.ky, .ref B.le, .ref B.dg, .ref B.nm, .ref B.ns, .ref B.sl, .ref B.sb, .int (nI (V.ss)), .ref B.su, .ref B.wi, .ref B.tu]))) (hp_ne f_tu f_md (by simp)) f_tu
                    have f_md : hp_up N31 md (.inr (6, [.ref B.ro, .int (nI 0), .ref B.te, .int (nI 0), .int (nI (V.ac)), .int (nI ((Al.length) + 1)), .int (nI (V.sd)), .ref B.he, .ref B.cn, .ref B.kd, .ref B.sz, .ref B.ky, .ref B.le, .ref B.dg, .ref B.nm, .ref B.ns, .ref B.sl, .ref B.sb, .int (nI (V.ss)), .ref B.su, .ref B.wi, .ref B.tu])) md = some (.inr (6, [.ref B.ro, .int (nI 0), .ref B.te, .int (nI 0), .int (nI (V.ac)), .int (nI ((Al.length) + 1)), .int (nI (V.sd)), .ref B.he, .ref B.cn, .ref B.kd, .ref B.sz, .ref B.ky, .ref B.le, .ref B.dg, .ref B.nm, .ref B.ns, .ref B.sl, .ref B.sb, .int (nI (V.ss)), .ref B.su, .ref B.wi, .ref B.tu])) := hp_us
                    obtain ⟨M33, eM33⟩ : ∃ z, z = hp_up N31 md (.inr (6, [.ref B.ro, .int (nI 0), .ref B.te, .int (nI 0), .int (nI (V.ac)), .int (nI ((Al.length) + 1)), .int (nI (V.sd)), .ref B.he, .ref B.cn, .ref B.kd, .ref B.sz, .ref B.ky, .ref B.le, .ref B.dg, .ref B.nm, .ref B.ns, .ref B.sl, .ref B.sb, .int (nI (V.ss)), .ref B.su, .ref B.wi, .ref B.tu])) := ⟨_, rfl⟩
                    rw [← eM33] at hM f_md f_ro f_te f_he f_cn f_kd f_sz f_ky f_le f_dg f_nm f_ns f_sl f_sb f_su f_wi f_tu
                    exact hp_vret S hret hlk hM hS (Or.inr (Or.inr ⟨hnm1, hno, hl8, va_up V.ns Al.length T.length, nm, ⟨f_md, f_ro, f_te, f_he, f_cn, f_kd, f_sz, f_ky, f_le, f_dg, f_nm, f_ns, f_sl, f_sb, f_su, f_wi, f_tu, hB, b_te, b_cn, b_kd, b_sz, b_ky, b_le, hnmb, up_le b_ns h16, b_sl, b_sb, Nat.zero_le _, Nat.zero_le _, b_ac, hl8, b_sd, b_ss⟩, by show Al.length + 1 = (Al ++ [T]).length; rw [List.length_append]; rfl, by rw [List.length_append]; exact hl8, fun q hq => by rw [List.length_append] at hq; have hq : q < Al.length + 1 := hq; rw [getD_app (by omega)]; by_cases z : q = Al.length; (rw [if_pos z, z]; exact ⟨up_s, h16, fun i hi => hnm3 i (by omega)⟩); (rw [if_neg z]; obtain ⟨a1, a2, a3⟩ := hnk q (by omega); exact ⟨(up_n z).trans a1, a2, fun i hi => (hnm2 (16 * q + i) (by omega)).trans (a3 i hi)⟩)⟩)) d_MD_allow_210
                  · exact absurd hn3 (by omega)
                | succ fu3 ih3 =>
                  refine lv_iload hx hb d_MD_allow_166 (lv_at hl 2 rfl) ?_
                  refine lv_iload_n hx hb d_MD_allow_168 rfl (lv_at hl 1 rfl) ?_
                  refine nb_ge (tgt := 200) hx hb d_MD_allow_169 (by decide) (by omega) (by omega) (fun h34 => ?_) (fun h34 => ?_)
                  · exact absurd hn3 (by omega)
                  · refine lv_aload_n hx hb d_MD_allow_172 rfl (lv_at hl 0 rfl) ?_
                    refine hp_get S hK hM i_MD f_md rfl 14 (by decide) mf_MD_109 (fun _ h9 => h9) rfl d_MD_allow_173 ?_
                    refine lv_bipush (v := nI 16) hx hb d_MD_allow_176 rfl ?_
                    refine lv_aload_n hx hb d_MD_allow_178 rfl (lv_at hl 0 rfl) ?_
                    refine hp_get S hK hM i_MD f_md rfl 5 (by decide) mf_MD_183 (fun _ h9 => h9) rfl d_MD_allow_179 ?_
                    refine nb_imul hx hb d_MD_allow_182 ?_
                    refine lv_iload hx hb d_MD_allow_183 (lv_at hl 2 rfl) ?_
                    refine nb_iadd hx hb d_MD_allow_185 ?_
                    refine lv_aload_n hx hb d_MD_allow_186 rfl (lv_at hl 0 rfl) ?_
                    refine hp_get S hK hM i_MD f_md rfl 2 (by decide) mf_MD_85 (fun _ h9 => h9) rfl d_MD_allow_187 ?_
                    refine lv_iload hx hb d_MD_allow_190 (lv_at hl 2 rfl) ?_
                    refine hp_iald S hK hM 1 f_te rfl i9 rfl (by omega) (by omega) d_MD_allow_192 ?_
                    refine hp_iast S hK hM hS 1 f_nm rfl ((16 * (Al.length)) + i9) rfl (by omega) (by omega) d_MD_allow_193 (fun H locs hM hS => ?_)
                    first | rw [nf_up] at hM | rw [show upd (nf nm) ((16 * (Al.length)) + i9) (nf V.te i9) = nf (va_up nm ((16 * (Al.length)) + i9) (V.te i9)) from nf_up] at hM
                    have f_md := hp_k (e := (.inl (ct 1, 128, .inl (nf (va_up nm ((16 * (Al.length)) + i9) (V.te i9)))))) (hp_ne f_md f_nm (by simp)) f_md
                    have f_ro := hp_k (e := (.inl (ct 1, 128, .inl (nf (va_up nm ((16 * (Al.length)) + i9) (V.te i9)))))) (hp_ne f_ro f_nm (by simp)) f_ro
                    have f_te := hp_k (e := (.inl (ct 1, 128, .inl (nf (va_up nm ((16 * (Al.length)) + i9) (V.te i9)))))) (hp_ne f_te f_nm (by simp)) f_te
                    have f_he := hp_k (e := (.inl (ct 1, 128, .inl (nf (va_up nm ((16 * (Al.length)) + i9) (V.te i9)))))) (hp_ne f_he f_nm (by simp)) f_he
                    have f_cn := hp_k (e := (.inl (ct 1, 128, .inl (nf (va_up nm ((16 * (Al.length)) + i9) (V.te i9)))))) (hp_ne f_cn f_nm (by simp)) f_cn
                    have f_kd := hp_k (e := (.inl (ct 1, 128, .inl (nf (va_up nm ((16 * (Al.length)) + i9) (V.te i9)))))) (hp_ne f_kd f_nm (by simp)) f_kd
                    have f_sz := hp_k (e := (.inl (ct 1, 128, .inl (nf (va_up nm ((16 * (Al.length)) + i9) (V.te i9)))))) (hp_ne f_sz f_nm (by simp)) f_sz
                    have f_ky := hp_k (e := (.inl (ct 1, 128, .inl (nf (va_up nm ((16 * (Al.length)) + i9) (V.te i9)))))) (hp_ne f_ky f_nm (by simp)) f_ky
                    have f_le := hp_k (e := (.inl (ct 1, 128, .inl (nf (va_up nm ((16 * (Al.length)) + i9) (V.te i9)))))) (hp_ne f_le f_nm (by simp)) f_le
                    have f_dg := hp_k (e := (.inl (ct 1, 128, .inl (nf (va_up nm ((16 * (Al.length)) + i9) (V.te i9)))))) (hp_ne f_dg f_nm (by simp)) f_dg
                    have f_ns := hp_k (e := (.inl (ct 1, 128, .inl (nf (va_up nm ((16 * (Al.length)) + i9) (V.te i9)))))) (hp_ne f_ns f_nm (by simp)) f_ns
                    have f_sl := hp_k (e := (.inl (ct 1, 128, .inl (nf (va_up nm ((16 * (Al.length)) + i9) (V.te i9)))))) (hp_ne f_sl f_nm (by simp)) f_sl
                    have f_sb := hp_k (e := (.inl (ct 1, 128, .inl (nf (va_up nm ((16 * (Al.length)) + i9) (V.te i9)))))) (hp_ne f_sb f_nm (by simp)) f_sb
                    have f_su := hp_k (e := (.inl (ct 1, 128, .inl (nf (va_up nm ((16 * (Al.length)) + i9) (V.te i9)))))) (hp_ne f_su f_nm (by simp)) f_su
                    have f_wi := hp_k (e := (.inl (ct 1, 128, .inl (nf (va_up nm ((16 * (Al.length)) + i9) (V.te i9)))))) (hp_ne f_wi f_nm (by simp)) f_wi
                    have f_tu := hp_k (e := (.inl (ct 1, 128, .inl (nf (va_up nm ((16 * (Al.length)) + i9) (V.te i9)))))) (hp_ne f_tu f_nm (by simp)) f_tu
                    have f_nm : hp_up N31 B.nm (.inl (ct 1, 128, .inl (nf (va_up nm ((16 * (Al.length)) + i9) (V.te i9))))) B.nm = some (.inl (ct 1, 128, .inl (nf (va_up nm ((16 * (Al.length)) + i9) (V.te i9))))) := hp_us
                    obtain ⟨M35, eM35⟩ : ∃ z, z = hp_up N31 B.nm (.inl (ct 1, 128, .inl (nf (va_up nm ((16 * (Al.length)) + i9) (V.te i9))))) := ⟨_, rfl⟩
                    rw [← eM35] at hM f_md f_ro f_te f_he f_cn f_kd f_sz f_ky f_le f_dg f_nm f_ns f_sl f_sb f_su f_wi f_tu
                    refine lv_iinc (v := nI (i9 + 1)) (lv' := [(4, .int (nI (i9 + 1))), (0, .ref md), (1, .int (nI (T.length)))]) hx hb d_MD_allow_194 hl (k := 2) rfl (nI_add i9 1) (by decide) rfl (fun ls hl => ?_)
                    refine lv_goto (tgt := 166) hx hb d_MD_allow_197 (by decide) ?_
                    exact ih3 (ls := ls) (hl := lv_sub hl [1, 2, 0] rfl) (hn3 := by omega) (i9 := i9 + 1) (nm := va_up nm (16 * Al.length + i9) (V.te i9)) (hnm3 := lt_s (fun i hi => by rw [up_n (by omega)]; exact hnm3 i hi) (by rw [up_s]; exact hte i9 (by omega))) (hnm2 := fun q hq => by rw [up_n (by omega)]; exact hnm2 q hq) (hnmb := up_lt hnmb (b_te i9)) (H := H) (locs := locs) (hM := hM) (hS := hS) (N31 := M35) (f_md := f_md) (f_ro := f_ro) (f_te := f_te) (f_he := f_he) (f_cn := f_cn) (f_kd := f_kd) (f_sz := f_sz) (f_ky := f_ky) (f_le := f_le) (f_dg := f_dg) (f_nm := f_nm) (f_ns := f_ns) (f_sl := f_sl) (f_sb := f_sb) (f_su := f_su) (f_wi := f_wi) (f_tu := f_tu)
              · exact absurd rfl h29
          · refine lv_iload_n hx hb d_MD_allow_128 rfl (lv_at hl 3 rfl) ?_
            refine nt_ne (tgt := 141) hx hb d_MD_allow_129 (by decide) hbv (fun hP3 => ?_) (fun hP3 => ?_)
            · refine lv_iconst (v := nI 1) hx hb d_MD_allow_141 rfl ?_
              refine lv_goto (tgt := 146) hx hb d_MD_allow_142 (by decide) ?_
              exact hjv25 _ H _ hM hS (bo_t (by first | exact Or.inl hP3 | exact Or.inr (by omega)))
            · refine lv_aload_n hx hb d_MD_allow_132 rfl (lv_at hl 0 rfl) ?_
              refine hp_get S hK hM i_MD f_md rfl 5 (by decide) mf_MD_183 (fun _ h9 => h9) rfl d_MD_allow_133 ?_
              refine lv_bipush (v := nI 8) hx hb d_MD_allow_136 rfl ?_
              refine nb_ne (tgt := 145) hx hb d_MD_allow_138 (by decide) (by omega) (by omega) (fun h8 => ?_) (fun h8 => ?_)
              · refine lv_iconst (v := nI 0) hx hb d_MD_allow_145 rfl ?_
                exact hjv25 _ H _ hM hS (bo_f (fun q => by rcases q with q | q; (exact hP3 q); (omega)))
              · refine lv_iconst (v := nI 1) hx hb d_MD_allow_141 rfl ?_
                refine lv_goto (tgt := 146) hx hb d_MD_allow_142 (by decide) ?_
                exact hjv25 _ H _ hM hS (bo_t (by first | exact Or.inl hP3 | exact Or.inr (by omega)))
        · refine w_join hM hS (P := fun z => bo z (V.ns k = T.length)) (pc2 := 53) (rest := []) (fun v36 H locs hM hS hv36 => ?_) (fun hjv36 => ?_)
          · refine lv_istore (lv' := [(5, .int v36), (0, .ref md), (1, .int (nI (T.length))), (2, .int v2), (3, .int v), (4, .int (nI k))]) hx hb d_MD_allow_53 hl (by decide) rfl (fun ls hl => ?_)
            refine lv_iconst (v := nI 0) hx hb d_MD_allow_55 rfl ?_
            refine lv_istore (lv' := [(6, .int (nI 0)), (5, .int v36), (0, .ref md), (1, .int (nI (T.length))), (2, .int v2), (3, .int v), (4, .int (nI k))]) hx hb d_MD_allow_56 hl (by decide) rfl (fun ls hl => ?_)
            replace hl : lv_has ls 7 [(0, .ref md), (1, .int (nI (T.length))), (2, .int v2), (3, .int v), (4, .int (nI k)), (5, .int v36), (6, .int (nI 0))] := lv_sub hl [2, 3, 4, 5, 6, 1, 0] rfl
            obtain ⟨j, e9j⟩ : ∃ z : Nat, z = 0 := ⟨_, rfl⟩
            obtain ⟨u, e9u⟩ : ∃ z : Int32, z = v36 := ⟨_, rfl⟩
            replace hl : lv_has ls 7 [(0, .ref md), (1, .int (nI (T.length))), (2, .int v2), (3, .int v), (4, .int (nI k)), (5, .int u), (6, .int (nI j))] := by subst e9j e9u; exact hl
            have hj : j ≤ T.length := by subst e9j e9u; exact Nat.zero_le _
            have hu : bo u (V.ns k = T.length ∧ ∀ i, i < j → V.nm (16 * k + i) = T.getD i 0) := by subst e9j e9u; exact bo_iff hv36 ⟨fun q => ⟨q, fun i z => absurd z (Nat.not_lt_zero i)⟩, fun q => q.1⟩
            obtain ⟨fu2, hn2⟩ : ∃ fu : Nat, T.length ≤ j + fu := ⟨T.length, by omega⟩
            clear e9j e9u
            induction fu2 generalizing j u H locs ls with
            | zero =>
              refine lv_iload hx hb d_MD_allow_58 (lv_at hl 6 rfl) ?_
              refine lv_iload_n hx hb d_MD_allow_60 rfl (lv_at hl 1 rfl) ?_
              refine nb_ge (tgt := 105) hx hb d_MD_allow_61 (by decide) (by omega) (by omega) (fun hjn => ?_) (fun hjn => ?_)
              · have hu9 : bo u (Al.getD k [] = T) := bo_iff hu ⟨fun q => by first | exact absurd q hQ | exact alQ (hnk k (by omega)) q (by omega), fun q => alQ2 (hnk k (by omega)) q (by omega)⟩
                refine w_join hM hS (P := fun z => bo z (∃ i, i < k + 1 ∧ Al.getD i [] = T)) (pc2 := 119) (rest := []) (fun v37 H locs hM hS hv37 => ?_) (fun hjv37 => ?_)
                · refine lv_istore_n (lv' := [(3, .int v37), (0, .ref md), (1, .int (nI (T.length))), (2, .int v2), (4, .int (nI k)), (5, .int u), (6, .int (nI j))]) hx hb d_MD_allow_119 rfl hl (by decide) rfl (fun ls hl => ?_)
                  refine lv_iinc (v := nI (k + 1)) (lv' := [(4, .int (nI (k + 1))), (3, .int v37), (0, .ref md), (1, .int (nI (T.length))), (2, .int v2), (5, .int u), (6, .int (nI j))]) hx hb d_MD_allow_120 hl (k := 4) rfl (nI_add k 1) (by decide) rfl (fun ls hl => ?_)
                  refine lv_goto (tgt := 24) hx hb d_MD_allow_123 (by decide) ?_
                  exact ih1 (ls := ls) (hl := lv_sub hl [2, 3, 4, 1, 0] rfl) (hn1 := by omega) (k := k + 1) (v := v37) (hkA := by omega) (hv := hv37) (H := H) (locs := locs) (hM := hM) (hS := hS)
                · refine lv_iload_n hx hb d_MD_allow_105 rfl (lv_at hl 3 rfl) ?_
                  refine nt_ne (tgt := 114) hx hb d_MD_allow_106 (by decide) hv (fun hP => ?_) (fun hP => ?_)
                  · refine lv_iconst (v := nI 1) hx hb d_MD_allow_114 rfl ?_
                    refine lv_goto (tgt := 119) hx hb d_MD_allow_115 (by decide) ?_
                    exact hjv37 _ H _ hM hS (bo_t (by first | (obtain ⟨i, q1, q2⟩ := hP; exact ⟨i, by omega, q2⟩) | exact ⟨k, Nat.lt_succ_self k, hP2⟩))
                  · refine lv_iload hx hb d_MD_allow_109 (lv_at hl 5 rfl) ?_
                    refine nt_eq (tgt := 118) hx hb d_MD_allow_111 (by decide) hu9 (fun hP2 => ?_) (fun hP2 => ?_)
                    · refine lv_iconst (v := nI 0) hx hb d_MD_allow_118 rfl ?_
                      exact hjv37 _ H _ hM hS (bo_f (fun ⟨i, q1, q2⟩ => by rcases Nat.lt_or_eq_of_le (Nat.le_of_lt_succ q1) with z | z; (exact hP ⟨i, z, q2⟩); (rw [z] at q2; exact hP2 q2)))
                    · refine lv_iconst (v := nI 1) hx hb d_MD_allow_114 rfl ?_
                      refine lv_goto (tgt := 119) hx hb d_MD_allow_115 (by decide) ?_
                      exact hjv37 _ H _ hM hS (bo_t (by first | (obtain ⟨i, q1, q2⟩ := hP; exact ⟨i, by omega, q2⟩) | exact ⟨k, Nat.lt_succ_self k, hP2⟩))
              · exact absurd hn2 (by omega)
            | succ fu2 ih2 =>
              refine lv_iload hx hb d_MD_allow_58 (lv_at hl 6 rfl) ?_
              refine lv_iload_n hx hb d_MD_allow_60 rfl (lv_at hl 1 rfl) ?_
              refine nb_ge (tgt := 105) hx hb d_MD_allow_61 (by decide) (by omega) (by omega) (fun hjn => ?_) (fun hjn => ?_)
              · have hu9 : bo u (Al.getD k [] = T) := bo_iff hu ⟨fun q => by first | exact absurd q hQ | exact alQ (hnk k (by omega)) q (by omega), fun q => alQ2 (hnk k (by omega)) q (by omega)⟩
                refine w_join hM hS (P := fun z => bo z (∃ i, i < k + 1 ∧ Al.getD i [] = T)) (pc2 := 119) (rest := []) (fun v38 H locs hM hS hv38 => ?_) (fun hjv38 => ?_)
                · refine lv_istore_n (lv' := [(3, .int v38), (0, .ref md), (1, .int (nI (T.length))), (2, .int v2), (4, .int (nI k)), (5, .int u), (6, .int (nI j))]) hx hb d_MD_allow_119 rfl hl (by decide) rfl (fun ls hl => ?_)
                  refine lv_iinc (v := nI (k + 1)) (lv' := [(4, .int (nI (k + 1))), (3, .int v38), (0, .ref md), (1, .int (nI (T.length))), (2, .int v2), (5, .int u), (6, .int (nI j))]) hx hb d_MD_allow_120 hl (k := 4) rfl (nI_add k 1) (by decide) rfl (fun ls hl => ?_)
                  refine lv_goto (tgt := 24) hx hb d_MD_allow_123 (by decide) ?_
                  exact ih1 (ls := ls) (hl := lv_sub hl [2, 3, 4, 1, 0] rfl) (hn1 := by omega) (k := k + 1) (v := v38) (hkA := by omega) (hv := hv38) (H := H) (locs := locs) (hM := hM) (hS := hS)
                · refine lv_iload_n hx hb d_MD_allow_105 rfl (lv_at hl 3 rfl) ?_
                  refine nt_ne (tgt := 114) hx hb d_MD_allow_106 (by decide) hv (fun hP => ?_) (fun hP => ?_)
                  · refine lv_iconst (v := nI 1) hx hb d_MD_allow_114 rfl ?_
                    refine lv_goto (tgt := 119) hx hb d_MD_allow_115 (by decide) ?_
                    exact hjv38 _ H _ hM hS (bo_t (by first | (obtain ⟨i, q1, q2⟩ := hP; exact ⟨i, by omega, q2⟩) | exact ⟨k, Nat.lt_succ_self k, hP2⟩))
                  · refine lv_iload hx hb d_MD_allow_109 (lv_at hl 5 rfl) ?_
                    refine nt_eq (tgt := 118) hx hb d_MD_allow_111 (by decide) hu9 (fun hP2 => ?_) (fun hP2 => ?_)
                    · refine lv_iconst (v := nI 0) hx hb d_MD_allow_118 rfl ?_
                      exact hjv38 _ H _ hM hS (bo_f (fun ⟨i, q1, q2⟩ => by rcases Nat.lt_or_eq_of_le (Nat.le_of_lt_succ q1) with z | z; (exact hP ⟨i, z, q2⟩); (rw [z] at q2; exact hP2 q2)))
                    · refine lv_iconst (v := nI 1) hx hb d_MD_allow_114 rfl ?_
                      refine lv_goto (tgt := 119) hx hb d_MD_allow_115 (by decide) ?_
                      exact hjv38 _ H _ hM hS (bo_t (by first | (obtain ⟨i, q1, q2⟩ := hP; exact ⟨i, by omega, q2⟩) | exact ⟨k, Nat.lt_succ_self k, hP2⟩))
              · refine lv_iload hx hb d_MD_allow_64 (lv_at hl 5 rfl) ?_
                refine nt_eq (tgt := 105) hx hb d_MD_allow_66 (by decide) hu (fun hQ => ?_) (fun hQ => ?_)
                · have hu9 : bo u (Al.getD k [] = T) := bo_iff hu ⟨fun q => by first | exact absurd q hQ | exact alQ (hnk k (by omega)) q (by omega), fun q => alQ2 (hnk k (by omega)) q (by omega)⟩
                  refine w_join hM hS (P := fun z => bo z (∃ i, i < k + 1 ∧ Al.getD i [] = T)) (pc2 := 119) (rest := []) (fun v39 H locs hM hS hv39 => ?_) (fun hjv39 => ?_)
                  · refine lv_istore_n (lv' := [(3, .int v39), (0, .ref md), (1, .int (nI (T.length))), (2, .int v2), (4, .int (nI k)), (5, .int u), (6, .int (nI j))]) hx hb d_MD_allow_119 rfl hl (by decide) rfl (fun ls hl => ?_)
                    refine lv_iinc (v := nI (k + 1)) (lv' := [(4, .int (nI (k + 1))), (3, .int v39), (0, .ref md), (1, .int (nI (T.length))), (2, .int v2), (5, .int u), (6, .int (nI j))]) hx hb d_MD_allow_120 hl (k := 4) rfl (nI_add k 1) (by decide) rfl (fun ls hl => ?_)
                    refine lv_goto (tgt := 24) hx hb d_MD_allow_123 (by decide) ?_
                    exact ih1 (ls := ls) (hl := lv_sub hl [2, 3, 4, 1, 0] rfl) (hn1 := by omega) (k := k + 1) (v := v39) (hkA := by omega) (hv := hv39) (H := H) (locs := locs) (hM := hM) (hS := hS)
                  · refine lv_iload_n hx hb d_MD_allow_105 rfl (lv_at hl 3 rfl) ?_
                    refine nt_ne (tgt := 114) hx hb d_MD_allow_106 (by decide) hv (fun hP => ?_) (fun hP => ?_)
                    · refine lv_iconst (v := nI 1) hx hb d_MD_allow_114 rfl ?_
                      refine lv_goto (tgt := 119) hx hb d_MD_allow_115 (by decide) ?_
                      exact hjv39 _ H _ hM hS (bo_t (by first | (obtain ⟨i, q1, q2⟩ := hP; exact ⟨i, by omega, q2⟩) | exact ⟨k, Nat.lt_succ_self k, hP2⟩))
                    · refine lv_iload hx hb d_MD_allow_109 (lv_at hl 5 rfl) ?_
                      refine nt_eq (tgt := 118) hx hb d_MD_allow_111 (by decide) hu9 (fun hP2 => ?_) (fun hP2 => ?_)
                      · refine lv_iconst (v := nI 0) hx hb d_MD_allow_118 rfl ?_
                        exact hjv39 _ H _ hM hS (bo_f (fun ⟨i, q1, q2⟩ => by rcases Nat.lt_or_eq_of_le (Nat.le_of_lt_succ q1) with z | z; (exact hP ⟨i, z, q2⟩); (rw [z] at q2; exact hP2 q2)))
                      · refine lv_iconst (v := nI 1) hx hb d_MD_allow_114 rfl ?_
                        refine lv_goto (tgt := 119) hx hb d_MD_allow_115 (by decide) ?_
                        exact hjv39 _ H _ hM hS (bo_t (by first | (obtain ⟨i, q1, q2⟩ := hP; exact ⟨i, by omega, q2⟩) | exact ⟨k, Nat.lt_succ_self k, hP2⟩))
                · refine w_join hM hS (P := fun z => bo z (V.nm (16 * k + j) = T.getD j 0)) (pc2 := 97) (rest := []) (fun v40 H locs hM hS hv40 => ?_) (fun hjv40 => ?_)
                  · refine lv_istore (lv' := [(5, .int v40), (0, .ref md), (1, .int (nI (T.length))), (2, .int v2), (3, .int v), (4, .int (nI k)), (6, .int (nI j))]) hx hb d_MD_allow_97 hl (by decide) rfl (fun ls hl => ?_)
                    refine lv_iinc (v := nI (j + 1)) (lv' := [(6, .int (nI (j + 1))), (5, .int v40), (0, .ref md), (1, .int (nI (T.length))), (2, .int v2), (3, .int v), (4, .int (nI k))]) hx hb d_MD_allow_99 hl (k := 6) rfl (nI_add j 1) (by decide) rfl (fun ls hl => ?_)
                    refine lv_goto (tgt := 58) hx hb d_MD_allow_102 (by decide) ?_
                    exact ih2 (ls := ls) (hl := lv_sub hl [2, 3, 4, 5, 6, 1, 0] rfl) (hn2 := by omega) (j := j + 1) (u := v40) (hj := by omega) (hu := bo_iff hv40 ⟨fun q => ⟨hQ.1, lt_s hQ.2 q⟩, fun q => q.2 j (Nat.lt_succ_self j)⟩) (H := H) (locs := locs) (hM := hM) (hS := hS)
                  · refine lv_aload_n hx hb d_MD_allow_69 rfl (lv_at hl 0 rfl) ?_
                    refine hp_get S hK hM i_MD f_md rfl 14 (by decide) mf_MD_109 (fun _ h9 => h9) rfl d_MD_allow_70 ?_
                    refine lv_bipush (v := nI 16) hx hb d_MD_allow_73 rfl ?_
                    refine lv_iload hx hb d_MD_allow_75 (lv_at hl 4 rfl) ?_
                    refine nb_imul hx hb d_MD_allow_77 ?_
                    refine lv_iload hx hb d_MD_allow_78 (lv_at hl 6 rfl) ?_
                    refine nb_iadd hx hb d_MD_allow_80 ?_
                    refine hp_iald S hK hM 1 f_nm rfl ((16 * k) + j) rfl (by have := hQ.1; have := b_ns k; omega) (by omega) d_MD_allow_81 ?_
                    refine lv_aload_n hx hb d_MD_allow_82 rfl (lv_at hl 0 rfl) ?_
                    refine hp_get S hK hM i_MD f_md rfl 2 (by decide) mf_MD_85 (fun _ h9 => h9) rfl d_MD_allow_83 ?_
                    refine lv_iload hx hb d_MD_allow_86 (lv_at hl 6 rfl) ?_
                    refine hp_iald S hK hM 1 f_te rfl j rfl (by omega) (by omega) d_MD_allow_88 ?_
                    refine nb_ne (tgt := 96) hx hb d_MD_allow_89 (by decide) (by have := b_nm (((16 * k) + j)); omega) (by have := b_te (j); omega) (fun heq => ?_) (fun heq => ?_)
                    · refine lv_iconst (v := nI 0) hx hb d_MD_allow_96 rfl ?_
                      exact hjv40 _ H _ hM hS (bo_f (fun q => heq (q.trans (hte j (by omega)).symm)))
                    · refine lv_iconst (v := nI 1) hx hb d_MD_allow_92 rfl ?_
                      refine lv_goto (tgt := 97) hx hb d_MD_allow_93 (by decide) ?_
                      exact hjv40 _ H _ hM hS (bo_t (heq.trans (hte j (by omega))))
          · refine lv_aload_n hx hb d_MD_allow_37 rfl (lv_at hl 0 rfl) ?_
            refine hp_get S hK hM i_MD f_md rfl 15 (by decide) mf_MD_112 (fun _ h9 => h9) rfl d_MD_allow_38 ?_
            refine lv_iload hx hb d_MD_allow_41 (lv_at hl 4 rfl) ?_
            refine hp_iald S hK hM 1 f_ns rfl k rfl (by omega) (by omega) d_MD_allow_43 ?_
            refine lv_iload_n hx hb d_MD_allow_44 rfl (lv_at hl 1 rfl) ?_
            refine nb_ne (tgt := 52) hx hb d_MD_allow_45 (by decide) (by have := b_ns (k); omega) (by omega) (fun hns => ?_) (fun hns => ?_)
            · refine lv_iconst (v := nI 0) hx hb d_MD_allow_52 rfl ?_
              exact hjv36 _ H _ hM hS (bo_f (hns))
            · refine lv_iconst (v := nI 1) hx hb d_MD_allow_48 rfl ?_
              refine lv_goto (tgt := 53) hx hb d_MD_allow_49 (by decide) ?_
              exact hjv36 _ H _ hM hS (bo_t (hns))
  · refine lv_aload_n hx hb d_MD_allow_5 rfl (lv_at hl 1 rfl) ?_
    refine lv_iload_n hx hb d_MD_allow_6 rfl (lv_at hl 0 rfl) ?_
    refine hp_calli (go_V S hZ hK hM hS hA hz (c_MD_isName l D ct Z hZ _ _ md B (mkS (V.te) (V.cn) (V.kd) (V.sz) (V.ky) (V.le) (V.nm) (V.ns) (V.sl) (V.sb) (V.he) (V.dg) (V.su) (V.wi) (V.tu) (V.co) 0 (V.ac) (V.al) (V.sd) (V.ss)) hw2 T hT64 hte T.length (Nat.le_refl _)) mc_MD_isName mz_MD ml_MD_157 mi_MD_isName mx_MD_isName hd_MD_isName rfl ⟨by decide, by decide⟩ f_md rfl rfl hl.1 rfl (Nat.le_of_ble_eq_true rfl) d_MD_allow_7 ⟨by decide, by decide⟩) hM hS hA (fun r41 N42 H locs hr41 hM hS => ?_)
    rw [hr41.1] at hM
    replace hr41 := hr41.2
    refine nt_ne (tgt := 17) hx hb d_MD_allow_10 (by decide) hr41 (fun hnam => ?_) (fun hnam => ?_)
    · refine lv_iconst (v := nI 0) hx hb d_MD_allow_17 rfl ?_
      exact hjv2 _ H _ hM hS (bo_f (fun q => q hnam))
    · refine lv_iconst (v := nI 1) hx hb d_MD_allow_13 rfl ?_
      refine lv_goto (tgt := 18) hx hb d_MD_allow_14 (by decide) ?_
      exact hjv2 _ H _ hM hS (bo_t (hnam))
