theorem dX12_on_17 : decode cX12_on 17 = .ok (.lconst 1, 1) := by decide +kernel
theorem dX12_on_18 : decode cX12_on 18 = .ok (.invokestatic 5, 3) := by decide +kernel
theorem dX12_on_21 : decode cX12_on 21 = .ok (.ifCond .ne 6, 3) := by decide +kernel
theorem dX12_on_24 : decode cX12_on 24 = .ok (.bipush (-2), 2) := by decide +kernel
theorem dX12_on_26 : decode cX12_on 26 = .ok (.ireturn, 1) := by decide +kernel
theorem dX12_on_27 : decode cX12_on 27 = .ok (.iload_n 3, 1) := by decide +kernel
theorem dX12_on_28 : decode cX12_on 28 = .ok (.ifCond .ne 12, 3) := by decide +kernel
theorem dX12_on_31 : decode cX12_on 31 = .ok (.aload_n 0, 1) := by decide +kernel
theorem dX12_on_32 : decode cX12_on 32 = .ok (.iload_n 1, 1) := by decide +kernel
theorem dX12_on_33 : decode cX12_on 33 = .ok (.iload_n 2, 1) := by decide +kernel
theorem dX12_on_34 : decode cX12_on 34 = .ok (.invokevirtual 285, 3) := by decide +kernel
theorem dX12_on_37 : decode cX12_on 37 = .ok (.goto 9, 3) := by decide +kernel
theorem dX12_on_40 : decode cX12_on 40 = .ok (.aload_n 0, 1) := by decide +kernel
theorem dX12_on_41 : decode cX12_on 41 = .ok (.iload_n 1, 1) := by decide +kernel
theorem dX12_on_42 : decode cX12_on 42 = .ok (.iload_n 2, 1) := by decide +kernel
theorem dX12_on_43 : decode cX12_on 43 = .ok (.invokevirtual 288, 3) := by decide +kernel
theorem dX12_on_46 : decode cX12_on 46 = .ok (.ireturn, 1) := by decide +kernel
theorem dX12_gown_0 : decode cX12_gown 0 = .ok (.iload_n 1, 1) := by decide +kernel
theorem dX12_gown_1 : decode cX12_gown 1 = .ok (.i2l, 1) := by decide +kernel
theorem dX12_gown_2 : decode cX12_gown 2 = .ok (.lconst 0, 1) := by decide +kernel
theorem dX12_gown_3 : decode cX12_gown 3 = .ok (.ldc2_w 3, 3) := by decide +kernel
theorem dX12_gown_6 : decode cX12_gown 6 = .ok (.invokestatic 5, 3) := by decide +kernel
theorem dX12_gown_9 : decode cX12_gown 9 = .ok (.ifCond .eq 57, 3) := by decide +kernel
theorem dX12_gown_12 : decode cX12_gown 12 = .ok (.iload_n 2, 1) := by decide +kernel
theorem dX12_gown_13 : decode cX12_gown 13 = .ok (.i2l, 1) := by decide +kernel
theorem dX12_gown_14 : decode cX12_gown 14 = .ok (.lconst 0, 1) := by decide +kernel
theorem dX12_gown_15 : decode cX12_gown 15 = .ok (.ldc2_w 3, 3) := by decide +kernel
theorem dX12_gown_18 : decode cX12_gown 18 = .ok (.invokestatic 5, 3) := by decide +kernel
theorem dX12_gown_21 : decode cX12_gown 21 = .ok (.ifCond .eq 45, 3) := by decide +kernel
theorem dX12_gown_24 : decode cX12_gown 24 = .ok (.iload_n 3, 1) := by decide +kernel
theorem dX12_gown_25 : decode cX12_gown 25 = .ok (.i2l, 1) := by decide +kernel
theorem dX12_gown_26 : decode cX12_gown 26 = .ok (.lconst 0, 1) := by decide +kernel
theorem dX12_gown_27 : decode cX12_gown 27 = .ok (.ldc2_w 3, 3) := by decide +kernel
theorem dX12_gown_30 : decode cX12_gown 30 = .ok (.invokestatic 5, 3) := by decide +kernel
theorem dX12_gown_33 : decode cX12_gown 33 = .ok (.ifCond .eq 33, 3) := by decide +kernel
theorem dX12_gown_36 : decode cX12_gown 36 = .ok (.iload 4, 2) := by decide +kernel
theorem dX12_gown_38 : decode cX12_gown 38 = .ok (.i2l, 1) := by decide +kernel
theorem dX12_gown_39 : decode cX12_gown 39 = .ok (.lconst 0, 1) := by decide +kernel
theorem dX12_gown_40 : decode cX12_gown 40 = .ok (.ldc2_w 3, 3) := by decide +kernel
theorem dX12_gown_43 : decode cX12_gown 43 = .ok (.invokestatic 5, 3) := by decide +kernel
theorem dX12_gown_46 : decode cX12_gown 46 = .ok (.ifCond .eq 20, 3) := by decide +kernel
theorem dX12_gown_49 : decode cX12_gown 49 = .ok (.iload 5, 2) := by decide +kernel
theorem dX12_gown_51 : decode cX12_gown 51 = .ok (.i2l, 1) := by decide +kernel
theorem dX12_gown_52 : decode cX12_gown 52 = .ok (.lconst 0, 1) := by decide +kernel
theorem dX12_gown_53 : decode cX12_gown 53 = .ok (.ldc2_w 3, 3) := by decide +kernel
theorem dX12_gown_56 : decode cX12_gown 56 = .ok (.invokestatic 5, 3) := by decide +kernel
theorem dX12_gown_59 : decode cX12_gown 59 = .ok (.ifCond .eq 7, 3) := by decide +kernel
theorem dX12_gown_62 : decode cX12_gown 62 = .ok (.iconst 1, 1) := by decide +kernel
theorem dX12_gown_63 : decode cX12_gown 63 = .ok (.goto 4, 3) := by decide +kernel
theorem dX12_gown_66 : decode cX12_gown 66 = .ok (.iconst 0, 1) := by decide +kernel
theorem dX12_gown_67 : decode cX12_gown 67 = .ok (.istore 8, 2) := by decide +kernel
theorem dX12_gown_69 : decode cX12_gown 69 = .ok (.iload 8, 2) := by decide +kernel
theorem dX12_gown_71 : decode cX12_gown 71 = .ok (.ifCond .eq 29, 3) := by decide +kernel
theorem dX12_gown_74 : decode cX12_gown 74 = .ok (.iload 6, 2) := by decide +kernel
theorem dX12_gown_76 : decode cX12_gown 76 = .ok (.i2l, 1) := by decide +kernel
theorem dX12_gown_77 : decode cX12_gown 77 = .ok (.lconst 0, 1) := by decide +kernel
theorem dX12_gown_78 : decode cX12_gown 78 = .ok (.ldc2_w 291, 3) := by decide +kernel
theorem dX12_gown_81 : decode cX12_gown 81 = .ok (.invokestatic 5, 3) := by decide +kernel
theorem dX12_gown_84 : decode cX12_gown 84 = .ok (.ifCond .eq 16, 3) := by decide +kernel
theorem dX12_gown_87 : decode cX12_gown 87 = .ok (.iload 7, 2) := by decide +kernel
theorem dX12_gown_89 : decode cX12_gown 89 = .ok (.i2l, 1) := by decide +kernel
theorem dX12_gown_90 : decode cX12_gown 90 = .ok (.lconst 0, 1) := by decide +kernel
theorem dX12_gown_91 : decode cX12_gown 91 = .ok (.ldc2_w 293, 3) := by decide +kernel
theorem dX12_gown_94 : decode cX12_gown 94 = .ok (.invokestatic 5, 3) := by decide +kernel
theorem dX12_gown_97 : decode cX12_gown 97 = .ok (.ifCond .ne 6, 3) := by decide +kernel
theorem dX12_gown_100 : decode cX12_gown 100 = .ok (.bipush (-2), 2) := by decide +kernel
theorem dX12_gown_102 : decode cX12_gown 102 = .ok (.ireturn, 1) := by decide +kernel
theorem dX12_gown_103 : decode cX12_gown 103 = .ok (.aload_n 0, 1) := by decide +kernel
theorem dX12_gown_104 : decode cX12_gown 104 = .ok (.getfield 295, 3) := by decide +kernel
theorem dX12_gown_107 : decode cX12_gown 107 = .ok (.bipush 40, 2) := by decide +kernel
theorem dX12_gown_109 : decode cX12_gown 109 = .ok (.if_icmp .ne 6, 3) := by decide +kernel
theorem dX12_gown_112 : decode cX12_gown 112 = .ok (.bipush (-3), 2) := by decide +kernel
theorem dX12_gown_114 : decode cX12_gown 114 = .ok (.ireturn, 1) := by decide +kernel
theorem dX12_gown_115 : decode cX12_gown 115 = .ok (.iconst 5, 1) := by decide +kernel
theorem dX12_gown_116 : decode cX12_gown 116 = .ok (.aload_n 0, 1) := by decide +kernel
theorem dX12_gown_117 : decode cX12_gown 117 = .ok (.getfield 295, 3) := by decide +kernel
theorem dX12_gown_120 : decode cX12_gown 120 = .ok (.imul, 1) := by decide +kernel
theorem dX12_gown_121 : decode cX12_gown 121 = .ok (.istore 9, 2) := by decide +kernel
theorem dX12_gown_123 : decode cX12_gown 123 = .ok (.aload_n 0, 1) := by decide +kernel
theorem dX12_gown_124 : decode cX12_gown 124 = .ok (.getfield 198, 3) := by decide +kernel
theorem dX12_gown_127 : decode cX12_gown 127 = .ok (.iload 9, 2) := by decide +kernel
theorem dX12_gown_129 : decode cX12_gown 129 = .ok (.iload_n 1, 1) := by decide +kernel
theorem dX12_gown_130 : decode cX12_gown 130 = .ok (.iastore, 1) := by decide +kernel
theorem dX12_gown_131 : decode cX12_gown 131 = .ok (.aload_n 0, 1) := by decide +kernel
theorem dX12_gown_132 : decode cX12_gown 132 = .ok (.getfield 198, 3) := by decide +kernel
theorem dX12_gown_135 : decode cX12_gown 135 = .ok (.iload 9, 2) := by decide +kernel
theorem dX12_gown_137 : decode cX12_gown 137 = .ok (.iconst 1, 1) := by decide +kernel
theorem dX12_gown_138 : decode cX12_gown 138 = .ok (.iadd, 1) := by decide +kernel
theorem dX12_gown_139 : decode cX12_gown 139 = .ok (.iload_n 2, 1) := by decide +kernel
theorem dX12_gown_140 : decode cX12_gown 140 = .ok (.iastore, 1) := by decide +kernel
theorem dX12_gown_141 : decode cX12_gown 141 = .ok (.aload_n 0, 1) := by decide +kernel
theorem dX12_gown_142 : decode cX12_gown 142 = .ok (.getfield 198, 3) := by decide +kernel
theorem dX12_gown_145 : decode cX12_gown 145 = .ok (.iload 9, 2) := by decide +kernel
theorem dX12_gown_147 : decode cX12_gown 147 = .ok (.iconst 2, 1) := by decide +kernel
theorem dX12_gown_148 : decode cX12_gown 148 = .ok (.iadd, 1) := by decide +kernel
theorem dX12_gown_149 : decode cX12_gown 149 = .ok (.iload_n 3, 1) := by decide +kernel
theorem dX12_gown_150 : decode cX12_gown 150 = .ok (.iastore, 1) := by decide +kernel
theorem dX12_gown_151 : decode cX12_gown 151 = .ok (.aload_n 0, 1) := by decide +kernel
theorem dX12_gown_152 : decode cX12_gown 152 = .ok (.getfield 198, 3) := by decide +kernel
theorem dX12_gown_155 : decode cX12_gown 155 = .ok (.iload 9, 2) := by decide +kernel
theorem dX12_gown_157 : decode cX12_gown 157 = .ok (.iconst 3, 1) := by decide +kernel
theorem dX12_gown_158 : decode cX12_gown 158 = .ok (.iadd, 1) := by decide +kernel
theorem dX12_gown_159 : decode cX12_gown 159 = .ok (.iload 4, 2) := by decide +kernel
theorem dX12_gown_161 : decode cX12_gown 161 = .ok (.iastore, 1) := by decide +kernel
theorem dX12_gown_162 : decode cX12_gown 162 = .ok (.aload_n 0, 1) := by decide +kernel
theorem dX12_gown_163 : decode cX12_gown 163 = .ok (.getfield 198, 3) := by decide +kernel
theorem dX12_gown_166 : decode cX12_gown 166 = .ok (.iload 9, 2) := by decide +kernel
theorem dX12_gown_168 : decode cX12_gown 168 = .ok (.iconst 4, 1) := by decide +kernel
theorem dX12_gown_169 : decode cX12_gown 169 = .ok (.iadd, 1) := by decide +kernel
theorem dX12_gown_170 : decode cX12_gown 170 = .ok (.iload 5, 2) := by decide +kernel
theorem dX12_gown_172 : decode cX12_gown 172 = .ok (.iastore, 1) := by decide +kernel
theorem dX12_gown_173 : decode cX12_gown 173 = .ok (.aload_n 0, 1) := by decide +kernel
theorem dX12_gown_174 : decode cX12_gown 174 = .ok (.getfield 201, 3) := by decide +kernel
theorem dX12_gown_177 : decode cX12_gown 177 = .ok (.aload_n 0, 1) := by decide +kernel
theorem dX12_gown_178 : decode cX12_gown 178 = .ok (.getfield 295, 3) := by decide +kernel
theorem dX12_gown_181 : decode cX12_gown 181 = .ok (.iload 6, 2) := by decide +kernel
theorem dX12_gown_183 : decode cX12_gown 183 = .ok (.iastore, 1) := by decide +kernel
theorem dX12_gown_184 : decode cX12_gown 184 = .ok (.aload_n 0, 1) := by decide +kernel
theorem dX12_gown_185 : decode cX12_gown 185 = .ok (.getfield 203, 3) := by decide +kernel
theorem dX12_gown_188 : decode cX12_gown 188 = .ok (.aload_n 0, 1) := by decide +kernel
theorem dX12_gown_189 : decode cX12_gown 189 = .ok (.getfield 295, 3) := by decide +kernel
theorem dX12_gown_192 : decode cX12_gown 192 = .ok (.iload 7, 2) := by decide +kernel
theorem dX12_gown_194 : decode cX12_gown 194 = .ok (.iastore, 1) := by decide +kernel
theorem dX12_gown_195 : decode cX12_gown 195 = .ok (.aload_n 0, 1) := by decide +kernel
theorem dX12_gown_196 : decode cX12_gown 196 = .ok (.getfield 205, 3) := by decide +kernel
theorem dX12_gown_199 : decode cX12_gown 199 = .ok (.aload_n 0, 1) := by decide +kernel
theorem dX12_gown_200 : decode cX12_gown 200 = .ok (.getfield 295, 3) := by decide +kernel
theorem dX12_gown_203 : decode cX12_gown 203 = .ok (.iconst (-1), 1) := by decide +kernel
theorem dX12_gown_204 : decode cX12_gown 204 = .ok (.iastore, 1) := by decide +kernel
theorem dX12_gown_205 : decode cX12_gown 205 = .ok (.aload_n 0, 1) := by decide +kernel
theorem dX12_gown_206 : decode cX12_gown 206 = .ok (.dup, 1) := by decide +kernel
theorem dX12_gown_207 : decode cX12_gown 207 = .ok (.getfield 295, 3) := by decide +kernel
theorem dX12_gown_210 : decode cX12_gown 210 = .ok (.iconst 1, 1) := by decide +kernel
theorem dX12_gown_211 : decode cX12_gown 211 = .ok (.iadd, 1) := by decide +kernel
theorem dX12_gown_212 : decode cX12_gown 212 = .ok (.putfield 295, 3) := by decide +kernel
theorem dX12_gown_215 : decode cX12_gown 215 = .ok (.aload_n 0, 1) := by decide +kernel
theorem dX12_gown_216 : decode cX12_gown 216 = .ok (.getfield 295, 3) := by decide +kernel
theorem dX12_gown_219 : decode cX12_gown 219 = .ok (.iconst 1, 1) := by decide +kernel
theorem dX12_gown_220 : decode cX12_gown 220 = .ok (.isub, 1) := by decide +kernel
theorem dX12_gown_221 : decode cX12_gown 221 = .ok (.ireturn, 1) := by decide +kernel
theorem dX12_isGown_0 : decode cX12_isGown 0 = .ok (.iload_n 1, 1) := by decide +kernel
theorem dX12_isGown_1 : decode cX12_isGown 1 = .ok (.i2l, 1) := by decide +kernel
theorem dX12_isGown_2 : decode cX12_isGown 2 = .ok (.lconst 0, 1) := by decide +kernel
theorem dX12_isGown_3 : decode cX12_isGown 3 = .ok (.aload_n 0, 1) := by decide +kernel
theorem dX12_isGown_4 : decode cX12_isGown 4 = .ok (.getfield 295, 3) := by decide +kernel
theorem dX12_isGown_7 : decode cX12_isGown 7 = .ok (.i2l, 1) := by decide +kernel
theorem dX12_isGown_8 : decode cX12_isGown 8 = .ok (.lconst 1, 1) := by decide +kernel
theorem dX12_isGown_9 : decode cX12_isGown 9 = .ok (.lsub, 1) := by decide +kernel
theorem dX12_isGown_10 : decode cX12_isGown 10 = .ok (.invokestatic 5, 3) := by decide +kernel
theorem dX12_isGown_13 : decode cX12_isGown 13 = .ok (.ireturn, 1) := by decide +kernel
theorem dX12_seal_0 : decode cX12_seal 0 = .ok (.aload_n 0, 1) := by decide +kernel
theorem dX12_seal_1 : decode cX12_seal 1 = .ok (.iload_n 1, 1) := by decide +kernel
theorem dX12_seal_2 : decode cX12_seal 2 = .ok (.invokevirtual 298, 3) := by decide +kernel
theorem dX12_seal_5 : decode cX12_seal 5 = .ok (.ifCond .eq 10, 3) := by decide +kernel
theorem dX12_seal_8 : decode cX12_seal 8 = .ok (.iload_n 2, 1) := by decide +kernel
theorem dX12_seal_9 : decode cX12_seal 9 = .ok (.invokestatic 259, 3) := by decide +kernel
theorem dX12_seal_12 : decode cX12_seal 12 = .ok (.ifCond .ne 6, 3) := by decide +kernel
theorem dX12_seal_15 : decode cX12_seal 15 = .ok (.bipush (-2), 2) := by decide +kernel
theorem dX12_seal_17 : decode cX12_seal 17 = .ok (.ireturn, 1) := by decide +kernel
theorem dX12_seal_18 : decode cX12_seal 18 = .ok (.aload_n 0, 1) := by decide +kernel
theorem dX12_seal_19 : decode cX12_seal 19 = .ok (.getfield 205, 3) := by decide +kernel
theorem dX12_seal_22 : decode cX12_seal 22 = .ok (.iload_n 1, 1) := by decide +kernel
theorem dX12_seal_23 : decode cX12_seal 23 = .ok (.iaload, 1) := by decide +kernel
theorem dX12_seal_24 : decode cX12_seal 24 = .ok (.iconst (-1), 1) := by decide +kernel
theorem dX12_seal_25 : decode cX12_seal 25 = .ok (.if_icmp .eq 6, 3) := by decide +kernel
theorem dX12_seal_28 : decode cX12_seal 28 = .ok (.bipush (-4), 2) := by decide +kernel
theorem dX12_seal_30 : decode cX12_seal 30 = .ok (.ireturn, 1) := by decide +kernel
theorem dX12_seal_31 : decode cX12_seal 31 = .ok (.aload_n 0, 1) := by decide +kernel
theorem dX12_seal_32 : decode cX12_seal 32 = .ok (.getfield 205, 3) := by decide +kernel
theorem dX12_seal_35 : decode cX12_seal 35 = .ok (.iload_n 1, 1) := by decide +kernel
theorem dX12_seal_36 : decode cX12_seal 36 = .ok (.iload_n 2, 1) := by decide +kernel
theorem dX12_seal_37 : decode cX12_seal 37 = .ok (.iastore, 1) := by decide +kernel
theorem dX12_seal_38 : decode cX12_seal 38 = .ok (.iconst 1, 1) := by decide +kernel
theorem dX12_seal_39 : decode cX12_seal 39 = .ok (.ireturn, 1) := by decide +kernel
theorem dX12_about_0 : decode cX12_about 0 = .ok (.aload_n 0, 1) := by decide +kernel
theorem dX12_about_1 : decode cX12_about 1 = .ok (.iload_n 1, 1) := by decide +kernel
theorem dX12_about_2 : decode cX12_about 2 = .ok (.invokevirtual 298, 3) := by decide +kernel
theorem dX12_about_5 : decode cX12_about 5 = .ok (.ifCond .ne 5, 3) := by decide +kernel
theorem dX12_about_8 : decode cX12_about 8 = .ok (.iconst (-1), 1) := by decide +kernel
theorem dX12_about_9 : decode cX12_about 9 = .ok (.ireturn, 1) := by decide +kernel
theorem dX12_about_10 : decode cX12_about 10 = .ok (.iload_n 2, 1) := by decide +kernel
theorem dX12_about_11 : decode cX12_about 11 = .ok (.i2l, 1) := by decide +kernel
theorem dX12_about_12 : decode cX12_about 12 = .ok (.lconst 0, 1) := by decide +kernel
theorem dX12_about_13 : decode cX12_about 13 = .ok (.ldc2_w 301, 3) := by decide +kernel
theorem dX12_about_16 : decode cX12_about 16 = .ok (.invokestatic 5, 3) := by decide +kernel
theorem dX12_about_19 : decode cX12_about 19 = .ok (.ifCond .eq 14, 3) := by decide +kernel
theorem dX12_about_22 : decode cX12_about 22 = .ok (.aload_n 0, 1) := by decide +kernel
theorem dX12_about_23 : decode cX12_about 23 = .ok (.getfield 198, 3) := by decide +kernel
theorem dX12_about_26 : decode cX12_about 26 = .ok (.iconst 5, 1) := by decide +kernel
theorem dX12_about_27 : decode cX12_about 27 = .ok (.iload_n 1, 1) := by decide +kernel
theorem dX12_about_28 : decode cX12_about 28 = .ok (.imul, 1) := by decide +kernel
theorem dX12_about_29 : decode cX12_about 29 = .ok (.iload_n 2, 1) := by decide +kernel
theorem dX12_about_30 : decode cX12_about 30 = .ok (.iadd, 1) := by decide +kernel
theorem dX12_about_31 : decode cX12_about 31 = .ok (.iaload, 1) := by decide +kernel
theorem dX12_about_32 : decode cX12_about 32 = .ok (.ireturn, 1) := by decide +kernel
theorem dX12_about_33 : decode cX12_about 33 = .ok (.iload_n 2, 1) := by decide +kernel
theorem dX12_about_34 : decode cX12_about 34 = .ok (.iconst 5, 1) := by decide +kernel
theorem dX12_about_35 : decode cX12_about 35 = .ok (.if_icmp .ne 12, 3) := by decide +kernel
theorem dX12_about_38 : decode cX12_about 38 = .ok (.aload_n 0, 1) := by decide +kernel
theorem dX12_about_39 : decode cX12_about 39 = .ok (.getfield 201, 3) := by decide +kernel
theorem dX12_about_42 : decode cX12_about 42 = .ok (.iload_n 1, 1) := by decide +kernel
theorem dX12_about_43 : decode cX12_about 43 = .ok (.iaload, 1) := by decide +kernel
theorem dX12_about_44 : decode cX12_about 44 = .ok (.goto 34, 3) := by decide +kernel
theorem dX12_about_47 : decode cX12_about 47 = .ok (.iload_n 2, 1) := by decide +kernel
theorem dX12_about_48 : decode cX12_about 48 = .ok (.bipush 6, 2) := by decide +kernel
theorem dX12_about_50 : decode cX12_about 50 = .ok (.if_icmp .ne 12, 3) := by decide +kernel
theorem dX12_about_53 : decode cX12_about 53 = .ok (.aload_n 0, 1) := by decide +kernel
theorem dX12_about_54 : decode cX12_about 54 = .ok (.getfield 203, 3) := by decide +kernel
theorem dX12_about_57 : decode cX12_about 57 = .ok (.iload_n 1, 1) := by decide +kernel
theorem dX12_about_58 : decode cX12_about 58 = .ok (.iaload, 1) := by decide +kernel
theorem dX12_about_59 : decode cX12_about 59 = .ok (.goto 19, 3) := by decide +kernel
theorem dX12_about_62 : decode cX12_about 62 = .ok (.iload_n 2, 1) := by decide +kernel
theorem dX12_about_63 : decode cX12_about 63 = .ok (.bipush 7, 2) := by decide +kernel
theorem dX12_about_65 : decode cX12_about 65 = .ok (.if_icmp .ne 12, 3) := by decide +kernel
theorem dX12_about_68 : decode cX12_about 68 = .ok (.aload_n 0, 1) := by decide +kernel
theorem dX12_about_69 : decode cX12_about 69 = .ok (.getfield 205, 3) := by decide +kernel
theorem dX12_about_72 : decode cX12_about 72 = .ok (.iload_n 1, 1) := by decide +kernel
theorem dX12_about_73 : decode cX12_about 73 = .ok (.iaload, 1) := by decide +kernel
theorem dX12_about_74 : decode cX12_about 74 = .ok (.goto 4, 3) := by decide +kernel
theorem dX12_about_77 : decode cX12_about 77 = .ok (.iconst (-1), 1) := by decide +kernel
theorem dX12_about_78 : decode cX12_about 78 = .ok (.ireturn, 1) := by decide +kernel
theorem dX12_isStuff_0 : decode cX12_isStuff 0 = .ok (.iload_n 0, 1) := by decide +kernel
theorem dX12_isStuff_1 : decode cX12_isStuff 1 = .ok (.i2l, 1) := by decide +kernel
theorem dX12_isStuff_2 : decode cX12_isStuff 2 = .ok (.lconst 0, 1) := by decide +kernel
theorem dX12_isStuff_3 : decode cX12_isStuff 3 = .ok (.ldc2_w 291, 3) := by decide +kernel
theorem dX12_isStuff_6 : decode cX12_isStuff 6 = .ok (.invokestatic 5, 3) := by decide +kernel
theorem dX12_isStuff_9 : decode cX12_isStuff 9 = .ok (.ireturn, 1) := by decide +kernel
theorem dX12_like_0 : decode cX12_like 0 = .ok (.iload_n 1, 1) := by decide +kernel
theorem dX12_like_1 : decode cX12_like 1 = .ok (.invokestatic 303, 3) := by decide +kernel
theorem dX12_like_4 : decode cX12_like 4 = .ok (.ifCond .eq 23, 3) := by decide +kernel
theorem dX12_like_7 : decode cX12_like 7 = .ok (.iload_n 2, 1) := by decide +kernel
theorem dX12_like_8 : decode cX12_like 8 = .ok (.i2l, 1) := by decide +kernel
theorem dX12_like_9 : decode cX12_like 9 = .ok (.lconst 0, 1) := by decide +kernel
theorem dX12_like_10 : decode cX12_like 10 = .ok (.iload_n 1, 1) := by decide +kernel
theorem dX12_like_11 : decode cX12_like 11 = .ok (.i2l, 1) := by decide +kernel
theorem dX12_like_12 : decode cX12_like 12 = .ok (.lconst 1, 1) := by decide +kernel
theorem dX12_like_13 : decode cX12_like 13 = .ok (.lsub, 1) := by decide +kernel
theorem dX12_like_14 : decode cX12_like 14 = .ok (.invokestatic 5, 3) := by decide +kernel
theorem dX12_like_17 : decode cX12_like 17 = .ok (.ifCond .eq 10, 3) := by decide +kernel
theorem dX12_like_20 : decode cX12_like 20 = .ok (.iload_n 3, 1) := by decide +kernel
theorem dX12_like_21 : decode cX12_like 21 = .ok (.invokestatic 259, 3) := by decide +kernel
theorem dX12_like_24 : decode cX12_like 24 = .ok (.ifCond .ne 6, 3) := by decide +kernel
theorem dX12_like_27 : decode cX12_like 27 = .ok (.bipush (-2), 2) := by decide +kernel
theorem dX12_like_29 : decode cX12_like 29 = .ok (.ireturn, 1) := by decide +kernel
theorem dX12_like_30 : decode cX12_like 30 = .ok (.aload_n 0, 1) := by decide +kernel
theorem dX12_like_31 : decode cX12_like 31 = .ok (.getfield 306, 3) := by decide +kernel
theorem dX12_like_34 : decode cX12_like 34 = .ok (.bipush 30, 2) := by decide +kernel
theorem dX12_like_36 : decode cX12_like 36 = .ok (.if_icmp .ne 6, 3) := by decide +kernel
theorem dX12_like_39 : decode cX12_like 39 = .ok (.bipush (-3), 2) := by decide +kernel
theorem dX12_like_41 : decode cX12_like 41 = .ok (.ireturn, 1) := by decide +kernel
theorem dX12_like_42 : decode cX12_like 42 = .ok (.aload_n 0, 1) := by decide +kernel
theorem dX12_like_43 : decode cX12_like 43 = .ok (.getfield 208, 3) := by decide +kernel
theorem dX12_like_46 : decode cX12_like 46 = .ok (.aload_n 0, 1) := by decide +kernel
theorem dX12_like_47 : decode cX12_like 47 = .ok (.getfield 306, 3) := by decide +kernel
theorem dX12_like_50 : decode cX12_like 50 = .ok (.iload_n 1, 1) := by decide +kernel
theorem dX12_like_51 : decode cX12_like 51 = .ok (.iastore, 1) := by decide +kernel
theorem dX12_like_52 : decode cX12_like 52 = .ok (.aload_n 0, 1) := by decide +kernel
theorem dX12_like_53 : decode cX12_like 53 = .ok (.getfield 211, 3) := by decide +kernel
theorem dX12_like_56 : decode cX12_like 56 = .ok (.aload_n 0, 1) := by decide +kernel
theorem dX12_like_57 : decode cX12_like 57 = .ok (.getfield 306, 3) := by decide +kernel
theorem dX12_like_60 : decode cX12_like 60 = .ok (.iload_n 2, 1) := by decide +kernel
theorem dX12_like_61 : decode cX12_like 61 = .ok (.iastore, 1) := by decide +kernel
theorem dX12_like_62 : decode cX12_like 62 = .ok (.aload_n 0, 1) := by decide +kernel
theorem dX12_like_63 : decode cX12_like 63 = .ok (.getfield 214, 3) := by decide +kernel
theorem dX12_like_66 : decode cX12_like 66 = .ok (.aload_n 0, 1) := by decide +kernel
theorem dX12_like_67 : decode cX12_like 67 = .ok (.getfield 306, 3) := by decide +kernel
theorem dX12_like_70 : decode cX12_like 70 = .ok (.iload_n 3, 1) := by decide +kernel
theorem dX12_like_71 : decode cX12_like 71 = .ok (.iastore, 1) := by decide +kernel
theorem dX12_like_72 : decode cX12_like 72 = .ok (.aload_n 0, 1) := by decide +kernel
theorem dX12_like_73 : decode cX12_like 73 = .ok (.dup, 1) := by decide +kernel
theorem dX12_like_74 : decode cX12_like 74 = .ok (.getfield 306, 3) := by decide +kernel
theorem dX12_like_77 : decode cX12_like 77 = .ok (.iconst 1, 1) := by decide +kernel
theorem dX12_like_78 : decode cX12_like 78 = .ok (.iadd, 1) := by decide +kernel
theorem dX12_like_79 : decode cX12_like 79 = .ok (.putfield 306, 3) := by decide +kernel
theorem dX12_like_82 : decode cX12_like 82 = .ok (.aload_n 0, 1) := by decide +kernel
theorem dX12_like_83 : decode cX12_like 83 = .ok (.getfield 306, 3) := by decide +kernel
theorem dX12_like_86 : decode cX12_like 86 = .ok (.ireturn, 1) := by decide +kernel
theorem dX12_countsAs_0 : decode cX12_countsAs 0 = .ok (.iload_n 1, 1) := by decide +kernel
theorem dX12_countsAs_1 : decode cX12_countsAs 1 = .ok (.istore_n 3, 1) := by decide +kernel
theorem dX12_countsAs_2 : decode cX12_countsAs 2 = .ok (.iconst 0, 1) := by decide +kernel
theorem dX12_countsAs_3 : decode cX12_countsAs 3 = .ok (.istore 4, 2) := by decide +kernel
theorem dX12_countsAs_5 : decode cX12_countsAs 5 = .ok (.iload 4, 2) := by decide +kernel
theorem dX12_countsAs_7 : decode cX12_countsAs 7 = .ok (.iconst (-1), 1) := by decide +kernel
theorem dX12_countsAs_8 : decode cX12_countsAs 8 = .ok (.if_icmp .eq 90, 3) := by decide +kernel
theorem dX12_countsAs_11 : decode cX12_countsAs 11 = .ok (.iconst (-1), 1) := by decide +kernel
theorem dX12_countsAs_12 : decode cX12_countsAs 12 = .ok (.istore 4, 2) := by decide +kernel
theorem dX12_countsAs_14 : decode cX12_countsAs 14 = .ok (.iconst 0, 1) := by decide +kernel
theorem dX12_countsAs_15 : decode cX12_countsAs 15 = .ok (.istore 5, 2) := by decide +kernel
theorem dX12_countsAs_17 : decode cX12_countsAs 17 = .ok (.iload 5, 2) := by decide +kernel
theorem dX12_countsAs_19 : decode cX12_countsAs 19 = .ok (.aload_n 0, 1) := by decide +kernel
theorem dX12_countsAs_20 : decode cX12_countsAs 20 = .ok (.getfield 306, 3) := by decide +kernel
theorem dX12_countsAs_23 : decode cX12_countsAs 23 = .ok (.if_icmp .ge 58, 3) := by decide +kernel
theorem dX12_countsAs_26 : decode cX12_countsAs 26 = .ok (.aload_n 0, 1) := by decide +kernel
theorem dX12_countsAs_27 : decode cX12_countsAs 27 = .ok (.getfield 208, 3) := by decide +kernel
theorem dX12_countsAs_30 : decode cX12_countsAs 30 = .ok (.iload 5, 2) := by decide +kernel
theorem dX12_countsAs_32 : decode cX12_countsAs 32 = .ok (.iaload, 1) := by decide +kernel
theorem dX12_countsAs_33 : decode cX12_countsAs 33 = .ok (.iload_n 3, 1) := by decide +kernel
theorem dX12_countsAs_34 : decode cX12_countsAs 34 = .ok (.if_icmp .ne 41, 3) := by decide +kernel
theorem dX12_countsAs_37 : decode cX12_countsAs 37 = .ok (.aload_n 0, 1) := by decide +kernel
theorem dX12_countsAs_38 : decode cX12_countsAs 38 = .ok (.getfield 214, 3) := by decide +kernel
theorem dX12_countsAs_41 : decode cX12_countsAs 41 = .ok (.iload 5, 2) := by decide +kernel
theorem dX12_countsAs_43 : decode cX12_countsAs 43 = .ok (.iaload, 1) := by decide +kernel
theorem dX12_countsAs_44 : decode cX12_countsAs 44 = .ok (.iload_n 2, 1) := by decide +kernel
theorem dX12_countsAs_45 : decode cX12_countsAs 45 = .ok (.if_icmp .gt 30, 3) := by decide +kernel
theorem dX12_countsAs_48 : decode cX12_countsAs 48 = .ok (.iload 4, 2) := by decide +kernel
theorem dX12_countsAs_50 : decode cX12_countsAs 50 = .ok (.iconst (-1), 1) := by decide +kernel
theorem dX12_countsAs_51 : decode cX12_countsAs 51 = .ok (.if_icmp .eq 20, 3) := by decide +kernel
theorem dX12_countsAs_54 : decode cX12_countsAs 54 = .ok (.aload_n 0, 1) := by decide +kernel
theorem dX12_countsAs_55 : decode cX12_countsAs 55 = .ok (.getfield 214, 3) := by decide +kernel
theorem dX12_countsAs_58 : decode cX12_countsAs 58 = .ok (.iload 5, 2) := by decide +kernel
theorem dX12_countsAs_60 : decode cX12_countsAs 60 = .ok (.iaload, 1) := by decide +kernel
theorem dX12_countsAs_61 : decode cX12_countsAs 61 = .ok (.aload_n 0, 1) := by decide +kernel
theorem dX12_countsAs_62 : decode cX12_countsAs 62 = .ok (.getfield 214, 3) := by decide +kernel
theorem dX12_countsAs_65 : decode cX12_countsAs 65 = .ok (.iload 4, 2) := by decide +kernel
theorem dX12_countsAs_67 : decode cX12_countsAs 67 = .ok (.iaload, 1) := by decide +kernel
theorem dX12_countsAs_68 : decode cX12_countsAs 68 = .ok (.if_icmp .lt 7, 3) := by decide +kernel
theorem dX12_countsAs_71 : decode cX12_countsAs 71 = .ok (.iload 5, 2) := by decide +kernel
theorem dX12_countsAs_73 : decode cX12_countsAs 73 = .ok (.istore 4, 2) := by decide +kernel
theorem dX12_countsAs_75 : decode cX12_countsAs 75 = .ok (.iinc 5 1, 3) := by decide +kernel
theorem dX12_countsAs_78 : decode cX12_countsAs 78 = .ok (.goto (-61), 3) := by decide +kernel
theorem dX12_countsAs_81 : decode cX12_countsAs 81 = .ok (.iload 4, 2) := by decide +kernel
theorem dX12_countsAs_83 : decode cX12_countsAs 83 = .ok (.iconst (-1), 1) := by decide +kernel
theorem dX12_countsAs_84 : decode cX12_countsAs 84 = .ok (.if_icmp .eq (-79), 3) := by decide +kernel
theorem dX12_countsAs_87 : decode cX12_countsAs 87 = .ok (.aload_n 0, 1) := by decide +kernel
theorem dX12_countsAs_88 : decode cX12_countsAs 88 = .ok (.getfield 211, 3) := by decide +kernel
theorem dX12_countsAs_91 : decode cX12_countsAs 91 = .ok (.iload 4, 2) := by decide +kernel
theorem dX12_countsAs_93 : decode cX12_countsAs 93 = .ok (.iaload, 1) := by decide +kernel
theorem dX12_countsAs_94 : decode cX12_countsAs 94 = .ok (.istore_n 3, 1) := by decide +kernel
theorem dX12_countsAs_95 : decode cX12_countsAs 95 = .ok (.goto (-90), 3) := by decide +kernel
theorem dX12_countsAs_98 : decode cX12_countsAs 98 = .ok (.iload_n 3, 1) := by decide +kernel
theorem dX12_countsAs_99 : decode cX12_countsAs 99 = .ok (.ireturn, 1) := by decide +kernel
theorem dX12_counts_0 : decode cX12_counts 0 = .ok (.iload_n 1, 1) := by decide +kernel
theorem dX12_counts_1 : decode cX12_counts 1 = .ok (.invokestatic 303, 3) := by decide +kernel
theorem dX12_counts_4 : decode cX12_counts 4 = .ok (.ifCond .eq 19, 3) := by decide +kernel
theorem dX12_counts_7 : decode cX12_counts 7 = .ok (.iload_n 2, 1) := by decide +kernel
theorem dX12_counts_8 : decode cX12_counts 8 = .ok (.invokestatic 259, 3) := by decide +kernel
theorem dX12_counts_11 : decode cX12_counts 11 = .ok (.ifCond .eq 12, 3) := by decide +kernel
theorem dX12_counts_14 : decode cX12_counts 14 = .ok (.aload_n 0, 1) := by decide +kernel
theorem dX12_counts_15 : decode cX12_counts 15 = .ok (.iload_n 1, 1) := by decide +kernel
theorem dX12_counts_16 : decode cX12_counts 16 = .ok (.iload_n 2, 1) := by decide +kernel
theorem dX12_counts_17 : decode cX12_counts 17 = .ok (.invokevirtual 309, 3) := by decide +kernel
theorem dX12_counts_20 : decode cX12_counts 20 = .ok (.goto 5, 3) := by decide +kernel
theorem dX12_counts_23 : decode cX12_counts 23 = .ok (.bipush (-2), 2) := by decide +kernel
theorem dX12_counts_25 : decode cX12_counts 25 = .ok (.ireturn, 1) := by decide +kernel
theorem dX12_binds_0 : decode cX12_binds 0 = .ok (.bipush 12, 2) := by decide +kernel
theorem dX12_binds_2 : decode cX12_binds 2 = .ok (.iload_n 1, 1) := by decide +kernel
theorem dX12_binds_3 : decode cX12_binds 3 = .ok (.imul, 1) := by decide +kernel
theorem dX12_binds_4 : decode cX12_binds 4 = .ok (.iload_n 2, 1) := by decide +kernel
theorem dX12_binds_5 : decode cX12_binds 5 = .ok (.iadd, 1) := by decide +kernel
theorem dX12_binds_6 : decode cX12_binds 6 = .ok (.istore 7, 2) := by decide +kernel
theorem dX12_binds_8 : decode cX12_binds 8 = .ok (.aload_n 0, 1) := by decide +kernel
theorem dX12_binds_9 : decode cX12_binds 9 = .ok (.iload_n 1, 1) := by decide +kernel
theorem dX12_binds_10 : decode cX12_binds 10 = .ok (.iload 6, 2) := by decide +kernel
theorem dX12_binds_12 : decode cX12_binds 12 = .ok (.invokevirtual 268, 3) := by decide +kernel
theorem dX12_binds_15 : decode cX12_binds 15 = .ok (.ifCond .eq 50, 3) := by decide +kernel
theorem dX12_binds_18 : decode cX12_binds 18 = .ok (.iload_n 3, 1) := by decide +kernel
theorem dX12_binds_19 : decode cX12_binds 19 = .ok (.i2l, 1) := by decide +kernel
theorem dX12_binds_20 : decode cX12_binds 20 = .ok (.aload_n 0, 1) := by decide +kernel
theorem dX12_binds_21 : decode cX12_binds 21 = .ok (.getfield 132, 3) := by decide +kernel
theorem dX12_binds_24 : decode cX12_binds 24 = .ok (.iload 7, 2) := by decide +kernel
theorem dX12_binds_26 : decode cX12_binds 26 = .ok (.iaload, 1) := by decide +kernel
theorem dX12_binds_27 : decode cX12_binds 27 = .ok (.i2l, 1) := by decide +kernel
theorem dX12_binds_28 : decode cX12_binds 28 = .ok (.aload_n 0, 1) := by decide +kernel
theorem dX12_binds_29 : decode cX12_binds 29 = .ok (.getfield 135, 3) := by decide +kernel
theorem dX12_binds_32 : decode cX12_binds 32 = .ok (.iload 7, 2) := by decide +kernel
theorem dX12_binds_34 : decode cX12_binds 34 = .ok (.iaload, 1) := by decide +kernel
theorem dX12_binds_35 : decode cX12_binds 35 = .ok (.i2l, 1) := by decide +kernel
theorem dX12_binds_36 : decode cX12_binds 36 = .ok (.invokestatic 5, 3) := by decide +kernel
theorem dX12_binds_39 : decode cX12_binds 39 = .ok (.ifCond .eq 26, 3) := by decide +kernel
theorem dX12_binds_42 : decode cX12_binds 42 = .ok (.aload_n 0, 1) := by decide +kernel
theorem dX12_binds_43 : decode cX12_binds 43 = .ok (.getfield 148, 3) := by decide +kernel
theorem dX12_binds_46 : decode cX12_binds 46 = .ok (.iload 7, 2) := by decide +kernel
theorem dX12_binds_48 : decode cX12_binds 48 = .ok (.iaload, 1) := by decide +kernel
theorem dX12_binds_49 : decode cX12_binds 49 = .ok (.iconst 3, 1) := by decide +kernel
theorem dX12_binds_50 : decode cX12_binds 50 = .ok (.if_icmp .eq 17, 3) := by decide +kernel
theorem dX12_binds_53 : decode cX12_binds 53 = .ok (.aload_n 0, 1) := by decide +kernel
theorem dX12_binds_54 : decode cX12_binds 54 = .ok (.getfield 148, 3) := by decide +kernel
theorem dX12_binds_57 : decode cX12_binds 57 = .ok (.iload 7, 2) := by decide +kernel
theorem dX12_binds_59 : decode cX12_binds 59 = .ok (.iaload, 1) := by decide +kernel
theorem dX12_binds_60 : decode cX12_binds 60 = .ok (.iload 4, 2) := by decide +kernel
theorem dX12_binds_62 : decode cX12_binds 62 = .ok (.if_icmp .eq 5, 3) := by decide +kernel
theorem dX12_binds_65 : decode cX12_binds 65 = .ok (.iconst 0, 1) := by decide +kernel
theorem dX12_binds_66 : decode cX12_binds 66 = .ok (.ireturn, 1) := by decide +kernel
theorem dX12_binds_67 : decode cX12_binds 67 = .ok (.aload_n 0, 1) := by decide +kernel
theorem dX12_binds_68 : decode cX12_binds 68 = .ok (.getfield 205, 3) := by decide +kernel
theorem dX12_binds_71 : decode cX12_binds 71 = .ok (.iload 5, 2) := by decide +kernel
theorem dX12_binds_73 : decode cX12_binds 73 = .ok (.iaload, 1) := by decide +kernel
theorem dX12_binds_74 : decode cX12_binds 74 = .ok (.iconst (-1), 1) := by decide +kernel
theorem dX12_binds_75 : decode cX12_binds 75 = .ok (.if_icmp .eq 37, 3) := by decide +kernel
theorem dX12_binds_78 : decode cX12_binds 78 = .ok (.aload_n 0, 1) := by decide +kernel
theorem dX12_binds_79 : decode cX12_binds 79 = .ok (.getfield 205, 3) := by decide +kernel
theorem dX12_binds_82 : decode cX12_binds 82 = .ok (.iload 5, 2) := by decide +kernel
theorem dX12_binds_84 : decode cX12_binds 84 = .ok (.iaload, 1) := by decide +kernel
theorem dX12_binds_85 : decode cX12_binds 85 = .ok (.aload_n 0, 1) := by decide +kernel
theorem dX12_binds_86 : decode cX12_binds 86 = .ok (.getfield 168, 3) := by decide +kernel
theorem dX12_binds_89 : decode cX12_binds 89 = .ok (.iload_n 1, 1) := by decide +kernel
theorem dX12_binds_90 : decode cX12_binds 90 = .ok (.iaload, 1) := by decide +kernel
theorem dX12_binds_91 : decode cX12_binds 91 = .ok (.if_icmp .ge 21, 3) := by decide +kernel
theorem dX12_binds_94 : decode cX12_binds 94 = .ok (.iload 6, 2) := by decide +kernel
theorem dX12_binds_96 : decode cX12_binds 96 = .ok (.aload_n 0, 1) := by decide +kernel
theorem dX12_binds_97 : decode cX12_binds 97 = .ok (.getfield 168, 3) := by decide +kernel
theorem dX12_binds_100 : decode cX12_binds 100 = .ok (.iload_n 1, 1) := by decide +kernel
theorem dX12_binds_101 : decode cX12_binds 101 = .ok (.iaload, 1) := by decide +kernel
theorem dX12_binds_102 : decode cX12_binds 102 = .ok (.aload_n 0, 1) := by decide +kernel
theorem dX12_binds_103 : decode cX12_binds 103 = .ok (.getfield 92, 3) := by decide +kernel
theorem dX12_binds_106 : decode cX12_binds 106 = .ok (.iload_n 1, 1) := by decide +kernel
theorem dX12_binds_107 : decode cX12_binds 107 = .ok (.iaload, 1) := by decide +kernel
theorem dX12_binds_108 : decode cX12_binds 108 = .ok (.iadd, 1) := by decide +kernel
theorem dX12_binds_109 : decode cX12_binds 109 = .ok (.if_icmp .lt 7, 3) := by decide +kernel
theorem dX12_binds_112 : decode cX12_binds 112 = .ok (.iconst 1, 1) := by decide +kernel
theorem dX12_binds_113 : decode cX12_binds 113 = .ok (.goto 4, 3) := by decide +kernel
theorem dX12_binds_116 : decode cX12_binds 116 = .ok (.iconst 0, 1) := by decide +kernel
theorem dX12_binds_117 : decode cX12_binds 117 = .ok (.ireturn, 1) := by decide +kernel
theorem dX12_isBroken_0 : decode cX12_isBroken 0 = .ok (.bipush 12, 2) := by decide +kernel
theorem dX12_isBroken_2 : decode cX12_isBroken 2 = .ok (.iload_n 1, 1) := by decide +kernel
theorem dX12_isBroken_3 : decode cX12_isBroken 3 = .ok (.imul, 1) := by decide +kernel
theorem dX12_isBroken_4 : decode cX12_isBroken 4 = .ok (.iload_n 2, 1) := by decide +kernel
theorem dX12_isBroken_5 : decode cX12_isBroken 5 = .ok (.iadd, 1) := by decide +kernel
theorem dX12_isBroken_6 : decode cX12_isBroken 6 = .ok (.istore 5, 2) := by decide +kernel
theorem dX12_isBroken_8 : decode cX12_isBroken 8 = .ok (.aload_n 0, 1) := by decide +kernel
theorem dX12_isBroken_9 : decode cX12_isBroken 9 = .ok (.getfield 127, 3) := by decide +kernel
theorem dX12_isBroken_12 : decode cX12_isBroken 12 = .ok (.iload 5, 2) := by decide +kernel
theorem dX12_isBroken_14 : decode cX12_isBroken 14 = .ok (.iaload, 1) := by decide +kernel
theorem dX12_isBroken_15 : decode cX12_isBroken 15 = .ok (.tableswitch 97 5 7 #[25, 53, 75], 25) := by decide +kernel
theorem dX12_isBroken_40 : decode cX12_isBroken 40 = .ok (.aload_n 0, 1) := by decide +kernel
theorem dX12_isBroken_41 : decode cX12_isBroken 41 = .ok (.aload_n 0, 1) := by decide +kernel
theorem dX12_isBroken_42 : decode cX12_isBroken 42 = .ok (.getfield 201, 3) := by decide +kernel
theorem dX12_isBroken_45 : decode cX12_isBroken 45 = .ok (.iload_n 3, 1) := by decide +kernel
theorem dX12_isBroken_46 : decode cX12_isBroken 46 = .ok (.iaload, 1) := by decide +kernel
theorem dX12_isBroken_47 : decode cX12_isBroken 47 = .ok (.iload 4, 2) := by decide +kernel
theorem dX12_isBroken_49 : decode cX12_isBroken 49 = .ok (.invokevirtual 309, 3) := by decide +kernel
theorem dX12_isBroken_52 : decode cX12_isBroken 52 = .ok (.aload_n 0, 1) := by decide +kernel
theorem dX12_isBroken_53 : decode cX12_isBroken 53 = .ok (.getfield 130, 3) := by decide +kernel
theorem dX12_isBroken_56 : decode cX12_isBroken 56 = .ok (.iload 5, 2) := by decide +kernel
theorem dX12_isBroken_58 : decode cX12_isBroken 58 = .ok (.iaload, 1) := by decide +kernel
theorem dX12_isBroken_59 : decode cX12_isBroken 59 = .ok (.if_icmp .ne 7, 3) := by decide +kernel
theorem dX12_isBroken_62 : decode cX12_isBroken 62 = .ok (.iconst 1, 1) := by decide +kernel
theorem dX12_isBroken_63 : decode cX12_isBroken 63 = .ok (.goto 4, 3) := by decide +kernel
theorem dX12_isBroken_66 : decode cX12_isBroken 66 = .ok (.iconst 0, 1) := by decide +kernel
theorem dX12_isBroken_67 : decode cX12_isBroken 67 = .ok (.ireturn, 1) := by decide +kernel
theorem dX12_isBroken_68 : decode cX12_isBroken 68 = .ok (.aload_n 0, 1) := by decide +kernel
theorem dX12_isBroken_69 : decode cX12_isBroken 69 = .ok (.getfield 203, 3) := by decide +kernel
theorem dX12_isBroken_72 : decode cX12_isBroken 72 = .ok (.iload_n 3, 1) := by decide +kernel
theorem dX12_isBroken_73 : decode cX12_isBroken 73 = .ok (.iaload, 1) := by decide +kernel
theorem dX12_isBroken_74 : decode cX12_isBroken 74 = .ok (.aload_n 0, 1) := by decide +kernel
theorem dX12_isBroken_75 : decode cX12_isBroken 75 = .ok (.getfield 130, 3) := by decide +kernel
theorem dX12_isBroken_78 : decode cX12_isBroken 78 = .ok (.iload 5, 2) := by decide +kernel
theorem dX12_isBroken_80 : decode cX12_isBroken 80 = .ok (.iaload, 1) := by decide +kernel
theorem dX12_isBroken_81 : decode cX12_isBroken 81 = .ok (.if_icmp .ne 7, 3) := by decide +kernel
theorem dX12_isBroken_84 : decode cX12_isBroken 84 = .ok (.iconst 1, 1) := by decide +kernel
theorem dX12_isBroken_85 : decode cX12_isBroken 85 = .ok (.goto 4, 3) := by decide +kernel
theorem dX12_isBroken_88 : decode cX12_isBroken 88 = .ok (.iconst 0, 1) := by decide +kernel
theorem dX12_isBroken_89 : decode cX12_isBroken 89 = .ok (.ireturn, 1) := by decide +kernel
theorem dX12_isBroken_90 : decode cX12_isBroken 90 = .ok (.aload_n 0, 1) := by decide +kernel
theorem dX12_isBroken_91 : decode cX12_isBroken 91 = .ok (.getfield 203, 3) := by decide +kernel
theorem dX12_isBroken_94 : decode cX12_isBroken 94 = .ok (.iload_n 3, 1) := by decide +kernel
theorem dX12_isBroken_95 : decode cX12_isBroken 95 = .ok (.iaload, 1) := by decide +kernel
theorem dX12_isBroken_96 : decode cX12_isBroken 96 = .ok (.aload_n 0, 1) := by decide +kernel
theorem dX12_isBroken_97 : decode cX12_isBroken 97 = .ok (.getfield 130, 3) := by decide +kernel
theorem dX12_isBroken_100 : decode cX12_isBroken 100 = .ok (.iload 5, 2) := by decide +kernel
theorem dX12_isBroken_102 : decode cX12_isBroken 102 = .ok (.iaload, 1) := by decide +kernel
theorem dX12_isBroken_103 : decode cX12_isBroken 103 = .ok (.if_icmp .eq 7, 3) := by decide +kernel
theorem dX12_isBroken_106 : decode cX12_isBroken 106 = .ok (.iconst 1, 1) := by decide +kernel
theorem dX12_isBroken_107 : decode cX12_isBroken 107 = .ok (.goto 4, 3) := by decide +kernel
theorem dX12_isBroken_110 : decode cX12_isBroken 110 = .ok (.iconst 0, 1) := by decide +kernel
theorem dX12_isBroken_111 : decode cX12_isBroken 111 = .ok (.ireturn, 1) := by decide +kernel
theorem dX12_isBroken_112 : decode cX12_isBroken 112 = .ok (.aload_n 0, 1) := by decide +kernel
theorem dX12_isBroken_113 : decode cX12_isBroken 113 = .ok (.getfield 198, 3) := by decide +kernel
theorem dX12_isBroken_116 : decode cX12_isBroken 116 = .ok (.iconst 5, 1) := by decide +kernel
theorem dX12_isBroken_117 : decode cX12_isBroken 117 = .ok (.iload_n 3, 1) := by decide +kernel
theorem dX12_isBroken_118 : decode cX12_isBroken 118 = .ok (.imul, 1) := by decide +kernel
theorem dX12_isBroken_119 : decode cX12_isBroken 119 = .ok (.aload_n 0, 1) := by decide +kernel
theorem dX12_isBroken_120 : decode cX12_isBroken 120 = .ok (.getfield 127, 3) := by decide +kernel
theorem dX12_isBroken_123 : decode cX12_isBroken 123 = .ok (.iload 5, 2) := by decide +kernel
theorem dX12_isBroken_125 : decode cX12_isBroken 125 = .ok (.iaload, 1) := by decide +kernel
theorem dX12_isBroken_126 : decode cX12_isBroken 126 = .ok (.iadd, 1) := by decide +kernel
theorem dX12_isBroken_127 : decode cX12_isBroken 127 = .ok (.iaload, 1) := by decide +kernel
theorem dX12_isBroken_128 : decode cX12_isBroken 128 = .ok (.aload_n 0, 1) := by decide +kernel
theorem dX12_isBroken_129 : decode cX12_isBroken 129 = .ok (.getfield 130, 3) := by decide +kernel
theorem dX12_isBroken_132 : decode cX12_isBroken 132 = .ok (.iload 5, 2) := by decide +kernel
theorem dX12_isBroken_134 : decode cX12_isBroken 134 = .ok (.iaload, 1) := by decide +kernel
theorem dX12_isBroken_135 : decode cX12_isBroken 135 = .ok (.if_icmp .le 7, 3) := by decide +kernel
theorem dX12_isBroken_138 : decode cX12_isBroken 138 = .ok (.iconst 1, 1) := by decide +kernel
theorem dX12_isBroken_139 : decode cX12_isBroken 139 = .ok (.goto 4, 3) := by decide +kernel
theorem dX12_isBroken_142 : decode cX12_isBroken 142 = .ok (.iconst 0, 1) := by decide +kernel
theorem dX12_isBroken_143 : decode cX12_isBroken 143 = .ok (.ireturn, 1) := by decide +kernel
theorem dX12_brokenOf_0 : decode cX12_brokenOf 0 = .ok (.iconst 0, 1) := by decide +kernel
theorem dX12_brokenOf_1 : decode cX12_brokenOf 1 = .ok (.istore 6, 2) := by decide +kernel
theorem dX12_brokenOf_3 : decode cX12_brokenOf 3 = .ok (.iconst 0, 1) := by decide +kernel
theorem dX12_brokenOf_4 : decode cX12_brokenOf 4 = .ok (.istore 7, 2) := by decide +kernel
theorem dX12_brokenOf_6 : decode cX12_brokenOf 6 = .ok (.iload 7, 2) := by decide +kernel
theorem dX12_brokenOf_8 : decode cX12_brokenOf 8 = .ok (.aload_n 0, 1) := by decide +kernel
theorem dX12_brokenOf_9 : decode cX12_brokenOf 9 = .ok (.getfield 88, 3) := by decide +kernel
theorem dX12_brokenOf_12 : decode cX12_brokenOf 12 = .ok (.iload_n 1, 1) := by decide +kernel
theorem dX12_brokenOf_13 : decode cX12_brokenOf 13 = .ok (.iaload, 1) := by decide +kernel
theorem dX12_brokenOf_14 : decode cX12_brokenOf 14 = .ok (.if_icmp .ge 48, 3) := by decide +kernel
theorem dX12_brokenOf_17 : decode cX12_brokenOf 17 = .ok (.aload_n 0, 1) := by decide +kernel
theorem dX12_brokenOf_18 : decode cX12_brokenOf 18 = .ok (.iload_n 1, 1) := by decide +kernel
theorem dX12_brokenOf_19 : decode cX12_brokenOf 19 = .ok (.iload 7, 2) := by decide +kernel
theorem dX12_brokenOf_21 : decode cX12_brokenOf 21 = .ok (.iload_n 2, 1) := by decide +kernel
theorem dX12_brokenOf_22 : decode cX12_brokenOf 22 = .ok (.iload_n 3, 1) := by decide +kernel
theorem dX12_brokenOf_23 : decode cX12_brokenOf 23 = .ok (.iload 4, 2) := by decide +kernel
theorem dX12_brokenOf_25 : decode cX12_brokenOf 25 = .ok (.iload 5, 2) := by decide +kernel
theorem dX12_brokenOf_27 : decode cX12_brokenOf 27 = .ok (.invokevirtual 312, 3) := by decide +kernel
theorem dX12_brokenOf_30 : decode cX12_brokenOf 30 = .ok (.ifCond .eq 26, 3) := by decide +kernel
theorem dX12_brokenOf_33 : decode cX12_brokenOf 33 = .ok (.aload_n 0, 1) := by decide +kernel
theorem dX12_brokenOf_34 : decode cX12_brokenOf 34 = .ok (.iload_n 1, 1) := by decide +kernel
theorem dX12_brokenOf_35 : decode cX12_brokenOf 35 = .ok (.iload 7, 2) := by decide +kernel
theorem dX12_brokenOf_37 : decode cX12_brokenOf 37 = .ok (.iload 4, 2) := by decide +kernel
theorem dX12_brokenOf_39 : decode cX12_brokenOf 39 = .ok (.iload 5, 2) := by decide +kernel
theorem dX12_brokenOf_41 : decode cX12_brokenOf 41 = .ok (.invokevirtual 316, 3) := by decide +kernel
theorem dX12_brokenOf_44 : decode cX12_brokenOf 44 = .ok (.ifCond .eq 12, 3) := by decide +kernel
theorem dX12_brokenOf_47 : decode cX12_brokenOf 47 = .ok (.iload 6, 2) := by decide +kernel
theorem dX12_brokenOf_49 : decode cX12_brokenOf 49 = .ok (.iconst 1, 1) := by decide +kernel
theorem dX12_brokenOf_50 : decode cX12_brokenOf 50 = .ok (.iload 7, 2) := by decide +kernel
theorem dX12_brokenOf_52 : decode cX12_brokenOf 52 = .ok (.ishl, 1) := by decide +kernel
theorem dX12_brokenOf_53 : decode cX12_brokenOf 53 = .ok (.ior, 1) := by decide +kernel
theorem dX12_brokenOf_54 : decode cX12_brokenOf 54 = .ok (.istore 6, 2) := by decide +kernel
theorem dX12_brokenOf_56 : decode cX12_brokenOf 56 = .ok (.iinc 7 1, 3) := by decide +kernel
theorem dX12_brokenOf_59 : decode cX12_brokenOf 59 = .ok (.goto (-53), 3) := by decide +kernel
theorem dX12_brokenOf_62 : decode cX12_brokenOf 62 = .ok (.iload 6, 2) := by decide +kernel
theorem dX12_brokenOf_64 : decode cX12_brokenOf 64 = .ok (.ireturn, 1) := by decide +kernel
theorem dX12_isCase_0 : decode cX12_isCase 0 = .ok (.iload_n 1, 1) := by decide +kernel
theorem dX12_isCase_1 : decode cX12_isCase 1 = .ok (.invokestatic 274, 3) := by decide +kernel
theorem dX12_isCase_4 : decode cX12_isCase 4 = .ok (.ifCond .eq 22, 3) := by decide +kernel
theorem dX12_isCase_7 : decode cX12_isCase 7 = .ok (.aload_n 0, 1) := by decide +kernel
theorem dX12_isCase_8 : decode cX12_isCase 8 = .ok (.iload_n 2, 1) := by decide +kernel
theorem dX12_isCase_9 : decode cX12_isCase 9 = .ok (.invokevirtual 298, 3) := by decide +kernel
theorem dX12_isCase_12 : decode cX12_isCase 12 = .ok (.ifCond .eq 14, 3) := by decide +kernel
theorem dX12_isCase_15 : decode cX12_isCase 15 = .ok (.iload_n 3, 1) := by decide +kernel
theorem dX12_isCase_16 : decode cX12_isCase 16 = .ok (.invokestatic 259, 3) := by decide +kernel
theorem dX12_isCase_19 : decode cX12_isCase 19 = .ok (.ifCond .eq 7, 3) := by decide +kernel
theorem dX12_isCase_22 : decode cX12_isCase 22 = .ok (.iconst 1, 1) := by decide +kernel
theorem dX12_isCase_23 : decode cX12_isCase 23 = .ok (.goto 4, 3) := by decide +kernel
theorem dX12_isCase_26 : decode cX12_isCase 26 = .ok (.iconst 0, 1) := by decide +kernel
theorem dX12_isCase_27 : decode cX12_isCase 27 = .ok (.ireturn, 1) := by decide +kernel
theorem dX12_fineOf_0 : decode cX12_fineOf 0 = .ok (.iconst 0, 1) := by decide +kernel
theorem dX12_fineOf_1 : decode cX12_fineOf 1 = .ok (.istore 4, 2) := by decide +kernel
theorem dX12_fineOf_3 : decode cX12_fineOf 3 = .ok (.iconst 0, 1) := by decide +kernel
theorem dX12_fineOf_4 : decode cX12_fineOf 4 = .ok (.istore 5, 2) := by decide +kernel
theorem dX12_fineOf_6 : decode cX12_fineOf 6 = .ok (.iload 5, 2) := by decide +kernel
theorem dX12_fineOf_8 : decode cX12_fineOf 8 = .ok (.aload_n 0, 1) := by decide +kernel
theorem dX12_fineOf_9 : decode cX12_fineOf 9 = .ok (.getfield 118, 3) := by decide +kernel
theorem dX12_fineOf_12 : decode cX12_fineOf 12 = .ok (.if_icmp .ge 78, 3) := by decide +kernel
theorem dX12_fineOf_15 : decode cX12_fineOf 15 = .ok (.aload_n 0, 1) := by decide +kernel
theorem dX12_fineOf_16 : decode cX12_fineOf 16 = .ok (.iload 5, 2) := by decide +kernel
theorem dX12_fineOf_18 : decode cX12_fineOf 18 = .ok (.aload_n 0, 1) := by decide +kernel
theorem dX12_fineOf_19 : decode cX12_fineOf 19 = .ok (.iload_n 1, 1) := by decide +kernel
theorem dX12_fineOf_20 : decode cX12_fineOf 20 = .ok (.iload_n 3, 1) := by decide +kernel
theorem dX12_fineOf_21 : decode cX12_fineOf 21 = .ok (.invokevirtual 285, 3) := by decide +kernel
theorem dX12_fineOf_24 : decode cX12_fineOf 24 = .ok (.aload_n 0, 1) := by decide +kernel
theorem dX12_fineOf_25 : decode cX12_fineOf 25 = .ok (.iload_n 1, 1) := by decide +kernel
theorem dX12_fineOf_26 : decode cX12_fineOf 26 = .ok (.iload_n 3, 1) := by decide +kernel
theorem dX12_fineOf_27 : decode cX12_fineOf 27 = .ok (.invokevirtual 288, 3) := by decide +kernel
theorem dX12_fineOf_30 : decode cX12_fineOf 30 = .ok (.iload_n 2, 1) := by decide +kernel
theorem dX12_fineOf_31 : decode cX12_fineOf 31 = .ok (.iload_n 3, 1) := by decide +kernel
theorem dX12_fineOf_32 : decode cX12_fineOf 32 = .ok (.invokevirtual 320, 3) := by decide +kernel
theorem dX12_fineOf_35 : decode cX12_fineOf 35 = .ok (.istore 6, 2) := by decide +kernel
theorem dX12_fineOf_37 : decode cX12_fineOf 37 = .ok (.iconst 0, 1) := by decide +kernel
theorem dX12_fineOf_38 : decode cX12_fineOf 38 = .ok (.istore 7, 2) := by decide +kernel
theorem dX12_fineOf_40 : decode cX12_fineOf 40 = .ok (.iload 7, 2) := by decide +kernel
theorem dX12_fineOf_42 : decode cX12_fineOf 42 = .ok (.aload_n 0, 1) := by decide +kernel
theorem dX12_fineOf_43 : decode cX12_fineOf 43 = .ok (.getfield 88, 3) := by decide +kernel
theorem dX12_fineOf_46 : decode cX12_fineOf 46 = .ok (.iload 5, 2) := by decide +kernel
theorem dX12_fineOf_48 : decode cX12_fineOf 48 = .ok (.iaload, 1) := by decide +kernel
theorem dX12_fineOf_49 : decode cX12_fineOf 49 = .ok (.if_icmp .ge 35, 3) := by decide +kernel
theorem dX12_fineOf_52 : decode cX12_fineOf 52 = .ok (.iload 4, 2) := by decide +kernel
theorem dX12_fineOf_54 : decode cX12_fineOf 54 = .ok (.iload 6, 2) := by decide +kernel
theorem dX12_fineOf_56 : decode cX12_fineOf 56 = .ok (.iload 7, 2) := by decide +kernel
theorem dX12_fineOf_58 : decode cX12_fineOf 58 = .ok (.ishr, 1) := by decide +kernel
theorem dX12_fineOf_59 : decode cX12_fineOf 59 = .ok (.iconst 1, 1) := by decide +kernel
theorem dX12_fineOf_60 : decode cX12_fineOf 60 = .ok (.iand, 1) := by decide +kernel
theorem dX12_fineOf_61 : decode cX12_fineOf 61 = .ok (.aload_n 0, 1) := by decide +kernel
theorem dX12_fineOf_62 : decode cX12_fineOf 62 = .ok (.getfield 161, 3) := by decide +kernel
theorem dX12_fineOf_65 : decode cX12_fineOf 65 = .ok (.bipush 12, 2) := by decide +kernel
theorem dX12_fineOf_67 : decode cX12_fineOf 67 = .ok (.iload 5, 2) := by decide +kernel
theorem dX12_fineOf_69 : decode cX12_fineOf 69 = .ok (.imul, 1) := by decide +kernel
theorem dX12_fineOf_70 : decode cX12_fineOf 70 = .ok (.iload 7, 2) := by decide +kernel
theorem dX12_fineOf_72 : decode cX12_fineOf 72 = .ok (.iadd, 1) := by decide +kernel
theorem dX12_fineOf_73 : decode cX12_fineOf 73 = .ok (.iaload, 1) := by decide +kernel
theorem dX12_fineOf_74 : decode cX12_fineOf 74 = .ok (.imul, 1) := by decide +kernel
theorem dX12_fineOf_75 : decode cX12_fineOf 75 = .ok (.iadd, 1) := by decide +kernel
theorem dX12_fineOf_76 : decode cX12_fineOf 76 = .ok (.istore 4, 2) := by decide +kernel
theorem dX12_fineOf_78 : decode cX12_fineOf 78 = .ok (.iinc 7 1, 3) := by decide +kernel
theorem dX12_fineOf_81 : decode cX12_fineOf 81 = .ok (.goto (-41), 3) := by decide +kernel
theorem dX12_fineOf_84 : decode cX12_fineOf 84 = .ok (.iinc 5 1, 3) := by decide +kernel
theorem dX12_fineOf_87 : decode cX12_fineOf 87 = .ok (.goto (-81), 3) := by decide +kernel
theorem dX12_fineOf_90 : decode cX12_fineOf 90 = .ok (.iload 4, 2) := by decide +kernel
theorem dX12_fineOf_92 : decode cX12_fineOf 92 = .ok (.iconst 5, 1) := by decide +kernel
theorem dX12_fineOf_93 : decode cX12_fineOf 93 = .ok (.iconst 1, 1) := by decide +kernel
theorem dX12_fineOf_94 : decode cX12_fineOf 94 = .ok (.aload_n 0, 1) := by decide +kernel
theorem dX12_fineOf_95 : decode cX12_fineOf 95 = .ok (.getfield 217, 3) := by decide +kernel
theorem dX12_fineOf_98 : decode cX12_fineOf 98 = .ok (.iload_n 1, 1) := by decide +kernel
theorem dX12_fineOf_99 : decode cX12_fineOf 99 = .ok (.iaload, 1) := by decide +kernel
theorem dX12_fineOf_100 : decode cX12_fineOf 100 = .ok (.iadd, 1) := by decide +kernel
theorem dX12_fineOf_101 : decode cX12_fineOf 101 = .ok (.invokestatic 324, 3) := by decide +kernel
theorem dX12_fineOf_104 : decode cX12_fineOf 104 = .ok (.imul, 1) := by decide +kernel
theorem dX12_fineOf_105 : decode cX12_fineOf 105 = .ok (.ireturn, 1) := by decide +kernel
theorem dX12_fine_0 : decode cX12_fine 0 = .ok (.aload_n 0, 1) := by decide +kernel
theorem dX12_fine_1 : decode cX12_fine 1 = .ok (.iload_n 1, 1) := by decide +kernel
theorem dX12_fine_2 : decode cX12_fine 2 = .ok (.iload_n 2, 1) := by decide +kernel
theorem dX12_fine_3 : decode cX12_fine 3 = .ok (.iload_n 3, 1) := by decide +kernel
theorem dX12_fine_4 : decode cX12_fine 4 = .ok (.invokevirtual 329, 3) := by decide +kernel
theorem dX12_fine_7 : decode cX12_fine 7 = .ok (.ifCond .eq 13, 3) := by decide +kernel
theorem dX12_fine_10 : decode cX12_fine 10 = .ok (.aload_n 0, 1) := by decide +kernel
theorem dX12_fine_11 : decode cX12_fine 11 = .ok (.iload_n 1, 1) := by decide +kernel
theorem dX12_fine_12 : decode cX12_fine 12 = .ok (.iload_n 2, 1) := by decide +kernel
theorem dX12_fine_13 : decode cX12_fine 13 = .ok (.iload_n 3, 1) := by decide +kernel
theorem dX12_fine_14 : decode cX12_fine 14 = .ok (.invokevirtual 333, 3) := by decide +kernel
theorem dX12_fine_17 : decode cX12_fine 17 = .ok (.goto 5, 3) := by decide +kernel
theorem dX12_fine_20 : decode cX12_fine 20 = .ok (.bipush (-2), 2) := by decide +kernel
theorem dX12_fine_22 : decode cX12_fine 22 = .ok (.ireturn, 1) := by decide +kernel
theorem dX12_broken_0 : decode cX12_broken 0 = .ok (.aload_n 0, 1) := by decide +kernel
theorem dX12_broken_1 : decode cX12_broken 1 = .ok (.iload_n 1, 1) := by decide +kernel
theorem dX12_broken_2 : decode cX12_broken 2 = .ok (.iload_n 2, 1) := by decide +kernel
theorem dX12_broken_3 : decode cX12_broken 3 = .ok (.iload_n 3, 1) := by decide +kernel
theorem dX12_broken_4 : decode cX12_broken 4 = .ok (.invokevirtual 329, 3) := by decide +kernel
theorem dX12_broken_7 : decode cX12_broken 7 = .ok (.ifCond .eq 35, 3) := by decide +kernel
theorem dX12_broken_10 : decode cX12_broken 10 = .ok (.aload_n 0, 1) := by decide +kernel
theorem dX12_broken_11 : decode cX12_broken 11 = .ok (.iload 4, 2) := by decide +kernel
theorem dX12_broken_13 : decode cX12_broken 13 = .ok (.invokevirtual 265, 3) := by decide +kernel
theorem dX12_broken_16 : decode cX12_broken 16 = .ok (.ifCond .eq 26, 3) := by decide +kernel
theorem dX12_broken_19 : decode cX12_broken 19 = .ok (.aload_n 0, 1) := by decide +kernel
theorem dX12_broken_20 : decode cX12_broken 20 = .ok (.iload 4, 2) := by decide +kernel
theorem dX12_broken_22 : decode cX12_broken 22 = .ok (.aload_n 0, 1) := by decide +kernel
theorem dX12_broken_23 : decode cX12_broken 23 = .ok (.iload_n 1, 1) := by decide +kernel
theorem dX12_broken_24 : decode cX12_broken 24 = .ok (.iload_n 3, 1) := by decide +kernel
theorem dX12_broken_25 : decode cX12_broken 25 = .ok (.invokevirtual 285, 3) := by decide +kernel
theorem dX12_broken_28 : decode cX12_broken 28 = .ok (.aload_n 0, 1) := by decide +kernel
theorem dX12_broken_29 : decode cX12_broken 29 = .ok (.iload_n 1, 1) := by decide +kernel
theorem dX12_broken_30 : decode cX12_broken 30 = .ok (.iload_n 3, 1) := by decide +kernel
theorem dX12_broken_31 : decode cX12_broken 31 = .ok (.invokevirtual 288, 3) := by decide +kernel
theorem dX12_broken_34 : decode cX12_broken 34 = .ok (.iload_n 2, 1) := by decide +kernel
theorem dX12_broken_35 : decode cX12_broken 35 = .ok (.iload_n 3, 1) := by decide +kernel
theorem dX12_broken_36 : decode cX12_broken 36 = .ok (.invokevirtual 320, 3) := by decide +kernel
theorem dX12_broken_39 : decode cX12_broken 39 = .ok (.goto 5, 3) := by decide +kernel
theorem dX12_broken_42 : decode cX12_broken 42 = .ok (.bipush (-2), 2) := by decide +kernel
theorem dX12_broken_44 : decode cX12_broken 44 = .ok (.ireturn, 1) := by decide +kernel
theorem dX12_letter_0 : decode cX12_letter 0 = .ok (.iload_n 1, 1) := by decide +kernel
theorem dX12_letter_1 : decode cX12_letter 1 = .ok (.invokestatic 274, 3) := by decide +kernel
theorem dX12_letter_4 : decode cX12_letter 4 = .ok (.ifCond .eq 19, 3) := by decide +kernel
theorem dX12_letter_7 : decode cX12_letter 7 = .ok (.aload_n 0, 1) := by decide +kernel
theorem dX12_letter_8 : decode cX12_letter 8 = .ok (.iload_n 2, 1) := by decide +kernel
theorem dX12_letter_9 : decode cX12_letter 9 = .ok (.iload_n 3, 1) := by decide +kernel
theorem dX12_letter_10 : decode cX12_letter 10 = .ok (.iload 4, 2) := by decide +kernel
theorem dX12_letter_12 : decode cX12_letter 12 = .ok (.invokevirtual 329, 3) := by decide +kernel
theorem dX12_letter_15 : decode cX12_letter 15 = .ok (.ifCond .eq 8, 3) := by decide +kernel
theorem dX12_letter_18 : decode cX12_letter 18 = .ok (.iload_n 1, 1) := by decide +kernel
theorem dX12_letter_19 : decode cX12_letter 19 = .ok (.iload_n 2, 1) := by decide +kernel
theorem dX12_letter_20 : decode cX12_letter 20 = .ok (.if_icmp .ne 6, 3) := by decide +kernel
theorem dX12_letter_23 : decode cX12_letter 23 = .ok (.bipush (-2), 2) := by decide +kernel
theorem dX12_letter_25 : decode cX12_letter 25 = .ok (.ireturn, 1) := by decide +kernel
theorem dX12_letter_26 : decode cX12_letter 26 = .ok (.aload_n 0, 1) := by decide +kernel
theorem dX12_letter_27 : decode cX12_letter 27 = .ok (.getfield 337, 3) := by decide +kernel
theorem dX12_letter_30 : decode cX12_letter 30 = .ok (.bipush 60, 2) := by decide +kernel
theorem dX12_letter_32 : decode cX12_letter 32 = .ok (.if_icmp .ne 6, 3) := by decide +kernel
theorem dX12_letter_35 : decode cX12_letter 35 = .ok (.bipush (-3), 2) := by decide +kernel
theorem dX12_letter_37 : decode cX12_letter 37 = .ok (.ireturn, 1) := by decide +kernel
theorem dX12_letter_38 : decode cX12_letter 38 = .ok (.aload_n 0, 1) := by decide +kernel
theorem dX12_letter_39 : decode cX12_letter 39 = .ok (.getfield 229, 3) := by decide +kernel
theorem dX12_letter_42 : decode cX12_letter 42 = .ok (.aload_n 0, 1) := by decide +kernel
theorem dX12_letter_43 : decode cX12_letter 43 = .ok (.getfield 337, 3) := by decide +kernel
theorem dX12_letter_46 : decode cX12_letter 46 = .ok (.iload_n 1, 1) := by decide +kernel
theorem dX12_letter_47 : decode cX12_letter 47 = .ok (.iastore, 1) := by decide +kernel
theorem dX12_letter_48 : decode cX12_letter 48 = .ok (.aload_n 0, 1) := by decide +kernel
theorem dX12_letter_49 : decode cX12_letter 49 = .ok (.getfield 232, 3) := by decide +kernel
theorem dX12_letter_52 : decode cX12_letter 52 = .ok (.aload_n 0, 1) := by decide +kernel
theorem dX12_letter_53 : decode cX12_letter 53 = .ok (.getfield 337, 3) := by decide +kernel
theorem dX12_letter_56 : decode cX12_letter 56 = .ok (.iload_n 2, 1) := by decide +kernel
theorem dX12_letter_57 : decode cX12_letter 57 = .ok (.iastore, 1) := by decide +kernel
theorem dX12_letter_58 : decode cX12_letter 58 = .ok (.aload_n 0, 1) := by decide +kernel
theorem dX12_letter_59 : decode cX12_letter 59 = .ok (.getfield 235, 3) := by decide +kernel
theorem dX12_letter_62 : decode cX12_letter 62 = .ok (.aload_n 0, 1) := by decide +kernel
theorem dX12_letter_63 : decode cX12_letter 63 = .ok (.getfield 337, 3) := by decide +kernel
theorem dX12_letter_66 : decode cX12_letter 66 = .ok (.iload_n 3, 1) := by decide +kernel
theorem dX12_letter_67 : decode cX12_letter 67 = .ok (.iastore, 1) := by decide +kernel
theorem dX12_letter_68 : decode cX12_letter 68 = .ok (.aload_n 0, 1) := by decide +kernel
theorem dX12_letter_69 : decode cX12_letter 69 = .ok (.getfield 238, 3) := by decide +kernel
theorem dX12_letter_72 : decode cX12_letter 72 = .ok (.aload_n 0, 1) := by decide +kernel
theorem dX12_letter_73 : decode cX12_letter 73 = .ok (.getfield 337, 3) := by decide +kernel
theorem dX12_letter_76 : decode cX12_letter 76 = .ok (.iload 4, 2) := by decide +kernel
theorem dX12_letter_78 : decode cX12_letter 78 = .ok (.iastore, 1) := by decide +kernel
theorem dX12_letter_79 : decode cX12_letter 79 = .ok (.aload_n 0, 1) := by decide +kernel
theorem dX12_letter_80 : decode cX12_letter 80 = .ok (.getfield 241, 3) := by decide +kernel
theorem dX12_letter_83 : decode cX12_letter 83 = .ok (.aload_n 0, 1) := by decide +kernel
theorem dX12_letter_84 : decode cX12_letter 84 = .ok (.getfield 337, 3) := by decide +kernel
theorem dX12_letter_87 : decode cX12_letter 87 = .ok (.iconst 0, 1) := by decide +kernel
theorem dX12_letter_88 : decode cX12_letter 88 = .ok (.iastore, 1) := by decide +kernel
theorem dX12_letter_89 : decode cX12_letter 89 = .ok (.aload_n 0, 1) := by decide +kernel
theorem dX12_letter_90 : decode cX12_letter 90 = .ok (.getfield 244, 3) := by decide +kernel
theorem dX12_letter_93 : decode cX12_letter 93 = .ok (.aload_n 0, 1) := by decide +kernel
theorem dX12_letter_94 : decode cX12_letter 94 = .ok (.getfield 337, 3) := by decide +kernel
theorem dX12_letter_97 : decode cX12_letter 97 = .ok (.iconst 0, 1) := by decide +kernel
theorem dX12_letter_98 : decode cX12_letter 98 = .ok (.iastore, 1) := by decide +kernel
theorem dX12_letter_99 : decode cX12_letter 99 = .ok (.aload_n 0, 1) := by decide +kernel
theorem dX12_letter_100 : decode cX12_letter 100 = .ok (.getfield 247, 3) := by decide +kernel
theorem dX12_letter_103 : decode cX12_letter 103 = .ok (.aload_n 0, 1) := by decide +kernel
theorem dX12_letter_104 : decode cX12_letter 104 = .ok (.getfield 337, 3) := by decide +kernel
theorem dX12_letter_107 : decode cX12_letter 107 = .ok (.iconst 0, 1) := by decide +kernel
theorem dX12_letter_108 : decode cX12_letter 108 = .ok (.iastore, 1) := by decide +kernel
theorem dX12_letter_109 : decode cX12_letter 109 = .ok (.aload_n 0, 1) := by decide +kernel
theorem dX12_letter_110 : decode cX12_letter 110 = .ok (.dup, 1) := by decide +kernel
theorem dX12_letter_111 : decode cX12_letter 111 = .ok (.getfield 337, 3) := by decide +kernel
theorem dX12_letter_114 : decode cX12_letter 114 = .ok (.iconst 1, 1) := by decide +kernel
theorem dX12_letter_115 : decode cX12_letter 115 = .ok (.iadd, 1) := by decide +kernel
theorem dX12_letter_116 : decode cX12_letter 116 = .ok (.putfield 337, 3) := by decide +kernel
theorem dX12_letter_119 : decode cX12_letter 119 = .ok (.aload_n 0, 1) := by decide +kernel
theorem dX12_letter_120 : decode cX12_letter 120 = .ok (.getfield 337, 3) := by decide +kernel
theorem dX12_letter_123 : decode cX12_letter 123 = .ok (.iconst 1, 1) := by decide +kernel
theorem dX12_letter_124 : decode cX12_letter 124 = .ok (.isub, 1) := by decide +kernel
theorem dX12_letter_125 : decode cX12_letter 125 = .ok (.ireturn, 1) := by decide +kernel
theorem dX12_isLetterOf_0 : decode cX12_isLetterOf 0 = .ok (.iload_n 1, 1) := by decide +kernel
theorem dX12_isLetterOf_1 : decode cX12_isLetterOf 1 = .ok (.i2l, 1) := by decide +kernel
theorem dX12_isLetterOf_2 : decode cX12_isLetterOf 2 = .ok (.lconst 0, 1) := by decide +kernel
theorem dX12_isLetterOf_3 : decode cX12_isLetterOf 3 = .ok (.aload_n 0, 1) := by decide +kernel
theorem dX12_isLetterOf_4 : decode cX12_isLetterOf 4 = .ok (.getfield 337, 3) := by decide +kernel
theorem dX12_isLetterOf_7 : decode cX12_isLetterOf 7 = .ok (.i2l, 1) := by decide +kernel
theorem dX12_isLetterOf_8 : decode cX12_isLetterOf 8 = .ok (.lconst 1, 1) := by decide +kernel
theorem dX12_isLetterOf_9 : decode cX12_isLetterOf 9 = .ok (.lsub, 1) := by decide +kernel
theorem dX12_isLetterOf_10 : decode cX12_isLetterOf 10 = .ok (.invokestatic 5, 3) := by decide +kernel
theorem dX12_isLetterOf_13 : decode cX12_isLetterOf 13 = .ok (.ireturn, 1) := by decide +kernel
theorem dX12_partOn_0 : decode cX12_partOn 0 = .ok (.iconst 0, 1) := by decide +kernel
theorem dX12_partOn_1 : decode cX12_partOn 1 = .ok (.istore_n 2, 1) := by decide +kernel
theorem dX12_partOn_2 : decode cX12_partOn 2 = .ok (.iconst 0, 1) := by decide +kernel
theorem dX12_partOn_3 : decode cX12_partOn 3 = .ok (.istore_n 3, 1) := by decide +kernel
theorem dX12_partOn_4 : decode cX12_partOn 4 = .ok (.iload_n 3, 1) := by decide +kernel
theorem dX12_partOn_5 : decode cX12_partOn 5 = .ok (.aload_n 0, 1) := by decide +kernel
theorem dX12_partOn_6 : decode cX12_partOn 6 = .ok (.getfield 118, 3) := by decide +kernel
theorem dX12_partOn_9 : decode cX12_partOn 9 = .ok (.if_icmp .ge 35, 3) := by decide +kernel
theorem dX12_partOn_12 : decode cX12_partOn 12 = .ok (.aload_n 0, 1) := by decide +kernel
theorem dX12_partOn_13 : decode cX12_partOn 13 = .ok (.getfield 95, 3) := by decide +kernel
theorem dX12_partOn_16 : decode cX12_partOn 16 = .ok (.iload_n 3, 1) := by decide +kernel
theorem dX12_partOn_17 : decode cX12_partOn 17 = .ok (.iaload, 1) := by decide +kernel
theorem dX12_partOn_18 : decode cX12_partOn 18 = .ok (.iconst (-1), 1) := by decide +kernel
theorem dX12_partOn_19 : decode cX12_partOn 19 = .ok (.if_icmp .eq 19, 3) := by decide +kernel
theorem dX12_partOn_22 : decode cX12_partOn 22 = .ok (.aload_n 0, 1) := by decide +kernel
theorem dX12_partOn_23 : decode cX12_partOn 23 = .ok (.iload_n 3, 1) := by decide +kernel
theorem dX12_partOn_24 : decode cX12_partOn 24 = .ok (.iload_n 1, 1) := by decide +kernel
theorem dX12_partOn_25 : decode cX12_partOn 25 = .ok (.invokevirtual 268, 3) := by decide +kernel
theorem dX12_partOn_28 : decode cX12_partOn 28 = .ok (.ifCond .eq 10, 3) := by decide +kernel
theorem dX12_partOn_31 : decode cX12_partOn 31 = .ok (.aload_n 0, 1) := by decide +kernel
theorem dX12_partOn_32 : decode cX12_partOn 32 = .ok (.getfield 95, 3) := by decide +kernel
theorem dX12_partOn_35 : decode cX12_partOn 35 = .ok (.iload_n 3, 1) := by decide +kernel
theorem dX12_partOn_36 : decode cX12_partOn 36 = .ok (.iaload, 1) := by decide +kernel
theorem dX12_partOn_37 : decode cX12_partOn 37 = .ok (.istore_n 2, 1) := by decide +kernel
theorem dX12_partOn_38 : decode cX12_partOn 38 = .ok (.iinc 3 1, 3) := by decide +kernel
theorem dX12_partOn_41 : decode cX12_partOn 41 = .ok (.goto (-37), 3) := by decide +kernel
theorem dX12_partOn_44 : decode cX12_partOn 44 = .ok (.iload_n 2, 1) := by decide +kernel
theorem dX12_partOn_45 : decode cX12_partOn 45 = .ok (.ireturn, 1) := by decide +kernel
theorem dX12_judge_0 : decode cX12_judge 0 = .ok (.aload_n 0, 1) := by decide +kernel
theorem dX12_judge_1 : decode cX12_judge 1 = .ok (.iload_n 1, 1) := by decide +kernel
theorem dX12_judge_2 : decode cX12_judge 2 = .ok (.invokevirtual 340, 3) := by decide +kernel
theorem dX12_judge_5 : decode cX12_judge 5 = .ok (.ifCond .ne 6, 3) := by decide +kernel
theorem dX12_judge_8 : decode cX12_judge 8 = .ok (.bipush (-2), 2) := by decide +kernel
theorem dX12_judge_10 : decode cX12_judge 10 = .ok (.ireturn, 1) := by decide +kernel
theorem dX12_judge_11 : decode cX12_judge 11 = .ok (.aload_n 0, 1) := by decide +kernel
theorem dX12_judge_12 : decode cX12_judge 12 = .ok (.getfield 241, 3) := by decide +kernel
theorem dX12_judge_15 : decode cX12_judge 15 = .ok (.iload_n 1, 1) := by decide +kernel
theorem dX12_judge_16 : decode cX12_judge 16 = .ok (.iaload, 1) := by decide +kernel
theorem dX12_judge_17 : decode cX12_judge 17 = .ok (.ifCond .eq 6, 3) := by decide +kernel
theorem dX12_judge_20 : decode cX12_judge 20 = .ok (.bipush (-4), 2) := by decide +kernel
theorem dX12_judge_22 : decode cX12_judge 22 = .ok (.ireturn, 1) := by decide +kernel
theorem dX12_judge_23 : decode cX12_judge 23 = .ok (.aload_n 0, 1) := by decide +kernel
theorem dX12_judge_24 : decode cX12_judge 24 = .ok (.getfield 232, 3) := by decide +kernel
theorem dX12_judge_27 : decode cX12_judge 27 = .ok (.iload_n 1, 1) := by decide +kernel
theorem dX12_judge_28 : decode cX12_judge 28 = .ok (.iaload, 1) := by decide +kernel
theorem dX12_judge_29 : decode cX12_judge 29 = .ok (.istore_n 2, 1) := by decide +kernel
theorem dX12_judge_30 : decode cX12_judge 30 = .ok (.iconst 0, 1) := by decide +kernel
theorem dX12_judge_31 : decode cX12_judge 31 = .ok (.istore_n 3, 1) := by decide +kernel
theorem dX12_judge_32 : decode cX12_judge 32 = .ok (.iload_n 3, 1) := by decide +kernel
theorem dX12_judge_33 : decode cX12_judge 33 = .ok (.aload_n 0, 1) := by decide +kernel
theorem dX12_judge_34 : decode cX12_judge 34 = .ok (.getfield 337, 3) := by decide +kernel
theorem dX12_judge_37 : decode cX12_judge 37 = .ok (.if_icmp .ge 66, 3) := by decide +kernel
theorem dX12_judge_40 : decode cX12_judge 40 = .ok (.aload_n 0, 1) := by decide +kernel
theorem dX12_judge_41 : decode cX12_judge 41 = .ok (.getfield 241, 3) := by decide +kernel
theorem dX12_judge_44 : decode cX12_judge 44 = .ok (.iload_n 3, 1) := by decide +kernel
theorem dX12_judge_45 : decode cX12_judge 45 = .ok (.iaload, 1) := by decide +kernel
theorem dX12_judge_46 : decode cX12_judge 46 = .ok (.iconst 1, 1) := by decide +kernel
theorem dX12_judge_47 : decode cX12_judge 47 = .ok (.if_icmp .ne 50, 3) := by decide +kernel
theorem dX12_judge_50 : decode cX12_judge 50 = .ok (.aload_n 0, 1) := by decide +kernel
theorem dX12_judge_51 : decode cX12_judge 51 = .ok (.getfield 232, 3) := by decide +kernel
theorem dX12_judge_54 : decode cX12_judge 54 = .ok (.iload_n 3, 1) := by decide +kernel
theorem dX12_judge_55 : decode cX12_judge 55 = .ok (.iaload, 1) := by decide +kernel
theorem dX12_judge_56 : decode cX12_judge 56 = .ok (.iload_n 2, 1) := by decide +kernel
theorem dX12_judge_57 : decode cX12_judge 57 = .ok (.if_icmp .ne 40, 3) := by decide +kernel
theorem dX12_judge_60 : decode cX12_judge 60 = .ok (.aload_n 0, 1) := by decide +kernel
theorem dX12_judge_61 : decode cX12_judge 61 = .ok (.getfield 235, 3) := by decide +kernel
theorem dX12_judge_64 : decode cX12_judge 64 = .ok (.iload_n 3, 1) := by decide +kernel
theorem dX12_judge_65 : decode cX12_judge 65 = .ok (.iaload, 1) := by decide +kernel
theorem dX12_judge_66 : decode cX12_judge 66 = .ok (.aload_n 0, 1) := by decide +kernel
theorem dX12_judge_67 : decode cX12_judge 67 = .ok (.getfield 235, 3) := by decide +kernel
theorem dX12_judge_70 : decode cX12_judge 70 = .ok (.iload_n 1, 1) := by decide +kernel
theorem dX12_judge_71 : decode cX12_judge 71 = .ok (.iaload, 1) := by decide +kernel
theorem dX12_judge_72 : decode cX12_judge 72 = .ok (.if_icmp .ne 25, 3) := by decide +kernel
theorem dX12_judge_75 : decode cX12_judge 75 = .ok (.aload_n 0, 1) := by decide +kernel
theorem dX12_judge_76 : decode cX12_judge 76 = .ok (.getfield 238, 3) := by decide +kernel
theorem dX12_judge_79 : decode cX12_judge 79 = .ok (.iload_n 3, 1) := by decide +kernel
theorem dX12_judge_80 : decode cX12_judge 80 = .ok (.iaload, 1) := by decide +kernel
theorem dX12_judge_81 : decode cX12_judge 81 = .ok (.aload_n 0, 1) := by decide +kernel
theorem dX12_judge_82 : decode cX12_judge 82 = .ok (.getfield 238, 3) := by decide +kernel
theorem dX12_judge_85 : decode cX12_judge 85 = .ok (.iload_n 1, 1) := by decide +kernel
theorem dX12_judge_86 : decode cX12_judge 86 = .ok (.iaload, 1) := by decide +kernel
theorem dX12_judge_87 : decode cX12_judge 87 = .ok (.if_icmp .ne 10, 3) := by decide +kernel
theorem dX12_judge_90 : decode cX12_judge 90 = .ok (.aload_n 0, 1) := by decide +kernel
theorem dX12_judge_91 : decode cX12_judge 91 = .ok (.getfield 241, 3) := by decide +kernel
theorem dX12_judge_94 : decode cX12_judge 94 = .ok (.iload_n 1, 1) := by decide +kernel
theorem dX12_judge_95 : decode cX12_judge 95 = .ok (.iconst 3, 1) := by decide +kernel
theorem dX12_judge_96 : decode cX12_judge 96 = .ok (.iastore, 1) := by decide +kernel
theorem dX12_judge_97 : decode cX12_judge 97 = .ok (.iinc 3 1, 3) := by decide +kernel
theorem dX12_judge_100 : decode cX12_judge 100 = .ok (.goto (-68), 3) := by decide +kernel
theorem dX12_judge_103 : decode cX12_judge 103 = .ok (.aload_n 0, 1) := by decide +kernel
theorem dX12_judge_104 : decode cX12_judge 104 = .ok (.getfield 241, 3) := by decide +kernel
theorem dX12_judge_107 : decode cX12_judge 107 = .ok (.iload_n 1, 1) := by decide +kernel
theorem dX12_judge_108 : decode cX12_judge 108 = .ok (.iaload, 1) := by decide +kernel
theorem dX12_judge_109 : decode cX12_judge 109 = .ok (.iconst 3, 1) := by decide +kernel
theorem dX12_judge_110 : decode cX12_judge 110 = .ok (.if_icmp .ne 5, 3) := by decide +kernel
theorem dX12_judge_113 : decode cX12_judge 113 = .ok (.iconst 3, 1) := by decide +kernel
theorem dX12_judge_114 : decode cX12_judge 114 = .ok (.ireturn, 1) := by decide +kernel
theorem dX12_judge_115 : decode cX12_judge 115 = .ok (.aload_n 0, 1) := by decide +kernel
theorem dX12_judge_116 : decode cX12_judge 116 = .ok (.iload_n 2, 1) := by decide +kernel
theorem dX12_judge_117 : decode cX12_judge 117 = .ok (.aload_n 0, 1) := by decide +kernel
theorem dX12_judge_118 : decode cX12_judge 118 = .ok (.getfield 235, 3) := by decide +kernel
theorem dX12_judge_121 : decode cX12_judge 121 = .ok (.iload_n 1, 1) := by decide +kernel
theorem dX12_judge_122 : decode cX12_judge 122 = .ok (.iaload, 1) := by decide +kernel
theorem dX12_judge_123 : decode cX12_judge 123 = .ok (.aload_n 0, 1) := by decide +kernel
theorem dX12_judge_124 : decode cX12_judge 124 = .ok (.getfield 238, 3) := by decide +kernel
theorem dX12_judge_127 : decode cX12_judge 127 = .ok (.iload_n 1, 1) := by decide +kernel
theorem dX12_judge_128 : decode cX12_judge 128 = .ok (.iaload, 1) := by decide +kernel
theorem dX12_judge_129 : decode cX12_judge 129 = .ok (.invokevirtual 333, 3) := by decide +kernel
theorem dX12_judge_132 : decode cX12_judge 132 = .ok (.istore_n 3, 1) := by decide +kernel
theorem dX12_judge_133 : decode cX12_judge 133 = .ok (.iload_n 3, 1) := by decide +kernel
theorem dX12_judge_134 : decode cX12_judge 134 = .ok (.ifCond .ne 39, 3) := by decide +kernel
theorem dX12_judge_137 : decode cX12_judge 137 = .ok (.aload_n 0, 1) := by decide +kernel
theorem dX12_judge_138 : decode cX12_judge 138 = .ok (.getfield 220, 3) := by decide +kernel
theorem dX12_judge_141 : decode cX12_judge 141 = .ok (.aload_n 0, 1) := by decide +kernel
theorem dX12_judge_142 : decode cX12_judge 142 = .ok (.getfield 229, 3) := by decide +kernel
theorem dX12_judge_145 : decode cX12_judge 145 = .ok (.iload_n 1, 1) := by decide +kernel
theorem dX12_judge_146 : decode cX12_judge 146 = .ok (.iaload, 1) := by decide +kernel
theorem dX12_judge_147 : decode cX12_judge 147 = .ok (.dup2, 1) := by decide +kernel
theorem dX12_judge_148 : decode cX12_judge 148 = .ok (.iaload, 1) := by decide +kernel
theorem dX12_judge_149 : decode cX12_judge 149 = .ok (.bipush 50, 2) := by decide +kernel
theorem dX12_judge_151 : decode cX12_judge 151 = .ok (.iadd, 1) := by decide +kernel
theorem dX12_judge_152 : decode cX12_judge 152 = .ok (.iastore, 1) := by decide +kernel
theorem dX12_judge_153 : decode cX12_judge 153 = .ok (.aload_n 0, 1) := by decide +kernel
theorem dX12_judge_154 : decode cX12_judge 154 = .ok (.dup, 1) := by decide +kernel
theorem dX12_judge_155 : decode cX12_judge 155 = .ok (.getfield 343, 3) := by decide +kernel
theorem dX12_judge_158 : decode cX12_judge 158 = .ok (.bipush 50, 2) := by decide +kernel
theorem dX12_judge_160 : decode cX12_judge 160 = .ok (.iadd, 1) := by decide +kernel
theorem dX12_judge_161 : decode cX12_judge 161 = .ok (.putfield 343, 3) := by decide +kernel
theorem dX12_judge_164 : decode cX12_judge 164 = .ok (.aload_n 0, 1) := by decide +kernel
theorem dX12_judge_165 : decode cX12_judge 165 = .ok (.getfield 241, 3) := by decide +kernel
theorem dX12_judge_168 : decode cX12_judge 168 = .ok (.iload_n 1, 1) := by decide +kernel
theorem dX12_judge_169 : decode cX12_judge 169 = .ok (.iconst 2, 1) := by decide +kernel
theorem dX12_judge_170 : decode cX12_judge 170 = .ok (.iastore, 1) := by decide +kernel
theorem dX12_judge_171 : decode cX12_judge 171 = .ok (.iconst 2, 1) := by decide +kernel
theorem dX12_judge_172 : decode cX12_judge 172 = .ok (.ireturn, 1) := by decide +kernel
theorem dX12_judge_173 : decode cX12_judge 173 = .ok (.iload_n 3, 1) := by decide +kernel
theorem dX12_judge_174 : decode cX12_judge 174 = .ok (.i2l, 1) := by decide +kernel
theorem dX12_judge_175 : decode cX12_judge 175 = .ok (.aload_n 0, 1) := by decide +kernel
theorem dX12_judge_176 : decode cX12_judge 176 = .ok (.aload_n 0, 1) := by decide +kernel
theorem dX12_judge_177 : decode cX12_judge 177 = .ok (.getfield 238, 3) := by decide +kernel
theorem dX12_judge_180 : decode cX12_judge 180 = .ok (.iload_n 1, 1) := by decide +kernel
theorem dX12_judge_181 : decode cX12_judge 181 = .ok (.iaload, 1) := by decide +kernel
theorem dX12_judge_182 : decode cX12_judge 182 = .ok (.invokevirtual 346, 3) := by decide +kernel
theorem dX12_judge_185 : decode cX12_judge 185 = .ok (.i2l, 1) := by decide +kernel
theorem dX12_judge_186 : decode cX12_judge 186 = .ok (.lmul, 1) := by decide +kernel
theorem dX12_judge_187 : decode cX12_judge 187 = .ok (.ldc2_w 349, 3) := by decide +kernel
theorem dX12_judge_190 : decode cX12_judge 190 = .ok (.ldiv, 1) := by decide +kernel
theorem dX12_judge_191 : decode cX12_judge 191 = .ok (.l2i, 1) := by decide +kernel
theorem dX12_judge_192 : decode cX12_judge 192 = .ok (.istore 4, 2) := by decide +kernel
theorem dX12_judge_194 : decode cX12_judge 194 = .ok (.aload_n 0, 1) := by decide +kernel
theorem dX12_judge_195 : decode cX12_judge 195 = .ok (.getfield 244, 3) := by decide +kernel
theorem dX12_judge_198 : decode cX12_judge 198 = .ok (.iload_n 1, 1) := by decide +kernel
theorem dX12_judge_199 : decode cX12_judge 199 = .ok (.iload_n 3, 1) := by decide +kernel
theorem dX12_judge_200 : decode cX12_judge 200 = .ok (.iastore, 1) := by decide +kernel
theorem dX12_judge_201 : decode cX12_judge 201 = .ok (.aload_n 0, 1) := by decide +kernel
theorem dX12_judge_202 : decode cX12_judge 202 = .ok (.getfield 247, 3) := by decide +kernel
theorem dX12_judge_205 : decode cX12_judge 205 = .ok (.iload_n 1, 1) := by decide +kernel
theorem dX12_judge_206 : decode cX12_judge 206 = .ok (.iload 4, 2) := by decide +kernel
theorem dX12_judge_208 : decode cX12_judge 208 = .ok (.iastore, 1) := by decide +kernel
theorem dX12_judge_209 : decode cX12_judge 209 = .ok (.aload_n 0, 1) := by decide +kernel
theorem dX12_judge_210 : decode cX12_judge 210 = .ok (.getfield 220, 3) := by decide +kernel
theorem dX12_judge_213 : decode cX12_judge 213 = .ok (.iload_n 2, 1) := by decide +kernel
theorem dX12_judge_214 : decode cX12_judge 214 = .ok (.dup2, 1) := by decide +kernel
theorem dX12_judge_215 : decode cX12_judge 215 = .ok (.iaload, 1) := by decide +kernel
theorem dX12_judge_216 : decode cX12_judge 216 = .ok (.iload_n 3, 1) := by decide +kernel
theorem dX12_judge_217 : decode cX12_judge 217 = .ok (.iadd, 1) := by decide +kernel
theorem dX12_judge_218 : decode cX12_judge 218 = .ok (.iastore, 1) := by decide +kernel
theorem dX12_judge_219 : decode cX12_judge 219 = .ok (.aload_n 0, 1) := by decide +kernel
theorem dX12_judge_220 : decode cX12_judge 220 = .ok (.getfield 223, 3) := by decide +kernel
theorem dX12_judge_223 : decode cX12_judge 223 = .ok (.aload_n 0, 1) := by decide +kernel
theorem dX12_judge_224 : decode cX12_judge 224 = .ok (.getfield 229, 3) := by decide +kernel
theorem dX12_judge_227 : decode cX12_judge 227 = .ok (.iload_n 1, 1) := by decide +kernel
theorem dX12_judge_228 : decode cX12_judge 228 = .ok (.iaload, 1) := by decide +kernel
theorem dX12_judge_229 : decode cX12_judge 229 = .ok (.dup2, 1) := by decide +kernel
theorem dX12_judge_230 : decode cX12_judge 230 = .ok (.iaload, 1) := by decide +kernel
theorem dX12_judge_231 : decode cX12_judge 231 = .ok (.iload 4, 2) := by decide +kernel
theorem dX12_judge_233 : decode cX12_judge 233 = .ok (.iadd, 1) := by decide +kernel
theorem dX12_judge_234 : decode cX12_judge 234 = .ok (.iastore, 1) := by decide +kernel
theorem dX12_judge_235 : decode cX12_judge 235 = .ok (.aload_n 0, 1) := by decide +kernel
theorem dX12_judge_236 : decode cX12_judge 236 = .ok (.dup, 1) := by decide +kernel
theorem dX12_judge_237 : decode cX12_judge 237 = .ok (.getfield 343, 3) := by decide +kernel
theorem dX12_judge_240 : decode cX12_judge 240 = .ok (.iload_n 3, 1) := by decide +kernel
theorem dX12_judge_241 : decode cX12_judge 241 = .ok (.iload 4, 2) := by decide +kernel
theorem dX12_judge_243 : decode cX12_judge 243 = .ok (.isub, 1) := by decide +kernel
theorem dX12_judge_244 : decode cX12_judge 244 = .ok (.iadd, 1) := by decide +kernel
theorem dX12_judge_245 : decode cX12_judge 245 = .ok (.putfield 343, 3) := by decide +kernel
theorem dX12_judge_248 : decode cX12_judge 248 = .ok (.aload_n 0, 1) := by decide +kernel
theorem dX12_judge_249 : decode cX12_judge 249 = .ok (.getfield 217, 3) := by decide +kernel
theorem dX12_judge_252 : decode cX12_judge 252 = .ok (.iload_n 2, 1) := by decide +kernel
theorem dX12_judge_253 : decode cX12_judge 253 = .ok (.dup2, 1) := by decide +kernel
theorem dX12_judge_254 : decode cX12_judge 254 = .ok (.iaload, 1) := by decide +kernel
theorem dX12_judge_255 : decode cX12_judge 255 = .ok (.iconst 1, 1) := by decide +kernel
theorem dX12_judge_256 : decode cX12_judge 256 = .ok (.iadd, 1) := by decide +kernel
theorem dX12_judge_257 : decode cX12_judge 257 = .ok (.iastore, 1) := by decide +kernel
theorem dX12_judge_258 : decode cX12_judge 258 = .ok (.aload_n 0, 1) := by decide +kernel
theorem dX12_judge_259 : decode cX12_judge 259 = .ok (.getfield 241, 3) := by decide +kernel
theorem dX12_judge_262 : decode cX12_judge 262 = .ok (.iload_n 1, 1) := by decide +kernel
theorem dX12_judge_263 : decode cX12_judge 263 = .ok (.iconst 1, 1) := by decide +kernel
theorem dX12_judge_264 : decode cX12_judge 264 = .ok (.iastore, 1) := by decide +kernel
theorem dX12_judge_265 : decode cX12_judge 265 = .ok (.iconst 1, 1) := by decide +kernel
theorem dX12_judge_266 : decode cX12_judge 266 = .ok (.ireturn, 1) := by decide +kernel
theorem dX12_lettered_0 : decode cX12_lettered 0 = .ok (.aload_n 0, 1) := by decide +kernel
theorem dX12_lettered_1 : decode cX12_lettered 1 = .ok (.iload_n 1, 1) := by decide +kernel
theorem dX12_lettered_2 : decode cX12_lettered 2 = .ok (.invokevirtual 340, 3) := by decide +kernel
theorem dX12_lettered_5 : decode cX12_lettered 5 = .ok (.ifCond .ne 6, 3) := by decide +kernel
theorem dX12_lettered_8 : decode cX12_lettered 8 = .ok (.bipush (-9), 2) := by decide +kernel
theorem dX12_lettered_10 : decode cX12_lettered 10 = .ok (.ireturn, 1) := by decide +kernel
theorem dX12_lettered_11 : decode cX12_lettered 11 = .ok (.iload_n 2, 1) := by decide +kernel
theorem dX12_lettered_12 : decode cX12_lettered 12 = .ok (.tableswitch 93 0 6 #[44, 51, 58, 65, 72, 79, 86], 44) := by decide +kernel
theorem dX12_lettered_56 : decode cX12_lettered 56 = .ok (.aload_n 0, 1) := by decide +kernel
theorem dX12_lettered_57 : decode cX12_lettered 57 = .ok (.getfield 229, 3) := by decide +kernel
theorem dX12_lettered_60 : decode cX12_lettered 60 = .ok (.iload_n 1, 1) := by decide +kernel
theorem dX12_lettered_61 : decode cX12_lettered 61 = .ok (.iaload, 1) := by decide +kernel
theorem dX12_lettered_62 : decode cX12_lettered 62 = .ok (.ireturn, 1) := by decide +kernel
theorem dX12_lettered_63 : decode cX12_lettered 63 = .ok (.aload_n 0, 1) := by decide +kernel
theorem dX12_lettered_64 : decode cX12_lettered 64 = .ok (.getfield 232, 3) := by decide +kernel
theorem dX12_lettered_67 : decode cX12_lettered 67 = .ok (.iload_n 1, 1) := by decide +kernel
theorem dX12_lettered_68 : decode cX12_lettered 68 = .ok (.iaload, 1) := by decide +kernel
theorem dX12_lettered_69 : decode cX12_lettered 69 = .ok (.ireturn, 1) := by decide +kernel
theorem dX12_lettered_70 : decode cX12_lettered 70 = .ok (.aload_n 0, 1) := by decide +kernel
theorem dX12_lettered_71 : decode cX12_lettered 71 = .ok (.getfield 235, 3) := by decide +kernel
theorem dX12_lettered_74 : decode cX12_lettered 74 = .ok (.iload_n 1, 1) := by decide +kernel
theorem dX12_lettered_75 : decode cX12_lettered 75 = .ok (.iaload, 1) := by decide +kernel
theorem dX12_lettered_76 : decode cX12_lettered 76 = .ok (.ireturn, 1) := by decide +kernel
theorem dX12_lettered_77 : decode cX12_lettered 77 = .ok (.aload_n 0, 1) := by decide +kernel
theorem dX12_lettered_78 : decode cX12_lettered 78 = .ok (.getfield 238, 3) := by decide +kernel
theorem dX12_lettered_81 : decode cX12_lettered 81 = .ok (.iload_n 1, 1) := by decide +kernel
theorem dX12_lettered_82 : decode cX12_lettered 82 = .ok (.iaload, 1) := by decide +kernel
theorem dX12_lettered_83 : decode cX12_lettered 83 = .ok (.ireturn, 1) := by decide +kernel
theorem dX12_lettered_84 : decode cX12_lettered 84 = .ok (.aload_n 0, 1) := by decide +kernel
theorem dX12_lettered_85 : decode cX12_lettered 85 = .ok (.getfield 241, 3) := by decide +kernel
theorem dX12_lettered_88 : decode cX12_lettered 88 = .ok (.iload_n 1, 1) := by decide +kernel
theorem dX12_lettered_89 : decode cX12_lettered 89 = .ok (.iaload, 1) := by decide +kernel
theorem dX12_lettered_90 : decode cX12_lettered 90 = .ok (.ireturn, 1) := by decide +kernel
theorem dX12_lettered_91 : decode cX12_lettered 91 = .ok (.aload_n 0, 1) := by decide +kernel
theorem dX12_lettered_92 : decode cX12_lettered 92 = .ok (.getfield 244, 3) := by decide +kernel
theorem dX12_lettered_95 : decode cX12_lettered 95 = .ok (.iload_n 1, 1) := by decide +kernel
theorem dX12_lettered_96 : decode cX12_lettered 96 = .ok (.iaload, 1) := by decide +kernel
theorem dX12_lettered_97 : decode cX12_lettered 97 = .ok (.ireturn, 1) := by decide +kernel
theorem dX12_lettered_98 : decode cX12_lettered 98 = .ok (.aload_n 0, 1) := by decide +kernel
theorem dX12_lettered_99 : decode cX12_lettered 99 = .ok (.getfield 247, 3) := by decide +kernel
theorem dX12_lettered_102 : decode cX12_lettered 102 = .ok (.iload_n 1, 1) := by decide +kernel
theorem dX12_lettered_103 : decode cX12_lettered 103 = .ok (.iaload, 1) := by decide +kernel
theorem dX12_lettered_104 : decode cX12_lettered 104 = .ok (.ireturn, 1) := by decide +kernel
theorem dX12_lettered_105 : decode cX12_lettered 105 = .ok (.bipush (-9), 2) := by decide +kernel
theorem dX12_lettered_107 : decode cX12_lettered 107 = .ok (.ireturn, 1) := by decide +kernel
theorem dX12_person_0 : decode cX12_person 0 = .ok (.iload_n 1, 1) := by decide +kernel
theorem dX12_person_1 : decode cX12_person 1 = .ok (.invokestatic 274, 3) := by decide +kernel
theorem dX12_person_4 : decode cX12_person 4 = .ok (.ifCond .eq 15, 3) := by decide +kernel
theorem dX12_person_7 : decode cX12_person 7 = .ok (.iload_n 2, 1) := by decide +kernel
theorem dX12_person_8 : decode cX12_person 8 = .ok (.i2l, 1) := by decide +kernel
theorem dX12_person_9 : decode cX12_person 9 = .ok (.lconst 0, 1) := by decide +kernel
theorem dX12_person_10 : decode cX12_person 10 = .ok (.ldc2_w 351, 3) := by decide +kernel
theorem dX12_person_13 : decode cX12_person 13 = .ok (.invokestatic 5, 3) := by decide +kernel
theorem dX12_person_16 : decode cX12_person 16 = .ok (.ifCond .ne 6, 3) := by decide +kernel
theorem dX12_person_19 : decode cX12_person 19 = .ok (.bipush (-2), 2) := by decide +kernel
theorem dX12_person_21 : decode cX12_person 21 = .ok (.ireturn, 1) := by decide +kernel
theorem dX12_person_22 : decode cX12_person 22 = .ok (.iload_n 2, 1) := by decide +kernel
theorem dX12_person_23 : decode cX12_person 23 = .ok (.ifCond .ne 12, 3) := by decide +kernel
theorem dX12_person_26 : decode cX12_person 26 = .ok (.aload_n 0, 1) := by decide +kernel
theorem dX12_person_27 : decode cX12_person 27 = .ok (.getfield 217, 3) := by decide +kernel
theorem dX12_person_30 : decode cX12_person 30 = .ok (.iload_n 1, 1) := by decide +kernel
theorem dX12_person_31 : decode cX12_person 31 = .ok (.iaload, 1) := by decide +kernel
theorem dX12_person_32 : decode cX12_person 32 = .ok (.goto 23, 3) := by decide +kernel
theorem dX12_person_35 : decode cX12_person 35 = .ok (.iload_n 2, 1) := by decide +kernel
theorem dX12_person_36 : decode cX12_person 36 = .ok (.iconst 1, 1) := by decide +kernel
theorem dX12_person_37 : decode cX12_person 37 = .ok (.if_icmp .ne 12, 3) := by decide +kernel
theorem dX12_person_40 : decode cX12_person 40 = .ok (.aload_n 0, 1) := by decide +kernel
theorem dX12_person_41 : decode cX12_person 41 = .ok (.getfield 220, 3) := by decide +kernel
theorem dX12_person_44 : decode cX12_person 44 = .ok (.iload_n 1, 1) := by decide +kernel
theorem dX12_person_45 : decode cX12_person 45 = .ok (.iaload, 1) := by decide +kernel
theorem dX12_person_46 : decode cX12_person 46 = .ok (.goto 9, 3) := by decide +kernel
theorem dX12_person_49 : decode cX12_person 49 = .ok (.aload_n 0, 1) := by decide +kernel
theorem dX12_person_50 : decode cX12_person 50 = .ok (.getfield 223, 3) := by decide +kernel
theorem dX12_person_53 : decode cX12_person 53 = .ok (.iload_n 1, 1) := by decide +kernel
theorem dX12_person_54 : decode cX12_person 54 = .ok (.iaload, 1) := by decide +kernel
theorem dX12_person_55 : decode cX12_person 55 = .ok (.ireturn, 1) := by decide +kernel
theorem dX12_price_0 : decode cX12_price 0 = .ok (.iload_n 1, 1) := by decide +kernel
theorem dX12_price_1 : decode cX12_price 1 = .ok (.i2l, 1) := by decide +kernel
theorem dX12_price_2 : decode cX12_price 2 = .ok (.lconst 0, 1) := by decide +kernel
theorem dX12_price_3 : decode cX12_price 3 = .ok (.ldc2_w 353, 3) := by decide +kernel
theorem dX12_price_6 : decode cX12_price 6 = .ok (.invokestatic 5, 3) := by decide +kernel
theorem dX12_price_9 : decode cX12_price 9 = .ok (.ifCond .eq 15, 3) := by decide +kernel
theorem dX12_price_12 : decode cX12_price 12 = .ok (.iload_n 2, 1) := by decide +kernel
theorem dX12_price_13 : decode cX12_price 13 = .ok (.i2l, 1) := by decide +kernel
theorem dX12_price_14 : decode cX12_price 14 = .ok (.lconst 0, 1) := by decide +kernel
theorem dX12_price_15 : decode cX12_price 15 = .ok (.ldc2_w 355, 3) := by decide +kernel
theorem dX12_price_18 : decode cX12_price 18 = .ok (.invokestatic 5, 3) := by decide +kernel
theorem dX12_price_21 : decode cX12_price 21 = .ok (.ifCond .ne 6, 3) := by decide +kernel
theorem dX12_price_24 : decode cX12_price 24 = .ok (.bipush (-2), 2) := by decide +kernel
theorem dX12_price_26 : decode cX12_price 26 = .ok (.ireturn, 1) := by decide +kernel
theorem dX12_price_27 : decode cX12_price 27 = .ok (.aload_n 0, 1) := by decide +kernel
theorem dX12_price_28 : decode cX12_price 28 = .ok (.getfield 226, 3) := by decide +kernel
theorem dX12_price_31 : decode cX12_price 31 = .ok (.iload_n 1, 1) := by decide +kernel
theorem dX12_price_32 : decode cX12_price 32 = .ok (.iaload, 1) := by decide +kernel
theorem dX12_price_33 : decode cX12_price 33 = .ok (.istore_n 3, 1) := by decide +kernel
theorem dX12_price_34 : decode cX12_price 34 = .ok (.aload_n 0, 1) := by decide +kernel
theorem dX12_price_35 : decode cX12_price 35 = .ok (.getfield 226, 3) := by decide +kernel
theorem dX12_price_38 : decode cX12_price 38 = .ok (.iload_n 1, 1) := by decide +kernel
theorem dX12_price_39 : decode cX12_price 39 = .ok (.iload_n 2, 1) := by decide +kernel
theorem dX12_price_40 : decode cX12_price 40 = .ok (.iastore, 1) := by decide +kernel
theorem dX12_price_41 : decode cX12_price 41 = .ok (.iload_n 3, 1) := by decide +kernel
theorem dX12_price_42 : decode cX12_price 42 = .ok (.ireturn, 1) := by decide +kernel
theorem dX12_gather_0 : decode cX12_gather 0 = .ok (.iconst 0, 1) := by decide +kernel
theorem dX12_gather_1 : decode cX12_gather 1 = .ok (.istore 4, 2) := by decide +kernel
theorem dX12_gather_3 : decode cX12_gather 3 = .ok (.iload 4, 2) := by decide +kernel
theorem dX12_gather_5 : decode cX12_gather 5 = .ok (.iconst 5, 1) := by decide +kernel
theorem dX12_gather_6 : decode cX12_gather 6 = .ok (.if_icmp .ge 19, 3) := by decide +kernel
theorem dX12_gather_9 : decode cX12_gather 9 = .ok (.aload_n 0, 1) := by decide +kernel
theorem dX12_gather_10 : decode cX12_gather 10 = .ok (.getfield 250, 3) := by decide +kernel
theorem dX12_gather_13 : decode cX12_gather 13 = .ok (.iload 4, 2) := by decide +kernel
theorem dX12_gather_15 : decode cX12_gather 15 = .ok (.sipush 9999, 3) := by decide +kernel
theorem dX12_gather_18 : decode cX12_gather 18 = .ok (.iastore, 1) := by decide +kernel
theorem dX12_gather_19 : decode cX12_gather 19 = .ok (.iinc 4 1, 3) := by decide +kernel
theorem dX12_gather_22 : decode cX12_gather 22 = .ok (.goto (-19), 3) := by decide +kernel
theorem dX12_gather_25 : decode cX12_gather 25 = .ok (.aload_n 0, 1) := by decide +kernel
theorem dX12_gather_26 : decode cX12_gather 26 = .ok (.iconst 0, 1) := by decide +kernel
theorem dX12_gather_27 : decode cX12_gather 27 = .ok (.putfield 357, 3) := by decide +kernel
theorem dX12_gather_30 : decode cX12_gather 30 = .ok (.aload_n 0, 1) := by decide +kernel
theorem dX12_gather_31 : decode cX12_gather 31 = .ok (.iconst 0, 1) := by decide +kernel
theorem dX12_gather_32 : decode cX12_gather 32 = .ok (.putfield 360, 3) := by decide +kernel
theorem dX12_gather_35 : decode cX12_gather 35 = .ok (.iconst 0, 1) := by decide +kernel
theorem dX12_gather_36 : decode cX12_gather 36 = .ok (.istore 4, 2) := by decide +kernel
theorem dX12_gather_38 : decode cX12_gather 38 = .ok (.iload 4, 2) := by decide +kernel
theorem dX12_gather_40 : decode cX12_gather 40 = .ok (.aload_n 0, 1) := by decide +kernel
theorem dX12_gather_41 : decode cX12_gather 41 = .ok (.getfield 118, 3) := by decide +kernel
theorem dX12_gather_44 : decode cX12_gather 44 = .ok (.if_icmp .ge 205, 3) := by decide +kernel
theorem dX12_gather_47 : decode cX12_gather 47 = .ok (.iconst 0, 1) := by decide +kernel
theorem dX12_gather_48 : decode cX12_gather 48 = .ok (.istore 5, 2) := by decide +kernel
theorem dX12_gather_50 : decode cX12_gather 50 = .ok (.iload 5, 2) := by decide +kernel
theorem dX12_gather_52 : decode cX12_gather 52 = .ok (.aload_n 0, 1) := by decide +kernel
theorem dX12_gather_53 : decode cX12_gather 53 = .ok (.getfield 88, 3) := by decide +kernel
theorem dX12_gather_56 : decode cX12_gather 56 = .ok (.iload 4, 2) := by decide +kernel
theorem dX12_gather_58 : decode cX12_gather 58 = .ok (.iaload, 1) := by decide +kernel
theorem dX12_gather_59 : decode cX12_gather 59 = .ok (.if_icmp .ge 184, 3) := by decide +kernel
theorem dX12_gather_62 : decode cX12_gather 62 = .ok (.aload_n 0, 1) := by decide +kernel
theorem dX12_gather_63 : decode cX12_gather 63 = .ok (.iload 4, 2) := by decide +kernel
theorem dX12_gather_65 : decode cX12_gather 65 = .ok (.iload 5, 2) := by decide +kernel
theorem dX12_gather_67 : decode cX12_gather 67 = .ok (.aload_n 0, 1) := by decide +kernel
theorem dX12_gather_68 : decode cX12_gather 68 = .ok (.iload_n 1, 1) := by decide +kernel
theorem dX12_gather_69 : decode cX12_gather 69 = .ok (.iload_n 3, 1) := by decide +kernel
theorem dX12_gather_70 : decode cX12_gather 70 = .ok (.invokevirtual 285, 3) := by decide +kernel
theorem dX12_gather_73 : decode cX12_gather 73 = .ok (.aload_n 0, 1) := by decide +kernel
theorem dX12_gather_74 : decode cX12_gather 74 = .ok (.iload_n 1, 1) := by decide +kernel
theorem dX12_gather_75 : decode cX12_gather 75 = .ok (.iload_n 3, 1) := by decide +kernel
theorem dX12_gather_76 : decode cX12_gather 76 = .ok (.invokevirtual 288, 3) := by decide +kernel
theorem dX12_gather_79 : decode cX12_gather 79 = .ok (.iload_n 2, 1) := by decide +kernel
theorem dX12_gather_80 : decode cX12_gather 80 = .ok (.iload_n 3, 1) := by decide +kernel
theorem dX12_gather_81 : decode cX12_gather 81 = .ok (.invokevirtual 312, 3) := by decide +kernel
theorem dX12_gather_84 : decode cX12_gather 84 = .ok (.ifCond .ne 6, 3) := by decide +kernel
theorem dX12_gather_87 : decode cX12_gather 87 = .ok (.goto 150, 3) := by decide +kernel
theorem dX12_gather_90 : decode cX12_gather 90 = .ok (.bipush 12, 2) := by decide +kernel
theorem dX12_gather_92 : decode cX12_gather 92 = .ok (.iload 4, 2) := by decide +kernel
theorem dX12_gather_94 : decode cX12_gather 94 = .ok (.imul, 1) := by decide +kernel
theorem dX12_gather_95 : decode cX12_gather 95 = .ok (.iload 5, 2) := by decide +kernel
theorem dX12_gather_97 : decode cX12_gather 97 = .ok (.iadd, 1) := by decide +kernel
theorem dX12_gather_98 : decode cX12_gather 98 = .ok (.istore 6, 2) := by decide +kernel
theorem dX12_gather_100 : decode cX12_gather 100 = .ok (.aload_n 0, 1) := by decide +kernel
theorem dX12_gather_101 : decode cX12_gather 101 = .ok (.getfield 127, 3) := by decide +kernel
theorem dX12_gather_104 : decode cX12_gather 104 = .ok (.iload 6, 2) := by decide +kernel
theorem dX12_gather_106 : decode cX12_gather 106 = .ok (.iaload, 1) := by decide +kernel
theorem dX12_gather_107 : decode cX12_gather 107 = .ok (.iconst 5, 1) := by decide +kernel
theorem dX12_gather_108 : decode cX12_gather 108 = .ok (.if_icmp .ge 40, 3) := by decide +kernel
theorem dX12_gather_111 : decode cX12_gather 111 = .ok (.aload_n 0, 1) := by decide +kernel
theorem dX12_gather_112 : decode cX12_gather 112 = .ok (.getfield 250, 3) := by decide +kernel
theorem dX12_gather_115 : decode cX12_gather 115 = .ok (.aload_n 0, 1) := by decide +kernel
theorem dX12_gather_116 : decode cX12_gather 116 = .ok (.getfield 127, 3) := by decide +kernel
theorem dX12_gather_119 : decode cX12_gather 119 = .ok (.iload 6, 2) := by decide +kernel
theorem dX12_gather_121 : decode cX12_gather 121 = .ok (.iaload, 1) := by decide +kernel
theorem dX12_gather_122 : decode cX12_gather 122 = .ok (.aload_n 0, 1) := by decide +kernel
theorem dX12_gather_123 : decode cX12_gather 123 = .ok (.getfield 250, 3) := by decide +kernel
theorem dX12_gather_126 : decode cX12_gather 126 = .ok (.aload_n 0, 1) := by decide +kernel
theorem dX12_gather_127 : decode cX12_gather 127 = .ok (.getfield 127, 3) := by decide +kernel
theorem dX12_gather_130 : decode cX12_gather 130 = .ok (.iload 6, 2) := by decide +kernel
theorem dX12_gather_132 : decode cX12_gather 132 = .ok (.iaload, 1) := by decide +kernel
theorem dX12_gather_133 : decode cX12_gather 133 = .ok (.iaload, 1) := by decide +kernel
theorem dX12_gather_134 : decode cX12_gather 134 = .ok (.aload_n 0, 1) := by decide +kernel
theorem dX12_gather_135 : decode cX12_gather 135 = .ok (.getfield 130, 3) := by decide +kernel
theorem dX12_gather_138 : decode cX12_gather 138 = .ok (.iload 6, 2) := by decide +kernel
theorem dX12_gather_140 : decode cX12_gather 140 = .ok (.iaload, 1) := by decide +kernel
theorem dX12_gather_141 : decode cX12_gather 141 = .ok (.invokestatic 324, 3) := by decide +kernel
theorem dX12_gather_144 : decode cX12_gather 144 = .ok (.iastore, 1) := by decide +kernel
theorem dX12_gather_145 : decode cX12_gather 145 = .ok (.goto 92, 3) := by decide +kernel
theorem dX12_gather_148 : decode cX12_gather 148 = .ok (.aload_n 0, 1) := by decide +kernel
theorem dX12_gather_149 : decode cX12_gather 149 = .ok (.getfield 127, 3) := by decide +kernel
theorem dX12_gather_152 : decode cX12_gather 152 = .ok (.iload 6, 2) := by decide +kernel
theorem dX12_gather_154 : decode cX12_gather 154 = .ok (.iaload, 1) := by decide +kernel
theorem dX12_gather_155 : decode cX12_gather 155 = .ok (.iconst 5, 1) := by decide +kernel
theorem dX12_gather_156 : decode cX12_gather 156 = .ok (.if_icmp .ne 24, 3) := by decide +kernel
theorem dX12_gather_159 : decode cX12_gather 159 = .ok (.aload_n 0, 1) := by decide +kernel
theorem dX12_gather_160 : decode cX12_gather 160 = .ok (.dup, 1) := by decide +kernel
theorem dX12_gather_161 : decode cX12_gather 161 = .ok (.getfield 357, 3) := by decide +kernel
theorem dX12_gather_164 : decode cX12_gather 164 = .ok (.iconst 1, 1) := by decide +kernel
theorem dX12_gather_165 : decode cX12_gather 165 = .ok (.aload_n 0, 1) := by decide +kernel
theorem dX12_gather_166 : decode cX12_gather 166 = .ok (.getfield 130, 3) := by decide +kernel
theorem dX12_gather_169 : decode cX12_gather 169 = .ok (.iload 6, 2) := by decide +kernel
theorem dX12_gather_171 : decode cX12_gather 171 = .ok (.iaload, 1) := by decide +kernel
theorem dX12_gather_172 : decode cX12_gather 172 = .ok (.ishl, 1) := by decide +kernel
theorem dX12_gather_173 : decode cX12_gather 173 = .ok (.ior, 1) := by decide +kernel
theorem dX12_gather_174 : decode cX12_gather 174 = .ok (.putfield 357, 3) := by decide +kernel
theorem dX12_gather_177 : decode cX12_gather 177 = .ok (.goto 60, 3) := by decide +kernel
theorem dX12_gather_180 : decode cX12_gather 180 = .ok (.aload_n 0, 1) := by decide +kernel
theorem dX12_gather_181 : decode cX12_gather 181 = .ok (.getfield 127, 3) := by decide +kernel
theorem dX12_gather_184 : decode cX12_gather 184 = .ok (.iload 6, 2) := by decide +kernel
theorem dX12_gather_186 : decode cX12_gather 186 = .ok (.iaload, 1) := by decide +kernel
theorem dX12_gather_187 : decode cX12_gather 187 = .ok (.bipush 6, 2) := by decide +kernel
theorem dX12_gather_189 : decode cX12_gather 189 = .ok (.if_icmp .ne 24, 3) := by decide +kernel
theorem dX12_gather_192 : decode cX12_gather 192 = .ok (.aload_n 0, 1) := by decide +kernel
theorem dX12_gather_193 : decode cX12_gather 193 = .ok (.dup, 1) := by decide +kernel
theorem dX12_gather_194 : decode cX12_gather 194 = .ok (.getfield 360, 3) := by decide +kernel
theorem dX12_gather_197 : decode cX12_gather 197 = .ok (.iconst 1, 1) := by decide +kernel
theorem dX12_gather_198 : decode cX12_gather 198 = .ok (.aload_n 0, 1) := by decide +kernel
theorem dX12_gather_199 : decode cX12_gather 199 = .ok (.getfield 130, 3) := by decide +kernel
theorem dX12_gather_202 : decode cX12_gather 202 = .ok (.iload 6, 2) := by decide +kernel
theorem dX12_gather_204 : decode cX12_gather 204 = .ok (.iaload, 1) := by decide +kernel
theorem dX12_gather_205 : decode cX12_gather 205 = .ok (.ishl, 1) := by decide +kernel
theorem dX12_gather_206 : decode cX12_gather 206 = .ok (.ior, 1) := by decide +kernel
theorem dX12_gather_207 : decode cX12_gather 207 = .ok (.putfield 360, 3) := by decide +kernel
theorem dX12_gather_210 : decode cX12_gather 210 = .ok (.goto 27, 3) := by decide +kernel
theorem dX12_gather_213 : decode cX12_gather 213 = .ok (.aload_n 0, 1) := by decide +kernel
theorem dX12_gather_214 : decode cX12_gather 214 = .ok (.dup, 1) := by decide +kernel
theorem dX12_gather_215 : decode cX12_gather 215 = .ok (.getfield 360, 3) := by decide +kernel
theorem dX12_gather_218 : decode cX12_gather 218 = .ok (.sipush 255, 3) := by decide +kernel
theorem dX12_gather_221 : decode cX12_gather 221 = .ok (.iconst 1, 1) := by decide +kernel
theorem dX12_gather_222 : decode cX12_gather 222 = .ok (.aload_n 0, 1) := by decide +kernel
theorem dX12_gather_223 : decode cX12_gather 223 = .ok (.getfield 130, 3) := by decide +kernel
theorem dX12_gather_226 : decode cX12_gather 226 = .ok (.iload 6, 2) := by decide +kernel
theorem dX12_gather_228 : decode cX12_gather 228 = .ok (.iaload, 1) := by decide +kernel
theorem dX12_gather_229 : decode cX12_gather 229 = .ok (.ishl, 1) := by decide +kernel
theorem dX12_gather_230 : decode cX12_gather 230 = .ok (.iconst (-1), 1) := by decide +kernel
theorem dX12_gather_231 : decode cX12_gather 231 = .ok (.ixor, 1) := by decide +kernel
theorem dX12_gather_232 : decode cX12_gather 232 = .ok (.iand, 1) := by decide +kernel
theorem dX12_gather_233 : decode cX12_gather 233 = .ok (.ior, 1) := by decide +kernel
theorem dX12_gather_234 : decode cX12_gather 234 = .ok (.putfield 360, 3) := by decide +kernel
theorem dX12_gather_237 : decode cX12_gather 237 = .ok (.iinc 5 1, 3) := by decide +kernel
theorem dX12_gather_240 : decode cX12_gather 240 = .ok (.goto (-190), 3) := by decide +kernel
theorem dX12_gather_243 : decode cX12_gather 243 = .ok (.iinc 4 1, 3) := by decide +kernel
theorem dX12_gather_246 : decode cX12_gather 246 = .ok (.goto (-208), 3) := by decide +kernel
theorem dX12_gather_249 : decode cX12_gather 249 = .ok (.return_, 1) := by decide +kernel
theorem dX12_alterOf_0 : decode cX12_alterOf 0 = .ok (.aload_n 0, 1) := by decide +kernel
theorem dX12_alterOf_1 : decode cX12_alterOf 1 = .ok (.iload_n 1, 1) := by decide +kernel
theorem dX12_alterOf_2 : decode cX12_alterOf 2 = .ok (.iload_n 2, 1) := by decide +kernel
theorem dX12_alterOf_3 : decode cX12_alterOf 3 = .ok (.iload_n 3, 1) := by decide +kernel
theorem dX12_alterOf_4 : decode cX12_alterOf 4 = .ok (.invokevirtual 363, 3) := by decide +kernel
theorem dX12_alterOf_7 : decode cX12_alterOf 7 = .ok (.iconst 0, 1) := by decide +kernel
theorem dX12_alterOf_8 : decode cX12_alterOf 8 = .ok (.istore 4, 2) := by decide +kernel
theorem dX12_alterOf_10 : decode cX12_alterOf 10 = .ok (.iconst 0, 1) := by decide +kernel
theorem dX12_alterOf_11 : decode cX12_alterOf 11 = .ok (.istore 5, 2) := by decide +kernel
theorem dX12_alterOf_13 : decode cX12_alterOf 13 = .ok (.iload 5, 2) := by decide +kernel
theorem dX12_alterOf_15 : decode cX12_alterOf 15 = .ok (.iconst 5, 1) := by decide +kernel
theorem dX12_alterOf_16 : decode cX12_alterOf 16 = .ok (.if_icmp .ge 45, 3) := by decide +kernel
theorem dX12_alterOf_19 : decode cX12_alterOf 19 = .ok (.iload 4, 2) := by decide +kernel
theorem dX12_alterOf_21 : decode cX12_alterOf 21 = .ok (.aload_n 0, 1) := by decide +kernel
theorem dX12_alterOf_22 : decode cX12_alterOf 22 = .ok (.getfield 226, 3) := by decide +kernel
theorem dX12_alterOf_25 : decode cX12_alterOf 25 = .ok (.iload 5, 2) := by decide +kernel
theorem dX12_alterOf_27 : decode cX12_alterOf 27 = .ok (.iaload, 1) := by decide +kernel
theorem dX12_alterOf_28 : decode cX12_alterOf 28 = .ok (.iconst 0, 1) := by decide +kernel
theorem dX12_alterOf_29 : decode cX12_alterOf 29 = .ok (.aload_n 0, 1) := by decide +kernel
theorem dX12_alterOf_30 : decode cX12_alterOf 30 = .ok (.getfield 198, 3) := by decide +kernel
theorem dX12_alterOf_33 : decode cX12_alterOf 33 = .ok (.iconst 5, 1) := by decide +kernel
theorem dX12_alterOf_34 : decode cX12_alterOf 34 = .ok (.iload_n 2, 1) := by decide +kernel
theorem dX12_alterOf_35 : decode cX12_alterOf 35 = .ok (.imul, 1) := by decide +kernel
theorem dX12_alterOf_36 : decode cX12_alterOf 36 = .ok (.iload 5, 2) := by decide +kernel
theorem dX12_alterOf_38 : decode cX12_alterOf 38 = .ok (.iadd, 1) := by decide +kernel
theorem dX12_alterOf_39 : decode cX12_alterOf 39 = .ok (.iaload, 1) := by decide +kernel
theorem dX12_alterOf_40 : decode cX12_alterOf 40 = .ok (.aload_n 0, 1) := by decide +kernel
theorem dX12_alterOf_41 : decode cX12_alterOf 41 = .ok (.getfield 250, 3) := by decide +kernel
theorem dX12_alterOf_44 : decode cX12_alterOf 44 = .ok (.iload 5, 2) := by decide +kernel
theorem dX12_alterOf_46 : decode cX12_alterOf 46 = .ok (.iaload, 1) := by decide +kernel
theorem dX12_alterOf_47 : decode cX12_alterOf 47 = .ok (.isub, 1) := by decide +kernel
theorem dX12_alterOf_48 : decode cX12_alterOf 48 = .ok (.invokestatic 367, 3) := by decide +kernel
theorem dX12_alterOf_51 : decode cX12_alterOf 51 = .ok (.imul, 1) := by decide +kernel
theorem dX12_alterOf_52 : decode cX12_alterOf 52 = .ok (.iadd, 1) := by decide +kernel
theorem dX12_alterOf_53 : decode cX12_alterOf 53 = .ok (.istore 4, 2) := by decide +kernel
theorem dX12_alterOf_55 : decode cX12_alterOf 55 = .ok (.iinc 5 1, 3) := by decide +kernel
theorem dX12_alterOf_58 : decode cX12_alterOf 58 = .ok (.goto (-45), 3) := by decide +kernel
theorem dX12_alterOf_61 : decode cX12_alterOf 61 = .ok (.aload_n 0, 1) := by decide +kernel
theorem dX12_alterOf_62 : decode cX12_alterOf 62 = .ok (.getfield 357, 3) := by decide +kernel
theorem dX12_alterOf_65 : decode cX12_alterOf 65 = .ok (.aload_n 0, 1) := by decide +kernel
theorem dX12_alterOf_66 : decode cX12_alterOf 66 = .ok (.aload_n 0, 1) := by decide +kernel
theorem dX12_alterOf_67 : decode cX12_alterOf 67 = .ok (.getfield 201, 3) := by decide +kernel
theorem dX12_alterOf_70 : decode cX12_alterOf 70 = .ok (.iload_n 2, 1) := by decide +kernel
theorem dX12_alterOf_71 : decode cX12_alterOf 71 = .ok (.iaload, 1) := by decide +kernel
theorem dX12_alterOf_72 : decode cX12_alterOf 72 = .ok (.iload_n 3, 1) := by decide +kernel
theorem dX12_alterOf_73 : decode cX12_alterOf 73 = .ok (.invokevirtual 309, 3) := by decide +kernel
theorem dX12_alterOf_76 : decode cX12_alterOf 76 = .ok (.ishr, 1) := by decide +kernel
theorem dX12_alterOf_77 : decode cX12_alterOf 77 = .ok (.iconst 1, 1) := by decide +kernel
theorem dX12_alterOf_78 : decode cX12_alterOf 78 = .ok (.iand, 1) := by decide +kernel
theorem dX12_alterOf_79 : decode cX12_alterOf 79 = .ok (.iconst 1, 1) := by decide +kernel
theorem dX12_alterOf_80 : decode cX12_alterOf 80 = .ok (.if_icmp .ne 69, 3) := by decide +kernel
theorem dX12_alterOf_83 : decode cX12_alterOf 83 = .ok (.iconst 0, 1) := by decide +kernel
theorem dX12_alterOf_84 : decode cX12_alterOf 84 = .ok (.istore 5, 2) := by decide +kernel
theorem dX12_alterOf_86 : decode cX12_alterOf 86 = .ok (.iconst 0, 1) := by decide +kernel
theorem dX12_alterOf_87 : decode cX12_alterOf 87 = .ok (.istore 6, 2) := by decide +kernel
theorem dX12_alterOf_89 : decode cX12_alterOf 89 = .ok (.iload 6, 2) := by decide +kernel
theorem dX12_alterOf_91 : decode cX12_alterOf 91 = .ok (.bipush 16, 2) := by decide +kernel
theorem dX12_alterOf_93 : decode cX12_alterOf 93 = .ok (.if_icmp .ge 38, 3) := by decide +kernel
theorem dX12_alterOf_96 : decode cX12_alterOf 96 = .ok (.iload 5, 2) := by decide +kernel
theorem dX12_alterOf_98 : decode cX12_alterOf 98 = .ok (.ifCond .ne 20, 3) := by decide +kernel
theorem dX12_alterOf_101 : decode cX12_alterOf 101 = .ok (.aload_n 0, 1) := by decide +kernel
theorem dX12_alterOf_102 : decode cX12_alterOf 102 = .ok (.getfield 357, 3) := by decide +kernel
theorem dX12_alterOf_105 : decode cX12_alterOf 105 = .ok (.aload_n 0, 1) := by decide +kernel
theorem dX12_alterOf_106 : decode cX12_alterOf 106 = .ok (.iload 6, 2) := by decide +kernel
theorem dX12_alterOf_108 : decode cX12_alterOf 108 = .ok (.iload_n 3, 1) := by decide +kernel
theorem dX12_alterOf_109 : decode cX12_alterOf 109 = .ok (.invokevirtual 309, 3) := by decide +kernel
theorem dX12_alterOf_112 : decode cX12_alterOf 112 = .ok (.ishr, 1) := by decide +kernel
theorem dX12_alterOf_113 : decode cX12_alterOf 113 = .ok (.iconst 1, 1) := by decide +kernel
theorem dX12_alterOf_114 : decode cX12_alterOf 114 = .ok (.iand, 1) := by decide +kernel
theorem dX12_alterOf_115 : decode cX12_alterOf 115 = .ok (.ifCond .ne 7, 3) := by decide +kernel
theorem dX12_alterOf_118 : decode cX12_alterOf 118 = .ok (.iconst 1, 1) := by decide +kernel
theorem dX12_alterOf_119 : decode cX12_alterOf 119 = .ok (.goto 4, 3) := by decide +kernel
theorem dX12_alterOf_122 : decode cX12_alterOf 122 = .ok (.iconst 0, 1) := by decide +kernel
theorem dX12_alterOf_123 : decode cX12_alterOf 123 = .ok (.istore 5, 2) := by decide +kernel
theorem dX12_alterOf_125 : decode cX12_alterOf 125 = .ok (.iinc 6 1, 3) := by decide +kernel
theorem dX12_alterOf_128 : decode cX12_alterOf 128 = .ok (.goto (-39), 3) := by decide +kernel
theorem dX12_alterOf_131 : decode cX12_alterOf 131 = .ok (.iload 5, 2) := by decide +kernel
theorem dX12_alterOf_133 : decode cX12_alterOf 133 = .ok (.ifCond .ne 5, 3) := by decide +kernel
theorem dX12_alterOf_136 : decode cX12_alterOf 136 = .ok (.iconst (-1), 1) := by decide +kernel
theorem dX12_alterOf_137 : decode cX12_alterOf 137 = .ok (.ireturn, 1) := by decide +kernel
theorem dX12_alterOf_138 : decode cX12_alterOf 138 = .ok (.iload 4, 2) := by decide +kernel
theorem dX12_alterOf_140 : decode cX12_alterOf 140 = .ok (.aload_n 0, 1) := by decide +kernel
theorem dX12_alterOf_141 : decode cX12_alterOf 141 = .ok (.getfield 226, 3) := by decide +kernel
theorem dX12_alterOf_144 : decode cX12_alterOf 144 = .ok (.iconst 5, 1) := by decide +kernel
theorem dX12_alterOf_145 : decode cX12_alterOf 145 = .ok (.iaload, 1) := by decide +kernel
theorem dX12_alterOf_146 : decode cX12_alterOf 146 = .ok (.iadd, 1) := by decide +kernel
theorem dX12_alterOf_147 : decode cX12_alterOf 147 = .ok (.istore 4, 2) := by decide +kernel
theorem dX12_alterOf_149 : decode cX12_alterOf 149 = .ok (.aload_n 0, 1) := by decide +kernel
theorem dX12_alterOf_150 : decode cX12_alterOf 150 = .ok (.getfield 360, 3) := by decide +kernel
theorem dX12_alterOf_153 : decode cX12_alterOf 153 = .ok (.aload_n 0, 1) := by decide +kernel
theorem dX12_alterOf_154 : decode cX12_alterOf 154 = .ok (.getfield 203, 3) := by decide +kernel
theorem dX12_alterOf_157 : decode cX12_alterOf 157 = .ok (.iload_n 2, 1) := by decide +kernel
theorem dX12_alterOf_158 : decode cX12_alterOf 158 = .ok (.iaload, 1) := by decide +kernel
theorem dX12_alterOf_159 : decode cX12_alterOf 159 = .ok (.ishr, 1) := by decide +kernel
theorem dX12_alterOf_160 : decode cX12_alterOf 160 = .ok (.iconst 1, 1) := by decide +kernel
theorem dX12_alterOf_161 : decode cX12_alterOf 161 = .ok (.iand, 1) := by decide +kernel
theorem dX12_alterOf_162 : decode cX12_alterOf 162 = .ok (.iconst 1, 1) := by decide +kernel
theorem dX12_alterOf_163 : decode cX12_alterOf 163 = .ok (.if_icmp .ne 27, 3) := by decide +kernel
theorem dX12_alterOf_166 : decode cX12_alterOf 166 = .ok (.aload_n 0, 1) := by decide +kernel
theorem dX12_alterOf_167 : decode cX12_alterOf 167 = .ok (.getfield 360, 3) := by decide +kernel
theorem dX12_alterOf_170 : decode cX12_alterOf 170 = .ok (.sipush 255, 3) := by decide +kernel
theorem dX12_alterOf_173 : decode cX12_alterOf 173 = .ok (.if_icmp .ne 5, 3) := by decide +kernel
theorem dX12_alterOf_176 : decode cX12_alterOf 176 = .ok (.iconst (-1), 1) := by decide +kernel
theorem dX12_alterOf_177 : decode cX12_alterOf 177 = .ok (.ireturn, 1) := by decide +kernel
theorem dX12_alterOf_178 : decode cX12_alterOf 178 = .ok (.iload 4, 2) := by decide +kernel
theorem dX12_alterOf_180 : decode cX12_alterOf 180 = .ok (.aload_n 0, 1) := by decide +kernel
theorem dX12_alterOf_181 : decode cX12_alterOf 181 = .ok (.getfield 226, 3) := by decide +kernel
theorem dX12_alterOf_184 : decode cX12_alterOf 184 = .ok (.bipush 6, 2) := by decide +kernel
theorem dX12_alterOf_186 : decode cX12_alterOf 186 = .ok (.iaload, 1) := by decide +kernel
theorem dX12_alterOf_187 : decode cX12_alterOf 187 = .ok (.iadd, 1) := by decide +kernel
theorem dX12_alterOf_188 : decode cX12_alterOf 188 = .ok (.istore 4, 2) := by decide +kernel
theorem dX12_alterOf_190 : decode cX12_alterOf 190 = .ok (.iload 4, 2) := by decide +kernel
theorem dX12_alterOf_192 : decode cX12_alterOf 192 = .ok (.ireturn, 1) := by decide +kernel
theorem dX12_alter_0 : decode cX12_alter 0 = .ok (.aload_n 0, 1) := by decide +kernel
theorem dX12_alter_1 : decode cX12_alter 1 = .ok (.iload_n 1, 1) := by decide +kernel
theorem dX12_alter_2 : decode cX12_alter 2 = .ok (.iload_n 2, 1) := by decide +kernel
theorem dX12_alter_3 : decode cX12_alter 3 = .ok (.iload_n 3, 1) := by decide +kernel
theorem dX12_alter_4 : decode cX12_alter 4 = .ok (.invokevirtual 329, 3) := by decide +kernel
theorem dX12_alter_7 : decode cX12_alter 7 = .ok (.ifCond .eq 13, 3) := by decide +kernel
theorem dX12_alter_10 : decode cX12_alter 10 = .ok (.aload_n 0, 1) := by decide +kernel
theorem dX12_alter_11 : decode cX12_alter 11 = .ok (.iload_n 1, 1) := by decide +kernel
theorem dX12_alter_12 : decode cX12_alter 12 = .ok (.iload_n 2, 1) := by decide +kernel
theorem dX12_alter_13 : decode cX12_alter 13 = .ok (.iload_n 3, 1) := by decide +kernel
theorem dX12_alter_14 : decode cX12_alter 14 = .ok (.invokevirtual 370, 3) := by decide +kernel
theorem dX12_alter_17 : decode cX12_alter 17 = .ok (.goto 5, 3) := by decide +kernel
theorem dX12_alter_20 : decode cX12_alter 20 = .ok (.bipush (-2), 2) := by decide +kernel
theorem dX12_alter_22 : decode cX12_alter 22 = .ok (.ireturn, 1) := by decide +kernel
theorem dX12_best_0 : decode cX12_best 0 = .ok (.aload_n 0, 1) := by decide +kernel
theorem dX12_best_1 : decode cX12_best 1 = .ok (.iload_n 1, 1) := by decide +kernel
theorem dX12_best_2 : decode cX12_best 2 = .ok (.iload_n 2, 1) := by decide +kernel
theorem dX12_best_3 : decode cX12_best 3 = .ok (.iload_n 3, 1) := by decide +kernel
theorem dX12_best_4 : decode cX12_best 4 = .ok (.invokevirtual 329, 3) := by decide +kernel
theorem dX12_best_7 : decode cX12_best 7 = .ok (.ifCond .ne 6, 3) := by decide +kernel
theorem dX12_best_10 : decode cX12_best 10 = .ok (.bipush (-2), 2) := by decide +kernel
theorem dX12_best_12 : decode cX12_best 12 = .ok (.ireturn, 1) := by decide +kernel
theorem dX12_best_13 : decode cX12_best 13 = .ok (.aload_n 0, 1) := by decide +kernel
theorem dX12_best_14 : decode cX12_best 14 = .ok (.iload_n 1, 1) := by decide +kernel
theorem dX12_best_15 : decode cX12_best 15 = .ok (.iload_n 2, 1) := by decide +kernel
theorem dX12_best_16 : decode cX12_best 16 = .ok (.iload_n 3, 1) := by decide +kernel
theorem dX12_best_17 : decode cX12_best 17 = .ok (.invokevirtual 333, 3) := by decide +kernel
theorem dX12_best_20 : decode cX12_best 20 = .ok (.istore 4, 2) := by decide +kernel
theorem dX12_best_22 : decode cX12_best 22 = .ok (.iload 4, 2) := by decide +kernel
theorem dX12_best_24 : decode cX12_best 24 = .ok (.ifCond .ne 5, 3) := by decide +kernel
theorem dX12_best_27 : decode cX12_best 27 = .ok (.iconst 0, 1) := by decide +kernel
theorem dX12_best_28 : decode cX12_best 28 = .ok (.ireturn, 1) := by decide +kernel
theorem dX12_best_29 : decode cX12_best 29 = .ok (.aload_n 0, 1) := by decide +kernel
theorem dX12_best_30 : decode cX12_best 30 = .ok (.iload_n 1, 1) := by decide +kernel
theorem dX12_best_31 : decode cX12_best 31 = .ok (.iload_n 2, 1) := by decide +kernel
theorem dX12_best_32 : decode cX12_best 32 = .ok (.iload_n 3, 1) := by decide +kernel
theorem dX12_best_33 : decode cX12_best 33 = .ok (.invokevirtual 370, 3) := by decide +kernel
theorem dX12_best_36 : decode cX12_best 36 = .ok (.istore 5, 2) := by decide +kernel
theorem dX12_best_38 : decode cX12_best 38 = .ok (.iload 5, 2) := by decide +kernel
theorem dX12_best_40 : decode cX12_best 40 = .ok (.iconst (-1), 1) := by decide +kernel
theorem dX12_best_41 : decode cX12_best 41 = .ok (.if_icmp .eq 14, 3) := by decide +kernel
theorem dX12_best_44 : decode cX12_best 44 = .ok (.iload 5, 2) := by decide +kernel
theorem dX12_best_46 : decode cX12_best 46 = .ok (.iload 4, 2) := by decide +kernel
theorem dX12_best_48 : decode cX12_best 48 = .ok (.if_icmp .gt 7, 3) := by decide +kernel
theorem dX12_best_51 : decode cX12_best 51 = .ok (.iconst 1, 1) := by decide +kernel
theorem dX12_best_52 : decode cX12_best 52 = .ok (.goto 4, 3) := by decide +kernel
theorem dX12_best_55 : decode cX12_best 55 = .ok (.iconst 2, 1) := by decide +kernel
theorem dX12_best_56 : decode cX12_best 56 = .ok (.ireturn, 1) := by decide +kernel
theorem dX12_worn_0 : decode cX12_worn 0 = .ok (.aload_n 0, 1) := by decide +kernel
theorem dX12_worn_1 : decode cX12_worn 1 = .ok (.iload_n 1, 1) := by decide +kernel
theorem dX12_worn_2 : decode cX12_worn 2 = .ok (.invokevirtual 298, 3) := by decide +kernel
theorem dX12_worn_5 : decode cX12_worn 5 = .ok (.ifCond .eq 47, 3) := by decide +kernel
theorem dX12_worn_8 : decode cX12_worn 8 = .ok (.iload_n 2, 1) := by decide +kernel
theorem dX12_worn_9 : decode cX12_worn 9 = .ok (.i2l, 1) := by decide +kernel
theorem dX12_worn_10 : decode cX12_worn 10 = .ok (.lconst 0, 1) := by decide +kernel
theorem dX12_worn_11 : decode cX12_worn 11 = .ok (.ldc2_w 277, 3) := by decide +kernel
theorem dX12_worn_14 : decode cX12_worn 14 = .ok (.invokestatic 5, 3) := by decide +kernel
theorem dX12_worn_17 : decode cX12_worn 17 = .ok (.ifCond .eq 35, 3) := by decide +kernel
theorem dX12_worn_20 : decode cX12_worn 20 = .ok (.iload_n 3, 1) := by decide +kernel
theorem dX12_worn_21 : decode cX12_worn 21 = .ok (.iload 4, 2) := by decide +kernel
theorem dX12_worn_23 : decode cX12_worn 23 = .ok (.invokestatic 279, 3) := by decide +kernel
theorem dX12_worn_26 : decode cX12_worn 26 = .ok (.ifCond .eq 26, 3) := by decide +kernel
theorem dX12_worn_29 : decode cX12_worn 29 = .ok (.iload 4, 2) := by decide +kernel
theorem dX12_worn_31 : decode cX12_worn 31 = .ok (.iload_n 3, 1) := by decide +kernel
theorem dX12_worn_32 : decode cX12_worn 32 = .ok (.isub, 1) := by decide +kernel
theorem dX12_worn_33 : decode cX12_worn 33 = .ok (.sipush 500, 3) := by decide +kernel
theorem dX12_worn_36 : decode cX12_worn 36 = .ok (.if_icmp .ge 16, 3) := by decide +kernel
theorem dX12_worn_39 : decode cX12_worn 39 = .ok (.iload 5, 2) := by decide +kernel
theorem dX12_worn_41 : decode cX12_worn 41 = .ok (.i2l, 1) := by decide +kernel
theorem dX12_worn_42 : decode cX12_worn 42 = .ok (.lconst 0, 1) := by decide +kernel
theorem dX12_worn_43 : decode cX12_worn 43 = .ok (.ldc2_w 351, 3) := by decide +kernel
theorem dX12_worn_46 : decode cX12_worn 46 = .ok (.invokestatic 5, 3) := by decide +kernel
theorem dX12_worn_49 : decode cX12_worn 49 = .ok (.ifCond .ne 6, 3) := by decide +kernel
theorem dX12_worn_52 : decode cX12_worn 52 = .ok (.bipush (-2), 2) := by decide +kernel
theorem dX12_worn_54 : decode cX12_worn 54 = .ok (.ireturn, 1) := by decide +kernel
theorem dX12_worn_55 : decode cX12_worn 55 = .ok (.iconst 0, 1) := by decide +kernel
theorem dX12_worn_56 : decode cX12_worn 56 = .ok (.istore 6, 2) := by decide +kernel
theorem dX12_worn_58 : decode cX12_worn 58 = .ok (.iconst (-1), 1) := by decide +kernel
theorem dX12_worn_59 : decode cX12_worn 59 = .ok (.istore 7, 2) := by decide +kernel
theorem dX12_worn_61 : decode cX12_worn 61 = .ok (.iconst (-1), 1) := by decide +kernel
theorem dX12_worn_62 : decode cX12_worn 62 = .ok (.istore 8, 2) := by decide +kernel
theorem dX12_worn_64 : decode cX12_worn 64 = .ok (.iload_n 3, 1) := by decide +kernel
theorem dX12_worn_65 : decode cX12_worn 65 = .ok (.istore 9, 2) := by decide +kernel
theorem dX12_worn_67 : decode cX12_worn 67 = .ok (.iload 9, 2) := by decide +kernel
theorem dX12_worn_69 : decode cX12_worn 69 = .ok (.iload 4, 2) := by decide +kernel
theorem dX12_worn_71 : decode cX12_worn 71 = .ok (.if_icmp .gt 81, 3) := by decide +kernel
theorem dX12_worn_74 : decode cX12_worn 74 = .ok (.iconst 1, 1) := by decide +kernel
theorem dX12_worn_75 : decode cX12_worn 75 = .ok (.istore 10, 2) := by decide +kernel
theorem dX12_worn_77 : decode cX12_worn 77 = .ok (.iconst 0, 1) := by decide +kernel
theorem dX12_worn_78 : decode cX12_worn 78 = .ok (.istore 11, 2) := by decide +kernel
theorem dX12_worn_80 : decode cX12_worn 80 = .ok (.iload 11, 2) := by decide +kernel
theorem dX12_worn_82 : decode cX12_worn 82 = .ok (.aload_n 0, 1) := by decide +kernel
theorem dX12_worn_83 : decode cX12_worn 83 = .ok (.getfield 118, 3) := by decide +kernel
theorem dX12_worn_86 : decode cX12_worn 86 = .ok (.if_icmp .ge 35, 3) := by decide +kernel
theorem dX12_worn_89 : decode cX12_worn 89 = .ok (.iload 10, 2) := by decide +kernel
theorem dX12_worn_91 : decode cX12_worn 91 = .ok (.ifCond .eq 30, 3) := by decide +kernel
theorem dX12_worn_94 : decode cX12_worn 94 = .ok (.aload_n 0, 1) := by decide +kernel
theorem dX12_worn_95 : decode cX12_worn 95 = .ok (.iload 11, 2) := by decide +kernel
theorem dX12_worn_97 : decode cX12_worn 97 = .ok (.iload_n 2, 1) := by decide +kernel
theorem dX12_worn_98 : decode cX12_worn 98 = .ok (.iconst 0, 1) := by decide +kernel
theorem dX12_worn_99 : decode cX12_worn 99 = .ok (.iload_n 1, 1) := by decide +kernel
theorem dX12_worn_100 : decode cX12_worn 100 = .ok (.iload 9, 2) := by decide +kernel
theorem dX12_worn_102 : decode cX12_worn 102 = .ok (.invokevirtual 320, 3) := by decide +kernel
theorem dX12_worn_105 : decode cX12_worn 105 = .ok (.ifCond .ne 7, 3) := by decide +kernel
theorem dX12_worn_108 : decode cX12_worn 108 = .ok (.iconst 1, 1) := by decide +kernel
theorem dX12_worn_109 : decode cX12_worn 109 = .ok (.goto 4, 3) := by decide +kernel
theorem dX12_worn_112 : decode cX12_worn 112 = .ok (.iconst 0, 1) := by decide +kernel
theorem dX12_worn_113 : decode cX12_worn 113 = .ok (.istore 10, 2) := by decide +kernel
theorem dX12_worn_115 : decode cX12_worn 115 = .ok (.iinc 11 1, 3) := by decide +kernel
theorem dX12_worn_118 : decode cX12_worn 118 = .ok (.goto (-38), 3) := by decide +kernel
theorem dX12_worn_121 : decode cX12_worn 121 = .ok (.iload 10, 2) := by decide +kernel
theorem dX12_worn_123 : decode cX12_worn 123 = .ok (.ifCond .ne 6, 3) := by decide +kernel
theorem dX12_worn_126 : decode cX12_worn 126 = .ok (.goto 20, 3) := by decide +kernel
theorem dX12_worn_129 : decode cX12_worn 129 = .ok (.iinc 6 1, 3) := by decide +kernel
theorem dX12_worn_132 : decode cX12_worn 132 = .ok (.iload 9, 2) := by decide +kernel
theorem dX12_worn_134 : decode cX12_worn 134 = .ok (.istore 8, 2) := by decide +kernel
theorem dX12_worn_136 : decode cX12_worn 136 = .ok (.iload 7, 2) := by decide +kernel
theorem dX12_worn_138 : decode cX12_worn 138 = .ok (.iconst (-1), 1) := by decide +kernel
theorem dX12_worn_139 : decode cX12_worn 139 = .ok (.if_icmp .ne 7, 3) := by decide +kernel
theorem dX12_worn_142 : decode cX12_worn 142 = .ok (.iload 9, 2) := by decide +kernel
theorem dX12_worn_144 : decode cX12_worn 144 = .ok (.istore 7, 2) := by decide +kernel
theorem dX12_worn_146 : decode cX12_worn 146 = .ok (.iinc 9 1, 3) := by decide +kernel
theorem dX12_worn_149 : decode cX12_worn 149 = .ok (.goto (-82), 3) := by decide +kernel
theorem dX12_worn_152 : decode cX12_worn 152 = .ok (.iload 5, 2) := by decide +kernel
theorem dX12_worn_154 : decode cX12_worn 154 = .ok (.ifCond .ne 8, 3) := by decide +kernel
theorem dX12_worn_157 : decode cX12_worn 157 = .ok (.iload 6, 2) := by decide +kernel
theorem dX12_worn_159 : decode cX12_worn 159 = .ok (.goto 16, 3) := by decide +kernel
theorem dX12_worn_162 : decode cX12_worn 162 = .ok (.iload 5, 2) := by decide +kernel
theorem dX12_worn_164 : decode cX12_worn 164 = .ok (.iconst 1, 1) := by decide +kernel
theorem dX12_worn_165 : decode cX12_worn 165 = .ok (.if_icmp .ne 8, 3) := by decide +kernel
theorem dX12_worn_168 : decode cX12_worn 168 = .ok (.iload 7, 2) := by decide +kernel
theorem dX12_worn_170 : decode cX12_worn 170 = .ok (.goto 5, 3) := by decide +kernel
theorem dX12_worn_173 : decode cX12_worn 173 = .ok (.iload 8, 2) := by decide +kernel
theorem dX12_worn_175 : decode cX12_worn 175 = .ok (.ireturn, 1) := by decide +kernel
theorem dX12_count_0 : decode cX12_count 0 = .ok (.iload_n 1, 1) := by decide +kernel
theorem dX12_count_1 : decode cX12_count 1 = .ok (.tableswitch 78 0 6 #[43, 48, 53, 58, 63, 68, 73], 43) := by decide +kernel
theorem dX12_count_44 : decode cX12_count 44 = .ok (.aload_n 0, 1) := by decide +kernel
theorem dX12_count_45 : decode cX12_count 45 = .ok (.getfield 118, 3) := by decide +kernel
theorem dX12_count_48 : decode cX12_count 48 = .ok (.ireturn, 1) := by decide +kernel
theorem dX12_count_49 : decode cX12_count 49 = .ok (.aload_n 0, 1) := by decide +kernel
theorem dX12_count_50 : decode cX12_count 50 = .ok (.getfield 295, 3) := by decide +kernel
theorem dX12_count_53 : decode cX12_count 53 = .ok (.ireturn, 1) := by decide +kernel
theorem dX12_count_54 : decode cX12_count 54 = .ok (.aload_n 0, 1) := by decide +kernel
theorem dX12_count_55 : decode cX12_count 55 = .ok (.getfield 337, 3) := by decide +kernel
theorem dX12_count_58 : decode cX12_count 58 = .ok (.ireturn, 1) := by decide +kernel
theorem dX12_count_59 : decode cX12_count 59 = .ok (.aload_n 0, 1) := by decide +kernel
theorem dX12_count_60 : decode cX12_count 60 = .ok (.getfield 343, 3) := by decide +kernel
theorem dX12_count_63 : decode cX12_count 63 = .ok (.ireturn, 1) := by decide +kernel
theorem dX12_count_64 : decode cX12_count 64 = .ok (.aload_n 0, 1) := by decide +kernel
theorem dX12_count_65 : decode cX12_count 65 = .ok (.getfield 306, 3) := by decide +kernel
theorem dX12_count_68 : decode cX12_count 68 = .ok (.ireturn, 1) := by decide +kernel
theorem dX12_count_69 : decode cX12_count 69 = .ok (.aload_n 0, 1) := by decide +kernel
theorem dX12_count_70 : decode cX12_count 70 = .ok (.getfield 282, 3) := by decide +kernel
theorem dX12_count_73 : decode cX12_count 73 = .ok (.ireturn, 1) := by decide +kernel
theorem dX12_count_74 : decode cX12_count 74 = .ok (.aload_n 0, 1) := by decide +kernel
theorem dX12_count_75 : decode cX12_count 75 = .ok (.getfield 253, 3) := by decide +kernel
theorem dX12_count_78 : decode cX12_count 78 = .ok (.ireturn, 1) := by decide +kernel
theorem dX12_count_79 : decode cX12_count 79 = .ok (.iconst (-1), 1) := by decide +kernel
theorem dX12_count_80 : decode cX12_count 80 = .ok (.ireturn, 1) := by decide +kernel
theorem dJ9_max_7cf53_0 : decode cJ9_max_7cf53 0 = .ok (.iload_n 0, 1) := by decide +kernel
theorem dJ9_max_7cf53_1 : decode cJ9_max_7cf53 1 = .ok (.iload_n 1, 1) := by decide +kernel
theorem dJ9_max_7cf53_2 : decode cJ9_max_7cf53 2 = .ok (.if_icmp .lt 7, 3) := by decide +kernel
theorem dJ9_max_7cf53_5 : decode cJ9_max_7cf53 5 = .ok (.iload_n 0, 1) := by decide +kernel
theorem dJ9_max_7cf53_6 : decode cJ9_max_7cf53 6 = .ok (.goto 4, 3) := by decide +kernel
theorem dJ9_max_7cf53_9 : decode cJ9_max_7cf53 9 = .ok (.iload_n 1, 1) := by decide +kernel
theorem dJ9_max_7cf53_10 : decode cJ9_max_7cf53 10 = .ok (.ireturn, 1) := by decide +kernel
theorem dJ9_min_7cf53_0 : decode cJ9_min_7cf53 0 = .ok (.iload_n 0, 1) := by decide +kernel
theorem dJ9_min_7cf53_1 : decode cJ9_min_7cf53 1 = .ok (.iload_n 1, 1) := by decide +kernel
theorem dJ9_min_7cf53_2 : decode cJ9_min_7cf53 2 = .ok (.if_icmp .gt 7, 3) := by decide +kernel
theorem dJ9_min_7cf53_5 : decode cJ9_min_7cf53 5 = .ok (.iload_n 0, 1) := by decide +kernel
theorem dJ9_min_7cf53_6 : decode cJ9_min_7cf53 6 = .ok (.goto 4, 3) := by decide +kernel
theorem dJ9_min_7cf53_9 : decode cJ9_min_7cf53 9 = .ok (.iload_n 1, 1) := by decide +kernel
theorem dJ9_min_7cf53_10 : decode cJ9_min_7cf53 10 = .ok (.ireturn, 1) := by decide +kernel
theorem dJ0_length_8abf5_0 : decode cJ0_length_8abf5 0 = .ok (.aload_n 0, 1) := by decide +kernel
theorem dJ0_length_8abf5_1 : decode cJ0_length_8abf5 1 = .ok (.getfield 9, 3) := by decide +kernel
theorem dJ0_length_8abf5_4 : decode cJ0_length_8abf5 4 = .ok (.arraylength, 1) := by decide +kernel
theorem dJ0_length_8abf5_5 : decode cJ0_length_8abf5 5 = .ok (.aload_n 0, 1) := by decide +kernel
theorem dJ0_length_8abf5_6 : decode cJ0_length_8abf5 6 = .ok (.invokevirtual 335, 3) := by decide +kernel
theorem dJ0_length_8abf5_9 : decode cJ0_length_8abf5 9 = .ok (.ishr, 1) := by decide +kernel
theorem dJ0_length_8abf5_10 : decode cJ0_length_8abf5 10 = .ok (.ireturn, 1) := by decide +kernel
theorem dJ0_charAt_5068e_0 : decode cJ0_charAt_5068e 0 = .ok (.aload_n 0, 1) := by decide +kernel
theorem dJ0_charAt_5068e_1 : decode cJ0_charAt_5068e 1 = .ok (.invokevirtual 492, 3) := by decide +kernel
theorem dJ0_charAt_5068e_4 : decode cJ0_charAt_5068e 4 = .ok (.ifCond .eq 12, 3) := by decide +kernel
theorem dJ0_charAt_5068e_7 : decode cJ0_charAt_5068e 7 = .ok (.aload_n 0, 1) := by decide +kernel
theorem dJ0_charAt_5068e_8 : decode cJ0_charAt_5068e 8 = .ok (.getfield 9, 3) := by decide +kernel
theorem dJ0_charAt_5068e_11 : decode cJ0_charAt_5068e 11 = .ok (.iload_n 1, 1) := by decide +kernel
theorem dJ0_charAt_5068e_12 : decode cJ0_charAt_5068e 12 = .ok (.invokestatic 495, 3) := by decide +kernel
theorem dJ0_charAt_5068e_15 : decode cJ0_charAt_5068e 15 = .ok (.ireturn, 1) := by decide +kernel
theorem dJ0_charAt_5068e_16 : decode cJ0_charAt_5068e 16 = .ok (.aload_n 0, 1) := by decide +kernel
theorem dJ0_charAt_5068e_17 : decode cJ0_charAt_5068e 17 = .ok (.getfield 9, 3) := by decide +kernel
theorem dJ0_charAt_5068e_20 : decode cJ0_charAt_5068e 20 = .ok (.iload_n 1, 1) := by decide +kernel
theorem dJ0_charAt_5068e_21 : decode cJ0_charAt_5068e 21 = .ok (.invokestatic 498, 3) := by decide +kernel
theorem dJ0_charAt_5068e_24 : decode cJ0_charAt_5068e 24 = .ok (.ireturn, 1) := by decide +kernel
theorem dJ0_coder_7d493_0 : decode cJ0_coder_7d493 0 = .ok (.getstatic 38, 3) := by decide +kernel
theorem dJ0_coder_7d493_3 : decode cJ0_coder_7d493 3 = .ok (.ifCond .eq 10, 3) := by decide +kernel
theorem dJ0_coder_7d493_6 : decode cJ0_coder_7d493 6 = .ok (.aload_n 0, 1) := by decide +kernel
theorem dJ0_coder_7d493_7 : decode cJ0_coder_7d493 7 = .ok (.getfield 15, 3) := by decide +kernel
theorem dJ0_coder_7d493_10 : decode cJ0_coder_7d493 10 = .ok (.goto 4, 3) := by decide +kernel
theorem dJ0_coder_7d493_13 : decode cJ0_coder_7d493 13 = .ok (.iconst 1, 1) := by decide +kernel
theorem dJ0_coder_7d493_14 : decode cJ0_coder_7d493 14 = .ok (.ireturn, 1) := by decide +kernel
theorem dJ0_isLatin1_aae02_0 : decode cJ0_isLatin1_aae02 0 = .ok (.getstatic 38, 3) := by decide +kernel
theorem dJ0_isLatin1_aae02_3 : decode cJ0_isLatin1_aae02 3 = .ok (.ifCond .eq 14, 3) := by decide +kernel
theorem dJ0_isLatin1_aae02_6 : decode cJ0_isLatin1_aae02 6 = .ok (.aload_n 0, 1) := by decide +kernel
theorem dJ0_isLatin1_aae02_7 : decode cJ0_isLatin1_aae02 7 = .ok (.getfield 15, 3) := by decide +kernel
theorem dJ0_isLatin1_aae02_10 : decode cJ0_isLatin1_aae02 10 = .ok (.ifCond .ne 7, 3) := by decide +kernel
theorem dJ0_isLatin1_aae02_13 : decode cJ0_isLatin1_aae02 13 = .ok (.iconst 1, 1) := by decide +kernel
theorem dJ0_isLatin1_aae02_14 : decode cJ0_isLatin1_aae02 14 = .ok (.goto 4, 3) := by decide +kernel
theorem dJ0_isLatin1_aae02_17 : decode cJ0_isLatin1_aae02 17 = .ok (.iconst 0, 1) := by decide +kernel
theorem dJ0_isLatin1_aae02_18 : decode cJ0_isLatin1_aae02 18 = .ok (.ireturn, 1) := by decide +kernel
theorem dJ0_checkIndex_df160_0 : decode cJ0_checkIndex_df160 0 = .ok (.iload_n 0, 1) := by decide +kernel
theorem dJ0_checkIndex_df160_1 : decode cJ0_checkIndex_df160 1 = .ok (.iload_n 1, 1) := by decide +kernel
theorem dJ0_checkIndex_df160_2 : decode cJ0_checkIndex_df160 2 = .ok (.getstatic 1053, 3) := by decide +kernel
theorem dJ0_checkIndex_df160_5 : decode cJ0_checkIndex_df160 5 = .ok (.invokestatic 1059, 3) := by decide +kernel
theorem dJ0_checkIndex_df160_8 : decode cJ0_checkIndex_df160 8 = .ok (.pop, 1) := by decide +kernel
theorem dJ0_checkIndex_df160_9 : decode cJ0_checkIndex_df160 9 = .ok (.return_, 1) := by decide +kernel
theorem dJ1_charAt_3b067_0 : decode cJ1_charAt_3b067 0 = .ok (.iload_n 1, 1) := by decide +kernel
theorem dJ1_charAt_3b067_1 : decode cJ1_charAt_3b067 1 = .ok (.aload_n 0, 1) := by decide +kernel
theorem dJ1_charAt_3b067_2 : decode cJ1_charAt_3b067 2 = .ok (.arraylength, 1) := by decide +kernel
theorem dJ1_charAt_3b067_3 : decode cJ1_charAt_3b067 3 = .ok (.invokestatic 9, 3) := by decide +kernel
theorem dJ1_charAt_3b067_6 : decode cJ1_charAt_3b067 6 = .ok (.aload_n 0, 1) := by decide +kernel
theorem dJ1_charAt_3b067_7 : decode cJ1_charAt_3b067 7 = .ok (.iload_n 1, 1) := by decide +kernel
theorem dJ1_charAt_3b067_8 : decode cJ1_charAt_3b067 8 = .ok (.baload, 1) := by decide +kernel
theorem dJ1_charAt_3b067_9 : decode cJ1_charAt_3b067 9 = .ok (.sipush 255, 3) := by decide +kernel
theorem dJ1_charAt_3b067_12 : decode cJ1_charAt_3b067 12 = .ok (.iand, 1) := by decide +kernel
theorem dJ1_charAt_3b067_13 : decode cJ1_charAt_3b067 13 = .ok (.i2c, 1) := by decide +kernel
theorem dJ1_charAt_3b067_14 : decode cJ1_charAt_3b067 14 = .ok (.ireturn, 1) := by decide +kernel
theorem dJ2_getChar_3b067_0 : decode cJ2_getChar_3b067 0 = .ok (.getstatic 44, 3) := by decide +kernel
