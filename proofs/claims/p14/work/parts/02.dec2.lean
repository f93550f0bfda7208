theorem dX12_byCube_78 : decode cX12_byCube 78 = .ok (.lmul, 1) := by decide +kernel
theorem dX12_byCube_79 : decode cX12_byCube 79 = .ok (.ldc2_w 318, 3) := by decide +kernel
theorem dX12_byCube_82 : decode cX12_byCube 82 = .ok (.ldiv, 1) := by decide +kernel
theorem dX12_byCube_83 : decode cX12_byCube 83 = .ok (.ladd, 1) := by decide +kernel
theorem dX12_byCube_84 : decode cX12_byCube 84 = .ok (.lstore 8, 2) := by decide +kernel
theorem dX12_byCube_86 : decode cX12_byCube 86 = .ok (.ldc2_w 324, 3) := by decide +kernel
theorem dX12_byCube_89 : decode cX12_byCube 89 = .ok (.lload 8, 2) := by decide +kernel
theorem dX12_byCube_91 : decode cX12_byCube 91 = .ok (.aload_n 0, 1) := by decide +kernel
theorem dX12_byCube_92 : decode cX12_byCube 92 = .ok (.getfield 163, 3) := by decide +kernel
theorem dX12_byCube_95 : decode cX12_byCube 95 = .ok (.iload_n 1, 1) := by decide +kernel
theorem dX12_byCube_96 : decode cX12_byCube 96 = .ok (.iaload, 1) := by decide +kernel
theorem dX12_byCube_97 : decode cX12_byCube 97 = .ok (.i2l, 1) := by decide +kernel
theorem dX12_byCube_98 : decode cX12_byCube 98 = .ok (.lsub, 1) := by decide +kernel
theorem dX12_byCube_99 : decode cX12_byCube 99 = .ok (.lmul, 1) := by decide +kernel
theorem dX12_byCube_100 : decode cX12_byCube 100 = .ok (.aload_n 0, 1) := by decide +kernel
theorem dX12_byCube_101 : decode cX12_byCube 101 = .ok (.getfield 163, 3) := by decide +kernel
theorem dX12_byCube_104 : decode cX12_byCube 104 = .ok (.iload_n 1, 1) := by decide +kernel
theorem dX12_byCube_105 : decode cX12_byCube 105 = .ok (.iaload, 1) := by decide +kernel
theorem dX12_byCube_106 : decode cX12_byCube 106 = .ok (.i2l, 1) := by decide +kernel
theorem dX12_byCube_107 : decode cX12_byCube 107 = .ok (.ldiv, 1) := by decide +kernel
theorem dX12_byCube_108 : decode cX12_byCube 108 = .ok (.lstore 10, 2) := by decide +kernel
theorem dX12_byCube_110 : decode cX12_byCube 110 = .ok (.lload 10, 2) := by decide +kernel
theorem dX12_byCube_112 : decode cX12_byCube 112 = .ok (.lconst 1, 1) := by decide +kernel
theorem dX12_byCube_113 : decode cX12_byCube 113 = .ok (.lcmp, 1) := by decide +kernel
theorem dX12_byCube_114 : decode cX12_byCube 114 = .ok (.ifCond .ge 7, 3) := by decide +kernel
theorem dX12_byCube_117 : decode cX12_byCube 117 = .ok (.iconst 1, 1) := by decide +kernel
theorem dX12_byCube_118 : decode cX12_byCube 118 = .ok (.goto 6, 3) := by decide +kernel
theorem dX12_byCube_121 : decode cX12_byCube 121 = .ok (.lload 10, 2) := by decide +kernel
theorem dX12_byCube_123 : decode cX12_byCube 123 = .ok (.l2i, 1) := by decide +kernel
theorem dX12_byCube_124 : decode cX12_byCube 124 = .ok (.ireturn, 1) := by decide +kernel
theorem dX12_grows_0 : decode cX12_grows 0 = .ok (.aload_n 0, 1) := by decide +kernel
theorem dX12_grows_1 : decode cX12_grows 1 = .ok (.getfield 124, 3) := by decide +kernel
theorem dX12_grows_4 : decode cX12_grows 4 = .ok (.iload_n 1, 1) := by decide +kernel
theorem dX12_grows_5 : decode cX12_grows 5 = .ok (.iaload, 1) := by decide +kernel
theorem dX12_grows_6 : decode cX12_grows 6 = .ok (.istore_n 2, 1) := by decide +kernel
theorem dX12_grows_7 : decode cX12_grows 7 = .ok (.aload_n 0, 1) := by decide +kernel
theorem dX12_grows_8 : decode cX12_grows 8 = .ok (.getfield 202, 3) := by decide +kernel
theorem dX12_grows_11 : decode cX12_grows 11 = .ok (.iload_n 2, 1) := by decide +kernel
theorem dX12_grows_12 : decode cX12_grows 12 = .ok (.dup2, 1) := by decide +kernel
theorem dX12_grows_13 : decode cX12_grows 13 = .ok (.iaload, 1) := by decide +kernel
theorem dX12_grows_14 : decode cX12_grows 14 = .ok (.iconst 1, 1) := by decide +kernel
theorem dX12_grows_15 : decode cX12_grows 15 = .ok (.iadd, 1) := by decide +kernel
theorem dX12_grows_16 : decode cX12_grows 16 = .ok (.iastore, 1) := by decide +kernel
theorem dX12_grows_17 : decode cX12_grows 17 = .ok (.aload_n 0, 1) := by decide +kernel
theorem dX12_grows_18 : decode cX12_grows 18 = .ok (.getfield 169, 3) := by decide +kernel
theorem dX12_grows_21 : decode cX12_grows 21 = .ok (.iload_n 2, 1) := by decide +kernel
theorem dX12_grows_22 : decode cX12_grows 22 = .ok (.iaload, 1) := by decide +kernel
theorem dX12_grows_23 : decode cX12_grows 23 = .ok (.iconst 2, 1) := by decide +kernel
theorem dX12_grows_24 : decode cX12_grows 24 = .ok (.if_icmp .ne 129, 3) := by decide +kernel
theorem dX12_grows_27 : decode cX12_grows 27 = .ok (.bipush 16, 2) := by decide +kernel
theorem dX12_grows_29 : decode cX12_grows 29 = .ok (.aload_n 0, 1) := by decide +kernel
theorem dX12_grows_30 : decode cX12_grows 30 = .ok (.getfield 202, 3) := by decide +kernel
theorem dX12_grows_33 : decode cX12_grows 33 = .ok (.iload_n 2, 1) := by decide +kernel
theorem dX12_grows_34 : decode cX12_grows 34 = .ok (.iaload, 1) := by decide +kernel
theorem dX12_grows_35 : decode cX12_grows 35 = .ok (.aload_n 0, 1) := by decide +kernel
theorem dX12_grows_36 : decode cX12_grows 36 = .ok (.getfield 160, 3) := by decide +kernel
theorem dX12_grows_39 : decode cX12_grows 39 = .ok (.iload_n 1, 1) := by decide +kernel
theorem dX12_grows_40 : decode cX12_grows 40 = .ok (.iaload, 1) := by decide +kernel
theorem dX12_grows_41 : decode cX12_grows 41 = .ok (.isub, 1) := by decide +kernel
theorem dX12_grows_42 : decode cX12_grows 42 = .ok (.imul, 1) := by decide +kernel
theorem dX12_grows_43 : decode cX12_grows 43 = .ok (.iconst 1, 1) := by decide +kernel
theorem dX12_grows_44 : decode cX12_grows 44 = .ok (.aload_n 0, 1) := by decide +kernel
theorem dX12_grows_45 : decode cX12_grows 45 = .ok (.getfield 246, 3) := by decide +kernel
theorem dX12_grows_48 : decode cX12_grows 48 = .ok (.aload_n 0, 1) := by decide +kernel
theorem dX12_grows_49 : decode cX12_grows 49 = .ok (.getfield 127, 3) := by decide +kernel
theorem dX12_grows_52 : decode cX12_grows 52 = .ok (.iload_n 1, 1) := by decide +kernel
theorem dX12_grows_53 : decode cX12_grows 53 = .ok (.iaload, 1) := by decide +kernel
theorem dX12_grows_54 : decode cX12_grows 54 = .ok (.isub, 1) := by decide +kernel
theorem dX12_grows_55 : decode cX12_grows 55 = .ok (.invokestatic 288, 3) := by decide +kernel
theorem dX12_grows_58 : decode cX12_grows 58 = .ok (.idiv, 1) := by decide +kernel
theorem dX12_grows_59 : decode cX12_grows 59 = .ok (.istore_n 3, 1) := by decide +kernel
theorem dX12_grows_60 : decode cX12_grows 60 = .ok (.aload_n 0, 1) := by decide +kernel
theorem dX12_grows_61 : decode cX12_grows 61 = .ok (.getfield 205, 3) := by decide +kernel
theorem dX12_grows_64 : decode cX12_grows 64 = .ok (.bipush 8, 2) := by decide +kernel
theorem dX12_grows_66 : decode cX12_grows 66 = .ok (.iload_n 2, 1) := by decide +kernel
theorem dX12_grows_67 : decode cX12_grows 67 = .ok (.imul, 1) := by decide +kernel
theorem dX12_grows_68 : decode cX12_grows 68 = .ok (.aload_n 0, 1) := by decide +kernel
theorem dX12_grows_69 : decode cX12_grows 69 = .ok (.getfield 208, 3) := by decide +kernel
theorem dX12_grows_72 : decode cX12_grows 72 = .ok (.iload_n 2, 1) := by decide +kernel
theorem dX12_grows_73 : decode cX12_grows 73 = .ok (.iaload, 1) := by decide +kernel
theorem dX12_grows_74 : decode cX12_grows 74 = .ok (.bipush 8, 2) := by decide +kernel
theorem dX12_grows_76 : decode cX12_grows 76 = .ok (.irem, 1) := by decide +kernel
theorem dX12_grows_77 : decode cX12_grows 77 = .ok (.iadd, 1) := by decide +kernel
theorem dX12_grows_78 : decode cX12_grows 78 = .ok (.iload_n 3, 1) := by decide +kernel
theorem dX12_grows_79 : decode cX12_grows 79 = .ok (.iastore, 1) := by decide +kernel
theorem dX12_grows_80 : decode cX12_grows 80 = .ok (.aload_n 0, 1) := by decide +kernel
theorem dX12_grows_81 : decode cX12_grows 81 = .ok (.getfield 208, 3) := by decide +kernel
theorem dX12_grows_84 : decode cX12_grows 84 = .ok (.iload_n 2, 1) := by decide +kernel
theorem dX12_grows_85 : decode cX12_grows 85 = .ok (.dup2, 1) := by decide +kernel
theorem dX12_grows_86 : decode cX12_grows 86 = .ok (.iaload, 1) := by decide +kernel
theorem dX12_grows_87 : decode cX12_grows 87 = .ok (.iconst 1, 1) := by decide +kernel
theorem dX12_grows_88 : decode cX12_grows 88 = .ok (.iadd, 1) := by decide +kernel
theorem dX12_grows_89 : decode cX12_grows 89 = .ok (.iastore, 1) := by decide +kernel
theorem dX12_grows_90 : decode cX12_grows 90 = .ok (.iconst 0, 1) := by decide +kernel
theorem dX12_grows_91 : decode cX12_grows 91 = .ok (.istore 4, 2) := by decide +kernel
theorem dX12_grows_93 : decode cX12_grows 93 = .ok (.iconst 0, 1) := by decide +kernel
theorem dX12_grows_94 : decode cX12_grows 94 = .ok (.istore 5, 2) := by decide +kernel
theorem dX12_grows_96 : decode cX12_grows 96 = .ok (.iload 5, 2) := by decide +kernel
theorem dX12_grows_98 : decode cX12_grows 98 = .ok (.bipush 8, 2) := by decide +kernel
theorem dX12_grows_100 : decode cX12_grows 100 = .ok (.if_icmp .ge 28, 3) := by decide +kernel
theorem dX12_grows_103 : decode cX12_grows 103 = .ok (.iload 4, 2) := by decide +kernel
theorem dX12_grows_105 : decode cX12_grows 105 = .ok (.aload_n 0, 1) := by decide +kernel
theorem dX12_grows_106 : decode cX12_grows 106 = .ok (.getfield 205, 3) := by decide +kernel
theorem dX12_grows_109 : decode cX12_grows 109 = .ok (.bipush 8, 2) := by decide +kernel
theorem dX12_grows_111 : decode cX12_grows 111 = .ok (.iload_n 2, 1) := by decide +kernel
theorem dX12_grows_112 : decode cX12_grows 112 = .ok (.imul, 1) := by decide +kernel
theorem dX12_grows_113 : decode cX12_grows 113 = .ok (.iload 5, 2) := by decide +kernel
theorem dX12_grows_115 : decode cX12_grows 115 = .ok (.iadd, 1) := by decide +kernel
theorem dX12_grows_116 : decode cX12_grows 116 = .ok (.iaload, 1) := by decide +kernel
theorem dX12_grows_117 : decode cX12_grows 117 = .ok (.invokestatic 288, 3) := by decide +kernel
theorem dX12_grows_120 : decode cX12_grows 120 = .ok (.istore 4, 2) := by decide +kernel
theorem dX12_grows_122 : decode cX12_grows 122 = .ok (.iinc 5 1, 3) := by decide +kernel
theorem dX12_grows_125 : decode cX12_grows 125 = .ok (.goto (-29), 3) := by decide +kernel
theorem dX12_grows_128 : decode cX12_grows 128 = .ok (.aload_n 0, 1) := by decide +kernel
theorem dX12_grows_129 : decode cX12_grows 129 = .ok (.getfield 163, 3) := by decide +kernel
theorem dX12_grows_132 : decode cX12_grows 132 = .ok (.iload_n 2, 1) := by decide +kernel
theorem dX12_grows_133 : decode cX12_grows 133 = .ok (.bipush 64, 2) := by decide +kernel
theorem dX12_grows_135 : decode cX12_grows 135 = .ok (.iconst 2, 1) := by decide +kernel
theorem dX12_grows_136 : decode cX12_grows 136 = .ok (.iload 4, 2) := by decide +kernel
theorem dX12_grows_138 : decode cX12_grows 138 = .ok (.imul, 1) := by decide +kernel
theorem dX12_grows_139 : decode cX12_grows 139 = .ok (.aload_n 0, 1) := by decide +kernel
theorem dX12_grows_140 : decode cX12_grows 140 = .ok (.getfield 178, 3) := by decide +kernel
theorem dX12_grows_143 : decode cX12_grows 143 = .ok (.iload_n 2, 1) := by decide +kernel
theorem dX12_grows_144 : decode cX12_grows 144 = .ok (.iaload, 1) := by decide +kernel
theorem dX12_grows_145 : decode cX12_grows 145 = .ok (.imul, 1) := by decide +kernel
theorem dX12_grows_146 : decode cX12_grows 146 = .ok (.invokestatic 288, 3) := by decide +kernel
theorem dX12_grows_149 : decode cX12_grows 149 = .ok (.iastore, 1) := by decide +kernel
theorem dX12_grows_150 : decode cX12_grows 150 = .ok (.goto 72, 3) := by decide +kernel
theorem dX12_grows_153 : decode cX12_grows 153 = .ok (.aload_n 0, 1) := by decide +kernel
theorem dX12_grows_154 : decode cX12_grows 154 = .ok (.getfield 163, 3) := by decide +kernel
theorem dX12_grows_157 : decode cX12_grows 157 = .ok (.iload_n 2, 1) := by decide +kernel
theorem dX12_grows_158 : decode cX12_grows 158 = .ok (.iaload, 1) := by decide +kernel
theorem dX12_grows_159 : decode cX12_grows 159 = .ok (.aload_n 0, 1) := by decide +kernel
theorem dX12_grows_160 : decode cX12_grows 160 = .ok (.getfield 166, 3) := by decide +kernel
theorem dX12_grows_163 : decode cX12_grows 163 = .ok (.iload_n 2, 1) := by decide +kernel
theorem dX12_grows_164 : decode cX12_grows 164 = .ok (.iaload, 1) := by decide +kernel
theorem dX12_grows_165 : decode cX12_grows 165 = .ok (.if_icmp .ge 17, 3) := by decide +kernel
theorem dX12_grows_168 : decode cX12_grows 168 = .ok (.aload_n 0, 1) := by decide +kernel
theorem dX12_grows_169 : decode cX12_grows 169 = .ok (.getfield 163, 3) := by decide +kernel
theorem dX12_grows_172 : decode cX12_grows 172 = .ok (.iload_n 2, 1) := by decide +kernel
theorem dX12_grows_173 : decode cX12_grows 173 = .ok (.dup2, 1) := by decide +kernel
theorem dX12_grows_174 : decode cX12_grows 174 = .ok (.iaload, 1) := by decide +kernel
theorem dX12_grows_175 : decode cX12_grows 175 = .ok (.bipush 16, 2) := by decide +kernel
theorem dX12_grows_177 : decode cX12_grows 177 = .ok (.iadd, 1) := by decide +kernel
theorem dX12_grows_178 : decode cX12_grows 178 = .ok (.iastore, 1) := by decide +kernel
theorem dX12_grows_179 : decode cX12_grows 179 = .ok (.goto 43, 3) := by decide +kernel
theorem dX12_grows_182 : decode cX12_grows 182 = .ok (.aload_n 0, 1) := by decide +kernel
theorem dX12_grows_183 : decode cX12_grows 183 = .ok (.getfield 163, 3) := by decide +kernel
theorem dX12_grows_186 : decode cX12_grows 186 = .ok (.iload_n 2, 1) := by decide +kernel
theorem dX12_grows_187 : decode cX12_grows 187 = .ok (.dup2, 1) := by decide +kernel
theorem dX12_grows_188 : decode cX12_grows 188 = .ok (.iaload, 1) := by decide +kernel
theorem dX12_grows_189 : decode cX12_grows 189 = .ok (.aload_n 0, 1) := by decide +kernel
theorem dX12_grows_190 : decode cX12_grows 190 = .ok (.getfield 169, 3) := by decide +kernel
theorem dX12_grows_193 : decode cX12_grows 193 = .ok (.iload_n 2, 1) := by decide +kernel
theorem dX12_grows_194 : decode cX12_grows 194 = .ok (.iaload, 1) := by decide +kernel
theorem dX12_grows_195 : decode cX12_grows 195 = .ok (.ifCond .ne 20, 3) := by decide +kernel
theorem dX12_grows_198 : decode cX12_grows 198 = .ok (.iconst 1, 1) := by decide +kernel
theorem dX12_grows_199 : decode cX12_grows 199 = .ok (.sipush 256, 3) := by decide +kernel
theorem dX12_grows_202 : decode cX12_grows 202 = .ok (.aload_n 0, 1) := by decide +kernel
theorem dX12_grows_203 : decode cX12_grows 203 = .ok (.getfield 163, 3) := by decide +kernel
theorem dX12_grows_206 : decode cX12_grows 206 = .ok (.iload_n 2, 1) := by decide +kernel
theorem dX12_grows_207 : decode cX12_grows 207 = .ok (.iaload, 1) := by decide +kernel
theorem dX12_grows_208 : decode cX12_grows 208 = .ok (.idiv, 1) := by decide +kernel
theorem dX12_grows_209 : decode cX12_grows 209 = .ok (.invokestatic 288, 3) := by decide +kernel
theorem dX12_grows_212 : decode cX12_grows 212 = .ok (.goto 8, 3) := by decide +kernel
theorem dX12_grows_215 : decode cX12_grows 215 = .ok (.aload_n 0, 1) := by decide +kernel
theorem dX12_grows_216 : decode cX12_grows 216 = .ok (.iload_n 2, 1) := by decide +kernel
theorem dX12_grows_217 : decode cX12_grows 217 = .ok (.invokevirtual 326, 3) := by decide +kernel
theorem dX12_grows_220 : decode cX12_grows 220 = .ok (.iadd, 1) := by decide +kernel
theorem dX12_grows_221 : decode cX12_grows 221 = .ok (.iastore, 1) := by decide +kernel
theorem dX12_grows_222 : decode cX12_grows 222 = .ok (.return_, 1) := by decide +kernel
theorem dX12_harms_0 : decode cX12_harms 0 = .ok (.iload_n 2, 1) := by decide +kernel
theorem dX12_harms_1 : decode cX12_harms 1 = .ok (.aload_n 0, 1) := by decide +kernel
theorem dX12_harms_2 : decode cX12_harms 2 = .ok (.getfield 211, 3) := by decide +kernel
theorem dX12_harms_5 : decode cX12_harms 5 = .ok (.iload_n 1, 1) := by decide +kernel
theorem dX12_harms_6 : decode cX12_harms 6 = .ok (.iaload, 1) := by decide +kernel
theorem dX12_harms_7 : decode cX12_harms 7 = .ok (.if_icmp .ge 4, 3) := by decide +kernel
theorem dX12_harms_10 : decode cX12_harms 10 = .ok (.return_, 1) := by decide +kernel
theorem dX12_harms_11 : decode cX12_harms 11 = .ok (.aload_n 0, 1) := by decide +kernel
theorem dX12_harms_12 : decode cX12_harms 12 = .ok (.getfield 229, 3) := by decide +kernel
theorem dX12_harms_15 : decode cX12_harms 15 = .ok (.iconst 5, 1) := by decide +kernel
theorem dX12_harms_16 : decode cX12_harms 16 = .ok (.dup2, 1) := by decide +kernel
theorem dX12_harms_17 : decode cX12_harms 17 = .ok (.iaload, 1) := by decide +kernel
theorem dX12_harms_18 : decode cX12_harms 18 = .ok (.iconst 1, 1) := by decide +kernel
theorem dX12_harms_19 : decode cX12_harms 19 = .ok (.iadd, 1) := by decide +kernel
theorem dX12_harms_20 : decode cX12_harms 20 = .ok (.iastore, 1) := by decide +kernel
theorem dX12_harms_21 : decode cX12_harms 21 = .ok (.aload_n 0, 1) := by decide +kernel
theorem dX12_harms_22 : decode cX12_harms 22 = .ok (.getfield 211, 3) := by decide +kernel
theorem dX12_harms_25 : decode cX12_harms 25 = .ok (.iload_n 1, 1) := by decide +kernel
theorem dX12_harms_26 : decode cX12_harms 26 = .ok (.aload_n 0, 1) := by decide +kernel
theorem dX12_harms_27 : decode cX12_harms 27 = .ok (.getfield 313, 3) := by decide +kernel
theorem dX12_harms_30 : decode cX12_harms 30 = .ok (.iastore, 1) := by decide +kernel
theorem dX12_harms_31 : decode cX12_harms 31 = .ok (.aload_n 0, 1) := by decide +kernel
theorem dX12_harms_32 : decode cX12_harms 32 = .ok (.getfield 214, 3) := by decide +kernel
theorem dX12_harms_35 : decode cX12_harms 35 = .ok (.iload_n 1, 1) := by decide +kernel
theorem dX12_harms_36 : decode cX12_harms 36 = .ok (.aload_n 0, 1) := by decide +kernel
theorem dX12_harms_37 : decode cX12_harms 37 = .ok (.getfield 246, 3) := by decide +kernel
theorem dX12_harms_40 : decode cX12_harms 40 = .ok (.iastore, 1) := by decide +kernel
theorem dX12_harms_41 : decode cX12_harms 41 = .ok (.aload_n 0, 1) := by decide +kernel
theorem dX12_harms_42 : decode cX12_harms 42 = .ok (.getfield 217, 3) := by decide +kernel
theorem dX12_harms_45 : decode cX12_harms 45 = .ok (.iload_n 1, 1) := by decide +kernel
theorem dX12_harms_46 : decode cX12_harms 46 = .ok (.iload_n 3, 1) := by decide +kernel
theorem dX12_harms_47 : decode cX12_harms 47 = .ok (.ifCond .eq 7, 3) := by decide +kernel
theorem dX12_harms_50 : decode cX12_harms 50 = .ok (.iload_n 2, 1) := by decide +kernel
theorem dX12_harms_51 : decode cX12_harms 51 = .ok (.goto 4, 3) := by decide +kernel
theorem dX12_harms_54 : decode cX12_harms 54 = .ok (.iconst (-1), 1) := by decide +kernel
theorem dX12_harms_55 : decode cX12_harms 55 = .ok (.iastore, 1) := by decide +kernel
theorem dX12_harms_56 : decode cX12_harms 56 = .ok (.aload_n 0, 1) := by decide +kernel
theorem dX12_harms_57 : decode cX12_harms 57 = .ok (.getfield 220, 3) := by decide +kernel
theorem dX12_harms_60 : decode cX12_harms 60 = .ok (.iload_n 1, 1) := by decide +kernel
theorem dX12_harms_61 : decode cX12_harms 61 = .ok (.aload_n 0, 1) := by decide +kernel
theorem dX12_harms_62 : decode cX12_harms 62 = .ok (.getfield 163, 3) := by decide +kernel
theorem dX12_harms_65 : decode cX12_harms 65 = .ok (.iload_n 1, 1) := by decide +kernel
theorem dX12_harms_66 : decode cX12_harms 66 = .ok (.iaload, 1) := by decide +kernel
theorem dX12_harms_67 : decode cX12_harms 67 = .ok (.iastore, 1) := by decide +kernel
theorem dX12_harms_68 : decode cX12_harms 68 = .ok (.aload_n 0, 1) := by decide +kernel
theorem dX12_harms_69 : decode cX12_harms 69 = .ok (.getfield 223, 3) := by decide +kernel
theorem dX12_harms_72 : decode cX12_harms 72 = .ok (.iload_n 1, 1) := by decide +kernel
theorem dX12_harms_73 : decode cX12_harms 73 = .ok (.aload_n 0, 1) := by decide +kernel
theorem dX12_harms_74 : decode cX12_harms 74 = .ok (.getfield 166, 3) := by decide +kernel
theorem dX12_harms_77 : decode cX12_harms 77 = .ok (.iload_n 1, 1) := by decide +kernel
theorem dX12_harms_78 : decode cX12_harms 78 = .ok (.iaload, 1) := by decide +kernel
theorem dX12_harms_79 : decode cX12_harms 79 = .ok (.iastore, 1) := by decide +kernel
theorem dX12_harms_80 : decode cX12_harms 80 = .ok (.aload_n 0, 1) := by decide +kernel
theorem dX12_harms_81 : decode cX12_harms 81 = .ok (.getfield 169, 3) := by decide +kernel
theorem dX12_harms_84 : decode cX12_harms 84 = .ok (.iload_n 1, 1) := by decide +kernel
theorem dX12_harms_85 : decode cX12_harms 85 = .ok (.iaload, 1) := by decide +kernel
theorem dX12_harms_86 : decode cX12_harms 86 = .ok (.iconst 2, 1) := by decide +kernel
theorem dX12_harms_87 : decode cX12_harms 87 = .ok (.if_icmp .ge 58, 3) := by decide +kernel
theorem dX12_harms_90 : decode cX12_harms 90 = .ok (.aload_n 0, 1) := by decide +kernel
theorem dX12_harms_91 : decode cX12_harms 91 = .ok (.getfield 163, 3) := by decide +kernel
theorem dX12_harms_94 : decode cX12_harms 94 = .ok (.iload_n 1, 1) := by decide +kernel
theorem dX12_harms_95 : decode cX12_harms 95 = .ok (.bipush 32, 2) := by decide +kernel
theorem dX12_harms_97 : decode cX12_harms 97 = .ok (.aload_n 0, 1) := by decide +kernel
theorem dX12_harms_98 : decode cX12_harms 98 = .ok (.getfield 169, 3) := by decide +kernel
theorem dX12_harms_101 : decode cX12_harms 101 = .ok (.iload_n 1, 1) := by decide +kernel
theorem dX12_harms_102 : decode cX12_harms 102 = .ok (.iaload, 1) := by decide +kernel
theorem dX12_harms_103 : decode cX12_harms 103 = .ok (.ifCond .ne 14, 3) := by decide +kernel
theorem dX12_harms_106 : decode cX12_harms 106 = .ok (.aload_n 0, 1) := by decide +kernel
theorem dX12_harms_107 : decode cX12_harms 107 = .ok (.getfield 163, 3) := by decide +kernel
theorem dX12_harms_110 : decode cX12_harms 110 = .ok (.iload_n 1, 1) := by decide +kernel
theorem dX12_harms_111 : decode cX12_harms 111 = .ok (.iaload, 1) := by decide +kernel
theorem dX12_harms_112 : decode cX12_harms 112 = .ok (.iconst 2, 1) := by decide +kernel
theorem dX12_harms_113 : decode cX12_harms 113 = .ok (.idiv, 1) := by decide +kernel
theorem dX12_harms_114 : decode cX12_harms 114 = .ok (.goto 15, 3) := by decide +kernel
theorem dX12_harms_117 : decode cX12_harms 117 = .ok (.bipush 7, 2) := by decide +kernel
theorem dX12_harms_119 : decode cX12_harms 119 = .ok (.aload_n 0, 1) := by decide +kernel
theorem dX12_harms_120 : decode cX12_harms 120 = .ok (.getfield 163, 3) := by decide +kernel
theorem dX12_harms_123 : decode cX12_harms 123 = .ok (.iload_n 1, 1) := by decide +kernel
theorem dX12_harms_124 : decode cX12_harms 124 = .ok (.iaload, 1) := by decide +kernel
theorem dX12_harms_125 : decode cX12_harms 125 = .ok (.imul, 1) := by decide +kernel
theorem dX12_harms_126 : decode cX12_harms 126 = .ok (.bipush 10, 2) := by decide +kernel
theorem dX12_harms_128 : decode cX12_harms 128 = .ok (.idiv, 1) := by decide +kernel
theorem dX12_harms_129 : decode cX12_harms 129 = .ok (.invokestatic 288, 3) := by decide +kernel
theorem dX12_harms_132 : decode cX12_harms 132 = .ok (.iastore, 1) := by decide +kernel
theorem dX12_harms_133 : decode cX12_harms 133 = .ok (.aload_n 0, 1) := by decide +kernel
theorem dX12_harms_134 : decode cX12_harms 134 = .ok (.getfield 166, 3) := by decide +kernel
theorem dX12_harms_137 : decode cX12_harms 137 = .ok (.iload_n 1, 1) := by decide +kernel
theorem dX12_harms_138 : decode cX12_harms 138 = .ok (.aload_n 0, 1) := by decide +kernel
theorem dX12_harms_139 : decode cX12_harms 139 = .ok (.getfield 163, 3) := by decide +kernel
theorem dX12_harms_142 : decode cX12_harms 142 = .ok (.iload_n 1, 1) := by decide +kernel
theorem dX12_harms_143 : decode cX12_harms 143 = .ok (.iaload, 1) := by decide +kernel
theorem dX12_harms_144 : decode cX12_harms 144 = .ok (.iastore, 1) := by decide +kernel
theorem dX12_harms_145 : decode cX12_harms 145 = .ok (.return_, 1) := by decide +kernel
theorem dX12_lands_0 : decode cX12_lands 0 = .ok (.aload_n 0, 1) := by decide +kernel
theorem dX12_lands_1 : decode cX12_lands 1 = .ok (.getfield 139, 3) := by decide +kernel
theorem dX12_lands_4 : decode cX12_lands 4 = .ok (.iload_n 1, 1) := by decide +kernel
theorem dX12_lands_5 : decode cX12_lands 5 = .ok (.iload_n 2, 1) := by decide +kernel
theorem dX12_lands_6 : decode cX12_lands 6 = .ok (.iastore, 1) := by decide +kernel
theorem dX12_lands_7 : decode cX12_lands 7 = .ok (.iconst 0, 1) := by decide +kernel
theorem dX12_lands_8 : decode cX12_lands 8 = .ok (.istore_n 3, 1) := by decide +kernel
theorem dX12_lands_9 : decode cX12_lands 9 = .ok (.iload_n 3, 1) := by decide +kernel
theorem dX12_lands_10 : decode cX12_lands 10 = .ok (.aload_n 0, 1) := by decide +kernel
theorem dX12_lands_11 : decode cX12_lands 11 = .ok (.getfield 136, 3) := by decide +kernel
theorem dX12_lands_14 : decode cX12_lands 14 = .ok (.iload_n 1, 1) := by decide +kernel
theorem dX12_lands_15 : decode cX12_lands 15 = .ok (.iaload, 1) := by decide +kernel
theorem dX12_lands_16 : decode cX12_lands 16 = .ok (.if_icmp .ge 37, 3) := by decide +kernel
theorem dX12_lands_19 : decode cX12_lands 19 = .ok (.aload_n 0, 1) := by decide +kernel
theorem dX12_lands_20 : decode cX12_lands 20 = .ok (.getfield 121, 3) := by decide +kernel
theorem dX12_lands_23 : decode cX12_lands 23 = .ok (.sipush 200, 3) := by decide +kernel
theorem dX12_lands_26 : decode cX12_lands 26 = .ok (.aload_n 0, 1) := by decide +kernel
theorem dX12_lands_27 : decode cX12_lands 27 = .ok (.getfield 130, 3) := by decide +kernel
theorem dX12_lands_30 : decode cX12_lands 30 = .ok (.iload_n 1, 1) := by decide +kernel
theorem dX12_lands_31 : decode cX12_lands 31 = .ok (.iaload, 1) := by decide +kernel
theorem dX12_lands_32 : decode cX12_lands 32 = .ok (.imul, 1) := by decide +kernel
theorem dX12_lands_33 : decode cX12_lands 33 = .ok (.aload_n 0, 1) := by decide +kernel
theorem dX12_lands_34 : decode cX12_lands 34 = .ok (.getfield 133, 3) := by decide +kernel
theorem dX12_lands_37 : decode cX12_lands 37 = .ok (.iload_n 1, 1) := by decide +kernel
theorem dX12_lands_38 : decode cX12_lands 38 = .ok (.iaload, 1) := by decide +kernel
theorem dX12_lands_39 : decode cX12_lands 39 = .ok (.iadd, 1) := by decide +kernel
theorem dX12_lands_40 : decode cX12_lands 40 = .ok (.iload_n 3, 1) := by decide +kernel
theorem dX12_lands_41 : decode cX12_lands 41 = .ok (.iadd, 1) := by decide +kernel
theorem dX12_lands_42 : decode cX12_lands 42 = .ok (.dup2, 1) := by decide +kernel
theorem dX12_lands_43 : decode cX12_lands 43 = .ok (.iaload, 1) := by decide +kernel
theorem dX12_lands_44 : decode cX12_lands 44 = .ok (.iconst 1, 1) := by decide +kernel
theorem dX12_lands_45 : decode cX12_lands 45 = .ok (.isub, 1) := by decide +kernel
theorem dX12_lands_46 : decode cX12_lands 46 = .ok (.iastore, 1) := by decide +kernel
theorem dX12_lands_47 : decode cX12_lands 47 = .ok (.iinc 3 1, 3) := by decide +kernel
theorem dX12_lands_50 : decode cX12_lands 50 = .ok (.goto (-41), 3) := by decide +kernel
theorem dX12_lands_53 : decode cX12_lands 53 = .ok (.return_, 1) := by decide +kernel
theorem dX12_loses_0 : decode cX12_loses 0 = .ok (.aload_n 0, 1) := by decide +kernel
theorem dX12_loses_1 : decode cX12_loses 1 = .ok (.iload_n 1, 1) := by decide +kernel
theorem dX12_loses_2 : decode cX12_loses 2 = .ok (.iconst 2, 1) := by decide +kernel
theorem dX12_loses_3 : decode cX12_loses 3 = .ok (.invokevirtual 329, 3) := by decide +kernel
theorem dX12_loses_6 : decode cX12_loses 6 = .ok (.aload_n 0, 1) := by decide +kernel
theorem dX12_loses_7 : decode cX12_loses 7 = .ok (.getfield 229, 3) := by decide +kernel
theorem dX12_loses_10 : decode cX12_loses 10 = .ok (.iconst 0, 1) := by decide +kernel
theorem dX12_loses_11 : decode cX12_loses 11 = .ok (.dup2, 1) := by decide +kernel
theorem dX12_loses_12 : decode cX12_loses 12 = .ok (.iaload, 1) := by decide +kernel
theorem dX12_loses_13 : decode cX12_loses 13 = .ok (.iconst 1, 1) := by decide +kernel
theorem dX12_loses_14 : decode cX12_loses 14 = .ok (.iadd, 1) := by decide +kernel
theorem dX12_loses_15 : decode cX12_loses 15 = .ok (.iastore, 1) := by decide +kernel
theorem dX12_loses_16 : decode cX12_loses 16 = .ok (.aload_n 0, 1) := by decide +kernel
theorem dX12_loses_17 : decode cX12_loses 17 = .ok (.aload_n 0, 1) := by decide +kernel
theorem dX12_loses_18 : decode cX12_loses 18 = .ok (.getfield 124, 3) := by decide +kernel
theorem dX12_loses_21 : decode cX12_loses 21 = .ok (.iload_n 1, 1) := by decide +kernel
theorem dX12_loses_22 : decode cX12_loses 22 = .ok (.iaload, 1) := by decide +kernel
theorem dX12_loses_23 : decode cX12_loses 23 = .ok (.iload_n 1, 1) := by decide +kernel
theorem dX12_loses_24 : decode cX12_loses 24 = .ok (.iconst 1, 1) := by decide +kernel
theorem dX12_loses_25 : decode cX12_loses 25 = .ok (.invokevirtual 332, 3) := by decide +kernel
theorem dX12_loses_28 : decode cX12_loses 28 = .ok (.return_, 1) := by decide +kernel
theorem dX12_losesByOrder_0 : decode cX12_losesByOrder 0 = .ok (.iconst 0, 1) := by decide +kernel
theorem dX12_losesByOrder_1 : decode cX12_losesByOrder 1 = .ok (.istore_n 2, 1) := by decide +kernel
theorem dX12_losesByOrder_2 : decode cX12_losesByOrder 2 = .ok (.iload_n 2, 1) := by decide +kernel
theorem dX12_losesByOrder_3 : decode cX12_losesByOrder 3 = .ok (.aload_n 0, 1) := by decide +kernel
theorem dX12_losesByOrder_4 : decode cX12_losesByOrder 4 = .ok (.getfield 313, 3) := by decide +kernel
theorem dX12_losesByOrder_7 : decode cX12_losesByOrder 7 = .ok (.if_icmp .ge 50, 3) := by decide +kernel
theorem dX12_losesByOrder_10 : decode cX12_losesByOrder 10 = .ok (.aload_n 0, 1) := by decide +kernel
theorem dX12_losesByOrder_11 : decode cX12_losesByOrder 11 = .ok (.getfield 124, 3) := by decide +kernel
theorem dX12_losesByOrder_14 : decode cX12_losesByOrder 14 = .ok (.iload_n 2, 1) := by decide +kernel
theorem dX12_losesByOrder_15 : decode cX12_losesByOrder 15 = .ok (.iaload, 1) := by decide +kernel
theorem dX12_losesByOrder_16 : decode cX12_losesByOrder 16 = .ok (.iload_n 1, 1) := by decide +kernel
theorem dX12_losesByOrder_17 : decode cX12_losesByOrder 17 = .ok (.if_icmp .ne 34, 3) := by decide +kernel
theorem dX12_losesByOrder_20 : decode cX12_losesByOrder 20 = .ok (.aload_n 0, 1) := by decide +kernel
theorem dX12_losesByOrder_21 : decode cX12_losesByOrder 21 = .ok (.getfield 139, 3) := by decide +kernel
theorem dX12_losesByOrder_24 : decode cX12_losesByOrder 24 = .ok (.iload_n 2, 1) := by decide +kernel
theorem dX12_losesByOrder_25 : decode cX12_losesByOrder 25 = .ok (.iaload, 1) := by decide +kernel
theorem dX12_losesByOrder_26 : decode cX12_losesByOrder 26 = .ok (.ifCond .ne 25, 3) := by decide +kernel
theorem dX12_losesByOrder_29 : decode cX12_losesByOrder 29 = .ok (.aload_n 0, 1) := by decide +kernel
theorem dX12_losesByOrder_30 : decode cX12_losesByOrder 30 = .ok (.getfield 193, 3) := by decide +kernel
theorem dX12_losesByOrder_33 : decode cX12_losesByOrder 33 = .ok (.iload_n 1, 1) := by decide +kernel
theorem dX12_losesByOrder_34 : decode cX12_losesByOrder 34 = .ok (.iaload, 1) := by decide +kernel
theorem dX12_losesByOrder_35 : decode cX12_losesByOrder 35 = .ok (.aload_n 0, 1) := by decide +kernel
theorem dX12_losesByOrder_36 : decode cX12_losesByOrder 36 = .ok (.getfield 157, 3) := by decide +kernel
theorem dX12_losesByOrder_39 : decode cX12_losesByOrder 39 = .ok (.iload_n 2, 1) := by decide +kernel
theorem dX12_losesByOrder_40 : decode cX12_losesByOrder 40 = .ok (.iaload, 1) := by decide +kernel
theorem dX12_losesByOrder_41 : decode cX12_losesByOrder 41 = .ok (.iconst 3, 1) := by decide +kernel
theorem dX12_losesByOrder_42 : decode cX12_losesByOrder 42 = .ok (.iadd, 1) := by decide +kernel
theorem dX12_losesByOrder_43 : decode cX12_losesByOrder 43 = .ok (.if_icmp .lt 8, 3) := by decide +kernel
theorem dX12_losesByOrder_46 : decode cX12_losesByOrder 46 = .ok (.aload_n 0, 1) := by decide +kernel
theorem dX12_losesByOrder_47 : decode cX12_losesByOrder 47 = .ok (.iload_n 2, 1) := by decide +kernel
theorem dX12_losesByOrder_48 : decode cX12_losesByOrder 48 = .ok (.invokevirtual 336, 3) := by decide +kernel
theorem dX12_losesByOrder_51 : decode cX12_losesByOrder 51 = .ok (.iinc 2 1, 3) := by decide +kernel
theorem dX12_losesByOrder_54 : decode cX12_losesByOrder 54 = .ok (.goto (-52), 3) := by decide +kernel
theorem dX12_losesByOrder_57 : decode cX12_losesByOrder 57 = .ok (.return_, 1) := by decide +kernel
theorem dX12_losesByTime_0 : decode cX12_losesByTime 0 = .ok (.iconst 0, 1) := by decide +kernel
theorem dX12_losesByTime_1 : decode cX12_losesByTime 1 = .ok (.istore_n 2, 1) := by decide +kernel
theorem dX12_losesByTime_2 : decode cX12_losesByTime 2 = .ok (.iload_n 2, 1) := by decide +kernel
theorem dX12_losesByTime_3 : decode cX12_losesByTime 3 = .ok (.aload_n 0, 1) := by decide +kernel
theorem dX12_losesByTime_4 : decode cX12_losesByTime 4 = .ok (.getfield 313, 3) := by decide +kernel
theorem dX12_losesByTime_7 : decode cX12_losesByTime 7 = .ok (.if_icmp .ge 92, 3) := by decide +kernel
theorem dX12_losesByTime_10 : decode cX12_losesByTime 10 = .ok (.iconst 1, 1) := by decide +kernel
theorem dX12_losesByTime_11 : decode cX12_losesByTime 11 = .ok (.bipush 9, 2) := by decide +kernel
theorem dX12_losesByTime_13 : decode cX12_losesByTime 13 = .ok (.aload_n 0, 1) := by decide +kernel
theorem dX12_losesByTime_14 : decode cX12_losesByTime 14 = .ok (.getfield 172, 3) := by decide +kernel
theorem dX12_losesByTime_17 : decode cX12_losesByTime 17 = .ok (.iload_n 1, 1) := by decide +kernel
theorem dX12_losesByTime_18 : decode cX12_losesByTime 18 = .ok (.iaload, 1) := by decide +kernel
theorem dX12_losesByTime_19 : decode cX12_losesByTime 19 = .ok (.bipush 8, 2) := by decide +kernel
theorem dX12_losesByTime_21 : decode cX12_losesByTime 21 = .ok (.idiv, 1) := by decide +kernel
theorem dX12_losesByTime_22 : decode cX12_losesByTime 22 = .ok (.aload_n 0, 1) := by decide +kernel
theorem dX12_losesByTime_23 : decode cX12_losesByTime 23 = .ok (.getfield 181, 3) := by decide +kernel
theorem dX12_losesByTime_26 : decode cX12_losesByTime 26 = .ok (.iload_n 1, 1) := by decide +kernel
theorem dX12_losesByTime_27 : decode cX12_losesByTime 27 = .ok (.iaload, 1) := by decide +kernel
theorem dX12_losesByTime_28 : decode cX12_losesByTime 28 = .ok (.invokestatic 288, 3) := by decide +kernel
theorem dX12_losesByTime_31 : decode cX12_losesByTime 31 = .ok (.imul, 1) := by decide +kernel
theorem dX12_losesByTime_32 : decode cX12_losesByTime 32 = .ok (.bipush 8, 2) := by decide +kernel
theorem dX12_losesByTime_34 : decode cX12_losesByTime 34 = .ok (.idiv, 1) := by decide +kernel
theorem dX12_losesByTime_35 : decode cX12_losesByTime 35 = .ok (.invokestatic 288, 3) := by decide +kernel
theorem dX12_losesByTime_38 : decode cX12_losesByTime 38 = .ok (.istore_n 3, 1) := by decide +kernel
theorem dX12_losesByTime_39 : decode cX12_losesByTime 39 = .ok (.aload_n 0, 1) := by decide +kernel
theorem dX12_losesByTime_40 : decode cX12_losesByTime 40 = .ok (.getfield 124, 3) := by decide +kernel
theorem dX12_losesByTime_43 : decode cX12_losesByTime 43 = .ok (.iload_n 2, 1) := by decide +kernel
theorem dX12_losesByTime_44 : decode cX12_losesByTime 44 = .ok (.iaload, 1) := by decide +kernel
theorem dX12_losesByTime_45 : decode cX12_losesByTime 45 = .ok (.iload_n 1, 1) := by decide +kernel
theorem dX12_losesByTime_46 : decode cX12_losesByTime 46 = .ok (.if_icmp .ne 47, 3) := by decide +kernel
theorem dX12_losesByTime_49 : decode cX12_losesByTime 49 = .ok (.aload_n 0, 1) := by decide +kernel
theorem dX12_losesByTime_50 : decode cX12_losesByTime 50 = .ok (.getfield 139, 3) := by decide +kernel
theorem dX12_losesByTime_53 : decode cX12_losesByTime 53 = .ok (.iload_n 2, 1) := by decide +kernel
theorem dX12_losesByTime_54 : decode cX12_losesByTime 54 = .ok (.iaload, 1) := by decide +kernel
theorem dX12_losesByTime_55 : decode cX12_losesByTime 55 = .ok (.ifCond .ne 38, 3) := by decide +kernel
theorem dX12_losesByTime_58 : decode cX12_losesByTime 58 = .ok (.aload_n 0, 1) := by decide +kernel
theorem dX12_losesByTime_59 : decode cX12_losesByTime 59 = .ok (.getfield 193, 3) := by decide +kernel
theorem dX12_losesByTime_62 : decode cX12_losesByTime 62 = .ok (.iload_n 1, 1) := by decide +kernel
theorem dX12_losesByTime_63 : decode cX12_losesByTime 63 = .ok (.iaload, 1) := by decide +kernel
theorem dX12_losesByTime_64 : decode cX12_losesByTime 64 = .ok (.aload_n 0, 1) := by decide +kernel
theorem dX12_losesByTime_65 : decode cX12_losesByTime 65 = .ok (.getfield 157, 3) := by decide +kernel
theorem dX12_losesByTime_68 : decode cX12_losesByTime 68 = .ok (.iload_n 2, 1) := by decide +kernel
theorem dX12_losesByTime_69 : decode cX12_losesByTime 69 = .ok (.iaload, 1) := by decide +kernel
theorem dX12_losesByTime_70 : decode cX12_losesByTime 70 = .ok (.if_icmp .le 23, 3) := by decide +kernel
theorem dX12_losesByTime_73 : decode cX12_losesByTime 73 = .ok (.aload_n 0, 1) := by decide +kernel
theorem dX12_losesByTime_74 : decode cX12_losesByTime 74 = .ok (.getfield 246, 3) := by decide +kernel
theorem dX12_losesByTime_77 : decode cX12_losesByTime 77 = .ok (.aload_n 0, 1) := by decide +kernel
theorem dX12_losesByTime_78 : decode cX12_losesByTime 78 = .ok (.getfield 127, 3) := by decide +kernel
theorem dX12_losesByTime_81 : decode cX12_losesByTime 81 = .ok (.iload_n 2, 1) := by decide +kernel
theorem dX12_losesByTime_82 : decode cX12_losesByTime 82 = .ok (.iaload, 1) := by decide +kernel
theorem dX12_losesByTime_83 : decode cX12_losesByTime 83 = .ok (.isub, 1) := by decide +kernel
theorem dX12_losesByTime_84 : decode cX12_losesByTime 84 = .ok (.iload_n 3, 1) := by decide +kernel
theorem dX12_losesByTime_85 : decode cX12_losesByTime 85 = .ok (.if_icmp .lt 8, 3) := by decide +kernel
theorem dX12_losesByTime_88 : decode cX12_losesByTime 88 = .ok (.aload_n 0, 1) := by decide +kernel
theorem dX12_losesByTime_89 : decode cX12_losesByTime 89 = .ok (.iload_n 2, 1) := by decide +kernel
theorem dX12_losesByTime_90 : decode cX12_losesByTime 90 = .ok (.invokevirtual 336, 3) := by decide +kernel
theorem dX12_losesByTime_93 : decode cX12_losesByTime 93 = .ok (.iinc 2 1, 3) := by decide +kernel
theorem dX12_losesByTime_96 : decode cX12_losesByTime 96 = .ok (.goto (-94), 3) := by decide +kernel
theorem dX12_losesByTime_99 : decode cX12_losesByTime 99 = .ok (.return_, 1) := by decide +kernel
theorem dX12_hearsOf_0 : decode cX12_hearsOf 0 = .ok (.aload_n 0, 1) := by decide +kernel
theorem dX12_hearsOf_1 : decode cX12_hearsOf 1 = .ok (.getfield 124, 3) := by decide +kernel
theorem dX12_hearsOf_4 : decode cX12_hearsOf 4 = .ok (.iload_n 1, 1) := by decide +kernel
theorem dX12_hearsOf_5 : decode cX12_hearsOf 5 = .ok (.iaload, 1) := by decide +kernel
theorem dX12_hearsOf_6 : decode cX12_hearsOf 6 = .ok (.istore_n 2, 1) := by decide +kernel
theorem dX12_hearsOf_7 : decode cX12_hearsOf 7 = .ok (.aload_n 0, 1) := by decide +kernel
theorem dX12_hearsOf_8 : decode cX12_hearsOf 8 = .ok (.getfield 139, 3) := by decide +kernel
theorem dX12_hearsOf_11 : decode cX12_hearsOf 11 = .ok (.iload_n 1, 1) := by decide +kernel
theorem dX12_hearsOf_12 : decode cX12_hearsOf 12 = .ok (.iaload, 1) := by decide +kernel
theorem dX12_hearsOf_13 : decode cX12_hearsOf 13 = .ok (.ifCond .eq 14, 3) := by decide +kernel
theorem dX12_hearsOf_16 : decode cX12_hearsOf 16 = .ok (.aload_n 0, 1) := by decide +kernel
theorem dX12_hearsOf_17 : decode cX12_hearsOf 17 = .ok (.getfield 139, 3) := by decide +kernel
theorem dX12_hearsOf_20 : decode cX12_hearsOf 20 = .ok (.iload_n 1, 1) := by decide +kernel
theorem dX12_hearsOf_21 : decode cX12_hearsOf 21 = .ok (.iaload, 1) := by decide +kernel
theorem dX12_hearsOf_22 : decode cX12_hearsOf 22 = .ok (.iconst 2, 1) := by decide +kernel
theorem dX12_hearsOf_23 : decode cX12_hearsOf 23 = .ok (.if_icmp .eq 4, 3) := by decide +kernel
theorem dX12_hearsOf_26 : decode cX12_hearsOf 26 = .ok (.return_, 1) := by decide +kernel
theorem dX12_hearsOf_27 : decode cX12_hearsOf 27 = .ok (.aload_n 0, 1) := by decide +kernel
theorem dX12_hearsOf_28 : decode cX12_hearsOf 28 = .ok (.getfield 193, 3) := by decide +kernel
theorem dX12_hearsOf_31 : decode cX12_hearsOf 31 = .ok (.iload_n 2, 1) := by decide +kernel
theorem dX12_hearsOf_32 : decode cX12_hearsOf 32 = .ok (.aload_n 0, 1) := by decide +kernel
theorem dX12_hearsOf_33 : decode cX12_hearsOf 33 = .ok (.getfield 193, 3) := by decide +kernel
theorem dX12_hearsOf_36 : decode cX12_hearsOf 36 = .ok (.iload_n 2, 1) := by decide +kernel
theorem dX12_hearsOf_37 : decode cX12_hearsOf 37 = .ok (.iaload, 1) := by decide +kernel
theorem dX12_hearsOf_38 : decode cX12_hearsOf 38 = .ok (.aload_n 0, 1) := by decide +kernel
theorem dX12_hearsOf_39 : decode cX12_hearsOf 39 = .ok (.getfield 157, 3) := by decide +kernel
theorem dX12_hearsOf_42 : decode cX12_hearsOf 42 = .ok (.iload_n 1, 1) := by decide +kernel
theorem dX12_hearsOf_43 : decode cX12_hearsOf 43 = .ok (.iaload, 1) := by decide +kernel
theorem dX12_hearsOf_44 : decode cX12_hearsOf 44 = .ok (.invokestatic 288, 3) := by decide +kernel
theorem dX12_hearsOf_47 : decode cX12_hearsOf 47 = .ok (.iastore, 1) := by decide +kernel
theorem dX12_hearsOf_48 : decode cX12_hearsOf 48 = .ok (.iconst 0, 1) := by decide +kernel
theorem dX12_hearsOf_49 : decode cX12_hearsOf 49 = .ok (.istore_n 3, 1) := by decide +kernel
theorem dX12_hearsOf_50 : decode cX12_hearsOf 50 = .ok (.iload_n 3, 1) := by decide +kernel
theorem dX12_hearsOf_51 : decode cX12_hearsOf 51 = .ok (.aload_n 0, 1) := by decide +kernel
theorem dX12_hearsOf_52 : decode cX12_hearsOf 52 = .ok (.getfield 136, 3) := by decide +kernel
theorem dX12_hearsOf_55 : decode cX12_hearsOf 55 = .ok (.iload_n 1, 1) := by decide +kernel
theorem dX12_hearsOf_56 : decode cX12_hearsOf 56 = .ok (.iaload, 1) := by decide +kernel
theorem dX12_hearsOf_57 : decode cX12_hearsOf 57 = .ok (.if_icmp .ge 34, 3) := by decide +kernel
theorem dX12_hearsOf_60 : decode cX12_hearsOf 60 = .ok (.aload_n 0, 1) := by decide +kernel
theorem dX12_hearsOf_61 : decode cX12_hearsOf 61 = .ok (.getfield 118, 3) := by decide +kernel
theorem dX12_hearsOf_64 : decode cX12_hearsOf 64 = .ok (.sipush 200, 3) := by decide +kernel
theorem dX12_hearsOf_67 : decode cX12_hearsOf 67 = .ok (.aload_n 0, 1) := by decide +kernel
theorem dX12_hearsOf_68 : decode cX12_hearsOf 68 = .ok (.getfield 130, 3) := by decide +kernel
theorem dX12_hearsOf_71 : decode cX12_hearsOf 71 = .ok (.iload_n 1, 1) := by decide +kernel
theorem dX12_hearsOf_72 : decode cX12_hearsOf 72 = .ok (.iaload, 1) := by decide +kernel
theorem dX12_hearsOf_73 : decode cX12_hearsOf 73 = .ok (.imul, 1) := by decide +kernel
theorem dX12_hearsOf_74 : decode cX12_hearsOf 74 = .ok (.aload_n 0, 1) := by decide +kernel
theorem dX12_hearsOf_75 : decode cX12_hearsOf 75 = .ok (.getfield 133, 3) := by decide +kernel
theorem dX12_hearsOf_78 : decode cX12_hearsOf 78 = .ok (.iload_n 1, 1) := by decide +kernel
theorem dX12_hearsOf_79 : decode cX12_hearsOf 79 = .ok (.iaload, 1) := by decide +kernel
theorem dX12_hearsOf_80 : decode cX12_hearsOf 80 = .ok (.iadd, 1) := by decide +kernel
theorem dX12_hearsOf_81 : decode cX12_hearsOf 81 = .ok (.iload_n 3, 1) := by decide +kernel
theorem dX12_hearsOf_82 : decode cX12_hearsOf 82 = .ok (.iadd, 1) := by decide +kernel
theorem dX12_hearsOf_83 : decode cX12_hearsOf 83 = .ok (.iconst 1, 1) := by decide +kernel
theorem dX12_hearsOf_84 : decode cX12_hearsOf 84 = .ok (.bastore, 1) := by decide +kernel
theorem dX12_hearsOf_85 : decode cX12_hearsOf 85 = .ok (.iinc 3 1, 3) := by decide +kernel
theorem dX12_hearsOf_88 : decode cX12_hearsOf 88 = .ok (.goto (-38), 3) := by decide +kernel
theorem dX12_hearsOf_91 : decode cX12_hearsOf 91 = .ok (.aload_n 0, 1) := by decide +kernel
theorem dX12_hearsOf_92 : decode cX12_hearsOf 92 = .ok (.getfield 139, 3) := by decide +kernel
theorem dX12_hearsOf_95 : decode cX12_hearsOf 95 = .ok (.iload_n 1, 1) := by decide +kernel
theorem dX12_hearsOf_96 : decode cX12_hearsOf 96 = .ok (.iaload, 1) := by decide +kernel
theorem dX12_hearsOf_97 : decode cX12_hearsOf 97 = .ok (.ifCond .ne 15, 3) := by decide +kernel
theorem dX12_hearsOf_100 : decode cX12_hearsOf 100 = .ok (.aload_n 0, 1) := by decide +kernel
theorem dX12_hearsOf_101 : decode cX12_hearsOf 101 = .ok (.iload_n 1, 1) := by decide +kernel
theorem dX12_hearsOf_102 : decode cX12_hearsOf 102 = .ok (.iconst 1, 1) := by decide +kernel
theorem dX12_hearsOf_103 : decode cX12_hearsOf 103 = .ok (.invokevirtual 329, 3) := by decide +kernel
theorem dX12_hearsOf_106 : decode cX12_hearsOf 106 = .ok (.aload_n 0, 1) := by decide +kernel
theorem dX12_hearsOf_107 : decode cX12_hearsOf 107 = .ok (.iload_n 1, 1) := by decide +kernel
theorem dX12_hearsOf_108 : decode cX12_hearsOf 108 = .ok (.invokevirtual 339, 3) := by decide +kernel
theorem dX12_hearsOf_111 : decode cX12_hearsOf 111 = .ok (.return_, 1) := by decide +kernel
theorem dX12_hearsOf_112 : decode cX12_hearsOf 112 = .ok (.aload_n 0, 1) := by decide +kernel
theorem dX12_hearsOf_113 : decode cX12_hearsOf 113 = .ok (.getfield 139, 3) := by decide +kernel
theorem dX12_hearsOf_116 : decode cX12_hearsOf 116 = .ok (.iload_n 1, 1) := by decide +kernel
theorem dX12_hearsOf_117 : decode cX12_hearsOf 117 = .ok (.iconst 3, 1) := by decide +kernel
theorem dX12_hearsOf_118 : decode cX12_hearsOf 118 = .ok (.iastore, 1) := by decide +kernel
theorem dX12_hearsOf_119 : decode cX12_hearsOf 119 = .ok (.aload_n 0, 1) := by decide +kernel
theorem dX12_hearsOf_120 : decode cX12_hearsOf 120 = .ok (.getfield 229, 3) := by decide +kernel
theorem dX12_hearsOf_123 : decode cX12_hearsOf 123 = .ok (.iconst 1, 1) := by decide +kernel
theorem dX12_hearsOf_124 : decode cX12_hearsOf 124 = .ok (.dup2, 1) := by decide +kernel
theorem dX12_hearsOf_125 : decode cX12_hearsOf 125 = .ok (.iaload, 1) := by decide +kernel
theorem dX12_hearsOf_126 : decode cX12_hearsOf 126 = .ok (.iconst 1, 1) := by decide +kernel
theorem dX12_hearsOf_127 : decode cX12_hearsOf 127 = .ok (.iadd, 1) := by decide +kernel
theorem dX12_hearsOf_128 : decode cX12_hearsOf 128 = .ok (.iastore, 1) := by decide +kernel
theorem dX12_hearsOf_129 : decode cX12_hearsOf 129 = .ok (.aload_n 0, 1) := by decide +kernel
theorem dX12_hearsOf_130 : decode cX12_hearsOf 130 = .ok (.getfield 217, 3) := by decide +kernel
theorem dX12_hearsOf_133 : decode cX12_hearsOf 133 = .ok (.iload_n 2, 1) := by decide +kernel
theorem dX12_hearsOf_134 : decode cX12_hearsOf 134 = .ok (.iaload, 1) := by decide +kernel
theorem dX12_hearsOf_135 : decode cX12_hearsOf 135 = .ok (.iload_n 1, 1) := by decide +kernel
theorem dX12_hearsOf_136 : decode cX12_hearsOf 136 = .ok (.if_icmp .ne 52, 3) := by decide +kernel
theorem dX12_hearsOf_139 : decode cX12_hearsOf 139 = .ok (.aload_n 0, 1) := by decide +kernel
theorem dX12_hearsOf_140 : decode cX12_hearsOf 140 = .ok (.getfield 217, 3) := by decide +kernel
theorem dX12_hearsOf_143 : decode cX12_hearsOf 143 = .ok (.iload_n 2, 1) := by decide +kernel
theorem dX12_hearsOf_144 : decode cX12_hearsOf 144 = .ok (.iconst (-1), 1) := by decide +kernel
theorem dX12_hearsOf_145 : decode cX12_hearsOf 145 = .ok (.iastore, 1) := by decide +kernel
theorem dX12_hearsOf_146 : decode cX12_hearsOf 146 = .ok (.aload_n 0, 1) := by decide +kernel
theorem dX12_hearsOf_147 : decode cX12_hearsOf 147 = .ok (.getfield 163, 3) := by decide +kernel
theorem dX12_hearsOf_150 : decode cX12_hearsOf 150 = .ok (.iload_n 2, 1) := by decide +kernel
theorem dX12_hearsOf_151 : decode cX12_hearsOf 151 = .ok (.aload_n 0, 1) := by decide +kernel
theorem dX12_hearsOf_152 : decode cX12_hearsOf 152 = .ok (.getfield 163, 3) := by decide +kernel
theorem dX12_hearsOf_155 : decode cX12_hearsOf 155 = .ok (.iload_n 2, 1) := by decide +kernel
theorem dX12_hearsOf_156 : decode cX12_hearsOf 156 = .ok (.iaload, 1) := by decide +kernel
theorem dX12_hearsOf_157 : decode cX12_hearsOf 157 = .ok (.aload_n 0, 1) := by decide +kernel
theorem dX12_hearsOf_158 : decode cX12_hearsOf 158 = .ok (.getfield 220, 3) := by decide +kernel
theorem dX12_hearsOf_161 : decode cX12_hearsOf 161 = .ok (.iload_n 2, 1) := by decide +kernel
theorem dX12_hearsOf_162 : decode cX12_hearsOf 162 = .ok (.iaload, 1) := by decide +kernel
theorem dX12_hearsOf_163 : decode cX12_hearsOf 163 = .ok (.invokestatic 288, 3) := by decide +kernel
theorem dX12_hearsOf_166 : decode cX12_hearsOf 166 = .ok (.iastore, 1) := by decide +kernel
theorem dX12_hearsOf_167 : decode cX12_hearsOf 167 = .ok (.aload_n 0, 1) := by decide +kernel
theorem dX12_hearsOf_168 : decode cX12_hearsOf 168 = .ok (.getfield 166, 3) := by decide +kernel
theorem dX12_hearsOf_171 : decode cX12_hearsOf 171 = .ok (.iload_n 2, 1) := by decide +kernel
theorem dX12_hearsOf_172 : decode cX12_hearsOf 172 = .ok (.aload_n 0, 1) := by decide +kernel
theorem dX12_hearsOf_173 : decode cX12_hearsOf 173 = .ok (.getfield 166, 3) := by decide +kernel
theorem dX12_hearsOf_176 : decode cX12_hearsOf 176 = .ok (.iload_n 2, 1) := by decide +kernel
theorem dX12_hearsOf_177 : decode cX12_hearsOf 177 = .ok (.iaload, 1) := by decide +kernel
theorem dX12_hearsOf_178 : decode cX12_hearsOf 178 = .ok (.aload_n 0, 1) := by decide +kernel
theorem dX12_hearsOf_179 : decode cX12_hearsOf 179 = .ok (.getfield 223, 3) := by decide +kernel
theorem dX12_hearsOf_182 : decode cX12_hearsOf 182 = .ok (.iload_n 2, 1) := by decide +kernel
theorem dX12_hearsOf_183 : decode cX12_hearsOf 183 = .ok (.iaload, 1) := by decide +kernel
theorem dX12_hearsOf_184 : decode cX12_hearsOf 184 = .ok (.invokestatic 288, 3) := by decide +kernel
theorem dX12_hearsOf_187 : decode cX12_hearsOf 187 = .ok (.iastore, 1) := by decide +kernel
theorem dX12_hearsOf_188 : decode cX12_hearsOf 188 = .ok (.return_, 1) := by decide +kernel
theorem dX12_hearsAck_0 : decode cX12_hearsAck 0 = .ok (.bipush 15, 2) := by decide +kernel
theorem dX12_hearsAck_2 : decode cX12_hearsAck 2 = .ok (.iload_n 1, 1) := by decide +kernel
theorem dX12_hearsAck_3 : decode cX12_hearsAck 3 = .ok (.imul, 1) := by decide +kernel
theorem dX12_hearsAck_4 : decode cX12_hearsAck 4 = .ok (.istore_n 2, 1) := by decide +kernel
theorem dX12_hearsAck_5 : decode cX12_hearsAck 5 = .ok (.aload_n 0, 1) := by decide +kernel
theorem dX12_hearsAck_6 : decode cX12_hearsAck 6 = .ok (.getfield 72, 3) := by decide +kernel
theorem dX12_hearsAck_9 : decode cX12_hearsAck 9 = .ok (.iload_n 2, 1) := by decide +kernel
theorem dX12_hearsAck_10 : decode cX12_hearsAck 10 = .ok (.iaload, 1) := by decide +kernel
theorem dX12_hearsAck_11 : decode cX12_hearsAck 11 = .ok (.ifCond .le 14, 3) := by decide +kernel
theorem dX12_hearsAck_14 : decode cX12_hearsAck 14 = .ok (.aload_n 0, 1) := by decide +kernel
theorem dX12_hearsAck_15 : decode cX12_hearsAck 15 = .ok (.getfield 72, 3) := by decide +kernel
theorem dX12_hearsAck_18 : decode cX12_hearsAck 18 = .ok (.iload_n 2, 1) := by decide +kernel
theorem dX12_hearsAck_19 : decode cX12_hearsAck 19 = .ok (.iconst 2, 1) := by decide +kernel
theorem dX12_hearsAck_20 : decode cX12_hearsAck 20 = .ok (.iadd, 1) := by decide +kernel
theorem dX12_hearsAck_21 : decode cX12_hearsAck 21 = .ok (.iaload, 1) := by decide +kernel
theorem dX12_hearsAck_22 : decode cX12_hearsAck 22 = .ok (.goto 4, 3) := by decide +kernel
theorem dX12_hearsAck_25 : decode cX12_hearsAck 25 = .ok (.iconst (-1), 1) := by decide +kernel
theorem dX12_hearsAck_26 : decode cX12_hearsAck 26 = .ok (.istore_n 3, 1) := by decide +kernel
theorem dX12_hearsAck_27 : decode cX12_hearsAck 27 = .ok (.iload_n 3, 1) := by decide +kernel
theorem dX12_hearsAck_28 : decode cX12_hearsAck 28 = .ok (.iconst (-1), 1) := by decide +kernel
theorem dX12_hearsAck_29 : decode cX12_hearsAck 29 = .ok (.if_icmp .eq 16, 3) := by decide +kernel
theorem dX12_hearsAck_32 : decode cX12_hearsAck 32 = .ok (.aload_n 0, 1) := by decide +kernel
theorem dX12_hearsAck_33 : decode cX12_hearsAck 33 = .ok (.getfield 139, 3) := by decide +kernel
theorem dX12_hearsAck_36 : decode cX12_hearsAck 36 = .ok (.iload_n 3, 1) := by decide +kernel
theorem dX12_hearsAck_37 : decode cX12_hearsAck 37 = .ok (.iaload, 1) := by decide +kernel
theorem dX12_hearsAck_38 : decode cX12_hearsAck 38 = .ok (.ifCond .ne 7, 3) := by decide +kernel
theorem dX12_hearsAck_41 : decode cX12_hearsAck 41 = .ok (.iconst 1, 1) := by decide +kernel
theorem dX12_hearsAck_42 : decode cX12_hearsAck 42 = .ok (.goto 4, 3) := by decide +kernel
theorem dX12_hearsAck_45 : decode cX12_hearsAck 45 = .ok (.iconst 0, 1) := by decide +kernel
theorem dX12_hearsAck_46 : decode cX12_hearsAck 46 = .ok (.istore 4, 2) := by decide +kernel
theorem dX12_hearsAck_48 : decode cX12_hearsAck 48 = .ok (.aload_n 0, 1) := by decide +kernel
theorem dX12_hearsAck_49 : decode cX12_hearsAck 49 = .ok (.getfield 72, 3) := by decide +kernel
theorem dX12_hearsAck_52 : decode cX12_hearsAck 52 = .ok (.iload_n 2, 1) := by decide +kernel
theorem dX12_hearsAck_53 : decode cX12_hearsAck 53 = .ok (.iaload, 1) := by decide +kernel
theorem dX12_hearsAck_54 : decode cX12_hearsAck 54 = .ok (.iconst 1, 1) := by decide +kernel
theorem dX12_hearsAck_55 : decode cX12_hearsAck 55 = .ok (.isub, 1) := by decide +kernel
theorem dX12_hearsAck_56 : decode cX12_hearsAck 56 = .ok (.istore 5, 2) := by decide +kernel
theorem dX12_hearsAck_58 : decode cX12_hearsAck 58 = .ok (.iload 5, 2) := by decide +kernel
theorem dX12_hearsAck_60 : decode cX12_hearsAck 60 = .ok (.ifCond .lt 54, 3) := by decide +kernel
theorem dX12_hearsAck_63 : decode cX12_hearsAck 63 = .ok (.aload_n 0, 1) := by decide +kernel
theorem dX12_hearsAck_64 : decode cX12_hearsAck 64 = .ok (.getfield 72, 3) := by decide +kernel
theorem dX12_hearsAck_67 : decode cX12_hearsAck 67 = .ok (.iload_n 2, 1) := by decide +kernel
theorem dX12_hearsAck_68 : decode cX12_hearsAck 68 = .ok (.iconst 1, 1) := by decide +kernel
theorem dX12_hearsAck_69 : decode cX12_hearsAck 69 = .ok (.iadd, 1) := by decide +kernel
theorem dX12_hearsAck_70 : decode cX12_hearsAck 70 = .ok (.iconst 2, 1) := by decide +kernel
theorem dX12_hearsAck_71 : decode cX12_hearsAck 71 = .ok (.iload 5, 2) := by decide +kernel
theorem dX12_hearsAck_73 : decode cX12_hearsAck 73 = .ok (.imul, 1) := by decide +kernel
theorem dX12_hearsAck_74 : decode cX12_hearsAck 74 = .ok (.iadd, 1) := by decide +kernel
theorem dX12_hearsAck_75 : decode cX12_hearsAck 75 = .ok (.iaload, 1) := by decide +kernel
theorem dX12_hearsAck_76 : decode cX12_hearsAck 76 = .ok (.istore 6, 2) := by decide +kernel
theorem dX12_hearsAck_78 : decode cX12_hearsAck 78 = .ok (.iload 6, 2) := by decide +kernel
theorem dX12_hearsAck_80 : decode cX12_hearsAck 80 = .ok (.aload_n 0, 1) := by decide +kernel
theorem dX12_hearsAck_81 : decode cX12_hearsAck 81 = .ok (.getfield 72, 3) := by decide +kernel
theorem dX12_hearsAck_84 : decode cX12_hearsAck 84 = .ok (.iload_n 2, 1) := by decide +kernel
theorem dX12_hearsAck_85 : decode cX12_hearsAck 85 = .ok (.iconst 2, 1) := by decide +kernel
theorem dX12_hearsAck_86 : decode cX12_hearsAck 86 = .ok (.iadd, 1) := by decide +kernel
theorem dX12_hearsAck_87 : decode cX12_hearsAck 87 = .ok (.iconst 2, 1) := by decide +kernel
theorem dX12_hearsAck_88 : decode cX12_hearsAck 88 = .ok (.iload 5, 2) := by decide +kernel
theorem dX12_hearsAck_90 : decode cX12_hearsAck 90 = .ok (.imul, 1) := by decide +kernel
theorem dX12_hearsAck_91 : decode cX12_hearsAck 91 = .ok (.iadd, 1) := by decide +kernel
theorem dX12_hearsAck_92 : decode cX12_hearsAck 92 = .ok (.iaload, 1) := by decide +kernel
theorem dX12_hearsAck_93 : decode cX12_hearsAck 93 = .ok (.if_icmp .gt 15, 3) := by decide +kernel
theorem dX12_hearsAck_96 : decode cX12_hearsAck 96 = .ok (.aload_n 0, 1) := by decide +kernel
theorem dX12_hearsAck_97 : decode cX12_hearsAck 97 = .ok (.iload 6, 2) := by decide +kernel
theorem dX12_hearsAck_99 : decode cX12_hearsAck 99 = .ok (.invokevirtual 342, 3) := by decide +kernel
theorem dX12_hearsAck_102 : decode cX12_hearsAck 102 = .ok (.iinc 6 1, 3) := by decide +kernel
theorem dX12_hearsAck_105 : decode cX12_hearsAck 105 = .ok (.goto (-27), 3) := by decide +kernel
theorem dX12_hearsAck_108 : decode cX12_hearsAck 108 = .ok (.iinc 5 (-1), 3) := by decide +kernel
theorem dX12_hearsAck_111 : decode cX12_hearsAck 111 = .ok (.goto (-53), 3) := by decide +kernel
theorem dX12_hearsAck_114 : decode cX12_hearsAck 114 = .ok (.iload 4, 2) := by decide +kernel
theorem dX12_hearsAck_116 : decode cX12_hearsAck 116 = .ok (.ifCond .eq 24, 3) := by decide +kernel
theorem dX12_hearsAck_119 : decode cX12_hearsAck 119 = .ok (.aload_n 0, 1) := by decide +kernel
theorem dX12_hearsAck_120 : decode cX12_hearsAck 120 = .ok (.aload_n 0, 1) := by decide +kernel
theorem dX12_hearsAck_121 : decode cX12_hearsAck 121 = .ok (.getfield 124, 3) := by decide +kernel
theorem dX12_hearsAck_124 : decode cX12_hearsAck 124 = .ok (.iload_n 3, 1) := by decide +kernel
theorem dX12_hearsAck_125 : decode cX12_hearsAck 125 = .ok (.iaload, 1) := by decide +kernel
theorem dX12_hearsAck_126 : decode cX12_hearsAck 126 = .ok (.aload_n 0, 1) := by decide +kernel
theorem dX12_hearsAck_127 : decode cX12_hearsAck 127 = .ok (.getfield 246, 3) := by decide +kernel
theorem dX12_hearsAck_130 : decode cX12_hearsAck 130 = .ok (.aload_n 0, 1) := by decide +kernel
theorem dX12_hearsAck_131 : decode cX12_hearsAck 131 = .ok (.getfield 127, 3) := by decide +kernel
theorem dX12_hearsAck_134 : decode cX12_hearsAck 134 = .ok (.iload_n 3, 1) := by decide +kernel
theorem dX12_hearsAck_135 : decode cX12_hearsAck 135 = .ok (.iaload, 1) := by decide +kernel
theorem dX12_hearsAck_136 : decode cX12_hearsAck 136 = .ok (.isub, 1) := by decide +kernel
theorem dX12_hearsAck_137 : decode cX12_hearsAck 137 = .ok (.invokevirtual 345, 3) := by decide +kernel
theorem dX12_hearsAck_140 : decode cX12_hearsAck 140 = .ok (.aload_n 0, 1) := by decide +kernel
theorem dX12_hearsAck_141 : decode cX12_hearsAck 141 = .ok (.getfield 72, 3) := by decide +kernel
theorem dX12_hearsAck_144 : decode cX12_hearsAck 144 = .ok (.iload_n 2, 1) := by decide +kernel
theorem dX12_hearsAck_145 : decode cX12_hearsAck 145 = .ok (.bipush 9, 2) := by decide +kernel
theorem dX12_hearsAck_147 : decode cX12_hearsAck 147 = .ok (.iadd, 1) := by decide +kernel
theorem dX12_hearsAck_148 : decode cX12_hearsAck 148 = .ok (.iaload, 1) := by decide +kernel
theorem dX12_hearsAck_149 : decode cX12_hearsAck 149 = .ok (.aload_n 0, 1) := by decide +kernel
theorem dX12_hearsAck_150 : decode cX12_hearsAck 150 = .ok (.getfield 348, 3) := by decide +kernel
theorem dX12_hearsAck_153 : decode cX12_hearsAck 153 = .ok (.if_icmp .le 28, 3) := by decide +kernel
theorem dX12_hearsAck_156 : decode cX12_hearsAck 156 = .ok (.aload_n 0, 1) := by decide +kernel
theorem dX12_hearsAck_157 : decode cX12_hearsAck 157 = .ok (.aload_n 0, 1) := by decide +kernel
theorem dX12_hearsAck_158 : decode cX12_hearsAck 158 = .ok (.getfield 72, 3) := by decide +kernel
theorem dX12_hearsAck_161 : decode cX12_hearsAck 161 = .ok (.iload_n 2, 1) := by decide +kernel
theorem dX12_hearsAck_162 : decode cX12_hearsAck 162 = .ok (.bipush 9, 2) := by decide +kernel
theorem dX12_hearsAck_164 : decode cX12_hearsAck 164 = .ok (.iadd, 1) := by decide +kernel
theorem dX12_hearsAck_165 : decode cX12_hearsAck 165 = .ok (.iaload, 1) := by decide +kernel
theorem dX12_hearsAck_166 : decode cX12_hearsAck 166 = .ok (.putfield 348, 3) := by decide +kernel
theorem dX12_hearsAck_169 : decode cX12_hearsAck 169 = .ok (.aload_n 0, 1) := by decide +kernel
theorem dX12_hearsAck_170 : decode cX12_hearsAck 170 = .ok (.aload_n 0, 1) := by decide +kernel
theorem dX12_hearsAck_171 : decode cX12_hearsAck 171 = .ok (.getfield 124, 3) := by decide +kernel
theorem dX12_hearsAck_174 : decode cX12_hearsAck 174 = .ok (.iload_n 3, 1) := by decide +kernel
theorem dX12_hearsAck_175 : decode cX12_hearsAck 175 = .ok (.iaload, 1) := by decide +kernel
theorem dX12_hearsAck_176 : decode cX12_hearsAck 176 = .ok (.iload_n 3, 1) := by decide +kernel
theorem dX12_hearsAck_177 : decode cX12_hearsAck 177 = .ok (.iconst 0, 1) := by decide +kernel
theorem dX12_hearsAck_178 : decode cX12_hearsAck 178 = .ok (.invokevirtual 332, 3) := by decide +kernel
theorem dX12_hearsAck_181 : decode cX12_hearsAck 181 = .ok (.iconst 0, 1) := by decide +kernel
theorem dX12_hearsAck_182 : decode cX12_hearsAck 182 = .ok (.istore 5, 2) := by decide +kernel
theorem dX12_hearsAck_184 : decode cX12_hearsAck 184 = .ok (.iload 5, 2) := by decide +kernel
theorem dX12_hearsAck_186 : decode cX12_hearsAck 186 = .ok (.iconst 4, 1) := by decide +kernel
theorem dX12_hearsAck_187 : decode cX12_hearsAck 187 = .ok (.if_icmp .ge 38, 3) := by decide +kernel
theorem dX12_hearsAck_190 : decode cX12_hearsAck 190 = .ok (.aload_n 0, 1) := by decide +kernel
theorem dX12_hearsAck_191 : decode cX12_hearsAck 191 = .ok (.getfield 109, 3) := by decide +kernel
theorem dX12_hearsAck_194 : decode cX12_hearsAck 194 = .ok (.iload 5, 2) := by decide +kernel
theorem dX12_hearsAck_196 : decode cX12_hearsAck 196 = .ok (.aload_n 0, 1) := by decide +kernel
theorem dX12_hearsAck_197 : decode cX12_hearsAck 197 = .ok (.getfield 109, 3) := by decide +kernel
theorem dX12_hearsAck_200 : decode cX12_hearsAck 200 = .ok (.iload 5, 2) := by decide +kernel
theorem dX12_hearsAck_202 : decode cX12_hearsAck 202 = .ok (.iaload, 1) := by decide +kernel
theorem dX12_hearsAck_203 : decode cX12_hearsAck 203 = .ok (.aload_n 0, 1) := by decide +kernel
theorem dX12_hearsAck_204 : decode cX12_hearsAck 204 = .ok (.getfield 72, 3) := by decide +kernel
theorem dX12_hearsAck_207 : decode cX12_hearsAck 207 = .ok (.iload_n 2, 1) := by decide +kernel
theorem dX12_hearsAck_208 : decode cX12_hearsAck 208 = .ok (.bipush 10, 2) := by decide +kernel
theorem dX12_hearsAck_210 : decode cX12_hearsAck 210 = .ok (.iadd, 1) := by decide +kernel
theorem dX12_hearsAck_211 : decode cX12_hearsAck 211 = .ok (.iload 5, 2) := by decide +kernel
theorem dX12_hearsAck_213 : decode cX12_hearsAck 213 = .ok (.iadd, 1) := by decide +kernel
theorem dX12_hearsAck_214 : decode cX12_hearsAck 214 = .ok (.iaload, 1) := by decide +kernel
theorem dX12_hearsAck_215 : decode cX12_hearsAck 215 = .ok (.invokestatic 288, 3) := by decide +kernel
theorem dX12_hearsAck_218 : decode cX12_hearsAck 218 = .ok (.iastore, 1) := by decide +kernel
theorem dX12_hearsAck_219 : decode cX12_hearsAck 219 = .ok (.iinc 5 1, 3) := by decide +kernel
theorem dX12_hearsAck_222 : decode cX12_hearsAck 222 = .ok (.goto (-38), 3) := by decide +kernel
theorem dX12_hearsAck_225 : decode cX12_hearsAck 225 = .ok (.aload_n 0, 1) := by decide +kernel
theorem dX12_hearsAck_226 : decode cX12_hearsAck 226 = .ok (.aload_n 0, 1) := by decide +kernel
theorem dX12_hearsAck_227 : decode cX12_hearsAck 227 = .ok (.getfield 112, 3) := by decide +kernel
theorem dX12_hearsAck_230 : decode cX12_hearsAck 230 = .ok (.aload_n 0, 1) := by decide +kernel
theorem dX12_hearsAck_231 : decode cX12_hearsAck 231 = .ok (.getfield 72, 3) := by decide +kernel
theorem dX12_hearsAck_234 : decode cX12_hearsAck 234 = .ok (.iload_n 2, 1) := by decide +kernel
theorem dX12_hearsAck_235 : decode cX12_hearsAck 235 = .ok (.bipush 14, 2) := by decide +kernel
theorem dX12_hearsAck_237 : decode cX12_hearsAck 237 = .ok (.iadd, 1) := by decide +kernel
theorem dX12_hearsAck_238 : decode cX12_hearsAck 238 = .ok (.iaload, 1) := by decide +kernel
theorem dX12_hearsAck_239 : decode cX12_hearsAck 239 = .ok (.invokestatic 288, 3) := by decide +kernel
theorem dX12_hearsAck_242 : decode cX12_hearsAck 242 = .ok (.putfield 112, 3) := by decide +kernel
theorem dX12_hearsAck_245 : decode cX12_hearsAck 245 = .ok (.iconst 0, 1) := by decide +kernel
theorem dX12_hearsAck_246 : decode cX12_hearsAck 246 = .ok (.istore 5, 2) := by decide +kernel
theorem dX12_hearsAck_248 : decode cX12_hearsAck 248 = .ok (.iload 5, 2) := by decide +kernel
theorem dX12_hearsAck_250 : decode cX12_hearsAck 250 = .ok (.iconst 2, 1) := by decide +kernel
theorem dX12_hearsAck_251 : decode cX12_hearsAck 251 = .ok (.if_icmp .ge 17, 3) := by decide +kernel
theorem dX12_hearsAck_254 : decode cX12_hearsAck 254 = .ok (.aload_n 0, 1) := by decide +kernel
theorem dX12_hearsAck_255 : decode cX12_hearsAck 255 = .ok (.getfield 199, 3) := by decide +kernel
theorem dX12_hearsAck_258 : decode cX12_hearsAck 258 = .ok (.iload 5, 2) := by decide +kernel
theorem dX12_hearsAck_260 : decode cX12_hearsAck 260 = .ok (.iconst 0, 1) := by decide +kernel
theorem dX12_hearsAck_261 : decode cX12_hearsAck 261 = .ok (.iastore, 1) := by decide +kernel
theorem dX12_hearsAck_262 : decode cX12_hearsAck 262 = .ok (.iinc 5 1, 3) := by decide +kernel
theorem dX12_hearsAck_265 : decode cX12_hearsAck 265 = .ok (.goto (-17), 3) := by decide +kernel
theorem dX12_hearsAck_268 : decode cX12_hearsAck 268 = .ok (.iconst 0, 1) := by decide +kernel
theorem dX12_hearsAck_269 : decode cX12_hearsAck 269 = .ok (.istore 5, 2) := by decide +kernel
theorem dX12_hearsAck_271 : decode cX12_hearsAck 271 = .ok (.iload 5, 2) := by decide +kernel
theorem dX12_hearsAck_273 : decode cX12_hearsAck 273 = .ok (.iconst 2, 1) := by decide +kernel
theorem dX12_hearsAck_274 : decode cX12_hearsAck 274 = .ok (.if_icmp .ge 21, 3) := by decide +kernel
theorem dX12_hearsAck_277 : decode cX12_hearsAck 277 = .ok (.aload_n 0, 1) := by decide +kernel
theorem dX12_hearsAck_278 : decode cX12_hearsAck 278 = .ok (.iload 5, 2) := by decide +kernel
theorem dX12_hearsAck_280 : decode cX12_hearsAck 280 = .ok (.invokevirtual 351, 3) := by decide +kernel
theorem dX12_hearsAck_283 : decode cX12_hearsAck 283 = .ok (.aload_n 0, 1) := by decide +kernel
theorem dX12_hearsAck_284 : decode cX12_hearsAck 284 = .ok (.iload 5, 2) := by decide +kernel
theorem dX12_hearsAck_286 : decode cX12_hearsAck 286 = .ok (.invokevirtual 354, 3) := by decide +kernel
theorem dX12_hearsAck_289 : decode cX12_hearsAck 289 = .ok (.iinc 5 1, 3) := by decide +kernel
theorem dX12_hearsAck_292 : decode cX12_hearsAck 292 = .ok (.goto (-21), 3) := by decide +kernel
theorem dX12_hearsAck_295 : decode cX12_hearsAck 295 = .ok (.return_, 1) := by decide +kernel
theorem dX12_saysHello_0 : decode cX12_saysHello 0 = .ok (.aload_n 0, 1) := by decide +kernel
theorem dX12_saysHello_1 : decode cX12_saysHello 1 = .ok (.aload_n 0, 1) := by decide +kernel
theorem dX12_saysHello_2 : decode cX12_saysHello 2 = .ok (.getfield 246, 3) := by decide +kernel
theorem dX12_saysHello_5 : decode cX12_saysHello 5 = .ok (.putfield 357, 3) := by decide +kernel
theorem dX12_saysHello_8 : decode cX12_saysHello 8 = .ok (.aload_n 0, 1) := by decide +kernel
theorem dX12_saysHello_9 : decode cX12_saysHello 9 = .ok (.getfield 229, 3) := by decide +kernel
theorem dX12_saysHello_12 : decode cX12_saysHello 12 = .ok (.iconst 3, 1) := by decide +kernel
theorem dX12_saysHello_13 : decode cX12_saysHello 13 = .ok (.dup2, 1) := by decide +kernel
theorem dX12_saysHello_14 : decode cX12_saysHello 14 = .ok (.iaload, 1) := by decide +kernel
theorem dX12_saysHello_15 : decode cX12_saysHello 15 = .ok (.iconst 1, 1) := by decide +kernel
theorem dX12_saysHello_16 : decode cX12_saysHello 16 = .ok (.iadd, 1) := by decide +kernel
theorem dX12_saysHello_17 : decode cX12_saysHello 17 = .ok (.iastore, 1) := by decide +kernel
theorem dX12_saysHello_18 : decode cX12_saysHello 18 = .ok (.aload_n 0, 1) := by decide +kernel
theorem dX12_saysHello_19 : decode cX12_saysHello 19 = .ok (.iconst 0, 1) := by decide +kernel
theorem dX12_saysHello_20 : decode cX12_saysHello 20 = .ok (.iconst 1, 1) := by decide +kernel
theorem dX12_saysHello_21 : decode cX12_saysHello 21 = .ok (.iconst 2, 1) := by decide +kernel
theorem dX12_saysHello_22 : decode cX12_saysHello 22 = .ok (.aload_n 0, 1) := by decide +kernel
theorem dX12_saysHello_23 : decode cX12_saysHello 23 = .ok (.getfield 100, 3) := by decide +kernel
theorem dX12_saysHello_26 : decode cX12_saysHello 26 = .ok (.iconst 1, 1) := by decide +kernel
theorem dX12_saysHello_27 : decode cX12_saysHello 27 = .ok (.iadd, 1) := by decide +kernel
theorem dX12_saysHello_28 : decode cX12_saysHello 28 = .ok (.imul, 1) := by decide +kernel
theorem dX12_saysHello_29 : decode cX12_saysHello 29 = .ok (.aload_n 0, 1) := by decide +kernel
theorem dX12_saysHello_30 : decode cX12_saysHello 30 = .ok (.getfield 360, 3) := by decide +kernel
theorem dX12_saysHello_33 : decode cX12_saysHello 33 = .ok (.ifCond .eq 7, 3) := by decide +kernel
theorem dX12_saysHello_36 : decode cX12_saysHello 36 = .ok (.iconst 1, 1) := by decide +kernel
theorem dX12_saysHello_37 : decode cX12_saysHello 37 = .ok (.goto 4, 3) := by decide +kernel
theorem dX12_saysHello_40 : decode cX12_saysHello 40 = .ok (.iconst 0, 1) := by decide +kernel
theorem dX12_saysHello_41 : decode cX12_saysHello 41 = .ok (.iadd, 1) := by decide +kernel
theorem dX12_saysHello_42 : decode cX12_saysHello 42 = .ok (.invokevirtual 363, 3) := by decide +kernel
theorem dX12_saysHello_45 : decode cX12_saysHello 45 = .ok (.return_, 1) := by decide +kernel
theorem dX12_hearsAccept_0 : decode cX12_hearsAccept 0 = .ok (.aload_n 0, 1) := by decide +kernel
theorem dX12_hearsAccept_1 : decode cX12_hearsAccept 1 = .ok (.iconst 2, 1) := by decide +kernel
theorem dX12_hearsAccept_2 : decode cX12_hearsAccept 2 = .ok (.putfield 366, 3) := by decide +kernel
theorem dX12_hearsAccept_5 : decode cX12_hearsAccept 5 = .ok (.aload_n 0, 1) := by decide +kernel
theorem dX12_hearsAccept_6 : decode cX12_hearsAccept 6 = .ok (.iconst 0, 1) := by decide +kernel
theorem dX12_hearsAccept_7 : decode cX12_hearsAccept 7 = .ok (.aload_n 0, 1) := by decide +kernel
theorem dX12_hearsAccept_8 : decode cX12_hearsAccept 8 = .ok (.getfield 246, 3) := by decide +kernel
theorem dX12_hearsAccept_11 : decode cX12_hearsAccept 11 = .ok (.aload_n 0, 1) := by decide +kernel
theorem dX12_hearsAccept_12 : decode cX12_hearsAccept 12 = .ok (.getfield 357, 3) := by decide +kernel
theorem dX12_hearsAccept_15 : decode cX12_hearsAccept 15 = .ok (.isub, 1) := by decide +kernel
theorem dX12_hearsAccept_16 : decode cX12_hearsAccept 16 = .ok (.invokevirtual 345, 3) := by decide +kernel
theorem dX12_hearsAccept_19 : decode cX12_hearsAccept 19 = .ok (.iconst 0, 1) := by decide +kernel
theorem dX12_hearsAccept_20 : decode cX12_hearsAccept 20 = .ok (.istore_n 2, 1) := by decide +kernel
theorem dX12_hearsAccept_21 : decode cX12_hearsAccept 21 = .ok (.iload_n 2, 1) := by decide +kernel
theorem dX12_hearsAccept_22 : decode cX12_hearsAccept 22 = .ok (.aload_n 0, 1) := by decide +kernel
theorem dX12_hearsAccept_23 : decode cX12_hearsAccept 23 = .ok (.getfield 313, 3) := by decide +kernel
theorem dX12_hearsAccept_26 : decode cX12_hearsAccept 26 = .ok (.if_icmp .ge 37, 3) := by decide +kernel
theorem dX12_hearsAccept_29 : decode cX12_hearsAccept 29 = .ok (.iload_n 1, 1) := by decide +kernel
theorem dX12_hearsAccept_30 : decode cX12_hearsAccept 30 = .ok (.ifCond .ne 27, 3) := by decide +kernel
theorem dX12_hearsAccept_33 : decode cX12_hearsAccept 33 = .ok (.aload_n 0, 1) := by decide +kernel
theorem dX12_hearsAccept_34 : decode cX12_hearsAccept 34 = .ok (.getfield 151, 3) := by decide +kernel
theorem dX12_hearsAccept_37 : decode cX12_hearsAccept 37 = .ok (.iload_n 2, 1) := by decide +kernel
theorem dX12_hearsAccept_38 : decode cX12_hearsAccept 38 = .ok (.baload, 1) := by decide +kernel
theorem dX12_hearsAccept_39 : decode cX12_hearsAccept 39 = .ok (.ifCond .eq 18, 3) := by decide +kernel
theorem dX12_hearsAccept_42 : decode cX12_hearsAccept 42 = .ok (.aload_n 0, 1) := by decide +kernel
theorem dX12_hearsAccept_43 : decode cX12_hearsAccept 43 = .ok (.getfield 139, 3) := by decide +kernel
theorem dX12_hearsAccept_46 : decode cX12_hearsAccept 46 = .ok (.iload_n 2, 1) := by decide +kernel
theorem dX12_hearsAccept_47 : decode cX12_hearsAccept 47 = .ok (.iaload, 1) := by decide +kernel
theorem dX12_hearsAccept_48 : decode cX12_hearsAccept 48 = .ok (.ifCond .ne 9, 3) := by decide +kernel
theorem dX12_hearsAccept_51 : decode cX12_hearsAccept 51 = .ok (.aload_n 0, 1) := by decide +kernel
theorem dX12_hearsAccept_52 : decode cX12_hearsAccept 52 = .ok (.iload_n 2, 1) := by decide +kernel
theorem dX12_hearsAccept_53 : decode cX12_hearsAccept 53 = .ok (.iconst 4, 1) := by decide +kernel
theorem dX12_hearsAccept_54 : decode cX12_hearsAccept 54 = .ok (.invokevirtual 329, 3) := by decide +kernel
theorem dX12_hearsAccept_57 : decode cX12_hearsAccept 57 = .ok (.iinc 2 1, 3) := by decide +kernel
theorem dX12_hearsAccept_60 : decode cX12_hearsAccept 60 = .ok (.goto (-39), 3) := by decide +kernel
theorem dX12_hearsAccept_63 : decode cX12_hearsAccept 63 = .ok (.return_, 1) := by decide +kernel
theorem dX12_arrivesAtClient_0 : decode cX12_arrivesAtClient 0 = .ok (.aload_n 0, 1) := by decide +kernel
theorem dX12_arrivesAtClient_1 : decode cX12_arrivesAtClient 1 = .ok (.getfield 59, 3) := by decide +kernel
theorem dX12_arrivesAtClient_4 : decode cX12_arrivesAtClient 4 = .ok (.iload_n 1, 1) := by decide +kernel
theorem dX12_arrivesAtClient_5 : decode cX12_arrivesAtClient 5 = .ok (.iaload, 1) := by decide +kernel
theorem dX12_arrivesAtClient_6 : decode cX12_arrivesAtClient 6 = .ok (.istore_n 2, 1) := by decide +kernel
theorem dX12_arrivesAtClient_7 : decode cX12_arrivesAtClient 7 = .ok (.iload_n 2, 1) := by decide +kernel
theorem dX12_arrivesAtClient_8 : decode cX12_arrivesAtClient 8 = .ok (.iconst 5, 1) := by decide +kernel
theorem dX12_arrivesAtClient_9 : decode cX12_arrivesAtClient 9 = .ok (.if_icmp .ne 36, 3) := by decide +kernel
theorem dX12_arrivesAtClient_12 : decode cX12_arrivesAtClient 12 = .ok (.aload_n 0, 1) := by decide +kernel
theorem dX12_arrivesAtClient_13 : decode cX12_arrivesAtClient 13 = .ok (.getfield 366, 3) := by decide +kernel
theorem dX12_arrivesAtClient_16 : decode cX12_arrivesAtClient 16 = .ok (.iconst 1, 1) := by decide +kernel
theorem dX12_arrivesAtClient_17 : decode cX12_arrivesAtClient 17 = .ok (.if_icmp .ne 28, 3) := by decide +kernel
theorem dX12_arrivesAtClient_20 : decode cX12_arrivesAtClient 20 = .ok (.aload_n 0, 1) := by decide +kernel
theorem dX12_arrivesAtClient_21 : decode cX12_arrivesAtClient 21 = .ok (.getfield 360, 3) := by decide +kernel
theorem dX12_arrivesAtClient_24 : decode cX12_arrivesAtClient 24 = .ok (.ifCond .ne 21, 3) := by decide +kernel
theorem dX12_arrivesAtClient_27 : decode cX12_arrivesAtClient 27 = .ok (.aload_n 0, 1) := by decide +kernel
theorem dX12_arrivesAtClient_28 : decode cX12_arrivesAtClient 28 = .ok (.iconst 1, 1) := by decide +kernel
theorem dX12_arrivesAtClient_29 : decode cX12_arrivesAtClient 29 = .ok (.putfield 360, 3) := by decide +kernel
theorem dX12_arrivesAtClient_32 : decode cX12_arrivesAtClient 32 = .ok (.aload_n 0, 1) := by decide +kernel
theorem dX12_arrivesAtClient_33 : decode cX12_arrivesAtClient 33 = .ok (.bipush 10, 2) := by decide +kernel
theorem dX12_arrivesAtClient_35 : decode cX12_arrivesAtClient 35 = .ok (.putfield 369, 3) := by decide +kernel
theorem dX12_arrivesAtClient_38 : decode cX12_arrivesAtClient 38 = .ok (.aload_n 0, 1) := by decide +kernel
theorem dX12_arrivesAtClient_39 : decode cX12_arrivesAtClient 39 = .ok (.invokevirtual 372, 3) := by decide +kernel
theorem dX12_arrivesAtClient_42 : decode cX12_arrivesAtClient 42 = .ok (.goto 130, 3) := by decide +kernel
theorem dX12_arrivesAtClient_45 : decode cX12_arrivesAtClient 45 = .ok (.iload_n 2, 1) := by decide +kernel
theorem dX12_arrivesAtClient_46 : decode cX12_arrivesAtClient 46 = .ok (.bipush 6, 2) := by decide +kernel
theorem dX12_arrivesAtClient_48 : decode cX12_arrivesAtClient 48 = .ok (.if_icmp .ne 33, 3) := by decide +kernel
theorem dX12_arrivesAtClient_51 : decode cX12_arrivesAtClient 51 = .ok (.aload_n 0, 1) := by decide +kernel
theorem dX12_arrivesAtClient_52 : decode cX12_arrivesAtClient 52 = .ok (.getfield 366, 3) := by decide +kernel
theorem dX12_arrivesAtClient_55 : decode cX12_arrivesAtClient 55 = .ok (.iconst 1, 1) := by decide +kernel
theorem dX12_arrivesAtClient_56 : decode cX12_arrivesAtClient 56 = .ok (.if_icmp .ne 25, 3) := by decide +kernel
theorem dX12_arrivesAtClient_59 : decode cX12_arrivesAtClient 59 = .ok (.aload_n 0, 1) := by decide +kernel
theorem dX12_arrivesAtClient_60 : decode cX12_arrivesAtClient 60 = .ok (.aload_n 0, 1) := by decide +kernel
theorem dX12_arrivesAtClient_61 : decode cX12_arrivesAtClient 61 = .ok (.getfield 62, 3) := by decide +kernel
theorem dX12_arrivesAtClient_64 : decode cX12_arrivesAtClient 64 = .ok (.iload_n 1, 1) := by decide +kernel
theorem dX12_arrivesAtClient_65 : decode cX12_arrivesAtClient 65 = .ok (.iaload, 1) := by decide +kernel
theorem dX12_arrivesAtClient_66 : decode cX12_arrivesAtClient 66 = .ok (.iconst 1, 1) := by decide +kernel
theorem dX12_arrivesAtClient_67 : decode cX12_arrivesAtClient 67 = .ok (.if_icmp .ne 7, 3) := by decide +kernel
theorem dX12_arrivesAtClient_70 : decode cX12_arrivesAtClient 70 = .ok (.iconst 1, 1) := by decide +kernel
theorem dX12_arrivesAtClient_71 : decode cX12_arrivesAtClient 71 = .ok (.goto 4, 3) := by decide +kernel
theorem dX12_arrivesAtClient_74 : decode cX12_arrivesAtClient 74 = .ok (.iconst 0, 1) := by decide +kernel
theorem dX12_arrivesAtClient_75 : decode cX12_arrivesAtClient 75 = .ok (.invokevirtual 375, 3) := by decide +kernel
theorem dX12_arrivesAtClient_78 : decode cX12_arrivesAtClient 78 = .ok (.goto 94, 3) := by decide +kernel
theorem dX12_arrivesAtClient_81 : decode cX12_arrivesAtClient 81 = .ok (.iload_n 2, 1) := by decide +kernel
theorem dX12_arrivesAtClient_82 : decode cX12_arrivesAtClient 82 = .ok (.bipush 7, 2) := by decide +kernel
theorem dX12_arrivesAtClient_84 : decode cX12_arrivesAtClient 84 = .ok (.if_icmp .ne 32, 3) := by decide +kernel
theorem dX12_arrivesAtClient_87 : decode cX12_arrivesAtClient 87 = .ok (.aload_n 0, 1) := by decide +kernel
theorem dX12_arrivesAtClient_88 : decode cX12_arrivesAtClient 88 = .ok (.getfield 366, 3) := by decide +kernel
theorem dX12_arrivesAtClient_91 : decode cX12_arrivesAtClient 91 = .ok (.iconst 2, 1) := by decide +kernel
theorem dX12_arrivesAtClient_92 : decode cX12_arrivesAtClient 92 = .ok (.if_icmp .eq 11, 3) := by decide +kernel
theorem dX12_arrivesAtClient_95 : decode cX12_arrivesAtClient 95 = .ok (.aload_n 0, 1) := by decide +kernel
theorem dX12_arrivesAtClient_96 : decode cX12_arrivesAtClient 96 = .ok (.getfield 366, 3) := by decide +kernel
theorem dX12_arrivesAtClient_99 : decode cX12_arrivesAtClient 99 = .ok (.iconst 3, 1) := by decide +kernel
theorem dX12_arrivesAtClient_100 : decode cX12_arrivesAtClient 100 = .ok (.if_icmp .ne 16, 3) := by decide +kernel
theorem dX12_arrivesAtClient_103 : decode cX12_arrivesAtClient 103 = .ok (.aload_n 0, 1) := by decide +kernel
theorem dX12_arrivesAtClient_104 : decode cX12_arrivesAtClient 104 = .ok (.aload_n 0, 1) := by decide +kernel
theorem dX12_arrivesAtClient_105 : decode cX12_arrivesAtClient 105 = .ok (.getfield 62, 3) := by decide +kernel
theorem dX12_arrivesAtClient_108 : decode cX12_arrivesAtClient 108 = .ok (.iload_n 1, 1) := by decide +kernel
theorem dX12_arrivesAtClient_109 : decode cX12_arrivesAtClient 109 = .ok (.iaload, 1) := by decide +kernel
theorem dX12_arrivesAtClient_110 : decode cX12_arrivesAtClient 110 = .ok (.invokevirtual 379, 3) := by decide +kernel
theorem dX12_arrivesAtClient_113 : decode cX12_arrivesAtClient 113 = .ok (.goto 59, 3) := by decide +kernel
theorem dX12_arrivesAtClient_116 : decode cX12_arrivesAtClient 116 = .ok (.iload_n 2, 1) := by decide +kernel
theorem dX12_arrivesAtClient_117 : decode cX12_arrivesAtClient 117 = .ok (.bipush 8, 2) := by decide +kernel
theorem dX12_arrivesAtClient_119 : decode cX12_arrivesAtClient 119 = .ok (.if_icmp .ne 34, 3) := by decide +kernel
theorem dX12_arrivesAtClient_122 : decode cX12_arrivesAtClient 122 = .ok (.aload_n 0, 1) := by decide +kernel
theorem dX12_arrivesAtClient_123 : decode cX12_arrivesAtClient 123 = .ok (.getfield 366, 3) := by decide +kernel
theorem dX12_arrivesAtClient_126 : decode cX12_arrivesAtClient 126 = .ok (.iconst 4, 1) := by decide +kernel
theorem dX12_arrivesAtClient_127 : decode cX12_arrivesAtClient 127 = .ok (.if_icmp .eq 26, 3) := by decide +kernel
theorem dX12_arrivesAtClient_130 : decode cX12_arrivesAtClient 130 = .ok (.aload_n 0, 1) := by decide +kernel
theorem dX12_arrivesAtClient_131 : decode cX12_arrivesAtClient 131 = .ok (.getfield 366, 3) := by decide +kernel
theorem dX12_arrivesAtClient_134 : decode cX12_arrivesAtClient 134 = .ok (.iconst 5, 1) := by decide +kernel
theorem dX12_arrivesAtClient_135 : decode cX12_arrivesAtClient 135 = .ok (.if_icmp .eq 18, 3) := by decide +kernel
theorem dX12_arrivesAtClient_138 : decode cX12_arrivesAtClient 138 = .ok (.aload_n 0, 1) := by decide +kernel
theorem dX12_arrivesAtClient_139 : decode cX12_arrivesAtClient 139 = .ok (.getfield 187, 3) := by decide +kernel
theorem dX12_arrivesAtClient_142 : decode cX12_arrivesAtClient 142 = .ok (.aload_n 0, 1) := by decide +kernel
theorem dX12_arrivesAtClient_143 : decode cX12_arrivesAtClient 143 = .ok (.getfield 65, 3) := by decide +kernel
theorem dX12_arrivesAtClient_146 : decode cX12_arrivesAtClient 146 = .ok (.iload_n 1, 1) := by decide +kernel
theorem dX12_arrivesAtClient_147 : decode cX12_arrivesAtClient 147 = .ok (.iaload, 1) := by decide +kernel
theorem dX12_arrivesAtClient_148 : decode cX12_arrivesAtClient 148 = .ok (.iconst 1, 1) := by decide +kernel
theorem dX12_arrivesAtClient_149 : decode cX12_arrivesAtClient 149 = .ok (.bastore, 1) := by decide +kernel
theorem dX12_arrivesAtClient_150 : decode cX12_arrivesAtClient 150 = .ok (.goto 22, 3) := by decide +kernel
theorem dX12_arrivesAtClient_153 : decode cX12_arrivesAtClient 153 = .ok (.iload_n 2, 1) := by decide +kernel
theorem dX12_arrivesAtClient_154 : decode cX12_arrivesAtClient 154 = .ok (.bipush 9, 2) := by decide +kernel
theorem dX12_arrivesAtClient_156 : decode cX12_arrivesAtClient 156 = .ok (.if_icmp .ne 16, 3) := by decide +kernel
theorem dX12_arrivesAtClient_159 : decode cX12_arrivesAtClient 159 = .ok (.aload_n 0, 1) := by decide +kernel
theorem dX12_arrivesAtClient_160 : decode cX12_arrivesAtClient 160 = .ok (.getfield 366, 3) := by decide +kernel
theorem dX12_arrivesAtClient_163 : decode cX12_arrivesAtClient 163 = .ok (.iconst 4, 1) := by decide +kernel
theorem dX12_arrivesAtClient_164 : decode cX12_arrivesAtClient 164 = .ok (.if_icmp .eq 8, 3) := by decide +kernel
theorem dX12_arrivesAtClient_167 : decode cX12_arrivesAtClient 167 = .ok (.aload_n 0, 1) := by decide +kernel
theorem dX12_arrivesAtClient_168 : decode cX12_arrivesAtClient 168 = .ok (.iconst 5, 1) := by decide +kernel
theorem dX12_arrivesAtClient_169 : decode cX12_arrivesAtClient 169 = .ok (.putfield 366, 3) := by decide +kernel
theorem dX12_arrivesAtClient_172 : decode cX12_arrivesAtClient 172 = .ok (.return_, 1) := by decide +kernel
theorem dX12_sends_0 : decode cX12_sends 0 = .ok (.aload_n 0, 1) := by decide +kernel
theorem dX12_sends_1 : decode cX12_sends 1 = .ok (.getfield 313, 3) := by decide +kernel
theorem dX12_sends_4 : decode cX12_sends 4 = .ok (.istore 6, 2) := by decide +kernel
theorem dX12_sends_6 : decode cX12_sends 6 = .ok (.aload_n 0, 1) := by decide +kernel
theorem dX12_sends_7 : decode cX12_sends 7 = .ok (.getfield 124, 3) := by decide +kernel
theorem dX12_sends_10 : decode cX12_sends 10 = .ok (.iload 6, 2) := by decide +kernel
theorem dX12_sends_12 : decode cX12_sends 12 = .ok (.iload_n 1, 1) := by decide +kernel
theorem dX12_sends_13 : decode cX12_sends 13 = .ok (.iastore, 1) := by decide +kernel
theorem dX12_sends_14 : decode cX12_sends 14 = .ok (.aload_n 0, 1) := by decide +kernel
theorem dX12_sends_15 : decode cX12_sends 15 = .ok (.getfield 127, 3) := by decide +kernel
theorem dX12_sends_18 : decode cX12_sends 18 = .ok (.iload 6, 2) := by decide +kernel
theorem dX12_sends_20 : decode cX12_sends 20 = .ok (.aload_n 0, 1) := by decide +kernel
theorem dX12_sends_21 : decode cX12_sends 21 = .ok (.getfield 246, 3) := by decide +kernel
theorem dX12_sends_24 : decode cX12_sends 24 = .ok (.iastore, 1) := by decide +kernel
theorem dX12_sends_25 : decode cX12_sends 25 = .ok (.aload_n 0, 1) := by decide +kernel
theorem dX12_sends_26 : decode cX12_sends 26 = .ok (.getfield 130, 3) := by decide +kernel
theorem dX12_sends_29 : decode cX12_sends 29 = .ok (.iload 6, 2) := by decide +kernel
theorem dX12_sends_31 : decode cX12_sends 31 = .ok (.iload_n 2, 1) := by decide +kernel
theorem dX12_sends_32 : decode cX12_sends 32 = .ok (.iastore, 1) := by decide +kernel
theorem dX12_sends_33 : decode cX12_sends 33 = .ok (.aload_n 0, 1) := by decide +kernel
theorem dX12_sends_34 : decode cX12_sends 34 = .ok (.getfield 133, 3) := by decide +kernel
theorem dX12_sends_37 : decode cX12_sends 37 = .ok (.iload 6, 2) := by decide +kernel
theorem dX12_sends_39 : decode cX12_sends 39 = .ok (.iload_n 3, 1) := by decide +kernel
theorem dX12_sends_40 : decode cX12_sends 40 = .ok (.iastore, 1) := by decide +kernel
theorem dX12_sends_41 : decode cX12_sends 41 = .ok (.aload_n 0, 1) := by decide +kernel
theorem dX12_sends_42 : decode cX12_sends 42 = .ok (.getfield 136, 3) := by decide +kernel
theorem dX12_sends_45 : decode cX12_sends 45 = .ok (.iload 6, 2) := by decide +kernel
theorem dX12_sends_47 : decode cX12_sends 47 = .ok (.iload 4, 2) := by decide +kernel
theorem dX12_sends_49 : decode cX12_sends 49 = .ok (.iastore, 1) := by decide +kernel
theorem dX12_sends_50 : decode cX12_sends 50 = .ok (.aload_n 0, 1) := by decide +kernel
theorem dX12_sends_51 : decode cX12_sends 51 = .ok (.getfield 145, 3) := by decide +kernel
theorem dX12_sends_54 : decode cX12_sends 54 = .ok (.iload 6, 2) := by decide +kernel
theorem dX12_sends_56 : decode cX12_sends 56 = .ok (.aload_n 0, 1) := by decide +kernel
theorem dX12_sends_57 : decode cX12_sends 57 = .ok (.getfield 382, 3) := by decide +kernel
theorem dX12_sends_60 : decode cX12_sends 60 = .ok (.iastore, 1) := by decide +kernel
theorem dX12_sends_61 : decode cX12_sends 61 = .ok (.aload_n 0, 1) := by decide +kernel
theorem dX12_sends_62 : decode cX12_sends 62 = .ok (.getfield 148, 3) := by decide +kernel
theorem dX12_sends_65 : decode cX12_sends 65 = .ok (.iload 6, 2) := by decide +kernel
theorem dX12_sends_67 : decode cX12_sends 67 = .ok (.iload 5, 2) := by decide +kernel
theorem dX12_sends_69 : decode cX12_sends 69 = .ok (.bastore, 1) := by decide +kernel
theorem dX12_sends_70 : decode cX12_sends 70 = .ok (.aload_n 0, 1) := by decide +kernel
theorem dX12_sends_71 : decode cX12_sends 71 = .ok (.getfield 151, 3) := by decide +kernel
theorem dX12_sends_74 : decode cX12_sends 74 = .ok (.iload 6, 2) := by decide +kernel
theorem dX12_sends_76 : decode cX12_sends 76 = .ok (.aload_n 0, 1) := by decide +kernel
theorem dX12_sends_77 : decode cX12_sends 77 = .ok (.getfield 366, 3) := by decide +kernel
theorem dX12_sends_80 : decode cX12_sends 80 = .ok (.iconst 1, 1) := by decide +kernel
theorem dX12_sends_81 : decode cX12_sends 81 = .ok (.if_icmp .ne 7, 3) := by decide +kernel
theorem dX12_sends_84 : decode cX12_sends 84 = .ok (.iconst 1, 1) := by decide +kernel
theorem dX12_sends_85 : decode cX12_sends 85 = .ok (.goto 4, 3) := by decide +kernel
theorem dX12_sends_88 : decode cX12_sends 88 = .ok (.iconst 0, 1) := by decide +kernel
theorem dX12_sends_89 : decode cX12_sends 89 = .ok (.bastore, 1) := by decide +kernel
theorem dX12_sends_90 : decode cX12_sends 90 = .ok (.aload_n 0, 1) := by decide +kernel
theorem dX12_sends_91 : decode cX12_sends 91 = .ok (.getfield 157, 3) := by decide +kernel
theorem dX12_sends_94 : decode cX12_sends 94 = .ok (.iload 6, 2) := by decide +kernel
theorem dX12_sends_96 : decode cX12_sends 96 = .ok (.aload_n 0, 1) := by decide +kernel
theorem dX12_sends_97 : decode cX12_sends 97 = .ok (.getfield 190, 3) := by decide +kernel
theorem dX12_sends_100 : decode cX12_sends 100 = .ok (.iload_n 1, 1) := by decide +kernel
theorem dX12_sends_101 : decode cX12_sends 101 = .ok (.iaload, 1) := by decide +kernel
theorem dX12_sends_102 : decode cX12_sends 102 = .ok (.iastore, 1) := by decide +kernel
theorem dX12_sends_103 : decode cX12_sends 103 = .ok (.aload_n 0, 1) := by decide +kernel
theorem dX12_sends_104 : decode cX12_sends 104 = .ok (.getfield 190, 3) := by decide +kernel
theorem dX12_sends_107 : decode cX12_sends 107 = .ok (.iload_n 1, 1) := by decide +kernel
theorem dX12_sends_108 : decode cX12_sends 108 = .ok (.dup2, 1) := by decide +kernel
theorem dX12_sends_109 : decode cX12_sends 109 = .ok (.iaload, 1) := by decide +kernel
theorem dX12_sends_110 : decode cX12_sends 110 = .ok (.iconst 1, 1) := by decide +kernel
theorem dX12_sends_111 : decode cX12_sends 111 = .ok (.iadd, 1) := by decide +kernel
theorem dX12_sends_112 : decode cX12_sends 112 = .ok (.iastore, 1) := by decide +kernel
theorem dX12_sends_113 : decode cX12_sends 113 = .ok (.aload_n 0, 1) := by decide +kernel
theorem dX12_sends_114 : decode cX12_sends 114 = .ok (.getfield 160, 3) := by decide +kernel
theorem dX12_sends_117 : decode cX12_sends 117 = .ok (.iload 6, 2) := by decide +kernel
theorem dX12_sends_119 : decode cX12_sends 119 = .ok (.aload_n 0, 1) := by decide +kernel
theorem dX12_sends_120 : decode cX12_sends 120 = .ok (.getfield 202, 3) := by decide +kernel
theorem dX12_sends_123 : decode cX12_sends 123 = .ok (.iload_n 1, 1) := by decide +kernel
theorem dX12_sends_124 : decode cX12_sends 124 = .ok (.iaload, 1) := by decide +kernel
theorem dX12_sends_125 : decode cX12_sends 125 = .ok (.iastore, 1) := by decide +kernel
theorem dX12_sends_126 : decode cX12_sends 126 = .ok (.aload_n 0, 1) := by decide +kernel
theorem dX12_sends_127 : decode cX12_sends 127 = .ok (.getfield 196, 3) := by decide +kernel
theorem dX12_sends_130 : decode cX12_sends 130 = .ok (.iload_n 1, 1) := by decide +kernel
theorem dX12_sends_131 : decode cX12_sends 131 = .ok (.aload_n 0, 1) := by decide +kernel
theorem dX12_sends_132 : decode cX12_sends 132 = .ok (.getfield 246, 3) := by decide +kernel
theorem dX12_sends_135 : decode cX12_sends 135 = .ok (.iastore, 1) := by decide +kernel
theorem dX12_sends_136 : decode cX12_sends 136 = .ok (.iconst 0, 1) := by decide +kernel
theorem dX12_sends_137 : decode cX12_sends 137 = .ok (.istore 7, 2) := by decide +kernel
theorem dX12_sends_139 : decode cX12_sends 139 = .ok (.iload 7, 2) := by decide +kernel
theorem dX12_sends_141 : decode cX12_sends 141 = .ok (.iload 4, 2) := by decide +kernel
theorem dX12_sends_143 : decode cX12_sends 143 = .ok (.if_icmp .ge 28, 3) := by decide +kernel
theorem dX12_sends_146 : decode cX12_sends 146 = .ok (.aload_n 0, 1) := by decide +kernel
theorem dX12_sends_147 : decode cX12_sends 147 = .ok (.getfield 121, 3) := by decide +kernel
theorem dX12_sends_150 : decode cX12_sends 150 = .ok (.sipush 200, 3) := by decide +kernel
theorem dX12_sends_153 : decode cX12_sends 153 = .ok (.iload_n 2, 1) := by decide +kernel
theorem dX12_sends_154 : decode cX12_sends 154 = .ok (.imul, 1) := by decide +kernel
theorem dX12_sends_155 : decode cX12_sends 155 = .ok (.iload_n 3, 1) := by decide +kernel
theorem dX12_sends_156 : decode cX12_sends 156 = .ok (.iadd, 1) := by decide +kernel
theorem dX12_sends_157 : decode cX12_sends 157 = .ok (.iload 7, 2) := by decide +kernel
theorem dX12_sends_159 : decode cX12_sends 159 = .ok (.iadd, 1) := by decide +kernel
theorem dX12_sends_160 : decode cX12_sends 160 = .ok (.dup2, 1) := by decide +kernel
theorem dX12_sends_161 : decode cX12_sends 161 = .ok (.iaload, 1) := by decide +kernel
theorem dX12_sends_162 : decode cX12_sends 162 = .ok (.iconst 1, 1) := by decide +kernel
theorem dX12_sends_163 : decode cX12_sends 163 = .ok (.iadd, 1) := by decide +kernel
theorem dX12_sends_164 : decode cX12_sends 164 = .ok (.iastore, 1) := by decide +kernel
theorem dX12_sends_165 : decode cX12_sends 165 = .ok (.iinc 7 1, 3) := by decide +kernel
theorem dX12_sends_168 : decode cX12_sends 168 = .ok (.goto (-29), 3) := by decide +kernel
theorem dX12_sends_171 : decode cX12_sends 171 = .ok (.aload_n 0, 1) := by decide +kernel
theorem dX12_sends_172 : decode cX12_sends 172 = .ok (.dup, 1) := by decide +kernel
theorem dX12_sends_173 : decode cX12_sends 173 = .ok (.getfield 313, 3) := by decide +kernel
theorem dX12_sends_176 : decode cX12_sends 176 = .ok (.iconst 1, 1) := by decide +kernel
theorem dX12_sends_177 : decode cX12_sends 177 = .ok (.iadd, 1) := by decide +kernel
theorem dX12_sends_178 : decode cX12_sends 178 = .ok (.putfield 313, 3) := by decide +kernel
theorem dX12_sends_181 : decode cX12_sends 181 = .ok (.aload_n 0, 1) := by decide +kernel
theorem dX12_sends_182 : decode cX12_sends 182 = .ok (.iload_n 1, 1) := by decide +kernel
theorem dX12_sends_183 : decode cX12_sends 183 = .ok (.iconst 2, 1) := by decide +kernel
theorem dX12_sends_184 : decode cX12_sends 184 = .ok (.iload 6, 2) := by decide +kernel
theorem dX12_sends_186 : decode cX12_sends 186 = .ok (.invokevirtual 363, 3) := by decide +kernel
theorem dX12_sends_189 : decode cX12_sends 189 = .ok (.return_, 1) := by decide +kernel
theorem dX12_isLost_0 : decode cX12_isLost 0 = .ok (.iload_n 2, 1) := by decide +kernel
theorem dX12_isLost_1 : decode cX12_isLost 1 = .ok (.aload_n 0, 1) := by decide +kernel
theorem dX12_isLost_2 : decode cX12_isLost 2 = .ok (.getfield 106, 3) := by decide +kernel
theorem dX12_isLost_5 : decode cX12_isLost 5 = .ok (.iload_n 1, 1) := by decide +kernel
theorem dX12_isLost_6 : decode cX12_isLost 6 = .ok (.iaload, 1) := by decide +kernel
theorem dX12_isLost_7 : decode cX12_isLost 7 = .ok (.if_icmp .ge 37, 3) := by decide +kernel
theorem dX12_isLost_10 : decode cX12_isLost 10 = .ok (.aload_n 0, 1) := by decide +kernel
theorem dX12_isLost_11 : decode cX12_isLost 11 = .ok (.getfield 118, 3) := by decide +kernel
theorem dX12_isLost_14 : decode cX12_isLost 14 = .ok (.sipush 200, 3) := by decide +kernel
theorem dX12_isLost_17 : decode cX12_isLost 17 = .ok (.iload_n 1, 1) := by decide +kernel
theorem dX12_isLost_18 : decode cX12_isLost 18 = .ok (.imul, 1) := by decide +kernel
theorem dX12_isLost_19 : decode cX12_isLost 19 = .ok (.iload_n 2, 1) := by decide +kernel
theorem dX12_isLost_20 : decode cX12_isLost 20 = .ok (.iadd, 1) := by decide +kernel
theorem dX12_isLost_21 : decode cX12_isLost 21 = .ok (.baload, 1) := by decide +kernel
theorem dX12_isLost_22 : decode cX12_isLost 22 = .ok (.ifCond .ne 22, 3) := by decide +kernel
theorem dX12_isLost_25 : decode cX12_isLost 25 = .ok (.aload_n 0, 1) := by decide +kernel
theorem dX12_isLost_26 : decode cX12_isLost 26 = .ok (.getfield 121, 3) := by decide +kernel
theorem dX12_isLost_29 : decode cX12_isLost 29 = .ok (.sipush 200, 3) := by decide +kernel
theorem dX12_isLost_32 : decode cX12_isLost 32 = .ok (.iload_n 1, 1) := by decide +kernel
theorem dX12_isLost_33 : decode cX12_isLost 33 = .ok (.imul, 1) := by decide +kernel
theorem dX12_isLost_34 : decode cX12_isLost 34 = .ok (.iload_n 2, 1) := by decide +kernel
theorem dX12_isLost_35 : decode cX12_isLost 35 = .ok (.iadd, 1) := by decide +kernel
theorem dX12_isLost_36 : decode cX12_isLost 36 = .ok (.iaload, 1) := by decide +kernel
theorem dX12_isLost_37 : decode cX12_isLost 37 = .ok (.ifCond .ne 7, 3) := by decide +kernel
theorem dX12_isLost_40 : decode cX12_isLost 40 = .ok (.iconst 1, 1) := by decide +kernel
theorem dX12_isLost_41 : decode cX12_isLost 41 = .ok (.goto 4, 3) := by decide +kernel
theorem dX12_isLost_44 : decode cX12_isLost 44 = .ok (.iconst 0, 1) := by decide +kernel
theorem dX12_isLost_45 : decode cX12_isLost 45 = .ok (.ireturn, 1) := by decide +kernel
theorem dX12_firstLost_0 : decode cX12_firstLost 0 = .ok (.iconst 0, 1) := by decide +kernel
theorem dX12_firstLost_1 : decode cX12_firstLost 1 = .ok (.istore_n 2, 1) := by decide +kernel
theorem dX12_firstLost_2 : decode cX12_firstLost 2 = .ok (.iload_n 2, 1) := by decide +kernel
theorem dX12_firstLost_3 : decode cX12_firstLost 3 = .ok (.aload_n 0, 1) := by decide +kernel
theorem dX12_firstLost_4 : decode cX12_firstLost 4 = .ok (.getfield 106, 3) := by decide +kernel
theorem dX12_firstLost_7 : decode cX12_firstLost 7 = .ok (.iload_n 1, 1) := by decide +kernel
theorem dX12_firstLost_8 : decode cX12_firstLost 8 = .ok (.iaload, 1) := by decide +kernel
theorem dX12_firstLost_9 : decode cX12_firstLost 9 = .ok (.if_icmp .ge 20, 3) := by decide +kernel
theorem dX12_firstLost_12 : decode cX12_firstLost 12 = .ok (.aload_n 0, 1) := by decide +kernel
theorem dX12_firstLost_13 : decode cX12_firstLost 13 = .ok (.iload_n 1, 1) := by decide +kernel
theorem dX12_firstLost_14 : decode cX12_firstLost 14 = .ok (.iload_n 2, 1) := by decide +kernel
theorem dX12_firstLost_15 : decode cX12_firstLost 15 = .ok (.invokevirtual 385, 3) := by decide +kernel
theorem dX12_firstLost_18 : decode cX12_firstLost 18 = .ok (.ifCond .eq 5, 3) := by decide +kernel
theorem dX12_firstLost_21 : decode cX12_firstLost 21 = .ok (.iload_n 2, 1) := by decide +kernel
theorem dX12_firstLost_22 : decode cX12_firstLost 22 = .ok (.ireturn, 1) := by decide +kernel
theorem dX12_firstLost_23 : decode cX12_firstLost 23 = .ok (.iinc 2 1, 3) := by decide +kernel
theorem dX12_firstLost_26 : decode cX12_firstLost 26 = .ok (.goto (-24), 3) := by decide +kernel
theorem dX12_firstLost_29 : decode cX12_firstLost 29 = .ok (.iconst (-1), 1) := by decide +kernel
theorem dX12_firstLost_30 : decode cX12_firstLost 30 = .ok (.ireturn, 1) := by decide +kernel
theorem dX12_sentInAll_0 : decode cX12_sentInAll 0 = .ok (.aload_n 0, 1) := by decide +kernel
theorem dX12_sentInAll_1 : decode cX12_sentInAll 1 = .ok (.getfield 106, 3) := by decide +kernel
theorem dX12_sentInAll_4 : decode cX12_sentInAll 4 = .ok (.iconst 0, 1) := by decide +kernel
theorem dX12_sentInAll_5 : decode cX12_sentInAll 5 = .ok (.iaload, 1) := by decide +kernel
theorem dX12_sentInAll_6 : decode cX12_sentInAll 6 = .ok (.aload_n 0, 1) := by decide +kernel
theorem dX12_sentInAll_7 : decode cX12_sentInAll 7 = .ok (.getfield 106, 3) := by decide +kernel
theorem dX12_sentInAll_10 : decode cX12_sentInAll 10 = .ok (.iconst 1, 1) := by decide +kernel
theorem dX12_sentInAll_11 : decode cX12_sentInAll 11 = .ok (.iaload, 1) := by decide +kernel
theorem dX12_sentInAll_12 : decode cX12_sentInAll 12 = .ok (.iadd, 1) := by decide +kernel
theorem dX12_sentInAll_13 : decode cX12_sentInAll 13 = .ok (.aload_n 0, 1) := by decide +kernel
theorem dX12_sentInAll_14 : decode cX12_sentInAll 14 = .ok (.getfield 106, 3) := by decide +kernel
theorem dX12_sentInAll_17 : decode cX12_sentInAll 17 = .ok (.iconst 2, 1) := by decide +kernel
theorem dX12_sentInAll_18 : decode cX12_sentInAll 18 = .ok (.iaload, 1) := by decide +kernel
theorem dX12_sentInAll_19 : decode cX12_sentInAll 19 = .ok (.iadd, 1) := by decide +kernel
theorem dX12_sentInAll_20 : decode cX12_sentInAll 20 = .ok (.aload_n 0, 1) := by decide +kernel
theorem dX12_sentInAll_21 : decode cX12_sentInAll 21 = .ok (.getfield 106, 3) := by decide +kernel
theorem dX12_sentInAll_24 : decode cX12_sentInAll 24 = .ok (.iconst 3, 1) := by decide +kernel
theorem dX12_sentInAll_25 : decode cX12_sentInAll 25 = .ok (.iaload, 1) := by decide +kernel
theorem dX12_sentInAll_26 : decode cX12_sentInAll 26 = .ok (.iadd, 1) := by decide +kernel
theorem dX12_sentInAll_27 : decode cX12_sentInAll 27 = .ok (.ireturn, 1) := by decide +kernel
theorem dX12_newOf_0 : decode cX12_newOf 0 = .ok (.aload_n 0, 1) := by decide +kernel
theorem dX12_newOf_1 : decode cX12_newOf 1 = .ok (.getfield 103, 3) := by decide +kernel
theorem dX12_newOf_4 : decode cX12_newOf 4 = .ok (.iload_n 1, 1) := by decide +kernel
theorem dX12_newOf_5 : decode cX12_newOf 5 = .ok (.iaload, 1) := by decide +kernel
theorem dX12_newOf_6 : decode cX12_newOf 6 = .ok (.aload_n 0, 1) := by decide +kernel
theorem dX12_newOf_7 : decode cX12_newOf 7 = .ok (.getfield 106, 3) := by decide +kernel
theorem dX12_newOf_10 : decode cX12_newOf 10 = .ok (.iload_n 1, 1) := by decide +kernel
theorem dX12_newOf_11 : decode cX12_newOf 11 = .ok (.iaload, 1) := by decide +kernel
theorem dX12_newOf_12 : decode cX12_newOf 12 = .ok (.isub, 1) := by decide +kernel
theorem dX12_newOf_13 : decode cX12_newOf 13 = .ok (.istore_n 2, 1) := by decide +kernel
theorem dX12_newOf_14 : decode cX12_newOf 14 = .ok (.aload_n 0, 1) := by decide +kernel
theorem dX12_newOf_15 : decode cX12_newOf 15 = .ok (.getfield 109, 3) := by decide +kernel
theorem dX12_newOf_18 : decode cX12_newOf 18 = .ok (.iload_n 1, 1) := by decide +kernel
theorem dX12_newOf_19 : decode cX12_newOf 19 = .ok (.iaload, 1) := by decide +kernel
theorem dX12_newOf_20 : decode cX12_newOf 20 = .ok (.aload_n 0, 1) := by decide +kernel
theorem dX12_newOf_21 : decode cX12_newOf 21 = .ok (.getfield 106, 3) := by decide +kernel
theorem dX12_newOf_24 : decode cX12_newOf 24 = .ok (.iload_n 1, 1) := by decide +kernel
theorem dX12_newOf_25 : decode cX12_newOf 25 = .ok (.iaload, 1) := by decide +kernel
theorem dX12_newOf_26 : decode cX12_newOf 26 = .ok (.isub, 1) := by decide +kernel
theorem dX12_newOf_27 : decode cX12_newOf 27 = .ok (.istore_n 3, 1) := by decide +kernel
theorem dX12_newOf_28 : decode cX12_newOf 28 = .ok (.aload_n 0, 1) := by decide +kernel
theorem dX12_newOf_29 : decode cX12_newOf 29 = .ok (.getfield 112, 3) := by decide +kernel
theorem dX12_newOf_32 : decode cX12_newOf 32 = .ok (.aload_n 0, 1) := by decide +kernel
theorem dX12_newOf_33 : decode cX12_newOf 33 = .ok (.invokevirtual 389, 3) := by decide +kernel
theorem dX12_newOf_36 : decode cX12_newOf 36 = .ok (.isub, 1) := by decide +kernel
theorem dX12_newOf_37 : decode cX12_newOf 37 = .ok (.istore 4, 2) := by decide +kernel
theorem dX12_newOf_39 : decode cX12_newOf 39 = .ok (.iload_n 2, 1) := by decide +kernel
theorem dX12_newOf_40 : decode cX12_newOf 40 = .ok (.iload_n 3, 1) := by decide +kernel
theorem dX12_newOf_41 : decode cX12_newOf 41 = .ok (.if_icmp .ge 7, 3) := by decide +kernel
theorem dX12_newOf_44 : decode cX12_newOf 44 = .ok (.iload_n 2, 1) := by decide +kernel
theorem dX12_newOf_45 : decode cX12_newOf 45 = .ok (.goto 4, 3) := by decide +kernel
theorem dX12_newOf_48 : decode cX12_newOf 48 = .ok (.iload_n 3, 1) := by decide +kernel
theorem dX12_newOf_49 : decode cX12_newOf 49 = .ok (.istore_n 2, 1) := by decide +kernel
theorem dX12_newOf_50 : decode cX12_newOf 50 = .ok (.iload_n 2, 1) := by decide +kernel
theorem dX12_newOf_51 : decode cX12_newOf 51 = .ok (.iload 4, 2) := by decide +kernel
theorem dX12_newOf_53 : decode cX12_newOf 53 = .ok (.if_icmp .ge 7, 3) := by decide +kernel
theorem dX12_newOf_56 : decode cX12_newOf 56 = .ok (.iload_n 2, 1) := by decide +kernel
theorem dX12_newOf_57 : decode cX12_newOf 57 = .ok (.goto 5, 3) := by decide +kernel
theorem dX12_newOf_60 : decode cX12_newOf 60 = .ok (.iload 4, 2) := by decide +kernel
theorem dX12_newOf_62 : decode cX12_newOf 62 = .ok (.istore_n 2, 1) := by decide +kernel
theorem dX12_newOf_63 : decode cX12_newOf 63 = .ok (.iload_n 2, 1) := by decide +kernel
theorem dX12_newOf_64 : decode cX12_newOf 64 = .ok (.bipush 10, 2) := by decide +kernel
theorem dX12_newOf_66 : decode cX12_newOf 66 = .ok (.if_icmp .le 8, 3) := by decide +kernel
theorem dX12_newOf_69 : decode cX12_newOf 69 = .ok (.bipush 10, 2) := by decide +kernel
theorem dX12_newOf_71 : decode cX12_newOf 71 = .ok (.goto 4, 3) := by decide +kernel
theorem dX12_newOf_74 : decode cX12_newOf 74 = .ok (.iload_n 2, 1) := by decide +kernel
theorem dX12_newOf_75 : decode cX12_newOf 75 = .ok (.ireturn, 1) := by decide +kernel
theorem dX12_canTake_0 : decode cX12_canTake 0 = .ok (.iconst 1, 1) := by decide +kernel
theorem dX12_canTake_1 : decode cX12_canTake 1 = .ok (.aload_n 0, 1) := by decide +kernel
theorem dX12_canTake_2 : decode cX12_canTake 2 = .ok (.getfield 172, 3) := by decide +kernel
theorem dX12_canTake_5 : decode cX12_canTake 5 = .ok (.iload_n 1, 1) := by decide +kernel
theorem dX12_canTake_6 : decode cX12_canTake 6 = .ok (.iaload, 1) := by decide +kernel
theorem dX12_canTake_7 : decode cX12_canTake 7 = .ok (.bipush 8, 2) := by decide +kernel
theorem dX12_canTake_9 : decode cX12_canTake 9 = .ok (.idiv, 1) := by decide +kernel
theorem dX12_canTake_10 : decode cX12_canTake 10 = .ok (.invokestatic 288, 3) := by decide +kernel
theorem dX12_canTake_13 : decode cX12_canTake 13 = .ok (.istore_n 2, 1) := by decide +kernel
theorem dX12_canTake_14 : decode cX12_canTake 14 = .ok (.iconst 2, 1) := by decide +kernel
theorem dX12_canTake_15 : decode cX12_canTake 15 = .ok (.aload_n 0, 1) := by decide +kernel
theorem dX12_canTake_16 : decode cX12_canTake 16 = .ok (.getfield 163, 3) := by decide +kernel
theorem dX12_canTake_19 : decode cX12_canTake 19 = .ok (.iload_n 1, 1) := by decide +kernel
theorem dX12_canTake_20 : decode cX12_canTake 20 = .ok (.iaload, 1) := by decide +kernel
theorem dX12_canTake_21 : decode cX12_canTake 21 = .ok (.bipush 16, 2) := by decide +kernel
theorem dX12_canTake_23 : decode cX12_canTake 23 = .ok (.idiv, 1) := by decide +kernel
theorem dX12_canTake_24 : decode cX12_canTake 24 = .ok (.iconst 2, 1) := by decide +kernel
theorem dX12_canTake_25 : decode cX12_canTake 25 = .ok (.imul, 1) := by decide +kernel
theorem dX12_canTake_26 : decode cX12_canTake 26 = .ok (.iload_n 2, 1) := by decide +kernel
theorem dX12_canTake_27 : decode cX12_canTake 27 = .ok (.iadd, 1) := by decide +kernel
theorem dX12_canTake_28 : decode cX12_canTake 28 = .ok (.iconst 1, 1) := by decide +kernel
theorem dX12_canTake_29 : decode cX12_canTake 29 = .ok (.isub, 1) := by decide +kernel
theorem dX12_canTake_30 : decode cX12_canTake 30 = .ok (.iload_n 2, 1) := by decide +kernel
theorem dX12_canTake_31 : decode cX12_canTake 31 = .ok (.idiv, 1) := by decide +kernel
theorem dX12_canTake_32 : decode cX12_canTake 32 = .ok (.invokestatic 288, 3) := by decide +kernel
theorem dX12_canTake_35 : decode cX12_canTake 35 = .ok (.istore_n 3, 1) := by decide +kernel
theorem dX12_canTake_36 : decode cX12_canTake 36 = .ok (.aload_n 0, 1) := by decide +kernel
theorem dX12_canTake_37 : decode cX12_canTake 37 = .ok (.getfield 393, 3) := by decide +kernel
theorem dX12_canTake_40 : decode cX12_canTake 40 = .ok (.iconst 2, 1) := by decide +kernel
theorem dX12_canTake_41 : decode cX12_canTake 41 = .ok (.if_icmp .eq 11, 3) := by decide +kernel
theorem dX12_canTake_44 : decode cX12_canTake 44 = .ok (.aload_n 0, 1) := by decide +kernel
theorem dX12_canTake_45 : decode cX12_canTake 45 = .ok (.getfield 393, 3) := by decide +kernel
theorem dX12_canTake_48 : decode cX12_canTake 48 = .ok (.iload_n 1, 1) := by decide +kernel
theorem dX12_canTake_49 : decode cX12_canTake 49 = .ok (.if_icmp .ne 36, 3) := by decide +kernel
theorem dX12_canTake_52 : decode cX12_canTake 52 = .ok (.bipush 16, 2) := by decide +kernel
theorem dX12_canTake_54 : decode cX12_canTake 54 = .ok (.aload_n 0, 1) := by decide +kernel
theorem dX12_canTake_55 : decode cX12_canTake 55 = .ok (.iload_n 1, 1) := by decide +kernel
theorem dX12_canTake_56 : decode cX12_canTake 56 = .ok (.invokevirtual 396, 3) := by decide +kernel
theorem dX12_canTake_59 : decode cX12_canTake 59 = .ok (.iconst 1, 1) := by decide +kernel
theorem dX12_canTake_60 : decode cX12_canTake 60 = .ok (.iadd, 1) := by decide +kernel
theorem dX12_canTake_61 : decode cX12_canTake 61 = .ok (.imul, 1) := by decide +kernel
theorem dX12_canTake_62 : decode cX12_canTake 62 = .ok (.aload_n 0, 1) := by decide +kernel
theorem dX12_canTake_63 : decode cX12_canTake 63 = .ok (.getfield 163, 3) := by decide +kernel
theorem dX12_canTake_66 : decode cX12_canTake 66 = .ok (.iload_n 1, 1) := by decide +kernel
theorem dX12_canTake_67 : decode cX12_canTake 67 = .ok (.iaload, 1) := by decide +kernel
theorem dX12_canTake_68 : decode cX12_canTake 68 = .ok (.if_icmp .gt 17, 3) := by decide +kernel
theorem dX12_canTake_71 : decode cX12_canTake 71 = .ok (.aload_n 0, 1) := by decide +kernel
theorem dX12_canTake_72 : decode cX12_canTake 72 = .ok (.getfield 226, 3) := by decide +kernel
theorem dX12_canTake_75 : decode cX12_canTake 75 = .ok (.iload_n 1, 1) := by decide +kernel
theorem dX12_canTake_76 : decode cX12_canTake 76 = .ok (.iaload, 1) := by decide +kernel
theorem dX12_canTake_77 : decode cX12_canTake 77 = .ok (.iload_n 3, 1) := by decide +kernel
theorem dX12_canTake_78 : decode cX12_canTake 78 = .ok (.if_icmp .ge 7, 3) := by decide +kernel
theorem dX12_canTake_81 : decode cX12_canTake 81 = .ok (.iconst 1, 1) := by decide +kernel
theorem dX12_canTake_82 : decode cX12_canTake 82 = .ok (.goto 4, 3) := by decide +kernel
theorem dX12_canTake_85 : decode cX12_canTake 85 = .ok (.iconst 0, 1) := by decide +kernel
theorem dX12_canTake_86 : decode cX12_canTake 86 = .ok (.ireturn, 1) := by decide +kernel
theorem dX12_nextPath_0 : decode cX12_nextPath 0 = .ok (.aload_n 0, 1) := by decide +kernel
theorem dX12_nextPath_1 : decode cX12_nextPath 1 = .ok (.iconst 0, 1) := by decide +kernel
theorem dX12_nextPath_2 : decode cX12_nextPath 2 = .ok (.invokevirtual 399, 3) := by decide +kernel
theorem dX12_nextPath_5 : decode cX12_nextPath 5 = .ok (.istore_n 1, 1) := by decide +kernel
theorem dX12_nextPath_6 : decode cX12_nextPath 6 = .ok (.aload_n 0, 1) := by decide +kernel
theorem dX12_nextPath_7 : decode cX12_nextPath 7 = .ok (.iconst 1, 1) := by decide +kernel
theorem dX12_nextPath_8 : decode cX12_nextPath 8 = .ok (.invokevirtual 399, 3) := by decide +kernel
theorem dX12_nextPath_11 : decode cX12_nextPath 11 = .ok (.istore_n 2, 1) := by decide +kernel
theorem dX12_nextPath_12 : decode cX12_nextPath 12 = .ok (.iload_n 1, 1) := by decide +kernel
theorem dX12_nextPath_13 : decode cX12_nextPath 13 = .ok (.ifCond .eq 28, 3) := by decide +kernel
theorem dX12_nextPath_16 : decode cX12_nextPath 16 = .ok (.iload_n 2, 1) := by decide +kernel
theorem dX12_nextPath_17 : decode cX12_nextPath 17 = .ok (.ifCond .eq 24, 3) := by decide +kernel
theorem dX12_nextPath_20 : decode cX12_nextPath 20 = .ok (.aload_n 0, 1) := by decide +kernel
theorem dX12_nextPath_21 : decode cX12_nextPath 21 = .ok (.iconst 1, 1) := by decide +kernel
theorem dX12_nextPath_22 : decode cX12_nextPath 22 = .ok (.invokevirtual 396, 3) := by decide +kernel
theorem dX12_nextPath_25 : decode cX12_nextPath 25 = .ok (.aload_n 0, 1) := by decide +kernel
theorem dX12_nextPath_26 : decode cX12_nextPath 26 = .ok (.iconst 0, 1) := by decide +kernel
theorem dX12_nextPath_27 : decode cX12_nextPath 27 = .ok (.invokevirtual 396, 3) := by decide +kernel
theorem dX12_nextPath_30 : decode cX12_nextPath 30 = .ok (.if_icmp .ge 7, 3) := by decide +kernel
theorem dX12_nextPath_33 : decode cX12_nextPath 33 = .ok (.iconst 1, 1) := by decide +kernel
theorem dX12_nextPath_34 : decode cX12_nextPath 34 = .ok (.goto 24, 3) := by decide +kernel
theorem dX12_nextPath_37 : decode cX12_nextPath 37 = .ok (.iconst 0, 1) := by decide +kernel
theorem dX12_nextPath_38 : decode cX12_nextPath 38 = .ok (.goto 20, 3) := by decide +kernel
theorem dX12_nextPath_41 : decode cX12_nextPath 41 = .ok (.iload_n 1, 1) := by decide +kernel
theorem dX12_nextPath_42 : decode cX12_nextPath 42 = .ok (.ifCond .eq 7, 3) := by decide +kernel
theorem dX12_nextPath_45 : decode cX12_nextPath 45 = .ok (.iconst 0, 1) := by decide +kernel
theorem dX12_nextPath_46 : decode cX12_nextPath 46 = .ok (.goto 12, 3) := by decide +kernel
theorem dX12_nextPath_49 : decode cX12_nextPath 49 = .ok (.iload_n 2, 1) := by decide +kernel
theorem dX12_nextPath_50 : decode cX12_nextPath 50 = .ok (.ifCond .eq 7, 3) := by decide +kernel
theorem dX12_nextPath_53 : decode cX12_nextPath 53 = .ok (.iconst 1, 1) := by decide +kernel
theorem dX12_nextPath_54 : decode cX12_nextPath 54 = .ok (.goto 4, 3) := by decide +kernel
theorem dX12_nextPath_57 : decode cX12_nextPath 57 = .ok (.iconst (-1), 1) := by decide +kernel
theorem dX12_nextPath_58 : decode cX12_nextPath 58 = .ok (.ireturn, 1) := by decide +kernel
theorem dX12_sendsNext_0 : decode cX12_sendsNext 0 = .ok (.iconst 0, 1) := by decide +kernel
theorem dX12_sendsNext_1 : decode cX12_sendsNext 1 = .ok (.istore_n 2, 1) := by decide +kernel
theorem dX12_sendsNext_2 : decode cX12_sendsNext 2 = .ok (.iload_n 2, 1) := by decide +kernel
theorem dX12_sendsNext_3 : decode cX12_sendsNext 3 = .ok (.iconst 4, 1) := by decide +kernel
theorem dX12_sendsNext_4 : decode cX12_sendsNext 4 = .ok (.if_icmp .ge 70, 3) := by decide +kernel
theorem dX12_sendsNext_7 : decode cX12_sendsNext 7 = .ok (.aload_n 0, 1) := by decide +kernel
theorem dX12_sendsNext_8 : decode cX12_sendsNext 8 = .ok (.iload_n 2, 1) := by decide +kernel
theorem dX12_sendsNext_9 : decode cX12_sendsNext 9 = .ok (.invokevirtual 402, 3) := by decide +kernel
theorem dX12_sendsNext_12 : decode cX12_sendsNext 12 = .ok (.istore_n 3, 1) := by decide +kernel
theorem dX12_sendsNext_13 : decode cX12_sendsNext 13 = .ok (.iload_n 3, 1) := by decide +kernel
theorem dX12_sendsNext_14 : decode cX12_sendsNext 14 = .ok (.iconst (-1), 1) := by decide +kernel
theorem dX12_sendsNext_15 : decode cX12_sendsNext 15 = .ok (.if_icmp .eq 53, 3) := by decide +kernel
theorem dX12_sendsNext_18 : decode cX12_sendsNext 18 = .ok (.iconst 1, 1) := by decide +kernel
theorem dX12_sendsNext_19 : decode cX12_sendsNext 19 = .ok (.istore 4, 2) := by decide +kernel
theorem dX12_sendsNext_21 : decode cX12_sendsNext 21 = .ok (.iload 4, 2) := by decide +kernel
theorem dX12_sendsNext_23 : decode cX12_sendsNext 23 = .ok (.bipush 10, 2) := by decide +kernel
theorem dX12_sendsNext_25 : decode cX12_sendsNext 25 = .ok (.if_icmp .ge 31, 3) := by decide +kernel
theorem dX12_sendsNext_28 : decode cX12_sendsNext 28 = .ok (.iload_n 3, 1) := by decide +kernel
theorem dX12_sendsNext_29 : decode cX12_sendsNext 29 = .ok (.iload 4, 2) := by decide +kernel
theorem dX12_sendsNext_31 : decode cX12_sendsNext 31 = .ok (.iadd, 1) := by decide +kernel
theorem dX12_sendsNext_32 : decode cX12_sendsNext 32 = .ok (.sipush 200, 3) := by decide +kernel
theorem dX12_sendsNext_35 : decode cX12_sendsNext 35 = .ok (.if_icmp .ge 21, 3) := by decide +kernel
theorem dX12_sendsNext_38 : decode cX12_sendsNext 38 = .ok (.aload_n 0, 1) := by decide +kernel
theorem dX12_sendsNext_39 : decode cX12_sendsNext 39 = .ok (.iload_n 2, 1) := by decide +kernel
theorem dX12_sendsNext_40 : decode cX12_sendsNext 40 = .ok (.iload_n 3, 1) := by decide +kernel
theorem dX12_sendsNext_41 : decode cX12_sendsNext 41 = .ok (.iload 4, 2) := by decide +kernel
theorem dX12_sendsNext_43 : decode cX12_sendsNext 43 = .ok (.iadd, 1) := by decide +kernel
theorem dX12_sendsNext_44 : decode cX12_sendsNext 44 = .ok (.invokevirtual 385, 3) := by decide +kernel
theorem dX12_sendsNext_47 : decode cX12_sendsNext 47 = .ok (.ifCond .eq 9, 3) := by decide +kernel
theorem dX12_sendsNext_50 : decode cX12_sendsNext 50 = .ok (.iinc 4 1, 3) := by decide +kernel
theorem dX12_sendsNext_53 : decode cX12_sendsNext 53 = .ok (.goto (-32), 3) := by decide +kernel
theorem dX12_sendsNext_56 : decode cX12_sendsNext 56 = .ok (.aload_n 0, 1) := by decide +kernel
theorem dX12_sendsNext_57 : decode cX12_sendsNext 57 = .ok (.iload_n 1, 1) := by decide +kernel
theorem dX12_sendsNext_58 : decode cX12_sendsNext 58 = .ok (.iload_n 2, 1) := by decide +kernel
theorem dX12_sendsNext_59 : decode cX12_sendsNext 59 = .ok (.iload_n 3, 1) := by decide +kernel
theorem dX12_sendsNext_60 : decode cX12_sendsNext 60 = .ok (.iload 4, 2) := by decide +kernel
theorem dX12_sendsNext_62 : decode cX12_sendsNext 62 = .ok (.iconst 0, 1) := by decide +kernel
theorem dX12_sendsNext_63 : decode cX12_sendsNext 63 = .ok (.invokevirtual 405, 3) := by decide +kernel
theorem dX12_sendsNext_66 : decode cX12_sendsNext 66 = .ok (.iconst 1, 1) := by decide +kernel
theorem dX12_sendsNext_67 : decode cX12_sendsNext 67 = .ok (.ireturn, 1) := by decide +kernel
theorem dX12_sendsNext_68 : decode cX12_sendsNext 68 = .ok (.iinc 2 1, 3) := by decide +kernel
theorem dX12_sendsNext_71 : decode cX12_sendsNext 71 = .ok (.goto (-69), 3) := by decide +kernel
theorem dX12_sendsNext_74 : decode cX12_sendsNext 74 = .ok (.iconst 1, 1) := by decide +kernel
theorem dX12_sendsNext_75 : decode cX12_sendsNext 75 = .ok (.istore_n 2, 1) := by decide +kernel
theorem dX12_sendsNext_76 : decode cX12_sendsNext 76 = .ok (.iload_n 2, 1) := by decide +kernel
theorem dX12_sendsNext_77 : decode cX12_sendsNext 77 = .ok (.iconst 4, 1) := by decide +kernel
theorem dX12_sendsNext_78 : decode cX12_sendsNext 78 = .ok (.if_icmp .gt 66, 3) := by decide +kernel
theorem dX12_sendsNext_81 : decode cX12_sendsNext 81 = .ok (.aload_n 0, 1) := by decide +kernel
theorem dX12_sendsNext_82 : decode cX12_sendsNext 82 = .ok (.getfield 115, 3) := by decide +kernel
theorem dX12_sendsNext_85 : decode cX12_sendsNext 85 = .ok (.iload_n 2, 1) := by decide +kernel
theorem dX12_sendsNext_86 : decode cX12_sendsNext 86 = .ok (.iadd, 1) := by decide +kernel
theorem dX12_sendsNext_87 : decode cX12_sendsNext 87 = .ok (.iconst 4, 1) := by decide +kernel
theorem dX12_sendsNext_88 : decode cX12_sendsNext 88 = .ok (.irem, 1) := by decide +kernel
theorem dX12_sendsNext_89 : decode cX12_sendsNext 89 = .ok (.istore_n 3, 1) := by decide +kernel
theorem dX12_sendsNext_90 : decode cX12_sendsNext 90 = .ok (.aload_n 0, 1) := by decide +kernel
theorem dX12_sendsNext_91 : decode cX12_sendsNext 91 = .ok (.iload_n 3, 1) := by decide +kernel
theorem dX12_sendsNext_92 : decode cX12_sendsNext 92 = .ok (.invokevirtual 409, 3) := by decide +kernel
theorem dX12_sendsNext_95 : decode cX12_sendsNext 95 = .ok (.istore 4, 2) := by decide +kernel
theorem dX12_sendsNext_97 : decode cX12_sendsNext 97 = .ok (.iload 4, 2) := by decide +kernel
theorem dX12_sendsNext_99 : decode cX12_sendsNext 99 = .ok (.ifCond .le 39, 3) := by decide +kernel
theorem dX12_sendsNext_102 : decode cX12_sendsNext 102 = .ok (.aload_n 0, 1) := by decide +kernel
theorem dX12_sendsNext_103 : decode cX12_sendsNext 103 = .ok (.getfield 106, 3) := by decide +kernel
theorem dX12_sendsNext_106 : decode cX12_sendsNext 106 = .ok (.iload_n 3, 1) := by decide +kernel
theorem dX12_sendsNext_107 : decode cX12_sendsNext 107 = .ok (.dup2, 1) := by decide +kernel
theorem dX12_sendsNext_108 : decode cX12_sendsNext 108 = .ok (.iaload, 1) := by decide +kernel
theorem dX12_sendsNext_109 : decode cX12_sendsNext 109 = .ok (.iload 4, 2) := by decide +kernel
theorem dX12_sendsNext_111 : decode cX12_sendsNext 111 = .ok (.iadd, 1) := by decide +kernel
theorem dX12_sendsNext_112 : decode cX12_sendsNext 112 = .ok (.iastore, 1) := by decide +kernel
theorem dX12_sendsNext_113 : decode cX12_sendsNext 113 = .ok (.aload_n 0, 1) := by decide +kernel
theorem dX12_sendsNext_114 : decode cX12_sendsNext 114 = .ok (.iload_n 3, 1) := by decide +kernel
theorem dX12_sendsNext_115 : decode cX12_sendsNext 115 = .ok (.putfield 115, 3) := by decide +kernel
theorem dX12_sendsNext_118 : decode cX12_sendsNext 118 = .ok (.aload_n 0, 1) := by decide +kernel
theorem dX12_sendsNext_119 : decode cX12_sendsNext 119 = .ok (.iload_n 1, 1) := by decide +kernel
theorem dX12_sendsNext_120 : decode cX12_sendsNext 120 = .ok (.iload_n 3, 1) := by decide +kernel
theorem dX12_sendsNext_121 : decode cX12_sendsNext 121 = .ok (.aload_n 0, 1) := by decide +kernel
theorem dX12_sendsNext_122 : decode cX12_sendsNext 122 = .ok (.getfield 106, 3) := by decide +kernel
theorem dX12_sendsNext_125 : decode cX12_sendsNext 125 = .ok (.iload_n 3, 1) := by decide +kernel
theorem dX12_sendsNext_126 : decode cX12_sendsNext 126 = .ok (.iaload, 1) := by decide +kernel
theorem dX12_sendsNext_127 : decode cX12_sendsNext 127 = .ok (.iload 4, 2) := by decide +kernel
theorem dX12_sendsNext_129 : decode cX12_sendsNext 129 = .ok (.isub, 1) := by decide +kernel
theorem dX12_sendsNext_130 : decode cX12_sendsNext 130 = .ok (.iload 4, 2) := by decide +kernel
theorem dX12_sendsNext_132 : decode cX12_sendsNext 132 = .ok (.iconst 0, 1) := by decide +kernel
theorem dX12_sendsNext_133 : decode cX12_sendsNext 133 = .ok (.invokevirtual 405, 3) := by decide +kernel
theorem dX12_sendsNext_136 : decode cX12_sendsNext 136 = .ok (.iconst 1, 1) := by decide +kernel
theorem dX12_sendsNext_137 : decode cX12_sendsNext 137 = .ok (.ireturn, 1) := by decide +kernel
theorem dX12_sendsNext_138 : decode cX12_sendsNext 138 = .ok (.iinc 2 1, 3) := by decide +kernel
theorem dX12_sendsNext_141 : decode cX12_sendsNext 141 = .ok (.goto (-65), 3) := by decide +kernel
theorem dX12_sendsNext_144 : decode cX12_sendsNext 144 = .ok (.iconst 0, 1) := by decide +kernel
theorem dX12_sendsNext_145 : decode cX12_sendsNext 145 = .ok (.ireturn, 1) := by decide +kernel
theorem dX12_sendsAll_0 : decode cX12_sendsAll 0 = .ok (.aload_n 0, 1) := by decide +kernel
theorem dX12_sendsAll_1 : decode cX12_sendsAll 1 = .ok (.getfield 226, 3) := by decide +kernel
theorem dX12_sendsAll_4 : decode cX12_sendsAll 4 = .ok (.iconst 0, 1) := by decide +kernel
theorem dX12_sendsAll_5 : decode cX12_sendsAll 5 = .ok (.iconst 0, 1) := by decide +kernel
theorem dX12_sendsAll_6 : decode cX12_sendsAll 6 = .ok (.iastore, 1) := by decide +kernel
theorem dX12_sendsAll_7 : decode cX12_sendsAll 7 = .ok (.aload_n 0, 1) := by decide +kernel
theorem dX12_sendsAll_8 : decode cX12_sendsAll 8 = .ok (.getfield 226, 3) := by decide +kernel
theorem dX12_sendsAll_11 : decode cX12_sendsAll 11 = .ok (.iconst 1, 1) := by decide +kernel
theorem dX12_sendsAll_12 : decode cX12_sendsAll 12 = .ok (.iconst 0, 1) := by decide +kernel
theorem dX12_sendsAll_13 : decode cX12_sendsAll 13 = .ok (.iastore, 1) := by decide +kernel
theorem dX12_sendsAll_14 : decode cX12_sendsAll 14 = .ok (.aload_n 0, 1) := by decide +kernel
theorem dX12_sendsAll_15 : decode cX12_sendsAll 15 = .ok (.getfield 366, 3) := by decide +kernel
theorem dX12_sendsAll_18 : decode cX12_sendsAll 18 = .ok (.iconst 2, 1) := by decide +kernel
theorem dX12_sendsAll_19 : decode cX12_sendsAll 19 = .ok (.if_icmp .eq 19, 3) := by decide +kernel
theorem dX12_sendsAll_22 : decode cX12_sendsAll 22 = .ok (.aload_n 0, 1) := by decide +kernel
theorem dX12_sendsAll_23 : decode cX12_sendsAll 23 = .ok (.getfield 366, 3) := by decide +kernel
theorem dX12_sendsAll_26 : decode cX12_sendsAll 26 = .ok (.iconst 1, 1) := by decide +kernel
theorem dX12_sendsAll_27 : decode cX12_sendsAll 27 = .ok (.if_icmp .ne 15, 3) := by decide +kernel
theorem dX12_sendsAll_30 : decode cX12_sendsAll 30 = .ok (.aload_n 0, 1) := by decide +kernel
theorem dX12_sendsAll_31 : decode cX12_sendsAll 31 = .ok (.getfield 100, 3) := by decide +kernel
theorem dX12_sendsAll_34 : decode cX12_sendsAll 34 = .ok (.iconst (-1), 1) := by decide +kernel
theorem dX12_sendsAll_35 : decode cX12_sendsAll 35 = .ok (.if_icmp .eq 7, 3) := by decide +kernel
theorem dX12_sendsAll_38 : decode cX12_sendsAll 38 = .ok (.iconst 1, 1) := by decide +kernel
theorem dX12_sendsAll_39 : decode cX12_sendsAll 39 = .ok (.goto 4, 3) := by decide +kernel
theorem dX12_sendsAll_42 : decode cX12_sendsAll 42 = .ok (.iconst 0, 1) := by decide +kernel
theorem dX12_sendsAll_43 : decode cX12_sendsAll 43 = .ok (.istore_n 1, 1) := by decide +kernel
theorem dX12_sendsAll_44 : decode cX12_sendsAll 44 = .ok (.iload_n 1, 1) := by decide +kernel
theorem dX12_sendsAll_45 : decode cX12_sendsAll 45 = .ok (.ifCond .eq 58, 3) := by decide +kernel
theorem dX12_sendsAll_48 : decode cX12_sendsAll 48 = .ok (.aload_n 0, 1) := by decide +kernel
theorem dX12_sendsAll_49 : decode cX12_sendsAll 49 = .ok (.getfield 313, 3) := by decide +kernel
theorem dX12_sendsAll_52 : decode cX12_sendsAll 52 = .ok (.sipush 400, 3) := by decide +kernel
theorem dX12_sendsAll_55 : decode cX12_sendsAll 55 = .ok (.if_icmp .ge 10, 3) := by decide +kernel
theorem dX12_sendsAll_58 : decode cX12_sendsAll 58 = .ok (.aload_n 0, 1) := by decide +kernel
theorem dX12_sendsAll_59 : decode cX12_sendsAll 59 = .ok (.invokevirtual 412, 3) := by decide +kernel
theorem dX12_sendsAll_62 : decode cX12_sendsAll 62 = .ok (.goto 4, 3) := by decide +kernel
theorem dX12_sendsAll_65 : decode cX12_sendsAll 65 = .ok (.iconst (-1), 1) := by decide +kernel
theorem dX12_sendsAll_66 : decode cX12_sendsAll 66 = .ok (.istore_n 2, 1) := by decide +kernel
theorem dX12_sendsAll_67 : decode cX12_sendsAll 67 = .ok (.iload_n 2, 1) := by decide +kernel
theorem dX12_sendsAll_68 : decode cX12_sendsAll 68 = .ok (.iconst (-1), 1) := by decide +kernel
theorem dX12_sendsAll_69 : decode cX12_sendsAll 69 = .ok (.if_icmp .eq 15, 3) := by decide +kernel
theorem dX12_sendsAll_72 : decode cX12_sendsAll 72 = .ok (.aload_n 0, 1) := by decide +kernel
theorem dX12_sendsAll_73 : decode cX12_sendsAll 73 = .ok (.iload_n 2, 1) := by decide +kernel
theorem dX12_sendsAll_74 : decode cX12_sendsAll 74 = .ok (.invokevirtual 415, 3) := by decide +kernel
theorem dX12_sendsAll_77 : decode cX12_sendsAll 77 = .ok (.ifCond .eq 7, 3) := by decide +kernel
theorem dX12_sendsAll_80 : decode cX12_sendsAll 80 = .ok (.iconst 1, 1) := by decide +kernel
theorem dX12_sendsAll_81 : decode cX12_sendsAll 81 = .ok (.goto 4, 3) := by decide +kernel
theorem dX12_sendsAll_84 : decode cX12_sendsAll 84 = .ok (.iconst 0, 1) := by decide +kernel
theorem dX12_sendsAll_85 : decode cX12_sendsAll 85 = .ok (.istore_n 1, 1) := by decide +kernel
theorem dX12_sendsAll_86 : decode cX12_sendsAll 86 = .ok (.iload_n 1, 1) := by decide +kernel
theorem dX12_sendsAll_87 : decode cX12_sendsAll 87 = .ok (.ifCond .eq 13, 3) := by decide +kernel
theorem dX12_sendsAll_90 : decode cX12_sendsAll 90 = .ok (.aload_n 0, 1) := by decide +kernel
theorem dX12_sendsAll_91 : decode cX12_sendsAll 91 = .ok (.getfield 226, 3) := by decide +kernel
theorem dX12_sendsAll_94 : decode cX12_sendsAll 94 = .ok (.iload_n 2, 1) := by decide +kernel
theorem dX12_sendsAll_95 : decode cX12_sendsAll 95 = .ok (.dup2, 1) := by decide +kernel
theorem dX12_sendsAll_96 : decode cX12_sendsAll 96 = .ok (.iaload, 1) := by decide +kernel
theorem dX12_sendsAll_97 : decode cX12_sendsAll 97 = .ok (.iconst 1, 1) := by decide +kernel
theorem dX12_sendsAll_98 : decode cX12_sendsAll 98 = .ok (.iadd, 1) := by decide +kernel
theorem dX12_sendsAll_99 : decode cX12_sendsAll 99 = .ok (.iastore, 1) := by decide +kernel
theorem dX12_sendsAll_100 : decode cX12_sendsAll 100 = .ok (.goto (-56), 3) := by decide +kernel
theorem dX12_sendsAll_103 : decode cX12_sendsAll 103 = .ok (.return_, 1) := by decide +kernel
theorem dX12_probesOn_0 : decode cX12_probesOn 0 = .ok (.iconst (-1), 1) := by decide +kernel
theorem dX12_probesOn_1 : decode cX12_probesOn 1 = .ok (.istore_n 2, 1) := by decide +kernel
theorem dX12_probesOn_2 : decode cX12_probesOn 2 = .ok (.aload_n 0, 1) := by decide +kernel
theorem dX12_probesOn_3 : decode cX12_probesOn 3 = .ok (.getfield 313, 3) := by decide +kernel
theorem dX12_probesOn_6 : decode cX12_probesOn 6 = .ok (.iconst 1, 1) := by decide +kernel
theorem dX12_probesOn_7 : decode cX12_probesOn 7 = .ok (.isub, 1) := by decide +kernel
theorem dX12_probesOn_8 : decode cX12_probesOn 8 = .ok (.istore_n 3, 1) := by decide +kernel
theorem dX12_probesOn_9 : decode cX12_probesOn 9 = .ok (.iload_n 3, 1) := by decide +kernel
theorem dX12_probesOn_10 : decode cX12_probesOn 10 = .ok (.ifCond .lt 34, 3) := by decide +kernel
theorem dX12_probesOn_13 : decode cX12_probesOn 13 = .ok (.aload_n 0, 1) := by decide +kernel
theorem dX12_probesOn_14 : decode cX12_probesOn 14 = .ok (.getfield 124, 3) := by decide +kernel
theorem dX12_probesOn_17 : decode cX12_probesOn 17 = .ok (.iload_n 3, 1) := by decide +kernel
theorem dX12_probesOn_18 : decode cX12_probesOn 18 = .ok (.iaload, 1) := by decide +kernel
theorem dX12_probesOn_19 : decode cX12_probesOn 19 = .ok (.iload_n 1, 1) := by decide +kernel
theorem dX12_probesOn_20 : decode cX12_probesOn 20 = .ok (.if_icmp .ne 16, 3) := by decide +kernel
theorem dX12_probesOn_23 : decode cX12_probesOn 23 = .ok (.aload_n 0, 1) := by decide +kernel
theorem dX12_probesOn_24 : decode cX12_probesOn 24 = .ok (.getfield 139, 3) := by decide +kernel
theorem dX12_probesOn_27 : decode cX12_probesOn 27 = .ok (.iload_n 3, 1) := by decide +kernel
theorem dX12_probesOn_28 : decode cX12_probesOn 28 = .ok (.iaload, 1) := by decide +kernel
theorem dX12_probesOn_29 : decode cX12_probesOn 29 = .ok (.ifCond .ne 7, 3) := by decide +kernel
theorem dX12_probesOn_32 : decode cX12_probesOn 32 = .ok (.iload_n 3, 1) := by decide +kernel
theorem dX12_probesOn_33 : decode cX12_probesOn 33 = .ok (.goto 4, 3) := by decide +kernel
theorem dX12_probesOn_36 : decode cX12_probesOn 36 = .ok (.iload_n 2, 1) := by decide +kernel
theorem dX12_probesOn_37 : decode cX12_probesOn 37 = .ok (.istore_n 2, 1) := by decide +kernel
theorem dX12_probesOn_38 : decode cX12_probesOn 38 = .ok (.iinc 3 (-1), 3) := by decide +kernel
theorem dX12_probesOn_41 : decode cX12_probesOn 41 = .ok (.goto (-32), 3) := by decide +kernel
theorem dX12_probesOn_44 : decode cX12_probesOn 44 = .ok (.aload_n 0, 1) := by decide +kernel
theorem dX12_probesOn_45 : decode cX12_probesOn 45 = .ok (.getfield 172, 3) := by decide +kernel
theorem dX12_probesOn_48 : decode cX12_probesOn 48 = .ok (.iload_n 1, 1) := by decide +kernel
theorem dX12_probesOn_49 : decode cX12_probesOn 49 = .ok (.iaload, 1) := by decide +kernel
theorem dX12_probesOn_50 : decode cX12_probesOn 50 = .ok (.bipush 8, 2) := by decide +kernel
theorem dX12_probesOn_52 : decode cX12_probesOn 52 = .ok (.idiv, 1) := by decide +kernel
theorem dX12_probesOn_53 : decode cX12_probesOn 53 = .ok (.iconst 1, 1) := by decide +kernel
theorem dX12_probesOn_54 : decode cX12_probesOn 54 = .ok (.aload_n 0, 1) := by decide +kernel
theorem dX12_probesOn_55 : decode cX12_probesOn 55 = .ok (.getfield 175, 3) := by decide +kernel
theorem dX12_probesOn_58 : decode cX12_probesOn 58 = .ok (.iload_n 1, 1) := by decide +kernel
theorem dX12_probesOn_59 : decode cX12_probesOn 59 = .ok (.iaload, 1) := by decide +kernel
theorem dX12_probesOn_60 : decode cX12_probesOn 60 = .ok (.invokestatic 288, 3) := by decide +kernel
theorem dX12_probesOn_63 : decode cX12_probesOn 63 = .ok (.iadd, 1) := by decide +kernel
theorem dX12_probesOn_64 : decode cX12_probesOn 64 = .ok (.iconst 3, 1) := by decide +kernel
theorem dX12_probesOn_65 : decode cX12_probesOn 65 = .ok (.iadd, 1) := by decide +kernel
theorem dX12_probesOn_66 : decode cX12_probesOn 66 = .ok (.aload_n 0, 1) := by decide +kernel
theorem dX12_probesOn_67 : decode cX12_probesOn 67 = .ok (.getfield 199, 3) := by decide +kernel
theorem dX12_probesOn_70 : decode cX12_probesOn 70 = .ok (.iload_n 1, 1) := by decide +kernel
theorem dX12_probesOn_71 : decode cX12_probesOn 71 = .ok (.iaload, 1) := by decide +kernel
theorem dX12_probesOn_72 : decode cX12_probesOn 72 = .ok (.bipush 6, 2) := by decide +kernel
theorem dX12_probesOn_74 : decode cX12_probesOn 74 = .ok (.if_icmp .le 8, 3) := by decide +kernel
theorem dX12_probesOn_77 : decode cX12_probesOn 77 = .ok (.bipush 6, 2) := by decide +kernel
theorem dX12_probesOn_79 : decode cX12_probesOn 79 = .ok (.goto 9, 3) := by decide +kernel
theorem dX12_probesOn_82 : decode cX12_probesOn 82 = .ok (.aload_n 0, 1) := by decide +kernel
theorem dX12_probesOn_83 : decode cX12_probesOn 83 = .ok (.getfield 199, 3) := by decide +kernel
theorem dX12_probesOn_86 : decode cX12_probesOn 86 = .ok (.iload_n 1, 1) := by decide +kernel
theorem dX12_probesOn_87 : decode cX12_probesOn 87 = .ok (.iaload, 1) := by decide +kernel
theorem dX12_probesOn_88 : decode cX12_probesOn 88 = .ok (.ishl, 1) := by decide +kernel
theorem dX12_probesOn_89 : decode cX12_probesOn 89 = .ok (.istore_n 3, 1) := by decide +kernel
theorem dX12_probesOn_90 : decode cX12_probesOn 90 = .ok (.iload_n 2, 1) := by decide +kernel
theorem dX12_probesOn_91 : decode cX12_probesOn 91 = .ok (.iconst (-1), 1) := by decide +kernel
theorem dX12_probesOn_92 : decode cX12_probesOn 92 = .ok (.if_icmp .eq 72, 3) := by decide +kernel
theorem dX12_probesOn_95 : decode cX12_probesOn 95 = .ok (.aload_n 0, 1) := by decide +kernel
theorem dX12_probesOn_96 : decode cX12_probesOn 96 = .ok (.getfield 313, 3) := by decide +kernel
theorem dX12_probesOn_99 : decode cX12_probesOn 99 = .ok (.sipush 400, 3) := by decide +kernel
theorem dX12_probesOn_102 : decode cX12_probesOn 102 = .ok (.if_icmp .ge 62, 3) := by decide +kernel
theorem dX12_probesOn_105 : decode cX12_probesOn 105 = .ok (.aload_n 0, 1) := by decide +kernel
theorem dX12_probesOn_106 : decode cX12_probesOn 106 = .ok (.getfield 246, 3) := by decide +kernel
theorem dX12_probesOn_109 : decode cX12_probesOn 109 = .ok (.aload_n 0, 1) := by decide +kernel
theorem dX12_probesOn_110 : decode cX12_probesOn 110 = .ok (.getfield 196, 3) := by decide +kernel
theorem dX12_probesOn_113 : decode cX12_probesOn 113 = .ok (.iload_n 1, 1) := by decide +kernel
theorem dX12_probesOn_114 : decode cX12_probesOn 114 = .ok (.iaload, 1) := by decide +kernel
theorem dX12_probesOn_115 : decode cX12_probesOn 115 = .ok (.isub, 1) := by decide +kernel
theorem dX12_probesOn_116 : decode cX12_probesOn 116 = .ok (.iload_n 3, 1) := by decide +kernel
theorem dX12_probesOn_117 : decode cX12_probesOn 117 = .ok (.if_icmp .lt 47, 3) := by decide +kernel
theorem dX12_probesOn_120 : decode cX12_probesOn 120 = .ok (.aload_n 0, 1) := by decide +kernel
theorem dX12_probesOn_121 : decode cX12_probesOn 121 = .ok (.getfield 199, 3) := by decide +kernel
theorem dX12_probesOn_124 : decode cX12_probesOn 124 = .ok (.iload_n 1, 1) := by decide +kernel
theorem dX12_probesOn_125 : decode cX12_probesOn 125 = .ok (.dup2, 1) := by decide +kernel
theorem dX12_probesOn_126 : decode cX12_probesOn 126 = .ok (.iaload, 1) := by decide +kernel
theorem dX12_probesOn_127 : decode cX12_probesOn 127 = .ok (.iconst 1, 1) := by decide +kernel
theorem dX12_probesOn_128 : decode cX12_probesOn 128 = .ok (.iadd, 1) := by decide +kernel
theorem dX12_probesOn_129 : decode cX12_probesOn 129 = .ok (.iastore, 1) := by decide +kernel
theorem dX12_probesOn_130 : decode cX12_probesOn 130 = .ok (.aload_n 0, 1) := by decide +kernel
theorem dX12_probesOn_131 : decode cX12_probesOn 131 = .ok (.getfield 229, 3) := by decide +kernel
theorem dX12_probesOn_134 : decode cX12_probesOn 134 = .ok (.iconst 2, 1) := by decide +kernel
theorem dX12_probesOn_135 : decode cX12_probesOn 135 = .ok (.dup2, 1) := by decide +kernel
theorem dX12_probesOn_136 : decode cX12_probesOn 136 = .ok (.iaload, 1) := by decide +kernel
theorem dX12_probesOn_137 : decode cX12_probesOn 137 = .ok (.iconst 1, 1) := by decide +kernel
theorem dX12_probesOn_138 : decode cX12_probesOn 138 = .ok (.iadd, 1) := by decide +kernel
theorem dX12_probesOn_139 : decode cX12_probesOn 139 = .ok (.iastore, 1) := by decide +kernel
theorem dX12_probesOn_140 : decode cX12_probesOn 140 = .ok (.aload_n 0, 1) := by decide +kernel
theorem dX12_probesOn_141 : decode cX12_probesOn 141 = .ok (.iload_n 1, 1) := by decide +kernel
theorem dX12_probesOn_142 : decode cX12_probesOn 142 = .ok (.aload_n 0, 1) := by decide +kernel
theorem dX12_probesOn_143 : decode cX12_probesOn 143 = .ok (.getfield 130, 3) := by decide +kernel
theorem dX12_probesOn_146 : decode cX12_probesOn 146 = .ok (.iload_n 2, 1) := by decide +kernel
theorem dX12_probesOn_147 : decode cX12_probesOn 147 = .ok (.iaload, 1) := by decide +kernel
theorem dX12_probesOn_148 : decode cX12_probesOn 148 = .ok (.aload_n 0, 1) := by decide +kernel
theorem dX12_probesOn_149 : decode cX12_probesOn 149 = .ok (.getfield 133, 3) := by decide +kernel
theorem dX12_probesOn_152 : decode cX12_probesOn 152 = .ok (.iload_n 2, 1) := by decide +kernel
theorem dX12_probesOn_153 : decode cX12_probesOn 153 = .ok (.iaload, 1) := by decide +kernel
theorem dX12_probesOn_154 : decode cX12_probesOn 154 = .ok (.aload_n 0, 1) := by decide +kernel
theorem dX12_probesOn_155 : decode cX12_probesOn 155 = .ok (.getfield 136, 3) := by decide +kernel
theorem dX12_probesOn_158 : decode cX12_probesOn 158 = .ok (.iload_n 2, 1) := by decide +kernel
theorem dX12_probesOn_159 : decode cX12_probesOn 159 = .ok (.iaload, 1) := by decide +kernel
theorem dX12_probesOn_160 : decode cX12_probesOn 160 = .ok (.iconst 1, 1) := by decide +kernel
theorem dX12_probesOn_161 : decode cX12_probesOn 161 = .ok (.invokevirtual 405, 3) := by decide +kernel
theorem dX12_probesOn_164 : decode cX12_probesOn 164 = .ok (.return_, 1) := by decide +kernel
theorem dX12_connect_0 : decode cX12_connect 0 = .ok (.aload_n 0, 1) := by decide +kernel
theorem dX12_connect_1 : decode cX12_connect 1 = .ok (.iload_n 1, 1) := by decide +kernel
theorem dX12_connect_2 : decode cX12_connect 2 = .ok (.iconst (-1), 1) := by decide +kernel
theorem dX12_connect_3 : decode cX12_connect 3 = .ok (.bipush 9, 2) := by decide +kernel
theorem dX12_connect_5 : decode cX12_connect 5 = .ok (.invokestatic 236, 3) := by decide +kernel
theorem dX12_connect_8 : decode cX12_connect 8 = .ok (.aload_n 0, 1) := by decide +kernel
theorem dX12_connect_9 : decode cX12_connect 9 = .ok (.getfield 366, 3) := by decide +kernel
theorem dX12_connect_12 : decode cX12_connect 12 = .ok (.ifCond .ne 7, 3) := by decide +kernel
theorem dX12_connect_15 : decode cX12_connect 15 = .ok (.iconst 1, 1) := by decide +kernel
theorem dX12_connect_16 : decode cX12_connect 16 = .ok (.goto 4, 3) := by decide +kernel
theorem dX12_connect_19 : decode cX12_connect 19 = .ok (.iconst 0, 1) := by decide +kernel
theorem dX12_connect_20 : decode cX12_connect 20 = .ok (.iconst 1, 1) := by decide +kernel
theorem dX12_connect_21 : decode cX12_connect 21 = .ok (.invokevirtual 253, 3) := by decide +kernel
theorem dX12_connect_24 : decode cX12_connect 24 = .ok (.ifCond .eq 23, 3) := by decide +kernel
theorem dX12_connect_27 : decode cX12_connect 27 = .ok (.aload_n 0, 1) := by decide +kernel
theorem dX12_connect_28 : decode cX12_connect 28 = .ok (.iconst 1, 1) := by decide +kernel
theorem dX12_connect_29 : decode cX12_connect 29 = .ok (.putfield 366, 3) := by decide +kernel
theorem dX12_connect_32 : decode cX12_connect 32 = .ok (.aload_n 0, 1) := by decide +kernel
theorem dX12_connect_33 : decode cX12_connect 33 = .ok (.iload_n 1, 1) := by decide +kernel
theorem dX12_connect_34 : decode cX12_connect 34 = .ok (.putfield 100, 3) := by decide +kernel
theorem dX12_connect_37 : decode cX12_connect 37 = .ok (.aload_n 0, 1) := by decide +kernel
theorem dX12_connect_38 : decode cX12_connect 38 = .ok (.bipush 10, 2) := by decide +kernel
theorem dX12_connect_40 : decode cX12_connect 40 = .ok (.putfield 369, 3) := by decide +kernel
theorem dX12_connect_43 : decode cX12_connect 43 = .ok (.aload_n 0, 1) := by decide +kernel
theorem dX12_connect_44 : decode cX12_connect 44 = .ok (.invokevirtual 372, 3) := by decide +kernel
theorem dX12_connect_47 : decode cX12_connect 47 = .ok (.return_, 1) := by decide +kernel
theorem dX12_write_0 : decode cX12_write 0 = .ok (.iload_n 1, 1) := by decide +kernel
theorem dX12_write_1 : decode cX12_write 1 = .ok (.invokestatic 306, 3) := by decide +kernel
theorem dX12_write_4 : decode cX12_write 4 = .ok (.istore_n 3, 1) := by decide +kernel
theorem dX12_write_5 : decode cX12_write 5 = .ok (.aload_n 0, 1) := by decide +kernel
theorem dX12_write_6 : decode cX12_write 6 = .ok (.iload_n 3, 1) := by decide +kernel
theorem dX12_write_7 : decode cX12_write 7 = .ok (.iload_n 2, 1) := by decide +kernel
theorem dX12_write_8 : decode cX12_write 8 = .ok (.iconst 1, 1) := by decide +kernel
theorem dX12_write_9 : decode cX12_write 9 = .ok (.sipush 200, 3) := by decide +kernel
theorem dX12_write_12 : decode cX12_write 12 = .ok (.invokestatic 236, 3) := by decide +kernel
theorem dX12_write_15 : decode cX12_write 15 = .ok (.iload_n 3, 1) := by decide +kernel
theorem dX12_write_16 : decode cX12_write 16 = .ok (.ifCond .eq 32, 3) := by decide +kernel
theorem dX12_write_19 : decode cX12_write 19 = .ok (.iload_n 2, 1) := by decide +kernel
theorem dX12_write_20 : decode cX12_write 20 = .ok (.iconst 1, 1) := by decide +kernel
theorem dX12_write_21 : decode cX12_write 21 = .ok (.sipush 200, 3) := by decide +kernel
theorem dX12_write_24 : decode cX12_write 24 = .ok (.invokestatic 236, 3) := by decide +kernel
theorem dX12_write_27 : decode cX12_write 27 = .ok (.ifCond .eq 21, 3) := by decide +kernel
theorem dX12_write_30 : decode cX12_write 30 = .ok (.aload_n 0, 1) := by decide +kernel
theorem dX12_write_31 : decode cX12_write 31 = .ok (.getfield 103, 3) := by decide +kernel
theorem dX12_write_34 : decode cX12_write 34 = .ok (.iload_n 1, 1) := by decide +kernel
theorem dX12_write_35 : decode cX12_write 35 = .ok (.iaload, 1) := by decide +kernel
theorem dX12_write_36 : decode cX12_write 36 = .ok (.iload_n 2, 1) := by decide +kernel
theorem dX12_write_37 : decode cX12_write 37 = .ok (.iadd, 1) := by decide +kernel
theorem dX12_write_38 : decode cX12_write 38 = .ok (.sipush 200, 3) := by decide +kernel
theorem dX12_write_41 : decode cX12_write 41 = .ok (.if_icmp .gt 7, 3) := by decide +kernel
theorem dX12_write_44 : decode cX12_write 44 = .ok (.iconst 1, 1) := by decide +kernel
theorem dX12_write_45 : decode cX12_write 45 = .ok (.goto 4, 3) := by decide +kernel
theorem dX12_write_48 : decode cX12_write 48 = .ok (.iconst 0, 1) := by decide +kernel
theorem dX12_write_49 : decode cX12_write 49 = .ok (.invokevirtual 253, 3) := by decide +kernel
theorem dX12_write_52 : decode cX12_write 52 = .ok (.ifCond .ne 5, 3) := by decide +kernel
theorem dX12_write_55 : decode cX12_write 55 = .ok (.iconst 0, 1) := by decide +kernel
theorem dX12_write_56 : decode cX12_write 56 = .ok (.ireturn, 1) := by decide +kernel
theorem dX12_write_57 : decode cX12_write 57 = .ok (.aload_n 0, 1) := by decide +kernel
theorem dX12_write_58 : decode cX12_write 58 = .ok (.getfield 103, 3) := by decide +kernel
theorem dX12_write_61 : decode cX12_write 61 = .ok (.iload_n 1, 1) := by decide +kernel
theorem dX12_write_62 : decode cX12_write 62 = .ok (.dup2, 1) := by decide +kernel
theorem dX12_write_63 : decode cX12_write 63 = .ok (.iaload, 1) := by decide +kernel
theorem dX12_write_64 : decode cX12_write 64 = .ok (.iload_n 2, 1) := by decide +kernel
theorem dX12_write_65 : decode cX12_write 65 = .ok (.iadd, 1) := by decide +kernel
theorem dX12_write_66 : decode cX12_write 66 = .ok (.iastore, 1) := by decide +kernel
theorem dX12_write_67 : decode cX12_write 67 = .ok (.aload_n 0, 1) := by decide +kernel
theorem dX12_write_68 : decode cX12_write 68 = .ok (.getfield 103, 3) := by decide +kernel
theorem dX12_write_71 : decode cX12_write 71 = .ok (.iload_n 1, 1) := by decide +kernel
theorem dX12_write_72 : decode cX12_write 72 = .ok (.iaload, 1) := by decide +kernel
theorem dX12_write_73 : decode cX12_write 73 = .ok (.ireturn, 1) := by decide +kernel
theorem dX12_setWay_0 : decode cX12_setWay 0 = .ok (.aload_n 0, 1) := by decide +kernel
theorem dX12_setWay_1 : decode cX12_setWay 1 = .ok (.iload_n 1, 1) := by decide +kernel
theorem dX12_setWay_2 : decode cX12_setWay 2 = .ok (.invokestatic 249, 3) := by decide +kernel
theorem dX12_setWay_5 : decode cX12_setWay 5 = .ok (.iload_n 2, 1) := by decide +kernel
theorem dX12_setWay_6 : decode cX12_setWay 6 = .ok (.iconst 0, 1) := by decide +kernel
theorem dX12_setWay_7 : decode cX12_setWay 7 = .ok (.iconst 2, 1) := by decide +kernel
theorem dX12_setWay_8 : decode cX12_setWay 8 = .ok (.invokestatic 236, 3) := by decide +kernel
theorem dX12_setWay_11 : decode cX12_setWay 11 = .ok (.iconst 1, 1) := by decide +kernel
theorem dX12_setWay_12 : decode cX12_setWay 12 = .ok (.invokevirtual 253, 3) := by decide +kernel
theorem dX12_setWay_15 : decode cX12_setWay 15 = .ok (.ifCond .ne 5, 3) := by decide +kernel
theorem dX12_setWay_18 : decode cX12_setWay 18 = .ok (.iconst 0, 1) := by decide +kernel
theorem dX12_setWay_19 : decode cX12_setWay 19 = .ok (.ireturn, 1) := by decide +kernel
theorem dX12_setWay_20 : decode cX12_setWay 20 = .ok (.aload_n 0, 1) := by decide +kernel
theorem dX12_setWay_21 : decode cX12_setWay 21 = .ok (.getfield 169, 3) := by decide +kernel
theorem dX12_setWay_24 : decode cX12_setWay 24 = .ok (.iload_n 1, 1) := by decide +kernel
theorem dX12_setWay_25 : decode cX12_setWay 25 = .ok (.iaload, 1) := by decide +kernel
theorem dX12_setWay_26 : decode cX12_setWay 26 = .ok (.istore_n 3, 1) := by decide +kernel
theorem dX12_setWay_27 : decode cX12_setWay 27 = .ok (.aload_n 0, 1) := by decide +kernel
theorem dX12_setWay_28 : decode cX12_setWay 28 = .ok (.getfield 169, 3) := by decide +kernel
theorem dX12_setWay_31 : decode cX12_setWay 31 = .ok (.iload_n 1, 1) := by decide +kernel
theorem dX12_setWay_32 : decode cX12_setWay 32 = .ok (.iload_n 2, 1) := by decide +kernel
theorem dX12_setWay_33 : decode cX12_setWay 33 = .ok (.iastore, 1) := by decide +kernel
theorem dX12_setWay_34 : decode cX12_setWay 34 = .ok (.iload_n 3, 1) := by decide +kernel
theorem dX12_setWay_35 : decode cX12_setWay 35 = .ok (.ireturn, 1) := by decide +kernel
theorem dX12_check_0 : decode cX12_check 0 = .ok (.aload_n 0, 1) := by decide +kernel
theorem dX12_check_1 : decode cX12_check 1 = .ok (.iload_n 1, 1) := by decide +kernel
theorem dX12_check_2 : decode cX12_check 2 = .ok (.invokestatic 249, 3) := by decide +kernel
theorem dX12_check_5 : decode cX12_check 5 = .ok (.aload_n 0, 1) := by decide +kernel
theorem dX12_check_6 : decode cX12_check 6 = .ok (.getfield 366, 3) := by decide +kernel
theorem dX12_check_9 : decode cX12_check 9 = .ok (.iconst 2, 1) := by decide +kernel
theorem dX12_check_10 : decode cX12_check 10 = .ok (.if_icmp .ne 7, 3) := by decide +kernel
theorem dX12_check_13 : decode cX12_check 13 = .ok (.iconst 1, 1) := by decide +kernel
theorem dX12_check_14 : decode cX12_check 14 = .ok (.goto 4, 3) := by decide +kernel
theorem dX12_check_17 : decode cX12_check 17 = .ok (.iconst 0, 1) := by decide +kernel
theorem dX12_check_18 : decode cX12_check 18 = .ok (.iconst 1, 1) := by decide +kernel
theorem dX12_check_19 : decode cX12_check 19 = .ok (.invokevirtual 253, 3) := by decide +kernel
theorem dX12_check_22 : decode cX12_check 22 = .ok (.ifCond .eq 10, 3) := by decide +kernel
theorem dX12_check_25 : decode cX12_check 25 = .ok (.aload_n 0, 1) := by decide +kernel
theorem dX12_check_26 : decode cX12_check 26 = .ok (.iload_n 1, 1) := by decide +kernel
theorem dX12_check_27 : decode cX12_check 27 = .ok (.iconst 3, 1) := by decide +kernel
theorem dX12_check_28 : decode cX12_check 28 = .ok (.iconst 0, 1) := by decide +kernel
theorem dX12_check_29 : decode cX12_check 29 = .ok (.invokevirtual 363, 3) := by decide +kernel
theorem dX12_check_32 : decode cX12_check 32 = .ok (.return_, 1) := by decide +kernel
theorem dX12_use_0 : decode cX12_use 0 = .ok (.iload_n 1, 1) := by decide +kernel
theorem dX12_use_1 : decode cX12_use 1 = .ok (.iconst 0, 1) := by decide +kernel
theorem dX12_use_2 : decode cX12_use 2 = .ok (.iconst 2, 1) := by decide +kernel
theorem dX12_use_3 : decode cX12_use 3 = .ok (.invokestatic 236, 3) := by decide +kernel
theorem dX12_use_6 : decode cX12_use 6 = .ok (.istore_n 2, 1) := by decide +kernel
theorem dX12_use_7 : decode cX12_use 7 = .ok (.aload_n 0, 1) := by decide +kernel
theorem dX12_use_8 : decode cX12_use 8 = .ok (.iload_n 2, 1) := by decide +kernel
theorem dX12_use_9 : decode cX12_use 9 = .ok (.iload_n 2, 1) := by decide +kernel
theorem dX12_use_10 : decode cX12_use 10 = .ok (.ifCond .eq 34, 3) := by decide +kernel
theorem dX12_use_13 : decode cX12_use 13 = .ok (.iload_n 1, 1) := by decide +kernel
theorem dX12_use_14 : decode cX12_use 14 = .ok (.iconst 1, 1) := by decide +kernel
theorem dX12_use_15 : decode cX12_use 15 = .ok (.if_icmp .eq 12, 3) := by decide +kernel
theorem dX12_use_18 : decode cX12_use 18 = .ok (.aload_n 0, 1) := by decide +kernel
theorem dX12_use_19 : decode cX12_use 19 = .ok (.getfield 187, 3) := by decide +kernel
theorem dX12_use_22 : decode cX12_use 22 = .ok (.iconst 0, 1) := by decide +kernel
theorem dX12_use_23 : decode cX12_use 23 = .ok (.baload, 1) := by decide +kernel
theorem dX12_use_24 : decode cX12_use 24 = .ok (.ifCond .eq 20, 3) := by decide +kernel
theorem dX12_use_27 : decode cX12_use 27 = .ok (.iload_n 1, 1) := by decide +kernel
theorem dX12_use_28 : decode cX12_use 28 = .ok (.ifCond .eq 12, 3) := by decide +kernel
theorem dX12_use_31 : decode cX12_use 31 = .ok (.aload_n 0, 1) := by decide +kernel
theorem dX12_use_32 : decode cX12_use 32 = .ok (.getfield 187, 3) := by decide +kernel
theorem dX12_use_35 : decode cX12_use 35 = .ok (.iconst 1, 1) := by decide +kernel
theorem dX12_use_36 : decode cX12_use 36 = .ok (.baload, 1) := by decide +kernel
theorem dX12_use_37 : decode cX12_use 37 = .ok (.ifCond .eq 7, 3) := by decide +kernel
theorem dX12_use_40 : decode cX12_use 40 = .ok (.iconst 1, 1) := by decide +kernel
theorem dX12_use_41 : decode cX12_use 41 = .ok (.goto 4, 3) := by decide +kernel
theorem dX12_use_44 : decode cX12_use 44 = .ok (.iconst 0, 1) := by decide +kernel
theorem dX12_use_45 : decode cX12_use 45 = .ok (.iconst 1, 1) := by decide +kernel
theorem dX12_use_46 : decode cX12_use 46 = .ok (.invokevirtual 253, 3) := by decide +kernel
theorem dX12_use_49 : decode cX12_use 49 = .ok (.ifCond .ne 5, 3) := by decide +kernel
theorem dX12_use_52 : decode cX12_use 52 = .ok (.iconst 0, 1) := by decide +kernel
theorem dX12_use_53 : decode cX12_use 53 = .ok (.ireturn, 1) := by decide +kernel
theorem dX12_use_54 : decode cX12_use 54 = .ok (.aload_n 0, 1) := by decide +kernel
theorem dX12_use_55 : decode cX12_use 55 = .ok (.getfield 393, 3) := by decide +kernel
theorem dX12_use_58 : decode cX12_use 58 = .ok (.istore_n 3, 1) := by decide +kernel
theorem dX12_use_59 : decode cX12_use 59 = .ok (.aload_n 0, 1) := by decide +kernel
theorem dX12_use_60 : decode cX12_use 60 = .ok (.iload_n 1, 1) := by decide +kernel
theorem dX12_use_61 : decode cX12_use 61 = .ok (.putfield 393, 3) := by decide +kernel
theorem dX12_use_64 : decode cX12_use 64 = .ok (.iload_n 3, 1) := by decide +kernel
theorem dX12_use_65 : decode cX12_use 65 = .ok (.ireturn, 1) := by decide +kernel
theorem dX12_changeKey_0 : decode cX12_changeKey 0 = .ok (.iconst 0, 1) := by decide +kernel
theorem dX12_changeKey_1 : decode cX12_changeKey 1 = .ok (.istore_n 1, 1) := by decide +kernel
theorem dX12_changeKey_2 : decode cX12_changeKey 2 = .ok (.iconst 0, 1) := by decide +kernel
theorem dX12_changeKey_3 : decode cX12_changeKey 3 = .ok (.istore_n 2, 1) := by decide +kernel
theorem dX12_changeKey_4 : decode cX12_changeKey 4 = .ok (.iload_n 2, 1) := by decide +kernel
theorem dX12_changeKey_5 : decode cX12_changeKey 5 = .ok (.aload_n 0, 1) := by decide +kernel
theorem dX12_changeKey_6 : decode cX12_changeKey 6 = .ok (.getfield 313, 3) := by decide +kernel
theorem dX12_changeKey_9 : decode cX12_changeKey 9 = .ok (.if_icmp .ge 52, 3) := by decide +kernel
theorem dX12_changeKey_12 : decode cX12_changeKey 12 = .ok (.iload_n 1, 1) := by decide +kernel
theorem dX12_changeKey_13 : decode cX12_changeKey 13 = .ok (.ifCond .ne 36, 3) := by decide +kernel
theorem dX12_changeKey_16 : decode cX12_changeKey 16 = .ok (.aload_n 0, 1) := by decide +kernel
theorem dX12_changeKey_17 : decode cX12_changeKey 17 = .ok (.getfield 145, 3) := by decide +kernel
theorem dX12_changeKey_20 : decode cX12_changeKey 20 = .ok (.iload_n 2, 1) := by decide +kernel
theorem dX12_changeKey_21 : decode cX12_changeKey 21 = .ok (.iaload, 1) := by decide +kernel
theorem dX12_changeKey_22 : decode cX12_changeKey 22 = .ok (.aload_n 0, 1) := by decide +kernel
theorem dX12_changeKey_23 : decode cX12_changeKey 23 = .ok (.getfield 382, 3) := by decide +kernel
theorem dX12_changeKey_26 : decode cX12_changeKey 26 = .ok (.if_icmp .ne 27, 3) := by decide +kernel
theorem dX12_changeKey_29 : decode cX12_changeKey 29 = .ok (.aload_n 0, 1) := by decide +kernel
theorem dX12_changeKey_30 : decode cX12_changeKey 30 = .ok (.getfield 139, 3) := by decide +kernel
theorem dX12_changeKey_33 : decode cX12_changeKey 33 = .ok (.iload_n 2, 1) := by decide +kernel
theorem dX12_changeKey_34 : decode cX12_changeKey 34 = .ok (.iaload, 1) := by decide +kernel
theorem dX12_changeKey_35 : decode cX12_changeKey 35 = .ok (.iconst 1, 1) := by decide +kernel
theorem dX12_changeKey_36 : decode cX12_changeKey 36 = .ok (.if_icmp .eq 13, 3) := by decide +kernel
theorem dX12_changeKey_39 : decode cX12_changeKey 39 = .ok (.aload_n 0, 1) := by decide +kernel
theorem dX12_changeKey_40 : decode cX12_changeKey 40 = .ok (.getfield 139, 3) := by decide +kernel
theorem dX12_changeKey_43 : decode cX12_changeKey 43 = .ok (.iload_n 2, 1) := by decide +kernel
theorem dX12_changeKey_44 : decode cX12_changeKey 44 = .ok (.iaload, 1) := by decide +kernel
theorem dX12_changeKey_45 : decode cX12_changeKey 45 = .ok (.iconst 3, 1) := by decide +kernel
theorem dX12_changeKey_46 : decode cX12_changeKey 46 = .ok (.if_icmp .ne 7, 3) := by decide +kernel
theorem dX12_changeKey_49 : decode cX12_changeKey 49 = .ok (.iconst 1, 1) := by decide +kernel
theorem dX12_changeKey_50 : decode cX12_changeKey 50 = .ok (.goto 4, 3) := by decide +kernel
theorem dX12_changeKey_53 : decode cX12_changeKey 53 = .ok (.iconst 0, 1) := by decide +kernel
theorem dX12_changeKey_54 : decode cX12_changeKey 54 = .ok (.istore_n 1, 1) := by decide +kernel
theorem dX12_changeKey_55 : decode cX12_changeKey 55 = .ok (.iinc 2 1, 3) := by decide +kernel
theorem dX12_changeKey_58 : decode cX12_changeKey 58 = .ok (.goto (-54), 3) := by decide +kernel
theorem dX12_changeKey_61 : decode cX12_changeKey 61 = .ok (.aload_n 0, 1) := by decide +kernel
theorem dX12_changeKey_62 : decode cX12_changeKey 62 = .ok (.aload_n 0, 1) := by decide +kernel
theorem dX12_changeKey_63 : decode cX12_changeKey 63 = .ok (.getfield 366, 3) := by decide +kernel
theorem dX12_changeKey_66 : decode cX12_changeKey 66 = .ok (.iconst 2, 1) := by decide +kernel
theorem dX12_changeKey_67 : decode cX12_changeKey 67 = .ok (.if_icmp .ne 11, 3) := by decide +kernel
theorem dX12_changeKey_70 : decode cX12_changeKey 70 = .ok (.iload_n 1, 1) := by decide +kernel
theorem dX12_changeKey_71 : decode cX12_changeKey 71 = .ok (.ifCond .eq 7, 3) := by decide +kernel
theorem dX12_changeKey_74 : decode cX12_changeKey 74 = .ok (.iconst 1, 1) := by decide +kernel
theorem dX12_changeKey_75 : decode cX12_changeKey 75 = .ok (.goto 4, 3) := by decide +kernel
theorem dX12_changeKey_78 : decode cX12_changeKey 78 = .ok (.iconst 0, 1) := by decide +kernel
theorem dX12_changeKey_79 : decode cX12_changeKey 79 = .ok (.iconst 1, 1) := by decide +kernel
theorem dX12_changeKey_80 : decode cX12_changeKey 80 = .ok (.iconst 1, 1) := by decide +kernel
theorem dX12_changeKey_81 : decode cX12_changeKey 81 = .ok (.invokevirtual 253, 3) := by decide +kernel
theorem dX12_changeKey_84 : decode cX12_changeKey 84 = .ok (.ifCond .ne 5, 3) := by decide +kernel
theorem dX12_changeKey_87 : decode cX12_changeKey 87 = .ok (.iconst 0, 1) := by decide +kernel
theorem dX12_changeKey_88 : decode cX12_changeKey 88 = .ok (.ireturn, 1) := by decide +kernel
theorem dX12_changeKey_89 : decode cX12_changeKey 89 = .ok (.aload_n 0, 1) := by decide +kernel
theorem dX12_changeKey_90 : decode cX12_changeKey 90 = .ok (.dup, 1) := by decide +kernel
theorem dX12_changeKey_91 : decode cX12_changeKey 91 = .ok (.getfield 382, 3) := by decide +kernel
theorem dX12_changeKey_94 : decode cX12_changeKey 94 = .ok (.iconst 1, 1) := by decide +kernel
theorem dX12_changeKey_95 : decode cX12_changeKey 95 = .ok (.iadd, 1) := by decide +kernel
theorem dX12_changeKey_96 : decode cX12_changeKey 96 = .ok (.putfield 382, 3) := by decide +kernel
theorem dX12_changeKey_99 : decode cX12_changeKey 99 = .ok (.aload_n 0, 1) := by decide +kernel
theorem dX12_changeKey_100 : decode cX12_changeKey 100 = .ok (.getfield 382, 3) := by decide +kernel
theorem dX12_changeKey_103 : decode cX12_changeKey 103 = .ok (.ireturn, 1) := by decide +kernel
theorem dX12_close_0 : decode cX12_close 0 = .ok (.aload_n 0, 1) := by decide +kernel
theorem dX12_close_1 : decode cX12_close 1 = .ok (.aload_n 0, 1) := by decide +kernel
theorem dX12_close_2 : decode cX12_close 2 = .ok (.getfield 366, 3) := by decide +kernel
theorem dX12_close_5 : decode cX12_close 5 = .ok (.iconst 2, 1) := by decide +kernel
theorem dX12_close_6 : decode cX12_close 6 = .ok (.if_icmp .ne 7, 3) := by decide +kernel
theorem dX12_close_9 : decode cX12_close 9 = .ok (.iconst 1, 1) := by decide +kernel
theorem dX12_close_10 : decode cX12_close 10 = .ok (.goto 4, 3) := by decide +kernel
theorem dX12_close_13 : decode cX12_close 13 = .ok (.iconst 0, 1) := by decide +kernel
theorem dX12_close_14 : decode cX12_close 14 = .ok (.iconst 1, 1) := by decide +kernel
theorem dX12_close_15 : decode cX12_close 15 = .ok (.iconst 1, 1) := by decide +kernel
theorem dX12_close_16 : decode cX12_close 16 = .ok (.invokevirtual 253, 3) := by decide +kernel
theorem dX12_close_19 : decode cX12_close 19 = .ok (.ifCond .eq 35, 3) := by decide +kernel
theorem dX12_close_22 : decode cX12_close 22 = .ok (.aload_n 0, 1) := by decide +kernel
theorem dX12_close_23 : decode cX12_close 23 = .ok (.aload_n 0, 1) := by decide +kernel
theorem dX12_close_24 : decode cX12_close 24 = .ok (.getfield 393, 3) := by decide +kernel
theorem dX12_close_27 : decode cX12_close 27 = .ok (.iconst 1, 1) := by decide +kernel
theorem dX12_close_28 : decode cX12_close 28 = .ok (.if_icmp .ne 7, 3) := by decide +kernel
theorem dX12_close_31 : decode cX12_close 31 = .ok (.iconst 1, 1) := by decide +kernel
theorem dX12_close_32 : decode cX12_close 32 = .ok (.goto 4, 3) := by decide +kernel
theorem dX12_close_35 : decode cX12_close 35 = .ok (.iconst 0, 1) := by decide +kernel
theorem dX12_close_36 : decode cX12_close 36 = .ok (.iconst 4, 1) := by decide +kernel
theorem dX12_close_37 : decode cX12_close 37 = .ok (.iconst 0, 1) := by decide +kernel
theorem dX12_close_38 : decode cX12_close 38 = .ok (.invokevirtual 363, 3) := by decide +kernel
theorem dX12_close_41 : decode cX12_close 41 = .ok (.aload_n 0, 1) := by decide +kernel
theorem dX12_close_42 : decode cX12_close 42 = .ok (.iconst 3, 1) := by decide +kernel
theorem dX12_close_43 : decode cX12_close 43 = .ok (.putfield 366, 3) := by decide +kernel
theorem dX12_close_46 : decode cX12_close 46 = .ok (.aload_n 0, 1) := by decide +kernel
theorem dX12_close_47 : decode cX12_close 47 = .ok (.aload_n 0, 1) := by decide +kernel
theorem dX12_close_48 : decode cX12_close 48 = .ok (.getfield 246, 3) := by decide +kernel
theorem dX12_close_51 : decode cX12_close 51 = .ok (.putfield 418, 3) := by decide +kernel
theorem dX12_close_54 : decode cX12_close 54 = .ok (.return_, 1) := by decide +kernel
theorem dX12_passes_0 : decode cX12_passes 0 = .ok (.aload_n 0, 1) := by decide +kernel
theorem dX12_passes_1 : decode cX12_passes 1 = .ok (.dup, 1) := by decide +kernel
theorem dX12_passes_2 : decode cX12_passes 2 = .ok (.getfield 246, 3) := by decide +kernel
theorem dX12_passes_5 : decode cX12_passes 5 = .ok (.iconst 1, 1) := by decide +kernel
theorem dX12_passes_6 : decode cX12_passes 6 = .ok (.iadd, 1) := by decide +kernel
theorem dX12_passes_7 : decode cX12_passes 7 = .ok (.putfield 246, 3) := by decide +kernel
theorem dX12_passes_10 : decode cX12_passes 10 = .ok (.iconst 0, 1) := by decide +kernel
theorem dX12_passes_11 : decode cX12_passes 11 = .ok (.istore_n 1, 1) := by decide +kernel
theorem dX12_passes_12 : decode cX12_passes 12 = .ok (.iload_n 1, 1) := by decide +kernel
theorem dX12_passes_13 : decode cX12_passes 13 = .ok (.aload_n 0, 1) := by decide +kernel
theorem dX12_passes_14 : decode cX12_passes 14 = .ok (.getfield 257, 3) := by decide +kernel
theorem dX12_passes_17 : decode cX12_passes 17 = .ok (.if_icmp .ge 32, 3) := by decide +kernel
theorem dX12_passes_20 : decode cX12_passes 20 = .ok (.aload_n 0, 1) := by decide +kernel
theorem dX12_passes_21 : decode cX12_passes 21 = .ok (.getfield 56, 3) := by decide +kernel
theorem dX12_passes_24 : decode cX12_passes 24 = .ok (.iload_n 1, 1) := by decide +kernel
theorem dX12_passes_25 : decode cX12_passes 25 = .ok (.iaload, 1) := by decide +kernel
theorem dX12_passes_26 : decode cX12_passes 26 = .ok (.aload_n 0, 1) := by decide +kernel
theorem dX12_passes_27 : decode cX12_passes 27 = .ok (.getfield 246, 3) := by decide +kernel
theorem dX12_passes_30 : decode cX12_passes 30 = .ok (.if_icmp .ne 13, 3) := by decide +kernel
theorem dX12_passes_33 : decode cX12_passes 33 = .ok (.aload_n 0, 1) := by decide +kernel
theorem dX12_passes_34 : decode cX12_passes 34 = .ok (.aload_n 0, 1) := by decide +kernel
theorem dX12_passes_35 : decode cX12_passes 35 = .ok (.getfield 53, 3) := by decide +kernel
theorem dX12_passes_38 : decode cX12_passes 38 = .ok (.iload_n 1, 1) := by decide +kernel
theorem dX12_passes_39 : decode cX12_passes 39 = .ok (.iaload, 1) := by decide +kernel
theorem dX12_passes_40 : decode cX12_passes 40 = .ok (.invokevirtual 421, 3) := by decide +kernel
theorem dX12_passes_43 : decode cX12_passes 43 = .ok (.iinc 1 1, 3) := by decide +kernel
theorem dX12_passes_46 : decode cX12_passes 46 = .ok (.goto (-34), 3) := by decide +kernel
theorem dX12_passes_49 : decode cX12_passes 49 = .ok (.aload_n 0, 1) := by decide +kernel
theorem dX12_passes_50 : decode cX12_passes 50 = .ok (.getfield 243, 3) := by decide +kernel
theorem dX12_passes_53 : decode cX12_passes 53 = .ok (.istore_n 1, 1) := by decide +kernel
theorem dX12_passes_54 : decode cX12_passes 54 = .ok (.iconst 0, 1) := by decide +kernel
theorem dX12_passes_55 : decode cX12_passes 55 = .ok (.istore_n 2, 1) := by decide +kernel
theorem dX12_passes_56 : decode cX12_passes 56 = .ok (.iload_n 2, 1) := by decide +kernel
theorem dX12_passes_57 : decode cX12_passes 57 = .ok (.iload_n 1, 1) := by decide +kernel
theorem dX12_passes_58 : decode cX12_passes 58 = .ok (.if_icmp .ge 27, 3) := by decide +kernel
theorem dX12_passes_61 : decode cX12_passes 61 = .ok (.aload_n 0, 1) := by decide +kernel
theorem dX12_passes_62 : decode cX12_passes 62 = .ok (.getfield 68, 3) := by decide +kernel
theorem dX12_passes_65 : decode cX12_passes 65 = .ok (.iload_n 2, 1) := by decide +kernel
theorem dX12_passes_66 : decode cX12_passes 66 = .ok (.iaload, 1) := by decide +kernel
theorem dX12_passes_67 : decode cX12_passes 67 = .ok (.aload_n 0, 1) := by decide +kernel
theorem dX12_passes_68 : decode cX12_passes 68 = .ok (.getfield 246, 3) := by decide +kernel
theorem dX12_passes_71 : decode cX12_passes 71 = .ok (.if_icmp .ne 8, 3) := by decide +kernel
theorem dX12_passes_74 : decode cX12_passes 74 = .ok (.aload_n 0, 1) := by decide +kernel
theorem dX12_passes_75 : decode cX12_passes 75 = .ok (.iload_n 2, 1) := by decide +kernel
theorem dX12_passes_76 : decode cX12_passes 76 = .ok (.invokevirtual 424, 3) := by decide +kernel
theorem dX12_passes_79 : decode cX12_passes 79 = .ok (.iinc 2 1, 3) := by decide +kernel
theorem dX12_passes_82 : decode cX12_passes 82 = .ok (.goto (-26), 3) := by decide +kernel
theorem dX12_passes_85 : decode cX12_passes 85 = .ok (.aload_n 0, 1) := by decide +kernel
theorem dX12_passes_86 : decode cX12_passes 86 = .ok (.getfield 278, 3) := by decide +kernel
theorem dX12_passes_89 : decode cX12_passes 89 = .ok (.iconst 1, 1) := by decide +kernel
theorem dX12_passes_90 : decode cX12_passes 90 = .ok (.if_icmp .ne 44, 3) := by decide +kernel
theorem dX12_passes_93 : decode cX12_passes 93 = .ok (.aload_n 0, 1) := by decide +kernel
theorem dX12_passes_94 : decode cX12_passes 94 = .ok (.getfield 97, 3) := by decide +kernel
theorem dX12_passes_97 : decode cX12_passes 97 = .ok (.iconst (-1), 1) := by decide +kernel
theorem dX12_passes_98 : decode cX12_passes 98 = .ok (.if_icmp .eq 36, 3) := by decide +kernel
theorem dX12_passes_101 : decode cX12_passes 101 = .ok (.aload_n 0, 1) := by decide +kernel
theorem dX12_passes_102 : decode cX12_passes 102 = .ok (.getfield 94, 3) := by decide +kernel
theorem dX12_passes_105 : decode cX12_passes 105 = .ok (.iconst (-1), 1) := by decide +kernel
theorem dX12_passes_106 : decode cX12_passes 106 = .ok (.if_icmp .eq 14, 3) := by decide +kernel
theorem dX12_passes_109 : decode cX12_passes 109 = .ok (.aload_n 0, 1) := by decide +kernel
theorem dX12_passes_110 : decode cX12_passes 110 = .ok (.getfield 246, 3) := by decide +kernel
theorem dX12_passes_113 : decode cX12_passes 113 = .ok (.aload_n 0, 1) := by decide +kernel
theorem dX12_passes_114 : decode cX12_passes 114 = .ok (.getfield 94, 3) := by decide +kernel
theorem dX12_passes_117 : decode cX12_passes 117 = .ok (.if_icmp .ge 13, 3) := by decide +kernel
theorem dX12_passes_120 : decode cX12_passes 120 = .ok (.aload_n 0, 1) := by decide +kernel
theorem dX12_passes_121 : decode cX12_passes 121 = .ok (.getfield 246, 3) := by decide +kernel
theorem dX12_passes_124 : decode cX12_passes 124 = .ok (.bipush 20, 2) := by decide +kernel
theorem dX12_passes_126 : decode cX12_passes 126 = .ok (.irem, 1) := by decide +kernel
theorem dX12_passes_127 : decode cX12_passes 127 = .ok (.ifCond .ne 7, 3) := by decide +kernel
theorem dX12_passes_130 : decode cX12_passes 130 = .ok (.aload_n 0, 1) := by decide +kernel
theorem dX12_passes_131 : decode cX12_passes 131 = .ok (.invokevirtual 292, 3) := by decide +kernel
theorem dX12_passes_134 : decode cX12_passes 134 = .ok (.aload_n 0, 1) := by decide +kernel
theorem dX12_passes_135 : decode cX12_passes 135 = .ok (.getfield 366, 3) := by decide +kernel
theorem dX12_passes_138 : decode cX12_passes 138 = .ok (.iconst 1, 1) := by decide +kernel
theorem dX12_passes_139 : decode cX12_passes 139 = .ok (.if_icmp .eq 11, 3) := by decide +kernel
theorem dX12_passes_142 : decode cX12_passes 142 = .ok (.aload_n 0, 1) := by decide +kernel
theorem dX12_passes_143 : decode cX12_passes 143 = .ok (.getfield 366, 3) := by decide +kernel
theorem dX12_passes_146 : decode cX12_passes 146 = .ok (.iconst 2, 1) := by decide +kernel
theorem dX12_passes_147 : decode cX12_passes 147 = .ok (.if_icmp .ne 23, 3) := by decide +kernel
theorem dX12_passes_150 : decode cX12_passes 150 = .ok (.aload_n 0, 1) := by decide +kernel
theorem dX12_passes_151 : decode cX12_passes 151 = .ok (.iconst 0, 1) := by decide +kernel
theorem dX12_passes_152 : decode cX12_passes 152 = .ok (.invokevirtual 354, 3) := by decide +kernel
theorem dX12_passes_155 : decode cX12_passes 155 = .ok (.aload_n 0, 1) := by decide +kernel
theorem dX12_passes_156 : decode cX12_passes 156 = .ok (.iconst 1, 1) := by decide +kernel
theorem dX12_passes_157 : decode cX12_passes 157 = .ok (.invokevirtual 354, 3) := by decide +kernel
theorem dX12_passes_160 : decode cX12_passes 160 = .ok (.aload_n 0, 1) := by decide +kernel
theorem dX12_passes_161 : decode cX12_passes 161 = .ok (.iconst 0, 1) := by decide +kernel
theorem dX12_passes_162 : decode cX12_passes 162 = .ok (.invokevirtual 427, 3) := by decide +kernel
theorem dX12_passes_165 : decode cX12_passes 165 = .ok (.aload_n 0, 1) := by decide +kernel
theorem dX12_passes_166 : decode cX12_passes 166 = .ok (.iconst 1, 1) := by decide +kernel
theorem dX12_passes_167 : decode cX12_passes 167 = .ok (.invokevirtual 427, 3) := by decide +kernel
theorem dX12_passes_170 : decode cX12_passes 170 = .ok (.aload_n 0, 1) := by decide +kernel
theorem dX12_passes_171 : decode cX12_passes 171 = .ok (.getfield 366, 3) := by decide +kernel
theorem dX12_passes_174 : decode cX12_passes 174 = .ok (.iconst 1, 1) := by decide +kernel
theorem dX12_passes_175 : decode cX12_passes 175 = .ok (.if_icmp .ne 33, 3) := by decide +kernel
theorem dX12_passes_178 : decode cX12_passes 178 = .ok (.aload_n 0, 1) := by decide +kernel
theorem dX12_passes_179 : decode cX12_passes 179 = .ok (.getfield 246, 3) := by decide +kernel
theorem dX12_passes_182 : decode cX12_passes 182 = .ok (.aload_n 0, 1) := by decide +kernel
theorem dX12_passes_183 : decode cX12_passes 183 = .ok (.getfield 357, 3) := by decide +kernel
theorem dX12_passes_186 : decode cX12_passes 186 = .ok (.isub, 1) := by decide +kernel
theorem dX12_passes_187 : decode cX12_passes 187 = .ok (.aload_n 0, 1) := by decide +kernel
theorem dX12_passes_188 : decode cX12_passes 188 = .ok (.getfield 369, 3) := by decide +kernel
theorem dX12_passes_191 : decode cX12_passes 191 = .ok (.if_icmp .lt 17, 3) := by decide +kernel
theorem dX12_passes_194 : decode cX12_passes 194 = .ok (.aload_n 0, 1) := by decide +kernel
theorem dX12_passes_195 : decode cX12_passes 195 = .ok (.dup, 1) := by decide +kernel
theorem dX12_passes_196 : decode cX12_passes 196 = .ok (.getfield 369, 3) := by decide +kernel
theorem dX12_passes_199 : decode cX12_passes 199 = .ok (.iconst 2, 1) := by decide +kernel
theorem dX12_passes_200 : decode cX12_passes 200 = .ok (.imul, 1) := by decide +kernel
theorem dX12_passes_201 : decode cX12_passes 201 = .ok (.putfield 369, 3) := by decide +kernel
theorem dX12_passes_204 : decode cX12_passes 204 = .ok (.aload_n 0, 1) := by decide +kernel
theorem dX12_passes_205 : decode cX12_passes 205 = .ok (.invokevirtual 372, 3) := by decide +kernel
theorem dX12_passes_208 : decode cX12_passes 208 = .ok (.aload_n 0, 1) := by decide +kernel
theorem dX12_passes_209 : decode cX12_passes 209 = .ok (.aload_n 0, 1) := by decide +kernel
theorem dX12_passes_210 : decode cX12_passes 210 = .ok (.getfield 366, 3) := by decide +kernel
theorem dX12_passes_213 : decode cX12_passes 213 = .ok (.iconst 3, 1) := by decide +kernel
theorem dX12_passes_214 : decode cX12_passes 214 = .ok (.if_icmp .ne 21, 3) := by decide +kernel
theorem dX12_passes_217 : decode cX12_passes 217 = .ok (.aload_n 0, 1) := by decide +kernel
theorem dX12_passes_218 : decode cX12_passes 218 = .ok (.getfield 246, 3) := by decide +kernel
theorem dX12_passes_221 : decode cX12_passes 221 = .ok (.aload_n 0, 1) := by decide +kernel
theorem dX12_passes_222 : decode cX12_passes 222 = .ok (.getfield 418, 3) := by decide +kernel
theorem dX12_passes_225 : decode cX12_passes 225 = .ok (.isub, 1) := by decide +kernel
theorem dX12_passes_226 : decode cX12_passes 226 = .ok (.bipush 30, 2) := by decide +kernel
theorem dX12_passes_228 : decode cX12_passes 228 = .ok (.if_icmp .lt 7, 3) := by decide +kernel
theorem dX12_passes_231 : decode cX12_passes 231 = .ok (.iconst 4, 1) := by decide +kernel
theorem dX12_passes_232 : decode cX12_passes 232 = .ok (.goto 7, 3) := by decide +kernel
theorem dX12_passes_235 : decode cX12_passes 235 = .ok (.aload_n 0, 1) := by decide +kernel
theorem dX12_passes_236 : decode cX12_passes 236 = .ok (.getfield 366, 3) := by decide +kernel
theorem dX12_passes_239 : decode cX12_passes 239 = .ok (.putfield 366, 3) := by decide +kernel
theorem dX12_passes_242 : decode cX12_passes 242 = .ok (.aload_n 0, 1) := by decide +kernel
theorem dX12_passes_243 : decode cX12_passes 243 = .ok (.invokevirtual 430, 3) := by decide +kernel
theorem dX12_passes_246 : decode cX12_passes 246 = .ok (.aload_n 0, 1) := by decide +kernel
theorem dX12_passes_247 : decode cX12_passes 247 = .ok (.iconst 0, 1) := by decide +kernel
theorem dX12_passes_248 : decode cX12_passes 248 = .ok (.invokevirtual 433, 3) := by decide +kernel
theorem dX12_passes_251 : decode cX12_passes 251 = .ok (.aload_n 0, 1) := by decide +kernel
theorem dX12_passes_252 : decode cX12_passes 252 = .ok (.iconst 1, 1) := by decide +kernel
theorem dX12_passes_253 : decode cX12_passes 253 = .ok (.invokevirtual 433, 3) := by decide +kernel
theorem dX12_passes_256 : decode cX12_passes 256 = .ok (.return_, 1) := by decide +kernel
theorem dX12_tick_0 : decode cX12_tick 0 = .ok (.aload_n 0, 1) := by decide +kernel
theorem dX12_tick_1 : decode cX12_tick 1 = .ok (.iload_n 1, 1) := by decide +kernel
theorem dX12_tick_2 : decode cX12_tick 2 = .ok (.iconst 1, 1) := by decide +kernel
theorem dX12_tick_3 : decode cX12_tick 3 = .ok (.bipush 50, 2) := by decide +kernel
theorem dX12_tick_5 : decode cX12_tick 5 = .ok (.invokestatic 236, 3) := by decide +kernel
theorem dX12_tick_8 : decode cX12_tick 8 = .ok (.aload_n 0, 1) := by decide +kernel
theorem dX12_tick_9 : decode cX12_tick 9 = .ok (.getfield 246, 3) := by decide +kernel
theorem dX12_tick_12 : decode cX12_tick 12 = .ok (.iload_n 1, 1) := by decide +kernel
theorem dX12_tick_13 : decode cX12_tick 13 = .ok (.iadd, 1) := by decide +kernel
theorem dX12_tick_14 : decode cX12_tick 14 = .ok (.sipush 2000, 3) := by decide +kernel
theorem dX12_tick_17 : decode cX12_tick 17 = .ok (.if_icmp .gt 7, 3) := by decide +kernel
theorem dX12_tick_20 : decode cX12_tick 20 = .ok (.iconst 1, 1) := by decide +kernel
theorem dX12_tick_21 : decode cX12_tick 21 = .ok (.goto 4, 3) := by decide +kernel
theorem dX12_tick_24 : decode cX12_tick 24 = .ok (.iconst 0, 1) := by decide +kernel
theorem dX12_tick_25 : decode cX12_tick 25 = .ok (.iconst 1, 1) := by decide +kernel
theorem dX12_tick_26 : decode cX12_tick 26 = .ok (.invokevirtual 253, 3) := by decide +kernel
theorem dX12_tick_29 : decode cX12_tick 29 = .ok (.ifCond .ne 5, 3) := by decide +kernel
theorem dX12_tick_32 : decode cX12_tick 32 = .ok (.iconst 0, 1) := by decide +kernel
theorem dX12_tick_33 : decode cX12_tick 33 = .ok (.ireturn, 1) := by decide +kernel
theorem dX12_tick_34 : decode cX12_tick 34 = .ok (.iconst 0, 1) := by decide +kernel
theorem dX12_tick_35 : decode cX12_tick 35 = .ok (.istore_n 2, 1) := by decide +kernel
theorem dX12_tick_36 : decode cX12_tick 36 = .ok (.iload_n 2, 1) := by decide +kernel
theorem dX12_tick_37 : decode cX12_tick 37 = .ok (.iload_n 1, 1) := by decide +kernel
theorem dX12_tick_38 : decode cX12_tick 38 = .ok (.if_icmp .ge 13, 3) := by decide +kernel
theorem dX12_tick_41 : decode cX12_tick 41 = .ok (.aload_n 0, 1) := by decide +kernel
theorem dX12_tick_42 : decode cX12_tick 42 = .ok (.invokevirtual 436, 3) := by decide +kernel
theorem dX12_tick_45 : decode cX12_tick 45 = .ok (.iinc 2 1, 3) := by decide +kernel
theorem dX12_tick_48 : decode cX12_tick 48 = .ok (.goto (-12), 3) := by decide +kernel
theorem dX12_tick_51 : decode cX12_tick 51 = .ok (.aload_n 0, 1) := by decide +kernel
theorem dX12_tick_52 : decode cX12_tick 52 = .ok (.getfield 246, 3) := by decide +kernel
theorem dX12_tick_55 : decode cX12_tick 55 = .ok (.ireturn, 1) := by decide +kernel
theorem dX12_now_0 : decode cX12_now 0 = .ok (.aload_n 0, 1) := by decide +kernel
theorem dX12_now_1 : decode cX12_now 1 = .ok (.iconst 0, 1) := by decide +kernel
theorem dX12_now_2 : decode cX12_now 2 = .ok (.putfield 233, 3) := by decide +kernel
theorem dX12_now_5 : decode cX12_now 5 = .ok (.aload_n 0, 1) := by decide +kernel
theorem dX12_now_6 : decode cX12_now 6 = .ok (.getfield 246, 3) := by decide +kernel
theorem dX12_now_9 : decode cX12_now 9 = .ok (.ireturn, 1) := by decide +kernel
theorem dX12_state_0 : decode cX12_state 0 = .ok (.aload_n 0, 1) := by decide +kernel
theorem dX12_state_1 : decode cX12_state 1 = .ok (.iload_n 1, 1) := by decide +kernel
theorem dX12_state_2 : decode cX12_state 2 = .ok (.iconst 0, 1) := by decide +kernel
theorem dX12_state_3 : decode cX12_state 3 = .ok (.iconst 4, 1) := by decide +kernel
theorem dX12_state_4 : decode cX12_state 4 = .ok (.invokestatic 236, 3) := by decide +kernel
theorem dX12_state_7 : decode cX12_state 7 = .ok (.iconst 1, 1) := by decide +kernel
theorem dX12_state_8 : decode cX12_state 8 = .ok (.iconst 1, 1) := by decide +kernel
theorem dX12_state_9 : decode cX12_state 9 = .ok (.invokevirtual 253, 3) := by decide +kernel
theorem dX12_state_12 : decode cX12_state 12 = .ok (.ifCond .ne 5, 3) := by decide +kernel
theorem dX12_state_15 : decode cX12_state 15 = .ok (.iconst 0, 1) := by decide +kernel
theorem dX12_state_16 : decode cX12_state 16 = .ok (.ireturn, 1) := by decide +kernel
theorem dX12_state_17 : decode cX12_state 17 = .ok (.iload_n 1, 1) := by decide +kernel
theorem dX12_state_18 : decode cX12_state 18 = .ok (.ifCond .ne 10, 3) := by decide +kernel
theorem dX12_state_21 : decode cX12_state 21 = .ok (.aload_n 0, 1) := by decide +kernel
theorem dX12_state_22 : decode cX12_state 22 = .ok (.getfield 366, 3) := by decide +kernel
theorem dX12_state_25 : decode cX12_state 25 = .ok (.goto 43, 3) := by decide +kernel
theorem dX12_state_28 : decode cX12_state 28 = .ok (.iload_n 1, 1) := by decide +kernel
theorem dX12_state_29 : decode cX12_state 29 = .ok (.iconst 1, 1) := by decide +kernel
theorem dX12_state_30 : decode cX12_state 30 = .ok (.if_icmp .ne 10, 3) := by decide +kernel
theorem dX12_state_33 : decode cX12_state 33 = .ok (.aload_n 0, 1) := by decide +kernel
theorem dX12_state_34 : decode cX12_state 34 = .ok (.getfield 278, 3) := by decide +kernel
theorem dX12_state_37 : decode cX12_state 37 = .ok (.goto 31, 3) := by decide +kernel
theorem dX12_state_40 : decode cX12_state 40 = .ok (.iload_n 1, 1) := by decide +kernel
theorem dX12_state_41 : decode cX12_state 41 = .ok (.iconst 2, 1) := by decide +kernel
theorem dX12_state_42 : decode cX12_state 42 = .ok (.if_icmp .ne 10, 3) := by decide +kernel
theorem dX12_state_45 : decode cX12_state 45 = .ok (.aload_n 0, 1) := by decide +kernel
theorem dX12_state_46 : decode cX12_state 46 = .ok (.getfield 382, 3) := by decide +kernel
theorem dX12_state_49 : decode cX12_state 49 = .ok (.goto 19, 3) := by decide +kernel
theorem dX12_state_52 : decode cX12_state 52 = .ok (.iload_n 1, 1) := by decide +kernel
theorem dX12_state_53 : decode cX12_state 53 = .ok (.iconst 3, 1) := by decide +kernel
theorem dX12_state_54 : decode cX12_state 54 = .ok (.if_icmp .ne 10, 3) := by decide +kernel
theorem dX12_state_57 : decode cX12_state 57 = .ok (.aload_n 0, 1) := by decide +kernel
theorem dX12_state_58 : decode cX12_state 58 = .ok (.getfield 272, 3) := by decide +kernel
theorem dX12_state_61 : decode cX12_state 61 = .ok (.goto 7, 3) := by decide +kernel
theorem dX12_state_64 : decode cX12_state 64 = .ok (.aload_n 0, 1) := by decide +kernel
theorem dX12_state_65 : decode cX12_state 65 = .ok (.getfield 393, 3) := by decide +kernel
theorem dX12_state_68 : decode cX12_state 68 = .ok (.ireturn, 1) := by decide +kernel
theorem dX12_path_0 : decode cX12_path 0 = .ok (.aload_n 0, 1) := by decide +kernel
theorem dX12_path_1 : decode cX12_path 1 = .ok (.iload_n 1, 1) := by decide +kernel
theorem dX12_path_2 : decode cX12_path 2 = .ok (.invokestatic 249, 3) := by decide +kernel
theorem dX12_path_5 : decode cX12_path 5 = .ok (.iload_n 2, 1) := by decide +kernel
theorem dX12_path_6 : decode cX12_path 6 = .ok (.iconst 0, 1) := by decide +kernel
theorem dX12_path_7 : decode cX12_path 7 = .ok (.bipush 8, 2) := by decide +kernel
theorem dX12_path_9 : decode cX12_path 9 = .ok (.invokestatic 236, 3) := by decide +kernel
theorem dX12_path_12 : decode cX12_path 12 = .ok (.iconst 1, 1) := by decide +kernel
theorem dX12_path_13 : decode cX12_path 13 = .ok (.invokevirtual 253, 3) := by decide +kernel
theorem dX12_path_16 : decode cX12_path 16 = .ok (.ifCond .ne 5, 3) := by decide +kernel
theorem dX12_path_19 : decode cX12_path 19 = .ok (.iconst 0, 1) := by decide +kernel
theorem dX12_path_20 : decode cX12_path 20 = .ok (.ireturn, 1) := by decide +kernel
theorem dX12_path_21 : decode cX12_path 21 = .ok (.iload_n 2, 1) := by decide +kernel
theorem dX12_path_22 : decode cX12_path 22 = .ok (.tableswitch 109 0 7 #[46, 53, 60, 66, 73, 80, 87, 94], 46) := by decide +kernel
theorem dX12_path_68 : decode cX12_path 68 = .ok (.aload_n 0, 1) := by decide +kernel
theorem dX12_path_69 : decode cX12_path 69 = .ok (.getfield 163, 3) := by decide +kernel
theorem dX12_path_72 : decode cX12_path 72 = .ok (.iload_n 1, 1) := by decide +kernel
theorem dX12_path_73 : decode cX12_path 73 = .ok (.iaload, 1) := by decide +kernel
theorem dX12_path_74 : decode cX12_path 74 = .ok (.ireturn, 1) := by decide +kernel
theorem dX12_path_75 : decode cX12_path 75 = .ok (.aload_n 0, 1) := by decide +kernel
theorem dX12_path_76 : decode cX12_path 76 = .ok (.getfield 166, 3) := by decide +kernel
theorem dX12_path_79 : decode cX12_path 79 = .ok (.iload_n 1, 1) := by decide +kernel
theorem dX12_path_80 : decode cX12_path 80 = .ok (.iaload, 1) := by decide +kernel
theorem dX12_path_81 : decode cX12_path 81 = .ok (.ireturn, 1) := by decide +kernel
theorem dX12_path_82 : decode cX12_path 82 = .ok (.aload_n 0, 1) := by decide +kernel
theorem dX12_path_83 : decode cX12_path 83 = .ok (.iload_n 1, 1) := by decide +kernel
theorem dX12_path_84 : decode cX12_path 84 = .ok (.invokevirtual 396, 3) := by decide +kernel
theorem dX12_path_87 : decode cX12_path 87 = .ok (.ireturn, 1) := by decide +kernel
theorem dX12_path_88 : decode cX12_path 88 = .ok (.aload_n 0, 1) := by decide +kernel
theorem dX12_path_89 : decode cX12_path 89 = .ok (.getfield 172, 3) := by decide +kernel
theorem dX12_path_92 : decode cX12_path 92 = .ok (.iload_n 1, 1) := by decide +kernel
theorem dX12_path_93 : decode cX12_path 93 = .ok (.iaload, 1) := by decide +kernel
theorem dX12_path_94 : decode cX12_path 94 = .ok (.ireturn, 1) := by decide +kernel
theorem dX12_path_95 : decode cX12_path 95 = .ok (.aload_n 0, 1) := by decide +kernel
theorem dX12_path_96 : decode cX12_path 96 = .ok (.getfield 175, 3) := by decide +kernel
theorem dX12_path_99 : decode cX12_path 99 = .ok (.iload_n 1, 1) := by decide +kernel
theorem dX12_path_100 : decode cX12_path 100 = .ok (.iaload, 1) := by decide +kernel
theorem dX12_path_101 : decode cX12_path 101 = .ok (.ireturn, 1) := by decide +kernel
theorem dX12_path_102 : decode cX12_path 102 = .ok (.aload_n 0, 1) := by decide +kernel
theorem dX12_path_103 : decode cX12_path 103 = .ok (.getfield 178, 3) := by decide +kernel
theorem dX12_path_106 : decode cX12_path 106 = .ok (.iload_n 1, 1) := by decide +kernel
theorem dX12_path_107 : decode cX12_path 107 = .ok (.iaload, 1) := by decide +kernel
theorem dX12_path_108 : decode cX12_path 108 = .ok (.ireturn, 1) := by decide +kernel
theorem dX12_path_109 : decode cX12_path 109 = .ok (.aload_n 0, 1) := by decide +kernel
theorem dX12_path_110 : decode cX12_path 110 = .ok (.getfield 181, 3) := by decide +kernel
theorem dX12_path_113 : decode cX12_path 113 = .ok (.iload_n 1, 1) := by decide +kernel
theorem dX12_path_114 : decode cX12_path 114 = .ok (.iaload, 1) := by decide +kernel
theorem dX12_path_115 : decode cX12_path 115 = .ok (.ireturn, 1) := by decide +kernel
theorem dX12_path_116 : decode cX12_path 116 = .ok (.aload_n 0, 1) := by decide +kernel
theorem dX12_path_117 : decode cX12_path 117 = .ok (.getfield 187, 3) := by decide +kernel
theorem dX12_path_120 : decode cX12_path 120 = .ok (.iload_n 1, 1) := by decide +kernel
theorem dX12_path_121 : decode cX12_path 121 = .ok (.baload, 1) := by decide +kernel
theorem dX12_path_122 : decode cX12_path 122 = .ok (.ifCond .eq 7, 3) := by decide +kernel
theorem dX12_path_125 : decode cX12_path 125 = .ok (.iconst 1, 1) := by decide +kernel
theorem dX12_path_126 : decode cX12_path 126 = .ok (.goto 4, 3) := by decide +kernel
theorem dX12_path_129 : decode cX12_path 129 = .ok (.iconst 0, 1) := by decide +kernel
theorem dX12_path_130 : decode cX12_path 130 = .ok (.ireturn, 1) := by decide +kernel
theorem dX12_path_131 : decode cX12_path 131 = .ok (.aload_n 0, 1) := by decide +kernel
theorem dX12_path_132 : decode cX12_path 132 = .ok (.getfield 41, 3) := by decide +kernel
theorem dX12_path_135 : decode cX12_path 135 = .ok (.iload_n 1, 1) := by decide +kernel
theorem dX12_path_136 : decode cX12_path 136 = .ok (.iaload, 1) := by decide +kernel
theorem dX12_path_137 : decode cX12_path 137 = .ok (.ireturn, 1) := by decide +kernel
theorem dX12_stream_0 : decode cX12_stream 0 = .ok (.aload_n 0, 1) := by decide +kernel
theorem dX12_stream_1 : decode cX12_stream 1 = .ok (.iload_n 1, 1) := by decide +kernel
theorem dX12_stream_2 : decode cX12_stream 2 = .ok (.invokestatic 306, 3) := by decide +kernel
theorem dX12_stream_5 : decode cX12_stream 5 = .ok (.iload_n 2, 1) := by decide +kernel
theorem dX12_stream_6 : decode cX12_stream 6 = .ok (.iconst 0, 1) := by decide +kernel
theorem dX12_stream_7 : decode cX12_stream 7 = .ok (.bipush 6, 2) := by decide +kernel
theorem dX12_stream_9 : decode cX12_stream 9 = .ok (.invokestatic 236, 3) := by decide +kernel
theorem dX12_stream_12 : decode cX12_stream 12 = .ok (.iconst 1, 1) := by decide +kernel
theorem dX12_stream_13 : decode cX12_stream 13 = .ok (.invokevirtual 253, 3) := by decide +kernel
theorem dX12_stream_16 : decode cX12_stream 16 = .ok (.ifCond .ne 5, 3) := by decide +kernel
theorem dX12_stream_19 : decode cX12_stream 19 = .ok (.iconst 0, 1) := by decide +kernel
theorem dX12_stream_20 : decode cX12_stream 20 = .ok (.ireturn, 1) := by decide +kernel
theorem dX12_stream_21 : decode cX12_stream 21 = .ok (.iconst 0, 1) := by decide +kernel
theorem dX12_stream_22 : decode cX12_stream 22 = .ok (.istore_n 3, 1) := by decide +kernel
theorem dX12_stream_23 : decode cX12_stream 23 = .ok (.iconst 0, 1) := by decide +kernel
theorem dX12_stream_24 : decode cX12_stream 24 = .ok (.istore 4, 2) := by decide +kernel
theorem dX12_stream_26 : decode cX12_stream 26 = .ok (.iload 4, 2) := by decide +kernel
theorem dX12_stream_28 : decode cX12_stream 28 = .ok (.aload_n 0, 1) := by decide +kernel
theorem dX12_stream_29 : decode cX12_stream 29 = .ok (.getfield 106, 3) := by decide +kernel
theorem dX12_stream_32 : decode cX12_stream 32 = .ok (.iload_n 1, 1) := by decide +kernel
theorem dX12_stream_33 : decode cX12_stream 33 = .ok (.iaload, 1) := by decide +kernel
theorem dX12_stream_34 : decode cX12_stream 34 = .ok (.if_icmp .ge 53, 3) := by decide +kernel
theorem dX12_stream_37 : decode cX12_stream 37 = .ok (.iload_n 3, 1) := by decide +kernel
theorem dX12_stream_38 : decode cX12_stream 38 = .ok (.iload_n 2, 1) := by decide +kernel
theorem dX12_stream_39 : decode cX12_stream 39 = .ok (.iconst 2, 1) := by decide +kernel
theorem dX12_stream_40 : decode cX12_stream 40 = .ok (.if_icmp .ne 19, 3) := by decide +kernel
theorem dX12_stream_43 : decode cX12_stream 43 = .ok (.aload_n 0, 1) := by decide +kernel
theorem dX12_stream_44 : decode cX12_stream 44 = .ok (.getfield 118, 3) := by decide +kernel
theorem dX12_stream_47 : decode cX12_stream 47 = .ok (.sipush 200, 3) := by decide +kernel
theorem dX12_stream_50 : decode cX12_stream 50 = .ok (.iload_n 1, 1) := by decide +kernel
theorem dX12_stream_51 : decode cX12_stream 51 = .ok (.imul, 1) := by decide +kernel
theorem dX12_stream_52 : decode cX12_stream 52 = .ok (.iload 4, 2) := by decide +kernel
theorem dX12_stream_54 : decode cX12_stream 54 = .ok (.iadd, 1) := by decide +kernel
theorem dX12_stream_55 : decode cX12_stream 55 = .ok (.baload, 1) := by decide +kernel
theorem dX12_stream_56 : decode cX12_stream 56 = .ok (.ifCond .ne 18, 3) := by decide +kernel
theorem dX12_stream_59 : decode cX12_stream 59 = .ok (.iload_n 2, 1) := by decide +kernel
theorem dX12_stream_60 : decode cX12_stream 60 = .ok (.iconst 3, 1) := by decide +kernel
theorem dX12_stream_61 : decode cX12_stream 61 = .ok (.if_icmp .ne 17, 3) := by decide +kernel
theorem dX12_stream_64 : decode cX12_stream 64 = .ok (.aload_n 0, 1) := by decide +kernel
theorem dX12_stream_65 : decode cX12_stream 65 = .ok (.iload_n 1, 1) := by decide +kernel
theorem dX12_stream_66 : decode cX12_stream 66 = .ok (.iload 4, 2) := by decide +kernel
theorem dX12_stream_68 : decode cX12_stream 68 = .ok (.invokevirtual 385, 3) := by decide +kernel
theorem dX12_stream_71 : decode cX12_stream 71 = .ok (.ifCond .eq 7, 3) := by decide +kernel
theorem dX12_stream_74 : decode cX12_stream 74 = .ok (.iconst 1, 1) := by decide +kernel
theorem dX12_stream_75 : decode cX12_stream 75 = .ok (.goto 4, 3) := by decide +kernel
theorem dX12_stream_78 : decode cX12_stream 78 = .ok (.iconst 0, 1) := by decide +kernel
theorem dX12_stream_79 : decode cX12_stream 79 = .ok (.iadd, 1) := by decide +kernel
theorem dX12_stream_80 : decode cX12_stream 80 = .ok (.istore_n 3, 1) := by decide +kernel
theorem dX12_stream_81 : decode cX12_stream 81 = .ok (.iinc 4 1, 3) := by decide +kernel
theorem dX12_stream_84 : decode cX12_stream 84 = .ok (.goto (-58), 3) := by decide +kernel
theorem dX12_stream_87 : decode cX12_stream 87 = .ok (.iload_n 2, 1) := by decide +kernel
theorem dX12_stream_88 : decode cX12_stream 88 = .ok (.ifCond .ne 12, 3) := by decide +kernel
theorem dX12_stream_91 : decode cX12_stream 91 = .ok (.aload_n 0, 1) := by decide +kernel
theorem dX12_stream_92 : decode cX12_stream 92 = .ok (.getfield 103, 3) := by decide +kernel
theorem dX12_stream_95 : decode cX12_stream 95 = .ok (.iload_n 1, 1) := by decide +kernel
theorem dX12_stream_96 : decode cX12_stream 96 = .ok (.iaload, 1) := by decide +kernel
theorem dX12_stream_97 : decode cX12_stream 97 = .ok (.goto 59, 3) := by decide +kernel
theorem dX12_stream_100 : decode cX12_stream 100 = .ok (.iload_n 2, 1) := by decide +kernel
theorem dX12_stream_101 : decode cX12_stream 101 = .ok (.iconst 1, 1) := by decide +kernel
theorem dX12_stream_102 : decode cX12_stream 102 = .ok (.if_icmp .ne 12, 3) := by decide +kernel
theorem dX12_stream_105 : decode cX12_stream 105 = .ok (.aload_n 0, 1) := by decide +kernel
theorem dX12_stream_106 : decode cX12_stream 106 = .ok (.getfield 106, 3) := by decide +kernel
theorem dX12_stream_109 : decode cX12_stream 109 = .ok (.iload_n 1, 1) := by decide +kernel
theorem dX12_stream_110 : decode cX12_stream 110 = .ok (.iaload, 1) := by decide +kernel
theorem dX12_stream_111 : decode cX12_stream 111 = .ok (.goto 45, 3) := by decide +kernel
theorem dX12_stream_114 : decode cX12_stream 114 = .ok (.iload_n 2, 1) := by decide +kernel
theorem dX12_stream_115 : decode cX12_stream 115 = .ok (.iconst 4, 1) := by decide +kernel
theorem dX12_stream_116 : decode cX12_stream 116 = .ok (.if_icmp .ge 7, 3) := by decide +kernel
theorem dX12_stream_119 : decode cX12_stream 119 = .ok (.iload_n 3, 1) := by decide +kernel
theorem dX12_stream_120 : decode cX12_stream 120 = .ok (.goto 36, 3) := by decide +kernel
theorem dX12_stream_123 : decode cX12_stream 123 = .ok (.iload_n 2, 1) := by decide +kernel
theorem dX12_stream_124 : decode cX12_stream 124 = .ok (.iconst 4, 1) := by decide +kernel
theorem dX12_stream_125 : decode cX12_stream 125 = .ok (.if_icmp .ne 12, 3) := by decide +kernel
theorem dX12_stream_128 : decode cX12_stream 128 = .ok (.aload_n 0, 1) := by decide +kernel
theorem dX12_stream_129 : decode cX12_stream 129 = .ok (.getfield 109, 3) := by decide +kernel
theorem dX12_stream_132 : decode cX12_stream 132 = .ok (.iload_n 1, 1) := by decide +kernel
theorem dX12_stream_133 : decode cX12_stream 133 = .ok (.iaload, 1) := by decide +kernel
theorem dX12_stream_134 : decode cX12_stream 134 = .ok (.goto 22, 3) := by decide +kernel
theorem dX12_stream_137 : decode cX12_stream 137 = .ok (.iload_n 2, 1) := by decide +kernel
theorem dX12_stream_138 : decode cX12_stream 138 = .ok (.iconst 5, 1) := by decide +kernel
theorem dX12_stream_139 : decode cX12_stream 139 = .ok (.if_icmp .ne 11, 3) := by decide +kernel
theorem dX12_stream_142 : decode cX12_stream 142 = .ok (.aload_n 0, 1) := by decide +kernel
theorem dX12_stream_143 : decode cX12_stream 143 = .ok (.iload_n 1, 1) := by decide +kernel
theorem dX12_stream_144 : decode cX12_stream 144 = .ok (.invokevirtual 309, 3) := by decide +kernel
theorem dX12_stream_147 : decode cX12_stream 147 = .ok (.goto 9, 3) := by decide +kernel
theorem dX12_stream_150 : decode cX12_stream 150 = .ok (.aload_n 0, 1) := by decide +kernel
theorem dX12_stream_151 : decode cX12_stream 151 = .ok (.getfield 88, 3) := by decide +kernel
theorem dX12_stream_154 : decode cX12_stream 154 = .ok (.iload_n 1, 1) := by decide +kernel
theorem dX12_stream_155 : decode cX12_stream 155 = .ok (.iaload, 1) := by decide +kernel
theorem dX12_stream_156 : decode cX12_stream 156 = .ok (.ireturn, 1) := by decide +kernel
theorem dX12_credit_0 : decode cX12_credit 0 = .ok (.aload_n 0, 1) := by decide +kernel
theorem dX12_credit_1 : decode cX12_credit 1 = .ok (.iconst 0, 1) := by decide +kernel
theorem dX12_credit_2 : decode cX12_credit 2 = .ok (.putfield 233, 3) := by decide +kernel
theorem dX12_credit_5 : decode cX12_credit 5 = .ok (.aload_n 0, 1) := by decide +kernel
theorem dX12_credit_6 : decode cX12_credit 6 = .ok (.getfield 112, 3) := by decide +kernel
theorem dX12_credit_9 : decode cX12_credit 9 = .ok (.ireturn, 1) := by decide +kernel
theorem dX12_packets_0 : decode cX12_packets 0 = .ok (.aload_n 0, 1) := by decide +kernel
theorem dX12_packets_1 : decode cX12_packets 1 = .ok (.iconst 0, 1) := by decide +kernel
theorem dX12_packets_2 : decode cX12_packets 2 = .ok (.putfield 233, 3) := by decide +kernel
theorem dX12_packets_5 : decode cX12_packets 5 = .ok (.aload_n 0, 1) := by decide +kernel
theorem dX12_packets_6 : decode cX12_packets 6 = .ok (.getfield 313, 3) := by decide +kernel
theorem dX12_packets_9 : decode cX12_packets 9 = .ok (.ireturn, 1) := by decide +kernel
theorem dX12_packet_0 : decode cX12_packet 0 = .ok (.aload_n 0, 1) := by decide +kernel
theorem dX12_packet_1 : decode cX12_packet 1 = .ok (.iload_n 1, 1) := by decide +kernel
theorem dX12_packet_2 : decode cX12_packet 2 = .ok (.iconst 0, 1) := by decide +kernel
theorem dX12_packet_3 : decode cX12_packet 3 = .ok (.aload_n 0, 1) := by decide +kernel
theorem dX12_packet_4 : decode cX12_packet 4 = .ok (.getfield 313, 3) := by decide +kernel
theorem dX12_packet_7 : decode cX12_packet 7 = .ok (.iconst 1, 1) := by decide +kernel
theorem dX12_packet_8 : decode cX12_packet 8 = .ok (.isub, 1) := by decide +kernel
theorem dX12_packet_9 : decode cX12_packet 9 = .ok (.invokestatic 236, 3) := by decide +kernel
theorem dX12_packet_12 : decode cX12_packet 12 = .ok (.iload_n 2, 1) := by decide +kernel
theorem dX12_packet_13 : decode cX12_packet 13 = .ok (.iconst 0, 1) := by decide +kernel
theorem dX12_packet_14 : decode cX12_packet 14 = .ok (.bipush 10, 2) := by decide +kernel
theorem dX12_packet_16 : decode cX12_packet 16 = .ok (.invokestatic 236, 3) := by decide +kernel
theorem dX12_packet_19 : decode cX12_packet 19 = .ok (.iconst 1, 1) := by decide +kernel
theorem dX12_packet_20 : decode cX12_packet 20 = .ok (.invokevirtual 253, 3) := by decide +kernel
theorem dX12_packet_23 : decode cX12_packet 23 = .ok (.ifCond .ne 5, 3) := by decide +kernel
theorem dX12_packet_26 : decode cX12_packet 26 = .ok (.iconst 0, 1) := by decide +kernel
theorem dX12_packet_27 : decode cX12_packet 27 = .ok (.ireturn, 1) := by decide +kernel
theorem dX12_packet_28 : decode cX12_packet 28 = .ok (.iload_n 2, 1) := by decide +kernel
theorem dX12_packet_29 : decode cX12_packet 29 = .ok (.tableswitch 141 0 9 #[55, 62, 69, 76, 83, 90, 97, 104, 111, 126], 55) := by decide +kernel
theorem dX12_packet_84 : decode cX12_packet 84 = .ok (.aload_n 0, 1) := by decide +kernel
theorem dX12_packet_85 : decode cX12_packet 85 = .ok (.getfield 124, 3) := by decide +kernel
theorem dX12_packet_88 : decode cX12_packet 88 = .ok (.iload_n 1, 1) := by decide +kernel
theorem dX12_packet_89 : decode cX12_packet 89 = .ok (.iaload, 1) := by decide +kernel
theorem dX12_packet_90 : decode cX12_packet 90 = .ok (.ireturn, 1) := by decide +kernel
theorem dX12_packet_91 : decode cX12_packet 91 = .ok (.aload_n 0, 1) := by decide +kernel
theorem dX12_packet_92 : decode cX12_packet 92 = .ok (.getfield 127, 3) := by decide +kernel
theorem dX12_packet_95 : decode cX12_packet 95 = .ok (.iload_n 1, 1) := by decide +kernel
theorem dX12_packet_96 : decode cX12_packet 96 = .ok (.iaload, 1) := by decide +kernel
theorem dX12_packet_97 : decode cX12_packet 97 = .ok (.ireturn, 1) := by decide +kernel
theorem dX12_packet_98 : decode cX12_packet 98 = .ok (.aload_n 0, 1) := by decide +kernel
theorem dX12_packet_99 : decode cX12_packet 99 = .ok (.getfield 130, 3) := by decide +kernel
theorem dX12_packet_102 : decode cX12_packet 102 = .ok (.iload_n 1, 1) := by decide +kernel
theorem dX12_packet_103 : decode cX12_packet 103 = .ok (.iaload, 1) := by decide +kernel
theorem dX12_packet_104 : decode cX12_packet 104 = .ok (.ireturn, 1) := by decide +kernel
theorem dX12_packet_105 : decode cX12_packet 105 = .ok (.aload_n 0, 1) := by decide +kernel
theorem dX12_packet_106 : decode cX12_packet 106 = .ok (.getfield 133, 3) := by decide +kernel
theorem dX12_packet_109 : decode cX12_packet 109 = .ok (.iload_n 1, 1) := by decide +kernel
theorem dX12_packet_110 : decode cX12_packet 110 = .ok (.iaload, 1) := by decide +kernel
theorem dX12_packet_111 : decode cX12_packet 111 = .ok (.ireturn, 1) := by decide +kernel
theorem dX12_packet_112 : decode cX12_packet 112 = .ok (.aload_n 0, 1) := by decide +kernel
theorem dX12_packet_113 : decode cX12_packet 113 = .ok (.getfield 136, 3) := by decide +kernel
theorem dX12_packet_116 : decode cX12_packet 116 = .ok (.iload_n 1, 1) := by decide +kernel
theorem dX12_packet_117 : decode cX12_packet 117 = .ok (.iaload, 1) := by decide +kernel
theorem dX12_packet_118 : decode cX12_packet 118 = .ok (.ireturn, 1) := by decide +kernel
theorem dX12_packet_119 : decode cX12_packet 119 = .ok (.aload_n 0, 1) := by decide +kernel
theorem dX12_packet_120 : decode cX12_packet 120 = .ok (.getfield 139, 3) := by decide +kernel
theorem dX12_packet_123 : decode cX12_packet 123 = .ok (.iload_n 1, 1) := by decide +kernel
theorem dX12_packet_124 : decode cX12_packet 124 = .ok (.iaload, 1) := by decide +kernel
theorem dX12_packet_125 : decode cX12_packet 125 = .ok (.ireturn, 1) := by decide +kernel
theorem dX12_packet_126 : decode cX12_packet 126 = .ok (.aload_n 0, 1) := by decide +kernel
theorem dX12_packet_127 : decode cX12_packet 127 = .ok (.getfield 142, 3) := by decide +kernel
theorem dX12_packet_130 : decode cX12_packet 130 = .ok (.iload_n 1, 1) := by decide +kernel
theorem dX12_packet_131 : decode cX12_packet 131 = .ok (.iaload, 1) := by decide +kernel
theorem dX12_packet_132 : decode cX12_packet 132 = .ok (.ireturn, 1) := by decide +kernel
theorem dX12_packet_133 : decode cX12_packet 133 = .ok (.aload_n 0, 1) := by decide +kernel
theorem dX12_packet_134 : decode cX12_packet 134 = .ok (.getfield 145, 3) := by decide +kernel
theorem dX12_packet_137 : decode cX12_packet 137 = .ok (.iload_n 1, 1) := by decide +kernel
theorem dX12_packet_138 : decode cX12_packet 138 = .ok (.iaload, 1) := by decide +kernel
theorem dX12_packet_139 : decode cX12_packet 139 = .ok (.ireturn, 1) := by decide +kernel
theorem dX12_packet_140 : decode cX12_packet 140 = .ok (.aload_n 0, 1) := by decide +kernel
theorem dX12_packet_141 : decode cX12_packet 141 = .ok (.getfield 148, 3) := by decide +kernel
theorem dX12_packet_144 : decode cX12_packet 144 = .ok (.iload_n 1, 1) := by decide +kernel
theorem dX12_packet_145 : decode cX12_packet 145 = .ok (.baload, 1) := by decide +kernel
theorem dX12_packet_146 : decode cX12_packet 146 = .ok (.ifCond .eq 7, 3) := by decide +kernel
theorem dX12_packet_149 : decode cX12_packet 149 = .ok (.iconst 1, 1) := by decide +kernel
theorem dX12_packet_150 : decode cX12_packet 150 = .ok (.goto 4, 3) := by decide +kernel
theorem dX12_packet_153 : decode cX12_packet 153 = .ok (.iconst 0, 1) := by decide +kernel
theorem dX12_packet_154 : decode cX12_packet 154 = .ok (.ireturn, 1) := by decide +kernel
theorem dX12_packet_155 : decode cX12_packet 155 = .ok (.aload_n 0, 1) := by decide +kernel
theorem dX12_packet_156 : decode cX12_packet 156 = .ok (.getfield 151, 3) := by decide +kernel
theorem dX12_packet_159 : decode cX12_packet 159 = .ok (.iload_n 1, 1) := by decide +kernel
theorem dX12_packet_160 : decode cX12_packet 160 = .ok (.baload, 1) := by decide +kernel
theorem dX12_packet_161 : decode cX12_packet 161 = .ok (.ifCond .eq 7, 3) := by decide +kernel
theorem dX12_packet_164 : decode cX12_packet 164 = .ok (.iconst 1, 1) := by decide +kernel
theorem dX12_packet_165 : decode cX12_packet 165 = .ok (.goto 4, 3) := by decide +kernel
theorem dX12_packet_168 : decode cX12_packet 168 = .ok (.iconst 0, 1) := by decide +kernel
theorem dX12_packet_169 : decode cX12_packet 169 = .ok (.ireturn, 1) := by decide +kernel
theorem dX12_packet_170 : decode cX12_packet 170 = .ok (.aload_n 0, 1) := by decide +kernel
theorem dX12_packet_171 : decode cX12_packet 171 = .ok (.getfield 154, 3) := by decide +kernel
theorem dX12_packet_174 : decode cX12_packet 174 = .ok (.iload_n 1, 1) := by decide +kernel
theorem dX12_packet_175 : decode cX12_packet 175 = .ok (.baload, 1) := by decide +kernel
theorem dX12_packet_176 : decode cX12_packet 176 = .ok (.ifCond .eq 7, 3) := by decide +kernel
theorem dX12_packet_179 : decode cX12_packet 179 = .ok (.iconst 1, 1) := by decide +kernel
theorem dX12_packet_180 : decode cX12_packet 180 = .ok (.goto 4, 3) := by decide +kernel
theorem dX12_packet_183 : decode cX12_packet 183 = .ok (.iconst 0, 1) := by decide +kernel
theorem dX12_packet_184 : decode cX12_packet 184 = .ok (.ireturn, 1) := by decide +kernel
theorem dX12_count_0 : decode cX12_count 0 = .ok (.aload_n 0, 1) := by decide +kernel
theorem dX12_count_1 : decode cX12_count 1 = .ok (.iload_n 1, 1) := by decide +kernel
theorem dX12_count_2 : decode cX12_count 2 = .ok (.iconst 0, 1) := by decide +kernel
theorem dX12_count_3 : decode cX12_count 3 = .ok (.iconst 5, 1) := by decide +kernel
theorem dX12_count_4 : decode cX12_count 4 = .ok (.invokestatic 236, 3) := by decide +kernel
theorem dX12_count_7 : decode cX12_count 7 = .ok (.iconst 1, 1) := by decide +kernel
theorem dX12_count_8 : decode cX12_count 8 = .ok (.iconst 1, 1) := by decide +kernel
theorem dX12_count_9 : decode cX12_count 9 = .ok (.invokevirtual 253, 3) := by decide +kernel
theorem dX12_count_12 : decode cX12_count 12 = .ok (.ifCond .eq 12, 3) := by decide +kernel
theorem dX12_count_15 : decode cX12_count 15 = .ok (.aload_n 0, 1) := by decide +kernel
theorem dX12_count_16 : decode cX12_count 16 = .ok (.getfield 229, 3) := by decide +kernel
theorem dX12_count_19 : decode cX12_count 19 = .ok (.iload_n 1, 1) := by decide +kernel
theorem dX12_count_20 : decode cX12_count 20 = .ok (.iaload, 1) := by decide +kernel
theorem dX12_count_21 : decode cX12_count 21 = .ok (.goto 4, 3) := by decide +kernel
theorem dX12_count_24 : decode cX12_count 24 = .ok (.iconst 0, 1) := by decide +kernel
theorem dX12_count_25 : decode cX12_count 25 = .ok (.ireturn, 1) := by decide +kernel
theorem dX12_inFlightAnew_0 : decode cX12_inFlightAnew 0 = .ok (.aload_n 0, 1) := by decide +kernel
theorem dX12_inFlightAnew_1 : decode cX12_inFlightAnew 1 = .ok (.iload_n 1, 1) := by decide +kernel
theorem dX12_inFlightAnew_2 : decode cX12_inFlightAnew 2 = .ok (.invokestatic 249, 3) := by decide +kernel
theorem dX12_inFlightAnew_5 : decode cX12_inFlightAnew 5 = .ok (.iconst 1, 1) := by decide +kernel
theorem dX12_inFlightAnew_6 : decode cX12_inFlightAnew 6 = .ok (.iconst 1, 1) := by decide +kernel
theorem dX12_inFlightAnew_7 : decode cX12_inFlightAnew 7 = .ok (.invokevirtual 253, 3) := by decide +kernel
theorem dX12_inFlightAnew_10 : decode cX12_inFlightAnew 10 = .ok (.ifCond .eq 11, 3) := by decide +kernel
theorem dX12_inFlightAnew_13 : decode cX12_inFlightAnew 13 = .ok (.aload_n 0, 1) := by decide +kernel
theorem dX12_inFlightAnew_14 : decode cX12_inFlightAnew 14 = .ok (.iload_n 1, 1) := by decide +kernel
theorem dX12_inFlightAnew_15 : decode cX12_inFlightAnew 15 = .ok (.invokevirtual 396, 3) := by decide +kernel
theorem dX12_inFlightAnew_18 : decode cX12_inFlightAnew 18 = .ok (.goto 4, 3) := by decide +kernel
theorem dX12_inFlightAnew_21 : decode cX12_inFlightAnew 21 = .ok (.iconst 0, 1) := by decide +kernel
theorem dX12_inFlightAnew_22 : decode cX12_inFlightAnew 22 = .ok (.ireturn, 1) := by decide +kernel
theorem dX12_gotAnew_0 : decode cX12_gotAnew 0 = .ok (.aload_n 0, 1) := by decide +kernel
theorem dX12_gotAnew_1 : decode cX12_gotAnew 1 = .ok (.iload_n 1, 1) := by decide +kernel
theorem dX12_gotAnew_2 : decode cX12_gotAnew 2 = .ok (.invokestatic 306, 3) := by decide +kernel
theorem dX12_gotAnew_5 : decode cX12_gotAnew 5 = .ok (.iconst 1, 1) := by decide +kernel
theorem dX12_gotAnew_6 : decode cX12_gotAnew 6 = .ok (.iconst 1, 1) := by decide +kernel
theorem dX12_gotAnew_7 : decode cX12_gotAnew 7 = .ok (.invokevirtual 253, 3) := by decide +kernel
theorem dX12_gotAnew_10 : decode cX12_gotAnew 10 = .ok (.ifCond .ne 5, 3) := by decide +kernel
theorem dX12_gotAnew_13 : decode cX12_gotAnew 13 = .ok (.iconst 0, 1) := by decide +kernel
theorem dX12_gotAnew_14 : decode cX12_gotAnew 14 = .ok (.ireturn, 1) := by decide +kernel
theorem dX12_gotAnew_15 : decode cX12_gotAnew 15 = .ok (.iconst 0, 1) := by decide +kernel
theorem dX12_gotAnew_16 : decode cX12_gotAnew 16 = .ok (.istore_n 2, 1) := by decide +kernel
theorem dX12_gotAnew_17 : decode cX12_gotAnew 17 = .ok (.iconst 1, 1) := by decide +kernel
theorem dX12_gotAnew_18 : decode cX12_gotAnew 18 = .ok (.istore_n 3, 1) := by decide +kernel
theorem dX12_gotAnew_19 : decode cX12_gotAnew 19 = .ok (.iload_n 3, 1) := by decide +kernel
theorem dX12_gotAnew_20 : decode cX12_gotAnew 20 = .ok (.ifCond .eq 108, 3) := by decide +kernel
theorem dX12_gotAnew_23 : decode cX12_gotAnew 23 = .ok (.iload_n 2, 1) := by decide +kernel
theorem dX12_gotAnew_24 : decode cX12_gotAnew 24 = .ok (.sipush 200, 3) := by decide +kernel
theorem dX12_gotAnew_27 : decode cX12_gotAnew 27 = .ok (.if_icmp .ge 101, 3) := by decide +kernel
theorem dX12_gotAnew_30 : decode cX12_gotAnew 30 = .ok (.iconst 0, 1) := by decide +kernel
theorem dX12_gotAnew_31 : decode cX12_gotAnew 31 = .ok (.istore_n 3, 1) := by decide +kernel
theorem dX12_gotAnew_32 : decode cX12_gotAnew 32 = .ok (.iconst 0, 1) := by decide +kernel
theorem dX12_gotAnew_33 : decode cX12_gotAnew 33 = .ok (.istore 4, 2) := by decide +kernel
theorem dX12_gotAnew_35 : decode cX12_gotAnew 35 = .ok (.iload 4, 2) := by decide +kernel
theorem dX12_gotAnew_37 : decode cX12_gotAnew 37 = .ok (.aload_n 0, 1) := by decide +kernel
theorem dX12_gotAnew_38 : decode cX12_gotAnew 38 = .ok (.getfield 313, 3) := by decide +kernel
theorem dX12_gotAnew_41 : decode cX12_gotAnew 41 = .ok (.if_icmp .ge 72, 3) := by decide +kernel
theorem dX12_gotAnew_44 : decode cX12_gotAnew 44 = .ok (.iload_n 3, 1) := by decide +kernel
theorem dX12_gotAnew_45 : decode cX12_gotAnew 45 = .ok (.ifCond .ne 56, 3) := by decide +kernel
theorem dX12_gotAnew_48 : decode cX12_gotAnew 48 = .ok (.aload_n 0, 1) := by decide +kernel
theorem dX12_gotAnew_49 : decode cX12_gotAnew 49 = .ok (.getfield 142, 3) := by decide +kernel
theorem dX12_gotAnew_52 : decode cX12_gotAnew 52 = .ok (.iload 4, 2) := by decide +kernel
theorem dX12_gotAnew_54 : decode cX12_gotAnew 54 = .ok (.iaload, 1) := by decide +kernel
theorem dX12_gotAnew_55 : decode cX12_gotAnew 55 = .ok (.iconst 1, 1) := by decide +kernel
theorem dX12_gotAnew_56 : decode cX12_gotAnew 56 = .ok (.if_icmp .ne 49, 3) := by decide +kernel
theorem dX12_gotAnew_59 : decode cX12_gotAnew 59 = .ok (.aload_n 0, 1) := by decide +kernel
theorem dX12_gotAnew_60 : decode cX12_gotAnew 60 = .ok (.getfield 130, 3) := by decide +kernel
theorem dX12_gotAnew_63 : decode cX12_gotAnew 63 = .ok (.iload 4, 2) := by decide +kernel
theorem dX12_gotAnew_65 : decode cX12_gotAnew 65 = .ok (.iaload, 1) := by decide +kernel
theorem dX12_gotAnew_66 : decode cX12_gotAnew 66 = .ok (.iload_n 1, 1) := by decide +kernel
theorem dX12_gotAnew_67 : decode cX12_gotAnew 67 = .ok (.if_icmp .ne 38, 3) := by decide +kernel
theorem dX12_gotAnew_70 : decode cX12_gotAnew 70 = .ok (.iload_n 2, 1) := by decide +kernel
theorem dX12_gotAnew_71 : decode cX12_gotAnew 71 = .ok (.aload_n 0, 1) := by decide +kernel
theorem dX12_gotAnew_72 : decode cX12_gotAnew 72 = .ok (.getfield 133, 3) := by decide +kernel
theorem dX12_gotAnew_75 : decode cX12_gotAnew 75 = .ok (.iload 4, 2) := by decide +kernel
theorem dX12_gotAnew_77 : decode cX12_gotAnew 77 = .ok (.iaload, 1) := by decide +kernel
theorem dX12_gotAnew_78 : decode cX12_gotAnew 78 = .ok (.aload_n 0, 1) := by decide +kernel
theorem dX12_gotAnew_79 : decode cX12_gotAnew 79 = .ok (.getfield 133, 3) := by decide +kernel
theorem dX12_gotAnew_82 : decode cX12_gotAnew 82 = .ok (.iload 4, 2) := by decide +kernel
theorem dX12_gotAnew_84 : decode cX12_gotAnew 84 = .ok (.iaload, 1) := by decide +kernel
theorem dX12_gotAnew_85 : decode cX12_gotAnew 85 = .ok (.aload_n 0, 1) := by decide +kernel
theorem dX12_gotAnew_86 : decode cX12_gotAnew 86 = .ok (.getfield 136, 3) := by decide +kernel
theorem dX12_gotAnew_89 : decode cX12_gotAnew 89 = .ok (.iload 4, 2) := by decide +kernel
theorem dX12_gotAnew_91 : decode cX12_gotAnew 91 = .ok (.iaload, 1) := by decide +kernel
theorem dX12_gotAnew_92 : decode cX12_gotAnew 92 = .ok (.iadd, 1) := by decide +kernel
theorem dX12_gotAnew_93 : decode cX12_gotAnew 93 = .ok (.iconst 1, 1) := by decide +kernel
theorem dX12_gotAnew_94 : decode cX12_gotAnew 94 = .ok (.isub, 1) := by decide +kernel
theorem dX12_gotAnew_95 : decode cX12_gotAnew 95 = .ok (.invokestatic 236, 3) := by decide +kernel
theorem dX12_gotAnew_98 : decode cX12_gotAnew 98 = .ok (.ifCond .eq 7, 3) := by decide +kernel
theorem dX12_gotAnew_101 : decode cX12_gotAnew 101 = .ok (.iconst 1, 1) := by decide +kernel
theorem dX12_gotAnew_102 : decode cX12_gotAnew 102 = .ok (.goto 4, 3) := by decide +kernel
theorem dX12_gotAnew_105 : decode cX12_gotAnew 105 = .ok (.iconst 0, 1) := by decide +kernel
theorem dX12_gotAnew_106 : decode cX12_gotAnew 106 = .ok (.istore_n 3, 1) := by decide +kernel
theorem dX12_gotAnew_107 : decode cX12_gotAnew 107 = .ok (.iinc 4 1, 3) := by decide +kernel
theorem dX12_gotAnew_110 : decode cX12_gotAnew 110 = .ok (.goto (-75), 3) := by decide +kernel
theorem dX12_gotAnew_113 : decode cX12_gotAnew 113 = .ok (.iload_n 2, 1) := by decide +kernel
theorem dX12_gotAnew_114 : decode cX12_gotAnew 114 = .ok (.iload_n 3, 1) := by decide +kernel
theorem dX12_gotAnew_115 : decode cX12_gotAnew 115 = .ok (.ifCond .eq 7, 3) := by decide +kernel
theorem dX12_gotAnew_118 : decode cX12_gotAnew 118 = .ok (.iconst 1, 1) := by decide +kernel
theorem dX12_gotAnew_119 : decode cX12_gotAnew 119 = .ok (.goto 4, 3) := by decide +kernel
theorem dX12_gotAnew_122 : decode cX12_gotAnew 122 = .ok (.iconst 0, 1) := by decide +kernel
theorem dX12_gotAnew_123 : decode cX12_gotAnew 123 = .ok (.iadd, 1) := by decide +kernel
theorem dX12_gotAnew_124 : decode cX12_gotAnew 124 = .ok (.istore_n 2, 1) := by decide +kernel
theorem dX12_gotAnew_125 : decode cX12_gotAnew 125 = .ok (.goto (-106), 3) := by decide +kernel
theorem dX12_gotAnew_128 : decode cX12_gotAnew 128 = .ok (.iload_n 2, 1) := by decide +kernel
theorem dX12_gotAnew_129 : decode cX12_gotAnew 129 = .ok (.ireturn, 1) := by decide +kernel
theorem dL_setPath_0 : decode cL_setPath 0 = .ok (.aload_n 0, 1) := by decide +kernel
theorem dL_setPath_1 : decode cL_setPath 1 = .ok (.iload_n 1, 1) := by decide +kernel
theorem dL_setPath_2 : decode cL_setPath 2 = .ok (.iload_n 2, 1) := by decide +kernel
theorem dL_setPath_3 : decode cL_setPath 3 = .ok (.iload_n 3, 1) := by decide +kernel
theorem dL_setPath_4 : decode cL_setPath 4 = .ok (.iload 4, 2) := by decide +kernel
theorem dL_setPath_6 : decode cL_setPath 6 = .ok (.iload 5, 2) := by decide +kernel
theorem dL_setPath_8 : decode cL_setPath 8 = .ok (.invokevirtual 7, 3) := by decide +kernel
theorem dL_setPath_11 : decode cL_setPath 11 = .ok (.goto 11, 3) := by decide +kernel
theorem dL_setPath_14 : decode cL_setPath 14 = .ok (.astore 6, 2) := by decide +kernel
theorem dL_setPath_16 : decode cL_setPath 16 = .ok (.iconst 1, 1) := by decide +kernel
theorem dL_setPath_17 : decode cL_setPath 17 = .ok (.ireturn, 1) := by decide +kernel
theorem dL_setPath_18 : decode cL_setPath 18 = .ok (.astore 6, 2) := by decide +kernel
theorem dL_setPath_20 : decode cL_setPath 20 = .ok (.iconst 2, 1) := by decide +kernel
theorem dL_setPath_21 : decode cL_setPath 21 = .ok (.ireturn, 1) := by decide +kernel
theorem dL_setPath_22 : decode cL_setPath 22 = .ok (.iconst 0, 1) := by decide +kernel
theorem dL_setPath_23 : decode cL_setPath 23 = .ok (.ireturn, 1) := by decide +kernel
theorem dL_setUp_0 : decode cL_setUp 0 = .ok (.aload_n 3, 1) := by decide +kernel
theorem dL_setUp_1 : decode cL_setUp 1 = .ok (.iconst 0, 1) := by decide +kernel
theorem dL_setUp_2 : decode cL_setUp 2 = .ok (.aload_n 0, 1) := by decide +kernel
theorem dL_setUp_3 : decode cL_setUp 3 = .ok (.iload_n 1, 1) := by decide +kernel
theorem dL_setUp_4 : decode cL_setUp 4 = .ok (.iload_n 2, 1) := by decide +kernel
theorem dL_setUp_5 : decode cL_setUp 5 = .ok (.invokevirtual 17, 3) := by decide +kernel
theorem dL_setUp_8 : decode cL_setUp 8 = .ok (.ifCond .eq 7, 3) := by decide +kernel
theorem dL_setUp_11 : decode cL_setUp 11 = .ok (.lconst 1, 1) := by decide +kernel
theorem dL_setUp_12 : decode cL_setUp 12 = .ok (.goto 4, 3) := by decide +kernel
theorem dL_setUp_15 : decode cL_setUp 15 = .ok (.lconst 0, 1) := by decide +kernel
theorem dL_setUp_16 : decode cL_setUp 16 = .ok (.lastore, 1) := by decide +kernel
theorem dL_setUp_17 : decode cL_setUp 17 = .ok (.goto 7, 3) := by decide +kernel
theorem dL_setUp_20 : decode cL_setUp 20 = .ok (.astore 4, 2) := by decide +kernel
theorem dL_setUp_22 : decode cL_setUp 22 = .ok (.iconst 1, 1) := by decide +kernel
theorem dL_setUp_23 : decode cL_setUp 23 = .ok (.ireturn, 1) := by decide +kernel
theorem dL_setUp_24 : decode cL_setUp 24 = .ok (.iconst 0, 1) := by decide +kernel
theorem dL_setUp_25 : decode cL_setUp 25 = .ok (.ireturn, 1) := by decide +kernel
theorem dL_lose_0 : decode cL_lose 0 = .ok (.aload_n 0, 1) := by decide +kernel
theorem dL_lose_1 : decode cL_lose 1 = .ok (.iload_n 1, 1) := by decide +kernel
theorem dL_lose_2 : decode cL_lose 2 = .ok (.iload_n 2, 1) := by decide +kernel
theorem dL_lose_3 : decode cL_lose 3 = .ok (.iload_n 3, 1) := by decide +kernel
theorem dL_lose_4 : decode cL_lose 4 = .ok (.invokevirtual 21, 3) := by decide +kernel
theorem dL_lose_7 : decode cL_lose 7 = .ok (.goto 11, 3) := by decide +kernel
theorem dL_lose_10 : decode cL_lose 10 = .ok (.astore 4, 2) := by decide +kernel
theorem dL_lose_12 : decode cL_lose 12 = .ok (.iconst 1, 1) := by decide +kernel
theorem dL_lose_13 : decode cL_lose 13 = .ok (.ireturn, 1) := by decide +kernel
theorem dL_lose_14 : decode cL_lose 14 = .ok (.astore 4, 2) := by decide +kernel
theorem dL_lose_16 : decode cL_lose 16 = .ok (.iconst 2, 1) := by decide +kernel
theorem dL_lose_17 : decode cL_lose 17 = .ok (.ireturn, 1) := by decide +kernel
theorem dL_lose_18 : decode cL_lose 18 = .ok (.iconst 0, 1) := by decide +kernel
theorem dL_lose_19 : decode cL_lose 19 = .ok (.ireturn, 1) := by decide +kernel
theorem dL_late_0 : decode cL_late 0 = .ok (.aload_n 0, 1) := by decide +kernel
theorem dL_late_1 : decode cL_late 1 = .ok (.iload_n 1, 1) := by decide +kernel
theorem dL_late_2 : decode cL_late 2 = .ok (.iload_n 2, 1) := by decide +kernel
theorem dL_late_3 : decode cL_late 3 = .ok (.iload_n 3, 1) := by decide +kernel
theorem dL_late_4 : decode cL_late 4 = .ok (.invokevirtual 25, 3) := by decide +kernel
theorem dL_late_7 : decode cL_late 7 = .ok (.goto 11, 3) := by decide +kernel
theorem dL_late_10 : decode cL_late 10 = .ok (.astore 4, 2) := by decide +kernel
theorem dL_late_12 : decode cL_late 12 = .ok (.iconst 1, 1) := by decide +kernel
theorem dL_late_13 : decode cL_late 13 = .ok (.ireturn, 1) := by decide +kernel
theorem dL_late_14 : decode cL_late 14 = .ok (.astore 4, 2) := by decide +kernel
theorem dL_late_16 : decode cL_late 16 = .ok (.iconst 2, 1) := by decide +kernel
theorem dL_late_17 : decode cL_late 17 = .ok (.ireturn, 1) := by decide +kernel
theorem dL_late_18 : decode cL_late 18 = .ok (.iconst 0, 1) := by decide +kernel
theorem dL_late_19 : decode cL_late 19 = .ok (.ireturn, 1) := by decide +kernel
theorem dL_foreign_0 : decode cL_foreign 0 = .ok (.aload_n 3, 1) := by decide +kernel
theorem dL_foreign_1 : decode cL_foreign 1 = .ok (.iconst 0, 1) := by decide +kernel
theorem dL_foreign_2 : decode cL_foreign 2 = .ok (.aload_n 0, 1) := by decide +kernel
theorem dL_foreign_3 : decode cL_foreign 3 = .ok (.iload_n 1, 1) := by decide +kernel
theorem dL_foreign_4 : decode cL_foreign 4 = .ok (.iload_n 2, 1) := by decide +kernel
theorem dL_foreign_5 : decode cL_foreign 5 = .ok (.invokevirtual 29, 3) := by decide +kernel
theorem dL_foreign_8 : decode cL_foreign 8 = .ok (.i2l, 1) := by decide +kernel
theorem dL_foreign_9 : decode cL_foreign 9 = .ok (.lastore, 1) := by decide +kernel
theorem dL_foreign_10 : decode cL_foreign 10 = .ok (.goto 11, 3) := by decide +kernel
theorem dL_foreign_13 : decode cL_foreign 13 = .ok (.astore 4, 2) := by decide +kernel
theorem dL_foreign_15 : decode cL_foreign 15 = .ok (.iconst 1, 1) := by decide +kernel
theorem dL_foreign_16 : decode cL_foreign 16 = .ok (.ireturn, 1) := by decide +kernel
theorem dL_foreign_17 : decode cL_foreign 17 = .ok (.astore 4, 2) := by decide +kernel
theorem dL_foreign_19 : decode cL_foreign 19 = .ok (.iconst 2, 1) := by decide +kernel
theorem dL_foreign_20 : decode cL_foreign 20 = .ok (.ireturn, 1) := by decide +kernel
theorem dL_foreign_21 : decode cL_foreign 21 = .ok (.iconst 0, 1) := by decide +kernel
theorem dL_foreign_22 : decode cL_foreign 22 = .ok (.ireturn, 1) := by decide +kernel
theorem dL_read_0 : decode cL_read 0 = .ok (.aload_n 3, 1) := by decide +kernel
theorem dL_read_1 : decode cL_read 1 = .ok (.iconst 0, 1) := by decide +kernel
theorem dL_read_2 : decode cL_read 2 = .ok (.aload_n 0, 1) := by decide +kernel
theorem dL_read_3 : decode cL_read 3 = .ok (.iload_n 1, 1) := by decide +kernel
theorem dL_read_4 : decode cL_read 4 = .ok (.iload_n 2, 1) := by decide +kernel
theorem dL_read_5 : decode cL_read 5 = .ok (.invokevirtual 33, 3) := by decide +kernel
theorem dL_read_8 : decode cL_read 8 = .ok (.i2l, 1) := by decide +kernel
theorem dL_read_9 : decode cL_read 9 = .ok (.lastore, 1) := by decide +kernel
theorem dL_read_10 : decode cL_read 10 = .ok (.goto 11, 3) := by decide +kernel
theorem dL_read_13 : decode cL_read 13 = .ok (.astore 4, 2) := by decide +kernel
theorem dL_read_15 : decode cL_read 15 = .ok (.iconst 1, 1) := by decide +kernel
theorem dL_read_16 : decode cL_read 16 = .ok (.ireturn, 1) := by decide +kernel
theorem dL_read_17 : decode cL_read 17 = .ok (.astore 4, 2) := by decide +kernel
theorem dL_read_19 : decode cL_read 19 = .ok (.iconst 2, 1) := by decide +kernel
theorem dL_read_20 : decode cL_read 20 = .ok (.ireturn, 1) := by decide +kernel
theorem dL_read_21 : decode cL_read 21 = .ok (.iconst 0, 1) := by decide +kernel
theorem dL_read_22 : decode cL_read 22 = .ok (.ireturn, 1) := by decide +kernel
theorem dL_connect_0 : decode cL_connect 0 = .ok (.aload_n 0, 1) := by decide +kernel
theorem dL_connect_1 : decode cL_connect 1 = .ok (.iload_n 1, 1) := by decide +kernel
theorem dL_connect_2 : decode cL_connect 2 = .ok (.invokevirtual 36, 3) := by decide +kernel
theorem dL_connect_5 : decode cL_connect 5 = .ok (.goto 9, 3) := by decide +kernel
theorem dL_connect_8 : decode cL_connect 8 = .ok (.astore_n 2, 1) := by decide +kernel
theorem dL_connect_9 : decode cL_connect 9 = .ok (.iconst 1, 1) := by decide +kernel
theorem dL_connect_10 : decode cL_connect 10 = .ok (.ireturn, 1) := by decide +kernel
theorem dL_connect_11 : decode cL_connect 11 = .ok (.astore_n 2, 1) := by decide +kernel
theorem dL_connect_12 : decode cL_connect 12 = .ok (.iconst 2, 1) := by decide +kernel
theorem dL_connect_13 : decode cL_connect 13 = .ok (.ireturn, 1) := by decide +kernel
theorem dL_connect_14 : decode cL_connect 14 = .ok (.iconst 0, 1) := by decide +kernel
theorem dL_connect_15 : decode cL_connect 15 = .ok (.ireturn, 1) := by decide +kernel
theorem dL_write_0 : decode cL_write 0 = .ok (.aload_n 3, 1) := by decide +kernel
theorem dL_write_1 : decode cL_write 1 = .ok (.iconst 0, 1) := by decide +kernel
theorem dL_write_2 : decode cL_write 2 = .ok (.aload_n 0, 1) := by decide +kernel
theorem dL_write_3 : decode cL_write 3 = .ok (.iload_n 1, 1) := by decide +kernel
theorem dL_write_4 : decode cL_write 4 = .ok (.iload_n 2, 1) := by decide +kernel
theorem dL_write_5 : decode cL_write 5 = .ok (.invokevirtual 42, 3) := by decide +kernel
theorem dL_write_8 : decode cL_write 8 = .ok (.i2l, 1) := by decide +kernel
theorem dL_write_9 : decode cL_write 9 = .ok (.lastore, 1) := by decide +kernel
theorem dL_write_10 : decode cL_write 10 = .ok (.goto 15, 3) := by decide +kernel
theorem dL_write_13 : decode cL_write 13 = .ok (.astore 4, 2) := by decide +kernel
theorem dL_write_15 : decode cL_write 15 = .ok (.iconst 1, 1) := by decide +kernel
theorem dL_write_16 : decode cL_write 16 = .ok (.ireturn, 1) := by decide +kernel
theorem dL_write_17 : decode cL_write 17 = .ok (.astore 4, 2) := by decide +kernel
theorem dL_write_19 : decode cL_write 19 = .ok (.iconst 2, 1) := by decide +kernel
theorem dL_write_20 : decode cL_write 20 = .ok (.ireturn, 1) := by decide +kernel
theorem dL_write_21 : decode cL_write 21 = .ok (.astore 4, 2) := by decide +kernel
theorem dL_write_23 : decode cL_write 23 = .ok (.iconst 3, 1) := by decide +kernel
theorem dL_write_24 : decode cL_write 24 = .ok (.ireturn, 1) := by decide +kernel
theorem dL_write_25 : decode cL_write 25 = .ok (.iconst 0, 1) := by decide +kernel
theorem dL_write_26 : decode cL_write 26 = .ok (.ireturn, 1) := by decide +kernel
theorem dL_setWay_0 : decode cL_setWay 0 = .ok (.aload_n 3, 1) := by decide +kernel
theorem dL_setWay_1 : decode cL_setWay 1 = .ok (.iconst 0, 1) := by decide +kernel
theorem dL_setWay_2 : decode cL_setWay 2 = .ok (.aload_n 0, 1) := by decide +kernel
theorem dL_setWay_3 : decode cL_setWay 3 = .ok (.iload_n 1, 1) := by decide +kernel
theorem dL_setWay_4 : decode cL_setWay 4 = .ok (.iload_n 2, 1) := by decide +kernel
theorem dL_setWay_5 : decode cL_setWay 5 = .ok (.invokevirtual 45, 3) := by decide +kernel
theorem dL_setWay_8 : decode cL_setWay 8 = .ok (.i2l, 1) := by decide +kernel
theorem dL_setWay_9 : decode cL_setWay 9 = .ok (.lastore, 1) := by decide +kernel
theorem dL_setWay_10 : decode cL_setWay 10 = .ok (.goto 11, 3) := by decide +kernel
theorem dL_setWay_13 : decode cL_setWay 13 = .ok (.astore 4, 2) := by decide +kernel
theorem dL_setWay_15 : decode cL_setWay 15 = .ok (.iconst 1, 1) := by decide +kernel
theorem dL_setWay_16 : decode cL_setWay 16 = .ok (.ireturn, 1) := by decide +kernel
theorem dL_setWay_17 : decode cL_setWay 17 = .ok (.astore 4, 2) := by decide +kernel
theorem dL_setWay_19 : decode cL_setWay 19 = .ok (.iconst 2, 1) := by decide +kernel
theorem dL_setWay_20 : decode cL_setWay 20 = .ok (.ireturn, 1) := by decide +kernel
theorem dL_setWay_21 : decode cL_setWay 21 = .ok (.iconst 0, 1) := by decide +kernel
theorem dL_setWay_22 : decode cL_setWay 22 = .ok (.ireturn, 1) := by decide +kernel
theorem dL_check_0 : decode cL_check 0 = .ok (.aload_n 0, 1) := by decide +kernel
theorem dL_check_1 : decode cL_check 1 = .ok (.iload_n 1, 1) := by decide +kernel
theorem dL_check_2 : decode cL_check 2 = .ok (.invokevirtual 48, 3) := by decide +kernel
theorem dL_check_5 : decode cL_check 5 = .ok (.goto 9, 3) := by decide +kernel
theorem dL_check_8 : decode cL_check 8 = .ok (.astore_n 2, 1) := by decide +kernel
theorem dL_check_9 : decode cL_check 9 = .ok (.iconst 1, 1) := by decide +kernel
theorem dL_check_10 : decode cL_check 10 = .ok (.ireturn, 1) := by decide +kernel
theorem dL_check_11 : decode cL_check 11 = .ok (.astore_n 2, 1) := by decide +kernel
theorem dL_check_12 : decode cL_check 12 = .ok (.iconst 2, 1) := by decide +kernel
theorem dL_check_13 : decode cL_check 13 = .ok (.ireturn, 1) := by decide +kernel
theorem dL_check_14 : decode cL_check 14 = .ok (.iconst 0, 1) := by decide +kernel
theorem dL_check_15 : decode cL_check 15 = .ok (.ireturn, 1) := by decide +kernel
theorem dL_use_0 : decode cL_use 0 = .ok (.aload_n 2, 1) := by decide +kernel
theorem dL_use_1 : decode cL_use 1 = .ok (.iconst 0, 1) := by decide +kernel
theorem dL_use_2 : decode cL_use 2 = .ok (.aload_n 0, 1) := by decide +kernel
theorem dL_use_3 : decode cL_use 3 = .ok (.iload_n 1, 1) := by decide +kernel
theorem dL_use_4 : decode cL_use 4 = .ok (.invokevirtual 51, 3) := by decide +kernel
theorem dL_use_7 : decode cL_use 7 = .ok (.i2l, 1) := by decide +kernel
theorem dL_use_8 : decode cL_use 8 = .ok (.lastore, 1) := by decide +kernel
theorem dL_use_9 : decode cL_use 9 = .ok (.goto 9, 3) := by decide +kernel
theorem dL_use_12 : decode cL_use 12 = .ok (.astore_n 3, 1) := by decide +kernel
theorem dL_use_13 : decode cL_use 13 = .ok (.iconst 1, 1) := by decide +kernel
theorem dL_use_14 : decode cL_use 14 = .ok (.ireturn, 1) := by decide +kernel
theorem dL_use_15 : decode cL_use 15 = .ok (.astore_n 3, 1) := by decide +kernel
theorem dL_use_16 : decode cL_use 16 = .ok (.iconst 2, 1) := by decide +kernel
theorem dL_use_17 : decode cL_use 17 = .ok (.ireturn, 1) := by decide +kernel
theorem dL_use_18 : decode cL_use 18 = .ok (.iconst 0, 1) := by decide +kernel
theorem dL_use_19 : decode cL_use 19 = .ok (.ireturn, 1) := by decide +kernel
theorem dL_changeKey_0 : decode cL_changeKey 0 = .ok (.aload_n 1, 1) := by decide +kernel
theorem dL_changeKey_1 : decode cL_changeKey 1 = .ok (.iconst 0, 1) := by decide +kernel
theorem dL_changeKey_2 : decode cL_changeKey 2 = .ok (.aload_n 0, 1) := by decide +kernel
theorem dL_changeKey_3 : decode cL_changeKey 3 = .ok (.invokevirtual 55, 3) := by decide +kernel
theorem dL_changeKey_6 : decode cL_changeKey 6 = .ok (.i2l, 1) := by decide +kernel
theorem dL_changeKey_7 : decode cL_changeKey 7 = .ok (.lastore, 1) := by decide +kernel
theorem dL_changeKey_8 : decode cL_changeKey 8 = .ok (.goto 6, 3) := by decide +kernel
theorem dL_changeKey_11 : decode cL_changeKey 11 = .ok (.astore_n 2, 1) := by decide +kernel
theorem dL_changeKey_12 : decode cL_changeKey 12 = .ok (.iconst 1, 1) := by decide +kernel
theorem dL_changeKey_13 : decode cL_changeKey 13 = .ok (.ireturn, 1) := by decide +kernel
theorem dL_changeKey_14 : decode cL_changeKey 14 = .ok (.iconst 0, 1) := by decide +kernel
theorem dL_changeKey_15 : decode cL_changeKey 15 = .ok (.ireturn, 1) := by decide +kernel
theorem dL_close_0 : decode cL_close 0 = .ok (.aload_n 0, 1) := by decide +kernel
theorem dL_close_1 : decode cL_close 1 = .ok (.invokevirtual 59, 3) := by decide +kernel
theorem dL_close_4 : decode cL_close 4 = .ok (.goto 6, 3) := by decide +kernel
theorem dL_close_7 : decode cL_close 7 = .ok (.astore_n 1, 1) := by decide +kernel
theorem dL_close_8 : decode cL_close 8 = .ok (.iconst 1, 1) := by decide +kernel
theorem dL_close_9 : decode cL_close 9 = .ok (.ireturn, 1) := by decide +kernel
theorem dL_close_10 : decode cL_close 10 = .ok (.iconst 0, 1) := by decide +kernel
theorem dL_close_11 : decode cL_close 11 = .ok (.ireturn, 1) := by decide +kernel
theorem dL_tick_0 : decode cL_tick 0 = .ok (.aload_n 2, 1) := by decide +kernel
theorem dL_tick_1 : decode cL_tick 1 = .ok (.iconst 0, 1) := by decide +kernel
theorem dL_tick_2 : decode cL_tick 2 = .ok (.aload_n 0, 1) := by decide +kernel
theorem dL_tick_3 : decode cL_tick 3 = .ok (.iload_n 1, 1) := by decide +kernel
theorem dL_tick_4 : decode cL_tick 4 = .ok (.invokevirtual 62, 3) := by decide +kernel
theorem dL_tick_7 : decode cL_tick 7 = .ok (.i2l, 1) := by decide +kernel
theorem dL_tick_8 : decode cL_tick 8 = .ok (.lastore, 1) := by decide +kernel
theorem dL_tick_9 : decode cL_tick 9 = .ok (.goto 9, 3) := by decide +kernel
theorem dL_tick_12 : decode cL_tick 12 = .ok (.astore_n 3, 1) := by decide +kernel
theorem dL_tick_13 : decode cL_tick 13 = .ok (.iconst 1, 1) := by decide +kernel
theorem dL_tick_14 : decode cL_tick 14 = .ok (.ireturn, 1) := by decide +kernel
theorem dL_tick_15 : decode cL_tick 15 = .ok (.astore_n 3, 1) := by decide +kernel
theorem dL_tick_16 : decode cL_tick 16 = .ok (.iconst 2, 1) := by decide +kernel
theorem dL_tick_17 : decode cL_tick 17 = .ok (.ireturn, 1) := by decide +kernel
theorem dL_tick_18 : decode cL_tick 18 = .ok (.iconst 0, 1) := by decide +kernel
theorem dL_tick_19 : decode cL_tick 19 = .ok (.ireturn, 1) := by decide +kernel
theorem dL_state_0 : decode cL_state 0 = .ok (.aload_n 2, 1) := by decide +kernel
theorem dL_state_1 : decode cL_state 1 = .ok (.iconst 0, 1) := by decide +kernel
theorem dL_state_2 : decode cL_state 2 = .ok (.aload_n 0, 1) := by decide +kernel
theorem dL_state_3 : decode cL_state 3 = .ok (.iload_n 1, 1) := by decide +kernel
theorem dL_state_4 : decode cL_state 4 = .ok (.invokevirtual 65, 3) := by decide +kernel
theorem dL_state_7 : decode cL_state 7 = .ok (.i2l, 1) := by decide +kernel
theorem dL_state_8 : decode cL_state 8 = .ok (.lastore, 1) := by decide +kernel
theorem dL_state_9 : decode cL_state 9 = .ok (.goto 6, 3) := by decide +kernel
theorem dL_state_12 : decode cL_state 12 = .ok (.astore_n 3, 1) := by decide +kernel
theorem dL_state_13 : decode cL_state 13 = .ok (.iconst 1, 1) := by decide +kernel
theorem dL_state_14 : decode cL_state 14 = .ok (.ireturn, 1) := by decide +kernel
theorem dL_state_15 : decode cL_state 15 = .ok (.iconst 0, 1) := by decide +kernel
theorem dL_state_16 : decode cL_state 16 = .ok (.ireturn, 1) := by decide +kernel
theorem dL_path_0 : decode cL_path 0 = .ok (.aload_n 3, 1) := by decide +kernel
theorem dL_path_1 : decode cL_path 1 = .ok (.iconst 0, 1) := by decide +kernel
theorem dL_path_2 : decode cL_path 2 = .ok (.aload_n 0, 1) := by decide +kernel
theorem dL_path_3 : decode cL_path 3 = .ok (.iload_n 1, 1) := by decide +kernel
theorem dL_path_4 : decode cL_path 4 = .ok (.iload_n 2, 1) := by decide +kernel
theorem dL_path_5 : decode cL_path 5 = .ok (.invokevirtual 68, 3) := by decide +kernel
theorem dL_path_8 : decode cL_path 8 = .ok (.i2l, 1) := by decide +kernel
theorem dL_path_9 : decode cL_path 9 = .ok (.lastore, 1) := by decide +kernel
theorem dL_path_10 : decode cL_path 10 = .ok (.goto 11, 3) := by decide +kernel
theorem dL_path_13 : decode cL_path 13 = .ok (.astore 4, 2) := by decide +kernel
theorem dL_path_15 : decode cL_path 15 = .ok (.iconst 1, 1) := by decide +kernel
theorem dL_path_16 : decode cL_path 16 = .ok (.ireturn, 1) := by decide +kernel
theorem dL_path_17 : decode cL_path 17 = .ok (.astore 4, 2) := by decide +kernel
theorem dL_path_19 : decode cL_path 19 = .ok (.iconst 2, 1) := by decide +kernel
theorem dL_path_20 : decode cL_path 20 = .ok (.ireturn, 1) := by decide +kernel
theorem dL_path_21 : decode cL_path 21 = .ok (.iconst 0, 1) := by decide +kernel
theorem dL_path_22 : decode cL_path 22 = .ok (.ireturn, 1) := by decide +kernel
theorem dL_stream_0 : decode cL_stream 0 = .ok (.aload_n 3, 1) := by decide +kernel
theorem dL_stream_1 : decode cL_stream 1 = .ok (.iconst 0, 1) := by decide +kernel
theorem dL_stream_2 : decode cL_stream 2 = .ok (.aload_n 0, 1) := by decide +kernel
theorem dL_stream_3 : decode cL_stream 3 = .ok (.iload_n 1, 1) := by decide +kernel
theorem dL_stream_4 : decode cL_stream 4 = .ok (.iload_n 2, 1) := by decide +kernel
theorem dL_stream_5 : decode cL_stream 5 = .ok (.invokevirtual 71, 3) := by decide +kernel
theorem dL_stream_8 : decode cL_stream 8 = .ok (.i2l, 1) := by decide +kernel
theorem dL_stream_9 : decode cL_stream 9 = .ok (.lastore, 1) := by decide +kernel
theorem dL_stream_10 : decode cL_stream 10 = .ok (.goto 11, 3) := by decide +kernel
theorem dL_stream_13 : decode cL_stream 13 = .ok (.astore 4, 2) := by decide +kernel
theorem dL_stream_15 : decode cL_stream 15 = .ok (.iconst 1, 1) := by decide +kernel
theorem dL_stream_16 : decode cL_stream 16 = .ok (.ireturn, 1) := by decide +kernel
theorem dL_stream_17 : decode cL_stream 17 = .ok (.astore 4, 2) := by decide +kernel
theorem dL_stream_19 : decode cL_stream 19 = .ok (.iconst 2, 1) := by decide +kernel
theorem dL_stream_20 : decode cL_stream 20 = .ok (.ireturn, 1) := by decide +kernel
theorem dL_stream_21 : decode cL_stream 21 = .ok (.iconst 0, 1) := by decide +kernel
theorem dL_stream_22 : decode cL_stream 22 = .ok (.ireturn, 1) := by decide +kernel
theorem dL_packet_0 : decode cL_packet 0 = .ok (.aload_n 3, 1) := by decide +kernel
theorem dL_packet_1 : decode cL_packet 1 = .ok (.iconst 0, 1) := by decide +kernel
theorem dL_packet_2 : decode cL_packet 2 = .ok (.aload_n 0, 1) := by decide +kernel
theorem dL_packet_3 : decode cL_packet 3 = .ok (.iload_n 1, 1) := by decide +kernel
theorem dL_packet_4 : decode cL_packet 4 = .ok (.iload_n 2, 1) := by decide +kernel
theorem dL_packet_5 : decode cL_packet 5 = .ok (.invokevirtual 74, 3) := by decide +kernel
theorem dL_packet_8 : decode cL_packet 8 = .ok (.i2l, 1) := by decide +kernel
theorem dL_packet_9 : decode cL_packet 9 = .ok (.lastore, 1) := by decide +kernel
theorem dL_packet_10 : decode cL_packet 10 = .ok (.goto 11, 3) := by decide +kernel
theorem dL_packet_13 : decode cL_packet 13 = .ok (.astore 4, 2) := by decide +kernel
theorem dL_packet_15 : decode cL_packet 15 = .ok (.iconst 1, 1) := by decide +kernel
theorem dL_packet_16 : decode cL_packet 16 = .ok (.ireturn, 1) := by decide +kernel
theorem dL_packet_17 : decode cL_packet 17 = .ok (.astore 4, 2) := by decide +kernel
theorem dL_packet_19 : decode cL_packet 19 = .ok (.iconst 2, 1) := by decide +kernel
theorem dL_packet_20 : decode cL_packet 20 = .ok (.ireturn, 1) := by decide +kernel
theorem dL_packet_21 : decode cL_packet 21 = .ok (.iconst 0, 1) := by decide +kernel
theorem dL_packet_22 : decode cL_packet 22 = .ok (.ireturn, 1) := by decide +kernel
theorem dL_count_0 : decode cL_count 0 = .ok (.aload_n 2, 1) := by decide +kernel
theorem dL_count_1 : decode cL_count 1 = .ok (.iconst 0, 1) := by decide +kernel
theorem dL_count_2 : decode cL_count 2 = .ok (.aload_n 0, 1) := by decide +kernel
theorem dL_count_3 : decode cL_count 3 = .ok (.iload_n 1, 1) := by decide +kernel
theorem dL_count_4 : decode cL_count 4 = .ok (.invokevirtual 77, 3) := by decide +kernel
theorem dL_count_7 : decode cL_count 7 = .ok (.i2l, 1) := by decide +kernel
theorem dL_count_8 : decode cL_count 8 = .ok (.lastore, 1) := by decide +kernel
theorem dL_count_9 : decode cL_count 9 = .ok (.goto 6, 3) := by decide +kernel
theorem dL_count_12 : decode cL_count 12 = .ok (.astore_n 3, 1) := by decide +kernel
theorem dL_count_13 : decode cL_count 13 = .ok (.iconst 1, 1) := by decide +kernel
theorem dL_count_14 : decode cL_count 14 = .ok (.ireturn, 1) := by decide +kernel
theorem dL_count_15 : decode cL_count 15 = .ok (.iconst 0, 1) := by decide +kernel
theorem dL_count_16 : decode cL_count 16 = .ok (.ireturn, 1) := by decide +kernel
theorem dL_inFlightAnew_0 : decode cL_inFlightAnew 0 = .ok (.aload_n 2, 1) := by decide +kernel
theorem dL_inFlightAnew_1 : decode cL_inFlightAnew 1 = .ok (.iconst 0, 1) := by decide +kernel
theorem dL_inFlightAnew_2 : decode cL_inFlightAnew 2 = .ok (.aload_n 0, 1) := by decide +kernel
theorem dL_inFlightAnew_3 : decode cL_inFlightAnew 3 = .ok (.iload_n 1, 1) := by decide +kernel
theorem dL_inFlightAnew_4 : decode cL_inFlightAnew 4 = .ok (.invokevirtual 80, 3) := by decide +kernel
theorem dL_inFlightAnew_7 : decode cL_inFlightAnew 7 = .ok (.i2l, 1) := by decide +kernel
theorem dL_inFlightAnew_8 : decode cL_inFlightAnew 8 = .ok (.lastore, 1) := by decide +kernel
theorem dL_inFlightAnew_9 : decode cL_inFlightAnew 9 = .ok (.goto 6, 3) := by decide +kernel
theorem dL_inFlightAnew_12 : decode cL_inFlightAnew 12 = .ok (.astore_n 3, 1) := by decide +kernel
theorem dL_inFlightAnew_13 : decode cL_inFlightAnew 13 = .ok (.iconst 1, 1) := by decide +kernel
theorem dL_inFlightAnew_14 : decode cL_inFlightAnew 14 = .ok (.ireturn, 1) := by decide +kernel
theorem dL_inFlightAnew_15 : decode cL_inFlightAnew 15 = .ok (.iconst 0, 1) := by decide +kernel
theorem dL_inFlightAnew_16 : decode cL_inFlightAnew 16 = .ok (.ireturn, 1) := by decide +kernel
theorem dL_gotAnew_0 : decode cL_gotAnew 0 = .ok (.aload_n 2, 1) := by decide +kernel
theorem dL_gotAnew_1 : decode cL_gotAnew 1 = .ok (.iconst 0, 1) := by decide +kernel
theorem dL_gotAnew_2 : decode cL_gotAnew 2 = .ok (.aload_n 0, 1) := by decide +kernel
theorem dL_gotAnew_3 : decode cL_gotAnew 3 = .ok (.iload_n 1, 1) := by decide +kernel
theorem dL_gotAnew_4 : decode cL_gotAnew 4 = .ok (.invokevirtual 83, 3) := by decide +kernel
theorem dL_gotAnew_7 : decode cL_gotAnew 7 = .ok (.i2l, 1) := by decide +kernel
theorem dL_gotAnew_8 : decode cL_gotAnew 8 = .ok (.lastore, 1) := by decide +kernel
theorem dL_gotAnew_9 : decode cL_gotAnew 9 = .ok (.goto 6, 3) := by decide +kernel
theorem dL_gotAnew_12 : decode cL_gotAnew 12 = .ok (.astore_n 3, 1) := by decide +kernel
theorem dL_gotAnew_13 : decode cL_gotAnew 13 = .ok (.iconst 1, 1) := by decide +kernel
theorem dL_gotAnew_14 : decode cL_gotAnew 14 = .ok (.ireturn, 1) := by decide +kernel
theorem dL_gotAnew_15 : decode cL_gotAnew 15 = .ok (.iconst 0, 1) := by decide +kernel
theorem dL_gotAnew_16 : decode cL_gotAnew 16 = .ok (.ireturn, 1) := by decide +kernel
