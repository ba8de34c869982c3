/-! decode rows: written by wip/gen/names.py -/
theorem d_Md_init_0 : decode b_Md_init 0 = .ok (.aload_n 0, 1) := by decide +kernel
theorem d_Md_init_1 : decode b_Md_init 1 = .ok (.invokespecial 1, 3) := by decide +kernel
theorem d_Md_init_4 : decode b_Md_init 4 = .ok (.aload_n 0, 1) := by decide +kernel
theorem d_Md_init_5 : decode b_Md_init 5 = .ok (.iconst 4, 1) := by decide +kernel
theorem d_Md_init_6 : decode b_Md_init 6 = .ok (.newarray .int, 2) := by decide +kernel
theorem d_Md_init_8 : decode b_Md_init 8 = .ok (.putfield 7, 3) := by decide +kernel
theorem d_Md_init_11 : decode b_Md_init 11 = .ok (.aload_n 0, 1) := by decide +kernel
theorem d_Md_init_12 : decode b_Md_init 12 = .ok (.iconst 4, 1) := by decide +kernel
theorem d_Md_init_13 : decode b_Md_init 13 = .ok (.newarray .int, 2) := by decide +kernel
theorem d_Md_init_15 : decode b_Md_init 15 = .ok (.putfield 13, 3) := by decide +kernel
theorem d_Md_init_18 : decode b_Md_init 18 = .ok (.aload_n 0, 1) := by decide +kernel
theorem d_Md_init_19 : decode b_Md_init 19 = .ok (.iconst 4, 1) := by decide +kernel
theorem d_Md_init_20 : decode b_Md_init 20 = .ok (.newarray .int, 2) := by decide +kernel
theorem d_Md_init_22 : decode b_Md_init 22 = .ok (.putfield 16, 3) := by decide +kernel
theorem d_Md_init_25 : decode b_Md_init 25 = .ok (.aload_n 0, 1) := by decide +kernel
theorem d_Md_init_26 : decode b_Md_init 26 = .ok (.iconst 4, 1) := by decide +kernel
theorem d_Md_init_27 : decode b_Md_init 27 = .ok (.newarray .int, 2) := by decide +kernel
theorem d_Md_init_29 : decode b_Md_init 29 = .ok (.putfield 19, 3) := by decide +kernel
theorem d_Md_init_32 : decode b_Md_init 32 = .ok (.aload_n 0, 1) := by decide +kernel
theorem d_Md_init_33 : decode b_Md_init 33 = .ok (.iconst 4, 1) := by decide +kernel
theorem d_Md_init_34 : decode b_Md_init 34 = .ok (.newarray .int, 2) := by decide +kernel
theorem d_Md_init_36 : decode b_Md_init 36 = .ok (.putfield 22, 3) := by decide +kernel
theorem d_Md_init_39 : decode b_Md_init 39 = .ok (.aload_n 0, 1) := by decide +kernel
theorem d_Md_init_40 : decode b_Md_init 40 = .ok (.bipush 8, 2) := by decide +kernel
theorem d_Md_init_42 : decode b_Md_init 42 = .ok (.newarray .int, 2) := by decide +kernel
theorem d_Md_init_44 : decode b_Md_init 44 = .ok (.putfield 25, 3) := by decide +kernel
theorem d_Md_init_47 : decode b_Md_init 47 = .ok (.aload_n 0, 1) := by decide +kernel
theorem d_Md_init_48 : decode b_Md_init 48 = .ok (.bipush 8, 2) := by decide +kernel
theorem d_Md_init_50 : decode b_Md_init 50 = .ok (.newarray .int, 2) := by decide +kernel
theorem d_Md_init_52 : decode b_Md_init 52 = .ok (.putfield 28, 3) := by decide +kernel
theorem d_Md_init_55 : decode b_Md_init 55 = .ok (.aload_n 0, 1) := by decide +kernel
theorem d_Md_init_56 : decode b_Md_init 56 = .ok (.bipush 8, 2) := by decide +kernel
theorem d_Md_init_58 : decode b_Md_init 58 = .ok (.newarray .int, 2) := by decide +kernel
theorem d_Md_init_60 : decode b_Md_init 60 = .ok (.putfield 31, 3) := by decide +kernel
theorem d_Md_init_63 : decode b_Md_init 63 = .ok (.aload_n 0, 1) := by decide +kernel
theorem d_Md_init_64 : decode b_Md_init 64 = .ok (.bipush 8, 2) := by decide +kernel
theorem d_Md_init_66 : decode b_Md_init 66 = .ok (.newarray .int, 2) := by decide +kernel
theorem d_Md_init_68 : decode b_Md_init 68 = .ok (.putfield 34, 3) := by decide +kernel
theorem d_Md_init_71 : decode b_Md_init 71 = .ok (.aload_n 0, 1) := by decide +kernel
theorem d_Md_init_72 : decode b_Md_init 72 = .ok (.bipush 8, 2) := by decide +kernel
theorem d_Md_init_74 : decode b_Md_init 74 = .ok (.newarray .int, 2) := by decide +kernel
theorem d_Md_init_76 : decode b_Md_init 76 = .ok (.putfield 37, 3) := by decide +kernel
theorem d_Md_init_79 : decode b_Md_init 79 = .ok (.aload_n 0, 1) := by decide +kernel
theorem d_Md_init_80 : decode b_Md_init 80 = .ok (.bipush 8, 2) := by decide +kernel
theorem d_Md_init_82 : decode b_Md_init 82 = .ok (.newarray .boolean, 2) := by decide +kernel
theorem d_Md_init_84 : decode b_Md_init 84 = .ok (.putfield 40, 3) := by decide +kernel
theorem d_Md_init_87 : decode b_Md_init 87 = .ok (.aload_n 0, 1) := by decide +kernel
theorem d_Md_init_88 : decode b_Md_init 88 = .ok (.bipush 8, 2) := by decide +kernel
theorem d_Md_init_90 : decode b_Md_init 90 = .ok (.newarray .int, 2) := by decide +kernel
theorem d_Md_init_92 : decode b_Md_init 92 = .ok (.putfield 44, 3) := by decide +kernel
theorem d_Md_init_95 : decode b_Md_init 95 = .ok (.aload_n 0, 1) := by decide +kernel
theorem d_Md_init_96 : decode b_Md_init 96 = .ok (.bipush 8, 2) := by decide +kernel
theorem d_Md_init_98 : decode b_Md_init 98 = .ok (.newarray .int, 2) := by decide +kernel
theorem d_Md_init_100 : decode b_Md_init 100 = .ok (.putfield 47, 3) := by decide +kernel
theorem d_Md_init_103 : decode b_Md_init 103 = .ok (.aload_n 0, 1) := by decide +kernel
theorem d_Md_init_104 : decode b_Md_init 104 = .ok (.bipush 8, 2) := by decide +kernel
theorem d_Md_init_106 : decode b_Md_init 106 = .ok (.newarray .int, 2) := by decide +kernel
theorem d_Md_init_108 : decode b_Md_init 108 = .ok (.putfield 50, 3) := by decide +kernel
theorem d_Md_init_111 : decode b_Md_init 111 = .ok (.aload_n 0, 1) := by decide +kernel
theorem d_Md_init_112 : decode b_Md_init 112 = .ok (.bipush 8, 2) := by decide +kernel
theorem d_Md_init_114 : decode b_Md_init 114 = .ok (.newarray .int, 2) := by decide +kernel
theorem d_Md_init_116 : decode b_Md_init 116 = .ok (.putfield 53, 3) := by decide +kernel
theorem d_Md_init_119 : decode b_Md_init 119 = .ok (.aload_n 0, 1) := by decide +kernel
theorem d_Md_init_120 : decode b_Md_init 120 = .ok (.bipush 8, 2) := by decide +kernel
theorem d_Md_init_122 : decode b_Md_init 122 = .ok (.newarray .int, 2) := by decide +kernel
theorem d_Md_init_124 : decode b_Md_init 124 = .ok (.putfield 56, 3) := by decide +kernel
theorem d_Md_init_127 : decode b_Md_init 127 = .ok (.aload_n 0, 1) := by decide +kernel
theorem d_Md_init_128 : decode b_Md_init 128 = .ok (.bipush 8, 2) := by decide +kernel
theorem d_Md_init_130 : decode b_Md_init 130 = .ok (.newarray .int, 2) := by decide +kernel
theorem d_Md_init_132 : decode b_Md_init 132 = .ok (.putfield 59, 3) := by decide +kernel
theorem d_Md_init_135 : decode b_Md_init 135 = .ok (.aload_n 0, 1) := by decide +kernel
theorem d_Md_init_136 : decode b_Md_init 136 = .ok (.bipush 8, 2) := by decide +kernel
theorem d_Md_init_138 : decode b_Md_init 138 = .ok (.newarray .boolean, 2) := by decide +kernel
theorem d_Md_init_140 : decode b_Md_init 140 = .ok (.putfield 62, 3) := by decide +kernel
theorem d_Md_init_143 : decode b_Md_init 143 = .ok (.aload_n 0, 1) := by decide +kernel
theorem d_Md_init_144 : decode b_Md_init 144 = .ok (.sipush 256, 3) := by decide +kernel
theorem d_Md_init_147 : decode b_Md_init 147 = .ok (.newarray .int, 2) := by decide +kernel
theorem d_Md_init_149 : decode b_Md_init 149 = .ok (.putfield 65, 3) := by decide +kernel
theorem d_Md_init_152 : decode b_Md_init 152 = .ok (.aload_n 0, 1) := by decide +kernel
theorem d_Md_init_153 : decode b_Md_init 153 = .ok (.bipush 8, 2) := by decide +kernel
theorem d_Md_init_155 : decode b_Md_init 155 = .ok (.newarray .int, 2) := by decide +kernel
theorem d_Md_init_157 : decode b_Md_init 157 = .ok (.putfield 68, 3) := by decide +kernel
theorem d_Md_init_160 : decode b_Md_init 160 = .ok (.aload_n 0, 1) := by decide +kernel
theorem d_Md_init_161 : decode b_Md_init 161 = .ok (.bipush 8, 2) := by decide +kernel
theorem d_Md_init_163 : decode b_Md_init 163 = .ok (.newarray .int, 2) := by decide +kernel
theorem d_Md_init_165 : decode b_Md_init 165 = .ok (.putfield 71, 3) := by decide +kernel
theorem d_Md_init_168 : decode b_Md_init 168 = .ok (.aload_n 0, 1) := by decide +kernel
theorem d_Md_init_169 : decode b_Md_init 169 = .ok (.bipush 8, 2) := by decide +kernel
theorem d_Md_init_171 : decode b_Md_init 171 = .ok (.newarray .int, 2) := by decide +kernel
theorem d_Md_init_173 : decode b_Md_init 173 = .ok (.putfield 74, 3) := by decide +kernel
theorem d_Md_init_176 : decode b_Md_init 176 = .ok (.aload_n 0, 1) := by decide +kernel
theorem d_Md_init_177 : decode b_Md_init 177 = .ok (.iconst 4, 1) := by decide +kernel
theorem d_Md_init_178 : decode b_Md_init 178 = .ok (.newarray .int, 2) := by decide +kernel
theorem d_Md_init_180 : decode b_Md_init 180 = .ok (.putfield 77, 3) := by decide +kernel
theorem d_Md_init_183 : decode b_Md_init 183 = .ok (.aload_n 0, 1) := by decide +kernel
theorem d_Md_init_184 : decode b_Md_init 184 = .ok (.bipush 24, 2) := by decide +kernel
theorem d_Md_init_186 : decode b_Md_init 186 = .ok (.newarray .int, 2) := by decide +kernel
theorem d_Md_init_188 : decode b_Md_init 188 = .ok (.putfield 80, 3) := by decide +kernel
theorem d_Md_init_191 : decode b_Md_init 191 = .ok (.aload_n 0, 1) := by decide +kernel
theorem d_Md_init_192 : decode b_Md_init 192 = .ok (.bipush 24, 2) := by decide +kernel
theorem d_Md_init_194 : decode b_Md_init 194 = .ok (.newarray .int, 2) := by decide +kernel
theorem d_Md_init_196 : decode b_Md_init 196 = .ok (.putfield 83, 3) := by decide +kernel
theorem d_Md_init_199 : decode b_Md_init 199 = .ok (.aload_n 0, 1) := by decide +kernel
theorem d_Md_init_200 : decode b_Md_init 200 = .ok (.bipush 24, 2) := by decide +kernel
theorem d_Md_init_202 : decode b_Md_init 202 = .ok (.newarray .int, 2) := by decide +kernel
theorem d_Md_init_204 : decode b_Md_init 204 = .ok (.putfield 86, 3) := by decide +kernel
theorem d_Md_init_207 : decode b_Md_init 207 = .ok (.aload_n 0, 1) := by decide +kernel
theorem d_Md_init_208 : decode b_Md_init 208 = .ok (.iload_n 1, 1) := by decide +kernel
theorem d_Md_init_209 : decode b_Md_init 209 = .ok (.ifCond .ge 7, 3) := by decide +kernel
theorem d_Md_init_212 : decode b_Md_init 212 = .ok (.iconst 0, 1) := by decide +kernel
theorem d_Md_init_213 : decode b_Md_init 213 = .ok (.goto 15, 3) := by decide +kernel
theorem d_Md_init_216 : decode b_Md_init 216 = .ok (.iload_n 1, 1) := by decide +kernel
theorem d_Md_init_217 : decode b_Md_init 217 = .ok (.bipush 10, 2) := by decide +kernel
theorem d_Md_init_219 : decode b_Md_init 219 = .ok (.if_icmp .le 8, 3) := by decide +kernel
theorem d_Md_init_222 : decode b_Md_init 222 = .ok (.bipush 10, 2) := by decide +kernel
theorem d_Md_init_224 : decode b_Md_init 224 = .ok (.goto 4, 3) := by decide +kernel
theorem d_Md_init_227 : decode b_Md_init 227 = .ok (.iload_n 1, 1) := by decide +kernel
theorem d_Md_init_228 : decode b_Md_init 228 = .ok (.putfield 89, 3) := by decide +kernel
theorem d_Md_init_231 : decode b_Md_init 231 = .ok (.return_, 1) := by decide +kernel
theorem d_Md_thrown_0 : decode b_Md_thrown 0 = .ok (.aload_n 0, 1) := by decide +kernel
theorem d_Md_thrown_1 : decode b_Md_thrown 1 = .ok (.getfield 93, 3) := by decide +kernel
theorem d_Md_thrown_4 : decode b_Md_thrown 4 = .ok (.ireturn, 1) := by decide +kernel
theorem d_Md_in_0 : decode b_Md_in 0 = .ok (.iload_n 0, 1) := by decide +kernel
theorem d_Md_in_1 : decode b_Md_in 1 = .ok (.iload_n 1, 1) := by decide +kernel
theorem d_Md_in_2 : decode b_Md_in 2 = .ok (.if_icmp .lt 12, 3) := by decide +kernel
theorem d_Md_in_5 : decode b_Md_in 5 = .ok (.iload_n 0, 1) := by decide +kernel
theorem d_Md_in_6 : decode b_Md_in 6 = .ok (.iload_n 2, 1) := by decide +kernel
theorem d_Md_in_7 : decode b_Md_in 7 = .ok (.if_icmp .gt 7, 3) := by decide +kernel
theorem d_Md_in_10 : decode b_Md_in 10 = .ok (.iconst 1, 1) := by decide +kernel
theorem d_Md_in_11 : decode b_Md_in 11 = .ok (.goto 4, 3) := by decide +kernel
theorem d_Md_in_14 : decode b_Md_in 14 = .ok (.iconst 0, 1) := by decide +kernel
theorem d_Md_in_15 : decode b_Md_in 15 = .ok (.ireturn, 1) := by decide +kernel
theorem d_Md_isSide_0 : decode b_Md_isSide 0 = .ok (.iload_n 0, 1) := by decide +kernel
theorem d_Md_isSide_1 : decode b_Md_isSide 1 = .ok (.iconst 1, 1) := by decide +kernel
theorem d_Md_isSide_2 : decode b_Md_isSide 2 = .ok (.bipush 100, 2) := by decide +kernel
theorem d_Md_isSide_4 : decode b_Md_isSide 4 = .ok (.invokestatic 96, 3) := by decide +kernel
theorem d_Md_isSide_7 : decode b_Md_isSide 7 = .ok (.ireturn, 1) := by decide +kernel
theorem d_Md_carton_0 : decode b_Md_carton 0 = .ok (.iload_n 1, 1) := by decide +kernel
theorem d_Md_carton_1 : decode b_Md_carton 1 = .ok (.invokestatic 100, 3) := by decide +kernel
theorem d_Md_carton_4 : decode b_Md_carton 4 = .ok (.ifCond .eq 43, 3) := by decide +kernel
theorem d_Md_carton_7 : decode b_Md_carton 7 = .ok (.iload_n 2, 1) := by decide +kernel
theorem d_Md_carton_8 : decode b_Md_carton 8 = .ok (.invokestatic 100, 3) := by decide +kernel
theorem d_Md_carton_11 : decode b_Md_carton 11 = .ok (.ifCond .eq 36, 3) := by decide +kernel
theorem d_Md_carton_14 : decode b_Md_carton 14 = .ok (.iload_n 3, 1) := by decide +kernel
theorem d_Md_carton_15 : decode b_Md_carton 15 = .ok (.invokestatic 100, 3) := by decide +kernel
theorem d_Md_carton_18 : decode b_Md_carton 18 = .ok (.ifCond .eq 29, 3) := by decide +kernel
theorem d_Md_carton_21 : decode b_Md_carton 21 = .ok (.iload 4, 2) := by decide +kernel
theorem d_Md_carton_23 : decode b_Md_carton 23 = .ok (.iconst 1, 1) := by decide +kernel
theorem d_Md_carton_24 : decode b_Md_carton 24 = .ok (.ldc 104, 2) := by decide +kernel
theorem d_Md_carton_26 : decode b_Md_carton 26 = .ok (.invokestatic 96, 3) := by decide +kernel
theorem d_Md_carton_29 : decode b_Md_carton 29 = .ok (.ifCond .eq 18, 3) := by decide +kernel
theorem d_Md_carton_32 : decode b_Md_carton 32 = .ok (.iload 5, 2) := by decide +kernel
theorem d_Md_carton_34 : decode b_Md_carton 34 = .ok (.iconst 1, 1) := by decide +kernel
theorem d_Md_carton_35 : decode b_Md_carton 35 = .ok (.ldc 104, 2) := by decide +kernel
theorem d_Md_carton_37 : decode b_Md_carton 37 = .ok (.invokestatic 96, 3) := by decide +kernel
theorem d_Md_carton_40 : decode b_Md_carton 40 = .ok (.ifCond .eq 7, 3) := by decide +kernel
theorem d_Md_carton_43 : decode b_Md_carton 43 = .ok (.iconst 1, 1) := by decide +kernel
theorem d_Md_carton_44 : decode b_Md_carton 44 = .ok (.goto 4, 3) := by decide +kernel
theorem d_Md_carton_47 : decode b_Md_carton 47 = .ok (.iconst 0, 1) := by decide +kernel
theorem d_Md_carton_48 : decode b_Md_carton 48 = .ok (.istore 6, 2) := by decide +kernel
theorem d_Md_carton_50 : decode b_Md_carton 50 = .ok (.aload_n 0, 1) := by decide +kernel
theorem d_Md_carton_51 : decode b_Md_carton 51 = .ok (.iload 6, 2) := by decide +kernel
theorem d_Md_carton_53 : decode b_Md_carton 53 = .ok (.ifCond .ne 7, 3) := by decide +kernel
theorem d_Md_carton_56 : decode b_Md_carton 56 = .ok (.iconst 1, 1) := by decide +kernel
theorem d_Md_carton_57 : decode b_Md_carton 57 = .ok (.goto 16, 3) := by decide +kernel
theorem d_Md_carton_60 : decode b_Md_carton 60 = .ok (.aload_n 0, 1) := by decide +kernel
theorem d_Md_carton_61 : decode b_Md_carton 61 = .ok (.getfield 105, 3) := by decide +kernel
theorem d_Md_carton_64 : decode b_Md_carton 64 = .ok (.iconst 4, 1) := by decide +kernel
theorem d_Md_carton_65 : decode b_Md_carton 65 = .ok (.if_icmp .ne 7, 3) := by decide +kernel
theorem d_Md_carton_68 : decode b_Md_carton 68 = .ok (.iconst 2, 1) := by decide +kernel
theorem d_Md_carton_69 : decode b_Md_carton 69 = .ok (.goto 4, 3) := by decide +kernel
theorem d_Md_carton_72 : decode b_Md_carton 72 = .ok (.iconst 0, 1) := by decide +kernel
theorem d_Md_carton_73 : decode b_Md_carton 73 = .ok (.putfield 93, 3) := by decide +kernel
theorem d_Md_carton_76 : decode b_Md_carton 76 = .ok (.aload_n 0, 1) := by decide +kernel
theorem d_Md_carton_77 : decode b_Md_carton 77 = .ok (.getfield 93, 3) := by decide +kernel
theorem d_Md_carton_80 : decode b_Md_carton 80 = .ok (.ifCond .le 5, 3) := by decide +kernel
theorem d_Md_carton_83 : decode b_Md_carton 83 = .ok (.iconst 0, 1) := by decide +kernel
theorem d_Md_carton_84 : decode b_Md_carton 84 = .ok (.ireturn, 1) := by decide +kernel
theorem d_Md_carton_85 : decode b_Md_carton 85 = .ok (.aload_n 0, 1) := by decide +kernel
theorem d_Md_carton_86 : decode b_Md_carton 86 = .ok (.getfield 7, 3) := by decide +kernel
theorem d_Md_carton_89 : decode b_Md_carton 89 = .ok (.aload_n 0, 1) := by decide +kernel
theorem d_Md_carton_90 : decode b_Md_carton 90 = .ok (.getfield 105, 3) := by decide +kernel
theorem d_Md_carton_93 : decode b_Md_carton 93 = .ok (.iload_n 1, 1) := by decide +kernel
theorem d_Md_carton_94 : decode b_Md_carton 94 = .ok (.iastore, 1) := by decide +kernel
theorem d_Md_carton_95 : decode b_Md_carton 95 = .ok (.aload_n 0, 1) := by decide +kernel
theorem d_Md_carton_96 : decode b_Md_carton 96 = .ok (.getfield 13, 3) := by decide +kernel
theorem d_Md_carton_99 : decode b_Md_carton 99 = .ok (.aload_n 0, 1) := by decide +kernel
theorem d_Md_carton_100 : decode b_Md_carton 100 = .ok (.getfield 105, 3) := by decide +kernel
theorem d_Md_carton_103 : decode b_Md_carton 103 = .ok (.iload_n 2, 1) := by decide +kernel
theorem d_Md_carton_104 : decode b_Md_carton 104 = .ok (.iastore, 1) := by decide +kernel
theorem d_Md_carton_105 : decode b_Md_carton 105 = .ok (.aload_n 0, 1) := by decide +kernel
theorem d_Md_carton_106 : decode b_Md_carton 106 = .ok (.getfield 16, 3) := by decide +kernel
theorem d_Md_carton_109 : decode b_Md_carton 109 = .ok (.aload_n 0, 1) := by decide +kernel
theorem d_Md_carton_110 : decode b_Md_carton 110 = .ok (.getfield 105, 3) := by decide +kernel
theorem d_Md_carton_113 : decode b_Md_carton 113 = .ok (.iload_n 3, 1) := by decide +kernel
theorem d_Md_carton_114 : decode b_Md_carton 114 = .ok (.iastore, 1) := by decide +kernel
theorem d_Md_carton_115 : decode b_Md_carton 115 = .ok (.aload_n 0, 1) := by decide +kernel
theorem d_Md_carton_116 : decode b_Md_carton 116 = .ok (.getfield 19, 3) := by decide +kernel
theorem d_Md_carton_119 : decode b_Md_carton 119 = .ok (.aload_n 0, 1) := by decide +kernel
theorem d_Md_carton_120 : decode b_Md_carton 120 = .ok (.getfield 105, 3) := by decide +kernel
theorem d_Md_carton_123 : decode b_Md_carton 123 = .ok (.iload 4, 2) := by decide +kernel
theorem d_Md_carton_125 : decode b_Md_carton 125 = .ok (.iastore, 1) := by decide +kernel
theorem d_Md_carton_126 : decode b_Md_carton 126 = .ok (.aload_n 0, 1) := by decide +kernel
theorem d_Md_carton_127 : decode b_Md_carton 127 = .ok (.getfield 22, 3) := by decide +kernel
theorem d_Md_carton_130 : decode b_Md_carton 130 = .ok (.aload_n 0, 1) := by decide +kernel
theorem d_Md_carton_131 : decode b_Md_carton 131 = .ok (.getfield 105, 3) := by decide +kernel
theorem d_Md_carton_134 : decode b_Md_carton 134 = .ok (.iload 5, 2) := by decide +kernel
theorem d_Md_carton_136 : decode b_Md_carton 136 = .ok (.iastore, 1) := by decide +kernel
theorem d_Md_carton_137 : decode b_Md_carton 137 = .ok (.aload_n 0, 1) := by decide +kernel
theorem d_Md_carton_138 : decode b_Md_carton 138 = .ok (.dup, 1) := by decide +kernel
theorem d_Md_carton_139 : decode b_Md_carton 139 = .ok (.getfield 105, 3) := by decide +kernel
theorem d_Md_carton_142 : decode b_Md_carton 142 = .ok (.iconst 1, 1) := by decide +kernel
theorem d_Md_carton_143 : decode b_Md_carton 143 = .ok (.iadd, 1) := by decide +kernel
theorem d_Md_carton_144 : decode b_Md_carton 144 = .ok (.putfield 105, 3) := by decide +kernel
theorem d_Md_carton_147 : decode b_Md_carton 147 = .ok (.aload_n 0, 1) := by decide +kernel
theorem d_Md_carton_148 : decode b_Md_carton 148 = .ok (.iconst 0, 1) := by decide +kernel
theorem d_Md_carton_149 : decode b_Md_carton 149 = .ok (.putfield 108, 3) := by decide +kernel
theorem d_Md_carton_152 : decode b_Md_carton 152 = .ok (.aload_n 0, 1) := by decide +kernel
theorem d_Md_carton_153 : decode b_Md_carton 153 = .ok (.getfield 105, 3) := by decide +kernel
theorem d_Md_carton_156 : decode b_Md_carton 156 = .ok (.iconst 1, 1) := by decide +kernel
theorem d_Md_carton_157 : decode b_Md_carton 157 = .ok (.isub, 1) := by decide +kernel
theorem d_Md_carton_158 : decode b_Md_carton 158 = .ok (.ireturn, 1) := by decide +kernel
theorem d_Md_part_0 : decode b_Md_part 0 = .ok (.iload_n 1, 1) := by decide +kernel
theorem d_Md_part_1 : decode b_Md_part 1 = .ok (.invokestatic 100, 3) := by decide +kernel
theorem d_Md_part_4 : decode b_Md_part 4 = .ok (.ifCond .eq 43, 3) := by decide +kernel
theorem d_Md_part_7 : decode b_Md_part 7 = .ok (.iload_n 2, 1) := by decide +kernel
theorem d_Md_part_8 : decode b_Md_part 8 = .ok (.invokestatic 100, 3) := by decide +kernel
theorem d_Md_part_11 : decode b_Md_part 11 = .ok (.ifCond .eq 36, 3) := by decide +kernel
theorem d_Md_part_14 : decode b_Md_part 14 = .ok (.iload_n 3, 1) := by decide +kernel
theorem d_Md_part_15 : decode b_Md_part 15 = .ok (.invokestatic 100, 3) := by decide +kernel
theorem d_Md_part_18 : decode b_Md_part 18 = .ok (.ifCond .eq 29, 3) := by decide +kernel
theorem d_Md_part_21 : decode b_Md_part 21 = .ok (.iload 4, 2) := by decide +kernel
theorem d_Md_part_23 : decode b_Md_part 23 = .ok (.iconst 1, 1) := by decide +kernel
theorem d_Md_part_24 : decode b_Md_part 24 = .ok (.ldc 112, 2) := by decide +kernel
theorem d_Md_part_26 : decode b_Md_part 26 = .ok (.invokestatic 96, 3) := by decide +kernel
theorem d_Md_part_29 : decode b_Md_part 29 = .ok (.ifCond .eq 18, 3) := by decide +kernel
theorem d_Md_part_32 : decode b_Md_part 32 = .ok (.iload 5, 2) := by decide +kernel
theorem d_Md_part_34 : decode b_Md_part 34 = .ok (.iconst 0, 1) := by decide +kernel
theorem d_Md_part_35 : decode b_Md_part 35 = .ok (.bipush 50, 2) := by decide +kernel
theorem d_Md_part_37 : decode b_Md_part 37 = .ok (.invokestatic 96, 3) := by decide +kernel
theorem d_Md_part_40 : decode b_Md_part 40 = .ok (.ifCond .eq 7, 3) := by decide +kernel
theorem d_Md_part_43 : decode b_Md_part 43 = .ok (.iconst 1, 1) := by decide +kernel
theorem d_Md_part_44 : decode b_Md_part 44 = .ok (.goto 4, 3) := by decide +kernel
theorem d_Md_part_47 : decode b_Md_part 47 = .ok (.iconst 0, 1) := by decide +kernel
theorem d_Md_part_48 : decode b_Md_part 48 = .ok (.istore 6, 2) := by decide +kernel
theorem d_Md_part_50 : decode b_Md_part 50 = .ok (.aload_n 0, 1) := by decide +kernel
theorem d_Md_part_51 : decode b_Md_part 51 = .ok (.iload 6, 2) := by decide +kernel
theorem d_Md_part_53 : decode b_Md_part 53 = .ok (.ifCond .ne 7, 3) := by decide +kernel
theorem d_Md_part_56 : decode b_Md_part 56 = .ok (.iconst 1, 1) := by decide +kernel
theorem d_Md_part_57 : decode b_Md_part 57 = .ok (.goto 17, 3) := by decide +kernel
theorem d_Md_part_60 : decode b_Md_part 60 = .ok (.aload_n 0, 1) := by decide +kernel
theorem d_Md_part_61 : decode b_Md_part 61 = .ok (.getfield 113, 3) := by decide +kernel
theorem d_Md_part_64 : decode b_Md_part 64 = .ok (.bipush 8, 2) := by decide +kernel
theorem d_Md_part_66 : decode b_Md_part 66 = .ok (.if_icmp .ne 7, 3) := by decide +kernel
theorem d_Md_part_69 : decode b_Md_part 69 = .ok (.iconst 2, 1) := by decide +kernel
theorem d_Md_part_70 : decode b_Md_part 70 = .ok (.goto 4, 3) := by decide +kernel
theorem d_Md_part_73 : decode b_Md_part 73 = .ok (.iconst 0, 1) := by decide +kernel
theorem d_Md_part_74 : decode b_Md_part 74 = .ok (.putfield 93, 3) := by decide +kernel
theorem d_Md_part_77 : decode b_Md_part 77 = .ok (.aload_n 0, 1) := by decide +kernel
theorem d_Md_part_78 : decode b_Md_part 78 = .ok (.getfield 93, 3) := by decide +kernel
theorem d_Md_part_81 : decode b_Md_part 81 = .ok (.ifCond .le 5, 3) := by decide +kernel
theorem d_Md_part_84 : decode b_Md_part 84 = .ok (.iconst 0, 1) := by decide +kernel
theorem d_Md_part_85 : decode b_Md_part 85 = .ok (.ireturn, 1) := by decide +kernel
theorem d_Md_part_86 : decode b_Md_part 86 = .ok (.aload_n 0, 1) := by decide +kernel
theorem d_Md_part_87 : decode b_Md_part 87 = .ok (.getfield 25, 3) := by decide +kernel
theorem d_Md_part_90 : decode b_Md_part 90 = .ok (.aload_n 0, 1) := by decide +kernel
theorem d_Md_part_91 : decode b_Md_part 91 = .ok (.getfield 113, 3) := by decide +kernel
theorem d_Md_part_94 : decode b_Md_part 94 = .ok (.iload_n 1, 1) := by decide +kernel
theorem d_Md_part_95 : decode b_Md_part 95 = .ok (.iastore, 1) := by decide +kernel
theorem d_Md_part_96 : decode b_Md_part 96 = .ok (.aload_n 0, 1) := by decide +kernel
theorem d_Md_part_97 : decode b_Md_part 97 = .ok (.getfield 28, 3) := by decide +kernel
theorem d_Md_part_100 : decode b_Md_part 100 = .ok (.aload_n 0, 1) := by decide +kernel
theorem d_Md_part_101 : decode b_Md_part 101 = .ok (.getfield 113, 3) := by decide +kernel
theorem d_Md_part_104 : decode b_Md_part 104 = .ok (.iload_n 2, 1) := by decide +kernel
theorem d_Md_part_105 : decode b_Md_part 105 = .ok (.iastore, 1) := by decide +kernel
theorem d_Md_part_106 : decode b_Md_part 106 = .ok (.aload_n 0, 1) := by decide +kernel
theorem d_Md_part_107 : decode b_Md_part 107 = .ok (.getfield 31, 3) := by decide +kernel
theorem d_Md_part_110 : decode b_Md_part 110 = .ok (.aload_n 0, 1) := by decide +kernel
theorem d_Md_part_111 : decode b_Md_part 111 = .ok (.getfield 113, 3) := by decide +kernel
theorem d_Md_part_114 : decode b_Md_part 114 = .ok (.iload_n 3, 1) := by decide +kernel
theorem d_Md_part_115 : decode b_Md_part 115 = .ok (.iastore, 1) := by decide +kernel
theorem d_Md_part_116 : decode b_Md_part 116 = .ok (.aload_n 0, 1) := by decide +kernel
theorem d_Md_part_117 : decode b_Md_part 117 = .ok (.getfield 34, 3) := by decide +kernel
theorem d_Md_part_120 : decode b_Md_part 120 = .ok (.aload_n 0, 1) := by decide +kernel
theorem d_Md_part_121 : decode b_Md_part 121 = .ok (.getfield 113, 3) := by decide +kernel
theorem d_Md_part_124 : decode b_Md_part 124 = .ok (.iload 4, 2) := by decide +kernel
theorem d_Md_part_126 : decode b_Md_part 126 = .ok (.iastore, 1) := by decide +kernel
theorem d_Md_part_127 : decode b_Md_part 127 = .ok (.aload_n 0, 1) := by decide +kernel
theorem d_Md_part_128 : decode b_Md_part 128 = .ok (.getfield 37, 3) := by decide +kernel
theorem d_Md_part_131 : decode b_Md_part 131 = .ok (.aload_n 0, 1) := by decide +kernel
theorem d_Md_part_132 : decode b_Md_part 132 = .ok (.getfield 113, 3) := by decide +kernel
theorem d_Md_part_135 : decode b_Md_part 135 = .ok (.iload 5, 2) := by decide +kernel
theorem d_Md_part_137 : decode b_Md_part 137 = .ok (.iastore, 1) := by decide +kernel
theorem d_Md_part_138 : decode b_Md_part 138 = .ok (.aload_n 0, 1) := by decide +kernel
theorem d_Md_part_139 : decode b_Md_part 139 = .ok (.getfield 40, 3) := by decide +kernel
theorem d_Md_part_142 : decode b_Md_part 142 = .ok (.aload_n 0, 1) := by decide +kernel
theorem d_Md_part_143 : decode b_Md_part 143 = .ok (.getfield 113, 3) := by decide +kernel
theorem d_Md_part_146 : decode b_Md_part 146 = .ok (.iconst 0, 1) := by decide +kernel
theorem d_Md_part_147 : decode b_Md_part 147 = .ok (.bastore, 1) := by decide +kernel
theorem d_Md_part_148 : decode b_Md_part 148 = .ok (.aload_n 0, 1) := by decide +kernel
theorem d_Md_part_149 : decode b_Md_part 149 = .ok (.dup, 1) := by decide +kernel
theorem d_Md_part_150 : decode b_Md_part 150 = .ok (.getfield 113, 3) := by decide +kernel
theorem d_Md_part_153 : decode b_Md_part 153 = .ok (.iconst 1, 1) := by decide +kernel
theorem d_Md_part_154 : decode b_Md_part 154 = .ok (.iadd, 1) := by decide +kernel
theorem d_Md_part_155 : decode b_Md_part 155 = .ok (.putfield 113, 3) := by decide +kernel
theorem d_Md_part_158 : decode b_Md_part 158 = .ok (.aload_n 0, 1) := by decide +kernel
theorem d_Md_part_159 : decode b_Md_part 159 = .ok (.iconst 0, 1) := by decide +kernel
theorem d_Md_part_160 : decode b_Md_part 160 = .ok (.putfield 108, 3) := by decide +kernel
theorem d_Md_part_163 : decode b_Md_part 163 = .ok (.aload_n 0, 1) := by decide +kernel
theorem d_Md_part_164 : decode b_Md_part 164 = .ok (.getfield 113, 3) := by decide +kernel
theorem d_Md_part_167 : decode b_Md_part 167 = .ok (.iconst 1, 1) := by decide +kernel
theorem d_Md_part_168 : decode b_Md_part 168 = .ok (.isub, 1) := by decide +kernel
theorem d_Md_part_169 : decode b_Md_part 169 = .ok (.ireturn, 1) := by decide +kernel
theorem d_Md_fragile_0 : decode b_Md_fragile 0 = .ok (.aload_n 0, 1) := by decide +kernel
theorem d_Md_fragile_1 : decode b_Md_fragile 1 = .ok (.iload_n 1, 1) := by decide +kernel
theorem d_Md_fragile_2 : decode b_Md_fragile 2 = .ok (.iconst 0, 1) := by decide +kernel
theorem d_Md_fragile_3 : decode b_Md_fragile 3 = .ok (.aload_n 0, 1) := by decide +kernel
theorem d_Md_fragile_4 : decode b_Md_fragile 4 = .ok (.getfield 113, 3) := by decide +kernel
theorem d_Md_fragile_7 : decode b_Md_fragile 7 = .ok (.iconst 1, 1) := by decide +kernel
theorem d_Md_fragile_8 : decode b_Md_fragile 8 = .ok (.isub, 1) := by decide +kernel
theorem d_Md_fragile_9 : decode b_Md_fragile 9 = .ok (.invokestatic 96, 3) := by decide +kernel
theorem d_Md_fragile_12 : decode b_Md_fragile 12 = .ok (.ifCond .eq 7, 3) := by decide +kernel
theorem d_Md_fragile_15 : decode b_Md_fragile 15 = .ok (.iconst 0, 1) := by decide +kernel
theorem d_Md_fragile_16 : decode b_Md_fragile 16 = .ok (.goto 4, 3) := by decide +kernel
theorem d_Md_fragile_19 : decode b_Md_fragile 19 = .ok (.iconst 1, 1) := by decide +kernel
theorem d_Md_fragile_20 : decode b_Md_fragile 20 = .ok (.putfield 93, 3) := by decide +kernel
theorem d_Md_fragile_23 : decode b_Md_fragile 23 = .ok (.aload_n 0, 1) := by decide +kernel
theorem d_Md_fragile_24 : decode b_Md_fragile 24 = .ok (.getfield 93, 3) := by decide +kernel
theorem d_Md_fragile_27 : decode b_Md_fragile 27 = .ok (.ifCond .le 5, 3) := by decide +kernel
theorem d_Md_fragile_30 : decode b_Md_fragile 30 = .ok (.iconst 0, 1) := by decide +kernel
theorem d_Md_fragile_31 : decode b_Md_fragile 31 = .ok (.ireturn, 1) := by decide +kernel
theorem d_Md_fragile_32 : decode b_Md_fragile 32 = .ok (.aload_n 0, 1) := by decide +kernel
theorem d_Md_fragile_33 : decode b_Md_fragile 33 = .ok (.getfield 40, 3) := by decide +kernel
theorem d_Md_fragile_36 : decode b_Md_fragile 36 = .ok (.iload_n 1, 1) := by decide +kernel
theorem d_Md_fragile_37 : decode b_Md_fragile 37 = .ok (.baload, 1) := by decide +kernel
theorem d_Md_fragile_38 : decode b_Md_fragile 38 = .ok (.iload_n 2, 1) := by decide +kernel
theorem d_Md_fragile_39 : decode b_Md_fragile 39 = .ok (.if_icmp .eq 7, 3) := by decide +kernel
theorem d_Md_fragile_42 : decode b_Md_fragile 42 = .ok (.iconst 1, 1) := by decide +kernel
theorem d_Md_fragile_43 : decode b_Md_fragile 43 = .ok (.goto 4, 3) := by decide +kernel
theorem d_Md_fragile_46 : decode b_Md_fragile 46 = .ok (.iconst 0, 1) := by decide +kernel
theorem d_Md_fragile_47 : decode b_Md_fragile 47 = .ok (.istore_n 3, 1) := by decide +kernel
theorem d_Md_fragile_48 : decode b_Md_fragile 48 = .ok (.aload_n 0, 1) := by decide +kernel
theorem d_Md_fragile_49 : decode b_Md_fragile 49 = .ok (.getfield 40, 3) := by decide +kernel
theorem d_Md_fragile_52 : decode b_Md_fragile 52 = .ok (.iload_n 1, 1) := by decide +kernel
theorem d_Md_fragile_53 : decode b_Md_fragile 53 = .ok (.iload_n 2, 1) := by decide +kernel
theorem d_Md_fragile_54 : decode b_Md_fragile 54 = .ok (.bastore, 1) := by decide +kernel
theorem d_Md_fragile_55 : decode b_Md_fragile 55 = .ok (.aload_n 0, 1) := by decide +kernel
theorem d_Md_fragile_56 : decode b_Md_fragile 56 = .ok (.aload_n 0, 1) := by decide +kernel
theorem d_Md_fragile_57 : decode b_Md_fragile 57 = .ok (.getfield 108, 3) := by decide +kernel
theorem d_Md_fragile_60 : decode b_Md_fragile 60 = .ok (.ifCond .eq 11, 3) := by decide +kernel
theorem d_Md_fragile_63 : decode b_Md_fragile 63 = .ok (.iload_n 3, 1) := by decide +kernel
theorem d_Md_fragile_64 : decode b_Md_fragile 64 = .ok (.ifCond .ne 7, 3) := by decide +kernel
theorem d_Md_fragile_67 : decode b_Md_fragile 67 = .ok (.iconst 1, 1) := by decide +kernel
theorem d_Md_fragile_68 : decode b_Md_fragile 68 = .ok (.goto 4, 3) := by decide +kernel
theorem d_Md_fragile_71 : decode b_Md_fragile 71 = .ok (.iconst 0, 1) := by decide +kernel
theorem d_Md_fragile_72 : decode b_Md_fragile 72 = .ok (.putfield 108, 3) := by decide +kernel
theorem d_Md_fragile_75 : decode b_Md_fragile 75 = .ok (.iload_n 3, 1) := by decide +kernel
theorem d_Md_fragile_76 : decode b_Md_fragile 76 = .ok (.ireturn, 1) := by decide +kernel
theorem d_Md_has_0 : decode b_Md_has 0 = .ok (.iload_n 1, 1) := by decide +kernel
theorem d_Md_has_1 : decode b_Md_has 1 = .ok (.iload_n 2, 1) := by decide +kernel
theorem d_Md_has_2 : decode b_Md_has 2 = .ok (.ishr, 1) := by decide +kernel
theorem d_Md_has_3 : decode b_Md_has 3 = .ok (.iconst 1, 1) := by decide +kernel
theorem d_Md_has_4 : decode b_Md_has 4 = .ok (.iand, 1) := by decide +kernel
theorem d_Md_has_5 : decode b_Md_has 5 = .ok (.iconst 1, 1) := by decide +kernel
theorem d_Md_has_6 : decode b_Md_has 6 = .ok (.if_icmp .ne 7, 3) := by decide +kernel
theorem d_Md_has_9 : decode b_Md_has 9 = .ok (.iconst 1, 1) := by decide +kernel
theorem d_Md_has_10 : decode b_Md_has 10 = .ok (.goto 4, 3) := by decide +kernel
theorem d_Md_has_13 : decode b_Md_has 13 = .ok (.iconst 0, 1) := by decide +kernel
theorem d_Md_has_14 : decode b_Md_has 14 = .ok (.ireturn, 1) := by decide +kernel
theorem d_Md_byThickness_0 : decode b_Md_byThickness 0 = .ok (.iconst 0, 1) := by decide +kernel
theorem d_Md_byThickness_1 : decode b_Md_byThickness 1 = .ok (.istore_n 2, 1) := by decide +kernel
theorem d_Md_byThickness_2 : decode b_Md_byThickness 2 = .ok (.iload_n 2, 1) := by decide +kernel
theorem d_Md_byThickness_3 : decode b_Md_byThickness 3 = .ok (.aload_n 0, 1) := by decide +kernel
theorem d_Md_byThickness_4 : decode b_Md_byThickness 4 = .ok (.getfield 113, 3) := by decide +kernel
theorem d_Md_byThickness_7 : decode b_Md_byThickness 7 = .ok (.if_icmp .ge 82, 3) := by decide +kernel
theorem d_Md_byThickness_10 : decode b_Md_byThickness 10 = .ok (.iconst 0, 1) := by decide +kernel
theorem d_Md_byThickness_11 : decode b_Md_byThickness 11 = .ok (.istore_n 3, 1) := by decide +kernel
theorem d_Md_byThickness_12 : decode b_Md_byThickness 12 = .ok (.iconst 0, 1) := by decide +kernel
theorem d_Md_byThickness_13 : decode b_Md_byThickness 13 = .ok (.istore 4, 2) := by decide +kernel
theorem d_Md_byThickness_15 : decode b_Md_byThickness 15 = .ok (.iload 4, 2) := by decide +kernel
theorem d_Md_byThickness_17 : decode b_Md_byThickness 17 = .ok (.aload_n 0, 1) := by decide +kernel
theorem d_Md_byThickness_18 : decode b_Md_byThickness 18 = .ok (.getfield 113, 3) := by decide +kernel
theorem d_Md_byThickness_21 : decode b_Md_byThickness 21 = .ok (.if_icmp .ge 55, 3) := by decide +kernel
theorem d_Md_byThickness_24 : decode b_Md_byThickness 24 = .ok (.iload_n 3, 1) := by decide +kernel
theorem d_Md_byThickness_25 : decode b_Md_byThickness 25 = .ok (.aload_n 0, 1) := by decide +kernel
theorem d_Md_byThickness_26 : decode b_Md_byThickness 26 = .ok (.getfield 31, 3) := by decide +kernel
theorem d_Md_byThickness_29 : decode b_Md_byThickness 29 = .ok (.iload 4, 2) := by decide +kernel
theorem d_Md_byThickness_31 : decode b_Md_byThickness 31 = .ok (.iaload, 1) := by decide +kernel
theorem d_Md_byThickness_32 : decode b_Md_byThickness 32 = .ok (.aload_n 0, 1) := by decide +kernel
theorem d_Md_byThickness_33 : decode b_Md_byThickness 33 = .ok (.getfield 31, 3) := by decide +kernel
theorem d_Md_byThickness_36 : decode b_Md_byThickness 36 = .ok (.iload_n 2, 1) := by decide +kernel
theorem d_Md_byThickness_37 : decode b_Md_byThickness 37 = .ok (.iaload, 1) := by decide +kernel
theorem d_Md_byThickness_38 : decode b_Md_byThickness 38 = .ok (.if_icmp .gt 25, 3) := by decide +kernel
theorem d_Md_byThickness_41 : decode b_Md_byThickness 41 = .ok (.aload_n 0, 1) := by decide +kernel
theorem d_Md_byThickness_42 : decode b_Md_byThickness 42 = .ok (.getfield 31, 3) := by decide +kernel
theorem d_Md_byThickness_45 : decode b_Md_byThickness 45 = .ok (.iload 4, 2) := by decide +kernel
theorem d_Md_byThickness_47 : decode b_Md_byThickness 47 = .ok (.iaload, 1) := by decide +kernel
theorem d_Md_byThickness_48 : decode b_Md_byThickness 48 = .ok (.aload_n 0, 1) := by decide +kernel
theorem d_Md_byThickness_49 : decode b_Md_byThickness 49 = .ok (.getfield 31, 3) := by decide +kernel
theorem d_Md_byThickness_52 : decode b_Md_byThickness 52 = .ok (.iload_n 2, 1) := by decide +kernel
theorem d_Md_byThickness_53 : decode b_Md_byThickness 53 = .ok (.iaload, 1) := by decide +kernel
theorem d_Md_byThickness_54 : decode b_Md_byThickness 54 = .ok (.if_icmp .ne 13, 3) := by decide +kernel
theorem d_Md_byThickness_57 : decode b_Md_byThickness 57 = .ok (.iload 4, 2) := by decide +kernel
theorem d_Md_byThickness_59 : decode b_Md_byThickness 59 = .ok (.iload_n 2, 1) := by decide +kernel
theorem d_Md_byThickness_60 : decode b_Md_byThickness 60 = .ok (.if_icmp .ge 7, 3) := by decide +kernel
theorem d_Md_byThickness_63 : decode b_Md_byThickness 63 = .ok (.iconst 1, 1) := by decide +kernel
theorem d_Md_byThickness_64 : decode b_Md_byThickness 64 = .ok (.goto 4, 3) := by decide +kernel
theorem d_Md_byThickness_67 : decode b_Md_byThickness 67 = .ok (.iconst 0, 1) := by decide +kernel
theorem d_Md_byThickness_68 : decode b_Md_byThickness 68 = .ok (.iadd, 1) := by decide +kernel
theorem d_Md_byThickness_69 : decode b_Md_byThickness 69 = .ok (.istore_n 3, 1) := by decide +kernel
theorem d_Md_byThickness_70 : decode b_Md_byThickness 70 = .ok (.iinc 4 1, 3) := by decide +kernel
theorem d_Md_byThickness_73 : decode b_Md_byThickness 73 = .ok (.goto (-58), 3) := by decide +kernel
theorem d_Md_byThickness_76 : decode b_Md_byThickness 76 = .ok (.iload_n 3, 1) := by decide +kernel
theorem d_Md_byThickness_77 : decode b_Md_byThickness 77 = .ok (.iload_n 1, 1) := by decide +kernel
theorem d_Md_byThickness_78 : decode b_Md_byThickness 78 = .ok (.if_icmp .ne 5, 3) := by decide +kernel
theorem d_Md_byThickness_81 : decode b_Md_byThickness 81 = .ok (.iload_n 2, 1) := by decide +kernel
theorem d_Md_byThickness_82 : decode b_Md_byThickness 82 = .ok (.ireturn, 1) := by decide +kernel
theorem d_Md_byThickness_83 : decode b_Md_byThickness 83 = .ok (.iinc 2 1, 3) := by decide +kernel
theorem d_Md_byThickness_86 : decode b_Md_byThickness 86 = .ok (.goto (-84), 3) := by decide +kernel
theorem d_Md_byThickness_89 : decode b_Md_byThickness 89 = .ok (.iconst (-1), 1) := by decide +kernel
theorem d_Md_byThickness_90 : decode b_Md_byThickness 90 = .ok (.ireturn, 1) := by decide +kernel
theorem d_Md_place_0 : decode b_Md_place 0 = .ok (.iconst 0, 1) := by decide +kernel
theorem d_Md_place_1 : decode b_Md_place 1 = .ok (.istore_n 3, 1) := by decide +kernel
theorem d_Md_place_2 : decode b_Md_place 2 = .ok (.iload_n 3, 1) := by decide +kernel
theorem d_Md_place_3 : decode b_Md_place 3 = .ok (.aload_n 0, 1) := by decide +kernel
theorem d_Md_place_4 : decode b_Md_place 4 = .ok (.getfield 116, 3) := by decide +kernel
theorem d_Md_place_7 : decode b_Md_place 7 = .ok (.if_icmp .ge 36, 3) := by decide +kernel
theorem d_Md_place_10 : decode b_Md_place 10 = .ok (.aload_n 0, 1) := by decide +kernel
theorem d_Md_place_11 : decode b_Md_place 11 = .ok (.getfield 50, 3) := by decide +kernel
theorem d_Md_place_14 : decode b_Md_place 14 = .ok (.iload_n 3, 1) := by decide +kernel
theorem d_Md_place_15 : decode b_Md_place 15 = .ok (.iaload, 1) := by decide +kernel
theorem d_Md_place_16 : decode b_Md_place 16 = .ok (.aload_n 0, 1) := by decide +kernel
theorem d_Md_place_17 : decode b_Md_place 17 = .ok (.getfield 89, 3) := by decide +kernel
theorem d_Md_place_20 : decode b_Md_place 20 = .ok (.iadd, 1) := by decide +kernel
theorem d_Md_place_21 : decode b_Md_place 21 = .ok (.aload_n 0, 1) := by decide +kernel
theorem d_Md_place_22 : decode b_Md_place 22 = .ok (.getfield 25, 3) := by decide +kernel
theorem d_Md_place_25 : decode b_Md_place 25 = .ok (.iload_n 1, 1) := by decide +kernel
theorem d_Md_place_26 : decode b_Md_place 26 = .ok (.iaload, 1) := by decide +kernel
theorem d_Md_place_27 : decode b_Md_place 27 = .ok (.iadd, 1) := by decide +kernel
theorem d_Md_place_28 : decode b_Md_place 28 = .ok (.aload_n 0, 1) := by decide +kernel
theorem d_Md_place_29 : decode b_Md_place 29 = .ok (.getfield 7, 3) := by decide +kernel
theorem d_Md_place_32 : decode b_Md_place 32 = .ok (.iload_n 2, 1) := by decide +kernel
theorem d_Md_place_33 : decode b_Md_place 33 = .ok (.iaload, 1) := by decide +kernel
theorem d_Md_place_34 : decode b_Md_place 34 = .ok (.if_icmp .le 9, 3) := by decide +kernel
theorem d_Md_place_37 : decode b_Md_place 37 = .ok (.iinc 3 1, 3) := by decide +kernel
theorem d_Md_place_40 : decode b_Md_place 40 = .ok (.goto (-38), 3) := by decide +kernel
theorem d_Md_place_43 : decode b_Md_place 43 = .ok (.iload_n 3, 1) := by decide +kernel
theorem d_Md_place_44 : decode b_Md_place 44 = .ok (.aload_n 0, 1) := by decide +kernel
theorem d_Md_place_45 : decode b_Md_place 45 = .ok (.getfield 116, 3) := by decide +kernel
theorem d_Md_place_48 : decode b_Md_place 48 = .ok (.if_icmp .ne 62, 3) := by decide +kernel
theorem d_Md_place_51 : decode b_Md_place 51 = .ok (.aload_n 0, 1) := by decide +kernel
theorem d_Md_place_52 : decode b_Md_place 52 = .ok (.getfield 50, 3) := by decide +kernel
theorem d_Md_place_55 : decode b_Md_place 55 = .ok (.iload_n 3, 1) := by decide +kernel
theorem d_Md_place_56 : decode b_Md_place 56 = .ok (.aload_n 0, 1) := by decide +kernel
theorem d_Md_place_57 : decode b_Md_place 57 = .ok (.getfield 89, 3) := by decide +kernel
theorem d_Md_place_60 : decode b_Md_place 60 = .ok (.ineg, 1) := by decide +kernel
theorem d_Md_place_61 : decode b_Md_place 61 = .ok (.iastore, 1) := by decide +kernel
theorem d_Md_place_62 : decode b_Md_place 62 = .ok (.aload_n 0, 1) := by decide +kernel
theorem d_Md_place_63 : decode b_Md_place 63 = .ok (.getfield 53, 3) := by decide +kernel
theorem d_Md_place_66 : decode b_Md_place 66 = .ok (.iload_n 3, 1) := by decide +kernel
theorem d_Md_place_67 : decode b_Md_place 67 = .ok (.aload_n 0, 1) := by decide +kernel
theorem d_Md_place_68 : decode b_Md_place 68 = .ok (.getfield 31, 3) := by decide +kernel
theorem d_Md_place_71 : decode b_Md_place 71 = .ok (.iload_n 1, 1) := by decide +kernel
theorem d_Md_place_72 : decode b_Md_place 72 = .ok (.iaload, 1) := by decide +kernel
theorem d_Md_place_73 : decode b_Md_place 73 = .ok (.iastore, 1) := by decide +kernel
theorem d_Md_place_74 : decode b_Md_place 74 = .ok (.aload_n 0, 1) := by decide +kernel
theorem d_Md_place_75 : decode b_Md_place 75 = .ok (.getfield 56, 3) := by decide +kernel
theorem d_Md_place_78 : decode b_Md_place 78 = .ok (.iload_n 3, 1) := by decide +kernel
theorem d_Md_place_79 : decode b_Md_place 79 = .ok (.iconst 0, 1) := by decide +kernel
theorem d_Md_place_80 : decode b_Md_place 80 = .ok (.iastore, 1) := by decide +kernel
theorem d_Md_place_81 : decode b_Md_place 81 = .ok (.aload_n 0, 1) := by decide +kernel
theorem d_Md_place_82 : decode b_Md_place 82 = .ok (.getfield 59, 3) := by decide +kernel
theorem d_Md_place_85 : decode b_Md_place 85 = .ok (.iload_n 3, 1) := by decide +kernel
theorem d_Md_place_86 : decode b_Md_place 86 = .ok (.aload_n 0, 1) := by decide +kernel
theorem d_Md_place_87 : decode b_Md_place 87 = .ok (.getfield 37, 3) := by decide +kernel
theorem d_Md_place_90 : decode b_Md_place 90 = .ok (.iload_n 1, 1) := by decide +kernel
theorem d_Md_place_91 : decode b_Md_place 91 = .ok (.iaload, 1) := by decide +kernel
theorem d_Md_place_92 : decode b_Md_place 92 = .ok (.iastore, 1) := by decide +kernel
theorem d_Md_place_93 : decode b_Md_place 93 = .ok (.aload_n 0, 1) := by decide +kernel
theorem d_Md_place_94 : decode b_Md_place 94 = .ok (.getfield 62, 3) := by decide +kernel
theorem d_Md_place_97 : decode b_Md_place 97 = .ok (.iload_n 3, 1) := by decide +kernel
theorem d_Md_place_98 : decode b_Md_place 98 = .ok (.iconst 0, 1) := by decide +kernel
theorem d_Md_place_99 : decode b_Md_place 99 = .ok (.bastore, 1) := by decide +kernel
theorem d_Md_place_100 : decode b_Md_place 100 = .ok (.aload_n 0, 1) := by decide +kernel
theorem d_Md_place_101 : decode b_Md_place 101 = .ok (.dup, 1) := by decide +kernel
theorem d_Md_place_102 : decode b_Md_place 102 = .ok (.getfield 116, 3) := by decide +kernel
theorem d_Md_place_105 : decode b_Md_place 105 = .ok (.iconst 1, 1) := by decide +kernel
theorem d_Md_place_106 : decode b_Md_place 106 = .ok (.iadd, 1) := by decide +kernel
theorem d_Md_place_107 : decode b_Md_place 107 = .ok (.putfield 116, 3) := by decide +kernel
theorem d_Md_place_110 : decode b_Md_place 110 = .ok (.aload_n 0, 1) := by decide +kernel
theorem d_Md_place_111 : decode b_Md_place 111 = .ok (.getfield 44, 3) := by decide +kernel
theorem d_Md_place_114 : decode b_Md_place 114 = .ok (.iload_n 1, 1) := by decide +kernel
theorem d_Md_place_115 : decode b_Md_place 115 = .ok (.iload_n 3, 1) := by decide +kernel
theorem d_Md_place_116 : decode b_Md_place 116 = .ok (.iastore, 1) := by decide +kernel
theorem d_Md_place_117 : decode b_Md_place 117 = .ok (.aload_n 0, 1) := by decide +kernel
theorem d_Md_place_118 : decode b_Md_place 118 = .ok (.getfield 47, 3) := by decide +kernel
theorem d_Md_place_121 : decode b_Md_place 121 = .ok (.iload_n 1, 1) := by decide +kernel
theorem d_Md_place_122 : decode b_Md_place 122 = .ok (.aload_n 0, 1) := by decide +kernel
theorem d_Md_place_123 : decode b_Md_place 123 = .ok (.getfield 50, 3) := by decide +kernel
theorem d_Md_place_126 : decode b_Md_place 126 = .ok (.iload_n 3, 1) := by decide +kernel
theorem d_Md_place_127 : decode b_Md_place 127 = .ok (.iaload, 1) := by decide +kernel
theorem d_Md_place_128 : decode b_Md_place 128 = .ok (.aload_n 0, 1) := by decide +kernel
theorem d_Md_place_129 : decode b_Md_place 129 = .ok (.getfield 89, 3) := by decide +kernel
theorem d_Md_place_132 : decode b_Md_place 132 = .ok (.iadd, 1) := by decide +kernel
theorem d_Md_place_133 : decode b_Md_place 133 = .ok (.iastore, 1) := by decide +kernel
theorem d_Md_place_134 : decode b_Md_place 134 = .ok (.aload_n 0, 1) := by decide +kernel
theorem d_Md_place_135 : decode b_Md_place 135 = .ok (.getfield 50, 3) := by decide +kernel
theorem d_Md_place_138 : decode b_Md_place 138 = .ok (.iload_n 3, 1) := by decide +kernel
theorem d_Md_place_139 : decode b_Md_place 139 = .ok (.aload_n 0, 1) := by decide +kernel
theorem d_Md_place_140 : decode b_Md_place 140 = .ok (.getfield 47, 3) := by decide +kernel
theorem d_Md_place_143 : decode b_Md_place 143 = .ok (.iload_n 1, 1) := by decide +kernel
theorem d_Md_place_144 : decode b_Md_place 144 = .ok (.iaload, 1) := by decide +kernel
theorem d_Md_place_145 : decode b_Md_place 145 = .ok (.aload_n 0, 1) := by decide +kernel
theorem d_Md_place_146 : decode b_Md_place 146 = .ok (.getfield 25, 3) := by decide +kernel
theorem d_Md_place_149 : decode b_Md_place 149 = .ok (.iload_n 1, 1) := by decide +kernel
theorem d_Md_place_150 : decode b_Md_place 150 = .ok (.iaload, 1) := by decide +kernel
theorem d_Md_place_151 : decode b_Md_place 151 = .ok (.iadd, 1) := by decide +kernel
theorem d_Md_place_152 : decode b_Md_place 152 = .ok (.iastore, 1) := by decide +kernel
theorem d_Md_place_153 : decode b_Md_place 153 = .ok (.aload_n 0, 1) := by decide +kernel
theorem d_Md_place_154 : decode b_Md_place 154 = .ok (.getfield 56, 3) := by decide +kernel
theorem d_Md_place_157 : decode b_Md_place 157 = .ok (.iload_n 3, 1) := by decide +kernel
theorem d_Md_place_158 : decode b_Md_place 158 = .ok (.dup2, 1) := by decide +kernel
theorem d_Md_place_159 : decode b_Md_place 159 = .ok (.iaload, 1) := by decide +kernel
theorem d_Md_place_160 : decode b_Md_place 160 = .ok (.aload_n 0, 1) := by decide +kernel
theorem d_Md_place_161 : decode b_Md_place 161 = .ok (.getfield 34, 3) := by decide +kernel
theorem d_Md_place_164 : decode b_Md_place 164 = .ok (.iload_n 1, 1) := by decide +kernel
theorem d_Md_place_165 : decode b_Md_place 165 = .ok (.iaload, 1) := by decide +kernel
theorem d_Md_place_166 : decode b_Md_place 166 = .ok (.iadd, 1) := by decide +kernel
theorem d_Md_place_167 : decode b_Md_place 167 = .ok (.iastore, 1) := by decide +kernel
theorem d_Md_place_168 : decode b_Md_place 168 = .ok (.aload_n 0, 1) := by decide +kernel
theorem d_Md_place_169 : decode b_Md_place 169 = .ok (.getfield 59, 3) := by decide +kernel
theorem d_Md_place_172 : decode b_Md_place 172 = .ok (.iload_n 3, 1) := by decide +kernel
theorem d_Md_place_173 : decode b_Md_place 173 = .ok (.aload_n 0, 1) := by decide +kernel
theorem d_Md_place_174 : decode b_Md_place 174 = .ok (.getfield 37, 3) := by decide +kernel
theorem d_Md_place_177 : decode b_Md_place 177 = .ok (.iload_n 1, 1) := by decide +kernel
theorem d_Md_place_178 : decode b_Md_place 178 = .ok (.iaload, 1) := by decide +kernel
theorem d_Md_place_179 : decode b_Md_place 179 = .ok (.aload_n 0, 1) := by decide +kernel
theorem d_Md_place_180 : decode b_Md_place 180 = .ok (.getfield 59, 3) := by decide +kernel
theorem d_Md_place_183 : decode b_Md_place 183 = .ok (.iload_n 3, 1) := by decide +kernel
theorem d_Md_place_184 : decode b_Md_place 184 = .ok (.iaload, 1) := by decide +kernel
theorem d_Md_place_185 : decode b_Md_place 185 = .ok (.if_icmp .ge 12, 3) := by decide +kernel
theorem d_Md_place_188 : decode b_Md_place 188 = .ok (.aload_n 0, 1) := by decide +kernel
theorem d_Md_place_189 : decode b_Md_place 189 = .ok (.getfield 37, 3) := by decide +kernel
theorem d_Md_place_192 : decode b_Md_place 192 = .ok (.iload_n 1, 1) := by decide +kernel
theorem d_Md_place_193 : decode b_Md_place 193 = .ok (.iaload, 1) := by decide +kernel
theorem d_Md_place_194 : decode b_Md_place 194 = .ok (.goto 9, 3) := by decide +kernel
theorem d_Md_place_197 : decode b_Md_place 197 = .ok (.aload_n 0, 1) := by decide +kernel
theorem d_Md_place_198 : decode b_Md_place 198 = .ok (.getfield 59, 3) := by decide +kernel
theorem d_Md_place_201 : decode b_Md_place 201 = .ok (.iload_n 3, 1) := by decide +kernel
theorem d_Md_place_202 : decode b_Md_place 202 = .ok (.iaload, 1) := by decide +kernel
theorem d_Md_place_203 : decode b_Md_place 203 = .ok (.iastore, 1) := by decide +kernel
theorem d_Md_place_204 : decode b_Md_place 204 = .ok (.aload_n 0, 1) := by decide +kernel
theorem d_Md_place_205 : decode b_Md_place 205 = .ok (.getfield 62, 3) := by decide +kernel
theorem d_Md_place_208 : decode b_Md_place 208 = .ok (.iload_n 3, 1) := by decide +kernel
theorem d_Md_place_209 : decode b_Md_place 209 = .ok (.aload_n 0, 1) := by decide +kernel
theorem d_Md_place_210 : decode b_Md_place 210 = .ok (.getfield 62, 3) := by decide +kernel
theorem d_Md_place_213 : decode b_Md_place 213 = .ok (.iload_n 3, 1) := by decide +kernel
theorem d_Md_place_214 : decode b_Md_place 214 = .ok (.baload, 1) := by decide +kernel
theorem d_Md_place_215 : decode b_Md_place 215 = .ok (.ifCond .ne 12, 3) := by decide +kernel
theorem d_Md_place_218 : decode b_Md_place 218 = .ok (.aload_n 0, 1) := by decide +kernel
theorem d_Md_place_219 : decode b_Md_place 219 = .ok (.getfield 40, 3) := by decide +kernel
theorem d_Md_place_222 : decode b_Md_place 222 = .ok (.iload_n 1, 1) := by decide +kernel
theorem d_Md_place_223 : decode b_Md_place 223 = .ok (.baload, 1) := by decide +kernel
theorem d_Md_place_224 : decode b_Md_place 224 = .ok (.ifCond .eq 7, 3) := by decide +kernel
theorem d_Md_place_227 : decode b_Md_place 227 = .ok (.iconst 1, 1) := by decide +kernel
theorem d_Md_place_228 : decode b_Md_place 228 = .ok (.goto 4, 3) := by decide +kernel
theorem d_Md_place_231 : decode b_Md_place 231 = .ok (.iconst 0, 1) := by decide +kernel
theorem d_Md_place_232 : decode b_Md_place 232 = .ok (.bastore, 1) := by decide +kernel
theorem d_Md_place_233 : decode b_Md_place 233 = .ok (.return_, 1) := by decide +kernel
theorem d_Md_pack_0 : decode b_Md_pack 0 = .ok (.aload_n 0, 1) := by decide +kernel
theorem d_Md_pack_1 : decode b_Md_pack 1 = .ok (.iconst 0, 1) := by decide +kernel
theorem d_Md_pack_2 : decode b_Md_pack 2 = .ok (.putfield 116, 3) := by decide +kernel
theorem d_Md_pack_5 : decode b_Md_pack 5 = .ok (.iconst 1, 1) := by decide +kernel
theorem d_Md_pack_6 : decode b_Md_pack 6 = .ok (.istore_n 3, 1) := by decide +kernel
theorem d_Md_pack_7 : decode b_Md_pack 7 = .ok (.iconst 0, 1) := by decide +kernel
theorem d_Md_pack_8 : decode b_Md_pack 8 = .ok (.istore 4, 2) := by decide +kernel
theorem d_Md_pack_10 : decode b_Md_pack 10 = .ok (.iconst 0, 1) := by decide +kernel
theorem d_Md_pack_11 : decode b_Md_pack 11 = .ok (.istore 5, 2) := by decide +kernel
theorem d_Md_pack_13 : decode b_Md_pack 13 = .ok (.iload 5, 2) := by decide +kernel
theorem d_Md_pack_15 : decode b_Md_pack 15 = .ok (.aload_n 0, 1) := by decide +kernel
theorem d_Md_pack_16 : decode b_Md_pack 16 = .ok (.getfield 113, 3) := by decide +kernel
theorem d_Md_pack_19 : decode b_Md_pack 19 = .ok (.if_icmp .ge 88, 3) := by decide +kernel
theorem d_Md_pack_22 : decode b_Md_pack 22 = .ok (.aload_n 0, 1) := by decide +kernel
theorem d_Md_pack_23 : decode b_Md_pack 23 = .ok (.iload 5, 2) := by decide +kernel
theorem d_Md_pack_25 : decode b_Md_pack 25 = .ok (.invokevirtual 119, 3) := by decide +kernel
theorem d_Md_pack_28 : decode b_Md_pack 28 = .ok (.istore 6, 2) := by decide +kernel
theorem d_Md_pack_30 : decode b_Md_pack 30 = .ok (.aload_n 0, 1) := by decide +kernel
theorem d_Md_pack_31 : decode b_Md_pack 31 = .ok (.iload_n 1, 1) := by decide +kernel
theorem d_Md_pack_32 : decode b_Md_pack 32 = .ok (.iload 6, 2) := by decide +kernel
theorem d_Md_pack_34 : decode b_Md_pack 34 = .ok (.invokevirtual 123, 3) := by decide +kernel
theorem d_Md_pack_37 : decode b_Md_pack 37 = .ok (.ifCond .eq 64, 3) := by decide +kernel
theorem d_Md_pack_40 : decode b_Md_pack 40 = .ok (.iload_n 3, 1) := by decide +kernel
theorem d_Md_pack_41 : decode b_Md_pack 41 = .ok (.ifCond .eq 39, 3) := by decide +kernel
theorem d_Md_pack_44 : decode b_Md_pack 44 = .ok (.aload_n 0, 1) := by decide +kernel
theorem d_Md_pack_45 : decode b_Md_pack 45 = .ok (.getfield 25, 3) := by decide +kernel
theorem d_Md_pack_48 : decode b_Md_pack 48 = .ok (.iload 6, 2) := by decide +kernel
theorem d_Md_pack_50 : decode b_Md_pack 50 = .ok (.iaload, 1) := by decide +kernel
theorem d_Md_pack_51 : decode b_Md_pack 51 = .ok (.aload_n 0, 1) := by decide +kernel
theorem d_Md_pack_52 : decode b_Md_pack 52 = .ok (.getfield 7, 3) := by decide +kernel
theorem d_Md_pack_55 : decode b_Md_pack 55 = .ok (.iload_n 2, 1) := by decide +kernel
theorem d_Md_pack_56 : decode b_Md_pack 56 = .ok (.iaload, 1) := by decide +kernel
theorem d_Md_pack_57 : decode b_Md_pack 57 = .ok (.if_icmp .gt 23, 3) := by decide +kernel
theorem d_Md_pack_60 : decode b_Md_pack 60 = .ok (.aload_n 0, 1) := by decide +kernel
theorem d_Md_pack_61 : decode b_Md_pack 61 = .ok (.getfield 28, 3) := by decide +kernel
theorem d_Md_pack_64 : decode b_Md_pack 64 = .ok (.iload 6, 2) := by decide +kernel
theorem d_Md_pack_66 : decode b_Md_pack 66 = .ok (.iaload, 1) := by decide +kernel
theorem d_Md_pack_67 : decode b_Md_pack 67 = .ok (.aload_n 0, 1) := by decide +kernel
theorem d_Md_pack_68 : decode b_Md_pack 68 = .ok (.getfield 13, 3) := by decide +kernel
theorem d_Md_pack_71 : decode b_Md_pack 71 = .ok (.iload_n 2, 1) := by decide +kernel
theorem d_Md_pack_72 : decode b_Md_pack 72 = .ok (.iaload, 1) := by decide +kernel
theorem d_Md_pack_73 : decode b_Md_pack 73 = .ok (.if_icmp .gt 7, 3) := by decide +kernel
theorem d_Md_pack_76 : decode b_Md_pack 76 = .ok (.iconst 1, 1) := by decide +kernel
theorem d_Md_pack_77 : decode b_Md_pack 77 = .ok (.goto 4, 3) := by decide +kernel
theorem d_Md_pack_80 : decode b_Md_pack 80 = .ok (.iconst 0, 1) := by decide +kernel
theorem d_Md_pack_81 : decode b_Md_pack 81 = .ok (.istore_n 3, 1) := by decide +kernel
theorem d_Md_pack_82 : decode b_Md_pack 82 = .ok (.iload 4, 2) := by decide +kernel
theorem d_Md_pack_84 : decode b_Md_pack 84 = .ok (.aload_n 0, 1) := by decide +kernel
theorem d_Md_pack_85 : decode b_Md_pack 85 = .ok (.getfield 34, 3) := by decide +kernel
theorem d_Md_pack_88 : decode b_Md_pack 88 = .ok (.iload 6, 2) := by decide +kernel
theorem d_Md_pack_90 : decode b_Md_pack 90 = .ok (.iaload, 1) := by decide +kernel
theorem d_Md_pack_91 : decode b_Md_pack 91 = .ok (.iadd, 1) := by decide +kernel
theorem d_Md_pack_92 : decode b_Md_pack 92 = .ok (.istore 4, 2) := by decide +kernel
theorem d_Md_pack_94 : decode b_Md_pack 94 = .ok (.aload_n 0, 1) := by decide +kernel
theorem d_Md_pack_95 : decode b_Md_pack 95 = .ok (.iload 6, 2) := by decide +kernel
theorem d_Md_pack_97 : decode b_Md_pack 97 = .ok (.iload_n 2, 1) := by decide +kernel
theorem d_Md_pack_98 : decode b_Md_pack 98 = .ok (.invokevirtual 127, 3) := by decide +kernel
theorem d_Md_pack_101 : decode b_Md_pack 101 = .ok (.iinc 5 1, 3) := by decide +kernel
theorem d_Md_pack_104 : decode b_Md_pack 104 = .ok (.goto (-91), 3) := by decide +kernel
theorem d_Md_pack_107 : decode b_Md_pack 107 = .ok (.iconst 0, 1) := by decide +kernel
theorem d_Md_pack_108 : decode b_Md_pack 108 = .ok (.istore 5, 2) := by decide +kernel
theorem d_Md_pack_110 : decode b_Md_pack 110 = .ok (.iconst 0, 1) := by decide +kernel
theorem d_Md_pack_111 : decode b_Md_pack 111 = .ok (.istore 6, 2) := by decide +kernel
theorem d_Md_pack_113 : decode b_Md_pack 113 = .ok (.iload 6, 2) := by decide +kernel
theorem d_Md_pack_115 : decode b_Md_pack 115 = .ok (.aload_n 0, 1) := by decide +kernel
theorem d_Md_pack_116 : decode b_Md_pack 116 = .ok (.getfield 116, 3) := by decide +kernel
theorem d_Md_pack_119 : decode b_Md_pack 119 = .ok (.if_icmp .ge 29, 3) := by decide +kernel
theorem d_Md_pack_122 : decode b_Md_pack 122 = .ok (.iload 5, 2) := by decide +kernel
theorem d_Md_pack_124 : decode b_Md_pack 124 = .ok (.aload_n 0, 1) := by decide +kernel
theorem d_Md_pack_125 : decode b_Md_pack 125 = .ok (.getfield 62, 3) := by decide +kernel
theorem d_Md_pack_128 : decode b_Md_pack 128 = .ok (.iload 6, 2) := by decide +kernel
theorem d_Md_pack_130 : decode b_Md_pack 130 = .ok (.baload, 1) := by decide +kernel
theorem d_Md_pack_131 : decode b_Md_pack 131 = .ok (.ifCond .eq 7, 3) := by decide +kernel
theorem d_Md_pack_134 : decode b_Md_pack 134 = .ok (.iconst 1, 1) := by decide +kernel
theorem d_Md_pack_135 : decode b_Md_pack 135 = .ok (.goto 4, 3) := by decide +kernel
theorem d_Md_pack_138 : decode b_Md_pack 138 = .ok (.iconst 0, 1) := by decide +kernel
theorem d_Md_pack_139 : decode b_Md_pack 139 = .ok (.iadd, 1) := by decide +kernel
theorem d_Md_pack_140 : decode b_Md_pack 140 = .ok (.istore 5, 2) := by decide +kernel
theorem d_Md_pack_142 : decode b_Md_pack 142 = .ok (.iinc 6 1, 3) := by decide +kernel
theorem d_Md_pack_145 : decode b_Md_pack 145 = .ok (.goto (-32), 3) := by decide +kernel
theorem d_Md_pack_148 : decode b_Md_pack 148 = .ok (.iload_n 3, 1) := by decide +kernel
theorem d_Md_pack_149 : decode b_Md_pack 149 = .ok (.ifCond .eq 37, 3) := by decide +kernel
theorem d_Md_pack_152 : decode b_Md_pack 152 = .ok (.aload_n 0, 1) := by decide +kernel
theorem d_Md_pack_153 : decode b_Md_pack 153 = .ok (.invokevirtual 131, 3) := by decide +kernel
theorem d_Md_pack_156 : decode b_Md_pack 156 = .ok (.aload_n 0, 1) := by decide +kernel
theorem d_Md_pack_157 : decode b_Md_pack 157 = .ok (.getfield 16, 3) := by decide +kernel
theorem d_Md_pack_160 : decode b_Md_pack 160 = .ok (.iload_n 2, 1) := by decide +kernel
theorem d_Md_pack_161 : decode b_Md_pack 161 = .ok (.iaload, 1) := by decide +kernel
theorem d_Md_pack_162 : decode b_Md_pack 162 = .ok (.if_icmp .gt 24, 3) := by decide +kernel
theorem d_Md_pack_165 : decode b_Md_pack 165 = .ok (.iload 4, 2) := by decide +kernel
theorem d_Md_pack_167 : decode b_Md_pack 167 = .ok (.aload_n 0, 1) := by decide +kernel
theorem d_Md_pack_168 : decode b_Md_pack 168 = .ok (.getfield 22, 3) := by decide +kernel
theorem d_Md_pack_171 : decode b_Md_pack 171 = .ok (.iload_n 2, 1) := by decide +kernel
theorem d_Md_pack_172 : decode b_Md_pack 172 = .ok (.iaload, 1) := by decide +kernel
theorem d_Md_pack_173 : decode b_Md_pack 173 = .ok (.if_icmp .gt 13, 3) := by decide +kernel
theorem d_Md_pack_176 : decode b_Md_pack 176 = .ok (.iload 5, 2) := by decide +kernel
theorem d_Md_pack_178 : decode b_Md_pack 178 = .ok (.iconst 2, 1) := by decide +kernel
theorem d_Md_pack_179 : decode b_Md_pack 179 = .ok (.if_icmp .ge 7, 3) := by decide +kernel
theorem d_Md_pack_182 : decode b_Md_pack 182 = .ok (.iconst 1, 1) := by decide +kernel
theorem d_Md_pack_183 : decode b_Md_pack 183 = .ok (.goto 4, 3) := by decide +kernel
theorem d_Md_pack_186 : decode b_Md_pack 186 = .ok (.iconst 0, 1) := by decide +kernel
theorem d_Md_pack_187 : decode b_Md_pack 187 = .ok (.ireturn, 1) := by decide +kernel
theorem d_Md_highOf_0 : decode b_Md_highOf 0 = .ok (.iconst 0, 1) := by decide +kernel
theorem d_Md_highOf_1 : decode b_Md_highOf 1 = .ok (.istore_n 1, 1) := by decide +kernel
theorem d_Md_highOf_2 : decode b_Md_highOf 2 = .ok (.iconst 0, 1) := by decide +kernel
theorem d_Md_highOf_3 : decode b_Md_highOf 3 = .ok (.istore_n 2, 1) := by decide +kernel
theorem d_Md_highOf_4 : decode b_Md_highOf 4 = .ok (.iload_n 2, 1) := by decide +kernel
theorem d_Md_highOf_5 : decode b_Md_highOf 5 = .ok (.aload_n 0, 1) := by decide +kernel
theorem d_Md_highOf_6 : decode b_Md_highOf 6 = .ok (.getfield 116, 3) := by decide +kernel
theorem d_Md_highOf_9 : decode b_Md_highOf 9 = .ok (.if_icmp .ge 18, 3) := by decide +kernel
theorem d_Md_highOf_12 : decode b_Md_highOf 12 = .ok (.iload_n 1, 1) := by decide +kernel
theorem d_Md_highOf_13 : decode b_Md_highOf 13 = .ok (.aload_n 0, 1) := by decide +kernel
theorem d_Md_highOf_14 : decode b_Md_highOf 14 = .ok (.getfield 53, 3) := by decide +kernel
theorem d_Md_highOf_17 : decode b_Md_highOf 17 = .ok (.iload_n 2, 1) := by decide +kernel
theorem d_Md_highOf_18 : decode b_Md_highOf 18 = .ok (.iaload, 1) := by decide +kernel
theorem d_Md_highOf_19 : decode b_Md_highOf 19 = .ok (.iadd, 1) := by decide +kernel
theorem d_Md_highOf_20 : decode b_Md_highOf 20 = .ok (.istore_n 1, 1) := by decide +kernel
theorem d_Md_highOf_21 : decode b_Md_highOf 21 = .ok (.iinc 2 1, 3) := by decide +kernel
theorem d_Md_highOf_24 : decode b_Md_highOf 24 = .ok (.goto (-20), 3) := by decide +kernel
theorem d_Md_highOf_27 : decode b_Md_highOf 27 = .ok (.iload_n 1, 1) := by decide +kernel
theorem d_Md_highOf_28 : decode b_Md_highOf 28 = .ok (.ireturn, 1) := by decide +kernel
theorem d_Md_fits_0 : decode b_Md_fits 0 = .ok (.aload_n 0, 1) := by decide +kernel
theorem d_Md_fits_1 : decode b_Md_fits 1 = .ok (.iload_n 1, 1) := by decide +kernel
theorem d_Md_fits_2 : decode b_Md_fits 2 = .ok (.iconst 0, 1) := by decide +kernel
theorem d_Md_fits_3 : decode b_Md_fits 3 = .ok (.aload_n 0, 1) := by decide +kernel
theorem d_Md_fits_4 : decode b_Md_fits 4 = .ok (.getfield 105, 3) := by decide +kernel
theorem d_Md_fits_7 : decode b_Md_fits 7 = .ok (.iconst 1, 1) := by decide +kernel
theorem d_Md_fits_8 : decode b_Md_fits 8 = .ok (.isub, 1) := by decide +kernel
theorem d_Md_fits_9 : decode b_Md_fits 9 = .ok (.invokestatic 96, 3) := by decide +kernel
theorem d_Md_fits_12 : decode b_Md_fits 12 = .ok (.ifCond .ne 7, 3) := by decide +kernel
theorem d_Md_fits_15 : decode b_Md_fits 15 = .ok (.iconst 1, 1) := by decide +kernel
theorem d_Md_fits_16 : decode b_Md_fits 16 = .ok (.goto 23, 3) := by decide +kernel
theorem d_Md_fits_19 : decode b_Md_fits 19 = .ok (.iload_n 2, 1) := by decide +kernel
theorem d_Md_fits_20 : decode b_Md_fits 20 = .ok (.iconst 1, 1) := by decide +kernel
theorem d_Md_fits_21 : decode b_Md_fits 21 = .ok (.if_icmp .lt 13, 3) := by decide +kernel
theorem d_Md_fits_24 : decode b_Md_fits 24 = .ok (.iload_n 2, 1) := by decide +kernel
theorem d_Md_fits_25 : decode b_Md_fits 25 = .ok (.iconst 1, 1) := by decide +kernel
theorem d_Md_fits_26 : decode b_Md_fits 26 = .ok (.aload_n 0, 1) := by decide +kernel
theorem d_Md_fits_27 : decode b_Md_fits 27 = .ok (.getfield 113, 3) := by decide +kernel
theorem d_Md_fits_30 : decode b_Md_fits 30 = .ok (.ishl, 1) := by decide +kernel
theorem d_Md_fits_31 : decode b_Md_fits 31 = .ok (.if_icmp .lt 7, 3) := by decide +kernel
theorem d_Md_fits_34 : decode b_Md_fits 34 = .ok (.iconst 2, 1) := by decide +kernel
theorem d_Md_fits_35 : decode b_Md_fits 35 = .ok (.goto 4, 3) := by decide +kernel
theorem d_Md_fits_38 : decode b_Md_fits 38 = .ok (.iconst 0, 1) := by decide +kernel
theorem d_Md_fits_39 : decode b_Md_fits 39 = .ok (.putfield 93, 3) := by decide +kernel
theorem d_Md_fits_42 : decode b_Md_fits 42 = .ok (.aload_n 0, 1) := by decide +kernel
theorem d_Md_fits_43 : decode b_Md_fits 43 = .ok (.getfield 93, 3) := by decide +kernel
theorem d_Md_fits_46 : decode b_Md_fits 46 = .ok (.ifCond .ne 16, 3) := by decide +kernel
theorem d_Md_fits_49 : decode b_Md_fits 49 = .ok (.aload_n 0, 1) := by decide +kernel
theorem d_Md_fits_50 : decode b_Md_fits 50 = .ok (.iload_n 2, 1) := by decide +kernel
theorem d_Md_fits_51 : decode b_Md_fits 51 = .ok (.iload_n 1, 1) := by decide +kernel
theorem d_Md_fits_52 : decode b_Md_fits 52 = .ok (.invokevirtual 135, 3) := by decide +kernel
theorem d_Md_fits_55 : decode b_Md_fits 55 = .ok (.ifCond .eq 7, 3) := by decide +kernel
theorem d_Md_fits_58 : decode b_Md_fits 58 = .ok (.iconst 1, 1) := by decide +kernel
theorem d_Md_fits_59 : decode b_Md_fits 59 = .ok (.goto 4, 3) := by decide +kernel
theorem d_Md_fits_62 : decode b_Md_fits 62 = .ok (.iconst 0, 1) := by decide +kernel
theorem d_Md_fits_63 : decode b_Md_fits 63 = .ok (.ireturn, 1) := by decide +kernel
theorem d_Md_findBoxes_0 : decode b_Md_findBoxes 0 = .ok (.iconst 1, 1) := by decide +kernel
theorem d_Md_findBoxes_1 : decode b_Md_findBoxes 1 = .ok (.istore_n 1, 1) := by decide +kernel
theorem d_Md_findBoxes_2 : decode b_Md_findBoxes 2 = .ok (.iload_n 1, 1) := by decide +kernel
theorem d_Md_findBoxes_3 : decode b_Md_findBoxes 3 = .ok (.iconst 1, 1) := by decide +kernel
theorem d_Md_findBoxes_4 : decode b_Md_findBoxes 4 = .ok (.aload_n 0, 1) := by decide +kernel
theorem d_Md_findBoxes_5 : decode b_Md_findBoxes 5 = .ok (.getfield 113, 3) := by decide +kernel
theorem d_Md_findBoxes_8 : decode b_Md_findBoxes 8 = .ok (.ishl, 1) := by decide +kernel
theorem d_Md_findBoxes_9 : decode b_Md_findBoxes 9 = .ok (.if_icmp .ge 68, 3) := by decide +kernel
theorem d_Md_findBoxes_12 : decode b_Md_findBoxes 12 = .ok (.iconst (-1), 1) := by decide +kernel
theorem d_Md_findBoxes_13 : decode b_Md_findBoxes 13 = .ok (.istore_n 2, 1) := by decide +kernel
theorem d_Md_findBoxes_14 : decode b_Md_findBoxes 14 = .ok (.iconst 0, 1) := by decide +kernel
theorem d_Md_findBoxes_15 : decode b_Md_findBoxes 15 = .ok (.istore_n 3, 1) := by decide +kernel
theorem d_Md_findBoxes_16 : decode b_Md_findBoxes 16 = .ok (.iload_n 3, 1) := by decide +kernel
theorem d_Md_findBoxes_17 : decode b_Md_findBoxes 17 = .ok (.aload_n 0, 1) := by decide +kernel
theorem d_Md_findBoxes_18 : decode b_Md_findBoxes 18 = .ok (.getfield 105, 3) := by decide +kernel
theorem d_Md_findBoxes_21 : decode b_Md_findBoxes 21 = .ok (.if_icmp .ge 43, 3) := by decide +kernel
theorem d_Md_findBoxes_24 : decode b_Md_findBoxes 24 = .ok (.aload_n 0, 1) := by decide +kernel
theorem d_Md_findBoxes_25 : decode b_Md_findBoxes 25 = .ok (.iload_n 1, 1) := by decide +kernel
theorem d_Md_findBoxes_26 : decode b_Md_findBoxes 26 = .ok (.iload_n 3, 1) := by decide +kernel
theorem d_Md_findBoxes_27 : decode b_Md_findBoxes 27 = .ok (.invokevirtual 135, 3) := by decide +kernel
theorem d_Md_findBoxes_30 : decode b_Md_findBoxes 30 = .ok (.ifCond .eq 26, 3) := by decide +kernel
theorem d_Md_findBoxes_33 : decode b_Md_findBoxes 33 = .ok (.iload_n 2, 1) := by decide +kernel
theorem d_Md_findBoxes_34 : decode b_Md_findBoxes 34 = .ok (.ifCond .lt 18, 3) := by decide +kernel
theorem d_Md_findBoxes_37 : decode b_Md_findBoxes 37 = .ok (.aload_n 0, 1) := by decide +kernel
theorem d_Md_findBoxes_38 : decode b_Md_findBoxes 38 = .ok (.getfield 19, 3) := by decide +kernel
theorem d_Md_findBoxes_41 : decode b_Md_findBoxes 41 = .ok (.iload_n 3, 1) := by decide +kernel
theorem d_Md_findBoxes_42 : decode b_Md_findBoxes 42 = .ok (.iaload, 1) := by decide +kernel
theorem d_Md_findBoxes_43 : decode b_Md_findBoxes 43 = .ok (.aload_n 0, 1) := by decide +kernel
theorem d_Md_findBoxes_44 : decode b_Md_findBoxes 44 = .ok (.getfield 19, 3) := by decide +kernel
theorem d_Md_findBoxes_47 : decode b_Md_findBoxes 47 = .ok (.iload_n 2, 1) := by decide +kernel
theorem d_Md_findBoxes_48 : decode b_Md_findBoxes 48 = .ok (.iaload, 1) := by decide +kernel
theorem d_Md_findBoxes_49 : decode b_Md_findBoxes 49 = .ok (.if_icmp .ge 7, 3) := by decide +kernel
theorem d_Md_findBoxes_52 : decode b_Md_findBoxes 52 = .ok (.iload_n 3, 1) := by decide +kernel
theorem d_Md_findBoxes_53 : decode b_Md_findBoxes 53 = .ok (.goto 4, 3) := by decide +kernel
theorem d_Md_findBoxes_56 : decode b_Md_findBoxes 56 = .ok (.iload_n 2, 1) := by decide +kernel
theorem d_Md_findBoxes_57 : decode b_Md_findBoxes 57 = .ok (.istore_n 2, 1) := by decide +kernel
theorem d_Md_findBoxes_58 : decode b_Md_findBoxes 58 = .ok (.iinc 3 1, 3) := by decide +kernel
theorem d_Md_findBoxes_61 : decode b_Md_findBoxes 61 = .ok (.goto (-45), 3) := by decide +kernel
theorem d_Md_findBoxes_64 : decode b_Md_findBoxes 64 = .ok (.aload_n 0, 1) := by decide +kernel
theorem d_Md_findBoxes_65 : decode b_Md_findBoxes 65 = .ok (.getfield 65, 3) := by decide +kernel
theorem d_Md_findBoxes_68 : decode b_Md_findBoxes 68 = .ok (.iload_n 1, 1) := by decide +kernel
theorem d_Md_findBoxes_69 : decode b_Md_findBoxes 69 = .ok (.iload_n 2, 1) := by decide +kernel
theorem d_Md_findBoxes_70 : decode b_Md_findBoxes 70 = .ok (.iastore, 1) := by decide +kernel
theorem d_Md_findBoxes_71 : decode b_Md_findBoxes 71 = .ok (.iinc 1 1, 3) := by decide +kernel
theorem d_Md_findBoxes_74 : decode b_Md_findBoxes 74 = .ok (.goto (-72), 3) := by decide +kernel
theorem d_Md_findBoxes_77 : decode b_Md_findBoxes 77 = .ok (.return_, 1) := by decide +kernel
theorem d_Md_setsOf_0 : decode b_Md_setsOf 0 = .ok (.iconst 0, 1) := by decide +kernel
theorem d_Md_setsOf_1 : decode b_Md_setsOf 1 = .ok (.istore_n 2, 1) := by decide +kernel
theorem d_Md_setsOf_2 : decode b_Md_setsOf 2 = .ok (.iconst 0, 1) := by decide +kernel
theorem d_Md_setsOf_3 : decode b_Md_setsOf 3 = .ok (.istore_n 3, 1) := by decide +kernel
theorem d_Md_setsOf_4 : decode b_Md_setsOf 4 = .ok (.iload_n 3, 1) := by decide +kernel
theorem d_Md_setsOf_5 : decode b_Md_setsOf 5 = .ok (.bipush 8, 2) := by decide +kernel
theorem d_Md_setsOf_7 : decode b_Md_setsOf 7 = .ok (.if_icmp .ge 16, 3) := by decide +kernel
theorem d_Md_setsOf_10 : decode b_Md_setsOf 10 = .ok (.aload_n 0, 1) := by decide +kernel
theorem d_Md_setsOf_11 : decode b_Md_setsOf 11 = .ok (.getfield 74, 3) := by decide +kernel
theorem d_Md_setsOf_14 : decode b_Md_setsOf 14 = .ok (.iload_n 3, 1) := by decide +kernel
theorem d_Md_setsOf_15 : decode b_Md_setsOf 15 = .ok (.iconst 0, 1) := by decide +kernel
theorem d_Md_setsOf_16 : decode b_Md_setsOf 16 = .ok (.iastore, 1) := by decide +kernel
theorem d_Md_setsOf_17 : decode b_Md_setsOf 17 = .ok (.iinc 3 1, 3) := by decide +kernel
theorem d_Md_setsOf_20 : decode b_Md_setsOf 20 = .ok (.goto (-16), 3) := by decide +kernel
theorem d_Md_setsOf_23 : decode b_Md_setsOf 23 = .ok (.iconst 0, 1) := by decide +kernel
theorem d_Md_setsOf_24 : decode b_Md_setsOf 24 = .ok (.istore_n 3, 1) := by decide +kernel
theorem d_Md_setsOf_25 : decode b_Md_setsOf 25 = .ok (.iload_n 3, 1) := by decide +kernel
theorem d_Md_setsOf_26 : decode b_Md_setsOf 26 = .ok (.aload_n 0, 1) := by decide +kernel
theorem d_Md_setsOf_27 : decode b_Md_setsOf 27 = .ok (.getfield 113, 3) := by decide +kernel
theorem d_Md_setsOf_30 : decode b_Md_setsOf 30 = .ok (.if_icmp .ge 40, 3) := by decide +kernel
theorem d_Md_setsOf_33 : decode b_Md_setsOf 33 = .ok (.aload_n 0, 1) := by decide +kernel
theorem d_Md_setsOf_34 : decode b_Md_setsOf 34 = .ok (.getfield 74, 3) := by decide +kernel
theorem d_Md_setsOf_37 : decode b_Md_setsOf 37 = .ok (.aload_n 1, 1) := by decide +kernel
theorem d_Md_setsOf_38 : decode b_Md_setsOf 38 = .ok (.iload_n 3, 1) := by decide +kernel
theorem d_Md_setsOf_39 : decode b_Md_setsOf 39 = .ok (.iaload, 1) := by decide +kernel
theorem d_Md_setsOf_40 : decode b_Md_setsOf 40 = .ok (.dup2, 1) := by decide +kernel
theorem d_Md_setsOf_41 : decode b_Md_setsOf 41 = .ok (.iaload, 1) := by decide +kernel
theorem d_Md_setsOf_42 : decode b_Md_setsOf 42 = .ok (.iconst 1, 1) := by decide +kernel
theorem d_Md_setsOf_43 : decode b_Md_setsOf 43 = .ok (.iload_n 3, 1) := by decide +kernel
theorem d_Md_setsOf_44 : decode b_Md_setsOf 44 = .ok (.ishl, 1) := by decide +kernel
theorem d_Md_setsOf_45 : decode b_Md_setsOf 45 = .ok (.ior, 1) := by decide +kernel
theorem d_Md_setsOf_46 : decode b_Md_setsOf 46 = .ok (.iastore, 1) := by decide +kernel
theorem d_Md_setsOf_47 : decode b_Md_setsOf 47 = .ok (.aload_n 1, 1) := by decide +kernel
theorem d_Md_setsOf_48 : decode b_Md_setsOf 48 = .ok (.iload_n 3, 1) := by decide +kernel
theorem d_Md_setsOf_49 : decode b_Md_setsOf 49 = .ok (.iaload, 1) := by decide +kernel
theorem d_Md_setsOf_50 : decode b_Md_setsOf 50 = .ok (.iload_n 2, 1) := by decide +kernel
theorem d_Md_setsOf_51 : decode b_Md_setsOf 51 = .ok (.if_icmp .lt 11, 3) := by decide +kernel
theorem d_Md_setsOf_54 : decode b_Md_setsOf 54 = .ok (.aload_n 1, 1) := by decide +kernel
theorem d_Md_setsOf_55 : decode b_Md_setsOf 55 = .ok (.iload_n 3, 1) := by decide +kernel
theorem d_Md_setsOf_56 : decode b_Md_setsOf 56 = .ok (.iaload, 1) := by decide +kernel
theorem d_Md_setsOf_57 : decode b_Md_setsOf 57 = .ok (.iconst 1, 1) := by decide +kernel
theorem d_Md_setsOf_58 : decode b_Md_setsOf 58 = .ok (.iadd, 1) := by decide +kernel
theorem d_Md_setsOf_59 : decode b_Md_setsOf 59 = .ok (.goto 4, 3) := by decide +kernel
theorem d_Md_setsOf_62 : decode b_Md_setsOf 62 = .ok (.iload_n 2, 1) := by decide +kernel
theorem d_Md_setsOf_63 : decode b_Md_setsOf 63 = .ok (.istore_n 2, 1) := by decide +kernel
theorem d_Md_setsOf_64 : decode b_Md_setsOf 64 = .ok (.iinc 3 1, 3) := by decide +kernel
theorem d_Md_setsOf_67 : decode b_Md_setsOf 67 = .ok (.goto (-42), 3) := by decide +kernel
theorem d_Md_setsOf_70 : decode b_Md_setsOf 70 = .ok (.iload_n 2, 1) := by decide +kernel
theorem d_Md_setsOf_71 : decode b_Md_setsOf 71 = .ok (.ireturn, 1) := by decide +kernel
theorem d_Md_costOf_0 : decode b_Md_costOf 0 = .ok (.iconst 0, 1) := by decide +kernel
theorem d_Md_costOf_1 : decode b_Md_costOf 1 = .ok (.istore_n 2, 1) := by decide +kernel
theorem d_Md_costOf_2 : decode b_Md_costOf 2 = .ok (.iconst 0, 1) := by decide +kernel
theorem d_Md_costOf_3 : decode b_Md_costOf 3 = .ok (.istore_n 3, 1) := by decide +kernel
theorem d_Md_costOf_4 : decode b_Md_costOf 4 = .ok (.iload_n 3, 1) := by decide +kernel
theorem d_Md_costOf_5 : decode b_Md_costOf 5 = .ok (.iload_n 1, 1) := by decide +kernel
theorem d_Md_costOf_6 : decode b_Md_costOf 6 = .ok (.if_icmp .ge 44, 3) := by decide +kernel
theorem d_Md_costOf_9 : decode b_Md_costOf 9 = .ok (.aload_n 0, 1) := by decide +kernel
theorem d_Md_costOf_10 : decode b_Md_costOf 10 = .ok (.getfield 65, 3) := by decide +kernel
theorem d_Md_costOf_13 : decode b_Md_costOf 13 = .ok (.aload_n 0, 1) := by decide +kernel
theorem d_Md_costOf_14 : decode b_Md_costOf 14 = .ok (.getfield 74, 3) := by decide +kernel
theorem d_Md_costOf_17 : decode b_Md_costOf 17 = .ok (.iload_n 3, 1) := by decide +kernel
theorem d_Md_costOf_18 : decode b_Md_costOf 18 = .ok (.iaload, 1) := by decide +kernel
theorem d_Md_costOf_19 : decode b_Md_costOf 19 = .ok (.iaload, 1) := by decide +kernel
theorem d_Md_costOf_20 : decode b_Md_costOf 20 = .ok (.ifCond .ge 5, 3) := by decide +kernel
theorem d_Md_costOf_23 : decode b_Md_costOf 23 = .ok (.iconst (-1), 1) := by decide +kernel
theorem d_Md_costOf_24 : decode b_Md_costOf 24 = .ok (.ireturn, 1) := by decide +kernel
theorem d_Md_costOf_25 : decode b_Md_costOf 25 = .ok (.iload_n 2, 1) := by decide +kernel
theorem d_Md_costOf_26 : decode b_Md_costOf 26 = .ok (.aload_n 0, 1) := by decide +kernel
theorem d_Md_costOf_27 : decode b_Md_costOf 27 = .ok (.getfield 19, 3) := by decide +kernel
theorem d_Md_costOf_30 : decode b_Md_costOf 30 = .ok (.aload_n 0, 1) := by decide +kernel
theorem d_Md_costOf_31 : decode b_Md_costOf 31 = .ok (.getfield 65, 3) := by decide +kernel
theorem d_Md_costOf_34 : decode b_Md_costOf 34 = .ok (.aload_n 0, 1) := by decide +kernel
theorem d_Md_costOf_35 : decode b_Md_costOf 35 = .ok (.getfield 74, 3) := by decide +kernel
theorem d_Md_costOf_38 : decode b_Md_costOf 38 = .ok (.iload_n 3, 1) := by decide +kernel
theorem d_Md_costOf_39 : decode b_Md_costOf 39 = .ok (.iaload, 1) := by decide +kernel
theorem d_Md_costOf_40 : decode b_Md_costOf 40 = .ok (.iaload, 1) := by decide +kernel
theorem d_Md_costOf_41 : decode b_Md_costOf 41 = .ok (.iaload, 1) := by decide +kernel
theorem d_Md_costOf_42 : decode b_Md_costOf 42 = .ok (.iadd, 1) := by decide +kernel
theorem d_Md_costOf_43 : decode b_Md_costOf 43 = .ok (.istore_n 2, 1) := by decide +kernel
theorem d_Md_costOf_44 : decode b_Md_costOf 44 = .ok (.iinc 3 1, 3) := by decide +kernel
theorem d_Md_costOf_47 : decode b_Md_costOf 47 = .ok (.goto (-43), 3) := by decide +kernel
theorem d_Md_costOf_50 : decode b_Md_costOf 50 = .ok (.iload_n 2, 1) := by decide +kernel
theorem d_Md_costOf_51 : decode b_Md_costOf 51 = .ok (.ireturn, 1) := by decide +kernel
theorem d_Md_next_0 : decode b_Md_next 0 = .ok (.aload_n 0, 1) := by decide +kernel
theorem d_Md_next_1 : decode b_Md_next 1 = .ok (.getfield 113, 3) := by decide +kernel
theorem d_Md_next_4 : decode b_Md_next 4 = .ok (.iconst 1, 1) := by decide +kernel
theorem d_Md_next_5 : decode b_Md_next 5 = .ok (.isub, 1) := by decide +kernel
theorem d_Md_next_6 : decode b_Md_next 6 = .ok (.istore_n 1, 1) := by decide +kernel
theorem d_Md_next_7 : decode b_Md_next 7 = .ok (.iload_n 1, 1) := by decide +kernel
theorem d_Md_next_8 : decode b_Md_next 8 = .ok (.ifCond .le 92, 3) := by decide +kernel
theorem d_Md_next_11 : decode b_Md_next 11 = .ok (.iconst 0, 1) := by decide +kernel
theorem d_Md_next_12 : decode b_Md_next 12 = .ok (.istore_n 2, 1) := by decide +kernel
theorem d_Md_next_13 : decode b_Md_next 13 = .ok (.iconst 0, 1) := by decide +kernel
theorem d_Md_next_14 : decode b_Md_next 14 = .ok (.istore_n 3, 1) := by decide +kernel
theorem d_Md_next_15 : decode b_Md_next 15 = .ok (.iload_n 3, 1) := by decide +kernel
theorem d_Md_next_16 : decode b_Md_next 16 = .ok (.iload_n 1, 1) := by decide +kernel
theorem d_Md_next_17 : decode b_Md_next 17 = .ok (.if_icmp .ge 30, 3) := by decide +kernel
theorem d_Md_next_20 : decode b_Md_next 20 = .ok (.aload_n 0, 1) := by decide +kernel
theorem d_Md_next_21 : decode b_Md_next 21 = .ok (.getfield 71, 3) := by decide +kernel
theorem d_Md_next_24 : decode b_Md_next 24 = .ok (.iload_n 3, 1) := by decide +kernel
theorem d_Md_next_25 : decode b_Md_next 25 = .ok (.iaload, 1) := by decide +kernel
theorem d_Md_next_26 : decode b_Md_next 26 = .ok (.iload_n 2, 1) := by decide +kernel
theorem d_Md_next_27 : decode b_Md_next 27 = .ok (.if_icmp .le 12, 3) := by decide +kernel
theorem d_Md_next_30 : decode b_Md_next 30 = .ok (.aload_n 0, 1) := by decide +kernel
theorem d_Md_next_31 : decode b_Md_next 31 = .ok (.getfield 71, 3) := by decide +kernel
theorem d_Md_next_34 : decode b_Md_next 34 = .ok (.iload_n 3, 1) := by decide +kernel
theorem d_Md_next_35 : decode b_Md_next 35 = .ok (.iaload, 1) := by decide +kernel
theorem d_Md_next_36 : decode b_Md_next 36 = .ok (.goto 4, 3) := by decide +kernel
theorem d_Md_next_39 : decode b_Md_next 39 = .ok (.iload_n 2, 1) := by decide +kernel
theorem d_Md_next_40 : decode b_Md_next 40 = .ok (.istore_n 2, 1) := by decide +kernel
theorem d_Md_next_41 : decode b_Md_next 41 = .ok (.iinc 3 1, 3) := by decide +kernel
theorem d_Md_next_44 : decode b_Md_next 44 = .ok (.goto (-29), 3) := by decide +kernel
theorem d_Md_next_47 : decode b_Md_next 47 = .ok (.aload_n 0, 1) := by decide +kernel
theorem d_Md_next_48 : decode b_Md_next 48 = .ok (.getfield 71, 3) := by decide +kernel
theorem d_Md_next_51 : decode b_Md_next 51 = .ok (.iload_n 1, 1) := by decide +kernel
theorem d_Md_next_52 : decode b_Md_next 52 = .ok (.iaload, 1) := by decide +kernel
theorem d_Md_next_53 : decode b_Md_next 53 = .ok (.iload_n 2, 1) := by decide +kernel
theorem d_Md_next_54 : decode b_Md_next 54 = .ok (.if_icmp .gt 40, 3) := by decide +kernel
theorem d_Md_next_57 : decode b_Md_next 57 = .ok (.aload_n 0, 1) := by decide +kernel
theorem d_Md_next_58 : decode b_Md_next 58 = .ok (.getfield 71, 3) := by decide +kernel
theorem d_Md_next_61 : decode b_Md_next 61 = .ok (.iload_n 1, 1) := by decide +kernel
theorem d_Md_next_62 : decode b_Md_next 62 = .ok (.dup2, 1) := by decide +kernel
theorem d_Md_next_63 : decode b_Md_next 63 = .ok (.iaload, 1) := by decide +kernel
theorem d_Md_next_64 : decode b_Md_next 64 = .ok (.iconst 1, 1) := by decide +kernel
theorem d_Md_next_65 : decode b_Md_next 65 = .ok (.iadd, 1) := by decide +kernel
theorem d_Md_next_66 : decode b_Md_next 66 = .ok (.iastore, 1) := by decide +kernel
theorem d_Md_next_67 : decode b_Md_next 67 = .ok (.iload_n 1, 1) := by decide +kernel
theorem d_Md_next_68 : decode b_Md_next 68 = .ok (.iconst 1, 1) := by decide +kernel
theorem d_Md_next_69 : decode b_Md_next 69 = .ok (.iadd, 1) := by decide +kernel
theorem d_Md_next_70 : decode b_Md_next 70 = .ok (.istore_n 3, 1) := by decide +kernel
theorem d_Md_next_71 : decode b_Md_next 71 = .ok (.iload_n 3, 1) := by decide +kernel
theorem d_Md_next_72 : decode b_Md_next 72 = .ok (.aload_n 0, 1) := by decide +kernel
theorem d_Md_next_73 : decode b_Md_next 73 = .ok (.getfield 113, 3) := by decide +kernel
theorem d_Md_next_76 : decode b_Md_next 76 = .ok (.if_icmp .ge 16, 3) := by decide +kernel
theorem d_Md_next_79 : decode b_Md_next 79 = .ok (.aload_n 0, 1) := by decide +kernel
theorem d_Md_next_80 : decode b_Md_next 80 = .ok (.getfield 71, 3) := by decide +kernel
theorem d_Md_next_83 : decode b_Md_next 83 = .ok (.iload_n 3, 1) := by decide +kernel
theorem d_Md_next_84 : decode b_Md_next 84 = .ok (.iconst 0, 1) := by decide +kernel
theorem d_Md_next_85 : decode b_Md_next 85 = .ok (.iastore, 1) := by decide +kernel
theorem d_Md_next_86 : decode b_Md_next 86 = .ok (.iinc 3 1, 3) := by decide +kernel
theorem d_Md_next_89 : decode b_Md_next 89 = .ok (.goto (-18), 3) := by decide +kernel
theorem d_Md_next_92 : decode b_Md_next 92 = .ok (.iconst 1, 1) := by decide +kernel
theorem d_Md_next_93 : decode b_Md_next 93 = .ok (.ireturn, 1) := by decide +kernel
theorem d_Md_next_94 : decode b_Md_next 94 = .ok (.iinc 1 (-1), 3) := by decide +kernel
theorem d_Md_next_97 : decode b_Md_next 97 = .ok (.goto (-90), 3) := by decide +kernel
theorem d_Md_next_100 : decode b_Md_next 100 = .ok (.iconst 0, 1) := by decide +kernel
theorem d_Md_next_101 : decode b_Md_next 101 = .ok (.ireturn, 1) := by decide +kernel
theorem d_Md_run_0 : decode b_Md_run 0 = .ok (.aload_n 0, 1) := by decide +kernel
theorem d_Md_run_1 : decode b_Md_run 1 = .ok (.iconst 0, 1) := by decide +kernel
theorem d_Md_run_2 : decode b_Md_run 2 = .ok (.putfield 93, 3) := by decide +kernel
theorem d_Md_run_5 : decode b_Md_run 5 = .ok (.aload_n 0, 1) := by decide +kernel
theorem d_Md_run_6 : decode b_Md_run 6 = .ok (.invokevirtual 138, 3) := by decide +kernel
theorem d_Md_run_9 : decode b_Md_run 9 = .ok (.iconst 0, 1) := by decide +kernel
theorem d_Md_run_10 : decode b_Md_run 10 = .ok (.istore_n 1, 1) := by decide +kernel
theorem d_Md_run_11 : decode b_Md_run 11 = .ok (.iload_n 1, 1) := by decide +kernel
theorem d_Md_run_12 : decode b_Md_run 12 = .ok (.bipush 8, 2) := by decide +kernel
theorem d_Md_run_14 : decode b_Md_run 14 = .ok (.if_icmp .ge 16, 3) := by decide +kernel
theorem d_Md_run_17 : decode b_Md_run 17 = .ok (.aload_n 0, 1) := by decide +kernel
theorem d_Md_run_18 : decode b_Md_run 18 = .ok (.getfield 71, 3) := by decide +kernel
theorem d_Md_run_21 : decode b_Md_run 21 = .ok (.iload_n 1, 1) := by decide +kernel
theorem d_Md_run_22 : decode b_Md_run 22 = .ok (.iconst 0, 1) := by decide +kernel
theorem d_Md_run_23 : decode b_Md_run 23 = .ok (.iastore, 1) := by decide +kernel
theorem d_Md_run_24 : decode b_Md_run 24 = .ok (.iinc 1 1, 3) := by decide +kernel
theorem d_Md_run_27 : decode b_Md_run 27 = .ok (.goto (-16), 3) := by decide +kernel
theorem d_Md_run_30 : decode b_Md_run 30 = .ok (.iconst (-1), 1) := by decide +kernel
theorem d_Md_run_31 : decode b_Md_run 31 = .ok (.istore_n 1, 1) := by decide +kernel
theorem d_Md_run_32 : decode b_Md_run 32 = .ok (.aload_n 0, 1) := by decide +kernel
theorem d_Md_run_33 : decode b_Md_run 33 = .ok (.iconst 0, 1) := by decide +kernel
theorem d_Md_run_34 : decode b_Md_run 34 = .ok (.putfield 141, 3) := by decide +kernel
theorem d_Md_run_37 : decode b_Md_run 37 = .ok (.iconst 1, 1) := by decide +kernel
theorem d_Md_run_38 : decode b_Md_run 38 = .ok (.istore_n 2, 1) := by decide +kernel
theorem d_Md_run_39 : decode b_Md_run 39 = .ok (.iload_n 2, 1) := by decide +kernel
theorem d_Md_run_40 : decode b_Md_run 40 = .ok (.ifCond .eq 96, 3) := by decide +kernel
theorem d_Md_run_43 : decode b_Md_run 43 = .ok (.aload_n 0, 1) := by decide +kernel
theorem d_Md_run_44 : decode b_Md_run 44 = .ok (.aload_n 0, 1) := by decide +kernel
theorem d_Md_run_45 : decode b_Md_run 45 = .ok (.getfield 71, 3) := by decide +kernel
theorem d_Md_run_48 : decode b_Md_run 48 = .ok (.invokevirtual 144, 3) := by decide +kernel
theorem d_Md_run_51 : decode b_Md_run 51 = .ok (.istore_n 3, 1) := by decide +kernel
theorem d_Md_run_52 : decode b_Md_run 52 = .ok (.aload_n 0, 1) := by decide +kernel
theorem d_Md_run_53 : decode b_Md_run 53 = .ok (.iload_n 3, 1) := by decide +kernel
theorem d_Md_run_54 : decode b_Md_run 54 = .ok (.invokevirtual 148, 3) := by decide +kernel
theorem d_Md_run_57 : decode b_Md_run 57 = .ok (.istore 4, 2) := by decide +kernel
theorem d_Md_run_59 : decode b_Md_run 59 = .ok (.iload 4, 2) := by decide +kernel
theorem d_Md_run_61 : decode b_Md_run 61 = .ok (.ifCond .lt 67, 3) := by decide +kernel
theorem d_Md_run_64 : decode b_Md_run 64 = .ok (.iload_n 1, 1) := by decide +kernel
theorem d_Md_run_65 : decode b_Md_run 65 = .ok (.ifCond .lt 23, 3) := by decide +kernel
theorem d_Md_run_68 : decode b_Md_run 68 = .ok (.iload 4, 2) := by decide +kernel
theorem d_Md_run_70 : decode b_Md_run 70 = .ok (.iload_n 1, 1) := by decide +kernel
theorem d_Md_run_71 : decode b_Md_run 71 = .ok (.if_icmp .lt 17, 3) := by decide +kernel
theorem d_Md_run_74 : decode b_Md_run 74 = .ok (.iload 4, 2) := by decide +kernel
theorem d_Md_run_76 : decode b_Md_run 76 = .ok (.iload_n 1, 1) := by decide +kernel
theorem d_Md_run_77 : decode b_Md_run 77 = .ok (.if_icmp .ne 51, 3) := by decide +kernel
theorem d_Md_run_80 : decode b_Md_run 80 = .ok (.iload_n 3, 1) := by decide +kernel
theorem d_Md_run_81 : decode b_Md_run 81 = .ok (.aload_n 0, 1) := by decide +kernel
theorem d_Md_run_82 : decode b_Md_run 82 = .ok (.getfield 141, 3) := by decide +kernel
theorem d_Md_run_85 : decode b_Md_run 85 = .ok (.if_icmp .ge 43, 3) := by decide +kernel
theorem d_Md_run_88 : decode b_Md_run 88 = .ok (.iload 4, 2) := by decide +kernel
theorem d_Md_run_90 : decode b_Md_run 90 = .ok (.istore_n 1, 1) := by decide +kernel
theorem d_Md_run_91 : decode b_Md_run 91 = .ok (.aload_n 0, 1) := by decide +kernel
theorem d_Md_run_92 : decode b_Md_run 92 = .ok (.iload_n 3, 1) := by decide +kernel
theorem d_Md_run_93 : decode b_Md_run 93 = .ok (.putfield 141, 3) := by decide +kernel
theorem d_Md_run_96 : decode b_Md_run 96 = .ok (.iconst 0, 1) := by decide +kernel
theorem d_Md_run_97 : decode b_Md_run 97 = .ok (.istore 5, 2) := by decide +kernel
theorem d_Md_run_99 : decode b_Md_run 99 = .ok (.iload 5, 2) := by decide +kernel
theorem d_Md_run_101 : decode b_Md_run 101 = .ok (.aload_n 0, 1) := by decide +kernel
theorem d_Md_run_102 : decode b_Md_run 102 = .ok (.getfield 113, 3) := by decide +kernel
theorem d_Md_run_105 : decode b_Md_run 105 = .ok (.if_icmp .ge 23, 3) := by decide +kernel
theorem d_Md_run_108 : decode b_Md_run 108 = .ok (.aload_n 0, 1) := by decide +kernel
theorem d_Md_run_109 : decode b_Md_run 109 = .ok (.getfield 68, 3) := by decide +kernel
theorem d_Md_run_112 : decode b_Md_run 112 = .ok (.iload 5, 2) := by decide +kernel
theorem d_Md_run_114 : decode b_Md_run 114 = .ok (.aload_n 0, 1) := by decide +kernel
theorem d_Md_run_115 : decode b_Md_run 115 = .ok (.getfield 71, 3) := by decide +kernel
theorem d_Md_run_118 : decode b_Md_run 118 = .ok (.iload 5, 2) := by decide +kernel
theorem d_Md_run_120 : decode b_Md_run 120 = .ok (.iaload, 1) := by decide +kernel
theorem d_Md_run_121 : decode b_Md_run 121 = .ok (.iastore, 1) := by decide +kernel
theorem d_Md_run_122 : decode b_Md_run 122 = .ok (.iinc 5 1, 3) := by decide +kernel
theorem d_Md_run_125 : decode b_Md_run 125 = .ok (.goto (-26), 3) := by decide +kernel
theorem d_Md_run_128 : decode b_Md_run 128 = .ok (.aload_n 0, 1) := by decide +kernel
theorem d_Md_run_129 : decode b_Md_run 129 = .ok (.invokevirtual 151, 3) := by decide +kernel
theorem d_Md_run_132 : decode b_Md_run 132 = .ok (.istore_n 2, 1) := by decide +kernel
theorem d_Md_run_133 : decode b_Md_run 133 = .ok (.goto (-94), 3) := by decide +kernel
theorem d_Md_run_136 : decode b_Md_run 136 = .ok (.aload_n 0, 1) := by decide +kernel
theorem d_Md_run_137 : decode b_Md_run 137 = .ok (.iload_n 1, 1) := by decide +kernel
theorem d_Md_run_138 : decode b_Md_run 138 = .ok (.ifCond .lt 7, 3) := by decide +kernel
theorem d_Md_run_141 : decode b_Md_run 141 = .ok (.iconst 1, 1) := by decide +kernel
theorem d_Md_run_142 : decode b_Md_run 142 = .ok (.goto 4, 3) := by decide +kernel
theorem d_Md_run_145 : decode b_Md_run 145 = .ok (.iconst 0, 1) := by decide +kernel
theorem d_Md_run_146 : decode b_Md_run 146 = .ok (.putfield 108, 3) := by decide +kernel
theorem d_Md_run_149 : decode b_Md_run 149 = .ok (.aload_n 0, 1) := by decide +kernel
theorem d_Md_run_150 : decode b_Md_run 150 = .ok (.getfield 108, 3) := by decide +kernel
theorem d_Md_run_153 : decode b_Md_run 153 = .ok (.ifCond .eq 10, 3) := by decide +kernel
theorem d_Md_run_156 : decode b_Md_run 156 = .ok (.aload_n 0, 1) := by decide +kernel
theorem d_Md_run_157 : decode b_Md_run 157 = .ok (.getfield 141, 3) := by decide +kernel
theorem d_Md_run_160 : decode b_Md_run 160 = .ok (.goto 4, 3) := by decide +kernel
theorem d_Md_run_163 : decode b_Md_run 163 = .ok (.iconst (-1), 1) := by decide +kernel
theorem d_Md_run_164 : decode b_Md_run 164 = .ok (.ireturn, 1) := by decide +kernel
theorem d_Md_packBox_0 : decode b_Md_packBox 0 = .ok (.aload_n 0, 1) := by decide +kernel
theorem d_Md_packBox_1 : decode b_Md_packBox 1 = .ok (.aload_n 0, 1) := by decide +kernel
theorem d_Md_packBox_2 : decode b_Md_packBox 2 = .ok (.getfield 68, 3) := by decide +kernel
theorem d_Md_packBox_5 : decode b_Md_packBox 5 = .ok (.invokevirtual 144, 3) := by decide +kernel
theorem d_Md_packBox_8 : decode b_Md_packBox 8 = .ok (.istore_n 2, 1) := by decide +kernel
theorem d_Md_packBox_9 : decode b_Md_packBox 9 = .ok (.aload_n 0, 1) := by decide +kernel
theorem d_Md_packBox_10 : decode b_Md_packBox 10 = .ok (.getfield 65, 3) := by decide +kernel
theorem d_Md_packBox_13 : decode b_Md_packBox 13 = .ok (.aload_n 0, 1) := by decide +kernel
theorem d_Md_packBox_14 : decode b_Md_packBox 14 = .ok (.getfield 74, 3) := by decide +kernel
theorem d_Md_packBox_17 : decode b_Md_packBox 17 = .ok (.iload_n 1, 1) := by decide +kernel
theorem d_Md_packBox_18 : decode b_Md_packBox 18 = .ok (.iaload, 1) := by decide +kernel
theorem d_Md_packBox_19 : decode b_Md_packBox 19 = .ok (.iaload, 1) := by decide +kernel
theorem d_Md_packBox_20 : decode b_Md_packBox 20 = .ok (.istore_n 3, 1) := by decide +kernel
theorem d_Md_packBox_21 : decode b_Md_packBox 21 = .ok (.aload_n 0, 1) := by decide +kernel
theorem d_Md_packBox_22 : decode b_Md_packBox 22 = .ok (.aload_n 0, 1) := by decide +kernel
theorem d_Md_packBox_23 : decode b_Md_packBox 23 = .ok (.getfield 74, 3) := by decide +kernel
theorem d_Md_packBox_26 : decode b_Md_packBox 26 = .ok (.iload_n 1, 1) := by decide +kernel
theorem d_Md_packBox_27 : decode b_Md_packBox 27 = .ok (.iaload, 1) := by decide +kernel
theorem d_Md_packBox_28 : decode b_Md_packBox 28 = .ok (.iload_n 3, 1) := by decide +kernel
theorem d_Md_packBox_29 : decode b_Md_packBox 29 = .ok (.invokevirtual 135, 3) := by decide +kernel
theorem d_Md_packBox_32 : decode b_Md_packBox 32 = .ok (.pop, 1) := by decide +kernel
theorem d_Md_packBox_33 : decode b_Md_packBox 33 = .ok (.iload_n 3, 1) := by decide +kernel
theorem d_Md_packBox_34 : decode b_Md_packBox 34 = .ok (.ireturn, 1) := by decide +kernel
theorem d_Md_isBelow_0 : decode b_Md_isBelow 0 = .ok (.aload_n 0, 1) := by decide +kernel
theorem d_Md_isBelow_1 : decode b_Md_isBelow 1 = .ok (.getfield 62, 3) := by decide +kernel
theorem d_Md_isBelow_4 : decode b_Md_isBelow 4 = .ok (.iload_n 1, 1) := by decide +kernel
theorem d_Md_isBelow_5 : decode b_Md_isBelow 5 = .ok (.baload, 1) := by decide +kernel
theorem d_Md_isBelow_6 : decode b_Md_isBelow 6 = .ok (.aload_n 0, 1) := by decide +kernel
theorem d_Md_isBelow_7 : decode b_Md_isBelow 7 = .ok (.getfield 62, 3) := by decide +kernel
theorem d_Md_isBelow_10 : decode b_Md_isBelow 10 = .ok (.iload_n 2, 1) := by decide +kernel
theorem d_Md_isBelow_11 : decode b_Md_isBelow 11 = .ok (.baload, 1) := by decide +kernel
theorem d_Md_isBelow_12 : decode b_Md_isBelow 12 = .ok (.if_icmp .eq 10, 3) := by decide +kernel
theorem d_Md_isBelow_15 : decode b_Md_isBelow 15 = .ok (.aload_n 0, 1) := by decide +kernel
theorem d_Md_isBelow_16 : decode b_Md_isBelow 16 = .ok (.getfield 62, 3) := by decide +kernel
theorem d_Md_isBelow_19 : decode b_Md_isBelow 19 = .ok (.iload_n 2, 1) := by decide +kernel
theorem d_Md_isBelow_20 : decode b_Md_isBelow 20 = .ok (.baload, 1) := by decide +kernel
theorem d_Md_isBelow_21 : decode b_Md_isBelow 21 = .ok (.ireturn, 1) := by decide +kernel
theorem d_Md_isBelow_22 : decode b_Md_isBelow 22 = .ok (.aload_n 0, 1) := by decide +kernel
theorem d_Md_isBelow_23 : decode b_Md_isBelow 23 = .ok (.getfield 59, 3) := by decide +kernel
theorem d_Md_isBelow_26 : decode b_Md_isBelow 26 = .ok (.iload_n 1, 1) := by decide +kernel
theorem d_Md_isBelow_27 : decode b_Md_isBelow 27 = .ok (.iaload, 1) := by decide +kernel
theorem d_Md_isBelow_28 : decode b_Md_isBelow 28 = .ok (.aload_n 0, 1) := by decide +kernel
theorem d_Md_isBelow_29 : decode b_Md_isBelow 29 = .ok (.getfield 59, 3) := by decide +kernel
theorem d_Md_isBelow_32 : decode b_Md_isBelow 32 = .ok (.iload_n 2, 1) := by decide +kernel
theorem d_Md_isBelow_33 : decode b_Md_isBelow 33 = .ok (.iaload, 1) := by decide +kernel
theorem d_Md_isBelow_34 : decode b_Md_isBelow 34 = .ok (.if_icmp .eq 24, 3) := by decide +kernel
theorem d_Md_isBelow_37 : decode b_Md_isBelow 37 = .ok (.aload_n 0, 1) := by decide +kernel
theorem d_Md_isBelow_38 : decode b_Md_isBelow 38 = .ok (.getfield 59, 3) := by decide +kernel
theorem d_Md_isBelow_41 : decode b_Md_isBelow 41 = .ok (.iload_n 1, 1) := by decide +kernel
theorem d_Md_isBelow_42 : decode b_Md_isBelow 42 = .ok (.iaload, 1) := by decide +kernel
theorem d_Md_isBelow_43 : decode b_Md_isBelow 43 = .ok (.aload_n 0, 1) := by decide +kernel
theorem d_Md_isBelow_44 : decode b_Md_isBelow 44 = .ok (.getfield 59, 3) := by decide +kernel
theorem d_Md_isBelow_47 : decode b_Md_isBelow 47 = .ok (.iload_n 2, 1) := by decide +kernel
theorem d_Md_isBelow_48 : decode b_Md_isBelow 48 = .ok (.iaload, 1) := by decide +kernel
theorem d_Md_isBelow_49 : decode b_Md_isBelow 49 = .ok (.if_icmp .le 7, 3) := by decide +kernel
theorem d_Md_isBelow_52 : decode b_Md_isBelow 52 = .ok (.iconst 1, 1) := by decide +kernel
theorem d_Md_isBelow_53 : decode b_Md_isBelow 53 = .ok (.goto 4, 3) := by decide +kernel
theorem d_Md_isBelow_56 : decode b_Md_isBelow 56 = .ok (.iconst 0, 1) := by decide +kernel
theorem d_Md_isBelow_57 : decode b_Md_isBelow 57 = .ok (.ireturn, 1) := by decide +kernel
theorem d_Md_isBelow_58 : decode b_Md_isBelow 58 = .ok (.aload_n 0, 1) := by decide +kernel
theorem d_Md_isBelow_59 : decode b_Md_isBelow 59 = .ok (.getfield 56, 3) := by decide +kernel
theorem d_Md_isBelow_62 : decode b_Md_isBelow 62 = .ok (.iload_n 1, 1) := by decide +kernel
theorem d_Md_isBelow_63 : decode b_Md_isBelow 63 = .ok (.iaload, 1) := by decide +kernel
theorem d_Md_isBelow_64 : decode b_Md_isBelow 64 = .ok (.aload_n 0, 1) := by decide +kernel
theorem d_Md_isBelow_65 : decode b_Md_isBelow 65 = .ok (.getfield 56, 3) := by decide +kernel
theorem d_Md_isBelow_68 : decode b_Md_isBelow 68 = .ok (.iload_n 2, 1) := by decide +kernel
theorem d_Md_isBelow_69 : decode b_Md_isBelow 69 = .ok (.iaload, 1) := by decide +kernel
theorem d_Md_isBelow_70 : decode b_Md_isBelow 70 = .ok (.if_icmp .eq 26, 3) := by decide +kernel
theorem d_Md_isBelow_73 : decode b_Md_isBelow 73 = .ok (.aload_n 0, 1) := by decide +kernel
theorem d_Md_isBelow_74 : decode b_Md_isBelow 74 = .ok (.getfield 56, 3) := by decide +kernel
theorem d_Md_isBelow_77 : decode b_Md_isBelow 77 = .ok (.iload_n 1, 1) := by decide +kernel
theorem d_Md_isBelow_78 : decode b_Md_isBelow 78 = .ok (.iaload, 1) := by decide +kernel
theorem d_Md_isBelow_79 : decode b_Md_isBelow 79 = .ok (.aload_n 0, 1) := by decide +kernel
theorem d_Md_isBelow_80 : decode b_Md_isBelow 80 = .ok (.getfield 56, 3) := by decide +kernel
theorem d_Md_isBelow_83 : decode b_Md_isBelow 83 = .ok (.iload_n 2, 1) := by decide +kernel
theorem d_Md_isBelow_84 : decode b_Md_isBelow 84 = .ok (.iaload, 1) := by decide +kernel
theorem d_Md_isBelow_85 : decode b_Md_isBelow 85 = .ok (.if_icmp .le 7, 3) := by decide +kernel
theorem d_Md_isBelow_88 : decode b_Md_isBelow 88 = .ok (.iconst 1, 1) := by decide +kernel
theorem d_Md_isBelow_89 : decode b_Md_isBelow 89 = .ok (.goto 17, 3) := by decide +kernel
theorem d_Md_isBelow_92 : decode b_Md_isBelow 92 = .ok (.iconst 0, 1) := by decide +kernel
theorem d_Md_isBelow_93 : decode b_Md_isBelow 93 = .ok (.goto 13, 3) := by decide +kernel
theorem d_Md_isBelow_96 : decode b_Md_isBelow 96 = .ok (.iload_n 1, 1) := by decide +kernel
theorem d_Md_isBelow_97 : decode b_Md_isBelow 97 = .ok (.iload_n 2, 1) := by decide +kernel
theorem d_Md_isBelow_98 : decode b_Md_isBelow 98 = .ok (.if_icmp .ge 7, 3) := by decide +kernel
theorem d_Md_isBelow_101 : decode b_Md_isBelow 101 = .ok (.iconst 1, 1) := by decide +kernel
theorem d_Md_isBelow_102 : decode b_Md_isBelow 102 = .ok (.goto 4, 3) := by decide +kernel
theorem d_Md_isBelow_105 : decode b_Md_isBelow 105 = .ok (.iconst 0, 1) := by decide +kernel
theorem d_Md_isBelow_106 : decode b_Md_isBelow 106 = .ok (.ireturn, 1) := by decide +kernel
theorem d_Md_at_0 : decode b_Md_at 0 = .ok (.aload_n 0, 1) := by decide +kernel
theorem d_Md_at_1 : decode b_Md_at 1 = .ok (.aload_n 0, 1) := by decide +kernel
theorem d_Md_at_2 : decode b_Md_at 2 = .ok (.getfield 108, 3) := by decide +kernel
theorem d_Md_at_5 : decode b_Md_at 5 = .ok (.ifCond .ne 7, 3) := by decide +kernel
theorem d_Md_at_8 : decode b_Md_at 8 = .ok (.iconst 1, 1) := by decide +kernel
theorem d_Md_at_9 : decode b_Md_at 9 = .ok (.goto 31, 3) := by decide +kernel
theorem d_Md_at_12 : decode b_Md_at 12 = .ok (.iload_n 1, 1) := by decide +kernel
theorem d_Md_at_13 : decode b_Md_at 13 = .ok (.iconst 0, 1) := by decide +kernel
theorem d_Md_at_14 : decode b_Md_at 14 = .ok (.aload_n 0, 1) := by decide +kernel
theorem d_Md_at_15 : decode b_Md_at 15 = .ok (.getfield 113, 3) := by decide +kernel
theorem d_Md_at_18 : decode b_Md_at 18 = .ok (.iconst 1, 1) := by decide +kernel
theorem d_Md_at_19 : decode b_Md_at 19 = .ok (.isub, 1) := by decide +kernel
theorem d_Md_at_20 : decode b_Md_at 20 = .ok (.invokestatic 96, 3) := by decide +kernel
theorem d_Md_at_23 : decode b_Md_at 23 = .ok (.ifCond .eq 12, 3) := by decide +kernel
theorem d_Md_at_26 : decode b_Md_at 26 = .ok (.iload_n 2, 1) := by decide +kernel
theorem d_Md_at_27 : decode b_Md_at 27 = .ok (.iconst 0, 1) := by decide +kernel
theorem d_Md_at_28 : decode b_Md_at 28 = .ok (.iconst 3, 1) := by decide +kernel
theorem d_Md_at_29 : decode b_Md_at 29 = .ok (.invokestatic 96, 3) := by decide +kernel
theorem d_Md_at_32 : decode b_Md_at 32 = .ok (.ifCond .ne 7, 3) := by decide +kernel
theorem d_Md_at_35 : decode b_Md_at 35 = .ok (.iconst 2, 1) := by decide +kernel
theorem d_Md_at_36 : decode b_Md_at 36 = .ok (.goto 4, 3) := by decide +kernel
theorem d_Md_at_39 : decode b_Md_at 39 = .ok (.iconst 0, 1) := by decide +kernel
theorem d_Md_at_40 : decode b_Md_at 40 = .ok (.putfield 93, 3) := by decide +kernel
theorem d_Md_at_43 : decode b_Md_at 43 = .ok (.aload_n 0, 1) := by decide +kernel
theorem d_Md_at_44 : decode b_Md_at 44 = .ok (.getfield 93, 3) := by decide +kernel
theorem d_Md_at_47 : decode b_Md_at 47 = .ok (.ifCond .le 5, 3) := by decide +kernel
theorem d_Md_at_50 : decode b_Md_at 50 = .ok (.iconst 0, 1) := by decide +kernel
theorem d_Md_at_51 : decode b_Md_at 51 = .ok (.ireturn, 1) := by decide +kernel
theorem d_Md_at_52 : decode b_Md_at 52 = .ok (.aload_n 0, 1) := by decide +kernel
theorem d_Md_at_53 : decode b_Md_at 53 = .ok (.aload_n 0, 1) := by decide +kernel
theorem d_Md_at_54 : decode b_Md_at 54 = .ok (.getfield 68, 3) := by decide +kernel
theorem d_Md_at_57 : decode b_Md_at 57 = .ok (.iload_n 1, 1) := by decide +kernel
theorem d_Md_at_58 : decode b_Md_at 58 = .ok (.iaload, 1) := by decide +kernel
theorem d_Md_at_59 : decode b_Md_at 59 = .ok (.invokevirtual 155, 3) := by decide +kernel
theorem d_Md_at_62 : decode b_Md_at 62 = .ok (.pop, 1) := by decide +kernel
theorem d_Md_at_63 : decode b_Md_at 63 = .ok (.iconst 0, 1) := by decide +kernel
theorem d_Md_at_64 : decode b_Md_at 64 = .ok (.istore_n 3, 1) := by decide +kernel
theorem d_Md_at_65 : decode b_Md_at 65 = .ok (.iconst 0, 1) := by decide +kernel
theorem d_Md_at_66 : decode b_Md_at 66 = .ok (.istore 4, 2) := by decide +kernel
theorem d_Md_at_68 : decode b_Md_at 68 = .ok (.iconst 0, 1) := by decide +kernel
theorem d_Md_at_69 : decode b_Md_at 69 = .ok (.istore 5, 2) := by decide +kernel
theorem d_Md_at_71 : decode b_Md_at 71 = .ok (.iload 5, 2) := by decide +kernel
theorem d_Md_at_73 : decode b_Md_at 73 = .ok (.aload_n 0, 1) := by decide +kernel
theorem d_Md_at_74 : decode b_Md_at 74 = .ok (.getfield 116, 3) := by decide +kernel
theorem d_Md_at_77 : decode b_Md_at 77 = .ok (.if_icmp .ge 39, 3) := by decide +kernel
theorem d_Md_at_80 : decode b_Md_at 80 = .ok (.aload_n 0, 1) := by decide +kernel
theorem d_Md_at_81 : decode b_Md_at 81 = .ok (.iload 5, 2) := by decide +kernel
theorem d_Md_at_83 : decode b_Md_at 83 = .ok (.aload_n 0, 1) := by decide +kernel
theorem d_Md_at_84 : decode b_Md_at 84 = .ok (.getfield 44, 3) := by decide +kernel
theorem d_Md_at_87 : decode b_Md_at 87 = .ok (.iload_n 1, 1) := by decide +kernel
theorem d_Md_at_88 : decode b_Md_at 88 = .ok (.iaload, 1) := by decide +kernel
theorem d_Md_at_89 : decode b_Md_at 89 = .ok (.invokevirtual 158, 3) := by decide +kernel
theorem d_Md_at_92 : decode b_Md_at 92 = .ok (.ifCond .eq 18, 3) := by decide +kernel
theorem d_Md_at_95 : decode b_Md_at 95 = .ok (.iinc 3 1, 3) := by decide +kernel
theorem d_Md_at_98 : decode b_Md_at 98 = .ok (.iload 4, 2) := by decide +kernel
theorem d_Md_at_100 : decode b_Md_at 100 = .ok (.aload_n 0, 1) := by decide +kernel
theorem d_Md_at_101 : decode b_Md_at 101 = .ok (.getfield 53, 3) := by decide +kernel
theorem d_Md_at_104 : decode b_Md_at 104 = .ok (.iload 5, 2) := by decide +kernel
theorem d_Md_at_106 : decode b_Md_at 106 = .ok (.iaload, 1) := by decide +kernel
theorem d_Md_at_107 : decode b_Md_at 107 = .ok (.iadd, 1) := by decide +kernel
theorem d_Md_at_108 : decode b_Md_at 108 = .ok (.istore 4, 2) := by decide +kernel
theorem d_Md_at_110 : decode b_Md_at 110 = .ok (.iinc 5 1, 3) := by decide +kernel
theorem d_Md_at_113 : decode b_Md_at 113 = .ok (.goto (-42), 3) := by decide +kernel
theorem d_Md_at_116 : decode b_Md_at 116 = .ok (.iload_n 2, 1) := by decide +kernel
theorem d_Md_at_117 : decode b_Md_at 117 = .ok (.ifCond .ne 12, 3) := by decide +kernel
theorem d_Md_at_120 : decode b_Md_at 120 = .ok (.aload_n 0, 1) := by decide +kernel
theorem d_Md_at_121 : decode b_Md_at 121 = .ok (.getfield 68, 3) := by decide +kernel
theorem d_Md_at_124 : decode b_Md_at 124 = .ok (.iload_n 1, 1) := by decide +kernel
theorem d_Md_at_125 : decode b_Md_at 125 = .ok (.iaload, 1) := by decide +kernel
theorem d_Md_at_126 : decode b_Md_at 126 = .ok (.goto 28, 3) := by decide +kernel
theorem d_Md_at_129 : decode b_Md_at 129 = .ok (.iload_n 2, 1) := by decide +kernel
theorem d_Md_at_130 : decode b_Md_at 130 = .ok (.iconst 1, 1) := by decide +kernel
theorem d_Md_at_131 : decode b_Md_at 131 = .ok (.if_icmp .ne 7, 3) := by decide +kernel
theorem d_Md_at_134 : decode b_Md_at 134 = .ok (.iload_n 3, 1) := by decide +kernel
theorem d_Md_at_135 : decode b_Md_at 135 = .ok (.goto 19, 3) := by decide +kernel
theorem d_Md_at_138 : decode b_Md_at 138 = .ok (.iload_n 2, 1) := by decide +kernel
theorem d_Md_at_139 : decode b_Md_at 139 = .ok (.iconst 2, 1) := by decide +kernel
theorem d_Md_at_140 : decode b_Md_at 140 = .ok (.if_icmp .ne 12, 3) := by decide +kernel
theorem d_Md_at_143 : decode b_Md_at 143 = .ok (.aload_n 0, 1) := by decide +kernel
theorem d_Md_at_144 : decode b_Md_at 144 = .ok (.getfield 47, 3) := by decide +kernel
theorem d_Md_at_147 : decode b_Md_at 147 = .ok (.iload_n 1, 1) := by decide +kernel
theorem d_Md_at_148 : decode b_Md_at 148 = .ok (.iaload, 1) := by decide +kernel
theorem d_Md_at_149 : decode b_Md_at 149 = .ok (.goto 5, 3) := by decide +kernel
theorem d_Md_at_152 : decode b_Md_at 152 = .ok (.iload 4, 2) := by decide +kernel
theorem d_Md_at_154 : decode b_Md_at 154 = .ok (.ireturn, 1) := by decide +kernel
theorem d_Md_gramsOf_0 : decode b_Md_gramsOf 0 = .ok (.iconst 0, 1) := by decide +kernel
theorem d_Md_gramsOf_1 : decode b_Md_gramsOf 1 = .ok (.istore_n 2, 1) := by decide +kernel
theorem d_Md_gramsOf_2 : decode b_Md_gramsOf 2 = .ok (.iconst 0, 1) := by decide +kernel
theorem d_Md_gramsOf_3 : decode b_Md_gramsOf 3 = .ok (.istore_n 3, 1) := by decide +kernel
theorem d_Md_gramsOf_4 : decode b_Md_gramsOf 4 = .ok (.iload_n 3, 1) := by decide +kernel
theorem d_Md_gramsOf_5 : decode b_Md_gramsOf 5 = .ok (.aload_n 0, 1) := by decide +kernel
theorem d_Md_gramsOf_6 : decode b_Md_gramsOf 6 = .ok (.getfield 113, 3) := by decide +kernel
theorem d_Md_gramsOf_9 : decode b_Md_gramsOf 9 = .ok (.if_icmp .ge 31, 3) := by decide +kernel
theorem d_Md_gramsOf_12 : decode b_Md_gramsOf 12 = .ok (.iload_n 2, 1) := by decide +kernel
theorem d_Md_gramsOf_13 : decode b_Md_gramsOf 13 = .ok (.aload_n 0, 1) := by decide +kernel
theorem d_Md_gramsOf_14 : decode b_Md_gramsOf 14 = .ok (.iload_n 1, 1) := by decide +kernel
theorem d_Md_gramsOf_15 : decode b_Md_gramsOf 15 = .ok (.iload_n 3, 1) := by decide +kernel
theorem d_Md_gramsOf_16 : decode b_Md_gramsOf 16 = .ok (.invokevirtual 123, 3) := by decide +kernel
theorem d_Md_gramsOf_19 : decode b_Md_gramsOf 19 = .ok (.ifCond .eq 12, 3) := by decide +kernel
theorem d_Md_gramsOf_22 : decode b_Md_gramsOf 22 = .ok (.aload_n 0, 1) := by decide +kernel
theorem d_Md_gramsOf_23 : decode b_Md_gramsOf 23 = .ok (.getfield 34, 3) := by decide +kernel
theorem d_Md_gramsOf_26 : decode b_Md_gramsOf 26 = .ok (.iload_n 3, 1) := by decide +kernel
theorem d_Md_gramsOf_27 : decode b_Md_gramsOf 27 = .ok (.iaload, 1) := by decide +kernel
theorem d_Md_gramsOf_28 : decode b_Md_gramsOf 28 = .ok (.goto 4, 3) := by decide +kernel
theorem d_Md_gramsOf_31 : decode b_Md_gramsOf 31 = .ok (.iconst 0, 1) := by decide +kernel
theorem d_Md_gramsOf_32 : decode b_Md_gramsOf 32 = .ok (.iadd, 1) := by decide +kernel
theorem d_Md_gramsOf_33 : decode b_Md_gramsOf 33 = .ok (.istore_n 2, 1) := by decide +kernel
theorem d_Md_gramsOf_34 : decode b_Md_gramsOf 34 = .ok (.iinc 3 1, 3) := by decide +kernel
theorem d_Md_gramsOf_37 : decode b_Md_gramsOf 37 = .ok (.goto (-33), 3) := by decide +kernel
theorem d_Md_gramsOf_40 : decode b_Md_gramsOf 40 = .ok (.iload_n 2, 1) := by decide +kernel
theorem d_Md_gramsOf_41 : decode b_Md_gramsOf 41 = .ok (.ireturn, 1) := by decide +kernel
theorem d_Md_box_0 : decode b_Md_box 0 = .ok (.aload_n 0, 1) := by decide +kernel
theorem d_Md_box_1 : decode b_Md_box 1 = .ok (.aload_n 0, 1) := by decide +kernel
theorem d_Md_box_2 : decode b_Md_box 2 = .ok (.getfield 108, 3) := by decide +kernel
theorem d_Md_box_5 : decode b_Md_box 5 = .ok (.ifCond .ne 7, 3) := by decide +kernel
theorem d_Md_box_8 : decode b_Md_box 8 = .ok (.iconst 1, 1) := by decide +kernel
theorem d_Md_box_9 : decode b_Md_box 9 = .ok (.goto 31, 3) := by decide +kernel
theorem d_Md_box_12 : decode b_Md_box 12 = .ok (.iload_n 1, 1) := by decide +kernel
theorem d_Md_box_13 : decode b_Md_box 13 = .ok (.iconst 0, 1) := by decide +kernel
theorem d_Md_box_14 : decode b_Md_box 14 = .ok (.aload_n 0, 1) := by decide +kernel
theorem d_Md_box_15 : decode b_Md_box 15 = .ok (.getfield 141, 3) := by decide +kernel
theorem d_Md_box_18 : decode b_Md_box 18 = .ok (.iconst 1, 1) := by decide +kernel
theorem d_Md_box_19 : decode b_Md_box 19 = .ok (.isub, 1) := by decide +kernel
theorem d_Md_box_20 : decode b_Md_box 20 = .ok (.invokestatic 96, 3) := by decide +kernel
theorem d_Md_box_23 : decode b_Md_box 23 = .ok (.ifCond .eq 12, 3) := by decide +kernel
theorem d_Md_box_26 : decode b_Md_box 26 = .ok (.iload_n 2, 1) := by decide +kernel
theorem d_Md_box_27 : decode b_Md_box 27 = .ok (.iconst 0, 1) := by decide +kernel
theorem d_Md_box_28 : decode b_Md_box 28 = .ok (.iconst 4, 1) := by decide +kernel
theorem d_Md_box_29 : decode b_Md_box 29 = .ok (.invokestatic 96, 3) := by decide +kernel
theorem d_Md_box_32 : decode b_Md_box 32 = .ok (.ifCond .ne 7, 3) := by decide +kernel
theorem d_Md_box_35 : decode b_Md_box 35 = .ok (.iconst 2, 1) := by decide +kernel
theorem d_Md_box_36 : decode b_Md_box 36 = .ok (.goto 4, 3) := by decide +kernel
theorem d_Md_box_39 : decode b_Md_box 39 = .ok (.iconst 0, 1) := by decide +kernel
theorem d_Md_box_40 : decode b_Md_box 40 = .ok (.putfield 93, 3) := by decide +kernel
theorem d_Md_box_43 : decode b_Md_box 43 = .ok (.aload_n 0, 1) := by decide +kernel
theorem d_Md_box_44 : decode b_Md_box 44 = .ok (.getfield 93, 3) := by decide +kernel
theorem d_Md_box_47 : decode b_Md_box 47 = .ok (.ifCond .le 5, 3) := by decide +kernel
theorem d_Md_box_50 : decode b_Md_box 50 = .ok (.iconst 0, 1) := by decide +kernel
theorem d_Md_box_51 : decode b_Md_box 51 = .ok (.ireturn, 1) := by decide +kernel
theorem d_Md_box_52 : decode b_Md_box 52 = .ok (.aload_n 0, 1) := by decide +kernel
theorem d_Md_box_53 : decode b_Md_box 53 = .ok (.iload_n 1, 1) := by decide +kernel
theorem d_Md_box_54 : decode b_Md_box 54 = .ok (.invokevirtual 155, 3) := by decide +kernel
theorem d_Md_box_57 : decode b_Md_box 57 = .ok (.istore_n 3, 1) := by decide +kernel
theorem d_Md_box_58 : decode b_Md_box 58 = .ok (.iconst 0, 1) := by decide +kernel
theorem d_Md_box_59 : decode b_Md_box 59 = .ok (.istore 4, 2) := by decide +kernel
theorem d_Md_box_61 : decode b_Md_box 61 = .ok (.iconst 0, 1) := by decide +kernel
theorem d_Md_box_62 : decode b_Md_box 62 = .ok (.istore 5, 2) := by decide +kernel
theorem d_Md_box_64 : decode b_Md_box 64 = .ok (.iload 5, 2) := by decide +kernel
theorem d_Md_box_66 : decode b_Md_box 66 = .ok (.aload_n 0, 1) := by decide +kernel
theorem d_Md_box_67 : decode b_Md_box 67 = .ok (.getfield 113, 3) := by decide +kernel
theorem d_Md_box_70 : decode b_Md_box 70 = .ok (.if_icmp .ge 30, 3) := by decide +kernel
theorem d_Md_box_73 : decode b_Md_box 73 = .ok (.iload 4, 2) := by decide +kernel
theorem d_Md_box_75 : decode b_Md_box 75 = .ok (.aload_n 0, 1) := by decide +kernel
theorem d_Md_box_76 : decode b_Md_box 76 = .ok (.getfield 68, 3) := by decide +kernel
theorem d_Md_box_79 : decode b_Md_box 79 = .ok (.iload 5, 2) := by decide +kernel
theorem d_Md_box_81 : decode b_Md_box 81 = .ok (.iaload, 1) := by decide +kernel
theorem d_Md_box_82 : decode b_Md_box 82 = .ok (.iload_n 1, 1) := by decide +kernel
theorem d_Md_box_83 : decode b_Md_box 83 = .ok (.if_icmp .ne 7, 3) := by decide +kernel
theorem d_Md_box_86 : decode b_Md_box 86 = .ok (.iconst 1, 1) := by decide +kernel
theorem d_Md_box_87 : decode b_Md_box 87 = .ok (.goto 4, 3) := by decide +kernel
theorem d_Md_box_90 : decode b_Md_box 90 = .ok (.iconst 0, 1) := by decide +kernel
theorem d_Md_box_91 : decode b_Md_box 91 = .ok (.iadd, 1) := by decide +kernel
theorem d_Md_box_92 : decode b_Md_box 92 = .ok (.istore 4, 2) := by decide +kernel
theorem d_Md_box_94 : decode b_Md_box 94 = .ok (.iinc 5 1, 3) := by decide +kernel
theorem d_Md_box_97 : decode b_Md_box 97 = .ok (.goto (-33), 3) := by decide +kernel
theorem d_Md_box_100 : decode b_Md_box 100 = .ok (.iload_n 2, 1) := by decide +kernel
theorem d_Md_box_101 : decode b_Md_box 101 = .ok (.ifCond .ne 7, 3) := by decide +kernel
theorem d_Md_box_104 : decode b_Md_box 104 = .ok (.iload_n 3, 1) := by decide +kernel
theorem d_Md_box_105 : decode b_Md_box 105 = .ok (.goto 47, 3) := by decide +kernel
theorem d_Md_box_108 : decode b_Md_box 108 = .ok (.iload_n 2, 1) := by decide +kernel
theorem d_Md_box_109 : decode b_Md_box 109 = .ok (.iconst 1, 1) := by decide +kernel
theorem d_Md_box_110 : decode b_Md_box 110 = .ok (.if_icmp .ne 8, 3) := by decide +kernel
theorem d_Md_box_113 : decode b_Md_box 113 = .ok (.iload 4, 2) := by decide +kernel
theorem d_Md_box_115 : decode b_Md_box 115 = .ok (.goto 37, 3) := by decide +kernel
theorem d_Md_box_118 : decode b_Md_box 118 = .ok (.iload_n 2, 1) := by decide +kernel
theorem d_Md_box_119 : decode b_Md_box 119 = .ok (.iconst 2, 1) := by decide +kernel
theorem d_Md_box_120 : decode b_Md_box 120 = .ok (.if_icmp .ne 16, 3) := by decide +kernel
theorem d_Md_box_123 : decode b_Md_box 123 = .ok (.aload_n 0, 1) := by decide +kernel
theorem d_Md_box_124 : decode b_Md_box 124 = .ok (.aload_n 0, 1) := by decide +kernel
theorem d_Md_box_125 : decode b_Md_box 125 = .ok (.getfield 74, 3) := by decide +kernel
theorem d_Md_box_128 : decode b_Md_box 128 = .ok (.iload_n 1, 1) := by decide +kernel
theorem d_Md_box_129 : decode b_Md_box 129 = .ok (.iaload, 1) := by decide +kernel
theorem d_Md_box_130 : decode b_Md_box 130 = .ok (.invokevirtual 161, 3) := by decide +kernel
theorem d_Md_box_133 : decode b_Md_box 133 = .ok (.goto 19, 3) := by decide +kernel
theorem d_Md_box_136 : decode b_Md_box 136 = .ok (.iload_n 2, 1) := by decide +kernel
theorem d_Md_box_137 : decode b_Md_box 137 = .ok (.iconst 3, 1) := by decide +kernel
theorem d_Md_box_138 : decode b_Md_box 138 = .ok (.if_icmp .ne 10, 3) := by decide +kernel
theorem d_Md_box_141 : decode b_Md_box 141 = .ok (.aload_n 0, 1) := by decide +kernel
theorem d_Md_box_142 : decode b_Md_box 142 = .ok (.getfield 116, 3) := by decide +kernel
theorem d_Md_box_145 : decode b_Md_box 145 = .ok (.goto 7, 3) := by decide +kernel
theorem d_Md_box_148 : decode b_Md_box 148 = .ok (.aload_n 0, 1) := by decide +kernel
theorem d_Md_box_149 : decode b_Md_box 149 = .ok (.invokevirtual 131, 3) := by decide +kernel
theorem d_Md_box_152 : decode b_Md_box 152 = .ok (.ireturn, 1) := by decide +kernel
theorem d_Md_cost_0 : decode b_Md_cost 0 = .ok (.aload_n 0, 1) := by decide +kernel
theorem d_Md_cost_1 : decode b_Md_cost 1 = .ok (.aload_n 0, 1) := by decide +kernel
theorem d_Md_cost_2 : decode b_Md_cost 2 = .ok (.getfield 108, 3) := by decide +kernel
theorem d_Md_cost_5 : decode b_Md_cost 5 = .ok (.ifCond .eq 7, 3) := by decide +kernel
theorem d_Md_cost_8 : decode b_Md_cost 8 = .ok (.iconst 0, 1) := by decide +kernel
theorem d_Md_cost_9 : decode b_Md_cost 9 = .ok (.goto 4, 3) := by decide +kernel
theorem d_Md_cost_12 : decode b_Md_cost 12 = .ok (.iconst 1, 1) := by decide +kernel
theorem d_Md_cost_13 : decode b_Md_cost 13 = .ok (.putfield 93, 3) := by decide +kernel
theorem d_Md_cost_16 : decode b_Md_cost 16 = .ok (.aload_n 0, 1) := by decide +kernel
theorem d_Md_cost_17 : decode b_Md_cost 17 = .ok (.getfield 93, 3) := by decide +kernel
theorem d_Md_cost_20 : decode b_Md_cost 20 = .ok (.ifCond .le 7, 3) := by decide +kernel
theorem d_Md_cost_23 : decode b_Md_cost 23 = .ok (.iconst 0, 1) := by decide +kernel
theorem d_Md_cost_24 : decode b_Md_cost 24 = .ok (.goto 15, 3) := by decide +kernel
theorem d_Md_cost_27 : decode b_Md_cost 27 = .ok (.aload_n 0, 1) := by decide +kernel
theorem d_Md_cost_28 : decode b_Md_cost 28 = .ok (.aload_n 0, 1) := by decide +kernel
theorem d_Md_cost_29 : decode b_Md_cost 29 = .ok (.aload_n 0, 1) := by decide +kernel
theorem d_Md_cost_30 : decode b_Md_cost 30 = .ok (.getfield 68, 3) := by decide +kernel
theorem d_Md_cost_33 : decode b_Md_cost 33 = .ok (.invokevirtual 144, 3) := by decide +kernel
theorem d_Md_cost_36 : decode b_Md_cost 36 = .ok (.invokevirtual 148, 3) := by decide +kernel
theorem d_Md_cost_39 : decode b_Md_cost 39 = .ok (.ireturn, 1) := by decide +kernel
theorem d_Md_manual_0 : decode b_Md_manual 0 = .ok (.aload_n 0, 1) := by decide +kernel
theorem d_Md_manual_1 : decode b_Md_manual 1 = .ok (.iload_n 1, 1) := by decide +kernel
theorem d_Md_manual_2 : decode b_Md_manual 2 = .ok (.iconst 0, 1) := by decide +kernel
theorem d_Md_manual_3 : decode b_Md_manual 3 = .ok (.aload_n 0, 1) := by decide +kernel
theorem d_Md_manual_4 : decode b_Md_manual 4 = .ok (.getfield 113, 3) := by decide +kernel
theorem d_Md_manual_7 : decode b_Md_manual 7 = .ok (.iconst 1, 1) := by decide +kernel
theorem d_Md_manual_8 : decode b_Md_manual 8 = .ok (.isub, 1) := by decide +kernel
theorem d_Md_manual_9 : decode b_Md_manual 9 = .ok (.invokestatic 96, 3) := by decide +kernel
theorem d_Md_manual_12 : decode b_Md_manual 12 = .ok (.ifCond .eq 7, 3) := by decide +kernel
theorem d_Md_manual_15 : decode b_Md_manual 15 = .ok (.iconst 0, 1) := by decide +kernel
theorem d_Md_manual_16 : decode b_Md_manual 16 = .ok (.goto 4, 3) := by decide +kernel
theorem d_Md_manual_19 : decode b_Md_manual 19 = .ok (.iconst 1, 1) := by decide +kernel
theorem d_Md_manual_20 : decode b_Md_manual 20 = .ok (.putfield 93, 3) := by decide +kernel
theorem d_Md_manual_23 : decode b_Md_manual 23 = .ok (.iconst 0, 1) := by decide +kernel
theorem d_Md_manual_24 : decode b_Md_manual 24 = .ok (.istore_n 2, 1) := by decide +kernel
theorem d_Md_manual_25 : decode b_Md_manual 25 = .ok (.iload_n 2, 1) := by decide +kernel
theorem d_Md_manual_26 : decode b_Md_manual 26 = .ok (.aload_n 0, 1) := by decide +kernel
theorem d_Md_manual_27 : decode b_Md_manual 27 = .ok (.getfield 113, 3) := by decide +kernel
theorem d_Md_manual_30 : decode b_Md_manual 30 = .ok (.if_icmp .ge 89, 3) := by decide +kernel
theorem d_Md_manual_33 : decode b_Md_manual 33 = .ok (.aload_n 0, 1) := by decide +kernel
theorem d_Md_manual_34 : decode b_Md_manual 34 = .ok (.getfield 93, 3) := by decide +kernel
theorem d_Md_manual_37 : decode b_Md_manual 37 = .ok (.ifCond .ne 82, 3) := by decide +kernel
theorem d_Md_manual_40 : decode b_Md_manual 40 = .ok (.iconst 0, 1) := by decide +kernel
theorem d_Md_manual_41 : decode b_Md_manual 41 = .ok (.istore_n 3, 1) := by decide +kernel
theorem d_Md_manual_42 : decode b_Md_manual 42 = .ok (.iconst 0, 1) := by decide +kernel
theorem d_Md_manual_43 : decode b_Md_manual 43 = .ok (.istore 4, 2) := by decide +kernel
theorem d_Md_manual_45 : decode b_Md_manual 45 = .ok (.iload 4, 2) := by decide +kernel
theorem d_Md_manual_47 : decode b_Md_manual 47 = .ok (.aload_n 0, 1) := by decide +kernel
theorem d_Md_manual_48 : decode b_Md_manual 48 = .ok (.getfield 113, 3) := by decide +kernel
theorem d_Md_manual_51 : decode b_Md_manual 51 = .ok (.if_icmp .ge 55, 3) := by decide +kernel
theorem d_Md_manual_54 : decode b_Md_manual 54 = .ok (.iload_n 3, 1) := by decide +kernel
theorem d_Md_manual_55 : decode b_Md_manual 55 = .ok (.aload_n 0, 1) := by decide +kernel
theorem d_Md_manual_56 : decode b_Md_manual 56 = .ok (.getfield 37, 3) := by decide +kernel
theorem d_Md_manual_59 : decode b_Md_manual 59 = .ok (.iload 4, 2) := by decide +kernel
theorem d_Md_manual_61 : decode b_Md_manual 61 = .ok (.iaload, 1) := by decide +kernel
theorem d_Md_manual_62 : decode b_Md_manual 62 = .ok (.aload_n 0, 1) := by decide +kernel
theorem d_Md_manual_63 : decode b_Md_manual 63 = .ok (.getfield 37, 3) := by decide +kernel
theorem d_Md_manual_66 : decode b_Md_manual 66 = .ok (.iload_n 2, 1) := by decide +kernel
theorem d_Md_manual_67 : decode b_Md_manual 67 = .ok (.iaload, 1) := by decide +kernel
theorem d_Md_manual_68 : decode b_Md_manual 68 = .ok (.if_icmp .lt 25, 3) := by decide +kernel
theorem d_Md_manual_71 : decode b_Md_manual 71 = .ok (.aload_n 0, 1) := by decide +kernel
theorem d_Md_manual_72 : decode b_Md_manual 72 = .ok (.getfield 37, 3) := by decide +kernel
theorem d_Md_manual_75 : decode b_Md_manual 75 = .ok (.iload 4, 2) := by decide +kernel
theorem d_Md_manual_77 : decode b_Md_manual 77 = .ok (.iaload, 1) := by decide +kernel
theorem d_Md_manual_78 : decode b_Md_manual 78 = .ok (.aload_n 0, 1) := by decide +kernel
theorem d_Md_manual_79 : decode b_Md_manual 79 = .ok (.getfield 37, 3) := by decide +kernel
theorem d_Md_manual_82 : decode b_Md_manual 82 = .ok (.iload_n 2, 1) := by decide +kernel
theorem d_Md_manual_83 : decode b_Md_manual 83 = .ok (.iaload, 1) := by decide +kernel
theorem d_Md_manual_84 : decode b_Md_manual 84 = .ok (.if_icmp .ne 13, 3) := by decide +kernel
theorem d_Md_manual_87 : decode b_Md_manual 87 = .ok (.iload 4, 2) := by decide +kernel
theorem d_Md_manual_89 : decode b_Md_manual 89 = .ok (.iload_n 2, 1) := by decide +kernel
theorem d_Md_manual_90 : decode b_Md_manual 90 = .ok (.if_icmp .ge 7, 3) := by decide +kernel
theorem d_Md_manual_93 : decode b_Md_manual 93 = .ok (.iconst 1, 1) := by decide +kernel
theorem d_Md_manual_94 : decode b_Md_manual 94 = .ok (.goto 4, 3) := by decide +kernel
theorem d_Md_manual_97 : decode b_Md_manual 97 = .ok (.iconst 0, 1) := by decide +kernel
theorem d_Md_manual_98 : decode b_Md_manual 98 = .ok (.iadd, 1) := by decide +kernel
theorem d_Md_manual_99 : decode b_Md_manual 99 = .ok (.istore_n 3, 1) := by decide +kernel
theorem d_Md_manual_100 : decode b_Md_manual 100 = .ok (.iinc 4 1, 3) := by decide +kernel
theorem d_Md_manual_103 : decode b_Md_manual 103 = .ok (.goto (-58), 3) := by decide +kernel
theorem d_Md_manual_106 : decode b_Md_manual 106 = .ok (.iload_n 3, 1) := by decide +kernel
theorem d_Md_manual_107 : decode b_Md_manual 107 = .ok (.iload_n 1, 1) := by decide +kernel
theorem d_Md_manual_108 : decode b_Md_manual 108 = .ok (.if_icmp .ne 5, 3) := by decide +kernel
theorem d_Md_manual_111 : decode b_Md_manual 111 = .ok (.iload_n 2, 1) := by decide +kernel
theorem d_Md_manual_112 : decode b_Md_manual 112 = .ok (.ireturn, 1) := by decide +kernel
theorem d_Md_manual_113 : decode b_Md_manual 113 = .ok (.iinc 2 1, 3) := by decide +kernel
theorem d_Md_manual_116 : decode b_Md_manual 116 = .ok (.goto (-91), 3) := by decide +kernel
theorem d_Md_manual_119 : decode b_Md_manual 119 = .ok (.iconst 0, 1) := by decide +kernel
theorem d_Md_manual_120 : decode b_Md_manual 120 = .ok (.ireturn, 1) := by decide +kernel
theorem d_Md_bag_0 : decode b_Md_bag 0 = .ok (.aload_n 0, 1) := by decide +kernel
theorem d_Md_bag_1 : decode b_Md_bag 1 = .ok (.aload_n 0, 1) := by decide +kernel
theorem d_Md_bag_2 : decode b_Md_bag 2 = .ok (.getfield 164, 3) := by decide +kernel
theorem d_Md_bag_5 : decode b_Md_bag 5 = .ok (.iconst 4, 1) := by decide +kernel
theorem d_Md_bag_6 : decode b_Md_bag 6 = .ok (.if_icmp .ne 7, 3) := by decide +kernel
theorem d_Md_bag_9 : decode b_Md_bag 9 = .ok (.iconst 1, 1) := by decide +kernel
theorem d_Md_bag_10 : decode b_Md_bag 10 = .ok (.goto 4, 3) := by decide +kernel
theorem d_Md_bag_13 : decode b_Md_bag 13 = .ok (.iconst 0, 1) := by decide +kernel
theorem d_Md_bag_14 : decode b_Md_bag 14 = .ok (.putfield 93, 3) := by decide +kernel
theorem d_Md_bag_17 : decode b_Md_bag 17 = .ok (.aload_n 0, 1) := by decide +kernel
theorem d_Md_bag_18 : decode b_Md_bag 18 = .ok (.getfield 93, 3) := by decide +kernel
theorem d_Md_bag_21 : decode b_Md_bag 21 = .ok (.ifCond .le 5, 3) := by decide +kernel
theorem d_Md_bag_24 : decode b_Md_bag 24 = .ok (.iconst 0, 1) := by decide +kernel
theorem d_Md_bag_25 : decode b_Md_bag 25 = .ok (.ireturn, 1) := by decide +kernel
theorem d_Md_bag_26 : decode b_Md_bag 26 = .ok (.aload_n 0, 1) := by decide +kernel
theorem d_Md_bag_27 : decode b_Md_bag 27 = .ok (.dup, 1) := by decide +kernel
theorem d_Md_bag_28 : decode b_Md_bag 28 = .ok (.getfield 164, 3) := by decide +kernel
theorem d_Md_bag_31 : decode b_Md_bag 31 = .ok (.iconst 1, 1) := by decide +kernel
theorem d_Md_bag_32 : decode b_Md_bag 32 = .ok (.iadd, 1) := by decide +kernel
theorem d_Md_bag_33 : decode b_Md_bag 33 = .ok (.putfield 164, 3) := by decide +kernel
theorem d_Md_bag_36 : decode b_Md_bag 36 = .ok (.aload_n 0, 1) := by decide +kernel
theorem d_Md_bag_37 : decode b_Md_bag 37 = .ok (.getfield 164, 3) := by decide +kernel
theorem d_Md_bag_40 : decode b_Md_bag 40 = .ok (.iconst 1, 1) := by decide +kernel
theorem d_Md_bag_41 : decode b_Md_bag 41 = .ok (.isub, 1) := by decide +kernel
theorem d_Md_bag_42 : decode b_Md_bag 42 = .ok (.ireturn, 1) := by decide +kernel
theorem d_Md_into_0 : decode b_Md_into 0 = .ok (.iload_n 2, 1) := by decide +kernel
theorem d_Md_into_1 : decode b_Md_into 1 = .ok (.iconst 0, 1) := by decide +kernel
theorem d_Md_into_2 : decode b_Md_into 2 = .ok (.sipush 1000, 3) := by decide +kernel
theorem d_Md_into_5 : decode b_Md_into 5 = .ok (.invokestatic 96, 3) := by decide +kernel
theorem d_Md_into_8 : decode b_Md_into 8 = .ok (.ifCond .eq 28, 3) := by decide +kernel
theorem d_Md_into_11 : decode b_Md_into 11 = .ok (.iload_n 3, 1) := by decide +kernel
theorem d_Md_into_12 : decode b_Md_into 12 = .ok (.iconst 1, 1) := by decide +kernel
theorem d_Md_into_13 : decode b_Md_into 13 = .ok (.sipush 1000, 3) := by decide +kernel
theorem d_Md_into_16 : decode b_Md_into 16 = .ok (.invokestatic 96, 3) := by decide +kernel
theorem d_Md_into_19 : decode b_Md_into 19 = .ok (.ifCond .eq 17, 3) := by decide +kernel
theorem d_Md_into_22 : decode b_Md_into 22 = .ok (.iload 4, 2) := by decide +kernel
theorem d_Md_into_24 : decode b_Md_into 24 = .ok (.iconst 0, 1) := by decide +kernel
theorem d_Md_into_25 : decode b_Md_into 25 = .ok (.iload_n 3, 1) := by decide +kernel
theorem d_Md_into_26 : decode b_Md_into 26 = .ok (.invokestatic 96, 3) := by decide +kernel
theorem d_Md_into_29 : decode b_Md_into 29 = .ok (.ifCond .eq 7, 3) := by decide +kernel
theorem d_Md_into_32 : decode b_Md_into 32 = .ok (.iconst 1, 1) := by decide +kernel
theorem d_Md_into_33 : decode b_Md_into 33 = .ok (.goto 4, 3) := by decide +kernel
theorem d_Md_into_36 : decode b_Md_into 36 = .ok (.iconst 0, 1) := by decide +kernel
theorem d_Md_into_37 : decode b_Md_into 37 = .ok (.istore 5, 2) := by decide +kernel
theorem d_Md_into_39 : decode b_Md_into 39 = .ok (.aload_n 0, 1) := by decide +kernel
theorem d_Md_into_40 : decode b_Md_into 40 = .ok (.iload_n 1, 1) := by decide +kernel
theorem d_Md_into_41 : decode b_Md_into 41 = .ok (.iconst 0, 1) := by decide +kernel
theorem d_Md_into_42 : decode b_Md_into 42 = .ok (.aload_n 0, 1) := by decide +kernel
theorem d_Md_into_43 : decode b_Md_into 43 = .ok (.getfield 164, 3) := by decide +kernel
theorem d_Md_into_46 : decode b_Md_into 46 = .ok (.iconst 1, 1) := by decide +kernel
theorem d_Md_into_47 : decode b_Md_into 47 = .ok (.isub, 1) := by decide +kernel
theorem d_Md_into_48 : decode b_Md_into 48 = .ok (.invokestatic 96, 3) := by decide +kernel
theorem d_Md_into_51 : decode b_Md_into 51 = .ok (.ifCond .ne 7, 3) := by decide +kernel
theorem d_Md_into_54 : decode b_Md_into 54 = .ok (.iconst 1, 1) := by decide +kernel
theorem d_Md_into_55 : decode b_Md_into 55 = .ok (.goto 28, 3) := by decide +kernel
theorem d_Md_into_58 : decode b_Md_into 58 = .ok (.iload 5, 2) := by decide +kernel
theorem d_Md_into_60 : decode b_Md_into 60 = .ok (.ifCond .ne 7, 3) := by decide +kernel
theorem d_Md_into_63 : decode b_Md_into 63 = .ok (.iconst 2, 1) := by decide +kernel
theorem d_Md_into_64 : decode b_Md_into 64 = .ok (.goto 19, 3) := by decide +kernel
theorem d_Md_into_67 : decode b_Md_into 67 = .ok (.aload_n 0, 1) := by decide +kernel
theorem d_Md_into_68 : decode b_Md_into 68 = .ok (.getfield 77, 3) := by decide +kernel
theorem d_Md_into_71 : decode b_Md_into 71 = .ok (.iload_n 1, 1) := by decide +kernel
theorem d_Md_into_72 : decode b_Md_into 72 = .ok (.iaload, 1) := by decide +kernel
theorem d_Md_into_73 : decode b_Md_into 73 = .ok (.bipush 6, 2) := by decide +kernel
theorem d_Md_into_75 : decode b_Md_into 75 = .ok (.if_icmp .ne 7, 3) := by decide +kernel
theorem d_Md_into_78 : decode b_Md_into 78 = .ok (.iconst 3, 1) := by decide +kernel
theorem d_Md_into_79 : decode b_Md_into 79 = .ok (.goto 4, 3) := by decide +kernel
theorem d_Md_into_82 : decode b_Md_into 82 = .ok (.iconst 0, 1) := by decide +kernel
theorem d_Md_into_83 : decode b_Md_into 83 = .ok (.putfield 93, 3) := by decide +kernel
theorem d_Md_into_86 : decode b_Md_into 86 = .ok (.aload_n 0, 1) := by decide +kernel
theorem d_Md_into_87 : decode b_Md_into 87 = .ok (.getfield 93, 3) := by decide +kernel
theorem d_Md_into_90 : decode b_Md_into 90 = .ok (.ifCond .le 5, 3) := by decide +kernel
theorem d_Md_into_93 : decode b_Md_into 93 = .ok (.iconst 0, 1) := by decide +kernel
theorem d_Md_into_94 : decode b_Md_into 94 = .ok (.ireturn, 1) := by decide +kernel
theorem d_Md_into_95 : decode b_Md_into 95 = .ok (.bipush 6, 2) := by decide +kernel
theorem d_Md_into_97 : decode b_Md_into 97 = .ok (.iload_n 1, 1) := by decide +kernel
theorem d_Md_into_98 : decode b_Md_into 98 = .ok (.imul, 1) := by decide +kernel
theorem d_Md_into_99 : decode b_Md_into 99 = .ok (.aload_n 0, 1) := by decide +kernel
theorem d_Md_into_100 : decode b_Md_into 100 = .ok (.getfield 77, 3) := by decide +kernel
theorem d_Md_into_103 : decode b_Md_into 103 = .ok (.iload_n 1, 1) := by decide +kernel
theorem d_Md_into_104 : decode b_Md_into 104 = .ok (.iaload, 1) := by decide +kernel
theorem d_Md_into_105 : decode b_Md_into 105 = .ok (.iadd, 1) := by decide +kernel
theorem d_Md_into_106 : decode b_Md_into 106 = .ok (.istore 6, 2) := by decide +kernel
theorem d_Md_into_108 : decode b_Md_into 108 = .ok (.aload_n 0, 1) := by decide +kernel
theorem d_Md_into_109 : decode b_Md_into 109 = .ok (.getfield 80, 3) := by decide +kernel
theorem d_Md_into_112 : decode b_Md_into 112 = .ok (.iload 6, 2) := by decide +kernel
theorem d_Md_into_114 : decode b_Md_into 114 = .ok (.iload_n 2, 1) := by decide +kernel
theorem d_Md_into_115 : decode b_Md_into 115 = .ok (.iastore, 1) := by decide +kernel
theorem d_Md_into_116 : decode b_Md_into 116 = .ok (.aload_n 0, 1) := by decide +kernel
theorem d_Md_into_117 : decode b_Md_into 117 = .ok (.getfield 83, 3) := by decide +kernel
theorem d_Md_into_120 : decode b_Md_into 120 = .ok (.iload 6, 2) := by decide +kernel
theorem d_Md_into_122 : decode b_Md_into 122 = .ok (.iload_n 3, 1) := by decide +kernel
theorem d_Md_into_123 : decode b_Md_into 123 = .ok (.iastore, 1) := by decide +kernel
theorem d_Md_into_124 : decode b_Md_into 124 = .ok (.aload_n 0, 1) := by decide +kernel
theorem d_Md_into_125 : decode b_Md_into 125 = .ok (.getfield 86, 3) := by decide +kernel
theorem d_Md_into_128 : decode b_Md_into 128 = .ok (.iload 6, 2) := by decide +kernel
theorem d_Md_into_130 : decode b_Md_into 130 = .ok (.iload 4, 2) := by decide +kernel
theorem d_Md_into_132 : decode b_Md_into 132 = .ok (.iastore, 1) := by decide +kernel
theorem d_Md_into_133 : decode b_Md_into 133 = .ok (.aload_n 0, 1) := by decide +kernel
theorem d_Md_into_134 : decode b_Md_into 134 = .ok (.getfield 77, 3) := by decide +kernel
theorem d_Md_into_137 : decode b_Md_into 137 = .ok (.iload_n 1, 1) := by decide +kernel
theorem d_Md_into_138 : decode b_Md_into 138 = .ok (.dup2, 1) := by decide +kernel
theorem d_Md_into_139 : decode b_Md_into 139 = .ok (.iaload, 1) := by decide +kernel
theorem d_Md_into_140 : decode b_Md_into 140 = .ok (.iconst 1, 1) := by decide +kernel
theorem d_Md_into_141 : decode b_Md_into 141 = .ok (.iadd, 1) := by decide +kernel
theorem d_Md_into_142 : decode b_Md_into 142 = .ok (.iastore, 1) := by decide +kernel
theorem d_Md_into_143 : decode b_Md_into 143 = .ok (.aload_n 0, 1) := by decide +kernel
theorem d_Md_into_144 : decode b_Md_into 144 = .ok (.getfield 77, 3) := by decide +kernel
theorem d_Md_into_147 : decode b_Md_into 147 = .ok (.iload_n 1, 1) := by decide +kernel
theorem d_Md_into_148 : decode b_Md_into 148 = .ok (.iaload, 1) := by decide +kernel
theorem d_Md_into_149 : decode b_Md_into 149 = .ok (.ireturn, 1) := by decide +kernel
theorem d_Md_isWithin_0 : decode b_Md_isWithin 0 = .ok (.iload_n 0, 1) := by decide +kernel
theorem d_Md_isWithin_1 : decode b_Md_isWithin 1 = .ok (.iload_n 1, 1) := by decide +kernel
theorem d_Md_isWithin_2 : decode b_Md_isWithin 2 = .ok (.iload_n 2, 1) := by decide +kernel
theorem d_Md_isWithin_3 : decode b_Md_isWithin 3 = .ok (.isub, 1) := by decide +kernel
theorem d_Md_isWithin_4 : decode b_Md_isWithin 4 = .ok (.if_icmp .lt 14, 3) := by decide +kernel
theorem d_Md_isWithin_7 : decode b_Md_isWithin 7 = .ok (.iload_n 0, 1) := by decide +kernel
theorem d_Md_isWithin_8 : decode b_Md_isWithin 8 = .ok (.iload_n 1, 1) := by decide +kernel
theorem d_Md_isWithin_9 : decode b_Md_isWithin 9 = .ok (.iload_n 2, 1) := by decide +kernel
theorem d_Md_isWithin_10 : decode b_Md_isWithin 10 = .ok (.iadd, 1) := by decide +kernel
theorem d_Md_isWithin_11 : decode b_Md_isWithin 11 = .ok (.if_icmp .gt 7, 3) := by decide +kernel
theorem d_Md_isWithin_14 : decode b_Md_isWithin 14 = .ok (.iconst 1, 1) := by decide +kernel
theorem d_Md_isWithin_15 : decode b_Md_isWithin 15 = .ok (.goto 4, 3) := by decide +kernel
theorem d_Md_isWithin_18 : decode b_Md_isWithin 18 = .ok (.iconst 0, 1) := by decide +kernel
theorem d_Md_isWithin_19 : decode b_Md_isWithin 19 = .ok (.ireturn, 1) := by decide +kernel
theorem d_Md_counted_0 : decode b_Md_counted 0 = .ok (.aload_n 0, 1) := by decide +kernel
theorem d_Md_counted_1 : decode b_Md_counted 1 = .ok (.iload_n 1, 1) := by decide +kernel
theorem d_Md_counted_2 : decode b_Md_counted 2 = .ok (.iconst 0, 1) := by decide +kernel
theorem d_Md_counted_3 : decode b_Md_counted 3 = .ok (.aload_n 0, 1) := by decide +kernel
theorem d_Md_counted_4 : decode b_Md_counted 4 = .ok (.getfield 164, 3) := by decide +kernel
theorem d_Md_counted_7 : decode b_Md_counted 7 = .ok (.iconst 1, 1) := by decide +kernel
theorem d_Md_counted_8 : decode b_Md_counted 8 = .ok (.isub, 1) := by decide +kernel
theorem d_Md_counted_9 : decode b_Md_counted 9 = .ok (.invokestatic 96, 3) := by decide +kernel
theorem d_Md_counted_12 : decode b_Md_counted 12 = .ok (.ifCond .ne 7, 3) := by decide +kernel
theorem d_Md_counted_15 : decode b_Md_counted 15 = .ok (.iconst 1, 1) := by decide +kernel
theorem d_Md_counted_16 : decode b_Md_counted 16 = .ok (.goto 12, 3) := by decide +kernel
theorem d_Md_counted_19 : decode b_Md_counted 19 = .ok (.iload_n 2, 1) := by decide +kernel
theorem d_Md_counted_20 : decode b_Md_counted 20 = .ok (.ifCond .ge 7, 3) := by decide +kernel
theorem d_Md_counted_23 : decode b_Md_counted 23 = .ok (.iconst 2, 1) := by decide +kernel
theorem d_Md_counted_24 : decode b_Md_counted 24 = .ok (.goto 4, 3) := by decide +kernel
theorem d_Md_counted_27 : decode b_Md_counted 27 = .ok (.iconst 0, 1) := by decide +kernel
theorem d_Md_counted_28 : decode b_Md_counted 28 = .ok (.putfield 93, 3) := by decide +kernel
theorem d_Md_counted_31 : decode b_Md_counted 31 = .ok (.aload_n 0, 1) := by decide +kernel
theorem d_Md_counted_32 : decode b_Md_counted 32 = .ok (.getfield 93, 3) := by decide +kernel
theorem d_Md_counted_35 : decode b_Md_counted 35 = .ok (.ifCond .le 5, 3) := by decide +kernel
theorem d_Md_counted_38 : decode b_Md_counted 38 = .ok (.iconst 0, 1) := by decide +kernel
theorem d_Md_counted_39 : decode b_Md_counted 39 = .ok (.ireturn, 1) := by decide +kernel
theorem d_Md_counted_40 : decode b_Md_counted 40 = .ok (.iconst 0, 1) := by decide +kernel
theorem d_Md_counted_41 : decode b_Md_counted 41 = .ok (.istore_n 3, 1) := by decide +kernel
theorem d_Md_counted_42 : decode b_Md_counted 42 = .ok (.iconst 0, 1) := by decide +kernel
theorem d_Md_counted_43 : decode b_Md_counted 43 = .ok (.istore 4, 2) := by decide +kernel
theorem d_Md_counted_45 : decode b_Md_counted 45 = .ok (.bipush 6, 2) := by decide +kernel
theorem d_Md_counted_47 : decode b_Md_counted 47 = .ok (.iload_n 1, 1) := by decide +kernel
theorem d_Md_counted_48 : decode b_Md_counted 48 = .ok (.imul, 1) := by decide +kernel
theorem d_Md_counted_49 : decode b_Md_counted 49 = .ok (.istore 5, 2) := by decide +kernel
theorem d_Md_counted_51 : decode b_Md_counted 51 = .ok (.iload 5, 2) := by decide +kernel
theorem d_Md_counted_53 : decode b_Md_counted 53 = .ok (.bipush 6, 2) := by decide +kernel
theorem d_Md_counted_55 : decode b_Md_counted 55 = .ok (.iload_n 1, 1) := by decide +kernel
theorem d_Md_counted_56 : decode b_Md_counted 56 = .ok (.imul, 1) := by decide +kernel
theorem d_Md_counted_57 : decode b_Md_counted 57 = .ok (.aload_n 0, 1) := by decide +kernel
theorem d_Md_counted_58 : decode b_Md_counted 58 = .ok (.getfield 77, 3) := by decide +kernel
theorem d_Md_counted_61 : decode b_Md_counted 61 = .ok (.iload_n 1, 1) := by decide +kernel
theorem d_Md_counted_62 : decode b_Md_counted 62 = .ok (.iaload, 1) := by decide +kernel
theorem d_Md_counted_63 : decode b_Md_counted 63 = .ok (.iadd, 1) := by decide +kernel
theorem d_Md_counted_64 : decode b_Md_counted 64 = .ok (.if_icmp .ge 47, 3) := by decide +kernel
theorem d_Md_counted_67 : decode b_Md_counted 67 = .ok (.iload_n 3, 1) := by decide +kernel
theorem d_Md_counted_68 : decode b_Md_counted 68 = .ok (.aload_n 0, 1) := by decide +kernel
theorem d_Md_counted_69 : decode b_Md_counted 69 = .ok (.getfield 80, 3) := by decide +kernel
theorem d_Md_counted_72 : decode b_Md_counted 72 = .ok (.iload 5, 2) := by decide +kernel
theorem d_Md_counted_74 : decode b_Md_counted 74 = .ok (.iaload, 1) := by decide +kernel
theorem d_Md_counted_75 : decode b_Md_counted 75 = .ok (.aload_n 0, 1) := by decide +kernel
theorem d_Md_counted_76 : decode b_Md_counted 76 = .ok (.getfield 83, 3) := by decide +kernel
theorem d_Md_counted_79 : decode b_Md_counted 79 = .ok (.iload 5, 2) := by decide +kernel
theorem d_Md_counted_81 : decode b_Md_counted 81 = .ok (.iaload, 1) := by decide +kernel
theorem d_Md_counted_82 : decode b_Md_counted 82 = .ok (.imul, 1) := by decide +kernel
theorem d_Md_counted_83 : decode b_Md_counted 83 = .ok (.iadd, 1) := by decide +kernel
theorem d_Md_counted_84 : decode b_Md_counted 84 = .ok (.istore_n 3, 1) := by decide +kernel
theorem d_Md_counted_85 : decode b_Md_counted 85 = .ok (.iload 4, 2) := by decide +kernel
theorem d_Md_counted_87 : decode b_Md_counted 87 = .ok (.aload_n 0, 1) := by decide +kernel
theorem d_Md_counted_88 : decode b_Md_counted 88 = .ok (.getfield 80, 3) := by decide +kernel
theorem d_Md_counted_91 : decode b_Md_counted 91 = .ok (.iload 5, 2) := by decide +kernel
theorem d_Md_counted_93 : decode b_Md_counted 93 = .ok (.iaload, 1) := by decide +kernel
theorem d_Md_counted_94 : decode b_Md_counted 94 = .ok (.aload_n 0, 1) := by decide +kernel
theorem d_Md_counted_95 : decode b_Md_counted 95 = .ok (.getfield 86, 3) := by decide +kernel
theorem d_Md_counted_98 : decode b_Md_counted 98 = .ok (.iload 5, 2) := by decide +kernel
theorem d_Md_counted_100 : decode b_Md_counted 100 = .ok (.iaload, 1) := by decide +kernel
theorem d_Md_counted_101 : decode b_Md_counted 101 = .ok (.imul, 1) := by decide +kernel
theorem d_Md_counted_102 : decode b_Md_counted 102 = .ok (.iadd, 1) := by decide +kernel
theorem d_Md_counted_103 : decode b_Md_counted 103 = .ok (.istore 4, 2) := by decide +kernel
theorem d_Md_counted_105 : decode b_Md_counted 105 = .ok (.iinc 5 1, 3) := by decide +kernel
theorem d_Md_counted_108 : decode b_Md_counted 108 = .ok (.goto (-57), 3) := by decide +kernel
theorem d_Md_counted_111 : decode b_Md_counted 111 = .ok (.iload_n 2, 1) := by decide +kernel
theorem d_Md_counted_112 : decode b_Md_counted 112 = .ok (.iload_n 3, 1) := by decide +kernel
theorem d_Md_counted_113 : decode b_Md_counted 113 = .ok (.iload 4, 2) := by decide +kernel
theorem d_Md_counted_115 : decode b_Md_counted 115 = .ok (.invokestatic 167, 3) := by decide +kernel
theorem d_Md_counted_118 : decode b_Md_counted 118 = .ok (.ifCond .ne 5, 3) := by decide +kernel
theorem d_Md_counted_121 : decode b_Md_counted 121 = .ok (.iconst 0, 1) := by decide +kernel
theorem d_Md_counted_122 : decode b_Md_counted 122 = .ok (.ireturn, 1) := by decide +kernel
theorem d_Md_counted_123 : decode b_Md_counted 123 = .ok (.iconst 0, 1) := by decide +kernel
theorem d_Md_counted_124 : decode b_Md_counted 124 = .ok (.istore 5, 2) := by decide +kernel
theorem d_Md_counted_126 : decode b_Md_counted 126 = .ok (.bipush 6, 2) := by decide +kernel
theorem d_Md_counted_128 : decode b_Md_counted 128 = .ok (.iload_n 1, 1) := by decide +kernel
theorem d_Md_counted_129 : decode b_Md_counted 129 = .ok (.imul, 1) := by decide +kernel
theorem d_Md_counted_130 : decode b_Md_counted 130 = .ok (.istore 6, 2) := by decide +kernel
theorem d_Md_counted_132 : decode b_Md_counted 132 = .ok (.iload 6, 2) := by decide +kernel
theorem d_Md_counted_134 : decode b_Md_counted 134 = .ok (.bipush 6, 2) := by decide +kernel
theorem d_Md_counted_136 : decode b_Md_counted 136 = .ok (.iload_n 1, 1) := by decide +kernel
theorem d_Md_counted_137 : decode b_Md_counted 137 = .ok (.imul, 1) := by decide +kernel
theorem d_Md_counted_138 : decode b_Md_counted 138 = .ok (.aload_n 0, 1) := by decide +kernel
theorem d_Md_counted_139 : decode b_Md_counted 139 = .ok (.getfield 77, 3) := by decide +kernel
theorem d_Md_counted_142 : decode b_Md_counted 142 = .ok (.iload_n 1, 1) := by decide +kernel
theorem d_Md_counted_143 : decode b_Md_counted 143 = .ok (.iaload, 1) := by decide +kernel
theorem d_Md_counted_144 : decode b_Md_counted 144 = .ok (.iadd, 1) := by decide +kernel
theorem d_Md_counted_145 : decode b_Md_counted 145 = .ok (.if_icmp .ge 83, 3) := by decide +kernel
theorem d_Md_counted_148 : decode b_Md_counted 148 = .ok (.iload 5, 2) := by decide +kernel
theorem d_Md_counted_150 : decode b_Md_counted 150 = .ok (.ifCond .ne 65, 3) := by decide +kernel
theorem d_Md_counted_153 : decode b_Md_counted 153 = .ok (.aload_n 0, 1) := by decide +kernel
theorem d_Md_counted_154 : decode b_Md_counted 154 = .ok (.getfield 80, 3) := by decide +kernel
theorem d_Md_counted_157 : decode b_Md_counted 157 = .ok (.iload 6, 2) := by decide +kernel
theorem d_Md_counted_159 : decode b_Md_counted 159 = .ok (.iaload, 1) := by decide +kernel
theorem d_Md_counted_160 : decode b_Md_counted 160 = .ok (.ifCond .le 29, 3) := by decide +kernel
theorem d_Md_counted_163 : decode b_Md_counted 163 = .ok (.iload_n 2, 1) := by decide +kernel
theorem d_Md_counted_164 : decode b_Md_counted 164 = .ok (.iload_n 3, 1) := by decide +kernel
theorem d_Md_counted_165 : decode b_Md_counted 165 = .ok (.aload_n 0, 1) := by decide +kernel
theorem d_Md_counted_166 : decode b_Md_counted 166 = .ok (.getfield 83, 3) := by decide +kernel
theorem d_Md_counted_169 : decode b_Md_counted 169 = .ok (.iload 6, 2) := by decide +kernel
theorem d_Md_counted_171 : decode b_Md_counted 171 = .ok (.iaload, 1) := by decide +kernel
theorem d_Md_counted_172 : decode b_Md_counted 172 = .ok (.isub, 1) := by decide +kernel
theorem d_Md_counted_173 : decode b_Md_counted 173 = .ok (.iload 4, 2) := by decide +kernel
theorem d_Md_counted_175 : decode b_Md_counted 175 = .ok (.aload_n 0, 1) := by decide +kernel
theorem d_Md_counted_176 : decode b_Md_counted 176 = .ok (.getfield 86, 3) := by decide +kernel
theorem d_Md_counted_179 : decode b_Md_counted 179 = .ok (.iload 6, 2) := by decide +kernel
theorem d_Md_counted_181 : decode b_Md_counted 181 = .ok (.iaload, 1) := by decide +kernel
theorem d_Md_counted_182 : decode b_Md_counted 182 = .ok (.isub, 1) := by decide +kernel
theorem d_Md_counted_183 : decode b_Md_counted 183 = .ok (.invokestatic 167, 3) := by decide +kernel
theorem d_Md_counted_186 : decode b_Md_counted 186 = .ok (.ifCond .ne 29, 3) := by decide +kernel
theorem d_Md_counted_189 : decode b_Md_counted 189 = .ok (.iload_n 2, 1) := by decide +kernel
theorem d_Md_counted_190 : decode b_Md_counted 190 = .ok (.iload_n 3, 1) := by decide +kernel
theorem d_Md_counted_191 : decode b_Md_counted 191 = .ok (.aload_n 0, 1) := by decide +kernel
theorem d_Md_counted_192 : decode b_Md_counted 192 = .ok (.getfield 83, 3) := by decide +kernel
theorem d_Md_counted_195 : decode b_Md_counted 195 = .ok (.iload 6, 2) := by decide +kernel
theorem d_Md_counted_197 : decode b_Md_counted 197 = .ok (.iaload, 1) := by decide +kernel
theorem d_Md_counted_198 : decode b_Md_counted 198 = .ok (.iadd, 1) := by decide +kernel
theorem d_Md_counted_199 : decode b_Md_counted 199 = .ok (.iload 4, 2) := by decide +kernel
theorem d_Md_counted_201 : decode b_Md_counted 201 = .ok (.aload_n 0, 1) := by decide +kernel
theorem d_Md_counted_202 : decode b_Md_counted 202 = .ok (.getfield 86, 3) := by decide +kernel
theorem d_Md_counted_205 : decode b_Md_counted 205 = .ok (.iload 6, 2) := by decide +kernel
theorem d_Md_counted_207 : decode b_Md_counted 207 = .ok (.iaload, 1) := by decide +kernel
theorem d_Md_counted_208 : decode b_Md_counted 208 = .ok (.iadd, 1) := by decide +kernel
theorem d_Md_counted_209 : decode b_Md_counted 209 = .ok (.invokestatic 167, 3) := by decide +kernel
theorem d_Md_counted_212 : decode b_Md_counted 212 = .ok (.ifCond .eq 7, 3) := by decide +kernel
theorem d_Md_counted_215 : decode b_Md_counted 215 = .ok (.iconst 1, 1) := by decide +kernel
theorem d_Md_counted_216 : decode b_Md_counted 216 = .ok (.goto 4, 3) := by decide +kernel
theorem d_Md_counted_219 : decode b_Md_counted 219 = .ok (.iconst 0, 1) := by decide +kernel
theorem d_Md_counted_220 : decode b_Md_counted 220 = .ok (.istore 5, 2) := by decide +kernel
theorem d_Md_counted_222 : decode b_Md_counted 222 = .ok (.iinc 6 1, 3) := by decide +kernel
theorem d_Md_counted_225 : decode b_Md_counted 225 = .ok (.goto (-93), 3) := by decide +kernel
theorem d_Md_counted_228 : decode b_Md_counted 228 = .ok (.iload 5, 2) := by decide +kernel
theorem d_Md_counted_230 : decode b_Md_counted 230 = .ok (.ifCond .eq 7, 3) := by decide +kernel
theorem d_Md_counted_233 : decode b_Md_counted 233 = .ok (.iconst 2, 1) := by decide +kernel
theorem d_Md_counted_234 : decode b_Md_counted 234 = .ok (.goto 4, 3) := by decide +kernel
theorem d_Md_counted_237 : decode b_Md_counted 237 = .ok (.iconst 1, 1) := by decide +kernel
theorem d_Md_counted_238 : decode b_Md_counted 238 = .ok (.ireturn, 1) := by decide +kernel
theorem d_Md_raised_0 : decode b_Md_raised 0 = .ok (.aload_n 0, 1) := by decide +kernel
theorem d_Md_raised_1 : decode b_Md_raised 1 = .ok (.aload_n 0, 1) := by decide +kernel
theorem d_Md_raised_2 : decode b_Md_raised 2 = .ok (.getfield 108, 3) := by decide +kernel
theorem d_Md_raised_5 : decode b_Md_raised 5 = .ok (.ifCond .ne 7, 3) := by decide +kernel
theorem d_Md_raised_8 : decode b_Md_raised 8 = .ok (.iconst 1, 1) := by decide +kernel
theorem d_Md_raised_9 : decode b_Md_raised 9 = .ok (.goto 37, 3) := by decide +kernel
theorem d_Md_raised_12 : decode b_Md_raised 12 = .ok (.iload_n 1, 1) := by decide +kernel
theorem d_Md_raised_13 : decode b_Md_raised 13 = .ok (.iconst 0, 1) := by decide +kernel
theorem d_Md_raised_14 : decode b_Md_raised 14 = .ok (.aload_n 0, 1) := by decide +kernel
theorem d_Md_raised_15 : decode b_Md_raised 15 = .ok (.getfield 141, 3) := by decide +kernel
theorem d_Md_raised_18 : decode b_Md_raised 18 = .ok (.iconst 1, 1) := by decide +kernel
theorem d_Md_raised_19 : decode b_Md_raised 19 = .ok (.isub, 1) := by decide +kernel
theorem d_Md_raised_20 : decode b_Md_raised 20 = .ok (.invokestatic 96, 3) := by decide +kernel
theorem d_Md_raised_23 : decode b_Md_raised 23 = .ok (.ifCond .ne 7, 3) := by decide +kernel
theorem d_Md_raised_26 : decode b_Md_raised 26 = .ok (.iconst 2, 1) := by decide +kernel
theorem d_Md_raised_27 : decode b_Md_raised 27 = .ok (.goto 19, 3) := by decide +kernel
theorem d_Md_raised_30 : decode b_Md_raised 30 = .ok (.iload_n 2, 1) := by decide +kernel
theorem d_Md_raised_31 : decode b_Md_raised 31 = .ok (.iconst 1, 1) := by decide +kernel
theorem d_Md_raised_32 : decode b_Md_raised 32 = .ok (.sipush 1000, 3) := by decide +kernel
theorem d_Md_raised_35 : decode b_Md_raised 35 = .ok (.invokestatic 96, 3) := by decide +kernel
theorem d_Md_raised_38 : decode b_Md_raised 38 = .ok (.ifCond .ne 7, 3) := by decide +kernel
theorem d_Md_raised_41 : decode b_Md_raised 41 = .ok (.iconst 3, 1) := by decide +kernel
theorem d_Md_raised_42 : decode b_Md_raised 42 = .ok (.goto 4, 3) := by decide +kernel
theorem d_Md_raised_45 : decode b_Md_raised 45 = .ok (.iconst 0, 1) := by decide +kernel
theorem d_Md_raised_46 : decode b_Md_raised 46 = .ok (.putfield 93, 3) := by decide +kernel
theorem d_Md_raised_49 : decode b_Md_raised 49 = .ok (.aload_n 0, 1) := by decide +kernel
theorem d_Md_raised_50 : decode b_Md_raised 50 = .ok (.getfield 93, 3) := by decide +kernel
theorem d_Md_raised_53 : decode b_Md_raised 53 = .ok (.ifCond .le 5, 3) := by decide +kernel
theorem d_Md_raised_56 : decode b_Md_raised 56 = .ok (.iconst 0, 1) := by decide +kernel
theorem d_Md_raised_57 : decode b_Md_raised 57 = .ok (.ireturn, 1) := by decide +kernel
theorem d_Md_raised_58 : decode b_Md_raised 58 = .ok (.aload_n 0, 1) := by decide +kernel
theorem d_Md_raised_59 : decode b_Md_raised 59 = .ok (.iload_n 1, 1) := by decide +kernel
theorem d_Md_raised_60 : decode b_Md_raised 60 = .ok (.invokevirtual 155, 3) := by decide +kernel
theorem d_Md_raised_63 : decode b_Md_raised 63 = .ok (.istore_n 3, 1) := by decide +kernel
theorem d_Md_raised_64 : decode b_Md_raised 64 = .ok (.aload_n 0, 1) := by decide +kernel
theorem d_Md_raised_65 : decode b_Md_raised 65 = .ok (.getfield 13, 3) := by decide +kernel
theorem d_Md_raised_68 : decode b_Md_raised 68 = .ok (.iload_n 3, 1) := by decide +kernel
theorem d_Md_raised_69 : decode b_Md_raised 69 = .ok (.iaload, 1) := by decide +kernel
theorem d_Md_raised_70 : decode b_Md_raised 70 = .ok (.aload_n 0, 1) := by decide +kernel
theorem d_Md_raised_71 : decode b_Md_raised 71 = .ok (.getfield 13, 3) := by decide +kernel
theorem d_Md_raised_74 : decode b_Md_raised 74 = .ok (.iload_n 3, 1) := by decide +kernel
theorem d_Md_raised_75 : decode b_Md_raised 75 = .ok (.iaload, 1) := by decide +kernel
theorem d_Md_raised_76 : decode b_Md_raised 76 = .ok (.imul, 1) := by decide +kernel
theorem d_Md_raised_77 : decode b_Md_raised 77 = .ok (.aload_n 0, 1) := by decide +kernel
theorem d_Md_raised_78 : decode b_Md_raised 78 = .ok (.getfield 16, 3) := by decide +kernel
theorem d_Md_raised_81 : decode b_Md_raised 81 = .ok (.iload_n 3, 1) := by decide +kernel
theorem d_Md_raised_82 : decode b_Md_raised 82 = .ok (.iaload, 1) := by decide +kernel
theorem d_Md_raised_83 : decode b_Md_raised 83 = .ok (.aload_n 0, 1) := by decide +kernel
theorem d_Md_raised_84 : decode b_Md_raised 84 = .ok (.getfield 16, 3) := by decide +kernel
theorem d_Md_raised_87 : decode b_Md_raised 87 = .ok (.iload_n 3, 1) := by decide +kernel
theorem d_Md_raised_88 : decode b_Md_raised 88 = .ok (.iaload, 1) := by decide +kernel
theorem d_Md_raised_89 : decode b_Md_raised 89 = .ok (.imul, 1) := by decide +kernel
theorem d_Md_raised_90 : decode b_Md_raised 90 = .ok (.iadd, 1) := by decide +kernel
theorem d_Md_raised_91 : decode b_Md_raised 91 = .ok (.iload_n 2, 1) := by decide +kernel
theorem d_Md_raised_92 : decode b_Md_raised 92 = .ok (.iload_n 2, 1) := by decide +kernel
theorem d_Md_raised_93 : decode b_Md_raised 93 = .ok (.imul, 1) := by decide +kernel
theorem d_Md_raised_94 : decode b_Md_raised 94 = .ok (.if_icmp .gt 7, 3) := by decide +kernel
theorem d_Md_raised_97 : decode b_Md_raised 97 = .ok (.iconst 1, 1) := by decide +kernel
theorem d_Md_raised_98 : decode b_Md_raised 98 = .ok (.goto 4, 3) := by decide +kernel
theorem d_Md_raised_101 : decode b_Md_raised 101 = .ok (.iconst 0, 1) := by decide +kernel
theorem d_Md_raised_102 : decode b_Md_raised 102 = .ok (.ireturn, 1) := by decide +kernel
theorem d_Md_pallets_0 : decode b_Md_pallets 0 = .ok (.aload_n 0, 1) := by decide +kernel
theorem d_Md_pallets_1 : decode b_Md_pallets 1 = .ok (.aload_n 0, 1) := by decide +kernel
theorem d_Md_pallets_2 : decode b_Md_pallets 2 = .ok (.getfield 108, 3) := by decide +kernel
theorem d_Md_pallets_5 : decode b_Md_pallets 5 = .ok (.ifCond .ne 7, 3) := by decide +kernel
theorem d_Md_pallets_8 : decode b_Md_pallets 8 = .ok (.iconst 1, 1) := by decide +kernel
theorem d_Md_pallets_9 : decode b_Md_pallets 9 = .ok (.goto 18, 3) := by decide +kernel
theorem d_Md_pallets_12 : decode b_Md_pallets 12 = .ok (.iload_n 1, 1) := by decide +kernel
theorem d_Md_pallets_13 : decode b_Md_pallets 13 = .ok (.iconst 1, 1) := by decide +kernel
theorem d_Md_pallets_14 : decode b_Md_pallets 14 = .ok (.ldc 170, 2) := by decide +kernel
theorem d_Md_pallets_16 : decode b_Md_pallets 16 = .ok (.invokestatic 96, 3) := by decide +kernel
theorem d_Md_pallets_19 : decode b_Md_pallets 19 = .ok (.ifCond .ne 7, 3) := by decide +kernel
theorem d_Md_pallets_22 : decode b_Md_pallets 22 = .ok (.iconst 2, 1) := by decide +kernel
theorem d_Md_pallets_23 : decode b_Md_pallets 23 = .ok (.goto 4, 3) := by decide +kernel
theorem d_Md_pallets_26 : decode b_Md_pallets 26 = .ok (.iconst 0, 1) := by decide +kernel
theorem d_Md_pallets_27 : decode b_Md_pallets 27 = .ok (.putfield 93, 3) := by decide +kernel
theorem d_Md_pallets_30 : decode b_Md_pallets 30 = .ok (.iconst 0, 1) := by decide +kernel
theorem d_Md_pallets_31 : decode b_Md_pallets 31 = .ok (.istore_n 2, 1) := by decide +kernel
theorem d_Md_pallets_32 : decode b_Md_pallets 32 = .ok (.iconst 0, 1) := by decide +kernel
theorem d_Md_pallets_33 : decode b_Md_pallets 33 = .ok (.istore_n 3, 1) := by decide +kernel
theorem d_Md_pallets_34 : decode b_Md_pallets 34 = .ok (.aload_n 0, 1) := by decide +kernel
theorem d_Md_pallets_35 : decode b_Md_pallets 35 = .ok (.getfield 93, 3) := by decide +kernel
theorem d_Md_pallets_38 : decode b_Md_pallets 38 = .ok (.ifCond .le 7, 3) := by decide +kernel
theorem d_Md_pallets_41 : decode b_Md_pallets 41 = .ok (.iconst 0, 1) := by decide +kernel
theorem d_Md_pallets_42 : decode b_Md_pallets 42 = .ok (.goto 11, 3) := by decide +kernel
theorem d_Md_pallets_45 : decode b_Md_pallets 45 = .ok (.aload_n 0, 1) := by decide +kernel
theorem d_Md_pallets_46 : decode b_Md_pallets 46 = .ok (.aload_n 0, 1) := by decide +kernel
theorem d_Md_pallets_47 : decode b_Md_pallets 47 = .ok (.getfield 68, 3) := by decide +kernel
theorem d_Md_pallets_50 : decode b_Md_pallets 50 = .ok (.invokevirtual 144, 3) := by decide +kernel
theorem d_Md_pallets_53 : decode b_Md_pallets 53 = .ok (.istore 4, 2) := by decide +kernel
theorem d_Md_pallets_55 : decode b_Md_pallets 55 = .ok (.iconst 0, 1) := by decide +kernel
theorem d_Md_pallets_56 : decode b_Md_pallets 56 = .ok (.istore 5, 2) := by decide +kernel
theorem d_Md_pallets_58 : decode b_Md_pallets 58 = .ok (.iload 5, 2) := by decide +kernel
theorem d_Md_pallets_60 : decode b_Md_pallets 60 = .ok (.iload 4, 2) := by decide +kernel
theorem d_Md_pallets_62 : decode b_Md_pallets 62 = .ok (.if_icmp .ge 69, 3) := by decide +kernel
theorem d_Md_pallets_65 : decode b_Md_pallets 65 = .ok (.aload_n 0, 1) := by decide +kernel
theorem d_Md_pallets_66 : decode b_Md_pallets 66 = .ok (.aload_n 0, 1) := by decide +kernel
theorem d_Md_pallets_67 : decode b_Md_pallets 67 = .ok (.getfield 74, 3) := by decide +kernel
theorem d_Md_pallets_70 : decode b_Md_pallets 70 = .ok (.iload 5, 2) := by decide +kernel
theorem d_Md_pallets_72 : decode b_Md_pallets 72 = .ok (.iaload, 1) := by decide +kernel
theorem d_Md_pallets_73 : decode b_Md_pallets 73 = .ok (.invokevirtual 161, 3) := by decide +kernel
theorem d_Md_pallets_76 : decode b_Md_pallets 76 = .ok (.istore 6, 2) := by decide +kernel
theorem d_Md_pallets_78 : decode b_Md_pallets 78 = .ok (.iload_n 2, 1) := by decide +kernel
theorem d_Md_pallets_79 : decode b_Md_pallets 79 = .ok (.ifCond .le 15, 3) := by decide +kernel
theorem d_Md_pallets_82 : decode b_Md_pallets 82 = .ok (.iload_n 3, 1) := by decide +kernel
theorem d_Md_pallets_83 : decode b_Md_pallets 83 = .ok (.iload 6, 2) := by decide +kernel
theorem d_Md_pallets_85 : decode b_Md_pallets 85 = .ok (.iadd, 1) := by decide +kernel
theorem d_Md_pallets_86 : decode b_Md_pallets 86 = .ok (.iload_n 1, 1) := by decide +kernel
theorem d_Md_pallets_87 : decode b_Md_pallets 87 = .ok (.if_icmp .gt 7, 3) := by decide +kernel
theorem d_Md_pallets_90 : decode b_Md_pallets 90 = .ok (.iconst 1, 1) := by decide +kernel
theorem d_Md_pallets_91 : decode b_Md_pallets 91 = .ok (.goto 4, 3) := by decide +kernel
theorem d_Md_pallets_94 : decode b_Md_pallets 94 = .ok (.iconst 0, 1) := by decide +kernel
theorem d_Md_pallets_95 : decode b_Md_pallets 95 = .ok (.istore 7, 2) := by decide +kernel
theorem d_Md_pallets_97 : decode b_Md_pallets 97 = .ok (.iload 7, 2) := by decide +kernel
theorem d_Md_pallets_99 : decode b_Md_pallets 99 = .ok (.ifCond .eq 10, 3) := by decide +kernel
theorem d_Md_pallets_102 : decode b_Md_pallets 102 = .ok (.iload_n 3, 1) := by decide +kernel
theorem d_Md_pallets_103 : decode b_Md_pallets 103 = .ok (.iload 6, 2) := by decide +kernel
theorem d_Md_pallets_105 : decode b_Md_pallets 105 = .ok (.iadd, 1) := by decide +kernel
theorem d_Md_pallets_106 : decode b_Md_pallets 106 = .ok (.goto 5, 3) := by decide +kernel
theorem d_Md_pallets_109 : decode b_Md_pallets 109 = .ok (.iload 6, 2) := by decide +kernel
theorem d_Md_pallets_111 : decode b_Md_pallets 111 = .ok (.istore_n 3, 1) := by decide +kernel
theorem d_Md_pallets_112 : decode b_Md_pallets 112 = .ok (.iload_n 2, 1) := by decide +kernel
theorem d_Md_pallets_113 : decode b_Md_pallets 113 = .ok (.iload 7, 2) := by decide +kernel
theorem d_Md_pallets_115 : decode b_Md_pallets 115 = .ok (.ifCond .eq 7, 3) := by decide +kernel
theorem d_Md_pallets_118 : decode b_Md_pallets 118 = .ok (.iconst 0, 1) := by decide +kernel
theorem d_Md_pallets_119 : decode b_Md_pallets 119 = .ok (.goto 4, 3) := by decide +kernel
theorem d_Md_pallets_122 : decode b_Md_pallets 122 = .ok (.iconst 1, 1) := by decide +kernel
theorem d_Md_pallets_123 : decode b_Md_pallets 123 = .ok (.iadd, 1) := by decide +kernel
theorem d_Md_pallets_124 : decode b_Md_pallets 124 = .ok (.istore_n 2, 1) := by decide +kernel
theorem d_Md_pallets_125 : decode b_Md_pallets 125 = .ok (.iinc 5 1, 3) := by decide +kernel
theorem d_Md_pallets_128 : decode b_Md_pallets 128 = .ok (.goto (-70), 3) := by decide +kernel
theorem d_Md_pallets_131 : decode b_Md_pallets 131 = .ok (.iload_n 2, 1) := by decide +kernel
theorem d_Md_pallets_132 : decode b_Md_pallets 132 = .ok (.ireturn, 1) := by decide +kernel
