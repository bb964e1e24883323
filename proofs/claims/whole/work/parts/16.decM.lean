abbrev yM_init : MethodName := { cls := "BlindMintModel", name := "<init>", desc := "()V" }
abbrev cM_init : ByteArray := prog_12_method_1_code
theorem dM_init_0 : decode cM_init 0 = .ok (.aload_n 0, 1) := by decide +kernel
theorem dM_init_1 : decode cM_init 1 = .ok (.invokespecial 1, 3) := by decide +kernel
theorem dM_init_4 : decode cM_init 4 = .ok (.aload_n 0, 1) := by decide +kernel
theorem dM_init_5 : decode cM_init 5 = .ok (.iconst 4, 1) := by decide +kernel
theorem dM_init_6 : decode cM_init 6 = .ok (.newarray .int, 2) := by decide +kernel
theorem dM_init_8 : decode cM_init 8 = .ok (.putfield 7, 3) := by decide +kernel
theorem dM_init_11 : decode cM_init 11 = .ok (.aload_n 0, 1) := by decide +kernel
theorem dM_init_12 : decode cM_init 12 = .ok (.iconst 4, 1) := by decide +kernel
theorem dM_init_13 : decode cM_init 13 = .ok (.newarray .int, 2) := by decide +kernel
theorem dM_init_15 : decode cM_init 15 = .ok (.putfield 13, 3) := by decide +kernel
theorem dM_init_18 : decode cM_init 18 = .ok (.aload_n 0, 1) := by decide +kernel
theorem dM_init_19 : decode cM_init 19 = .ok (.iconst (-1), 1) := by decide +kernel
theorem dM_init_20 : decode cM_init 20 = .ok (.putfield 16, 3) := by decide +kernel
theorem dM_init_23 : decode cM_init 23 = .ok (.aload_n 0, 1) := by decide +kernel
theorem dM_init_24 : decode cM_init 24 = .ok (.ldc2_w 20, 3) := by decide +kernel
theorem dM_init_27 : decode cM_init 27 = .ok (.putfield 22, 3) := by decide +kernel
theorem dM_init_30 : decode cM_init 30 = .ok (.aload_n 0, 1) := by decide +kernel
theorem dM_init_31 : decode cM_init 31 = .ok (.iconst 4, 1) := by decide +kernel
theorem dM_init_32 : decode cM_init 32 = .ok (.newarray .int, 2) := by decide +kernel
theorem dM_init_34 : decode cM_init 34 = .ok (.putfield 26, 3) := by decide +kernel
theorem dM_init_37 : decode cM_init 37 = .ok (.aload_n 0, 1) := by decide +kernel
theorem dM_init_38 : decode cM_init 38 = .ok (.bipush 32, 2) := by decide +kernel
theorem dM_init_40 : decode cM_init 40 = .ok (.newarray .int, 2) := by decide +kernel
theorem dM_init_42 : decode cM_init 42 = .ok (.putfield 29, 3) := by decide +kernel
theorem dM_init_45 : decode cM_init 45 = .ok (.aload_n 0, 1) := by decide +kernel
theorem dM_init_46 : decode cM_init 46 = .ok (.bipush 32, 2) := by decide +kernel
theorem dM_init_48 : decode cM_init 48 = .ok (.newarray .long, 2) := by decide +kernel
theorem dM_init_50 : decode cM_init 50 = .ok (.putfield 32, 3) := by decide +kernel
theorem dM_init_53 : decode cM_init 53 = .ok (.aload_n 0, 1) := by decide +kernel
theorem dM_init_54 : decode cM_init 54 = .ok (.bipush 32, 2) := by decide +kernel
theorem dM_init_56 : decode cM_init 56 = .ok (.newarray .long, 2) := by decide +kernel
theorem dM_init_58 : decode cM_init 58 = .ok (.putfield 36, 3) := by decide +kernel
theorem dM_init_61 : decode cM_init 61 = .ok (.aload_n 0, 1) := by decide +kernel
theorem dM_init_62 : decode cM_init 62 = .ok (.bipush 32, 2) := by decide +kernel
theorem dM_init_64 : decode cM_init 64 = .ok (.newarray .boolean, 2) := by decide +kernel
theorem dM_init_66 : decode cM_init 66 = .ok (.putfield 39, 3) := by decide +kernel
theorem dM_init_69 : decode cM_init 69 = .ok (.aload_n 0, 1) := by decide +kernel
theorem dM_init_70 : decode cM_init 70 = .ok (.sipush 512, 3) := by decide +kernel
theorem dM_init_73 : decode cM_init 73 = .ok (.newarray .long, 2) := by decide +kernel
theorem dM_init_75 : decode cM_init 75 = .ok (.putfield 43, 3) := by decide +kernel
theorem dM_init_78 : decode cM_init 78 = .ok (.aload_n 0, 1) := by decide +kernel
theorem dM_init_79 : decode cM_init 79 = .ok (.sipush 320, 3) := by decide +kernel
theorem dM_init_82 : decode cM_init 82 = .ok (.newarray .long, 2) := by decide +kernel
theorem dM_init_84 : decode cM_init 84 = .ok (.putfield 46, 3) := by decide +kernel
theorem dM_init_87 : decode cM_init 87 = .ok (.aload_n 0, 1) := by decide +kernel
theorem dM_init_88 : decode cM_init 88 = .ok (.sipush 5200, 3) := by decide +kernel
theorem dM_init_91 : decode cM_init 91 = .ok (.newarray .long, 2) := by decide +kernel
theorem dM_init_93 : decode cM_init 93 = .ok (.putfield 49, 3) := by decide +kernel
theorem dM_init_96 : decode cM_init 96 = .ok (.aload_n 0, 1) := by decide +kernel
theorem dM_init_97 : decode cM_init 97 = .ok (.bipush 6, 2) := by decide +kernel
theorem dM_init_99 : decode cM_init 99 = .ok (.newarray .long, 2) := by decide +kernel
theorem dM_init_101 : decode cM_init 101 = .ok (.putfield 52, 3) := by decide +kernel
theorem dM_init_104 : decode cM_init 104 = .ok (.aload_n 0, 1) := by decide +kernel
theorem dM_init_105 : decode cM_init 105 = .ok (.bipush 6, 2) := by decide +kernel
theorem dM_init_107 : decode cM_init 107 = .ok (.newarray .long, 2) := by decide +kernel
theorem dM_init_109 : decode cM_init 109 = .ok (.putfield 55, 3) := by decide +kernel
theorem dM_init_112 : decode cM_init 112 = .ok (.aload_n 0, 1) := by decide +kernel
theorem dM_init_113 : decode cM_init 113 = .ok (.bipush 6, 2) := by decide +kernel
theorem dM_init_115 : decode cM_init 115 = .ok (.newarray .long, 2) := by decide +kernel
theorem dM_init_117 : decode cM_init 117 = .ok (.putfield 58, 3) := by decide +kernel
theorem dM_init_120 : decode cM_init 120 = .ok (.aload_n 0, 1) := by decide +kernel
theorem dM_init_121 : decode cM_init 121 = .ok (.bipush 6, 2) := by decide +kernel
theorem dM_init_123 : decode cM_init 123 = .ok (.newarray .long, 2) := by decide +kernel
theorem dM_init_125 : decode cM_init 125 = .ok (.putfield 61, 3) := by decide +kernel
theorem dM_init_128 : decode cM_init 128 = .ok (.aload_n 0, 1) := by decide +kernel
theorem dM_init_129 : decode cM_init 129 = .ok (.bipush 6, 2) := by decide +kernel
theorem dM_init_131 : decode cM_init 131 = .ok (.newarray .long, 2) := by decide +kernel
theorem dM_init_133 : decode cM_init 133 = .ok (.putfield 64, 3) := by decide +kernel
theorem dM_init_136 : decode cM_init 136 = .ok (.aload_n 0, 1) := by decide +kernel
theorem dM_init_137 : decode cM_init 137 = .ok (.bipush 6, 2) := by decide +kernel
theorem dM_init_139 : decode cM_init 139 = .ok (.newarray .boolean, 2) := by decide +kernel
theorem dM_init_141 : decode cM_init 141 = .ok (.putfield 67, 3) := by decide +kernel
theorem dM_init_144 : decode cM_init 144 = .ok (.aload_n 0, 1) := by decide +kernel
theorem dM_init_145 : decode cM_init 145 = .ok (.iconst 4, 1) := by decide +kernel
theorem dM_init_146 : decode cM_init 146 = .ok (.newarray .long, 2) := by decide +kernel
theorem dM_init_148 : decode cM_init 148 = .ok (.putfield 70, 3) := by decide +kernel
theorem dM_init_151 : decode cM_init 151 = .ok (.iconst 0, 1) := by decide +kernel
theorem dM_init_152 : decode cM_init 152 = .ok (.istore_n 1, 1) := by decide +kernel
theorem dM_init_153 : decode cM_init 153 = .ok (.iload_n 1, 1) := by decide +kernel
theorem dM_init_154 : decode cM_init 154 = .ok (.iconst 4, 1) := by decide +kernel
theorem dM_init_155 : decode cM_init 155 = .ok (.if_icmp .ge 17, 3) := by decide +kernel
theorem dM_init_158 : decode cM_init 158 = .ok (.aload_n 0, 1) := by decide +kernel
theorem dM_init_159 : decode cM_init 159 = .ok (.getfield 7, 3) := by decide +kernel
theorem dM_init_162 : decode cM_init 162 = .ok (.iload_n 1, 1) := by decide +kernel
theorem dM_init_163 : decode cM_init 163 = .ok (.bipush 100, 2) := by decide +kernel
theorem dM_init_165 : decode cM_init 165 = .ok (.iastore, 1) := by decide +kernel
theorem dM_init_166 : decode cM_init 166 = .ok (.iinc 1 1, 3) := by decide +kernel
theorem dM_init_169 : decode cM_init 169 = .ok (.goto (-16), 3) := by decide +kernel
theorem dM_init_172 : decode cM_init 172 = .ok (.return_, 1) := by decide +kernel
abbrev yM_thrown : MethodName := { cls := "BlindMintModel", name := "thrown", desc := "()I" }
abbrev cM_thrown : ByteArray := prog_12_method_3_code
theorem dM_thrown_0 : decode cM_thrown 0 = .ok (.aload_n 0, 1) := by decide +kernel
theorem dM_thrown_1 : decode cM_thrown 1 = .ok (.getfield 73, 3) := by decide +kernel
theorem dM_thrown_4 : decode cM_thrown 4 = .ok (.ireturn, 1) := by decide +kernel
abbrev yM_withdraw : MethodName := { cls := "BlindMintModel", name := "withdraw", desc := "(IIJI)I" }
abbrev cM_withdraw : ByteArray := prog_12_method_21_code
theorem dM_withdraw_0 : decode cM_withdraw 0 = .ok (.aload_n 0, 1) := by decide +kernel
theorem dM_withdraw_1 : decode cM_withdraw 1 = .ok (.iconst 0, 1) := by decide +kernel
theorem dM_withdraw_2 : decode cM_withdraw 2 = .ok (.putfield 73, 3) := by decide +kernel
theorem dM_withdraw_5 : decode cM_withdraw 5 = .ok (.iload_n 1, 1) := by decide +kernel
theorem dM_withdraw_6 : decode cM_withdraw 6 = .ok (.iconst 4, 1) := by decide +kernel
theorem dM_withdraw_7 : decode cM_withdraw 7 = .ok (.invokestatic 136, 3) := by decide +kernel
theorem dM_withdraw_10 : decode cM_withdraw 10 = .ok (.ifCond .eq 21, 3) := by decide +kernel
theorem dM_withdraw_13 : decode cM_withdraw 13 = .ok (.iload_n 2, 1) := by decide +kernel
theorem dM_withdraw_14 : decode cM_withdraw 14 = .ok (.iconst 3, 1) := by decide +kernel
theorem dM_withdraw_15 : decode cM_withdraw 15 = .ok (.invokestatic 136, 3) := by decide +kernel
theorem dM_withdraw_18 : decode cM_withdraw 18 = .ok (.ifCond .eq 13, 3) := by decide +kernel
theorem dM_withdraw_21 : decode cM_withdraw 21 = .ok (.iload 5, 2) := by decide +kernel
theorem dM_withdraw_23 : decode cM_withdraw 23 = .ok (.bipush 64, 2) := by decide +kernel
theorem dM_withdraw_25 : decode cM_withdraw 25 = .ok (.invokestatic 136, 3) := by decide +kernel
theorem dM_withdraw_28 : decode cM_withdraw 28 = .ok (.ifCond .ne 9, 3) := by decide +kernel
theorem dM_withdraw_31 : decode cM_withdraw 31 = .ok (.aload_n 0, 1) := by decide +kernel
theorem dM_withdraw_32 : decode cM_withdraw 32 = .ok (.iconst 1, 1) := by decide +kernel
theorem dM_withdraw_33 : decode cM_withdraw 33 = .ok (.invokevirtual 140, 3) := by decide +kernel
theorem dM_withdraw_36 : decode cM_withdraw 36 = .ok (.ireturn, 1) := by decide +kernel
theorem dM_withdraw_37 : decode cM_withdraw 37 = .ok (.aload_n 0, 1) := by decide +kernel
theorem dM_withdraw_38 : decode cM_withdraw 38 = .ok (.getfield 7, 3) := by decide +kernel
theorem dM_withdraw_41 : decode cM_withdraw 41 = .ok (.iload_n 1, 1) := by decide +kernel
theorem dM_withdraw_42 : decode cM_withdraw 42 = .ok (.iaload, 1) := by decide +kernel
theorem dM_withdraw_43 : decode cM_withdraw 43 = .ok (.iload_n 2, 1) := by decide +kernel
theorem dM_withdraw_44 : decode cM_withdraw 44 = .ok (.invokestatic 144, 3) := by decide +kernel
theorem dM_withdraw_47 : decode cM_withdraw 47 = .ok (.if_icmp .lt 14, 3) := by decide +kernel
theorem dM_withdraw_50 : decode cM_withdraw 50 = .ok (.aload_n 0, 1) := by decide +kernel
theorem dM_withdraw_51 : decode cM_withdraw 51 = .ok (.getfield 26, 3) := by decide +kernel
theorem dM_withdraw_54 : decode cM_withdraw 54 = .ok (.iload_n 1, 1) := by decide +kernel
theorem dM_withdraw_55 : decode cM_withdraw 55 = .ok (.iaload, 1) := by decide +kernel
theorem dM_withdraw_56 : decode cM_withdraw 56 = .ok (.bipush 8, 2) := by decide +kernel
theorem dM_withdraw_58 : decode cM_withdraw 58 = .ok (.if_icmp .ne 9, 3) := by decide +kernel
theorem dM_withdraw_61 : decode cM_withdraw 61 = .ok (.aload_n 0, 1) := by decide +kernel
theorem dM_withdraw_62 : decode cM_withdraw 62 = .ok (.iconst 2, 1) := by decide +kernel
theorem dM_withdraw_63 : decode cM_withdraw 63 = .ok (.invokevirtual 140, 3) := by decide +kernel
theorem dM_withdraw_66 : decode cM_withdraw 66 = .ok (.ireturn, 1) := by decide +kernel
theorem dM_withdraw_67 : decode cM_withdraw 67 = .ok (.aload_n 0, 1) := by decide +kernel
theorem dM_withdraw_68 : decode cM_withdraw 68 = .ok (.iload_n 1, 1) := by decide +kernel
theorem dM_withdraw_69 : decode cM_withdraw 69 = .ok (.lload_n 3, 1) := by decide +kernel
theorem dM_withdraw_70 : decode cM_withdraw 70 = .ok (.iload 5, 2) := by decide +kernel
theorem dM_withdraw_72 : decode cM_withdraw 72 = .ok (.invokevirtual 147, 3) := by decide +kernel
theorem dM_withdraw_75 : decode cM_withdraw 75 = .ok (.aload_n 0, 1) := by decide +kernel
theorem dM_withdraw_76 : decode cM_withdraw 76 = .ok (.iload 5, 2) := by decide +kernel
theorem dM_withdraw_78 : decode cM_withdraw 78 = .ok (.invokevirtual 151, 3) := by decide +kernel
theorem dM_withdraw_81 : decode cM_withdraw 81 = .ok (.istore 6, 2) := by decide +kernel
theorem dM_withdraw_83 : decode cM_withdraw 83 = .ok (.iload 6, 2) := by decide +kernel
theorem dM_withdraw_85 : decode cM_withdraw 85 = .ok (.ifCond .le 30, 3) := by decide +kernel
theorem dM_withdraw_88 : decode cM_withdraw 88 = .ok (.aload_n 0, 1) := by decide +kernel
theorem dM_withdraw_89 : decode cM_withdraw 89 = .ok (.getfield 7, 3) := by decide +kernel
theorem dM_withdraw_92 : decode cM_withdraw 92 = .ok (.iload_n 1, 1) := by decide +kernel
theorem dM_withdraw_93 : decode cM_withdraw 93 = .ok (.dup2, 1) := by decide +kernel
theorem dM_withdraw_94 : decode cM_withdraw 94 = .ok (.iaload, 1) := by decide +kernel
theorem dM_withdraw_95 : decode cM_withdraw 95 = .ok (.iconst 1, 1) := by decide +kernel
theorem dM_withdraw_96 : decode cM_withdraw 96 = .ok (.isub, 1) := by decide +kernel
theorem dM_withdraw_97 : decode cM_withdraw 97 = .ok (.iastore, 1) := by decide +kernel
theorem dM_withdraw_98 : decode cM_withdraw 98 = .ok (.aload_n 0, 1) := by decide +kernel
theorem dM_withdraw_99 : decode cM_withdraw 99 = .ok (.getfield 13, 3) := by decide +kernel
theorem dM_withdraw_102 : decode cM_withdraw 102 = .ok (.iconst 2, 1) := by decide +kernel
theorem dM_withdraw_103 : decode cM_withdraw 103 = .ok (.dup2, 1) := by decide +kernel
theorem dM_withdraw_104 : decode cM_withdraw 104 = .ok (.iaload, 1) := by decide +kernel
theorem dM_withdraw_105 : decode cM_withdraw 105 = .ok (.iload 6, 2) := by decide +kernel
theorem dM_withdraw_107 : decode cM_withdraw 107 = .ok (.iadd, 1) := by decide +kernel
theorem dM_withdraw_108 : decode cM_withdraw 108 = .ok (.iastore, 1) := by decide +kernel
theorem dM_withdraw_109 : decode cM_withdraw 109 = .ok (.aload_n 0, 1) := by decide +kernel
theorem dM_withdraw_110 : decode cM_withdraw 110 = .ok (.iconst 2, 1) := by decide +kernel
theorem dM_withdraw_111 : decode cM_withdraw 111 = .ok (.invokevirtual 140, 3) := by decide +kernel
theorem dM_withdraw_114 : decode cM_withdraw 114 = .ok (.ireturn, 1) := by decide +kernel
theorem dM_withdraw_115 : decode cM_withdraw 115 = .ok (.bipush 8, 2) := by decide +kernel
theorem dM_withdraw_117 : decode cM_withdraw 117 = .ok (.iload_n 1, 1) := by decide +kernel
theorem dM_withdraw_118 : decode cM_withdraw 118 = .ok (.imul, 1) := by decide +kernel
theorem dM_withdraw_119 : decode cM_withdraw 119 = .ok (.aload_n 0, 1) := by decide +kernel
theorem dM_withdraw_120 : decode cM_withdraw 120 = .ok (.getfield 26, 3) := by decide +kernel
theorem dM_withdraw_123 : decode cM_withdraw 123 = .ok (.iload_n 1, 1) := by decide +kernel
theorem dM_withdraw_124 : decode cM_withdraw 124 = .ok (.iaload, 1) := by decide +kernel
theorem dM_withdraw_125 : decode cM_withdraw 125 = .ok (.iadd, 1) := by decide +kernel
theorem dM_withdraw_126 : decode cM_withdraw 126 = .ok (.istore 7, 2) := by decide +kernel
theorem dM_withdraw_128 : decode cM_withdraw 128 = .ok (.iconst 0, 1) := by decide +kernel
theorem dM_withdraw_129 : decode cM_withdraw 129 = .ok (.istore 8, 2) := by decide +kernel
theorem dM_withdraw_131 : decode cM_withdraw 131 = .ok (.iload 8, 2) := by decide +kernel
theorem dM_withdraw_133 : decode cM_withdraw 133 = .ok (.iconst 4, 1) := by decide +kernel
theorem dM_withdraw_134 : decode cM_withdraw 134 = .ok (.if_icmp .ge 131, 3) := by decide +kernel
theorem dM_withdraw_137 : decode cM_withdraw 137 = .ok (.aload_n 0, 1) := by decide +kernel
theorem dM_withdraw_138 : decode cM_withdraw 138 = .ok (.invokevirtual 154, 3) := by decide +kernel
theorem dM_withdraw_141 : decode cM_withdraw 141 = .ok (.istore 9, 2) := by decide +kernel
theorem dM_withdraw_143 : decode cM_withdraw 143 = .ok (.aload_n 0, 1) := by decide +kernel
theorem dM_withdraw_144 : decode cM_withdraw 144 = .ok (.getfield 67, 3) := by decide +kernel
theorem dM_withdraw_147 : decode cM_withdraw 147 = .ok (.iload 9, 2) := by decide +kernel
theorem dM_withdraw_149 : decode cM_withdraw 149 = .ok (.iconst 0, 1) := by decide +kernel
theorem dM_withdraw_150 : decode cM_withdraw 150 = .ok (.bastore, 1) := by decide +kernel
theorem dM_withdraw_151 : decode cM_withdraw 151 = .ok (.aload_n 0, 1) := by decide +kernel
theorem dM_withdraw_152 : decode cM_withdraw 152 = .ok (.getfield 70, 3) := by decide +kernel
theorem dM_withdraw_155 : decode cM_withdraw 155 = .ok (.iload 8, 2) := by decide +kernel
theorem dM_withdraw_157 : decode cM_withdraw 157 = .ok (.aload_n 0, 1) := by decide +kernel
theorem dM_withdraw_158 : decode cM_withdraw 158 = .ok (.getfield 64, 3) := by decide +kernel
theorem dM_withdraw_161 : decode cM_withdraw 161 = .ok (.iload 9, 2) := by decide +kernel
theorem dM_withdraw_163 : decode cM_withdraw 163 = .ok (.laload, 1) := by decide +kernel
theorem dM_withdraw_164 : decode cM_withdraw 164 = .ok (.lastore, 1) := by decide +kernel
theorem dM_withdraw_165 : decode cM_withdraw 165 = .ok (.aload_n 0, 1) := by decide +kernel
theorem dM_withdraw_166 : decode cM_withdraw 166 = .ok (.getfield 43, 3) := by decide +kernel
theorem dM_withdraw_169 : decode cM_withdraw 169 = .ok (.bipush 16, 2) := by decide +kernel
theorem dM_withdraw_171 : decode cM_withdraw 171 = .ok (.iload 7, 2) := by decide +kernel
theorem dM_withdraw_173 : decode cM_withdraw 173 = .ok (.imul, 1) := by decide +kernel
theorem dM_withdraw_174 : decode cM_withdraw 174 = .ok (.iconst 4, 1) := by decide +kernel
theorem dM_withdraw_175 : decode cM_withdraw 175 = .ok (.iload 8, 2) := by decide +kernel
theorem dM_withdraw_177 : decode cM_withdraw 177 = .ok (.imul, 1) := by decide +kernel
theorem dM_withdraw_178 : decode cM_withdraw 178 = .ok (.iadd, 1) := by decide +kernel
theorem dM_withdraw_179 : decode cM_withdraw 179 = .ok (.aload_n 0, 1) := by decide +kernel
theorem dM_withdraw_180 : decode cM_withdraw 180 = .ok (.getfield 52, 3) := by decide +kernel
theorem dM_withdraw_183 : decode cM_withdraw 183 = .ok (.iload 9, 2) := by decide +kernel
theorem dM_withdraw_185 : decode cM_withdraw 185 = .ok (.laload, 1) := by decide +kernel
theorem dM_withdraw_186 : decode cM_withdraw 186 = .ok (.lastore, 1) := by decide +kernel
theorem dM_withdraw_187 : decode cM_withdraw 187 = .ok (.aload_n 0, 1) := by decide +kernel
theorem dM_withdraw_188 : decode cM_withdraw 188 = .ok (.getfield 43, 3) := by decide +kernel
theorem dM_withdraw_191 : decode cM_withdraw 191 = .ok (.bipush 16, 2) := by decide +kernel
theorem dM_withdraw_193 : decode cM_withdraw 193 = .ok (.iload 7, 2) := by decide +kernel
theorem dM_withdraw_195 : decode cM_withdraw 195 = .ok (.imul, 1) := by decide +kernel
theorem dM_withdraw_196 : decode cM_withdraw 196 = .ok (.iconst 4, 1) := by decide +kernel
theorem dM_withdraw_197 : decode cM_withdraw 197 = .ok (.iload 8, 2) := by decide +kernel
theorem dM_withdraw_199 : decode cM_withdraw 199 = .ok (.imul, 1) := by decide +kernel
theorem dM_withdraw_200 : decode cM_withdraw 200 = .ok (.iadd, 1) := by decide +kernel
theorem dM_withdraw_201 : decode cM_withdraw 201 = .ok (.iconst 1, 1) := by decide +kernel
theorem dM_withdraw_202 : decode cM_withdraw 202 = .ok (.iadd, 1) := by decide +kernel
theorem dM_withdraw_203 : decode cM_withdraw 203 = .ok (.aload_n 0, 1) := by decide +kernel
theorem dM_withdraw_204 : decode cM_withdraw 204 = .ok (.getfield 55, 3) := by decide +kernel
theorem dM_withdraw_207 : decode cM_withdraw 207 = .ok (.iload 9, 2) := by decide +kernel
theorem dM_withdraw_209 : decode cM_withdraw 209 = .ok (.laload, 1) := by decide +kernel
theorem dM_withdraw_210 : decode cM_withdraw 210 = .ok (.lastore, 1) := by decide +kernel
theorem dM_withdraw_211 : decode cM_withdraw 211 = .ok (.aload_n 0, 1) := by decide +kernel
theorem dM_withdraw_212 : decode cM_withdraw 212 = .ok (.getfield 43, 3) := by decide +kernel
theorem dM_withdraw_215 : decode cM_withdraw 215 = .ok (.bipush 16, 2) := by decide +kernel
theorem dM_withdraw_217 : decode cM_withdraw 217 = .ok (.iload 7, 2) := by decide +kernel
theorem dM_withdraw_219 : decode cM_withdraw 219 = .ok (.imul, 1) := by decide +kernel
theorem dM_withdraw_220 : decode cM_withdraw 220 = .ok (.iconst 4, 1) := by decide +kernel
theorem dM_withdraw_221 : decode cM_withdraw 221 = .ok (.iload 8, 2) := by decide +kernel
theorem dM_withdraw_223 : decode cM_withdraw 223 = .ok (.imul, 1) := by decide +kernel
theorem dM_withdraw_224 : decode cM_withdraw 224 = .ok (.iadd, 1) := by decide +kernel
theorem dM_withdraw_225 : decode cM_withdraw 225 = .ok (.iconst 2, 1) := by decide +kernel
theorem dM_withdraw_226 : decode cM_withdraw 226 = .ok (.iadd, 1) := by decide +kernel
theorem dM_withdraw_227 : decode cM_withdraw 227 = .ok (.aload_n 0, 1) := by decide +kernel
theorem dM_withdraw_228 : decode cM_withdraw 228 = .ok (.getfield 58, 3) := by decide +kernel
theorem dM_withdraw_231 : decode cM_withdraw 231 = .ok (.iload 9, 2) := by decide +kernel
theorem dM_withdraw_233 : decode cM_withdraw 233 = .ok (.laload, 1) := by decide +kernel
theorem dM_withdraw_234 : decode cM_withdraw 234 = .ok (.lastore, 1) := by decide +kernel
theorem dM_withdraw_235 : decode cM_withdraw 235 = .ok (.aload_n 0, 1) := by decide +kernel
theorem dM_withdraw_236 : decode cM_withdraw 236 = .ok (.getfield 43, 3) := by decide +kernel
theorem dM_withdraw_239 : decode cM_withdraw 239 = .ok (.bipush 16, 2) := by decide +kernel
theorem dM_withdraw_241 : decode cM_withdraw 241 = .ok (.iload 7, 2) := by decide +kernel
theorem dM_withdraw_243 : decode cM_withdraw 243 = .ok (.imul, 1) := by decide +kernel
theorem dM_withdraw_244 : decode cM_withdraw 244 = .ok (.iconst 4, 1) := by decide +kernel
theorem dM_withdraw_245 : decode cM_withdraw 245 = .ok (.iload 8, 2) := by decide +kernel
theorem dM_withdraw_247 : decode cM_withdraw 247 = .ok (.imul, 1) := by decide +kernel
theorem dM_withdraw_248 : decode cM_withdraw 248 = .ok (.iadd, 1) := by decide +kernel
theorem dM_withdraw_249 : decode cM_withdraw 249 = .ok (.iconst 3, 1) := by decide +kernel
theorem dM_withdraw_250 : decode cM_withdraw 250 = .ok (.iadd, 1) := by decide +kernel
theorem dM_withdraw_251 : decode cM_withdraw 251 = .ok (.aload_n 0, 1) := by decide +kernel
theorem dM_withdraw_252 : decode cM_withdraw 252 = .ok (.getfield 61, 3) := by decide +kernel
theorem dM_withdraw_255 : decode cM_withdraw 255 = .ok (.iload 9, 2) := by decide +kernel
theorem dM_withdraw_257 : decode cM_withdraw 257 = .ok (.laload, 1) := by decide +kernel
theorem dM_withdraw_258 : decode cM_withdraw 258 = .ok (.lastore, 1) := by decide +kernel
theorem dM_withdraw_259 : decode cM_withdraw 259 = .ok (.iinc 8 1, 3) := by decide +kernel
theorem dM_withdraw_262 : decode cM_withdraw 262 = .ok (.goto (-131), 3) := by decide +kernel
theorem dM_withdraw_265 : decode cM_withdraw 265 = .ok (.aload_n 0, 1) := by decide +kernel
theorem dM_withdraw_266 : decode cM_withdraw 266 = .ok (.getfield 29, 3) := by decide +kernel
theorem dM_withdraw_269 : decode cM_withdraw 269 = .ok (.iload 7, 2) := by decide +kernel
theorem dM_withdraw_271 : decode cM_withdraw 271 = .ok (.iload_n 2, 1) := by decide +kernel
theorem dM_withdraw_272 : decode cM_withdraw 272 = .ok (.iastore, 1) := by decide +kernel
theorem dM_withdraw_273 : decode cM_withdraw 273 = .ok (.aload_n 0, 1) := by decide +kernel
theorem dM_withdraw_274 : decode cM_withdraw 274 = .ok (.getfield 32, 3) := by decide +kernel
theorem dM_withdraw_277 : decode cM_withdraw 277 = .ok (.iload 7, 2) := by decide +kernel
theorem dM_withdraw_279 : decode cM_withdraw 279 = .ok (.aload_n 0, 1) := by decide +kernel
theorem dM_withdraw_280 : decode cM_withdraw 280 = .ok (.iload_n 2, 1) := by decide +kernel
theorem dM_withdraw_281 : decode cM_withdraw 281 = .ok (.i2l, 1) := by decide +kernel
theorem dM_withdraw_282 : decode cM_withdraw 282 = .ok (.invokevirtual 158, 3) := by decide +kernel
theorem dM_withdraw_285 : decode cM_withdraw 285 = .ok (.lastore, 1) := by decide +kernel
theorem dM_withdraw_286 : decode cM_withdraw 286 = .ok (.aload_n 0, 1) := by decide +kernel
theorem dM_withdraw_287 : decode cM_withdraw 287 = .ok (.getfield 36, 3) := by decide +kernel
theorem dM_withdraw_290 : decode cM_withdraw 290 = .ok (.iload 7, 2) := by decide +kernel
theorem dM_withdraw_292 : decode cM_withdraw 292 = .ok (.aload_n 0, 1) := by decide +kernel
theorem dM_withdraw_293 : decode cM_withdraw 293 = .ok (.getfield 32, 3) := by decide +kernel
theorem dM_withdraw_296 : decode cM_withdraw 296 = .ok (.iload 7, 2) := by decide +kernel
theorem dM_withdraw_298 : decode cM_withdraw 298 = .ok (.laload, 1) := by decide +kernel
theorem dM_withdraw_299 : decode cM_withdraw 299 = .ok (.iload_n 2, 1) := by decide +kernel
theorem dM_withdraw_300 : decode cM_withdraw 300 = .ok (.invokestatic 161, 3) := by decide +kernel
theorem dM_withdraw_303 : decode cM_withdraw 303 = .ok (.lastore, 1) := by decide +kernel
theorem dM_withdraw_304 : decode cM_withdraw 304 = .ok (.aload_n 0, 1) := by decide +kernel
theorem dM_withdraw_305 : decode cM_withdraw 305 = .ok (.getfield 39, 3) := by decide +kernel
theorem dM_withdraw_308 : decode cM_withdraw 308 = .ok (.iload 7, 2) := by decide +kernel
theorem dM_withdraw_310 : decode cM_withdraw 310 = .ok (.iconst 0, 1) := by decide +kernel
theorem dM_withdraw_311 : decode cM_withdraw 311 = .ok (.bastore, 1) := by decide +kernel
theorem dM_withdraw_312 : decode cM_withdraw 312 = .ok (.aload_n 0, 1) := by decide +kernel
theorem dM_withdraw_313 : decode cM_withdraw 313 = .ok (.aload_n 0, 1) := by decide +kernel
theorem dM_withdraw_314 : decode cM_withdraw 314 = .ok (.getfield 32, 3) := by decide +kernel
theorem dM_withdraw_317 : decode cM_withdraw 317 = .ok (.iload 7, 2) := by decide +kernel
theorem dM_withdraw_319 : decode cM_withdraw 319 = .ok (.laload, 1) := by decide +kernel
theorem dM_withdraw_320 : decode cM_withdraw 320 = .ok (.lload_n 3, 1) := by decide +kernel
theorem dM_withdraw_321 : decode cM_withdraw 321 = .ok (.iload_n 2, 1) := by decide +kernel
theorem dM_withdraw_322 : decode cM_withdraw 322 = .ok (.invokestatic 165, 3) := by decide +kernel
theorem dM_withdraw_325 : decode cM_withdraw 325 = .ok (.putfield 22, 3) := by decide +kernel
theorem dM_withdraw_328 : decode cM_withdraw 328 = .ok (.aload_n 0, 1) := by decide +kernel
theorem dM_withdraw_329 : decode cM_withdraw 329 = .ok (.getfield 7, 3) := by decide +kernel
theorem dM_withdraw_332 : decode cM_withdraw 332 = .ok (.iload_n 1, 1) := by decide +kernel
theorem dM_withdraw_333 : decode cM_withdraw 333 = .ok (.dup2, 1) := by decide +kernel
theorem dM_withdraw_334 : decode cM_withdraw 334 = .ok (.iaload, 1) := by decide +kernel
theorem dM_withdraw_335 : decode cM_withdraw 335 = .ok (.iload_n 2, 1) := by decide +kernel
theorem dM_withdraw_336 : decode cM_withdraw 336 = .ok (.invokestatic 144, 3) := by decide +kernel
theorem dM_withdraw_339 : decode cM_withdraw 339 = .ok (.isub, 1) := by decide +kernel
theorem dM_withdraw_340 : decode cM_withdraw 340 = .ok (.iastore, 1) := by decide +kernel
theorem dM_withdraw_341 : decode cM_withdraw 341 = .ok (.aload_n 0, 1) := by decide +kernel
theorem dM_withdraw_342 : decode cM_withdraw 342 = .ok (.getfield 13, 3) := by decide +kernel
theorem dM_withdraw_345 : decode cM_withdraw 345 = .ok (.iconst 0, 1) := by decide +kernel
theorem dM_withdraw_346 : decode cM_withdraw 346 = .ok (.dup2, 1) := by decide +kernel
theorem dM_withdraw_347 : decode cM_withdraw 347 = .ok (.iaload, 1) := by decide +kernel
theorem dM_withdraw_348 : decode cM_withdraw 348 = .ok (.iconst 1, 1) := by decide +kernel
theorem dM_withdraw_349 : decode cM_withdraw 349 = .ok (.iadd, 1) := by decide +kernel
theorem dM_withdraw_350 : decode cM_withdraw 350 = .ok (.iastore, 1) := by decide +kernel
theorem dM_withdraw_351 : decode cM_withdraw 351 = .ok (.aload_n 0, 1) := by decide +kernel
theorem dM_withdraw_352 : decode cM_withdraw 352 = .ok (.getfield 26, 3) := by decide +kernel
theorem dM_withdraw_355 : decode cM_withdraw 355 = .ok (.iload_n 1, 1) := by decide +kernel
theorem dM_withdraw_356 : decode cM_withdraw 356 = .ok (.dup2, 1) := by decide +kernel
theorem dM_withdraw_357 : decode cM_withdraw 357 = .ok (.iaload, 1) := by decide +kernel
theorem dM_withdraw_358 : decode cM_withdraw 358 = .ok (.iconst 1, 1) := by decide +kernel
theorem dM_withdraw_359 : decode cM_withdraw 359 = .ok (.iadd, 1) := by decide +kernel
theorem dM_withdraw_360 : decode cM_withdraw 360 = .ok (.iastore, 1) := by decide +kernel
theorem dM_withdraw_361 : decode cM_withdraw 361 = .ok (.aload_n 0, 1) := by decide +kernel
theorem dM_withdraw_362 : decode cM_withdraw 362 = .ok (.getfield 26, 3) := by decide +kernel
theorem dM_withdraw_365 : decode cM_withdraw 365 = .ok (.iload_n 1, 1) := by decide +kernel
theorem dM_withdraw_366 : decode cM_withdraw 366 = .ok (.iaload, 1) := by decide +kernel
theorem dM_withdraw_367 : decode cM_withdraw 367 = .ok (.iconst 1, 1) := by decide +kernel
theorem dM_withdraw_368 : decode cM_withdraw 368 = .ok (.isub, 1) := by decide +kernel
theorem dM_withdraw_369 : decode cM_withdraw 369 = .ok (.ireturn, 1) := by decide +kernel
abbrev yM_below : MethodName := { cls := "BlindMintModel", name := "below", desc := "(II)Z" }
abbrev cM_below : ByteArray := prog_12_method_4_code
theorem dM_below_0 : decode cM_below 0 = .ok (.iload_n 0, 1) := by decide +kernel
theorem dM_below_1 : decode cM_below 1 = .ok (.ifCond .lt 12, 3) := by decide +kernel
theorem dM_below_4 : decode cM_below 4 = .ok (.iload_n 0, 1) := by decide +kernel
theorem dM_below_5 : decode cM_below 5 = .ok (.iload_n 1, 1) := by decide +kernel
theorem dM_below_6 : decode cM_below 6 = .ok (.if_icmp .ge 7, 3) := by decide +kernel
theorem dM_below_9 : decode cM_below 9 = .ok (.iconst 1, 1) := by decide +kernel
theorem dM_below_10 : decode cM_below 10 = .ok (.goto 4, 3) := by decide +kernel
theorem dM_below_13 : decode cM_below 13 = .ok (.iconst 0, 1) := by decide +kernel
theorem dM_below_14 : decode cM_below 14 = .ok (.ireturn, 1) := by decide +kernel
abbrev yM_fail : MethodName := { cls := "BlindMintModel", name := "fail", desc := "(I)I" }
abbrev cM_fail : ByteArray := prog_12_method_2_code
theorem dM_fail_0 : decode cM_fail 0 = .ok (.aload_n 0, 1) := by decide +kernel
theorem dM_fail_1 : decode cM_fail 1 = .ok (.iload_n 1, 1) := by decide +kernel
theorem dM_fail_2 : decode cM_fail 2 = .ok (.putfield 73, 3) := by decide +kernel
theorem dM_fail_5 : decode cM_fail 5 = .ok (.iconst 0, 1) := by decide +kernel
theorem dM_fail_6 : decode cM_fail 6 = .ok (.ireturn, 1) := by decide +kernel
abbrev yM_worth : MethodName := { cls := "BlindMintModel", name := "worth", desc := "(I)I" }
abbrev cM_worth : ByteArray := prog_12_method_11_code
theorem dM_worth_0 : decode cM_worth 0 = .ok (.iload_n 0, 1) := by decide +kernel
theorem dM_worth_1 : decode cM_worth 1 = .ok (.ifCond .ne 7, 3) := by decide +kernel
theorem dM_worth_4 : decode cM_worth 4 = .ok (.iconst 1, 1) := by decide +kernel
theorem dM_worth_5 : decode cM_worth 5 = .ok (.goto 14, 3) := by decide +kernel
theorem dM_worth_8 : decode cM_worth 8 = .ok (.iload_n 0, 1) := by decide +kernel
theorem dM_worth_9 : decode cM_worth 9 = .ok (.iconst 1, 1) := by decide +kernel
theorem dM_worth_10 : decode cM_worth 10 = .ok (.if_icmp .ne 7, 3) := by decide +kernel
theorem dM_worth_13 : decode cM_worth 13 = .ok (.iconst 5, 1) := by decide +kernel
theorem dM_worth_14 : decode cM_worth 14 = .ok (.goto 5, 3) := by decide +kernel
theorem dM_worth_17 : decode cM_worth 17 = .ok (.bipush 20, 2) := by decide +kernel
theorem dM_worth_19 : decode cM_worth 19 = .ok (.ireturn, 1) := by decide +kernel
abbrev yM_candidates : MethodName := { cls := "BlindMintModel", name := "candidates", desc := "(IJI)V" }
abbrev cM_candidates : ByteArray := prog_12_method_18_code
theorem dM_candidates_0 : decode cM_candidates 0 = .ok (.iconst 0, 1) := by decide +kernel
theorem dM_candidates_1 : decode cM_candidates 1 = .ok (.istore 5, 2) := by decide +kernel
theorem dM_candidates_3 : decode cM_candidates 3 = .ok (.iload 5, 2) := by decide +kernel
theorem dM_candidates_5 : decode cM_candidates 5 = .ok (.bipush 6, 2) := by decide +kernel
theorem dM_candidates_7 : decode cM_candidates 7 = .ok (.if_icmp .ge 155, 3) := by decide +kernel
theorem dM_candidates_10 : decode cM_candidates 10 = .ok (.aload_n 0, 1) := by decide +kernel
theorem dM_candidates_11 : decode cM_candidates 11 = .ok (.getfield 52, 3) := by decide +kernel
theorem dM_candidates_14 : decode cM_candidates 14 = .ok (.iload 5, 2) := by decide +kernel
theorem dM_candidates_16 : decode cM_candidates 16 = .ok (.lload_n 2, 1) := by decide +kernel
theorem dM_candidates_17 : decode cM_candidates 17 = .ok (.ldc2_w 128, 3) := by decide +kernel
theorem dM_candidates_20 : decode cM_candidates 20 = .ok (.iload 5, 2) := by decide +kernel
theorem dM_candidates_22 : decode cM_candidates 22 = .ok (.i2l, 1) := by decide +kernel
theorem dM_candidates_23 : decode cM_candidates 23 = .ok (.lmul, 1) := by decide +kernel
theorem dM_candidates_24 : decode cM_candidates 24 = .ok (.invokestatic 125, 3) := by decide +kernel
theorem dM_candidates_27 : decode cM_candidates 27 = .ok (.lastore, 1) := by decide +kernel
theorem dM_candidates_28 : decode cM_candidates 28 = .ok (.aload_n 0, 1) := by decide +kernel
theorem dM_candidates_29 : decode cM_candidates 29 = .ok (.getfield 58, 3) := by decide +kernel
theorem dM_candidates_32 : decode cM_candidates 32 = .ok (.iload 5, 2) := by decide +kernel
theorem dM_candidates_34 : decode cM_candidates 34 = .ok (.lload_n 2, 1) := by decide +kernel
theorem dM_candidates_35 : decode cM_candidates 35 = .ok (.ldc2_w 128, 3) := by decide +kernel
theorem dM_candidates_38 : decode cM_candidates 38 = .ok (.iload 5, 2) := by decide +kernel
theorem dM_candidates_40 : decode cM_candidates 40 = .ok (.i2l, 1) := by decide +kernel
theorem dM_candidates_41 : decode cM_candidates 41 = .ok (.lmul, 1) := by decide +kernel
theorem dM_candidates_42 : decode cM_candidates 42 = .ok (.lconst 1, 1) := by decide +kernel
theorem dM_candidates_43 : decode cM_candidates 43 = .ok (.ladd, 1) := by decide +kernel
theorem dM_candidates_44 : decode cM_candidates 44 = .ok (.invokestatic 125, 3) := by decide +kernel
theorem dM_candidates_47 : decode cM_candidates 47 = .ok (.lastore, 1) := by decide +kernel
theorem dM_candidates_48 : decode cM_candidates 48 = .ok (.aload_n 0, 1) := by decide +kernel
theorem dM_candidates_49 : decode cM_candidates 49 = .ok (.getfield 61, 3) := by decide +kernel
theorem dM_candidates_52 : decode cM_candidates 52 = .ok (.iload 5, 2) := by decide +kernel
theorem dM_candidates_54 : decode cM_candidates 54 = .ok (.lload_n 2, 1) := by decide +kernel
theorem dM_candidates_55 : decode cM_candidates 55 = .ok (.ldc2_w 128, 3) := by decide +kernel
theorem dM_candidates_58 : decode cM_candidates 58 = .ok (.iload 5, 2) := by decide +kernel
theorem dM_candidates_60 : decode cM_candidates 60 = .ok (.i2l, 1) := by decide +kernel
theorem dM_candidates_61 : decode cM_candidates 61 = .ok (.lmul, 1) := by decide +kernel
theorem dM_candidates_62 : decode cM_candidates 62 = .ok (.ldc2_w 108, 3) := by decide +kernel
theorem dM_candidates_65 : decode cM_candidates 65 = .ok (.ladd, 1) := by decide +kernel
theorem dM_candidates_66 : decode cM_candidates 66 = .ok (.invokestatic 125, 3) := by decide +kernel
theorem dM_candidates_69 : decode cM_candidates 69 = .ok (.lastore, 1) := by decide +kernel
theorem dM_candidates_70 : decode cM_candidates 70 = .ok (.aload_n 0, 1) := by decide +kernel
theorem dM_candidates_71 : decode cM_candidates 71 = .ok (.getfield 55, 3) := by decide +kernel
theorem dM_candidates_74 : decode cM_candidates 74 = .ok (.iload 5, 2) := by decide +kernel
theorem dM_candidates_76 : decode cM_candidates 76 = .ok (.aload_n 0, 1) := by decide +kernel
theorem dM_candidates_77 : decode cM_candidates 77 = .ok (.getfield 52, 3) := by decide +kernel
theorem dM_candidates_80 : decode cM_candidates 80 = .ok (.iload 5, 2) := by decide +kernel
theorem dM_candidates_82 : decode cM_candidates 82 = .ok (.laload, 1) := by decide +kernel
theorem dM_candidates_83 : decode cM_candidates 83 = .ok (.ldc2_w 130, 3) := by decide +kernel
theorem dM_candidates_86 : decode cM_candidates 86 = .ok (.iload_n 1, 1) := by decide +kernel
theorem dM_candidates_87 : decode cM_candidates 87 = .ok (.i2l, 1) := by decide +kernel
theorem dM_candidates_88 : decode cM_candidates 88 = .ok (.ladd, 1) := by decide +kernel
theorem dM_candidates_89 : decode cM_candidates 89 = .ok (.lxor, 1) := by decide +kernel
theorem dM_candidates_90 : decode cM_candidates 90 = .ok (.iload 4, 2) := by decide +kernel
theorem dM_candidates_92 : decode cM_candidates 92 = .ok (.iload 5, 2) := by decide +kernel
theorem dM_candidates_94 : decode cM_candidates 94 = .ok (.ishr, 1) := by decide +kernel
theorem dM_candidates_95 : decode cM_candidates 95 = .ok (.iconst 1, 1) := by decide +kernel
theorem dM_candidates_96 : decode cM_candidates 96 = .ok (.iand, 1) := by decide +kernel
theorem dM_candidates_97 : decode cM_candidates 97 = .ok (.i2l, 1) := by decide +kernel
theorem dM_candidates_98 : decode cM_candidates 98 = .ok (.lxor, 1) := by decide +kernel
theorem dM_candidates_99 : decode cM_candidates 99 = .ok (.lastore, 1) := by decide +kernel
theorem dM_candidates_100 : decode cM_candidates 100 = .ok (.aload_n 0, 1) := by decide +kernel
theorem dM_candidates_101 : decode cM_candidates 101 = .ok (.getfield 52, 3) := by decide +kernel
theorem dM_candidates_104 : decode cM_candidates 104 = .ok (.iload 5, 2) := by decide +kernel
theorem dM_candidates_106 : decode cM_candidates 106 = .ok (.laload, 1) := by decide +kernel
theorem dM_candidates_107 : decode cM_candidates 107 = .ok (.aload_n 0, 1) := by decide +kernel
theorem dM_candidates_108 : decode cM_candidates 108 = .ok (.getfield 58, 3) := by decide +kernel
theorem dM_candidates_111 : decode cM_candidates 111 = .ok (.iload 5, 2) := by decide +kernel
theorem dM_candidates_113 : decode cM_candidates 113 = .ok (.laload, 1) := by decide +kernel
theorem dM_candidates_114 : decode cM_candidates 114 = .ok (.invokestatic 125, 3) := by decide +kernel
theorem dM_candidates_117 : decode cM_candidates 117 = .ok (.lstore 6, 2) := by decide +kernel
theorem dM_candidates_119 : decode cM_candidates 119 = .ok (.aload_n 0, 1) := by decide +kernel
theorem dM_candidates_120 : decode cM_candidates 120 = .ok (.getfield 64, 3) := by decide +kernel
theorem dM_candidates_123 : decode cM_candidates 123 = .ok (.iload 5, 2) := by decide +kernel
theorem dM_candidates_125 : decode cM_candidates 125 = .ok (.lload 6, 2) := by decide +kernel
theorem dM_candidates_127 : decode cM_candidates 127 = .ok (.aload_n 0, 1) := by decide +kernel
theorem dM_candidates_128 : decode cM_candidates 128 = .ok (.getfield 55, 3) := by decide +kernel
theorem dM_candidates_131 : decode cM_candidates 131 = .ok (.iload 5, 2) := by decide +kernel
theorem dM_candidates_133 : decode cM_candidates 133 = .ok (.laload, 1) := by decide +kernel
theorem dM_candidates_134 : decode cM_candidates 134 = .ok (.aload_n 0, 1) := by decide +kernel
theorem dM_candidates_135 : decode cM_candidates 135 = .ok (.getfield 61, 3) := by decide +kernel
theorem dM_candidates_138 : decode cM_candidates 138 = .ok (.iload 5, 2) := by decide +kernel
theorem dM_candidates_140 : decode cM_candidates 140 = .ok (.laload, 1) := by decide +kernel
theorem dM_candidates_141 : decode cM_candidates 141 = .ok (.invokestatic 125, 3) := by decide +kernel
theorem dM_candidates_144 : decode cM_candidates 144 = .ok (.invokestatic 125, 3) := by decide +kernel
theorem dM_candidates_147 : decode cM_candidates 147 = .ok (.lastore, 1) := by decide +kernel
theorem dM_candidates_148 : decode cM_candidates 148 = .ok (.aload_n 0, 1) := by decide +kernel
theorem dM_candidates_149 : decode cM_candidates 149 = .ok (.getfield 67, 3) := by decide +kernel
theorem dM_candidates_152 : decode cM_candidates 152 = .ok (.iload 5, 2) := by decide +kernel
theorem dM_candidates_154 : decode cM_candidates 154 = .ok (.iconst 1, 1) := by decide +kernel
theorem dM_candidates_155 : decode cM_candidates 155 = .ok (.bastore, 1) := by decide +kernel
theorem dM_candidates_156 : decode cM_candidates 156 = .ok (.iinc 5 1, 3) := by decide +kernel
theorem dM_candidates_159 : decode cM_candidates 159 = .ok (.goto (-156), 3) := by decide +kernel
theorem dM_candidates_162 : decode cM_candidates 162 = .ok (.return_, 1) := by decide +kernel
abbrev yM_hash2 : MethodName := { cls := "BlindMintModel", name := "hash2", desc := "(JJ)J" }
abbrev cM_hash2 : ByteArray := prog_12_method_7_code
theorem dM_hash2_0 : decode cM_hash2 0 = .ok (.ldc2_w 82, 3) := by decide +kernel
theorem dM_hash2_3 : decode cM_hash2 3 = .ok (.lload_n 0, 1) := by decide +kernel
theorem dM_hash2_4 : decode cM_hash2 4 = .ok (.invokestatic 84, 3) := by decide +kernel
theorem dM_hash2_7 : decode cM_hash2 7 = .ok (.lload_n 2, 1) := by decide +kernel
theorem dM_hash2_8 : decode cM_hash2 8 = .ok (.invokestatic 84, 3) := by decide +kernel
theorem dM_hash2_11 : decode cM_hash2 11 = .ok (.invokestatic 88, 3) := by decide +kernel
theorem dM_hash2_14 : decode cM_hash2 14 = .ok (.lreturn, 1) := by decide +kernel
abbrev yM_absorb : MethodName := { cls := "BlindMintModel", name := "absorb", desc := "(JJ)J" }
abbrev cM_absorb : ByteArray := prog_12_method_5_code
theorem dM_absorb_0 : decode cM_absorb 0 = .ok (.lload_n 0, 1) := by decide +kernel
theorem dM_absorb_1 : decode cM_absorb 1 = .ok (.lload_n 2, 1) := by decide +kernel
theorem dM_absorb_2 : decode cM_absorb 2 = .ok (.lxor, 1) := by decide +kernel
theorem dM_absorb_3 : decode cM_absorb 3 = .ok (.ldc2_w 76, 3) := by decide +kernel
theorem dM_absorb_6 : decode cM_absorb 6 = .ok (.lmul, 1) := by decide +kernel
theorem dM_absorb_7 : decode cM_absorb 7 = .ok (.ldc2_w 78, 3) := by decide +kernel
theorem dM_absorb_10 : decode cM_absorb 10 = .ok (.ladd, 1) := by decide +kernel
theorem dM_absorb_11 : decode cM_absorb 11 = .ok (.lstore 4, 2) := by decide +kernel
theorem dM_absorb_13 : decode cM_absorb 13 = .ok (.lload 4, 2) := by decide +kernel
theorem dM_absorb_15 : decode cM_absorb 15 = .ok (.lload 4, 2) := by decide +kernel
theorem dM_absorb_17 : decode cM_absorb 17 = .ok (.bipush 29, 2) := by decide +kernel
theorem dM_absorb_19 : decode cM_absorb 19 = .ok (.lushr, 1) := by decide +kernel
theorem dM_absorb_20 : decode cM_absorb 20 = .ok (.lxor, 1) := by decide +kernel
theorem dM_absorb_21 : decode cM_absorb 21 = .ok (.lreturn, 1) := by decide +kernel
abbrev yM_low : MethodName := { cls := "BlindMintModel", name := "low", desc := "(J)J" }
abbrev cM_low : ByteArray := prog_12_method_6_code
theorem dM_low_0 : decode cM_low 0 = .ok (.lload_n 0, 1) := by decide +kernel
theorem dM_low_1 : decode cM_low 1 = .ok (.ldc2_w 80, 3) := by decide +kernel
theorem dM_low_4 : decode cM_low 4 = .ok (.land, 1) := by decide +kernel
theorem dM_low_5 : decode cM_low 5 = .ok (.lreturn, 1) := by decide +kernel
abbrev yM_open : MethodName := { cls := "BlindMintModel", name := "open", desc := "(I)I" }
abbrev cM_open : ByteArray := prog_12_method_19_code
theorem dM_open_0 : decode cM_open 0 = .ok (.ldc2_w 82, 3) := by decide +kernel
theorem dM_open_3 : decode cM_open 3 = .ok (.lstore_n 2, 1) := by decide +kernel
theorem dM_open_4 : decode cM_open 4 = .ok (.iconst 0, 1) := by decide +kernel
theorem dM_open_5 : decode cM_open 5 = .ok (.istore 4, 2) := by decide +kernel
theorem dM_open_7 : decode cM_open 7 = .ok (.iload 4, 2) := by decide +kernel
theorem dM_open_9 : decode cM_open 9 = .ok (.bipush 6, 2) := by decide +kernel
theorem dM_open_11 : decode cM_open 11 = .ok (.if_icmp .ge 21, 3) := by decide +kernel
theorem dM_open_14 : decode cM_open 14 = .ok (.lload_n 2, 1) := by decide +kernel
theorem dM_open_15 : decode cM_open 15 = .ok (.aload_n 0, 1) := by decide +kernel
theorem dM_open_16 : decode cM_open 16 = .ok (.getfield 64, 3) := by decide +kernel
theorem dM_open_19 : decode cM_open 19 = .ok (.iload 4, 2) := by decide +kernel
theorem dM_open_21 : decode cM_open 21 = .ok (.laload, 1) := by decide +kernel
theorem dM_open_22 : decode cM_open 22 = .ok (.invokestatic 84, 3) := by decide +kernel
theorem dM_open_25 : decode cM_open 25 = .ok (.lstore_n 2, 1) := by decide +kernel
theorem dM_open_26 : decode cM_open 26 = .ok (.iinc 4 1, 3) := by decide +kernel
theorem dM_open_29 : decode cM_open 29 = .ok (.goto (-22), 3) := by decide +kernel
theorem dM_open_32 : decode cM_open 32 = .ok (.lload_n 2, 1) := by decide +kernel
theorem dM_open_33 : decode cM_open 33 = .ok (.invokestatic 88, 3) := by decide +kernel
theorem dM_open_36 : decode cM_open 36 = .ok (.lstore_n 2, 1) := by decide +kernel
theorem dM_open_37 : decode cM_open 37 = .ok (.lload_n 2, 1) := by decide +kernel
theorem dM_open_38 : decode cM_open 38 = .ok (.ldc2_w 132, 3) := by decide +kernel
theorem dM_open_41 : decode cM_open 41 = .ok (.lrem, 1) := by decide +kernel
theorem dM_open_42 : decode cM_open 42 = .ok (.l2i, 1) := by decide +kernel
theorem dM_open_43 : decode cM_open 43 = .ok (.istore 4, 2) := by decide +kernel
theorem dM_open_45 : decode cM_open 45 = .ok (.iload 4, 2) := by decide +kernel
theorem dM_open_47 : decode cM_open 47 = .ok (.i2l, 1) := by decide +kernel
theorem dM_open_48 : decode cM_open 48 = .ok (.lconst 1, 1) := by decide +kernel
theorem dM_open_49 : decode cM_open 49 = .ok (.ladd, 1) := by decide +kernel
theorem dM_open_50 : decode cM_open 50 = .ok (.lload_n 2, 1) := by decide +kernel
theorem dM_open_51 : decode cM_open 51 = .ok (.ldc2_w 132, 3) := by decide +kernel
theorem dM_open_54 : decode cM_open 54 = .ok (.ldiv, 1) := by decide +kernel
theorem dM_open_55 : decode cM_open 55 = .ok (.ldc2_w 134, 3) := by decide +kernel
theorem dM_open_58 : decode cM_open 58 = .ok (.lrem, 1) := by decide +kernel
theorem dM_open_59 : decode cM_open 59 = .ok (.ladd, 1) := by decide +kernel
theorem dM_open_60 : decode cM_open 60 = .ok (.ldc2_w 132, 3) := by decide +kernel
theorem dM_open_63 : decode cM_open 63 = .ok (.lrem, 1) := by decide +kernel
theorem dM_open_64 : decode cM_open 64 = .ok (.l2i, 1) := by decide +kernel
theorem dM_open_65 : decode cM_open 65 = .ok (.istore 5, 2) := by decide +kernel
theorem dM_open_67 : decode cM_open 67 = .ok (.aload_n 0, 1) := by decide +kernel
theorem dM_open_68 : decode cM_open 68 = .ok (.getfield 67, 3) := by decide +kernel
theorem dM_open_71 : decode cM_open 71 = .ok (.iload 4, 2) := by decide +kernel
theorem dM_open_73 : decode cM_open 73 = .ok (.iconst 0, 1) := by decide +kernel
theorem dM_open_74 : decode cM_open 74 = .ok (.bastore, 1) := by decide +kernel
theorem dM_open_75 : decode cM_open 75 = .ok (.aload_n 0, 1) := by decide +kernel
theorem dM_open_76 : decode cM_open 76 = .ok (.getfield 67, 3) := by decide +kernel
theorem dM_open_79 : decode cM_open 79 = .ok (.iload 5, 2) := by decide +kernel
theorem dM_open_81 : decode cM_open 81 = .ok (.iconst 0, 1) := by decide +kernel
theorem dM_open_82 : decode cM_open 82 = .ok (.bastore, 1) := by decide +kernel
theorem dM_open_83 : decode cM_open 83 = .ok (.iload_n 1, 1) := by decide +kernel
theorem dM_open_84 : decode cM_open 84 = .ok (.iload 4, 2) := by decide +kernel
theorem dM_open_86 : decode cM_open 86 = .ok (.ishr, 1) := by decide +kernel
theorem dM_open_87 : decode cM_open 87 = .ok (.iconst 1, 1) := by decide +kernel
theorem dM_open_88 : decode cM_open 88 = .ok (.iand, 1) := by decide +kernel
theorem dM_open_89 : decode cM_open 89 = .ok (.iload_n 1, 1) := by decide +kernel
theorem dM_open_90 : decode cM_open 90 = .ok (.iload 5, 2) := by decide +kernel
theorem dM_open_92 : decode cM_open 92 = .ok (.ishr, 1) := by decide +kernel
theorem dM_open_93 : decode cM_open 93 = .ok (.iconst 1, 1) := by decide +kernel
theorem dM_open_94 : decode cM_open 94 = .ok (.iand, 1) := by decide +kernel
theorem dM_open_95 : decode cM_open 95 = .ok (.iadd, 1) := by decide +kernel
theorem dM_open_96 : decode cM_open 96 = .ok (.ireturn, 1) := by decide +kernel
abbrev yM_least : MethodName := { cls := "BlindMintModel", name := "least", desc := "()I" }
abbrev cM_least : ByteArray := prog_12_method_20_code
theorem dM_least_0 : decode cM_least 0 = .ok (.iconst (-1), 1) := by decide +kernel
theorem dM_least_1 : decode cM_least 1 = .ok (.istore_n 1, 1) := by decide +kernel
theorem dM_least_2 : decode cM_least 2 = .ok (.iconst 0, 1) := by decide +kernel
theorem dM_least_3 : decode cM_least 3 = .ok (.istore_n 2, 1) := by decide +kernel
theorem dM_least_4 : decode cM_least 4 = .ok (.iload_n 2, 1) := by decide +kernel
theorem dM_least_5 : decode cM_least 5 = .ok (.bipush 6, 2) := by decide +kernel
theorem dM_least_7 : decode cM_least 7 = .ok (.if_icmp .ge 40, 3) := by decide +kernel
theorem dM_least_10 : decode cM_least 10 = .ok (.aload_n 0, 1) := by decide +kernel
theorem dM_least_11 : decode cM_least 11 = .ok (.getfield 67, 3) := by decide +kernel
theorem dM_least_14 : decode cM_least 14 = .ok (.iload_n 2, 1) := by decide +kernel
theorem dM_least_15 : decode cM_least 15 = .ok (.baload, 1) := by decide +kernel
theorem dM_least_16 : decode cM_least 16 = .ok (.ifCond .eq 25, 3) := by decide +kernel
theorem dM_least_19 : decode cM_least 19 = .ok (.iload_n 1, 1) := by decide +kernel
theorem dM_least_20 : decode cM_least 20 = .ok (.ifCond .lt 19, 3) := by decide +kernel
theorem dM_least_23 : decode cM_least 23 = .ok (.aload_n 0, 1) := by decide +kernel
theorem dM_least_24 : decode cM_least 24 = .ok (.getfield 64, 3) := by decide +kernel
theorem dM_least_27 : decode cM_least 27 = .ok (.iload_n 2, 1) := by decide +kernel
theorem dM_least_28 : decode cM_least 28 = .ok (.laload, 1) := by decide +kernel
theorem dM_least_29 : decode cM_least 29 = .ok (.aload_n 0, 1) := by decide +kernel
theorem dM_least_30 : decode cM_least 30 = .ok (.getfield 64, 3) := by decide +kernel
theorem dM_least_33 : decode cM_least 33 = .ok (.iload_n 1, 1) := by decide +kernel
theorem dM_least_34 : decode cM_least 34 = .ok (.laload, 1) := by decide +kernel
theorem dM_least_35 : decode cM_least 35 = .ok (.lcmp, 1) := by decide +kernel
theorem dM_least_36 : decode cM_least 36 = .ok (.ifCond .ge 5, 3) := by decide +kernel
theorem dM_least_39 : decode cM_least 39 = .ok (.iload_n 2, 1) := by decide +kernel
theorem dM_least_40 : decode cM_least 40 = .ok (.istore_n 1, 1) := by decide +kernel
theorem dM_least_41 : decode cM_least 41 = .ok (.iinc 2 1, 3) := by decide +kernel
theorem dM_least_44 : decode cM_least 44 = .ok (.goto (-40), 3) := by decide +kernel
theorem dM_least_47 : decode cM_least 47 = .ok (.iload_n 1, 1) := by decide +kernel
theorem dM_least_48 : decode cM_least 48 = .ok (.ireturn, 1) := by decide +kernel
abbrev yM_numberOf : MethodName := { cls := "BlindMintModel", name := "numberOf", desc := "(J)J" }
abbrev cM_numberOf : ByteArray := prog_12_method_9_code
theorem dM_numberOf_0 : decode cM_numberOf 0 = .ok (.ldc2_w 82, 3) := by decide +kernel
theorem dM_numberOf_3 : decode cM_numberOf 3 = .ok (.lload_n 1, 1) := by decide +kernel
theorem dM_numberOf_4 : decode cM_numberOf 4 = .ok (.invokestatic 84, 3) := by decide +kernel
theorem dM_numberOf_7 : decode cM_numberOf 7 = .ok (.lstore_n 3, 1) := by decide +kernel
theorem dM_numberOf_8 : decode cM_numberOf 8 = .ok (.iconst 0, 1) := by decide +kernel
theorem dM_numberOf_9 : decode cM_numberOf 9 = .ok (.istore 5, 2) := by decide +kernel
theorem dM_numberOf_11 : decode cM_numberOf 11 = .ok (.iload 5, 2) := by decide +kernel
theorem dM_numberOf_13 : decode cM_numberOf 13 = .ok (.iconst 4, 1) := by decide +kernel
theorem dM_numberOf_14 : decode cM_numberOf 14 = .ok (.if_icmp .ge 21, 3) := by decide +kernel
theorem dM_numberOf_17 : decode cM_numberOf 17 = .ok (.lload_n 3, 1) := by decide +kernel
theorem dM_numberOf_18 : decode cM_numberOf 18 = .ok (.aload_n 0, 1) := by decide +kernel
theorem dM_numberOf_19 : decode cM_numberOf 19 = .ok (.getfield 70, 3) := by decide +kernel
theorem dM_numberOf_22 : decode cM_numberOf 22 = .ok (.iload 5, 2) := by decide +kernel
theorem dM_numberOf_24 : decode cM_numberOf 24 = .ok (.laload, 1) := by decide +kernel
theorem dM_numberOf_25 : decode cM_numberOf 25 = .ok (.invokestatic 84, 3) := by decide +kernel
theorem dM_numberOf_28 : decode cM_numberOf 28 = .ok (.lstore_n 3, 1) := by decide +kernel
theorem dM_numberOf_29 : decode cM_numberOf 29 = .ok (.iinc 5 1, 3) := by decide +kernel
theorem dM_numberOf_32 : decode cM_numberOf 32 = .ok (.goto (-21), 3) := by decide +kernel
theorem dM_numberOf_35 : decode cM_numberOf 35 = .ok (.lload_n 3, 1) := by decide +kernel
theorem dM_numberOf_36 : decode cM_numberOf 36 = .ok (.invokestatic 88, 3) := by decide +kernel
theorem dM_numberOf_39 : decode cM_numberOf 39 = .ok (.lreturn, 1) := by decide +kernel
abbrev yM_signed : MethodName := { cls := "BlindMintModel", name := "signed", desc := "(JI)J" }
abbrev cM_signed : ByteArray := prog_12_method_15_code
theorem dM_signed_0 : decode cM_signed 0 = .ok (.iload_n 2, 1) := by decide +kernel
theorem dM_signed_1 : decode cM_signed 1 = .ok (.iconst 0, 1) := by decide +kernel
theorem dM_signed_2 : decode cM_signed 2 = .ok (.invokestatic 104, 3) := by decide +kernel
theorem dM_signed_5 : decode cM_signed 5 = .ok (.lstore_n 3, 1) := by decide +kernel
theorem dM_signed_6 : decode cM_signed 6 = .ok (.iload_n 2, 1) := by decide +kernel
theorem dM_signed_7 : decode cM_signed 7 = .ok (.iconst 1, 1) := by decide +kernel
theorem dM_signed_8 : decode cM_signed 8 = .ok (.invokestatic 104, 3) := by decide +kernel
theorem dM_signed_11 : decode cM_signed 11 = .ok (.lstore 5, 2) := by decide +kernel
theorem dM_signed_13 : decode cM_signed 13 = .ok (.lload_n 0, 1) := by decide +kernel
theorem dM_signed_14 : decode cM_signed 14 = .ok (.lload_n 3, 1) := by decide +kernel
theorem dM_signed_15 : decode cM_signed 15 = .ok (.invokestatic 116, 3) := by decide +kernel
theorem dM_signed_18 : decode cM_signed 18 = .ok (.lload_n 3, 1) := by decide +kernel
theorem dM_signed_19 : decode cM_signed 19 = .ok (.invokestatic 110, 3) := by decide +kernel
theorem dM_signed_22 : decode cM_signed 22 = .ok (.lload_n 0, 1) := by decide +kernel
theorem dM_signed_23 : decode cM_signed 23 = .ok (.lload 5, 2) := by decide +kernel
theorem dM_signed_25 : decode cM_signed 25 = .ok (.invokestatic 116, 3) := by decide +kernel
theorem dM_signed_28 : decode cM_signed 28 = .ok (.lload 5, 2) := by decide +kernel
theorem dM_signed_30 : decode cM_signed 30 = .ok (.invokestatic 110, 3) := by decide +kernel
theorem dM_signed_33 : decode cM_signed 33 = .ok (.iload_n 2, 1) := by decide +kernel
theorem dM_signed_34 : decode cM_signed 34 = .ok (.invokestatic 119, 3) := by decide +kernel
theorem dM_signed_37 : decode cM_signed 37 = .ok (.lreturn, 1) := by decide +kernel
abbrev yM_factor : MethodName := { cls := "BlindMintModel", name := "factor", desc := "(IZ)J" }
abbrev cM_factor : ByteArray := prog_12_method_10_code
theorem dM_factor_0 : decode cM_factor 0 = .ok (.iload_n 0, 1) := by decide +kernel
theorem dM_factor_1 : decode cM_factor 1 = .ok (.ifCond .ne 17, 3) := by decide +kernel
theorem dM_factor_4 : decode cM_factor 4 = .ok (.iload_n 1, 1) := by decide +kernel
theorem dM_factor_5 : decode cM_factor 5 = .ok (.ifCond .eq 9, 3) := by decide +kernel
theorem dM_factor_8 : decode cM_factor 8 = .ok (.ldc2_w 92, 3) := by decide +kernel
theorem dM_factor_11 : decode cM_factor 11 = .ok (.goto 6, 3) := by decide +kernel
theorem dM_factor_14 : decode cM_factor 14 = .ok (.ldc2_w 94, 3) := by decide +kernel
theorem dM_factor_17 : decode cM_factor 17 = .ok (.lreturn, 1) := by decide +kernel
theorem dM_factor_18 : decode cM_factor 18 = .ok (.iload_n 0, 1) := by decide +kernel
theorem dM_factor_19 : decode cM_factor 19 = .ok (.iconst 1, 1) := by decide +kernel
theorem dM_factor_20 : decode cM_factor 20 = .ok (.if_icmp .ne 17, 3) := by decide +kernel
theorem dM_factor_23 : decode cM_factor 23 = .ok (.iload_n 1, 1) := by decide +kernel
theorem dM_factor_24 : decode cM_factor 24 = .ok (.ifCond .eq 9, 3) := by decide +kernel
theorem dM_factor_27 : decode cM_factor 27 = .ok (.ldc2_w 96, 3) := by decide +kernel
theorem dM_factor_30 : decode cM_factor 30 = .ok (.goto 6, 3) := by decide +kernel
theorem dM_factor_33 : decode cM_factor 33 = .ok (.ldc2_w 98, 3) := by decide +kernel
theorem dM_factor_36 : decode cM_factor 36 = .ok (.lreturn, 1) := by decide +kernel
theorem dM_factor_37 : decode cM_factor 37 = .ok (.iload_n 1, 1) := by decide +kernel
theorem dM_factor_38 : decode cM_factor 38 = .ok (.ifCond .eq 9, 3) := by decide +kernel
theorem dM_factor_41 : decode cM_factor 41 = .ok (.ldc2_w 100, 3) := by decide +kernel
theorem dM_factor_44 : decode cM_factor 44 = .ok (.goto 6, 3) := by decide +kernel
theorem dM_factor_47 : decode cM_factor 47 = .ok (.ldc2_w 102, 3) := by decide +kernel
theorem dM_factor_50 : decode cM_factor 50 = .ok (.lreturn, 1) := by decide +kernel
abbrev yM_undo : MethodName := { cls := "BlindMintModel", name := "undo", desc := "(J)J" }
abbrev cM_undo : ByteArray := prog_12_method_14_code
theorem dM_undo_0 : decode cM_undo 0 = .ok (.lconst 0, 1) := by decide +kernel
theorem dM_undo_1 : decode cM_undo 1 = .ok (.lstore_n 2, 1) := by decide +kernel
theorem dM_undo_2 : decode cM_undo 2 = .ok (.lconst 1, 1) := by decide +kernel
theorem dM_undo_3 : decode cM_undo 3 = .ok (.lload_n 2, 1) := by decide +kernel
theorem dM_undo_4 : decode cM_undo 4 = .ok (.lload_n 0, 1) := by decide +kernel
theorem dM_undo_5 : decode cM_undo 5 = .ok (.lconst 1, 1) := by decide +kernel
theorem dM_undo_6 : decode cM_undo 6 = .ok (.lsub, 1) := by decide +kernel
theorem dM_undo_7 : decode cM_undo 7 = .ok (.lmul, 1) := by decide +kernel
theorem dM_undo_8 : decode cM_undo 8 = .ok (.ladd, 1) := by decide +kernel
theorem dM_undo_9 : decode cM_undo 9 = .ok (.ldc2_w 114, 3) := by decide +kernel
theorem dM_undo_12 : decode cM_undo 12 = .ok (.lrem, 1) := by decide +kernel
theorem dM_undo_13 : decode cM_undo 13 = .ok (.lconst 0, 1) := by decide +kernel
theorem dM_undo_14 : decode cM_undo 14 = .ok (.lcmp, 1) := by decide +kernel
theorem dM_undo_15 : decode cM_undo 15 = .ok (.ifCond .eq 10, 3) := by decide +kernel
theorem dM_undo_18 : decode cM_undo 18 = .ok (.lload_n 2, 1) := by decide +kernel
theorem dM_undo_19 : decode cM_undo 19 = .ok (.lconst 1, 1) := by decide +kernel
theorem dM_undo_20 : decode cM_undo 20 = .ok (.ladd, 1) := by decide +kernel
theorem dM_undo_21 : decode cM_undo 21 = .ok (.lstore_n 2, 1) := by decide +kernel
theorem dM_undo_22 : decode cM_undo 22 = .ok (.goto (-20), 3) := by decide +kernel
theorem dM_undo_25 : decode cM_undo 25 = .ok (.lconst 1, 1) := by decide +kernel
theorem dM_undo_26 : decode cM_undo 26 = .ok (.lload_n 2, 1) := by decide +kernel
theorem dM_undo_27 : decode cM_undo 27 = .ok (.lload_n 0, 1) := by decide +kernel
theorem dM_undo_28 : decode cM_undo 28 = .ok (.lconst 1, 1) := by decide +kernel
theorem dM_undo_29 : decode cM_undo 29 = .ok (.lsub, 1) := by decide +kernel
theorem dM_undo_30 : decode cM_undo 30 = .ok (.lmul, 1) := by decide +kernel
theorem dM_undo_31 : decode cM_undo 31 = .ok (.ladd, 1) := by decide +kernel
theorem dM_undo_32 : decode cM_undo 32 = .ok (.ldc2_w 114, 3) := by decide +kernel
theorem dM_undo_35 : decode cM_undo 35 = .ok (.ldiv, 1) := by decide +kernel
theorem dM_undo_36 : decode cM_undo 36 = .ok (.lreturn, 1) := by decide +kernel
abbrev yM_power : MethodName := { cls := "BlindMintModel", name := "power", desc := "(JJJ)J" }
abbrev cM_power : ByteArray := prog_12_method_12_code
theorem dM_power_0 : decode cM_power 0 = .ok (.lconst 1, 1) := by decide +kernel
theorem dM_power_1 : decode cM_power 1 = .ok (.lstore 6, 2) := by decide +kernel
theorem dM_power_3 : decode cM_power 3 = .ok (.lload_n 0, 1) := by decide +kernel
theorem dM_power_4 : decode cM_power 4 = .ok (.lload 4, 2) := by decide +kernel
theorem dM_power_6 : decode cM_power 6 = .ok (.lrem, 1) := by decide +kernel
theorem dM_power_7 : decode cM_power 7 = .ok (.lstore 8, 2) := by decide +kernel
theorem dM_power_9 : decode cM_power 9 = .ok (.lload_n 2, 1) := by decide +kernel
theorem dM_power_10 : decode cM_power 10 = .ok (.lstore 10, 2) := by decide +kernel
theorem dM_power_12 : decode cM_power 12 = .ok (.lload 10, 2) := by decide +kernel
theorem dM_power_14 : decode cM_power 14 = .ok (.lconst 0, 1) := by decide +kernel
theorem dM_power_15 : decode cM_power 15 = .ok (.lcmp, 1) := by decide +kernel
theorem dM_power_16 : decode cM_power 16 = .ok (.ifCond .le 46, 3) := by decide +kernel
theorem dM_power_19 : decode cM_power 19 = .ok (.lload 10, 2) := by decide +kernel
theorem dM_power_21 : decode cM_power 21 = .ok (.lconst 1, 1) := by decide +kernel
theorem dM_power_22 : decode cM_power 22 = .ok (.land, 1) := by decide +kernel
theorem dM_power_23 : decode cM_power 23 = .ok (.lconst 1, 1) := by decide +kernel
theorem dM_power_24 : decode cM_power 24 = .ok (.lcmp, 1) := by decide +kernel
theorem dM_power_25 : decode cM_power 25 = .ok (.ifCond .ne 14, 3) := by decide +kernel
theorem dM_power_28 : decode cM_power 28 = .ok (.lload 6, 2) := by decide +kernel
theorem dM_power_30 : decode cM_power 30 = .ok (.lload 8, 2) := by decide +kernel
theorem dM_power_32 : decode cM_power 32 = .ok (.lmul, 1) := by decide +kernel
theorem dM_power_33 : decode cM_power 33 = .ok (.lload 4, 2) := by decide +kernel
theorem dM_power_35 : decode cM_power 35 = .ok (.lrem, 1) := by decide +kernel
theorem dM_power_36 : decode cM_power 36 = .ok (.goto 5, 3) := by decide +kernel
theorem dM_power_39 : decode cM_power 39 = .ok (.lload 6, 2) := by decide +kernel
theorem dM_power_41 : decode cM_power 41 = .ok (.lstore 6, 2) := by decide +kernel
theorem dM_power_43 : decode cM_power 43 = .ok (.lload 8, 2) := by decide +kernel
theorem dM_power_45 : decode cM_power 45 = .ok (.lload 8, 2) := by decide +kernel
theorem dM_power_47 : decode cM_power 47 = .ok (.lmul, 1) := by decide +kernel
theorem dM_power_48 : decode cM_power 48 = .ok (.lload 4, 2) := by decide +kernel
theorem dM_power_50 : decode cM_power 50 = .ok (.lrem, 1) := by decide +kernel
theorem dM_power_51 : decode cM_power 51 = .ok (.lstore 8, 2) := by decide +kernel
theorem dM_power_53 : decode cM_power 53 = .ok (.lload 10, 2) := by decide +kernel
theorem dM_power_55 : decode cM_power 55 = .ok (.iconst 1, 1) := by decide +kernel
theorem dM_power_56 : decode cM_power 56 = .ok (.lshr, 1) := by decide +kernel
theorem dM_power_57 : decode cM_power 57 = .ok (.lstore 10, 2) := by decide +kernel
theorem dM_power_59 : decode cM_power 59 = .ok (.goto (-47), 3) := by decide +kernel
theorem dM_power_62 : decode cM_power 62 = .ok (.lload 6, 2) := by decide +kernel
theorem dM_power_64 : decode cM_power 64 = .ok (.lreturn, 1) := by decide +kernel
abbrev yM_join : MethodName := { cls := "BlindMintModel", name := "join", desc := "(JJI)J" }
abbrev cM_join : ByteArray := prog_12_method_13_code
theorem dM_join_0 : decode cM_join 0 = .ok (.iload 4, 2) := by decide +kernel
theorem dM_join_2 : decode cM_join 2 = .ok (.iconst 0, 1) := by decide +kernel
theorem dM_join_3 : decode cM_join 3 = .ok (.invokestatic 104, 3) := by decide +kernel
theorem dM_join_6 : decode cM_join 6 = .ok (.lstore 5, 2) := by decide +kernel
theorem dM_join_8 : decode cM_join 8 = .ok (.iload 4, 2) := by decide +kernel
theorem dM_join_10 : decode cM_join 10 = .ok (.iconst 1, 1) := by decide +kernel
theorem dM_join_11 : decode cM_join 11 = .ok (.invokestatic 104, 3) := by decide +kernel
theorem dM_join_14 : decode cM_join 14 = .ok (.lstore 7, 2) := by decide +kernel
theorem dM_join_16 : decode cM_join 16 = .ok (.lload 5, 2) := by decide +kernel
theorem dM_join_18 : decode cM_join 18 = .ok (.lload 7, 2) := by decide +kernel
theorem dM_join_20 : decode cM_join 20 = .ok (.ldc2_w 108, 3) := by decide +kernel
theorem dM_join_23 : decode cM_join 23 = .ok (.lsub, 1) := by decide +kernel
theorem dM_join_24 : decode cM_join 24 = .ok (.lload 7, 2) := by decide +kernel
theorem dM_join_26 : decode cM_join 26 = .ok (.invokestatic 110, 3) := by decide +kernel
theorem dM_join_29 : decode cM_join 29 = .ok (.lstore 9, 2) := by decide +kernel
theorem dM_join_31 : decode cM_join 31 = .ok (.lload_n 2, 1) := by decide +kernel
theorem dM_join_32 : decode cM_join 32 = .ok (.lload_n 0, 1) := by decide +kernel
theorem dM_join_33 : decode cM_join 33 = .ok (.lsub, 1) := by decide +kernel
theorem dM_join_34 : decode cM_join 34 = .ok (.lload 7, 2) := by decide +kernel
theorem dM_join_36 : decode cM_join 36 = .ok (.lrem, 1) := by decide +kernel
theorem dM_join_37 : decode cM_join 37 = .ok (.lload 7, 2) := by decide +kernel
theorem dM_join_39 : decode cM_join 39 = .ok (.ladd, 1) := by decide +kernel
theorem dM_join_40 : decode cM_join 40 = .ok (.lload 7, 2) := by decide +kernel
theorem dM_join_42 : decode cM_join 42 = .ok (.lrem, 1) := by decide +kernel
theorem dM_join_43 : decode cM_join 43 = .ok (.lload 9, 2) := by decide +kernel
theorem dM_join_45 : decode cM_join 45 = .ok (.lmul, 1) := by decide +kernel
theorem dM_join_46 : decode cM_join 46 = .ok (.lload 7, 2) := by decide +kernel
theorem dM_join_48 : decode cM_join 48 = .ok (.lrem, 1) := by decide +kernel
theorem dM_join_49 : decode cM_join 49 = .ok (.lstore 11, 2) := by decide +kernel
theorem dM_join_51 : decode cM_join 51 = .ok (.lload_n 0, 1) := by decide +kernel
theorem dM_join_52 : decode cM_join 52 = .ok (.lload 5, 2) := by decide +kernel
theorem dM_join_54 : decode cM_join 54 = .ok (.lload 11, 2) := by decide +kernel
theorem dM_join_56 : decode cM_join 56 = .ok (.lmul, 1) := by decide +kernel
theorem dM_join_57 : decode cM_join 57 = .ok (.ladd, 1) := by decide +kernel
theorem dM_join_58 : decode cM_join 58 = .ok (.lreturn, 1) := by decide +kernel
abbrev yM_blind : MethodName := { cls := "BlindMintModel", name := "blind", desc := "(JJI)J" }
abbrev cM_blind : ByteArray := prog_12_method_17_code
theorem dM_blind_0 : decode cM_blind 0 = .ok (.iload 4, 2) := by decide +kernel
theorem dM_blind_2 : decode cM_blind 2 = .ok (.iconst 0, 1) := by decide +kernel
theorem dM_blind_3 : decode cM_blind 3 = .ok (.invokestatic 104, 3) := by decide +kernel
theorem dM_blind_6 : decode cM_blind 6 = .ok (.lstore 5, 2) := by decide +kernel
theorem dM_blind_8 : decode cM_blind 8 = .ok (.iload 4, 2) := by decide +kernel
theorem dM_blind_10 : decode cM_blind 10 = .ok (.iconst 1, 1) := by decide +kernel
theorem dM_blind_11 : decode cM_blind 11 = .ok (.invokestatic 104, 3) := by decide +kernel
theorem dM_blind_14 : decode cM_blind 14 = .ok (.lstore 7, 2) := by decide +kernel
theorem dM_blind_16 : decode cM_blind 16 = .ok (.lload_n 2, 1) := by decide +kernel
theorem dM_blind_17 : decode cM_blind 17 = .ok (.ldc2_w 123, 3) := by decide +kernel
theorem dM_blind_20 : decode cM_blind 20 = .ok (.invokestatic 125, 3) := by decide +kernel
theorem dM_blind_23 : decode cM_blind 23 = .ok (.lstore 9, 2) := by decide +kernel
theorem dM_blind_25 : decode cM_blind 25 = .ok (.lload 9, 2) := by decide +kernel
theorem dM_blind_27 : decode cM_blind 27 = .ok (.lload 5, 2) := by decide +kernel
theorem dM_blind_29 : decode cM_blind 29 = .ok (.lrem, 1) := by decide +kernel
theorem dM_blind_30 : decode cM_blind 30 = .ok (.lconst 0, 1) := by decide +kernel
theorem dM_blind_31 : decode cM_blind 31 = .ok (.lcmp, 1) := by decide +kernel
theorem dM_blind_32 : decode cM_blind 32 = .ok (.ifCond .eq 13, 3) := by decide +kernel
theorem dM_blind_35 : decode cM_blind 35 = .ok (.lload 9, 2) := by decide +kernel
theorem dM_blind_37 : decode cM_blind 37 = .ok (.lload 7, 2) := by decide +kernel
theorem dM_blind_39 : decode cM_blind 39 = .ok (.lrem, 1) := by decide +kernel
theorem dM_blind_40 : decode cM_blind 40 = .ok (.lconst 0, 1) := by decide +kernel
theorem dM_blind_41 : decode cM_blind 41 = .ok (.lcmp, 1) := by decide +kernel
theorem dM_blind_42 : decode cM_blind 42 = .ok (.ifCond .ne 12, 3) := by decide +kernel
theorem dM_blind_45 : decode cM_blind 45 = .ok (.lload 9, 2) := by decide +kernel
theorem dM_blind_47 : decode cM_blind 47 = .ok (.lconst 1, 1) := by decide +kernel
theorem dM_blind_48 : decode cM_blind 48 = .ok (.ladd, 1) := by decide +kernel
theorem dM_blind_49 : decode cM_blind 49 = .ok (.lstore 9, 2) := by decide +kernel
theorem dM_blind_51 : decode cM_blind 51 = .ok (.goto (-26), 3) := by decide +kernel
theorem dM_blind_54 : decode cM_blind 54 = .ok (.lload_n 0, 1) := by decide +kernel
theorem dM_blind_55 : decode cM_blind 55 = .ok (.lload 5, 2) := by decide +kernel
theorem dM_blind_57 : decode cM_blind 57 = .ok (.lrem, 1) := by decide +kernel
theorem dM_blind_58 : decode cM_blind 58 = .ok (.lload 9, 2) := by decide +kernel
theorem dM_blind_60 : decode cM_blind 60 = .ok (.ldc2_w 114, 3) := by decide +kernel
theorem dM_blind_63 : decode cM_blind 63 = .ok (.lload 5, 2) := by decide +kernel
theorem dM_blind_65 : decode cM_blind 65 = .ok (.invokestatic 110, 3) := by decide +kernel
theorem dM_blind_68 : decode cM_blind 68 = .ok (.lmul, 1) := by decide +kernel
theorem dM_blind_69 : decode cM_blind 69 = .ok (.lload 5, 2) := by decide +kernel
theorem dM_blind_71 : decode cM_blind 71 = .ok (.lrem, 1) := by decide +kernel
theorem dM_blind_72 : decode cM_blind 72 = .ok (.lload_n 0, 1) := by decide +kernel
theorem dM_blind_73 : decode cM_blind 73 = .ok (.lload 7, 2) := by decide +kernel
theorem dM_blind_75 : decode cM_blind 75 = .ok (.lrem, 1) := by decide +kernel
theorem dM_blind_76 : decode cM_blind 76 = .ok (.lload 9, 2) := by decide +kernel
theorem dM_blind_78 : decode cM_blind 78 = .ok (.ldc2_w 114, 3) := by decide +kernel
theorem dM_blind_81 : decode cM_blind 81 = .ok (.lload 7, 2) := by decide +kernel
theorem dM_blind_83 : decode cM_blind 83 = .ok (.invokestatic 110, 3) := by decide +kernel
theorem dM_blind_86 : decode cM_blind 86 = .ok (.lmul, 1) := by decide +kernel
theorem dM_blind_87 : decode cM_blind 87 = .ok (.lload 7, 2) := by decide +kernel
theorem dM_blind_89 : decode cM_blind 89 = .ok (.lrem, 1) := by decide +kernel
theorem dM_blind_90 : decode cM_blind 90 = .ok (.iload 4, 2) := by decide +kernel
theorem dM_blind_92 : decode cM_blind 92 = .ok (.invokestatic 119, 3) := by decide +kernel
theorem dM_blind_95 : decode cM_blind 95 = .ok (.lreturn, 1) := by decide +kernel
abbrev yM_choose : MethodName := { cls := "BlindMintModel", name := "choose", desc := "(II)I" }
abbrev cM_choose : ByteArray := prog_12_method_22_code
theorem dM_choose_0 : decode cM_choose 0 = .ok (.aload_n 0, 1) := by decide +kernel
theorem dM_choose_1 : decode cM_choose 1 = .ok (.iconst 0, 1) := by decide +kernel
theorem dM_choose_2 : decode cM_choose 2 = .ok (.putfield 73, 3) := by decide +kernel
theorem dM_choose_5 : decode cM_choose 5 = .ok (.iload_n 1, 1) := by decide +kernel
theorem dM_choose_6 : decode cM_choose 6 = .ok (.iconst 4, 1) := by decide +kernel
theorem dM_choose_7 : decode cM_choose 7 = .ok (.invokestatic 136, 3) := by decide +kernel
theorem dM_choose_10 : decode cM_choose 10 = .ok (.ifCond .eq 8, 3) := by decide +kernel
theorem dM_choose_13 : decode cM_choose 13 = .ok (.iload_n 2, 1) := by decide +kernel
theorem dM_choose_14 : decode cM_choose 14 = .ok (.iconst 1, 1) := by decide +kernel
theorem dM_choose_15 : decode cM_choose 15 = .ok (.if_icmp .ge 9, 3) := by decide +kernel
theorem dM_choose_18 : decode cM_choose 18 = .ok (.aload_n 0, 1) := by decide +kernel
theorem dM_choose_19 : decode cM_choose 19 = .ok (.iconst 1, 1) := by decide +kernel
theorem dM_choose_20 : decode cM_choose 20 = .ok (.invokevirtual 140, 3) := by decide +kernel
theorem dM_choose_23 : decode cM_choose 23 = .ok (.ireturn, 1) := by decide +kernel
theorem dM_choose_24 : decode cM_choose 24 = .ok (.iload_n 2, 1) := by decide +kernel
theorem dM_choose_25 : decode cM_choose 25 = .ok (.istore_n 3, 1) := by decide +kernel
theorem dM_choose_26 : decode cM_choose 26 = .ok (.iconst 0, 1) := by decide +kernel
theorem dM_choose_27 : decode cM_choose 27 = .ok (.istore 4, 2) := by decide +kernel
theorem dM_choose_29 : decode cM_choose 29 = .ok (.iconst 2, 1) := by decide +kernel
theorem dM_choose_30 : decode cM_choose 30 = .ok (.istore 5, 2) := by decide +kernel
theorem dM_choose_32 : decode cM_choose 32 = .ok (.iload 5, 2) := by decide +kernel
theorem dM_choose_34 : decode cM_choose 34 = .ok (.ifCond .lt 111, 3) := by decide +kernel
theorem dM_choose_37 : decode cM_choose 37 = .ok (.iconst 0, 1) := by decide +kernel
theorem dM_choose_38 : decode cM_choose 38 = .ok (.istore 6, 2) := by decide +kernel
theorem dM_choose_40 : decode cM_choose 40 = .ok (.iload 6, 2) := by decide +kernel
theorem dM_choose_42 : decode cM_choose 42 = .ok (.aload_n 0, 1) := by decide +kernel
theorem dM_choose_43 : decode cM_choose 43 = .ok (.getfield 26, 3) := by decide +kernel
theorem dM_choose_46 : decode cM_choose 46 = .ok (.iload_n 1, 1) := by decide +kernel
theorem dM_choose_47 : decode cM_choose 47 = .ok (.iaload, 1) := by decide +kernel
theorem dM_choose_48 : decode cM_choose 48 = .ok (.if_icmp .ge 91, 3) := by decide +kernel
theorem dM_choose_51 : decode cM_choose 51 = .ok (.bipush 8, 2) := by decide +kernel
theorem dM_choose_53 : decode cM_choose 53 = .ok (.iload_n 1, 1) := by decide +kernel
theorem dM_choose_54 : decode cM_choose 54 = .ok (.imul, 1) := by decide +kernel
theorem dM_choose_55 : decode cM_choose 55 = .ok (.iload 6, 2) := by decide +kernel
theorem dM_choose_57 : decode cM_choose 57 = .ok (.iadd, 1) := by decide +kernel
theorem dM_choose_58 : decode cM_choose 58 = .ok (.istore 7, 2) := by decide +kernel
theorem dM_choose_60 : decode cM_choose 60 = .ok (.aload_n 0, 1) := by decide +kernel
theorem dM_choose_61 : decode cM_choose 61 = .ok (.getfield 29, 3) := by decide +kernel
theorem dM_choose_64 : decode cM_choose 64 = .ok (.iload 7, 2) := by decide +kernel
theorem dM_choose_66 : decode cM_choose 66 = .ok (.iaload, 1) := by decide +kernel
theorem dM_choose_67 : decode cM_choose 67 = .ok (.iload 5, 2) := by decide +kernel
theorem dM_choose_69 : decode cM_choose 69 = .ok (.if_icmp .ne 26, 3) := by decide +kernel
theorem dM_choose_72 : decode cM_choose 72 = .ok (.aload_n 0, 1) := by decide +kernel
theorem dM_choose_73 : decode cM_choose 73 = .ok (.getfield 39, 3) := by decide +kernel
theorem dM_choose_76 : decode cM_choose 76 = .ok (.iload 7, 2) := by decide +kernel
theorem dM_choose_78 : decode cM_choose 78 = .ok (.baload, 1) := by decide +kernel
theorem dM_choose_79 : decode cM_choose 79 = .ok (.ifCond .ne 16, 3) := by decide +kernel
theorem dM_choose_82 : decode cM_choose 82 = .ok (.iload 5, 2) := by decide +kernel
theorem dM_choose_84 : decode cM_choose 84 = .ok (.invokestatic 144, 3) := by decide +kernel
theorem dM_choose_87 : decode cM_choose 87 = .ok (.iload_n 3, 1) := by decide +kernel
theorem dM_choose_88 : decode cM_choose 88 = .ok (.if_icmp .gt 7, 3) := by decide +kernel
theorem dM_choose_91 : decode cM_choose 91 = .ok (.iconst 1, 1) := by decide +kernel
theorem dM_choose_92 : decode cM_choose 92 = .ok (.goto 4, 3) := by decide +kernel
theorem dM_choose_95 : decode cM_choose 95 = .ok (.iconst 0, 1) := by decide +kernel
theorem dM_choose_96 : decode cM_choose 96 = .ok (.istore 8, 2) := by decide +kernel
theorem dM_choose_98 : decode cM_choose 98 = .ok (.iload 4, 2) := by decide +kernel
theorem dM_choose_100 : decode cM_choose 100 = .ok (.iload 8, 2) := by decide +kernel
theorem dM_choose_102 : decode cM_choose 102 = .ok (.ifCond .eq 10, 3) := by decide +kernel
theorem dM_choose_105 : decode cM_choose 105 = .ok (.iconst 1, 1) := by decide +kernel
theorem dM_choose_106 : decode cM_choose 106 = .ok (.iload 6, 2) := by decide +kernel
theorem dM_choose_108 : decode cM_choose 108 = .ok (.ishl, 1) := by decide +kernel
theorem dM_choose_109 : decode cM_choose 109 = .ok (.goto 4, 3) := by decide +kernel
theorem dM_choose_112 : decode cM_choose 112 = .ok (.iconst 0, 1) := by decide +kernel
theorem dM_choose_113 : decode cM_choose 113 = .ok (.ior, 1) := by decide +kernel
theorem dM_choose_114 : decode cM_choose 114 = .ok (.istore 4, 2) := by decide +kernel
theorem dM_choose_116 : decode cM_choose 116 = .ok (.iload_n 3, 1) := by decide +kernel
theorem dM_choose_117 : decode cM_choose 117 = .ok (.iload 8, 2) := by decide +kernel
theorem dM_choose_119 : decode cM_choose 119 = .ok (.ifCond .eq 11, 3) := by decide +kernel
theorem dM_choose_122 : decode cM_choose 122 = .ok (.iload 5, 2) := by decide +kernel
theorem dM_choose_124 : decode cM_choose 124 = .ok (.invokestatic 144, 3) := by decide +kernel
theorem dM_choose_127 : decode cM_choose 127 = .ok (.goto 4, 3) := by decide +kernel
theorem dM_choose_130 : decode cM_choose 130 = .ok (.iconst 0, 1) := by decide +kernel
theorem dM_choose_131 : decode cM_choose 131 = .ok (.isub, 1) := by decide +kernel
theorem dM_choose_132 : decode cM_choose 132 = .ok (.istore_n 3, 1) := by decide +kernel
theorem dM_choose_133 : decode cM_choose 133 = .ok (.iinc 6 1, 3) := by decide +kernel
theorem dM_choose_136 : decode cM_choose 136 = .ok (.goto (-96), 3) := by decide +kernel
theorem dM_choose_139 : decode cM_choose 139 = .ok (.iinc 5 (-1), 3) := by decide +kernel
theorem dM_choose_142 : decode cM_choose 142 = .ok (.goto (-110), 3) := by decide +kernel
theorem dM_choose_145 : decode cM_choose 145 = .ok (.iload_n 3, 1) := by decide +kernel
theorem dM_choose_146 : decode cM_choose 146 = .ok (.ifCond .le 11, 3) := by decide +kernel
theorem dM_choose_149 : decode cM_choose 149 = .ok (.aload_n 0, 1) := by decide +kernel
theorem dM_choose_150 : decode cM_choose 150 = .ok (.iconst 2, 1) := by decide +kernel
theorem dM_choose_151 : decode cM_choose 151 = .ok (.invokevirtual 140, 3) := by decide +kernel
theorem dM_choose_154 : decode cM_choose 154 = .ok (.goto 5, 3) := by decide +kernel
theorem dM_choose_157 : decode cM_choose 157 = .ok (.iload 4, 2) := by decide +kernel
theorem dM_choose_159 : decode cM_choose 159 = .ok (.ireturn, 1) := by decide +kernel
abbrev yM_spend : MethodName := { cls := "BlindMintModel", name := "spend", desc := "(IIII)I" }
abbrev cM_spend : ByteArray := prog_12_method_24_code
theorem dM_spend_0 : decode cM_spend 0 = .ok (.aload_n 0, 1) := by decide +kernel
theorem dM_spend_1 : decode cM_spend 1 = .ok (.iconst 0, 1) := by decide +kernel
theorem dM_spend_2 : decode cM_spend 2 = .ok (.putfield 73, 3) := by decide +kernel
theorem dM_spend_5 : decode cM_spend 5 = .ok (.aload_n 0, 1) := by decide +kernel
theorem dM_spend_6 : decode cM_spend 6 = .ok (.iload_n 1, 1) := by decide +kernel
theorem dM_spend_7 : decode cM_spend 7 = .ok (.iload_n 2, 1) := by decide +kernel
theorem dM_spend_8 : decode cM_spend 8 = .ok (.invokevirtual 168, 3) := by decide +kernel
theorem dM_spend_11 : decode cM_spend 11 = .ok (.ifCond .eq 9, 3) := by decide +kernel
theorem dM_spend_14 : decode cM_spend 14 = .ok (.aload_n 0, 1) := by decide +kernel
theorem dM_spend_15 : decode cM_spend 15 = .ok (.iconst 1, 1) := by decide +kernel
theorem dM_spend_16 : decode cM_spend 16 = .ok (.invokevirtual 140, 3) := by decide +kernel
theorem dM_spend_19 : decode cM_spend 19 = .ok (.ireturn, 1) := by decide +kernel
theorem dM_spend_20 : decode cM_spend 20 = .ok (.aload_n 0, 1) := by decide +kernel
theorem dM_spend_21 : decode cM_spend 21 = .ok (.getfield 171, 3) := by decide +kernel
theorem dM_spend_24 : decode cM_spend 24 = .ok (.bipush 20, 2) := by decide +kernel
theorem dM_spend_26 : decode cM_spend 26 = .ok (.if_icmp .ne 9, 3) := by decide +kernel
theorem dM_spend_29 : decode cM_spend 29 = .ok (.aload_n 0, 1) := by decide +kernel
theorem dM_spend_30 : decode cM_spend 30 = .ok (.iconst 2, 1) := by decide +kernel
theorem dM_spend_31 : decode cM_spend 31 = .ok (.invokevirtual 140, 3) := by decide +kernel
theorem dM_spend_34 : decode cM_spend 34 = .ok (.ireturn, 1) := by decide +kernel
theorem dM_spend_35 : decode cM_spend 35 = .ok (.bipush 8, 2) := by decide +kernel
theorem dM_spend_37 : decode cM_spend 37 = .ok (.iload_n 1, 1) := by decide +kernel
theorem dM_spend_38 : decode cM_spend 38 = .ok (.imul, 1) := by decide +kernel
theorem dM_spend_39 : decode cM_spend 39 = .ok (.iload_n 2, 1) := by decide +kernel
theorem dM_spend_40 : decode cM_spend 40 = .ok (.iadd, 1) := by decide +kernel
theorem dM_spend_41 : decode cM_spend 41 = .ok (.istore 5, 2) := by decide +kernel
theorem dM_spend_43 : decode cM_spend 43 = .ok (.bipush 16, 2) := by decide +kernel
theorem dM_spend_45 : decode cM_spend 45 = .ok (.aload_n 0, 1) := by decide +kernel
theorem dM_spend_46 : decode cM_spend 46 = .ok (.getfield 171, 3) := by decide +kernel
theorem dM_spend_49 : decode cM_spend 49 = .ok (.imul, 1) := by decide +kernel
theorem dM_spend_50 : decode cM_spend 50 = .ok (.istore 6, 2) := by decide +kernel
theorem dM_spend_52 : decode cM_spend 52 = .ok (.iload_n 3, 1) := by decide +kernel
theorem dM_spend_53 : decode cM_spend 53 = .ok (.i2l, 1) := by decide +kernel
theorem dM_spend_54 : decode cM_spend 54 = .ok (.iload 4, 2) := by decide +kernel
theorem dM_spend_56 : decode cM_spend 56 = .ok (.i2l, 1) := by decide +kernel
theorem dM_spend_57 : decode cM_spend 57 = .ok (.aload_n 0, 1) := by decide +kernel
theorem dM_spend_58 : decode cM_spend 58 = .ok (.getfield 36, 3) := by decide +kernel
theorem dM_spend_61 : decode cM_spend 61 = .ok (.iload 5, 2) := by decide +kernel
theorem dM_spend_63 : decode cM_spend 63 = .ok (.laload, 1) := by decide +kernel
theorem dM_spend_64 : decode cM_spend 64 = .ok (.invokestatic 174, 3) := by decide +kernel
theorem dM_spend_67 : decode cM_spend 67 = .ok (.lstore 7, 2) := by decide +kernel
theorem dM_spend_69 : decode cM_spend 69 = .ok (.aload_n 0, 1) := by decide +kernel
theorem dM_spend_70 : decode cM_spend 70 = .ok (.getfield 46, 3) := by decide +kernel
theorem dM_spend_73 : decode cM_spend 73 = .ok (.iload 6, 2) := by decide +kernel
theorem dM_spend_75 : decode cM_spend 75 = .ok (.aload_n 0, 1) := by decide +kernel
theorem dM_spend_76 : decode cM_spend 76 = .ok (.getfield 29, 3) := by decide +kernel
theorem dM_spend_79 : decode cM_spend 79 = .ok (.iload 5, 2) := by decide +kernel
theorem dM_spend_81 : decode cM_spend 81 = .ok (.iaload, 1) := by decide +kernel
theorem dM_spend_82 : decode cM_spend 82 = .ok (.i2l, 1) := by decide +kernel
theorem dM_spend_83 : decode cM_spend 83 = .ok (.lastore, 1) := by decide +kernel
theorem dM_spend_84 : decode cM_spend 84 = .ok (.aload_n 0, 1) := by decide +kernel
theorem dM_spend_85 : decode cM_spend 85 = .ok (.getfield 46, 3) := by decide +kernel
theorem dM_spend_88 : decode cM_spend 88 = .ok (.iload 6, 2) := by decide +kernel
theorem dM_spend_90 : decode cM_spend 90 = .ok (.iconst 1, 1) := by decide +kernel
theorem dM_spend_91 : decode cM_spend 91 = .ok (.iadd, 1) := by decide +kernel
theorem dM_spend_92 : decode cM_spend 92 = .ok (.aload_n 0, 1) := by decide +kernel
theorem dM_spend_93 : decode cM_spend 93 = .ok (.getfield 36, 3) := by decide +kernel
theorem dM_spend_96 : decode cM_spend 96 = .ok (.iload 5, 2) := by decide +kernel
theorem dM_spend_98 : decode cM_spend 98 = .ok (.laload, 1) := by decide +kernel
theorem dM_spend_99 : decode cM_spend 99 = .ok (.lastore, 1) := by decide +kernel
theorem dM_spend_100 : decode cM_spend 100 = .ok (.aload_n 0, 1) := by decide +kernel
theorem dM_spend_101 : decode cM_spend 101 = .ok (.getfield 46, 3) := by decide +kernel
theorem dM_spend_104 : decode cM_spend 104 = .ok (.iload 6, 2) := by decide +kernel
theorem dM_spend_106 : decode cM_spend 106 = .ok (.iconst 2, 1) := by decide +kernel
theorem dM_spend_107 : decode cM_spend 107 = .ok (.iadd, 1) := by decide +kernel
theorem dM_spend_108 : decode cM_spend 108 = .ok (.iload_n 3, 1) := by decide +kernel
theorem dM_spend_109 : decode cM_spend 109 = .ok (.i2l, 1) := by decide +kernel
theorem dM_spend_110 : decode cM_spend 110 = .ok (.lastore, 1) := by decide +kernel
theorem dM_spend_111 : decode cM_spend 111 = .ok (.aload_n 0, 1) := by decide +kernel
theorem dM_spend_112 : decode cM_spend 112 = .ok (.getfield 46, 3) := by decide +kernel
theorem dM_spend_115 : decode cM_spend 115 = .ok (.iload 6, 2) := by decide +kernel
theorem dM_spend_117 : decode cM_spend 117 = .ok (.iconst 3, 1) := by decide +kernel
theorem dM_spend_118 : decode cM_spend 118 = .ok (.iadd, 1) := by decide +kernel
theorem dM_spend_119 : decode cM_spend 119 = .ok (.iload 4, 2) := by decide +kernel
theorem dM_spend_121 : decode cM_spend 121 = .ok (.i2l, 1) := by decide +kernel
theorem dM_spend_122 : decode cM_spend 122 = .ok (.lastore, 1) := by decide +kernel
theorem dM_spend_123 : decode cM_spend 123 = .ok (.iconst 0, 1) := by decide +kernel
theorem dM_spend_124 : decode cM_spend 124 = .ok (.istore 9, 2) := by decide +kernel
theorem dM_spend_126 : decode cM_spend 126 = .ok (.iload 9, 2) := by decide +kernel
theorem dM_spend_128 : decode cM_spend 128 = .ok (.iconst 4, 1) := by decide +kernel
theorem dM_spend_129 : decode cM_spend 129 = .ok (.if_icmp .ge 150, 3) := by decide +kernel
theorem dM_spend_132 : decode cM_spend 132 = .ok (.bipush 16, 2) := by decide +kernel
theorem dM_spend_134 : decode cM_spend 134 = .ok (.iload 5, 2) := by decide +kernel
theorem dM_spend_136 : decode cM_spend 136 = .ok (.imul, 1) := by decide +kernel
theorem dM_spend_137 : decode cM_spend 137 = .ok (.iconst 4, 1) := by decide +kernel
theorem dM_spend_138 : decode cM_spend 138 = .ok (.iload 9, 2) := by decide +kernel
theorem dM_spend_140 : decode cM_spend 140 = .ok (.imul, 1) := by decide +kernel
theorem dM_spend_141 : decode cM_spend 141 = .ok (.iadd, 1) := by decide +kernel
theorem dM_spend_142 : decode cM_spend 142 = .ok (.istore 10, 2) := by decide +kernel
theorem dM_spend_144 : decode cM_spend 144 = .ok (.lload 7, 2) := by decide +kernel
theorem dM_spend_146 : decode cM_spend 146 = .ok (.iload 9, 2) := by decide +kernel
theorem dM_spend_148 : decode cM_spend 148 = .ok (.lshr, 1) := by decide +kernel
theorem dM_spend_149 : decode cM_spend 149 = .ok (.lconst 1, 1) := by decide +kernel
theorem dM_spend_150 : decode cM_spend 150 = .ok (.land, 1) := by decide +kernel
theorem dM_spend_151 : decode cM_spend 151 = .ok (.lconst 1, 1) := by decide +kernel
theorem dM_spend_152 : decode cM_spend 152 = .ok (.lcmp, 1) := by decide +kernel
theorem dM_spend_153 : decode cM_spend 153 = .ok (.ifCond .ne 7, 3) := by decide +kernel
theorem dM_spend_156 : decode cM_spend 156 = .ok (.iconst 1, 1) := by decide +kernel
theorem dM_spend_157 : decode cM_spend 157 = .ok (.goto 4, 3) := by decide +kernel
theorem dM_spend_160 : decode cM_spend 160 = .ok (.iconst 0, 1) := by decide +kernel
theorem dM_spend_161 : decode cM_spend 161 = .ok (.istore 11, 2) := by decide +kernel
theorem dM_spend_163 : decode cM_spend 163 = .ok (.iload 11, 2) := by decide +kernel
theorem dM_spend_165 : decode cM_spend 165 = .ok (.ifCond .eq 8, 3) := by decide +kernel
theorem dM_spend_168 : decode cM_spend 168 = .ok (.iload 10, 2) := by decide +kernel
theorem dM_spend_170 : decode cM_spend 170 = .ok (.goto 7, 3) := by decide +kernel
theorem dM_spend_173 : decode cM_spend 173 = .ok (.iload 10, 2) := by decide +kernel
theorem dM_spend_175 : decode cM_spend 175 = .ok (.iconst 1, 1) := by decide +kernel
theorem dM_spend_176 : decode cM_spend 176 = .ok (.iadd, 1) := by decide +kernel
theorem dM_spend_177 : decode cM_spend 177 = .ok (.istore 12, 2) := by decide +kernel
theorem dM_spend_179 : decode cM_spend 179 = .ok (.iload 11, 2) := by decide +kernel
theorem dM_spend_181 : decode cM_spend 181 = .ok (.ifCond .eq 10, 3) := by decide +kernel
theorem dM_spend_184 : decode cM_spend 184 = .ok (.iload 10, 2) := by decide +kernel
theorem dM_spend_186 : decode cM_spend 186 = .ok (.iconst 1, 1) := by decide +kernel
theorem dM_spend_187 : decode cM_spend 187 = .ok (.iadd, 1) := by decide +kernel
theorem dM_spend_188 : decode cM_spend 188 = .ok (.goto 5, 3) := by decide +kernel
theorem dM_spend_191 : decode cM_spend 191 = .ok (.iload 10, 2) := by decide +kernel
theorem dM_spend_193 : decode cM_spend 193 = .ok (.istore 13, 2) := by decide +kernel
theorem dM_spend_195 : decode cM_spend 195 = .ok (.aload_n 0, 1) := by decide +kernel
theorem dM_spend_196 : decode cM_spend 196 = .ok (.getfield 46, 3) := by decide +kernel
theorem dM_spend_199 : decode cM_spend 199 = .ok (.iload 6, 2) := by decide +kernel
theorem dM_spend_201 : decode cM_spend 201 = .ok (.iconst 4, 1) := by decide +kernel
theorem dM_spend_202 : decode cM_spend 202 = .ok (.iadd, 1) := by decide +kernel
theorem dM_spend_203 : decode cM_spend 203 = .ok (.iconst 3, 1) := by decide +kernel
theorem dM_spend_204 : decode cM_spend 204 = .ok (.iload 9, 2) := by decide +kernel
theorem dM_spend_206 : decode cM_spend 206 = .ok (.imul, 1) := by decide +kernel
theorem dM_spend_207 : decode cM_spend 207 = .ok (.iadd, 1) := by decide +kernel
theorem dM_spend_208 : decode cM_spend 208 = .ok (.aload_n 0, 1) := by decide +kernel
theorem dM_spend_209 : decode cM_spend 209 = .ok (.getfield 43, 3) := by decide +kernel
theorem dM_spend_212 : decode cM_spend 212 = .ok (.iload 12, 2) := by decide +kernel
theorem dM_spend_214 : decode cM_spend 214 = .ok (.laload, 1) := by decide +kernel
theorem dM_spend_215 : decode cM_spend 215 = .ok (.lastore, 1) := by decide +kernel
theorem dM_spend_216 : decode cM_spend 216 = .ok (.aload_n 0, 1) := by decide +kernel
theorem dM_spend_217 : decode cM_spend 217 = .ok (.getfield 46, 3) := by decide +kernel
theorem dM_spend_220 : decode cM_spend 220 = .ok (.iload 6, 2) := by decide +kernel
theorem dM_spend_222 : decode cM_spend 222 = .ok (.iconst 5, 1) := by decide +kernel
theorem dM_spend_223 : decode cM_spend 223 = .ok (.iadd, 1) := by decide +kernel
theorem dM_spend_224 : decode cM_spend 224 = .ok (.iconst 3, 1) := by decide +kernel
theorem dM_spend_225 : decode cM_spend 225 = .ok (.iload 9, 2) := by decide +kernel
theorem dM_spend_227 : decode cM_spend 227 = .ok (.imul, 1) := by decide +kernel
theorem dM_spend_228 : decode cM_spend 228 = .ok (.iadd, 1) := by decide +kernel
theorem dM_spend_229 : decode cM_spend 229 = .ok (.aload_n 0, 1) := by decide +kernel
theorem dM_spend_230 : decode cM_spend 230 = .ok (.getfield 43, 3) := by decide +kernel
theorem dM_spend_233 : decode cM_spend 233 = .ok (.iload 12, 2) := by decide +kernel
theorem dM_spend_235 : decode cM_spend 235 = .ok (.iconst 2, 1) := by decide +kernel
theorem dM_spend_236 : decode cM_spend 236 = .ok (.iadd, 1) := by decide +kernel
theorem dM_spend_237 : decode cM_spend 237 = .ok (.laload, 1) := by decide +kernel
theorem dM_spend_238 : decode cM_spend 238 = .ok (.lastore, 1) := by decide +kernel
theorem dM_spend_239 : decode cM_spend 239 = .ok (.aload_n 0, 1) := by decide +kernel
theorem dM_spend_240 : decode cM_spend 240 = .ok (.getfield 46, 3) := by decide +kernel
theorem dM_spend_243 : decode cM_spend 243 = .ok (.iload 6, 2) := by decide +kernel
theorem dM_spend_245 : decode cM_spend 245 = .ok (.bipush 6, 2) := by decide +kernel
theorem dM_spend_247 : decode cM_spend 247 = .ok (.iadd, 1) := by decide +kernel
theorem dM_spend_248 : decode cM_spend 248 = .ok (.iconst 3, 1) := by decide +kernel
theorem dM_spend_249 : decode cM_spend 249 = .ok (.iload 9, 2) := by decide +kernel
theorem dM_spend_251 : decode cM_spend 251 = .ok (.imul, 1) := by decide +kernel
theorem dM_spend_252 : decode cM_spend 252 = .ok (.iadd, 1) := by decide +kernel
theorem dM_spend_253 : decode cM_spend 253 = .ok (.aload_n 0, 1) := by decide +kernel
theorem dM_spend_254 : decode cM_spend 254 = .ok (.getfield 43, 3) := by decide +kernel
theorem dM_spend_257 : decode cM_spend 257 = .ok (.iload 13, 2) := by decide +kernel
theorem dM_spend_259 : decode cM_spend 259 = .ok (.laload, 1) := by decide +kernel
theorem dM_spend_260 : decode cM_spend 260 = .ok (.aload_n 0, 1) := by decide +kernel
theorem dM_spend_261 : decode cM_spend 261 = .ok (.getfield 43, 3) := by decide +kernel
theorem dM_spend_264 : decode cM_spend 264 = .ok (.iload 13, 2) := by decide +kernel
theorem dM_spend_266 : decode cM_spend 266 = .ok (.iconst 2, 1) := by decide +kernel
theorem dM_spend_267 : decode cM_spend 267 = .ok (.iadd, 1) := by decide +kernel
theorem dM_spend_268 : decode cM_spend 268 = .ok (.laload, 1) := by decide +kernel
theorem dM_spend_269 : decode cM_spend 269 = .ok (.invokestatic 125, 3) := by decide +kernel
theorem dM_spend_272 : decode cM_spend 272 = .ok (.lastore, 1) := by decide +kernel
theorem dM_spend_273 : decode cM_spend 273 = .ok (.iinc 9 1, 3) := by decide +kernel
theorem dM_spend_276 : decode cM_spend 276 = .ok (.goto (-150), 3) := by decide +kernel
theorem dM_spend_279 : decode cM_spend 279 = .ok (.aload_n 0, 1) := by decide +kernel
theorem dM_spend_280 : decode cM_spend 280 = .ok (.getfield 39, 3) := by decide +kernel
theorem dM_spend_283 : decode cM_spend 283 = .ok (.iload 5, 2) := by decide +kernel
theorem dM_spend_285 : decode cM_spend 285 = .ok (.iconst 1, 1) := by decide +kernel
theorem dM_spend_286 : decode cM_spend 286 = .ok (.bastore, 1) := by decide +kernel
theorem dM_spend_287 : decode cM_spend 287 = .ok (.aload_n 0, 1) := by decide +kernel
theorem dM_spend_288 : decode cM_spend 288 = .ok (.dup, 1) := by decide +kernel
theorem dM_spend_289 : decode cM_spend 289 = .ok (.getfield 171, 3) := by decide +kernel
theorem dM_spend_292 : decode cM_spend 292 = .ok (.iconst 1, 1) := by decide +kernel
theorem dM_spend_293 : decode cM_spend 293 = .ok (.iadd, 1) := by decide +kernel
theorem dM_spend_294 : decode cM_spend 294 = .ok (.putfield 171, 3) := by decide +kernel
theorem dM_spend_297 : decode cM_spend 297 = .ok (.aload_n 0, 1) := by decide +kernel
theorem dM_spend_298 : decode cM_spend 298 = .ok (.getfield 171, 3) := by decide +kernel
theorem dM_spend_301 : decode cM_spend 301 = .ok (.iconst 1, 1) := by decide +kernel
theorem dM_spend_302 : decode cM_spend 302 = .ok (.isub, 1) := by decide +kernel
theorem dM_spend_303 : decode cM_spend 303 = .ok (.ireturn, 1) := by decide +kernel
abbrev yM_noCoin : MethodName := { cls := "BlindMintModel", name := "noCoin", desc := "(II)Z" }
abbrev cM_noCoin : ByteArray := prog_12_method_23_code
theorem dM_noCoin_0 : decode cM_noCoin 0 = .ok (.iload_n 1, 1) := by decide +kernel
theorem dM_noCoin_1 : decode cM_noCoin 1 = .ok (.iconst 4, 1) := by decide +kernel
theorem dM_noCoin_2 : decode cM_noCoin 2 = .ok (.invokestatic 136, 3) := by decide +kernel
theorem dM_noCoin_5 : decode cM_noCoin 5 = .ok (.ifCond .eq 16, 3) := by decide +kernel
theorem dM_noCoin_8 : decode cM_noCoin 8 = .ok (.iload_n 2, 1) := by decide +kernel
theorem dM_noCoin_9 : decode cM_noCoin 9 = .ok (.aload_n 0, 1) := by decide +kernel
theorem dM_noCoin_10 : decode cM_noCoin 10 = .ok (.getfield 26, 3) := by decide +kernel
theorem dM_noCoin_13 : decode cM_noCoin 13 = .ok (.iload_n 1, 1) := by decide +kernel
theorem dM_noCoin_14 : decode cM_noCoin 14 = .ok (.iaload, 1) := by decide +kernel
theorem dM_noCoin_15 : decode cM_noCoin 15 = .ok (.invokestatic 136, 3) := by decide +kernel
theorem dM_noCoin_18 : decode cM_noCoin 18 = .ok (.ifCond .ne 7, 3) := by decide +kernel
theorem dM_noCoin_21 : decode cM_noCoin 21 = .ok (.iconst 1, 1) := by decide +kernel
theorem dM_noCoin_22 : decode cM_noCoin 22 = .ok (.goto 4, 3) := by decide +kernel
theorem dM_noCoin_25 : decode cM_noCoin 25 = .ok (.iconst 0, 1) := by decide +kernel
theorem dM_noCoin_26 : decode cM_noCoin 26 = .ok (.ireturn, 1) := by decide +kernel
abbrev yM_hash3 : MethodName := { cls := "BlindMintModel", name := "hash3", desc := "(JJJ)J" }
abbrev cM_hash3 : ByteArray := prog_12_method_8_code
theorem dM_hash3_0 : decode cM_hash3 0 = .ok (.ldc2_w 82, 3) := by decide +kernel
theorem dM_hash3_3 : decode cM_hash3 3 = .ok (.lload_n 0, 1) := by decide +kernel
theorem dM_hash3_4 : decode cM_hash3 4 = .ok (.invokestatic 84, 3) := by decide +kernel
theorem dM_hash3_7 : decode cM_hash3 7 = .ok (.lload_n 2, 1) := by decide +kernel
theorem dM_hash3_8 : decode cM_hash3 8 = .ok (.invokestatic 84, 3) := by decide +kernel
theorem dM_hash3_11 : decode cM_hash3 11 = .ok (.lload 4, 2) := by decide +kernel
theorem dM_hash3_13 : decode cM_hash3 13 = .ok (.invokestatic 84, 3) := by decide +kernel
theorem dM_hash3_16 : decode cM_hash3 16 = .ok (.invokestatic 88, 3) := by decide +kernel
theorem dM_hash3_19 : decode cM_hash3 19 = .ok (.lreturn, 1) := by decide +kernel
abbrev yM_tamper : MethodName := { cls := "BlindMintModel", name := "tamper", desc := "(IIJ)J" }
abbrev cM_tamper : ByteArray := prog_12_method_26_code
theorem dM_tamper_0 : decode cM_tamper 0 = .ok (.aload_n 0, 1) := by decide +kernel
theorem dM_tamper_1 : decode cM_tamper 1 = .ok (.iconst 0, 1) := by decide +kernel
theorem dM_tamper_2 : decode cM_tamper 2 = .ok (.putfield 73, 3) := by decide +kernel
theorem dM_tamper_5 : decode cM_tamper 5 = .ok (.aload_n 0, 1) := by decide +kernel
theorem dM_tamper_6 : decode cM_tamper 6 = .ok (.iload_n 1, 1) := by decide +kernel
theorem dM_tamper_7 : decode cM_tamper 7 = .ok (.iload_n 2, 1) := by decide +kernel
theorem dM_tamper_8 : decode cM_tamper 8 = .ok (.invokevirtual 177, 3) := by decide +kernel
theorem dM_tamper_11 : decode cM_tamper 11 = .ok (.ifCond .eq 10, 3) := by decide +kernel
theorem dM_tamper_14 : decode cM_tamper 14 = .ok (.aload_n 0, 1) := by decide +kernel
theorem dM_tamper_15 : decode cM_tamper 15 = .ok (.iconst 1, 1) := by decide +kernel
theorem dM_tamper_16 : decode cM_tamper 16 = .ok (.invokevirtual 140, 3) := by decide +kernel
theorem dM_tamper_19 : decode cM_tamper 19 = .ok (.i2l, 1) := by decide +kernel
theorem dM_tamper_20 : decode cM_tamper 20 = .ok (.lreturn, 1) := by decide +kernel
theorem dM_tamper_21 : decode cM_tamper 21 = .ok (.aload_n 0, 1) := by decide +kernel
theorem dM_tamper_22 : decode cM_tamper 22 = .ok (.getfield 46, 3) := by decide +kernel
theorem dM_tamper_25 : decode cM_tamper 25 = .ok (.bipush 16, 2) := by decide +kernel
theorem dM_tamper_27 : decode cM_tamper 27 = .ok (.iload_n 1, 1) := by decide +kernel
theorem dM_tamper_28 : decode cM_tamper 28 = .ok (.imul, 1) := by decide +kernel
theorem dM_tamper_29 : decode cM_tamper 29 = .ok (.iload_n 2, 1) := by decide +kernel
theorem dM_tamper_30 : decode cM_tamper 30 = .ok (.iadd, 1) := by decide +kernel
theorem dM_tamper_31 : decode cM_tamper 31 = .ok (.dup2, 1) := by decide +kernel
theorem dM_tamper_32 : decode cM_tamper 32 = .ok (.laload, 1) := by decide +kernel
theorem dM_tamper_33 : decode cM_tamper 33 = .ok (.lload_n 3, 1) := by decide +kernel
theorem dM_tamper_34 : decode cM_tamper 34 = .ok (.lxor, 1) := by decide +kernel
theorem dM_tamper_35 : decode cM_tamper 35 = .ok (.lastore, 1) := by decide +kernel
theorem dM_tamper_36 : decode cM_tamper 36 = .ok (.aload_n 0, 1) := by decide +kernel
theorem dM_tamper_37 : decode cM_tamper 37 = .ok (.getfield 46, 3) := by decide +kernel
theorem dM_tamper_40 : decode cM_tamper 40 = .ok (.bipush 16, 2) := by decide +kernel
theorem dM_tamper_42 : decode cM_tamper 42 = .ok (.iload_n 1, 1) := by decide +kernel
theorem dM_tamper_43 : decode cM_tamper 43 = .ok (.imul, 1) := by decide +kernel
theorem dM_tamper_44 : decode cM_tamper 44 = .ok (.iload_n 2, 1) := by decide +kernel
theorem dM_tamper_45 : decode cM_tamper 45 = .ok (.iadd, 1) := by decide +kernel
theorem dM_tamper_46 : decode cM_tamper 46 = .ok (.laload, 1) := by decide +kernel
theorem dM_tamper_47 : decode cM_tamper 47 = .ok (.lreturn, 1) := by decide +kernel
abbrev yM_noNumber : MethodName := { cls := "BlindMintModel", name := "noNumber", desc := "(II)Z" }
abbrev cM_noNumber : ByteArray := prog_12_method_25_code
theorem dM_noNumber_0 : decode cM_noNumber 0 = .ok (.iload_n 1, 1) := by decide +kernel
theorem dM_noNumber_1 : decode cM_noNumber 1 = .ok (.aload_n 0, 1) := by decide +kernel
theorem dM_noNumber_2 : decode cM_noNumber 2 = .ok (.getfield 171, 3) := by decide +kernel
theorem dM_noNumber_5 : decode cM_noNumber 5 = .ok (.invokestatic 136, 3) := by decide +kernel
theorem dM_noNumber_8 : decode cM_noNumber 8 = .ok (.ifCond .eq 12, 3) := by decide +kernel
theorem dM_noNumber_11 : decode cM_noNumber 11 = .ok (.iload_n 2, 1) := by decide +kernel
theorem dM_noNumber_12 : decode cM_noNumber 12 = .ok (.bipush 16, 2) := by decide +kernel
theorem dM_noNumber_14 : decode cM_noNumber 14 = .ok (.invokestatic 136, 3) := by decide +kernel
theorem dM_noNumber_17 : decode cM_noNumber 17 = .ok (.ifCond .ne 7, 3) := by decide +kernel
theorem dM_noNumber_20 : decode cM_noNumber 20 = .ok (.iconst 1, 1) := by decide +kernel
theorem dM_noNumber_21 : decode cM_noNumber 21 = .ok (.goto 4, 3) := by decide +kernel
theorem dM_noNumber_24 : decode cM_noNumber 24 = .ok (.iconst 0, 1) := by decide +kernel
theorem dM_noNumber_25 : decode cM_noNumber 25 = .ok (.ireturn, 1) := by decide +kernel
abbrev yM_number : MethodName := { cls := "BlindMintModel", name := "number", desc := "(II)J" }
abbrev cM_number : ByteArray := prog_12_method_27_code
theorem dM_number_0 : decode cM_number 0 = .ok (.aload_n 0, 1) := by decide +kernel
theorem dM_number_1 : decode cM_number 1 = .ok (.iconst 0, 1) := by decide +kernel
theorem dM_number_2 : decode cM_number 2 = .ok (.putfield 73, 3) := by decide +kernel
theorem dM_number_5 : decode cM_number 5 = .ok (.aload_n 0, 1) := by decide +kernel
theorem dM_number_6 : decode cM_number 6 = .ok (.iload_n 1, 1) := by decide +kernel
theorem dM_number_7 : decode cM_number 7 = .ok (.iload_n 2, 1) := by decide +kernel
theorem dM_number_8 : decode cM_number 8 = .ok (.invokevirtual 177, 3) := by decide +kernel
theorem dM_number_11 : decode cM_number 11 = .ok (.ifCond .eq 12, 3) := by decide +kernel
theorem dM_number_14 : decode cM_number 14 = .ok (.aload_n 0, 1) := by decide +kernel
theorem dM_number_15 : decode cM_number 15 = .ok (.iconst 1, 1) := by decide +kernel
theorem dM_number_16 : decode cM_number 16 = .ok (.invokevirtual 140, 3) := by decide +kernel
theorem dM_number_19 : decode cM_number 19 = .ok (.i2l, 1) := by decide +kernel
theorem dM_number_20 : decode cM_number 20 = .ok (.goto 14, 3) := by decide +kernel
theorem dM_number_23 : decode cM_number 23 = .ok (.aload_n 0, 1) := by decide +kernel
theorem dM_number_24 : decode cM_number 24 = .ok (.getfield 46, 3) := by decide +kernel
theorem dM_number_27 : decode cM_number 27 = .ok (.bipush 16, 2) := by decide +kernel
theorem dM_number_29 : decode cM_number 29 = .ok (.iload_n 1, 1) := by decide +kernel
theorem dM_number_30 : decode cM_number 30 = .ok (.imul, 1) := by decide +kernel
theorem dM_number_31 : decode cM_number 31 = .ok (.iload_n 2, 1) := by decide +kernel
theorem dM_number_32 : decode cM_number 32 = .ok (.iadd, 1) := by decide +kernel
theorem dM_number_33 : decode cM_number 33 = .ok (.laload, 1) := by decide +kernel
theorem dM_number_34 : decode cM_number 34 = .ok (.lreturn, 1) := by decide +kernel
abbrev yM_good : MethodName := { cls := "BlindMintModel", name := "good", desc := "(I)Z" }
abbrev cM_good : ByteArray := prog_12_method_30_code
theorem dM_good_0 : decode cM_good 0 = .ok (.aload_n 0, 1) := by decide +kernel
theorem dM_good_1 : decode cM_good 1 = .ok (.iconst 0, 1) := by decide +kernel
theorem dM_good_2 : decode cM_good 2 = .ok (.putfield 73, 3) := by decide +kernel
theorem dM_good_5 : decode cM_good 5 = .ok (.aload_n 0, 1) := by decide +kernel
theorem dM_good_6 : decode cM_good 6 = .ok (.iload_n 1, 1) := by decide +kernel
theorem dM_good_7 : decode cM_good 7 = .ok (.invokevirtual 188, 3) := by decide +kernel
theorem dM_good_10 : decode cM_good 10 = .ok (.ireturn, 1) := by decide +kernel
abbrev yM_isGood : MethodName := { cls := "BlindMintModel", name := "isGood", desc := "(I)Z" }
abbrev cM_isGood : ByteArray := prog_12_method_29_code
theorem dM_isGood_0 : decode cM_isGood 0 = .ok (.iload_n 1, 1) := by decide +kernel
theorem dM_isGood_1 : decode cM_isGood 1 = .ok (.aload_n 0, 1) := by decide +kernel
theorem dM_isGood_2 : decode cM_isGood 2 = .ok (.getfield 171, 3) := by decide +kernel
theorem dM_isGood_5 : decode cM_isGood 5 = .ok (.invokestatic 136, 3) := by decide +kernel
theorem dM_isGood_8 : decode cM_isGood 8 = .ok (.ifCond .eq 33, 3) := by decide +kernel
theorem dM_isGood_11 : decode cM_isGood 11 = .ok (.aload_n 0, 1) := by decide +kernel
theorem dM_isGood_12 : decode cM_isGood 12 = .ok (.getfield 46, 3) := by decide +kernel
theorem dM_isGood_15 : decode cM_isGood 15 = .ok (.bipush 16, 2) := by decide +kernel
theorem dM_isGood_17 : decode cM_isGood 17 = .ok (.iload_n 1, 1) := by decide +kernel
theorem dM_isGood_18 : decode cM_isGood 18 = .ok (.imul, 1) := by decide +kernel
theorem dM_isGood_19 : decode cM_isGood 19 = .ok (.laload, 1) := by decide +kernel
theorem dM_isGood_20 : decode cM_isGood 20 = .ok (.lconst 0, 1) := by decide +kernel
theorem dM_isGood_21 : decode cM_isGood 21 = .ok (.lcmp, 1) := by decide +kernel
theorem dM_isGood_22 : decode cM_isGood 22 = .ok (.ifCond .lt 19, 3) := by decide +kernel
theorem dM_isGood_25 : decode cM_isGood 25 = .ok (.aload_n 0, 1) := by decide +kernel
theorem dM_isGood_26 : decode cM_isGood 26 = .ok (.getfield 46, 3) := by decide +kernel
theorem dM_isGood_29 : decode cM_isGood 29 = .ok (.bipush 16, 2) := by decide +kernel
theorem dM_isGood_31 : decode cM_isGood 31 = .ok (.iload_n 1, 1) := by decide +kernel
theorem dM_isGood_32 : decode cM_isGood 32 = .ok (.imul, 1) := by decide +kernel
theorem dM_isGood_33 : decode cM_isGood 33 = .ok (.laload, 1) := by decide +kernel
theorem dM_isGood_34 : decode cM_isGood 34 = .ok (.ldc2_w 108, 3) := by decide +kernel
theorem dM_isGood_37 : decode cM_isGood 37 = .ok (.lcmp, 1) := by decide +kernel
theorem dM_isGood_38 : decode cM_isGood 38 = .ok (.ifCond .le 5, 3) := by decide +kernel
theorem dM_isGood_41 : decode cM_isGood 41 = .ok (.iconst 0, 1) := by decide +kernel
theorem dM_isGood_42 : decode cM_isGood 42 = .ok (.ireturn, 1) := by decide +kernel
theorem dM_isGood_43 : decode cM_isGood 43 = .ok (.aload_n 0, 1) := by decide +kernel
theorem dM_isGood_44 : decode cM_isGood 44 = .ok (.iload_n 1, 1) := by decide +kernel
theorem dM_isGood_45 : decode cM_isGood 45 = .ok (.invokevirtual 180, 3) := by decide +kernel
theorem dM_isGood_48 : decode cM_isGood 48 = .ok (.lstore_n 2, 1) := by decide +kernel
theorem dM_isGood_49 : decode cM_isGood 49 = .ok (.iconst 1, 1) := by decide +kernel
theorem dM_isGood_50 : decode cM_isGood 50 = .ok (.istore 4, 2) := by decide +kernel
theorem dM_isGood_52 : decode cM_isGood 52 = .ok (.iconst 0, 1) := by decide +kernel
theorem dM_isGood_53 : decode cM_isGood 53 = .ok (.istore 5, 2) := by decide +kernel
theorem dM_isGood_55 : decode cM_isGood 55 = .ok (.iload 5, 2) := by decide +kernel
theorem dM_isGood_57 : decode cM_isGood 57 = .ok (.iconst 4, 1) := by decide +kernel
theorem dM_isGood_58 : decode cM_isGood 58 = .ok (.if_icmp .ge 129, 3) := by decide +kernel
theorem dM_isGood_61 : decode cM_isGood 61 = .ok (.bipush 16, 2) := by decide +kernel
theorem dM_isGood_63 : decode cM_isGood 63 = .ok (.iload_n 1, 1) := by decide +kernel
theorem dM_isGood_64 : decode cM_isGood 64 = .ok (.imul, 1) := by decide +kernel
theorem dM_isGood_65 : decode cM_isGood 65 = .ok (.iconst 4, 1) := by decide +kernel
theorem dM_isGood_66 : decode cM_isGood 66 = .ok (.iadd, 1) := by decide +kernel
theorem dM_isGood_67 : decode cM_isGood 67 = .ok (.iconst 3, 1) := by decide +kernel
theorem dM_isGood_68 : decode cM_isGood 68 = .ok (.iload 5, 2) := by decide +kernel
theorem dM_isGood_70 : decode cM_isGood 70 = .ok (.imul, 1) := by decide +kernel
theorem dM_isGood_71 : decode cM_isGood 71 = .ok (.iadd, 1) := by decide +kernel
theorem dM_isGood_72 : decode cM_isGood 72 = .ok (.istore 6, 2) := by decide +kernel
theorem dM_isGood_74 : decode cM_isGood 74 = .ok (.aload_n 0, 1) := by decide +kernel
theorem dM_isGood_75 : decode cM_isGood 75 = .ok (.getfield 46, 3) := by decide +kernel
theorem dM_isGood_78 : decode cM_isGood 78 = .ok (.iload 6, 2) := by decide +kernel
theorem dM_isGood_80 : decode cM_isGood 80 = .ok (.laload, 1) := by decide +kernel
theorem dM_isGood_81 : decode cM_isGood 81 = .ok (.aload_n 0, 1) := by decide +kernel
theorem dM_isGood_82 : decode cM_isGood 82 = .ok (.getfield 46, 3) := by decide +kernel
theorem dM_isGood_85 : decode cM_isGood 85 = .ok (.iload 6, 2) := by decide +kernel
theorem dM_isGood_87 : decode cM_isGood 87 = .ok (.iconst 1, 1) := by decide +kernel
theorem dM_isGood_88 : decode cM_isGood 88 = .ok (.iadd, 1) := by decide +kernel
theorem dM_isGood_89 : decode cM_isGood 89 = .ok (.laload, 1) := by decide +kernel
theorem dM_isGood_90 : decode cM_isGood 90 = .ok (.invokestatic 125, 3) := by decide +kernel
theorem dM_isGood_93 : decode cM_isGood 93 = .ok (.lstore 7, 2) := by decide +kernel
theorem dM_isGood_95 : decode cM_isGood 95 = .ok (.aload_n 0, 1) := by decide +kernel
theorem dM_isGood_96 : decode cM_isGood 96 = .ok (.getfield 70, 3) := by decide +kernel
theorem dM_isGood_99 : decode cM_isGood 99 = .ok (.iload 5, 2) := by decide +kernel
theorem dM_isGood_101 : decode cM_isGood 101 = .ok (.lload_n 2, 1) := by decide +kernel
theorem dM_isGood_102 : decode cM_isGood 102 = .ok (.iload 5, 2) := by decide +kernel
theorem dM_isGood_104 : decode cM_isGood 104 = .ok (.lshr, 1) := by decide +kernel
theorem dM_isGood_105 : decode cM_isGood 105 = .ok (.lconst 1, 1) := by decide +kernel
theorem dM_isGood_106 : decode cM_isGood 106 = .ok (.land, 1) := by decide +kernel
theorem dM_isGood_107 : decode cM_isGood 107 = .ok (.lconst 1, 1) := by decide +kernel
theorem dM_isGood_108 : decode cM_isGood 108 = .ok (.lcmp, 1) := by decide +kernel
theorem dM_isGood_109 : decode cM_isGood 109 = .ok (.ifCond .ne 20, 3) := by decide +kernel
theorem dM_isGood_112 : decode cM_isGood 112 = .ok (.lload 7, 2) := by decide +kernel
theorem dM_isGood_114 : decode cM_isGood 114 = .ok (.aload_n 0, 1) := by decide +kernel
theorem dM_isGood_115 : decode cM_isGood 115 = .ok (.getfield 46, 3) := by decide +kernel
theorem dM_isGood_118 : decode cM_isGood 118 = .ok (.iload 6, 2) := by decide +kernel
theorem dM_isGood_120 : decode cM_isGood 120 = .ok (.iconst 2, 1) := by decide +kernel
theorem dM_isGood_121 : decode cM_isGood 121 = .ok (.iadd, 1) := by decide +kernel
theorem dM_isGood_122 : decode cM_isGood 122 = .ok (.laload, 1) := by decide +kernel
theorem dM_isGood_123 : decode cM_isGood 123 = .ok (.invokestatic 125, 3) := by decide +kernel
theorem dM_isGood_126 : decode cM_isGood 126 = .ok (.goto 17, 3) := by decide +kernel
theorem dM_isGood_129 : decode cM_isGood 129 = .ok (.aload_n 0, 1) := by decide +kernel
theorem dM_isGood_130 : decode cM_isGood 130 = .ok (.getfield 46, 3) := by decide +kernel
theorem dM_isGood_133 : decode cM_isGood 133 = .ok (.iload 6, 2) := by decide +kernel
theorem dM_isGood_135 : decode cM_isGood 135 = .ok (.iconst 2, 1) := by decide +kernel
theorem dM_isGood_136 : decode cM_isGood 136 = .ok (.iadd, 1) := by decide +kernel
theorem dM_isGood_137 : decode cM_isGood 137 = .ok (.laload, 1) := by decide +kernel
theorem dM_isGood_138 : decode cM_isGood 138 = .ok (.lload 7, 2) := by decide +kernel
theorem dM_isGood_140 : decode cM_isGood 140 = .ok (.invokestatic 125, 3) := by decide +kernel
theorem dM_isGood_143 : decode cM_isGood 143 = .ok (.lastore, 1) := by decide +kernel
theorem dM_isGood_144 : decode cM_isGood 144 = .ok (.iload 4, 2) := by decide +kernel
theorem dM_isGood_146 : decode cM_isGood 146 = .ok (.ifCond .eq 32, 3) := by decide +kernel
theorem dM_isGood_149 : decode cM_isGood 149 = .ok (.iload 5, 2) := by decide +kernel
theorem dM_isGood_151 : decode cM_isGood 151 = .ok (.ifCond .eq 23, 3) := by decide +kernel
theorem dM_isGood_154 : decode cM_isGood 154 = .ok (.aload_n 0, 1) := by decide +kernel
theorem dM_isGood_155 : decode cM_isGood 155 = .ok (.getfield 70, 3) := by decide +kernel
theorem dM_isGood_158 : decode cM_isGood 158 = .ok (.iload 5, 2) := by decide +kernel
theorem dM_isGood_160 : decode cM_isGood 160 = .ok (.laload, 1) := by decide +kernel
theorem dM_isGood_161 : decode cM_isGood 161 = .ok (.aload_n 0, 1) := by decide +kernel
theorem dM_isGood_162 : decode cM_isGood 162 = .ok (.getfield 70, 3) := by decide +kernel
theorem dM_isGood_165 : decode cM_isGood 165 = .ok (.iload 5, 2) := by decide +kernel
theorem dM_isGood_167 : decode cM_isGood 167 = .ok (.iconst 1, 1) := by decide +kernel
theorem dM_isGood_168 : decode cM_isGood 168 = .ok (.isub, 1) := by decide +kernel
theorem dM_isGood_169 : decode cM_isGood 169 = .ok (.laload, 1) := by decide +kernel
theorem dM_isGood_170 : decode cM_isGood 170 = .ok (.lcmp, 1) := by decide +kernel
theorem dM_isGood_171 : decode cM_isGood 171 = .ok (.ifCond .lt 7, 3) := by decide +kernel
theorem dM_isGood_174 : decode cM_isGood 174 = .ok (.iconst 1, 1) := by decide +kernel
theorem dM_isGood_175 : decode cM_isGood 175 = .ok (.goto 4, 3) := by decide +kernel
theorem dM_isGood_178 : decode cM_isGood 178 = .ok (.iconst 0, 1) := by decide +kernel
theorem dM_isGood_179 : decode cM_isGood 179 = .ok (.istore 4, 2) := by decide +kernel
theorem dM_isGood_181 : decode cM_isGood 181 = .ok (.iinc 5 1, 3) := by decide +kernel
theorem dM_isGood_184 : decode cM_isGood 184 = .ok (.goto (-129), 3) := by decide +kernel
theorem dM_isGood_187 : decode cM_isGood 187 = .ok (.iload 4, 2) := by decide +kernel
theorem dM_isGood_189 : decode cM_isGood 189 = .ok (.ifCond .eq 47, 3) := by decide +kernel
theorem dM_isGood_192 : decode cM_isGood 192 = .ok (.aload_n 0, 1) := by decide +kernel
theorem dM_isGood_193 : decode cM_isGood 193 = .ok (.getfield 46, 3) := by decide +kernel
theorem dM_isGood_196 : decode cM_isGood 196 = .ok (.bipush 16, 2) := by decide +kernel
theorem dM_isGood_198 : decode cM_isGood 198 = .ok (.iload_n 1, 1) := by decide +kernel
theorem dM_isGood_199 : decode cM_isGood 199 = .ok (.imul, 1) := by decide +kernel
theorem dM_isGood_200 : decode cM_isGood 200 = .ok (.iconst 1, 1) := by decide +kernel
theorem dM_isGood_201 : decode cM_isGood 201 = .ok (.iadd, 1) := by decide +kernel
theorem dM_isGood_202 : decode cM_isGood 202 = .ok (.laload, 1) := by decide +kernel
theorem dM_isGood_203 : decode cM_isGood 203 = .ok (.aload_n 0, 1) := by decide +kernel
theorem dM_isGood_204 : decode cM_isGood 204 = .ok (.aload_n 0, 1) := by decide +kernel
theorem dM_isGood_205 : decode cM_isGood 205 = .ok (.getfield 46, 3) := by decide +kernel
theorem dM_isGood_208 : decode cM_isGood 208 = .ok (.bipush 16, 2) := by decide +kernel
theorem dM_isGood_210 : decode cM_isGood 210 = .ok (.iload_n 1, 1) := by decide +kernel
theorem dM_isGood_211 : decode cM_isGood 211 = .ok (.imul, 1) := by decide +kernel
theorem dM_isGood_212 : decode cM_isGood 212 = .ok (.laload, 1) := by decide +kernel
theorem dM_isGood_213 : decode cM_isGood 213 = .ok (.invokevirtual 158, 3) := by decide +kernel
theorem dM_isGood_216 : decode cM_isGood 216 = .ok (.aload_n 0, 1) := by decide +kernel
theorem dM_isGood_217 : decode cM_isGood 217 = .ok (.getfield 46, 3) := by decide +kernel
theorem dM_isGood_220 : decode cM_isGood 220 = .ok (.bipush 16, 2) := by decide +kernel
theorem dM_isGood_222 : decode cM_isGood 222 = .ok (.iload_n 1, 1) := by decide +kernel
theorem dM_isGood_223 : decode cM_isGood 223 = .ok (.imul, 1) := by decide +kernel
theorem dM_isGood_224 : decode cM_isGood 224 = .ok (.laload, 1) := by decide +kernel
theorem dM_isGood_225 : decode cM_isGood 225 = .ok (.l2i, 1) := by decide +kernel
theorem dM_isGood_226 : decode cM_isGood 226 = .ok (.invokestatic 184, 3) := by decide +kernel
theorem dM_isGood_229 : decode cM_isGood 229 = .ok (.ifCond .eq 7, 3) := by decide +kernel
theorem dM_isGood_232 : decode cM_isGood 232 = .ok (.iconst 1, 1) := by decide +kernel
theorem dM_isGood_233 : decode cM_isGood 233 = .ok (.goto 4, 3) := by decide +kernel
theorem dM_isGood_236 : decode cM_isGood 236 = .ok (.iconst 0, 1) := by decide +kernel
theorem dM_isGood_237 : decode cM_isGood 237 = .ok (.ireturn, 1) := by decide +kernel
abbrev yM_choiceOf : MethodName := { cls := "BlindMintModel", name := "choiceOf", desc := "(I)J" }
abbrev cM_choiceOf : ByteArray := prog_12_method_28_code
theorem dM_choiceOf_0 : decode cM_choiceOf 0 = .ok (.aload_n 0, 1) := by decide +kernel
theorem dM_choiceOf_1 : decode cM_choiceOf 1 = .ok (.getfield 46, 3) := by decide +kernel
theorem dM_choiceOf_4 : decode cM_choiceOf 4 = .ok (.bipush 16, 2) := by decide +kernel
theorem dM_choiceOf_6 : decode cM_choiceOf 6 = .ok (.iload_n 1, 1) := by decide +kernel
theorem dM_choiceOf_7 : decode cM_choiceOf 7 = .ok (.imul, 1) := by decide +kernel
theorem dM_choiceOf_8 : decode cM_choiceOf 8 = .ok (.iconst 2, 1) := by decide +kernel
theorem dM_choiceOf_9 : decode cM_choiceOf 9 = .ok (.iadd, 1) := by decide +kernel
theorem dM_choiceOf_10 : decode cM_choiceOf 10 = .ok (.laload, 1) := by decide +kernel
theorem dM_choiceOf_11 : decode cM_choiceOf 11 = .ok (.aload_n 0, 1) := by decide +kernel
theorem dM_choiceOf_12 : decode cM_choiceOf 12 = .ok (.getfield 46, 3) := by decide +kernel
theorem dM_choiceOf_15 : decode cM_choiceOf 15 = .ok (.bipush 16, 2) := by decide +kernel
theorem dM_choiceOf_17 : decode cM_choiceOf 17 = .ok (.iload_n 1, 1) := by decide +kernel
theorem dM_choiceOf_18 : decode cM_choiceOf 18 = .ok (.imul, 1) := by decide +kernel
theorem dM_choiceOf_19 : decode cM_choiceOf 19 = .ok (.iconst 3, 1) := by decide +kernel
theorem dM_choiceOf_20 : decode cM_choiceOf 20 = .ok (.iadd, 1) := by decide +kernel
theorem dM_choiceOf_21 : decode cM_choiceOf 21 = .ok (.laload, 1) := by decide +kernel
theorem dM_choiceOf_22 : decode cM_choiceOf 22 = .ok (.aload_n 0, 1) := by decide +kernel
theorem dM_choiceOf_23 : decode cM_choiceOf 23 = .ok (.getfield 46, 3) := by decide +kernel
theorem dM_choiceOf_26 : decode cM_choiceOf 26 = .ok (.bipush 16, 2) := by decide +kernel
theorem dM_choiceOf_28 : decode cM_choiceOf 28 = .ok (.iload_n 1, 1) := by decide +kernel
theorem dM_choiceOf_29 : decode cM_choiceOf 29 = .ok (.imul, 1) := by decide +kernel
theorem dM_choiceOf_30 : decode cM_choiceOf 30 = .ok (.iconst 1, 1) := by decide +kernel
theorem dM_choiceOf_31 : decode cM_choiceOf 31 = .ok (.iadd, 1) := by decide +kernel
theorem dM_choiceOf_32 : decode cM_choiceOf 32 = .ok (.laload, 1) := by decide +kernel
theorem dM_choiceOf_33 : decode cM_choiceOf 33 = .ok (.invokestatic 174, 3) := by decide +kernel
theorem dM_choiceOf_36 : decode cM_choiceOf 36 = .ok (.lreturn, 1) := by decide +kernel
abbrev yM_isSignature : MethodName := { cls := "BlindMintModel", name := "isSignature", desc := "(JJI)Z" }
abbrev cM_isSignature : ByteArray := prog_12_method_16_code
theorem dM_isSignature_0 : decode cM_isSignature 0 = .ok (.iload 4, 2) := by decide +kernel
theorem dM_isSignature_2 : decode cM_isSignature 2 = .ok (.iconst 0, 1) := by decide +kernel
theorem dM_isSignature_3 : decode cM_isSignature 3 = .ok (.invokestatic 104, 3) := by decide +kernel
theorem dM_isSignature_6 : decode cM_isSignature 6 = .ok (.lstore 5, 2) := by decide +kernel
theorem dM_isSignature_8 : decode cM_isSignature 8 = .ok (.iload 4, 2) := by decide +kernel
theorem dM_isSignature_10 : decode cM_isSignature 10 = .ok (.iconst 1, 1) := by decide +kernel
theorem dM_isSignature_11 : decode cM_isSignature 11 = .ok (.invokestatic 104, 3) := by decide +kernel
theorem dM_isSignature_14 : decode cM_isSignature 14 = .ok (.lstore 7, 2) := by decide +kernel
theorem dM_isSignature_16 : decode cM_isSignature 16 = .ok (.lload_n 0, 1) := by decide +kernel
theorem dM_isSignature_17 : decode cM_isSignature 17 = .ok (.lconst 0, 1) := by decide +kernel
theorem dM_isSignature_18 : decode cM_isSignature 18 = .ok (.lcmp, 1) := by decide +kernel
theorem dM_isSignature_19 : decode cM_isSignature 19 = .ok (.ifCond .lt 51, 3) := by decide +kernel
theorem dM_isSignature_22 : decode cM_isSignature 22 = .ok (.lload_n 0, 1) := by decide +kernel
theorem dM_isSignature_23 : decode cM_isSignature 23 = .ok (.lload 5, 2) := by decide +kernel
theorem dM_isSignature_25 : decode cM_isSignature 25 = .ok (.lload 7, 2) := by decide +kernel
theorem dM_isSignature_27 : decode cM_isSignature 27 = .ok (.lmul, 1) := by decide +kernel
theorem dM_isSignature_28 : decode cM_isSignature 28 = .ok (.lcmp, 1) := by decide +kernel
theorem dM_isSignature_29 : decode cM_isSignature 29 = .ok (.ifCond .ge 41, 3) := by decide +kernel
theorem dM_isSignature_32 : decode cM_isSignature 32 = .ok (.lload_n 0, 1) := by decide +kernel
theorem dM_isSignature_33 : decode cM_isSignature 33 = .ok (.ldc2_w 114, 3) := by decide +kernel
theorem dM_isSignature_36 : decode cM_isSignature 36 = .ok (.lload 5, 2) := by decide +kernel
theorem dM_isSignature_38 : decode cM_isSignature 38 = .ok (.invokestatic 110, 3) := by decide +kernel
theorem dM_isSignature_41 : decode cM_isSignature 41 = .ok (.lload_n 2, 1) := by decide +kernel
theorem dM_isSignature_42 : decode cM_isSignature 42 = .ok (.lload 5, 2) := by decide +kernel
theorem dM_isSignature_44 : decode cM_isSignature 44 = .ok (.lrem, 1) := by decide +kernel
theorem dM_isSignature_45 : decode cM_isSignature 45 = .ok (.lcmp, 1) := by decide +kernel
theorem dM_isSignature_46 : decode cM_isSignature 46 = .ok (.ifCond .ne 24, 3) := by decide +kernel
theorem dM_isSignature_49 : decode cM_isSignature 49 = .ok (.lload_n 0, 1) := by decide +kernel
theorem dM_isSignature_50 : decode cM_isSignature 50 = .ok (.ldc2_w 114, 3) := by decide +kernel
theorem dM_isSignature_53 : decode cM_isSignature 53 = .ok (.lload 7, 2) := by decide +kernel
theorem dM_isSignature_55 : decode cM_isSignature 55 = .ok (.invokestatic 110, 3) := by decide +kernel
theorem dM_isSignature_58 : decode cM_isSignature 58 = .ok (.lload_n 2, 1) := by decide +kernel
theorem dM_isSignature_59 : decode cM_isSignature 59 = .ok (.lload 7, 2) := by decide +kernel
theorem dM_isSignature_61 : decode cM_isSignature 61 = .ok (.lrem, 1) := by decide +kernel
theorem dM_isSignature_62 : decode cM_isSignature 62 = .ok (.lcmp, 1) := by decide +kernel
theorem dM_isSignature_63 : decode cM_isSignature 63 = .ok (.ifCond .ne 7, 3) := by decide +kernel
theorem dM_isSignature_66 : decode cM_isSignature 66 = .ok (.iconst 1, 1) := by decide +kernel
theorem dM_isSignature_67 : decode cM_isSignature 67 = .ok (.goto 4, 3) := by decide +kernel
theorem dM_isSignature_70 : decode cM_isSignature 70 = .ok (.iconst 0, 1) := by decide +kernel
theorem dM_isSignature_71 : decode cM_isSignature 71 = .ok (.ireturn, 1) := by decide +kernel
abbrev yM_deposit : MethodName := { cls := "BlindMintModel", name := "deposit", desc := "(II)I" }
abbrev cM_deposit : ByteArray := prog_12_method_33_code
theorem dM_deposit_0 : decode cM_deposit 0 = .ok (.aload_n 0, 1) := by decide +kernel
theorem dM_deposit_1 : decode cM_deposit 1 = .ok (.iconst 0, 1) := by decide +kernel
theorem dM_deposit_2 : decode cM_deposit 2 = .ok (.putfield 73, 3) := by decide +kernel
theorem dM_deposit_5 : decode cM_deposit 5 = .ok (.iload_n 2, 1) := by decide +kernel
theorem dM_deposit_6 : decode cM_deposit 6 = .ok (.iconst 4, 1) := by decide +kernel
theorem dM_deposit_7 : decode cM_deposit 7 = .ok (.invokestatic 136, 3) := by decide +kernel
theorem dM_deposit_10 : decode cM_deposit 10 = .ok (.ifCond .eq 11, 3) := by decide +kernel
theorem dM_deposit_13 : decode cM_deposit 13 = .ok (.aload_n 0, 1) := by decide +kernel
theorem dM_deposit_14 : decode cM_deposit 14 = .ok (.iload_n 1, 1) := by decide +kernel
theorem dM_deposit_15 : decode cM_deposit 15 = .ok (.invokevirtual 188, 3) := by decide +kernel
theorem dM_deposit_18 : decode cM_deposit 18 = .ok (.ifCond .ne 9, 3) := by decide +kernel
theorem dM_deposit_21 : decode cM_deposit 21 = .ok (.aload_n 0, 1) := by decide +kernel
theorem dM_deposit_22 : decode cM_deposit 22 = .ok (.iconst 1, 1) := by decide +kernel
theorem dM_deposit_23 : decode cM_deposit 23 = .ok (.invokevirtual 140, 3) := by decide +kernel
theorem dM_deposit_26 : decode cM_deposit 26 = .ok (.ireturn, 1) := by decide +kernel
theorem dM_deposit_27 : decode cM_deposit 27 = .ok (.aload_n 0, 1) := by decide +kernel
theorem dM_deposit_28 : decode cM_deposit 28 = .ok (.aload_n 0, 1) := by decide +kernel
theorem dM_deposit_29 : decode cM_deposit 29 = .ok (.getfield 46, 3) := by decide +kernel
theorem dM_deposit_32 : decode cM_deposit 32 = .ok (.bipush 16, 2) := by decide +kernel
theorem dM_deposit_34 : decode cM_deposit 34 = .ok (.iload_n 1, 1) := by decide +kernel
theorem dM_deposit_35 : decode cM_deposit 35 = .ok (.imul, 1) := by decide +kernel
theorem dM_deposit_36 : decode cM_deposit 36 = .ok (.laload, 1) := by decide +kernel
theorem dM_deposit_37 : decode cM_deposit 37 = .ok (.invokevirtual 199, 3) := by decide +kernel
theorem dM_deposit_40 : decode cM_deposit 40 = .ok (.istore_n 3, 1) := by decide +kernel
theorem dM_deposit_41 : decode cM_deposit 41 = .ok (.iload_n 3, 1) := by decide +kernel
theorem dM_deposit_42 : decode cM_deposit 42 = .ok (.ifCond .lt 25, 3) := by decide +kernel
theorem dM_deposit_45 : decode cM_deposit 45 = .ok (.aload_n 0, 1) := by decide +kernel
theorem dM_deposit_46 : decode cM_deposit 46 = .ok (.iload_n 1, 1) := by decide +kernel
theorem dM_deposit_47 : decode cM_deposit 47 = .ok (.iload_n 3, 1) := by decide +kernel
theorem dM_deposit_48 : decode cM_deposit 48 = .ok (.invokevirtual 203, 3) := by decide +kernel
theorem dM_deposit_51 : decode cM_deposit 51 = .ok (.aload_n 0, 1) := by decide +kernel
theorem dM_deposit_52 : decode cM_deposit 52 = .ok (.getfield 13, 3) := by decide +kernel
theorem dM_deposit_55 : decode cM_deposit 55 = .ok (.iconst 3, 1) := by decide +kernel
theorem dM_deposit_56 : decode cM_deposit 56 = .ok (.dup2, 1) := by decide +kernel
theorem dM_deposit_57 : decode cM_deposit 57 = .ok (.iaload, 1) := by decide +kernel
theorem dM_deposit_58 : decode cM_deposit 58 = .ok (.iconst 1, 1) := by decide +kernel
theorem dM_deposit_59 : decode cM_deposit 59 = .ok (.iadd, 1) := by decide +kernel
theorem dM_deposit_60 : decode cM_deposit 60 = .ok (.iastore, 1) := by decide +kernel
theorem dM_deposit_61 : decode cM_deposit 61 = .ok (.aload_n 0, 1) := by decide +kernel
theorem dM_deposit_62 : decode cM_deposit 62 = .ok (.iconst 2, 1) := by decide +kernel
theorem dM_deposit_63 : decode cM_deposit 63 = .ok (.invokevirtual 140, 3) := by decide +kernel
theorem dM_deposit_66 : decode cM_deposit 66 = .ok (.ireturn, 1) := by decide +kernel
theorem dM_deposit_67 : decode cM_deposit 67 = .ok (.bipush 10, 2) := by decide +kernel
theorem dM_deposit_69 : decode cM_deposit 69 = .ok (.aload_n 0, 1) := by decide +kernel
theorem dM_deposit_70 : decode cM_deposit 70 = .ok (.getfield 192, 3) := by decide +kernel
theorem dM_deposit_73 : decode cM_deposit 73 = .ok (.imul, 1) := by decide +kernel
theorem dM_deposit_74 : decode cM_deposit 74 = .ok (.istore 4, 2) := by decide +kernel
theorem dM_deposit_76 : decode cM_deposit 76 = .ok (.aload_n 0, 1) := by decide +kernel
theorem dM_deposit_77 : decode cM_deposit 77 = .ok (.getfield 49, 3) := by decide +kernel
theorem dM_deposit_80 : decode cM_deposit 80 = .ok (.iload 4, 2) := by decide +kernel
theorem dM_deposit_82 : decode cM_deposit 82 = .ok (.aload_n 0, 1) := by decide +kernel
theorem dM_deposit_83 : decode cM_deposit 83 = .ok (.getfield 46, 3) := by decide +kernel
theorem dM_deposit_86 : decode cM_deposit 86 = .ok (.bipush 16, 2) := by decide +kernel
theorem dM_deposit_88 : decode cM_deposit 88 = .ok (.iload_n 1, 1) := by decide +kernel
theorem dM_deposit_89 : decode cM_deposit 89 = .ok (.imul, 1) := by decide +kernel
theorem dM_deposit_90 : decode cM_deposit 90 = .ok (.laload, 1) := by decide +kernel
theorem dM_deposit_91 : decode cM_deposit 91 = .ok (.lastore, 1) := by decide +kernel
theorem dM_deposit_92 : decode cM_deposit 92 = .ok (.aload_n 0, 1) := by decide +kernel
theorem dM_deposit_93 : decode cM_deposit 93 = .ok (.getfield 49, 3) := by decide +kernel
theorem dM_deposit_96 : decode cM_deposit 96 = .ok (.iload 4, 2) := by decide +kernel
theorem dM_deposit_98 : decode cM_deposit 98 = .ok (.iconst 5, 1) := by decide +kernel
theorem dM_deposit_99 : decode cM_deposit 99 = .ok (.iadd, 1) := by decide +kernel
theorem dM_deposit_100 : decode cM_deposit 100 = .ok (.aload_n 0, 1) := by decide +kernel
theorem dM_deposit_101 : decode cM_deposit 101 = .ok (.iload_n 1, 1) := by decide +kernel
theorem dM_deposit_102 : decode cM_deposit 102 = .ok (.invokevirtual 180, 3) := by decide +kernel
theorem dM_deposit_105 : decode cM_deposit 105 = .ok (.lastore, 1) := by decide +kernel
theorem dM_deposit_106 : decode cM_deposit 106 = .ok (.iconst 0, 1) := by decide +kernel
theorem dM_deposit_107 : decode cM_deposit 107 = .ok (.istore 5, 2) := by decide +kernel
theorem dM_deposit_109 : decode cM_deposit 109 = .ok (.iload 5, 2) := by decide +kernel
theorem dM_deposit_111 : decode cM_deposit 111 = .ok (.iconst 4, 1) := by decide +kernel
theorem dM_deposit_112 : decode cM_deposit 112 = .ok (.if_icmp .ge 57, 3) := by decide +kernel
theorem dM_deposit_115 : decode cM_deposit 115 = .ok (.aload_n 0, 1) := by decide +kernel
theorem dM_deposit_116 : decode cM_deposit 116 = .ok (.getfield 49, 3) := by decide +kernel
theorem dM_deposit_119 : decode cM_deposit 119 = .ok (.iload 4, 2) := by decide +kernel
theorem dM_deposit_121 : decode cM_deposit 121 = .ok (.iconst 1, 1) := by decide +kernel
theorem dM_deposit_122 : decode cM_deposit 122 = .ok (.iadd, 1) := by decide +kernel
theorem dM_deposit_123 : decode cM_deposit 123 = .ok (.iload 5, 2) := by decide +kernel
theorem dM_deposit_125 : decode cM_deposit 125 = .ok (.iadd, 1) := by decide +kernel
theorem dM_deposit_126 : decode cM_deposit 126 = .ok (.aload_n 0, 1) := by decide +kernel
theorem dM_deposit_127 : decode cM_deposit 127 = .ok (.getfield 70, 3) := by decide +kernel
theorem dM_deposit_130 : decode cM_deposit 130 = .ok (.iload 5, 2) := by decide +kernel
theorem dM_deposit_132 : decode cM_deposit 132 = .ok (.laload, 1) := by decide +kernel
theorem dM_deposit_133 : decode cM_deposit 133 = .ok (.lastore, 1) := by decide +kernel
theorem dM_deposit_134 : decode cM_deposit 134 = .ok (.aload_n 0, 1) := by decide +kernel
theorem dM_deposit_135 : decode cM_deposit 135 = .ok (.getfield 49, 3) := by decide +kernel
theorem dM_deposit_138 : decode cM_deposit 138 = .ok (.iload 4, 2) := by decide +kernel
theorem dM_deposit_140 : decode cM_deposit 140 = .ok (.bipush 6, 2) := by decide +kernel
theorem dM_deposit_142 : decode cM_deposit 142 = .ok (.iadd, 1) := by decide +kernel
theorem dM_deposit_143 : decode cM_deposit 143 = .ok (.iload 5, 2) := by decide +kernel
theorem dM_deposit_145 : decode cM_deposit 145 = .ok (.iadd, 1) := by decide +kernel
theorem dM_deposit_146 : decode cM_deposit 146 = .ok (.aload_n 0, 1) := by decide +kernel
theorem dM_deposit_147 : decode cM_deposit 147 = .ok (.getfield 46, 3) := by decide +kernel
theorem dM_deposit_150 : decode cM_deposit 150 = .ok (.bipush 16, 2) := by decide +kernel
theorem dM_deposit_152 : decode cM_deposit 152 = .ok (.iload_n 1, 1) := by decide +kernel
theorem dM_deposit_153 : decode cM_deposit 153 = .ok (.imul, 1) := by decide +kernel
theorem dM_deposit_154 : decode cM_deposit 154 = .ok (.iconst 4, 1) := by decide +kernel
theorem dM_deposit_155 : decode cM_deposit 155 = .ok (.iadd, 1) := by decide +kernel
theorem dM_deposit_156 : decode cM_deposit 156 = .ok (.iconst 3, 1) := by decide +kernel
theorem dM_deposit_157 : decode cM_deposit 157 = .ok (.iload 5, 2) := by decide +kernel
theorem dM_deposit_159 : decode cM_deposit 159 = .ok (.imul, 1) := by decide +kernel
theorem dM_deposit_160 : decode cM_deposit 160 = .ok (.iadd, 1) := by decide +kernel
theorem dM_deposit_161 : decode cM_deposit 161 = .ok (.laload, 1) := by decide +kernel
theorem dM_deposit_162 : decode cM_deposit 162 = .ok (.lastore, 1) := by decide +kernel
theorem dM_deposit_163 : decode cM_deposit 163 = .ok (.iinc 5 1, 3) := by decide +kernel
theorem dM_deposit_166 : decode cM_deposit 166 = .ok (.goto (-57), 3) := by decide +kernel
theorem dM_deposit_169 : decode cM_deposit 169 = .ok (.aload_n 0, 1) := by decide +kernel
theorem dM_deposit_170 : decode cM_deposit 170 = .ok (.dup, 1) := by decide +kernel
theorem dM_deposit_171 : decode cM_deposit 171 = .ok (.getfield 192, 3) := by decide +kernel
theorem dM_deposit_174 : decode cM_deposit 174 = .ok (.iconst 1, 1) := by decide +kernel
theorem dM_deposit_175 : decode cM_deposit 175 = .ok (.iadd, 1) := by decide +kernel
theorem dM_deposit_176 : decode cM_deposit 176 = .ok (.putfield 192, 3) := by decide +kernel
theorem dM_deposit_179 : decode cM_deposit 179 = .ok (.aload_n 0, 1) := by decide +kernel
theorem dM_deposit_180 : decode cM_deposit 180 = .ok (.getfield 46, 3) := by decide +kernel
theorem dM_deposit_183 : decode cM_deposit 183 = .ok (.bipush 16, 2) := by decide +kernel
theorem dM_deposit_185 : decode cM_deposit 185 = .ok (.iload_n 1, 1) := by decide +kernel
theorem dM_deposit_186 : decode cM_deposit 186 = .ok (.imul, 1) := by decide +kernel
theorem dM_deposit_187 : decode cM_deposit 187 = .ok (.laload, 1) := by decide +kernel
theorem dM_deposit_188 : decode cM_deposit 188 = .ok (.l2i, 1) := by decide +kernel
theorem dM_deposit_189 : decode cM_deposit 189 = .ok (.invokestatic 144, 3) := by decide +kernel
theorem dM_deposit_192 : decode cM_deposit 192 = .ok (.istore 5, 2) := by decide +kernel
theorem dM_deposit_194 : decode cM_deposit 194 = .ok (.aload_n 0, 1) := by decide +kernel
theorem dM_deposit_195 : decode cM_deposit 195 = .ok (.getfield 7, 3) := by decide +kernel
theorem dM_deposit_198 : decode cM_deposit 198 = .ok (.iload_n 2, 1) := by decide +kernel
theorem dM_deposit_199 : decode cM_deposit 199 = .ok (.dup2, 1) := by decide +kernel
theorem dM_deposit_200 : decode cM_deposit 200 = .ok (.iaload, 1) := by decide +kernel
theorem dM_deposit_201 : decode cM_deposit 201 = .ok (.iload 5, 2) := by decide +kernel
theorem dM_deposit_203 : decode cM_deposit 203 = .ok (.iadd, 1) := by decide +kernel
theorem dM_deposit_204 : decode cM_deposit 204 = .ok (.iastore, 1) := by decide +kernel
theorem dM_deposit_205 : decode cM_deposit 205 = .ok (.aload_n 0, 1) := by decide +kernel
theorem dM_deposit_206 : decode cM_deposit 206 = .ok (.getfield 13, 3) := by decide +kernel
theorem dM_deposit_209 : decode cM_deposit 209 = .ok (.iconst 1, 1) := by decide +kernel
theorem dM_deposit_210 : decode cM_deposit 210 = .ok (.dup2, 1) := by decide +kernel
theorem dM_deposit_211 : decode cM_deposit 211 = .ok (.iaload, 1) := by decide +kernel
theorem dM_deposit_212 : decode cM_deposit 212 = .ok (.iconst 1, 1) := by decide +kernel
theorem dM_deposit_213 : decode cM_deposit 213 = .ok (.iadd, 1) := by decide +kernel
theorem dM_deposit_214 : decode cM_deposit 214 = .ok (.iastore, 1) := by decide +kernel
theorem dM_deposit_215 : decode cM_deposit 215 = .ok (.iload 5, 2) := by decide +kernel
theorem dM_deposit_217 : decode cM_deposit 217 = .ok (.ireturn, 1) := by decide +kernel
abbrev yM_noted : MethodName := { cls := "BlindMintModel", name := "noted", desc := "(J)I" }
abbrev cM_noted : ByteArray := prog_12_method_31_code
theorem dM_noted_0 : decode cM_noted 0 = .ok (.iconst 0, 1) := by decide +kernel
theorem dM_noted_1 : decode cM_noted 1 = .ok (.istore_n 3, 1) := by decide +kernel
theorem dM_noted_2 : decode cM_noted 2 = .ok (.iload_n 3, 1) := by decide +kernel
theorem dM_noted_3 : decode cM_noted 3 = .ok (.aload_n 0, 1) := by decide +kernel
theorem dM_noted_4 : decode cM_noted 4 = .ok (.getfield 192, 3) := by decide +kernel
theorem dM_noted_7 : decode cM_noted 7 = .ok (.if_icmp .ge 89, 3) := by decide +kernel
theorem dM_noted_10 : decode cM_noted 10 = .ok (.aload_n 0, 1) := by decide +kernel
theorem dM_noted_11 : decode cM_noted 11 = .ok (.getfield 49, 3) := by decide +kernel
theorem dM_noted_14 : decode cM_noted 14 = .ok (.bipush 10, 2) := by decide +kernel
theorem dM_noted_16 : decode cM_noted 16 = .ok (.iload_n 3, 1) := by decide +kernel
theorem dM_noted_17 : decode cM_noted 17 = .ok (.imul, 1) := by decide +kernel
theorem dM_noted_18 : decode cM_noted 18 = .ok (.laload, 1) := by decide +kernel
theorem dM_noted_19 : decode cM_noted 19 = .ok (.lload_n 1, 1) := by decide +kernel
theorem dM_noted_20 : decode cM_noted 20 = .ok (.lcmp, 1) := by decide +kernel
theorem dM_noted_21 : decode cM_noted 21 = .ok (.ifCond .ne 7, 3) := by decide +kernel
theorem dM_noted_24 : decode cM_noted 24 = .ok (.iconst 1, 1) := by decide +kernel
theorem dM_noted_25 : decode cM_noted 25 = .ok (.goto 4, 3) := by decide +kernel
theorem dM_noted_28 : decode cM_noted 28 = .ok (.iconst 0, 1) := by decide +kernel
theorem dM_noted_29 : decode cM_noted 29 = .ok (.istore 4, 2) := by decide +kernel
theorem dM_noted_31 : decode cM_noted 31 = .ok (.iconst 0, 1) := by decide +kernel
theorem dM_noted_32 : decode cM_noted 32 = .ok (.istore 5, 2) := by decide +kernel
theorem dM_noted_34 : decode cM_noted 34 = .ok (.iload 5, 2) := by decide +kernel
theorem dM_noted_36 : decode cM_noted 36 = .ok (.iconst 4, 1) := by decide +kernel
theorem dM_noted_37 : decode cM_noted 37 = .ok (.if_icmp .ge 46, 3) := by decide +kernel
theorem dM_noted_40 : decode cM_noted 40 = .ok (.iload 4, 2) := by decide +kernel
theorem dM_noted_42 : decode cM_noted 42 = .ok (.ifCond .eq 32, 3) := by decide +kernel
theorem dM_noted_45 : decode cM_noted 45 = .ok (.aload_n 0, 1) := by decide +kernel
theorem dM_noted_46 : decode cM_noted 46 = .ok (.getfield 49, 3) := by decide +kernel
theorem dM_noted_49 : decode cM_noted 49 = .ok (.bipush 10, 2) := by decide +kernel
theorem dM_noted_51 : decode cM_noted 51 = .ok (.iload_n 3, 1) := by decide +kernel
theorem dM_noted_52 : decode cM_noted 52 = .ok (.imul, 1) := by decide +kernel
theorem dM_noted_53 : decode cM_noted 53 = .ok (.iconst 1, 1) := by decide +kernel
theorem dM_noted_54 : decode cM_noted 54 = .ok (.iadd, 1) := by decide +kernel
theorem dM_noted_55 : decode cM_noted 55 = .ok (.iload 5, 2) := by decide +kernel
theorem dM_noted_57 : decode cM_noted 57 = .ok (.iadd, 1) := by decide +kernel
theorem dM_noted_58 : decode cM_noted 58 = .ok (.laload, 1) := by decide +kernel
theorem dM_noted_59 : decode cM_noted 59 = .ok (.aload_n 0, 1) := by decide +kernel
theorem dM_noted_60 : decode cM_noted 60 = .ok (.getfield 70, 3) := by decide +kernel
theorem dM_noted_63 : decode cM_noted 63 = .ok (.iload 5, 2) := by decide +kernel
theorem dM_noted_65 : decode cM_noted 65 = .ok (.laload, 1) := by decide +kernel
theorem dM_noted_66 : decode cM_noted 66 = .ok (.lcmp, 1) := by decide +kernel
theorem dM_noted_67 : decode cM_noted 67 = .ok (.ifCond .ne 7, 3) := by decide +kernel
theorem dM_noted_70 : decode cM_noted 70 = .ok (.iconst 1, 1) := by decide +kernel
theorem dM_noted_71 : decode cM_noted 71 = .ok (.goto 4, 3) := by decide +kernel
theorem dM_noted_74 : decode cM_noted 74 = .ok (.iconst 0, 1) := by decide +kernel
theorem dM_noted_75 : decode cM_noted 75 = .ok (.istore 4, 2) := by decide +kernel
theorem dM_noted_77 : decode cM_noted 77 = .ok (.iinc 5 1, 3) := by decide +kernel
theorem dM_noted_80 : decode cM_noted 80 = .ok (.goto (-46), 3) := by decide +kernel
theorem dM_noted_83 : decode cM_noted 83 = .ok (.iload 4, 2) := by decide +kernel
theorem dM_noted_85 : decode cM_noted 85 = .ok (.ifCond .eq 5, 3) := by decide +kernel
theorem dM_noted_88 : decode cM_noted 88 = .ok (.iload_n 3, 1) := by decide +kernel
theorem dM_noted_89 : decode cM_noted 89 = .ok (.ireturn, 1) := by decide +kernel
theorem dM_noted_90 : decode cM_noted 90 = .ok (.iinc 3 1, 3) := by decide +kernel
theorem dM_noted_93 : decode cM_noted 93 = .ok (.goto (-91), 3) := by decide +kernel
theorem dM_noted_96 : decode cM_noted 96 = .ok (.iconst (-1), 1) := by decide +kernel
theorem dM_noted_97 : decode cM_noted 97 = .ok (.ireturn, 1) := by decide +kernel
abbrev yM_trace : MethodName := { cls := "BlindMintModel", name := "trace", desc := "(II)V" }
abbrev cM_trace : ByteArray := prog_12_method_32_code
theorem dM_trace_0 : decode cM_trace 0 = .ok (.aload_n 0, 1) := by decide +kernel
theorem dM_trace_1 : decode cM_trace 1 = .ok (.iload_n 1, 1) := by decide +kernel
theorem dM_trace_2 : decode cM_trace 2 = .ok (.invokevirtual 180, 3) := by decide +kernel
theorem dM_trace_5 : decode cM_trace 5 = .ok (.aload_n 0, 1) := by decide +kernel
theorem dM_trace_6 : decode cM_trace 6 = .ok (.getfield 49, 3) := by decide +kernel
theorem dM_trace_9 : decode cM_trace 9 = .ok (.bipush 10, 2) := by decide +kernel
theorem dM_trace_11 : decode cM_trace 11 = .ok (.iload_n 2, 1) := by decide +kernel
theorem dM_trace_12 : decode cM_trace 12 = .ok (.imul, 1) := by decide +kernel
theorem dM_trace_13 : decode cM_trace 13 = .ok (.iconst 5, 1) := by decide +kernel
theorem dM_trace_14 : decode cM_trace 14 = .ok (.iadd, 1) := by decide +kernel
theorem dM_trace_15 : decode cM_trace 15 = .ok (.laload, 1) := by decide +kernel
theorem dM_trace_16 : decode cM_trace 16 = .ok (.lxor, 1) := by decide +kernel
theorem dM_trace_17 : decode cM_trace 17 = .ok (.ldc2_w 195, 3) := by decide +kernel
theorem dM_trace_20 : decode cM_trace 20 = .ok (.land, 1) := by decide +kernel
theorem dM_trace_21 : decode cM_trace 21 = .ok (.lstore_n 3, 1) := by decide +kernel
theorem dM_trace_22 : decode cM_trace 22 = .ok (.aload_n 0, 1) := by decide +kernel
theorem dM_trace_23 : decode cM_trace 23 = .ok (.iconst (-1), 1) := by decide +kernel
theorem dM_trace_24 : decode cM_trace 24 = .ok (.putfield 16, 3) := by decide +kernel
theorem dM_trace_27 : decode cM_trace 27 = .ok (.iconst 3, 1) := by decide +kernel
theorem dM_trace_28 : decode cM_trace 28 = .ok (.istore 5, 2) := by decide +kernel
theorem dM_trace_30 : decode cM_trace 30 = .ok (.iload 5, 2) := by decide +kernel
theorem dM_trace_32 : decode cM_trace 32 = .ok (.ifCond .lt 87, 3) := by decide +kernel
theorem dM_trace_35 : decode cM_trace 35 = .ok (.lload_n 3, 1) := by decide +kernel
theorem dM_trace_36 : decode cM_trace 36 = .ok (.iload 5, 2) := by decide +kernel
theorem dM_trace_38 : decode cM_trace 38 = .ok (.lshr, 1) := by decide +kernel
theorem dM_trace_39 : decode cM_trace 39 = .ok (.lconst 1, 1) := by decide +kernel
theorem dM_trace_40 : decode cM_trace 40 = .ok (.land, 1) := by decide +kernel
theorem dM_trace_41 : decode cM_trace 41 = .ok (.lconst 1, 1) := by decide +kernel
theorem dM_trace_42 : decode cM_trace 42 = .ok (.lcmp, 1) := by decide +kernel
theorem dM_trace_43 : decode cM_trace 43 = .ok (.ifCond .ne 70, 3) := by decide +kernel
theorem dM_trace_46 : decode cM_trace 46 = .ok (.aload_n 0, 1) := by decide +kernel
theorem dM_trace_47 : decode cM_trace 47 = .ok (.getfield 46, 3) := by decide +kernel
theorem dM_trace_50 : decode cM_trace 50 = .ok (.bipush 16, 2) := by decide +kernel
theorem dM_trace_52 : decode cM_trace 52 = .ok (.iload_n 1, 1) := by decide +kernel
theorem dM_trace_53 : decode cM_trace 53 = .ok (.imul, 1) := by decide +kernel
theorem dM_trace_54 : decode cM_trace 54 = .ok (.iconst 4, 1) := by decide +kernel
theorem dM_trace_55 : decode cM_trace 55 = .ok (.iadd, 1) := by decide +kernel
theorem dM_trace_56 : decode cM_trace 56 = .ok (.iconst 3, 1) := by decide +kernel
theorem dM_trace_57 : decode cM_trace 57 = .ok (.iload 5, 2) := by decide +kernel
theorem dM_trace_59 : decode cM_trace 59 = .ok (.imul, 1) := by decide +kernel
theorem dM_trace_60 : decode cM_trace 60 = .ok (.iadd, 1) := by decide +kernel
theorem dM_trace_61 : decode cM_trace 61 = .ok (.laload, 1) := by decide +kernel
theorem dM_trace_62 : decode cM_trace 62 = .ok (.aload_n 0, 1) := by decide +kernel
theorem dM_trace_63 : decode cM_trace 63 = .ok (.getfield 49, 3) := by decide +kernel
theorem dM_trace_66 : decode cM_trace 66 = .ok (.bipush 10, 2) := by decide +kernel
theorem dM_trace_68 : decode cM_trace 68 = .ok (.iload_n 2, 1) := by decide +kernel
theorem dM_trace_69 : decode cM_trace 69 = .ok (.imul, 1) := by decide +kernel
theorem dM_trace_70 : decode cM_trace 70 = .ok (.bipush 6, 2) := by decide +kernel
theorem dM_trace_72 : decode cM_trace 72 = .ok (.iadd, 1) := by decide +kernel
theorem dM_trace_73 : decode cM_trace 73 = .ok (.iload 5, 2) := by decide +kernel
theorem dM_trace_75 : decode cM_trace 75 = .ok (.iadd, 1) := by decide +kernel
theorem dM_trace_76 : decode cM_trace 76 = .ok (.laload, 1) := by decide +kernel
theorem dM_trace_77 : decode cM_trace 77 = .ok (.lxor, 1) := by decide +kernel
theorem dM_trace_78 : decode cM_trace 78 = .ok (.lstore 6, 2) := by decide +kernel
theorem dM_trace_80 : decode cM_trace 80 = .ok (.aload_n 0, 1) := by decide +kernel
theorem dM_trace_81 : decode cM_trace 81 = .ok (.lload 6, 2) := by decide +kernel
theorem dM_trace_83 : decode cM_trace 83 = .ok (.ldc2_w 130, 3) := by decide +kernel
theorem dM_trace_86 : decode cM_trace 86 = .ok (.lcmp, 1) := by decide +kernel
theorem dM_trace_87 : decode cM_trace 87 = .ok (.ifCond .lt 22, 3) := by decide +kernel
theorem dM_trace_90 : decode cM_trace 90 = .ok (.lload 6, 2) := by decide +kernel
theorem dM_trace_92 : decode cM_trace 92 = .ok (.ldc2_w 197, 3) := by decide +kernel
theorem dM_trace_95 : decode cM_trace 95 = .ok (.lcmp, 1) := by decide +kernel
theorem dM_trace_96 : decode cM_trace 96 = .ok (.ifCond .gt 13, 3) := by decide +kernel
theorem dM_trace_99 : decode cM_trace 99 = .ok (.lload 6, 2) := by decide +kernel
theorem dM_trace_101 : decode cM_trace 101 = .ok (.l2i, 1) := by decide +kernel
theorem dM_trace_102 : decode cM_trace 102 = .ok (.sipush 1000, 3) := by decide +kernel
theorem dM_trace_105 : decode cM_trace 105 = .ok (.isub, 1) := by decide +kernel
theorem dM_trace_106 : decode cM_trace 106 = .ok (.goto 4, 3) := by decide +kernel
theorem dM_trace_109 : decode cM_trace 109 = .ok (.iconst (-1), 1) := by decide +kernel
theorem dM_trace_110 : decode cM_trace 110 = .ok (.putfield 16, 3) := by decide +kernel
theorem dM_trace_113 : decode cM_trace 113 = .ok (.iinc 5 (-1), 3) := by decide +kernel
theorem dM_trace_116 : decode cM_trace 116 = .ok (.goto (-86), 3) := by decide +kernel
theorem dM_trace_119 : decode cM_trace 119 = .ok (.return_, 1) := by decide +kernel
abbrev yM_traced : MethodName := { cls := "BlindMintModel", name := "traced", desc := "()I" }
abbrev cM_traced : ByteArray := prog_12_method_34_code
theorem dM_traced_0 : decode cM_traced 0 = .ok (.aload_n 0, 1) := by decide +kernel
theorem dM_traced_1 : decode cM_traced 1 = .ok (.iconst 0, 1) := by decide +kernel
theorem dM_traced_2 : decode cM_traced 2 = .ok (.putfield 73, 3) := by decide +kernel
theorem dM_traced_5 : decode cM_traced 5 = .ok (.aload_n 0, 1) := by decide +kernel
theorem dM_traced_6 : decode cM_traced 6 = .ok (.getfield 16, 3) := by decide +kernel
theorem dM_traced_9 : decode cM_traced 9 = .ok (.ireturn, 1) := by decide +kernel
abbrev yM_balance : MethodName := { cls := "BlindMintModel", name := "balance", desc := "(I)I" }
abbrev cM_balance : ByteArray := prog_12_method_35_code
theorem dM_balance_0 : decode cM_balance 0 = .ok (.aload_n 0, 1) := by decide +kernel
theorem dM_balance_1 : decode cM_balance 1 = .ok (.iconst 0, 1) := by decide +kernel
theorem dM_balance_2 : decode cM_balance 2 = .ok (.putfield 73, 3) := by decide +kernel
theorem dM_balance_5 : decode cM_balance 5 = .ok (.iload_n 1, 1) := by decide +kernel
theorem dM_balance_6 : decode cM_balance 6 = .ok (.iconst 4, 1) := by decide +kernel
theorem dM_balance_7 : decode cM_balance 7 = .ok (.invokestatic 136, 3) := by decide +kernel
theorem dM_balance_10 : decode cM_balance 10 = .ok (.ifCond .eq 12, 3) := by decide +kernel
theorem dM_balance_13 : decode cM_balance 13 = .ok (.aload_n 0, 1) := by decide +kernel
theorem dM_balance_14 : decode cM_balance 14 = .ok (.getfield 7, 3) := by decide +kernel
theorem dM_balance_17 : decode cM_balance 17 = .ok (.iload_n 1, 1) := by decide +kernel
theorem dM_balance_18 : decode cM_balance 18 = .ok (.iaload, 1) := by decide +kernel
theorem dM_balance_19 : decode cM_balance 19 = .ok (.goto 8, 3) := by decide +kernel
theorem dM_balance_22 : decode cM_balance 22 = .ok (.aload_n 0, 1) := by decide +kernel
theorem dM_balance_23 : decode cM_balance 23 = .ok (.iconst 1, 1) := by decide +kernel
theorem dM_balance_24 : decode cM_balance 24 = .ok (.invokevirtual 140, 3) := by decide +kernel
theorem dM_balance_27 : decode cM_balance 27 = .ok (.ireturn, 1) := by decide +kernel
abbrev yM_coins : MethodName := { cls := "BlindMintModel", name := "coins", desc := "(I)I" }
abbrev cM_coins : ByteArray := prog_12_method_36_code
theorem dM_coins_0 : decode cM_coins 0 = .ok (.aload_n 0, 1) := by decide +kernel
theorem dM_coins_1 : decode cM_coins 1 = .ok (.iconst 0, 1) := by decide +kernel
theorem dM_coins_2 : decode cM_coins 2 = .ok (.putfield 73, 3) := by decide +kernel
theorem dM_coins_5 : decode cM_coins 5 = .ok (.iload_n 1, 1) := by decide +kernel
theorem dM_coins_6 : decode cM_coins 6 = .ok (.iconst 4, 1) := by decide +kernel
theorem dM_coins_7 : decode cM_coins 7 = .ok (.invokestatic 136, 3) := by decide +kernel
theorem dM_coins_10 : decode cM_coins 10 = .ok (.ifCond .eq 12, 3) := by decide +kernel
theorem dM_coins_13 : decode cM_coins 13 = .ok (.aload_n 0, 1) := by decide +kernel
theorem dM_coins_14 : decode cM_coins 14 = .ok (.getfield 26, 3) := by decide +kernel
theorem dM_coins_17 : decode cM_coins 17 = .ok (.iload_n 1, 1) := by decide +kernel
theorem dM_coins_18 : decode cM_coins 18 = .ok (.iaload, 1) := by decide +kernel
theorem dM_coins_19 : decode cM_coins 19 = .ok (.goto 4, 3) := by decide +kernel
theorem dM_coins_22 : decode cM_coins 22 = .ok (.iconst (-1), 1) := by decide +kernel
theorem dM_coins_23 : decode cM_coins 23 = .ok (.ireturn, 1) := by decide +kernel
abbrev yM_coin : MethodName := { cls := "BlindMintModel", name := "coin", desc := "(II)J" }
abbrev cM_coin : ByteArray := prog_12_method_37_code
theorem dM_coin_0 : decode cM_coin 0 = .ok (.aload_n 0, 1) := by decide +kernel
theorem dM_coin_1 : decode cM_coin 1 = .ok (.iconst 0, 1) := by decide +kernel
theorem dM_coin_2 : decode cM_coin 2 = .ok (.putfield 73, 3) := by decide +kernel
theorem dM_coin_5 : decode cM_coin 5 = .ok (.aload_n 0, 1) := by decide +kernel
theorem dM_coin_6 : decode cM_coin 6 = .ok (.iload_n 1, 1) := by decide +kernel
theorem dM_coin_7 : decode cM_coin 7 = .ok (.iload_n 2, 1) := by decide +kernel
theorem dM_coin_8 : decode cM_coin 8 = .ok (.invokevirtual 168, 3) := by decide +kernel
theorem dM_coin_11 : decode cM_coin 11 = .ok (.ifCond .eq 12, 3) := by decide +kernel
theorem dM_coin_14 : decode cM_coin 14 = .ok (.aload_n 0, 1) := by decide +kernel
theorem dM_coin_15 : decode cM_coin 15 = .ok (.iconst 1, 1) := by decide +kernel
theorem dM_coin_16 : decode cM_coin 16 = .ok (.invokevirtual 140, 3) := by decide +kernel
theorem dM_coin_19 : decode cM_coin 19 = .ok (.i2l, 1) := by decide +kernel
theorem dM_coin_20 : decode cM_coin 20 = .ok (.goto 14, 3) := by decide +kernel
theorem dM_coin_23 : decode cM_coin 23 = .ok (.aload_n 0, 1) := by decide +kernel
theorem dM_coin_24 : decode cM_coin 24 = .ok (.getfield 32, 3) := by decide +kernel
theorem dM_coin_27 : decode cM_coin 27 = .ok (.bipush 8, 2) := by decide +kernel
theorem dM_coin_29 : decode cM_coin 29 = .ok (.iload_n 1, 1) := by decide +kernel
theorem dM_coin_30 : decode cM_coin 30 = .ok (.imul, 1) := by decide +kernel
theorem dM_coin_31 : decode cM_coin 31 = .ok (.iload_n 2, 1) := by decide +kernel
theorem dM_coin_32 : decode cM_coin 32 = .ok (.iadd, 1) := by decide +kernel
theorem dM_coin_33 : decode cM_coin 33 = .ok (.laload, 1) := by decide +kernel
theorem dM_coin_34 : decode cM_coin 34 = .ok (.lreturn, 1) := by decide +kernel
abbrev yM_signature : MethodName := { cls := "BlindMintModel", name := "signature", desc := "(II)J" }
abbrev cM_signature : ByteArray := prog_12_method_38_code
theorem dM_signature_0 : decode cM_signature 0 = .ok (.aload_n 0, 1) := by decide +kernel
theorem dM_signature_1 : decode cM_signature 1 = .ok (.iconst 0, 1) := by decide +kernel
theorem dM_signature_2 : decode cM_signature 2 = .ok (.putfield 73, 3) := by decide +kernel
theorem dM_signature_5 : decode cM_signature 5 = .ok (.aload_n 0, 1) := by decide +kernel
theorem dM_signature_6 : decode cM_signature 6 = .ok (.iload_n 1, 1) := by decide +kernel
theorem dM_signature_7 : decode cM_signature 7 = .ok (.iload_n 2, 1) := by decide +kernel
theorem dM_signature_8 : decode cM_signature 8 = .ok (.invokevirtual 168, 3) := by decide +kernel
theorem dM_signature_11 : decode cM_signature 11 = .ok (.ifCond .eq 12, 3) := by decide +kernel
theorem dM_signature_14 : decode cM_signature 14 = .ok (.aload_n 0, 1) := by decide +kernel
theorem dM_signature_15 : decode cM_signature 15 = .ok (.iconst 1, 1) := by decide +kernel
theorem dM_signature_16 : decode cM_signature 16 = .ok (.invokevirtual 140, 3) := by decide +kernel
theorem dM_signature_19 : decode cM_signature 19 = .ok (.i2l, 1) := by decide +kernel
theorem dM_signature_20 : decode cM_signature 20 = .ok (.goto 14, 3) := by decide +kernel
theorem dM_signature_23 : decode cM_signature 23 = .ok (.aload_n 0, 1) := by decide +kernel
theorem dM_signature_24 : decode cM_signature 24 = .ok (.getfield 36, 3) := by decide +kernel
theorem dM_signature_27 : decode cM_signature 27 = .ok (.bipush 8, 2) := by decide +kernel
theorem dM_signature_29 : decode cM_signature 29 = .ok (.iload_n 1, 1) := by decide +kernel
theorem dM_signature_30 : decode cM_signature 30 = .ok (.imul, 1) := by decide +kernel
theorem dM_signature_31 : decode cM_signature 31 = .ok (.iload_n 2, 1) := by decide +kernel
theorem dM_signature_32 : decode cM_signature 32 = .ok (.iadd, 1) := by decide +kernel
theorem dM_signature_33 : decode cM_signature 33 = .ok (.laload, 1) := by decide +kernel
theorem dM_signature_34 : decode cM_signature 34 = .ok (.lreturn, 1) := by decide +kernel
abbrev yM_blinded : MethodName := { cls := "BlindMintModel", name := "blinded", desc := "()J" }
abbrev cM_blinded : ByteArray := prog_12_method_39_code
theorem dM_blinded_0 : decode cM_blinded 0 = .ok (.aload_n 0, 1) := by decide +kernel
theorem dM_blinded_1 : decode cM_blinded 1 = .ok (.iconst 0, 1) := by decide +kernel
theorem dM_blinded_2 : decode cM_blinded 2 = .ok (.putfield 73, 3) := by decide +kernel
theorem dM_blinded_5 : decode cM_blinded 5 = .ok (.aload_n 0, 1) := by decide +kernel
theorem dM_blinded_6 : decode cM_blinded 6 = .ok (.getfield 22, 3) := by decide +kernel
theorem dM_blinded_9 : decode cM_blinded 9 = .ok (.lreturn, 1) := by decide +kernel
abbrev yM_count : MethodName := { cls := "BlindMintModel", name := "count", desc := "(I)I" }
abbrev cM_count : ByteArray := prog_12_method_40_code
theorem dM_count_0 : decode cM_count 0 = .ok (.aload_n 0, 1) := by decide +kernel
theorem dM_count_1 : decode cM_count 1 = .ok (.iconst 0, 1) := by decide +kernel
theorem dM_count_2 : decode cM_count 2 = .ok (.putfield 73, 3) := by decide +kernel
theorem dM_count_5 : decode cM_count 5 = .ok (.iload_n 1, 1) := by decide +kernel
theorem dM_count_6 : decode cM_count 6 = .ok (.iconst 4, 1) := by decide +kernel
theorem dM_count_7 : decode cM_count 7 = .ok (.invokestatic 136, 3) := by decide +kernel
theorem dM_count_10 : decode cM_count 10 = .ok (.ifCond .eq 12, 3) := by decide +kernel
theorem dM_count_13 : decode cM_count 13 = .ok (.aload_n 0, 1) := by decide +kernel
theorem dM_count_14 : decode cM_count 14 = .ok (.getfield 13, 3) := by decide +kernel
theorem dM_count_17 : decode cM_count 17 = .ok (.iload_n 1, 1) := by decide +kernel
theorem dM_count_18 : decode cM_count 18 = .ok (.iaload, 1) := by decide +kernel
theorem dM_count_19 : decode cM_count 19 = .ok (.goto 4, 3) := by decide +kernel
theorem dM_count_22 : decode cM_count 22 = .ok (.iconst (-1), 1) := by decide +kernel
theorem dM_count_23 : decode cM_count 23 = .ok (.ireturn, 1) := by decide +kernel
