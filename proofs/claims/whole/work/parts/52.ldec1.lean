theorem d_law_0 : decode code 0 = .ok (.new 8, 3) := by decide +kernel
theorem d_law_3 : decode code 3 = .ok (.dup, 1) := by decide +kernel
theorem d_law_4 : decode code 4 = .ok (.invokespecial 41, 3) := by decide +kernel
theorem d_law_7 : decode code 7 = .ok (.astore_n 1, 1) := by decide +kernel
theorem d_law_8 : decode code 8 = .ok (.new 42, 3) := by decide +kernel
theorem d_law_11 : decode code 11 = .ok (.dup, 1) := by decide +kernel
theorem d_law_12 : decode code 12 = .ok (.invokespecial 44, 3) := by decide +kernel
theorem d_law_15 : decode code 15 = .ok (.astore_n 2, 1) := by decide +kernel
theorem d_law_16 : decode code 16 = .ok (.iconst 1, 1) := by decide +kernel
theorem d_law_17 : decode code 17 = .ok (.newarray .long, 2) := by decide +kernel
theorem d_law_19 : decode code 19 = .ok (.astore_n 3, 1) := by decide +kernel
theorem d_law_20 : decode code 20 = .ok (.iconst 0, 1) := by decide +kernel
theorem d_law_21 : decode code 21 = .ok (.istore 4, 2) := by decide +kernel
theorem d_law_23 : decode code 23 = .ok (.iload 4, 2) := by decide +kernel
theorem d_law_25 : decode code 25 = .ok (.aload_n 0, 1) := by decide +kernel
theorem d_law_26 : decode code 26 = .ok (.arraylength, 1) := by decide +kernel
theorem d_law_27 : decode code 27 = .ok (.iconst 3, 1) := by decide +kernel
theorem d_law_28 : decode code 28 = .ok (.isub, 1) := by decide +kernel
theorem d_law_29 : decode code 29 = .ok (.if_icmp .gt 568, 3) := by decide +kernel
theorem d_law_32 : decode code 32 = .ok (.aload_n 0, 1) := by decide +kernel
theorem d_law_33 : decode code 33 = .ok (.iload 4, 2) := by decide +kernel
theorem d_law_35 : decode code 35 = .ok (.iaload, 1) := by decide +kernel
theorem d_law_36 : decode code 36 = .ok (.bipush 15, 2) := by decide +kernel
theorem d_law_38 : decode code 38 = .ok (.iand, 1) := by decide +kernel
theorem d_law_39 : decode code 39 = .ok (.tableswitch 552 0 8 #[49, 97, 153, 166, 222, 297, 353, 428, 496], 49) := by decide +kernel
theorem d_law_88 : decode code 88 = .ok (.aload_n 1, 1) := by decide +kernel
theorem d_law_89 : decode code 89 = .ok (.aload_n 0, 1) := by decide +kernel
theorem d_law_90 : decode code 90 = .ok (.iload 4, 2) := by decide +kernel
theorem d_law_92 : decode code 92 = .ok (.iconst 1, 1) := by decide +kernel
theorem d_law_93 : decode code 93 = .ok (.iadd, 1) := by decide +kernel
theorem d_law_94 : decode code 94 = .ok (.iaload, 1) := by decide +kernel
theorem d_law_95 : decode code 95 = .ok (.aload_n 0, 1) := by decide +kernel
theorem d_law_96 : decode code 96 = .ok (.iload 4, 2) := by decide +kernel
theorem d_law_98 : decode code 98 = .ok (.iconst 2, 1) := by decide +kernel
theorem d_law_99 : decode code 99 = .ok (.iadd, 1) := by decide +kernel
theorem d_law_100 : decode code 100 = .ok (.iaload, 1) := by decide +kernel
theorem d_law_101 : decode code 101 = .ok (.invokestatic 45, 3) := by decide +kernel
theorem d_law_104 : decode code 104 = .ok (.istore 5, 2) := by decide +kernel
theorem d_law_106 : decode code 106 = .ok (.aload_n 2, 1) := by decide +kernel
theorem d_law_107 : decode code 107 = .ok (.aload_n 0, 1) := by decide +kernel
theorem d_law_108 : decode code 108 = .ok (.iload 4, 2) := by decide +kernel
theorem d_law_110 : decode code 110 = .ok (.iconst 1, 1) := by decide +kernel
theorem d_law_111 : decode code 111 = .ok (.iadd, 1) := by decide +kernel
theorem d_law_112 : decode code 112 = .ok (.iaload, 1) := by decide +kernel
theorem d_law_113 : decode code 113 = .ok (.aload_n 0, 1) := by decide +kernel
theorem d_law_114 : decode code 114 = .ok (.iload 4, 2) := by decide +kernel
theorem d_law_116 : decode code 116 = .ok (.iconst 2, 1) := by decide +kernel
theorem d_law_117 : decode code 117 = .ok (.iadd, 1) := by decide +kernel
theorem d_law_118 : decode code 118 = .ok (.iaload, 1) := by decide +kernel
theorem d_law_119 : decode code 119 = .ok (.invokevirtual 50, 3) := by decide +kernel
theorem d_law_122 : decode code 122 = .ok (.aload_n 2, 1) := by decide +kernel
theorem d_law_123 : decode code 123 = .ok (.invokevirtual 51, 3) := by decide +kernel
theorem d_law_126 : decode code 126 = .ok (.iload 5, 2) := by decide +kernel
theorem d_law_128 : decode code 128 = .ok (.if_icmp .eq 5, 3) := by decide +kernel
theorem d_law_131 : decode code 131 = .ok (.iconst 0, 1) := by decide +kernel
theorem d_law_132 : decode code 132 = .ok (.ireturn, 1) := by decide +kernel
theorem d_law_133 : decode code 133 = .ok (.goto 458, 3) := by decide +kernel
theorem d_law_136 : decode code 136 = .ok (.aload_n 1, 1) := by decide +kernel
theorem d_law_137 : decode code 137 = .ok (.aload_n 0, 1) := by decide +kernel
theorem d_law_138 : decode code 138 = .ok (.iload 4, 2) := by decide +kernel
theorem d_law_140 : decode code 140 = .ok (.iconst 1, 1) := by decide +kernel
theorem d_law_141 : decode code 141 = .ok (.iadd, 1) := by decide +kernel
theorem d_law_142 : decode code 142 = .ok (.iaload, 1) := by decide +kernel
theorem d_law_143 : decode code 143 = .ok (.aload_n 3, 1) := by decide +kernel
theorem d_law_144 : decode code 144 = .ok (.invokestatic 55, 3) := by decide +kernel
theorem d_law_147 : decode code 147 = .ok (.istore 5, 2) := by decide +kernel
theorem d_law_149 : decode code 149 = .ok (.aload_n 2, 1) := by decide +kernel
theorem d_law_150 : decode code 150 = .ok (.aload_n 0, 1) := by decide +kernel
theorem d_law_151 : decode code 151 = .ok (.iload 4, 2) := by decide +kernel
theorem d_law_153 : decode code 153 = .ok (.iconst 1, 1) := by decide +kernel
theorem d_law_154 : decode code 154 = .ok (.iadd, 1) := by decide +kernel
theorem d_law_155 : decode code 155 = .ok (.iaload, 1) := by decide +kernel
theorem d_law_156 : decode code 156 = .ok (.invokevirtual 58, 3) := by decide +kernel
theorem d_law_159 : decode code 159 = .ok (.istore 6, 2) := by decide +kernel
theorem d_law_161 : decode code 161 = .ok (.aload_n 2, 1) := by decide +kernel
theorem d_law_162 : decode code 162 = .ok (.invokevirtual 51, 3) := by decide +kernel
theorem d_law_165 : decode code 165 = .ok (.iload 5, 2) := by decide +kernel
theorem d_law_167 : decode code 167 = .ok (.if_icmp .eq 5, 3) := by decide +kernel
theorem d_law_170 : decode code 170 = .ok (.iconst 0, 1) := by decide +kernel
theorem d_law_171 : decode code 171 = .ok (.ireturn, 1) := by decide +kernel
theorem d_law_172 : decode code 172 = .ok (.iload 5, 2) := by decide +kernel
theorem d_law_174 : decode code 174 = .ok (.ifCond .ne 15, 3) := by decide +kernel
theorem d_law_177 : decode code 177 = .ok (.aload_n 3, 1) := by decide +kernel
theorem d_law_178 : decode code 178 = .ok (.iconst 0, 1) := by decide +kernel
theorem d_law_179 : decode code 179 = .ok (.laload, 1) := by decide +kernel
theorem d_law_180 : decode code 180 = .ok (.iload 6, 2) := by decide +kernel
theorem d_law_182 : decode code 182 = .ok (.i2l, 1) := by decide +kernel
theorem d_law_183 : decode code 183 = .ok (.lcmp, 1) := by decide +kernel
theorem d_law_184 : decode code 184 = .ok (.ifCond .eq 5, 3) := by decide +kernel
theorem d_law_187 : decode code 187 = .ok (.iconst 0, 1) := by decide +kernel
theorem d_law_188 : decode code 188 = .ok (.ireturn, 1) := by decide +kernel
theorem d_law_189 : decode code 189 = .ok (.goto 402, 3) := by decide +kernel
theorem d_law_192 : decode code 192 = .ok (.aload_n 1, 1) := by decide +kernel
theorem d_law_193 : decode code 193 = .ok (.invokevirtual 59, 3) := by decide +kernel
theorem d_law_196 : decode code 196 = .ok (.aload_n 2, 1) := by decide +kernel
theorem d_law_197 : decode code 197 = .ok (.invokevirtual 62, 3) := by decide +kernel
theorem d_law_200 : decode code 200 = .ok (.if_icmp .eq 391, 3) := by decide +kernel
theorem d_law_203 : decode code 203 = .ok (.iconst 0, 1) := by decide +kernel
theorem d_law_204 : decode code 204 = .ok (.ireturn, 1) := by decide +kernel
theorem d_law_205 : decode code 205 = .ok (.aload_n 1, 1) := by decide +kernel
theorem d_law_206 : decode code 206 = .ok (.aload_n 0, 1) := by decide +kernel
theorem d_law_207 : decode code 207 = .ok (.iload 4, 2) := by decide +kernel
theorem d_law_209 : decode code 209 = .ok (.iconst 1, 1) := by decide +kernel
