theorem dX6_init_0 : Dk kX6_init 0 (.aload_n 0) 1 1 := ⟨by decide +kernel, rfl⟩
theorem dX6_init_1 : Dk kX6_init 1 (.invokespecial 1) 3 4 := ⟨by decide +kernel, rfl⟩
theorem dX6_init_4 : Dk kX6_init 4 (.aload_n 0) 1 5 := ⟨by decide +kernel, rfl⟩
theorem dX6_init_5 : Dk kX6_init 5 (.bipush 6) 2 7 := ⟨by decide +kernel, rfl⟩
theorem dX6_init_7 : Dk kX6_init 7 (.newarray .int) 2 9 := ⟨by decide +kernel, rfl⟩
theorem dX6_init_9 : Dk kX6_init 9 (.putfield 7) 3 12 := ⟨by decide +kernel, rfl⟩
theorem dX6_init_12 : Dk kX6_init 12 (.aload_n 0) 1 13 := ⟨by decide +kernel, rfl⟩
theorem dX6_init_13 : Dk kX6_init 13 (.bipush 6) 2 15 := ⟨by decide +kernel, rfl⟩
theorem dX6_init_15 : Dk kX6_init 15 (.newarray .int) 2 17 := ⟨by decide +kernel, rfl⟩
theorem dX6_init_17 : Dk kX6_init 17 (.putfield 13) 3 20 := ⟨by decide +kernel, rfl⟩
theorem dX6_init_20 : Dk kX6_init 20 (.aload_n 0) 1 21 := ⟨by decide +kernel, rfl⟩
theorem dX6_init_21 : Dk kX6_init 21 (.bipush 18) 2 23 := ⟨by decide +kernel, rfl⟩
theorem dX6_init_23 : Dk kX6_init 23 (.newarray .int) 2 25 := ⟨by decide +kernel, rfl⟩
theorem dX6_init_25 : Dk kX6_init 25 (.putfield 16) 3 28 := ⟨by decide +kernel, rfl⟩
theorem dX6_init_28 : Dk kX6_init 28 (.aload_n 0) 1 29 := ⟨by decide +kernel, rfl⟩
theorem dX6_init_29 : Dk kX6_init 29 (.bipush 24) 2 31 := ⟨by decide +kernel, rfl⟩
theorem dX6_init_31 : Dk kX6_init 31 (.newarray .int) 2 33 := ⟨by decide +kernel, rfl⟩
theorem dX6_init_33 : Dk kX6_init 33 (.dup) 1 34 := ⟨by decide +kernel, rfl⟩
theorem dX6_init_34 : Dk kX6_init 34 (.iconst 0) 1 35 := ⟨by decide +kernel, rfl⟩
theorem dX6_init_35 : Dk kX6_init 35 (.bipush 10) 2 37 := ⟨by decide +kernel, rfl⟩
theorem dX6_init_37 : Dk kX6_init 37 (.iastore) 1 38 := ⟨by decide +kernel, rfl⟩
theorem dX6_init_38 : Dk kX6_init 38 (.dup) 1 39 := ⟨by decide +kernel, rfl⟩
theorem dX6_init_39 : Dk kX6_init 39 (.iconst 1) 1 40 := ⟨by decide +kernel, rfl⟩
theorem dX6_init_40 : Dk kX6_init 40 (.iconst (-1)) 1 41 := ⟨by decide +kernel, rfl⟩
theorem dX6_init_41 : Dk kX6_init 41 (.iastore) 1 42 := ⟨by decide +kernel, rfl⟩
theorem dX6_init_42 : Dk kX6_init 42 (.dup) 1 43 := ⟨by decide +kernel, rfl⟩
theorem dX6_init_43 : Dk kX6_init 43 (.iconst 2) 1 44 := ⟨by decide +kernel, rfl⟩
theorem dX6_init_44 : Dk kX6_init 44 (.iconst (-1)) 1 45 := ⟨by decide +kernel, rfl⟩
theorem dX6_init_45 : Dk kX6_init 45 (.iastore) 1 46 := ⟨by decide +kernel, rfl⟩
theorem dX6_init_46 : Dk kX6_init 46 (.dup) 1 47 := ⟨by decide +kernel, rfl⟩
theorem dX6_init_47 : Dk kX6_init 47 (.iconst 3) 1 48 := ⟨by decide +kernel, rfl⟩
theorem dX6_init_48 : Dk kX6_init 48 (.bipush 10) 2 50 := ⟨by decide +kernel, rfl⟩
theorem dX6_init_50 : Dk kX6_init 50 (.iastore) 1 51 := ⟨by decide +kernel, rfl⟩
theorem dX6_init_51 : Dk kX6_init 51 (.dup) 1 52 := ⟨by decide +kernel, rfl⟩
theorem dX6_init_52 : Dk kX6_init 52 (.iconst 4) 1 53 := ⟨by decide +kernel, rfl⟩
theorem dX6_init_53 : Dk kX6_init 53 (.iconst (-1)) 1 54 := ⟨by decide +kernel, rfl⟩
theorem dX6_init_54 : Dk kX6_init 54 (.iastore) 1 55 := ⟨by decide +kernel, rfl⟩
theorem dX6_init_55 : Dk kX6_init 55 (.dup) 1 56 := ⟨by decide +kernel, rfl⟩
theorem dX6_init_56 : Dk kX6_init 56 (.iconst 5) 1 57 := ⟨by decide +kernel, rfl⟩
theorem dX6_init_57 : Dk kX6_init 57 (.iconst (-1)) 1 58 := ⟨by decide +kernel, rfl⟩
theorem dX6_init_58 : Dk kX6_init 58 (.iastore) 1 59 := ⟨by decide +kernel, rfl⟩
theorem dX6_init_59 : Dk kX6_init 59 (.dup) 1 60 := ⟨by decide +kernel, rfl⟩
theorem dX6_init_60 : Dk kX6_init 60 (.bipush 6) 2 62 := ⟨by decide +kernel, rfl⟩
theorem dX6_init_62 : Dk kX6_init 62 (.bipush 10) 2 64 := ⟨by decide +kernel, rfl⟩
theorem dX6_init_64 : Dk kX6_init 64 (.iastore) 1 65 := ⟨by decide +kernel, rfl⟩
theorem dX6_init_65 : Dk kX6_init 65 (.dup) 1 66 := ⟨by decide +kernel, rfl⟩
theorem dX6_init_66 : Dk kX6_init 66 (.bipush 7) 2 68 := ⟨by decide +kernel, rfl⟩
theorem dX6_init_68 : Dk kX6_init 68 (.iconst (-1)) 1 69 := ⟨by decide +kernel, rfl⟩
theorem dX6_init_69 : Dk kX6_init 69 (.iastore) 1 70 := ⟨by decide +kernel, rfl⟩
theorem dX6_init_70 : Dk kX6_init 70 (.dup) 1 71 := ⟨by decide +kernel, rfl⟩
theorem dX6_init_71 : Dk kX6_init 71 (.bipush 8) 2 73 := ⟨by decide +kernel, rfl⟩
theorem dX6_init_73 : Dk kX6_init 73 (.iconst (-1)) 1 74 := ⟨by decide +kernel, rfl⟩
theorem dX6_init_74 : Dk kX6_init 74 (.iastore) 1 75 := ⟨by decide +kernel, rfl⟩
theorem dX6_init_75 : Dk kX6_init 75 (.dup) 1 76 := ⟨by decide +kernel, rfl⟩
theorem dX6_init_76 : Dk kX6_init 76 (.bipush 9) 2 78 := ⟨by decide +kernel, rfl⟩
theorem dX6_init_78 : Dk kX6_init 78 (.bipush 10) 2 80 := ⟨by decide +kernel, rfl⟩
theorem dX6_init_80 : Dk kX6_init 80 (.iastore) 1 81 := ⟨by decide +kernel, rfl⟩
theorem dX6_init_81 : Dk kX6_init 81 (.dup) 1 82 := ⟨by decide +kernel, rfl⟩
theorem dX6_init_82 : Dk kX6_init 82 (.bipush 10) 2 84 := ⟨by decide +kernel, rfl⟩
theorem dX6_init_84 : Dk kX6_init 84 (.iconst (-1)) 1 85 := ⟨by decide +kernel, rfl⟩
theorem dX6_init_85 : Dk kX6_init 85 (.iastore) 1 86 := ⟨by decide +kernel, rfl⟩
theorem dX6_init_86 : Dk kX6_init 86 (.dup) 1 87 := ⟨by decide +kernel, rfl⟩
theorem dX6_init_87 : Dk kX6_init 87 (.bipush 11) 2 89 := ⟨by decide +kernel, rfl⟩
theorem dX6_init_89 : Dk kX6_init 89 (.iconst (-1)) 1 90 := ⟨by decide +kernel, rfl⟩
theorem dX6_init_90 : Dk kX6_init 90 (.iastore) 1 91 := ⟨by decide +kernel, rfl⟩
theorem dX6_init_91 : Dk kX6_init 91 (.dup) 1 92 := ⟨by decide +kernel, rfl⟩
theorem dX6_init_92 : Dk kX6_init 92 (.bipush 12) 2 94 := ⟨by decide +kernel, rfl⟩
theorem dX6_init_94 : Dk kX6_init 94 (.bipush 10) 2 96 := ⟨by decide +kernel, rfl⟩
theorem dX6_init_96 : Dk kX6_init 96 (.iastore) 1 97 := ⟨by decide +kernel, rfl⟩
theorem dX6_init_97 : Dk kX6_init 97 (.dup) 1 98 := ⟨by decide +kernel, rfl⟩
theorem dX6_init_98 : Dk kX6_init 98 (.bipush 13) 2 100 := ⟨by decide +kernel, rfl⟩
theorem dX6_init_100 : Dk kX6_init 100 (.iconst (-1)) 1 101 := ⟨by decide +kernel, rfl⟩
theorem dX6_init_101 : Dk kX6_init 101 (.iastore) 1 102 := ⟨by decide +kernel, rfl⟩
theorem dX6_init_102 : Dk kX6_init 102 (.dup) 1 103 := ⟨by decide +kernel, rfl⟩
theorem dX6_init_103 : Dk kX6_init 103 (.bipush 14) 2 105 := ⟨by decide +kernel, rfl⟩
theorem dX6_init_105 : Dk kX6_init 105 (.iconst (-1)) 1 106 := ⟨by decide +kernel, rfl⟩
theorem dX6_init_106 : Dk kX6_init 106 (.iastore) 1 107 := ⟨by decide +kernel, rfl⟩
theorem dX6_init_107 : Dk kX6_init 107 (.dup) 1 108 := ⟨by decide +kernel, rfl⟩
theorem dX6_init_108 : Dk kX6_init 108 (.bipush 15) 2 110 := ⟨by decide +kernel, rfl⟩
theorem dX6_init_110 : Dk kX6_init 110 (.bipush 10) 2 112 := ⟨by decide +kernel, rfl⟩
theorem dX6_init_112 : Dk kX6_init 112 (.iastore) 1 113 := ⟨by decide +kernel, rfl⟩
theorem dX6_init_113 : Dk kX6_init 113 (.dup) 1 114 := ⟨by decide +kernel, rfl⟩
theorem dX6_init_114 : Dk kX6_init 114 (.bipush 16) 2 116 := ⟨by decide +kernel, rfl⟩
theorem dX6_init_116 : Dk kX6_init 116 (.iconst (-1)) 1 117 := ⟨by decide +kernel, rfl⟩
theorem dX6_init_117 : Dk kX6_init 117 (.iastore) 1 118 := ⟨by decide +kernel, rfl⟩
theorem dX6_init_118 : Dk kX6_init 118 (.dup) 1 119 := ⟨by decide +kernel, rfl⟩
theorem dX6_init_119 : Dk kX6_init 119 (.bipush 17) 2 121 := ⟨by decide +kernel, rfl⟩
theorem dX6_init_121 : Dk kX6_init 121 (.iconst (-1)) 1 122 := ⟨by decide +kernel, rfl⟩
theorem dX6_init_122 : Dk kX6_init 122 (.iastore) 1 123 := ⟨by decide +kernel, rfl⟩
theorem dX6_init_123 : Dk kX6_init 123 (.dup) 1 124 := ⟨by decide +kernel, rfl⟩
theorem dX6_init_124 : Dk kX6_init 124 (.bipush 18) 2 126 := ⟨by decide +kernel, rfl⟩
theorem dX6_init_126 : Dk kX6_init 126 (.bipush 10) 2 128 := ⟨by decide +kernel, rfl⟩
theorem dX6_init_128 : Dk kX6_init 128 (.iastore) 1 129 := ⟨by decide +kernel, rfl⟩
theorem dX6_init_129 : Dk kX6_init 129 (.dup) 1 130 := ⟨by decide +kernel, rfl⟩
theorem dX6_init_130 : Dk kX6_init 130 (.bipush 19) 2 132 := ⟨by decide +kernel, rfl⟩
theorem dX6_init_132 : Dk kX6_init 132 (.iconst (-1)) 1 133 := ⟨by decide +kernel, rfl⟩
theorem dX6_init_133 : Dk kX6_init 133 (.iastore) 1 134 := ⟨by decide +kernel, rfl⟩
theorem dX6_init_134 : Dk kX6_init 134 (.dup) 1 135 := ⟨by decide +kernel, rfl⟩
theorem dX6_init_135 : Dk kX6_init 135 (.bipush 20) 2 137 := ⟨by decide +kernel, rfl⟩
theorem dX6_init_137 : Dk kX6_init 137 (.iconst (-1)) 1 138 := ⟨by decide +kernel, rfl⟩
theorem dX6_init_138 : Dk kX6_init 138 (.iastore) 1 139 := ⟨by decide +kernel, rfl⟩
theorem dX6_init_139 : Dk kX6_init 139 (.dup) 1 140 := ⟨by decide +kernel, rfl⟩
theorem dX6_init_140 : Dk kX6_init 140 (.bipush 21) 2 142 := ⟨by decide +kernel, rfl⟩
theorem dX6_init_142 : Dk kX6_init 142 (.bipush 10) 2 144 := ⟨by decide +kernel, rfl⟩
theorem dX6_init_144 : Dk kX6_init 144 (.iastore) 1 145 := ⟨by decide +kernel, rfl⟩
theorem dX6_init_145 : Dk kX6_init 145 (.dup) 1 146 := ⟨by decide +kernel, rfl⟩
theorem dX6_init_146 : Dk kX6_init 146 (.bipush 22) 2 148 := ⟨by decide +kernel, rfl⟩
theorem dX6_init_148 : Dk kX6_init 148 (.iconst (-1)) 1 149 := ⟨by decide +kernel, rfl⟩
theorem dX6_init_149 : Dk kX6_init 149 (.iastore) 1 150 := ⟨by decide +kernel, rfl⟩
theorem dX6_init_150 : Dk kX6_init 150 (.dup) 1 151 := ⟨by decide +kernel, rfl⟩
theorem dX6_init_151 : Dk kX6_init 151 (.bipush 23) 2 153 := ⟨by decide +kernel, rfl⟩
theorem dX6_init_153 : Dk kX6_init 153 (.iconst (-1)) 1 154 := ⟨by decide +kernel, rfl⟩
theorem dX6_init_154 : Dk kX6_init 154 (.iastore) 1 155 := ⟨by decide +kernel, rfl⟩
theorem dX6_init_155 : Dk kX6_init 155 (.putfield 19) 3 158 := ⟨by decide +kernel, rfl⟩
theorem dX6_init_158 : Dk kX6_init 158 (.aload_n 0) 1 159 := ⟨by decide +kernel, rfl⟩
theorem dX6_init_159 : Dk kX6_init 159 (.sipush 160) 3 162 := ⟨by decide +kernel, rfl⟩
theorem dX6_init_162 : Dk kX6_init 162 (.newarray .int) 2 164 := ⟨by decide +kernel, rfl⟩
theorem dX6_init_164 : Dk kX6_init 164 (.putfield 22) 3 167 := ⟨by decide +kernel, rfl⟩
theorem dX6_init_167 : Dk kX6_init 167 (.aload_n 0) 1 168 := ⟨by decide +kernel, rfl⟩
theorem dX6_init_168 : Dk kX6_init 168 (.sipush 1200) 3 171 := ⟨by decide +kernel, rfl⟩
theorem dX6_init_171 : Dk kX6_init 171 (.newarray .int) 2 173 := ⟨by decide +kernel, rfl⟩
theorem dX6_init_173 : Dk kX6_init 173 (.putfield 25) 3 176 := ⟨by decide +kernel, rfl⟩
theorem dX6_init_176 : Dk kX6_init 176 (.aload_n 0) 1 177 := ⟨by decide +kernel, rfl⟩
theorem dX6_init_177 : Dk kX6_init 177 (.bipush 24) 2 179 := ⟨by decide +kernel, rfl⟩
theorem dX6_init_179 : Dk kX6_init 179 (.newarray .int) 2 181 := ⟨by decide +kernel, rfl⟩
theorem dX6_init_181 : Dk kX6_init 181 (.putfield 28) 3 184 := ⟨by decide +kernel, rfl⟩
theorem dX6_init_184 : Dk kX6_init 184 (.aload_n 0) 1 185 := ⟨by decide +kernel, rfl⟩
theorem dX6_init_185 : Dk kX6_init 185 (.bipush 42) 2 187 := ⟨by decide +kernel, rfl⟩
theorem dX6_init_187 : Dk kX6_init 187 (.newarray .int) 2 189 := ⟨by decide +kernel, rfl⟩
theorem dX6_init_189 : Dk kX6_init 189 (.putfield 31) 3 192 := ⟨by decide +kernel, rfl⟩
theorem dX6_init_192 : Dk kX6_init 192 (.aload_n 0) 1 193 := ⟨by decide +kernel, rfl⟩
theorem dX6_init_193 : Dk kX6_init 193 (.iconst 3) 1 194 := ⟨by decide +kernel, rfl⟩
theorem dX6_init_194 : Dk kX6_init 194 (.newarray .int) 2 196 := ⟨by decide +kernel, rfl⟩
theorem dX6_init_196 : Dk kX6_init 196 (.putfield 34) 3 199 := ⟨by decide +kernel, rfl⟩
theorem dX6_init_199 : Dk kX6_init 199 (.aload_n 0) 1 200 := ⟨by decide +kernel, rfl⟩
theorem dX6_init_200 : Dk kX6_init 200 (.iconst 4) 1 201 := ⟨by decide +kernel, rfl⟩
theorem dX6_init_201 : Dk kX6_init 201 (.newarray .int) 2 203 := ⟨by decide +kernel, rfl⟩
theorem dX6_init_203 : Dk kX6_init 203 (.dup) 1 204 := ⟨by decide +kernel, rfl⟩
theorem dX6_init_204 : Dk kX6_init 204 (.iconst 0) 1 205 := ⟨by decide +kernel, rfl⟩
theorem dX6_init_205 : Dk kX6_init 205 (.iconst (-1)) 1 206 := ⟨by decide +kernel, rfl⟩
theorem dX6_init_206 : Dk kX6_init 206 (.iastore) 1 207 := ⟨by decide +kernel, rfl⟩
theorem dX6_init_207 : Dk kX6_init 207 (.dup) 1 208 := ⟨by decide +kernel, rfl⟩
theorem dX6_init_208 : Dk kX6_init 208 (.iconst 1) 1 209 := ⟨by decide +kernel, rfl⟩
theorem dX6_init_209 : Dk kX6_init 209 (.iconst (-1)) 1 210 := ⟨by decide +kernel, rfl⟩
theorem dX6_init_210 : Dk kX6_init 210 (.iastore) 1 211 := ⟨by decide +kernel, rfl⟩
theorem dX6_init_211 : Dk kX6_init 211 (.dup) 1 212 := ⟨by decide +kernel, rfl⟩
theorem dX6_init_212 : Dk kX6_init 212 (.iconst 2) 1 213 := ⟨by decide +kernel, rfl⟩
theorem dX6_init_213 : Dk kX6_init 213 (.iconst (-1)) 1 214 := ⟨by decide +kernel, rfl⟩
theorem dX6_init_214 : Dk kX6_init 214 (.iastore) 1 215 := ⟨by decide +kernel, rfl⟩
theorem dX6_init_215 : Dk kX6_init 215 (.dup) 1 216 := ⟨by decide +kernel, rfl⟩
theorem dX6_init_216 : Dk kX6_init 216 (.iconst 3) 1 217 := ⟨by decide +kernel, rfl⟩
theorem dX6_init_217 : Dk kX6_init 217 (.iconst (-1)) 1 218 := ⟨by decide +kernel, rfl⟩
theorem dX6_init_218 : Dk kX6_init 218 (.iastore) 1 219 := ⟨by decide +kernel, rfl⟩
theorem dX6_init_219 : Dk kX6_init 219 (.putfield 37) 3 222 := ⟨by decide +kernel, rfl⟩
theorem dX6_init_222 : Dk kX6_init 222 (.aload_n 0) 1 223 := ⟨by decide +kernel, rfl⟩
theorem dX6_init_223 : Dk kX6_init 223 (.iconst 4) 1 224 := ⟨by decide +kernel, rfl⟩
theorem dX6_init_224 : Dk kX6_init 224 (.newarray .int) 2 226 := ⟨by decide +kernel, rfl⟩
theorem dX6_init_226 : Dk kX6_init 226 (.putfield 40) 3 229 := ⟨by decide +kernel, rfl⟩
theorem dX6_init_229 : Dk kX6_init 229 (.aload_n 0) 1 230 := ⟨by decide +kernel, rfl⟩
theorem dX6_init_230 : Dk kX6_init 230 (.sipush 160) 3 233 := ⟨by decide +kernel, rfl⟩
theorem dX6_init_233 : Dk kX6_init 233 (.newarray .int) 2 235 := ⟨by decide +kernel, rfl⟩
theorem dX6_init_235 : Dk kX6_init 235 (.putfield 43) 3 238 := ⟨by decide +kernel, rfl⟩
theorem dX6_init_238 : Dk kX6_init 238 (.aload_n 0) 1 239 := ⟨by decide +kernel, rfl⟩
theorem dX6_init_239 : Dk kX6_init 239 (.bipush 27) 2 241 := ⟨by decide +kernel, rfl⟩
theorem dX6_init_241 : Dk kX6_init 241 (.newarray .int) 2 243 := ⟨by decide +kernel, rfl⟩
theorem dX6_init_243 : Dk kX6_init 243 (.dup) 1 244 := ⟨by decide +kernel, rfl⟩
theorem dX6_init_244 : Dk kX6_init 244 (.iconst 0) 1 245 := ⟨by decide +kernel, rfl⟩
theorem dX6_init_245 : Dk kX6_init 245 (.bipush 116) 2 247 := ⟨by decide +kernel, rfl⟩
theorem dX6_init_247 : Dk kX6_init 247 (.iastore) 1 248 := ⟨by decide +kernel, rfl⟩
theorem dX6_init_248 : Dk kX6_init 248 (.dup) 1 249 := ⟨by decide +kernel, rfl⟩
theorem dX6_init_249 : Dk kX6_init 249 (.iconst 1) 1 250 := ⟨by decide +kernel, rfl⟩
theorem dX6_init_250 : Dk kX6_init 250 (.bipush 114) 2 252 := ⟨by decide +kernel, rfl⟩
theorem dX6_init_252 : Dk kX6_init 252 (.iastore) 1 253 := ⟨by decide +kernel, rfl⟩
theorem dX6_init_253 : Dk kX6_init 253 (.dup) 1 254 := ⟨by decide +kernel, rfl⟩
theorem dX6_init_254 : Dk kX6_init 254 (.iconst 2) 1 255 := ⟨by decide +kernel, rfl⟩
theorem dX6_init_255 : Dk kX6_init 255 (.bipush 105) 2 257 := ⟨by decide +kernel, rfl⟩
theorem dX6_init_257 : Dk kX6_init 257 (.iastore) 1 258 := ⟨by decide +kernel, rfl⟩
theorem dX6_init_258 : Dk kX6_init 258 (.dup) 1 259 := ⟨by decide +kernel, rfl⟩
theorem dX6_init_259 : Dk kX6_init 259 (.iconst 3) 1 260 := ⟨by decide +kernel, rfl⟩
theorem dX6_init_260 : Dk kX6_init 260 (.bipush 101) 2 262 := ⟨by decide +kernel, rfl⟩
theorem dX6_init_262 : Dk kX6_init 262 (.iastore) 1 263 := ⟨by decide +kernel, rfl⟩
theorem dX6_init_263 : Dk kX6_init 263 (.dup) 1 264 := ⟨by decide +kernel, rfl⟩
theorem dX6_init_264 : Dk kX6_init 264 (.iconst 4) 1 265 := ⟨by decide +kernel, rfl⟩
theorem dX6_init_265 : Dk kX6_init 265 (.bipush 115) 2 267 := ⟨by decide +kernel, rfl⟩
theorem dX6_init_267 : Dk kX6_init 267 (.iastore) 1 268 := ⟨by decide +kernel, rfl⟩
theorem dX6_init_268 : Dk kX6_init 268 (.dup) 1 269 := ⟨by decide +kernel, rfl⟩
theorem dX6_init_269 : Dk kX6_init 269 (.iconst 5) 1 270 := ⟨by decide +kernel, rfl⟩
theorem dX6_init_270 : Dk kX6_init 270 (.bipush 32) 2 272 := ⟨by decide +kernel, rfl⟩
theorem dX6_init_272 : Dk kX6_init 272 (.iastore) 1 273 := ⟨by decide +kernel, rfl⟩
theorem dX6_init_273 : Dk kX6_init 273 (.dup) 1 274 := ⟨by decide +kernel, rfl⟩
theorem dX6_init_274 : Dk kX6_init 274 (.bipush 6) 2 276 := ⟨by decide +kernel, rfl⟩
theorem dX6_init_276 : Dk kX6_init 276 (.bipush 49) 2 278 := ⟨by decide +kernel, rfl⟩
theorem dX6_init_278 : Dk kX6_init 278 (.iastore) 1 279 := ⟨by decide +kernel, rfl⟩
theorem dX6_init_279 : Dk kX6_init 279 (.dup) 1 280 := ⟨by decide +kernel, rfl⟩
theorem dX6_init_280 : Dk kX6_init 280 (.bipush 7) 2 282 := ⟨by decide +kernel, rfl⟩
theorem dX6_init_282 : Dk kX6_init 282 (.bipush 32) 2 284 := ⟨by decide +kernel, rfl⟩
theorem dX6_init_284 : Dk kX6_init 284 (.iastore) 1 285 := ⟨by decide +kernel, rfl⟩
theorem dX6_init_285 : Dk kX6_init 285 (.dup) 1 286 := ⟨by decide +kernel, rfl⟩
theorem dX6_init_286 : Dk kX6_init 286 (.bipush 8) 2 288 := ⟨by decide +kernel, rfl⟩
theorem dX6_init_288 : Dk kX6_init 288 (.bipush 59) 2 290 := ⟨by decide +kernel, rfl⟩
theorem dX6_init_290 : Dk kX6_init 290 (.iastore) 1 291 := ⟨by decide +kernel, rfl⟩
theorem dX6_init_291 : Dk kX6_init 291 (.dup) 1 292 := ⟨by decide +kernel, rfl⟩
theorem dX6_init_292 : Dk kX6_init 292 (.bipush 9) 2 294 := ⟨by decide +kernel, rfl⟩
theorem dX6_init_294 : Dk kX6_init 294 (.bipush 32) 2 296 := ⟨by decide +kernel, rfl⟩
theorem dX6_init_296 : Dk kX6_init 296 (.iastore) 1 297 := ⟨by decide +kernel, rfl⟩
theorem dX6_init_297 : Dk kX6_init 297 (.dup) 1 298 := ⟨by decide +kernel, rfl⟩
theorem dX6_init_298 : Dk kX6_init 298 (.bipush 10) 2 300 := ⟨by decide +kernel, rfl⟩
theorem dX6_init_300 : Dk kX6_init 300 (.bipush 112) 2 302 := ⟨by decide +kernel, rfl⟩
theorem dX6_init_302 : Dk kX6_init 302 (.iastore) 1 303 := ⟨by decide +kernel, rfl⟩
theorem dX6_init_303 : Dk kX6_init 303 (.dup) 1 304 := ⟨by decide +kernel, rfl⟩
theorem dX6_init_304 : Dk kX6_init 304 (.bipush 11) 2 306 := ⟨by decide +kernel, rfl⟩
theorem dX6_init_306 : Dk kX6_init 306 (.bipush 97) 2 308 := ⟨by decide +kernel, rfl⟩
theorem dX6_init_308 : Dk kX6_init 308 (.iastore) 1 309 := ⟨by decide +kernel, rfl⟩
theorem dX6_init_309 : Dk kX6_init 309 (.dup) 1 310 := ⟨by decide +kernel, rfl⟩
theorem dX6_init_310 : Dk kX6_init 310 (.bipush 12) 2 312 := ⟨by decide +kernel, rfl⟩
theorem dX6_init_312 : Dk kX6_init 312 (.bipush 121) 2 314 := ⟨by decide +kernel, rfl⟩
theorem dX6_init_314 : Dk kX6_init 314 (.iastore) 1 315 := ⟨by decide +kernel, rfl⟩
theorem dX6_init_315 : Dk kX6_init 315 (.dup) 1 316 := ⟨by decide +kernel, rfl⟩
theorem dX6_init_316 : Dk kX6_init 316 (.bipush 13) 2 318 := ⟨by decide +kernel, rfl⟩
theorem dX6_init_318 : Dk kX6_init 318 (.bipush 115) 2 320 := ⟨by decide +kernel, rfl⟩
theorem dX6_init_320 : Dk kX6_init 320 (.iastore) 1 321 := ⟨by decide +kernel, rfl⟩
theorem dX6_init_321 : Dk kX6_init 321 (.dup) 1 322 := ⟨by decide +kernel, rfl⟩
theorem dX6_init_322 : Dk kX6_init 322 (.bipush 14) 2 324 := ⟨by decide +kernel, rfl⟩
theorem dX6_init_324 : Dk kX6_init 324 (.bipush 32) 2 326 := ⟨by decide +kernel, rfl⟩
theorem dX6_init_326 : Dk kX6_init 326 (.iastore) 1 327 := ⟨by decide +kernel, rfl⟩
theorem dX6_init_327 : Dk kX6_init 327 (.dup) 1 328 := ⟨by decide +kernel, rfl⟩
theorem dX6_init_328 : Dk kX6_init 328 (.bipush 15) 2 330 := ⟨by decide +kernel, rfl⟩
theorem dX6_init_330 : Dk kX6_init 330 (.bipush 50) 2 332 := ⟨by decide +kernel, rfl⟩
theorem dX6_init_332 : Dk kX6_init 332 (.iastore) 1 333 := ⟨by decide +kernel, rfl⟩
theorem dX6_init_333 : Dk kX6_init 333 (.dup) 1 334 := ⟨by decide +kernel, rfl⟩
theorem dX6_init_334 : Dk kX6_init 334 (.bipush 16) 2 336 := ⟨by decide +kernel, rfl⟩
theorem dX6_init_336 : Dk kX6_init 336 (.bipush 32) 2 338 := ⟨by decide +kernel, rfl⟩
theorem dX6_init_338 : Dk kX6_init 338 (.iastore) 1 339 := ⟨by decide +kernel, rfl⟩
theorem dX6_init_339 : Dk kX6_init 339 (.dup) 1 340 := ⟨by decide +kernel, rfl⟩
theorem dX6_init_340 : Dk kX6_init 340 (.bipush 17) 2 342 := ⟨by decide +kernel, rfl⟩
theorem dX6_init_342 : Dk kX6_init 342 (.bipush 59) 2 344 := ⟨by decide +kernel, rfl⟩
theorem dX6_init_344 : Dk kX6_init 344 (.iastore) 1 345 := ⟨by decide +kernel, rfl⟩
theorem dX6_init_345 : Dk kX6_init 345 (.dup) 1 346 := ⟨by decide +kernel, rfl⟩
theorem dX6_init_346 : Dk kX6_init 346 (.bipush 18) 2 348 := ⟨by decide +kernel, rfl⟩
theorem dX6_init_348 : Dk kX6_init 348 (.bipush 32) 2 350 := ⟨by decide +kernel, rfl⟩
theorem dX6_init_350 : Dk kX6_init 350 (.iastore) 1 351 := ⟨by decide +kernel, rfl⟩
theorem dX6_init_351 : Dk kX6_init 351 (.dup) 1 352 := ⟨by decide +kernel, rfl⟩
theorem dX6_init_352 : Dk kX6_init 352 (.bipush 19) 2 354 := ⟨by decide +kernel, rfl⟩
theorem dX6_init_354 : Dk kX6_init 354 (.bipush 103) 2 356 := ⟨by decide +kernel, rfl⟩
theorem dX6_init_356 : Dk kX6_init 356 (.iastore) 1 357 := ⟨by decide +kernel, rfl⟩
theorem dX6_init_357 : Dk kX6_init 357 (.dup) 1 358 := ⟨by decide +kernel, rfl⟩
theorem dX6_init_358 : Dk kX6_init 358 (.bipush 20) 2 360 := ⟨by decide +kernel, rfl⟩
theorem dX6_init_360 : Dk kX6_init 360 (.bipush 111) 2 362 := ⟨by decide +kernel, rfl⟩
theorem dX6_init_362 : Dk kX6_init 362 (.iastore) 1 363 := ⟨by decide +kernel, rfl⟩
theorem dX6_init_363 : Dk kX6_init 363 (.dup) 1 364 := ⟨by decide +kernel, rfl⟩
theorem dX6_init_364 : Dk kX6_init 364 (.bipush 21) 2 366 := ⟨by decide +kernel, rfl⟩
theorem dX6_init_366 : Dk kX6_init 366 (.bipush 101) 2 368 := ⟨by decide +kernel, rfl⟩
theorem dX6_init_368 : Dk kX6_init 368 (.iastore) 1 369 := ⟨by decide +kernel, rfl⟩
theorem dX6_init_369 : Dk kX6_init 369 (.dup) 1 370 := ⟨by decide +kernel, rfl⟩
theorem dX6_init_370 : Dk kX6_init 370 (.bipush 22) 2 372 := ⟨by decide +kernel, rfl⟩
theorem dX6_init_372 : Dk kX6_init 372 (.bipush 115) 2 374 := ⟨by decide +kernel, rfl⟩
theorem dX6_init_374 : Dk kX6_init 374 (.iastore) 1 375 := ⟨by decide +kernel, rfl⟩
theorem dX6_init_375 : Dk kX6_init 375 (.dup) 1 376 := ⟨by decide +kernel, rfl⟩
theorem dX6_init_376 : Dk kX6_init 376 (.bipush 23) 2 378 := ⟨by decide +kernel, rfl⟩
theorem dX6_init_378 : Dk kX6_init 378 (.bipush 32) 2 380 := ⟨by decide +kernel, rfl⟩
theorem dX6_init_380 : Dk kX6_init 380 (.iastore) 1 381 := ⟨by decide +kernel, rfl⟩
theorem dX6_init_381 : Dk kX6_init 381 (.dup) 1 382 := ⟨by decide +kernel, rfl⟩
theorem dX6_init_382 : Dk kX6_init 382 (.bipush 24) 2 384 := ⟨by decide +kernel, rfl⟩
theorem dX6_init_384 : Dk kX6_init 384 (.bipush 49) 2 386 := ⟨by decide +kernel, rfl⟩
theorem dX6_init_386 : Dk kX6_init 386 (.iastore) 1 387 := ⟨by decide +kernel, rfl⟩
theorem dX6_init_387 : Dk kX6_init 387 (.dup) 1 388 := ⟨by decide +kernel, rfl⟩
theorem dX6_init_388 : Dk kX6_init 388 (.bipush 25) 2 390 := ⟨by decide +kernel, rfl⟩
theorem dX6_init_390 : Dk kX6_init 390 (.bipush 32) 2 392 := ⟨by decide +kernel, rfl⟩
theorem dX6_init_392 : Dk kX6_init 392 (.iastore) 1 393 := ⟨by decide +kernel, rfl⟩
theorem dX6_init_393 : Dk kX6_init 393 (.dup) 1 394 := ⟨by decide +kernel, rfl⟩
theorem dX6_init_394 : Dk kX6_init 394 (.bipush 26) 2 396 := ⟨by decide +kernel, rfl⟩
theorem dX6_init_396 : Dk kX6_init 396 (.bipush 59) 2 398 := ⟨by decide +kernel, rfl⟩
theorem dX6_init_398 : Dk kX6_init 398 (.iastore) 1 399 := ⟨by decide +kernel, rfl⟩
theorem dX6_init_399 : Dk kX6_init 399 (.putfield 46) 3 402 := ⟨by decide +kernel, rfl⟩
theorem dX6_init_402 : Dk kX6_init 402 (.aload_n 0) 1 403 := ⟨by decide +kernel, rfl⟩
theorem dX6_init_403 : Dk kX6_init 403 (.bipush 96) 2 405 := ⟨by decide +kernel, rfl⟩
theorem dX6_init_405 : Dk kX6_init 405 (.newarray .int) 2 407 := ⟨by decide +kernel, rfl⟩
theorem dX6_init_407 : Dk kX6_init 407 (.dup) 1 408 := ⟨by decide +kernel, rfl⟩
theorem dX6_init_408 : Dk kX6_init 408 (.iconst 0) 1 409 := ⟨by decide +kernel, rfl⟩
theorem dX6_init_409 : Dk kX6_init 409 (.bipush 116) 2 411 := ⟨by decide +kernel, rfl⟩
theorem dX6_init_411 : Dk kX6_init 411 (.iastore) 1 412 := ⟨by decide +kernel, rfl⟩
theorem dX6_init_412 : Dk kX6_init 412 (.dup) 1 413 := ⟨by decide +kernel, rfl⟩
theorem dX6_init_413 : Dk kX6_init 413 (.iconst 1) 1 414 := ⟨by decide +kernel, rfl⟩
theorem dX6_init_414 : Dk kX6_init 414 (.bipush 114) 2 416 := ⟨by decide +kernel, rfl⟩
theorem dX6_init_416 : Dk kX6_init 416 (.iastore) 1 417 := ⟨by decide +kernel, rfl⟩
theorem dX6_init_417 : Dk kX6_init 417 (.dup) 1 418 := ⟨by decide +kernel, rfl⟩
theorem dX6_init_418 : Dk kX6_init 418 (.iconst 2) 1 419 := ⟨by decide +kernel, rfl⟩
theorem dX6_init_419 : Dk kX6_init 419 (.bipush 105) 2 421 := ⟨by decide +kernel, rfl⟩
theorem dX6_init_421 : Dk kX6_init 421 (.iastore) 1 422 := ⟨by decide +kernel, rfl⟩
theorem dX6_init_422 : Dk kX6_init 422 (.dup) 1 423 := ⟨by decide +kernel, rfl⟩
theorem dX6_init_423 : Dk kX6_init 423 (.iconst 3) 1 424 := ⟨by decide +kernel, rfl⟩
theorem dX6_init_424 : Dk kX6_init 424 (.bipush 101) 2 426 := ⟨by decide +kernel, rfl⟩
theorem dX6_init_426 : Dk kX6_init 426 (.iastore) 1 427 := ⟨by decide +kernel, rfl⟩
theorem dX6_init_427 : Dk kX6_init 427 (.dup) 1 428 := ⟨by decide +kernel, rfl⟩
theorem dX6_init_428 : Dk kX6_init 428 (.iconst 4) 1 429 := ⟨by decide +kernel, rfl⟩
theorem dX6_init_429 : Dk kX6_init 429 (.bipush 115) 2 431 := ⟨by decide +kernel, rfl⟩
theorem dX6_init_431 : Dk kX6_init 431 (.iastore) 1 432 := ⟨by decide +kernel, rfl⟩
theorem dX6_init_432 : Dk kX6_init 432 (.dup) 1 433 := ⟨by decide +kernel, rfl⟩
theorem dX6_init_433 : Dk kX6_init 433 (.iconst 5) 1 434 := ⟨by decide +kernel, rfl⟩
theorem dX6_init_434 : Dk kX6_init 434 (.bipush 32) 2 436 := ⟨by decide +kernel, rfl⟩
theorem dX6_init_436 : Dk kX6_init 436 (.iastore) 1 437 := ⟨by decide +kernel, rfl⟩
theorem dX6_init_437 : Dk kX6_init 437 (.dup) 1 438 := ⟨by decide +kernel, rfl⟩
theorem dX6_init_438 : Dk kX6_init 438 (.bipush 6) 2 440 := ⟨by decide +kernel, rfl⟩
theorem dX6_init_440 : Dk kX6_init 440 (.bipush 32) 2 442 := ⟨by decide +kernel, rfl⟩
theorem dX6_init_442 : Dk kX6_init 442 (.iastore) 1 443 := ⟨by decide +kernel, rfl⟩
theorem dX6_init_443 : Dk kX6_init 443 (.dup) 1 444 := ⟨by decide +kernel, rfl⟩
theorem dX6_init_444 : Dk kX6_init 444 (.bipush 7) 2 446 := ⟨by decide +kernel, rfl⟩
theorem dX6_init_446 : Dk kX6_init 446 (.bipush 32) 2 448 := ⟨by decide +kernel, rfl⟩
theorem dX6_init_448 : Dk kX6_init 448 (.iastore) 1 449 := ⟨by decide +kernel, rfl⟩
theorem dX6_init_449 : Dk kX6_init 449 (.dup) 1 450 := ⟨by decide +kernel, rfl⟩
theorem dX6_init_450 : Dk kX6_init 450 (.bipush 8) 2 452 := ⟨by decide +kernel, rfl⟩
theorem dX6_init_452 : Dk kX6_init 452 (.bipush 112) 2 454 := ⟨by decide +kernel, rfl⟩
theorem dX6_init_454 : Dk kX6_init 454 (.iastore) 1 455 := ⟨by decide +kernel, rfl⟩
theorem dX6_init_455 : Dk kX6_init 455 (.dup) 1 456 := ⟨by decide +kernel, rfl⟩
theorem dX6_init_456 : Dk kX6_init 456 (.bipush 9) 2 458 := ⟨by decide +kernel, rfl⟩
theorem dX6_init_458 : Dk kX6_init 458 (.bipush 97) 2 460 := ⟨by decide +kernel, rfl⟩
theorem dX6_init_460 : Dk kX6_init 460 (.iastore) 1 461 := ⟨by decide +kernel, rfl⟩
theorem dX6_init_461 : Dk kX6_init 461 (.dup) 1 462 := ⟨by decide +kernel, rfl⟩
theorem dX6_init_462 : Dk kX6_init 462 (.bipush 10) 2 464 := ⟨by decide +kernel, rfl⟩
theorem dX6_init_464 : Dk kX6_init 464 (.bipush 121) 2 466 := ⟨by decide +kernel, rfl⟩
theorem dX6_init_466 : Dk kX6_init 466 (.iastore) 1 467 := ⟨by decide +kernel, rfl⟩
theorem dX6_init_467 : Dk kX6_init 467 (.dup) 1 468 := ⟨by decide +kernel, rfl⟩
theorem dX6_init_468 : Dk kX6_init 468 (.bipush 11) 2 470 := ⟨by decide +kernel, rfl⟩
theorem dX6_init_470 : Dk kX6_init 470 (.bipush 115) 2 472 := ⟨by decide +kernel, rfl⟩
theorem dX6_init_472 : Dk kX6_init 472 (.iastore) 1 473 := ⟨by decide +kernel, rfl⟩
theorem dX6_init_473 : Dk kX6_init 473 (.dup) 1 474 := ⟨by decide +kernel, rfl⟩
theorem dX6_init_474 : Dk kX6_init 474 (.bipush 12) 2 476 := ⟨by decide +kernel, rfl⟩
theorem dX6_init_476 : Dk kX6_init 476 (.bipush 32) 2 478 := ⟨by decide +kernel, rfl⟩
theorem dX6_init_478 : Dk kX6_init 478 (.iastore) 1 479 := ⟨by decide +kernel, rfl⟩
theorem dX6_init_479 : Dk kX6_init 479 (.dup) 1 480 := ⟨by decide +kernel, rfl⟩
theorem dX6_init_480 : Dk kX6_init 480 (.bipush 13) 2 482 := ⟨by decide +kernel, rfl⟩
theorem dX6_init_482 : Dk kX6_init 482 (.bipush 32) 2 484 := ⟨by decide +kernel, rfl⟩
theorem dX6_init_484 : Dk kX6_init 484 (.iastore) 1 485 := ⟨by decide +kernel, rfl⟩
theorem dX6_init_485 : Dk kX6_init 485 (.dup) 1 486 := ⟨by decide +kernel, rfl⟩
theorem dX6_init_486 : Dk kX6_init 486 (.bipush 14) 2 488 := ⟨by decide +kernel, rfl⟩
theorem dX6_init_488 : Dk kX6_init 488 (.bipush 32) 2 490 := ⟨by decide +kernel, rfl⟩
theorem dX6_init_490 : Dk kX6_init 490 (.iastore) 1 491 := ⟨by decide +kernel, rfl⟩
theorem dX6_init_491 : Dk kX6_init 491 (.dup) 1 492 := ⟨by decide +kernel, rfl⟩
theorem dX6_init_492 : Dk kX6_init 492 (.bipush 15) 2 494 := ⟨by decide +kernel, rfl⟩
theorem dX6_init_494 : Dk kX6_init 494 (.bipush 32) 2 496 := ⟨by decide +kernel, rfl⟩
theorem dX6_init_496 : Dk kX6_init 496 (.iastore) 1 497 := ⟨by decide +kernel, rfl⟩
theorem dX6_init_497 : Dk kX6_init 497 (.dup) 1 498 := ⟨by decide +kernel, rfl⟩
theorem dX6_init_498 : Dk kX6_init 498 (.bipush 16) 2 500 := ⟨by decide +kernel, rfl⟩
theorem dX6_init_500 : Dk kX6_init 500 (.bipush 103) 2 502 := ⟨by decide +kernel, rfl⟩
theorem dX6_init_502 : Dk kX6_init 502 (.iastore) 1 503 := ⟨by decide +kernel, rfl⟩
theorem dX6_init_503 : Dk kX6_init 503 (.dup) 1 504 := ⟨by decide +kernel, rfl⟩
theorem dX6_init_504 : Dk kX6_init 504 (.bipush 17) 2 506 := ⟨by decide +kernel, rfl⟩
theorem dX6_init_506 : Dk kX6_init 506 (.bipush 111) 2 508 := ⟨by decide +kernel, rfl⟩
theorem dX6_init_508 : Dk kX6_init 508 (.iastore) 1 509 := ⟨by decide +kernel, rfl⟩
theorem dX6_init_509 : Dk kX6_init 509 (.dup) 1 510 := ⟨by decide +kernel, rfl⟩
theorem dX6_init_510 : Dk kX6_init 510 (.bipush 18) 2 512 := ⟨by decide +kernel, rfl⟩
theorem dX6_init_512 : Dk kX6_init 512 (.bipush 101) 2 514 := ⟨by decide +kernel, rfl⟩
theorem dX6_init_514 : Dk kX6_init 514 (.iastore) 1 515 := ⟨by decide +kernel, rfl⟩
theorem dX6_init_515 : Dk kX6_init 515 (.dup) 1 516 := ⟨by decide +kernel, rfl⟩
theorem dX6_init_516 : Dk kX6_init 516 (.bipush 19) 2 518 := ⟨by decide +kernel, rfl⟩
theorem dX6_init_518 : Dk kX6_init 518 (.bipush 115) 2 520 := ⟨by decide +kernel, rfl⟩
theorem dX6_init_520 : Dk kX6_init 520 (.iastore) 1 521 := ⟨by decide +kernel, rfl⟩
theorem dX6_init_521 : Dk kX6_init 521 (.dup) 1 522 := ⟨by decide +kernel, rfl⟩
theorem dX6_init_522 : Dk kX6_init 522 (.bipush 20) 2 524 := ⟨by decide +kernel, rfl⟩
theorem dX6_init_524 : Dk kX6_init 524 (.bipush 32) 2 526 := ⟨by decide +kernel, rfl⟩
theorem dX6_init_526 : Dk kX6_init 526 (.iastore) 1 527 := ⟨by decide +kernel, rfl⟩
theorem dX6_init_527 : Dk kX6_init 527 (.dup) 1 528 := ⟨by decide +kernel, rfl⟩
theorem dX6_init_528 : Dk kX6_init 528 (.bipush 21) 2 530 := ⟨by decide +kernel, rfl⟩
theorem dX6_init_530 : Dk kX6_init 530 (.bipush 32) 2 532 := ⟨by decide +kernel, rfl⟩
theorem dX6_init_532 : Dk kX6_init 532 (.iastore) 1 533 := ⟨by decide +kernel, rfl⟩
theorem dX6_init_533 : Dk kX6_init 533 (.dup) 1 534 := ⟨by decide +kernel, rfl⟩
theorem dX6_init_534 : Dk kX6_init 534 (.bipush 22) 2 536 := ⟨by decide +kernel, rfl⟩
theorem dX6_init_536 : Dk kX6_init 536 (.bipush 32) 2 538 := ⟨by decide +kernel, rfl⟩
theorem dX6_init_538 : Dk kX6_init 538 (.iastore) 1 539 := ⟨by decide +kernel, rfl⟩
theorem dX6_init_539 : Dk kX6_init 539 (.dup) 1 540 := ⟨by decide +kernel, rfl⟩
theorem dX6_init_540 : Dk kX6_init 540 (.bipush 23) 2 542 := ⟨by decide +kernel, rfl⟩
theorem dX6_init_542 : Dk kX6_init 542 (.bipush 32) 2 544 := ⟨by decide +kernel, rfl⟩
theorem dX6_init_544 : Dk kX6_init 544 (.iastore) 1 545 := ⟨by decide +kernel, rfl⟩
theorem dX6_init_545 : Dk kX6_init 545 (.dup) 1 546 := ⟨by decide +kernel, rfl⟩
theorem dX6_init_546 : Dk kX6_init 546 (.bipush 24) 2 548 := ⟨by decide +kernel, rfl⟩
theorem dX6_init_548 : Dk kX6_init 548 (.bipush 100) 2 550 := ⟨by decide +kernel, rfl⟩
theorem dX6_init_550 : Dk kX6_init 550 (.iastore) 1 551 := ⟨by decide +kernel, rfl⟩
theorem dX6_init_551 : Dk kX6_init 551 (.dup) 1 552 := ⟨by decide +kernel, rfl⟩
theorem dX6_init_552 : Dk kX6_init 552 (.bipush 25) 2 554 := ⟨by decide +kernel, rfl⟩
theorem dX6_init_554 : Dk kX6_init 554 (.bipush 111) 2 556 := ⟨by decide +kernel, rfl⟩
theorem dX6_init_556 : Dk kX6_init 556 (.iastore) 1 557 := ⟨by decide +kernel, rfl⟩
theorem dX6_init_557 : Dk kX6_init 557 (.dup) 1 558 := ⟨by decide +kernel, rfl⟩
theorem dX6_init_558 : Dk kX6_init 558 (.bipush 26) 2 560 := ⟨by decide +kernel, rfl⟩
theorem dX6_init_560 : Dk kX6_init 560 (.bipush 111) 2 562 := ⟨by decide +kernel, rfl⟩
theorem dX6_init_562 : Dk kX6_init 562 (.iastore) 1 563 := ⟨by decide +kernel, rfl⟩
theorem dX6_init_563 : Dk kX6_init 563 (.dup) 1 564 := ⟨by decide +kernel, rfl⟩
theorem dX6_init_564 : Dk kX6_init 564 (.bipush 27) 2 566 := ⟨by decide +kernel, rfl⟩
theorem dX6_init_566 : Dk kX6_init 566 (.bipush 114) 2 568 := ⟨by decide +kernel, rfl⟩
theorem dX6_init_568 : Dk kX6_init 568 (.iastore) 1 569 := ⟨by decide +kernel, rfl⟩
theorem dX6_init_569 : Dk kX6_init 569 (.dup) 1 570 := ⟨by decide +kernel, rfl⟩
theorem dX6_init_570 : Dk kX6_init 570 (.bipush 28) 2 572 := ⟨by decide +kernel, rfl⟩
theorem dX6_init_572 : Dk kX6_init 572 (.bipush 32) 2 574 := ⟨by decide +kernel, rfl⟩
theorem dX6_init_574 : Dk kX6_init 574 (.iastore) 1 575 := ⟨by decide +kernel, rfl⟩
theorem dX6_init_575 : Dk kX6_init 575 (.dup) 1 576 := ⟨by decide +kernel, rfl⟩
theorem dX6_init_576 : Dk kX6_init 576 (.bipush 29) 2 578 := ⟨by decide +kernel, rfl⟩
theorem dX6_init_578 : Dk kX6_init 578 (.bipush 32) 2 580 := ⟨by decide +kernel, rfl⟩
theorem dX6_init_580 : Dk kX6_init 580 (.iastore) 1 581 := ⟨by decide +kernel, rfl⟩
theorem dX6_init_581 : Dk kX6_init 581 (.dup) 1 582 := ⟨by decide +kernel, rfl⟩
theorem dX6_init_582 : Dk kX6_init 582 (.bipush 30) 2 584 := ⟨by decide +kernel, rfl⟩
theorem dX6_init_584 : Dk kX6_init 584 (.bipush 32) 2 586 := ⟨by decide +kernel, rfl⟩
theorem dX6_init_586 : Dk kX6_init 586 (.iastore) 1 587 := ⟨by decide +kernel, rfl⟩
theorem dX6_init_587 : Dk kX6_init 587 (.dup) 1 588 := ⟨by decide +kernel, rfl⟩
theorem dX6_init_588 : Dk kX6_init 588 (.bipush 31) 2 590 := ⟨by decide +kernel, rfl⟩
theorem dX6_init_590 : Dk kX6_init 590 (.bipush 32) 2 592 := ⟨by decide +kernel, rfl⟩
theorem dX6_init_592 : Dk kX6_init 592 (.iastore) 1 593 := ⟨by decide +kernel, rfl⟩
theorem dX6_init_593 : Dk kX6_init 593 (.dup) 1 594 := ⟨by decide +kernel, rfl⟩
theorem dX6_init_594 : Dk kX6_init 594 (.bipush 32) 2 596 := ⟨by decide +kernel, rfl⟩
theorem dX6_init_596 : Dk kX6_init 596 (.bipush 101) 2 598 := ⟨by decide +kernel, rfl⟩
theorem dX6_init_598 : Dk kX6_init 598 (.iastore) 1 599 := ⟨by decide +kernel, rfl⟩
theorem dX6_init_599 : Dk kX6_init 599 (.dup) 1 600 := ⟨by decide +kernel, rfl⟩
theorem dX6_init_600 : Dk kX6_init 600 (.bipush 33) 2 602 := ⟨by decide +kernel, rfl⟩
theorem dX6_init_602 : Dk kX6_init 602 (.bipush 103) 2 604 := ⟨by decide +kernel, rfl⟩
theorem dX6_init_604 : Dk kX6_init 604 (.iastore) 1 605 := ⟨by decide +kernel, rfl⟩
theorem dX6_init_605 : Dk kX6_init 605 (.dup) 1 606 := ⟨by decide +kernel, rfl⟩
theorem dX6_init_606 : Dk kX6_init 606 (.bipush 34) 2 608 := ⟨by decide +kernel, rfl⟩
theorem dX6_init_608 : Dk kX6_init 608 (.bipush 103) 2 610 := ⟨by decide +kernel, rfl⟩
theorem dX6_init_610 : Dk kX6_init 610 (.iastore) 1 611 := ⟨by decide +kernel, rfl⟩
theorem dX6_init_611 : Dk kX6_init 611 (.dup) 1 612 := ⟨by decide +kernel, rfl⟩
theorem dX6_init_612 : Dk kX6_init 612 (.bipush 35) 2 614 := ⟨by decide +kernel, rfl⟩
theorem dX6_init_614 : Dk kX6_init 614 (.bipush 115) 2 616 := ⟨by decide +kernel, rfl⟩
theorem dX6_init_616 : Dk kX6_init 616 (.iastore) 1 617 := ⟨by decide +kernel, rfl⟩
theorem dX6_init_617 : Dk kX6_init 617 (.dup) 1 618 := ⟨by decide +kernel, rfl⟩
theorem dX6_init_618 : Dk kX6_init 618 (.bipush 36) 2 620 := ⟨by decide +kernel, rfl⟩
theorem dX6_init_620 : Dk kX6_init 620 (.bipush 32) 2 622 := ⟨by decide +kernel, rfl⟩
theorem dX6_init_622 : Dk kX6_init 622 (.iastore) 1 623 := ⟨by decide +kernel, rfl⟩
theorem dX6_init_623 : Dk kX6_init 623 (.dup) 1 624 := ⟨by decide +kernel, rfl⟩
theorem dX6_init_624 : Dk kX6_init 624 (.bipush 37) 2 626 := ⟨by decide +kernel, rfl⟩
theorem dX6_init_626 : Dk kX6_init 626 (.bipush 32) 2 628 := ⟨by decide +kernel, rfl⟩
theorem dX6_init_628 : Dk kX6_init 628 (.iastore) 1 629 := ⟨by decide +kernel, rfl⟩
theorem dX6_init_629 : Dk kX6_init 629 (.dup) 1 630 := ⟨by decide +kernel, rfl⟩
theorem dX6_init_630 : Dk kX6_init 630 (.bipush 38) 2 632 := ⟨by decide +kernel, rfl⟩
theorem dX6_init_632 : Dk kX6_init 632 (.bipush 32) 2 634 := ⟨by decide +kernel, rfl⟩
theorem dX6_init_634 : Dk kX6_init 634 (.iastore) 1 635 := ⟨by decide +kernel, rfl⟩
theorem dX6_init_635 : Dk kX6_init 635 (.dup) 1 636 := ⟨by decide +kernel, rfl⟩
theorem dX6_init_636 : Dk kX6_init 636 (.bipush 39) 2 638 := ⟨by decide +kernel, rfl⟩
theorem dX6_init_638 : Dk kX6_init 638 (.bipush 32) 2 640 := ⟨by decide +kernel, rfl⟩
theorem dX6_init_640 : Dk kX6_init 640 (.iastore) 1 641 := ⟨by decide +kernel, rfl⟩
theorem dX6_init_641 : Dk kX6_init 641 (.dup) 1 642 := ⟨by decide +kernel, rfl⟩
theorem dX6_init_642 : Dk kX6_init 642 (.bipush 40) 2 644 := ⟨by decide +kernel, rfl⟩
theorem dX6_init_644 : Dk kX6_init 644 (.bipush 109) 2 646 := ⟨by decide +kernel, rfl⟩
theorem dX6_init_646 : Dk kX6_init 646 (.iastore) 1 647 := ⟨by decide +kernel, rfl⟩
theorem dX6_init_647 : Dk kX6_init 647 (.dup) 1 648 := ⟨by decide +kernel, rfl⟩
theorem dX6_init_648 : Dk kX6_init 648 (.bipush 41) 2 650 := ⟨by decide +kernel, rfl⟩
theorem dX6_init_650 : Dk kX6_init 650 (.bipush 105) 2 652 := ⟨by decide +kernel, rfl⟩
theorem dX6_init_652 : Dk kX6_init 652 (.iastore) 1 653 := ⟨by decide +kernel, rfl⟩
theorem dX6_init_653 : Dk kX6_init 653 (.dup) 1 654 := ⟨by decide +kernel, rfl⟩
theorem dX6_init_654 : Dk kX6_init 654 (.bipush 42) 2 656 := ⟨by decide +kernel, rfl⟩
theorem dX6_init_656 : Dk kX6_init 656 (.bipush 110) 2 658 := ⟨by decide +kernel, rfl⟩
theorem dX6_init_658 : Dk kX6_init 658 (.iastore) 1 659 := ⟨by decide +kernel, rfl⟩
theorem dX6_init_659 : Dk kX6_init 659 (.dup) 1 660 := ⟨by decide +kernel, rfl⟩
theorem dX6_init_660 : Dk kX6_init 660 (.bipush 43) 2 662 := ⟨by decide +kernel, rfl⟩
theorem dX6_init_662 : Dk kX6_init 662 (.bipush 117) 2 664 := ⟨by decide +kernel, rfl⟩
theorem dX6_init_664 : Dk kX6_init 664 (.iastore) 1 665 := ⟨by decide +kernel, rfl⟩
theorem dX6_init_665 : Dk kX6_init 665 (.dup) 1 666 := ⟨by decide +kernel, rfl⟩
theorem dX6_init_666 : Dk kX6_init 666 (.bipush 44) 2 668 := ⟨by decide +kernel, rfl⟩
theorem dX6_init_668 : Dk kX6_init 668 (.bipush 116) 2 670 := ⟨by decide +kernel, rfl⟩
theorem dX6_init_670 : Dk kX6_init 670 (.iastore) 1 671 := ⟨by decide +kernel, rfl⟩
theorem dX6_init_671 : Dk kX6_init 671 (.dup) 1 672 := ⟨by decide +kernel, rfl⟩
theorem dX6_init_672 : Dk kX6_init 672 (.bipush 45) 2 674 := ⟨by decide +kernel, rfl⟩
theorem dX6_init_674 : Dk kX6_init 674 (.bipush 101) 2 676 := ⟨by decide +kernel, rfl⟩
theorem dX6_init_676 : Dk kX6_init 676 (.iastore) 1 677 := ⟨by decide +kernel, rfl⟩
theorem dX6_init_677 : Dk kX6_init 677 (.dup) 1 678 := ⟨by decide +kernel, rfl⟩
theorem dX6_init_678 : Dk kX6_init 678 (.bipush 46) 2 680 := ⟨by decide +kernel, rfl⟩
theorem dX6_init_680 : Dk kX6_init 680 (.bipush 32) 2 682 := ⟨by decide +kernel, rfl⟩
theorem dX6_init_682 : Dk kX6_init 682 (.iastore) 1 683 := ⟨by decide +kernel, rfl⟩
theorem dX6_init_683 : Dk kX6_init 683 (.dup) 1 684 := ⟨by decide +kernel, rfl⟩
theorem dX6_init_684 : Dk kX6_init 684 (.bipush 47) 2 686 := ⟨by decide +kernel, rfl⟩
theorem dX6_init_686 : Dk kX6_init 686 (.bipush 32) 2 688 := ⟨by decide +kernel, rfl⟩
theorem dX6_init_688 : Dk kX6_init 688 (.iastore) 1 689 := ⟨by decide +kernel, rfl⟩
theorem dX6_init_689 : Dk kX6_init 689 (.dup) 1 690 := ⟨by decide +kernel, rfl⟩
theorem dX6_init_690 : Dk kX6_init 690 (.bipush 48) 2 692 := ⟨by decide +kernel, rfl⟩
theorem dX6_init_692 : Dk kX6_init 692 (.bipush 116) 2 694 := ⟨by decide +kernel, rfl⟩
theorem dX6_init_694 : Dk kX6_init 694 (.iastore) 1 695 := ⟨by decide +kernel, rfl⟩
theorem dX6_init_695 : Dk kX6_init 695 (.dup) 1 696 := ⟨by decide +kernel, rfl⟩
theorem dX6_init_696 : Dk kX6_init 696 (.bipush 49) 2 698 := ⟨by decide +kernel, rfl⟩
theorem dX6_init_698 : Dk kX6_init 698 (.bipush 114) 2 700 := ⟨by decide +kernel, rfl⟩
theorem dX6_init_700 : Dk kX6_init 700 (.iastore) 1 701 := ⟨by decide +kernel, rfl⟩
theorem dX6_init_701 : Dk kX6_init 701 (.dup) 1 702 := ⟨by decide +kernel, rfl⟩
theorem dX6_init_702 : Dk kX6_init 702 (.bipush 50) 2 704 := ⟨by decide +kernel, rfl⟩
theorem dX6_init_704 : Dk kX6_init 704 (.bipush 105) 2 706 := ⟨by decide +kernel, rfl⟩
theorem dX6_init_706 : Dk kX6_init 706 (.iastore) 1 707 := ⟨by decide +kernel, rfl⟩
theorem dX6_init_707 : Dk kX6_init 707 (.dup) 1 708 := ⟨by decide +kernel, rfl⟩
theorem dX6_init_708 : Dk kX6_init 708 (.bipush 51) 2 710 := ⟨by decide +kernel, rfl⟩
theorem dX6_init_710 : Dk kX6_init 710 (.bipush 101) 2 712 := ⟨by decide +kernel, rfl⟩
theorem dX6_init_712 : Dk kX6_init 712 (.iastore) 1 713 := ⟨by decide +kernel, rfl⟩
theorem dX6_init_713 : Dk kX6_init 713 (.dup) 1 714 := ⟨by decide +kernel, rfl⟩
theorem dX6_init_714 : Dk kX6_init 714 (.bipush 52) 2 716 := ⟨by decide +kernel, rfl⟩
theorem dX6_init_716 : Dk kX6_init 716 (.bipush 100) 2 718 := ⟨by decide +kernel, rfl⟩
theorem dX6_init_718 : Dk kX6_init 718 (.iastore) 1 719 := ⟨by decide +kernel, rfl⟩
theorem dX6_init_719 : Dk kX6_init 719 (.dup) 1 720 := ⟨by decide +kernel, rfl⟩
theorem dX6_init_720 : Dk kX6_init 720 (.bipush 53) 2 722 := ⟨by decide +kernel, rfl⟩
theorem dX6_init_722 : Dk kX6_init 722 (.bipush 32) 2 724 := ⟨by decide +kernel, rfl⟩
theorem dX6_init_724 : Dk kX6_init 724 (.iastore) 1 725 := ⟨by decide +kernel, rfl⟩
theorem dX6_init_725 : Dk kX6_init 725 (.dup) 1 726 := ⟨by decide +kernel, rfl⟩
theorem dX6_init_726 : Dk kX6_init 726 (.bipush 54) 2 728 := ⟨by decide +kernel, rfl⟩
theorem dX6_init_728 : Dk kX6_init 728 (.bipush 32) 2 730 := ⟨by decide +kernel, rfl⟩
theorem dX6_init_730 : Dk kX6_init 730 (.iastore) 1 731 := ⟨by decide +kernel, rfl⟩
theorem dX6_init_731 : Dk kX6_init 731 (.dup) 1 732 := ⟨by decide +kernel, rfl⟩
theorem dX6_init_732 : Dk kX6_init 732 (.bipush 55) 2 734 := ⟨by decide +kernel, rfl⟩
theorem dX6_init_734 : Dk kX6_init 734 (.bipush 32) 2 736 := ⟨by decide +kernel, rfl⟩
theorem dX6_init_736 : Dk kX6_init 736 (.iastore) 1 737 := ⟨by decide +kernel, rfl⟩
theorem dX6_init_737 : Dk kX6_init 737 (.dup) 1 738 := ⟨by decide +kernel, rfl⟩
theorem dX6_init_738 : Dk kX6_init 738 (.bipush 56) 2 740 := ⟨by decide +kernel, rfl⟩
theorem dX6_init_740 : Dk kX6_init 740 (.bipush 99) 2 742 := ⟨by decide +kernel, rfl⟩
theorem dX6_init_742 : Dk kX6_init 742 (.iastore) 1 743 := ⟨by decide +kernel, rfl⟩
theorem dX6_init_743 : Dk kX6_init 743 (.dup) 1 744 := ⟨by decide +kernel, rfl⟩
theorem dX6_init_744 : Dk kX6_init 744 (.bipush 57) 2 746 := ⟨by decide +kernel, rfl⟩
theorem dX6_init_746 : Dk kX6_init 746 (.bipush 97) 2 748 := ⟨by decide +kernel, rfl⟩
theorem dX6_init_748 : Dk kX6_init 748 (.iastore) 1 749 := ⟨by decide +kernel, rfl⟩
theorem dX6_init_749 : Dk kX6_init 749 (.dup) 1 750 := ⟨by decide +kernel, rfl⟩
theorem dX6_init_750 : Dk kX6_init 750 (.bipush 58) 2 752 := ⟨by decide +kernel, rfl⟩
theorem dX6_init_752 : Dk kX6_init 752 (.bipush 109) 2 754 := ⟨by decide +kernel, rfl⟩
theorem dX6_init_754 : Dk kX6_init 754 (.iastore) 1 755 := ⟨by decide +kernel, rfl⟩
theorem dX6_init_755 : Dk kX6_init 755 (.dup) 1 756 := ⟨by decide +kernel, rfl⟩
theorem dX6_init_756 : Dk kX6_init 756 (.bipush 59) 2 758 := ⟨by decide +kernel, rfl⟩
theorem dX6_init_758 : Dk kX6_init 758 (.bipush 101) 2 760 := ⟨by decide +kernel, rfl⟩
theorem dX6_init_760 : Dk kX6_init 760 (.iastore) 1 761 := ⟨by decide +kernel, rfl⟩
theorem dX6_init_761 : Dk kX6_init 761 (.dup) 1 762 := ⟨by decide +kernel, rfl⟩
theorem dX6_init_762 : Dk kX6_init 762 (.bipush 60) 2 764 := ⟨by decide +kernel, rfl⟩
theorem dX6_init_764 : Dk kX6_init 764 (.bipush 32) 2 766 := ⟨by decide +kernel, rfl⟩
theorem dX6_init_766 : Dk kX6_init 766 (.iastore) 1 767 := ⟨by decide +kernel, rfl⟩
theorem dX6_init_767 : Dk kX6_init 767 (.dup) 1 768 := ⟨by decide +kernel, rfl⟩
theorem dX6_init_768 : Dk kX6_init 768 (.bipush 61) 2 770 := ⟨by decide +kernel, rfl⟩
theorem dX6_init_770 : Dk kX6_init 770 (.bipush 32) 2 772 := ⟨by decide +kernel, rfl⟩
theorem dX6_init_772 : Dk kX6_init 772 (.iastore) 1 773 := ⟨by decide +kernel, rfl⟩
theorem dX6_init_773 : Dk kX6_init 773 (.dup) 1 774 := ⟨by decide +kernel, rfl⟩
theorem dX6_init_774 : Dk kX6_init 774 (.bipush 62) 2 776 := ⟨by decide +kernel, rfl⟩
theorem dX6_init_776 : Dk kX6_init 776 (.bipush 32) 2 778 := ⟨by decide +kernel, rfl⟩
theorem dX6_init_778 : Dk kX6_init 778 (.iastore) 1 779 := ⟨by decide +kernel, rfl⟩
theorem dX6_init_779 : Dk kX6_init 779 (.dup) 1 780 := ⟨by decide +kernel, rfl⟩
theorem dX6_init_780 : Dk kX6_init 780 (.bipush 63) 2 782 := ⟨by decide +kernel, rfl⟩
theorem dX6_init_782 : Dk kX6_init 782 (.bipush 32) 2 784 := ⟨by decide +kernel, rfl⟩
theorem dX6_init_784 : Dk kX6_init 784 (.iastore) 1 785 := ⟨by decide +kernel, rfl⟩
theorem dX6_init_785 : Dk kX6_init 785 (.dup) 1 786 := ⟨by decide +kernel, rfl⟩
theorem dX6_init_786 : Dk kX6_init 786 (.bipush 64) 2 788 := ⟨by decide +kernel, rfl⟩
theorem dX6_init_788 : Dk kX6_init 788 (.bipush 109) 2 790 := ⟨by decide +kernel, rfl⟩
theorem dX6_init_790 : Dk kX6_init 790 (.iastore) 1 791 := ⟨by decide +kernel, rfl⟩
theorem dX6_init_791 : Dk kX6_init 791 (.dup) 1 792 := ⟨by decide +kernel, rfl⟩
theorem dX6_init_792 : Dk kX6_init 792 (.bipush 65) 2 794 := ⟨by decide +kernel, rfl⟩
theorem dX6_init_794 : Dk kX6_init 794 (.bipush 111) 2 796 := ⟨by decide +kernel, rfl⟩
theorem dX6_init_796 : Dk kX6_init 796 (.iastore) 1 797 := ⟨by decide +kernel, rfl⟩
theorem dX6_init_797 : Dk kX6_init 797 (.dup) 1 798 := ⟨by decide +kernel, rfl⟩
theorem dX6_init_798 : Dk kX6_init 798 (.bipush 66) 2 800 := ⟨by decide +kernel, rfl⟩
theorem dX6_init_800 : Dk kX6_init 800 (.bipush 114) 2 802 := ⟨by decide +kernel, rfl⟩
theorem dX6_init_802 : Dk kX6_init 802 (.iastore) 1 803 := ⟨by decide +kernel, rfl⟩
theorem dX6_init_803 : Dk kX6_init 803 (.dup) 1 804 := ⟨by decide +kernel, rfl⟩
theorem dX6_init_804 : Dk kX6_init 804 (.bipush 67) 2 806 := ⟨by decide +kernel, rfl⟩
theorem dX6_init_806 : Dk kX6_init 806 (.bipush 101) 2 808 := ⟨by decide +kernel, rfl⟩
theorem dX6_init_808 : Dk kX6_init 808 (.iastore) 1 809 := ⟨by decide +kernel, rfl⟩
theorem dX6_init_809 : Dk kX6_init 809 (.dup) 1 810 := ⟨by decide +kernel, rfl⟩
theorem dX6_init_810 : Dk kX6_init 810 (.bipush 68) 2 812 := ⟨by decide +kernel, rfl⟩
theorem dX6_init_812 : Dk kX6_init 812 (.bipush 32) 2 814 := ⟨by decide +kernel, rfl⟩
theorem dX6_init_814 : Dk kX6_init 814 (.iastore) 1 815 := ⟨by decide +kernel, rfl⟩
theorem dX6_init_815 : Dk kX6_init 815 (.dup) 1 816 := ⟨by decide +kernel, rfl⟩
theorem dX6_init_816 : Dk kX6_init 816 (.bipush 69) 2 818 := ⟨by decide +kernel, rfl⟩
theorem dX6_init_818 : Dk kX6_init 818 (.bipush 32) 2 820 := ⟨by decide +kernel, rfl⟩
theorem dX6_init_820 : Dk kX6_init 820 (.iastore) 1 821 := ⟨by decide +kernel, rfl⟩
theorem dX6_init_821 : Dk kX6_init 821 (.dup) 1 822 := ⟨by decide +kernel, rfl⟩
theorem dX6_init_822 : Dk kX6_init 822 (.bipush 70) 2 824 := ⟨by decide +kernel, rfl⟩
theorem dX6_init_824 : Dk kX6_init 824 (.bipush 32) 2 826 := ⟨by decide +kernel, rfl⟩
theorem dX6_init_826 : Dk kX6_init 826 (.iastore) 1 827 := ⟨by decide +kernel, rfl⟩
theorem dX6_init_827 : Dk kX6_init 827 (.dup) 1 828 := ⟨by decide +kernel, rfl⟩
theorem dX6_init_828 : Dk kX6_init 828 (.bipush 71) 2 830 := ⟨by decide +kernel, rfl⟩
theorem dX6_init_830 : Dk kX6_init 830 (.bipush 32) 2 832 := ⟨by decide +kernel, rfl⟩
theorem dX6_init_832 : Dk kX6_init 832 (.iastore) 1 833 := ⟨by decide +kernel, rfl⟩
theorem dX6_init_833 : Dk kX6_init 833 (.dup) 1 834 := ⟨by decide +kernel, rfl⟩
theorem dX6_init_834 : Dk kX6_init 834 (.bipush 72) 2 836 := ⟨by decide +kernel, rfl⟩
theorem dX6_init_836 : Dk kX6_init 836 (.bipush 111) 2 838 := ⟨by decide +kernel, rfl⟩
theorem dX6_init_838 : Dk kX6_init 838 (.iastore) 1 839 := ⟨by decide +kernel, rfl⟩
theorem dX6_init_839 : Dk kX6_init 839 (.dup) 1 840 := ⟨by decide +kernel, rfl⟩
theorem dX6_init_840 : Dk kX6_init 840 (.bipush 73) 2 842 := ⟨by decide +kernel, rfl⟩
theorem dX6_init_842 : Dk kX6_init 842 (.bipush 114) 2 844 := ⟨by decide +kernel, rfl⟩
theorem dX6_init_844 : Dk kX6_init 844 (.iastore) 1 845 := ⟨by decide +kernel, rfl⟩
theorem dX6_init_845 : Dk kX6_init 845 (.dup) 1 846 := ⟨by decide +kernel, rfl⟩
theorem dX6_init_846 : Dk kX6_init 846 (.bipush 74) 2 848 := ⟨by decide +kernel, rfl⟩
theorem dX6_init_848 : Dk kX6_init 848 (.bipush 32) 2 850 := ⟨by decide +kernel, rfl⟩
theorem dX6_init_850 : Dk kX6_init 850 (.iastore) 1 851 := ⟨by decide +kernel, rfl⟩
theorem dX6_init_851 : Dk kX6_init 851 (.dup) 1 852 := ⟨by decide +kernel, rfl⟩
theorem dX6_init_852 : Dk kX6_init 852 (.bipush 75) 2 854 := ⟨by decide +kernel, rfl⟩
theorem dX6_init_854 : Dk kX6_init 854 (.bipush 32) 2 856 := ⟨by decide +kernel, rfl⟩
theorem dX6_init_856 : Dk kX6_init 856 (.iastore) 1 857 := ⟨by decide +kernel, rfl⟩
theorem dX6_init_857 : Dk kX6_init 857 (.dup) 1 858 := ⟨by decide +kernel, rfl⟩
theorem dX6_init_858 : Dk kX6_init 858 (.bipush 76) 2 860 := ⟨by decide +kernel, rfl⟩
theorem dX6_init_860 : Dk kX6_init 860 (.bipush 32) 2 862 := ⟨by decide +kernel, rfl⟩
theorem dX6_init_862 : Dk kX6_init 862 (.iastore) 1 863 := ⟨by decide +kernel, rfl⟩
theorem dX6_init_863 : Dk kX6_init 863 (.dup) 1 864 := ⟨by decide +kernel, rfl⟩
theorem dX6_init_864 : Dk kX6_init 864 (.bipush 77) 2 866 := ⟨by decide +kernel, rfl⟩
theorem dX6_init_866 : Dk kX6_init 866 (.bipush 32) 2 868 := ⟨by decide +kernel, rfl⟩
theorem dX6_init_868 : Dk kX6_init 868 (.iastore) 1 869 := ⟨by decide +kernel, rfl⟩
theorem dX6_init_869 : Dk kX6_init 869 (.dup) 1 870 := ⟨by decide +kernel, rfl⟩
theorem dX6_init_870 : Dk kX6_init 870 (.bipush 78) 2 872 := ⟨by decide +kernel, rfl⟩
theorem dX6_init_872 : Dk kX6_init 872 (.bipush 32) 2 874 := ⟨by decide +kernel, rfl⟩
theorem dX6_init_874 : Dk kX6_init 874 (.iastore) 1 875 := ⟨by decide +kernel, rfl⟩
theorem dX6_init_875 : Dk kX6_init 875 (.dup) 1 876 := ⟨by decide +kernel, rfl⟩
theorem dX6_init_876 : Dk kX6_init 876 (.bipush 79) 2 878 := ⟨by decide +kernel, rfl⟩
theorem dX6_init_878 : Dk kX6_init 878 (.bipush 32) 2 880 := ⟨by decide +kernel, rfl⟩
theorem dX6_init_880 : Dk kX6_init 880 (.iastore) 1 881 := ⟨by decide +kernel, rfl⟩
theorem dX6_init_881 : Dk kX6_init 881 (.dup) 1 882 := ⟨by decide +kernel, rfl⟩
theorem dX6_init_882 : Dk kX6_init 882 (.bipush 80) 2 884 := ⟨by decide +kernel, rfl⟩
theorem dX6_init_884 : Dk kX6_init 884 (.bipush 97) 2 886 := ⟨by decide +kernel, rfl⟩
theorem dX6_init_886 : Dk kX6_init 886 (.iastore) 1 887 := ⟨by decide +kernel, rfl⟩
theorem dX6_init_887 : Dk kX6_init 887 (.dup) 1 888 := ⟨by decide +kernel, rfl⟩
theorem dX6_init_888 : Dk kX6_init 888 (.bipush 81) 2 890 := ⟨by decide +kernel, rfl⟩
theorem dX6_init_890 : Dk kX6_init 890 (.bipush 110) 2 892 := ⟨by decide +kernel, rfl⟩
theorem dX6_init_892 : Dk kX6_init 892 (.iastore) 1 893 := ⟨by decide +kernel, rfl⟩
theorem dX6_init_893 : Dk kX6_init 893 (.dup) 1 894 := ⟨by decide +kernel, rfl⟩
theorem dX6_init_894 : Dk kX6_init 894 (.bipush 82) 2 896 := ⟨by decide +kernel, rfl⟩
theorem dX6_init_896 : Dk kX6_init 896 (.bipush 100) 2 898 := ⟨by decide +kernel, rfl⟩
theorem dX6_init_898 : Dk kX6_init 898 (.iastore) 1 899 := ⟨by decide +kernel, rfl⟩
theorem dX6_init_899 : Dk kX6_init 899 (.dup) 1 900 := ⟨by decide +kernel, rfl⟩
theorem dX6_init_900 : Dk kX6_init 900 (.bipush 83) 2 902 := ⟨by decide +kernel, rfl⟩
theorem dX6_init_902 : Dk kX6_init 902 (.bipush 32) 2 904 := ⟨by decide +kernel, rfl⟩
theorem dX6_init_904 : Dk kX6_init 904 (.iastore) 1 905 := ⟨by decide +kernel, rfl⟩
theorem dX6_init_905 : Dk kX6_init 905 (.dup) 1 906 := ⟨by decide +kernel, rfl⟩
theorem dX6_init_906 : Dk kX6_init 906 (.bipush 84) 2 908 := ⟨by decide +kernel, rfl⟩
theorem dX6_init_908 : Dk kX6_init 908 (.bipush 32) 2 910 := ⟨by decide +kernel, rfl⟩
theorem dX6_init_910 : Dk kX6_init 910 (.iastore) 1 911 := ⟨by decide +kernel, rfl⟩
theorem dX6_init_911 : Dk kX6_init 911 (.dup) 1 912 := ⟨by decide +kernel, rfl⟩
theorem dX6_init_912 : Dk kX6_init 912 (.bipush 85) 2 914 := ⟨by decide +kernel, rfl⟩
theorem dX6_init_914 : Dk kX6_init 914 (.bipush 32) 2 916 := ⟨by decide +kernel, rfl⟩
theorem dX6_init_916 : Dk kX6_init 916 (.iastore) 1 917 := ⟨by decide +kernel, rfl⟩
theorem dX6_init_917 : Dk kX6_init 917 (.dup) 1 918 := ⟨by decide +kernel, rfl⟩
theorem dX6_init_918 : Dk kX6_init 918 (.bipush 86) 2 920 := ⟨by decide +kernel, rfl⟩
theorem dX6_init_920 : Dk kX6_init 920 (.bipush 32) 2 922 := ⟨by decide +kernel, rfl⟩
theorem dX6_init_922 : Dk kX6_init 922 (.iastore) 1 923 := ⟨by decide +kernel, rfl⟩
theorem dX6_init_923 : Dk kX6_init 923 (.dup) 1 924 := ⟨by decide +kernel, rfl⟩
theorem dX6_init_924 : Dk kX6_init 924 (.bipush 87) 2 926 := ⟨by decide +kernel, rfl⟩
theorem dX6_init_926 : Dk kX6_init 926 (.bipush 32) 2 928 := ⟨by decide +kernel, rfl⟩
theorem dX6_init_928 : Dk kX6_init 928 (.iastore) 1 929 := ⟨by decide +kernel, rfl⟩
theorem dX6_init_929 : Dk kX6_init 929 (.dup) 1 930 := ⟨by decide +kernel, rfl⟩
theorem dX6_init_930 : Dk kX6_init 930 (.bipush 88) 2 932 := ⟨by decide +kernel, rfl⟩
theorem dX6_init_932 : Dk kX6_init 932 (.bipush 110) 2 934 := ⟨by decide +kernel, rfl⟩
theorem dX6_init_934 : Dk kX6_init 934 (.iastore) 1 935 := ⟨by decide +kernel, rfl⟩
theorem dX6_init_935 : Dk kX6_init 935 (.dup) 1 936 := ⟨by decide +kernel, rfl⟩
theorem dX6_init_936 : Dk kX6_init 936 (.bipush 89) 2 938 := ⟨by decide +kernel, rfl⟩
theorem dX6_init_938 : Dk kX6_init 938 (.bipush 111) 2 940 := ⟨by decide +kernel, rfl⟩
theorem dX6_init_940 : Dk kX6_init 940 (.iastore) 1 941 := ⟨by decide +kernel, rfl⟩
theorem dX6_init_941 : Dk kX6_init 941 (.dup) 1 942 := ⟨by decide +kernel, rfl⟩
theorem dX6_init_942 : Dk kX6_init 942 (.bipush 90) 2 944 := ⟨by decide +kernel, rfl⟩
theorem dX6_init_944 : Dk kX6_init 944 (.bipush 116) 2 946 := ⟨by decide +kernel, rfl⟩
theorem dX6_init_946 : Dk kX6_init 946 (.iastore) 1 947 := ⟨by decide +kernel, rfl⟩
theorem dX6_init_947 : Dk kX6_init 947 (.dup) 1 948 := ⟨by decide +kernel, rfl⟩
theorem dX6_init_948 : Dk kX6_init 948 (.bipush 91) 2 950 := ⟨by decide +kernel, rfl⟩
theorem dX6_init_950 : Dk kX6_init 950 (.bipush 32) 2 952 := ⟨by decide +kernel, rfl⟩
theorem dX6_init_952 : Dk kX6_init 952 (.iastore) 1 953 := ⟨by decide +kernel, rfl⟩
theorem dX6_init_953 : Dk kX6_init 953 (.dup) 1 954 := ⟨by decide +kernel, rfl⟩
theorem dX6_init_954 : Dk kX6_init 954 (.bipush 92) 2 956 := ⟨by decide +kernel, rfl⟩
theorem dX6_init_956 : Dk kX6_init 956 (.bipush 32) 2 958 := ⟨by decide +kernel, rfl⟩
theorem dX6_init_958 : Dk kX6_init 958 (.iastore) 1 959 := ⟨by decide +kernel, rfl⟩
theorem dX6_init_959 : Dk kX6_init 959 (.dup) 1 960 := ⟨by decide +kernel, rfl⟩
theorem dX6_init_960 : Dk kX6_init 960 (.bipush 93) 2 962 := ⟨by decide +kernel, rfl⟩
theorem dX6_init_962 : Dk kX6_init 962 (.bipush 32) 2 964 := ⟨by decide +kernel, rfl⟩
theorem dX6_init_964 : Dk kX6_init 964 (.iastore) 1 965 := ⟨by decide +kernel, rfl⟩
theorem dX6_init_965 : Dk kX6_init 965 (.dup) 1 966 := ⟨by decide +kernel, rfl⟩
theorem dX6_init_966 : Dk kX6_init 966 (.bipush 94) 2 968 := ⟨by decide +kernel, rfl⟩
theorem dX6_init_968 : Dk kX6_init 968 (.bipush 32) 2 970 := ⟨by decide +kernel, rfl⟩
theorem dX6_init_970 : Dk kX6_init 970 (.iastore) 1 971 := ⟨by decide +kernel, rfl⟩
theorem dX6_init_971 : Dk kX6_init 971 (.dup) 1 972 := ⟨by decide +kernel, rfl⟩
theorem dX6_init_972 : Dk kX6_init 972 (.bipush 95) 2 974 := ⟨by decide +kernel, rfl⟩
theorem dX6_init_974 : Dk kX6_init 974 (.bipush 32) 2 976 := ⟨by decide +kernel, rfl⟩
theorem dX6_init_976 : Dk kX6_init 976 (.iastore) 1 977 := ⟨by decide +kernel, rfl⟩
theorem dX6_init_977 : Dk kX6_init 977 (.putfield 49) 3 980 := ⟨by decide +kernel, rfl⟩
theorem dX6_init_980 : Dk kX6_init 980 (.aload_n 0) 1 981 := ⟨by decide +kernel, rfl⟩
theorem dX6_init_981 : Dk kX6_init 981 (.sipush 200) 3 984 := ⟨by decide +kernel, rfl⟩
theorem dX6_init_984 : Dk kX6_init 984 (.newarray .int) 2 986 := ⟨by decide +kernel, rfl⟩
theorem dX6_init_986 : Dk kX6_init 986 (.putfield 52) 3 989 := ⟨by decide +kernel, rfl⟩
theorem dX6_init_989 : Dk kX6_init 989 (.aload_n 0) 1 990 := ⟨by decide +kernel, rfl⟩
theorem dX6_init_990 : Dk kX6_init 990 (.sipush 200) 3 993 := ⟨by decide +kernel, rfl⟩
theorem dX6_init_993 : Dk kX6_init 993 (.newarray .int) 2 995 := ⟨by decide +kernel, rfl⟩
theorem dX6_init_995 : Dk kX6_init 995 (.putfield 55) 3 998 := ⟨by decide +kernel, rfl⟩
theorem dX6_init_998 : Dk kX6_init 998 (.aload_n 0) 1 999 := ⟨by decide +kernel, rfl⟩
theorem dX6_init_999 : Dk kX6_init 999 (.bipush 6) 2 1001 := ⟨by decide +kernel, rfl⟩
theorem dX6_init_1001 : Dk kX6_init 1001 (.newarray .int) 2 1003 := ⟨by decide +kernel, rfl⟩
theorem dX6_init_1003 : Dk kX6_init 1003 (.putfield 58) 3 1006 := ⟨by decide +kernel, rfl⟩
theorem dX6_init_1006 : Dk kX6_init 1006 (.aload_n 0) 1 1007 := ⟨by decide +kernel, rfl⟩
theorem dX6_init_1007 : Dk kX6_init 1007 (.bipush 43) 2 1009 := ⟨by decide +kernel, rfl⟩
theorem dX6_init_1009 : Dk kX6_init 1009 (.newarray .int) 2 1011 := ⟨by decide +kernel, rfl⟩
theorem dX6_init_1011 : Dk kX6_init 1011 (.putfield 61) 3 1014 := ⟨by decide +kernel, rfl⟩
theorem dX6_init_1014 : Dk kX6_init 1014 (.iconst 0) 1 1015 := ⟨by decide +kernel, rfl⟩
theorem dX6_init_1015 : Dk kX6_init 1015 (.istore_n 1) 1 1016 := ⟨by decide +kernel, rfl⟩
theorem dX6_init_1016 : Dk kX6_init 1016 (.iload_n 1) 1 1017 := ⟨by decide +kernel, rfl⟩
theorem dX6_init_1017 : Dk kX6_init 1017 (.bipush 27) 2 1019 := ⟨by decide +kernel, rfl⟩
theorem dX6_init_1019 : Dj kX6_init 1019 (fun o => .if_icmp .ge o) 3 1022 1040 := ⟨21, by decide +kernel, rfl, by decide⟩
theorem dX6_init_1022 : Dk kX6_init 1022 (.aload_n 0) 1 1023 := ⟨by decide +kernel, rfl⟩
theorem dX6_init_1023 : Dk kX6_init 1023 (.getfield 22) 3 1026 := ⟨by decide +kernel, rfl⟩
theorem dX6_init_1026 : Dk kX6_init 1026 (.iload_n 1) 1 1027 := ⟨by decide +kernel, rfl⟩
theorem dX6_init_1027 : Dk kX6_init 1027 (.aload_n 0) 1 1028 := ⟨by decide +kernel, rfl⟩
theorem dX6_init_1028 : Dk kX6_init 1028 (.getfield 46) 3 1031 := ⟨by decide +kernel, rfl⟩
theorem dX6_init_1031 : Dk kX6_init 1031 (.iload_n 1) 1 1032 := ⟨by decide +kernel, rfl⟩
theorem dX6_init_1032 : Dk kX6_init 1032 (.iaload) 1 1033 := ⟨by decide +kernel, rfl⟩
theorem dX6_init_1033 : Dk kX6_init 1033 (.iastore) 1 1034 := ⟨by decide +kernel, rfl⟩
theorem dX6_init_1034 : Dk kX6_init 1034 (.iinc 1 1) 3 1037 := ⟨by decide +kernel, rfl⟩
theorem dX6_init_1037 : Dj kX6_init 1037 (fun o => .goto o) 3 1040 1016 := ⟨-21, by decide +kernel, rfl, by decide⟩
theorem dX6_init_1040 : Dk kX6_init 1040 (.aload_n 0) 1 1041 := ⟨by decide +kernel, rfl⟩
theorem dX6_init_1041 : Dk kX6_init 1041 (.bipush 27) 2 1043 := ⟨by decide +kernel, rfl⟩
theorem dX6_init_1043 : Dk kX6_init 1043 (.putfield 64) 3 1046 := ⟨by decide +kernel, rfl⟩
theorem dX6_init_1046 : Dk kX6_init 1046 (.aload_n 0) 1 1047 := ⟨by decide +kernel, rfl⟩
theorem dX6_init_1047 : Dk kX6_init 1047 (.invokevirtual 68) 3 1050 := ⟨by decide +kernel, rfl⟩
theorem dX6_init_1050 : Dk kX6_init 1050 (.pop) 1 1051 := ⟨by decide +kernel, rfl⟩
theorem dX6_init_1051 : Dk kX6_init 1051 (.return_) 1 1052 := ⟨by decide +kernel, rfl⟩
theorem dX6_in_0 : Dk kX6_in 0 (.iload_n 0) 1 1 := ⟨by decide +kernel, rfl⟩
theorem dX6_in_1 : Dk kX6_in 1 (.iload_n 1) 1 2 := ⟨by decide +kernel, rfl⟩
theorem dX6_in_2 : Dj kX6_in 2 (fun o => .if_icmp .lt o) 3 5 14 := ⟨12, by decide +kernel, rfl, by decide⟩
theorem dX6_in_5 : Dk kX6_in 5 (.iload_n 0) 1 6 := ⟨by decide +kernel, rfl⟩
theorem dX6_in_6 : Dk kX6_in 6 (.iload_n 2) 1 7 := ⟨by decide +kernel, rfl⟩
theorem dX6_in_7 : Dj kX6_in 7 (fun o => .if_icmp .gt o) 3 10 14 := ⟨7, by decide +kernel, rfl, by decide⟩
theorem dX6_in_10 : Dk kX6_in 10 (.iconst 1) 1 11 := ⟨by decide +kernel, rfl⟩
theorem dX6_in_11 : Dj kX6_in 11 (fun o => .goto o) 3 14 15 := ⟨4, by decide +kernel, rfl, by decide⟩
theorem dX6_in_14 : Dk kX6_in 14 (.iconst 0) 1 15 := ⟨by decide +kernel, rfl⟩
theorem dX6_in_15 : Dk kX6_in 15 (.ireturn) 1 16 := ⟨by decide +kernel, rfl⟩
theorem dX6_within_0 : Dk kX6_within 0 (.iload_n 0) 1 1 := ⟨by decide +kernel, rfl⟩
theorem dX6_within_1 : Dk kX6_within 1 (.iload_n 1) 1 2 := ⟨by decide +kernel, rfl⟩
theorem dX6_within_2 : Dj kX6_within 2 (fun o => .if_icmp .ge o) 3 5 9 := ⟨7, by decide +kernel, rfl, by decide⟩
theorem dX6_within_5 : Dk kX6_within 5 (.iload_n 1) 1 6 := ⟨by decide +kernel, rfl⟩
theorem dX6_within_6 : Dj kX6_within 6 (fun o => .goto o) 3 9 19 := ⟨13, by decide +kernel, rfl, by decide⟩
theorem dX6_within_9 : Dk kX6_within 9 (.iload_n 0) 1 10 := ⟨by decide +kernel, rfl⟩
theorem dX6_within_10 : Dk kX6_within 10 (.iload_n 2) 1 11 := ⟨by decide +kernel, rfl⟩
theorem dX6_within_11 : Dj kX6_within 11 (fun o => .if_icmp .le o) 3 14 18 := ⟨7, by decide +kernel, rfl, by decide⟩
theorem dX6_within_14 : Dk kX6_within 14 (.iload_n 2) 1 15 := ⟨by decide +kernel, rfl⟩
theorem dX6_within_15 : Dj kX6_within 15 (fun o => .goto o) 3 18 19 := ⟨4, by decide +kernel, rfl, by decide⟩
theorem dX6_within_18 : Dk kX6_within 18 (.iload_n 0) 1 19 := ⟨by decide +kernel, rfl⟩
theorem dX6_within_19 : Dk kX6_within 19 (.ireturn) 1 20 := ⟨by decide +kernel, rfl⟩
theorem dX6_isOne_0 : Dk kX6_isOne 0 (.iload_n 1) 1 1 := ⟨by decide +kernel, rfl⟩
theorem dX6_isOne_1 : Dk kX6_isOne 1 (.iconst 0) 1 2 := ⟨by decide +kernel, rfl⟩
theorem dX6_isOne_2 : Dk kX6_isOne 2 (.aload_n 0) 1 3 := ⟨by decide +kernel, rfl⟩
theorem dX6_isOne_3 : Dk kX6_isOne 3 (.getfield 72) 3 6 := ⟨by decide +kernel, rfl⟩
theorem dX6_isOne_6 : Dk kX6_isOne 6 (.iconst 1) 1 7 := ⟨by decide +kernel, rfl⟩
theorem dX6_isOne_7 : Dk kX6_isOne 7 (.isub) 1 8 := ⟨by decide +kernel, rfl⟩
theorem dX6_isOne_8 : Dk kX6_isOne 8 (.invokestatic 75) 3 11 := ⟨by decide +kernel, rfl⟩
theorem dX6_isOne_11 : Dk kX6_isOne 11 (.ireturn) 1 12 := ⟨by decide +kernel, rfl⟩
theorem dX6_isDoor_0 : Dk kX6_isDoor 0 (.iload_n 0) 1 1 := ⟨by decide +kernel, rfl⟩
theorem dX6_isDoor_1 : Dk kX6_isDoor 1 (.iconst 0) 1 2 := ⟨by decide +kernel, rfl⟩
theorem dX6_isDoor_2 : Dk kX6_isDoor 2 (.bipush 7) 2 4 := ⟨by decide +kernel, rfl⟩
theorem dX6_isDoor_4 : Dk kX6_isDoor 4 (.invokestatic 75) 3 7 := ⟨by decide +kernel, rfl⟩
theorem dX6_isDoor_7 : Dk kX6_isDoor 7 (.ireturn) 1 8 := ⟨by decide +kernel, rfl⟩
theorem dX6_having_0 : Dk kX6_having 0 (.iconst 0) 1 1 := ⟨by decide +kernel, rfl⟩
theorem dX6_having_1 : Dk kX6_having 1 (.istore_n 2) 1 2 := ⟨by decide +kernel, rfl⟩
theorem dX6_having_2 : Dk kX6_having 2 (.iconst 0) 1 3 := ⟨by decide +kernel, rfl⟩
theorem dX6_having_3 : Dk kX6_having 3 (.istore_n 3) 1 4 := ⟨by decide +kernel, rfl⟩
theorem dX6_having_4 : Dk kX6_having 4 (.iload_n 3) 1 5 := ⟨by decide +kernel, rfl⟩
theorem dX6_having_5 : Dk kX6_having 5 (.bipush 8) 2 7 := ⟨by decide +kernel, rfl⟩
theorem dX6_having_7 : Dj kX6_having 7 (fun o => .if_icmp .ge o) 3 10 40 := ⟨33, by decide +kernel, rfl, by decide⟩
theorem dX6_having_10 : Dk kX6_having 10 (.iload_n 2) 1 11 := ⟨by decide +kernel, rfl⟩
theorem dX6_having_11 : Dk kX6_having 11 (.aload_n 0) 1 12 := ⟨by decide +kernel, rfl⟩
theorem dX6_having_12 : Dk kX6_having 12 (.getfield 19) 3 15 := ⟨by decide +kernel, rfl⟩
theorem dX6_having_15 : Dk kX6_having 15 (.iconst 3) 1 16 := ⟨by decide +kernel, rfl⟩
theorem dX6_having_16 : Dk kX6_having 16 (.iload_n 3) 1 17 := ⟨by decide +kernel, rfl⟩
theorem dX6_having_17 : Dk kX6_having 17 (.imul) 1 18 := ⟨by decide +kernel, rfl⟩
theorem dX6_having_18 : Dk kX6_having 18 (.iload_n 1) 1 19 := ⟨by decide +kernel, rfl⟩
theorem dX6_having_19 : Dk kX6_having 19 (.iadd) 1 20 := ⟨by decide +kernel, rfl⟩
theorem dX6_having_20 : Dk kX6_having 20 (.iaload) 1 21 := ⟨by decide +kernel, rfl⟩
theorem dX6_having_21 : Dk kX6_having 21 (.iconst (-1)) 1 22 := ⟨by decide +kernel, rfl⟩
theorem dX6_having_22 : Dj kX6_having 22 (fun o => .if_icmp .ne o) 3 25 29 := ⟨7, by decide +kernel, rfl, by decide⟩
theorem dX6_having_25 : Dk kX6_having 25 (.iconst 0) 1 26 := ⟨by decide +kernel, rfl⟩
theorem dX6_having_26 : Dj kX6_having 26 (fun o => .goto o) 3 29 32 := ⟨6, by decide +kernel, rfl, by decide⟩
theorem dX6_having_29 : Dk kX6_having 29 (.iconst 1) 1 30 := ⟨by decide +kernel, rfl⟩
theorem dX6_having_30 : Dk kX6_having 30 (.iload_n 3) 1 31 := ⟨by decide +kernel, rfl⟩
theorem dX6_having_31 : Dk kX6_having 31 (.ishl) 1 32 := ⟨by decide +kernel, rfl⟩
theorem dX6_having_32 : Dk kX6_having 32 (.ior) 1 33 := ⟨by decide +kernel, rfl⟩
theorem dX6_having_33 : Dk kX6_having 33 (.istore_n 2) 1 34 := ⟨by decide +kernel, rfl⟩
theorem dX6_having_34 : Dk kX6_having 34 (.iinc 3 1) 3 37 := ⟨by decide +kernel, rfl⟩
theorem dX6_having_37 : Dj kX6_having 37 (fun o => .goto o) 3 40 4 := ⟨-33, by decide +kernel, rfl, by decide⟩
theorem dX6_having_40 : Dk kX6_having 40 (.iload_n 2) 1 41 := ⟨by decide +kernel, rfl⟩
theorem dX6_having_41 : Dk kX6_having 41 (.ireturn) 1 42 := ⟨by decide +kernel, rfl⟩
theorem dX6_onesOf_0 : Dk kX6_onesOf 0 (.iconst 0) 1 1 := ⟨by decide +kernel, rfl⟩
theorem dX6_onesOf_1 : Dk kX6_onesOf 1 (.istore_n 1) 1 2 := ⟨by decide +kernel, rfl⟩
theorem dX6_onesOf_2 : Dk kX6_onesOf 2 (.iconst 0) 1 3 := ⟨by decide +kernel, rfl⟩
theorem dX6_onesOf_3 : Dk kX6_onesOf 3 (.istore_n 2) 1 4 := ⟨by decide +kernel, rfl⟩
theorem dX6_onesOf_4 : Dk kX6_onesOf 4 (.iload_n 2) 1 5 := ⟨by decide +kernel, rfl⟩
theorem dX6_onesOf_5 : Dk kX6_onesOf 5 (.bipush 8) 2 7 := ⟨by decide +kernel, rfl⟩
theorem dX6_onesOf_7 : Dj kX6_onesOf 7 (fun o => .if_icmp .ge o) 3 10 24 := ⟨17, by decide +kernel, rfl, by decide⟩
theorem dX6_onesOf_10 : Dk kX6_onesOf 10 (.iload_n 1) 1 11 := ⟨by decide +kernel, rfl⟩
theorem dX6_onesOf_11 : Dk kX6_onesOf 11 (.iload_n 0) 1 12 := ⟨by decide +kernel, rfl⟩
theorem dX6_onesOf_12 : Dk kX6_onesOf 12 (.iload_n 2) 1 13 := ⟨by decide +kernel, rfl⟩
theorem dX6_onesOf_13 : Dk kX6_onesOf 13 (.ishr) 1 14 := ⟨by decide +kernel, rfl⟩
theorem dX6_onesOf_14 : Dk kX6_onesOf 14 (.iconst 1) 1 15 := ⟨by decide +kernel, rfl⟩
theorem dX6_onesOf_15 : Dk kX6_onesOf 15 (.iand) 1 16 := ⟨by decide +kernel, rfl⟩
theorem dX6_onesOf_16 : Dk kX6_onesOf 16 (.iadd) 1 17 := ⟨by decide +kernel, rfl⟩
theorem dX6_onesOf_17 : Dk kX6_onesOf 17 (.istore_n 1) 1 18 := ⟨by decide +kernel, rfl⟩
theorem dX6_onesOf_18 : Dk kX6_onesOf 18 (.iinc 2 1) 3 21 := ⟨by decide +kernel, rfl⟩
theorem dX6_onesOf_21 : Dj kX6_onesOf 21 (fun o => .goto o) 3 24 4 := ⟨-17, by decide +kernel, rfl, by decide⟩
theorem dX6_onesOf_24 : Dk kX6_onesOf 24 (.iload_n 1) 1 25 := ⟨by decide +kernel, rfl⟩
theorem dX6_onesOf_25 : Dk kX6_onesOf 25 (.ireturn) 1 26 := ⟨by decide +kernel, rfl⟩
theorem dX6_count_0 : Dk kX6_count 0 (.iload_n 1) 1 1 := ⟨by decide +kernel, rfl⟩
theorem dX6_count_1 : Dk kX6_count 1 (.tableswitch 73 0 5 #[39, 44, 49, 58, 63, 68]) 39 40 := ⟨by decide +kernel, rfl⟩
theorem dX6_count_40 : Dk kX6_count 40 (.aload_n 0) 1 41 := ⟨by decide +kernel, rfl⟩
theorem dX6_count_41 : Dk kX6_count 41 (.getfield 72) 3 44 := ⟨by decide +kernel, rfl⟩
theorem dX6_count_44 : Dk kX6_count 44 (.ireturn) 1 45 := ⟨by decide +kernel, rfl⟩
theorem dX6_count_45 : Dk kX6_count 45 (.aload_n 0) 1 46 := ⟨by decide +kernel, rfl⟩
theorem dX6_count_46 : Dk kX6_count 46 (.getfield 79) 3 49 := ⟨by decide +kernel, rfl⟩
theorem dX6_count_49 : Dk kX6_count 49 (.ireturn) 1 50 := ⟨by decide +kernel, rfl⟩
theorem dX6_count_50 : Dk kX6_count 50 (.aload_n 0) 1 51 := ⟨by decide +kernel, rfl⟩
theorem dX6_count_51 : Dk kX6_count 51 (.iconst 2) 1 52 := ⟨by decide +kernel, rfl⟩
theorem dX6_count_52 : Dk kX6_count 52 (.invokevirtual 82) 3 55 := ⟨by decide +kernel, rfl⟩
theorem dX6_count_55 : Dk kX6_count 55 (.invokestatic 86) 3 58 := ⟨by decide +kernel, rfl⟩
theorem dX6_count_58 : Dk kX6_count 58 (.ireturn) 1 59 := ⟨by decide +kernel, rfl⟩
theorem dX6_count_59 : Dk kX6_count 59 (.aload_n 0) 1 60 := ⟨by decide +kernel, rfl⟩
theorem dX6_count_60 : Dk kX6_count 60 (.getfield 89) 3 63 := ⟨by decide +kernel, rfl⟩
theorem dX6_count_63 : Dk kX6_count 63 (.ireturn) 1 64 := ⟨by decide +kernel, rfl⟩
theorem dX6_count_64 : Dk kX6_count 64 (.aload_n 0) 1 65 := ⟨by decide +kernel, rfl⟩
theorem dX6_count_65 : Dk kX6_count 65 (.getfield 92) 3 68 := ⟨by decide +kernel, rfl⟩
theorem dX6_count_68 : Dk kX6_count 68 (.ireturn) 1 69 := ⟨by decide +kernel, rfl⟩
theorem dX6_count_69 : Dk kX6_count 69 (.aload_n 0) 1 70 := ⟨by decide +kernel, rfl⟩
theorem dX6_count_70 : Dk kX6_count 70 (.getfield 64) 3 73 := ⟨by decide +kernel, rfl⟩
theorem dX6_count_73 : Dk kX6_count 73 (.ireturn) 1 74 := ⟨by decide +kernel, rfl⟩
theorem dX6_count_74 : Dk kX6_count 74 (.bipush (-2)) 2 76 := ⟨by decide +kernel, rfl⟩
theorem dX6_count_76 : Dk kX6_count 76 (.ireturn) 1 77 := ⟨by decide +kernel, rfl⟩
theorem dX6_town_0 : Dk kX6_town 0 (.iload_n 1) 1 1 := ⟨by decide +kernel, rfl⟩
theorem dX6_town_1 : Dk kX6_town 1 (.iconst 0) 1 2 := ⟨by decide +kernel, rfl⟩
theorem dX6_town_2 : Dk kX6_town 2 (.iconst 2) 1 3 := ⟨by decide +kernel, rfl⟩
theorem dX6_town_3 : Dk kX6_town 3 (.invokestatic 75) 3 6 := ⟨by decide +kernel, rfl⟩
theorem dX6_town_6 : Dj kX6_town 6 (fun o => .ifCond .eq o) 3 9 20 := ⟨14, by decide +kernel, rfl, by decide⟩
theorem dX6_town_9 : Dk kX6_town 9 (.iload_n 1) 1 10 := ⟨by decide +kernel, rfl⟩
theorem dX6_town_10 : Dj kX6_town 10 (fun o => .ifCond .le o) 3 13 23 := ⟨13, by decide +kernel, rfl, by decide⟩
theorem dX6_town_13 : Dk kX6_town 13 (.iload_n 2) 1 14 := ⟨by decide +kernel, rfl⟩
theorem dX6_town_14 : Dk kX6_town 14 (.invokestatic 95) 3 17 := ⟨by decide +kernel, rfl⟩
theorem dX6_town_17 : Dj kX6_town 17 (fun o => .ifCond .ne o) 3 20 23 := ⟨6, by decide +kernel, rfl, by decide⟩
theorem dX6_town_20 : Dk kX6_town 20 (.bipush (-5)) 2 22 := ⟨by decide +kernel, rfl⟩
theorem dX6_town_22 : Dk kX6_town 22 (.ireturn) 1 23 := ⟨by decide +kernel, rfl⟩
theorem dX6_town_23 : Dk kX6_town 23 (.iload_n 1) 1 24 := ⟨by decide +kernel, rfl⟩
theorem dX6_town_24 : Dj kX6_town 24 (fun o => .ifCond .ne o) 3 27 38 := ⟨14, by decide +kernel, rfl, by decide⟩
theorem dX6_town_27 : Dk kX6_town 27 (.iload_n 3) 1 28 := ⟨by decide +kernel, rfl⟩
theorem dX6_town_28 : Dk kX6_town 28 (.iconst 0) 1 29 := ⟨by decide +kernel, rfl⟩
theorem dX6_town_29 : Dk kX6_town 29 (.sipush 9999) 3 32 := ⟨by decide +kernel, rfl⟩
theorem dX6_town_32 : Dk kX6_town 32 (.invokestatic 75) 3 35 := ⟨by decide +kernel, rfl⟩
theorem dX6_town_35 : Dj kX6_town 35 (fun o => .goto o) 3 38 71 := ⟨36, by decide +kernel, rfl, by decide⟩
theorem dX6_town_38 : Dk kX6_town 38 (.iload_n 1) 1 39 := ⟨by decide +kernel, rfl⟩
theorem dX6_town_39 : Dk kX6_town 39 (.iconst 1) 1 40 := ⟨by decide +kernel, rfl⟩
theorem dX6_town_40 : Dj kX6_town 40 (fun o => .if_icmp .ne o) 3 43 53 := ⟨13, by decide +kernel, rfl, by decide⟩
theorem dX6_town_43 : Dk kX6_town 43 (.iload_n 3) 1 44 := ⟨by decide +kernel, rfl⟩
theorem dX6_town_44 : Dk kX6_town 44 (.iconst 0) 1 45 := ⟨by decide +kernel, rfl⟩
theorem dX6_town_45 : Dk kX6_town 45 (.bipush 99) 2 47 := ⟨by decide +kernel, rfl⟩
theorem dX6_town_47 : Dk kX6_town 47 (.invokestatic 75) 3 50 := ⟨by decide +kernel, rfl⟩
theorem dX6_town_50 : Dj kX6_town 50 (fun o => .goto o) 3 53 71 := ⟨21, by decide +kernel, rfl, by decide⟩
theorem dX6_town_53 : Dk kX6_town 53 (.iload_n 3) 1 54 := ⟨by decide +kernel, rfl⟩
theorem dX6_town_54 : Dk kX6_town 54 (.iconst (-1)) 1 55 := ⟨by decide +kernel, rfl⟩
theorem dX6_town_55 : Dj kX6_town 55 (fun o => .if_icmp .eq o) 3 58 66 := ⟨11, by decide +kernel, rfl, by decide⟩
theorem dX6_town_58 : Dk kX6_town 58 (.aload_n 0) 1 59 := ⟨by decide +kernel, rfl⟩
theorem dX6_town_59 : Dk kX6_town 59 (.iload_n 3) 1 60 := ⟨by decide +kernel, rfl⟩
theorem dX6_town_60 : Dk kX6_town 60 (.invokevirtual 99) 3 63 := ⟨by decide +kernel, rfl⟩
theorem dX6_town_63 : Dj kX6_town 63 (fun o => .ifCond .eq o) 3 66 70 := ⟨7, by decide +kernel, rfl, by decide⟩
theorem dX6_town_66 : Dk kX6_town 66 (.iconst 1) 1 67 := ⟨by decide +kernel, rfl⟩
theorem dX6_town_67 : Dj kX6_town 67 (fun o => .goto o) 3 70 71 := ⟨4, by decide +kernel, rfl, by decide⟩
theorem dX6_town_70 : Dk kX6_town 70 (.iconst 0) 1 71 := ⟨by decide +kernel, rfl⟩
theorem dX6_town_71 : Dk kX6_town 71 (.istore 4) 2 73 := ⟨by decide +kernel, rfl⟩
theorem dX6_town_73 : Dk kX6_town 73 (.iload 4) 2 75 := ⟨by decide +kernel, rfl⟩
theorem dX6_town_75 : Dj kX6_town 75 (fun o => .ifCond .ne o) 3 78 81 := ⟨6, by decide +kernel, rfl, by decide⟩
theorem dX6_town_78 : Dk kX6_town 78 (.bipush (-7)) 2 80 := ⟨by decide +kernel, rfl⟩
theorem dX6_town_80 : Dk kX6_town 80 (.ireturn) 1 81 := ⟨by decide +kernel, rfl⟩
theorem dX6_town_81 : Dk kX6_town 81 (.aload_n 0) 1 82 := ⟨by decide +kernel, rfl⟩
theorem dX6_town_82 : Dk kX6_town 82 (.getfield 79) 3 85 := ⟨by decide +kernel, rfl⟩
theorem dX6_town_85 : Dk kX6_town 85 (.istore 5) 2 87 := ⟨by decide +kernel, rfl⟩
theorem dX6_town_87 : Dk kX6_town 87 (.iload_n 1) 1 88 := ⟨by decide +kernel, rfl⟩
theorem dX6_town_88 : Dj kX6_town 88 (fun o => .ifCond .ne o) 3 91 99 := ⟨11, by decide +kernel, rfl, by decide⟩
theorem dX6_town_91 : Dk kX6_town 91 (.aload_n 0) 1 92 := ⟨by decide +kernel, rfl⟩
theorem dX6_town_92 : Dk kX6_town 92 (.iload_n 3) 1 93 := ⟨by decide +kernel, rfl⟩
theorem dX6_town_93 : Dk kX6_town 93 (.putfield 79) 3 96 := ⟨by decide +kernel, rfl⟩
theorem dX6_town_96 : Dj kX6_town 96 (fun o => .goto o) 3 99 126 := ⟨30, by decide +kernel, rfl, by decide⟩
theorem dX6_town_99 : Dk kX6_town 99 (.aload_n 0) 1 100 := ⟨by decide +kernel, rfl⟩
theorem dX6_town_100 : Dk kX6_town 100 (.getfield 19) 3 103 := ⟨by decide +kernel, rfl⟩
theorem dX6_town_103 : Dk kX6_town 103 (.iconst 3) 1 104 := ⟨by decide +kernel, rfl⟩
theorem dX6_town_104 : Dk kX6_town 104 (.iload_n 2) 1 105 := ⟨by decide +kernel, rfl⟩
theorem dX6_town_105 : Dk kX6_town 105 (.imul) 1 106 := ⟨by decide +kernel, rfl⟩
theorem dX6_town_106 : Dk kX6_town 106 (.iload_n 1) 1 107 := ⟨by decide +kernel, rfl⟩
theorem dX6_town_107 : Dk kX6_town 107 (.iadd) 1 108 := ⟨by decide +kernel, rfl⟩
theorem dX6_town_108 : Dk kX6_town 108 (.iconst 1) 1 109 := ⟨by decide +kernel, rfl⟩
theorem dX6_town_109 : Dk kX6_town 109 (.isub) 1 110 := ⟨by decide +kernel, rfl⟩
theorem dX6_town_110 : Dk kX6_town 110 (.iaload) 1 111 := ⟨by decide +kernel, rfl⟩
theorem dX6_town_111 : Dk kX6_town 111 (.istore 5) 2 113 := ⟨by decide +kernel, rfl⟩
theorem dX6_town_113 : Dk kX6_town 113 (.aload_n 0) 1 114 := ⟨by decide +kernel, rfl⟩
theorem dX6_town_114 : Dk kX6_town 114 (.getfield 19) 3 117 := ⟨by decide +kernel, rfl⟩
theorem dX6_town_117 : Dk kX6_town 117 (.iconst 3) 1 118 := ⟨by decide +kernel, rfl⟩
theorem dX6_town_118 : Dk kX6_town 118 (.iload_n 2) 1 119 := ⟨by decide +kernel, rfl⟩
theorem dX6_town_119 : Dk kX6_town 119 (.imul) 1 120 := ⟨by decide +kernel, rfl⟩
theorem dX6_town_120 : Dk kX6_town 120 (.iload_n 1) 1 121 := ⟨by decide +kernel, rfl⟩
theorem dX6_town_121 : Dk kX6_town 121 (.iadd) 1 122 := ⟨by decide +kernel, rfl⟩
theorem dX6_town_122 : Dk kX6_town 122 (.iconst 1) 1 123 := ⟨by decide +kernel, rfl⟩
theorem dX6_town_123 : Dk kX6_town 123 (.isub) 1 124 := ⟨by decide +kernel, rfl⟩
theorem dX6_town_124 : Dk kX6_town 124 (.iload_n 3) 1 125 := ⟨by decide +kernel, rfl⟩
theorem dX6_town_125 : Dk kX6_town 125 (.iastore) 1 126 := ⟨by decide +kernel, rfl⟩
theorem dX6_town_126 : Dk kX6_town 126 (.iload 5) 2 128 := ⟨by decide +kernel, rfl⟩
theorem dX6_town_128 : Dk kX6_town 128 (.ireturn) 1 129 := ⟨by decide +kernel, rfl⟩
theorem dX6_whoAt_0 : Dk kX6_whoAt 0 (.iconst 0) 1 1 := ⟨by decide +kernel, rfl⟩
theorem dX6_whoAt_1 : Dk kX6_whoAt 1 (.istore_n 2) 1 2 := ⟨by decide +kernel, rfl⟩
theorem dX6_whoAt_2 : Dk kX6_whoAt 2 (.iconst 0) 1 3 := ⟨by decide +kernel, rfl⟩
theorem dX6_whoAt_3 : Dk kX6_whoAt 3 (.istore_n 3) 1 4 := ⟨by decide +kernel, rfl⟩
theorem dX6_whoAt_4 : Dk kX6_whoAt 4 (.iload_n 3) 1 5 := ⟨by decide +kernel, rfl⟩
theorem dX6_whoAt_5 : Dk kX6_whoAt 5 (.aload_n 0) 1 6 := ⟨by decide +kernel, rfl⟩
theorem dX6_whoAt_6 : Dk kX6_whoAt 6 (.getfield 72) 3 9 := ⟨by decide +kernel, rfl⟩
theorem dX6_whoAt_9 : Dj kX6_whoAt 9 (fun o => .if_icmp .ge o) 3 12 40 := ⟨31, by decide +kernel, rfl, by decide⟩
theorem dX6_whoAt_12 : Dk kX6_whoAt 12 (.iload_n 2) 1 13 := ⟨by decide +kernel, rfl⟩
theorem dX6_whoAt_13 : Dk kX6_whoAt 13 (.aload_n 0) 1 14 := ⟨by decide +kernel, rfl⟩
theorem dX6_whoAt_14 : Dk kX6_whoAt 14 (.getfield 16) 3 17 := ⟨by decide +kernel, rfl⟩
theorem dX6_whoAt_17 : Dk kX6_whoAt 17 (.iconst 3) 1 18 := ⟨by decide +kernel, rfl⟩
theorem dX6_whoAt_18 : Dk kX6_whoAt 18 (.iload_n 3) 1 19 := ⟨by decide +kernel, rfl⟩
theorem dX6_whoAt_19 : Dk kX6_whoAt 19 (.imul) 1 20 := ⟨by decide +kernel, rfl⟩
theorem dX6_whoAt_20 : Dk kX6_whoAt 20 (.iaload) 1 21 := ⟨by decide +kernel, rfl⟩
theorem dX6_whoAt_21 : Dk kX6_whoAt 21 (.iload_n 1) 1 22 := ⟨by decide +kernel, rfl⟩
theorem dX6_whoAt_22 : Dj kX6_whoAt 22 (fun o => .if_icmp .ne o) 3 25 31 := ⟨9, by decide +kernel, rfl, by decide⟩
theorem dX6_whoAt_25 : Dk kX6_whoAt 25 (.iconst 1) 1 26 := ⟨by decide +kernel, rfl⟩
theorem dX6_whoAt_26 : Dk kX6_whoAt 26 (.iload_n 3) 1 27 := ⟨by decide +kernel, rfl⟩
theorem dX6_whoAt_27 : Dk kX6_whoAt 27 (.ishl) 1 28 := ⟨by decide +kernel, rfl⟩
theorem dX6_whoAt_28 : Dj kX6_whoAt 28 (fun o => .goto o) 3 31 32 := ⟨4, by decide +kernel, rfl, by decide⟩
theorem dX6_whoAt_31 : Dk kX6_whoAt 31 (.iconst 0) 1 32 := ⟨by decide +kernel, rfl⟩
theorem dX6_whoAt_32 : Dk kX6_whoAt 32 (.ior) 1 33 := ⟨by decide +kernel, rfl⟩
theorem dX6_whoAt_33 : Dk kX6_whoAt 33 (.istore_n 2) 1 34 := ⟨by decide +kernel, rfl⟩
theorem dX6_whoAt_34 : Dk kX6_whoAt 34 (.iinc 3 1) 3 37 := ⟨by decide +kernel, rfl⟩
theorem dX6_whoAt_37 : Dj kX6_whoAt 37 (fun o => .goto o) 3 40 4 := ⟨-33, by decide +kernel, rfl, by decide⟩
theorem dX6_whoAt_40 : Dk kX6_whoAt 40 (.iload_n 2) 1 41 := ⟨by decide +kernel, rfl⟩
theorem dX6_whoAt_41 : Dk kX6_whoAt 41 (.ireturn) 1 42 := ⟨by decide +kernel, rfl⟩
theorem dX6_door_0 : Dk kX6_door 0 (.iload_n 1) 1 1 := ⟨by decide +kernel, rfl⟩
theorem dX6_door_1 : Dk kX6_door 1 (.invokestatic 95) 3 4 := ⟨by decide +kernel, rfl⟩
theorem dX6_door_4 : Dj kX6_door 4 (fun o => .ifCond .ne o) 3 7 10 := ⟨6, by decide +kernel, rfl, by decide⟩
theorem dX6_door_7 : Dk kX6_door 7 (.bipush (-5)) 2 9 := ⟨by decide +kernel, rfl⟩
theorem dX6_door_9 : Dk kX6_door 9 (.ireturn) 1 10 := ⟨by decide +kernel, rfl⟩
theorem dX6_door_10 : Dk kX6_door 10 (.iload_n 2) 1 11 := ⟨by decide +kernel, rfl⟩
theorem dX6_door_11 : Dk kX6_door 11 (.tableswitch 66 0 3 #[29, 40, 51, 60]) 29 40 := ⟨by decide +kernel, rfl⟩
theorem dX6_door_40 : Dk kX6_door 40 (.aload_n 0) 1 41 := ⟨by decide +kernel, rfl⟩
theorem dX6_door_41 : Dk kX6_door 41 (.getfield 19) 3 44 := ⟨by decide +kernel, rfl⟩
theorem dX6_door_44 : Dk kX6_door 44 (.iconst 3) 1 45 := ⟨by decide +kernel, rfl⟩
theorem dX6_door_45 : Dk kX6_door 45 (.iload_n 1) 1 46 := ⟨by decide +kernel, rfl⟩
theorem dX6_door_46 : Dk kX6_door 46 (.imul) 1 47 := ⟨by decide +kernel, rfl⟩
theorem dX6_door_47 : Dk kX6_door 47 (.iconst 1) 1 48 := ⟨by decide +kernel, rfl⟩
theorem dX6_door_48 : Dk kX6_door 48 (.iadd) 1 49 := ⟨by decide +kernel, rfl⟩
theorem dX6_door_49 : Dk kX6_door 49 (.iaload) 1 50 := ⟨by decide +kernel, rfl⟩
theorem dX6_door_50 : Dk kX6_door 50 (.ireturn) 1 51 := ⟨by decide +kernel, rfl⟩
theorem dX6_door_51 : Dk kX6_door 51 (.aload_n 0) 1 52 := ⟨by decide +kernel, rfl⟩
theorem dX6_door_52 : Dk kX6_door 52 (.getfield 19) 3 55 := ⟨by decide +kernel, rfl⟩
theorem dX6_door_55 : Dk kX6_door 55 (.iconst 3) 1 56 := ⟨by decide +kernel, rfl⟩
theorem dX6_door_56 : Dk kX6_door 56 (.iload_n 1) 1 57 := ⟨by decide +kernel, rfl⟩
theorem dX6_door_57 : Dk kX6_door 57 (.imul) 1 58 := ⟨by decide +kernel, rfl⟩
theorem dX6_door_58 : Dk kX6_door 58 (.iconst 2) 1 59 := ⟨by decide +kernel, rfl⟩
theorem dX6_door_59 : Dk kX6_door 59 (.iadd) 1 60 := ⟨by decide +kernel, rfl⟩
theorem dX6_door_60 : Dk kX6_door 60 (.iaload) 1 61 := ⟨by decide +kernel, rfl⟩
theorem dX6_door_61 : Dk kX6_door 61 (.ireturn) 1 62 := ⟨by decide +kernel, rfl⟩
theorem dX6_door_62 : Dk kX6_door 62 (.aload_n 0) 1 63 := ⟨by decide +kernel, rfl⟩
theorem dX6_door_63 : Dk kX6_door 63 (.getfield 19) 3 66 := ⟨by decide +kernel, rfl⟩
theorem dX6_door_66 : Dk kX6_door 66 (.iconst 3) 1 67 := ⟨by decide +kernel, rfl⟩
theorem dX6_door_67 : Dk kX6_door 67 (.iload_n 1) 1 68 := ⟨by decide +kernel, rfl⟩
theorem dX6_door_68 : Dk kX6_door 68 (.imul) 1 69 := ⟨by decide +kernel, rfl⟩
theorem dX6_door_69 : Dk kX6_door 69 (.iaload) 1 70 := ⟨by decide +kernel, rfl⟩
theorem dX6_door_70 : Dk kX6_door 70 (.ireturn) 1 71 := ⟨by decide +kernel, rfl⟩
theorem dX6_door_71 : Dk kX6_door 71 (.aload_n 0) 1 72 := ⟨by decide +kernel, rfl⟩
theorem dX6_door_72 : Dk kX6_door 72 (.iload_n 1) 1 73 := ⟨by decide +kernel, rfl⟩
theorem dX6_door_73 : Dk kX6_door 73 (.invokevirtual 102) 3 76 := ⟨by decide +kernel, rfl⟩
theorem dX6_door_76 : Dk kX6_door 76 (.ireturn) 1 77 := ⟨by decide +kernel, rfl⟩
theorem dX6_door_77 : Dk kX6_door 77 (.bipush (-7)) 2 79 := ⟨by decide +kernel, rfl⟩
theorem dX6_door_79 : Dk kX6_door 79 (.ireturn) 1 80 := ⟨by decide +kernel, rfl⟩
theorem dX6_isByte_0 : Dk kX6_isByte 0 (.iload_n 0) 1 1 := ⟨by decide +kernel, rfl⟩
theorem dX6_isByte_1 : Dk kX6_isByte 1 (.iconst 0) 1 2 := ⟨by decide +kernel, rfl⟩
theorem dX6_isByte_2 : Dk kX6_isByte 2 (.sipush 255) 3 5 := ⟨by decide +kernel, rfl⟩
theorem dX6_isByte_5 : Dk kX6_isByte 5 (.invokestatic 75) 3 8 := ⟨by decide +kernel, rfl⟩
theorem dX6_isByte_8 : Dk kX6_isByte 8 (.ireturn) 1 9 := ⟨by decide +kernel, rfl⟩
theorem dX6_feed_0 : Dk kX6_feed 0 (.iload_n 1) 1 1 := ⟨by decide +kernel, rfl⟩
theorem dX6_feed_1 : Dk kX6_feed 1 (.iconst 1) 1 2 := ⟨by decide +kernel, rfl⟩
theorem dX6_feed_2 : Dk kX6_feed 2 (.iconst 5) 1 3 := ⟨by decide +kernel, rfl⟩
theorem dX6_feed_3 : Dk kX6_feed 3 (.invokestatic 75) 3 6 := ⟨by decide +kernel, rfl⟩
theorem dX6_feed_6 : Dj kX6_feed 6 (fun o => .ifCond .eq o) 3 9 47 := ⟨41, by decide +kernel, rfl, by decide⟩
theorem dX6_feed_9 : Dk kX6_feed 9 (.iload_n 2) 1 10 := ⟨by decide +kernel, rfl⟩
theorem dX6_feed_10 : Dk kX6_feed 10 (.invokestatic 105) 3 13 := ⟨by decide +kernel, rfl⟩
theorem dX6_feed_13 : Dj kX6_feed 13 (fun o => .ifCond .eq o) 3 16 47 := ⟨34, by decide +kernel, rfl, by decide⟩
theorem dX6_feed_16 : Dk kX6_feed 16 (.iload_n 3) 1 17 := ⟨by decide +kernel, rfl⟩
theorem dX6_feed_17 : Dk kX6_feed 17 (.invokestatic 105) 3 20 := ⟨by decide +kernel, rfl⟩
theorem dX6_feed_20 : Dj kX6_feed 20 (fun o => .ifCond .eq o) 3 23 47 := ⟨27, by decide +kernel, rfl, by decide⟩
theorem dX6_feed_23 : Dk kX6_feed 23 (.iload 4) 2 25 := ⟨by decide +kernel, rfl⟩
theorem dX6_feed_25 : Dk kX6_feed 25 (.invokestatic 105) 3 28 := ⟨by decide +kernel, rfl⟩
theorem dX6_feed_28 : Dj kX6_feed 28 (fun o => .ifCond .eq o) 3 31 47 := ⟨19, by decide +kernel, rfl, by decide⟩
theorem dX6_feed_31 : Dk kX6_feed 31 (.iload 5) 2 33 := ⟨by decide +kernel, rfl⟩
theorem dX6_feed_33 : Dk kX6_feed 33 (.invokestatic 105) 3 36 := ⟨by decide +kernel, rfl⟩
theorem dX6_feed_36 : Dj kX6_feed 36 (fun o => .ifCond .eq o) 3 39 47 := ⟨11, by decide +kernel, rfl, by decide⟩
theorem dX6_feed_39 : Dk kX6_feed 39 (.iload 6) 2 41 := ⟨by decide +kernel, rfl⟩
theorem dX6_feed_41 : Dk kX6_feed 41 (.invokestatic 105) 3 44 := ⟨by decide +kernel, rfl⟩
theorem dX6_feed_44 : Dj kX6_feed 44 (fun o => .ifCond .ne o) 3 47 50 := ⟨6, by decide +kernel, rfl, by decide⟩
theorem dX6_feed_47 : Dk kX6_feed 47 (.bipush (-2)) 2 49 := ⟨by decide +kernel, rfl⟩
theorem dX6_feed_49 : Dk kX6_feed 49 (.ireturn) 1 50 := ⟨by decide +kernel, rfl⟩
theorem dX6_feed_50 : Dk kX6_feed 50 (.aload_n 0) 1 51 := ⟨by decide +kernel, rfl⟩
theorem dX6_feed_51 : Dk kX6_feed 51 (.getfield 64) 3 54 := ⟨by decide +kernel, rfl⟩
theorem dX6_feed_54 : Dk kX6_feed 54 (.iload_n 1) 1 55 := ⟨by decide +kernel, rfl⟩
theorem dX6_feed_55 : Dk kX6_feed 55 (.iadd) 1 56 := ⟨by decide +kernel, rfl⟩
theorem dX6_feed_56 : Dk kX6_feed 56 (.sipush 160) 3 59 := ⟨by decide +kernel, rfl⟩
theorem dX6_feed_59 : Dj kX6_feed 59 (fun o => .if_icmp .le o) 3 62 65 := ⟨6, by decide +kernel, rfl, by decide⟩
theorem dX6_feed_62 : Dk kX6_feed 62 (.bipush (-4)) 2 64 := ⟨by decide +kernel, rfl⟩
theorem dX6_feed_64 : Dk kX6_feed 64 (.ireturn) 1 65 := ⟨by decide +kernel, rfl⟩
theorem dX6_feed_65 : Dk kX6_feed 65 (.iconst 0) 1 66 := ⟨by decide +kernel, rfl⟩
theorem dX6_feed_66 : Dk kX6_feed 66 (.istore 7) 2 68 := ⟨by decide +kernel, rfl⟩
theorem dX6_feed_68 : Dk kX6_feed 68 (.iload 7) 2 70 := ⟨by decide +kernel, rfl⟩
theorem dX6_feed_70 : Dk kX6_feed 70 (.iload_n 1) 1 71 := ⟨by decide +kernel, rfl⟩
theorem dX6_feed_71 : Dj kX6_feed 71 (fun o => .if_icmp .ge o) 3 74 142 := ⟨71, by decide +kernel, rfl, by decide⟩
theorem dX6_feed_74 : Dk kX6_feed 74 (.aload_n 0) 1 75 := ⟨by decide +kernel, rfl⟩
theorem dX6_feed_75 : Dk kX6_feed 75 (.getfield 22) 3 78 := ⟨by decide +kernel, rfl⟩
theorem dX6_feed_78 : Dk kX6_feed 78 (.aload_n 0) 1 79 := ⟨by decide +kernel, rfl⟩
theorem dX6_feed_79 : Dk kX6_feed 79 (.getfield 64) 3 82 := ⟨by decide +kernel, rfl⟩
theorem dX6_feed_82 : Dk kX6_feed 82 (.iload 7) 2 84 := ⟨by decide +kernel, rfl⟩
theorem dX6_feed_84 : Dj kX6_feed 84 (fun o => .ifCond .ne o) 3 87 91 := ⟨7, by decide +kernel, rfl, by decide⟩
theorem dX6_feed_87 : Dk kX6_feed 87 (.iload_n 2) 1 88 := ⟨by decide +kernel, rfl⟩
theorem dX6_feed_88 : Dj kX6_feed 88 (fun o => .goto o) 3 91 125 := ⟨37, by decide +kernel, rfl, by decide⟩
theorem dX6_feed_91 : Dk kX6_feed 91 (.iload 7) 2 93 := ⟨by decide +kernel, rfl⟩
theorem dX6_feed_93 : Dk kX6_feed 93 (.iconst 1) 1 94 := ⟨by decide +kernel, rfl⟩
theorem dX6_feed_94 : Dj kX6_feed 94 (fun o => .if_icmp .ne o) 3 97 101 := ⟨7, by decide +kernel, rfl, by decide⟩
theorem dX6_feed_97 : Dk kX6_feed 97 (.iload_n 3) 1 98 := ⟨by decide +kernel, rfl⟩
theorem dX6_feed_98 : Dj kX6_feed 98 (fun o => .goto o) 3 101 125 := ⟨27, by decide +kernel, rfl, by decide⟩
theorem dX6_feed_101 : Dk kX6_feed 101 (.iload 7) 2 103 := ⟨by decide +kernel, rfl⟩
theorem dX6_feed_103 : Dk kX6_feed 103 (.iconst 2) 1 104 := ⟨by decide +kernel, rfl⟩
theorem dX6_feed_104 : Dj kX6_feed 104 (fun o => .if_icmp .ne o) 3 107 112 := ⟨8, by decide +kernel, rfl, by decide⟩
theorem dX6_feed_107 : Dk kX6_feed 107 (.iload 4) 2 109 := ⟨by decide +kernel, rfl⟩
theorem dX6_feed_109 : Dj kX6_feed 109 (fun o => .goto o) 3 112 125 := ⟨16, by decide +kernel, rfl, by decide⟩
theorem dX6_feed_112 : Dk kX6_feed 112 (.iload 7) 2 114 := ⟨by decide +kernel, rfl⟩
theorem dX6_feed_114 : Dk kX6_feed 114 (.iconst 3) 1 115 := ⟨by decide +kernel, rfl⟩
theorem dX6_feed_115 : Dj kX6_feed 115 (fun o => .if_icmp .ne o) 3 118 123 := ⟨8, by decide +kernel, rfl, by decide⟩
theorem dX6_feed_118 : Dk kX6_feed 118 (.iload 5) 2 120 := ⟨by decide +kernel, rfl⟩
theorem dX6_feed_120 : Dj kX6_feed 120 (fun o => .goto o) 3 123 125 := ⟨5, by decide +kernel, rfl, by decide⟩
theorem dX6_feed_123 : Dk kX6_feed 123 (.iload 6) 2 125 := ⟨by decide +kernel, rfl⟩
theorem dX6_feed_125 : Dk kX6_feed 125 (.iastore) 1 126 := ⟨by decide +kernel, rfl⟩
theorem dX6_feed_126 : Dk kX6_feed 126 (.aload_n 0) 1 127 := ⟨by decide +kernel, rfl⟩
theorem dX6_feed_127 : Dk kX6_feed 127 (.dup) 1 128 := ⟨by decide +kernel, rfl⟩
theorem dX6_feed_128 : Dk kX6_feed 128 (.getfield 64) 3 131 := ⟨by decide +kernel, rfl⟩
theorem dX6_feed_131 : Dk kX6_feed 131 (.iconst 1) 1 132 := ⟨by decide +kernel, rfl⟩
theorem dX6_feed_132 : Dk kX6_feed 132 (.iadd) 1 133 := ⟨by decide +kernel, rfl⟩
theorem dX6_feed_133 : Dk kX6_feed 133 (.putfield 64) 3 136 := ⟨by decide +kernel, rfl⟩
theorem dX6_feed_136 : Dk kX6_feed 136 (.iinc 7 1) 3 139 := ⟨by decide +kernel, rfl⟩
theorem dX6_feed_139 : Dj kX6_feed 139 (fun o => .goto o) 3 142 68 := ⟨-71, by decide +kernel, rfl, by decide⟩
theorem dX6_feed_142 : Dk kX6_feed 142 (.aload_n 0) 1 143 := ⟨by decide +kernel, rfl⟩
theorem dX6_feed_143 : Dk kX6_feed 143 (.getfield 64) 3 146 := ⟨by decide +kernel, rfl⟩
theorem dX6_feed_146 : Dk kX6_feed 146 (.ireturn) 1 147 := ⟨by decide +kernel, rfl⟩
theorem dX6_wordFrom_0 : Dk kX6_wordFrom 0 (.iconst 0) 1 1 := ⟨by decide +kernel, rfl⟩
theorem dX6_wordFrom_1 : Dk kX6_wordFrom 1 (.istore_n 3) 1 2 := ⟨by decide +kernel, rfl⟩
theorem dX6_wordFrom_2 : Dk kX6_wordFrom 2 (.iload_n 3) 1 3 := ⟨by decide +kernel, rfl⟩
theorem dX6_wordFrom_3 : Dk kX6_wordFrom 3 (.bipush 12) 2 5 := ⟨by decide +kernel, rfl⟩
theorem dX6_wordFrom_5 : Dj kX6_wordFrom 5 (fun o => .if_icmp .ge o) 3 8 101 := ⟨96, by decide +kernel, rfl, by decide⟩
theorem dX6_wordFrom_8 : Dk kX6_wordFrom 8 (.iload_n 2) 1 9 := ⟨by decide +kernel, rfl⟩
theorem dX6_wordFrom_9 : Dk kX6_wordFrom 9 (.iload_n 1) 1 10 := ⟨by decide +kernel, rfl⟩
theorem dX6_wordFrom_10 : Dk kX6_wordFrom 10 (.isub) 1 11 := ⟨by decide +kernel, rfl⟩
theorem dX6_wordFrom_11 : Dk kX6_wordFrom 11 (.bipush 8) 2 13 := ⟨by decide +kernel, rfl⟩
theorem dX6_wordFrom_13 : Dj kX6_wordFrom 13 (fun o => .if_icmp .gt o) 3 16 20 := ⟨7, by decide +kernel, rfl, by decide⟩
theorem dX6_wordFrom_16 : Dk kX6_wordFrom 16 (.iconst 1) 1 17 := ⟨by decide +kernel, rfl⟩
theorem dX6_wordFrom_17 : Dj kX6_wordFrom 17 (fun o => .goto o) 3 20 21 := ⟨4, by decide +kernel, rfl, by decide⟩
theorem dX6_wordFrom_20 : Dk kX6_wordFrom 20 (.iconst 0) 1 21 := ⟨by decide +kernel, rfl⟩
theorem dX6_wordFrom_21 : Dk kX6_wordFrom 21 (.istore 4) 2 23 := ⟨by decide +kernel, rfl⟩
theorem dX6_wordFrom_23 : Dk kX6_wordFrom 23 (.iconst 0) 1 24 := ⟨by decide +kernel, rfl⟩
theorem dX6_wordFrom_24 : Dk kX6_wordFrom 24 (.istore 5) 2 26 := ⟨by decide +kernel, rfl⟩
theorem dX6_wordFrom_26 : Dk kX6_wordFrom 26 (.iload 5) 2 28 := ⟨by decide +kernel, rfl⟩
theorem dX6_wordFrom_28 : Dk kX6_wordFrom 28 (.bipush 8) 2 30 := ⟨by decide +kernel, rfl⟩
theorem dX6_wordFrom_30 : Dj kX6_wordFrom 30 (fun o => .if_icmp .ge o) 3 33 88 := ⟨58, by decide +kernel, rfl, by decide⟩
theorem dX6_wordFrom_33 : Dk kX6_wordFrom 33 (.iload 4) 2 35 := ⟨by decide +kernel, rfl⟩
theorem dX6_wordFrom_35 : Dj kX6_wordFrom 35 (fun o => .ifCond .eq o) 3 38 88 := ⟨53, by decide +kernel, rfl, by decide⟩
theorem dX6_wordFrom_38 : Dk kX6_wordFrom 38 (.aload_n 0) 1 39 := ⟨by decide +kernel, rfl⟩
theorem dX6_wordFrom_39 : Dk kX6_wordFrom 39 (.getfield 49) 3 42 := ⟨by decide +kernel, rfl⟩
theorem dX6_wordFrom_42 : Dk kX6_wordFrom 42 (.bipush 8) 2 44 := ⟨by decide +kernel, rfl⟩
theorem dX6_wordFrom_44 : Dk kX6_wordFrom 44 (.iload_n 3) 1 45 := ⟨by decide +kernel, rfl⟩
theorem dX6_wordFrom_45 : Dk kX6_wordFrom 45 (.imul) 1 46 := ⟨by decide +kernel, rfl⟩
theorem dX6_wordFrom_46 : Dk kX6_wordFrom 46 (.iload 5) 2 48 := ⟨by decide +kernel, rfl⟩
theorem dX6_wordFrom_48 : Dk kX6_wordFrom 48 (.iadd) 1 49 := ⟨by decide +kernel, rfl⟩
theorem dX6_wordFrom_49 : Dk kX6_wordFrom 49 (.iaload) 1 50 := ⟨by decide +kernel, rfl⟩
theorem dX6_wordFrom_50 : Dk kX6_wordFrom 50 (.iload_n 1) 1 51 := ⟨by decide +kernel, rfl⟩
theorem dX6_wordFrom_51 : Dk kX6_wordFrom 51 (.iload 5) 2 53 := ⟨by decide +kernel, rfl⟩
theorem dX6_wordFrom_53 : Dk kX6_wordFrom 53 (.iadd) 1 54 := ⟨by decide +kernel, rfl⟩
theorem dX6_wordFrom_54 : Dk kX6_wordFrom 54 (.iload_n 2) 1 55 := ⟨by decide +kernel, rfl⟩
theorem dX6_wordFrom_55 : Dj kX6_wordFrom 55 (fun o => .if_icmp .ge o) 3 58 70 := ⟨15, by decide +kernel, rfl, by decide⟩
theorem dX6_wordFrom_58 : Dk kX6_wordFrom 58 (.aload_n 0) 1 59 := ⟨by decide +kernel, rfl⟩
theorem dX6_wordFrom_59 : Dk kX6_wordFrom 59 (.getfield 22) 3 62 := ⟨by decide +kernel, rfl⟩
theorem dX6_wordFrom_62 : Dk kX6_wordFrom 62 (.iload_n 1) 1 63 := ⟨by decide +kernel, rfl⟩
theorem dX6_wordFrom_63 : Dk kX6_wordFrom 63 (.iload 5) 2 65 := ⟨by decide +kernel, rfl⟩
theorem dX6_wordFrom_65 : Dk kX6_wordFrom 65 (.iadd) 1 66 := ⟨by decide +kernel, rfl⟩
theorem dX6_wordFrom_66 : Dk kX6_wordFrom 66 (.iaload) 1 67 := ⟨by decide +kernel, rfl⟩
theorem dX6_wordFrom_67 : Dj kX6_wordFrom 67 (fun o => .goto o) 3 70 72 := ⟨5, by decide +kernel, rfl, by decide⟩
theorem dX6_wordFrom_70 : Dk kX6_wordFrom 70 (.bipush 32) 2 72 := ⟨by decide +kernel, rfl⟩
theorem dX6_wordFrom_72 : Dj kX6_wordFrom 72 (fun o => .if_icmp .ne o) 3 75 79 := ⟨7, by decide +kernel, rfl, by decide⟩
theorem dX6_wordFrom_75 : Dk kX6_wordFrom 75 (.iconst 1) 1 76 := ⟨by decide +kernel, rfl⟩
theorem dX6_wordFrom_76 : Dj kX6_wordFrom 76 (fun o => .goto o) 3 79 80 := ⟨4, by decide +kernel, rfl, by decide⟩
theorem dX6_wordFrom_79 : Dk kX6_wordFrom 79 (.iconst 0) 1 80 := ⟨by decide +kernel, rfl⟩
theorem dX6_wordFrom_80 : Dk kX6_wordFrom 80 (.istore 4) 2 82 := ⟨by decide +kernel, rfl⟩
theorem dX6_wordFrom_82 : Dk kX6_wordFrom 82 (.iinc 5 1) 3 85 := ⟨by decide +kernel, rfl⟩
theorem dX6_wordFrom_85 : Dj kX6_wordFrom 85 (fun o => .goto o) 3 88 26 := ⟨-59, by decide +kernel, rfl, by decide⟩
theorem dX6_wordFrom_88 : Dk kX6_wordFrom 88 (.iload 4) 2 90 := ⟨by decide +kernel, rfl⟩
theorem dX6_wordFrom_90 : Dj kX6_wordFrom 90 (fun o => .ifCond .eq o) 3 93 95 := ⟨5, by decide +kernel, rfl, by decide⟩
theorem dX6_wordFrom_93 : Dk kX6_wordFrom 93 (.iload_n 3) 1 94 := ⟨by decide +kernel, rfl⟩
theorem dX6_wordFrom_94 : Dk kX6_wordFrom 94 (.ireturn) 1 95 := ⟨by decide +kernel, rfl⟩
theorem dX6_wordFrom_95 : Dk kX6_wordFrom 95 (.iinc 3 1) 3 98 := ⟨by decide +kernel, rfl⟩
theorem dX6_wordFrom_98 : Dj kX6_wordFrom 98 (fun o => .goto o) 3 101 2 := ⟨-96, by decide +kernel, rfl, by decide⟩
theorem dX6_wordFrom_101 : Dk kX6_wordFrom 101 (.bipush 12) 2 103 := ⟨by decide +kernel, rfl⟩
theorem dX6_wordFrom_103 : Dk kX6_wordFrom 103 (.ireturn) 1 104 := ⟨by decide +kernel, rfl⟩
theorem dX6_next_0 : Dk kX6_next 0 (.aload_n 0) 1 1 := ⟨by decide +kernel, rfl⟩
theorem dX6_next_1 : Dk kX6_next 1 (.getfield 108) 3 4 := ⟨by decide +kernel, rfl⟩
theorem dX6_next_4 : Dk kX6_next 4 (.aload_n 0) 1 5 := ⟨by decide +kernel, rfl⟩
theorem dX6_next_5 : Dk kX6_next 5 (.getfield 64) 3 8 := ⟨by decide +kernel, rfl⟩
theorem dX6_next_8 : Dj kX6_next 8 (fun o => .if_icmp .ge o) 3 11 52 := ⟨44, by decide +kernel, rfl, by decide⟩
theorem dX6_next_11 : Dk kX6_next 11 (.aload_n 0) 1 12 := ⟨by decide +kernel, rfl⟩
theorem dX6_next_12 : Dk kX6_next 12 (.getfield 22) 3 15 := ⟨by decide +kernel, rfl⟩
theorem dX6_next_15 : Dk kX6_next 15 (.aload_n 0) 1 16 := ⟨by decide +kernel, rfl⟩
theorem dX6_next_16 : Dk kX6_next 16 (.getfield 108) 3 19 := ⟨by decide +kernel, rfl⟩
theorem dX6_next_19 : Dk kX6_next 19 (.iaload) 1 20 := ⟨by decide +kernel, rfl⟩
theorem dX6_next_20 : Dk kX6_next 20 (.bipush 32) 2 22 := ⟨by decide +kernel, rfl⟩
theorem dX6_next_22 : Dj kX6_next 22 (fun o => .if_icmp .eq o) 3 25 39 := ⟨17, by decide +kernel, rfl, by decide⟩
theorem dX6_next_25 : Dk kX6_next 25 (.aload_n 0) 1 26 := ⟨by decide +kernel, rfl⟩
theorem dX6_next_26 : Dk kX6_next 26 (.getfield 22) 3 29 := ⟨by decide +kernel, rfl⟩
theorem dX6_next_29 : Dk kX6_next 29 (.aload_n 0) 1 30 := ⟨by decide +kernel, rfl⟩
theorem dX6_next_30 : Dk kX6_next 30 (.getfield 108) 3 33 := ⟨by decide +kernel, rfl⟩
theorem dX6_next_33 : Dk kX6_next 33 (.iaload) 1 34 := ⟨by decide +kernel, rfl⟩
theorem dX6_next_34 : Dk kX6_next 34 (.bipush 10) 2 36 := ⟨by decide +kernel, rfl⟩
theorem dX6_next_36 : Dj kX6_next 36 (fun o => .if_icmp .ne o) 3 39 52 := ⟨16, by decide +kernel, rfl, by decide⟩
theorem dX6_next_39 : Dk kX6_next 39 (.aload_n 0) 1 40 := ⟨by decide +kernel, rfl⟩
theorem dX6_next_40 : Dk kX6_next 40 (.dup) 1 41 := ⟨by decide +kernel, rfl⟩
theorem dX6_next_41 : Dk kX6_next 41 (.getfield 108) 3 44 := ⟨by decide +kernel, rfl⟩
theorem dX6_next_44 : Dk kX6_next 44 (.iconst 1) 1 45 := ⟨by decide +kernel, rfl⟩
theorem dX6_next_45 : Dk kX6_next 45 (.iadd) 1 46 := ⟨by decide +kernel, rfl⟩
theorem dX6_next_46 : Dk kX6_next 46 (.putfield 108) 3 49 := ⟨by decide +kernel, rfl⟩
theorem dX6_next_49 : Dj kX6_next 49 (fun o => .goto o) 3 52 0 := ⟨-49, by decide +kernel, rfl, by decide⟩
theorem dX6_next_52 : Dk kX6_next 52 (.aload_n 0) 1 53 := ⟨by decide +kernel, rfl⟩
theorem dX6_next_53 : Dk kX6_next 53 (.aload_n 0) 1 54 := ⟨by decide +kernel, rfl⟩
theorem dX6_next_54 : Dk kX6_next 54 (.getfield 108) 3 57 := ⟨by decide +kernel, rfl⟩
theorem dX6_next_57 : Dk kX6_next 57 (.putfield 111) 3 60 := ⟨by decide +kernel, rfl⟩
theorem dX6_next_60 : Dk kX6_next 60 (.aload_n 0) 1 61 := ⟨by decide +kernel, rfl⟩
theorem dX6_next_61 : Dk kX6_next 61 (.iconst 0) 1 62 := ⟨by decide +kernel, rfl⟩
theorem dX6_next_62 : Dk kX6_next 62 (.putfield 114) 3 65 := ⟨by decide +kernel, rfl⟩
theorem dX6_next_65 : Dk kX6_next 65 (.aload_n 0) 1 66 := ⟨by decide +kernel, rfl⟩
theorem dX6_next_66 : Dk kX6_next 66 (.iconst 0) 1 67 := ⟨by decide +kernel, rfl⟩
theorem dX6_next_67 : Dk kX6_next 67 (.putfield 117) 3 70 := ⟨by decide +kernel, rfl⟩
theorem dX6_next_70 : Dk kX6_next 70 (.aload_n 0) 1 71 := ⟨by decide +kernel, rfl⟩
theorem dX6_next_71 : Dk kX6_next 71 (.getfield 108) 3 74 := ⟨by decide +kernel, rfl⟩
theorem dX6_next_74 : Dk kX6_next 74 (.aload_n 0) 1 75 := ⟨by decide +kernel, rfl⟩
theorem dX6_next_75 : Dk kX6_next 75 (.getfield 64) 3 78 := ⟨by decide +kernel, rfl⟩
theorem dX6_next_78 : Dj kX6_next 78 (fun o => .if_icmp .ne o) 3 81 82 := ⟨4, by decide +kernel, rfl, by decide⟩
theorem dX6_next_81 : Dk kX6_next 81 (.return_) 1 82 := ⟨by decide +kernel, rfl⟩
theorem dX6_next_82 : Dk kX6_next 82 (.aload_n 0) 1 83 := ⟨by decide +kernel, rfl⟩
theorem dX6_next_83 : Dk kX6_next 83 (.getfield 22) 3 86 := ⟨by decide +kernel, rfl⟩
theorem dX6_next_86 : Dk kX6_next 86 (.aload_n 0) 1 87 := ⟨by decide +kernel, rfl⟩
theorem dX6_next_87 : Dk kX6_next 87 (.getfield 108) 3 90 := ⟨by decide +kernel, rfl⟩
theorem dX6_next_90 : Dk kX6_next 90 (.iaload) 1 91 := ⟨by decide +kernel, rfl⟩
theorem dX6_next_91 : Dk kX6_next 91 (.istore_n 1) 1 92 := ⟨by decide +kernel, rfl⟩
theorem dX6_next_92 : Dk kX6_next 92 (.iload_n 1) 1 93 := ⟨by decide +kernel, rfl⟩
theorem dX6_next_93 : Dk kX6_next 93 (.bipush 97) 2 95 := ⟨by decide +kernel, rfl⟩
theorem dX6_next_95 : Dk kX6_next 95 (.bipush 122) 2 97 := ⟨by decide +kernel, rfl⟩
theorem dX6_next_97 : Dk kX6_next 97 (.invokestatic 75) 3 100 := ⟨by decide +kernel, rfl⟩
theorem dX6_next_100 : Dj kX6_next 100 (fun o => .ifCond .eq o) 3 103 217 := ⟨117, by decide +kernel, rfl, by decide⟩
theorem dX6_next_103 : Dk kX6_next 103 (.aload_n 0) 1 104 := ⟨by decide +kernel, rfl⟩
theorem dX6_next_104 : Dk kX6_next 104 (.getfield 108) 3 107 := ⟨by decide +kernel, rfl⟩
theorem dX6_next_107 : Dk kX6_next 107 (.aload_n 0) 1 108 := ⟨by decide +kernel, rfl⟩
theorem dX6_next_108 : Dk kX6_next 108 (.getfield 64) 3 111 := ⟨by decide +kernel, rfl⟩
theorem dX6_next_111 : Dj kX6_next 111 (fun o => .if_icmp .ge o) 3 114 146 := ⟨35, by decide +kernel, rfl, by decide⟩
theorem dX6_next_114 : Dk kX6_next 114 (.aload_n 0) 1 115 := ⟨by decide +kernel, rfl⟩
theorem dX6_next_115 : Dk kX6_next 115 (.getfield 22) 3 118 := ⟨by decide +kernel, rfl⟩
theorem dX6_next_118 : Dk kX6_next 118 (.aload_n 0) 1 119 := ⟨by decide +kernel, rfl⟩
theorem dX6_next_119 : Dk kX6_next 119 (.getfield 108) 3 122 := ⟨by decide +kernel, rfl⟩
theorem dX6_next_122 : Dk kX6_next 122 (.iaload) 1 123 := ⟨by decide +kernel, rfl⟩
theorem dX6_next_123 : Dk kX6_next 123 (.bipush 97) 2 125 := ⟨by decide +kernel, rfl⟩
theorem dX6_next_125 : Dk kX6_next 125 (.bipush 122) 2 127 := ⟨by decide +kernel, rfl⟩
theorem dX6_next_127 : Dk kX6_next 127 (.invokestatic 75) 3 130 := ⟨by decide +kernel, rfl⟩
theorem dX6_next_130 : Dj kX6_next 130 (fun o => .ifCond .eq o) 3 133 146 := ⟨16, by decide +kernel, rfl, by decide⟩
theorem dX6_next_133 : Dk kX6_next 133 (.aload_n 0) 1 134 := ⟨by decide +kernel, rfl⟩
theorem dX6_next_134 : Dk kX6_next 134 (.dup) 1 135 := ⟨by decide +kernel, rfl⟩
theorem dX6_next_135 : Dk kX6_next 135 (.getfield 108) 3 138 := ⟨by decide +kernel, rfl⟩
theorem dX6_next_138 : Dk kX6_next 138 (.iconst 1) 1 139 := ⟨by decide +kernel, rfl⟩
theorem dX6_next_139 : Dk kX6_next 139 (.iadd) 1 140 := ⟨by decide +kernel, rfl⟩
theorem dX6_next_140 : Dk kX6_next 140 (.putfield 108) 3 143 := ⟨by decide +kernel, rfl⟩
theorem dX6_next_143 : Dj kX6_next 143 (fun o => .goto o) 3 146 103 := ⟨-40, by decide +kernel, rfl, by decide⟩
theorem dX6_next_146 : Dk kX6_next 146 (.aload_n 0) 1 147 := ⟨by decide +kernel, rfl⟩
theorem dX6_next_147 : Dk kX6_next 147 (.aload_n 0) 1 148 := ⟨by decide +kernel, rfl⟩
theorem dX6_next_148 : Dk kX6_next 148 (.getfield 111) 3 151 := ⟨by decide +kernel, rfl⟩
theorem dX6_next_151 : Dk kX6_next 151 (.aload_n 0) 1 152 := ⟨by decide +kernel, rfl⟩
theorem dX6_next_152 : Dk kX6_next 152 (.getfield 108) 3 155 := ⟨by decide +kernel, rfl⟩
theorem dX6_next_155 : Dk kX6_next 155 (.invokevirtual 120) 3 158 := ⟨by decide +kernel, rfl⟩
theorem dX6_next_158 : Dk kX6_next 158 (.istore_n 2) 1 159 := ⟨by decide +kernel, rfl⟩
theorem dX6_next_159 : Dk kX6_next 159 (.aload_n 0) 1 160 := ⟨by decide +kernel, rfl⟩
theorem dX6_next_160 : Dk kX6_next 160 (.iload_n 2) 1 161 := ⟨by decide +kernel, rfl⟩
theorem dX6_next_161 : Dk kX6_next 161 (.iconst 3) 1 162 := ⟨by decide +kernel, rfl⟩
theorem dX6_next_162 : Dj kX6_next 162 (fun o => .if_icmp .ge o) 3 165 169 := ⟨7, by decide +kernel, rfl, by decide⟩
theorem dX6_next_165 : Dk kX6_next 165 (.iconst 3) 1 166 := ⟨by decide +kernel, rfl⟩
theorem dX6_next_166 : Dj kX6_next 166 (fun o => .goto o) 3 169 195 := ⟨29, by decide +kernel, rfl, by decide⟩
theorem dX6_next_169 : Dk kX6_next 169 (.iload_n 2) 1 170 := ⟨by decide +kernel, rfl⟩
theorem dX6_next_170 : Dk kX6_next 170 (.bipush 9) 2 172 := ⟨by decide +kernel, rfl⟩
theorem dX6_next_172 : Dj kX6_next 172 (fun o => .if_icmp .ge o) 3 175 179 := ⟨7, by decide +kernel, rfl, by decide⟩
theorem dX6_next_175 : Dk kX6_next 175 (.iconst 2) 1 176 := ⟨by decide +kernel, rfl⟩
theorem dX6_next_176 : Dj kX6_next 176 (fun o => .goto o) 3 179 195 := ⟨19, by decide +kernel, rfl, by decide⟩
theorem dX6_next_179 : Dk kX6_next 179 (.iload_n 2) 1 180 := ⟨by decide +kernel, rfl⟩
theorem dX6_next_180 : Dk kX6_next 180 (.bipush 12) 2 182 := ⟨by decide +kernel, rfl⟩
theorem dX6_next_182 : Dj kX6_next 182 (fun o => .if_icmp .ne o) 3 185 189 := ⟨7, by decide +kernel, rfl, by decide⟩
theorem dX6_next_185 : Dk kX6_next 185 (.iconst (-1)) 1 186 := ⟨by decide +kernel, rfl⟩
theorem dX6_next_186 : Dj kX6_next 186 (fun o => .goto o) 3 189 195 := ⟨9, by decide +kernel, rfl, by decide⟩
theorem dX6_next_189 : Dk kX6_next 189 (.iconst 4) 1 190 := ⟨by decide +kernel, rfl⟩
theorem dX6_next_190 : Dk kX6_next 190 (.iload_n 2) 1 191 := ⟨by decide +kernel, rfl⟩
theorem dX6_next_191 : Dk kX6_next 191 (.iadd) 1 192 := ⟨by decide +kernel, rfl⟩
theorem dX6_next_192 : Dk kX6_next 192 (.bipush 9) 2 194 := ⟨by decide +kernel, rfl⟩
theorem dX6_next_194 : Dk kX6_next 194 (.isub) 1 195 := ⟨by decide +kernel, rfl⟩
theorem dX6_next_195 : Dk kX6_next 195 (.putfield 114) 3 198 := ⟨by decide +kernel, rfl⟩
theorem dX6_next_198 : Dk kX6_next 198 (.aload_n 0) 1 199 := ⟨by decide +kernel, rfl⟩
theorem dX6_next_199 : Dk kX6_next 199 (.iload_n 2) 1 200 := ⟨by decide +kernel, rfl⟩
theorem dX6_next_200 : Dk kX6_next 200 (.iconst 3) 1 201 := ⟨by decide +kernel, rfl⟩
theorem dX6_next_201 : Dj kX6_next 201 (fun o => .if_icmp .ge o) 3 204 208 := ⟨7, by decide +kernel, rfl, by decide⟩
theorem dX6_next_204 : Dk kX6_next 204 (.iload_n 2) 1 205 := ⟨by decide +kernel, rfl⟩
theorem dX6_next_205 : Dj kX6_next 205 (fun o => .goto o) 3 208 211 := ⟨6, by decide +kernel, rfl, by decide⟩
theorem dX6_next_208 : Dk kX6_next 208 (.iload_n 2) 1 209 := ⟨by decide +kernel, rfl⟩
theorem dX6_next_209 : Dk kX6_next 209 (.iconst 3) 1 210 := ⟨by decide +kernel, rfl⟩
theorem dX6_next_210 : Dk kX6_next 210 (.isub) 1 211 := ⟨by decide +kernel, rfl⟩
theorem dX6_next_211 : Dk kX6_next 211 (.putfield 117) 3 214 := ⟨by decide +kernel, rfl⟩
theorem dX6_next_214 : Dj kX6_next 214 (fun o => .goto o) 3 217 403 := ⟨189, by decide +kernel, rfl, by decide⟩
theorem dX6_next_217 : Dk kX6_next 217 (.iload_n 1) 1 218 := ⟨by decide +kernel, rfl⟩
theorem dX6_next_218 : Dk kX6_next 218 (.bipush 48) 2 220 := ⟨by decide +kernel, rfl⟩
theorem dX6_next_220 : Dk kX6_next 220 (.bipush 57) 2 222 := ⟨by decide +kernel, rfl⟩
theorem dX6_next_222 : Dk kX6_next 222 (.invokestatic 75) 3 225 := ⟨by decide +kernel, rfl⟩
theorem dX6_next_225 : Dj kX6_next 225 (fun o => .ifCond .eq o) 3 228 326 := ⟨101, by decide +kernel, rfl, by decide⟩
theorem dX6_next_228 : Dk kX6_next 228 (.iconst 0) 1 229 := ⟨by decide +kernel, rfl⟩
theorem dX6_next_229 : Dk kX6_next 229 (.istore_n 2) 1 230 := ⟨by decide +kernel, rfl⟩
theorem dX6_next_230 : Dk kX6_next 230 (.aload_n 0) 1 231 := ⟨by decide +kernel, rfl⟩
theorem dX6_next_231 : Dk kX6_next 231 (.getfield 108) 3 234 := ⟨by decide +kernel, rfl⟩
theorem dX6_next_234 : Dk kX6_next 234 (.aload_n 0) 1 235 := ⟨by decide +kernel, rfl⟩
theorem dX6_next_235 : Dk kX6_next 235 (.getfield 64) 3 238 := ⟨by decide +kernel, rfl⟩
theorem dX6_next_238 : Dj kX6_next 238 (fun o => .if_icmp .ge o) 3 241 309 := ⟨71, by decide +kernel, rfl, by decide⟩
theorem dX6_next_241 : Dk kX6_next 241 (.aload_n 0) 1 242 := ⟨by decide +kernel, rfl⟩
theorem dX6_next_242 : Dk kX6_next 242 (.getfield 22) 3 245 := ⟨by decide +kernel, rfl⟩
theorem dX6_next_245 : Dk kX6_next 245 (.aload_n 0) 1 246 := ⟨by decide +kernel, rfl⟩
theorem dX6_next_246 : Dk kX6_next 246 (.getfield 108) 3 249 := ⟨by decide +kernel, rfl⟩
theorem dX6_next_249 : Dk kX6_next 249 (.iaload) 1 250 := ⟨by decide +kernel, rfl⟩
theorem dX6_next_250 : Dk kX6_next 250 (.bipush 48) 2 252 := ⟨by decide +kernel, rfl⟩
theorem dX6_next_252 : Dk kX6_next 252 (.bipush 57) 2 254 := ⟨by decide +kernel, rfl⟩
theorem dX6_next_254 : Dk kX6_next 254 (.invokestatic 75) 3 257 := ⟨by decide +kernel, rfl⟩
theorem dX6_next_257 : Dj kX6_next 257 (fun o => .ifCond .eq o) 3 260 309 := ⟨52, by decide +kernel, rfl, by decide⟩
theorem dX6_next_260 : Dk kX6_next 260 (.aload_n 0) 1 261 := ⟨by decide +kernel, rfl⟩
theorem dX6_next_261 : Dk kX6_next 261 (.iload_n 2) 1 262 := ⟨by decide +kernel, rfl⟩
theorem dX6_next_262 : Dk kX6_next 262 (.iconst 4) 1 263 := ⟨by decide +kernel, rfl⟩
theorem dX6_next_263 : Dj kX6_next 263 (fun o => .if_icmp .ge o) 3 266 289 := ⟨26, by decide +kernel, rfl, by decide⟩
theorem dX6_next_266 : Dk kX6_next 266 (.bipush 10) 2 268 := ⟨by decide +kernel, rfl⟩
theorem dX6_next_268 : Dk kX6_next 268 (.aload_n 0) 1 269 := ⟨by decide +kernel, rfl⟩
theorem dX6_next_269 : Dk kX6_next 269 (.getfield 117) 3 272 := ⟨by decide +kernel, rfl⟩
theorem dX6_next_272 : Dk kX6_next 272 (.imul) 1 273 := ⟨by decide +kernel, rfl⟩
theorem dX6_next_273 : Dk kX6_next 273 (.aload_n 0) 1 274 := ⟨by decide +kernel, rfl⟩
theorem dX6_next_274 : Dk kX6_next 274 (.getfield 22) 3 277 := ⟨by decide +kernel, rfl⟩
theorem dX6_next_277 : Dk kX6_next 277 (.aload_n 0) 1 278 := ⟨by decide +kernel, rfl⟩
theorem dX6_next_278 : Dk kX6_next 278 (.getfield 108) 3 281 := ⟨by decide +kernel, rfl⟩
theorem dX6_next_281 : Dk kX6_next 281 (.iaload) 1 282 := ⟨by decide +kernel, rfl⟩
theorem dX6_next_282 : Dk kX6_next 282 (.iadd) 1 283 := ⟨by decide +kernel, rfl⟩
theorem dX6_next_283 : Dk kX6_next 283 (.bipush 48) 2 285 := ⟨by decide +kernel, rfl⟩
theorem dX6_next_285 : Dk kX6_next 285 (.isub) 1 286 := ⟨by decide +kernel, rfl⟩
theorem dX6_next_286 : Dj kX6_next 286 (fun o => .goto o) 3 289 290 := ⟨4, by decide +kernel, rfl, by decide⟩
theorem dX6_next_289 : Dk kX6_next 289 (.iconst 0) 1 290 := ⟨by decide +kernel, rfl⟩
theorem dX6_next_290 : Dk kX6_next 290 (.putfield 117) 3 293 := ⟨by decide +kernel, rfl⟩
theorem dX6_next_293 : Dk kX6_next 293 (.iinc 2 1) 3 296 := ⟨by decide +kernel, rfl⟩
theorem dX6_next_296 : Dk kX6_next 296 (.aload_n 0) 1 297 := ⟨by decide +kernel, rfl⟩
theorem dX6_next_297 : Dk kX6_next 297 (.dup) 1 298 := ⟨by decide +kernel, rfl⟩
theorem dX6_next_298 : Dk kX6_next 298 (.getfield 108) 3 301 := ⟨by decide +kernel, rfl⟩
theorem dX6_next_301 : Dk kX6_next 301 (.iconst 1) 1 302 := ⟨by decide +kernel, rfl⟩
theorem dX6_next_302 : Dk kX6_next 302 (.iadd) 1 303 := ⟨by decide +kernel, rfl⟩
theorem dX6_next_303 : Dk kX6_next 303 (.putfield 108) 3 306 := ⟨by decide +kernel, rfl⟩
theorem dX6_next_306 : Dj kX6_next 306 (fun o => .goto o) 3 309 230 := ⟨-76, by decide +kernel, rfl, by decide⟩
theorem dX6_next_309 : Dk kX6_next 309 (.aload_n 0) 1 310 := ⟨by decide +kernel, rfl⟩
theorem dX6_next_310 : Dk kX6_next 310 (.iload_n 2) 1 311 := ⟨by decide +kernel, rfl⟩
theorem dX6_next_311 : Dk kX6_next 311 (.iconst 4) 1 312 := ⟨by decide +kernel, rfl⟩
theorem dX6_next_312 : Dj kX6_next 312 (fun o => .if_icmp .le o) 3 315 319 := ⟨7, by decide +kernel, rfl, by decide⟩
theorem dX6_next_315 : Dk kX6_next 315 (.iconst (-1)) 1 316 := ⟨by decide +kernel, rfl⟩
theorem dX6_next_316 : Dj kX6_next 316 (fun o => .goto o) 3 319 320 := ⟨4, by decide +kernel, rfl, by decide⟩
theorem dX6_next_319 : Dk kX6_next 319 (.iconst 1) 1 320 := ⟨by decide +kernel, rfl⟩
theorem dX6_next_320 : Dk kX6_next 320 (.putfield 114) 3 323 := ⟨by decide +kernel, rfl⟩
theorem dX6_next_323 : Dj kX6_next 323 (fun o => .goto o) 3 326 403 := ⟨80, by decide +kernel, rfl, by decide⟩
theorem dX6_next_326 : Dk kX6_next 326 (.iload_n 1) 1 327 := ⟨by decide +kernel, rfl⟩
theorem dX6_next_327 : Dk kX6_next 327 (.bipush 40) 2 329 := ⟨by decide +kernel, rfl⟩
theorem dX6_next_329 : Dj kX6_next 329 (fun o => .if_icmp .eq o) 3 332 374 := ⟨45, by decide +kernel, rfl, by decide⟩
theorem dX6_next_332 : Dk kX6_next 332 (.iload_n 1) 1 333 := ⟨by decide +kernel, rfl⟩
theorem dX6_next_333 : Dk kX6_next 333 (.bipush 41) 2 335 := ⟨by decide +kernel, rfl⟩
theorem dX6_next_335 : Dj kX6_next 335 (fun o => .if_icmp .eq o) 3 338 374 := ⟨39, by decide +kernel, rfl, by decide⟩
theorem dX6_next_338 : Dk kX6_next 338 (.iload_n 1) 1 339 := ⟨by decide +kernel, rfl⟩
theorem dX6_next_339 : Dk kX6_next 339 (.bipush 59) 2 341 := ⟨by decide +kernel, rfl⟩
theorem dX6_next_341 : Dj kX6_next 341 (fun o => .if_icmp .eq o) 3 344 374 := ⟨33, by decide +kernel, rfl, by decide⟩
theorem dX6_next_344 : Dk kX6_next 344 (.iload_n 1) 1 345 := ⟨by decide +kernel, rfl⟩
theorem dX6_next_345 : Dk kX6_next 345 (.bipush 43) 2 347 := ⟨by decide +kernel, rfl⟩
theorem dX6_next_347 : Dj kX6_next 347 (fun o => .if_icmp .eq o) 3 350 374 := ⟨27, by decide +kernel, rfl, by decide⟩
theorem dX6_next_350 : Dk kX6_next 350 (.iload_n 1) 1 351 := ⟨by decide +kernel, rfl⟩
theorem dX6_next_351 : Dk kX6_next 351 (.bipush 45) 2 353 := ⟨by decide +kernel, rfl⟩
theorem dX6_next_353 : Dj kX6_next 353 (fun o => .if_icmp .eq o) 3 356 374 := ⟨21, by decide +kernel, rfl, by decide⟩
theorem dX6_next_356 : Dk kX6_next 356 (.iload_n 1) 1 357 := ⟨by decide +kernel, rfl⟩
theorem dX6_next_357 : Dk kX6_next 357 (.bipush 42) 2 359 := ⟨by decide +kernel, rfl⟩
theorem dX6_next_359 : Dj kX6_next 359 (fun o => .if_icmp .eq o) 3 362 374 := ⟨15, by decide +kernel, rfl, by decide⟩
theorem dX6_next_362 : Dk kX6_next 362 (.iload_n 1) 1 363 := ⟨by decide +kernel, rfl⟩
theorem dX6_next_363 : Dk kX6_next 363 (.bipush 60) 2 365 := ⟨by decide +kernel, rfl⟩
theorem dX6_next_365 : Dj kX6_next 365 (fun o => .if_icmp .eq o) 3 368 374 := ⟨9, by decide +kernel, rfl, by decide⟩
theorem dX6_next_368 : Dk kX6_next 368 (.iload_n 1) 1 369 := ⟨by decide +kernel, rfl⟩
theorem dX6_next_369 : Dk kX6_next 369 (.bipush 61) 2 371 := ⟨by decide +kernel, rfl⟩
theorem dX6_next_371 : Dj kX6_next 371 (fun o => .if_icmp .ne o) 3 374 378 := ⟨7, by decide +kernel, rfl, by decide⟩
theorem dX6_next_374 : Dk kX6_next 374 (.iconst 1) 1 375 := ⟨by decide +kernel, rfl⟩
theorem dX6_next_375 : Dj kX6_next 375 (fun o => .goto o) 3 378 379 := ⟨4, by decide +kernel, rfl, by decide⟩
theorem dX6_next_378 : Dk kX6_next 378 (.iconst 0) 1 379 := ⟨by decide +kernel, rfl⟩
theorem dX6_next_379 : Dk kX6_next 379 (.istore_n 2) 1 380 := ⟨by decide +kernel, rfl⟩
theorem dX6_next_380 : Dk kX6_next 380 (.aload_n 0) 1 381 := ⟨by decide +kernel, rfl⟩
theorem dX6_next_381 : Dk kX6_next 381 (.iload_n 2) 1 382 := ⟨by decide +kernel, rfl⟩
theorem dX6_next_382 : Dj kX6_next 382 (fun o => .ifCond .eq o) 3 385 389 := ⟨7, by decide +kernel, rfl, by decide⟩
theorem dX6_next_385 : Dk kX6_next 385 (.iload_n 1) 1 386 := ⟨by decide +kernel, rfl⟩
theorem dX6_next_386 : Dj kX6_next 386 (fun o => .goto o) 3 389 390 := ⟨4, by decide +kernel, rfl, by decide⟩
theorem dX6_next_389 : Dk kX6_next 389 (.iconst (-1)) 1 390 := ⟨by decide +kernel, rfl⟩
theorem dX6_next_390 : Dk kX6_next 390 (.putfield 114) 3 393 := ⟨by decide +kernel, rfl⟩
theorem dX6_next_393 : Dk kX6_next 393 (.aload_n 0) 1 394 := ⟨by decide +kernel, rfl⟩
theorem dX6_next_394 : Dk kX6_next 394 (.dup) 1 395 := ⟨by decide +kernel, rfl⟩
theorem dX6_next_395 : Dk kX6_next 395 (.getfield 108) 3 398 := ⟨by decide +kernel, rfl⟩
theorem dX6_next_398 : Dk kX6_next 398 (.iconst 1) 1 399 := ⟨by decide +kernel, rfl⟩
theorem dX6_next_399 : Dk kX6_next 399 (.iadd) 1 400 := ⟨by decide +kernel, rfl⟩
theorem dX6_next_400 : Dk kX6_next 400 (.putfield 108) 3 403 := ⟨by decide +kernel, rfl⟩
theorem dX6_next_403 : Dk kX6_next 403 (.return_) 1 404 := ⟨by decide +kernel, rfl⟩
theorem dX6_rank_0 : Dk kX6_rank 0 (.iload_n 0) 1 1 := ⟨by decide +kernel, rfl⟩
theorem dX6_rank_1 : Dj kX6_rank 1 (fun o => .ifCond .ne o) 3 4 8 := ⟨7, by decide +kernel, rfl, by decide⟩
theorem dX6_rank_4 : Dk kX6_rank 4 (.iconst 0) 1 5 := ⟨by decide +kernel, rfl⟩
theorem dX6_rank_5 : Dj kX6_rank 5 (fun o => .goto o) 3 8 71 := ⟨66, by decide +kernel, rfl, by decide⟩
theorem dX6_rank_8 : Dk kX6_rank 8 (.iload_n 0) 1 9 := ⟨by decide +kernel, rfl⟩
theorem dX6_rank_9 : Dk kX6_rank 9 (.bipush 11) 2 11 := ⟨by decide +kernel, rfl⟩
theorem dX6_rank_11 : Dj kX6_rank 11 (fun o => .if_icmp .ne o) 3 14 18 := ⟨7, by decide +kernel, rfl, by decide⟩
theorem dX6_rank_14 : Dk kX6_rank 14 (.iconst 1) 1 15 := ⟨by decide +kernel, rfl⟩
theorem dX6_rank_15 : Dj kX6_rank 15 (fun o => .goto o) 3 18 71 := ⟨56, by decide +kernel, rfl, by decide⟩
theorem dX6_rank_18 : Dk kX6_rank 18 (.iload_n 0) 1 19 := ⟨by decide +kernel, rfl⟩
theorem dX6_rank_19 : Dk kX6_rank 19 (.bipush 12) 2 21 := ⟨by decide +kernel, rfl⟩
theorem dX6_rank_21 : Dj kX6_rank 21 (fun o => .if_icmp .ne o) 3 24 28 := ⟨7, by decide +kernel, rfl, by decide⟩
theorem dX6_rank_24 : Dk kX6_rank 24 (.iconst 2) 1 25 := ⟨by decide +kernel, rfl⟩
theorem dX6_rank_25 : Dj kX6_rank 25 (fun o => .goto o) 3 28 71 := ⟨46, by decide +kernel, rfl, by decide⟩
theorem dX6_rank_28 : Dk kX6_rank 28 (.iload_n 0) 1 29 := ⟨by decide +kernel, rfl⟩
theorem dX6_rank_29 : Dk kX6_rank 29 (.bipush 13) 2 31 := ⟨by decide +kernel, rfl⟩
theorem dX6_rank_31 : Dj kX6_rank 31 (fun o => .if_icmp .ne o) 3 34 38 := ⟨7, by decide +kernel, rfl, by decide⟩
theorem dX6_rank_34 : Dk kX6_rank 34 (.iconst 3) 1 35 := ⟨by decide +kernel, rfl⟩
theorem dX6_rank_35 : Dj kX6_rank 35 (fun o => .goto o) 3 38 71 := ⟨36, by decide +kernel, rfl, by decide⟩
theorem dX6_rank_38 : Dk kX6_rank 38 (.iload_n 0) 1 39 := ⟨by decide +kernel, rfl⟩
theorem dX6_rank_39 : Dk kX6_rank 39 (.bipush 15) 2 41 := ⟨by decide +kernel, rfl⟩
theorem dX6_rank_41 : Dj kX6_rank 41 (fun o => .if_icmp .gt o) 3 44 48 := ⟨7, by decide +kernel, rfl, by decide⟩
theorem dX6_rank_44 : Dk kX6_rank 44 (.iconst 4) 1 45 := ⟨by decide +kernel, rfl⟩
theorem dX6_rank_45 : Dj kX6_rank 45 (fun o => .goto o) 3 48 71 := ⟨26, by decide +kernel, rfl, by decide⟩
theorem dX6_rank_48 : Dk kX6_rank 48 (.iload_n 0) 1 49 := ⟨by decide +kernel, rfl⟩
theorem dX6_rank_49 : Dk kX6_rank 49 (.bipush 17) 2 51 := ⟨by decide +kernel, rfl⟩
theorem dX6_rank_51 : Dj kX6_rank 51 (fun o => .if_icmp .gt o) 3 54 58 := ⟨7, by decide +kernel, rfl, by decide⟩
theorem dX6_rank_54 : Dk kX6_rank 54 (.iconst 5) 1 55 := ⟨by decide +kernel, rfl⟩
theorem dX6_rank_55 : Dj kX6_rank 55 (fun o => .goto o) 3 58 71 := ⟨16, by decide +kernel, rfl, by decide⟩
theorem dX6_rank_58 : Dk kX6_rank 58 (.iload_n 0) 1 59 := ⟨by decide +kernel, rfl⟩
theorem dX6_rank_59 : Dk kX6_rank 59 (.bipush 18) 2 61 := ⟨by decide +kernel, rfl⟩
theorem dX6_rank_61 : Dj kX6_rank 61 (fun o => .if_icmp .ne o) 3 64 69 := ⟨8, by decide +kernel, rfl, by decide⟩
theorem dX6_rank_64 : Dk kX6_rank 64 (.bipush 6) 2 66 := ⟨by decide +kernel, rfl⟩
theorem dX6_rank_66 : Dj kX6_rank 66 (fun o => .goto o) 3 69 71 := ⟨5, by decide +kernel, rfl, by decide⟩
theorem dX6_rank_69 : Dk kX6_rank 69 (.bipush 7) 2 71 := ⟨by decide +kernel, rfl⟩
theorem dX6_rank_71 : Dk kX6_rank 71 (.ireturn) 1 72 := ⟨by decide +kernel, rfl⟩
theorem dX6_puts_0 : Dk kX6_puts 0 (.aload_n 0) 1 1 := ⟨by decide +kernel, rfl⟩
theorem dX6_puts_1 : Dk kX6_puts 1 (.getfield 25) 3 4 := ⟨by decide +kernel, rfl⟩
theorem dX6_puts_4 : Dk kX6_puts 4 (.sipush 200) 3 7 := ⟨by decide +kernel, rfl⟩
theorem dX6_puts_7 : Dk kX6_puts 7 (.aload_n 0) 1 8 := ⟨by decide +kernel, rfl⟩
theorem dX6_puts_8 : Dk kX6_puts 8 (.getfield 89) 3 11 := ⟨by decide +kernel, rfl⟩
theorem dX6_puts_11 : Dk kX6_puts 11 (.imul) 1 12 := ⟨by decide +kernel, rfl⟩
theorem dX6_puts_12 : Dk kX6_puts 12 (.aload_n 0) 1 13 := ⟨by decide +kernel, rfl⟩
theorem dX6_puts_13 : Dk kX6_puts 13 (.getfield 124) 3 16 := ⟨by decide +kernel, rfl⟩
theorem dX6_puts_16 : Dk kX6_puts 16 (.iadd) 1 17 := ⟨by decide +kernel, rfl⟩
theorem dX6_puts_17 : Dk kX6_puts 17 (.iload_n 1) 1 18 := ⟨by decide +kernel, rfl⟩
theorem dX6_puts_18 : Dk kX6_puts 18 (.iastore) 1 19 := ⟨by decide +kernel, rfl⟩
theorem dX6_puts_19 : Dk kX6_puts 19 (.aload_n 0) 1 20 := ⟨by decide +kernel, rfl⟩
theorem dX6_puts_20 : Dk kX6_puts 20 (.dup) 1 21 := ⟨by decide +kernel, rfl⟩
theorem dX6_puts_21 : Dk kX6_puts 21 (.getfield 124) 3 24 := ⟨by decide +kernel, rfl⟩
theorem dX6_puts_24 : Dk kX6_puts 24 (.iconst 1) 1 25 := ⟨by decide +kernel, rfl⟩
theorem dX6_puts_25 : Dk kX6_puts 25 (.iadd) 1 26 := ⟨by decide +kernel, rfl⟩
theorem dX6_puts_26 : Dk kX6_puts 26 (.putfield 124) 3 29 := ⟨by decide +kernel, rfl⟩
theorem dX6_puts_29 : Dk kX6_puts 29 (.return_) 1 30 := ⟨by decide +kernel, rfl⟩
theorem dX6_unwinds_0 : Dk kX6_unwinds 0 (.aload_n 0) 1 1 := ⟨by decide +kernel, rfl⟩
theorem dX6_unwinds_1 : Dk kX6_unwinds 1 (.getfield 127) 3 4 := ⟨by decide +kernel, rfl⟩
theorem dX6_unwinds_4 : Dj kX6_unwinds 4 (fun o => .ifCond .le o) 3 7 79 := ⟨75, by decide +kernel, rfl, by decide⟩
theorem dX6_unwinds_7 : Dk kX6_unwinds 7 (.aload_n 0) 1 8 := ⟨by decide +kernel, rfl⟩
theorem dX6_unwinds_8 : Dk kX6_unwinds 8 (.getfield 52) 3 11 := ⟨by decide +kernel, rfl⟩
theorem dX6_unwinds_11 : Dk kX6_unwinds 11 (.aload_n 0) 1 12 := ⟨by decide +kernel, rfl⟩
theorem dX6_unwinds_12 : Dk kX6_unwinds 12 (.getfield 127) 3 15 := ⟨by decide +kernel, rfl⟩
theorem dX6_unwinds_15 : Dk kX6_unwinds 15 (.iconst 1) 1 16 := ⟨by decide +kernel, rfl⟩
theorem dX6_unwinds_16 : Dk kX6_unwinds 16 (.isub) 1 17 := ⟨by decide +kernel, rfl⟩
theorem dX6_unwinds_17 : Dk kX6_unwinds 17 (.iaload) 1 18 := ⟨by decide +kernel, rfl⟩
theorem dX6_unwinds_18 : Dk kX6_unwinds 18 (.invokestatic 130) 3 21 := ⟨by decide +kernel, rfl⟩
theorem dX6_unwinds_21 : Dk kX6_unwinds 21 (.iload_n 1) 1 22 := ⟨by decide +kernel, rfl⟩
theorem dX6_unwinds_22 : Dj kX6_unwinds 22 (fun o => .if_icmp .lt o) 3 25 79 := ⟨57, by decide +kernel, rfl, by decide⟩
theorem dX6_unwinds_25 : Dk kX6_unwinds 25 (.aload_n 0) 1 26 := ⟨by decide +kernel, rfl⟩
theorem dX6_unwinds_26 : Dk kX6_unwinds 26 (.dup) 1 27 := ⟨by decide +kernel, rfl⟩
theorem dX6_unwinds_27 : Dk kX6_unwinds 27 (.getfield 127) 3 30 := ⟨by decide +kernel, rfl⟩
theorem dX6_unwinds_30 : Dk kX6_unwinds 30 (.iconst 1) 1 31 := ⟨by decide +kernel, rfl⟩
theorem dX6_unwinds_31 : Dk kX6_unwinds 31 (.isub) 1 32 := ⟨by decide +kernel, rfl⟩
theorem dX6_unwinds_32 : Dk kX6_unwinds 32 (.putfield 127) 3 35 := ⟨by decide +kernel, rfl⟩
theorem dX6_unwinds_35 : Dk kX6_unwinds 35 (.aload_n 0) 1 36 := ⟨by decide +kernel, rfl⟩
theorem dX6_unwinds_36 : Dk kX6_unwinds 36 (.getfield 52) 3 39 := ⟨by decide +kernel, rfl⟩
theorem dX6_unwinds_39 : Dk kX6_unwinds 39 (.aload_n 0) 1 40 := ⟨by decide +kernel, rfl⟩
theorem dX6_unwinds_40 : Dk kX6_unwinds 40 (.getfield 127) 3 43 := ⟨by decide +kernel, rfl⟩
theorem dX6_unwinds_43 : Dk kX6_unwinds 43 (.iaload) 1 44 := ⟨by decide +kernel, rfl⟩
theorem dX6_unwinds_44 : Dk kX6_unwinds 44 (.istore_n 2) 1 45 := ⟨by decide +kernel, rfl⟩
theorem dX6_unwinds_45 : Dk kX6_unwinds 45 (.aload_n 0) 1 46 := ⟨by decide +kernel, rfl⟩
theorem dX6_unwinds_46 : Dk kX6_unwinds 46 (.dup) 1 47 := ⟨by decide +kernel, rfl⟩
theorem dX6_unwinds_47 : Dk kX6_unwinds 47 (.getfield 133) 3 50 := ⟨by decide +kernel, rfl⟩
theorem dX6_unwinds_50 : Dk kX6_unwinds 50 (.iload_n 2) 1 51 := ⟨by decide +kernel, rfl⟩
theorem dX6_unwinds_51 : Dk kX6_unwinds 51 (.bipush 13) 2 53 := ⟨by decide +kernel, rfl⟩
theorem dX6_unwinds_53 : Dj kX6_unwinds 53 (fun o => .if_icmp .eq o) 3 56 62 := ⟨9, by decide +kernel, rfl, by decide⟩
theorem dX6_unwinds_56 : Dk kX6_unwinds 56 (.iload_n 2) 1 57 := ⟨by decide +kernel, rfl⟩
theorem dX6_unwinds_57 : Dk kX6_unwinds 57 (.bipush 19) 2 59 := ⟨by decide +kernel, rfl⟩
theorem dX6_unwinds_59 : Dj kX6_unwinds 59 (fun o => .if_icmp .ne o) 3 62 66 := ⟨7, by decide +kernel, rfl, by decide⟩
theorem dX6_unwinds_62 : Dk kX6_unwinds 62 (.iconst 1) 1 63 := ⟨by decide +kernel, rfl⟩
theorem dX6_unwinds_63 : Dj kX6_unwinds 63 (fun o => .goto o) 3 66 67 := ⟨4, by decide +kernel, rfl, by decide⟩
theorem dX6_unwinds_66 : Dk kX6_unwinds 66 (.iconst 0) 1 67 := ⟨by decide +kernel, rfl⟩
theorem dX6_unwinds_67 : Dk kX6_unwinds 67 (.isub) 1 68 := ⟨by decide +kernel, rfl⟩
theorem dX6_unwinds_68 : Dk kX6_unwinds 68 (.putfield 133) 3 71 := ⟨by decide +kernel, rfl⟩
theorem dX6_unwinds_71 : Dk kX6_unwinds 71 (.aload_n 0) 1 72 := ⟨by decide +kernel, rfl⟩
theorem dX6_unwinds_72 : Dk kX6_unwinds 72 (.iload_n 2) 1 73 := ⟨by decide +kernel, rfl⟩
theorem dX6_unwinds_73 : Dk kX6_unwinds 73 (.invokevirtual 136) 3 76 := ⟨by decide +kernel, rfl⟩
theorem dX6_unwinds_76 : Dj kX6_unwinds 76 (fun o => .goto o) 3 79 0 := ⟨-76, by decide +kernel, rfl, by decide⟩
theorem dX6_unwinds_79 : Dk kX6_unwinds 79 (.return_) 1 80 := ⟨by decide +kernel, rfl⟩
theorem dX6_holds_0 : Dk kX6_holds 0 (.aload_n 0) 1 1 := ⟨by decide +kernel, rfl⟩
theorem dX6_holds_1 : Dk kX6_holds 1 (.getfield 52) 3 4 := ⟨by decide +kernel, rfl⟩
theorem dX6_holds_4 : Dk kX6_holds 4 (.aload_n 0) 1 5 := ⟨by decide +kernel, rfl⟩
theorem dX6_holds_5 : Dk kX6_holds 5 (.getfield 127) 3 8 := ⟨by decide +kernel, rfl⟩
theorem dX6_holds_8 : Dk kX6_holds 8 (.iload_n 1) 1 9 := ⟨by decide +kernel, rfl⟩
theorem dX6_holds_9 : Dk kX6_holds 9 (.iastore) 1 10 := ⟨by decide +kernel, rfl⟩
theorem dX6_holds_10 : Dk kX6_holds 10 (.aload_n 0) 1 11 := ⟨by decide +kernel, rfl⟩
theorem dX6_holds_11 : Dk kX6_holds 11 (.dup) 1 12 := ⟨by decide +kernel, rfl⟩
theorem dX6_holds_12 : Dk kX6_holds 12 (.getfield 127) 3 15 := ⟨by decide +kernel, rfl⟩
theorem dX6_holds_15 : Dk kX6_holds 15 (.iconst 1) 1 16 := ⟨by decide +kernel, rfl⟩
theorem dX6_holds_16 : Dk kX6_holds 16 (.iadd) 1 17 := ⟨by decide +kernel, rfl⟩
theorem dX6_holds_17 : Dk kX6_holds 17 (.putfield 127) 3 20 := ⟨by decide +kernel, rfl⟩
theorem dX6_holds_20 : Dk kX6_holds 20 (.return_) 1 21 := ⟨by decide +kernel, rfl⟩
theorem dX6_opensOne_0 : Dk kX6_opensOne 0 (.aload_n 0) 1 1 := ⟨by decide +kernel, rfl⟩
theorem dX6_opensOne_1 : Dk kX6_opensOne 1 (.getfield 133) 3 4 := ⟨by decide +kernel, rfl⟩
theorem dX6_opensOne_4 : Dk kX6_opensOne 4 (.iconst 5) 1 5 := ⟨by decide +kernel, rfl⟩
theorem dX6_opensOne_5 : Dj kX6_opensOne 5 (fun o => .if_icmp .ne o) 3 8 10 := ⟨5, by decide +kernel, rfl, by decide⟩
theorem dX6_opensOne_8 : Dk kX6_opensOne 8 (.iconst 0) 1 9 := ⟨by decide +kernel, rfl⟩
theorem dX6_opensOne_9 : Dk kX6_opensOne 9 (.ireturn) 1 10 := ⟨by decide +kernel, rfl⟩
theorem dX6_opensOne_10 : Dk kX6_opensOne 10 (.aload_n 0) 1 11 := ⟨by decide +kernel, rfl⟩
theorem dX6_opensOne_11 : Dk kX6_opensOne 11 (.dup) 1 12 := ⟨by decide +kernel, rfl⟩
theorem dX6_opensOne_12 : Dk kX6_opensOne 12 (.getfield 133) 3 15 := ⟨by decide +kernel, rfl⟩
theorem dX6_opensOne_15 : Dk kX6_opensOne 15 (.iconst 1) 1 16 := ⟨by decide +kernel, rfl⟩
theorem dX6_opensOne_16 : Dk kX6_opensOne 16 (.iadd) 1 17 := ⟨by decide +kernel, rfl⟩
theorem dX6_opensOne_17 : Dk kX6_opensOne 17 (.putfield 133) 3 20 := ⟨by decide +kernel, rfl⟩
theorem dX6_opensOne_20 : Dk kX6_opensOne 20 (.aload_n 0) 1 21 := ⟨by decide +kernel, rfl⟩
theorem dX6_opensOne_21 : Dk kX6_opensOne 21 (.iload_n 1) 1 22 := ⟨by decide +kernel, rfl⟩
theorem dX6_opensOne_22 : Dk kX6_opensOne 22 (.invokevirtual 140) 3 25 := ⟨by decide +kernel, rfl⟩
theorem dX6_opensOne_25 : Dk kX6_opensOne 25 (.iconst 1) 1 26 := ⟨by decide +kernel, rfl⟩
theorem dX6_opensOne_26 : Dk kX6_opensOne 26 (.ireturn) 1 27 := ⟨by decide +kernel, rfl⟩
theorem dX6_between_0 : Dk kX6_between 0 (.aload_n 0) 1 1 := ⟨by decide +kernel, rfl⟩
theorem dX6_between_1 : Dk kX6_between 1 (.iload_n 1) 1 2 := ⟨by decide +kernel, rfl⟩
theorem dX6_between_2 : Dk kX6_between 2 (.invokestatic 130) 3 5 := ⟨by decide +kernel, rfl⟩
theorem dX6_between_5 : Dk kX6_between 5 (.iconst 4) 1 6 := ⟨by decide +kernel, rfl⟩
theorem dX6_between_6 : Dj kX6_between 6 (fun o => .if_icmp .ne o) 3 9 13 := ⟨7, by decide +kernel, rfl, by decide⟩
theorem dX6_between_9 : Dk kX6_between 9 (.iconst 5) 1 10 := ⟨by decide +kernel, rfl⟩
theorem dX6_between_10 : Dj kX6_between 10 (fun o => .goto o) 3 13 17 := ⟨7, by decide +kernel, rfl, by decide⟩
theorem dX6_between_13 : Dk kX6_between 13 (.iload_n 1) 1 14 := ⟨by decide +kernel, rfl⟩
theorem dX6_between_14 : Dk kX6_between 14 (.invokestatic 130) 3 17 := ⟨by decide +kernel, rfl⟩
theorem dX6_between_17 : Dk kX6_between 17 (.invokevirtual 143) 3 20 := ⟨by decide +kernel, rfl⟩
theorem dX6_between_20 : Dk kX6_between 20 (.iload_n 1) 1 21 := ⟨by decide +kernel, rfl⟩
theorem dX6_between_21 : Dk kX6_between 21 (.invokestatic 130) 3 24 := ⟨by decide +kernel, rfl⟩
theorem dX6_between_24 : Dk kX6_between 24 (.iconst 4) 1 25 := ⟨by decide +kernel, rfl⟩
theorem dX6_between_25 : Dj kX6_between 25 (fun o => .if_icmp .ne o) 3 28 55 := ⟨30, by decide +kernel, rfl, by decide⟩
theorem dX6_between_28 : Dk kX6_between 28 (.aload_n 0) 1 29 := ⟨by decide +kernel, rfl⟩
theorem dX6_between_29 : Dk kX6_between 29 (.getfield 127) 3 32 := ⟨by decide +kernel, rfl⟩
theorem dX6_between_32 : Dj kX6_between 32 (fun o => .ifCond .le o) 3 35 55 := ⟨23, by decide +kernel, rfl, by decide⟩
theorem dX6_between_35 : Dk kX6_between 35 (.aload_n 0) 1 36 := ⟨by decide +kernel, rfl⟩
theorem dX6_between_36 : Dk kX6_between 36 (.getfield 52) 3 39 := ⟨by decide +kernel, rfl⟩
theorem dX6_between_39 : Dk kX6_between 39 (.aload_n 0) 1 40 := ⟨by decide +kernel, rfl⟩
theorem dX6_between_40 : Dk kX6_between 40 (.getfield 127) 3 43 := ⟨by decide +kernel, rfl⟩
theorem dX6_between_43 : Dk kX6_between 43 (.iconst 1) 1 44 := ⟨by decide +kernel, rfl⟩
theorem dX6_between_44 : Dk kX6_between 44 (.isub) 1 45 := ⟨by decide +kernel, rfl⟩
theorem dX6_between_45 : Dk kX6_between 45 (.iaload) 1 46 := ⟨by decide +kernel, rfl⟩
theorem dX6_between_46 : Dk kX6_between 46 (.invokestatic 130) 3 49 := ⟨by decide +kernel, rfl⟩
theorem dX6_between_49 : Dk kX6_between 49 (.iconst 4) 1 50 := ⟨by decide +kernel, rfl⟩
theorem dX6_between_50 : Dj kX6_between 50 (fun o => .if_icmp .ne o) 3 53 55 := ⟨5, by decide +kernel, rfl, by decide⟩
theorem dX6_between_53 : Dk kX6_between 53 (.iconst 0) 1 54 := ⟨by decide +kernel, rfl⟩
theorem dX6_between_54 : Dk kX6_between 54 (.ireturn) 1 55 := ⟨by decide +kernel, rfl⟩
theorem dX6_between_55 : Dk kX6_between 55 (.aload_n 0) 1 56 := ⟨by decide +kernel, rfl⟩
theorem dX6_between_56 : Dk kX6_between 56 (.iload_n 1) 1 57 := ⟨by decide +kernel, rfl⟩
theorem dX6_between_57 : Dk kX6_between 57 (.invokevirtual 140) 3 60 := ⟨by decide +kernel, rfl⟩
theorem dX6_between_60 : Dk kX6_between 60 (.iconst 1) 1 61 := ⟨by decide +kernel, rfl⟩
theorem dX6_between_61 : Dk kX6_between 61 (.ireturn) 1 62 := ⟨by decide +kernel, rfl⟩
theorem dX6_signOf_0 : Dk kX6_signOf 0 (.aload_n 0) 1 1 := ⟨by decide +kernel, rfl⟩
theorem dX6_signOf_1 : Dk kX6_signOf 1 (.getfield 114) 3 4 := ⟨by decide +kernel, rfl⟩
theorem dX6_signOf_4 : Dk kX6_signOf 4 (.iconst 4) 1 5 := ⟨by decide +kernel, rfl⟩
theorem dX6_signOf_5 : Dj kX6_signOf 5 (fun o => .if_icmp .ne o) 3 8 13 := ⟨8, by decide +kernel, rfl, by decide⟩
theorem dX6_signOf_8 : Dk kX6_signOf 8 (.bipush 11) 2 10 := ⟨by decide +kernel, rfl⟩
theorem dX6_signOf_10 : Dj kX6_signOf 10 (fun o => .goto o) 3 13 97 := ⟨87, by decide +kernel, rfl, by decide⟩
theorem dX6_signOf_13 : Dk kX6_signOf 13 (.aload_n 0) 1 14 := ⟨by decide +kernel, rfl⟩
theorem dX6_signOf_14 : Dk kX6_signOf 14 (.getfield 114) 3 17 := ⟨by decide +kernel, rfl⟩
theorem dX6_signOf_17 : Dk kX6_signOf 17 (.iconst 5) 1 18 := ⟨by decide +kernel, rfl⟩
theorem dX6_signOf_18 : Dj kX6_signOf 18 (fun o => .if_icmp .ne o) 3 21 26 := ⟨8, by decide +kernel, rfl, by decide⟩
theorem dX6_signOf_21 : Dk kX6_signOf 21 (.bipush 12) 2 23 := ⟨by decide +kernel, rfl⟩
theorem dX6_signOf_23 : Dj kX6_signOf 23 (fun o => .goto o) 3 26 97 := ⟨74, by decide +kernel, rfl, by decide⟩
theorem dX6_signOf_26 : Dk kX6_signOf 26 (.aload_n 0) 1 27 := ⟨by decide +kernel, rfl⟩
theorem dX6_signOf_27 : Dk kX6_signOf 27 (.getfield 114) 3 30 := ⟨by decide +kernel, rfl⟩
theorem dX6_signOf_30 : Dk kX6_signOf 30 (.bipush 60) 2 32 := ⟨by decide +kernel, rfl⟩
theorem dX6_signOf_32 : Dj kX6_signOf 32 (fun o => .if_icmp .ne o) 3 35 40 := ⟨8, by decide +kernel, rfl, by decide⟩
theorem dX6_signOf_35 : Dk kX6_signOf 35 (.bipush 14) 2 37 := ⟨by decide +kernel, rfl⟩
theorem dX6_signOf_37 : Dj kX6_signOf 37 (fun o => .goto o) 3 40 97 := ⟨60, by decide +kernel, rfl, by decide⟩
theorem dX6_signOf_40 : Dk kX6_signOf 40 (.aload_n 0) 1 41 := ⟨by decide +kernel, rfl⟩
theorem dX6_signOf_41 : Dk kX6_signOf 41 (.getfield 114) 3 44 := ⟨by decide +kernel, rfl⟩
theorem dX6_signOf_44 : Dk kX6_signOf 44 (.bipush 61) 2 46 := ⟨by decide +kernel, rfl⟩
theorem dX6_signOf_46 : Dj kX6_signOf 46 (fun o => .if_icmp .ne o) 3 49 54 := ⟨8, by decide +kernel, rfl, by decide⟩
theorem dX6_signOf_49 : Dk kX6_signOf 49 (.bipush 15) 2 51 := ⟨by decide +kernel, rfl⟩
theorem dX6_signOf_51 : Dj kX6_signOf 51 (fun o => .goto o) 3 54 97 := ⟨46, by decide +kernel, rfl, by decide⟩
theorem dX6_signOf_54 : Dk kX6_signOf 54 (.aload_n 0) 1 55 := ⟨by decide +kernel, rfl⟩
theorem dX6_signOf_55 : Dk kX6_signOf 55 (.getfield 114) 3 58 := ⟨by decide +kernel, rfl⟩
theorem dX6_signOf_58 : Dk kX6_signOf 58 (.bipush 43) 2 60 := ⟨by decide +kernel, rfl⟩
theorem dX6_signOf_60 : Dj kX6_signOf 60 (fun o => .if_icmp .ne o) 3 63 68 := ⟨8, by decide +kernel, rfl, by decide⟩
theorem dX6_signOf_63 : Dk kX6_signOf 63 (.bipush 16) 2 65 := ⟨by decide +kernel, rfl⟩
theorem dX6_signOf_65 : Dj kX6_signOf 65 (fun o => .goto o) 3 68 97 := ⟨32, by decide +kernel, rfl, by decide⟩
theorem dX6_signOf_68 : Dk kX6_signOf 68 (.aload_n 0) 1 69 := ⟨by decide +kernel, rfl⟩
theorem dX6_signOf_69 : Dk kX6_signOf 69 (.getfield 114) 3 72 := ⟨by decide +kernel, rfl⟩
theorem dX6_signOf_72 : Dk kX6_signOf 72 (.bipush 45) 2 74 := ⟨by decide +kernel, rfl⟩
theorem dX6_signOf_74 : Dj kX6_signOf 74 (fun o => .if_icmp .ne o) 3 77 82 := ⟨8, by decide +kernel, rfl, by decide⟩
theorem dX6_signOf_77 : Dk kX6_signOf 77 (.bipush 17) 2 79 := ⟨by decide +kernel, rfl⟩
theorem dX6_signOf_79 : Dj kX6_signOf 79 (fun o => .goto o) 3 82 97 := ⟨18, by decide +kernel, rfl, by decide⟩
theorem dX6_signOf_82 : Dk kX6_signOf 82 (.aload_n 0) 1 83 := ⟨by decide +kernel, rfl⟩
theorem dX6_signOf_83 : Dk kX6_signOf 83 (.getfield 114) 3 86 := ⟨by decide +kernel, rfl⟩
theorem dX6_signOf_86 : Dk kX6_signOf 86 (.bipush 42) 2 88 := ⟨by decide +kernel, rfl⟩
theorem dX6_signOf_88 : Dj kX6_signOf 88 (fun o => .if_icmp .ne o) 3 91 96 := ⟨8, by decide +kernel, rfl, by decide⟩
theorem dX6_signOf_91 : Dk kX6_signOf 91 (.bipush 18) 2 93 := ⟨by decide +kernel, rfl⟩
theorem dX6_signOf_93 : Dj kX6_signOf 93 (fun o => .goto o) 3 96 97 := ⟨4, by decide +kernel, rfl, by decide⟩
theorem dX6_signOf_96 : Dk kX6_signOf 96 (.iconst (-1)) 1 97 := ⟨by decide +kernel, rfl⟩
theorem dX6_signOf_97 : Dk kX6_signOf 97 (.ireturn) 1 98 := ⟨by decide +kernel, rfl⟩
theorem dX6_eRead_0 : Dk kX6_eRead 0 (.aload_n 0) 1 1 := ⟨by decide +kernel, rfl⟩
theorem dX6_eRead_1 : Dk kX6_eRead 1 (.iconst 0) 1 2 := ⟨by decide +kernel, rfl⟩
theorem dX6_eRead_2 : Dk kX6_eRead 2 (.putfield 127) 3 5 := ⟨by decide +kernel, rfl⟩
theorem dX6_eRead_5 : Dk kX6_eRead 5 (.aload_n 0) 1 6 := ⟨by decide +kernel, rfl⟩
theorem dX6_eRead_6 : Dk kX6_eRead 6 (.iconst 0) 1 7 := ⟨by decide +kernel, rfl⟩
theorem dX6_eRead_7 : Dk kX6_eRead 7 (.putfield 133) 3 10 := ⟨by decide +kernel, rfl⟩
theorem dX6_eRead_10 : Dk kX6_eRead 10 (.iconst 1) 1 11 := ⟨by decide +kernel, rfl⟩
theorem dX6_eRead_11 : Dk kX6_eRead 11 (.istore_n 1) 1 12 := ⟨by decide +kernel, rfl⟩
theorem dX6_eRead_12 : Dk kX6_eRead 12 (.iconst 1) 1 13 := ⟨by decide +kernel, rfl⟩
theorem dX6_eRead_13 : Dk kX6_eRead 13 (.istore_n 2) 1 14 := ⟨by decide +kernel, rfl⟩
theorem dX6_eRead_14 : Dk kX6_eRead 14 (.aload_n 0) 1 15 := ⟨by decide +kernel, rfl⟩
theorem dX6_eRead_15 : Dk kX6_eRead 15 (.invokevirtual 146) 3 18 := ⟨by decide +kernel, rfl⟩
theorem dX6_eRead_18 : Dk kX6_eRead 18 (.iload_n 1) 1 19 := ⟨by decide +kernel, rfl⟩
theorem dX6_eRead_19 : Dj kX6_eRead 19 (fun o => .ifCond .eq o) 3 22 150 := ⟨131, by decide +kernel, rfl, by decide⟩
theorem dX6_eRead_22 : Dk kX6_eRead 22 (.aload_n 0) 1 23 := ⟨by decide +kernel, rfl⟩
theorem dX6_eRead_23 : Dk kX6_eRead 23 (.getfield 114) 3 26 := ⟨by decide +kernel, rfl⟩
theorem dX6_eRead_26 : Dk kX6_eRead 26 (.iconst 1) 1 27 := ⟨by decide +kernel, rfl⟩
theorem dX6_eRead_27 : Dj kX6_eRead 27 (fun o => .if_icmp .eq o) 3 30 38 := ⟨11, by decide +kernel, rfl, by decide⟩
theorem dX6_eRead_30 : Dk kX6_eRead 30 (.aload_n 0) 1 31 := ⟨by decide +kernel, rfl⟩
theorem dX6_eRead_31 : Dk kX6_eRead 31 (.getfield 114) 3 34 := ⟨by decide +kernel, rfl⟩
theorem dX6_eRead_34 : Dk kX6_eRead 34 (.iconst 2) 1 35 := ⟨by decide +kernel, rfl⟩
theorem dX6_eRead_35 : Dj kX6_eRead 35 (fun o => .if_icmp .ne o) 3 38 75 := ⟨40, by decide +kernel, rfl, by decide⟩
theorem dX6_eRead_38 : Dk kX6_eRead 38 (.aload_n 0) 1 39 := ⟨by decide +kernel, rfl⟩
theorem dX6_eRead_39 : Dk kX6_eRead 39 (.aload_n 0) 1 40 := ⟨by decide +kernel, rfl⟩
theorem dX6_eRead_40 : Dk kX6_eRead 40 (.getfield 114) 3 43 := ⟨by decide +kernel, rfl⟩
theorem dX6_eRead_43 : Dk kX6_eRead 43 (.iconst 1) 1 44 := ⟨by decide +kernel, rfl⟩
theorem dX6_eRead_44 : Dj kX6_eRead 44 (fun o => .if_icmp .ne o) 3 47 57 := ⟨13, by decide +kernel, rfl, by decide⟩
theorem dX6_eRead_47 : Dk kX6_eRead 47 (.ldc 149) 2 49 := ⟨by decide +kernel, rfl⟩
theorem dX6_eRead_49 : Dk kX6_eRead 49 (.aload_n 0) 1 50 := ⟨by decide +kernel, rfl⟩
theorem dX6_eRead_50 : Dk kX6_eRead 50 (.getfield 117) 3 53 := ⟨by decide +kernel, rfl⟩
theorem dX6_eRead_53 : Dk kX6_eRead 53 (.iadd) 1 54 := ⟨by decide +kernel, rfl⟩
theorem dX6_eRead_54 : Dj kX6_eRead 54 (fun o => .goto o) 3 57 61 := ⟨7, by decide +kernel, rfl, by decide⟩
theorem dX6_eRead_57 : Dk kX6_eRead 57 (.aload_n 0) 1 58 := ⟨by decide +kernel, rfl⟩
theorem dX6_eRead_58 : Dk kX6_eRead 58 (.getfield 117) 3 61 := ⟨by decide +kernel, rfl⟩
theorem dX6_eRead_61 : Dk kX6_eRead 61 (.invokevirtual 136) 3 64 := ⟨by decide +kernel, rfl⟩
theorem dX6_eRead_64 : Dk kX6_eRead 64 (.aload_n 0) 1 65 := ⟨by decide +kernel, rfl⟩
theorem dX6_eRead_65 : Dk kX6_eRead 65 (.bipush 7) 2 67 := ⟨by decide +kernel, rfl⟩
theorem dX6_eRead_67 : Dk kX6_eRead 67 (.invokevirtual 143) 3 70 := ⟨by decide +kernel, rfl⟩
theorem dX6_eRead_70 : Dk kX6_eRead 70 (.iconst 0) 1 71 := ⟨by decide +kernel, rfl⟩
theorem dX6_eRead_71 : Dk kX6_eRead 71 (.istore_n 1) 1 72 := ⟨by decide +kernel, rfl⟩
theorem dX6_eRead_72 : Dj kX6_eRead 72 (fun o => .goto o) 3 75 14 := ⟨-58, by decide +kernel, rfl, by decide⟩
theorem dX6_eRead_75 : Dk kX6_eRead 75 (.aload_n 0) 1 76 := ⟨by decide +kernel, rfl⟩
theorem dX6_eRead_76 : Dk kX6_eRead 76 (.getfield 114) 3 79 := ⟨by decide +kernel, rfl⟩
theorem dX6_eRead_79 : Dk kX6_eRead 79 (.bipush 6) 2 81 := ⟨by decide +kernel, rfl⟩
theorem dX6_eRead_81 : Dj kX6_eRead 81 (fun o => .if_icmp .ne o) 3 84 99 := ⟨18, by decide +kernel, rfl, by decide⟩
theorem dX6_eRead_84 : Dk kX6_eRead 84 (.iload_n 2) 1 85 := ⟨by decide +kernel, rfl⟩
theorem dX6_eRead_85 : Dj kX6_eRead 85 (fun o => .ifCond .eq o) 3 88 99 := ⟨14, by decide +kernel, rfl, by decide⟩
theorem dX6_eRead_88 : Dk kX6_eRead 88 (.aload_n 0) 1 89 := ⟨by decide +kernel, rfl⟩
theorem dX6_eRead_89 : Dk kX6_eRead 89 (.bipush 13) 2 91 := ⟨by decide +kernel, rfl⟩
theorem dX6_eRead_91 : Dk kX6_eRead 91 (.invokevirtual 150) 3 94 := ⟨by decide +kernel, rfl⟩
theorem dX6_eRead_94 : Dj kX6_eRead 94 (fun o => .ifCond .ne o) 3 97 14 := ⟨-80, by decide +kernel, rfl, by decide⟩
theorem dX6_eRead_97 : Dk kX6_eRead 97 (.iconst 0) 1 98 := ⟨by decide +kernel, rfl⟩
theorem dX6_eRead_98 : Dk kX6_eRead 98 (.ireturn) 1 99 := ⟨by decide +kernel, rfl⟩
theorem dX6_eRead_99 : Dk kX6_eRead 99 (.aload_n 0) 1 100 := ⟨by decide +kernel, rfl⟩
theorem dX6_eRead_100 : Dk kX6_eRead 100 (.getfield 114) 3 103 := ⟨by decide +kernel, rfl⟩
theorem dX6_eRead_103 : Dk kX6_eRead 103 (.bipush 45) 2 105 := ⟨by decide +kernel, rfl⟩
theorem dX6_eRead_105 : Dj kX6_eRead 105 (fun o => .if_icmp .ne o) 3 108 124 := ⟨19, by decide +kernel, rfl, by decide⟩
theorem dX6_eRead_108 : Dk kX6_eRead 108 (.aload_n 0) 1 109 := ⟨by decide +kernel, rfl⟩
theorem dX6_eRead_109 : Dk kX6_eRead 109 (.bipush 19) 2 111 := ⟨by decide +kernel, rfl⟩
theorem dX6_eRead_111 : Dk kX6_eRead 111 (.invokevirtual 150) 3 114 := ⟨by decide +kernel, rfl⟩
theorem dX6_eRead_114 : Dj kX6_eRead 114 (fun o => .ifCond .ne o) 3 117 119 := ⟨5, by decide +kernel, rfl, by decide⟩
theorem dX6_eRead_117 : Dk kX6_eRead 117 (.iconst 0) 1 118 := ⟨by decide +kernel, rfl⟩
theorem dX6_eRead_118 : Dk kX6_eRead 118 (.ireturn) 1 119 := ⟨by decide +kernel, rfl⟩
theorem dX6_eRead_119 : Dk kX6_eRead 119 (.iconst 0) 1 120 := ⟨by decide +kernel, rfl⟩
theorem dX6_eRead_120 : Dk kX6_eRead 120 (.istore_n 2) 1 121 := ⟨by decide +kernel, rfl⟩
theorem dX6_eRead_121 : Dj kX6_eRead 121 (fun o => .goto o) 3 124 14 := ⟨-107, by decide +kernel, rfl, by decide⟩
theorem dX6_eRead_124 : Dk kX6_eRead 124 (.aload_n 0) 1 125 := ⟨by decide +kernel, rfl⟩
theorem dX6_eRead_125 : Dk kX6_eRead 125 (.getfield 114) 3 128 := ⟨by decide +kernel, rfl⟩
theorem dX6_eRead_128 : Dk kX6_eRead 128 (.bipush 40) 2 130 := ⟨by decide +kernel, rfl⟩
theorem dX6_eRead_130 : Dj kX6_eRead 130 (fun o => .if_icmp .ne o) 3 133 148 := ⟨18, by decide +kernel, rfl, by decide⟩
theorem dX6_eRead_133 : Dk kX6_eRead 133 (.aload_n 0) 1 134 := ⟨by decide +kernel, rfl⟩
theorem dX6_eRead_134 : Dk kX6_eRead 134 (.iconst 0) 1 135 := ⟨by decide +kernel, rfl⟩
theorem dX6_eRead_135 : Dk kX6_eRead 135 (.invokevirtual 150) 3 138 := ⟨by decide +kernel, rfl⟩
theorem dX6_eRead_138 : Dj kX6_eRead 138 (fun o => .ifCond .ne o) 3 141 143 := ⟨5, by decide +kernel, rfl, by decide⟩
theorem dX6_eRead_141 : Dk kX6_eRead 141 (.iconst 0) 1 142 := ⟨by decide +kernel, rfl⟩
theorem dX6_eRead_142 : Dk kX6_eRead 142 (.ireturn) 1 143 := ⟨by decide +kernel, rfl⟩
theorem dX6_eRead_143 : Dk kX6_eRead 143 (.iconst 1) 1 144 := ⟨by decide +kernel, rfl⟩
theorem dX6_eRead_144 : Dk kX6_eRead 144 (.istore_n 2) 1 145 := ⟨by decide +kernel, rfl⟩
theorem dX6_eRead_145 : Dj kX6_eRead 145 (fun o => .goto o) 3 148 14 := ⟨-131, by decide +kernel, rfl, by decide⟩
theorem dX6_eRead_148 : Dk kX6_eRead 148 (.iconst 0) 1 149 := ⟨by decide +kernel, rfl⟩
theorem dX6_eRead_149 : Dk kX6_eRead 149 (.ireturn) 1 150 := ⟨by decide +kernel, rfl⟩
theorem dX6_eRead_150 : Dk kX6_eRead 150 (.aload_n 0) 1 151 := ⟨by decide +kernel, rfl⟩
theorem dX6_eRead_151 : Dk kX6_eRead 151 (.getfield 114) 3 154 := ⟨by decide +kernel, rfl⟩
theorem dX6_eRead_154 : Dk kX6_eRead 154 (.bipush 59) 2 156 := ⟨by decide +kernel, rfl⟩
theorem dX6_eRead_156 : Dj kX6_eRead 156 (fun o => .if_icmp .ne o) 3 159 177 := ⟨21, by decide +kernel, rfl, by decide⟩
theorem dX6_eRead_159 : Dk kX6_eRead 159 (.aload_n 0) 1 160 := ⟨by decide +kernel, rfl⟩
theorem dX6_eRead_160 : Dk kX6_eRead 160 (.iconst 1) 1 161 := ⟨by decide +kernel, rfl⟩
theorem dX6_eRead_161 : Dk kX6_eRead 161 (.invokevirtual 143) 3 164 := ⟨by decide +kernel, rfl⟩
theorem dX6_eRead_164 : Dk kX6_eRead 164 (.aload_n 0) 1 165 := ⟨by decide +kernel, rfl⟩
theorem dX6_eRead_165 : Dk kX6_eRead 165 (.getfield 127) 3 168 := ⟨by decide +kernel, rfl⟩
theorem dX6_eRead_168 : Dj kX6_eRead 168 (fun o => .ifCond .ne o) 3 171 175 := ⟨7, by decide +kernel, rfl, by decide⟩
theorem dX6_eRead_171 : Dk kX6_eRead 171 (.iconst 1) 1 172 := ⟨by decide +kernel, rfl⟩
theorem dX6_eRead_172 : Dj kX6_eRead 172 (fun o => .goto o) 3 175 176 := ⟨4, by decide +kernel, rfl, by decide⟩
theorem dX6_eRead_175 : Dk kX6_eRead 175 (.iconst 0) 1 176 := ⟨by decide +kernel, rfl⟩
theorem dX6_eRead_176 : Dk kX6_eRead 176 (.ireturn) 1 177 := ⟨by decide +kernel, rfl⟩
theorem dX6_eRead_177 : Dk kX6_eRead 177 (.aload_n 0) 1 178 := ⟨by decide +kernel, rfl⟩
theorem dX6_eRead_178 : Dk kX6_eRead 178 (.getfield 114) 3 181 := ⟨by decide +kernel, rfl⟩
theorem dX6_eRead_181 : Dk kX6_eRead 181 (.bipush 41) 2 183 := ⟨by decide +kernel, rfl⟩
theorem dX6_eRead_183 : Dj kX6_eRead 183 (fun o => .if_icmp .ne o) 3 186 229 := ⟨46, by decide +kernel, rfl, by decide⟩
theorem dX6_eRead_186 : Dk kX6_eRead 186 (.aload_n 0) 1 187 := ⟨by decide +kernel, rfl⟩
theorem dX6_eRead_187 : Dk kX6_eRead 187 (.iconst 1) 1 188 := ⟨by decide +kernel, rfl⟩
theorem dX6_eRead_188 : Dk kX6_eRead 188 (.invokevirtual 143) 3 191 := ⟨by decide +kernel, rfl⟩
theorem dX6_eRead_191 : Dk kX6_eRead 191 (.aload_n 0) 1 192 := ⟨by decide +kernel, rfl⟩
theorem dX6_eRead_192 : Dk kX6_eRead 192 (.getfield 127) 3 195 := ⟨by decide +kernel, rfl⟩
theorem dX6_eRead_195 : Dj kX6_eRead 195 (fun o => .ifCond .ne o) 3 198 200 := ⟨5, by decide +kernel, rfl, by decide⟩
theorem dX6_eRead_198 : Dk kX6_eRead 198 (.iconst 0) 1 199 := ⟨by decide +kernel, rfl⟩
theorem dX6_eRead_199 : Dk kX6_eRead 199 (.ireturn) 1 200 := ⟨by decide +kernel, rfl⟩
theorem dX6_eRead_200 : Dk kX6_eRead 200 (.aload_n 0) 1 201 := ⟨by decide +kernel, rfl⟩
theorem dX6_eRead_201 : Dk kX6_eRead 201 (.dup) 1 202 := ⟨by decide +kernel, rfl⟩
theorem dX6_eRead_202 : Dk kX6_eRead 202 (.getfield 127) 3 205 := ⟨by decide +kernel, rfl⟩
theorem dX6_eRead_205 : Dk kX6_eRead 205 (.iconst 1) 1 206 := ⟨by decide +kernel, rfl⟩
theorem dX6_eRead_206 : Dk kX6_eRead 206 (.isub) 1 207 := ⟨by decide +kernel, rfl⟩
theorem dX6_eRead_207 : Dk kX6_eRead 207 (.putfield 127) 3 210 := ⟨by decide +kernel, rfl⟩
theorem dX6_eRead_210 : Dk kX6_eRead 210 (.aload_n 0) 1 211 := ⟨by decide +kernel, rfl⟩
theorem dX6_eRead_211 : Dk kX6_eRead 211 (.dup) 1 212 := ⟨by decide +kernel, rfl⟩
theorem dX6_eRead_212 : Dk kX6_eRead 212 (.getfield 133) 3 215 := ⟨by decide +kernel, rfl⟩
theorem dX6_eRead_215 : Dk kX6_eRead 215 (.iconst 1) 1 216 := ⟨by decide +kernel, rfl⟩
theorem dX6_eRead_216 : Dk kX6_eRead 216 (.isub) 1 217 := ⟨by decide +kernel, rfl⟩
theorem dX6_eRead_217 : Dk kX6_eRead 217 (.putfield 133) 3 220 := ⟨by decide +kernel, rfl⟩
theorem dX6_eRead_220 : Dk kX6_eRead 220 (.aload_n 0) 1 221 := ⟨by decide +kernel, rfl⟩
theorem dX6_eRead_221 : Dk kX6_eRead 221 (.bipush 7) 2 223 := ⟨by decide +kernel, rfl⟩
theorem dX6_eRead_223 : Dk kX6_eRead 223 (.invokevirtual 143) 3 226 := ⟨by decide +kernel, rfl⟩
theorem dX6_eRead_226 : Dj kX6_eRead 226 (fun o => .goto o) 3 229 14 := ⟨-212, by decide +kernel, rfl, by decide⟩
theorem dX6_eRead_229 : Dk kX6_eRead 229 (.aload_n 0) 1 230 := ⟨by decide +kernel, rfl⟩
theorem dX6_eRead_230 : Dk kX6_eRead 230 (.invokevirtual 153) 3 233 := ⟨by decide +kernel, rfl⟩
theorem dX6_eRead_233 : Dk kX6_eRead 233 (.istore_n 3) 1 234 := ⟨by decide +kernel, rfl⟩
theorem dX6_eRead_234 : Dk kX6_eRead 234 (.iload_n 3) 1 235 := ⟨by decide +kernel, rfl⟩
theorem dX6_eRead_235 : Dk kX6_eRead 235 (.iconst (-1)) 1 236 := ⟨by decide +kernel, rfl⟩
theorem dX6_eRead_236 : Dj kX6_eRead 236 (fun o => .if_icmp .eq o) 3 239 247 := ⟨11, by decide +kernel, rfl, by decide⟩
theorem dX6_eRead_239 : Dk kX6_eRead 239 (.aload_n 0) 1 240 := ⟨by decide +kernel, rfl⟩
theorem dX6_eRead_240 : Dk kX6_eRead 240 (.iload_n 3) 1 241 := ⟨by decide +kernel, rfl⟩
theorem dX6_eRead_241 : Dk kX6_eRead 241 (.invokevirtual 156) 3 244 := ⟨by decide +kernel, rfl⟩
theorem dX6_eRead_244 : Dj kX6_eRead 244 (fun o => .ifCond .ne o) 3 247 249 := ⟨5, by decide +kernel, rfl, by decide⟩
theorem dX6_eRead_247 : Dk kX6_eRead 247 (.iconst 0) 1 248 := ⟨by decide +kernel, rfl⟩
theorem dX6_eRead_248 : Dk kX6_eRead 248 (.ireturn) 1 249 := ⟨by decide +kernel, rfl⟩
theorem dX6_eRead_249 : Dk kX6_eRead 249 (.iconst 1) 1 250 := ⟨by decide +kernel, rfl⟩
theorem dX6_eRead_250 : Dk kX6_eRead 250 (.istore_n 1) 1 251 := ⟨by decide +kernel, rfl⟩
theorem dX6_eRead_251 : Dk kX6_eRead 251 (.iload_n 3) 1 252 := ⟨by decide +kernel, rfl⟩
theorem dX6_eRead_252 : Dk kX6_eRead 252 (.bipush 12) 2 254 := ⟨by decide +kernel, rfl⟩
theorem dX6_eRead_254 : Dj kX6_eRead 254 (fun o => .if_icmp .gt o) 3 257 261 := ⟨7, by decide +kernel, rfl, by decide⟩
theorem dX6_eRead_257 : Dk kX6_eRead 257 (.iconst 1) 1 258 := ⟨by decide +kernel, rfl⟩
theorem dX6_eRead_258 : Dj kX6_eRead 258 (fun o => .goto o) 3 261 262 := ⟨4, by decide +kernel, rfl, by decide⟩
theorem dX6_eRead_261 : Dk kX6_eRead 261 (.iconst 0) 1 262 := ⟨by decide +kernel, rfl⟩
theorem dX6_eRead_262 : Dk kX6_eRead 262 (.istore_n 2) 1 263 := ⟨by decide +kernel, rfl⟩
theorem dX6_eRead_263 : Dj kX6_eRead 263 (fun o => .goto o) 3 266 14 := ⟨-249, by decide +kernel, rfl, by decide⟩
theorem dX6_text_0 : Dk kX6_text 0 (.aload_n 0) 1 1 := ⟨by decide +kernel, rfl⟩
theorem dX6_text_1 : Dk kX6_text 1 (.getfield 89) 3 4 := ⟨by decide +kernel, rfl⟩
theorem dX6_text_4 : Dk kX6_text 4 (.bipush 6) 2 6 := ⟨by decide +kernel, rfl⟩
theorem dX6_text_6 : Dj kX6_text 6 (fun o => .if_icmp .ne o) 3 9 12 := ⟨6, by decide +kernel, rfl, by decide⟩
theorem dX6_text_9 : Dk kX6_text 9 (.bipush (-4)) 2 11 := ⟨by decide +kernel, rfl⟩
theorem dX6_text_11 : Dk kX6_text 11 (.ireturn) 1 12 := ⟨by decide +kernel, rfl⟩
theorem dX6_text_12 : Dk kX6_text 12 (.aload_n 0) 1 13 := ⟨by decide +kernel, rfl⟩
theorem dX6_text_13 : Dk kX6_text 13 (.iconst 0) 1 14 := ⟨by decide +kernel, rfl⟩
theorem dX6_text_14 : Dk kX6_text 14 (.putfield 108) 3 17 := ⟨by decide +kernel, rfl⟩
theorem dX6_text_17 : Dk kX6_text 17 (.aload_n 0) 1 18 := ⟨by decide +kernel, rfl⟩
theorem dX6_text_18 : Dk kX6_text 18 (.iconst 0) 1 19 := ⟨by decide +kernel, rfl⟩
theorem dX6_text_19 : Dk kX6_text 19 (.putfield 124) 3 22 := ⟨by decide +kernel, rfl⟩
theorem dX6_text_22 : Dk kX6_text 22 (.iconst 1) 1 23 := ⟨by decide +kernel, rfl⟩
theorem dX6_text_23 : Dk kX6_text 23 (.istore_n 1) 1 24 := ⟨by decide +kernel, rfl⟩
theorem dX6_text_24 : Dk kX6_text 24 (.iconst 0) 1 25 := ⟨by decide +kernel, rfl⟩
theorem dX6_text_25 : Dk kX6_text 25 (.istore_n 2) 1 26 := ⟨by decide +kernel, rfl⟩
theorem dX6_text_26 : Dk kX6_text 26 (.iload_n 2) 1 27 := ⟨by decide +kernel, rfl⟩
theorem dX6_text_27 : Dk kX6_text 27 (.iconst 3) 1 28 := ⟨by decide +kernel, rfl⟩
theorem dX6_text_28 : Dj kX6_text 28 (fun o => .if_icmp .ge o) 3 31 101 := ⟨73, by decide +kernel, rfl, by decide⟩
theorem dX6_text_31 : Dk kX6_text 31 (.iload_n 1) 1 32 := ⟨by decide +kernel, rfl⟩
theorem dX6_text_32 : Dj kX6_text 32 (fun o => .ifCond .eq o) 3 35 101 := ⟨69, by decide +kernel, rfl, by decide⟩
theorem dX6_text_35 : Dk kX6_text 35 (.aload_n 0) 1 36 := ⟨by decide +kernel, rfl⟩
theorem dX6_text_36 : Dk kX6_text 36 (.invokevirtual 146) 3 39 := ⟨by decide +kernel, rfl⟩
theorem dX6_text_39 : Dk kX6_text 39 (.aload_n 0) 1 40 := ⟨by decide +kernel, rfl⟩
theorem dX6_text_40 : Dk kX6_text 40 (.getfield 114) 3 43 := ⟨by decide +kernel, rfl⟩
theorem dX6_text_43 : Dk kX6_text 43 (.iconst 3) 1 44 := ⟨by decide +kernel, rfl⟩
theorem dX6_text_44 : Dj kX6_text 44 (fun o => .if_icmp .ne o) 3 47 59 := ⟨15, by decide +kernel, rfl, by decide⟩
theorem dX6_text_47 : Dk kX6_text 47 (.aload_n 0) 1 48 := ⟨by decide +kernel, rfl⟩
theorem dX6_text_48 : Dk kX6_text 48 (.getfield 117) 3 51 := ⟨by decide +kernel, rfl⟩
theorem dX6_text_51 : Dk kX6_text 51 (.iload_n 2) 1 52 := ⟨by decide +kernel, rfl⟩
theorem dX6_text_52 : Dj kX6_text 52 (fun o => .if_icmp .ne o) 3 55 59 := ⟨7, by decide +kernel, rfl, by decide⟩
theorem dX6_text_55 : Dk kX6_text 55 (.iconst 1) 1 56 := ⟨by decide +kernel, rfl⟩
theorem dX6_text_56 : Dj kX6_text 56 (fun o => .goto o) 3 59 60 := ⟨4, by decide +kernel, rfl, by decide⟩
theorem dX6_text_59 : Dk kX6_text 59 (.iconst 0) 1 60 := ⟨by decide +kernel, rfl⟩
theorem dX6_text_60 : Dk kX6_text 60 (.istore_n 1) 1 61 := ⟨by decide +kernel, rfl⟩
theorem dX6_text_61 : Dk kX6_text 61 (.aload_n 0) 1 62 := ⟨by decide +kernel, rfl⟩
theorem dX6_text_62 : Dk kX6_text 62 (.getfield 28) 3 65 := ⟨by decide +kernel, rfl⟩
theorem dX6_text_65 : Dk kX6_text 65 (.iconst 4) 1 66 := ⟨by decide +kernel, rfl⟩
theorem dX6_text_66 : Dk kX6_text 66 (.aload_n 0) 1 67 := ⟨by decide +kernel, rfl⟩
theorem dX6_text_67 : Dk kX6_text 67 (.getfield 89) 3 70 := ⟨by decide +kernel, rfl⟩
theorem dX6_text_70 : Dk kX6_text 70 (.imul) 1 71 := ⟨by decide +kernel, rfl⟩
theorem dX6_text_71 : Dk kX6_text 71 (.iload_n 2) 1 72 := ⟨by decide +kernel, rfl⟩
theorem dX6_text_72 : Dk kX6_text 72 (.iadd) 1 73 := ⟨by decide +kernel, rfl⟩
theorem dX6_text_73 : Dk kX6_text 73 (.aload_n 0) 1 74 := ⟨by decide +kernel, rfl⟩
theorem dX6_text_74 : Dk kX6_text 74 (.getfield 124) 3 77 := ⟨by decide +kernel, rfl⟩
theorem dX6_text_77 : Dk kX6_text 77 (.iastore) 1 78 := ⟨by decide +kernel, rfl⟩
theorem dX6_text_78 : Dk kX6_text 78 (.iload_n 1) 1 79 := ⟨by decide +kernel, rfl⟩
theorem dX6_text_79 : Dj kX6_text 79 (fun o => .ifCond .eq o) 3 82 93 := ⟨14, by decide +kernel, rfl, by decide⟩
theorem dX6_text_82 : Dk kX6_text 82 (.aload_n 0) 1 83 := ⟨by decide +kernel, rfl⟩
theorem dX6_text_83 : Dk kX6_text 83 (.invokevirtual 159) 3 86 := ⟨by decide +kernel, rfl⟩
theorem dX6_text_86 : Dj kX6_text 86 (fun o => .ifCond .eq o) 3 89 93 := ⟨7, by decide +kernel, rfl, by decide⟩
theorem dX6_text_89 : Dk kX6_text 89 (.iconst 1) 1 90 := ⟨by decide +kernel, rfl⟩
theorem dX6_text_90 : Dj kX6_text 90 (fun o => .goto o) 3 93 94 := ⟨4, by decide +kernel, rfl, by decide⟩
theorem dX6_text_93 : Dk kX6_text 93 (.iconst 0) 1 94 := ⟨by decide +kernel, rfl⟩
theorem dX6_text_94 : Dk kX6_text 94 (.istore_n 1) 1 95 := ⟨by decide +kernel, rfl⟩
theorem dX6_text_95 : Dk kX6_text 95 (.iinc 2 1) 3 98 := ⟨by decide +kernel, rfl⟩
theorem dX6_text_98 : Dj kX6_text 98 (fun o => .goto o) 3 101 26 := ⟨-72, by decide +kernel, rfl, by decide⟩
theorem dX6_text_101 : Dk kX6_text 101 (.iload_n 1) 1 102 := ⟨by decide +kernel, rfl⟩
theorem dX6_text_102 : Dj kX6_text 102 (fun o => .ifCond .eq o) 3 105 122 := ⟨20, by decide +kernel, rfl, by decide⟩
theorem dX6_text_105 : Dk kX6_text 105 (.aload_n 0) 1 106 := ⟨by decide +kernel, rfl⟩
theorem dX6_text_106 : Dk kX6_text 106 (.invokevirtual 146) 3 109 := ⟨by decide +kernel, rfl⟩
theorem dX6_text_109 : Dk kX6_text 109 (.aload_n 0) 1 110 := ⟨by decide +kernel, rfl⟩
theorem dX6_text_110 : Dk kX6_text 110 (.getfield 114) 3 113 := ⟨by decide +kernel, rfl⟩
theorem dX6_text_113 : Dj kX6_text 113 (fun o => .ifCond .ne o) 3 116 120 := ⟨7, by decide +kernel, rfl, by decide⟩
theorem dX6_text_116 : Dk kX6_text 116 (.iconst 1) 1 117 := ⟨by decide +kernel, rfl⟩
theorem dX6_text_117 : Dj kX6_text 117 (fun o => .goto o) 3 120 121 := ⟨4, by decide +kernel, rfl, by decide⟩
theorem dX6_text_120 : Dk kX6_text 120 (.iconst 0) 1 121 := ⟨by decide +kernel, rfl⟩
theorem dX6_text_121 : Dk kX6_text 121 (.istore_n 1) 1 122 := ⟨by decide +kernel, rfl⟩
theorem dX6_text_122 : Dk kX6_text 122 (.aload_n 0) 1 123 := ⟨by decide +kernel, rfl⟩
theorem dX6_text_123 : Dk kX6_text 123 (.getfield 28) 3 126 := ⟨by decide +kernel, rfl⟩
theorem dX6_text_126 : Dk kX6_text 126 (.iconst 4) 1 127 := ⟨by decide +kernel, rfl⟩
theorem dX6_text_127 : Dk kX6_text 127 (.aload_n 0) 1 128 := ⟨by decide +kernel, rfl⟩
theorem dX6_text_128 : Dk kX6_text 128 (.getfield 89) 3 131 := ⟨by decide +kernel, rfl⟩
theorem dX6_text_131 : Dk kX6_text 131 (.imul) 1 132 := ⟨by decide +kernel, rfl⟩
theorem dX6_text_132 : Dk kX6_text 132 (.iconst 3) 1 133 := ⟨by decide +kernel, rfl⟩
theorem dX6_text_133 : Dk kX6_text 133 (.iadd) 1 134 := ⟨by decide +kernel, rfl⟩
theorem dX6_text_134 : Dk kX6_text 134 (.aload_n 0) 1 135 := ⟨by decide +kernel, rfl⟩
theorem dX6_text_135 : Dk kX6_text 135 (.getfield 124) 3 138 := ⟨by decide +kernel, rfl⟩
theorem dX6_text_138 : Dk kX6_text 138 (.iastore) 1 139 := ⟨by decide +kernel, rfl⟩
theorem dX6_text_139 : Dk kX6_text 139 (.aload_n 0) 1 140 := ⟨by decide +kernel, rfl⟩
theorem dX6_text_140 : Dk kX6_text 140 (.iconst 0) 1 141 := ⟨by decide +kernel, rfl⟩
theorem dX6_text_141 : Dk kX6_text 141 (.putfield 64) 3 144 := ⟨by decide +kernel, rfl⟩
theorem dX6_text_144 : Dk kX6_text 144 (.iload_n 1) 1 145 := ⟨by decide +kernel, rfl⟩
theorem dX6_text_145 : Dj kX6_text 145 (fun o => .ifCond .ne o) 3 148 156 := ⟨11, by decide +kernel, rfl, by decide⟩
theorem dX6_text_148 : Dk kX6_text 148 (.bipush (-100)) 2 150 := ⟨by decide +kernel, rfl⟩
theorem dX6_text_150 : Dk kX6_text 150 (.aload_n 0) 1 151 := ⟨by decide +kernel, rfl⟩
theorem dX6_text_151 : Dk kX6_text 151 (.getfield 111) 3 154 := ⟨by decide +kernel, rfl⟩
theorem dX6_text_154 : Dk kX6_text 154 (.isub) 1 155 := ⟨by decide +kernel, rfl⟩
theorem dX6_text_155 : Dk kX6_text 155 (.ireturn) 1 156 := ⟨by decide +kernel, rfl⟩
theorem dX6_text_156 : Dk kX6_text 156 (.aload_n 0) 1 157 := ⟨by decide +kernel, rfl⟩
theorem dX6_text_157 : Dk kX6_text 157 (.dup) 1 158 := ⟨by decide +kernel, rfl⟩
theorem dX6_text_158 : Dk kX6_text 158 (.getfield 89) 3 161 := ⟨by decide +kernel, rfl⟩
theorem dX6_text_161 : Dk kX6_text 161 (.iconst 1) 1 162 := ⟨by decide +kernel, rfl⟩
theorem dX6_text_162 : Dk kX6_text 162 (.iadd) 1 163 := ⟨by decide +kernel, rfl⟩
theorem dX6_text_163 : Dk kX6_text 163 (.putfield 89) 3 166 := ⟨by decide +kernel, rfl⟩
theorem dX6_text_166 : Dk kX6_text 166 (.aload_n 0) 1 167 := ⟨by decide +kernel, rfl⟩
theorem dX6_text_167 : Dk kX6_text 167 (.getfield 89) 3 170 := ⟨by decide +kernel, rfl⟩
theorem dX6_text_170 : Dk kX6_text 170 (.iconst 1) 1 171 := ⟨by decide +kernel, rfl⟩
theorem dX6_text_171 : Dk kX6_text 171 (.isub) 1 172 := ⟨by decide +kernel, rfl⟩
theorem dX6_text_172 : Dk kX6_text 172 (.ireturn) 1 173 := ⟨by decide +kernel, rfl⟩
theorem dX6_two_0 : Dk kX6_two 0 (.iload_n 0) 1 1 := ⟨by decide +kernel, rfl⟩
theorem dX6_two_1 : Dk kX6_two 1 (.tableswitch 101 11 17 #[43, 57, 101, 71, 82, 93, 97]) 43 44 := ⟨by decide +kernel, rfl⟩
theorem dX6_two_44 : Dk kX6_two 44 (.iload_n 1) 1 45 := ⟨by decide +kernel, rfl⟩
theorem dX6_two_45 : Dj kX6_two 45 (fun o => .ifCond .ne o) 3 48 52 := ⟨7, by decide +kernel, rfl, by decide⟩
theorem dX6_two_48 : Dk kX6_two 48 (.iload_n 2) 1 49 := ⟨by decide +kernel, rfl⟩
theorem dX6_two_49 : Dj kX6_two 49 (fun o => .ifCond .eq o) 3 52 56 := ⟨7, by decide +kernel, rfl, by decide⟩
theorem dX6_two_52 : Dk kX6_two 52 (.iconst 1) 1 53 := ⟨by decide +kernel, rfl⟩
theorem dX6_two_53 : Dj kX6_two 53 (fun o => .goto o) 3 56 57 := ⟨4, by decide +kernel, rfl, by decide⟩
theorem dX6_two_56 : Dk kX6_two 56 (.iconst 0) 1 57 := ⟨by decide +kernel, rfl⟩
theorem dX6_two_57 : Dk kX6_two 57 (.ireturn) 1 58 := ⟨by decide +kernel, rfl⟩
theorem dX6_two_58 : Dk kX6_two 58 (.iload_n 1) 1 59 := ⟨by decide +kernel, rfl⟩
theorem dX6_two_59 : Dj kX6_two 59 (fun o => .ifCond .eq o) 3 62 70 := ⟨11, by decide +kernel, rfl, by decide⟩
theorem dX6_two_62 : Dk kX6_two 62 (.iload_n 2) 1 63 := ⟨by decide +kernel, rfl⟩
theorem dX6_two_63 : Dj kX6_two 63 (fun o => .ifCond .eq o) 3 66 70 := ⟨7, by decide +kernel, rfl, by decide⟩
theorem dX6_two_66 : Dk kX6_two 66 (.iconst 1) 1 67 := ⟨by decide +kernel, rfl⟩
theorem dX6_two_67 : Dj kX6_two 67 (fun o => .goto o) 3 70 71 := ⟨4, by decide +kernel, rfl, by decide⟩
theorem dX6_two_70 : Dk kX6_two 70 (.iconst 0) 1 71 := ⟨by decide +kernel, rfl⟩
theorem dX6_two_71 : Dk kX6_two 71 (.ireturn) 1 72 := ⟨by decide +kernel, rfl⟩
theorem dX6_two_72 : Dk kX6_two 72 (.iload_n 1) 1 73 := ⟨by decide +kernel, rfl⟩
theorem dX6_two_73 : Dk kX6_two 73 (.iload_n 2) 1 74 := ⟨by decide +kernel, rfl⟩
theorem dX6_two_74 : Dj kX6_two 74 (fun o => .if_icmp .ge o) 3 77 81 := ⟨7, by decide +kernel, rfl, by decide⟩
theorem dX6_two_77 : Dk kX6_two 77 (.iconst 1) 1 78 := ⟨by decide +kernel, rfl⟩
theorem dX6_two_78 : Dj kX6_two 78 (fun o => .goto o) 3 81 82 := ⟨4, by decide +kernel, rfl, by decide⟩
theorem dX6_two_81 : Dk kX6_two 81 (.iconst 0) 1 82 := ⟨by decide +kernel, rfl⟩
theorem dX6_two_82 : Dk kX6_two 82 (.ireturn) 1 83 := ⟨by decide +kernel, rfl⟩
theorem dX6_two_83 : Dk kX6_two 83 (.iload_n 1) 1 84 := ⟨by decide +kernel, rfl⟩
theorem dX6_two_84 : Dk kX6_two 84 (.iload_n 2) 1 85 := ⟨by decide +kernel, rfl⟩
theorem dX6_two_85 : Dj kX6_two 85 (fun o => .if_icmp .ne o) 3 88 92 := ⟨7, by decide +kernel, rfl, by decide⟩
theorem dX6_two_88 : Dk kX6_two 88 (.iconst 1) 1 89 := ⟨by decide +kernel, rfl⟩
theorem dX6_two_89 : Dj kX6_two 89 (fun o => .goto o) 3 92 93 := ⟨4, by decide +kernel, rfl, by decide⟩
theorem dX6_two_92 : Dk kX6_two 92 (.iconst 0) 1 93 := ⟨by decide +kernel, rfl⟩
theorem dX6_two_93 : Dk kX6_two 93 (.ireturn) 1 94 := ⟨by decide +kernel, rfl⟩
theorem dX6_two_94 : Dk kX6_two 94 (.iload_n 1) 1 95 := ⟨by decide +kernel, rfl⟩
theorem dX6_two_95 : Dk kX6_two 95 (.iload_n 2) 1 96 := ⟨by decide +kernel, rfl⟩
theorem dX6_two_96 : Dk kX6_two 96 (.iadd) 1 97 := ⟨by decide +kernel, rfl⟩
theorem dX6_two_97 : Dk kX6_two 97 (.ireturn) 1 98 := ⟨by decide +kernel, rfl⟩
theorem dX6_two_98 : Dk kX6_two 98 (.iload_n 1) 1 99 := ⟨by decide +kernel, rfl⟩
theorem dX6_two_99 : Dk kX6_two 99 (.iload_n 2) 1 100 := ⟨by decide +kernel, rfl⟩
theorem dX6_two_100 : Dk kX6_two 100 (.isub) 1 101 := ⟨by decide +kernel, rfl⟩
theorem dX6_two_101 : Dk kX6_two 101 (.ireturn) 1 102 := ⟨by decide +kernel, rfl⟩
theorem dX6_two_102 : Dk kX6_two 102 (.iload_n 1) 1 103 := ⟨by decide +kernel, rfl⟩
theorem dX6_two_103 : Dk kX6_two 103 (.iload_n 2) 1 104 := ⟨by decide +kernel, rfl⟩
theorem dX6_two_104 : Dk kX6_two 104 (.imul) 1 105 := ⟨by decide +kernel, rfl⟩
theorem dX6_two_105 : Dk kX6_two 105 (.ireturn) 1 106 := ⟨by decide +kernel, rfl⟩
theorem dX6_says_0 : Dk kX6_says 0 (.iconst 0) 1 1 := ⟨by decide +kernel, rfl⟩
theorem dX6_says_1 : Dk kX6_says 1 (.istore_n 2) 1 2 := ⟨by decide +kernel, rfl⟩
theorem dX6_says_2 : Dk kX6_says 2 (.aload_n 0) 1 3 := ⟨by decide +kernel, rfl⟩
theorem dX6_says_3 : Dk kX6_says 3 (.getfield 28) 3 6 := ⟨by decide +kernel, rfl⟩
theorem dX6_says_6 : Dk kX6_says 6 (.iconst 4) 1 7 := ⟨by decide +kernel, rfl⟩
theorem dX6_says_7 : Dk kX6_says 7 (.aload_n 0) 1 8 := ⟨by decide +kernel, rfl⟩
theorem dX6_says_8 : Dk kX6_says 8 (.getfield 92) 3 11 := ⟨by decide +kernel, rfl⟩
theorem dX6_says_11 : Dk kX6_says 11 (.imul) 1 12 := ⟨by decide +kernel, rfl⟩
theorem dX6_says_12 : Dk kX6_says 12 (.iload_n 1) 1 13 := ⟨by decide +kernel, rfl⟩
theorem dX6_says_13 : Dk kX6_says 13 (.iadd) 1 14 := ⟨by decide +kernel, rfl⟩
theorem dX6_says_14 : Dk kX6_says 14 (.iaload) 1 15 := ⟨by decide +kernel, rfl⟩
theorem dX6_says_15 : Dk kX6_says 15 (.istore_n 3) 1 16 := ⟨by decide +kernel, rfl⟩
theorem dX6_says_16 : Dk kX6_says 16 (.iload_n 3) 1 17 := ⟨by decide +kernel, rfl⟩
theorem dX6_says_17 : Dk kX6_says 17 (.aload_n 0) 1 18 := ⟨by decide +kernel, rfl⟩
theorem dX6_says_18 : Dk kX6_says 18 (.getfield 28) 3 21 := ⟨by decide +kernel, rfl⟩
theorem dX6_says_21 : Dk kX6_says 21 (.iconst 4) 1 22 := ⟨by decide +kernel, rfl⟩
theorem dX6_says_22 : Dk kX6_says 22 (.aload_n 0) 1 23 := ⟨by decide +kernel, rfl⟩
theorem dX6_says_23 : Dk kX6_says 23 (.getfield 92) 3 26 := ⟨by decide +kernel, rfl⟩
theorem dX6_says_26 : Dk kX6_says 26 (.imul) 1 27 := ⟨by decide +kernel, rfl⟩
theorem dX6_says_27 : Dk kX6_says 27 (.iload_n 1) 1 28 := ⟨by decide +kernel, rfl⟩
theorem dX6_says_28 : Dk kX6_says 28 (.iadd) 1 29 := ⟨by decide +kernel, rfl⟩
theorem dX6_says_29 : Dk kX6_says 29 (.iconst 1) 1 30 := ⟨by decide +kernel, rfl⟩
theorem dX6_says_30 : Dk kX6_says 30 (.iadd) 1 31 := ⟨by decide +kernel, rfl⟩
theorem dX6_says_31 : Dk kX6_says 31 (.iaload) 1 32 := ⟨by decide +kernel, rfl⟩
theorem dX6_says_32 : Dj kX6_says 32 (fun o => .if_icmp .ge o) 3 35 197 := ⟨165, by decide +kernel, rfl, by decide⟩
theorem dX6_says_35 : Dk kX6_says 35 (.aload_n 0) 1 36 := ⟨by decide +kernel, rfl⟩
theorem dX6_says_36 : Dk kX6_says 36 (.getfield 25) 3 39 := ⟨by decide +kernel, rfl⟩
theorem dX6_says_39 : Dk kX6_says 39 (.sipush 200) 3 42 := ⟨by decide +kernel, rfl⟩
theorem dX6_says_42 : Dk kX6_says 42 (.aload_n 0) 1 43 := ⟨by decide +kernel, rfl⟩
theorem dX6_says_43 : Dk kX6_says 43 (.getfield 92) 3 46 := ⟨by decide +kernel, rfl⟩
theorem dX6_says_46 : Dk kX6_says 46 (.imul) 1 47 := ⟨by decide +kernel, rfl⟩
theorem dX6_says_47 : Dk kX6_says 47 (.iload_n 3) 1 48 := ⟨by decide +kernel, rfl⟩
theorem dX6_says_48 : Dk kX6_says 48 (.iadd) 1 49 := ⟨by decide +kernel, rfl⟩
theorem dX6_says_49 : Dk kX6_says 49 (.iaload) 1 50 := ⟨by decide +kernel, rfl⟩
theorem dX6_says_50 : Dk kX6_says 50 (.istore 4) 2 52 := ⟨by decide +kernel, rfl⟩
theorem dX6_says_52 : Dk kX6_says 52 (.iload 4) 2 54 := ⟨by decide +kernel, rfl⟩
theorem dX6_says_54 : Dk kX6_says 54 (.ldc 149) 2 56 := ⟨by decide +kernel, rfl⟩
theorem dX6_says_56 : Dj kX6_says 56 (fun o => .if_icmp .ge o) 3 59 66 := ⟨10, by decide +kernel, rfl, by decide⟩
theorem dX6_says_59 : Dk kX6_says 59 (.iload 4) 2 61 := ⟨by decide +kernel, rfl⟩
theorem dX6_says_61 : Dk kX6_says 61 (.bipush 11) 2 63 := ⟨by decide +kernel, rfl⟩
theorem dX6_says_63 : Dj kX6_says 63 (fun o => .if_icmp .ge o) 3 66 100 := ⟨37, by decide +kernel, rfl, by decide⟩
theorem dX6_says_66 : Dk kX6_says 66 (.aload_n 0) 1 67 := ⟨by decide +kernel, rfl⟩
theorem dX6_says_67 : Dk kX6_says 67 (.getfield 55) 3 70 := ⟨by decide +kernel, rfl⟩
theorem dX6_says_70 : Dk kX6_says 70 (.iload_n 2) 1 71 := ⟨by decide +kernel, rfl⟩
theorem dX6_says_71 : Dk kX6_says 71 (.iload 4) 2 73 := ⟨by decide +kernel, rfl⟩
theorem dX6_says_73 : Dk kX6_says 73 (.bipush 11) 2 75 := ⟨by decide +kernel, rfl⟩
theorem dX6_says_75 : Dj kX6_says 75 (fun o => .if_icmp .ge o) 3 78 88 := ⟨13, by decide +kernel, rfl, by decide⟩
theorem dX6_says_78 : Dk kX6_says 78 (.aload_n 0) 1 79 := ⟨by decide +kernel, rfl⟩
theorem dX6_says_79 : Dk kX6_says 79 (.getfield 58) 3 82 := ⟨by decide +kernel, rfl⟩
theorem dX6_says_82 : Dk kX6_says 82 (.iload 4) 2 84 := ⟨by decide +kernel, rfl⟩
theorem dX6_says_84 : Dk kX6_says 84 (.iaload) 1 85 := ⟨by decide +kernel, rfl⟩
theorem dX6_says_85 : Dj kX6_says 85 (fun o => .goto o) 3 88 93 := ⟨8, by decide +kernel, rfl, by decide⟩
theorem dX6_says_88 : Dk kX6_says 88 (.iload 4) 2 90 := ⟨by decide +kernel, rfl⟩
theorem dX6_says_90 : Dk kX6_says 90 (.ldc 149) 2 92 := ⟨by decide +kernel, rfl⟩
theorem dX6_says_92 : Dk kX6_says 92 (.isub) 1 93 := ⟨by decide +kernel, rfl⟩
theorem dX6_says_93 : Dk kX6_says 93 (.iastore) 1 94 := ⟨by decide +kernel, rfl⟩
theorem dX6_says_94 : Dk kX6_says 94 (.iinc 2 1) 3 97 := ⟨by decide +kernel, rfl⟩
theorem dX6_says_97 : Dj kX6_says 97 (fun o => .goto o) 3 100 191 := ⟨94, by decide +kernel, rfl, by decide⟩
theorem dX6_says_100 : Dk kX6_says 100 (.iload 4) 2 102 := ⟨by decide +kernel, rfl⟩
theorem dX6_says_102 : Dk kX6_says 102 (.bipush 13) 2 104 := ⟨by decide +kernel, rfl⟩
theorem dX6_says_104 : Dj kX6_says 104 (fun o => .if_icmp .ne o) 3 107 134 := ⟨30, by decide +kernel, rfl, by decide⟩
theorem dX6_says_107 : Dk kX6_says 107 (.aload_n 0) 1 108 := ⟨by decide +kernel, rfl⟩
theorem dX6_says_108 : Dk kX6_says 108 (.getfield 55) 3 111 := ⟨by decide +kernel, rfl⟩
theorem dX6_says_111 : Dk kX6_says 111 (.iload_n 2) 1 112 := ⟨by decide +kernel, rfl⟩
theorem dX6_says_112 : Dk kX6_says 112 (.iconst 1) 1 113 := ⟨by decide +kernel, rfl⟩
theorem dX6_says_113 : Dk kX6_says 113 (.isub) 1 114 := ⟨by decide +kernel, rfl⟩
theorem dX6_says_114 : Dk kX6_says 114 (.aload_n 0) 1 115 := ⟨by decide +kernel, rfl⟩
theorem dX6_says_115 : Dk kX6_says 115 (.getfield 55) 3 118 := ⟨by decide +kernel, rfl⟩
theorem dX6_says_118 : Dk kX6_says 118 (.iload_n 2) 1 119 := ⟨by decide +kernel, rfl⟩
theorem dX6_says_119 : Dk kX6_says 119 (.iconst 1) 1 120 := ⟨by decide +kernel, rfl⟩
theorem dX6_says_120 : Dk kX6_says 120 (.isub) 1 121 := ⟨by decide +kernel, rfl⟩
theorem dX6_says_121 : Dk kX6_says 121 (.iaload) 1 122 := ⟨by decide +kernel, rfl⟩
theorem dX6_says_122 : Dj kX6_says 122 (fun o => .ifCond .ne o) 3 125 129 := ⟨7, by decide +kernel, rfl, by decide⟩
theorem dX6_says_125 : Dk kX6_says 125 (.iconst 1) 1 126 := ⟨by decide +kernel, rfl⟩
theorem dX6_says_126 : Dj kX6_says 126 (fun o => .goto o) 3 129 130 := ⟨4, by decide +kernel, rfl, by decide⟩
theorem dX6_says_129 : Dk kX6_says 129 (.iconst 0) 1 130 := ⟨by decide +kernel, rfl⟩
theorem dX6_says_130 : Dk kX6_says 130 (.iastore) 1 131 := ⟨by decide +kernel, rfl⟩
theorem dX6_says_131 : Dj kX6_says 131 (fun o => .goto o) 3 134 191 := ⟨60, by decide +kernel, rfl, by decide⟩
theorem dX6_says_134 : Dk kX6_says 134 (.iload 4) 2 136 := ⟨by decide +kernel, rfl⟩
theorem dX6_says_136 : Dk kX6_says 136 (.bipush 19) 2 138 := ⟨by decide +kernel, rfl⟩
theorem dX6_says_138 : Dj kX6_says 138 (fun o => .if_icmp .ne o) 3 141 161 := ⟨23, by decide +kernel, rfl, by decide⟩
theorem dX6_says_141 : Dk kX6_says 141 (.aload_n 0) 1 142 := ⟨by decide +kernel, rfl⟩
theorem dX6_says_142 : Dk kX6_says 142 (.getfield 55) 3 145 := ⟨by decide +kernel, rfl⟩
theorem dX6_says_145 : Dk kX6_says 145 (.iload_n 2) 1 146 := ⟨by decide +kernel, rfl⟩
theorem dX6_says_146 : Dk kX6_says 146 (.iconst 1) 1 147 := ⟨by decide +kernel, rfl⟩
theorem dX6_says_147 : Dk kX6_says 147 (.isub) 1 148 := ⟨by decide +kernel, rfl⟩
theorem dX6_says_148 : Dk kX6_says 148 (.aload_n 0) 1 149 := ⟨by decide +kernel, rfl⟩
theorem dX6_says_149 : Dk kX6_says 149 (.getfield 55) 3 152 := ⟨by decide +kernel, rfl⟩
theorem dX6_says_152 : Dk kX6_says 152 (.iload_n 2) 1 153 := ⟨by decide +kernel, rfl⟩
theorem dX6_says_153 : Dk kX6_says 153 (.iconst 1) 1 154 := ⟨by decide +kernel, rfl⟩
theorem dX6_says_154 : Dk kX6_says 154 (.isub) 1 155 := ⟨by decide +kernel, rfl⟩
theorem dX6_says_155 : Dk kX6_says 155 (.iaload) 1 156 := ⟨by decide +kernel, rfl⟩
theorem dX6_says_156 : Dk kX6_says 156 (.ineg) 1 157 := ⟨by decide +kernel, rfl⟩
theorem dX6_says_157 : Dk kX6_says 157 (.iastore) 1 158 := ⟨by decide +kernel, rfl⟩
theorem dX6_says_158 : Dj kX6_says 158 (fun o => .goto o) 3 161 191 := ⟨33, by decide +kernel, rfl, by decide⟩
theorem dX6_says_161 : Dk kX6_says 161 (.iinc 2 (-1)) 3 164 := ⟨by decide +kernel, rfl⟩
theorem dX6_says_164 : Dk kX6_says 164 (.aload_n 0) 1 165 := ⟨by decide +kernel, rfl⟩
theorem dX6_says_165 : Dk kX6_says 165 (.getfield 55) 3 168 := ⟨by decide +kernel, rfl⟩
theorem dX6_says_168 : Dk kX6_says 168 (.iload_n 2) 1 169 := ⟨by decide +kernel, rfl⟩
theorem dX6_says_169 : Dk kX6_says 169 (.iconst 1) 1 170 := ⟨by decide +kernel, rfl⟩
theorem dX6_says_170 : Dk kX6_says 170 (.isub) 1 171 := ⟨by decide +kernel, rfl⟩
theorem dX6_says_171 : Dk kX6_says 171 (.iload 4) 2 173 := ⟨by decide +kernel, rfl⟩
theorem dX6_says_173 : Dk kX6_says 173 (.aload_n 0) 1 174 := ⟨by decide +kernel, rfl⟩
theorem dX6_says_174 : Dk kX6_says 174 (.getfield 55) 3 177 := ⟨by decide +kernel, rfl⟩
theorem dX6_says_177 : Dk kX6_says 177 (.iload_n 2) 1 178 := ⟨by decide +kernel, rfl⟩
theorem dX6_says_178 : Dk kX6_says 178 (.iconst 1) 1 179 := ⟨by decide +kernel, rfl⟩
theorem dX6_says_179 : Dk kX6_says 179 (.isub) 1 180 := ⟨by decide +kernel, rfl⟩
theorem dX6_says_180 : Dk kX6_says 180 (.iaload) 1 181 := ⟨by decide +kernel, rfl⟩
theorem dX6_says_181 : Dk kX6_says 181 (.aload_n 0) 1 182 := ⟨by decide +kernel, rfl⟩
theorem dX6_says_182 : Dk kX6_says 182 (.getfield 55) 3 185 := ⟨by decide +kernel, rfl⟩
theorem dX6_says_185 : Dk kX6_says 185 (.iload_n 2) 1 186 := ⟨by decide +kernel, rfl⟩
theorem dX6_says_186 : Dk kX6_says 186 (.iaload) 1 187 := ⟨by decide +kernel, rfl⟩
theorem dX6_says_187 : Dk kX6_says 187 (.invokestatic 163) 3 190 := ⟨by decide +kernel, rfl⟩
theorem dX6_says_190 : Dk kX6_says 190 (.iastore) 1 191 := ⟨by decide +kernel, rfl⟩
theorem dX6_says_191 : Dk kX6_says 191 (.iinc 3 1) 3 194 := ⟨by decide +kernel, rfl⟩
theorem dX6_says_194 : Dj kX6_says 194 (fun o => .goto o) 3 197 16 := ⟨-178, by decide +kernel, rfl, by decide⟩
theorem dX6_says_197 : Dk kX6_says 197 (.aload_n 0) 1 198 := ⟨by decide +kernel, rfl⟩
theorem dX6_says_198 : Dk kX6_says 198 (.getfield 55) 3 201 := ⟨by decide +kernel, rfl⟩
theorem dX6_says_201 : Dk kX6_says 201 (.iconst 0) 1 202 := ⟨by decide +kernel, rfl⟩
theorem dX6_says_202 : Dk kX6_says 202 (.iaload) 1 203 := ⟨by decide +kernel, rfl⟩
theorem dX6_says_203 : Dk kX6_says 203 (.ireturn) 1 204 := ⟨by decide +kernel, rfl⟩
theorem dX6_force_0 : Dk kX6_force 0 (.iload_n 1) 1 1 := ⟨by decide +kernel, rfl⟩
theorem dX6_force_1 : Dk kX6_force 1 (.iconst 0) 1 2 := ⟨by decide +kernel, rfl⟩
theorem dX6_force_2 : Dk kX6_force 2 (.aload_n 0) 1 3 := ⟨by decide +kernel, rfl⟩
theorem dX6_force_3 : Dk kX6_force 3 (.getfield 89) 3 6 := ⟨by decide +kernel, rfl⟩
theorem dX6_force_6 : Dk kX6_force 6 (.iconst 1) 1 7 := ⟨by decide +kernel, rfl⟩
theorem dX6_force_7 : Dk kX6_force 7 (.isub) 1 8 := ⟨by decide +kernel, rfl⟩
theorem dX6_force_8 : Dk kX6_force 8 (.invokestatic 75) 3 11 := ⟨by decide +kernel, rfl⟩
theorem dX6_force_11 : Dj kX6_force 11 (fun o => .ifCond .ne o) 3 14 17 := ⟨6, by decide +kernel, rfl, by decide⟩
theorem dX6_force_14 : Dk kX6_force 14 (.bipush (-2)) 2 16 := ⟨by decide +kernel, rfl⟩
theorem dX6_force_16 : Dk kX6_force 16 (.ireturn) 1 17 := ⟨by decide +kernel, rfl⟩
theorem dX6_force_17 : Dk kX6_force 17 (.aload_n 0) 1 18 := ⟨by decide +kernel, rfl⟩
theorem dX6_force_18 : Dk kX6_force 18 (.getfield 92) 3 21 := ⟨by decide +kernel, rfl⟩
theorem dX6_force_21 : Dk kX6_force 21 (.istore_n 2) 1 22 := ⟨by decide +kernel, rfl⟩
theorem dX6_force_22 : Dk kX6_force 22 (.aload_n 0) 1 23 := ⟨by decide +kernel, rfl⟩
theorem dX6_force_23 : Dk kX6_force 23 (.iload_n 1) 1 24 := ⟨by decide +kernel, rfl⟩
theorem dX6_force_24 : Dk kX6_force 24 (.putfield 92) 3 27 := ⟨by decide +kernel, rfl⟩
theorem dX6_force_27 : Dk kX6_force 27 (.iload_n 2) 1 28 := ⟨by decide +kernel, rfl⟩
theorem dX6_force_28 : Dk kX6_force 28 (.ireturn) 1 29 := ⟨by decide +kernel, rfl⟩
theorem dX6_hasFirst_0 : Dk kX6_hasFirst 0 (.aload_n 0) 1 1 := ⟨by decide +kernel, rfl⟩
theorem dX6_hasFirst_1 : Dk kX6_hasFirst 1 (.getfield 19) 3 4 := ⟨by decide +kernel, rfl⟩
theorem dX6_hasFirst_4 : Dk kX6_hasFirst 4 (.iconst 3) 1 5 := ⟨by decide +kernel, rfl⟩
theorem dX6_hasFirst_5 : Dk kX6_hasFirst 5 (.aload_n 0) 1 6 := ⟨by decide +kernel, rfl⟩
theorem dX6_hasFirst_6 : Dk kX6_hasFirst 6 (.getfield 16) 3 9 := ⟨by decide +kernel, rfl⟩
theorem dX6_hasFirst_9 : Dk kX6_hasFirst 9 (.iconst 3) 1 10 := ⟨by decide +kernel, rfl⟩
theorem dX6_hasFirst_10 : Dk kX6_hasFirst 10 (.iload_n 1) 1 11 := ⟨by decide +kernel, rfl⟩
theorem dX6_hasFirst_11 : Dk kX6_hasFirst 11 (.imul) 1 12 := ⟨by decide +kernel, rfl⟩
theorem dX6_hasFirst_12 : Dk kX6_hasFirst 12 (.iaload) 1 13 := ⟨by decide +kernel, rfl⟩
theorem dX6_hasFirst_13 : Dk kX6_hasFirst 13 (.imul) 1 14 := ⟨by decide +kernel, rfl⟩
theorem dX6_hasFirst_14 : Dk kX6_hasFirst 14 (.iconst 1) 1 15 := ⟨by decide +kernel, rfl⟩
theorem dX6_hasFirst_15 : Dk kX6_hasFirst 15 (.iadd) 1 16 := ⟨by decide +kernel, rfl⟩
theorem dX6_hasFirst_16 : Dk kX6_hasFirst 16 (.iaload) 1 17 := ⟨by decide +kernel, rfl⟩
theorem dX6_hasFirst_17 : Dk kX6_hasFirst 17 (.iconst (-1)) 1 18 := ⟨by decide +kernel, rfl⟩
theorem dX6_hasFirst_18 : Dj kX6_hasFirst 18 (fun o => .if_icmp .eq o) 3 21 25 := ⟨7, by decide +kernel, rfl, by decide⟩
theorem dX6_hasFirst_21 : Dk kX6_hasFirst 21 (.iconst 1) 1 22 := ⟨by decide +kernel, rfl⟩
theorem dX6_hasFirst_22 : Dj kX6_hasFirst 22 (fun o => .goto o) 3 25 26 := ⟨4, by decide +kernel, rfl, by decide⟩
theorem dX6_hasFirst_25 : Dk kX6_hasFirst 25 (.iconst 0) 1 26 := ⟨by decide +kernel, rfl⟩
theorem dX6_hasFirst_26 : Dk kX6_hasFirst 26 (.ireturn) 1 27 := ⟨by decide +kernel, rfl⟩
theorem dX6_asksOf_0 : Dk kX6_asksOf 0 (.aload_n 0) 1 1 := ⟨by decide +kernel, rfl⟩
theorem dX6_asksOf_1 : Dk kX6_asksOf 1 (.getfield 58) 3 4 := ⟨by decide +kernel, rfl⟩
theorem dX6_asksOf_4 : Dk kX6_asksOf 4 (.iconst 0) 1 5 := ⟨by decide +kernel, rfl⟩
theorem dX6_asksOf_5 : Dk kX6_asksOf 5 (.aload_n 0) 1 6 := ⟨by decide +kernel, rfl⟩
theorem dX6_asksOf_6 : Dk kX6_asksOf 6 (.getfield 16) 3 9 := ⟨by decide +kernel, rfl⟩
theorem dX6_asksOf_9 : Dk kX6_asksOf 9 (.iconst 3) 1 10 := ⟨by decide +kernel, rfl⟩
theorem dX6_asksOf_10 : Dk kX6_asksOf 10 (.iload_n 2) 1 11 := ⟨by decide +kernel, rfl⟩
theorem dX6_asksOf_11 : Dk kX6_asksOf 11 (.imul) 1 12 := ⟨by decide +kernel, rfl⟩
theorem dX6_asksOf_12 : Dk kX6_asksOf 12 (.iaload) 1 13 := ⟨by decide +kernel, rfl⟩
theorem dX6_asksOf_13 : Dk kX6_asksOf 13 (.iastore) 1 14 := ⟨by decide +kernel, rfl⟩
theorem dX6_asksOf_14 : Dk kX6_asksOf 14 (.aload_n 0) 1 15 := ⟨by decide +kernel, rfl⟩
theorem dX6_asksOf_15 : Dk kX6_asksOf 15 (.getfield 58) 3 18 := ⟨by decide +kernel, rfl⟩
theorem dX6_asksOf_18 : Dk kX6_asksOf 18 (.iconst 1) 1 19 := ⟨by decide +kernel, rfl⟩
theorem dX6_asksOf_19 : Dk kX6_asksOf 19 (.aload_n 0) 1 20 := ⟨by decide +kernel, rfl⟩
theorem dX6_asksOf_20 : Dk kX6_asksOf 20 (.getfield 16) 3 23 := ⟨by decide +kernel, rfl⟩
theorem dX6_asksOf_23 : Dk kX6_asksOf 23 (.iconst 3) 1 24 := ⟨by decide +kernel, rfl⟩
theorem dX6_asksOf_24 : Dk kX6_asksOf 24 (.iload_n 2) 1 25 := ⟨by decide +kernel, rfl⟩
theorem dX6_asksOf_25 : Dk kX6_asksOf 25 (.imul) 1 26 := ⟨by decide +kernel, rfl⟩
theorem dX6_asksOf_26 : Dk kX6_asksOf 26 (.iconst 1) 1 27 := ⟨by decide +kernel, rfl⟩
theorem dX6_asksOf_27 : Dk kX6_asksOf 27 (.iadd) 1 28 := ⟨by decide +kernel, rfl⟩
theorem dX6_asksOf_28 : Dk kX6_asksOf 28 (.iaload) 1 29 := ⟨by decide +kernel, rfl⟩
theorem dX6_asksOf_29 : Dk kX6_asksOf 29 (.iastore) 1 30 := ⟨by decide +kernel, rfl⟩
theorem dX6_asksOf_30 : Dk kX6_asksOf 30 (.aload_n 0) 1 31 := ⟨by decide +kernel, rfl⟩
theorem dX6_asksOf_31 : Dk kX6_asksOf 31 (.getfield 58) 3 34 := ⟨by decide +kernel, rfl⟩
theorem dX6_asksOf_34 : Dk kX6_asksOf 34 (.iconst 2) 1 35 := ⟨by decide +kernel, rfl⟩
theorem dX6_asksOf_35 : Dk kX6_asksOf 35 (.aload_n 0) 1 36 := ⟨by decide +kernel, rfl⟩
theorem dX6_asksOf_36 : Dk kX6_asksOf 36 (.getfield 79) 3 39 := ⟨by decide +kernel, rfl⟩
theorem dX6_asksOf_39 : Dk kX6_asksOf 39 (.bipush 20) 2 41 := ⟨by decide +kernel, rfl⟩
theorem dX6_asksOf_41 : Dk kX6_asksOf 41 (.irem) 1 42 := ⟨by decide +kernel, rfl⟩
theorem dX6_asksOf_42 : Dk kX6_asksOf 42 (.iastore) 1 43 := ⟨by decide +kernel, rfl⟩
theorem dX6_asksOf_43 : Dk kX6_asksOf 43 (.aload_n 0) 1 44 := ⟨by decide +kernel, rfl⟩
theorem dX6_asksOf_44 : Dk kX6_asksOf 44 (.getfield 58) 3 47 := ⟨by decide +kernel, rfl⟩
theorem dX6_asksOf_47 : Dk kX6_asksOf 47 (.iconst 3) 1 48 := ⟨by decide +kernel, rfl⟩
theorem dX6_asksOf_48 : Dk kX6_asksOf 48 (.aload_n 0) 1 49 := ⟨by decide +kernel, rfl⟩
theorem dX6_asksOf_49 : Dk kX6_asksOf 49 (.iload_n 2) 1 50 := ⟨by decide +kernel, rfl⟩
theorem dX6_asksOf_50 : Dk kX6_asksOf 50 (.invokevirtual 167) 3 53 := ⟨by decide +kernel, rfl⟩
theorem dX6_asksOf_53 : Dj kX6_asksOf 53 (fun o => .ifCond .eq o) 3 56 60 := ⟨7, by decide +kernel, rfl, by decide⟩
theorem dX6_asksOf_56 : Dk kX6_asksOf 56 (.iconst 1) 1 57 := ⟨by decide +kernel, rfl⟩
theorem dX6_asksOf_57 : Dj kX6_asksOf 57 (fun o => .goto o) 3 60 61 := ⟨4, by decide +kernel, rfl, by decide⟩
theorem dX6_asksOf_60 : Dk kX6_asksOf 60 (.iconst 0) 1 61 := ⟨by decide +kernel, rfl⟩
theorem dX6_asksOf_61 : Dk kX6_asksOf 61 (.iastore) 1 62 := ⟨by decide +kernel, rfl⟩
theorem dX6_asksOf_62 : Dk kX6_asksOf 62 (.aload_n 0) 1 63 := ⟨by decide +kernel, rfl⟩
theorem dX6_asksOf_63 : Dk kX6_asksOf 63 (.getfield 58) 3 66 := ⟨by decide +kernel, rfl⟩
theorem dX6_asksOf_66 : Dk kX6_asksOf 66 (.iconst 4) 1 67 := ⟨by decide +kernel, rfl⟩
theorem dX6_asksOf_67 : Dk kX6_asksOf 67 (.aload_n 0) 1 68 := ⟨by decide +kernel, rfl⟩
theorem dX6_asksOf_68 : Dk kX6_asksOf 68 (.getfield 16) 3 71 := ⟨by decide +kernel, rfl⟩
theorem dX6_asksOf_71 : Dk kX6_asksOf 71 (.iconst 3) 1 72 := ⟨by decide +kernel, rfl⟩
theorem dX6_asksOf_72 : Dk kX6_asksOf 72 (.iload_n 2) 1 73 := ⟨by decide +kernel, rfl⟩
theorem dX6_asksOf_73 : Dk kX6_asksOf 73 (.imul) 1 74 := ⟨by decide +kernel, rfl⟩
theorem dX6_asksOf_74 : Dk kX6_asksOf 74 (.iconst 2) 1 75 := ⟨by decide +kernel, rfl⟩
theorem dX6_asksOf_75 : Dk kX6_asksOf 75 (.iadd) 1 76 := ⟨by decide +kernel, rfl⟩
theorem dX6_asksOf_76 : Dk kX6_asksOf 76 (.iaload) 1 77 := ⟨by decide +kernel, rfl⟩
theorem dX6_asksOf_77 : Dk kX6_asksOf 77 (.iastore) 1 78 := ⟨by decide +kernel, rfl⟩
theorem dX6_asksOf_78 : Dk kX6_asksOf 78 (.aload_n 0) 1 79 := ⟨by decide +kernel, rfl⟩
theorem dX6_asksOf_79 : Dk kX6_asksOf 79 (.getfield 58) 3 82 := ⟨by decide +kernel, rfl⟩
theorem dX6_asksOf_82 : Dk kX6_asksOf 82 (.iconst 5) 1 83 := ⟨by decide +kernel, rfl⟩
theorem dX6_asksOf_83 : Dk kX6_asksOf 83 (.aload_n 0) 1 84 := ⟨by decide +kernel, rfl⟩
theorem dX6_asksOf_84 : Dk kX6_asksOf 84 (.getfield 13) 3 87 := ⟨by decide +kernel, rfl⟩
theorem dX6_asksOf_87 : Dk kX6_asksOf 87 (.iload_n 2) 1 88 := ⟨by decide +kernel, rfl⟩
theorem dX6_asksOf_88 : Dk kX6_asksOf 88 (.iaload) 1 89 := ⟨by decide +kernel, rfl⟩
theorem dX6_asksOf_89 : Dk kX6_asksOf 89 (.iastore) 1 90 := ⟨by decide +kernel, rfl⟩
theorem dX6_asksOf_90 : Dk kX6_asksOf 90 (.aload_n 0) 1 91 := ⟨by decide +kernel, rfl⟩
theorem dX6_asksOf_91 : Dk kX6_asksOf 91 (.iload_n 1) 1 92 := ⟨by decide +kernel, rfl⟩
theorem dX6_asksOf_92 : Dk kX6_asksOf 92 (.invokevirtual 170) 3 95 := ⟨by decide +kernel, rfl⟩
theorem dX6_asksOf_95 : Dk kX6_asksOf 95 (.iload_n 1) 1 96 := ⟨by decide +kernel, rfl⟩
theorem dX6_asksOf_96 : Dk kX6_asksOf 96 (.iconst 2) 1 97 := ⟨by decide +kernel, rfl⟩
theorem dX6_asksOf_97 : Dj kX6_asksOf 97 (fun o => .if_icmp .ne o) 3 100 105 := ⟨8, by decide +kernel, rfl, by decide⟩
theorem dX6_asksOf_100 : Dk kX6_asksOf 100 (.bipush (-99)) 2 102 := ⟨by decide +kernel, rfl⟩
theorem dX6_asksOf_102 : Dj kX6_asksOf 102 (fun o => .goto o) 3 105 106 := ⟨4, by decide +kernel, rfl, by decide⟩
theorem dX6_asksOf_105 : Dk kX6_asksOf 105 (.iconst 0) 1 106 := ⟨by decide +kernel, rfl⟩
theorem dX6_asksOf_106 : Dk kX6_asksOf 106 (.bipush 99) 2 108 := ⟨by decide +kernel, rfl⟩
theorem dX6_asksOf_108 : Dk kX6_asksOf 108 (.invokestatic 173) 3 111 := ⟨by decide +kernel, rfl⟩
theorem dX6_asksOf_111 : Dk kX6_asksOf 111 (.ireturn) 1 112 := ⟨by decide +kernel, rfl⟩
theorem dX6_asks_0 : Dk kX6_asks 0 (.iload_n 1) 1 1 := ⟨by decide +kernel, rfl⟩
theorem dX6_asks_1 : Dk kX6_asks 1 (.iconst 0) 1 2 := ⟨by decide +kernel, rfl⟩
theorem dX6_asks_2 : Dk kX6_asks 2 (.iconst 2) 1 3 := ⟨by decide +kernel, rfl⟩
theorem dX6_asks_3 : Dk kX6_asks 3 (.invokestatic 75) 3 6 := ⟨by decide +kernel, rfl⟩
theorem dX6_asks_6 : Dj kX6_asks 6 (fun o => .ifCond .eq o) 3 9 26 := ⟨20, by decide +kernel, rfl, by decide⟩
theorem dX6_asks_9 : Dk kX6_asks 9 (.aload_n 0) 1 10 := ⟨by decide +kernel, rfl⟩
theorem dX6_asks_10 : Dk kX6_asks 10 (.iload_n 2) 1 11 := ⟨by decide +kernel, rfl⟩
theorem dX6_asks_11 : Dk kX6_asks 11 (.invokevirtual 99) 3 14 := ⟨by decide +kernel, rfl⟩
theorem dX6_asks_14 : Dj kX6_asks 14 (fun o => .ifCond .eq o) 3 17 26 := ⟨12, by decide +kernel, rfl, by decide⟩
theorem dX6_asks_17 : Dk kX6_asks 17 (.aload_n 0) 1 18 := ⟨by decide +kernel, rfl⟩
theorem dX6_asks_18 : Dk kX6_asks 18 (.iload_n 1) 1 19 := ⟨by decide +kernel, rfl⟩
theorem dX6_asks_19 : Dk kX6_asks 19 (.iload_n 2) 1 20 := ⟨by decide +kernel, rfl⟩
theorem dX6_asks_20 : Dk kX6_asks 20 (.invokevirtual 176) 3 23 := ⟨by decide +kernel, rfl⟩
theorem dX6_asks_23 : Dj kX6_asks 23 (fun o => .goto o) 3 26 29 := ⟨6, by decide +kernel, rfl, by decide⟩
theorem dX6_asks_26 : Dk kX6_asks 26 (.sipush (-1000)) 3 29 := ⟨by decide +kernel, rfl⟩
theorem dX6_asks_29 : Dk kX6_asks 29 (.ireturn) 1 30 := ⟨by decide +kernel, rfl⟩
theorem dX6_citizen_0 : Dk kX6_citizen 0 (.iload_n 1) 1 1 := ⟨by decide +kernel, rfl⟩
theorem dX6_citizen_1 : Dk kX6_citizen 1 (.iconst 0) 1 2 := ⟨by decide +kernel, rfl⟩
theorem dX6_citizen_2 : Dk kX6_citizen 2 (.bipush 59) 2 4 := ⟨by decide +kernel, rfl⟩
theorem dX6_citizen_4 : Dk kX6_citizen 4 (.invokestatic 75) 3 7 := ⟨by decide +kernel, rfl⟩
theorem dX6_citizen_7 : Dj kX6_citizen 7 (fun o => .ifCond .eq o) 3 10 21 := ⟨14, by decide +kernel, rfl, by decide⟩
theorem dX6_citizen_10 : Dk kX6_citizen 10 (.iload_n 2) 1 11 := ⟨by decide +kernel, rfl⟩
theorem dX6_citizen_11 : Dk kX6_citizen 11 (.iconst 0) 1 12 := ⟨by decide +kernel, rfl⟩
theorem dX6_citizen_12 : Dk kX6_citizen 12 (.sipush 799) 3 15 := ⟨by decide +kernel, rfl⟩
theorem dX6_citizen_15 : Dk kX6_citizen 15 (.invokestatic 75) 3 18 := ⟨by decide +kernel, rfl⟩
theorem dX6_citizen_18 : Dj kX6_citizen 18 (fun o => .ifCond .ne o) 3 21 24 := ⟨6, by decide +kernel, rfl, by decide⟩
theorem dX6_citizen_21 : Dk kX6_citizen 21 (.bipush (-2)) 2 23 := ⟨by decide +kernel, rfl⟩
theorem dX6_citizen_23 : Dk kX6_citizen 23 (.ireturn) 1 24 := ⟨by decide +kernel, rfl⟩
theorem dX6_citizen_24 : Dk kX6_citizen 24 (.aload_n 0) 1 25 := ⟨by decide +kernel, rfl⟩
theorem dX6_citizen_25 : Dk kX6_citizen 25 (.getfield 72) 3 28 := ⟨by decide +kernel, rfl⟩
theorem dX6_citizen_28 : Dk kX6_citizen 28 (.bipush 6) 2 30 := ⟨by decide +kernel, rfl⟩
theorem dX6_citizen_30 : Dj kX6_citizen 30 (fun o => .if_icmp .ne o) 3 33 36 := ⟨6, by decide +kernel, rfl, by decide⟩
theorem dX6_citizen_33 : Dk kX6_citizen 33 (.bipush (-4)) 2 35 := ⟨by decide +kernel, rfl⟩
theorem dX6_citizen_35 : Dk kX6_citizen 35 (.ireturn) 1 36 := ⟨by decide +kernel, rfl⟩
theorem dX6_citizen_36 : Dk kX6_citizen 36 (.aload_n 0) 1 37 := ⟨by decide +kernel, rfl⟩
theorem dX6_citizen_37 : Dk kX6_citizen 37 (.getfield 7) 3 40 := ⟨by decide +kernel, rfl⟩
theorem dX6_citizen_40 : Dk kX6_citizen 40 (.aload_n 0) 1 41 := ⟨by decide +kernel, rfl⟩
theorem dX6_citizen_41 : Dk kX6_citizen 41 (.getfield 72) 3 44 := ⟨by decide +kernel, rfl⟩
theorem dX6_citizen_44 : Dk kX6_citizen 44 (.iload_n 1) 1 45 := ⟨by decide +kernel, rfl⟩
theorem dX6_citizen_45 : Dk kX6_citizen 45 (.bipush 10) 2 47 := ⟨by decide +kernel, rfl⟩
theorem dX6_citizen_47 : Dk kX6_citizen 47 (.idiv) 1 48 := ⟨by decide +kernel, rfl⟩
theorem dX6_citizen_48 : Dk kX6_citizen 48 (.iastore) 1 49 := ⟨by decide +kernel, rfl⟩
theorem dX6_citizen_49 : Dk kX6_citizen 49 (.aload_n 0) 1 50 := ⟨by decide +kernel, rfl⟩
theorem dX6_citizen_50 : Dk kX6_citizen 50 (.getfield 13) 3 53 := ⟨by decide +kernel, rfl⟩
theorem dX6_citizen_53 : Dk kX6_citizen 53 (.aload_n 0) 1 54 := ⟨by decide +kernel, rfl⟩
theorem dX6_citizen_54 : Dk kX6_citizen 54 (.getfield 72) 3 57 := ⟨by decide +kernel, rfl⟩
theorem dX6_citizen_57 : Dk kX6_citizen 57 (.iload_n 1) 1 58 := ⟨by decide +kernel, rfl⟩
theorem dX6_citizen_58 : Dk kX6_citizen 58 (.bipush 10) 2 60 := ⟨by decide +kernel, rfl⟩
theorem dX6_citizen_60 : Dk kX6_citizen 60 (.irem) 1 61 := ⟨by decide +kernel, rfl⟩
theorem dX6_citizen_61 : Dk kX6_citizen 61 (.iastore) 1 62 := ⟨by decide +kernel, rfl⟩
theorem dX6_citizen_62 : Dk kX6_citizen 62 (.aload_n 0) 1 63 := ⟨by decide +kernel, rfl⟩
theorem dX6_citizen_63 : Dk kX6_citizen 63 (.getfield 16) 3 66 := ⟨by decide +kernel, rfl⟩
theorem dX6_citizen_66 : Dk kX6_citizen 66 (.iconst 3) 1 67 := ⟨by decide +kernel, rfl⟩
theorem dX6_citizen_67 : Dk kX6_citizen 67 (.aload_n 0) 1 68 := ⟨by decide +kernel, rfl⟩
theorem dX6_citizen_68 : Dk kX6_citizen 68 (.getfield 72) 3 71 := ⟨by decide +kernel, rfl⟩
theorem dX6_citizen_71 : Dk kX6_citizen 71 (.imul) 1 72 := ⟨by decide +kernel, rfl⟩
theorem dX6_citizen_72 : Dk kX6_citizen 72 (.iload_n 2) 1 73 := ⟨by decide +kernel, rfl⟩
theorem dX6_citizen_73 : Dk kX6_citizen 73 (.bipush 100) 2 75 := ⟨by decide +kernel, rfl⟩
theorem dX6_citizen_75 : Dk kX6_citizen 75 (.idiv) 1 76 := ⟨by decide +kernel, rfl⟩
theorem dX6_citizen_76 : Dk kX6_citizen 76 (.iastore) 1 77 := ⟨by decide +kernel, rfl⟩
theorem dX6_citizen_77 : Dk kX6_citizen 77 (.aload_n 0) 1 78 := ⟨by decide +kernel, rfl⟩
theorem dX6_citizen_78 : Dk kX6_citizen 78 (.getfield 16) 3 81 := ⟨by decide +kernel, rfl⟩
theorem dX6_citizen_81 : Dk kX6_citizen 81 (.iconst 3) 1 82 := ⟨by decide +kernel, rfl⟩
theorem dX6_citizen_82 : Dk kX6_citizen 82 (.aload_n 0) 1 83 := ⟨by decide +kernel, rfl⟩
theorem dX6_citizen_83 : Dk kX6_citizen 83 (.getfield 72) 3 86 := ⟨by decide +kernel, rfl⟩
theorem dX6_citizen_86 : Dk kX6_citizen 86 (.imul) 1 87 := ⟨by decide +kernel, rfl⟩
theorem dX6_citizen_87 : Dk kX6_citizen 87 (.iconst 1) 1 88 := ⟨by decide +kernel, rfl⟩
theorem dX6_citizen_88 : Dk kX6_citizen 88 (.iadd) 1 89 := ⟨by decide +kernel, rfl⟩
theorem dX6_citizen_89 : Dk kX6_citizen 89 (.iload_n 2) 1 90 := ⟨by decide +kernel, rfl⟩
theorem dX6_citizen_90 : Dk kX6_citizen 90 (.bipush 100) 2 92 := ⟨by decide +kernel, rfl⟩
theorem dX6_citizen_92 : Dk kX6_citizen 92 (.irem) 1 93 := ⟨by decide +kernel, rfl⟩
theorem dX6_citizen_93 : Dk kX6_citizen 93 (.iastore) 1 94 := ⟨by decide +kernel, rfl⟩
theorem dX6_citizen_94 : Dk kX6_citizen 94 (.aload_n 0) 1 95 := ⟨by decide +kernel, rfl⟩
theorem dX6_citizen_95 : Dk kX6_citizen 95 (.getfield 16) 3 98 := ⟨by decide +kernel, rfl⟩
theorem dX6_citizen_98 : Dk kX6_citizen 98 (.iconst 3) 1 99 := ⟨by decide +kernel, rfl⟩
theorem dX6_citizen_99 : Dk kX6_citizen 99 (.aload_n 0) 1 100 := ⟨by decide +kernel, rfl⟩
theorem dX6_citizen_100 : Dk kX6_citizen 100 (.getfield 72) 3 103 := ⟨by decide +kernel, rfl⟩
theorem dX6_citizen_103 : Dk kX6_citizen 103 (.imul) 1 104 := ⟨by decide +kernel, rfl⟩
theorem dX6_citizen_104 : Dk kX6_citizen 104 (.iconst 2) 1 105 := ⟨by decide +kernel, rfl⟩
theorem dX6_citizen_105 : Dk kX6_citizen 105 (.iadd) 1 106 := ⟨by decide +kernel, rfl⟩
theorem dX6_citizen_106 : Dk kX6_citizen 106 (.iconst 0) 1 107 := ⟨by decide +kernel, rfl⟩
theorem dX6_citizen_107 : Dk kX6_citizen 107 (.iastore) 1 108 := ⟨by decide +kernel, rfl⟩
theorem dX6_citizen_108 : Dk kX6_citizen 108 (.aload_n 0) 1 109 := ⟨by decide +kernel, rfl⟩
theorem dX6_citizen_109 : Dk kX6_citizen 109 (.dup) 1 110 := ⟨by decide +kernel, rfl⟩
theorem dX6_citizen_110 : Dk kX6_citizen 110 (.getfield 72) 3 113 := ⟨by decide +kernel, rfl⟩
theorem dX6_citizen_113 : Dk kX6_citizen 113 (.iconst 1) 1 114 := ⟨by decide +kernel, rfl⟩
theorem dX6_citizen_114 : Dk kX6_citizen 114 (.iadd) 1 115 := ⟨by decide +kernel, rfl⟩
theorem dX6_citizen_115 : Dk kX6_citizen 115 (.putfield 72) 3 118 := ⟨by decide +kernel, rfl⟩
theorem dX6_citizen_118 : Dk kX6_citizen 118 (.aload_n 0) 1 119 := ⟨by decide +kernel, rfl⟩
theorem dX6_citizen_119 : Dk kX6_citizen 119 (.getfield 72) 3 122 := ⟨by decide +kernel, rfl⟩
theorem dX6_citizen_122 : Dk kX6_citizen 122 (.iconst 1) 1 123 := ⟨by decide +kernel, rfl⟩
theorem dX6_citizen_123 : Dk kX6_citizen 123 (.isub) 1 124 := ⟨by decide +kernel, rfl⟩
theorem dX6_citizen_124 : Dk kX6_citizen 124 (.ireturn) 1 125 := ⟨by decide +kernel, rfl⟩
theorem dX6_put_0 : Dk kX6_put 0 (.aload_n 0) 1 1 := ⟨by decide +kernel, rfl⟩
theorem dX6_put_1 : Dk kX6_put 1 (.iload_n 1) 1 2 := ⟨by decide +kernel, rfl⟩
theorem dX6_put_2 : Dk kX6_put 2 (.invokevirtual 99) 3 5 := ⟨by decide +kernel, rfl⟩
theorem dX6_put_5 : Dj kX6_put 5 (fun o => .ifCond .ne o) 3 8 11 := ⟨6, by decide +kernel, rfl, by decide⟩
theorem dX6_put_8 : Dk kX6_put 8 (.bipush (-5)) 2 10 := ⟨by decide +kernel, rfl⟩
theorem dX6_put_10 : Dk kX6_put 10 (.ireturn) 1 11 := ⟨by decide +kernel, rfl⟩
theorem dX6_put_11 : Dk kX6_put 11 (.iload_n 2) 1 12 := ⟨by decide +kernel, rfl⟩
theorem dX6_put_12 : Dk kX6_put 12 (.iconst 0) 1 13 := ⟨by decide +kernel, rfl⟩
theorem dX6_put_13 : Dk kX6_put 13 (.iconst 1) 1 14 := ⟨by decide +kernel, rfl⟩
theorem dX6_put_14 : Dk kX6_put 14 (.invokestatic 75) 3 17 := ⟨by decide +kernel, rfl⟩
theorem dX6_put_17 : Dj kX6_put 17 (fun o => .ifCond .eq o) 3 20 39 := ⟨22, by decide +kernel, rfl, by decide⟩
theorem dX6_put_20 : Dk kX6_put 20 (.iload_n 3) 1 21 := ⟨by decide +kernel, rfl⟩
theorem dX6_put_21 : Dk kX6_put 21 (.iconst 0) 1 22 := ⟨by decide +kernel, rfl⟩
theorem dX6_put_22 : Dk kX6_put 22 (.iload_n 2) 1 23 := ⟨by decide +kernel, rfl⟩
theorem dX6_put_23 : Dj kX6_put 23 (fun o => .ifCond .ne o) 3 26 31 := ⟨8, by decide +kernel, rfl, by decide⟩
theorem dX6_put_26 : Dk kX6_put 26 (.bipush 7) 2 28 := ⟨by decide +kernel, rfl⟩
theorem dX6_put_28 : Dj kX6_put 28 (fun o => .goto o) 3 31 33 := ⟨5, by decide +kernel, rfl, by decide⟩
theorem dX6_put_31 : Dk kX6_put 31 (.bipush 99) 2 33 := ⟨by decide +kernel, rfl⟩
theorem dX6_put_33 : Dk kX6_put 33 (.invokestatic 75) 3 36 := ⟨by decide +kernel, rfl⟩
theorem dX6_put_36 : Dj kX6_put 36 (fun o => .ifCond .ne o) 3 39 42 := ⟨6, by decide +kernel, rfl, by decide⟩
theorem dX6_put_39 : Dk kX6_put 39 (.bipush (-7)) 2 41 := ⟨by decide +kernel, rfl⟩
theorem dX6_put_41 : Dk kX6_put 41 (.ireturn) 1 42 := ⟨by decide +kernel, rfl⟩
theorem dX6_put_42 : Dk kX6_put 42 (.aload_n 0) 1 43 := ⟨by decide +kernel, rfl⟩
theorem dX6_put_43 : Dk kX6_put 43 (.getfield 16) 3 46 := ⟨by decide +kernel, rfl⟩
theorem dX6_put_46 : Dk kX6_put 46 (.iconst 3) 1 47 := ⟨by decide +kernel, rfl⟩
theorem dX6_put_47 : Dk kX6_put 47 (.iload_n 1) 1 48 := ⟨by decide +kernel, rfl⟩
theorem dX6_put_48 : Dk kX6_put 48 (.imul) 1 49 := ⟨by decide +kernel, rfl⟩
theorem dX6_put_49 : Dk kX6_put 49 (.iload_n 2) 1 50 := ⟨by decide +kernel, rfl⟩
theorem dX6_put_50 : Dk kX6_put 50 (.iadd) 1 51 := ⟨by decide +kernel, rfl⟩
theorem dX6_put_51 : Dk kX6_put 51 (.iaload) 1 52 := ⟨by decide +kernel, rfl⟩
theorem dX6_put_52 : Dk kX6_put 52 (.istore 4) 2 54 := ⟨by decide +kernel, rfl⟩
theorem dX6_put_54 : Dk kX6_put 54 (.aload_n 0) 1 55 := ⟨by decide +kernel, rfl⟩
theorem dX6_put_55 : Dk kX6_put 55 (.getfield 16) 3 58 := ⟨by decide +kernel, rfl⟩
theorem dX6_put_58 : Dk kX6_put 58 (.iconst 3) 1 59 := ⟨by decide +kernel, rfl⟩
theorem dX6_put_59 : Dk kX6_put 59 (.iload_n 1) 1 60 := ⟨by decide +kernel, rfl⟩
theorem dX6_put_60 : Dk kX6_put 60 (.imul) 1 61 := ⟨by decide +kernel, rfl⟩
theorem dX6_put_61 : Dk kX6_put 61 (.iload_n 2) 1 62 := ⟨by decide +kernel, rfl⟩
theorem dX6_put_62 : Dk kX6_put 62 (.iadd) 1 63 := ⟨by decide +kernel, rfl⟩
theorem dX6_put_63 : Dk kX6_put 63 (.iload_n 3) 1 64 := ⟨by decide +kernel, rfl⟩
theorem dX6_put_64 : Dk kX6_put 64 (.iastore) 1 65 := ⟨by decide +kernel, rfl⟩
theorem dX6_put_65 : Dk kX6_put 65 (.iload 4) 2 67 := ⟨by decide +kernel, rfl⟩
theorem dX6_put_67 : Dk kX6_put 67 (.ireturn) 1 68 := ⟨by decide +kernel, rfl⟩
theorem dX6_doesTry_0 : Dk kX6_doesTry 0 (.aload_n 0) 1 1 := ⟨by decide +kernel, rfl⟩
theorem dX6_doesTry_1 : Dk kX6_doesTry 1 (.iload_n 1) 1 2 := ⟨by decide +kernel, rfl⟩
theorem dX6_doesTry_2 : Dk kX6_doesTry 2 (.invokevirtual 167) 3 5 := ⟨by decide +kernel, rfl⟩
theorem dX6_doesTry_5 : Dk kX6_doesTry 5 (.istore_n 2) 1 6 := ⟨by decide +kernel, rfl⟩
theorem dX6_doesTry_6 : Dk kX6_doesTry 6 (.aload_n 0) 1 7 := ⟨by decide +kernel, rfl⟩
theorem dX6_doesTry_7 : Dk kX6_doesTry 7 (.getfield 7) 3 10 := ⟨by decide +kernel, rfl⟩
theorem dX6_doesTry_10 : Dk kX6_doesTry 10 (.iload_n 1) 1 11 := ⟨by decide +kernel, rfl⟩
theorem dX6_doesTry_11 : Dk kX6_doesTry 11 (.iaload) 1 12 := ⟨by decide +kernel, rfl⟩
theorem dX6_doesTry_12 : Dk kX6_doesTry 12 (.iconst 3) 1 13 := ⟨by decide +kernel, rfl⟩
theorem dX6_doesTry_13 : Dj kX6_doesTry 13 (fun o => .if_icmp .ne o) 3 16 26 := ⟨13, by decide +kernel, rfl, by decide⟩
theorem dX6_doesTry_16 : Dk kX6_doesTry 16 (.iload_n 2) 1 17 := ⟨by decide +kernel, rfl⟩
theorem dX6_doesTry_17 : Dj kX6_doesTry 17 (fun o => .ifCond .ne o) 3 20 24 := ⟨7, by decide +kernel, rfl, by decide⟩
theorem dX6_doesTry_20 : Dk kX6_doesTry 20 (.iconst 1) 1 21 := ⟨by decide +kernel, rfl⟩
theorem dX6_doesTry_21 : Dj kX6_doesTry 21 (fun o => .goto o) 3 24 25 := ⟨4, by decide +kernel, rfl, by decide⟩
theorem dX6_doesTry_24 : Dk kX6_doesTry 24 (.iconst 0) 1 25 := ⟨by decide +kernel, rfl⟩
theorem dX6_doesTry_25 : Dk kX6_doesTry 25 (.ireturn) 1 26 := ⟨by decide +kernel, rfl⟩
theorem dX6_doesTry_26 : Dk kX6_doesTry 26 (.aload_n 0) 1 27 := ⟨by decide +kernel, rfl⟩
theorem dX6_doesTry_27 : Dk kX6_doesTry 27 (.iconst 0) 1 28 := ⟨by decide +kernel, rfl⟩
theorem dX6_doesTry_28 : Dk kX6_doesTry 28 (.iload_n 1) 1 29 := ⟨by decide +kernel, rfl⟩
theorem dX6_doesTry_29 : Dk kX6_doesTry 29 (.invokevirtual 176) 3 32 := ⟨by decide +kernel, rfl⟩
theorem dX6_doesTry_32 : Dj kX6_doesTry 32 (fun o => .ifCond .eq o) 3 35 39 := ⟨7, by decide +kernel, rfl, by decide⟩
theorem dX6_doesTry_35 : Dk kX6_doesTry 35 (.iconst 1) 1 36 := ⟨by decide +kernel, rfl⟩
theorem dX6_doesTry_36 : Dj kX6_doesTry 36 (fun o => .goto o) 3 39 40 := ⟨4, by decide +kernel, rfl, by decide⟩
theorem dX6_doesTry_39 : Dk kX6_doesTry 39 (.iconst 0) 1 40 := ⟨by decide +kernel, rfl⟩
theorem dX6_doesTry_40 : Dk kX6_doesTry 40 (.istore_n 3) 1 41 := ⟨by decide +kernel, rfl⟩
theorem dX6_doesTry_41 : Dk kX6_doesTry 41 (.aload_n 0) 1 42 := ⟨by decide +kernel, rfl⟩
theorem dX6_doesTry_42 : Dk kX6_doesTry 42 (.getfield 7) 3 45 := ⟨by decide +kernel, rfl⟩
theorem dX6_doesTry_45 : Dk kX6_doesTry 45 (.iload_n 1) 1 46 := ⟨by decide +kernel, rfl⟩
theorem dX6_doesTry_46 : Dk kX6_doesTry 46 (.iaload) 1 47 := ⟨by decide +kernel, rfl⟩
theorem dX6_doesTry_47 : Dk kX6_doesTry 47 (.tableswitch 92 1 4 #[29, 43, 92, 57]) 29 76 := ⟨by decide +kernel, rfl⟩
theorem dX6_doesTry_76 : Dk kX6_doesTry 76 (.iload_n 3) 1 77 := ⟨by decide +kernel, rfl⟩
theorem dX6_doesTry_77 : Dj kX6_doesTry 77 (fun o => .ifCond .ne o) 3 80 84 := ⟨7, by decide +kernel, rfl, by decide⟩
theorem dX6_doesTry_80 : Dk kX6_doesTry 80 (.iload_n 2) 1 81 := ⟨by decide +kernel, rfl⟩
theorem dX6_doesTry_81 : Dj kX6_doesTry 81 (fun o => .ifCond .ne o) 3 84 88 := ⟨7, by decide +kernel, rfl, by decide⟩
theorem dX6_doesTry_84 : Dk kX6_doesTry 84 (.iconst 1) 1 85 := ⟨by decide +kernel, rfl⟩
theorem dX6_doesTry_85 : Dj kX6_doesTry 85 (fun o => .goto o) 3 88 89 := ⟨4, by decide +kernel, rfl, by decide⟩
theorem dX6_doesTry_88 : Dk kX6_doesTry 88 (.iconst 0) 1 89 := ⟨by decide +kernel, rfl⟩
theorem dX6_doesTry_89 : Dk kX6_doesTry 89 (.ireturn) 1 90 := ⟨by decide +kernel, rfl⟩
theorem dX6_doesTry_90 : Dk kX6_doesTry 90 (.iload_n 3) 1 91 := ⟨by decide +kernel, rfl⟩
theorem dX6_doesTry_91 : Dj kX6_doesTry 91 (fun o => .ifCond .eq o) 3 94 102 := ⟨11, by decide +kernel, rfl, by decide⟩
theorem dX6_doesTry_94 : Dk kX6_doesTry 94 (.iload_n 2) 1 95 := ⟨by decide +kernel, rfl⟩
theorem dX6_doesTry_95 : Dj kX6_doesTry 95 (fun o => .ifCond .eq o) 3 98 102 := ⟨7, by decide +kernel, rfl, by decide⟩
theorem dX6_doesTry_98 : Dk kX6_doesTry 98 (.iconst 1) 1 99 := ⟨by decide +kernel, rfl⟩
theorem dX6_doesTry_99 : Dj kX6_doesTry 99 (fun o => .goto o) 3 102 103 := ⟨4, by decide +kernel, rfl, by decide⟩
theorem dX6_doesTry_102 : Dk kX6_doesTry 102 (.iconst 0) 1 103 := ⟨by decide +kernel, rfl⟩
theorem dX6_doesTry_103 : Dk kX6_doesTry 103 (.ireturn) 1 104 := ⟨by decide +kernel, rfl⟩
theorem dX6_doesTry_104 : Dk kX6_doesTry 104 (.aload_n 0) 1 105 := ⟨by decide +kernel, rfl⟩
theorem dX6_doesTry_105 : Dk kX6_doesTry 105 (.getfield 79) 3 108 := ⟨by decide +kernel, rfl⟩
theorem dX6_doesTry_108 : Dk kX6_doesTry 108 (.iconst 2) 1 109 := ⟨by decide +kernel, rfl⟩
theorem dX6_doesTry_109 : Dk kX6_doesTry 109 (.irem) 1 110 := ⟨by decide +kernel, rfl⟩
theorem dX6_doesTry_110 : Dj kX6_doesTry 110 (fun o => .ifCond .ne o) 3 113 129 := ⟨19, by decide +kernel, rfl, by decide⟩
theorem dX6_doesTry_113 : Dk kX6_doesTry 113 (.iload_n 3) 1 114 := ⟨by decide +kernel, rfl⟩
theorem dX6_doesTry_114 : Dj kX6_doesTry 114 (fun o => .ifCond .eq o) 3 117 125 := ⟨11, by decide +kernel, rfl, by decide⟩
theorem dX6_doesTry_117 : Dk kX6_doesTry 117 (.iload_n 2) 1 118 := ⟨by decide +kernel, rfl⟩
theorem dX6_doesTry_118 : Dj kX6_doesTry 118 (fun o => .ifCond .eq o) 3 121 125 := ⟨7, by decide +kernel, rfl, by decide⟩
theorem dX6_doesTry_121 : Dk kX6_doesTry 121 (.iconst 1) 1 122 := ⟨by decide +kernel, rfl⟩
theorem dX6_doesTry_122 : Dj kX6_doesTry 122 (fun o => .goto o) 3 125 138 := ⟨16, by decide +kernel, rfl, by decide⟩
theorem dX6_doesTry_125 : Dk kX6_doesTry 125 (.iconst 0) 1 126 := ⟨by decide +kernel, rfl⟩
theorem dX6_doesTry_126 : Dj kX6_doesTry 126 (fun o => .goto o) 3 129 138 := ⟨12, by decide +kernel, rfl, by decide⟩
theorem dX6_doesTry_129 : Dk kX6_doesTry 129 (.iload_n 2) 1 130 := ⟨by decide +kernel, rfl⟩
theorem dX6_doesTry_130 : Dj kX6_doesTry 130 (fun o => .ifCond .ne o) 3 133 137 := ⟨7, by decide +kernel, rfl, by decide⟩
theorem dX6_doesTry_133 : Dk kX6_doesTry 133 (.iconst 1) 1 134 := ⟨by decide +kernel, rfl⟩
theorem dX6_doesTry_134 : Dj kX6_doesTry 134 (fun o => .goto o) 3 137 138 := ⟨4, by decide +kernel, rfl, by decide⟩
theorem dX6_doesTry_137 : Dk kX6_doesTry 137 (.iconst 0) 1 138 := ⟨by decide +kernel, rfl⟩
theorem dX6_doesTry_138 : Dk kX6_doesTry 138 (.ireturn) 1 139 := ⟨by decide +kernel, rfl⟩
theorem dX6_doesTry_139 : Dk kX6_doesTry 139 (.iload_n 3) 1 140 := ⟨by decide +kernel, rfl⟩
theorem dX6_doesTry_140 : Dk kX6_doesTry 140 (.ireturn) 1 141 := ⟨by decide +kernel, rfl⟩
theorem dX6_paysOf_0 : Dk kX6_paysOf 0 (.aload_n 0) 1 1 := ⟨by decide +kernel, rfl⟩
theorem dX6_paysOf_1 : Dk kX6_paysOf 1 (.getfield 7) 3 4 := ⟨by decide +kernel, rfl⟩
theorem dX6_paysOf_4 : Dk kX6_paysOf 4 (.iload_n 1) 1 5 := ⟨by decide +kernel, rfl⟩
theorem dX6_paysOf_5 : Dk kX6_paysOf 5 (.iaload) 1 6 := ⟨by decide +kernel, rfl⟩
theorem dX6_paysOf_6 : Dk kX6_paysOf 6 (.iconst 4) 1 7 := ⟨by decide +kernel, rfl⟩
theorem dX6_paysOf_7 : Dj kX6_paysOf 7 (fun o => .if_icmp .ne o) 3 10 12 := ⟨5, by decide +kernel, rfl, by decide⟩
theorem dX6_paysOf_10 : Dk kX6_paysOf 10 (.iconst 0) 1 11 := ⟨by decide +kernel, rfl⟩
theorem dX6_paysOf_11 : Dk kX6_paysOf 11 (.ireturn) 1 12 := ⟨by decide +kernel, rfl⟩
theorem dX6_paysOf_12 : Dk kX6_paysOf 12 (.aload_n 0) 1 13 := ⟨by decide +kernel, rfl⟩
theorem dX6_paysOf_13 : Dk kX6_paysOf 13 (.iconst 1) 1 14 := ⟨by decide +kernel, rfl⟩
theorem dX6_paysOf_14 : Dk kX6_paysOf 14 (.iload_n 1) 1 15 := ⟨by decide +kernel, rfl⟩
theorem dX6_paysOf_15 : Dk kX6_paysOf 15 (.invokevirtual 176) 3 18 := ⟨by decide +kernel, rfl⟩
theorem dX6_paysOf_18 : Dk kX6_paysOf 18 (.istore_n 2) 1 19 := ⟨by decide +kernel, rfl⟩
theorem dX6_paysOf_19 : Dk kX6_paysOf 19 (.aload_n 0) 1 20 := ⟨by decide +kernel, rfl⟩
theorem dX6_paysOf_20 : Dk kX6_paysOf 20 (.getfield 7) 3 23 := ⟨by decide +kernel, rfl⟩
theorem dX6_paysOf_23 : Dk kX6_paysOf 23 (.iload_n 1) 1 24 := ⟨by decide +kernel, rfl⟩
theorem dX6_paysOf_24 : Dk kX6_paysOf 24 (.iaload) 1 25 := ⟨by decide +kernel, rfl⟩
theorem dX6_paysOf_25 : Dk kX6_paysOf 25 (.iconst 2) 1 26 := ⟨by decide +kernel, rfl⟩
theorem dX6_paysOf_26 : Dj kX6_paysOf 26 (fun o => .if_icmp .ne o) 3 29 40 := ⟨14, by decide +kernel, rfl, by decide⟩
theorem dX6_paysOf_29 : Dk kX6_paysOf 29 (.iload_n 2) 1 30 := ⟨by decide +kernel, rfl⟩
theorem dX6_paysOf_30 : Dk kX6_paysOf 30 (.aload_n 0) 1 31 := ⟨by decide +kernel, rfl⟩
theorem dX6_paysOf_31 : Dk kX6_paysOf 31 (.getfield 13) 3 34 := ⟨by decide +kernel, rfl⟩
theorem dX6_paysOf_34 : Dk kX6_paysOf 34 (.iload_n 1) 1 35 := ⟨by decide +kernel, rfl⟩
theorem dX6_paysOf_35 : Dk kX6_paysOf 35 (.iaload) 1 36 := ⟨by decide +kernel, rfl⟩
theorem dX6_paysOf_36 : Dk kX6_paysOf 36 (.iadd) 1 37 := ⟨by decide +kernel, rfl⟩
theorem dX6_paysOf_37 : Dj kX6_paysOf 37 (fun o => .goto o) 3 40 57 := ⟨20, by decide +kernel, rfl, by decide⟩
theorem dX6_paysOf_40 : Dk kX6_paysOf 40 (.aload_n 0) 1 41 := ⟨by decide +kernel, rfl⟩
theorem dX6_paysOf_41 : Dk kX6_paysOf 41 (.getfield 7) 3 44 := ⟨by decide +kernel, rfl⟩
theorem dX6_paysOf_44 : Dk kX6_paysOf 44 (.iload_n 1) 1 45 := ⟨by decide +kernel, rfl⟩
theorem dX6_paysOf_45 : Dk kX6_paysOf 45 (.iaload) 1 46 := ⟨by decide +kernel, rfl⟩
theorem dX6_paysOf_46 : Dk kX6_paysOf 46 (.iconst 5) 1 47 := ⟨by decide +kernel, rfl⟩
theorem dX6_paysOf_47 : Dj kX6_paysOf 47 (fun o => .if_icmp .ne o) 3 50 56 := ⟨9, by decide +kernel, rfl, by decide⟩
theorem dX6_paysOf_50 : Dk kX6_paysOf 50 (.iload_n 2) 1 51 := ⟨by decide +kernel, rfl⟩
theorem dX6_paysOf_51 : Dk kX6_paysOf 51 (.iconst 2) 1 52 := ⟨by decide +kernel, rfl⟩
theorem dX6_paysOf_52 : Dk kX6_paysOf 52 (.idiv) 1 53 := ⟨by decide +kernel, rfl⟩
theorem dX6_paysOf_53 : Dj kX6_paysOf 53 (fun o => .goto o) 3 56 57 := ⟨4, by decide +kernel, rfl, by decide⟩
theorem dX6_paysOf_56 : Dk kX6_paysOf 56 (.iload_n 2) 1 57 := ⟨by decide +kernel, rfl⟩
theorem dX6_paysOf_57 : Dk kX6_paysOf 57 (.ireturn) 1 58 := ⟨by decide +kernel, rfl⟩
theorem dX6_goesOf_0 : Dk kX6_goesOf 0 (.aload_n 0) 1 1 := ⟨by decide +kernel, rfl⟩
theorem dX6_goesOf_1 : Dk kX6_goesOf 1 (.getfield 7) 3 4 := ⟨by decide +kernel, rfl⟩
theorem dX6_goesOf_4 : Dk kX6_goesOf 4 (.iload_n 1) 1 5 := ⟨by decide +kernel, rfl⟩
theorem dX6_goesOf_5 : Dk kX6_goesOf 5 (.iaload) 1 6 := ⟨by decide +kernel, rfl⟩
theorem dX6_goesOf_6 : Dk kX6_goesOf 6 (.tableswitch 60 1 5 #[34, 60, 36, 60, 58]) 34 40 := ⟨by decide +kernel, rfl⟩
theorem dX6_goesOf_40 : Dk kX6_goesOf 40 (.iconst 1) 1 41 := ⟨by decide +kernel, rfl⟩
theorem dX6_goesOf_41 : Dk kX6_goesOf 41 (.ireturn) 1 42 := ⟨by decide +kernel, rfl⟩
theorem dX6_goesOf_42 : Dk kX6_goesOf 42 (.aload_n 0) 1 43 := ⟨by decide +kernel, rfl⟩
theorem dX6_goesOf_43 : Dk kX6_goesOf 43 (.getfield 79) 3 46 := ⟨by decide +kernel, rfl⟩
theorem dX6_goesOf_46 : Dk kX6_goesOf 46 (.bipush 20) 2 48 := ⟨by decide +kernel, rfl⟩
theorem dX6_goesOf_48 : Dk kX6_goesOf 48 (.irem) 1 49 := ⟨by decide +kernel, rfl⟩
theorem dX6_goesOf_49 : Dk kX6_goesOf 49 (.aload_n 0) 1 50 := ⟨by decide +kernel, rfl⟩
theorem dX6_goesOf_50 : Dk kX6_goesOf 50 (.getfield 13) 3 53 := ⟨by decide +kernel, rfl⟩
theorem dX6_goesOf_53 : Dk kX6_goesOf 53 (.iload_n 1) 1 54 := ⟨by decide +kernel, rfl⟩
theorem dX6_goesOf_54 : Dk kX6_goesOf 54 (.iaload) 1 55 := ⟨by decide +kernel, rfl⟩
theorem dX6_goesOf_55 : Dj kX6_goesOf 55 (fun o => .if_icmp .ge o) 3 58 62 := ⟨7, by decide +kernel, rfl, by decide⟩
theorem dX6_goesOf_58 : Dk kX6_goesOf 58 (.iconst 1) 1 59 := ⟨by decide +kernel, rfl⟩
theorem dX6_goesOf_59 : Dj kX6_goesOf 59 (fun o => .goto o) 3 62 63 := ⟨4, by decide +kernel, rfl, by decide⟩
theorem dX6_goesOf_62 : Dk kX6_goesOf 62 (.iconst (-1)) 1 63 := ⟨by decide +kernel, rfl⟩
theorem dX6_goesOf_63 : Dk kX6_goesOf 63 (.ireturn) 1 64 := ⟨by decide +kernel, rfl⟩
theorem dX6_goesOf_64 : Dk kX6_goesOf 64 (.iconst 0) 1 65 := ⟨by decide +kernel, rfl⟩
theorem dX6_goesOf_65 : Dk kX6_goesOf 65 (.ireturn) 1 66 := ⟨by decide +kernel, rfl⟩
theorem dX6_goesOf_66 : Dk kX6_goesOf 66 (.aload_n 0) 1 67 := ⟨by decide +kernel, rfl⟩
theorem dX6_goesOf_67 : Dk kX6_goesOf 67 (.iconst 2) 1 68 := ⟨by decide +kernel, rfl⟩
theorem dX6_goesOf_68 : Dk kX6_goesOf 68 (.iload_n 1) 1 69 := ⟨by decide +kernel, rfl⟩
theorem dX6_goesOf_69 : Dk kX6_goesOf 69 (.invokevirtual 176) 3 72 := ⟨by decide +kernel, rfl⟩
theorem dX6_goesOf_72 : Dk kX6_goesOf 72 (.invokestatic 179) 3 75 := ⟨by decide +kernel, rfl⟩
theorem dX6_goesOf_75 : Dk kX6_goesOf 75 (.ireturn) 1 76 := ⟨by decide +kernel, rfl⟩
theorem dX6_signOf__0 : Dk kX6_signOf_ 0 (.iload_n 0) 1 1 := ⟨by decide +kernel, rfl⟩
theorem dX6_signOf__1 : Dj kX6_signOf_ 1 (fun o => .ifCond .le o) 3 4 8 := ⟨7, by decide +kernel, rfl, by decide⟩
theorem dX6_signOf__4 : Dk kX6_signOf_ 4 (.iconst 1) 1 5 := ⟨by decide +kernel, rfl⟩
theorem dX6_signOf__5 : Dj kX6_signOf_ 5 (fun o => .goto o) 3 8 17 := ⟨12, by decide +kernel, rfl, by decide⟩
theorem dX6_signOf__8 : Dk kX6_signOf_ 8 (.iload_n 0) 1 9 := ⟨by decide +kernel, rfl⟩
theorem dX6_signOf__9 : Dj kX6_signOf_ 9 (fun o => .ifCond .ge o) 3 12 16 := ⟨7, by decide +kernel, rfl, by decide⟩
theorem dX6_signOf__12 : Dk kX6_signOf_ 12 (.iconst (-1)) 1 13 := ⟨by decide +kernel, rfl⟩
theorem dX6_signOf__13 : Dj kX6_signOf_ 13 (fun o => .goto o) 3 16 17 := ⟨4, by decide +kernel, rfl, by decide⟩
theorem dX6_signOf__16 : Dk kX6_signOf_ 16 (.iconst 0) 1 17 := ⟨by decide +kernel, rfl⟩
theorem dX6_signOf__17 : Dk kX6_signOf_ 17 (.ireturn) 1 18 := ⟨by decide +kernel, rfl⟩
theorem dX6_tryNow_0 : Dk kX6_tryNow 0 (.aload_n 0) 1 1 := ⟨by decide +kernel, rfl⟩
theorem dX6_tryNow_1 : Dk kX6_tryNow 1 (.getfield 19) 3 4 := ⟨by decide +kernel, rfl⟩
theorem dX6_tryNow_4 : Dk kX6_tryNow 4 (.iconst 3) 1 5 := ⟨by decide +kernel, rfl⟩
theorem dX6_tryNow_5 : Dk kX6_tryNow 5 (.aload_n 0) 1 6 := ⟨by decide +kernel, rfl⟩
theorem dX6_tryNow_6 : Dk kX6_tryNow 6 (.getfield 16) 3 9 := ⟨by decide +kernel, rfl⟩
theorem dX6_tryNow_9 : Dk kX6_tryNow 9 (.iconst 3) 1 10 := ⟨by decide +kernel, rfl⟩
theorem dX6_tryNow_10 : Dk kX6_tryNow 10 (.iload_n 1) 1 11 := ⟨by decide +kernel, rfl⟩
theorem dX6_tryNow_11 : Dk kX6_tryNow 11 (.imul) 1 12 := ⟨by decide +kernel, rfl⟩
theorem dX6_tryNow_12 : Dk kX6_tryNow 12 (.iaload) 1 13 := ⟨by decide +kernel, rfl⟩
theorem dX6_tryNow_13 : Dk kX6_tryNow 13 (.imul) 1 14 := ⟨by decide +kernel, rfl⟩
theorem dX6_tryNow_14 : Dk kX6_tryNow 14 (.iconst 1) 1 15 := ⟨by decide +kernel, rfl⟩
theorem dX6_tryNow_15 : Dk kX6_tryNow 15 (.iadd) 1 16 := ⟨by decide +kernel, rfl⟩
theorem dX6_tryNow_16 : Dk kX6_tryNow 16 (.iaload) 1 17 := ⟨by decide +kernel, rfl⟩
theorem dX6_tryNow_17 : Dk kX6_tryNow 17 (.istore_n 2) 1 18 := ⟨by decide +kernel, rfl⟩
theorem dX6_tryNow_18 : Dk kX6_tryNow 18 (.iload_n 2) 1 19 := ⟨by decide +kernel, rfl⟩
theorem dX6_tryNow_19 : Dk kX6_tryNow 19 (.iconst (-1)) 1 20 := ⟨by decide +kernel, rfl⟩
theorem dX6_tryNow_20 : Dj kX6_tryNow 20 (fun o => .if_icmp .ne o) 3 23 27 := ⟨7, by decide +kernel, rfl, by decide⟩
theorem dX6_tryNow_23 : Dk kX6_tryNow 23 (.iconst 0) 1 24 := ⟨by decide +kernel, rfl⟩
theorem dX6_tryNow_24 : Dj kX6_tryNow 24 (fun o => .goto o) 3 27 37 := ⟨13, by decide +kernel, rfl, by decide⟩
theorem dX6_tryNow_27 : Dk kX6_tryNow 27 (.iload_n 2) 1 28 := ⟨by decide +kernel, rfl⟩
theorem dX6_tryNow_28 : Dk kX6_tryNow 28 (.iload_n 1) 1 29 := ⟨by decide +kernel, rfl⟩
theorem dX6_tryNow_29 : Dj kX6_tryNow 29 (fun o => .if_icmp .ne o) 3 32 36 := ⟨7, by decide +kernel, rfl, by decide⟩
theorem dX6_tryNow_32 : Dk kX6_tryNow 32 (.iconst 1) 1 33 := ⟨by decide +kernel, rfl⟩
theorem dX6_tryNow_33 : Dj kX6_tryNow 33 (fun o => .goto o) 3 36 37 := ⟨4, by decide +kernel, rfl, by decide⟩
theorem dX6_tryNow_36 : Dk kX6_tryNow 36 (.iconst 2) 1 37 := ⟨by decide +kernel, rfl⟩
theorem dX6_tryNow_37 : Dk kX6_tryNow 37 (.ireturn) 1 38 := ⟨by decide +kernel, rfl⟩
theorem dX6_told_0 : Dk kX6_told 0 (.aload_n 0) 1 1 := ⟨by decide +kernel, rfl⟩
theorem dX6_told_1 : Dk kX6_told 1 (.iload_n 1) 1 2 := ⟨by decide +kernel, rfl⟩
theorem dX6_told_2 : Dk kX6_told 2 (.invokevirtual 99) 3 5 := ⟨by decide +kernel, rfl⟩
theorem dX6_told_5 : Dj kX6_told 5 (fun o => .ifCond .ne o) 3 8 11 := ⟨6, by decide +kernel, rfl, by decide⟩
theorem dX6_told_8 : Dk kX6_told 8 (.bipush (-5)) 2 10 := ⟨by decide +kernel, rfl⟩
theorem dX6_told_10 : Dk kX6_told 10 (.ireturn) 1 11 := ⟨by decide +kernel, rfl⟩
theorem dX6_told_11 : Dk kX6_told 11 (.iload_n 2) 1 12 := ⟨by decide +kernel, rfl⟩
theorem dX6_told_12 : Dk kX6_told 12 (.tableswitch 112 0 8 #[52, 52, 52, 63, 70, 77, 91, 97, 106]) 52 64 := ⟨by decide +kernel, rfl⟩
theorem dX6_told_64 : Dk kX6_told 64 (.aload_n 0) 1 65 := ⟨by decide +kernel, rfl⟩
theorem dX6_told_65 : Dk kX6_told 65 (.getfield 16) 3 68 := ⟨by decide +kernel, rfl⟩
theorem dX6_told_68 : Dk kX6_told 68 (.iconst 3) 1 69 := ⟨by decide +kernel, rfl⟩
theorem dX6_told_69 : Dk kX6_told 69 (.iload_n 1) 1 70 := ⟨by decide +kernel, rfl⟩
theorem dX6_told_70 : Dk kX6_told 70 (.imul) 1 71 := ⟨by decide +kernel, rfl⟩
theorem dX6_told_71 : Dk kX6_told 71 (.iload_n 2) 1 72 := ⟨by decide +kernel, rfl⟩
theorem dX6_told_72 : Dk kX6_told 72 (.iadd) 1 73 := ⟨by decide +kernel, rfl⟩
theorem dX6_told_73 : Dk kX6_told 73 (.iaload) 1 74 := ⟨by decide +kernel, rfl⟩
theorem dX6_told_74 : Dk kX6_told 74 (.ireturn) 1 75 := ⟨by decide +kernel, rfl⟩
theorem dX6_told_75 : Dk kX6_told 75 (.aload_n 0) 1 76 := ⟨by decide +kernel, rfl⟩
theorem dX6_told_76 : Dk kX6_told 76 (.getfield 7) 3 79 := ⟨by decide +kernel, rfl⟩
theorem dX6_told_79 : Dk kX6_told 79 (.iload_n 1) 1 80 := ⟨by decide +kernel, rfl⟩
theorem dX6_told_80 : Dk kX6_told 80 (.iaload) 1 81 := ⟨by decide +kernel, rfl⟩
theorem dX6_told_81 : Dk kX6_told 81 (.ireturn) 1 82 := ⟨by decide +kernel, rfl⟩
theorem dX6_told_82 : Dk kX6_told 82 (.aload_n 0) 1 83 := ⟨by decide +kernel, rfl⟩
theorem dX6_told_83 : Dk kX6_told 83 (.getfield 13) 3 86 := ⟨by decide +kernel, rfl⟩
theorem dX6_told_86 : Dk kX6_told 86 (.iload_n 1) 1 87 := ⟨by decide +kernel, rfl⟩
theorem dX6_told_87 : Dk kX6_told 87 (.iaload) 1 88 := ⟨by decide +kernel, rfl⟩
theorem dX6_told_88 : Dk kX6_told 88 (.ireturn) 1 89 := ⟨by decide +kernel, rfl⟩
theorem dX6_told_89 : Dk kX6_told 89 (.aload_n 0) 1 90 := ⟨by decide +kernel, rfl⟩
theorem dX6_told_90 : Dk kX6_told 90 (.iload_n 1) 1 91 := ⟨by decide +kernel, rfl⟩
theorem dX6_told_91 : Dk kX6_told 91 (.invokevirtual 181) 3 94 := ⟨by decide +kernel, rfl⟩
theorem dX6_told_94 : Dj kX6_told 94 (fun o => .ifCond .eq o) 3 97 101 := ⟨7, by decide +kernel, rfl, by decide⟩
theorem dX6_told_97 : Dk kX6_told 97 (.iconst 1) 1 98 := ⟨by decide +kernel, rfl⟩
theorem dX6_told_98 : Dj kX6_told 98 (fun o => .goto o) 3 101 102 := ⟨4, by decide +kernel, rfl, by decide⟩
theorem dX6_told_101 : Dk kX6_told 101 (.iconst 0) 1 102 := ⟨by decide +kernel, rfl⟩
theorem dX6_told_102 : Dk kX6_told 102 (.ireturn) 1 103 := ⟨by decide +kernel, rfl⟩
theorem dX6_told_103 : Dk kX6_told 103 (.aload_n 0) 1 104 := ⟨by decide +kernel, rfl⟩
theorem dX6_told_104 : Dk kX6_told 104 (.iload_n 1) 1 105 := ⟨by decide +kernel, rfl⟩
theorem dX6_told_105 : Dk kX6_told 105 (.invokevirtual 184) 3 108 := ⟨by decide +kernel, rfl⟩
theorem dX6_told_108 : Dk kX6_told 108 (.ireturn) 1 109 := ⟨by decide +kernel, rfl⟩
theorem dX6_told_109 : Dk kX6_told 109 (.bipush 10) 2 111 := ⟨by decide +kernel, rfl⟩
theorem dX6_told_111 : Dk kX6_told 111 (.aload_n 0) 1 112 := ⟨by decide +kernel, rfl⟩
theorem dX6_told_112 : Dk kX6_told 112 (.iload_n 1) 1 113 := ⟨by decide +kernel, rfl⟩
theorem dX6_told_113 : Dk kX6_told 113 (.invokevirtual 187) 3 116 := ⟨by decide +kernel, rfl⟩
theorem dX6_told_116 : Dk kX6_told 116 (.iadd) 1 117 := ⟨by decide +kernel, rfl⟩
theorem dX6_told_117 : Dk kX6_told 117 (.ireturn) 1 118 := ⟨by decide +kernel, rfl⟩
theorem dX6_told_118 : Dk kX6_told 118 (.aload_n 0) 1 119 := ⟨by decide +kernel, rfl⟩
theorem dX6_told_119 : Dk kX6_told 119 (.iload_n 1) 1 120 := ⟨by decide +kernel, rfl⟩
theorem dX6_told_120 : Dk kX6_told 120 (.invokevirtual 190) 3 123 := ⟨by decide +kernel, rfl⟩
theorem dX6_told_123 : Dk kX6_told 123 (.ireturn) 1 124 := ⟨by decide +kernel, rfl⟩
theorem dX6_told_124 : Dk kX6_told 124 (.bipush (-7)) 2 126 := ⟨by decide +kernel, rfl⟩
theorem dX6_told_126 : Dk kX6_told 126 (.ireturn) 1 127 := ⟨by decide +kernel, rfl⟩
theorem dX6_tryOf_0 : Dk kX6_tryOf 0 (.aload_n 0) 1 1 := ⟨by decide +kernel, rfl⟩
theorem dX6_tryOf_1 : Dk kX6_tryOf 1 (.getfield 19) 3 4 := ⟨by decide +kernel, rfl⟩
theorem dX6_tryOf_4 : Dk kX6_tryOf 4 (.iconst 3) 1 5 := ⟨by decide +kernel, rfl⟩
theorem dX6_tryOf_5 : Dk kX6_tryOf 5 (.iload_n 2) 1 6 := ⟨by decide +kernel, rfl⟩
theorem dX6_tryOf_6 : Dk kX6_tryOf 6 (.imul) 1 7 := ⟨by decide +kernel, rfl⟩
theorem dX6_tryOf_7 : Dk kX6_tryOf 7 (.iconst 1) 1 8 := ⟨by decide +kernel, rfl⟩
theorem dX6_tryOf_8 : Dk kX6_tryOf 8 (.iadd) 1 9 := ⟨by decide +kernel, rfl⟩
theorem dX6_tryOf_9 : Dk kX6_tryOf 9 (.iaload) 1 10 := ⟨by decide +kernel, rfl⟩
theorem dX6_tryOf_10 : Dk kX6_tryOf 10 (.istore_n 3) 1 11 := ⟨by decide +kernel, rfl⟩
theorem dX6_tryOf_11 : Dk kX6_tryOf 11 (.iload_n 3) 1 12 := ⟨by decide +kernel, rfl⟩
theorem dX6_tryOf_12 : Dk kX6_tryOf 12 (.iconst (-1)) 1 13 := ⟨by decide +kernel, rfl⟩
theorem dX6_tryOf_13 : Dj kX6_tryOf 13 (fun o => .if_icmp .ne o) 3 16 29 := ⟨16, by decide +kernel, rfl, by decide⟩
theorem dX6_tryOf_16 : Dk kX6_tryOf 16 (.aload_n 0) 1 17 := ⟨by decide +kernel, rfl⟩
theorem dX6_tryOf_17 : Dk kX6_tryOf 17 (.getfield 19) 3 20 := ⟨by decide +kernel, rfl⟩
theorem dX6_tryOf_20 : Dk kX6_tryOf 20 (.iconst 3) 1 21 := ⟨by decide +kernel, rfl⟩
theorem dX6_tryOf_21 : Dk kX6_tryOf 21 (.iload_n 2) 1 22 := ⟨by decide +kernel, rfl⟩
theorem dX6_tryOf_22 : Dk kX6_tryOf 22 (.imul) 1 23 := ⟨by decide +kernel, rfl⟩
theorem dX6_tryOf_23 : Dk kX6_tryOf 23 (.iconst 1) 1 24 := ⟨by decide +kernel, rfl⟩
theorem dX6_tryOf_24 : Dk kX6_tryOf 24 (.iadd) 1 25 := ⟨by decide +kernel, rfl⟩
theorem dX6_tryOf_25 : Dk kX6_tryOf 25 (.iload_n 1) 1 26 := ⟨by decide +kernel, rfl⟩
theorem dX6_tryOf_26 : Dk kX6_tryOf 26 (.iastore) 1 27 := ⟨by decide +kernel, rfl⟩
theorem dX6_tryOf_27 : Dk kX6_tryOf 27 (.iconst 0) 1 28 := ⟨by decide +kernel, rfl⟩
theorem dX6_tryOf_28 : Dk kX6_tryOf 28 (.ireturn) 1 29 := ⟨by decide +kernel, rfl⟩
theorem dX6_tryOf_29 : Dk kX6_tryOf 29 (.iload_n 3) 1 30 := ⟨by decide +kernel, rfl⟩
theorem dX6_tryOf_30 : Dk kX6_tryOf 30 (.iload_n 1) 1 31 := ⟨by decide +kernel, rfl⟩
theorem dX6_tryOf_31 : Dj kX6_tryOf 31 (fun o => .if_icmp .ne o) 3 34 36 := ⟨5, by decide +kernel, rfl, by decide⟩
theorem dX6_tryOf_34 : Dk kX6_tryOf 34 (.iconst 1) 1 35 := ⟨by decide +kernel, rfl⟩
theorem dX6_tryOf_35 : Dk kX6_tryOf 35 (.ireturn) 1 36 := ⟨by decide +kernel, rfl⟩
theorem dX6_tryOf_36 : Dk kX6_tryOf 36 (.aload_n 0) 1 37 := ⟨by decide +kernel, rfl⟩
theorem dX6_tryOf_37 : Dk kX6_tryOf 37 (.iload_n 1) 1 38 := ⟨by decide +kernel, rfl⟩
theorem dX6_tryOf_38 : Dk kX6_tryOf 38 (.invokevirtual 184) 3 41 := ⟨by decide +kernel, rfl⟩
theorem dX6_tryOf_41 : Dk kX6_tryOf 41 (.istore 4) 2 43 := ⟨by decide +kernel, rfl⟩
theorem dX6_tryOf_43 : Dk kX6_tryOf 43 (.aload_n 0) 1 44 := ⟨by decide +kernel, rfl⟩
theorem dX6_tryOf_44 : Dk kX6_tryOf 44 (.getfield 16) 3 47 := ⟨by decide +kernel, rfl⟩
theorem dX6_tryOf_47 : Dk kX6_tryOf 47 (.iconst 3) 1 48 := ⟨by decide +kernel, rfl⟩
theorem dX6_tryOf_48 : Dk kX6_tryOf 48 (.iload_n 1) 1 49 := ⟨by decide +kernel, rfl⟩
theorem dX6_tryOf_49 : Dk kX6_tryOf 49 (.imul) 1 50 := ⟨by decide +kernel, rfl⟩
theorem dX6_tryOf_50 : Dk kX6_tryOf 50 (.iconst 1) 1 51 := ⟨by decide +kernel, rfl⟩
theorem dX6_tryOf_51 : Dk kX6_tryOf 51 (.iadd) 1 52 := ⟨by decide +kernel, rfl⟩
theorem dX6_tryOf_52 : Dk kX6_tryOf 52 (.iaload) 1 53 := ⟨by decide +kernel, rfl⟩
theorem dX6_tryOf_53 : Dk kX6_tryOf 53 (.iload 4) 2 55 := ⟨by decide +kernel, rfl⟩
theorem dX6_tryOf_55 : Dj kX6_tryOf 55 (fun o => .if_icmp .ge o) 3 58 71 := ⟨16, by decide +kernel, rfl, by decide⟩
theorem dX6_tryOf_58 : Dk kX6_tryOf 58 (.aload_n 0) 1 59 := ⟨by decide +kernel, rfl⟩
theorem dX6_tryOf_59 : Dk kX6_tryOf 59 (.getfield 16) 3 62 := ⟨by decide +kernel, rfl⟩
theorem dX6_tryOf_62 : Dk kX6_tryOf 62 (.iconst 3) 1 63 := ⟨by decide +kernel, rfl⟩
theorem dX6_tryOf_63 : Dk kX6_tryOf 63 (.iload_n 1) 1 64 := ⟨by decide +kernel, rfl⟩
theorem dX6_tryOf_64 : Dk kX6_tryOf 64 (.imul) 1 65 := ⟨by decide +kernel, rfl⟩
theorem dX6_tryOf_65 : Dk kX6_tryOf 65 (.iconst 1) 1 66 := ⟨by decide +kernel, rfl⟩
theorem dX6_tryOf_66 : Dk kX6_tryOf 66 (.iadd) 1 67 := ⟨by decide +kernel, rfl⟩
theorem dX6_tryOf_67 : Dk kX6_tryOf 67 (.iaload) 1 68 := ⟨by decide +kernel, rfl⟩
theorem dX6_tryOf_68 : Dj kX6_tryOf 68 (fun o => .goto o) 3 71 73 := ⟨5, by decide +kernel, rfl, by decide⟩
theorem dX6_tryOf_71 : Dk kX6_tryOf 71 (.iload 4) 2 73 := ⟨by decide +kernel, rfl⟩
theorem dX6_tryOf_73 : Dk kX6_tryOf 73 (.istore 4) 2 75 := ⟨by decide +kernel, rfl⟩
theorem dX6_tryOf_75 : Dk kX6_tryOf 75 (.bipush 99) 2 77 := ⟨by decide +kernel, rfl⟩
theorem dX6_tryOf_77 : Dk kX6_tryOf 77 (.aload_n 0) 1 78 := ⟨by decide +kernel, rfl⟩
theorem dX6_tryOf_78 : Dk kX6_tryOf 78 (.getfield 16) 3 81 := ⟨by decide +kernel, rfl⟩
theorem dX6_tryOf_81 : Dk kX6_tryOf 81 (.iconst 3) 1 82 := ⟨by decide +kernel, rfl⟩
theorem dX6_tryOf_82 : Dk kX6_tryOf 82 (.iload_n 3) 1 83 := ⟨by decide +kernel, rfl⟩
theorem dX6_tryOf_83 : Dk kX6_tryOf 83 (.imul) 1 84 := ⟨by decide +kernel, rfl⟩
theorem dX6_tryOf_84 : Dk kX6_tryOf 84 (.iconst 1) 1 85 := ⟨by decide +kernel, rfl⟩
theorem dX6_tryOf_85 : Dk kX6_tryOf 85 (.iadd) 1 86 := ⟨by decide +kernel, rfl⟩
theorem dX6_tryOf_86 : Dk kX6_tryOf 86 (.iaload) 1 87 := ⟨by decide +kernel, rfl⟩
theorem dX6_tryOf_87 : Dk kX6_tryOf 87 (.isub) 1 88 := ⟨by decide +kernel, rfl⟩
theorem dX6_tryOf_88 : Dk kX6_tryOf 88 (.iload 4) 2 90 := ⟨by decide +kernel, rfl⟩
theorem dX6_tryOf_90 : Dj kX6_tryOf 90 (fun o => .if_icmp .ge o) 3 93 109 := ⟨19, by decide +kernel, rfl, by decide⟩
theorem dX6_tryOf_93 : Dk kX6_tryOf 93 (.bipush 99) 2 95 := ⟨by decide +kernel, rfl⟩
theorem dX6_tryOf_95 : Dk kX6_tryOf 95 (.aload_n 0) 1 96 := ⟨by decide +kernel, rfl⟩
theorem dX6_tryOf_96 : Dk kX6_tryOf 96 (.getfield 16) 3 99 := ⟨by decide +kernel, rfl⟩
theorem dX6_tryOf_99 : Dk kX6_tryOf 99 (.iconst 3) 1 100 := ⟨by decide +kernel, rfl⟩
theorem dX6_tryOf_100 : Dk kX6_tryOf 100 (.iload_n 3) 1 101 := ⟨by decide +kernel, rfl⟩
theorem dX6_tryOf_101 : Dk kX6_tryOf 101 (.imul) 1 102 := ⟨by decide +kernel, rfl⟩
theorem dX6_tryOf_102 : Dk kX6_tryOf 102 (.iconst 1) 1 103 := ⟨by decide +kernel, rfl⟩
theorem dX6_tryOf_103 : Dk kX6_tryOf 103 (.iadd) 1 104 := ⟨by decide +kernel, rfl⟩
theorem dX6_tryOf_104 : Dk kX6_tryOf 104 (.iaload) 1 105 := ⟨by decide +kernel, rfl⟩
theorem dX6_tryOf_105 : Dk kX6_tryOf 105 (.isub) 1 106 := ⟨by decide +kernel, rfl⟩
theorem dX6_tryOf_106 : Dj kX6_tryOf 106 (fun o => .goto o) 3 109 111 := ⟨5, by decide +kernel, rfl, by decide⟩
theorem dX6_tryOf_109 : Dk kX6_tryOf 109 (.iload 4) 2 111 := ⟨by decide +kernel, rfl⟩
theorem dX6_tryOf_111 : Dk kX6_tryOf 111 (.istore 4) 2 113 := ⟨by decide +kernel, rfl⟩
theorem dX6_tryOf_113 : Dk kX6_tryOf 113 (.aload_n 0) 1 114 := ⟨by decide +kernel, rfl⟩
theorem dX6_tryOf_114 : Dk kX6_tryOf 114 (.getfield 16) 3 117 := ⟨by decide +kernel, rfl⟩
theorem dX6_tryOf_117 : Dk kX6_tryOf 117 (.iconst 3) 1 118 := ⟨by decide +kernel, rfl⟩
theorem dX6_tryOf_118 : Dk kX6_tryOf 118 (.iload_n 1) 1 119 := ⟨by decide +kernel, rfl⟩
theorem dX6_tryOf_119 : Dk kX6_tryOf 119 (.imul) 1 120 := ⟨by decide +kernel, rfl⟩
theorem dX6_tryOf_120 : Dk kX6_tryOf 120 (.iconst 1) 1 121 := ⟨by decide +kernel, rfl⟩
theorem dX6_tryOf_121 : Dk kX6_tryOf 121 (.iadd) 1 122 := ⟨by decide +kernel, rfl⟩
theorem dX6_tryOf_122 : Dk kX6_tryOf 122 (.dup2) 1 123 := ⟨by decide +kernel, rfl⟩
theorem dX6_tryOf_123 : Dk kX6_tryOf 123 (.iaload) 1 124 := ⟨by decide +kernel, rfl⟩
theorem dX6_tryOf_124 : Dk kX6_tryOf 124 (.iload 4) 2 126 := ⟨by decide +kernel, rfl⟩
theorem dX6_tryOf_126 : Dk kX6_tryOf 126 (.isub) 1 127 := ⟨by decide +kernel, rfl⟩
theorem dX6_tryOf_127 : Dk kX6_tryOf 127 (.iastore) 1 128 := ⟨by decide +kernel, rfl⟩
theorem dX6_tryOf_128 : Dk kX6_tryOf 128 (.aload_n 0) 1 129 := ⟨by decide +kernel, rfl⟩
theorem dX6_tryOf_129 : Dk kX6_tryOf 129 (.getfield 16) 3 132 := ⟨by decide +kernel, rfl⟩
theorem dX6_tryOf_132 : Dk kX6_tryOf 132 (.iconst 3) 1 133 := ⟨by decide +kernel, rfl⟩
theorem dX6_tryOf_133 : Dk kX6_tryOf 133 (.iload_n 3) 1 134 := ⟨by decide +kernel, rfl⟩
theorem dX6_tryOf_134 : Dk kX6_tryOf 134 (.imul) 1 135 := ⟨by decide +kernel, rfl⟩
theorem dX6_tryOf_135 : Dk kX6_tryOf 135 (.iconst 1) 1 136 := ⟨by decide +kernel, rfl⟩
theorem dX6_tryOf_136 : Dk kX6_tryOf 136 (.iadd) 1 137 := ⟨by decide +kernel, rfl⟩
theorem dX6_tryOf_137 : Dk kX6_tryOf 137 (.dup2) 1 138 := ⟨by decide +kernel, rfl⟩
theorem dX6_tryOf_138 : Dk kX6_tryOf 138 (.iaload) 1 139 := ⟨by decide +kernel, rfl⟩
theorem dX6_tryOf_139 : Dk kX6_tryOf 139 (.iload 4) 2 141 := ⟨by decide +kernel, rfl⟩
theorem dX6_tryOf_141 : Dk kX6_tryOf 141 (.iadd) 1 142 := ⟨by decide +kernel, rfl⟩
theorem dX6_tryOf_142 : Dk kX6_tryOf 142 (.iastore) 1 143 := ⟨by decide +kernel, rfl⟩
theorem dX6_tryOf_143 : Dk kX6_tryOf 143 (.aload_n 0) 1 144 := ⟨by decide +kernel, rfl⟩
theorem dX6_tryOf_144 : Dk kX6_tryOf 144 (.getfield 19) 3 147 := ⟨by decide +kernel, rfl⟩
theorem dX6_tryOf_147 : Dk kX6_tryOf 147 (.iconst 3) 1 148 := ⟨by decide +kernel, rfl⟩
theorem dX6_tryOf_148 : Dk kX6_tryOf 148 (.iload_n 2) 1 149 := ⟨by decide +kernel, rfl⟩
theorem dX6_tryOf_149 : Dk kX6_tryOf 149 (.imul) 1 150 := ⟨by decide +kernel, rfl⟩
theorem dX6_tryOf_150 : Dk kX6_tryOf 150 (.iaload) 1 151 := ⟨by decide +kernel, rfl⟩
theorem dX6_tryOf_151 : Dk kX6_tryOf 151 (.bipush 99) 2 153 := ⟨by decide +kernel, rfl⟩
theorem dX6_tryOf_153 : Dk kX6_tryOf 153 (.aload_n 0) 1 154 := ⟨by decide +kernel, rfl⟩
theorem dX6_tryOf_154 : Dk kX6_tryOf 154 (.getfield 16) 3 157 := ⟨by decide +kernel, rfl⟩
theorem dX6_tryOf_157 : Dk kX6_tryOf 157 (.iconst 3) 1 158 := ⟨by decide +kernel, rfl⟩
theorem dX6_tryOf_158 : Dk kX6_tryOf 158 (.iload_n 1) 1 159 := ⟨by decide +kernel, rfl⟩
theorem dX6_tryOf_159 : Dk kX6_tryOf 159 (.imul) 1 160 := ⟨by decide +kernel, rfl⟩
theorem dX6_tryOf_160 : Dk kX6_tryOf 160 (.iconst 1) 1 161 := ⟨by decide +kernel, rfl⟩
theorem dX6_tryOf_161 : Dk kX6_tryOf 161 (.iadd) 1 162 := ⟨by decide +kernel, rfl⟩
theorem dX6_tryOf_162 : Dk kX6_tryOf 162 (.iaload) 1 163 := ⟨by decide +kernel, rfl⟩
theorem dX6_tryOf_163 : Dk kX6_tryOf 163 (.isub) 1 164 := ⟨by decide +kernel, rfl⟩
theorem dX6_tryOf_164 : Dj kX6_tryOf 164 (fun o => .if_icmp .ge o) 3 167 178 := ⟨14, by decide +kernel, rfl, by decide⟩
theorem dX6_tryOf_167 : Dk kX6_tryOf 167 (.aload_n 0) 1 168 := ⟨by decide +kernel, rfl⟩
theorem dX6_tryOf_168 : Dk kX6_tryOf 168 (.getfield 19) 3 171 := ⟨by decide +kernel, rfl⟩
theorem dX6_tryOf_171 : Dk kX6_tryOf 171 (.iconst 3) 1 172 := ⟨by decide +kernel, rfl⟩
theorem dX6_tryOf_172 : Dk kX6_tryOf 172 (.iload_n 2) 1 173 := ⟨by decide +kernel, rfl⟩
theorem dX6_tryOf_173 : Dk kX6_tryOf 173 (.imul) 1 174 := ⟨by decide +kernel, rfl⟩
theorem dX6_tryOf_174 : Dk kX6_tryOf 174 (.iaload) 1 175 := ⟨by decide +kernel, rfl⟩
theorem dX6_tryOf_175 : Dj kX6_tryOf 175 (fun o => .goto o) 3 178 191 := ⟨16, by decide +kernel, rfl, by decide⟩
theorem dX6_tryOf_178 : Dk kX6_tryOf 178 (.bipush 99) 2 180 := ⟨by decide +kernel, rfl⟩
theorem dX6_tryOf_180 : Dk kX6_tryOf 180 (.aload_n 0) 1 181 := ⟨by decide +kernel, rfl⟩
theorem dX6_tryOf_181 : Dk kX6_tryOf 181 (.getfield 16) 3 184 := ⟨by decide +kernel, rfl⟩
theorem dX6_tryOf_184 : Dk kX6_tryOf 184 (.iconst 3) 1 185 := ⟨by decide +kernel, rfl⟩
theorem dX6_tryOf_185 : Dk kX6_tryOf 185 (.iload_n 1) 1 186 := ⟨by decide +kernel, rfl⟩
theorem dX6_tryOf_186 : Dk kX6_tryOf 186 (.imul) 1 187 := ⟨by decide +kernel, rfl⟩
theorem dX6_tryOf_187 : Dk kX6_tryOf 187 (.iconst 1) 1 188 := ⟨by decide +kernel, rfl⟩
theorem dX6_tryOf_188 : Dk kX6_tryOf 188 (.iadd) 1 189 := ⟨by decide +kernel, rfl⟩
theorem dX6_tryOf_189 : Dk kX6_tryOf 189 (.iaload) 1 190 := ⟨by decide +kernel, rfl⟩
theorem dX6_tryOf_190 : Dk kX6_tryOf 190 (.isub) 1 191 := ⟨by decide +kernel, rfl⟩
theorem dX6_tryOf_191 : Dk kX6_tryOf 191 (.istore 5) 2 193 := ⟨by decide +kernel, rfl⟩
theorem dX6_tryOf_193 : Dk kX6_tryOf 193 (.aload_n 0) 1 194 := ⟨by decide +kernel, rfl⟩
theorem dX6_tryOf_194 : Dk kX6_tryOf 194 (.getfield 16) 3 197 := ⟨by decide +kernel, rfl⟩
theorem dX6_tryOf_197 : Dk kX6_tryOf 197 (.iconst 3) 1 198 := ⟨by decide +kernel, rfl⟩
theorem dX6_tryOf_198 : Dk kX6_tryOf 198 (.iload_n 1) 1 199 := ⟨by decide +kernel, rfl⟩
theorem dX6_tryOf_199 : Dk kX6_tryOf 199 (.imul) 1 200 := ⟨by decide +kernel, rfl⟩
theorem dX6_tryOf_200 : Dk kX6_tryOf 200 (.iconst 1) 1 201 := ⟨by decide +kernel, rfl⟩
theorem dX6_tryOf_201 : Dk kX6_tryOf 201 (.iadd) 1 202 := ⟨by decide +kernel, rfl⟩
theorem dX6_tryOf_202 : Dk kX6_tryOf 202 (.dup2) 1 203 := ⟨by decide +kernel, rfl⟩
theorem dX6_tryOf_203 : Dk kX6_tryOf 203 (.iaload) 1 204 := ⟨by decide +kernel, rfl⟩
theorem dX6_tryOf_204 : Dk kX6_tryOf 204 (.iload 5) 2 206 := ⟨by decide +kernel, rfl⟩
theorem dX6_tryOf_206 : Dk kX6_tryOf 206 (.iadd) 1 207 := ⟨by decide +kernel, rfl⟩
theorem dX6_tryOf_207 : Dk kX6_tryOf 207 (.iastore) 1 208 := ⟨by decide +kernel, rfl⟩
theorem dX6_tryOf_208 : Dk kX6_tryOf 208 (.aload_n 0) 1 209 := ⟨by decide +kernel, rfl⟩
theorem dX6_tryOf_209 : Dk kX6_tryOf 209 (.getfield 19) 3 212 := ⟨by decide +kernel, rfl⟩
theorem dX6_tryOf_212 : Dk kX6_tryOf 212 (.iconst 3) 1 213 := ⟨by decide +kernel, rfl⟩
theorem dX6_tryOf_213 : Dk kX6_tryOf 213 (.iload_n 2) 1 214 := ⟨by decide +kernel, rfl⟩
theorem dX6_tryOf_214 : Dk kX6_tryOf 214 (.imul) 1 215 := ⟨by decide +kernel, rfl⟩
theorem dX6_tryOf_215 : Dk kX6_tryOf 215 (.dup2) 1 216 := ⟨by decide +kernel, rfl⟩
theorem dX6_tryOf_216 : Dk kX6_tryOf 216 (.iaload) 1 217 := ⟨by decide +kernel, rfl⟩
theorem dX6_tryOf_217 : Dk kX6_tryOf 217 (.iload 5) 2 219 := ⟨by decide +kernel, rfl⟩
theorem dX6_tryOf_219 : Dk kX6_tryOf 219 (.isub) 1 220 := ⟨by decide +kernel, rfl⟩
theorem dX6_tryOf_220 : Dk kX6_tryOf 220 (.iastore) 1 221 := ⟨by decide +kernel, rfl⟩
theorem dX6_tryOf_221 : Dk kX6_tryOf 221 (.aload_n 0) 1 222 := ⟨by decide +kernel, rfl⟩
theorem dX6_tryOf_222 : Dk kX6_tryOf 222 (.getfield 16) 3 225 := ⟨by decide +kernel, rfl⟩
theorem dX6_tryOf_225 : Dk kX6_tryOf 225 (.iconst 3) 1 226 := ⟨by decide +kernel, rfl⟩
theorem dX6_tryOf_226 : Dk kX6_tryOf 226 (.iload_n 1) 1 227 := ⟨by decide +kernel, rfl⟩
theorem dX6_tryOf_227 : Dk kX6_tryOf 227 (.imul) 1 228 := ⟨by decide +kernel, rfl⟩
theorem dX6_tryOf_228 : Dk kX6_tryOf 228 (.iconst 2) 1 229 := ⟨by decide +kernel, rfl⟩
theorem dX6_tryOf_229 : Dk kX6_tryOf 229 (.iadd) 1 230 := ⟨by decide +kernel, rfl⟩
theorem dX6_tryOf_230 : Dk kX6_tryOf 230 (.aload_n 0) 1 231 := ⟨by decide +kernel, rfl⟩
theorem dX6_tryOf_231 : Dk kX6_tryOf 231 (.getfield 16) 3 234 := ⟨by decide +kernel, rfl⟩
theorem dX6_tryOf_234 : Dk kX6_tryOf 234 (.iconst 3) 1 235 := ⟨by decide +kernel, rfl⟩
theorem dX6_tryOf_235 : Dk kX6_tryOf 235 (.iload_n 1) 1 236 := ⟨by decide +kernel, rfl⟩
theorem dX6_tryOf_236 : Dk kX6_tryOf 236 (.imul) 1 237 := ⟨by decide +kernel, rfl⟩
theorem dX6_tryOf_237 : Dk kX6_tryOf 237 (.iconst 2) 1 238 := ⟨by decide +kernel, rfl⟩
theorem dX6_tryOf_238 : Dk kX6_tryOf 238 (.iadd) 1 239 := ⟨by decide +kernel, rfl⟩
theorem dX6_tryOf_239 : Dk kX6_tryOf 239 (.iaload) 1 240 := ⟨by decide +kernel, rfl⟩
theorem dX6_tryOf_240 : Dk kX6_tryOf 240 (.iconst 1) 1 241 := ⟨by decide +kernel, rfl⟩
theorem dX6_tryOf_241 : Dk kX6_tryOf 241 (.iadd) 1 242 := ⟨by decide +kernel, rfl⟩
theorem dX6_tryOf_242 : Dk kX6_tryOf 242 (.iconst 0) 1 243 := ⟨by decide +kernel, rfl⟩
theorem dX6_tryOf_243 : Dk kX6_tryOf 243 (.bipush 99) 2 245 := ⟨by decide +kernel, rfl⟩
theorem dX6_tryOf_245 : Dk kX6_tryOf 245 (.invokestatic 173) 3 248 := ⟨by decide +kernel, rfl⟩
theorem dX6_tryOf_248 : Dk kX6_tryOf 248 (.iastore) 1 249 := ⟨by decide +kernel, rfl⟩
theorem dX6_tryOf_249 : Dk kX6_tryOf 249 (.aload_n 0) 1 250 := ⟨by decide +kernel, rfl⟩
theorem dX6_tryOf_250 : Dk kX6_tryOf 250 (.getfield 19) 3 253 := ⟨by decide +kernel, rfl⟩
theorem dX6_tryOf_253 : Dk kX6_tryOf 253 (.iconst 3) 1 254 := ⟨by decide +kernel, rfl⟩
theorem dX6_tryOf_254 : Dk kX6_tryOf 254 (.iload_n 2) 1 255 := ⟨by decide +kernel, rfl⟩
theorem dX6_tryOf_255 : Dk kX6_tryOf 255 (.imul) 1 256 := ⟨by decide +kernel, rfl⟩
theorem dX6_tryOf_256 : Dk kX6_tryOf 256 (.iconst 1) 1 257 := ⟨by decide +kernel, rfl⟩
theorem dX6_tryOf_257 : Dk kX6_tryOf 257 (.iadd) 1 258 := ⟨by decide +kernel, rfl⟩
theorem dX6_tryOf_258 : Dk kX6_tryOf 258 (.iload_n 1) 1 259 := ⟨by decide +kernel, rfl⟩
theorem dX6_tryOf_259 : Dk kX6_tryOf 259 (.iastore) 1 260 := ⟨by decide +kernel, rfl⟩
theorem dX6_tryOf_260 : Dk kX6_tryOf 260 (.aload_n 0) 1 261 := ⟨by decide +kernel, rfl⟩
theorem dX6_tryOf_261 : Dk kX6_tryOf 261 (.getfield 19) 3 264 := ⟨by decide +kernel, rfl⟩
theorem dX6_tryOf_264 : Dk kX6_tryOf 264 (.iconst 3) 1 265 := ⟨by decide +kernel, rfl⟩
theorem dX6_tryOf_265 : Dk kX6_tryOf 265 (.iload_n 2) 1 266 := ⟨by decide +kernel, rfl⟩
theorem dX6_tryOf_266 : Dk kX6_tryOf 266 (.imul) 1 267 := ⟨by decide +kernel, rfl⟩
theorem dX6_tryOf_267 : Dk kX6_tryOf 267 (.iconst 2) 1 268 := ⟨by decide +kernel, rfl⟩
theorem dX6_tryOf_268 : Dk kX6_tryOf 268 (.iadd) 1 269 := ⟨by decide +kernel, rfl⟩
theorem dX6_tryOf_269 : Dk kX6_tryOf 269 (.iload_n 1) 1 270 := ⟨by decide +kernel, rfl⟩
theorem dX6_tryOf_270 : Dk kX6_tryOf 270 (.iastore) 1 271 := ⟨by decide +kernel, rfl⟩
theorem dX6_tryOf_271 : Dk kX6_tryOf 271 (.iconst 2) 1 272 := ⟨by decide +kernel, rfl⟩
theorem dX6_tryOf_272 : Dk kX6_tryOf 272 (.ireturn) 1 273 := ⟨by decide +kernel, rfl⟩
theorem dX6_twist_0 : Dk kX6_twist 0 (.aload_n 0) 1 1 := ⟨by decide +kernel, rfl⟩
theorem dX6_twist_1 : Dk kX6_twist 1 (.iload_n 1) 1 2 := ⟨by decide +kernel, rfl⟩
theorem dX6_twist_2 : Dk kX6_twist 2 (.invokevirtual 99) 3 5 := ⟨by decide +kernel, rfl⟩
theorem dX6_twist_5 : Dj kX6_twist 5 (fun o => .ifCond .eq o) 3 8 24 := ⟨19, by decide +kernel, rfl, by decide⟩
theorem dX6_twist_8 : Dk kX6_twist 8 (.aload_n 0) 1 9 := ⟨by decide +kernel, rfl⟩
theorem dX6_twist_9 : Dk kX6_twist 9 (.iload_n 1) 1 10 := ⟨by decide +kernel, rfl⟩
theorem dX6_twist_10 : Dk kX6_twist 10 (.aload_n 0) 1 11 := ⟨by decide +kernel, rfl⟩
theorem dX6_twist_11 : Dk kX6_twist 11 (.getfield 16) 3 14 := ⟨by decide +kernel, rfl⟩
theorem dX6_twist_14 : Dk kX6_twist 14 (.iconst 3) 1 15 := ⟨by decide +kernel, rfl⟩
theorem dX6_twist_15 : Dk kX6_twist 15 (.iload_n 1) 1 16 := ⟨by decide +kernel, rfl⟩
theorem dX6_twist_16 : Dk kX6_twist 16 (.imul) 1 17 := ⟨by decide +kernel, rfl⟩
theorem dX6_twist_17 : Dk kX6_twist 17 (.iaload) 1 18 := ⟨by decide +kernel, rfl⟩
theorem dX6_twist_18 : Dk kX6_twist 18 (.invokevirtual 193) 3 21 := ⟨by decide +kernel, rfl⟩
theorem dX6_twist_21 : Dj kX6_twist 21 (fun o => .goto o) 3 24 26 := ⟨5, by decide +kernel, rfl, by decide⟩
theorem dX6_twist_24 : Dk kX6_twist 24 (.bipush (-5)) 2 26 := ⟨by decide +kernel, rfl⟩
theorem dX6_twist_26 : Dk kX6_twist 26 (.ireturn) 1 27 := ⟨by decide +kernel, rfl⟩
theorem dX6_give_0 : Dk kX6_give 0 (.aload_n 0) 1 1 := ⟨by decide +kernel, rfl⟩
theorem dX6_give_1 : Dk kX6_give 1 (.iload_n 1) 1 2 := ⟨by decide +kernel, rfl⟩
theorem dX6_give_2 : Dk kX6_give 2 (.invokevirtual 99) 3 5 := ⟨by decide +kernel, rfl⟩
theorem dX6_give_5 : Dj kX6_give 5 (fun o => .ifCond .eq o) 3 8 21 := ⟨16, by decide +kernel, rfl, by decide⟩
theorem dX6_give_8 : Dk kX6_give 8 (.aload_n 0) 1 9 := ⟨by decide +kernel, rfl⟩
theorem dX6_give_9 : Dk kX6_give 9 (.iload_n 2) 1 10 := ⟨by decide +kernel, rfl⟩
theorem dX6_give_10 : Dk kX6_give 10 (.invokevirtual 99) 3 13 := ⟨by decide +kernel, rfl⟩
theorem dX6_give_13 : Dj kX6_give 13 (fun o => .ifCond .eq o) 3 16 21 := ⟨8, by decide +kernel, rfl, by decide⟩
theorem dX6_give_16 : Dk kX6_give 16 (.iload_n 1) 1 17 := ⟨by decide +kernel, rfl⟩
theorem dX6_give_17 : Dk kX6_give 17 (.iload_n 2) 1 18 := ⟨by decide +kernel, rfl⟩
theorem dX6_give_18 : Dj kX6_give 18 (fun o => .if_icmp .ne o) 3 21 24 := ⟨6, by decide +kernel, rfl, by decide⟩
theorem dX6_give_21 : Dk kX6_give 21 (.bipush (-5)) 2 23 := ⟨by decide +kernel, rfl⟩
theorem dX6_give_23 : Dk kX6_give 23 (.ireturn) 1 24 := ⟨by decide +kernel, rfl⟩
theorem dX6_give_24 : Dk kX6_give 24 (.iload_n 3) 1 25 := ⟨by decide +kernel, rfl⟩
theorem dX6_give_25 : Dk kX6_give 25 (.iconst 0) 1 26 := ⟨by decide +kernel, rfl⟩
theorem dX6_give_26 : Dk kX6_give 26 (.bipush 99) 2 28 := ⟨by decide +kernel, rfl⟩
theorem dX6_give_28 : Dk kX6_give 28 (.invokestatic 75) 3 31 := ⟨by decide +kernel, rfl⟩
theorem dX6_give_31 : Dj kX6_give 31 (fun o => .ifCond .ne o) 3 34 37 := ⟨6, by decide +kernel, rfl, by decide⟩
theorem dX6_give_34 : Dk kX6_give 34 (.bipush (-7)) 2 36 := ⟨by decide +kernel, rfl⟩
theorem dX6_give_36 : Dk kX6_give 36 (.ireturn) 1 37 := ⟨by decide +kernel, rfl⟩
theorem dX6_give_37 : Dk kX6_give 37 (.aload_n 0) 1 38 := ⟨by decide +kernel, rfl⟩
theorem dX6_give_38 : Dk kX6_give 38 (.getfield 16) 3 41 := ⟨by decide +kernel, rfl⟩
theorem dX6_give_41 : Dk kX6_give 41 (.iconst 3) 1 42 := ⟨by decide +kernel, rfl⟩
theorem dX6_give_42 : Dk kX6_give 42 (.iload_n 1) 1 43 := ⟨by decide +kernel, rfl⟩
theorem dX6_give_43 : Dk kX6_give 43 (.imul) 1 44 := ⟨by decide +kernel, rfl⟩
theorem dX6_give_44 : Dk kX6_give 44 (.iconst 1) 1 45 := ⟨by decide +kernel, rfl⟩
theorem dX6_give_45 : Dk kX6_give 45 (.iadd) 1 46 := ⟨by decide +kernel, rfl⟩
theorem dX6_give_46 : Dk kX6_give 46 (.iaload) 1 47 := ⟨by decide +kernel, rfl⟩
theorem dX6_give_47 : Dk kX6_give 47 (.iload_n 3) 1 48 := ⟨by decide +kernel, rfl⟩
theorem dX6_give_48 : Dj kX6_give 48 (fun o => .if_icmp .lt o) 3 51 68 := ⟨20, by decide +kernel, rfl, by decide⟩
theorem dX6_give_51 : Dk kX6_give 51 (.aload_n 0) 1 52 := ⟨by decide +kernel, rfl⟩
theorem dX6_give_52 : Dk kX6_give 52 (.getfield 16) 3 55 := ⟨by decide +kernel, rfl⟩
theorem dX6_give_55 : Dk kX6_give 55 (.iconst 3) 1 56 := ⟨by decide +kernel, rfl⟩
theorem dX6_give_56 : Dk kX6_give 56 (.iload_n 2) 1 57 := ⟨by decide +kernel, rfl⟩
theorem dX6_give_57 : Dk kX6_give 57 (.imul) 1 58 := ⟨by decide +kernel, rfl⟩
theorem dX6_give_58 : Dk kX6_give 58 (.iconst 1) 1 59 := ⟨by decide +kernel, rfl⟩
theorem dX6_give_59 : Dk kX6_give 59 (.iadd) 1 60 := ⟨by decide +kernel, rfl⟩
theorem dX6_give_60 : Dk kX6_give 60 (.iaload) 1 61 := ⟨by decide +kernel, rfl⟩
theorem dX6_give_61 : Dk kX6_give 61 (.iload_n 3) 1 62 := ⟨by decide +kernel, rfl⟩
theorem dX6_give_62 : Dk kX6_give 62 (.iadd) 1 63 := ⟨by decide +kernel, rfl⟩
theorem dX6_give_63 : Dk kX6_give 63 (.bipush 99) 2 65 := ⟨by decide +kernel, rfl⟩
theorem dX6_give_65 : Dj kX6_give 65 (fun o => .if_icmp .le o) 3 68 71 := ⟨6, by decide +kernel, rfl, by decide⟩
theorem dX6_give_68 : Dk kX6_give 68 (.bipush (-3)) 2 70 := ⟨by decide +kernel, rfl⟩
theorem dX6_give_70 : Dk kX6_give 70 (.ireturn) 1 71 := ⟨by decide +kernel, rfl⟩
theorem dX6_give_71 : Dk kX6_give 71 (.aload_n 0) 1 72 := ⟨by decide +kernel, rfl⟩
theorem dX6_give_72 : Dk kX6_give 72 (.getfield 16) 3 75 := ⟨by decide +kernel, rfl⟩
theorem dX6_give_75 : Dk kX6_give 75 (.iconst 3) 1 76 := ⟨by decide +kernel, rfl⟩
theorem dX6_give_76 : Dk kX6_give 76 (.iload_n 1) 1 77 := ⟨by decide +kernel, rfl⟩
theorem dX6_give_77 : Dk kX6_give 77 (.imul) 1 78 := ⟨by decide +kernel, rfl⟩
theorem dX6_give_78 : Dk kX6_give 78 (.iconst 1) 1 79 := ⟨by decide +kernel, rfl⟩
theorem dX6_give_79 : Dk kX6_give 79 (.iadd) 1 80 := ⟨by decide +kernel, rfl⟩
theorem dX6_give_80 : Dk kX6_give 80 (.dup2) 1 81 := ⟨by decide +kernel, rfl⟩
theorem dX6_give_81 : Dk kX6_give 81 (.iaload) 1 82 := ⟨by decide +kernel, rfl⟩
theorem dX6_give_82 : Dk kX6_give 82 (.iload_n 3) 1 83 := ⟨by decide +kernel, rfl⟩
theorem dX6_give_83 : Dk kX6_give 83 (.isub) 1 84 := ⟨by decide +kernel, rfl⟩
theorem dX6_give_84 : Dk kX6_give 84 (.iastore) 1 85 := ⟨by decide +kernel, rfl⟩
theorem dX6_give_85 : Dk kX6_give 85 (.aload_n 0) 1 86 := ⟨by decide +kernel, rfl⟩
theorem dX6_give_86 : Dk kX6_give 86 (.getfield 16) 3 89 := ⟨by decide +kernel, rfl⟩
theorem dX6_give_89 : Dk kX6_give 89 (.iconst 3) 1 90 := ⟨by decide +kernel, rfl⟩
theorem dX6_give_90 : Dk kX6_give 90 (.iload_n 2) 1 91 := ⟨by decide +kernel, rfl⟩
theorem dX6_give_91 : Dk kX6_give 91 (.imul) 1 92 := ⟨by decide +kernel, rfl⟩
theorem dX6_give_92 : Dk kX6_give 92 (.iconst 1) 1 93 := ⟨by decide +kernel, rfl⟩
theorem dX6_give_93 : Dk kX6_give 93 (.iadd) 1 94 := ⟨by decide +kernel, rfl⟩
theorem dX6_give_94 : Dk kX6_give 94 (.dup2) 1 95 := ⟨by decide +kernel, rfl⟩
theorem dX6_give_95 : Dk kX6_give 95 (.iaload) 1 96 := ⟨by decide +kernel, rfl⟩
theorem dX6_give_96 : Dk kX6_give 96 (.iload_n 3) 1 97 := ⟨by decide +kernel, rfl⟩
theorem dX6_give_97 : Dk kX6_give 97 (.iadd) 1 98 := ⟨by decide +kernel, rfl⟩
theorem dX6_give_98 : Dk kX6_give 98 (.iastore) 1 99 := ⟨by decide +kernel, rfl⟩
theorem dX6_give_99 : Dk kX6_give 99 (.aload_n 0) 1 100 := ⟨by decide +kernel, rfl⟩
theorem dX6_give_100 : Dk kX6_give 100 (.getfield 16) 3 103 := ⟨by decide +kernel, rfl⟩
theorem dX6_give_103 : Dk kX6_give 103 (.iconst 3) 1 104 := ⟨by decide +kernel, rfl⟩
theorem dX6_give_104 : Dk kX6_give 104 (.iload_n 2) 1 105 := ⟨by decide +kernel, rfl⟩
theorem dX6_give_105 : Dk kX6_give 105 (.imul) 1 106 := ⟨by decide +kernel, rfl⟩
theorem dX6_give_106 : Dk kX6_give 106 (.iconst 1) 1 107 := ⟨by decide +kernel, rfl⟩
theorem dX6_give_107 : Dk kX6_give 107 (.iadd) 1 108 := ⟨by decide +kernel, rfl⟩
theorem dX6_give_108 : Dk kX6_give 108 (.iaload) 1 109 := ⟨by decide +kernel, rfl⟩
theorem dX6_give_109 : Dk kX6_give 109 (.ireturn) 1 110 := ⟨by decide +kernel, rfl⟩
theorem dX6_minuteOf_0 : Dk kX6_minuteOf 0 (.iconst 0) 1 1 := ⟨by decide +kernel, rfl⟩
theorem dX6_minuteOf_1 : Dk kX6_minuteOf 1 (.istore_n 1) 1 2 := ⟨by decide +kernel, rfl⟩
theorem dX6_minuteOf_2 : Dk kX6_minuteOf 2 (.iconst 0) 1 3 := ⟨by decide +kernel, rfl⟩
theorem dX6_minuteOf_3 : Dk kX6_minuteOf 3 (.istore_n 2) 1 4 := ⟨by decide +kernel, rfl⟩
theorem dX6_minuteOf_4 : Dk kX6_minuteOf 4 (.iload_n 2) 1 5 := ⟨by decide +kernel, rfl⟩
theorem dX6_minuteOf_5 : Dk kX6_minuteOf 5 (.aload_n 0) 1 6 := ⟨by decide +kernel, rfl⟩
theorem dX6_minuteOf_6 : Dk kX6_minuteOf 6 (.getfield 72) 3 9 := ⟨by decide +kernel, rfl⟩
theorem dX6_minuteOf_9 : Dj kX6_minuteOf 9 (fun o => .if_icmp .ge o) 3 12 91 := ⟨82, by decide +kernel, rfl, by decide⟩
theorem dX6_minuteOf_12 : Dk kX6_minuteOf 12 (.aload_n 0) 1 13 := ⟨by decide +kernel, rfl⟩
theorem dX6_minuteOf_13 : Dk kX6_minuteOf 13 (.iload_n 2) 1 14 := ⟨by decide +kernel, rfl⟩
theorem dX6_minuteOf_14 : Dk kX6_minuteOf 14 (.invokevirtual 181) 3 17 := ⟨by decide +kernel, rfl⟩
theorem dX6_minuteOf_17 : Dk kX6_minuteOf 17 (.istore_n 3) 1 18 := ⟨by decide +kernel, rfl⟩
theorem dX6_minuteOf_18 : Dk kX6_minuteOf 18 (.iload_n 3) 1 19 := ⟨by decide +kernel, rfl⟩
theorem dX6_minuteOf_19 : Dj kX6_minuteOf 19 (fun o => .ifCond .eq o) 3 22 38 := ⟨19, by decide +kernel, rfl, by decide⟩
theorem dX6_minuteOf_22 : Dk kX6_minuteOf 22 (.aload_n 0) 1 23 := ⟨by decide +kernel, rfl⟩
theorem dX6_minuteOf_23 : Dk kX6_minuteOf 23 (.iload_n 2) 1 24 := ⟨by decide +kernel, rfl⟩
theorem dX6_minuteOf_24 : Dk kX6_minuteOf 24 (.aload_n 0) 1 25 := ⟨by decide +kernel, rfl⟩
theorem dX6_minuteOf_25 : Dk kX6_minuteOf 25 (.getfield 16) 3 28 := ⟨by decide +kernel, rfl⟩
theorem dX6_minuteOf_28 : Dk kX6_minuteOf 28 (.iconst 3) 1 29 := ⟨by decide +kernel, rfl⟩
theorem dX6_minuteOf_29 : Dk kX6_minuteOf 29 (.iload_n 2) 1 30 := ⟨by decide +kernel, rfl⟩
theorem dX6_minuteOf_30 : Dk kX6_minuteOf 30 (.imul) 1 31 := ⟨by decide +kernel, rfl⟩
theorem dX6_minuteOf_31 : Dk kX6_minuteOf 31 (.iaload) 1 32 := ⟨by decide +kernel, rfl⟩
theorem dX6_minuteOf_32 : Dk kX6_minuteOf 32 (.invokevirtual 193) 3 35 := ⟨by decide +kernel, rfl⟩
theorem dX6_minuteOf_35 : Dj kX6_minuteOf 35 (fun o => .goto o) 3 38 39 := ⟨4, by decide +kernel, rfl, by decide⟩
theorem dX6_minuteOf_38 : Dk kX6_minuteOf 38 (.iconst 0) 1 39 := ⟨by decide +kernel, rfl⟩
theorem dX6_minuteOf_39 : Dk kX6_minuteOf 39 (.istore 4) 2 41 := ⟨by decide +kernel, rfl⟩
theorem dX6_minuteOf_41 : Dk kX6_minuteOf 41 (.iload_n 1) 1 42 := ⟨by decide +kernel, rfl⟩
theorem dX6_minuteOf_42 : Dk kX6_minuteOf 42 (.iload 4) 2 44 := ⟨by decide +kernel, rfl⟩
theorem dX6_minuteOf_44 : Dk kX6_minuteOf 44 (.iconst 2) 1 45 := ⟨by decide +kernel, rfl⟩
theorem dX6_minuteOf_45 : Dj kX6_minuteOf 45 (fun o => .if_icmp .ne o) 3 48 54 := ⟨9, by decide +kernel, rfl, by decide⟩
theorem dX6_minuteOf_48 : Dk kX6_minuteOf 48 (.iconst 1) 1 49 := ⟨by decide +kernel, rfl⟩
theorem dX6_minuteOf_49 : Dk kX6_minuteOf 49 (.iload_n 2) 1 50 := ⟨by decide +kernel, rfl⟩
theorem dX6_minuteOf_50 : Dk kX6_minuteOf 50 (.ishl) 1 51 := ⟨by decide +kernel, rfl⟩
theorem dX6_minuteOf_51 : Dj kX6_minuteOf 51 (fun o => .goto o) 3 54 55 := ⟨4, by decide +kernel, rfl, by decide⟩
theorem dX6_minuteOf_54 : Dk kX6_minuteOf 54 (.iconst 0) 1 55 := ⟨by decide +kernel, rfl⟩
theorem dX6_minuteOf_55 : Dk kX6_minuteOf 55 (.ior) 1 56 := ⟨by decide +kernel, rfl⟩
theorem dX6_minuteOf_56 : Dk kX6_minuteOf 56 (.istore_n 1) 1 57 := ⟨by decide +kernel, rfl⟩
theorem dX6_minuteOf_57 : Dk kX6_minuteOf 57 (.aload_n 0) 1 58 := ⟨by decide +kernel, rfl⟩
theorem dX6_minuteOf_58 : Dk kX6_minuteOf 58 (.getfield 16) 3 61 := ⟨by decide +kernel, rfl⟩
theorem dX6_minuteOf_61 : Dk kX6_minuteOf 61 (.iconst 3) 1 62 := ⟨by decide +kernel, rfl⟩
theorem dX6_minuteOf_62 : Dk kX6_minuteOf 62 (.iload_n 2) 1 63 := ⟨by decide +kernel, rfl⟩
theorem dX6_minuteOf_63 : Dk kX6_minuteOf 63 (.imul) 1 64 := ⟨by decide +kernel, rfl⟩
theorem dX6_minuteOf_64 : Dk kX6_minuteOf 64 (.aload_n 0) 1 65 := ⟨by decide +kernel, rfl⟩
theorem dX6_minuteOf_65 : Dk kX6_minuteOf 65 (.getfield 16) 3 68 := ⟨by decide +kernel, rfl⟩
theorem dX6_minuteOf_68 : Dk kX6_minuteOf 68 (.iconst 3) 1 69 := ⟨by decide +kernel, rfl⟩
theorem dX6_minuteOf_69 : Dk kX6_minuteOf 69 (.iload_n 2) 1 70 := ⟨by decide +kernel, rfl⟩
theorem dX6_minuteOf_70 : Dk kX6_minuteOf 70 (.imul) 1 71 := ⟨by decide +kernel, rfl⟩
theorem dX6_minuteOf_71 : Dk kX6_minuteOf 71 (.iaload) 1 72 := ⟨by decide +kernel, rfl⟩
theorem dX6_minuteOf_72 : Dk kX6_minuteOf 72 (.aload_n 0) 1 73 := ⟨by decide +kernel, rfl⟩
theorem dX6_minuteOf_73 : Dk kX6_minuteOf 73 (.iload_n 2) 1 74 := ⟨by decide +kernel, rfl⟩
theorem dX6_minuteOf_74 : Dk kX6_minuteOf 74 (.invokevirtual 187) 3 77 := ⟨by decide +kernel, rfl⟩
theorem dX6_minuteOf_77 : Dk kX6_minuteOf 77 (.iadd) 1 78 := ⟨by decide +kernel, rfl⟩
theorem dX6_minuteOf_78 : Dk kX6_minuteOf 78 (.bipush 8) 2 80 := ⟨by decide +kernel, rfl⟩
theorem dX6_minuteOf_80 : Dk kX6_minuteOf 80 (.iadd) 1 81 := ⟨by decide +kernel, rfl⟩
theorem dX6_minuteOf_81 : Dk kX6_minuteOf 81 (.bipush 8) 2 83 := ⟨by decide +kernel, rfl⟩
theorem dX6_minuteOf_83 : Dk kX6_minuteOf 83 (.irem) 1 84 := ⟨by decide +kernel, rfl⟩
theorem dX6_minuteOf_84 : Dk kX6_minuteOf 84 (.iastore) 1 85 := ⟨by decide +kernel, rfl⟩
theorem dX6_minuteOf_85 : Dk kX6_minuteOf 85 (.iinc 2 1) 3 88 := ⟨by decide +kernel, rfl⟩
theorem dX6_minuteOf_88 : Dj kX6_minuteOf 88 (fun o => .goto o) 3 91 4 := ⟨-84, by decide +kernel, rfl, by decide⟩
theorem dX6_minuteOf_91 : Dk kX6_minuteOf 91 (.aload_n 0) 1 92 := ⟨by decide +kernel, rfl⟩
theorem dX6_minuteOf_92 : Dk kX6_minuteOf 92 (.dup) 1 93 := ⟨by decide +kernel, rfl⟩
theorem dX6_minuteOf_93 : Dk kX6_minuteOf 93 (.getfield 79) 3 96 := ⟨by decide +kernel, rfl⟩
theorem dX6_minuteOf_96 : Dk kX6_minuteOf 96 (.iconst 1) 1 97 := ⟨by decide +kernel, rfl⟩
theorem dX6_minuteOf_97 : Dk kX6_minuteOf 97 (.iadd) 1 98 := ⟨by decide +kernel, rfl⟩
theorem dX6_minuteOf_98 : Dk kX6_minuteOf 98 (.putfield 79) 3 101 := ⟨by decide +kernel, rfl⟩
theorem dX6_minuteOf_101 : Dk kX6_minuteOf 101 (.iconst 0) 1 102 := ⟨by decide +kernel, rfl⟩
theorem dX6_minuteOf_102 : Dk kX6_minuteOf 102 (.istore_n 2) 1 103 := ⟨by decide +kernel, rfl⟩
theorem dX6_minuteOf_103 : Dk kX6_minuteOf 103 (.iload_n 2) 1 104 := ⟨by decide +kernel, rfl⟩
theorem dX6_minuteOf_104 : Dk kX6_minuteOf 104 (.bipush 8) 2 106 := ⟨by decide +kernel, rfl⟩
theorem dX6_minuteOf_106 : Dj kX6_minuteOf 106 (fun o => .if_icmp .ge o) 3 109 147 := ⟨41, by decide +kernel, rfl, by decide⟩
theorem dX6_minuteOf_109 : Dk kX6_minuteOf 109 (.aload_n 0) 1 110 := ⟨by decide +kernel, rfl⟩
theorem dX6_minuteOf_110 : Dk kX6_minuteOf 110 (.getfield 79) 3 113 := ⟨by decide +kernel, rfl⟩
theorem dX6_minuteOf_113 : Dk kX6_minuteOf 113 (.bipush 20) 2 115 := ⟨by decide +kernel, rfl⟩
theorem dX6_minuteOf_115 : Dk kX6_minuteOf 115 (.irem) 1 116 := ⟨by decide +kernel, rfl⟩
theorem dX6_minuteOf_116 : Dj kX6_minuteOf 116 (fun o => .ifCond .ne o) 3 119 147 := ⟨31, by decide +kernel, rfl, by decide⟩
theorem dX6_minuteOf_119 : Dk kX6_minuteOf 119 (.aload_n 0) 1 120 := ⟨by decide +kernel, rfl⟩
theorem dX6_minuteOf_120 : Dk kX6_minuteOf 120 (.getfield 19) 3 123 := ⟨by decide +kernel, rfl⟩
theorem dX6_minuteOf_123 : Dk kX6_minuteOf 123 (.iconst 3) 1 124 := ⟨by decide +kernel, rfl⟩
theorem dX6_minuteOf_124 : Dk kX6_minuteOf 124 (.iload_n 2) 1 125 := ⟨by decide +kernel, rfl⟩
theorem dX6_minuteOf_125 : Dk kX6_minuteOf 125 (.imul) 1 126 := ⟨by decide +kernel, rfl⟩
theorem dX6_minuteOf_126 : Dk kX6_minuteOf 126 (.iconst 1) 1 127 := ⟨by decide +kernel, rfl⟩
theorem dX6_minuteOf_127 : Dk kX6_minuteOf 127 (.iadd) 1 128 := ⟨by decide +kernel, rfl⟩
theorem dX6_minuteOf_128 : Dk kX6_minuteOf 128 (.iconst (-1)) 1 129 := ⟨by decide +kernel, rfl⟩
theorem dX6_minuteOf_129 : Dk kX6_minuteOf 129 (.iastore) 1 130 := ⟨by decide +kernel, rfl⟩
theorem dX6_minuteOf_130 : Dk kX6_minuteOf 130 (.aload_n 0) 1 131 := ⟨by decide +kernel, rfl⟩
theorem dX6_minuteOf_131 : Dk kX6_minuteOf 131 (.getfield 19) 3 134 := ⟨by decide +kernel, rfl⟩
theorem dX6_minuteOf_134 : Dk kX6_minuteOf 134 (.iconst 3) 1 135 := ⟨by decide +kernel, rfl⟩
theorem dX6_minuteOf_135 : Dk kX6_minuteOf 135 (.iload_n 2) 1 136 := ⟨by decide +kernel, rfl⟩
theorem dX6_minuteOf_136 : Dk kX6_minuteOf 136 (.imul) 1 137 := ⟨by decide +kernel, rfl⟩
theorem dX6_minuteOf_137 : Dk kX6_minuteOf 137 (.iconst 2) 1 138 := ⟨by decide +kernel, rfl⟩
theorem dX6_minuteOf_138 : Dk kX6_minuteOf 138 (.iadd) 1 139 := ⟨by decide +kernel, rfl⟩
theorem dX6_minuteOf_139 : Dk kX6_minuteOf 139 (.iconst (-1)) 1 140 := ⟨by decide +kernel, rfl⟩
theorem dX6_minuteOf_140 : Dk kX6_minuteOf 140 (.iastore) 1 141 := ⟨by decide +kernel, rfl⟩
theorem dX6_minuteOf_141 : Dk kX6_minuteOf 141 (.iinc 2 1) 3 144 := ⟨by decide +kernel, rfl⟩
theorem dX6_minuteOf_144 : Dj kX6_minuteOf 144 (fun o => .goto o) 3 147 103 := ⟨-41, by decide +kernel, rfl, by decide⟩
theorem dX6_minuteOf_147 : Dk kX6_minuteOf 147 (.iload_n 1) 1 148 := ⟨by decide +kernel, rfl⟩
theorem dX6_minuteOf_148 : Dk kX6_minuteOf 148 (.ireturn) 1 149 := ⟨by decide +kernel, rfl⟩
theorem dX6_minute_0 : Dk kX6_minute 0 (.aload_n 0) 1 1 := ⟨by decide +kernel, rfl⟩
theorem dX6_minute_1 : Dk kX6_minute 1 (.getfield 79) 3 4 := ⟨by decide +kernel, rfl⟩
theorem dX6_minute_4 : Dk kX6_minute 4 (.sipush 9999) 3 7 := ⟨by decide +kernel, rfl⟩
theorem dX6_minute_7 : Dj kX6_minute 7 (fun o => .if_icmp .ne o) 3 10 15 := ⟨8, by decide +kernel, rfl, by decide⟩
theorem dX6_minute_10 : Dk kX6_minute 10 (.bipush (-3)) 2 12 := ⟨by decide +kernel, rfl⟩
theorem dX6_minute_12 : Dj kX6_minute 12 (fun o => .goto o) 3 15 19 := ⟨7, by decide +kernel, rfl, by decide⟩
theorem dX6_minute_15 : Dk kX6_minute 15 (.aload_n 0) 1 16 := ⟨by decide +kernel, rfl⟩
theorem dX6_minute_16 : Dk kX6_minute 16 (.invokevirtual 196) 3 19 := ⟨by decide +kernel, rfl⟩
theorem dX6_minute_19 : Dk kX6_minute 19 (.ireturn) 1 20 := ⟨by decide +kernel, rfl⟩
theorem dX6_behindAll_0 : Dk kX6_behindAll 0 (.iconst 0) 1 1 := ⟨by decide +kernel, rfl⟩
theorem dX6_behindAll_1 : Dk kX6_behindAll 1 (.istore_n 1) 1 2 := ⟨by decide +kernel, rfl⟩
theorem dX6_behindAll_2 : Dk kX6_behindAll 2 (.iconst 0) 1 3 := ⟨by decide +kernel, rfl⟩
theorem dX6_behindAll_3 : Dk kX6_behindAll 3 (.istore_n 2) 1 4 := ⟨by decide +kernel, rfl⟩
theorem dX6_behindAll_4 : Dk kX6_behindAll 4 (.iload_n 2) 1 5 := ⟨by decide +kernel, rfl⟩
theorem dX6_behindAll_5 : Dk kX6_behindAll 5 (.bipush 8) 2 7 := ⟨by decide +kernel, rfl⟩
theorem dX6_behindAll_7 : Dj kX6_behindAll 7 (fun o => .if_icmp .ge o) 3 10 27 := ⟨20, by decide +kernel, rfl, by decide⟩
theorem dX6_behindAll_10 : Dk kX6_behindAll 10 (.iload_n 1) 1 11 := ⟨by decide +kernel, rfl⟩
theorem dX6_behindAll_11 : Dk kX6_behindAll 11 (.aload_n 0) 1 12 := ⟨by decide +kernel, rfl⟩
theorem dX6_behindAll_12 : Dk kX6_behindAll 12 (.getfield 19) 3 15 := ⟨by decide +kernel, rfl⟩
theorem dX6_behindAll_15 : Dk kX6_behindAll 15 (.iconst 3) 1 16 := ⟨by decide +kernel, rfl⟩
theorem dX6_behindAll_16 : Dk kX6_behindAll 16 (.iload_n 2) 1 17 := ⟨by decide +kernel, rfl⟩
theorem dX6_behindAll_17 : Dk kX6_behindAll 17 (.imul) 1 18 := ⟨by decide +kernel, rfl⟩
theorem dX6_behindAll_18 : Dk kX6_behindAll 18 (.iaload) 1 19 := ⟨by decide +kernel, rfl⟩
theorem dX6_behindAll_19 : Dk kX6_behindAll 19 (.iadd) 1 20 := ⟨by decide +kernel, rfl⟩
theorem dX6_behindAll_20 : Dk kX6_behindAll 20 (.istore_n 1) 1 21 := ⟨by decide +kernel, rfl⟩
theorem dX6_behindAll_21 : Dk kX6_behindAll 21 (.iinc 2 1) 3 24 := ⟨by decide +kernel, rfl⟩
theorem dX6_behindAll_24 : Dj kX6_behindAll 24 (fun o => .goto o) 3 27 4 := ⟨-20, by decide +kernel, rfl, by decide⟩
theorem dX6_behindAll_27 : Dk kX6_behindAll 27 (.iload_n 1) 1 28 := ⟨by decide +kernel, rfl⟩
theorem dX6_behindAll_28 : Dk kX6_behindAll 28 (.ireturn) 1 29 := ⟨by decide +kernel, rfl⟩
theorem dX6_keeps_0 : Dk kX6_keeps 0 (.iconst 0) 1 1 := ⟨by decide +kernel, rfl⟩
theorem dX6_keeps_1 : Dk kX6_keeps 1 (.istore_n 1) 1 2 := ⟨by decide +kernel, rfl⟩
theorem dX6_keeps_2 : Dk kX6_keeps 2 (.iload_n 1) 1 3 := ⟨by decide +kernel, rfl⟩
theorem dX6_keeps_3 : Dk kX6_keeps 3 (.bipush 18) 2 5 := ⟨by decide +kernel, rfl⟩
theorem dX6_keeps_5 : Dj kX6_keeps 5 (fun o => .if_icmp .ge o) 3 8 26 := ⟨21, by decide +kernel, rfl, by decide⟩
theorem dX6_keeps_8 : Dk kX6_keeps 8 (.aload_n 0) 1 9 := ⟨by decide +kernel, rfl⟩
theorem dX6_keeps_9 : Dk kX6_keeps 9 (.getfield 61) 3 12 := ⟨by decide +kernel, rfl⟩
theorem dX6_keeps_12 : Dk kX6_keeps 12 (.iload_n 1) 1 13 := ⟨by decide +kernel, rfl⟩
theorem dX6_keeps_13 : Dk kX6_keeps 13 (.aload_n 0) 1 14 := ⟨by decide +kernel, rfl⟩
theorem dX6_keeps_14 : Dk kX6_keeps 14 (.getfield 16) 3 17 := ⟨by decide +kernel, rfl⟩
theorem dX6_keeps_17 : Dk kX6_keeps 17 (.iload_n 1) 1 18 := ⟨by decide +kernel, rfl⟩
theorem dX6_keeps_18 : Dk kX6_keeps 18 (.iaload) 1 19 := ⟨by decide +kernel, rfl⟩
theorem dX6_keeps_19 : Dk kX6_keeps 19 (.iastore) 1 20 := ⟨by decide +kernel, rfl⟩
theorem dX6_keeps_20 : Dk kX6_keeps 20 (.iinc 1 1) 3 23 := ⟨by decide +kernel, rfl⟩
theorem dX6_keeps_23 : Dj kX6_keeps 23 (fun o => .goto o) 3 26 2 := ⟨-21, by decide +kernel, rfl, by decide⟩
theorem dX6_keeps_26 : Dk kX6_keeps 26 (.iconst 0) 1 27 := ⟨by decide +kernel, rfl⟩
theorem dX6_keeps_27 : Dk kX6_keeps 27 (.istore_n 1) 1 28 := ⟨by decide +kernel, rfl⟩
theorem dX6_keeps_28 : Dk kX6_keeps 28 (.iload_n 1) 1 29 := ⟨by decide +kernel, rfl⟩
theorem dX6_keeps_29 : Dk kX6_keeps 29 (.bipush 24) 2 31 := ⟨by decide +kernel, rfl⟩
theorem dX6_keeps_31 : Dj kX6_keeps 31 (fun o => .if_icmp .ge o) 3 34 55 := ⟨24, by decide +kernel, rfl, by decide⟩
theorem dX6_keeps_34 : Dk kX6_keeps 34 (.aload_n 0) 1 35 := ⟨by decide +kernel, rfl⟩
theorem dX6_keeps_35 : Dk kX6_keeps 35 (.getfield 61) 3 38 := ⟨by decide +kernel, rfl⟩
theorem dX6_keeps_38 : Dk kX6_keeps 38 (.bipush 18) 2 40 := ⟨by decide +kernel, rfl⟩
theorem dX6_keeps_40 : Dk kX6_keeps 40 (.iload_n 1) 1 41 := ⟨by decide +kernel, rfl⟩
theorem dX6_keeps_41 : Dk kX6_keeps 41 (.iadd) 1 42 := ⟨by decide +kernel, rfl⟩
theorem dX6_keeps_42 : Dk kX6_keeps 42 (.aload_n 0) 1 43 := ⟨by decide +kernel, rfl⟩
theorem dX6_keeps_43 : Dk kX6_keeps 43 (.getfield 19) 3 46 := ⟨by decide +kernel, rfl⟩
theorem dX6_keeps_46 : Dk kX6_keeps 46 (.iload_n 1) 1 47 := ⟨by decide +kernel, rfl⟩
theorem dX6_keeps_47 : Dk kX6_keeps 47 (.iaload) 1 48 := ⟨by decide +kernel, rfl⟩
theorem dX6_keeps_48 : Dk kX6_keeps 48 (.iastore) 1 49 := ⟨by decide +kernel, rfl⟩
theorem dX6_keeps_49 : Dk kX6_keeps 49 (.iinc 1 1) 3 52 := ⟨by decide +kernel, rfl⟩
theorem dX6_keeps_52 : Dj kX6_keeps 52 (fun o => .goto o) 3 55 28 := ⟨-24, by decide +kernel, rfl, by decide⟩
theorem dX6_keeps_55 : Dk kX6_keeps 55 (.aload_n 0) 1 56 := ⟨by decide +kernel, rfl⟩
theorem dX6_keeps_56 : Dk kX6_keeps 56 (.getfield 61) 3 59 := ⟨by decide +kernel, rfl⟩
theorem dX6_keeps_59 : Dk kX6_keeps 59 (.bipush 42) 2 61 := ⟨by decide +kernel, rfl⟩
theorem dX6_keeps_61 : Dk kX6_keeps 61 (.aload_n 0) 1 62 := ⟨by decide +kernel, rfl⟩
theorem dX6_keeps_62 : Dk kX6_keeps 62 (.getfield 79) 3 65 := ⟨by decide +kernel, rfl⟩
theorem dX6_keeps_65 : Dk kX6_keeps 65 (.iastore) 1 66 := ⟨by decide +kernel, rfl⟩
theorem dX6_keeps_66 : Dk kX6_keeps 66 (.return_) 1 67 := ⟨by decide +kernel, rfl⟩
theorem dX6_lays_0 : Dk kX6_lays 0 (.iconst 0) 1 1 := ⟨by decide +kernel, rfl⟩
theorem dX6_lays_1 : Dk kX6_lays 1 (.istore_n 1) 1 2 := ⟨by decide +kernel, rfl⟩
theorem dX6_lays_2 : Dk kX6_lays 2 (.iload_n 1) 1 3 := ⟨by decide +kernel, rfl⟩
theorem dX6_lays_3 : Dk kX6_lays 3 (.bipush 18) 2 5 := ⟨by decide +kernel, rfl⟩
theorem dX6_lays_5 : Dj kX6_lays 5 (fun o => .if_icmp .ge o) 3 8 26 := ⟨21, by decide +kernel, rfl, by decide⟩
theorem dX6_lays_8 : Dk kX6_lays 8 (.aload_n 0) 1 9 := ⟨by decide +kernel, rfl⟩
theorem dX6_lays_9 : Dk kX6_lays 9 (.getfield 16) 3 12 := ⟨by decide +kernel, rfl⟩
theorem dX6_lays_12 : Dk kX6_lays 12 (.iload_n 1) 1 13 := ⟨by decide +kernel, rfl⟩
theorem dX6_lays_13 : Dk kX6_lays 13 (.aload_n 0) 1 14 := ⟨by decide +kernel, rfl⟩
theorem dX6_lays_14 : Dk kX6_lays 14 (.getfield 61) 3 17 := ⟨by decide +kernel, rfl⟩
theorem dX6_lays_17 : Dk kX6_lays 17 (.iload_n 1) 1 18 := ⟨by decide +kernel, rfl⟩
theorem dX6_lays_18 : Dk kX6_lays 18 (.iaload) 1 19 := ⟨by decide +kernel, rfl⟩
theorem dX6_lays_19 : Dk kX6_lays 19 (.iastore) 1 20 := ⟨by decide +kernel, rfl⟩
theorem dX6_lays_20 : Dk kX6_lays 20 (.iinc 1 1) 3 23 := ⟨by decide +kernel, rfl⟩
theorem dX6_lays_23 : Dj kX6_lays 23 (fun o => .goto o) 3 26 2 := ⟨-21, by decide +kernel, rfl, by decide⟩
theorem dX6_lays_26 : Dk kX6_lays 26 (.iconst 0) 1 27 := ⟨by decide +kernel, rfl⟩
theorem dX6_lays_27 : Dk kX6_lays 27 (.istore_n 1) 1 28 := ⟨by decide +kernel, rfl⟩
theorem dX6_lays_28 : Dk kX6_lays 28 (.iload_n 1) 1 29 := ⟨by decide +kernel, rfl⟩
theorem dX6_lays_29 : Dk kX6_lays 29 (.bipush 24) 2 31 := ⟨by decide +kernel, rfl⟩
theorem dX6_lays_31 : Dj kX6_lays 31 (fun o => .if_icmp .ge o) 3 34 55 := ⟨24, by decide +kernel, rfl, by decide⟩
theorem dX6_lays_34 : Dk kX6_lays 34 (.aload_n 0) 1 35 := ⟨by decide +kernel, rfl⟩
theorem dX6_lays_35 : Dk kX6_lays 35 (.getfield 19) 3 38 := ⟨by decide +kernel, rfl⟩
theorem dX6_lays_38 : Dk kX6_lays 38 (.iload_n 1) 1 39 := ⟨by decide +kernel, rfl⟩
theorem dX6_lays_39 : Dk kX6_lays 39 (.aload_n 0) 1 40 := ⟨by decide +kernel, rfl⟩
theorem dX6_lays_40 : Dk kX6_lays 40 (.getfield 61) 3 43 := ⟨by decide +kernel, rfl⟩
theorem dX6_lays_43 : Dk kX6_lays 43 (.bipush 18) 2 45 := ⟨by decide +kernel, rfl⟩
theorem dX6_lays_45 : Dk kX6_lays 45 (.iload_n 1) 1 46 := ⟨by decide +kernel, rfl⟩
theorem dX6_lays_46 : Dk kX6_lays 46 (.iadd) 1 47 := ⟨by decide +kernel, rfl⟩
theorem dX6_lays_47 : Dk kX6_lays 47 (.iaload) 1 48 := ⟨by decide +kernel, rfl⟩
theorem dX6_lays_48 : Dk kX6_lays 48 (.iastore) 1 49 := ⟨by decide +kernel, rfl⟩
theorem dX6_lays_49 : Dk kX6_lays 49 (.iinc 1 1) 3 52 := ⟨by decide +kernel, rfl⟩
theorem dX6_lays_52 : Dj kX6_lays 52 (fun o => .goto o) 3 55 28 := ⟨-24, by decide +kernel, rfl, by decide⟩
theorem dX6_lays_55 : Dk kX6_lays 55 (.aload_n 0) 1 56 := ⟨by decide +kernel, rfl⟩
theorem dX6_lays_56 : Dk kX6_lays 56 (.aload_n 0) 1 57 := ⟨by decide +kernel, rfl⟩
theorem dX6_lays_57 : Dk kX6_lays 57 (.getfield 61) 3 60 := ⟨by decide +kernel, rfl⟩
theorem dX6_lays_60 : Dk kX6_lays 60 (.bipush 42) 2 62 := ⟨by decide +kernel, rfl⟩
theorem dX6_lays_62 : Dk kX6_lays 62 (.iaload) 1 63 := ⟨by decide +kernel, rfl⟩
theorem dX6_lays_63 : Dk kX6_lays 63 (.putfield 79) 3 66 := ⟨by decide +kernel, rfl⟩
theorem dX6_lays_66 : Dk kX6_lays 66 (.return_) 1 67 := ⟨by decide +kernel, rfl⟩
theorem dX6_goes_0 : Dk kX6_goes 0 (.iconst 0) 1 1 := ⟨by decide +kernel, rfl⟩
theorem dX6_goes_1 : Dk kX6_goes 1 (.istore_n 2) 1 2 := ⟨by decide +kernel, rfl⟩
theorem dX6_goes_2 : Dk kX6_goes 2 (.iload_n 2) 1 3 := ⟨by decide +kernel, rfl⟩
theorem dX6_goes_3 : Dk kX6_goes 3 (.iload_n 1) 1 4 := ⟨by decide +kernel, rfl⟩
theorem dX6_goes_4 : Dj kX6_goes 4 (fun o => .if_icmp .ge o) 3 7 18 := ⟨14, by decide +kernel, rfl, by decide⟩
theorem dX6_goes_7 : Dk kX6_goes 7 (.aload_n 0) 1 8 := ⟨by decide +kernel, rfl⟩
theorem dX6_goes_8 : Dk kX6_goes 8 (.invokevirtual 196) 3 11 := ⟨by decide +kernel, rfl⟩
theorem dX6_goes_11 : Dk kX6_goes 11 (.pop) 1 12 := ⟨by decide +kernel, rfl⟩
theorem dX6_goes_12 : Dk kX6_goes 12 (.iinc 2 1) 3 15 := ⟨by decide +kernel, rfl⟩
theorem dX6_goes_15 : Dj kX6_goes 15 (fun o => .goto o) 3 18 2 := ⟨-13, by decide +kernel, rfl, by decide⟩
theorem dX6_goes_18 : Dk kX6_goes 18 (.return_) 1 19 := ⟨by decide +kernel, rfl⟩
theorem dX6_run_0 : Dk kX6_run 0 (.iload_n 2) 1 1 := ⟨by decide +kernel, rfl⟩
theorem dX6_run_1 : Dk kX6_run 1 (.bipush 10) 2 3 := ⟨by decide +kernel, rfl⟩
theorem dX6_run_3 : Dk kX6_run 3 (.irem) 1 4 := ⟨by decide +kernel, rfl⟩
theorem dX6_run_4 : Dk kX6_run 4 (.istore_n 3) 1 5 := ⟨by decide +kernel, rfl⟩
theorem dX6_run_5 : Dk kX6_run 5 (.iload_n 1) 1 6 := ⟨by decide +kernel, rfl⟩
theorem dX6_run_6 : Dk kX6_run 6 (.iconst 0) 1 7 := ⟨by decide +kernel, rfl⟩
theorem dX6_run_7 : Dk kX6_run 7 (.bipush 60) 2 9 := ⟨by decide +kernel, rfl⟩
theorem dX6_run_9 : Dk kX6_run 9 (.invokestatic 75) 3 12 := ⟨by decide +kernel, rfl⟩
theorem dX6_run_12 : Dj kX6_run 12 (fun o => .ifCond .eq o) 3 15 43 := ⟨31, by decide +kernel, rfl, by decide⟩
theorem dX6_run_15 : Dk kX6_run 15 (.iload_n 2) 1 16 := ⟨by decide +kernel, rfl⟩
theorem dX6_run_16 : Dk kX6_run 16 (.iconst 0) 1 17 := ⟨by decide +kernel, rfl⟩
theorem dX6_run_17 : Dk kX6_run 17 (.iconst 2) 1 18 := ⟨by decide +kernel, rfl⟩
theorem dX6_run_18 : Dk kX6_run 18 (.invokestatic 75) 3 21 := ⟨by decide +kernel, rfl⟩
theorem dX6_run_21 : Dj kX6_run 21 (fun o => .ifCond .ne o) 3 24 46 := ⟨25, by decide +kernel, rfl, by decide⟩
theorem dX6_run_24 : Dk kX6_run 24 (.iload_n 2) 1 25 := ⟨by decide +kernel, rfl⟩
theorem dX6_run_25 : Dk kX6_run 25 (.bipush 10) 2 27 := ⟨by decide +kernel, rfl⟩
theorem dX6_run_27 : Dk kX6_run 27 (.bipush 39) 2 29 := ⟨by decide +kernel, rfl⟩
theorem dX6_run_29 : Dk kX6_run 29 (.invokestatic 75) 3 32 := ⟨by decide +kernel, rfl⟩
theorem dX6_run_32 : Dj kX6_run 32 (fun o => .ifCond .eq o) 3 35 43 := ⟨11, by decide +kernel, rfl, by decide⟩
theorem dX6_run_35 : Dk kX6_run 35 (.aload_n 0) 1 36 := ⟨by decide +kernel, rfl⟩
theorem dX6_run_36 : Dk kX6_run 36 (.iload_n 3) 1 37 := ⟨by decide +kernel, rfl⟩
theorem dX6_run_37 : Dk kX6_run 37 (.invokevirtual 99) 3 40 := ⟨by decide +kernel, rfl⟩
theorem dX6_run_40 : Dj kX6_run 40 (fun o => .ifCond .ne o) 3 43 46 := ⟨6, by decide +kernel, rfl, by decide⟩
theorem dX6_run_43 : Dk kX6_run 43 (.bipush (-2)) 2 45 := ⟨by decide +kernel, rfl⟩
theorem dX6_run_45 : Dk kX6_run 45 (.ireturn) 1 46 := ⟨by decide +kernel, rfl⟩
theorem dX6_run_46 : Dk kX6_run 46 (.aload_n 0) 1 47 := ⟨by decide +kernel, rfl⟩
theorem dX6_run_47 : Dk kX6_run 47 (.invokevirtual 199) 3 50 := ⟨by decide +kernel, rfl⟩
theorem dX6_run_50 : Dk kX6_run 50 (.aload_n 0) 1 51 := ⟨by decide +kernel, rfl⟩
theorem dX6_run_51 : Dk kX6_run 51 (.iload_n 1) 1 52 := ⟨by decide +kernel, rfl⟩
theorem dX6_run_52 : Dk kX6_run 52 (.invokevirtual 202) 3 55 := ⟨by decide +kernel, rfl⟩
theorem dX6_run_55 : Dk kX6_run 55 (.iconst 0) 1 56 := ⟨by decide +kernel, rfl⟩
theorem dX6_run_56 : Dk kX6_run 56 (.istore 4) 2 58 := ⟨by decide +kernel, rfl⟩
theorem dX6_run_58 : Dk kX6_run 58 (.iload_n 2) 1 59 := ⟨by decide +kernel, rfl⟩
theorem dX6_run_59 : Dk kX6_run 59 (.bipush 10) 2 61 := ⟨by decide +kernel, rfl⟩
theorem dX6_run_61 : Dk kX6_run 61 (.idiv) 1 62 := ⟨by decide +kernel, rfl⟩
theorem dX6_run_62 : Dk kX6_run 62 (.lookupswitch 52 #[(0, 18)]) 18 80 := ⟨by decide +kernel, rfl⟩
theorem dX6_run_80 : Dk kX6_run 80 (.iload_n 2) 1 81 := ⟨by decide +kernel, rfl⟩
theorem dX6_run_81 : Dj kX6_run 81 (fun o => .ifCond .ne o) 3 84 92 := ⟨11, by decide +kernel, rfl, by decide⟩
theorem dX6_run_84 : Dk kX6_run 84 (.aload_n 0) 1 85 := ⟨by decide +kernel, rfl⟩
theorem dX6_run_85 : Dk kX6_run 85 (.iconst 2) 1 86 := ⟨by decide +kernel, rfl⟩
theorem dX6_run_86 : Dk kX6_run 86 (.invokevirtual 82) 3 89 := ⟨by decide +kernel, rfl⟩
theorem dX6_run_89 : Dj kX6_run 89 (fun o => .goto o) 3 92 109 := ⟨20, by decide +kernel, rfl, by decide⟩
theorem dX6_run_92 : Dk kX6_run 92 (.iload_n 2) 1 93 := ⟨by decide +kernel, rfl⟩
theorem dX6_run_93 : Dk kX6_run 93 (.iconst 1) 1 94 := ⟨by decide +kernel, rfl⟩
theorem dX6_run_94 : Dj kX6_run 94 (fun o => .if_icmp .ne o) 3 97 105 := ⟨11, by decide +kernel, rfl, by decide⟩
theorem dX6_run_97 : Dk kX6_run 97 (.aload_n 0) 1 98 := ⟨by decide +kernel, rfl⟩
theorem dX6_run_98 : Dk kX6_run 98 (.iconst 1) 1 99 := ⟨by decide +kernel, rfl⟩
theorem dX6_run_99 : Dk kX6_run 99 (.invokevirtual 82) 3 102 := ⟨by decide +kernel, rfl⟩
theorem dX6_run_102 : Dj kX6_run 102 (fun o => .goto o) 3 105 109 := ⟨7, by decide +kernel, rfl, by decide⟩
theorem dX6_run_105 : Dk kX6_run 105 (.aload_n 0) 1 106 := ⟨by decide +kernel, rfl⟩
theorem dX6_run_106 : Dk kX6_run 106 (.invokevirtual 205) 3 109 := ⟨by decide +kernel, rfl⟩
theorem dX6_run_109 : Dk kX6_run 109 (.istore 4) 2 111 := ⟨by decide +kernel, rfl⟩
theorem dX6_run_111 : Dj kX6_run 111 (fun o => .goto o) 3 114 131 := ⟨20, by decide +kernel, rfl, by decide⟩
theorem dX6_run_114 : Dk kX6_run 114 (.aload_n 0) 1 115 := ⟨by decide +kernel, rfl⟩
theorem dX6_run_115 : Dk kX6_run 115 (.getfield 16) 3 118 := ⟨by decide +kernel, rfl⟩
theorem dX6_run_118 : Dk kX6_run 118 (.iconst 3) 1 119 := ⟨by decide +kernel, rfl⟩
theorem dX6_run_119 : Dk kX6_run 119 (.iload_n 3) 1 120 := ⟨by decide +kernel, rfl⟩
theorem dX6_run_120 : Dk kX6_run 120 (.imul) 1 121 := ⟨by decide +kernel, rfl⟩
theorem dX6_run_121 : Dk kX6_run 121 (.iload_n 2) 1 122 := ⟨by decide +kernel, rfl⟩
theorem dX6_run_122 : Dk kX6_run 122 (.bipush 10) 2 124 := ⟨by decide +kernel, rfl⟩
theorem dX6_run_124 : Dk kX6_run 124 (.idiv) 1 125 := ⟨by decide +kernel, rfl⟩
theorem dX6_run_125 : Dk kX6_run 125 (.iadd) 1 126 := ⟨by decide +kernel, rfl⟩
theorem dX6_run_126 : Dk kX6_run 126 (.iconst 1) 1 127 := ⟨by decide +kernel, rfl⟩
theorem dX6_run_127 : Dk kX6_run 127 (.isub) 1 128 := ⟨by decide +kernel, rfl⟩
theorem dX6_run_128 : Dk kX6_run 128 (.iaload) 1 129 := ⟨by decide +kernel, rfl⟩
theorem dX6_run_129 : Dk kX6_run 129 (.istore 4) 2 131 := ⟨by decide +kernel, rfl⟩
theorem dX6_run_131 : Dk kX6_run 131 (.aload_n 0) 1 132 := ⟨by decide +kernel, rfl⟩
theorem dX6_run_132 : Dk kX6_run 132 (.invokevirtual 208) 3 135 := ⟨by decide +kernel, rfl⟩
theorem dX6_run_135 : Dk kX6_run 135 (.iload 4) 2 137 := ⟨by decide +kernel, rfl⟩
theorem dX6_run_137 : Dk kX6_run 137 (.ireturn) 1 138 := ⟨by decide +kernel, rfl⟩
theorem dX6_isAnyAlone_0 : Dk kX6_isAnyAlone 0 (.iconst 0) 1 1 := ⟨by decide +kernel, rfl⟩
theorem dX6_isAnyAlone_1 : Dk kX6_isAnyAlone 1 (.istore_n 1) 1 2 := ⟨by decide +kernel, rfl⟩
theorem dX6_isAnyAlone_2 : Dk kX6_isAnyAlone 2 (.iload_n 1) 1 3 := ⟨by decide +kernel, rfl⟩
theorem dX6_isAnyAlone_3 : Dk kX6_isAnyAlone 3 (.aload_n 0) 1 4 := ⟨by decide +kernel, rfl⟩
theorem dX6_isAnyAlone_4 : Dk kX6_isAnyAlone 4 (.getfield 72) 3 7 := ⟨by decide +kernel, rfl⟩
theorem dX6_isAnyAlone_7 : Dj kX6_isAnyAlone 7 (fun o => .if_icmp .ge o) 3 10 36 := ⟨29, by decide +kernel, rfl, by decide⟩
theorem dX6_isAnyAlone_10 : Dk kX6_isAnyAlone 10 (.aload_n 0) 1 11 := ⟨by decide +kernel, rfl⟩
theorem dX6_isAnyAlone_11 : Dk kX6_isAnyAlone 11 (.aload_n 0) 1 12 := ⟨by decide +kernel, rfl⟩
theorem dX6_isAnyAlone_12 : Dk kX6_isAnyAlone 12 (.getfield 16) 3 15 := ⟨by decide +kernel, rfl⟩
theorem dX6_isAnyAlone_15 : Dk kX6_isAnyAlone 15 (.iconst 3) 1 16 := ⟨by decide +kernel, rfl⟩
theorem dX6_isAnyAlone_16 : Dk kX6_isAnyAlone 16 (.iload_n 1) 1 17 := ⟨by decide +kernel, rfl⟩
theorem dX6_isAnyAlone_17 : Dk kX6_isAnyAlone 17 (.imul) 1 18 := ⟨by decide +kernel, rfl⟩
theorem dX6_isAnyAlone_18 : Dk kX6_isAnyAlone 18 (.iaload) 1 19 := ⟨by decide +kernel, rfl⟩
theorem dX6_isAnyAlone_19 : Dk kX6_isAnyAlone 19 (.invokevirtual 102) 3 22 := ⟨by decide +kernel, rfl⟩
theorem dX6_isAnyAlone_22 : Dk kX6_isAnyAlone 22 (.iconst 1) 1 23 := ⟨by decide +kernel, rfl⟩
theorem dX6_isAnyAlone_23 : Dk kX6_isAnyAlone 23 (.iload_n 1) 1 24 := ⟨by decide +kernel, rfl⟩
theorem dX6_isAnyAlone_24 : Dk kX6_isAnyAlone 24 (.ishl) 1 25 := ⟨by decide +kernel, rfl⟩
theorem dX6_isAnyAlone_25 : Dj kX6_isAnyAlone 25 (fun o => .if_icmp .ne o) 3 28 30 := ⟨5, by decide +kernel, rfl, by decide⟩
theorem dX6_isAnyAlone_28 : Dk kX6_isAnyAlone 28 (.iconst 1) 1 29 := ⟨by decide +kernel, rfl⟩
theorem dX6_isAnyAlone_29 : Dk kX6_isAnyAlone 29 (.ireturn) 1 30 := ⟨by decide +kernel, rfl⟩
theorem dX6_isAnyAlone_30 : Dk kX6_isAnyAlone 30 (.iinc 1 1) 3 33 := ⟨by decide +kernel, rfl⟩
theorem dX6_isAnyAlone_33 : Dj kX6_isAnyAlone 33 (fun o => .goto o) 3 36 2 := ⟨-31, by decide +kernel, rfl, by decide⟩
theorem dX6_isAnyAlone_36 : Dk kX6_isAnyAlone 36 (.iconst 0) 1 37 := ⟨by decide +kernel, rfl⟩
theorem dX6_isAnyAlone_37 : Dk kX6_isAnyAlone 37 (.ireturn) 1 38 := ⟨by decide +kernel, rfl⟩
theorem dX6_when_0 : Dk kX6_when 0 (.iload_n 1) 1 1 := ⟨by decide +kernel, rfl⟩
theorem dX6_when_1 : Dk kX6_when 1 (.iconst 0) 1 2 := ⟨by decide +kernel, rfl⟩
theorem dX6_when_2 : Dk kX6_when 2 (.bipush 9) 2 4 := ⟨by decide +kernel, rfl⟩
theorem dX6_when_4 : Dk kX6_when 4 (.invokestatic 75) 3 7 := ⟨by decide +kernel, rfl⟩
theorem dX6_when_7 : Dj kX6_when 7 (fun o => .ifCond .ne o) 3 10 13 := ⟨6, by decide +kernel, rfl, by decide⟩
theorem dX6_when_10 : Dk kX6_when 10 (.bipush (-7)) 2 12 := ⟨by decide +kernel, rfl⟩
theorem dX6_when_12 : Dk kX6_when 12 (.ireturn) 1 13 := ⟨by decide +kernel, rfl⟩
theorem dX6_when_13 : Dk kX6_when 13 (.iconst (-1)) 1 14 := ⟨by decide +kernel, rfl⟩
theorem dX6_when_14 : Dk kX6_when 14 (.istore_n 2) 1 15 := ⟨by decide +kernel, rfl⟩
theorem dX6_when_15 : Dk kX6_when 15 (.aload_n 0) 1 16 := ⟨by decide +kernel, rfl⟩
theorem dX6_when_16 : Dk kX6_when 16 (.invokevirtual 199) 3 19 := ⟨by decide +kernel, rfl⟩
theorem dX6_when_19 : Dk kX6_when 19 (.iconst 0) 1 20 := ⟨by decide +kernel, rfl⟩
theorem dX6_when_20 : Dk kX6_when 20 (.istore_n 3) 1 21 := ⟨by decide +kernel, rfl⟩
theorem dX6_when_21 : Dk kX6_when 21 (.iload_n 3) 1 22 := ⟨by decide +kernel, rfl⟩
theorem dX6_when_22 : Dk kX6_when 22 (.bipush 60) 2 24 := ⟨by decide +kernel, rfl⟩
theorem dX6_when_24 : Dj kX6_when 24 (fun o => .if_icmp .gt o) 3 27 120 := ⟨96, by decide +kernel, rfl, by decide⟩
theorem dX6_when_27 : Dk kX6_when 27 (.iload_n 2) 1 28 := ⟨by decide +kernel, rfl⟩
theorem dX6_when_28 : Dk kX6_when 28 (.iconst (-1)) 1 29 := ⟨by decide +kernel, rfl⟩
theorem dX6_when_29 : Dj kX6_when 29 (fun o => .if_icmp .ne o) 3 32 120 := ⟨91, by decide +kernel, rfl, by decide⟩
theorem dX6_when_32 : Dk kX6_when 32 (.iload_n 1) 1 33 := ⟨by decide +kernel, rfl⟩
theorem dX6_when_33 : Dk kX6_when 33 (.bipush 9) 2 35 := ⟨by decide +kernel, rfl⟩
theorem dX6_when_35 : Dj kX6_when 35 (fun o => .if_icmp .ne o) 3 38 53 := ⟨18, by decide +kernel, rfl, by decide⟩
theorem dX6_when_38 : Dk kX6_when 38 (.aload_n 0) 1 39 := ⟨by decide +kernel, rfl⟩
theorem dX6_when_39 : Dk kX6_when 39 (.invokevirtual 211) 3 42 := ⟨by decide +kernel, rfl⟩
theorem dX6_when_42 : Dj kX6_when 42 (fun o => .ifCond .ne o) 3 45 49 := ⟨7, by decide +kernel, rfl, by decide⟩
theorem dX6_when_45 : Dk kX6_when 45 (.iconst 1) 1 46 := ⟨by decide +kernel, rfl⟩
theorem dX6_when_46 : Dj kX6_when 46 (fun o => .goto o) 3 49 96 := ⟨50, by decide +kernel, rfl, by decide⟩
theorem dX6_when_49 : Dk kX6_when 49 (.iconst 0) 1 50 := ⟨by decide +kernel, rfl⟩
theorem dX6_when_50 : Dj kX6_when 50 (fun o => .goto o) 3 53 96 := ⟨46, by decide +kernel, rfl, by decide⟩
theorem dX6_when_53 : Dk kX6_when 53 (.iload_n 1) 1 54 := ⟨by decide +kernel, rfl⟩
theorem dX6_when_54 : Dk kX6_when 54 (.bipush 8) 2 56 := ⟨by decide +kernel, rfl⟩
theorem dX6_when_56 : Dj kX6_when 56 (fun o => .if_icmp .ne o) 3 59 78 := ⟨22, by decide +kernel, rfl, by decide⟩
theorem dX6_when_59 : Dk kX6_when 59 (.aload_n 0) 1 60 := ⟨by decide +kernel, rfl⟩
theorem dX6_when_60 : Dk kX6_when 60 (.iconst 2) 1 61 := ⟨by decide +kernel, rfl⟩
theorem dX6_when_61 : Dk kX6_when 61 (.invokevirtual 82) 3 64 := ⟨by decide +kernel, rfl⟩
theorem dX6_when_64 : Dk kX6_when 64 (.sipush 255) 3 67 := ⟨by decide +kernel, rfl⟩
theorem dX6_when_67 : Dj kX6_when 67 (fun o => .if_icmp .ne o) 3 70 74 := ⟨7, by decide +kernel, rfl, by decide⟩
theorem dX6_when_70 : Dk kX6_when 70 (.iconst 1) 1 71 := ⟨by decide +kernel, rfl⟩
theorem dX6_when_71 : Dj kX6_when 71 (fun o => .goto o) 3 74 96 := ⟨25, by decide +kernel, rfl, by decide⟩
theorem dX6_when_74 : Dk kX6_when 74 (.iconst 0) 1 75 := ⟨by decide +kernel, rfl⟩
theorem dX6_when_75 : Dj kX6_when 75 (fun o => .goto o) 3 78 96 := ⟨21, by decide +kernel, rfl, by decide⟩
theorem dX6_when_78 : Dk kX6_when 78 (.aload_n 0) 1 79 := ⟨by decide +kernel, rfl⟩
theorem dX6_when_79 : Dk kX6_when 79 (.iconst 2) 1 80 := ⟨by decide +kernel, rfl⟩
theorem dX6_when_80 : Dk kX6_when 80 (.invokevirtual 82) 3 83 := ⟨by decide +kernel, rfl⟩
theorem dX6_when_83 : Dk kX6_when 83 (.iload_n 1) 1 84 := ⟨by decide +kernel, rfl⟩
theorem dX6_when_84 : Dk kX6_when 84 (.ishr) 1 85 := ⟨by decide +kernel, rfl⟩
theorem dX6_when_85 : Dk kX6_when 85 (.iconst 1) 1 86 := ⟨by decide +kernel, rfl⟩
theorem dX6_when_86 : Dk kX6_when 86 (.iand) 1 87 := ⟨by decide +kernel, rfl⟩
theorem dX6_when_87 : Dk kX6_when 87 (.iconst 1) 1 88 := ⟨by decide +kernel, rfl⟩
theorem dX6_when_88 : Dj kX6_when 88 (fun o => .if_icmp .ne o) 3 91 95 := ⟨7, by decide +kernel, rfl, by decide⟩
theorem dX6_when_91 : Dk kX6_when 91 (.iconst 1) 1 92 := ⟨by decide +kernel, rfl⟩
theorem dX6_when_92 : Dj kX6_when 92 (fun o => .goto o) 3 95 96 := ⟨4, by decide +kernel, rfl, by decide⟩
theorem dX6_when_95 : Dk kX6_when 95 (.iconst 0) 1 96 := ⟨by decide +kernel, rfl⟩
theorem dX6_when_96 : Dk kX6_when 96 (.istore 4) 2 98 := ⟨by decide +kernel, rfl⟩
theorem dX6_when_98 : Dk kX6_when 98 (.iload 4) 2 100 := ⟨by decide +kernel, rfl⟩
theorem dX6_when_100 : Dj kX6_when 100 (fun o => .ifCond .eq o) 3 103 107 := ⟨7, by decide +kernel, rfl, by decide⟩
theorem dX6_when_103 : Dk kX6_when 103 (.iload_n 3) 1 104 := ⟨by decide +kernel, rfl⟩
theorem dX6_when_104 : Dj kX6_when 104 (fun o => .goto o) 3 107 108 := ⟨4, by decide +kernel, rfl, by decide⟩
theorem dX6_when_107 : Dk kX6_when 107 (.iconst (-1)) 1 108 := ⟨by decide +kernel, rfl⟩
theorem dX6_when_108 : Dk kX6_when 108 (.istore_n 2) 1 109 := ⟨by decide +kernel, rfl⟩
theorem dX6_when_109 : Dk kX6_when 109 (.aload_n 0) 1 110 := ⟨by decide +kernel, rfl⟩
theorem dX6_when_110 : Dk kX6_when 110 (.invokevirtual 196) 3 113 := ⟨by decide +kernel, rfl⟩
theorem dX6_when_113 : Dk kX6_when 113 (.pop) 1 114 := ⟨by decide +kernel, rfl⟩
theorem dX6_when_114 : Dk kX6_when 114 (.iinc 3 1) 3 117 := ⟨by decide +kernel, rfl⟩
theorem dX6_when_117 : Dj kX6_when 117 (fun o => .goto o) 3 120 21 := ⟨-96, by decide +kernel, rfl, by decide⟩
theorem dX6_when_120 : Dk kX6_when 120 (.aload_n 0) 1 121 := ⟨by decide +kernel, rfl⟩
theorem dX6_when_121 : Dk kX6_when 121 (.invokevirtual 208) 3 124 := ⟨by decide +kernel, rfl⟩
theorem dX6_when_124 : Dk kX6_when 124 (.iload_n 2) 1 125 := ⟨by decide +kernel, rfl⟩
theorem dX6_when_125 : Dk kX6_when 125 (.ireturn) 1 126 := ⟨by decide +kernel, rfl⟩
theorem dX6_waits_0 : Dk kX6_waits 0 (.aload_n 0) 1 1 := ⟨by decide +kernel, rfl⟩
theorem dX6_waits_1 : Dk kX6_waits 1 (.iload_n 1) 1 2 := ⟨by decide +kernel, rfl⟩
theorem dX6_waits_2 : Dk kX6_waits 2 (.invokevirtual 99) 3 5 := ⟨by decide +kernel, rfl⟩
theorem dX6_waits_5 : Dj kX6_waits 5 (fun o => .ifCond .ne o) 3 8 11 := ⟨6, by decide +kernel, rfl, by decide⟩
theorem dX6_waits_8 : Dk kX6_waits 8 (.bipush (-5)) 2 10 := ⟨by decide +kernel, rfl⟩
theorem dX6_waits_10 : Dk kX6_waits 10 (.ireturn) 1 11 := ⟨by decide +kernel, rfl⟩
theorem dX6_waits_11 : Dk kX6_waits 11 (.iconst (-1)) 1 12 := ⟨by decide +kernel, rfl⟩
theorem dX6_waits_12 : Dk kX6_waits 12 (.istore_n 2) 1 13 := ⟨by decide +kernel, rfl⟩
theorem dX6_waits_13 : Dk kX6_waits 13 (.aload_n 0) 1 14 := ⟨by decide +kernel, rfl⟩
theorem dX6_waits_14 : Dk kX6_waits 14 (.invokevirtual 199) 3 17 := ⟨by decide +kernel, rfl⟩
theorem dX6_waits_17 : Dk kX6_waits 17 (.iconst 1) 1 18 := ⟨by decide +kernel, rfl⟩
theorem dX6_waits_18 : Dk kX6_waits 18 (.istore_n 3) 1 19 := ⟨by decide +kernel, rfl⟩
theorem dX6_waits_19 : Dk kX6_waits 19 (.iload_n 3) 1 20 := ⟨by decide +kernel, rfl⟩
theorem dX6_waits_20 : Dk kX6_waits 20 (.bipush 60) 2 22 := ⟨by decide +kernel, rfl⟩
theorem dX6_waits_22 : Dj kX6_waits 22 (fun o => .if_icmp .gt o) 3 25 54 := ⟨32, by decide +kernel, rfl, by decide⟩
theorem dX6_waits_25 : Dk kX6_waits 25 (.iload_n 2) 1 26 := ⟨by decide +kernel, rfl⟩
theorem dX6_waits_26 : Dk kX6_waits 26 (.iconst (-1)) 1 27 := ⟨by decide +kernel, rfl⟩
theorem dX6_waits_27 : Dj kX6_waits 27 (fun o => .if_icmp .ne o) 3 30 54 := ⟨27, by decide +kernel, rfl, by decide⟩
theorem dX6_waits_30 : Dk kX6_waits 30 (.aload_n 0) 1 31 := ⟨by decide +kernel, rfl⟩
theorem dX6_waits_31 : Dk kX6_waits 31 (.invokevirtual 196) 3 34 := ⟨by decide +kernel, rfl⟩
theorem dX6_waits_34 : Dk kX6_waits 34 (.iload_n 1) 1 35 := ⟨by decide +kernel, rfl⟩
theorem dX6_waits_35 : Dk kX6_waits 35 (.ishr) 1 36 := ⟨by decide +kernel, rfl⟩
theorem dX6_waits_36 : Dk kX6_waits 36 (.iconst 1) 1 37 := ⟨by decide +kernel, rfl⟩
theorem dX6_waits_37 : Dk kX6_waits 37 (.iand) 1 38 := ⟨by decide +kernel, rfl⟩
theorem dX6_waits_38 : Dk kX6_waits 38 (.iconst 1) 1 39 := ⟨by decide +kernel, rfl⟩
theorem dX6_waits_39 : Dj kX6_waits 39 (fun o => .if_icmp .ne o) 3 42 46 := ⟨7, by decide +kernel, rfl, by decide⟩
theorem dX6_waits_42 : Dk kX6_waits 42 (.iload_n 3) 1 43 := ⟨by decide +kernel, rfl⟩
theorem dX6_waits_43 : Dj kX6_waits 43 (fun o => .goto o) 3 46 47 := ⟨4, by decide +kernel, rfl, by decide⟩
theorem dX6_waits_46 : Dk kX6_waits 46 (.iconst (-1)) 1 47 := ⟨by decide +kernel, rfl⟩
theorem dX6_waits_47 : Dk kX6_waits 47 (.istore_n 2) 1 48 := ⟨by decide +kernel, rfl⟩
theorem dX6_waits_48 : Dk kX6_waits 48 (.iinc 3 1) 3 51 := ⟨by decide +kernel, rfl⟩
theorem dX6_waits_51 : Dj kX6_waits 51 (fun o => .goto o) 3 54 19 := ⟨-32, by decide +kernel, rfl, by decide⟩
theorem dX6_waits_54 : Dk kX6_waits 54 (.aload_n 0) 1 55 := ⟨by decide +kernel, rfl⟩
theorem dX6_waits_55 : Dk kX6_waits 55 (.invokevirtual 208) 3 58 := ⟨by decide +kernel, rfl⟩
theorem dX6_waits_58 : Dk kX6_waits 58 (.iload_n 2) 1 59 := ⟨by decide +kernel, rfl⟩
theorem dX6_waits_59 : Dk kX6_waits 59 (.ireturn) 1 60 := ⟨by decide +kernel, rfl⟩
theorem dX6_pair_0 : Dk kX6_pair 0 (.iload_n 1) 1 1 := ⟨by decide +kernel, rfl⟩
theorem dX6_pair_1 : Dk kX6_pair 1 (.iconst 0) 1 2 := ⟨by decide +kernel, rfl⟩
theorem dX6_pair_2 : Dk kX6_pair 2 (.iconst 1) 1 3 := ⟨by decide +kernel, rfl⟩
theorem dX6_pair_3 : Dk kX6_pair 3 (.invokestatic 75) 3 6 := ⟨by decide +kernel, rfl⟩
theorem dX6_pair_6 : Dj kX6_pair 6 (fun o => .ifCond .ne o) 3 9 12 := ⟨6, by decide +kernel, rfl, by decide⟩
theorem dX6_pair_9 : Dk kX6_pair 9 (.bipush (-2)) 2 11 := ⟨by decide +kernel, rfl⟩
theorem dX6_pair_11 : Dk kX6_pair 11 (.ireturn) 1 12 := ⟨by decide +kernel, rfl⟩
theorem dX6_pair_12 : Dk kX6_pair 12 (.iconst (-1)) 1 13 := ⟨by decide +kernel, rfl⟩
theorem dX6_pair_13 : Dk kX6_pair 13 (.istore_n 2) 1 14 := ⟨by decide +kernel, rfl⟩
theorem dX6_pair_14 : Dk kX6_pair 14 (.iconst (-1)) 1 15 := ⟨by decide +kernel, rfl⟩
theorem dX6_pair_15 : Dk kX6_pair 15 (.istore_n 3) 1 16 := ⟨by decide +kernel, rfl⟩
theorem dX6_pair_16 : Dk kX6_pair 16 (.aload_n 0) 1 17 := ⟨by decide +kernel, rfl⟩
theorem dX6_pair_17 : Dk kX6_pair 17 (.invokevirtual 199) 3 20 := ⟨by decide +kernel, rfl⟩
theorem dX6_pair_20 : Dk kX6_pair 20 (.iconst 0) 1 21 := ⟨by decide +kernel, rfl⟩
theorem dX6_pair_21 : Dk kX6_pair 21 (.istore 4) 2 23 := ⟨by decide +kernel, rfl⟩
theorem dX6_pair_23 : Dk kX6_pair 23 (.iload 4) 2 25 := ⟨by decide +kernel, rfl⟩
theorem dX6_pair_25 : Dk kX6_pair 25 (.aload_n 0) 1 26 := ⟨by decide +kernel, rfl⟩
theorem dX6_pair_26 : Dk kX6_pair 26 (.getfield 72) 3 29 := ⟨by decide +kernel, rfl⟩
theorem dX6_pair_29 : Dj kX6_pair 29 (fun o => .if_icmp .ge o) 3 32 152 := ⟨123, by decide +kernel, rfl, by decide⟩
theorem dX6_pair_32 : Dk kX6_pair 32 (.iconst 0) 1 33 := ⟨by decide +kernel, rfl⟩
theorem dX6_pair_33 : Dk kX6_pair 33 (.istore 5) 2 35 := ⟨by decide +kernel, rfl⟩
theorem dX6_pair_35 : Dk kX6_pair 35 (.iload 5) 2 37 := ⟨by decide +kernel, rfl⟩
theorem dX6_pair_37 : Dk kX6_pair 37 (.aload_n 0) 1 38 := ⟨by decide +kernel, rfl⟩
theorem dX6_pair_38 : Dk kX6_pair 38 (.getfield 72) 3 41 := ⟨by decide +kernel, rfl⟩
theorem dX6_pair_41 : Dj kX6_pair 41 (fun o => .if_icmp .ge o) 3 44 146 := ⟨105, by decide +kernel, rfl, by decide⟩
theorem dX6_pair_44 : Dk kX6_pair 44 (.iconst 0) 1 45 := ⟨by decide +kernel, rfl⟩
theorem dX6_pair_45 : Dk kX6_pair 45 (.istore 6) 2 47 := ⟨by decide +kernel, rfl⟩
theorem dX6_pair_47 : Dk kX6_pair 47 (.iload 6) 2 49 := ⟨by decide +kernel, rfl⟩
theorem dX6_pair_49 : Dk kX6_pair 49 (.bipush 8) 2 51 := ⟨by decide +kernel, rfl⟩
theorem dX6_pair_51 : Dj kX6_pair 51 (fun o => .if_icmp .ge o) 3 54 140 := ⟨89, by decide +kernel, rfl, by decide⟩
theorem dX6_pair_54 : Dk kX6_pair 54 (.iload 4) 2 56 := ⟨by decide +kernel, rfl⟩
theorem dX6_pair_56 : Dk kX6_pair 56 (.iload 5) 2 58 := ⟨by decide +kernel, rfl⟩
theorem dX6_pair_58 : Dj kX6_pair 58 (fun o => .if_icmp .eq o) 3 61 140 := ⟨82, by decide +kernel, rfl, by decide⟩
theorem dX6_pair_61 : Dk kX6_pair 61 (.aload_n 0) 1 62 := ⟨by decide +kernel, rfl⟩
theorem dX6_pair_62 : Dk kX6_pair 62 (.iload 4) 2 64 := ⟨by decide +kernel, rfl⟩
theorem dX6_pair_64 : Dk kX6_pair 64 (.iload 6) 2 66 := ⟨by decide +kernel, rfl⟩
theorem dX6_pair_66 : Dk kX6_pair 66 (.invokevirtual 193) 3 69 := ⟨by decide +kernel, rfl⟩
theorem dX6_pair_69 : Dk kX6_pair 69 (.pop) 1 70 := ⟨by decide +kernel, rfl⟩
theorem dX6_pair_70 : Dk kX6_pair 70 (.aload_n 0) 1 71 := ⟨by decide +kernel, rfl⟩
theorem dX6_pair_71 : Dk kX6_pair 71 (.iload 5) 2 73 := ⟨by decide +kernel, rfl⟩
theorem dX6_pair_73 : Dk kX6_pair 73 (.iload 6) 2 75 := ⟨by decide +kernel, rfl⟩
theorem dX6_pair_75 : Dk kX6_pair 75 (.invokevirtual 193) 3 78 := ⟨by decide +kernel, rfl⟩
theorem dX6_pair_78 : Dk kX6_pair 78 (.pop) 1 79 := ⟨by decide +kernel, rfl⟩
theorem dX6_pair_79 : Dk kX6_pair 79 (.aload_n 0) 1 80 := ⟨by decide +kernel, rfl⟩
theorem dX6_pair_80 : Dk kX6_pair 80 (.getfield 16) 3 83 := ⟨by decide +kernel, rfl⟩
theorem dX6_pair_83 : Dk kX6_pair 83 (.iconst 3) 1 84 := ⟨by decide +kernel, rfl⟩
theorem dX6_pair_84 : Dk kX6_pair 84 (.iload 5) 2 86 := ⟨by decide +kernel, rfl⟩
theorem dX6_pair_86 : Dk kX6_pair 86 (.imul) 1 87 := ⟨by decide +kernel, rfl⟩
theorem dX6_pair_87 : Dk kX6_pair 87 (.iconst 1) 1 88 := ⟨by decide +kernel, rfl⟩
theorem dX6_pair_88 : Dk kX6_pair 88 (.iadd) 1 89 := ⟨by decide +kernel, rfl⟩
theorem dX6_pair_89 : Dk kX6_pair 89 (.iaload) 1 90 := ⟨by decide +kernel, rfl⟩
theorem dX6_pair_90 : Dk kX6_pair 90 (.istore 7) 2 92 := ⟨by decide +kernel, rfl⟩
theorem dX6_pair_92 : Dk kX6_pair 92 (.aload_n 0) 1 93 := ⟨by decide +kernel, rfl⟩
theorem dX6_pair_93 : Dk kX6_pair 93 (.invokevirtual 208) 3 96 := ⟨by decide +kernel, rfl⟩
theorem dX6_pair_96 : Dk kX6_pair 96 (.iload 7) 2 98 := ⟨by decide +kernel, rfl⟩
theorem dX6_pair_98 : Dk kX6_pair 98 (.iload_n 3) 1 99 := ⟨by decide +kernel, rfl⟩
theorem dX6_pair_99 : Dj kX6_pair 99 (fun o => .if_icmp .le o) 3 102 119 := ⟨20, by decide +kernel, rfl, by decide⟩
theorem dX6_pair_102 : Dk kX6_pair 102 (.bipush 100) 2 104 := ⟨by decide +kernel, rfl⟩
theorem dX6_pair_104 : Dk kX6_pair 104 (.iload 4) 2 106 := ⟨by decide +kernel, rfl⟩
theorem dX6_pair_106 : Dk kX6_pair 106 (.imul) 1 107 := ⟨by decide +kernel, rfl⟩
theorem dX6_pair_107 : Dk kX6_pair 107 (.bipush 10) 2 109 := ⟨by decide +kernel, rfl⟩
theorem dX6_pair_109 : Dk kX6_pair 109 (.iload 5) 2 111 := ⟨by decide +kernel, rfl⟩
theorem dX6_pair_111 : Dk kX6_pair 111 (.imul) 1 112 := ⟨by decide +kernel, rfl⟩
theorem dX6_pair_112 : Dk kX6_pair 112 (.iadd) 1 113 := ⟨by decide +kernel, rfl⟩
theorem dX6_pair_113 : Dk kX6_pair 113 (.iload 6) 2 115 := ⟨by decide +kernel, rfl⟩
theorem dX6_pair_115 : Dk kX6_pair 115 (.iadd) 1 116 := ⟨by decide +kernel, rfl⟩
theorem dX6_pair_116 : Dj kX6_pair 116 (fun o => .goto o) 3 119 120 := ⟨4, by decide +kernel, rfl, by decide⟩
theorem dX6_pair_119 : Dk kX6_pair 119 (.iload_n 2) 1 120 := ⟨by decide +kernel, rfl⟩
theorem dX6_pair_120 : Dk kX6_pair 120 (.istore_n 2) 1 121 := ⟨by decide +kernel, rfl⟩
theorem dX6_pair_121 : Dk kX6_pair 121 (.iload 7) 2 123 := ⟨by decide +kernel, rfl⟩
theorem dX6_pair_123 : Dk kX6_pair 123 (.iload_n 3) 1 124 := ⟨by decide +kernel, rfl⟩
theorem dX6_pair_124 : Dj kX6_pair 124 (fun o => .if_icmp .le o) 3 127 132 := ⟨8, by decide +kernel, rfl, by decide⟩
theorem dX6_pair_127 : Dk kX6_pair 127 (.iload 7) 2 129 := ⟨by decide +kernel, rfl⟩
theorem dX6_pair_129 : Dj kX6_pair 129 (fun o => .goto o) 3 132 133 := ⟨4, by decide +kernel, rfl, by decide⟩
theorem dX6_pair_132 : Dk kX6_pair 132 (.iload_n 3) 1 133 := ⟨by decide +kernel, rfl⟩
theorem dX6_pair_133 : Dk kX6_pair 133 (.istore_n 3) 1 134 := ⟨by decide +kernel, rfl⟩
theorem dX6_pair_134 : Dk kX6_pair 134 (.iinc 6 1) 3 137 := ⟨by decide +kernel, rfl⟩
theorem dX6_pair_137 : Dj kX6_pair 137 (fun o => .goto o) 3 140 47 := ⟨-90, by decide +kernel, rfl, by decide⟩
theorem dX6_pair_140 : Dk kX6_pair 140 (.iinc 5 1) 3 143 := ⟨by decide +kernel, rfl⟩
theorem dX6_pair_143 : Dj kX6_pair 143 (fun o => .goto o) 3 146 35 := ⟨-108, by decide +kernel, rfl, by decide⟩
theorem dX6_pair_146 : Dk kX6_pair 146 (.iinc 4 1) 3 149 := ⟨by decide +kernel, rfl⟩
theorem dX6_pair_149 : Dj kX6_pair 149 (fun o => .goto o) 3 152 23 := ⟨-126, by decide +kernel, rfl, by decide⟩
theorem dX6_pair_152 : Dk kX6_pair 152 (.iload_n 1) 1 153 := ⟨by decide +kernel, rfl⟩
theorem dX6_pair_153 : Dj kX6_pair 153 (fun o => .ifCond .ne o) 3 156 160 := ⟨7, by decide +kernel, rfl, by decide⟩
theorem dX6_pair_156 : Dk kX6_pair 156 (.iload_n 2) 1 157 := ⟨by decide +kernel, rfl⟩
theorem dX6_pair_157 : Dj kX6_pair 157 (fun o => .goto o) 3 160 161 := ⟨4, by decide +kernel, rfl, by decide⟩
theorem dX6_pair_160 : Dk kX6_pair 160 (.iload_n 3) 1 161 := ⟨by decide +kernel, rfl⟩
theorem dX6_pair_161 : Dk kX6_pair 161 (.ireturn) 1 162 := ⟨by decide +kernel, rfl⟩
theorem dX6_stand_0 : Dk kX6_stand 0 (.aload_n 0) 1 1 := ⟨by decide +kernel, rfl⟩
theorem dX6_stand_1 : Dk kX6_stand 1 (.iload_n 1) 1 2 := ⟨by decide +kernel, rfl⟩
theorem dX6_stand_2 : Dk kX6_stand 2 (.invokevirtual 99) 3 5 := ⟨by decide +kernel, rfl⟩
theorem dX6_stand_5 : Dj kX6_stand 5 (fun o => .ifCond .ne o) 3 8 11 := ⟨6, by decide +kernel, rfl, by decide⟩
theorem dX6_stand_8 : Dk kX6_stand 8 (.bipush (-5)) 2 10 := ⟨by decide +kernel, rfl⟩
theorem dX6_stand_10 : Dk kX6_stand 10 (.ireturn) 1 11 := ⟨by decide +kernel, rfl⟩
theorem dX6_stand_11 : Dk kX6_stand 11 (.iload_n 2) 1 12 := ⟨by decide +kernel, rfl⟩
theorem dX6_stand_12 : Dk kX6_stand 12 (.iconst 0) 1 13 := ⟨by decide +kernel, rfl⟩
theorem dX6_stand_13 : Dk kX6_stand 13 (.bipush 40) 2 15 := ⟨by decide +kernel, rfl⟩
theorem dX6_stand_15 : Dk kX6_stand 15 (.invokestatic 75) 3 18 := ⟨by decide +kernel, rfl⟩
theorem dX6_stand_18 : Dj kX6_stand 18 (fun o => .ifCond .eq o) 3 21 30 := ⟨12, by decide +kernel, rfl, by decide⟩
theorem dX6_stand_21 : Dk kX6_stand 21 (.iload_n 3) 1 22 := ⟨by decide +kernel, rfl⟩
theorem dX6_stand_22 : Dk kX6_stand 22 (.iconst 0) 1 23 := ⟨by decide +kernel, rfl⟩
theorem dX6_stand_23 : Dk kX6_stand 23 (.iconst 1) 1 24 := ⟨by decide +kernel, rfl⟩
theorem dX6_stand_24 : Dk kX6_stand 24 (.invokestatic 75) 3 27 := ⟨by decide +kernel, rfl⟩
theorem dX6_stand_27 : Dj kX6_stand 27 (fun o => .ifCond .ne o) 3 30 33 := ⟨6, by decide +kernel, rfl, by decide⟩
theorem dX6_stand_30 : Dk kX6_stand 30 (.bipush (-7)) 2 32 := ⟨by decide +kernel, rfl⟩
theorem dX6_stand_32 : Dk kX6_stand 32 (.ireturn) 1 33 := ⟨by decide +kernel, rfl⟩
theorem dX6_stand_33 : Dk kX6_stand 33 (.iconst (-1)) 1 34 := ⟨by decide +kernel, rfl⟩
theorem dX6_stand_34 : Dk kX6_stand 34 (.istore 4) 2 36 := ⟨by decide +kernel, rfl⟩
theorem dX6_stand_36 : Dk kX6_stand 36 (.iconst (-1)) 1 37 := ⟨by decide +kernel, rfl⟩
theorem dX6_stand_37 : Dk kX6_stand 37 (.istore 5) 2 39 := ⟨by decide +kernel, rfl⟩
theorem dX6_stand_39 : Dk kX6_stand 39 (.aload_n 0) 1 40 := ⟨by decide +kernel, rfl⟩
theorem dX6_stand_40 : Dk kX6_stand 40 (.invokevirtual 199) 3 43 := ⟨by decide +kernel, rfl⟩
theorem dX6_stand_43 : Dk kX6_stand 43 (.iconst 0) 1 44 := ⟨by decide +kernel, rfl⟩
theorem dX6_stand_44 : Dk kX6_stand 44 (.istore 6) 2 46 := ⟨by decide +kernel, rfl⟩
theorem dX6_stand_46 : Dk kX6_stand 46 (.iload 6) 2 48 := ⟨by decide +kernel, rfl⟩
theorem dX6_stand_48 : Dk kX6_stand 48 (.bipush 8) 2 50 := ⟨by decide +kernel, rfl⟩
theorem dX6_stand_50 : Dj kX6_stand 50 (fun o => .if_icmp .ge o) 3 53 122 := ⟨72, by decide +kernel, rfl, by decide⟩
theorem dX6_stand_53 : Dk kX6_stand 53 (.aload_n 0) 1 54 := ⟨by decide +kernel, rfl⟩
theorem dX6_stand_54 : Dk kX6_stand 54 (.getfield 16) 3 57 := ⟨by decide +kernel, rfl⟩
theorem dX6_stand_57 : Dk kX6_stand 57 (.iconst 3) 1 58 := ⟨by decide +kernel, rfl⟩
theorem dX6_stand_58 : Dk kX6_stand 58 (.iload_n 1) 1 59 := ⟨by decide +kernel, rfl⟩
theorem dX6_stand_59 : Dk kX6_stand 59 (.imul) 1 60 := ⟨by decide +kernel, rfl⟩
theorem dX6_stand_60 : Dk kX6_stand 60 (.iload 6) 2 62 := ⟨by decide +kernel, rfl⟩
theorem dX6_stand_62 : Dk kX6_stand 62 (.iastore) 1 63 := ⟨by decide +kernel, rfl⟩
theorem dX6_stand_63 : Dk kX6_stand 63 (.aload_n 0) 1 64 := ⟨by decide +kernel, rfl⟩
theorem dX6_stand_64 : Dk kX6_stand 64 (.iload_n 2) 1 65 := ⟨by decide +kernel, rfl⟩
theorem dX6_stand_65 : Dk kX6_stand 65 (.invokevirtual 202) 3 68 := ⟨by decide +kernel, rfl⟩
theorem dX6_stand_68 : Dk kX6_stand 68 (.aload_n 0) 1 69 := ⟨by decide +kernel, rfl⟩
theorem dX6_stand_69 : Dk kX6_stand 69 (.getfield 16) 3 72 := ⟨by decide +kernel, rfl⟩
theorem dX6_stand_72 : Dk kX6_stand 72 (.iconst 3) 1 73 := ⟨by decide +kernel, rfl⟩
theorem dX6_stand_73 : Dk kX6_stand 73 (.iload_n 1) 1 74 := ⟨by decide +kernel, rfl⟩
theorem dX6_stand_74 : Dk kX6_stand 74 (.imul) 1 75 := ⟨by decide +kernel, rfl⟩
theorem dX6_stand_75 : Dk kX6_stand 75 (.iconst 1) 1 76 := ⟨by decide +kernel, rfl⟩
theorem dX6_stand_76 : Dk kX6_stand 76 (.iadd) 1 77 := ⟨by decide +kernel, rfl⟩
theorem dX6_stand_77 : Dk kX6_stand 77 (.iaload) 1 78 := ⟨by decide +kernel, rfl⟩
theorem dX6_stand_78 : Dk kX6_stand 78 (.istore 7) 2 80 := ⟨by decide +kernel, rfl⟩
theorem dX6_stand_80 : Dk kX6_stand 80 (.aload_n 0) 1 81 := ⟨by decide +kernel, rfl⟩
theorem dX6_stand_81 : Dk kX6_stand 81 (.invokevirtual 208) 3 84 := ⟨by decide +kernel, rfl⟩
theorem dX6_stand_84 : Dk kX6_stand 84 (.iload 7) 2 86 := ⟨by decide +kernel, rfl⟩
theorem dX6_stand_86 : Dk kX6_stand 86 (.iload 5) 2 88 := ⟨by decide +kernel, rfl⟩
theorem dX6_stand_88 : Dj kX6_stand 88 (fun o => .if_icmp .le o) 3 91 96 := ⟨8, by decide +kernel, rfl, by decide⟩
theorem dX6_stand_91 : Dk kX6_stand 91 (.iload 6) 2 93 := ⟨by decide +kernel, rfl⟩
theorem dX6_stand_93 : Dj kX6_stand 93 (fun o => .goto o) 3 96 98 := ⟨5, by decide +kernel, rfl, by decide⟩
theorem dX6_stand_96 : Dk kX6_stand 96 (.iload 4) 2 98 := ⟨by decide +kernel, rfl⟩
theorem dX6_stand_98 : Dk kX6_stand 98 (.istore 4) 2 100 := ⟨by decide +kernel, rfl⟩
theorem dX6_stand_100 : Dk kX6_stand 100 (.iload 7) 2 102 := ⟨by decide +kernel, rfl⟩
theorem dX6_stand_102 : Dk kX6_stand 102 (.iload 5) 2 104 := ⟨by decide +kernel, rfl⟩
theorem dX6_stand_104 : Dj kX6_stand 104 (fun o => .if_icmp .le o) 3 107 112 := ⟨8, by decide +kernel, rfl, by decide⟩
theorem dX6_stand_107 : Dk kX6_stand 107 (.iload 7) 2 109 := ⟨by decide +kernel, rfl⟩
theorem dX6_stand_109 : Dj kX6_stand 109 (fun o => .goto o) 3 112 114 := ⟨5, by decide +kernel, rfl, by decide⟩
theorem dX6_stand_112 : Dk kX6_stand 112 (.iload 5) 2 114 := ⟨by decide +kernel, rfl⟩
theorem dX6_stand_114 : Dk kX6_stand 114 (.istore 5) 2 116 := ⟨by decide +kernel, rfl⟩
theorem dX6_stand_116 : Dk kX6_stand 116 (.iinc 6 1) 3 119 := ⟨by decide +kernel, rfl⟩
theorem dX6_stand_119 : Dj kX6_stand 119 (fun o => .goto o) 3 122 46 := ⟨-73, by decide +kernel, rfl, by decide⟩
theorem dX6_stand_122 : Dk kX6_stand 122 (.iload_n 3) 1 123 := ⟨by decide +kernel, rfl⟩
theorem dX6_stand_123 : Dj kX6_stand 123 (fun o => .ifCond .ne o) 3 126 131 := ⟨8, by decide +kernel, rfl, by decide⟩
theorem dX6_stand_126 : Dk kX6_stand 126 (.iload 4) 2 128 := ⟨by decide +kernel, rfl⟩
theorem dX6_stand_128 : Dj kX6_stand 128 (fun o => .goto o) 3 131 133 := ⟨5, by decide +kernel, rfl, by decide⟩
theorem dX6_stand_131 : Dk kX6_stand 131 (.iload 5) 2 133 := ⟨by decide +kernel, rfl⟩
theorem dX6_stand_133 : Dk kX6_stand 133 (.ireturn) 1 134 := ⟨by decide +kernel, rfl⟩
theorem dX6_rounds_0 : Dk kX6_rounds 0 (.iload_n 1) 1 1 := ⟨by decide +kernel, rfl⟩
theorem dX6_rounds_1 : Dk kX6_rounds 1 (.iconst 0) 1 2 := ⟨by decide +kernel, rfl⟩
theorem dX6_rounds_2 : Dk kX6_rounds 2 (.bipush 40) 2 4 := ⟨by decide +kernel, rfl⟩
theorem dX6_rounds_4 : Dk kX6_rounds 4 (.invokestatic 75) 3 7 := ⟨by decide +kernel, rfl⟩
theorem dX6_rounds_7 : Dj kX6_rounds 7 (fun o => .ifCond .eq o) 3 10 19 := ⟨12, by decide +kernel, rfl, by decide⟩
theorem dX6_rounds_10 : Dk kX6_rounds 10 (.iload_n 2) 1 11 := ⟨by decide +kernel, rfl⟩
theorem dX6_rounds_11 : Dk kX6_rounds 11 (.iconst 0) 1 12 := ⟨by decide +kernel, rfl⟩
theorem dX6_rounds_12 : Dk kX6_rounds 12 (.iconst 1) 1 13 := ⟨by decide +kernel, rfl⟩
theorem dX6_rounds_13 : Dk kX6_rounds 13 (.invokestatic 75) 3 16 := ⟨by decide +kernel, rfl⟩
theorem dX6_rounds_16 : Dj kX6_rounds 16 (fun o => .ifCond .ne o) 3 19 22 := ⟨6, by decide +kernel, rfl, by decide⟩
theorem dX6_rounds_19 : Dk kX6_rounds 19 (.bipush (-2)) 2 21 := ⟨by decide +kernel, rfl⟩
theorem dX6_rounds_21 : Dk kX6_rounds 21 (.ireturn) 1 22 := ⟨by decide +kernel, rfl⟩
theorem dX6_rounds_22 : Dk kX6_rounds 22 (.iconst (-1)) 1 23 := ⟨by decide +kernel, rfl⟩
theorem dX6_rounds_23 : Dk kX6_rounds 23 (.istore_n 3) 1 24 := ⟨by decide +kernel, rfl⟩
theorem dX6_rounds_24 : Dk kX6_rounds 24 (.aload_n 0) 1 25 := ⟨by decide +kernel, rfl⟩
theorem dX6_rounds_25 : Dk kX6_rounds 25 (.invokevirtual 199) 3 28 := ⟨by decide +kernel, rfl⟩
theorem dX6_rounds_28 : Dk kX6_rounds 28 (.aload_n 0) 1 29 := ⟨by decide +kernel, rfl⟩
theorem dX6_rounds_29 : Dk kX6_rounds 29 (.iload_n 1) 1 30 := ⟨by decide +kernel, rfl⟩
theorem dX6_rounds_30 : Dk kX6_rounds 30 (.invokevirtual 202) 3 33 := ⟨by decide +kernel, rfl⟩
theorem dX6_rounds_33 : Dk kX6_rounds 33 (.aload_n 0) 1 34 := ⟨by decide +kernel, rfl⟩
theorem dX6_rounds_34 : Dk kX6_rounds 34 (.iconst 2) 1 35 := ⟨by decide +kernel, rfl⟩
theorem dX6_rounds_35 : Dk kX6_rounds 35 (.invokevirtual 82) 3 38 := ⟨by decide +kernel, rfl⟩
theorem dX6_rounds_38 : Dk kX6_rounds 38 (.invokestatic 86) 3 41 := ⟨by decide +kernel, rfl⟩
theorem dX6_rounds_41 : Dk kX6_rounds 41 (.istore 4) 2 43 := ⟨by decide +kernel, rfl⟩
theorem dX6_rounds_43 : Dk kX6_rounds 43 (.aload_n 0) 1 44 := ⟨by decide +kernel, rfl⟩
theorem dX6_rounds_44 : Dk kX6_rounds 44 (.invokevirtual 208) 3 47 := ⟨by decide +kernel, rfl⟩
theorem dX6_rounds_47 : Dk kX6_rounds 47 (.iconst 0) 1 48 := ⟨by decide +kernel, rfl⟩
theorem dX6_rounds_48 : Dk kX6_rounds 48 (.istore 5) 2 50 := ⟨by decide +kernel, rfl⟩
theorem dX6_rounds_50 : Dk kX6_rounds 50 (.iload 5) 2 52 := ⟨by decide +kernel, rfl⟩
theorem dX6_rounds_52 : Dk kX6_rounds 52 (.aload_n 0) 1 53 := ⟨by decide +kernel, rfl⟩
theorem dX6_rounds_53 : Dk kX6_rounds 53 (.getfield 72) 3 56 := ⟨by decide +kernel, rfl⟩
theorem dX6_rounds_56 : Dj kX6_rounds 56 (fun o => .if_icmp .ge o) 3 59 139 := ⟨83, by decide +kernel, rfl, by decide⟩
theorem dX6_rounds_59 : Dk kX6_rounds 59 (.iconst 0) 1 60 := ⟨by decide +kernel, rfl⟩
theorem dX6_rounds_60 : Dk kX6_rounds 60 (.istore 6) 2 62 := ⟨by decide +kernel, rfl⟩
theorem dX6_rounds_62 : Dk kX6_rounds 62 (.iload 6) 2 64 := ⟨by decide +kernel, rfl⟩
theorem dX6_rounds_64 : Dk kX6_rounds 64 (.bipush 8) 2 66 := ⟨by decide +kernel, rfl⟩
theorem dX6_rounds_66 : Dj kX6_rounds 66 (fun o => .if_icmp .ge o) 3 69 84 := ⟨18, by decide +kernel, rfl, by decide⟩
theorem dX6_rounds_69 : Dk kX6_rounds 69 (.aload_n 0) 1 70 := ⟨by decide +kernel, rfl⟩
theorem dX6_rounds_70 : Dk kX6_rounds 70 (.iload 5) 2 72 := ⟨by decide +kernel, rfl⟩
theorem dX6_rounds_72 : Dk kX6_rounds 72 (.iload 6) 2 74 := ⟨by decide +kernel, rfl⟩
theorem dX6_rounds_74 : Dk kX6_rounds 74 (.invokevirtual 193) 3 77 := ⟨by decide +kernel, rfl⟩
theorem dX6_rounds_77 : Dk kX6_rounds 77 (.pop) 1 78 := ⟨by decide +kernel, rfl⟩
theorem dX6_rounds_78 : Dk kX6_rounds 78 (.iinc 6 1) 3 81 := ⟨by decide +kernel, rfl⟩
theorem dX6_rounds_81 : Dj kX6_rounds 81 (fun o => .goto o) 3 84 62 := ⟨-19, by decide +kernel, rfl, by decide⟩
theorem dX6_rounds_84 : Dk kX6_rounds 84 (.aload_n 0) 1 85 := ⟨by decide +kernel, rfl⟩
theorem dX6_rounds_85 : Dk kX6_rounds 85 (.iload_n 1) 1 86 := ⟨by decide +kernel, rfl⟩
theorem dX6_rounds_86 : Dk kX6_rounds 86 (.invokevirtual 202) 3 89 := ⟨by decide +kernel, rfl⟩
theorem dX6_rounds_89 : Dk kX6_rounds 89 (.aload_n 0) 1 90 := ⟨by decide +kernel, rfl⟩
theorem dX6_rounds_90 : Dk kX6_rounds 90 (.iconst 2) 1 91 := ⟨by decide +kernel, rfl⟩
theorem dX6_rounds_91 : Dk kX6_rounds 91 (.invokevirtual 82) 3 94 := ⟨by decide +kernel, rfl⟩
theorem dX6_rounds_94 : Dk kX6_rounds 94 (.invokestatic 86) 3 97 := ⟨by decide +kernel, rfl⟩
theorem dX6_rounds_97 : Dk kX6_rounds 97 (.istore 6) 2 99 := ⟨by decide +kernel, rfl⟩
theorem dX6_rounds_99 : Dk kX6_rounds 99 (.aload_n 0) 1 100 := ⟨by decide +kernel, rfl⟩
theorem dX6_rounds_100 : Dk kX6_rounds 100 (.invokevirtual 208) 3 103 := ⟨by decide +kernel, rfl⟩
theorem dX6_rounds_103 : Dk kX6_rounds 103 (.iload 6) 2 105 := ⟨by decide +kernel, rfl⟩
theorem dX6_rounds_105 : Dk kX6_rounds 105 (.iload 4) 2 107 := ⟨by decide +kernel, rfl⟩
theorem dX6_rounds_107 : Dj kX6_rounds 107 (fun o => .if_icmp .le o) 3 110 115 := ⟨8, by decide +kernel, rfl, by decide⟩
theorem dX6_rounds_110 : Dk kX6_rounds 110 (.iload 5) 2 112 := ⟨by decide +kernel, rfl⟩
theorem dX6_rounds_112 : Dj kX6_rounds 112 (fun o => .goto o) 3 115 116 := ⟨4, by decide +kernel, rfl, by decide⟩
theorem dX6_rounds_115 : Dk kX6_rounds 115 (.iload_n 3) 1 116 := ⟨by decide +kernel, rfl⟩
theorem dX6_rounds_116 : Dk kX6_rounds 116 (.istore_n 3) 1 117 := ⟨by decide +kernel, rfl⟩
theorem dX6_rounds_117 : Dk kX6_rounds 117 (.iload 6) 2 119 := ⟨by decide +kernel, rfl⟩
theorem dX6_rounds_119 : Dk kX6_rounds 119 (.iload 4) 2 121 := ⟨by decide +kernel, rfl⟩
theorem dX6_rounds_121 : Dj kX6_rounds 121 (fun o => .if_icmp .le o) 3 124 129 := ⟨8, by decide +kernel, rfl, by decide⟩
theorem dX6_rounds_124 : Dk kX6_rounds 124 (.iload 6) 2 126 := ⟨by decide +kernel, rfl⟩
theorem dX6_rounds_126 : Dj kX6_rounds 126 (fun o => .goto o) 3 129 131 := ⟨5, by decide +kernel, rfl, by decide⟩
theorem dX6_rounds_129 : Dk kX6_rounds 129 (.iload 4) 2 131 := ⟨by decide +kernel, rfl⟩
theorem dX6_rounds_131 : Dk kX6_rounds 131 (.istore 4) 2 133 := ⟨by decide +kernel, rfl⟩
theorem dX6_rounds_133 : Dk kX6_rounds 133 (.iinc 5 1) 3 136 := ⟨by decide +kernel, rfl⟩
theorem dX6_rounds_136 : Dj kX6_rounds 136 (fun o => .goto o) 3 139 50 := ⟨-86, by decide +kernel, rfl, by decide⟩
theorem dX6_rounds_139 : Dk kX6_rounds 139 (.iload_n 2) 1 140 := ⟨by decide +kernel, rfl⟩
theorem dX6_rounds_140 : Dj kX6_rounds 140 (fun o => .ifCond .ne o) 3 143 147 := ⟨7, by decide +kernel, rfl, by decide⟩
theorem dX6_rounds_143 : Dk kX6_rounds 143 (.iload_n 3) 1 144 := ⟨by decide +kernel, rfl⟩
theorem dX6_rounds_144 : Dj kX6_rounds 144 (fun o => .goto o) 3 147 149 := ⟨5, by decide +kernel, rfl, by decide⟩
theorem dX6_rounds_147 : Dk kX6_rounds 147 (.iload 4) 2 149 := ⟨by decide +kernel, rfl⟩
theorem dX6_rounds_149 : Dk kX6_rounds 149 (.ireturn) 1 150 := ⟨by decide +kernel, rfl⟩
theorem dX6_tries_0 : Dk kX6_tries 0 (.iload_n 1) 1 1 := ⟨by decide +kernel, rfl⟩
theorem dX6_tries_1 : Dk kX6_tries 1 (.iconst 0) 1 2 := ⟨by decide +kernel, rfl⟩
theorem dX6_tries_2 : Dk kX6_tries 2 (.iconst 1) 1 3 := ⟨by decide +kernel, rfl⟩
theorem dX6_tries_3 : Dk kX6_tries 3 (.invokestatic 75) 3 6 := ⟨by decide +kernel, rfl⟩
theorem dX6_tries_6 : Dj kX6_tries 6 (fun o => .ifCond .ne o) 3 9 12 := ⟨6, by decide +kernel, rfl, by decide⟩
theorem dX6_tries_9 : Dk kX6_tries 9 (.bipush (-2)) 2 11 := ⟨by decide +kernel, rfl⟩
theorem dX6_tries_11 : Dk kX6_tries 11 (.ireturn) 1 12 := ⟨by decide +kernel, rfl⟩
theorem dX6_tries_12 : Dk kX6_tries 12 (.iconst 0) 1 13 := ⟨by decide +kernel, rfl⟩
theorem dX6_tries_13 : Dk kX6_tries 13 (.istore_n 2) 1 14 := ⟨by decide +kernel, rfl⟩
theorem dX6_tries_14 : Dk kX6_tries 14 (.iconst 0) 1 15 := ⟨by decide +kernel, rfl⟩
theorem dX6_tries_15 : Dk kX6_tries 15 (.istore_n 3) 1 16 := ⟨by decide +kernel, rfl⟩
theorem dX6_tries_16 : Dk kX6_tries 16 (.iconst 0) 1 17 := ⟨by decide +kernel, rfl⟩
theorem dX6_tries_17 : Dk kX6_tries 17 (.istore 4) 2 19 := ⟨by decide +kernel, rfl⟩
theorem dX6_tries_19 : Dk kX6_tries 19 (.iload 4) 2 21 := ⟨by decide +kernel, rfl⟩
theorem dX6_tries_21 : Dk kX6_tries 21 (.bipush 8) 2 23 := ⟨by decide +kernel, rfl⟩
theorem dX6_tries_23 : Dj kX6_tries 23 (fun o => .if_icmp .ge o) 3 26 73 := ⟨50, by decide +kernel, rfl, by decide⟩
theorem dX6_tries_26 : Dk kX6_tries 26 (.aload_n 0) 1 27 := ⟨by decide +kernel, rfl⟩
theorem dX6_tries_27 : Dk kX6_tries 27 (.getfield 19) 3 30 := ⟨by decide +kernel, rfl⟩
theorem dX6_tries_30 : Dk kX6_tries 30 (.iconst 3) 1 31 := ⟨by decide +kernel, rfl⟩
theorem dX6_tries_31 : Dk kX6_tries 31 (.iload 4) 2 33 := ⟨by decide +kernel, rfl⟩
theorem dX6_tries_33 : Dk kX6_tries 33 (.imul) 1 34 := ⟨by decide +kernel, rfl⟩
theorem dX6_tries_34 : Dk kX6_tries 34 (.iconst 2) 1 35 := ⟨by decide +kernel, rfl⟩
theorem dX6_tries_35 : Dk kX6_tries 35 (.iadd) 1 36 := ⟨by decide +kernel, rfl⟩
theorem dX6_tries_36 : Dk kX6_tries 36 (.iaload) 1 37 := ⟨by decide +kernel, rfl⟩
theorem dX6_tries_37 : Dk kX6_tries 37 (.iconst (-1)) 1 38 := ⟨by decide +kernel, rfl⟩
theorem dX6_tries_38 : Dj kX6_tries 38 (fun o => .if_icmp .ne o) 3 41 67 := ⟨29, by decide +kernel, rfl, by decide⟩
theorem dX6_tries_41 : Dk kX6_tries 41 (.iinc 2 1) 3 44 := ⟨by decide +kernel, rfl⟩
theorem dX6_tries_44 : Dk kX6_tries 44 (.iload_n 3) 1 45 := ⟨by decide +kernel, rfl⟩
theorem dX6_tries_45 : Dk kX6_tries 45 (.aload_n 0) 1 46 := ⟨by decide +kernel, rfl⟩
theorem dX6_tries_46 : Dk kX6_tries 46 (.getfield 19) 3 49 := ⟨by decide +kernel, rfl⟩
theorem dX6_tries_49 : Dk kX6_tries 49 (.iconst 3) 1 50 := ⟨by decide +kernel, rfl⟩
theorem dX6_tries_50 : Dk kX6_tries 50 (.iload 4) 2 52 := ⟨by decide +kernel, rfl⟩
theorem dX6_tries_52 : Dk kX6_tries 52 (.imul) 1 53 := ⟨by decide +kernel, rfl⟩
theorem dX6_tries_53 : Dk kX6_tries 53 (.iconst 1) 1 54 := ⟨by decide +kernel, rfl⟩
theorem dX6_tries_54 : Dk kX6_tries 54 (.iadd) 1 55 := ⟨by decide +kernel, rfl⟩
theorem dX6_tries_55 : Dk kX6_tries 55 (.iaload) 1 56 := ⟨by decide +kernel, rfl⟩
theorem dX6_tries_56 : Dk kX6_tries 56 (.iconst (-1)) 1 57 := ⟨by decide +kernel, rfl⟩
theorem dX6_tries_57 : Dj kX6_tries 57 (fun o => .if_icmp .ne o) 3 60 64 := ⟨7, by decide +kernel, rfl, by decide⟩
theorem dX6_tries_60 : Dk kX6_tries 60 (.iconst 2) 1 61 := ⟨by decide +kernel, rfl⟩
theorem dX6_tries_61 : Dj kX6_tries 61 (fun o => .goto o) 3 64 65 := ⟨4, by decide +kernel, rfl, by decide⟩
theorem dX6_tries_64 : Dk kX6_tries 64 (.iconst 1) 1 65 := ⟨by decide +kernel, rfl⟩
theorem dX6_tries_65 : Dk kX6_tries 65 (.iadd) 1 66 := ⟨by decide +kernel, rfl⟩
theorem dX6_tries_66 : Dk kX6_tries 66 (.istore_n 3) 1 67 := ⟨by decide +kernel, rfl⟩
theorem dX6_tries_67 : Dk kX6_tries 67 (.iinc 4 1) 3 70 := ⟨by decide +kernel, rfl⟩
theorem dX6_tries_70 : Dj kX6_tries 70 (fun o => .goto o) 3 73 19 := ⟨-51, by decide +kernel, rfl, by decide⟩
theorem dX6_tries_73 : Dk kX6_tries 73 (.iload_n 1) 1 74 := ⟨by decide +kernel, rfl⟩
theorem dX6_tries_74 : Dk kX6_tries 74 (.iconst 1) 1 75 := ⟨by decide +kernel, rfl⟩
theorem dX6_tries_75 : Dj kX6_tries 75 (fun o => .if_icmp .ne o) 3 78 82 := ⟨7, by decide +kernel, rfl, by decide⟩
theorem dX6_tries_78 : Dk kX6_tries 78 (.iload_n 2) 1 79 := ⟨by decide +kernel, rfl⟩
theorem dX6_tries_79 : Dj kX6_tries 79 (fun o => .goto o) 3 82 99 := ⟨20, by decide +kernel, rfl, by decide⟩
theorem dX6_tries_82 : Dk kX6_tries 82 (.iload_n 2) 1 83 := ⟨by decide +kernel, rfl⟩
theorem dX6_tries_83 : Dj kX6_tries 83 (fun o => .ifCond .le o) 3 86 98 := ⟨15, by decide +kernel, rfl, by decide⟩
theorem dX6_tries_86 : Dk kX6_tries 86 (.aload_n 0) 1 87 := ⟨by decide +kernel, rfl⟩
theorem dX6_tries_87 : Dk kX6_tries 87 (.getfield 72) 3 90 := ⟨by decide +kernel, rfl⟩
theorem dX6_tries_90 : Dk kX6_tries 90 (.iconst 2) 1 91 := ⟨by decide +kernel, rfl⟩
theorem dX6_tries_91 : Dj kX6_tries 91 (fun o => .if_icmp .ge o) 3 94 98 := ⟨7, by decide +kernel, rfl, by decide⟩
theorem dX6_tries_94 : Dk kX6_tries 94 (.iconst (-1)) 1 95 := ⟨by decide +kernel, rfl⟩
theorem dX6_tries_95 : Dj kX6_tries 95 (fun o => .goto o) 3 98 99 := ⟨4, by decide +kernel, rfl, by decide⟩
theorem dX6_tries_98 : Dk kX6_tries 98 (.iload_n 3) 1 99 := ⟨by decide +kernel, rfl⟩
theorem dX6_tries_99 : Dk kX6_tries 99 (.ireturn) 1 100 := ⟨by decide +kernel, rfl⟩
theorem dX6_lowest_0 : Dk kX6_lowest 0 (.lload_n 0) 1 1 := ⟨by decide +kernel, rfl⟩
theorem dX6_lowest_1 : Dk kX6_lowest 1 (.lconst 0) 1 2 := ⟨by decide +kernel, rfl⟩
theorem dX6_lowest_2 : Dk kX6_lowest 2 (.lcmp) 1 3 := ⟨by decide +kernel, rfl⟩
theorem dX6_lowest_3 : Dj kX6_lowest 3 (fun o => .ifCond .ne o) 3 6 10 := ⟨7, by decide +kernel, rfl, by decide⟩
theorem dX6_lowest_6 : Dk kX6_lowest 6 (.iload 4) 2 8 := ⟨by decide +kernel, rfl⟩
theorem dX6_lowest_8 : Dk kX6_lowest 8 (.i2l) 1 9 := ⟨by decide +kernel, rfl⟩
theorem dX6_lowest_9 : Dk kX6_lowest 9 (.lreturn) 1 10 := ⟨by decide +kernel, rfl⟩
theorem dX6_lowest_10 : Dk kX6_lowest 10 (.lload_n 0) 1 11 := ⟨by decide +kernel, rfl⟩
theorem dX6_lowest_11 : Dk kX6_lowest 11 (.lstore 5) 2 13 := ⟨by decide +kernel, rfl⟩
theorem dX6_lowest_13 : Dk kX6_lowest 13 (.lload_n 2) 1 14 := ⟨by decide +kernel, rfl⟩
theorem dX6_lowest_14 : Dk kX6_lowest 14 (.lstore 7) 2 16 := ⟨by decide +kernel, rfl⟩
theorem dX6_lowest_16 : Dk kX6_lowest 16 (.lload 7) 2 18 := ⟨by decide +kernel, rfl⟩
theorem dX6_lowest_18 : Dk kX6_lowest 18 (.lconst 0) 1 19 := ⟨by decide +kernel, rfl⟩
theorem dX6_lowest_19 : Dk kX6_lowest 19 (.lcmp) 1 20 := ⟨by decide +kernel, rfl⟩
theorem dX6_lowest_20 : Dj kX6_lowest 20 (fun o => .ifCond .eq o) 3 23 41 := ⟨21, by decide +kernel, rfl, by decide⟩
theorem dX6_lowest_23 : Dk kX6_lowest 23 (.lload 5) 2 25 := ⟨by decide +kernel, rfl⟩
theorem dX6_lowest_25 : Dk kX6_lowest 25 (.lload 7) 2 27 := ⟨by decide +kernel, rfl⟩
theorem dX6_lowest_27 : Dk kX6_lowest 27 (.lrem) 1 28 := ⟨by decide +kernel, rfl⟩
theorem dX6_lowest_28 : Dk kX6_lowest 28 (.lstore 9) 2 30 := ⟨by decide +kernel, rfl⟩
theorem dX6_lowest_30 : Dk kX6_lowest 30 (.lload 7) 2 32 := ⟨by decide +kernel, rfl⟩
theorem dX6_lowest_32 : Dk kX6_lowest 32 (.lstore 5) 2 34 := ⟨by decide +kernel, rfl⟩
theorem dX6_lowest_34 : Dk kX6_lowest 34 (.lload 9) 2 36 := ⟨by decide +kernel, rfl⟩
theorem dX6_lowest_36 : Dk kX6_lowest 36 (.lstore 7) 2 38 := ⟨by decide +kernel, rfl⟩
theorem dX6_lowest_38 : Dj kX6_lowest 38 (fun o => .goto o) 3 41 16 := ⟨-22, by decide +kernel, rfl, by decide⟩
theorem dX6_lowest_41 : Dk kX6_lowest 41 (.iload 4) 2 43 := ⟨by decide +kernel, rfl⟩
theorem dX6_lowest_43 : Dj kX6_lowest 43 (fun o => .ifCond .ne o) 3 46 50 := ⟨7, by decide +kernel, rfl, by decide⟩
theorem dX6_lowest_46 : Dk kX6_lowest 46 (.lload_n 0) 1 47 := ⟨by decide +kernel, rfl⟩
theorem dX6_lowest_47 : Dj kX6_lowest 47 (fun o => .goto o) 3 50 51 := ⟨4, by decide +kernel, rfl, by decide⟩
theorem dX6_lowest_50 : Dk kX6_lowest 50 (.lload_n 2) 1 51 := ⟨by decide +kernel, rfl⟩
theorem dX6_lowest_51 : Dk kX6_lowest 51 (.lload 5) 2 53 := ⟨by decide +kernel, rfl⟩
theorem dX6_lowest_53 : Dk kX6_lowest 53 (.ldiv) 1 54 := ⟨by decide +kernel, rfl⟩
theorem dX6_lowest_54 : Dk kX6_lowest 54 (.lreturn) 1 55 := ⟨by decide +kernel, rfl⟩
theorem dX6_share_0 : Dk kX6_share 0 (.aload_n 0) 1 1 := ⟨by decide +kernel, rfl⟩
theorem dX6_share_1 : Dk kX6_share 1 (.invokevirtual 205) 3 4 := ⟨by decide +kernel, rfl⟩
theorem dX6_share_4 : Dk kX6_share 4 (.istore_n 3) 1 5 := ⟨by decide +kernel, rfl⟩
theorem dX6_share_5 : Dk kX6_share 5 (.iconst 0) 1 6 := ⟨by decide +kernel, rfl⟩
theorem dX6_share_6 : Dk kX6_share 6 (.istore 4) 2 8 := ⟨by decide +kernel, rfl⟩
theorem dX6_share_8 : Dk kX6_share 8 (.iload 4) 2 10 := ⟨by decide +kernel, rfl⟩
theorem dX6_share_10 : Dk kX6_share 10 (.aload_n 0) 1 11 := ⟨by decide +kernel, rfl⟩
theorem dX6_share_11 : Dk kX6_share 11 (.getfield 72) 3 14 := ⟨by decide +kernel, rfl⟩
theorem dX6_share_14 : Dj kX6_share 14 (fun o => .if_icmp .ge o) 3 17 37 := ⟨23, by decide +kernel, rfl, by decide⟩
theorem dX6_share_17 : Dk kX6_share 17 (.iload_n 3) 1 18 := ⟨by decide +kernel, rfl⟩
theorem dX6_share_18 : Dk kX6_share 18 (.aload_n 0) 1 19 := ⟨by decide +kernel, rfl⟩
theorem dX6_share_19 : Dk kX6_share 19 (.getfield 16) 3 22 := ⟨by decide +kernel, rfl⟩
theorem dX6_share_22 : Dk kX6_share 22 (.iconst 3) 1 23 := ⟨by decide +kernel, rfl⟩
theorem dX6_share_23 : Dk kX6_share 23 (.iload 4) 2 25 := ⟨by decide +kernel, rfl⟩
theorem dX6_share_25 : Dk kX6_share 25 (.imul) 1 26 := ⟨by decide +kernel, rfl⟩
theorem dX6_share_26 : Dk kX6_share 26 (.iconst 1) 1 27 := ⟨by decide +kernel, rfl⟩
theorem dX6_share_27 : Dk kX6_share 27 (.iadd) 1 28 := ⟨by decide +kernel, rfl⟩
theorem dX6_share_28 : Dk kX6_share 28 (.iaload) 1 29 := ⟨by decide +kernel, rfl⟩
theorem dX6_share_29 : Dk kX6_share 29 (.iadd) 1 30 := ⟨by decide +kernel, rfl⟩
theorem dX6_share_30 : Dk kX6_share 30 (.istore_n 3) 1 31 := ⟨by decide +kernel, rfl⟩
theorem dX6_share_31 : Dk kX6_share 31 (.iinc 4 1) 3 34 := ⟨by decide +kernel, rfl⟩
theorem dX6_share_34 : Dj kX6_share 34 (fun o => .goto o) 3 37 8 := ⟨-26, by decide +kernel, rfl, by decide⟩
theorem dX6_share_37 : Dk kX6_share 37 (.aload_n 0) 1 38 := ⟨by decide +kernel, rfl⟩
theorem dX6_share_38 : Dk kX6_share 38 (.iload_n 1) 1 39 := ⟨by decide +kernel, rfl⟩
theorem dX6_share_39 : Dk kX6_share 39 (.invokevirtual 99) 3 42 := ⟨by decide +kernel, rfl⟩
theorem dX6_share_42 : Dj kX6_share 42 (fun o => .ifCond .eq o) 3 45 78 := ⟨36, by decide +kernel, rfl, by decide⟩
theorem dX6_share_45 : Dk kX6_share 45 (.iload_n 2) 1 46 := ⟨by decide +kernel, rfl⟩
theorem dX6_share_46 : Dk kX6_share 46 (.iconst 0) 1 47 := ⟨by decide +kernel, rfl⟩
theorem dX6_share_47 : Dk kX6_share 47 (.iconst 1) 1 48 := ⟨by decide +kernel, rfl⟩
theorem dX6_share_48 : Dk kX6_share 48 (.invokestatic 75) 3 51 := ⟨by decide +kernel, rfl⟩
theorem dX6_share_51 : Dj kX6_share 51 (fun o => .ifCond .eq o) 3 54 78 := ⟨27, by decide +kernel, rfl, by decide⟩
theorem dX6_share_54 : Dk kX6_share 54 (.iload_n 3) 1 55 := ⟨by decide +kernel, rfl⟩
theorem dX6_share_55 : Dj kX6_share 55 (fun o => .ifCond .le o) 3 58 78 := ⟨23, by decide +kernel, rfl, by decide⟩
theorem dX6_share_58 : Dk kX6_share 58 (.aload_n 0) 1 59 := ⟨by decide +kernel, rfl⟩
theorem dX6_share_59 : Dk kX6_share 59 (.getfield 16) 3 62 := ⟨by decide +kernel, rfl⟩
theorem dX6_share_62 : Dk kX6_share 62 (.iconst 3) 1 63 := ⟨by decide +kernel, rfl⟩
theorem dX6_share_63 : Dk kX6_share 63 (.iload_n 1) 1 64 := ⟨by decide +kernel, rfl⟩
theorem dX6_share_64 : Dk kX6_share 64 (.imul) 1 65 := ⟨by decide +kernel, rfl⟩
theorem dX6_share_65 : Dk kX6_share 65 (.iconst 1) 1 66 := ⟨by decide +kernel, rfl⟩
theorem dX6_share_66 : Dk kX6_share 66 (.iadd) 1 67 := ⟨by decide +kernel, rfl⟩
theorem dX6_share_67 : Dk kX6_share 67 (.iaload) 1 68 := ⟨by decide +kernel, rfl⟩
theorem dX6_share_68 : Dk kX6_share 68 (.i2l) 1 69 := ⟨by decide +kernel, rfl⟩
theorem dX6_share_69 : Dk kX6_share 69 (.iload_n 3) 1 70 := ⟨by decide +kernel, rfl⟩
theorem dX6_share_70 : Dk kX6_share 70 (.i2l) 1 71 := ⟨by decide +kernel, rfl⟩
theorem dX6_share_71 : Dk kX6_share 71 (.iload_n 2) 1 72 := ⟨by decide +kernel, rfl⟩
theorem dX6_share_72 : Dk kX6_share 72 (.invokestatic 214) 3 75 := ⟨by decide +kernel, rfl⟩
theorem dX6_share_75 : Dj kX6_share 75 (fun o => .goto o) 3 78 81 := ⟨6, by decide +kernel, rfl, by decide⟩
theorem dX6_share_78 : Dk kX6_share 78 (.ldc2_w 218) 3 81 := ⟨by decide +kernel, rfl⟩
theorem dX6_share_81 : Dk kX6_share 81 (.lreturn) 1 82 := ⟨by decide +kernel, rfl⟩
theorem dX6_sheetWrong_0 : Dk kX6_sheetWrong 0 (.iload_n 1) 1 1 := ⟨by decide +kernel, rfl⟩
theorem dX6_sheetWrong_1 : Dk kX6_sheetWrong 1 (.iconst 0) 1 2 := ⟨by decide +kernel, rfl⟩
theorem dX6_sheetWrong_2 : Dk kX6_sheetWrong 2 (.iconst 3) 1 3 := ⟨by decide +kernel, rfl⟩
theorem dX6_sheetWrong_3 : Dk kX6_sheetWrong 3 (.invokestatic 75) 3 6 := ⟨by decide +kernel, rfl⟩
theorem dX6_sheetWrong_6 : Dj kX6_sheetWrong 6 (fun o => .ifCond .ne o) 3 9 12 := ⟨6, by decide +kernel, rfl, by decide⟩
theorem dX6_sheetWrong_9 : Dk kX6_sheetWrong 9 (.bipush (-2)) 2 11 := ⟨by decide +kernel, rfl⟩
theorem dX6_sheetWrong_11 : Dk kX6_sheetWrong 11 (.ireturn) 1 12 := ⟨by decide +kernel, rfl⟩
theorem dX6_sheetWrong_12 : Dk kX6_sheetWrong 12 (.aload_n 0) 1 13 := ⟨by decide +kernel, rfl⟩
theorem dX6_sheetWrong_13 : Dk kX6_sheetWrong 13 (.getfield 37) 3 16 := ⟨by decide +kernel, rfl⟩
theorem dX6_sheetWrong_16 : Dk kX6_sheetWrong 16 (.iload_n 1) 1 17 := ⟨by decide +kernel, rfl⟩
theorem dX6_sheetWrong_17 : Dk kX6_sheetWrong 17 (.iaload) 1 18 := ⟨by decide +kernel, rfl⟩
theorem dX6_sheetWrong_18 : Dk kX6_sheetWrong 18 (.iconst (-1)) 1 19 := ⟨by decide +kernel, rfl⟩
theorem dX6_sheetWrong_19 : Dj kX6_sheetWrong 19 (fun o => .if_icmp .ne o) 3 22 25 := ⟨6, by decide +kernel, rfl, by decide⟩
theorem dX6_sheetWrong_22 : Dk kX6_sheetWrong 22 (.bipush (-11)) 2 24 := ⟨by decide +kernel, rfl⟩
theorem dX6_sheetWrong_24 : Dk kX6_sheetWrong 24 (.ireturn) 1 25 := ⟨by decide +kernel, rfl⟩
theorem dX6_sheetWrong_25 : Dk kX6_sheetWrong 25 (.aload_n 0) 1 26 := ⟨by decide +kernel, rfl⟩
theorem dX6_sheetWrong_26 : Dk kX6_sheetWrong 26 (.getfield 40) 3 29 := ⟨by decide +kernel, rfl⟩
theorem dX6_sheetWrong_29 : Dk kX6_sheetWrong 29 (.iload_n 1) 1 30 := ⟨by decide +kernel, rfl⟩
theorem dX6_sheetWrong_30 : Dk kX6_sheetWrong 30 (.iaload) 1 31 := ⟨by decide +kernel, rfl⟩
theorem dX6_sheetWrong_31 : Dk kX6_sheetWrong 31 (.bipush 20) 2 33 := ⟨by decide +kernel, rfl⟩
theorem dX6_sheetWrong_33 : Dj kX6_sheetWrong 33 (fun o => .if_icmp .le o) 3 36 41 := ⟨8, by decide +kernel, rfl, by decide⟩
theorem dX6_sheetWrong_36 : Dk kX6_sheetWrong 36 (.bipush (-2)) 2 38 := ⟨by decide +kernel, rfl⟩
theorem dX6_sheetWrong_38 : Dj kX6_sheetWrong 38 (fun o => .goto o) 3 41 42 := ⟨4, by decide +kernel, rfl, by decide⟩
theorem dX6_sheetWrong_41 : Dk kX6_sheetWrong 41 (.iconst 0) 1 42 := ⟨by decide +kernel, rfl⟩
theorem dX6_sheetWrong_42 : Dk kX6_sheetWrong 42 (.ireturn) 1 43 := ⟨by decide +kernel, rfl⟩
theorem dX6_toldWrong_0 : Dk kX6_toldWrong 0 (.aload_n 0) 1 1 := ⟨by decide +kernel, rfl⟩
theorem dX6_toldWrong_1 : Dk kX6_toldWrong 1 (.iload_n 1) 1 2 := ⟨by decide +kernel, rfl⟩
theorem dX6_toldWrong_2 : Dk kX6_toldWrong 2 (.invokevirtual 220) 3 5 := ⟨by decide +kernel, rfl⟩
theorem dX6_toldWrong_5 : Dk kX6_toldWrong 5 (.istore_n 3) 1 6 := ⟨by decide +kernel, rfl⟩
theorem dX6_toldWrong_6 : Dk kX6_toldWrong 6 (.iload_n 3) 1 7 := ⟨by decide +kernel, rfl⟩
theorem dX6_toldWrong_7 : Dj kX6_toldWrong 7 (fun o => .ifCond .eq o) 3 10 14 := ⟨7, by decide +kernel, rfl, by decide⟩
theorem dX6_toldWrong_10 : Dk kX6_toldWrong 10 (.iload_n 3) 1 11 := ⟨by decide +kernel, rfl⟩
theorem dX6_toldWrong_11 : Dj kX6_toldWrong 11 (fun o => .goto o) 3 14 28 := ⟨17, by decide +kernel, rfl, by decide⟩
theorem dX6_toldWrong_14 : Dk kX6_toldWrong 14 (.aload_n 0) 1 15 := ⟨by decide +kernel, rfl⟩
theorem dX6_toldWrong_15 : Dk kX6_toldWrong 15 (.iload_n 2) 1 16 := ⟨by decide +kernel, rfl⟩
theorem dX6_toldWrong_16 : Dk kX6_toldWrong 16 (.invokevirtual 99) 3 19 := ⟨by decide +kernel, rfl⟩
theorem dX6_toldWrong_19 : Dj kX6_toldWrong 19 (fun o => .ifCond .eq o) 3 22 26 := ⟨7, by decide +kernel, rfl, by decide⟩
theorem dX6_toldWrong_22 : Dk kX6_toldWrong 22 (.iconst 0) 1 23 := ⟨by decide +kernel, rfl⟩
theorem dX6_toldWrong_23 : Dj kX6_toldWrong 23 (fun o => .goto o) 3 26 28 := ⟨5, by decide +kernel, rfl, by decide⟩
theorem dX6_toldWrong_26 : Dk kX6_toldWrong 26 (.bipush (-5)) 2 28 := ⟨by decide +kernel, rfl⟩
theorem dX6_toldWrong_28 : Dk kX6_toldWrong 28 (.ireturn) 1 29 := ⟨by decide +kernel, rfl⟩
theorem dX6_unlike_0 : Dk kX6_unlike 0 (.iconst (-1)) 1 1 := ⟨by decide +kernel, rfl⟩
theorem dX6_unlike_1 : Dk kX6_unlike 1 (.istore_n 3) 1 2 := ⟨by decide +kernel, rfl⟩
theorem dX6_unlike_2 : Dk kX6_unlike 2 (.aload_n 0) 1 3 := ⟨by decide +kernel, rfl⟩
theorem dX6_unlike_3 : Dk kX6_unlike 3 (.invokevirtual 199) 3 6 := ⟨by decide +kernel, rfl⟩
theorem dX6_unlike_6 : Dk kX6_unlike 6 (.iconst 0) 1 7 := ⟨by decide +kernel, rfl⟩
theorem dX6_unlike_7 : Dk kX6_unlike 7 (.istore 4) 2 9 := ⟨by decide +kernel, rfl⟩
theorem dX6_unlike_9 : Dk kX6_unlike 9 (.iload 4) 2 11 := ⟨by decide +kernel, rfl⟩
theorem dX6_unlike_11 : Dk kX6_unlike 11 (.aload_n 0) 1 12 := ⟨by decide +kernel, rfl⟩
theorem dX6_unlike_12 : Dk kX6_unlike 12 (.getfield 40) 3 15 := ⟨by decide +kernel, rfl⟩
theorem dX6_unlike_15 : Dk kX6_unlike 15 (.iload_n 1) 1 16 := ⟨by decide +kernel, rfl⟩
theorem dX6_unlike_16 : Dk kX6_unlike 16 (.iaload) 1 17 := ⟨by decide +kernel, rfl⟩
theorem dX6_unlike_17 : Dj kX6_unlike 17 (fun o => .if_icmp .ge o) 3 20 68 := ⟨51, by decide +kernel, rfl, by decide⟩
theorem dX6_unlike_20 : Dk kX6_unlike 20 (.iload_n 3) 1 21 := ⟨by decide +kernel, rfl⟩
theorem dX6_unlike_21 : Dk kX6_unlike 21 (.iconst (-1)) 1 22 := ⟨by decide +kernel, rfl⟩
theorem dX6_unlike_22 : Dj kX6_unlike 22 (fun o => .if_icmp .ne o) 3 25 68 := ⟨46, by decide +kernel, rfl, by decide⟩
theorem dX6_unlike_25 : Dk kX6_unlike 25 (.aload_n 0) 1 26 := ⟨by decide +kernel, rfl⟩
theorem dX6_unlike_26 : Dk kX6_unlike 26 (.invokevirtual 196) 3 29 := ⟨by decide +kernel, rfl⟩
theorem dX6_unlike_29 : Dk kX6_unlike 29 (.pop) 1 30 := ⟨by decide +kernel, rfl⟩
theorem dX6_unlike_30 : Dk kX6_unlike 30 (.aload_n 0) 1 31 := ⟨by decide +kernel, rfl⟩
theorem dX6_unlike_31 : Dk kX6_unlike 31 (.getfield 43) 3 34 := ⟨by decide +kernel, rfl⟩
theorem dX6_unlike_34 : Dk kX6_unlike 34 (.bipush 40) 2 36 := ⟨by decide +kernel, rfl⟩
theorem dX6_unlike_36 : Dk kX6_unlike 36 (.iload_n 1) 1 37 := ⟨by decide +kernel, rfl⟩
theorem dX6_unlike_37 : Dk kX6_unlike 37 (.imul) 1 38 := ⟨by decide +kernel, rfl⟩
theorem dX6_unlike_38 : Dk kX6_unlike 38 (.iload 4) 2 40 := ⟨by decide +kernel, rfl⟩
theorem dX6_unlike_40 : Dk kX6_unlike 40 (.iadd) 1 41 := ⟨by decide +kernel, rfl⟩
theorem dX6_unlike_41 : Dk kX6_unlike 41 (.iaload) 1 42 := ⟨by decide +kernel, rfl⟩
theorem dX6_unlike_42 : Dk kX6_unlike 42 (.aload_n 0) 1 43 := ⟨by decide +kernel, rfl⟩
theorem dX6_unlike_43 : Dk kX6_unlike 43 (.getfield 16) 3 46 := ⟨by decide +kernel, rfl⟩
theorem dX6_unlike_46 : Dk kX6_unlike 46 (.iconst 3) 1 47 := ⟨by decide +kernel, rfl⟩
theorem dX6_unlike_47 : Dk kX6_unlike 47 (.iload_n 2) 1 48 := ⟨by decide +kernel, rfl⟩
theorem dX6_unlike_48 : Dk kX6_unlike 48 (.imul) 1 49 := ⟨by decide +kernel, rfl⟩
theorem dX6_unlike_49 : Dk kX6_unlike 49 (.iconst 1) 1 50 := ⟨by decide +kernel, rfl⟩
theorem dX6_unlike_50 : Dk kX6_unlike 50 (.iadd) 1 51 := ⟨by decide +kernel, rfl⟩
theorem dX6_unlike_51 : Dk kX6_unlike 51 (.iaload) 1 52 := ⟨by decide +kernel, rfl⟩
theorem dX6_unlike_52 : Dj kX6_unlike 52 (fun o => .if_icmp .ne o) 3 55 59 := ⟨7, by decide +kernel, rfl, by decide⟩
theorem dX6_unlike_55 : Dk kX6_unlike 55 (.iconst (-1)) 1 56 := ⟨by decide +kernel, rfl⟩
theorem dX6_unlike_56 : Dj kX6_unlike 56 (fun o => .goto o) 3 59 61 := ⟨5, by decide +kernel, rfl, by decide⟩
theorem dX6_unlike_59 : Dk kX6_unlike 59 (.iload 4) 2 61 := ⟨by decide +kernel, rfl⟩
theorem dX6_unlike_61 : Dk kX6_unlike 61 (.istore_n 3) 1 62 := ⟨by decide +kernel, rfl⟩
theorem dX6_unlike_62 : Dk kX6_unlike 62 (.iinc 4 1) 3 65 := ⟨by decide +kernel, rfl⟩
theorem dX6_unlike_65 : Dj kX6_unlike 65 (fun o => .goto o) 3 68 9 := ⟨-56, by decide +kernel, rfl, by decide⟩
theorem dX6_unlike_68 : Dk kX6_unlike 68 (.aload_n 0) 1 69 := ⟨by decide +kernel, rfl⟩
theorem dX6_unlike_69 : Dk kX6_unlike 69 (.invokevirtual 208) 3 72 := ⟨by decide +kernel, rfl⟩
theorem dX6_unlike_72 : Dk kX6_unlike 72 (.iload_n 3) 1 73 := ⟨by decide +kernel, rfl⟩
theorem dX6_unlike_73 : Dk kX6_unlike 73 (.ireturn) 1 74 := ⟨by decide +kernel, rfl⟩
theorem dX6_judge_0 : Dk kX6_judge 0 (.aload_n 0) 1 1 := ⟨by decide +kernel, rfl⟩
theorem dX6_judge_1 : Dk kX6_judge 1 (.iload_n 1) 1 2 := ⟨by decide +kernel, rfl⟩
theorem dX6_judge_2 : Dk kX6_judge 2 (.iload_n 2) 1 3 := ⟨by decide +kernel, rfl⟩
theorem dX6_judge_3 : Dk kX6_judge 3 (.invokevirtual 223) 3 6 := ⟨by decide +kernel, rfl⟩
theorem dX6_judge_6 : Dk kX6_judge 6 (.istore_n 3) 1 7 := ⟨by decide +kernel, rfl⟩
theorem dX6_judge_7 : Dk kX6_judge 7 (.iload_n 3) 1 8 := ⟨by decide +kernel, rfl⟩
theorem dX6_judge_8 : Dj kX6_judge 8 (fun o => .ifCond .ne o) 3 11 20 := ⟨12, by decide +kernel, rfl, by decide⟩
theorem dX6_judge_11 : Dk kX6_judge 11 (.aload_n 0) 1 12 := ⟨by decide +kernel, rfl⟩
theorem dX6_judge_12 : Dk kX6_judge 12 (.iload_n 1) 1 13 := ⟨by decide +kernel, rfl⟩
theorem dX6_judge_13 : Dk kX6_judge 13 (.iload_n 2) 1 14 := ⟨by decide +kernel, rfl⟩
theorem dX6_judge_14 : Dk kX6_judge 14 (.invokevirtual 226) 3 17 := ⟨by decide +kernel, rfl⟩
theorem dX6_judge_17 : Dj kX6_judge 17 (fun o => .goto o) 3 20 21 := ⟨4, by decide +kernel, rfl, by decide⟩
theorem dX6_judge_20 : Dk kX6_judge 20 (.iload_n 3) 1 21 := ⟨by decide +kernel, rfl⟩
theorem dX6_judge_21 : Dk kX6_judge 21 (.ireturn) 1 22 := ⟨by decide +kernel, rfl⟩
theorem dX6_kinds_0 : Dk kX6_kinds 0 (.aload_n 0) 1 1 := ⟨by decide +kernel, rfl⟩
theorem dX6_kinds_1 : Dk kX6_kinds 1 (.iload_n 1) 1 2 := ⟨by decide +kernel, rfl⟩
theorem dX6_kinds_2 : Dk kX6_kinds 2 (.iload_n 2) 1 3 := ⟨by decide +kernel, rfl⟩
theorem dX6_kinds_3 : Dk kX6_kinds 3 (.invokevirtual 223) 3 6 := ⟨by decide +kernel, rfl⟩
theorem dX6_kinds_6 : Dk kX6_kinds 6 (.istore 4) 2 8 := ⟨by decide +kernel, rfl⟩
theorem dX6_kinds_8 : Dk kX6_kinds 8 (.iload 4) 2 10 := ⟨by decide +kernel, rfl⟩
theorem dX6_kinds_10 : Dj kX6_kinds 10 (fun o => .ifCond .eq o) 3 13 16 := ⟨6, by decide +kernel, rfl, by decide⟩
theorem dX6_kinds_13 : Dk kX6_kinds 13 (.iload 4) 2 15 := ⟨by decide +kernel, rfl⟩
theorem dX6_kinds_15 : Dk kX6_kinds 15 (.ireturn) 1 16 := ⟨by decide +kernel, rfl⟩
theorem dX6_kinds_16 : Dk kX6_kinds 16 (.iload_n 3) 1 17 := ⟨by decide +kernel, rfl⟩
theorem dX6_kinds_17 : Dk kX6_kinds 17 (.iconst 0) 1 18 := ⟨by decide +kernel, rfl⟩
theorem dX6_kinds_18 : Dk kX6_kinds 18 (.iconst 1) 1 19 := ⟨by decide +kernel, rfl⟩
theorem dX6_kinds_19 : Dk kX6_kinds 19 (.invokestatic 75) 3 22 := ⟨by decide +kernel, rfl⟩
theorem dX6_kinds_22 : Dj kX6_kinds 22 (fun o => .ifCond .ne o) 3 25 28 := ⟨6, by decide +kernel, rfl, by decide⟩
theorem dX6_kinds_25 : Dk kX6_kinds 25 (.bipush (-7)) 2 27 := ⟨by decide +kernel, rfl⟩
theorem dX6_kinds_27 : Dk kX6_kinds 27 (.ireturn) 1 28 := ⟨by decide +kernel, rfl⟩
theorem dX6_kinds_28 : Dk kX6_kinds 28 (.aload_n 0) 1 29 := ⟨by decide +kernel, rfl⟩
theorem dX6_kinds_29 : Dk kX6_kinds 29 (.getfield 7) 3 32 := ⟨by decide +kernel, rfl⟩
theorem dX6_kinds_32 : Dk kX6_kinds 32 (.iload_n 2) 1 33 := ⟨by decide +kernel, rfl⟩
theorem dX6_kinds_33 : Dk kX6_kinds 33 (.iaload) 1 34 := ⟨by decide +kernel, rfl⟩
theorem dX6_kinds_34 : Dk kX6_kinds 34 (.istore 5) 2 36 := ⟨by decide +kernel, rfl⟩
theorem dX6_kinds_36 : Dk kX6_kinds 36 (.aload_n 0) 1 37 := ⟨by decide +kernel, rfl⟩
theorem dX6_kinds_37 : Dk kX6_kinds 37 (.getfield 13) 3 40 := ⟨by decide +kernel, rfl⟩
theorem dX6_kinds_40 : Dk kX6_kinds 40 (.iload_n 2) 1 41 := ⟨by decide +kernel, rfl⟩
theorem dX6_kinds_41 : Dk kX6_kinds 41 (.iaload) 1 42 := ⟨by decide +kernel, rfl⟩
theorem dX6_kinds_42 : Dk kX6_kinds 42 (.istore 6) 2 44 := ⟨by decide +kernel, rfl⟩
theorem dX6_kinds_44 : Dk kX6_kinds 44 (.iconst 0) 1 45 := ⟨by decide +kernel, rfl⟩
theorem dX6_kinds_45 : Dk kX6_kinds 45 (.istore 7) 2 47 := ⟨by decide +kernel, rfl⟩
theorem dX6_kinds_47 : Dk kX6_kinds 47 (.iconst 0) 1 48 := ⟨by decide +kernel, rfl⟩
theorem dX6_kinds_48 : Dk kX6_kinds 48 (.istore 8) 2 50 := ⟨by decide +kernel, rfl⟩
theorem dX6_kinds_50 : Dk kX6_kinds 50 (.iload 8) 2 52 := ⟨by decide +kernel, rfl⟩
theorem dX6_kinds_52 : Dk kX6_kinds 52 (.iload_n 3) 1 53 := ⟨by decide +kernel, rfl⟩
theorem dX6_kinds_53 : Dj kX6_kinds 53 (fun o => .ifCond .ne o) 3 56 61 := ⟨8, by decide +kernel, rfl, by decide⟩
theorem dX6_kinds_56 : Dk kX6_kinds 56 (.bipush 6) 2 58 := ⟨by decide +kernel, rfl⟩
theorem dX6_kinds_58 : Dj kX6_kinds 58 (fun o => .goto o) 3 61 63 := ⟨5, by decide +kernel, rfl, by decide⟩
theorem dX6_kinds_61 : Dk kX6_kinds 61 (.bipush 10) 2 63 := ⟨by decide +kernel, rfl⟩
theorem dX6_kinds_63 : Dj kX6_kinds 63 (fun o => .if_icmp .ge o) 3 66 130 := ⟨67, by decide +kernel, rfl, by decide⟩
theorem dX6_kinds_66 : Dk kX6_kinds 66 (.aload_n 0) 1 67 := ⟨by decide +kernel, rfl⟩
theorem dX6_kinds_67 : Dk kX6_kinds 67 (.getfield 7) 3 70 := ⟨by decide +kernel, rfl⟩
theorem dX6_kinds_70 : Dk kX6_kinds 70 (.iload_n 2) 1 71 := ⟨by decide +kernel, rfl⟩
theorem dX6_kinds_71 : Dk kX6_kinds 71 (.iload_n 3) 1 72 := ⟨by decide +kernel, rfl⟩
theorem dX6_kinds_72 : Dj kX6_kinds 72 (fun o => .ifCond .ne o) 3 75 80 := ⟨8, by decide +kernel, rfl, by decide⟩
theorem dX6_kinds_75 : Dk kX6_kinds 75 (.iload 8) 2 77 := ⟨by decide +kernel, rfl⟩
theorem dX6_kinds_77 : Dj kX6_kinds 77 (fun o => .goto o) 3 80 82 := ⟨5, by decide +kernel, rfl, by decide⟩
theorem dX6_kinds_80 : Dk kX6_kinds 80 (.iload 5) 2 82 := ⟨by decide +kernel, rfl⟩
theorem dX6_kinds_82 : Dk kX6_kinds 82 (.iastore) 1 83 := ⟨by decide +kernel, rfl⟩
theorem dX6_kinds_83 : Dk kX6_kinds 83 (.aload_n 0) 1 84 := ⟨by decide +kernel, rfl⟩
theorem dX6_kinds_84 : Dk kX6_kinds 84 (.getfield 13) 3 87 := ⟨by decide +kernel, rfl⟩
theorem dX6_kinds_87 : Dk kX6_kinds 87 (.iload_n 2) 1 88 := ⟨by decide +kernel, rfl⟩
theorem dX6_kinds_88 : Dk kX6_kinds 88 (.iload_n 3) 1 89 := ⟨by decide +kernel, rfl⟩
theorem dX6_kinds_89 : Dk kX6_kinds 89 (.iconst 1) 1 90 := ⟨by decide +kernel, rfl⟩
theorem dX6_kinds_90 : Dj kX6_kinds 90 (fun o => .if_icmp .ne o) 3 93 98 := ⟨8, by decide +kernel, rfl, by decide⟩
theorem dX6_kinds_93 : Dk kX6_kinds 93 (.iload 8) 2 95 := ⟨by decide +kernel, rfl⟩
theorem dX6_kinds_95 : Dj kX6_kinds 95 (fun o => .goto o) 3 98 100 := ⟨5, by decide +kernel, rfl, by decide⟩
theorem dX6_kinds_98 : Dk kX6_kinds 98 (.iload 6) 2 100 := ⟨by decide +kernel, rfl⟩
theorem dX6_kinds_100 : Dk kX6_kinds 100 (.iastore) 1 101 := ⟨by decide +kernel, rfl⟩
theorem dX6_kinds_101 : Dk kX6_kinds 101 (.iload 7) 2 103 := ⟨by decide +kernel, rfl⟩
theorem dX6_kinds_103 : Dk kX6_kinds 103 (.aload_n 0) 1 104 := ⟨by decide +kernel, rfl⟩
theorem dX6_kinds_104 : Dk kX6_kinds 104 (.iload_n 1) 1 105 := ⟨by decide +kernel, rfl⟩
theorem dX6_kinds_105 : Dk kX6_kinds 105 (.iload_n 2) 1 106 := ⟨by decide +kernel, rfl⟩
theorem dX6_kinds_106 : Dk kX6_kinds 106 (.invokevirtual 226) 3 109 := ⟨by decide +kernel, rfl⟩
theorem dX6_kinds_109 : Dk kX6_kinds 109 (.iconst (-1)) 1 110 := ⟨by decide +kernel, rfl⟩
theorem dX6_kinds_110 : Dj kX6_kinds 110 (fun o => .if_icmp .ne o) 3 113 120 := ⟨10, by decide +kernel, rfl, by decide⟩
theorem dX6_kinds_113 : Dk kX6_kinds 113 (.iconst 1) 1 114 := ⟨by decide +kernel, rfl⟩
theorem dX6_kinds_114 : Dk kX6_kinds 114 (.iload 8) 2 116 := ⟨by decide +kernel, rfl⟩
theorem dX6_kinds_116 : Dk kX6_kinds 116 (.ishl) 1 117 := ⟨by decide +kernel, rfl⟩
theorem dX6_kinds_117 : Dj kX6_kinds 117 (fun o => .goto o) 3 120 121 := ⟨4, by decide +kernel, rfl, by decide⟩
theorem dX6_kinds_120 : Dk kX6_kinds 120 (.iconst 0) 1 121 := ⟨by decide +kernel, rfl⟩
theorem dX6_kinds_121 : Dk kX6_kinds 121 (.ior) 1 122 := ⟨by decide +kernel, rfl⟩
theorem dX6_kinds_122 : Dk kX6_kinds 122 (.istore 7) 2 124 := ⟨by decide +kernel, rfl⟩
theorem dX6_kinds_124 : Dk kX6_kinds 124 (.iinc 8 1) 3 127 := ⟨by decide +kernel, rfl⟩
theorem dX6_kinds_127 : Dj kX6_kinds 127 (fun o => .goto o) 3 130 50 := ⟨-77, by decide +kernel, rfl, by decide⟩
theorem dX6_kinds_130 : Dk kX6_kinds 130 (.aload_n 0) 1 131 := ⟨by decide +kernel, rfl⟩
theorem dX6_kinds_131 : Dk kX6_kinds 131 (.getfield 7) 3 134 := ⟨by decide +kernel, rfl⟩
theorem dX6_kinds_134 : Dk kX6_kinds 134 (.iload_n 2) 1 135 := ⟨by decide +kernel, rfl⟩
theorem dX6_kinds_135 : Dk kX6_kinds 135 (.iload 5) 2 137 := ⟨by decide +kernel, rfl⟩
theorem dX6_kinds_137 : Dk kX6_kinds 137 (.iastore) 1 138 := ⟨by decide +kernel, rfl⟩
theorem dX6_kinds_138 : Dk kX6_kinds 138 (.aload_n 0) 1 139 := ⟨by decide +kernel, rfl⟩
theorem dX6_kinds_139 : Dk kX6_kinds 139 (.getfield 13) 3 142 := ⟨by decide +kernel, rfl⟩
theorem dX6_kinds_142 : Dk kX6_kinds 142 (.iload_n 2) 1 143 := ⟨by decide +kernel, rfl⟩
theorem dX6_kinds_143 : Dk kX6_kinds 143 (.iload 6) 2 145 := ⟨by decide +kernel, rfl⟩
theorem dX6_kinds_145 : Dk kX6_kinds 145 (.iastore) 1 146 := ⟨by decide +kernel, rfl⟩
theorem dX6_kinds_146 : Dk kX6_kinds 146 (.iload 7) 2 148 := ⟨by decide +kernel, rfl⟩
theorem dX6_kinds_148 : Dk kX6_kinds 148 (.ireturn) 1 149 := ⟨by decide +kernel, rfl⟩
theorem dX6_doors_0 : Dk kX6_doors 0 (.aload_n 0) 1 1 := ⟨by decide +kernel, rfl⟩
theorem dX6_doors_1 : Dk kX6_doors 1 (.iload_n 1) 1 2 := ⟨by decide +kernel, rfl⟩
theorem dX6_doors_2 : Dk kX6_doors 2 (.iload_n 2) 1 3 := ⟨by decide +kernel, rfl⟩
theorem dX6_doors_3 : Dk kX6_doors 3 (.invokevirtual 223) 3 6 := ⟨by decide +kernel, rfl⟩
theorem dX6_doors_6 : Dk kX6_doors 6 (.istore_n 3) 1 7 := ⟨by decide +kernel, rfl⟩
theorem dX6_doors_7 : Dk kX6_doors 7 (.iload_n 3) 1 8 := ⟨by decide +kernel, rfl⟩
theorem dX6_doors_8 : Dj kX6_doors 8 (fun o => .ifCond .eq o) 3 11 13 := ⟨5, by decide +kernel, rfl, by decide⟩
theorem dX6_doors_11 : Dk kX6_doors 11 (.iload_n 3) 1 12 := ⟨by decide +kernel, rfl⟩
theorem dX6_doors_12 : Dk kX6_doors 12 (.ireturn) 1 13 := ⟨by decide +kernel, rfl⟩
theorem dX6_doors_13 : Dk kX6_doors 13 (.aload_n 0) 1 14 := ⟨by decide +kernel, rfl⟩
theorem dX6_doors_14 : Dk kX6_doors 14 (.getfield 16) 3 17 := ⟨by decide +kernel, rfl⟩
theorem dX6_doors_17 : Dk kX6_doors 17 (.iconst 3) 1 18 := ⟨by decide +kernel, rfl⟩
theorem dX6_doors_18 : Dk kX6_doors 18 (.iload_n 2) 1 19 := ⟨by decide +kernel, rfl⟩
theorem dX6_doors_19 : Dk kX6_doors 19 (.imul) 1 20 := ⟨by decide +kernel, rfl⟩
theorem dX6_doors_20 : Dk kX6_doors 20 (.iaload) 1 21 := ⟨by decide +kernel, rfl⟩
theorem dX6_doors_21 : Dk kX6_doors 21 (.istore 4) 2 23 := ⟨by decide +kernel, rfl⟩
theorem dX6_doors_23 : Dk kX6_doors 23 (.iconst 0) 1 24 := ⟨by decide +kernel, rfl⟩
theorem dX6_doors_24 : Dk kX6_doors 24 (.istore 5) 2 26 := ⟨by decide +kernel, rfl⟩
theorem dX6_doors_26 : Dk kX6_doors 26 (.iconst 0) 1 27 := ⟨by decide +kernel, rfl⟩
theorem dX6_doors_27 : Dk kX6_doors 27 (.istore 6) 2 29 := ⟨by decide +kernel, rfl⟩
theorem dX6_doors_29 : Dk kX6_doors 29 (.iload 6) 2 31 := ⟨by decide +kernel, rfl⟩
theorem dX6_doors_31 : Dk kX6_doors 31 (.bipush 8) 2 33 := ⟨by decide +kernel, rfl⟩
theorem dX6_doors_33 : Dj kX6_doors 33 (fun o => .if_icmp .ge o) 3 36 75 := ⟨42, by decide +kernel, rfl, by decide⟩
theorem dX6_doors_36 : Dk kX6_doors 36 (.aload_n 0) 1 37 := ⟨by decide +kernel, rfl⟩
theorem dX6_doors_37 : Dk kX6_doors 37 (.getfield 16) 3 40 := ⟨by decide +kernel, rfl⟩
theorem dX6_doors_40 : Dk kX6_doors 40 (.iconst 3) 1 41 := ⟨by decide +kernel, rfl⟩
theorem dX6_doors_41 : Dk kX6_doors 41 (.iload_n 2) 1 42 := ⟨by decide +kernel, rfl⟩
theorem dX6_doors_42 : Dk kX6_doors 42 (.imul) 1 43 := ⟨by decide +kernel, rfl⟩
theorem dX6_doors_43 : Dk kX6_doors 43 (.iload 6) 2 45 := ⟨by decide +kernel, rfl⟩
theorem dX6_doors_45 : Dk kX6_doors 45 (.iastore) 1 46 := ⟨by decide +kernel, rfl⟩
theorem dX6_doors_46 : Dk kX6_doors 46 (.iload 5) 2 48 := ⟨by decide +kernel, rfl⟩
theorem dX6_doors_48 : Dk kX6_doors 48 (.aload_n 0) 1 49 := ⟨by decide +kernel, rfl⟩
theorem dX6_doors_49 : Dk kX6_doors 49 (.iload_n 1) 1 50 := ⟨by decide +kernel, rfl⟩
theorem dX6_doors_50 : Dk kX6_doors 50 (.iload_n 2) 1 51 := ⟨by decide +kernel, rfl⟩
theorem dX6_doors_51 : Dk kX6_doors 51 (.invokevirtual 226) 3 54 := ⟨by decide +kernel, rfl⟩
theorem dX6_doors_54 : Dk kX6_doors 54 (.iconst (-1)) 1 55 := ⟨by decide +kernel, rfl⟩
theorem dX6_doors_55 : Dj kX6_doors 55 (fun o => .if_icmp .ne o) 3 58 65 := ⟨10, by decide +kernel, rfl, by decide⟩
theorem dX6_doors_58 : Dk kX6_doors 58 (.iconst 1) 1 59 := ⟨by decide +kernel, rfl⟩
theorem dX6_doors_59 : Dk kX6_doors 59 (.iload 6) 2 61 := ⟨by decide +kernel, rfl⟩
theorem dX6_doors_61 : Dk kX6_doors 61 (.ishl) 1 62 := ⟨by decide +kernel, rfl⟩
theorem dX6_doors_62 : Dj kX6_doors 62 (fun o => .goto o) 3 65 66 := ⟨4, by decide +kernel, rfl, by decide⟩
theorem dX6_doors_65 : Dk kX6_doors 65 (.iconst 0) 1 66 := ⟨by decide +kernel, rfl⟩
theorem dX6_doors_66 : Dk kX6_doors 66 (.ior) 1 67 := ⟨by decide +kernel, rfl⟩
theorem dX6_doors_67 : Dk kX6_doors 67 (.istore 5) 2 69 := ⟨by decide +kernel, rfl⟩
theorem dX6_doors_69 : Dk kX6_doors 69 (.iinc 6 1) 3 72 := ⟨by decide +kernel, rfl⟩
theorem dX6_doors_72 : Dj kX6_doors 72 (fun o => .goto o) 3 75 29 := ⟨-43, by decide +kernel, rfl, by decide⟩
theorem dX6_doors_75 : Dk kX6_doors 75 (.aload_n 0) 1 76 := ⟨by decide +kernel, rfl⟩
theorem dX6_doors_76 : Dk kX6_doors 76 (.getfield 16) 3 79 := ⟨by decide +kernel, rfl⟩
theorem dX6_doors_79 : Dk kX6_doors 79 (.iconst 3) 1 80 := ⟨by decide +kernel, rfl⟩
theorem dX6_doors_80 : Dk kX6_doors 80 (.iload_n 2) 1 81 := ⟨by decide +kernel, rfl⟩
theorem dX6_doors_81 : Dk kX6_doors 81 (.imul) 1 82 := ⟨by decide +kernel, rfl⟩
theorem dX6_doors_82 : Dk kX6_doors 82 (.iload 4) 2 84 := ⟨by decide +kernel, rfl⟩
theorem dX6_doors_84 : Dk kX6_doors 84 (.iastore) 1 85 := ⟨by decide +kernel, rfl⟩
theorem dX6_doors_85 : Dk kX6_doors 85 (.iload 5) 2 87 := ⟨by decide +kernel, rfl⟩
theorem dX6_doors_87 : Dk kX6_doors 87 (.ireturn) 1 88 := ⟨by decide +kernel, rfl⟩
theorem dX6_baskets_0 : Dk kX6_baskets 0 (.aload_n 0) 1 1 := ⟨by decide +kernel, rfl⟩
theorem dX6_baskets_1 : Dk kX6_baskets 1 (.iload_n 1) 1 2 := ⟨by decide +kernel, rfl⟩
theorem dX6_baskets_2 : Dk kX6_baskets 2 (.iload_n 2) 1 3 := ⟨by decide +kernel, rfl⟩
theorem dX6_baskets_3 : Dk kX6_baskets 3 (.invokevirtual 223) 3 6 := ⟨by decide +kernel, rfl⟩
theorem dX6_baskets_6 : Dk kX6_baskets 6 (.istore 4) 2 8 := ⟨by decide +kernel, rfl⟩
theorem dX6_baskets_8 : Dk kX6_baskets 8 (.iload 4) 2 10 := ⟨by decide +kernel, rfl⟩
theorem dX6_baskets_10 : Dj kX6_baskets 10 (fun o => .ifCond .eq o) 3 13 16 := ⟨6, by decide +kernel, rfl, by decide⟩
theorem dX6_baskets_13 : Dk kX6_baskets 13 (.iload 4) 2 15 := ⟨by decide +kernel, rfl⟩
theorem dX6_baskets_15 : Dk kX6_baskets 15 (.ireturn) 1 16 := ⟨by decide +kernel, rfl⟩
theorem dX6_baskets_16 : Dk kX6_baskets 16 (.iload_n 3) 1 17 := ⟨by decide +kernel, rfl⟩
theorem dX6_baskets_17 : Dk kX6_baskets 17 (.iconst 0) 1 18 := ⟨by decide +kernel, rfl⟩
theorem dX6_baskets_18 : Dk kX6_baskets 18 (.iconst 1) 1 19 := ⟨by decide +kernel, rfl⟩
theorem dX6_baskets_19 : Dk kX6_baskets 19 (.invokestatic 75) 3 22 := ⟨by decide +kernel, rfl⟩
theorem dX6_baskets_22 : Dj kX6_baskets 22 (fun o => .ifCond .ne o) 3 25 28 := ⟨6, by decide +kernel, rfl, by decide⟩
theorem dX6_baskets_25 : Dk kX6_baskets 25 (.bipush (-7)) 2 27 := ⟨by decide +kernel, rfl⟩
theorem dX6_baskets_27 : Dk kX6_baskets 27 (.ireturn) 1 28 := ⟨by decide +kernel, rfl⟩
theorem dX6_baskets_28 : Dk kX6_baskets 28 (.aload_n 0) 1 29 := ⟨by decide +kernel, rfl⟩
theorem dX6_baskets_29 : Dk kX6_baskets 29 (.getfield 16) 3 32 := ⟨by decide +kernel, rfl⟩
theorem dX6_baskets_32 : Dk kX6_baskets 32 (.iconst 3) 1 33 := ⟨by decide +kernel, rfl⟩
theorem dX6_baskets_33 : Dk kX6_baskets 33 (.iload_n 2) 1 34 := ⟨by decide +kernel, rfl⟩
theorem dX6_baskets_34 : Dk kX6_baskets 34 (.imul) 1 35 := ⟨by decide +kernel, rfl⟩
theorem dX6_baskets_35 : Dk kX6_baskets 35 (.iconst 1) 1 36 := ⟨by decide +kernel, rfl⟩
theorem dX6_baskets_36 : Dk kX6_baskets 36 (.iadd) 1 37 := ⟨by decide +kernel, rfl⟩
theorem dX6_baskets_37 : Dk kX6_baskets 37 (.iaload) 1 38 := ⟨by decide +kernel, rfl⟩
theorem dX6_baskets_38 : Dk kX6_baskets 38 (.istore 5) 2 40 := ⟨by decide +kernel, rfl⟩
theorem dX6_baskets_40 : Dk kX6_baskets 40 (.iconst 0) 1 41 := ⟨by decide +kernel, rfl⟩
theorem dX6_baskets_41 : Dk kX6_baskets 41 (.istore 6) 2 43 := ⟨by decide +kernel, rfl⟩
theorem dX6_baskets_43 : Dk kX6_baskets 43 (.iconst (-1)) 1 44 := ⟨by decide +kernel, rfl⟩
theorem dX6_baskets_44 : Dk kX6_baskets 44 (.istore 7) 2 46 := ⟨by decide +kernel, rfl⟩
theorem dX6_baskets_46 : Dk kX6_baskets 46 (.iconst 0) 1 47 := ⟨by decide +kernel, rfl⟩
theorem dX6_baskets_47 : Dk kX6_baskets 47 (.istore 8) 2 49 := ⟨by decide +kernel, rfl⟩
theorem dX6_baskets_49 : Dk kX6_baskets 49 (.iload 8) 2 51 := ⟨by decide +kernel, rfl⟩
theorem dX6_baskets_51 : Dk kX6_baskets 51 (.bipush 99) 2 53 := ⟨by decide +kernel, rfl⟩
theorem dX6_baskets_53 : Dj kX6_baskets 53 (fun o => .if_icmp .gt o) 3 56 126 := ⟨73, by decide +kernel, rfl, by decide⟩
theorem dX6_baskets_56 : Dk kX6_baskets 56 (.aload_n 0) 1 57 := ⟨by decide +kernel, rfl⟩
theorem dX6_baskets_57 : Dk kX6_baskets 57 (.getfield 16) 3 60 := ⟨by decide +kernel, rfl⟩
theorem dX6_baskets_60 : Dk kX6_baskets 60 (.iconst 3) 1 61 := ⟨by decide +kernel, rfl⟩
theorem dX6_baskets_61 : Dk kX6_baskets 61 (.iload_n 2) 1 62 := ⟨by decide +kernel, rfl⟩
theorem dX6_baskets_62 : Dk kX6_baskets 62 (.imul) 1 63 := ⟨by decide +kernel, rfl⟩
theorem dX6_baskets_63 : Dk kX6_baskets 63 (.iconst 1) 1 64 := ⟨by decide +kernel, rfl⟩
theorem dX6_baskets_64 : Dk kX6_baskets 64 (.iadd) 1 65 := ⟨by decide +kernel, rfl⟩
theorem dX6_baskets_65 : Dk kX6_baskets 65 (.iload 8) 2 67 := ⟨by decide +kernel, rfl⟩
theorem dX6_baskets_67 : Dk kX6_baskets 67 (.iastore) 1 68 := ⟨by decide +kernel, rfl⟩
theorem dX6_baskets_68 : Dk kX6_baskets 68 (.aload_n 0) 1 69 := ⟨by decide +kernel, rfl⟩
theorem dX6_baskets_69 : Dk kX6_baskets 69 (.iload_n 1) 1 70 := ⟨by decide +kernel, rfl⟩
theorem dX6_baskets_70 : Dk kX6_baskets 70 (.iload_n 2) 1 71 := ⟨by decide +kernel, rfl⟩
theorem dX6_baskets_71 : Dk kX6_baskets 71 (.invokevirtual 226) 3 74 := ⟨by decide +kernel, rfl⟩
theorem dX6_baskets_74 : Dk kX6_baskets 74 (.iconst (-1)) 1 75 := ⟨by decide +kernel, rfl⟩
theorem dX6_baskets_75 : Dj kX6_baskets 75 (fun o => .if_icmp .ne o) 3 78 82 := ⟨7, by decide +kernel, rfl, by decide⟩
theorem dX6_baskets_78 : Dk kX6_baskets 78 (.iconst 1) 1 79 := ⟨by decide +kernel, rfl⟩
theorem dX6_baskets_79 : Dj kX6_baskets 79 (fun o => .goto o) 3 82 83 := ⟨4, by decide +kernel, rfl, by decide⟩
theorem dX6_baskets_82 : Dk kX6_baskets 82 (.iconst 0) 1 83 := ⟨by decide +kernel, rfl⟩
theorem dX6_baskets_83 : Dk kX6_baskets 83 (.istore 9) 2 85 := ⟨by decide +kernel, rfl⟩
theorem dX6_baskets_85 : Dk kX6_baskets 85 (.iload 6) 2 87 := ⟨by decide +kernel, rfl⟩
theorem dX6_baskets_87 : Dk kX6_baskets 87 (.iload 9) 2 89 := ⟨by decide +kernel, rfl⟩
theorem dX6_baskets_89 : Dj kX6_baskets 89 (fun o => .ifCond .eq o) 3 92 96 := ⟨7, by decide +kernel, rfl, by decide⟩
theorem dX6_baskets_92 : Dk kX6_baskets 92 (.iconst 1) 1 93 := ⟨by decide +kernel, rfl⟩
theorem dX6_baskets_93 : Dj kX6_baskets 93 (fun o => .goto o) 3 96 97 := ⟨4, by decide +kernel, rfl, by decide⟩
theorem dX6_baskets_96 : Dk kX6_baskets 96 (.iconst 0) 1 97 := ⟨by decide +kernel, rfl⟩
theorem dX6_baskets_97 : Dk kX6_baskets 97 (.iadd) 1 98 := ⟨by decide +kernel, rfl⟩
theorem dX6_baskets_98 : Dk kX6_baskets 98 (.istore 6) 2 100 := ⟨by decide +kernel, rfl⟩
theorem dX6_baskets_100 : Dk kX6_baskets 100 (.iload 9) 2 102 := ⟨by decide +kernel, rfl⟩
theorem dX6_baskets_102 : Dj kX6_baskets 102 (fun o => .ifCond .eq o) 3 105 116 := ⟨14, by decide +kernel, rfl, by decide⟩
theorem dX6_baskets_105 : Dk kX6_baskets 105 (.iload 7) 2 107 := ⟨by decide +kernel, rfl⟩
theorem dX6_baskets_107 : Dk kX6_baskets 107 (.iconst (-1)) 1 108 := ⟨by decide +kernel, rfl⟩
theorem dX6_baskets_108 : Dj kX6_baskets 108 (fun o => .if_icmp .ne o) 3 111 116 := ⟨8, by decide +kernel, rfl, by decide⟩
theorem dX6_baskets_111 : Dk kX6_baskets 111 (.iload 8) 2 113 := ⟨by decide +kernel, rfl⟩
theorem dX6_baskets_113 : Dj kX6_baskets 113 (fun o => .goto o) 3 116 118 := ⟨5, by decide +kernel, rfl, by decide⟩
theorem dX6_baskets_116 : Dk kX6_baskets 116 (.iload 7) 2 118 := ⟨by decide +kernel, rfl⟩
theorem dX6_baskets_118 : Dk kX6_baskets 118 (.istore 7) 2 120 := ⟨by decide +kernel, rfl⟩
theorem dX6_baskets_120 : Dk kX6_baskets 120 (.iinc 8 1) 3 123 := ⟨by decide +kernel, rfl⟩
theorem dX6_baskets_123 : Dj kX6_baskets 123 (fun o => .goto o) 3 126 49 := ⟨-74, by decide +kernel, rfl, by decide⟩
theorem dX6_baskets_126 : Dk kX6_baskets 126 (.aload_n 0) 1 127 := ⟨by decide +kernel, rfl⟩
theorem dX6_baskets_127 : Dk kX6_baskets 127 (.getfield 16) 3 130 := ⟨by decide +kernel, rfl⟩
theorem dX6_baskets_130 : Dk kX6_baskets 130 (.iconst 3) 1 131 := ⟨by decide +kernel, rfl⟩
theorem dX6_baskets_131 : Dk kX6_baskets 131 (.iload_n 2) 1 132 := ⟨by decide +kernel, rfl⟩
theorem dX6_baskets_132 : Dk kX6_baskets 132 (.imul) 1 133 := ⟨by decide +kernel, rfl⟩
theorem dX6_baskets_133 : Dk kX6_baskets 133 (.iconst 1) 1 134 := ⟨by decide +kernel, rfl⟩
theorem dX6_baskets_134 : Dk kX6_baskets 134 (.iadd) 1 135 := ⟨by decide +kernel, rfl⟩
theorem dX6_baskets_135 : Dk kX6_baskets 135 (.iload 5) 2 137 := ⟨by decide +kernel, rfl⟩
theorem dX6_baskets_137 : Dk kX6_baskets 137 (.iastore) 1 138 := ⟨by decide +kernel, rfl⟩
theorem dX6_baskets_138 : Dk kX6_baskets 138 (.iload_n 3) 1 139 := ⟨by decide +kernel, rfl⟩
theorem dX6_baskets_139 : Dj kX6_baskets 139 (fun o => .ifCond .ne o) 3 142 147 := ⟨8, by decide +kernel, rfl, by decide⟩
theorem dX6_baskets_142 : Dk kX6_baskets 142 (.iload 6) 2 144 := ⟨by decide +kernel, rfl⟩
theorem dX6_baskets_144 : Dj kX6_baskets 144 (fun o => .goto o) 3 147 149 := ⟨5, by decide +kernel, rfl, by decide⟩
theorem dX6_baskets_147 : Dk kX6_baskets 147 (.iload 7) 2 149 := ⟨by decide +kernel, rfl⟩
theorem dX6_baskets_149 : Dk kX6_baskets 149 (.ireturn) 1 150 := ⟨by decide +kernel, rfl⟩
theorem dX6_firsts_0 : Dk kX6_firsts 0 (.aload_n 0) 1 1 := ⟨by decide +kernel, rfl⟩
theorem dX6_firsts_1 : Dk kX6_firsts 1 (.iload_n 1) 1 2 := ⟨by decide +kernel, rfl⟩
theorem dX6_firsts_2 : Dk kX6_firsts 2 (.iload_n 2) 1 3 := ⟨by decide +kernel, rfl⟩
theorem dX6_firsts_3 : Dk kX6_firsts 3 (.invokevirtual 223) 3 6 := ⟨by decide +kernel, rfl⟩
theorem dX6_firsts_6 : Dk kX6_firsts 6 (.istore 4) 2 8 := ⟨by decide +kernel, rfl⟩
theorem dX6_firsts_8 : Dk kX6_firsts 8 (.iload 4) 2 10 := ⟨by decide +kernel, rfl⟩
theorem dX6_firsts_10 : Dj kX6_firsts 10 (fun o => .ifCond .eq o) 3 13 16 := ⟨6, by decide +kernel, rfl, by decide⟩
theorem dX6_firsts_13 : Dk kX6_firsts 13 (.iload 4) 2 15 := ⟨by decide +kernel, rfl⟩
theorem dX6_firsts_15 : Dk kX6_firsts 15 (.ireturn) 1 16 := ⟨by decide +kernel, rfl⟩
theorem dX6_firsts_16 : Dk kX6_firsts 16 (.iload_n 3) 1 17 := ⟨by decide +kernel, rfl⟩
theorem dX6_firsts_17 : Dk kX6_firsts 17 (.invokestatic 95) 3 20 := ⟨by decide +kernel, rfl⟩
theorem dX6_firsts_20 : Dj kX6_firsts 20 (fun o => .ifCond .ne o) 3 23 26 := ⟨6, by decide +kernel, rfl, by decide⟩
theorem dX6_firsts_23 : Dk kX6_firsts 23 (.bipush (-7)) 2 25 := ⟨by decide +kernel, rfl⟩
theorem dX6_firsts_25 : Dk kX6_firsts 25 (.ireturn) 1 26 := ⟨by decide +kernel, rfl⟩
theorem dX6_firsts_26 : Dk kX6_firsts 26 (.aload_n 0) 1 27 := ⟨by decide +kernel, rfl⟩
theorem dX6_firsts_27 : Dk kX6_firsts 27 (.getfield 19) 3 30 := ⟨by decide +kernel, rfl⟩
theorem dX6_firsts_30 : Dk kX6_firsts 30 (.iconst 3) 1 31 := ⟨by decide +kernel, rfl⟩
theorem dX6_firsts_31 : Dk kX6_firsts 31 (.iload_n 3) 1 32 := ⟨by decide +kernel, rfl⟩
theorem dX6_firsts_32 : Dk kX6_firsts 32 (.imul) 1 33 := ⟨by decide +kernel, rfl⟩
theorem dX6_firsts_33 : Dk kX6_firsts 33 (.iconst 1) 1 34 := ⟨by decide +kernel, rfl⟩
theorem dX6_firsts_34 : Dk kX6_firsts 34 (.iadd) 1 35 := ⟨by decide +kernel, rfl⟩
theorem dX6_firsts_35 : Dk kX6_firsts 35 (.iaload) 1 36 := ⟨by decide +kernel, rfl⟩
theorem dX6_firsts_36 : Dk kX6_firsts 36 (.istore 5) 2 38 := ⟨by decide +kernel, rfl⟩
theorem dX6_firsts_38 : Dk kX6_firsts 38 (.iconst 0) 1 39 := ⟨by decide +kernel, rfl⟩
theorem dX6_firsts_39 : Dk kX6_firsts 39 (.istore 6) 2 41 := ⟨by decide +kernel, rfl⟩
theorem dX6_firsts_41 : Dk kX6_firsts 41 (.iconst 0) 1 42 := ⟨by decide +kernel, rfl⟩
theorem dX6_firsts_42 : Dk kX6_firsts 42 (.istore 7) 2 44 := ⟨by decide +kernel, rfl⟩
theorem dX6_firsts_44 : Dk kX6_firsts 44 (.iload 7) 2 46 := ⟨by decide +kernel, rfl⟩
theorem dX6_firsts_46 : Dk kX6_firsts 46 (.aload_n 0) 1 47 := ⟨by decide +kernel, rfl⟩
theorem dX6_firsts_47 : Dk kX6_firsts 47 (.getfield 72) 3 50 := ⟨by decide +kernel, rfl⟩
theorem dX6_firsts_50 : Dj kX6_firsts 50 (fun o => .if_icmp .gt o) 3 53 121 := ⟨71, by decide +kernel, rfl, by decide⟩
theorem dX6_firsts_53 : Dk kX6_firsts 53 (.aload_n 0) 1 54 := ⟨by decide +kernel, rfl⟩
theorem dX6_firsts_54 : Dk kX6_firsts 54 (.getfield 19) 3 57 := ⟨by decide +kernel, rfl⟩
theorem dX6_firsts_57 : Dk kX6_firsts 57 (.iconst 3) 1 58 := ⟨by decide +kernel, rfl⟩
theorem dX6_firsts_58 : Dk kX6_firsts 58 (.iload_n 3) 1 59 := ⟨by decide +kernel, rfl⟩
theorem dX6_firsts_59 : Dk kX6_firsts 59 (.imul) 1 60 := ⟨by decide +kernel, rfl⟩
theorem dX6_firsts_60 : Dk kX6_firsts 60 (.iconst 1) 1 61 := ⟨by decide +kernel, rfl⟩
theorem dX6_firsts_61 : Dk kX6_firsts 61 (.iadd) 1 62 := ⟨by decide +kernel, rfl⟩
theorem dX6_firsts_62 : Dk kX6_firsts 62 (.iload 7) 2 64 := ⟨by decide +kernel, rfl⟩
theorem dX6_firsts_64 : Dk kX6_firsts 64 (.aload_n 0) 1 65 := ⟨by decide +kernel, rfl⟩
theorem dX6_firsts_65 : Dk kX6_firsts 65 (.getfield 72) 3 68 := ⟨by decide +kernel, rfl⟩
theorem dX6_firsts_68 : Dj kX6_firsts 68 (fun o => .if_icmp .ne o) 3 71 75 := ⟨7, by decide +kernel, rfl, by decide⟩
theorem dX6_firsts_71 : Dk kX6_firsts 71 (.iconst (-1)) 1 72 := ⟨by decide +kernel, rfl⟩
theorem dX6_firsts_72 : Dj kX6_firsts 72 (fun o => .goto o) 3 75 77 := ⟨5, by decide +kernel, rfl, by decide⟩
theorem dX6_firsts_75 : Dk kX6_firsts 75 (.iload 7) 2 77 := ⟨by decide +kernel, rfl⟩
theorem dX6_firsts_77 : Dk kX6_firsts 77 (.iastore) 1 78 := ⟨by decide +kernel, rfl⟩
theorem dX6_firsts_78 : Dk kX6_firsts 78 (.iload 6) 2 80 := ⟨by decide +kernel, rfl⟩
theorem dX6_firsts_80 : Dk kX6_firsts 80 (.aload_n 0) 1 81 := ⟨by decide +kernel, rfl⟩
theorem dX6_firsts_81 : Dk kX6_firsts 81 (.iload_n 1) 1 82 := ⟨by decide +kernel, rfl⟩
theorem dX6_firsts_82 : Dk kX6_firsts 82 (.iload_n 2) 1 83 := ⟨by decide +kernel, rfl⟩
theorem dX6_firsts_83 : Dk kX6_firsts 83 (.invokevirtual 226) 3 86 := ⟨by decide +kernel, rfl⟩
theorem dX6_firsts_86 : Dk kX6_firsts 86 (.iconst (-1)) 1 87 := ⟨by decide +kernel, rfl⟩
theorem dX6_firsts_87 : Dj kX6_firsts 87 (fun o => .if_icmp .ne o) 3 90 111 := ⟨24, by decide +kernel, rfl, by decide⟩
theorem dX6_firsts_90 : Dk kX6_firsts 90 (.iconst 1) 1 91 := ⟨by decide +kernel, rfl⟩
theorem dX6_firsts_91 : Dk kX6_firsts 91 (.iload 7) 2 93 := ⟨by decide +kernel, rfl⟩
theorem dX6_firsts_93 : Dk kX6_firsts 93 (.aload_n 0) 1 94 := ⟨by decide +kernel, rfl⟩
theorem dX6_firsts_94 : Dk kX6_firsts 94 (.getfield 72) 3 97 := ⟨by decide +kernel, rfl⟩
theorem dX6_firsts_97 : Dj kX6_firsts 97 (fun o => .if_icmp .ne o) 3 100 105 := ⟨8, by decide +kernel, rfl, by decide⟩
theorem dX6_firsts_100 : Dk kX6_firsts 100 (.bipush 6) 2 102 := ⟨by decide +kernel, rfl⟩
theorem dX6_firsts_102 : Dj kX6_firsts 102 (fun o => .goto o) 3 105 107 := ⟨5, by decide +kernel, rfl, by decide⟩
theorem dX6_firsts_105 : Dk kX6_firsts 105 (.iload 7) 2 107 := ⟨by decide +kernel, rfl⟩
theorem dX6_firsts_107 : Dk kX6_firsts 107 (.ishl) 1 108 := ⟨by decide +kernel, rfl⟩
theorem dX6_firsts_108 : Dj kX6_firsts 108 (fun o => .goto o) 3 111 112 := ⟨4, by decide +kernel, rfl, by decide⟩
theorem dX6_firsts_111 : Dk kX6_firsts 111 (.iconst 0) 1 112 := ⟨by decide +kernel, rfl⟩
theorem dX6_firsts_112 : Dk kX6_firsts 112 (.ior) 1 113 := ⟨by decide +kernel, rfl⟩
theorem dX6_firsts_113 : Dk kX6_firsts 113 (.istore 6) 2 115 := ⟨by decide +kernel, rfl⟩
theorem dX6_firsts_115 : Dk kX6_firsts 115 (.iinc 7 1) 3 118 := ⟨by decide +kernel, rfl⟩
theorem dX6_firsts_118 : Dj kX6_firsts 118 (fun o => .goto o) 3 121 44 := ⟨-74, by decide +kernel, rfl, by decide⟩
theorem dX6_firsts_121 : Dk kX6_firsts 121 (.aload_n 0) 1 122 := ⟨by decide +kernel, rfl⟩
theorem dX6_firsts_122 : Dk kX6_firsts 122 (.getfield 19) 3 125 := ⟨by decide +kernel, rfl⟩
theorem dX6_firsts_125 : Dk kX6_firsts 125 (.iconst 3) 1 126 := ⟨by decide +kernel, rfl⟩
theorem dX6_firsts_126 : Dk kX6_firsts 126 (.iload_n 3) 1 127 := ⟨by decide +kernel, rfl⟩
theorem dX6_firsts_127 : Dk kX6_firsts 127 (.imul) 1 128 := ⟨by decide +kernel, rfl⟩
theorem dX6_firsts_128 : Dk kX6_firsts 128 (.iconst 1) 1 129 := ⟨by decide +kernel, rfl⟩
theorem dX6_firsts_129 : Dk kX6_firsts 129 (.iadd) 1 130 := ⟨by decide +kernel, rfl⟩
theorem dX6_firsts_130 : Dk kX6_firsts 130 (.iload 5) 2 132 := ⟨by decide +kernel, rfl⟩
theorem dX6_firsts_132 : Dk kX6_firsts 132 (.iastore) 1 133 := ⟨by decide +kernel, rfl⟩
theorem dX6_firsts_133 : Dk kX6_firsts 133 (.iload 6) 2 135 := ⟨by decide +kernel, rfl⟩
theorem dX6_firsts_135 : Dk kX6_firsts 135 (.ireturn) 1 136 := ⟨by decide +kernel, rfl⟩
theorem dX6_whose_0 : Dk kX6_whose 0 (.aload_n 0) 1 1 := ⟨by decide +kernel, rfl⟩
theorem dX6_whose_1 : Dk kX6_whose 1 (.iload_n 1) 1 2 := ⟨by decide +kernel, rfl⟩
theorem dX6_whose_2 : Dk kX6_whose 2 (.invokevirtual 220) 3 5 := ⟨by decide +kernel, rfl⟩
theorem dX6_whose_5 : Dk kX6_whose 5 (.istore_n 2) 1 6 := ⟨by decide +kernel, rfl⟩
theorem dX6_whose_6 : Dk kX6_whose 6 (.iload_n 2) 1 7 := ⟨by decide +kernel, rfl⟩
theorem dX6_whose_7 : Dj kX6_whose 7 (fun o => .ifCond .eq o) 3 10 12 := ⟨5, by decide +kernel, rfl, by decide⟩
theorem dX6_whose_10 : Dk kX6_whose 10 (.iload_n 2) 1 11 := ⟨by decide +kernel, rfl⟩
theorem dX6_whose_11 : Dk kX6_whose 11 (.ireturn) 1 12 := ⟨by decide +kernel, rfl⟩
theorem dX6_whose_12 : Dk kX6_whose 12 (.iconst 0) 1 13 := ⟨by decide +kernel, rfl⟩
theorem dX6_whose_13 : Dk kX6_whose 13 (.istore_n 3) 1 14 := ⟨by decide +kernel, rfl⟩
theorem dX6_whose_14 : Dk kX6_whose 14 (.iconst 0) 1 15 := ⟨by decide +kernel, rfl⟩
theorem dX6_whose_15 : Dk kX6_whose 15 (.istore 4) 2 17 := ⟨by decide +kernel, rfl⟩
theorem dX6_whose_17 : Dk kX6_whose 17 (.iload 4) 2 19 := ⟨by decide +kernel, rfl⟩
theorem dX6_whose_19 : Dk kX6_whose 19 (.aload_n 0) 1 20 := ⟨by decide +kernel, rfl⟩
theorem dX6_whose_20 : Dk kX6_whose 20 (.getfield 72) 3 23 := ⟨by decide +kernel, rfl⟩
theorem dX6_whose_23 : Dj kX6_whose 23 (fun o => .if_icmp .ge o) 3 26 54 := ⟨31, by decide +kernel, rfl, by decide⟩
theorem dX6_whose_26 : Dk kX6_whose 26 (.iload_n 3) 1 27 := ⟨by decide +kernel, rfl⟩
theorem dX6_whose_27 : Dk kX6_whose 27 (.aload_n 0) 1 28 := ⟨by decide +kernel, rfl⟩
theorem dX6_whose_28 : Dk kX6_whose 28 (.iload_n 1) 1 29 := ⟨by decide +kernel, rfl⟩
theorem dX6_whose_29 : Dk kX6_whose 29 (.iload 4) 2 31 := ⟨by decide +kernel, rfl⟩
theorem dX6_whose_31 : Dk kX6_whose 31 (.invokevirtual 226) 3 34 := ⟨by decide +kernel, rfl⟩
theorem dX6_whose_34 : Dk kX6_whose 34 (.iconst (-1)) 1 35 := ⟨by decide +kernel, rfl⟩
theorem dX6_whose_35 : Dj kX6_whose 35 (fun o => .if_icmp .ne o) 3 38 45 := ⟨10, by decide +kernel, rfl, by decide⟩
theorem dX6_whose_38 : Dk kX6_whose 38 (.iconst 1) 1 39 := ⟨by decide +kernel, rfl⟩
theorem dX6_whose_39 : Dk kX6_whose 39 (.iload 4) 2 41 := ⟨by decide +kernel, rfl⟩
theorem dX6_whose_41 : Dk kX6_whose 41 (.ishl) 1 42 := ⟨by decide +kernel, rfl⟩
theorem dX6_whose_42 : Dj kX6_whose 42 (fun o => .goto o) 3 45 46 := ⟨4, by decide +kernel, rfl, by decide⟩
theorem dX6_whose_45 : Dk kX6_whose 45 (.iconst 0) 1 46 := ⟨by decide +kernel, rfl⟩
theorem dX6_whose_46 : Dk kX6_whose 46 (.ior) 1 47 := ⟨by decide +kernel, rfl⟩
theorem dX6_whose_47 : Dk kX6_whose 47 (.istore_n 3) 1 48 := ⟨by decide +kernel, rfl⟩
theorem dX6_whose_48 : Dk kX6_whose 48 (.iinc 4 1) 3 51 := ⟨by decide +kernel, rfl⟩
theorem dX6_whose_51 : Dj kX6_whose 51 (fun o => .goto o) 3 54 17 := ⟨-34, by decide +kernel, rfl, by decide⟩
theorem dX6_whose_54 : Dk kX6_whose 54 (.iload_n 3) 1 55 := ⟨by decide +kernel, rfl⟩
theorem dX6_whose_55 : Dk kX6_whose 55 (.ireturn) 1 56 := ⟨by decide +kernel, rfl⟩
theorem dX6_laws_0 : Dk kX6_laws 0 (.aload_n 0) 1 1 := ⟨by decide +kernel, rfl⟩
theorem dX6_laws_1 : Dk kX6_laws 1 (.iload_n 1) 1 2 := ⟨by decide +kernel, rfl⟩
theorem dX6_laws_2 : Dk kX6_laws 2 (.iload_n 2) 1 3 := ⟨by decide +kernel, rfl⟩
theorem dX6_laws_3 : Dk kX6_laws 3 (.invokevirtual 223) 3 6 := ⟨by decide +kernel, rfl⟩
theorem dX6_laws_6 : Dk kX6_laws 6 (.istore_n 3) 1 7 := ⟨by decide +kernel, rfl⟩
theorem dX6_laws_7 : Dk kX6_laws 7 (.iload_n 3) 1 8 := ⟨by decide +kernel, rfl⟩
theorem dX6_laws_8 : Dj kX6_laws 8 (fun o => .ifCond .eq o) 3 11 13 := ⟨5, by decide +kernel, rfl, by decide⟩
theorem dX6_laws_11 : Dk kX6_laws 11 (.iload_n 3) 1 12 := ⟨by decide +kernel, rfl⟩
theorem dX6_laws_12 : Dk kX6_laws 12 (.ireturn) 1 13 := ⟨by decide +kernel, rfl⟩
theorem dX6_laws_13 : Dk kX6_laws 13 (.aload_n 0) 1 14 := ⟨by decide +kernel, rfl⟩
theorem dX6_laws_14 : Dk kX6_laws 14 (.getfield 92) 3 17 := ⟨by decide +kernel, rfl⟩
theorem dX6_laws_17 : Dk kX6_laws 17 (.istore 4) 2 19 := ⟨by decide +kernel, rfl⟩
theorem dX6_laws_19 : Dk kX6_laws 19 (.iconst 0) 1 20 := ⟨by decide +kernel, rfl⟩
theorem dX6_laws_20 : Dk kX6_laws 20 (.istore 5) 2 22 := ⟨by decide +kernel, rfl⟩
theorem dX6_laws_22 : Dk kX6_laws 22 (.iconst 0) 1 23 := ⟨by decide +kernel, rfl⟩
theorem dX6_laws_23 : Dk kX6_laws 23 (.istore 6) 2 25 := ⟨by decide +kernel, rfl⟩
theorem dX6_laws_25 : Dk kX6_laws 25 (.iload 6) 2 27 := ⟨by decide +kernel, rfl⟩
theorem dX6_laws_27 : Dk kX6_laws 27 (.aload_n 0) 1 28 := ⟨by decide +kernel, rfl⟩
theorem dX6_laws_28 : Dk kX6_laws 28 (.getfield 89) 3 31 := ⟨by decide +kernel, rfl⟩
theorem dX6_laws_31 : Dj kX6_laws 31 (fun o => .if_icmp .ge o) 3 34 69 := ⟨38, by decide +kernel, rfl, by decide⟩
theorem dX6_laws_34 : Dk kX6_laws 34 (.aload_n 0) 1 35 := ⟨by decide +kernel, rfl⟩
theorem dX6_laws_35 : Dk kX6_laws 35 (.iload 6) 2 37 := ⟨by decide +kernel, rfl⟩
theorem dX6_laws_37 : Dk kX6_laws 37 (.putfield 92) 3 40 := ⟨by decide +kernel, rfl⟩
theorem dX6_laws_40 : Dk kX6_laws 40 (.iload 5) 2 42 := ⟨by decide +kernel, rfl⟩
theorem dX6_laws_42 : Dk kX6_laws 42 (.aload_n 0) 1 43 := ⟨by decide +kernel, rfl⟩
theorem dX6_laws_43 : Dk kX6_laws 43 (.iload_n 1) 1 44 := ⟨by decide +kernel, rfl⟩
theorem dX6_laws_44 : Dk kX6_laws 44 (.iload_n 2) 1 45 := ⟨by decide +kernel, rfl⟩
theorem dX6_laws_45 : Dk kX6_laws 45 (.invokevirtual 226) 3 48 := ⟨by decide +kernel, rfl⟩
theorem dX6_laws_48 : Dk kX6_laws 48 (.iconst (-1)) 1 49 := ⟨by decide +kernel, rfl⟩
theorem dX6_laws_49 : Dj kX6_laws 49 (fun o => .if_icmp .ne o) 3 52 59 := ⟨10, by decide +kernel, rfl, by decide⟩
theorem dX6_laws_52 : Dk kX6_laws 52 (.iconst 1) 1 53 := ⟨by decide +kernel, rfl⟩
theorem dX6_laws_53 : Dk kX6_laws 53 (.iload 6) 2 55 := ⟨by decide +kernel, rfl⟩
theorem dX6_laws_55 : Dk kX6_laws 55 (.ishl) 1 56 := ⟨by decide +kernel, rfl⟩
theorem dX6_laws_56 : Dj kX6_laws 56 (fun o => .goto o) 3 59 60 := ⟨4, by decide +kernel, rfl, by decide⟩
theorem dX6_laws_59 : Dk kX6_laws 59 (.iconst 0) 1 60 := ⟨by decide +kernel, rfl⟩
theorem dX6_laws_60 : Dk kX6_laws 60 (.ior) 1 61 := ⟨by decide +kernel, rfl⟩
theorem dX6_laws_61 : Dk kX6_laws 61 (.istore 5) 2 63 := ⟨by decide +kernel, rfl⟩
theorem dX6_laws_63 : Dk kX6_laws 63 (.iinc 6 1) 3 66 := ⟨by decide +kernel, rfl⟩
theorem dX6_laws_66 : Dj kX6_laws 66 (fun o => .goto o) 3 69 25 := ⟨-41, by decide +kernel, rfl, by decide⟩
theorem dX6_laws_69 : Dk kX6_laws 69 (.aload_n 0) 1 70 := ⟨by decide +kernel, rfl⟩
theorem dX6_laws_70 : Dk kX6_laws 70 (.iload 4) 2 72 := ⟨by decide +kernel, rfl⟩
theorem dX6_laws_72 : Dk kX6_laws 72 (.putfield 92) 3 75 := ⟨by decide +kernel, rfl⟩
theorem dX6_laws_75 : Dk kX6_laws 75 (.iload 5) 2 77 := ⟨by decide +kernel, rfl⟩
theorem dX6_laws_77 : Dk kX6_laws 77 (.ireturn) 1 78 := ⟨by decide +kernel, rfl⟩
theorem dX6_film_0 : Dk kX6_film 0 (.iload_n 1) 1 1 := ⟨by decide +kernel, rfl⟩
theorem dX6_film_1 : Dk kX6_film 1 (.iconst 0) 1 2 := ⟨by decide +kernel, rfl⟩
theorem dX6_film_2 : Dk kX6_film 2 (.iconst 3) 1 3 := ⟨by decide +kernel, rfl⟩
theorem dX6_film_3 : Dk kX6_film 3 (.invokestatic 75) 3 6 := ⟨by decide +kernel, rfl⟩
theorem dX6_film_6 : Dj kX6_film 6 (fun o => .ifCond .ne o) 3 9 12 := ⟨6, by decide +kernel, rfl, by decide⟩
theorem dX6_film_9 : Dk kX6_film 9 (.bipush (-2)) 2 11 := ⟨by decide +kernel, rfl⟩
theorem dX6_film_11 : Dk kX6_film 11 (.ireturn) 1 12 := ⟨by decide +kernel, rfl⟩
theorem dX6_film_12 : Dk kX6_film 12 (.aload_n 0) 1 13 := ⟨by decide +kernel, rfl⟩
theorem dX6_film_13 : Dk kX6_film 13 (.iload_n 2) 1 14 := ⟨by decide +kernel, rfl⟩
theorem dX6_film_14 : Dk kX6_film 14 (.invokevirtual 99) 3 17 := ⟨by decide +kernel, rfl⟩
theorem dX6_film_17 : Dj kX6_film 17 (fun o => .ifCond .ne o) 3 20 23 := ⟨6, by decide +kernel, rfl, by decide⟩
theorem dX6_film_20 : Dk kX6_film 20 (.bipush (-5)) 2 22 := ⟨by decide +kernel, rfl⟩
theorem dX6_film_22 : Dk kX6_film 22 (.ireturn) 1 23 := ⟨by decide +kernel, rfl⟩
theorem dX6_film_23 : Dk kX6_film 23 (.iload_n 3) 1 24 := ⟨by decide +kernel, rfl⟩
theorem dX6_film_24 : Dk kX6_film 24 (.iconst 0) 1 25 := ⟨by decide +kernel, rfl⟩
theorem dX6_film_25 : Dk kX6_film 25 (.bipush 20) 2 27 := ⟨by decide +kernel, rfl⟩
theorem dX6_film_27 : Dk kX6_film 27 (.invokestatic 75) 3 30 := ⟨by decide +kernel, rfl⟩
theorem dX6_film_30 : Dj kX6_film 30 (fun o => .ifCond .ne o) 3 33 36 := ⟨6, by decide +kernel, rfl, by decide⟩
theorem dX6_film_33 : Dk kX6_film 33 (.bipush (-7)) 2 35 := ⟨by decide +kernel, rfl⟩
theorem dX6_film_35 : Dk kX6_film 35 (.ireturn) 1 36 := ⟨by decide +kernel, rfl⟩
theorem dX6_film_36 : Dk kX6_film 36 (.aload_n 0) 1 37 := ⟨by decide +kernel, rfl⟩
theorem dX6_film_37 : Dk kX6_film 37 (.getfield 37) 3 40 := ⟨by decide +kernel, rfl⟩
theorem dX6_film_40 : Dk kX6_film 40 (.iload_n 1) 1 41 := ⟨by decide +kernel, rfl⟩
theorem dX6_film_41 : Dk kX6_film 41 (.iconst 0) 1 42 := ⟨by decide +kernel, rfl⟩
theorem dX6_film_42 : Dk kX6_film 42 (.iastore) 1 43 := ⟨by decide +kernel, rfl⟩
theorem dX6_film_43 : Dk kX6_film 43 (.aload_n 0) 1 44 := ⟨by decide +kernel, rfl⟩
theorem dX6_film_44 : Dk kX6_film 44 (.getfield 40) 3 47 := ⟨by decide +kernel, rfl⟩
theorem dX6_film_47 : Dk kX6_film 47 (.iload_n 1) 1 48 := ⟨by decide +kernel, rfl⟩
theorem dX6_film_48 : Dk kX6_film 48 (.iload_n 3) 1 49 := ⟨by decide +kernel, rfl⟩
theorem dX6_film_49 : Dk kX6_film 49 (.iastore) 1 50 := ⟨by decide +kernel, rfl⟩
theorem dX6_film_50 : Dk kX6_film 50 (.aload_n 0) 1 51 := ⟨by decide +kernel, rfl⟩
theorem dX6_film_51 : Dk kX6_film 51 (.invokevirtual 199) 3 54 := ⟨by decide +kernel, rfl⟩
theorem dX6_film_54 : Dk kX6_film 54 (.iconst 0) 1 55 := ⟨by decide +kernel, rfl⟩
theorem dX6_film_55 : Dk kX6_film 55 (.istore 4) 2 57 := ⟨by decide +kernel, rfl⟩
theorem dX6_film_57 : Dk kX6_film 57 (.iload 4) 2 59 := ⟨by decide +kernel, rfl⟩
theorem dX6_film_59 : Dk kX6_film 59 (.bipush 40) 2 61 := ⟨by decide +kernel, rfl⟩
theorem dX6_film_61 : Dj kX6_film 61 (fun o => .if_icmp .ge o) 3 64 116 := ⟨55, by decide +kernel, rfl, by decide⟩
theorem dX6_film_64 : Dk kX6_film 64 (.aload_n 0) 1 65 := ⟨by decide +kernel, rfl⟩
theorem dX6_film_65 : Dk kX6_film 65 (.getfield 43) 3 68 := ⟨by decide +kernel, rfl⟩
theorem dX6_film_68 : Dk kX6_film 68 (.bipush 40) 2 70 := ⟨by decide +kernel, rfl⟩
theorem dX6_film_70 : Dk kX6_film 70 (.iload_n 1) 1 71 := ⟨by decide +kernel, rfl⟩
theorem dX6_film_71 : Dk kX6_film 71 (.imul) 1 72 := ⟨by decide +kernel, rfl⟩
theorem dX6_film_72 : Dk kX6_film 72 (.iload 4) 2 74 := ⟨by decide +kernel, rfl⟩
theorem dX6_film_74 : Dk kX6_film 74 (.iadd) 1 75 := ⟨by decide +kernel, rfl⟩
theorem dX6_film_75 : Dk kX6_film 75 (.iconst 0) 1 76 := ⟨by decide +kernel, rfl⟩
theorem dX6_film_76 : Dk kX6_film 76 (.iastore) 1 77 := ⟨by decide +kernel, rfl⟩
theorem dX6_film_77 : Dk kX6_film 77 (.iload 4) 2 79 := ⟨by decide +kernel, rfl⟩
theorem dX6_film_79 : Dk kX6_film 79 (.iload_n 3) 1 80 := ⟨by decide +kernel, rfl⟩
theorem dX6_film_80 : Dj kX6_film 80 (fun o => .if_icmp .ge o) 3 83 110 := ⟨30, by decide +kernel, rfl, by decide⟩
theorem dX6_film_83 : Dk kX6_film 83 (.aload_n 0) 1 84 := ⟨by decide +kernel, rfl⟩
theorem dX6_film_84 : Dk kX6_film 84 (.invokevirtual 196) 3 87 := ⟨by decide +kernel, rfl⟩
theorem dX6_film_87 : Dk kX6_film 87 (.pop) 1 88 := ⟨by decide +kernel, rfl⟩
theorem dX6_film_88 : Dk kX6_film 88 (.aload_n 0) 1 89 := ⟨by decide +kernel, rfl⟩
theorem dX6_film_89 : Dk kX6_film 89 (.getfield 43) 3 92 := ⟨by decide +kernel, rfl⟩
theorem dX6_film_92 : Dk kX6_film 92 (.bipush 40) 2 94 := ⟨by decide +kernel, rfl⟩
theorem dX6_film_94 : Dk kX6_film 94 (.iload_n 1) 1 95 := ⟨by decide +kernel, rfl⟩
theorem dX6_film_95 : Dk kX6_film 95 (.imul) 1 96 := ⟨by decide +kernel, rfl⟩
theorem dX6_film_96 : Dk kX6_film 96 (.iload 4) 2 98 := ⟨by decide +kernel, rfl⟩
theorem dX6_film_98 : Dk kX6_film 98 (.iadd) 1 99 := ⟨by decide +kernel, rfl⟩
theorem dX6_film_99 : Dk kX6_film 99 (.aload_n 0) 1 100 := ⟨by decide +kernel, rfl⟩
theorem dX6_film_100 : Dk kX6_film 100 (.getfield 16) 3 103 := ⟨by decide +kernel, rfl⟩
theorem dX6_film_103 : Dk kX6_film 103 (.iconst 3) 1 104 := ⟨by decide +kernel, rfl⟩
theorem dX6_film_104 : Dk kX6_film 104 (.iload_n 2) 1 105 := ⟨by decide +kernel, rfl⟩
theorem dX6_film_105 : Dk kX6_film 105 (.imul) 1 106 := ⟨by decide +kernel, rfl⟩
theorem dX6_film_106 : Dk kX6_film 106 (.iconst 1) 1 107 := ⟨by decide +kernel, rfl⟩
theorem dX6_film_107 : Dk kX6_film 107 (.iadd) 1 108 := ⟨by decide +kernel, rfl⟩
theorem dX6_film_108 : Dk kX6_film 108 (.iaload) 1 109 := ⟨by decide +kernel, rfl⟩
theorem dX6_film_109 : Dk kX6_film 109 (.iastore) 1 110 := ⟨by decide +kernel, rfl⟩
theorem dX6_film_110 : Dk kX6_film 110 (.iinc 4 1) 3 113 := ⟨by decide +kernel, rfl⟩
theorem dX6_film_113 : Dj kX6_film 113 (fun o => .goto o) 3 116 57 := ⟨-56, by decide +kernel, rfl, by decide⟩
theorem dX6_film_116 : Dk kX6_film 116 (.aload_n 0) 1 117 := ⟨by decide +kernel, rfl⟩
theorem dX6_film_117 : Dk kX6_film 117 (.invokevirtual 208) 3 120 := ⟨by decide +kernel, rfl⟩
theorem dX6_film_120 : Dk kX6_film 120 (.iload_n 3) 1 121 := ⟨by decide +kernel, rfl⟩
theorem dX6_film_121 : Dk kX6_film 121 (.ireturn) 1 122 := ⟨by decide +kernel, rfl⟩
theorem dX6_lotDay_0 : Dk kX6_lotDay 0 (.iload_n 1) 1 1 := ⟨by decide +kernel, rfl⟩
theorem dX6_lotDay_1 : Dk kX6_lotDay 1 (.i2l) 1 2 := ⟨by decide +kernel, rfl⟩
theorem dX6_lotDay_2 : Dk kX6_lotDay 2 (.lconst 1) 1 3 := ⟨by decide +kernel, rfl⟩
theorem dX6_lotDay_3 : Dk kX6_lotDay 3 (.ladd) 1 4 := ⟨by decide +kernel, rfl⟩
theorem dX6_lotDay_4 : Dk kX6_lotDay 4 (.lstore_n 3) 1 5 := ⟨by decide +kernel, rfl⟩
theorem dX6_lotDay_5 : Dk kX6_lotDay 5 (.aload_n 0) 1 6 := ⟨by decide +kernel, rfl⟩
theorem dX6_lotDay_6 : Dk kX6_lotDay 6 (.iconst 0) 1 7 := ⟨by decide +kernel, rfl⟩
theorem dX6_lotDay_7 : Dk kX6_lotDay 7 (.putfield 229) 3 10 := ⟨by decide +kernel, rfl⟩
theorem dX6_lotDay_10 : Dk kX6_lotDay 10 (.aload_n 0) 1 11 := ⟨by decide +kernel, rfl⟩
theorem dX6_lotDay_11 : Dk kX6_lotDay 11 (.invokevirtual 199) 3 14 := ⟨by decide +kernel, rfl⟩
theorem dX6_lotDay_14 : Dk kX6_lotDay 14 (.iconst 0) 1 15 := ⟨by decide +kernel, rfl⟩
theorem dX6_lotDay_15 : Dk kX6_lotDay 15 (.istore 5) 2 17 := ⟨by decide +kernel, rfl⟩
theorem dX6_lotDay_17 : Dk kX6_lotDay 17 (.iload 5) 2 19 := ⟨by decide +kernel, rfl⟩
theorem dX6_lotDay_19 : Dk kX6_lotDay 19 (.iload_n 2) 1 20 := ⟨by decide +kernel, rfl⟩
theorem dX6_lotDay_20 : Dj kX6_lotDay 20 (fun o => .if_icmp .ge o) 3 23 96 := ⟨76, by decide +kernel, rfl, by decide⟩
theorem dX6_lotDay_23 : Dk kX6_lotDay 23 (.lload_n 3) 1 24 := ⟨by decide +kernel, rfl⟩
theorem dX6_lotDay_24 : Dk kX6_lotDay 24 (.ldc2_w 232) 3 27 := ⟨by decide +kernel, rfl⟩
theorem dX6_lotDay_27 : Dk kX6_lotDay 27 (.lmul) 1 28 := ⟨by decide +kernel, rfl⟩
theorem dX6_lotDay_28 : Dk kX6_lotDay 28 (.ldc2_w 234) 3 31 := ⟨by decide +kernel, rfl⟩
theorem dX6_lotDay_31 : Dk kX6_lotDay 31 (.lrem) 1 32 := ⟨by decide +kernel, rfl⟩
theorem dX6_lotDay_32 : Dk kX6_lotDay 32 (.lstore_n 3) 1 33 := ⟨by decide +kernel, rfl⟩
theorem dX6_lotDay_33 : Dk kX6_lotDay 33 (.lload_n 3) 1 34 := ⟨by decide +kernel, rfl⟩
theorem dX6_lotDay_34 : Dk kX6_lotDay 34 (.ldc2_w 236) 3 37 := ⟨by decide +kernel, rfl⟩
theorem dX6_lotDay_37 : Dk kX6_lotDay 37 (.lrem) 1 38 := ⟨by decide +kernel, rfl⟩
theorem dX6_lotDay_38 : Dk kX6_lotDay 38 (.l2i) 1 39 := ⟨by decide +kernel, rfl⟩
theorem dX6_lotDay_39 : Dk kX6_lotDay 39 (.istore 6) 2 41 := ⟨by decide +kernel, rfl⟩
theorem dX6_lotDay_41 : Dk kX6_lotDay 41 (.lload_n 3) 1 42 := ⟨by decide +kernel, rfl⟩
theorem dX6_lotDay_42 : Dk kX6_lotDay 42 (.ldc2_w 232) 3 45 := ⟨by decide +kernel, rfl⟩
theorem dX6_lotDay_45 : Dk kX6_lotDay 45 (.lmul) 1 46 := ⟨by decide +kernel, rfl⟩
theorem dX6_lotDay_46 : Dk kX6_lotDay 46 (.ldc2_w 234) 3 49 := ⟨by decide +kernel, rfl⟩
theorem dX6_lotDay_49 : Dk kX6_lotDay 49 (.lrem) 1 50 := ⟨by decide +kernel, rfl⟩
theorem dX6_lotDay_50 : Dk kX6_lotDay 50 (.lstore_n 3) 1 51 := ⟨by decide +kernel, rfl⟩
theorem dX6_lotDay_51 : Dk kX6_lotDay 51 (.iload 6) 2 53 := ⟨by decide +kernel, rfl⟩
theorem dX6_lotDay_53 : Dk kX6_lotDay 53 (.aload_n 0) 1 54 := ⟨by decide +kernel, rfl⟩
theorem dX6_lotDay_54 : Dk kX6_lotDay 54 (.getfield 72) 3 57 := ⟨by decide +kernel, rfl⟩
theorem dX6_lotDay_57 : Dj kX6_lotDay 57 (fun o => .if_icmp .ge o) 3 60 90 := ⟨33, by decide +kernel, rfl, by decide⟩
theorem dX6_lotDay_60 : Dk kX6_lotDay 60 (.aload_n 0) 1 61 := ⟨by decide +kernel, rfl⟩
theorem dX6_lotDay_61 : Dk kX6_lotDay 61 (.dup) 1 62 := ⟨by decide +kernel, rfl⟩
theorem dX6_lotDay_62 : Dk kX6_lotDay 62 (.getfield 229) 3 65 := ⟨by decide +kernel, rfl⟩
theorem dX6_lotDay_65 : Dk kX6_lotDay 65 (.aload_n 0) 1 66 := ⟨by decide +kernel, rfl⟩
theorem dX6_lotDay_66 : Dk kX6_lotDay 66 (.iload 6) 2 68 := ⟨by decide +kernel, rfl⟩
theorem dX6_lotDay_68 : Dk kX6_lotDay 68 (.lload_n 3) 1 69 := ⟨by decide +kernel, rfl⟩
theorem dX6_lotDay_69 : Dk kX6_lotDay 69 (.ldc2_w 238) 3 72 := ⟨by decide +kernel, rfl⟩
theorem dX6_lotDay_72 : Dk kX6_lotDay 72 (.lrem) 1 73 := ⟨by decide +kernel, rfl⟩
theorem dX6_lotDay_73 : Dk kX6_lotDay 73 (.l2i) 1 74 := ⟨by decide +kernel, rfl⟩
theorem dX6_lotDay_74 : Dk kX6_lotDay 74 (.invokevirtual 193) 3 77 := ⟨by decide +kernel, rfl⟩
theorem dX6_lotDay_77 : Dk kX6_lotDay 77 (.iconst 2) 1 78 := ⟨by decide +kernel, rfl⟩
theorem dX6_lotDay_78 : Dj kX6_lotDay 78 (fun o => .if_icmp .ne o) 3 81 85 := ⟨7, by decide +kernel, rfl, by decide⟩
theorem dX6_lotDay_81 : Dk kX6_lotDay 81 (.iconst 1) 1 82 := ⟨by decide +kernel, rfl⟩
theorem dX6_lotDay_82 : Dj kX6_lotDay 82 (fun o => .goto o) 3 85 86 := ⟨4, by decide +kernel, rfl, by decide⟩
theorem dX6_lotDay_85 : Dk kX6_lotDay 85 (.iconst 0) 1 86 := ⟨by decide +kernel, rfl⟩
theorem dX6_lotDay_86 : Dk kX6_lotDay 86 (.iadd) 1 87 := ⟨by decide +kernel, rfl⟩
theorem dX6_lotDay_87 : Dk kX6_lotDay 87 (.putfield 229) 3 90 := ⟨by decide +kernel, rfl⟩
theorem dX6_lotDay_90 : Dk kX6_lotDay 90 (.iinc 5 1) 3 93 := ⟨by decide +kernel, rfl⟩
theorem dX6_lotDay_93 : Dj kX6_lotDay 93 (fun o => .goto o) 3 96 17 := ⟨-76, by decide +kernel, rfl, by decide⟩
theorem dX6_lotDay_96 : Dk kX6_lotDay 96 (.aload_n 0) 1 97 := ⟨by decide +kernel, rfl⟩
theorem dX6_lotDay_97 : Dk kX6_lotDay 97 (.iconst 2) 1 98 := ⟨by decide +kernel, rfl⟩
theorem dX6_lotDay_98 : Dk kX6_lotDay 98 (.invokevirtual 82) 3 101 := ⟨by decide +kernel, rfl⟩
theorem dX6_lotDay_101 : Dk kX6_lotDay 101 (.istore 5) 2 103 := ⟨by decide +kernel, rfl⟩
theorem dX6_lotDay_103 : Dk kX6_lotDay 103 (.aload_n 0) 1 104 := ⟨by decide +kernel, rfl⟩
theorem dX6_lotDay_104 : Dk kX6_lotDay 104 (.invokevirtual 208) 3 107 := ⟨by decide +kernel, rfl⟩
theorem dX6_lotDay_107 : Dk kX6_lotDay 107 (.iload 5) 2 109 := ⟨by decide +kernel, rfl⟩
theorem dX6_lotDay_109 : Dk kX6_lotDay 109 (.ireturn) 1 110 := ⟨by decide +kernel, rfl⟩
theorem dX6_drawn_0 : Dk kX6_drawn 0 (.iload_n 1) 1 1 := ⟨by decide +kernel, rfl⟩
theorem dX6_drawn_1 : Dk kX6_drawn 1 (.iconst 0) 1 2 := ⟨by decide +kernel, rfl⟩
theorem dX6_drawn_2 : Dk kX6_drawn 2 (.ldc 240) 2 4 := ⟨by decide +kernel, rfl⟩
theorem dX6_drawn_4 : Dk kX6_drawn 4 (.invokestatic 75) 3 7 := ⟨by decide +kernel, rfl⟩
theorem dX6_drawn_7 : Dj kX6_drawn 7 (fun o => .ifCond .eq o) 3 10 29 := ⟨22, by decide +kernel, rfl, by decide⟩
theorem dX6_drawn_10 : Dk kX6_drawn 10 (.iload_n 2) 1 11 := ⟨by decide +kernel, rfl⟩
theorem dX6_drawn_11 : Dk kX6_drawn 11 (.iconst 0) 1 12 := ⟨by decide +kernel, rfl⟩
theorem dX6_drawn_12 : Dk kX6_drawn 12 (.bipush 60) 2 14 := ⟨by decide +kernel, rfl⟩
theorem dX6_drawn_14 : Dk kX6_drawn 14 (.invokestatic 75) 3 17 := ⟨by decide +kernel, rfl⟩
theorem dX6_drawn_17 : Dj kX6_drawn 17 (fun o => .ifCond .eq o) 3 20 29 := ⟨12, by decide +kernel, rfl, by decide⟩
theorem dX6_drawn_20 : Dk kX6_drawn 20 (.iload_n 3) 1 21 := ⟨by decide +kernel, rfl⟩
theorem dX6_drawn_21 : Dk kX6_drawn 21 (.iconst 0) 1 22 := ⟨by decide +kernel, rfl⟩
theorem dX6_drawn_22 : Dk kX6_drawn 22 (.iconst 1) 1 23 := ⟨by decide +kernel, rfl⟩
theorem dX6_drawn_23 : Dk kX6_drawn 23 (.invokestatic 75) 3 26 := ⟨by decide +kernel, rfl⟩
theorem dX6_drawn_26 : Dj kX6_drawn 26 (fun o => .ifCond .ne o) 3 29 32 := ⟨6, by decide +kernel, rfl, by decide⟩
theorem dX6_drawn_29 : Dk kX6_drawn 29 (.bipush (-2)) 2 31 := ⟨by decide +kernel, rfl⟩
theorem dX6_drawn_31 : Dk kX6_drawn 31 (.ireturn) 1 32 := ⟨by decide +kernel, rfl⟩
theorem dX6_drawn_32 : Dk kX6_drawn 32 (.aload_n 0) 1 33 := ⟨by decide +kernel, rfl⟩
theorem dX6_drawn_33 : Dk kX6_drawn 33 (.iload_n 1) 1 34 := ⟨by decide +kernel, rfl⟩
theorem dX6_drawn_34 : Dk kX6_drawn 34 (.iload_n 2) 1 35 := ⟨by decide +kernel, rfl⟩
theorem dX6_drawn_35 : Dk kX6_drawn 35 (.invokevirtual 241) 3 38 := ⟨by decide +kernel, rfl⟩
theorem dX6_drawn_38 : Dk kX6_drawn 38 (.istore 4) 2 40 := ⟨by decide +kernel, rfl⟩
theorem dX6_drawn_40 : Dk kX6_drawn 40 (.iload_n 3) 1 41 := ⟨by decide +kernel, rfl⟩
theorem dX6_drawn_41 : Dj kX6_drawn 41 (fun o => .ifCond .ne o) 3 44 49 := ⟨8, by decide +kernel, rfl, by decide⟩
theorem dX6_drawn_44 : Dk kX6_drawn 44 (.iload 4) 2 46 := ⟨by decide +kernel, rfl⟩
theorem dX6_drawn_46 : Dj kX6_drawn 46 (fun o => .goto o) 3 49 53 := ⟨7, by decide +kernel, rfl, by decide⟩
theorem dX6_drawn_49 : Dk kX6_drawn 49 (.aload_n 0) 1 50 := ⟨by decide +kernel, rfl⟩
theorem dX6_drawn_50 : Dk kX6_drawn 50 (.getfield 229) 3 53 := ⟨by decide +kernel, rfl⟩
theorem dX6_drawn_53 : Dk kX6_drawn 53 (.ireturn) 1 54 := ⟨by decide +kernel, rfl⟩
theorem dX6_odds_0 : Dk kX6_odds 0 (.iload_n 1) 1 1 := ⟨by decide +kernel, rfl⟩
theorem dX6_odds_1 : Dk kX6_odds 1 (.iconst 0) 1 2 := ⟨by decide +kernel, rfl⟩
theorem dX6_odds_2 : Dk kX6_odds 2 (.ldc 240) 2 4 := ⟨by decide +kernel, rfl⟩
theorem dX6_odds_4 : Dk kX6_odds 4 (.invokestatic 75) 3 7 := ⟨by decide +kernel, rfl⟩
theorem dX6_odds_7 : Dj kX6_odds 7 (fun o => .ifCond .eq o) 3 10 40 := ⟨33, by decide +kernel, rfl, by decide⟩
theorem dX6_odds_10 : Dk kX6_odds 10 (.iload_n 2) 1 11 := ⟨by decide +kernel, rfl⟩
theorem dX6_odds_11 : Dk kX6_odds 11 (.iconst 1) 1 12 := ⟨by decide +kernel, rfl⟩
theorem dX6_odds_12 : Dk kX6_odds 12 (.bipush 40) 2 14 := ⟨by decide +kernel, rfl⟩
theorem dX6_odds_14 : Dk kX6_odds 14 (.invokestatic 75) 3 17 := ⟨by decide +kernel, rfl⟩
theorem dX6_odds_17 : Dj kX6_odds 17 (fun o => .ifCond .eq o) 3 20 40 := ⟨23, by decide +kernel, rfl, by decide⟩
theorem dX6_odds_20 : Dk kX6_odds 20 (.iload_n 3) 1 21 := ⟨by decide +kernel, rfl⟩
theorem dX6_odds_21 : Dk kX6_odds 21 (.iconst 0) 1 22 := ⟨by decide +kernel, rfl⟩
theorem dX6_odds_22 : Dk kX6_odds 22 (.bipush 8) 2 24 := ⟨by decide +kernel, rfl⟩
theorem dX6_odds_24 : Dk kX6_odds 24 (.invokestatic 75) 3 27 := ⟨by decide +kernel, rfl⟩
theorem dX6_odds_27 : Dj kX6_odds 27 (fun o => .ifCond .eq o) 3 30 40 := ⟨13, by decide +kernel, rfl, by decide⟩
theorem dX6_odds_30 : Dk kX6_odds 30 (.iload 4) 2 32 := ⟨by decide +kernel, rfl⟩
theorem dX6_odds_32 : Dk kX6_odds 32 (.iconst 0) 1 33 := ⟨by decide +kernel, rfl⟩
theorem dX6_odds_33 : Dk kX6_odds 33 (.iconst 1) 1 34 := ⟨by decide +kernel, rfl⟩
theorem dX6_odds_34 : Dk kX6_odds 34 (.invokestatic 75) 3 37 := ⟨by decide +kernel, rfl⟩
theorem dX6_odds_37 : Dj kX6_odds 37 (fun o => .ifCond .ne o) 3 40 44 := ⟨7, by decide +kernel, rfl, by decide⟩
theorem dX6_odds_40 : Dk kX6_odds 40 (.ldc2_w 218) 3 43 := ⟨by decide +kernel, rfl⟩
theorem dX6_odds_43 : Dk kX6_odds 43 (.lreturn) 1 44 := ⟨by decide +kernel, rfl⟩
theorem dX6_odds_44 : Dk kX6_odds 44 (.lconst 0) 1 45 := ⟨by decide +kernel, rfl⟩
theorem dX6_odds_45 : Dk kX6_odds 45 (.lstore 5) 2 47 := ⟨by decide +kernel, rfl⟩
theorem dX6_odds_47 : Dk kX6_odds 47 (.iconst 0) 1 48 := ⟨by decide +kernel, rfl⟩
theorem dX6_odds_48 : Dk kX6_odds 48 (.istore 7) 2 50 := ⟨by decide +kernel, rfl⟩
theorem dX6_odds_50 : Dk kX6_odds 50 (.iload 7) 2 52 := ⟨by decide +kernel, rfl⟩
theorem dX6_odds_52 : Dk kX6_odds 52 (.iload_n 2) 1 53 := ⟨by decide +kernel, rfl⟩
theorem dX6_odds_53 : Dj kX6_odds 53 (fun o => .if_icmp .ge o) 3 56 89 := ⟨36, by decide +kernel, rfl, by decide⟩
theorem dX6_odds_56 : Dk kX6_odds 56 (.lload 5) 2 58 := ⟨by decide +kernel, rfl⟩
theorem dX6_odds_58 : Dk kX6_odds 58 (.aload_n 0) 1 59 := ⟨by decide +kernel, rfl⟩
theorem dX6_odds_59 : Dk kX6_odds 59 (.iload_n 1) 1 60 := ⟨by decide +kernel, rfl⟩
theorem dX6_odds_60 : Dk kX6_odds 60 (.iload 7) 2 62 := ⟨by decide +kernel, rfl⟩
theorem dX6_odds_62 : Dk kX6_odds 62 (.iadd) 1 63 := ⟨by decide +kernel, rfl⟩
theorem dX6_odds_63 : Dk kX6_odds 63 (.bipush 16) 2 65 := ⟨by decide +kernel, rfl⟩
theorem dX6_odds_65 : Dk kX6_odds 65 (.invokevirtual 241) 3 68 := ⟨by decide +kernel, rfl⟩
theorem dX6_odds_68 : Dk kX6_odds 68 (.invokestatic 86) 3 71 := ⟨by decide +kernel, rfl⟩
theorem dX6_odds_71 : Dk kX6_odds 71 (.iload_n 3) 1 72 := ⟨by decide +kernel, rfl⟩
theorem dX6_odds_72 : Dj kX6_odds 72 (fun o => .if_icmp .lt o) 3 75 79 := ⟨7, by decide +kernel, rfl, by decide⟩
theorem dX6_odds_75 : Dk kX6_odds 75 (.lconst 1) 1 76 := ⟨by decide +kernel, rfl⟩
theorem dX6_odds_76 : Dj kX6_odds 76 (fun o => .goto o) 3 79 80 := ⟨4, by decide +kernel, rfl, by decide⟩
theorem dX6_odds_79 : Dk kX6_odds 79 (.lconst 0) 1 80 := ⟨by decide +kernel, rfl⟩
theorem dX6_odds_80 : Dk kX6_odds 80 (.ladd) 1 81 := ⟨by decide +kernel, rfl⟩
theorem dX6_odds_81 : Dk kX6_odds 81 (.lstore 5) 2 83 := ⟨by decide +kernel, rfl⟩
theorem dX6_odds_83 : Dk kX6_odds 83 (.iinc 7 1) 3 86 := ⟨by decide +kernel, rfl⟩
theorem dX6_odds_86 : Dj kX6_odds 86 (fun o => .goto o) 3 89 50 := ⟨-36, by decide +kernel, rfl, by decide⟩
theorem dX6_odds_89 : Dk kX6_odds 89 (.lload 5) 2 91 := ⟨by decide +kernel, rfl⟩
theorem dX6_odds_91 : Dk kX6_odds 91 (.iload_n 2) 1 92 := ⟨by decide +kernel, rfl⟩
theorem dX6_odds_92 : Dk kX6_odds 92 (.i2l) 1 93 := ⟨by decide +kernel, rfl⟩
theorem dX6_odds_93 : Dk kX6_odds 93 (.iload 4) 2 95 := ⟨by decide +kernel, rfl⟩
theorem dX6_odds_95 : Dk kX6_odds 95 (.invokestatic 214) 3 98 := ⟨by decide +kernel, rfl⟩
theorem dX6_odds_98 : Dk kX6_odds 98 (.lreturn) 1 99 := ⟨by decide +kernel, rfl⟩
theorem dX6_image_0 : Dk kX6_image 0 (.aload_n 0) 1 1 := ⟨by decide +kernel, rfl⟩
theorem dX6_image_1 : Dk kX6_image 1 (.iconst 1) 1 2 := ⟨by decide +kernel, rfl⟩
theorem dX6_image_2 : Dk kX6_image 2 (.putfield 244) 3 5 := ⟨by decide +kernel, rfl⟩
theorem dX6_image_5 : Dk kX6_image 5 (.iconst 0) 1 6 := ⟨by decide +kernel, rfl⟩
theorem dX6_image_6 : Dk kX6_image 6 (.istore_n 1) 1 7 := ⟨by decide +kernel, rfl⟩
theorem dX6_image_7 : Dk kX6_image 7 (.iload_n 1) 1 8 := ⟨by decide +kernel, rfl⟩
theorem dX6_image_8 : Dk kX6_image 8 (.bipush 18) 2 10 := ⟨by decide +kernel, rfl⟩
theorem dX6_image_10 : Dj kX6_image 10 (fun o => .if_icmp .ge o) 3 13 31 := ⟨21, by decide +kernel, rfl, by decide⟩
theorem dX6_image_13 : Dk kX6_image 13 (.aload_n 0) 1 14 := ⟨by decide +kernel, rfl⟩
theorem dX6_image_14 : Dk kX6_image 14 (.getfield 31) 3 17 := ⟨by decide +kernel, rfl⟩
theorem dX6_image_17 : Dk kX6_image 17 (.iload_n 1) 1 18 := ⟨by decide +kernel, rfl⟩
theorem dX6_image_18 : Dk kX6_image 18 (.aload_n 0) 1 19 := ⟨by decide +kernel, rfl⟩
theorem dX6_image_19 : Dk kX6_image 19 (.getfield 16) 3 22 := ⟨by decide +kernel, rfl⟩
theorem dX6_image_22 : Dk kX6_image 22 (.iload_n 1) 1 23 := ⟨by decide +kernel, rfl⟩
theorem dX6_image_23 : Dk kX6_image 23 (.iaload) 1 24 := ⟨by decide +kernel, rfl⟩
theorem dX6_image_24 : Dk kX6_image 24 (.iastore) 1 25 := ⟨by decide +kernel, rfl⟩
theorem dX6_image_25 : Dk kX6_image 25 (.iinc 1 1) 3 28 := ⟨by decide +kernel, rfl⟩
theorem dX6_image_28 : Dj kX6_image 28 (fun o => .goto o) 3 31 7 := ⟨-21, by decide +kernel, rfl, by decide⟩
theorem dX6_image_31 : Dk kX6_image 31 (.iconst 0) 1 32 := ⟨by decide +kernel, rfl⟩
theorem dX6_image_32 : Dk kX6_image 32 (.istore_n 1) 1 33 := ⟨by decide +kernel, rfl⟩
theorem dX6_image_33 : Dk kX6_image 33 (.iload_n 1) 1 34 := ⟨by decide +kernel, rfl⟩
theorem dX6_image_34 : Dk kX6_image 34 (.bipush 24) 2 36 := ⟨by decide +kernel, rfl⟩
theorem dX6_image_36 : Dj kX6_image 36 (fun o => .if_icmp .ge o) 3 39 60 := ⟨24, by decide +kernel, rfl, by decide⟩
theorem dX6_image_39 : Dk kX6_image 39 (.aload_n 0) 1 40 := ⟨by decide +kernel, rfl⟩
theorem dX6_image_40 : Dk kX6_image 40 (.getfield 31) 3 43 := ⟨by decide +kernel, rfl⟩
theorem dX6_image_43 : Dk kX6_image 43 (.bipush 18) 2 45 := ⟨by decide +kernel, rfl⟩
theorem dX6_image_45 : Dk kX6_image 45 (.iload_n 1) 1 46 := ⟨by decide +kernel, rfl⟩
theorem dX6_image_46 : Dk kX6_image 46 (.iadd) 1 47 := ⟨by decide +kernel, rfl⟩
theorem dX6_image_47 : Dk kX6_image 47 (.aload_n 0) 1 48 := ⟨by decide +kernel, rfl⟩
theorem dX6_image_48 : Dk kX6_image 48 (.getfield 19) 3 51 := ⟨by decide +kernel, rfl⟩
theorem dX6_image_51 : Dk kX6_image 51 (.iload_n 1) 1 52 := ⟨by decide +kernel, rfl⟩
theorem dX6_image_52 : Dk kX6_image 52 (.iaload) 1 53 := ⟨by decide +kernel, rfl⟩
theorem dX6_image_53 : Dk kX6_image 53 (.iastore) 1 54 := ⟨by decide +kernel, rfl⟩
theorem dX6_image_54 : Dk kX6_image 54 (.iinc 1 1) 3 57 := ⟨by decide +kernel, rfl⟩
theorem dX6_image_57 : Dj kX6_image 57 (fun o => .goto o) 3 60 33 := ⟨-24, by decide +kernel, rfl, by decide⟩
theorem dX6_image_60 : Dk kX6_image 60 (.aload_n 0) 1 61 := ⟨by decide +kernel, rfl⟩
theorem dX6_image_61 : Dk kX6_image 61 (.getfield 34) 3 64 := ⟨by decide +kernel, rfl⟩
theorem dX6_image_64 : Dk kX6_image 64 (.iconst 0) 1 65 := ⟨by decide +kernel, rfl⟩
theorem dX6_image_65 : Dk kX6_image 65 (.aload_n 0) 1 66 := ⟨by decide +kernel, rfl⟩
theorem dX6_image_66 : Dk kX6_image 66 (.getfield 72) 3 69 := ⟨by decide +kernel, rfl⟩
theorem dX6_image_69 : Dk kX6_image 69 (.iastore) 1 70 := ⟨by decide +kernel, rfl⟩
theorem dX6_image_70 : Dk kX6_image 70 (.aload_n 0) 1 71 := ⟨by decide +kernel, rfl⟩
theorem dX6_image_71 : Dk kX6_image 71 (.getfield 34) 3 74 := ⟨by decide +kernel, rfl⟩
theorem dX6_image_74 : Dk kX6_image 74 (.iconst 1) 1 75 := ⟨by decide +kernel, rfl⟩
theorem dX6_image_75 : Dk kX6_image 75 (.aload_n 0) 1 76 := ⟨by decide +kernel, rfl⟩
theorem dX6_image_76 : Dk kX6_image 76 (.getfield 79) 3 79 := ⟨by decide +kernel, rfl⟩
theorem dX6_image_79 : Dk kX6_image 79 (.iastore) 1 80 := ⟨by decide +kernel, rfl⟩
theorem dX6_image_80 : Dk kX6_image 80 (.aload_n 0) 1 81 := ⟨by decide +kernel, rfl⟩
theorem dX6_image_81 : Dk kX6_image 81 (.getfield 34) 3 84 := ⟨by decide +kernel, rfl⟩
theorem dX6_image_84 : Dk kX6_image 84 (.iconst 2) 1 85 := ⟨by decide +kernel, rfl⟩
theorem dX6_image_85 : Dk kX6_image 85 (.aload_n 0) 1 86 := ⟨by decide +kernel, rfl⟩
theorem dX6_image_86 : Dk kX6_image 86 (.getfield 92) 3 89 := ⟨by decide +kernel, rfl⟩
theorem dX6_image_89 : Dk kX6_image 89 (.iastore) 1 90 := ⟨by decide +kernel, rfl⟩
theorem dX6_image_90 : Dk kX6_image 90 (.aload_n 0) 1 91 := ⟨by decide +kernel, rfl⟩
theorem dX6_image_91 : Dk kX6_image 91 (.getfield 72) 3 94 := ⟨by decide +kernel, rfl⟩
theorem dX6_image_94 : Dk kX6_image 94 (.ireturn) 1 95 := ⟨by decide +kernel, rfl⟩
theorem dX6_back_0 : Dk kX6_back 0 (.aload_n 0) 1 1 := ⟨by decide +kernel, rfl⟩
theorem dX6_back_1 : Dk kX6_back 1 (.getfield 244) 3 4 := ⟨by decide +kernel, rfl⟩
theorem dX6_back_4 : Dj kX6_back 4 (fun o => .ifCond .ne o) 3 7 10 := ⟨6, by decide +kernel, rfl, by decide⟩
theorem dX6_back_7 : Dk kX6_back 7 (.bipush (-3)) 2 9 := ⟨by decide +kernel, rfl⟩
theorem dX6_back_9 : Dk kX6_back 9 (.ireturn) 1 10 := ⟨by decide +kernel, rfl⟩
theorem dX6_back_10 : Dk kX6_back 10 (.iconst 0) 1 11 := ⟨by decide +kernel, rfl⟩
theorem dX6_back_11 : Dk kX6_back 11 (.istore_n 1) 1 12 := ⟨by decide +kernel, rfl⟩
theorem dX6_back_12 : Dk kX6_back 12 (.iload_n 1) 1 13 := ⟨by decide +kernel, rfl⟩
theorem dX6_back_13 : Dk kX6_back 13 (.bipush 18) 2 15 := ⟨by decide +kernel, rfl⟩
theorem dX6_back_15 : Dj kX6_back 15 (fun o => .if_icmp .ge o) 3 18 36 := ⟨21, by decide +kernel, rfl, by decide⟩
theorem dX6_back_18 : Dk kX6_back 18 (.aload_n 0) 1 19 := ⟨by decide +kernel, rfl⟩
theorem dX6_back_19 : Dk kX6_back 19 (.getfield 16) 3 22 := ⟨by decide +kernel, rfl⟩
theorem dX6_back_22 : Dk kX6_back 22 (.iload_n 1) 1 23 := ⟨by decide +kernel, rfl⟩
theorem dX6_back_23 : Dk kX6_back 23 (.aload_n 0) 1 24 := ⟨by decide +kernel, rfl⟩
theorem dX6_back_24 : Dk kX6_back 24 (.getfield 31) 3 27 := ⟨by decide +kernel, rfl⟩
theorem dX6_back_27 : Dk kX6_back 27 (.iload_n 1) 1 28 := ⟨by decide +kernel, rfl⟩
theorem dX6_back_28 : Dk kX6_back 28 (.iaload) 1 29 := ⟨by decide +kernel, rfl⟩
theorem dX6_back_29 : Dk kX6_back 29 (.iastore) 1 30 := ⟨by decide +kernel, rfl⟩
theorem dX6_back_30 : Dk kX6_back 30 (.iinc 1 1) 3 33 := ⟨by decide +kernel, rfl⟩
theorem dX6_back_33 : Dj kX6_back 33 (fun o => .goto o) 3 36 12 := ⟨-21, by decide +kernel, rfl, by decide⟩
theorem dX6_back_36 : Dk kX6_back 36 (.iconst 0) 1 37 := ⟨by decide +kernel, rfl⟩
theorem dX6_back_37 : Dk kX6_back 37 (.istore_n 1) 1 38 := ⟨by decide +kernel, rfl⟩
theorem dX6_back_38 : Dk kX6_back 38 (.iload_n 1) 1 39 := ⟨by decide +kernel, rfl⟩
theorem dX6_back_39 : Dk kX6_back 39 (.bipush 24) 2 41 := ⟨by decide +kernel, rfl⟩
theorem dX6_back_41 : Dj kX6_back 41 (fun o => .if_icmp .ge o) 3 44 65 := ⟨24, by decide +kernel, rfl, by decide⟩
theorem dX6_back_44 : Dk kX6_back 44 (.aload_n 0) 1 45 := ⟨by decide +kernel, rfl⟩
theorem dX6_back_45 : Dk kX6_back 45 (.getfield 19) 3 48 := ⟨by decide +kernel, rfl⟩
theorem dX6_back_48 : Dk kX6_back 48 (.iload_n 1) 1 49 := ⟨by decide +kernel, rfl⟩
theorem dX6_back_49 : Dk kX6_back 49 (.aload_n 0) 1 50 := ⟨by decide +kernel, rfl⟩
theorem dX6_back_50 : Dk kX6_back 50 (.getfield 31) 3 53 := ⟨by decide +kernel, rfl⟩
theorem dX6_back_53 : Dk kX6_back 53 (.bipush 18) 2 55 := ⟨by decide +kernel, rfl⟩
theorem dX6_back_55 : Dk kX6_back 55 (.iload_n 1) 1 56 := ⟨by decide +kernel, rfl⟩
theorem dX6_back_56 : Dk kX6_back 56 (.iadd) 1 57 := ⟨by decide +kernel, rfl⟩
theorem dX6_back_57 : Dk kX6_back 57 (.iaload) 1 58 := ⟨by decide +kernel, rfl⟩
theorem dX6_back_58 : Dk kX6_back 58 (.iastore) 1 59 := ⟨by decide +kernel, rfl⟩
theorem dX6_back_59 : Dk kX6_back 59 (.iinc 1 1) 3 62 := ⟨by decide +kernel, rfl⟩
theorem dX6_back_62 : Dj kX6_back 62 (fun o => .goto o) 3 65 38 := ⟨-24, by decide +kernel, rfl, by decide⟩
theorem dX6_back_65 : Dk kX6_back 65 (.aload_n 0) 1 66 := ⟨by decide +kernel, rfl⟩
theorem dX6_back_66 : Dk kX6_back 66 (.aload_n 0) 1 67 := ⟨by decide +kernel, rfl⟩
theorem dX6_back_67 : Dk kX6_back 67 (.getfield 34) 3 70 := ⟨by decide +kernel, rfl⟩
theorem dX6_back_70 : Dk kX6_back 70 (.iconst 0) 1 71 := ⟨by decide +kernel, rfl⟩
theorem dX6_back_71 : Dk kX6_back 71 (.iaload) 1 72 := ⟨by decide +kernel, rfl⟩
theorem dX6_back_72 : Dk kX6_back 72 (.putfield 72) 3 75 := ⟨by decide +kernel, rfl⟩
theorem dX6_back_75 : Dk kX6_back 75 (.aload_n 0) 1 76 := ⟨by decide +kernel, rfl⟩
theorem dX6_back_76 : Dk kX6_back 76 (.aload_n 0) 1 77 := ⟨by decide +kernel, rfl⟩
theorem dX6_back_77 : Dk kX6_back 77 (.getfield 34) 3 80 := ⟨by decide +kernel, rfl⟩
theorem dX6_back_80 : Dk kX6_back 80 (.iconst 1) 1 81 := ⟨by decide +kernel, rfl⟩
theorem dX6_back_81 : Dk kX6_back 81 (.iaload) 1 82 := ⟨by decide +kernel, rfl⟩
theorem dX6_back_82 : Dk kX6_back 82 (.putfield 79) 3 85 := ⟨by decide +kernel, rfl⟩
theorem dX6_back_85 : Dk kX6_back 85 (.aload_n 0) 1 86 := ⟨by decide +kernel, rfl⟩
theorem dX6_back_86 : Dk kX6_back 86 (.aload_n 0) 1 87 := ⟨by decide +kernel, rfl⟩
theorem dX6_back_87 : Dk kX6_back 87 (.getfield 34) 3 90 := ⟨by decide +kernel, rfl⟩
theorem dX6_back_90 : Dk kX6_back 90 (.iconst 2) 1 91 := ⟨by decide +kernel, rfl⟩
theorem dX6_back_91 : Dk kX6_back 91 (.iaload) 1 92 := ⟨by decide +kernel, rfl⟩
theorem dX6_back_92 : Dk kX6_back 92 (.putfield 92) 3 95 := ⟨by decide +kernel, rfl⟩
theorem dX6_back_95 : Dk kX6_back 95 (.aload_n 0) 1 96 := ⟨by decide +kernel, rfl⟩
theorem dX6_back_96 : Dk kX6_back 96 (.getfield 72) 3 99 := ⟨by decide +kernel, rfl⟩
theorem dX6_back_99 : Dk kX6_back 99 (.ireturn) 1 100 := ⟨by decide +kernel, rfl⟩
theorem dX6_sheet_0 : Dk kX6_sheet 0 (.iload_n 1) 1 1 := ⟨by decide +kernel, rfl⟩
theorem dX6_sheet_1 : Dk kX6_sheet 1 (.iconst 0) 1 2 := ⟨by decide +kernel, rfl⟩
theorem dX6_sheet_2 : Dk kX6_sheet 2 (.iconst 3) 1 3 := ⟨by decide +kernel, rfl⟩
theorem dX6_sheet_3 : Dk kX6_sheet 3 (.invokestatic 75) 3 6 := ⟨by decide +kernel, rfl⟩
theorem dX6_sheet_6 : Dj kX6_sheet 6 (fun o => .ifCond .eq o) 3 9 29 := ⟨23, by decide +kernel, rfl, by decide⟩
theorem dX6_sheet_9 : Dk kX6_sheet 9 (.iload_n 2) 1 10 := ⟨by decide +kernel, rfl⟩
theorem dX6_sheet_10 : Dk kX6_sheet 10 (.iconst (-1)) 1 11 := ⟨by decide +kernel, rfl⟩
theorem dX6_sheet_11 : Dk kX6_sheet 11 (.iconst 2) 1 12 := ⟨by decide +kernel, rfl⟩
theorem dX6_sheet_12 : Dk kX6_sheet 12 (.invokestatic 75) 3 15 := ⟨by decide +kernel, rfl⟩
theorem dX6_sheet_15 : Dj kX6_sheet 15 (fun o => .ifCond .eq o) 3 18 29 := ⟨14, by decide +kernel, rfl, by decide⟩
theorem dX6_sheet_18 : Dk kX6_sheet 18 (.iload_n 2) 1 19 := ⟨by decide +kernel, rfl⟩
theorem dX6_sheet_19 : Dk kX6_sheet 19 (.iconst (-1)) 1 20 := ⟨by decide +kernel, rfl⟩
theorem dX6_sheet_20 : Dj kX6_sheet 20 (fun o => .if_icmp .eq o) 3 23 32 := ⟨12, by decide +kernel, rfl, by decide⟩
theorem dX6_sheet_23 : Dk kX6_sheet 23 (.iload_n 3) 1 24 := ⟨by decide +kernel, rfl⟩
theorem dX6_sheet_24 : Dk kX6_sheet 24 (.bipush 40) 2 26 := ⟨by decide +kernel, rfl⟩
theorem dX6_sheet_26 : Dj kX6_sheet 26 (fun o => .if_icmp .le o) 3 29 32 := ⟨6, by decide +kernel, rfl, by decide⟩
theorem dX6_sheet_29 : Dk kX6_sheet 29 (.bipush (-2)) 2 31 := ⟨by decide +kernel, rfl⟩
theorem dX6_sheet_31 : Dk kX6_sheet 31 (.ireturn) 1 32 := ⟨by decide +kernel, rfl⟩
theorem dX6_sheet_32 : Dk kX6_sheet 32 (.iload_n 2) 1 33 := ⟨by decide +kernel, rfl⟩
theorem dX6_sheet_33 : Dk kX6_sheet 33 (.iconst (-1)) 1 34 := ⟨by decide +kernel, rfl⟩
theorem dX6_sheet_34 : Dj kX6_sheet 34 (fun o => .if_icmp .eq o) 3 37 44 := ⟨10, by decide +kernel, rfl, by decide⟩
theorem dX6_sheet_37 : Dk kX6_sheet 37 (.iload_n 3) 1 38 := ⟨by decide +kernel, rfl⟩
theorem dX6_sheet_38 : Dj kX6_sheet 38 (fun o => .ifCond .ge o) 3 41 44 := ⟨6, by decide +kernel, rfl, by decide⟩
theorem dX6_sheet_41 : Dk kX6_sheet 41 (.bipush (-14)) 2 43 := ⟨by decide +kernel, rfl⟩
theorem dX6_sheet_43 : Dk kX6_sheet 43 (.ireturn) 1 44 := ⟨by decide +kernel, rfl⟩
theorem dX6_sheet_44 : Dk kX6_sheet 44 (.aload_n 0) 1 45 := ⟨by decide +kernel, rfl⟩
theorem dX6_sheet_45 : Dk kX6_sheet 45 (.getfield 37) 3 48 := ⟨by decide +kernel, rfl⟩
theorem dX6_sheet_48 : Dk kX6_sheet 48 (.iload_n 1) 1 49 := ⟨by decide +kernel, rfl⟩
theorem dX6_sheet_49 : Dk kX6_sheet 49 (.iload_n 2) 1 50 := ⟨by decide +kernel, rfl⟩
theorem dX6_sheet_50 : Dk kX6_sheet 50 (.iastore) 1 51 := ⟨by decide +kernel, rfl⟩
theorem dX6_sheet_51 : Dk kX6_sheet 51 (.aload_n 0) 1 52 := ⟨by decide +kernel, rfl⟩
theorem dX6_sheet_52 : Dk kX6_sheet 52 (.getfield 40) 3 55 := ⟨by decide +kernel, rfl⟩
theorem dX6_sheet_55 : Dk kX6_sheet 55 (.iload_n 1) 1 56 := ⟨by decide +kernel, rfl⟩
theorem dX6_sheet_56 : Dk kX6_sheet 56 (.iload_n 2) 1 57 := ⟨by decide +kernel, rfl⟩
theorem dX6_sheet_57 : Dk kX6_sheet 57 (.iconst (-1)) 1 58 := ⟨by decide +kernel, rfl⟩
theorem dX6_sheet_58 : Dj kX6_sheet 58 (fun o => .if_icmp .ne o) 3 61 65 := ⟨7, by decide +kernel, rfl, by decide⟩
theorem dX6_sheet_61 : Dk kX6_sheet 61 (.iconst 0) 1 62 := ⟨by decide +kernel, rfl⟩
theorem dX6_sheet_62 : Dj kX6_sheet 62 (fun o => .goto o) 3 65 66 := ⟨4, by decide +kernel, rfl, by decide⟩
theorem dX6_sheet_65 : Dk kX6_sheet 65 (.iload_n 3) 1 66 := ⟨by decide +kernel, rfl⟩
theorem dX6_sheet_66 : Dk kX6_sheet 66 (.iastore) 1 67 := ⟨by decide +kernel, rfl⟩
theorem dX6_sheet_67 : Dk kX6_sheet 67 (.iconst 0) 1 68 := ⟨by decide +kernel, rfl⟩
theorem dX6_sheet_68 : Dk kX6_sheet 68 (.istore 4) 2 70 := ⟨by decide +kernel, rfl⟩
theorem dX6_sheet_70 : Dk kX6_sheet 70 (.iload 4) 2 72 := ⟨by decide +kernel, rfl⟩
theorem dX6_sheet_72 : Dk kX6_sheet 72 (.bipush 40) 2 74 := ⟨by decide +kernel, rfl⟩
theorem dX6_sheet_74 : Dj kX6_sheet 74 (fun o => .if_icmp .ge o) 3 77 96 := ⟨22, by decide +kernel, rfl, by decide⟩
theorem dX6_sheet_77 : Dk kX6_sheet 77 (.aload_n 0) 1 78 := ⟨by decide +kernel, rfl⟩
theorem dX6_sheet_78 : Dk kX6_sheet 78 (.getfield 43) 3 81 := ⟨by decide +kernel, rfl⟩
theorem dX6_sheet_81 : Dk kX6_sheet 81 (.bipush 40) 2 83 := ⟨by decide +kernel, rfl⟩
theorem dX6_sheet_83 : Dk kX6_sheet 83 (.iload_n 1) 1 84 := ⟨by decide +kernel, rfl⟩
theorem dX6_sheet_84 : Dk kX6_sheet 84 (.imul) 1 85 := ⟨by decide +kernel, rfl⟩
theorem dX6_sheet_85 : Dk kX6_sheet 85 (.iload 4) 2 87 := ⟨by decide +kernel, rfl⟩
theorem dX6_sheet_87 : Dk kX6_sheet 87 (.iadd) 1 88 := ⟨by decide +kernel, rfl⟩
theorem dX6_sheet_88 : Dk kX6_sheet 88 (.iconst 0) 1 89 := ⟨by decide +kernel, rfl⟩
theorem dX6_sheet_89 : Dk kX6_sheet 89 (.iastore) 1 90 := ⟨by decide +kernel, rfl⟩
theorem dX6_sheet_90 : Dk kX6_sheet 90 (.iinc 4 1) 3 93 := ⟨by decide +kernel, rfl⟩
theorem dX6_sheet_93 : Dj kX6_sheet 93 (fun o => .goto o) 3 96 70 := ⟨-23, by decide +kernel, rfl, by decide⟩
theorem dX6_sheet_96 : Dk kX6_sheet 96 (.iconst 1) 1 97 := ⟨by decide +kernel, rfl⟩
theorem dX6_sheet_97 : Dk kX6_sheet 97 (.ireturn) 1 98 := ⟨by decide +kernel, rfl⟩
theorem dX6_cell_0 : Dk kX6_cell 0 (.iload_n 1) 1 1 := ⟨by decide +kernel, rfl⟩
theorem dX6_cell_1 : Dk kX6_cell 1 (.iconst 0) 1 2 := ⟨by decide +kernel, rfl⟩
theorem dX6_cell_2 : Dk kX6_cell 2 (.iconst 3) 1 3 := ⟨by decide +kernel, rfl⟩
theorem dX6_cell_3 : Dk kX6_cell 3 (.invokestatic 75) 3 6 := ⟨by decide +kernel, rfl⟩
theorem dX6_cell_6 : Dj kX6_cell 6 (fun o => .ifCond .ne o) 3 9 12 := ⟨6, by decide +kernel, rfl, by decide⟩
theorem dX6_cell_9 : Dk kX6_cell 9 (.bipush (-2)) 2 11 := ⟨by decide +kernel, rfl⟩
theorem dX6_cell_11 : Dk kX6_cell 11 (.ireturn) 1 12 := ⟨by decide +kernel, rfl⟩
theorem dX6_cell_12 : Dk kX6_cell 12 (.aload_n 0) 1 13 := ⟨by decide +kernel, rfl⟩
theorem dX6_cell_13 : Dk kX6_cell 13 (.getfield 37) 3 16 := ⟨by decide +kernel, rfl⟩
theorem dX6_cell_16 : Dk kX6_cell 16 (.iload_n 1) 1 17 := ⟨by decide +kernel, rfl⟩
theorem dX6_cell_17 : Dk kX6_cell 17 (.iaload) 1 18 := ⟨by decide +kernel, rfl⟩
theorem dX6_cell_18 : Dk kX6_cell 18 (.iconst (-1)) 1 19 := ⟨by decide +kernel, rfl⟩
theorem dX6_cell_19 : Dj kX6_cell 19 (fun o => .if_icmp .ne o) 3 22 25 := ⟨6, by decide +kernel, rfl, by decide⟩
theorem dX6_cell_22 : Dk kX6_cell 22 (.bipush (-11)) 2 24 := ⟨by decide +kernel, rfl⟩
theorem dX6_cell_24 : Dk kX6_cell 24 (.ireturn) 1 25 := ⟨by decide +kernel, rfl⟩
theorem dX6_cell_25 : Dk kX6_cell 25 (.iload_n 2) 1 26 := ⟨by decide +kernel, rfl⟩
theorem dX6_cell_26 : Dk kX6_cell 26 (.iconst 0) 1 27 := ⟨by decide +kernel, rfl⟩
theorem dX6_cell_27 : Dk kX6_cell 27 (.aload_n 0) 1 28 := ⟨by decide +kernel, rfl⟩
theorem dX6_cell_28 : Dk kX6_cell 28 (.getfield 40) 3 31 := ⟨by decide +kernel, rfl⟩
theorem dX6_cell_31 : Dk kX6_cell 31 (.iload_n 1) 1 32 := ⟨by decide +kernel, rfl⟩
theorem dX6_cell_32 : Dk kX6_cell 32 (.iaload) 1 33 := ⟨by decide +kernel, rfl⟩
theorem dX6_cell_33 : Dk kX6_cell 33 (.iconst 1) 1 34 := ⟨by decide +kernel, rfl⟩
theorem dX6_cell_34 : Dk kX6_cell 34 (.isub) 1 35 := ⟨by decide +kernel, rfl⟩
theorem dX6_cell_35 : Dk kX6_cell 35 (.invokestatic 75) 3 38 := ⟨by decide +kernel, rfl⟩
theorem dX6_cell_38 : Dj kX6_cell 38 (fun o => .ifCond .ne o) 3 41 44 := ⟨6, by decide +kernel, rfl, by decide⟩
theorem dX6_cell_41 : Dk kX6_cell 41 (.bipush (-12)) 2 43 := ⟨by decide +kernel, rfl⟩
theorem dX6_cell_43 : Dk kX6_cell 43 (.ireturn) 1 44 := ⟨by decide +kernel, rfl⟩
theorem dX6_cell_44 : Dk kX6_cell 44 (.aload_n 0) 1 45 := ⟨by decide +kernel, rfl⟩
theorem dX6_cell_45 : Dk kX6_cell 45 (.getfield 43) 3 48 := ⟨by decide +kernel, rfl⟩
theorem dX6_cell_48 : Dk kX6_cell 48 (.bipush 40) 2 50 := ⟨by decide +kernel, rfl⟩
theorem dX6_cell_50 : Dk kX6_cell 50 (.iload_n 1) 1 51 := ⟨by decide +kernel, rfl⟩
theorem dX6_cell_51 : Dk kX6_cell 51 (.imul) 1 52 := ⟨by decide +kernel, rfl⟩
theorem dX6_cell_52 : Dk kX6_cell 52 (.iload_n 2) 1 53 := ⟨by decide +kernel, rfl⟩
theorem dX6_cell_53 : Dk kX6_cell 53 (.iadd) 1 54 := ⟨by decide +kernel, rfl⟩
theorem dX6_cell_54 : Dk kX6_cell 54 (.aload_n 0) 1 55 := ⟨by decide +kernel, rfl⟩
theorem dX6_cell_55 : Dk kX6_cell 55 (.getfield 37) 3 58 := ⟨by decide +kernel, rfl⟩
theorem dX6_cell_58 : Dk kX6_cell 58 (.iload_n 1) 1 59 := ⟨by decide +kernel, rfl⟩
theorem dX6_cell_59 : Dk kX6_cell 59 (.iaload) 1 60 := ⟨by decide +kernel, rfl⟩
theorem dX6_cell_60 : Dj kX6_cell 60 (fun o => .ifCond .ne o) 3 63 68 := ⟨8, by decide +kernel, rfl, by decide⟩
theorem dX6_cell_63 : Dk kX6_cell 63 (.iload_n 3) 1 64 := ⟨by decide +kernel, rfl⟩
theorem dX6_cell_64 : Dk kX6_cell 64 (.i2b) 1 65 := ⟨by decide +kernel, rfl⟩
theorem dX6_cell_65 : Dj kX6_cell 65 (fun o => .goto o) 3 68 84 := ⟨19, by decide +kernel, rfl, by decide⟩
theorem dX6_cell_68 : Dk kX6_cell 68 (.aload_n 0) 1 69 := ⟨by decide +kernel, rfl⟩
theorem dX6_cell_69 : Dk kX6_cell 69 (.getfield 37) 3 72 := ⟨by decide +kernel, rfl⟩
theorem dX6_cell_72 : Dk kX6_cell 72 (.iload_n 1) 1 73 := ⟨by decide +kernel, rfl⟩
theorem dX6_cell_73 : Dk kX6_cell 73 (.iaload) 1 74 := ⟨by decide +kernel, rfl⟩
theorem dX6_cell_74 : Dk kX6_cell 74 (.iconst 1) 1 75 := ⟨by decide +kernel, rfl⟩
theorem dX6_cell_75 : Dj kX6_cell 75 (fun o => .if_icmp .ne o) 3 78 83 := ⟨8, by decide +kernel, rfl, by decide⟩
theorem dX6_cell_78 : Dk kX6_cell 78 (.iload_n 3) 1 79 := ⟨by decide +kernel, rfl⟩
theorem dX6_cell_79 : Dk kX6_cell 79 (.i2s) 1 80 := ⟨by decide +kernel, rfl⟩
theorem dX6_cell_80 : Dj kX6_cell 80 (fun o => .goto o) 3 83 84 := ⟨4, by decide +kernel, rfl, by decide⟩
theorem dX6_cell_83 : Dk kX6_cell 83 (.iload_n 3) 1 84 := ⟨by decide +kernel, rfl⟩
theorem dX6_cell_84 : Dk kX6_cell 84 (.iastore) 1 85 := ⟨by decide +kernel, rfl⟩
theorem dX6_cell_85 : Dk kX6_cell 85 (.iconst 1) 1 86 := ⟨by decide +kernel, rfl⟩
theorem dX6_cell_86 : Dk kX6_cell 86 (.ireturn) 1 87 := ⟨by decide +kernel, rfl⟩
theorem dX6_copy_0 : Dk kX6_copy 0 (.iload_n 1) 1 1 := ⟨by decide +kernel, rfl⟩
theorem dX6_copy_1 : Dk kX6_copy 1 (.iconst 0) 1 2 := ⟨by decide +kernel, rfl⟩
theorem dX6_copy_2 : Dk kX6_copy 2 (.iconst 3) 1 3 := ⟨by decide +kernel, rfl⟩
theorem dX6_copy_3 : Dk kX6_copy 3 (.invokestatic 75) 3 6 := ⟨by decide +kernel, rfl⟩
theorem dX6_copy_6 : Dj kX6_copy 6 (fun o => .ifCond .eq o) 3 9 18 := ⟨12, by decide +kernel, rfl, by decide⟩
theorem dX6_copy_9 : Dk kX6_copy 9 (.iload_n 3) 1 10 := ⟨by decide +kernel, rfl⟩
theorem dX6_copy_10 : Dk kX6_copy 10 (.iconst 0) 1 11 := ⟨by decide +kernel, rfl⟩
theorem dX6_copy_11 : Dk kX6_copy 11 (.iconst 3) 1 12 := ⟨by decide +kernel, rfl⟩
theorem dX6_copy_12 : Dk kX6_copy 12 (.invokestatic 75) 3 15 := ⟨by decide +kernel, rfl⟩
theorem dX6_copy_15 : Dj kX6_copy 15 (fun o => .ifCond .ne o) 3 18 21 := ⟨6, by decide +kernel, rfl, by decide⟩
theorem dX6_copy_18 : Dk kX6_copy 18 (.bipush (-2)) 2 20 := ⟨by decide +kernel, rfl⟩
theorem dX6_copy_20 : Dk kX6_copy 20 (.ireturn) 1 21 := ⟨by decide +kernel, rfl⟩
theorem dX6_copy_21 : Dk kX6_copy 21 (.aload_n 0) 1 22 := ⟨by decide +kernel, rfl⟩
theorem dX6_copy_22 : Dk kX6_copy 22 (.getfield 37) 3 25 := ⟨by decide +kernel, rfl⟩
theorem dX6_copy_25 : Dk kX6_copy 25 (.iload_n 1) 1 26 := ⟨by decide +kernel, rfl⟩
theorem dX6_copy_26 : Dk kX6_copy 26 (.iaload) 1 27 := ⟨by decide +kernel, rfl⟩
theorem dX6_copy_27 : Dk kX6_copy 27 (.iconst (-1)) 1 28 := ⟨by decide +kernel, rfl⟩
theorem dX6_copy_28 : Dj kX6_copy 28 (fun o => .if_icmp .eq o) 3 31 41 := ⟨13, by decide +kernel, rfl, by decide⟩
theorem dX6_copy_31 : Dk kX6_copy 31 (.aload_n 0) 1 32 := ⟨by decide +kernel, rfl⟩
theorem dX6_copy_32 : Dk kX6_copy 32 (.getfield 37) 3 35 := ⟨by decide +kernel, rfl⟩
theorem dX6_copy_35 : Dk kX6_copy 35 (.iload_n 3) 1 36 := ⟨by decide +kernel, rfl⟩
theorem dX6_copy_36 : Dk kX6_copy 36 (.iaload) 1 37 := ⟨by decide +kernel, rfl⟩
theorem dX6_copy_37 : Dk kX6_copy 37 (.iconst (-1)) 1 38 := ⟨by decide +kernel, rfl⟩
theorem dX6_copy_38 : Dj kX6_copy 38 (fun o => .if_icmp .ne o) 3 41 44 := ⟨6, by decide +kernel, rfl, by decide⟩
theorem dX6_copy_41 : Dk kX6_copy 41 (.bipush (-11)) 2 43 := ⟨by decide +kernel, rfl⟩
theorem dX6_copy_43 : Dk kX6_copy 43 (.ireturn) 1 44 := ⟨by decide +kernel, rfl⟩
theorem dX6_copy_44 : Dk kX6_copy 44 (.aload_n 0) 1 45 := ⟨by decide +kernel, rfl⟩
theorem dX6_copy_45 : Dk kX6_copy 45 (.getfield 37) 3 48 := ⟨by decide +kernel, rfl⟩
theorem dX6_copy_48 : Dk kX6_copy 48 (.iload_n 1) 1 49 := ⟨by decide +kernel, rfl⟩
theorem dX6_copy_49 : Dk kX6_copy 49 (.iaload) 1 50 := ⟨by decide +kernel, rfl⟩
theorem dX6_copy_50 : Dk kX6_copy 50 (.aload_n 0) 1 51 := ⟨by decide +kernel, rfl⟩
theorem dX6_copy_51 : Dk kX6_copy 51 (.getfield 37) 3 54 := ⟨by decide +kernel, rfl⟩
theorem dX6_copy_54 : Dk kX6_copy 54 (.iload_n 3) 1 55 := ⟨by decide +kernel, rfl⟩
theorem dX6_copy_55 : Dk kX6_copy 55 (.iaload) 1 56 := ⟨by decide +kernel, rfl⟩
theorem dX6_copy_56 : Dj kX6_copy 56 (fun o => .if_icmp .eq o) 3 59 62 := ⟨6, by decide +kernel, rfl, by decide⟩
theorem dX6_copy_59 : Dk kX6_copy 59 (.bipush (-13)) 2 61 := ⟨by decide +kernel, rfl⟩
theorem dX6_copy_61 : Dk kX6_copy 61 (.ireturn) 1 62 := ⟨by decide +kernel, rfl⟩
theorem dX6_copy_62 : Dk kX6_copy 62 (.iload 5) 2 64 := ⟨by decide +kernel, rfl⟩
theorem dX6_copy_64 : Dj kX6_copy 64 (fun o => .ifCond .lt o) 3 67 124 := ⟨60, by decide +kernel, rfl, by decide⟩
theorem dX6_copy_67 : Dk kX6_copy 67 (.iload_n 2) 1 68 := ⟨by decide +kernel, rfl⟩
theorem dX6_copy_68 : Dj kX6_copy 68 (fun o => .ifCond .lt o) 3 71 124 := ⟨56, by decide +kernel, rfl, by decide⟩
theorem dX6_copy_71 : Dk kX6_copy 71 (.iload 4) 2 73 := ⟨by decide +kernel, rfl⟩
theorem dX6_copy_73 : Dj kX6_copy 73 (fun o => .ifCond .lt o) 3 76 124 := ⟨51, by decide +kernel, rfl, by decide⟩
theorem dX6_copy_76 : Dk kX6_copy 76 (.iload_n 2) 1 77 := ⟨by decide +kernel, rfl⟩
theorem dX6_copy_77 : Dk kX6_copy 77 (.aload_n 0) 1 78 := ⟨by decide +kernel, rfl⟩
theorem dX6_copy_78 : Dk kX6_copy 78 (.getfield 40) 3 81 := ⟨by decide +kernel, rfl⟩
theorem dX6_copy_81 : Dk kX6_copy 81 (.iload_n 1) 1 82 := ⟨by decide +kernel, rfl⟩
theorem dX6_copy_82 : Dk kX6_copy 82 (.iaload) 1 83 := ⟨by decide +kernel, rfl⟩
theorem dX6_copy_83 : Dj kX6_copy 83 (fun o => .if_icmp .gt o) 3 86 124 := ⟨41, by decide +kernel, rfl, by decide⟩
theorem dX6_copy_86 : Dk kX6_copy 86 (.iload 4) 2 88 := ⟨by decide +kernel, rfl⟩
theorem dX6_copy_88 : Dk kX6_copy 88 (.aload_n 0) 1 89 := ⟨by decide +kernel, rfl⟩
theorem dX6_copy_89 : Dk kX6_copy 89 (.getfield 40) 3 92 := ⟨by decide +kernel, rfl⟩
theorem dX6_copy_92 : Dk kX6_copy 92 (.iload_n 3) 1 93 := ⟨by decide +kernel, rfl⟩
theorem dX6_copy_93 : Dk kX6_copy 93 (.iaload) 1 94 := ⟨by decide +kernel, rfl⟩
theorem dX6_copy_94 : Dj kX6_copy 94 (fun o => .if_icmp .gt o) 3 97 124 := ⟨30, by decide +kernel, rfl, by decide⟩
theorem dX6_copy_97 : Dk kX6_copy 97 (.iload 5) 2 99 := ⟨by decide +kernel, rfl⟩
theorem dX6_copy_99 : Dk kX6_copy 99 (.aload_n 0) 1 100 := ⟨by decide +kernel, rfl⟩
theorem dX6_copy_100 : Dk kX6_copy 100 (.getfield 40) 3 103 := ⟨by decide +kernel, rfl⟩
theorem dX6_copy_103 : Dk kX6_copy 103 (.iload_n 1) 1 104 := ⟨by decide +kernel, rfl⟩
theorem dX6_copy_104 : Dk kX6_copy 104 (.iaload) 1 105 := ⟨by decide +kernel, rfl⟩
theorem dX6_copy_105 : Dk kX6_copy 105 (.iload_n 2) 1 106 := ⟨by decide +kernel, rfl⟩
theorem dX6_copy_106 : Dk kX6_copy 106 (.isub) 1 107 := ⟨by decide +kernel, rfl⟩
theorem dX6_copy_107 : Dj kX6_copy 107 (fun o => .if_icmp .gt o) 3 110 124 := ⟨17, by decide +kernel, rfl, by decide⟩
theorem dX6_copy_110 : Dk kX6_copy 110 (.iload 5) 2 112 := ⟨by decide +kernel, rfl⟩
theorem dX6_copy_112 : Dk kX6_copy 112 (.aload_n 0) 1 113 := ⟨by decide +kernel, rfl⟩
theorem dX6_copy_113 : Dk kX6_copy 113 (.getfield 40) 3 116 := ⟨by decide +kernel, rfl⟩
theorem dX6_copy_116 : Dk kX6_copy 116 (.iload_n 3) 1 117 := ⟨by decide +kernel, rfl⟩
theorem dX6_copy_117 : Dk kX6_copy 117 (.iaload) 1 118 := ⟨by decide +kernel, rfl⟩
theorem dX6_copy_118 : Dk kX6_copy 118 (.iload 4) 2 120 := ⟨by decide +kernel, rfl⟩
theorem dX6_copy_120 : Dk kX6_copy 120 (.isub) 1 121 := ⟨by decide +kernel, rfl⟩
theorem dX6_copy_121 : Dj kX6_copy 121 (fun o => .if_icmp .le o) 3 124 127 := ⟨6, by decide +kernel, rfl, by decide⟩
theorem dX6_copy_124 : Dk kX6_copy 124 (.bipush (-12)) 2 126 := ⟨by decide +kernel, rfl⟩
theorem dX6_copy_126 : Dk kX6_copy 126 (.ireturn) 1 127 := ⟨by decide +kernel, rfl⟩
theorem dX6_copy_127 : Dk kX6_copy 127 (.bipush 40) 2 129 := ⟨by decide +kernel, rfl⟩
theorem dX6_copy_129 : Dk kX6_copy 129 (.iload_n 1) 1 130 := ⟨by decide +kernel, rfl⟩
theorem dX6_copy_130 : Dk kX6_copy 130 (.imul) 1 131 := ⟨by decide +kernel, rfl⟩
theorem dX6_copy_131 : Dk kX6_copy 131 (.iload_n 2) 1 132 := ⟨by decide +kernel, rfl⟩
theorem dX6_copy_132 : Dk kX6_copy 132 (.iadd) 1 133 := ⟨by decide +kernel, rfl⟩
theorem dX6_copy_133 : Dk kX6_copy 133 (.istore 6) 2 135 := ⟨by decide +kernel, rfl⟩
theorem dX6_copy_135 : Dk kX6_copy 135 (.bipush 40) 2 137 := ⟨by decide +kernel, rfl⟩
theorem dX6_copy_137 : Dk kX6_copy 137 (.iload_n 3) 1 138 := ⟨by decide +kernel, rfl⟩
theorem dX6_copy_138 : Dk kX6_copy 138 (.imul) 1 139 := ⟨by decide +kernel, rfl⟩
theorem dX6_copy_139 : Dk kX6_copy 139 (.iload 4) 2 141 := ⟨by decide +kernel, rfl⟩
theorem dX6_copy_141 : Dk kX6_copy 141 (.iadd) 1 142 := ⟨by decide +kernel, rfl⟩
theorem dX6_copy_142 : Dk kX6_copy 142 (.istore 7) 2 144 := ⟨by decide +kernel, rfl⟩
theorem dX6_copy_144 : Dk kX6_copy 144 (.iconst 0) 1 145 := ⟨by decide +kernel, rfl⟩
theorem dX6_copy_145 : Dk kX6_copy 145 (.istore 8) 2 147 := ⟨by decide +kernel, rfl⟩
theorem dX6_copy_147 : Dk kX6_copy 147 (.iload 8) 2 149 := ⟨by decide +kernel, rfl⟩
theorem dX6_copy_149 : Dk kX6_copy 149 (.iload 5) 2 151 := ⟨by decide +kernel, rfl⟩
theorem dX6_copy_151 : Dj kX6_copy 151 (fun o => .if_icmp .ge o) 3 154 201 := ⟨50, by decide +kernel, rfl, by decide⟩
theorem dX6_copy_154 : Dk kX6_copy 154 (.iload 6) 2 156 := ⟨by decide +kernel, rfl⟩
theorem dX6_copy_156 : Dk kX6_copy 156 (.iload 7) 2 158 := ⟨by decide +kernel, rfl⟩
theorem dX6_copy_158 : Dj kX6_copy 158 (fun o => .if_icmp .ge o) 3 161 171 := ⟨13, by decide +kernel, rfl, by decide⟩
theorem dX6_copy_161 : Dk kX6_copy 161 (.iload 5) 2 163 := ⟨by decide +kernel, rfl⟩
theorem dX6_copy_163 : Dk kX6_copy 163 (.iconst 1) 1 164 := ⟨by decide +kernel, rfl⟩
theorem dX6_copy_164 : Dk kX6_copy 164 (.isub) 1 165 := ⟨by decide +kernel, rfl⟩
theorem dX6_copy_165 : Dk kX6_copy 165 (.iload 8) 2 167 := ⟨by decide +kernel, rfl⟩
theorem dX6_copy_167 : Dk kX6_copy 167 (.isub) 1 168 := ⟨by decide +kernel, rfl⟩
theorem dX6_copy_168 : Dj kX6_copy 168 (fun o => .goto o) 3 171 173 := ⟨5, by decide +kernel, rfl, by decide⟩
theorem dX6_copy_171 : Dk kX6_copy 171 (.iload 8) 2 173 := ⟨by decide +kernel, rfl⟩
theorem dX6_copy_173 : Dk kX6_copy 173 (.istore 9) 2 175 := ⟨by decide +kernel, rfl⟩
theorem dX6_copy_175 : Dk kX6_copy 175 (.aload_n 0) 1 176 := ⟨by decide +kernel, rfl⟩
theorem dX6_copy_176 : Dk kX6_copy 176 (.getfield 43) 3 179 := ⟨by decide +kernel, rfl⟩
theorem dX6_copy_179 : Dk kX6_copy 179 (.iload 7) 2 181 := ⟨by decide +kernel, rfl⟩
theorem dX6_copy_181 : Dk kX6_copy 181 (.iload 9) 2 183 := ⟨by decide +kernel, rfl⟩
theorem dX6_copy_183 : Dk kX6_copy 183 (.iadd) 1 184 := ⟨by decide +kernel, rfl⟩
theorem dX6_copy_184 : Dk kX6_copy 184 (.aload_n 0) 1 185 := ⟨by decide +kernel, rfl⟩
theorem dX6_copy_185 : Dk kX6_copy 185 (.getfield 43) 3 188 := ⟨by decide +kernel, rfl⟩
theorem dX6_copy_188 : Dk kX6_copy 188 (.iload 6) 2 190 := ⟨by decide +kernel, rfl⟩
theorem dX6_copy_190 : Dk kX6_copy 190 (.iload 9) 2 192 := ⟨by decide +kernel, rfl⟩
theorem dX6_copy_192 : Dk kX6_copy 192 (.iadd) 1 193 := ⟨by decide +kernel, rfl⟩
theorem dX6_copy_193 : Dk kX6_copy 193 (.iaload) 1 194 := ⟨by decide +kernel, rfl⟩
theorem dX6_copy_194 : Dk kX6_copy 194 (.iastore) 1 195 := ⟨by decide +kernel, rfl⟩
theorem dX6_copy_195 : Dk kX6_copy 195 (.iinc 8 1) 3 198 := ⟨by decide +kernel, rfl⟩
theorem dX6_copy_198 : Dj kX6_copy 198 (fun o => .goto o) 3 201 147 := ⟨-51, by decide +kernel, rfl, by decide⟩
theorem dX6_copy_201 : Dk kX6_copy 201 (.iload 5) 2 203 := ⟨by decide +kernel, rfl⟩
theorem dX6_copy_203 : Dk kX6_copy 203 (.ireturn) 1 204 := ⟨by decide +kernel, rfl⟩
theorem dX6_peopleBy_0 : Dk kX6_peopleBy 0 (.iload_n 1) 1 1 := ⟨by decide +kernel, rfl⟩
theorem dX6_peopleBy_1 : Dk kX6_peopleBy 1 (.iconst 0) 1 2 := ⟨by decide +kernel, rfl⟩
theorem dX6_peopleBy_2 : Dk kX6_peopleBy 2 (.iconst 3) 1 3 := ⟨by decide +kernel, rfl⟩
theorem dX6_peopleBy_3 : Dk kX6_peopleBy 3 (.invokestatic 75) 3 6 := ⟨by decide +kernel, rfl⟩
theorem dX6_peopleBy_6 : Dj kX6_peopleBy 6 (fun o => .ifCond .eq o) 3 9 29 := ⟨23, by decide +kernel, rfl, by decide⟩
theorem dX6_peopleBy_9 : Dk kX6_peopleBy 9 (.iload_n 2) 1 10 := ⟨by decide +kernel, rfl⟩
theorem dX6_peopleBy_10 : Dk kX6_peopleBy 10 (.iconst 0) 1 11 := ⟨by decide +kernel, rfl⟩
theorem dX6_peopleBy_11 : Dk kX6_peopleBy 11 (.iconst 2) 1 12 := ⟨by decide +kernel, rfl⟩
theorem dX6_peopleBy_12 : Dk kX6_peopleBy 12 (.invokestatic 75) 3 15 := ⟨by decide +kernel, rfl⟩
theorem dX6_peopleBy_15 : Dj kX6_peopleBy 15 (fun o => .ifCond .eq o) 3 18 29 := ⟨14, by decide +kernel, rfl, by decide⟩
theorem dX6_peopleBy_18 : Dk kX6_peopleBy 18 (.iload 4) 2 20 := ⟨by decide +kernel, rfl⟩
theorem dX6_peopleBy_20 : Dk kX6_peopleBy 20 (.iconst 0) 1 21 := ⟨by decide +kernel, rfl⟩
theorem dX6_peopleBy_21 : Dk kX6_peopleBy 21 (.bipush 6) 2 23 := ⟨by decide +kernel, rfl⟩
theorem dX6_peopleBy_23 : Dk kX6_peopleBy 23 (.invokestatic 75) 3 26 := ⟨by decide +kernel, rfl⟩
theorem dX6_peopleBy_26 : Dj kX6_peopleBy 26 (fun o => .ifCond .ne o) 3 29 32 := ⟨6, by decide +kernel, rfl, by decide⟩
theorem dX6_peopleBy_29 : Dk kX6_peopleBy 29 (.bipush (-2)) 2 31 := ⟨by decide +kernel, rfl⟩
theorem dX6_peopleBy_31 : Dk kX6_peopleBy 31 (.ireturn) 1 32 := ⟨by decide +kernel, rfl⟩
theorem dX6_peopleBy_32 : Dk kX6_peopleBy 32 (.aload_n 0) 1 33 := ⟨by decide +kernel, rfl⟩
theorem dX6_peopleBy_33 : Dk kX6_peopleBy 33 (.getfield 37) 3 36 := ⟨by decide +kernel, rfl⟩
theorem dX6_peopleBy_36 : Dk kX6_peopleBy 36 (.iload_n 1) 1 37 := ⟨by decide +kernel, rfl⟩
theorem dX6_peopleBy_37 : Dk kX6_peopleBy 37 (.iaload) 1 38 := ⟨by decide +kernel, rfl⟩
theorem dX6_peopleBy_38 : Dk kX6_peopleBy 38 (.iconst (-1)) 1 39 := ⟨by decide +kernel, rfl⟩
theorem dX6_peopleBy_39 : Dj kX6_peopleBy 39 (fun o => .if_icmp .ne o) 3 42 45 := ⟨6, by decide +kernel, rfl, by decide⟩
theorem dX6_peopleBy_42 : Dk kX6_peopleBy 42 (.bipush (-11)) 2 44 := ⟨by decide +kernel, rfl⟩
theorem dX6_peopleBy_44 : Dk kX6_peopleBy 44 (.ireturn) 1 45 := ⟨by decide +kernel, rfl⟩
theorem dX6_peopleBy_45 : Dk kX6_peopleBy 45 (.aload_n 0) 1 46 := ⟨by decide +kernel, rfl⟩
theorem dX6_peopleBy_46 : Dk kX6_peopleBy 46 (.getfield 37) 3 49 := ⟨by decide +kernel, rfl⟩
theorem dX6_peopleBy_49 : Dk kX6_peopleBy 49 (.iload_n 1) 1 50 := ⟨by decide +kernel, rfl⟩
theorem dX6_peopleBy_50 : Dk kX6_peopleBy 50 (.iaload) 1 51 := ⟨by decide +kernel, rfl⟩
theorem dX6_peopleBy_51 : Dk kX6_peopleBy 51 (.iload_n 2) 1 52 := ⟨by decide +kernel, rfl⟩
theorem dX6_peopleBy_52 : Dj kX6_peopleBy 52 (fun o => .if_icmp .eq o) 3 55 58 := ⟨6, by decide +kernel, rfl, by decide⟩
theorem dX6_peopleBy_55 : Dk kX6_peopleBy 55 (.bipush (-13)) 2 57 := ⟨by decide +kernel, rfl⟩
theorem dX6_peopleBy_57 : Dk kX6_peopleBy 57 (.ireturn) 1 58 := ⟨by decide +kernel, rfl⟩
theorem dX6_peopleBy_58 : Dk kX6_peopleBy 58 (.iconst 0) 1 59 := ⟨by decide +kernel, rfl⟩
theorem dX6_peopleBy_59 : Dk kX6_peopleBy 59 (.istore 5) 2 61 := ⟨by decide +kernel, rfl⟩
theorem dX6_peopleBy_61 : Dk kX6_peopleBy 61 (.iconst 0) 1 62 := ⟨by decide +kernel, rfl⟩
theorem dX6_peopleBy_62 : Dk kX6_peopleBy 62 (.istore 6) 2 64 := ⟨by decide +kernel, rfl⟩
theorem dX6_peopleBy_64 : Dk kX6_peopleBy 64 (.iload 6) 2 66 := ⟨by decide +kernel, rfl⟩
theorem dX6_peopleBy_66 : Dk kX6_peopleBy 66 (.iload 4) 2 68 := ⟨by decide +kernel, rfl⟩
theorem dX6_peopleBy_68 : Dj kX6_peopleBy 68 (fun o => .if_icmp .ge o) 3 71 153 := ⟨85, by decide +kernel, rfl, by decide⟩
theorem dX6_peopleBy_71 : Dk kX6_peopleBy 71 (.iload_n 3) 1 72 := ⟨by decide +kernel, rfl⟩
theorem dX6_peopleBy_72 : Dk kX6_peopleBy 72 (.iconst 2) 1 73 := ⟨by decide +kernel, rfl⟩
theorem dX6_peopleBy_73 : Dk kX6_peopleBy 73 (.iload 6) 2 75 := ⟨by decide +kernel, rfl⟩
theorem dX6_peopleBy_75 : Dk kX6_peopleBy 75 (.imul) 1 76 := ⟨by decide +kernel, rfl⟩
theorem dX6_peopleBy_76 : Dk kX6_peopleBy 76 (.iadd) 1 77 := ⟨by decide +kernel, rfl⟩
theorem dX6_peopleBy_77 : Dk kX6_peopleBy 77 (.istore 7) 2 79 := ⟨by decide +kernel, rfl⟩
theorem dX6_peopleBy_79 : Dk kX6_peopleBy 79 (.iload_n 3) 1 80 := ⟨by decide +kernel, rfl⟩
theorem dX6_peopleBy_80 : Dj kX6_peopleBy 80 (fun o => .ifCond .lt o) 3 83 102 := ⟨22, by decide +kernel, rfl, by decide⟩
theorem dX6_peopleBy_83 : Dk kX6_peopleBy 83 (.iload 7) 2 85 := ⟨by decide +kernel, rfl⟩
theorem dX6_peopleBy_85 : Dk kX6_peopleBy 85 (.iload_n 3) 1 86 := ⟨by decide +kernel, rfl⟩
theorem dX6_peopleBy_86 : Dj kX6_peopleBy 86 (fun o => .if_icmp .lt o) 3 89 102 := ⟨16, by decide +kernel, rfl, by decide⟩
theorem dX6_peopleBy_89 : Dk kX6_peopleBy 89 (.iload 7) 2 91 := ⟨by decide +kernel, rfl⟩
theorem dX6_peopleBy_91 : Dk kX6_peopleBy 91 (.aload_n 0) 1 92 := ⟨by decide +kernel, rfl⟩
theorem dX6_peopleBy_92 : Dk kX6_peopleBy 92 (.getfield 40) 3 95 := ⟨by decide +kernel, rfl⟩
theorem dX6_peopleBy_95 : Dk kX6_peopleBy 95 (.iload_n 1) 1 96 := ⟨by decide +kernel, rfl⟩
theorem dX6_peopleBy_96 : Dk kX6_peopleBy 96 (.iaload) 1 97 := ⟨by decide +kernel, rfl⟩
theorem dX6_peopleBy_97 : Dk kX6_peopleBy 97 (.iconst 2) 1 98 := ⟨by decide +kernel, rfl⟩
theorem dX6_peopleBy_98 : Dk kX6_peopleBy 98 (.isub) 1 99 := ⟨by decide +kernel, rfl⟩
theorem dX6_peopleBy_99 : Dj kX6_peopleBy 99 (fun o => .if_icmp .le o) 3 102 105 := ⟨6, by decide +kernel, rfl, by decide⟩
theorem dX6_peopleBy_102 : Dk kX6_peopleBy 102 (.bipush (-12)) 2 104 := ⟨by decide +kernel, rfl⟩
theorem dX6_peopleBy_104 : Dk kX6_peopleBy 104 (.ireturn) 1 105 := ⟨by decide +kernel, rfl⟩
theorem dX6_peopleBy_105 : Dk kX6_peopleBy 105 (.bipush 40) 2 107 := ⟨by decide +kernel, rfl⟩
theorem dX6_peopleBy_107 : Dk kX6_peopleBy 107 (.iload_n 1) 1 108 := ⟨by decide +kernel, rfl⟩
theorem dX6_peopleBy_108 : Dk kX6_peopleBy 108 (.imul) 1 109 := ⟨by decide +kernel, rfl⟩
theorem dX6_peopleBy_109 : Dk kX6_peopleBy 109 (.iload 7) 2 111 := ⟨by decide +kernel, rfl⟩
theorem dX6_peopleBy_111 : Dk kX6_peopleBy 111 (.iadd) 1 112 := ⟨by decide +kernel, rfl⟩
theorem dX6_peopleBy_112 : Dk kX6_peopleBy 112 (.istore 8) 2 114 := ⟨by decide +kernel, rfl⟩
theorem dX6_peopleBy_114 : Dk kX6_peopleBy 114 (.iload 5) 2 116 := ⟨by decide +kernel, rfl⟩
theorem dX6_peopleBy_116 : Dk kX6_peopleBy 116 (.aload_n 0) 1 117 := ⟨by decide +kernel, rfl⟩
theorem dX6_peopleBy_117 : Dk kX6_peopleBy 117 (.aload_n 0) 1 118 := ⟨by decide +kernel, rfl⟩
theorem dX6_peopleBy_118 : Dk kX6_peopleBy 118 (.getfield 43) 3 121 := ⟨by decide +kernel, rfl⟩
theorem dX6_peopleBy_121 : Dk kX6_peopleBy 121 (.iload 8) 2 123 := ⟨by decide +kernel, rfl⟩
theorem dX6_peopleBy_123 : Dk kX6_peopleBy 123 (.iaload) 1 124 := ⟨by decide +kernel, rfl⟩
theorem dX6_peopleBy_124 : Dk kX6_peopleBy 124 (.aload_n 0) 1 125 := ⟨by decide +kernel, rfl⟩
theorem dX6_peopleBy_125 : Dk kX6_peopleBy 125 (.getfield 43) 3 128 := ⟨by decide +kernel, rfl⟩
theorem dX6_peopleBy_128 : Dk kX6_peopleBy 128 (.iload 8) 2 130 := ⟨by decide +kernel, rfl⟩
theorem dX6_peopleBy_130 : Dk kX6_peopleBy 130 (.iconst 1) 1 131 := ⟨by decide +kernel, rfl⟩
theorem dX6_peopleBy_131 : Dk kX6_peopleBy 131 (.iadd) 1 132 := ⟨by decide +kernel, rfl⟩
theorem dX6_peopleBy_132 : Dk kX6_peopleBy 132 (.iaload) 1 133 := ⟨by decide +kernel, rfl⟩
theorem dX6_peopleBy_133 : Dk kX6_peopleBy 133 (.invokevirtual 248) 3 136 := ⟨by decide +kernel, rfl⟩
theorem dX6_peopleBy_136 : Dj kX6_peopleBy 136 (fun o => .ifCond .lt o) 3 139 143 := ⟨7, by decide +kernel, rfl, by decide⟩
theorem dX6_peopleBy_139 : Dk kX6_peopleBy 139 (.iconst 1) 1 140 := ⟨by decide +kernel, rfl⟩
theorem dX6_peopleBy_140 : Dj kX6_peopleBy 140 (fun o => .goto o) 3 143 144 := ⟨4, by decide +kernel, rfl, by decide⟩
theorem dX6_peopleBy_143 : Dk kX6_peopleBy 143 (.iconst 0) 1 144 := ⟨by decide +kernel, rfl⟩
theorem dX6_peopleBy_144 : Dk kX6_peopleBy 144 (.iadd) 1 145 := ⟨by decide +kernel, rfl⟩
theorem dX6_peopleBy_145 : Dk kX6_peopleBy 145 (.istore 5) 2 147 := ⟨by decide +kernel, rfl⟩
theorem dX6_peopleBy_147 : Dk kX6_peopleBy 147 (.iinc 6 1) 3 150 := ⟨by decide +kernel, rfl⟩
theorem dX6_peopleBy_150 : Dj kX6_peopleBy 150 (fun o => .goto o) 3 153 64 := ⟨-86, by decide +kernel, rfl, by decide⟩
theorem dX6_peopleBy_153 : Dk kX6_peopleBy 153 (.iload 5) 2 155 := ⟨by decide +kernel, rfl⟩
theorem dX6_peopleBy_155 : Dk kX6_peopleBy 155 (.ireturn) 1 156 := ⟨by decide +kernel, rfl⟩
theorem dX6_isUnder_0 : Dk kX6_isUnder 0 (.iload_n 1) 1 1 := ⟨by decide +kernel, rfl⟩
theorem dX6_isUnder_1 : Dj kX6_isUnder 1 (fun o => .ifCond .eq o) 3 4 29 := ⟨28, by decide +kernel, rfl, by decide⟩
theorem dX6_isUnder_4 : Dk kX6_isUnder 4 (.iload_n 0) 1 5 := ⟨by decide +kernel, rfl⟩
theorem dX6_isUnder_5 : Dk kX6_isUnder 5 (.iload_n 1) 1 6 := ⟨by decide +kernel, rfl⟩
theorem dX6_isUnder_6 : Dj kX6_isUnder 6 (fun o => .if_icmp .eq o) 3 9 29 := ⟨23, by decide +kernel, rfl, by decide⟩
theorem dX6_isUnder_9 : Dk kX6_isUnder 9 (.iload_n 1) 1 10 := ⟨by decide +kernel, rfl⟩
theorem dX6_isUnder_10 : Dk kX6_isUnder 10 (.iconst 1) 1 11 := ⟨by decide +kernel, rfl⟩
theorem dX6_isUnder_11 : Dj kX6_isUnder 11 (fun o => .if_icmp .ne o) 3 14 19 := ⟨8, by decide +kernel, rfl, by decide⟩
theorem dX6_isUnder_14 : Dk kX6_isUnder 14 (.iload_n 0) 1 15 := ⟨by decide +kernel, rfl⟩
theorem dX6_isUnder_15 : Dk kX6_isUnder 15 (.iconst 3) 1 16 := ⟨by decide +kernel, rfl⟩
theorem dX6_isUnder_16 : Dj kX6_isUnder 16 (fun o => .if_icmp .eq o) 3 19 29 := ⟨13, by decide +kernel, rfl, by decide⟩
theorem dX6_isUnder_19 : Dk kX6_isUnder 19 (.iload_n 1) 1 20 := ⟨by decide +kernel, rfl⟩
theorem dX6_isUnder_20 : Dk kX6_isUnder 20 (.iconst 2) 1 21 := ⟨by decide +kernel, rfl⟩
theorem dX6_isUnder_21 : Dj kX6_isUnder 21 (fun o => .if_icmp .ne o) 3 24 33 := ⟨12, by decide +kernel, rfl, by decide⟩
theorem dX6_isUnder_24 : Dk kX6_isUnder 24 (.iload_n 0) 1 25 := ⟨by decide +kernel, rfl⟩
theorem dX6_isUnder_25 : Dk kX6_isUnder 25 (.iconst 4) 1 26 := ⟨by decide +kernel, rfl⟩
theorem dX6_isUnder_26 : Dj kX6_isUnder 26 (fun o => .if_icmp .ne o) 3 29 33 := ⟨7, by decide +kernel, rfl, by decide⟩
theorem dX6_isUnder_29 : Dk kX6_isUnder 29 (.iconst 1) 1 30 := ⟨by decide +kernel, rfl⟩
theorem dX6_isUnder_30 : Dj kX6_isUnder 30 (fun o => .goto o) 3 33 34 := ⟨4, by decide +kernel, rfl, by decide⟩
theorem dX6_isUnder_33 : Dk kX6_isUnder 33 (.iconst 0) 1 34 := ⟨by decide +kernel, rfl⟩
theorem dX6_isUnder_34 : Dk kX6_isUnder 34 (.ireturn) 1 35 := ⟨by decide +kernel, rfl⟩
theorem dX6_taken_0 : Dk kX6_taken 0 (.iload_n 2) 1 1 := ⟨by decide +kernel, rfl⟩
theorem dX6_taken_1 : Dk kX6_taken 1 (.iconst 0) 1 2 := ⟨by decide +kernel, rfl⟩
theorem dX6_taken_2 : Dk kX6_taken 2 (.bipush 6) 2 4 := ⟨by decide +kernel, rfl⟩
theorem dX6_taken_4 : Dk kX6_taken 4 (.invokestatic 75) 3 7 := ⟨by decide +kernel, rfl⟩
theorem dX6_taken_7 : Dj kX6_taken 7 (fun o => .ifCond .ne o) 3 10 13 := ⟨6, by decide +kernel, rfl, by decide⟩
theorem dX6_taken_10 : Dk kX6_taken 10 (.bipush (-2)) 2 12 := ⟨by decide +kernel, rfl⟩
theorem dX6_taken_12 : Dk kX6_taken 12 (.ireturn) 1 13 := ⟨by decide +kernel, rfl⟩
theorem dX6_taken_13 : Dk kX6_taken 13 (.iload_n 1) 1 14 := ⟨by decide +kernel, rfl⟩
theorem dX6_taken_14 : Dk kX6_taken 14 (.iconst 0) 1 15 := ⟨by decide +kernel, rfl⟩
theorem dX6_taken_15 : Dk kX6_taken 15 (.bipush 13) 2 17 := ⟨by decide +kernel, rfl⟩
theorem dX6_taken_17 : Dk kX6_taken 17 (.invokestatic 75) 3 20 := ⟨by decide +kernel, rfl⟩
theorem dX6_taken_20 : Dj kX6_taken 20 (fun o => .ifCond .ne o) 3 23 26 := ⟨6, by decide +kernel, rfl, by decide⟩
theorem dX6_taken_23 : Dk kX6_taken 23 (.bipush (-12)) 2 25 := ⟨by decide +kernel, rfl⟩
theorem dX6_taken_25 : Dk kX6_taken 25 (.ireturn) 1 26 := ⟨by decide +kernel, rfl⟩
theorem dX6_taken_26 : Dk kX6_taken 26 (.iload_n 1) 1 27 := ⟨by decide +kernel, rfl⟩
theorem dX6_taken_27 : Dk kX6_taken 27 (.bipush 6) 2 29 := ⟨by decide +kernel, rfl⟩
theorem dX6_taken_29 : Dj kX6_taken 29 (fun o => .if_icmp .lt o) 3 32 55 := ⟨26, by decide +kernel, rfl, by decide⟩
theorem dX6_taken_32 : Dk kX6_taken 32 (.iload_n 2) 1 33 := ⟨by decide +kernel, rfl⟩
theorem dX6_taken_33 : Dk kX6_taken 33 (.bipush 6) 2 35 := ⟨by decide +kernel, rfl⟩
theorem dX6_taken_35 : Dj kX6_taken 35 (fun o => .if_icmp .ne o) 3 38 52 := ⟨17, by decide +kernel, rfl, by decide⟩
theorem dX6_taken_38 : Dk kX6_taken 38 (.aload_n 0) 1 39 := ⟨by decide +kernel, rfl⟩
theorem dX6_taken_39 : Dk kX6_taken 39 (.getfield 19) 3 42 := ⟨by decide +kernel, rfl⟩
theorem dX6_taken_42 : Dk kX6_taken 42 (.iconst 3) 1 43 := ⟨by decide +kernel, rfl⟩
theorem dX6_taken_43 : Dk kX6_taken 43 (.iload_n 1) 1 44 := ⟨by decide +kernel, rfl⟩
theorem dX6_taken_44 : Dk kX6_taken 44 (.bipush 6) 2 46 := ⟨by decide +kernel, rfl⟩
theorem dX6_taken_46 : Dk kX6_taken 46 (.isub) 1 47 := ⟨by decide +kernel, rfl⟩
theorem dX6_taken_47 : Dk kX6_taken 47 (.imul) 1 48 := ⟨by decide +kernel, rfl⟩
theorem dX6_taken_48 : Dk kX6_taken 48 (.iaload) 1 49 := ⟨by decide +kernel, rfl⟩
theorem dX6_taken_49 : Dj kX6_taken 49 (fun o => .goto o) 3 52 54 := ⟨5, by decide +kernel, rfl, by decide⟩
theorem dX6_taken_52 : Dk kX6_taken 52 (.bipush (-13)) 2 54 := ⟨by decide +kernel, rfl⟩
theorem dX6_taken_54 : Dk kX6_taken 54 (.ireturn) 1 55 := ⟨by decide +kernel, rfl⟩
theorem dX6_taken_55 : Dk kX6_taken 55 (.iload_n 1) 1 56 := ⟨by decide +kernel, rfl⟩
theorem dX6_taken_56 : Dk kX6_taken 56 (.aload_n 0) 1 57 := ⟨by decide +kernel, rfl⟩
theorem dX6_taken_57 : Dk kX6_taken 57 (.getfield 72) 3 60 := ⟨by decide +kernel, rfl⟩
theorem dX6_taken_60 : Dj kX6_taken 60 (fun o => .if_icmp .lt o) 3 63 68 := ⟨8, by decide +kernel, rfl, by decide⟩
theorem dX6_taken_63 : Dk kX6_taken 63 (.bipush (-11)) 2 65 := ⟨by decide +kernel, rfl⟩
theorem dX6_taken_65 : Dj kX6_taken 65 (fun o => .goto o) 3 68 93 := ⟨28, by decide +kernel, rfl, by decide⟩
theorem dX6_taken_68 : Dk kX6_taken 68 (.iload_n 2) 1 69 := ⟨by decide +kernel, rfl⟩
theorem dX6_taken_69 : Dk kX6_taken 69 (.bipush 6) 2 71 := ⟨by decide +kernel, rfl⟩
theorem dX6_taken_71 : Dj kX6_taken 71 (fun o => .if_icmp .ge o) 3 74 91 := ⟨20, by decide +kernel, rfl, by decide⟩
theorem dX6_taken_74 : Dk kX6_taken 74 (.aload_n 0) 1 75 := ⟨by decide +kernel, rfl⟩
theorem dX6_taken_75 : Dk kX6_taken 75 (.getfield 7) 3 78 := ⟨by decide +kernel, rfl⟩
theorem dX6_taken_78 : Dk kX6_taken 78 (.iload_n 1) 1 79 := ⟨by decide +kernel, rfl⟩
theorem dX6_taken_79 : Dk kX6_taken 79 (.iaload) 1 80 := ⟨by decide +kernel, rfl⟩
theorem dX6_taken_80 : Dk kX6_taken 80 (.iload_n 2) 1 81 := ⟨by decide +kernel, rfl⟩
theorem dX6_taken_81 : Dk kX6_taken 81 (.invokestatic 251) 3 84 := ⟨by decide +kernel, rfl⟩
theorem dX6_taken_84 : Dj kX6_taken 84 (fun o => .ifCond .eq o) 3 87 91 := ⟨7, by decide +kernel, rfl, by decide⟩
theorem dX6_taken_87 : Dk kX6_taken 87 (.iload_n 1) 1 88 := ⟨by decide +kernel, rfl⟩
theorem dX6_taken_88 : Dj kX6_taken 88 (fun o => .goto o) 3 91 93 := ⟨5, by decide +kernel, rfl, by decide⟩
theorem dX6_taken_91 : Dk kX6_taken 91 (.bipush (-13)) 2 93 := ⟨by decide +kernel, rfl⟩
theorem dX6_taken_93 : Dk kX6_taken 93 (.ireturn) 1 94 := ⟨by decide +kernel, rfl⟩
